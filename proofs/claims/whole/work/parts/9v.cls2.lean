/-! The class reads: a text. -/
def tx_li (c : Int) : Nat := if c = 119 then 0 else if c = 108 then 1 else if c = 102 then 2 else if c = 121 then 2 else if c = 106 then 3 else if c = 104 then 4 else if c = 116 then 5 else 6
def sk_ok (Ks : Nat → Nat) : Prop := ∀ i, i < 7 → sk_i Ks (Ks i) = some i
theorem tx_lb (c : Int) : tx_li c < 7 ∧ sk_b (tx_li c) = (tx_fm c).map Int32.ofInt ∧ ∀ k, k ∈ tx_fm c → (k = 110 ∨ k = 111 ∨ k = 116 ∨ k = 117 ∨ k = 119 ∨ k = 112 ∨ k = 102 ∨ k = 100 ∨ k = 108 ∨ k = 107 ∨ k = 115) := by
  unfold tx_li tx_fm
  split
  · exact ⟨by decide, by decide, by intro k hk; simp at hk; omega⟩
  split
  · exact ⟨by decide, by decide, by intro k hk; simp at hk; omega⟩
  split
  · exact ⟨by decide, by decide, by intro k hk; simp at hk; omega⟩
  split
  · exact ⟨by decide, by decide, by intro k hk; simp at hk; omega⟩
  split
  · exact ⟨by decide, by decide, by intro k hk; simp at hk; omega⟩
  split
  · exact ⟨by decide, by decide, by intro k hk; simp at hk; omega⟩
  split
  · exact ⟨by decide, by decide, by intro k hk; simp at hk; omega⟩
  · exact ⟨by decide, by decide, by intro k hk; simp at hk⟩
section STR
variable {Ks : Nat → Nat} {pc : Nat} {L : ri_L} {st : List Value} {li : Nat} {l0 : List Int}
theorem se_em (hK : sk_ok Ks) (h : li < 7) (hb : sk_b li = l0.map Int32.ofInt) (hf : ri_few st = true) : ri_sem Ks (pc, L, .ref (Ks li) :: st) = some (pc + 3, L, .int (Int32.ofInt (if l0 = [] then 1 else 0)) :: st) := by
  show (if ri_few st = true then (sk_i Ks (Ks li)).bind _ else none) = _
  rw [if_pos hf, hK li h]
  show some (pc + 3, L, Value.int (if (sk_b li).length = 0 then 1 else 0) :: st) = _
  rw [hb, List.length_map]
  cases l0 with
  | nil => rfl
  | cons a l => rfl
theorem se_ln (hK : sk_ok Ks) (h : li < 7) (hb : sk_b li = l0.map Int32.ofInt) (hf : ri_few st = true) : ri_sln Ks (pc, L, .ref (Ks li) :: st) = some (pc + 3, L, .int (Int32.ofInt l0.length) :: st) := by
  show (if ri_few st = true then (sk_i Ks (Ks li)).bind _ else none) = _
  rw [if_pos hf, hK li h]
  show some (pc + 3, L, Value.int (Int32.ofNat (sk_b li).length) :: st) = _
  rw [hb, List.length_map]
  rfl
theorem se_ch {k : Nat} {c : Int} {l : List Int} (hK : sk_ok Ks) (h : li < 7) (hb : sk_b li = l0.map Int32.ofInt) (hd : l0.drop k = c :: l) (hk : k < 100) (hf : ri_few st = true) : ri_sch Ks (pc, L, .int (Int32.ofInt k) :: .ref (Ks li) :: st) = some (pc + 3, L, .int (Int32.ofInt c) :: st) := by
  have hlt : k < l0.length := by
    refine Nat.lt_of_not_le fun a => ?_
    rw [List.drop_eq_nil_of_le a] at hd
    exact absurd hd (by simp)
  have hg : l0[k]? = some c := by
    have := congrArg (fun z => z[0]?) hd
    simp at this
    exact this
  show (if ri_few st = true then (sk_i Ks (Ks li)).bind _ else none) = _
  rw [if_pos hf, hK li h]
  have e1 : (Int32.ofInt (k : Int)).toNatClampNeg = k := by rw [na_nat (by omega) (by omega)]; omega
  have e2 : ¬ Int32.ofInt (k : Int) < 0 := by rw [na_l0, na_lt (by omega) (by omega) (by omega) (by omega)]; omega
  show (if ¬ Int32.ofInt (k : Int) < 0 ∧ (Int32.ofInt (k : Int)).toNatClampNeg < (sk_b li).length then some (pc + 3, L, Value.int ((sk_b li).getD (Int32.ofInt (k : Int)).toNatClampNeg 0) :: st) else none) = _
  rw [e1, hb, List.length_map, if_pos ⟨e2, hlt⟩]
  have e3 : (l0.map Int32.ofInt).getD k 0 = Int32.ofInt c := by
    simp [List.getD, hg]
  rw [e3]
theorem so_bind {α β : Type} {a : α} {f : α → Option β} : (some a).bind f = f a := rfl
end STR
theorem c91 {Ks : Nat → Nat} {σ : ri_S} {x : Int} (h1 : 0 ≤ x) (h2 : x ≤ 255) : cal2 Ks 91 [.int (Int32.ofInt x)] σ = some (some (.ref (Ks (tx_li x))), σ) := by
  rw [F_91]
  obtain ⟨r0, r1, r96, r98, r99, r101, r102, r104, r105, r107, r108, r110, r111, r113, r114, r116, r117, r119⟩ := J_91 (Ks := Ks)
  rw [r0]
  unfold tx_li
  by_cases x1 : x = 119
  · subst x1
    rw [if_pos rfl]
    simp (disch := omega) only [Int.reduceAdd, Int.reduceMul, Int.reduceSub, Int.reduceNeg, na_add, na_sub, na_mul, na_neg, na_lt, na_le, na_eq, na_ofNat, bo_some, tl_some, tl_none, rc_int, rc_ref, rc_null, rc_none, rc_long, tb_0, tb_1, ↓mr_g0, mr_r0, mr_get, mr_upd, mr_at, mr_wr, Classical.not_not, not_true_eq_false, not_false_eq_true, na_l0, na_l1, na_l2, na_l3, na_l4, na_l5, na_l6, na_l7, na_l8, na_l9, na_l10, na_l14, na_l15, na_l16, na_l25, na_l30, na_l31, na_l32, na_l33, na_l39, na_l43, na_l45, na_l48, na_l49, na_l50, na_l51, na_l52, na_l53, na_l55, na_l56, na_l57, na_l60, na_l64, na_l71, na_l80, na_l96, na_l100, na_l101, na_l102, na_l103, na_l104, na_l105, na_l106, na_l107, na_l108, na_l109, na_l110, na_l111, na_l112, na_l113, na_l114, na_l115, na_l116, na_l117, na_l118, na_l119, na_l120, na_l121, na_l125, na_l128, na_l150, na_l192, na_l255, na_l999, na_l1000, na_l1248, na_l1344, na_l1875, na_l10000, ↓reduceIte, pf_and, pe_le, pf_le, pe_lt, pf_lt, pe_eq, pf_eq, true_and, and_true, false_and, and_false, true_or, or_true, false_or, or_false, r1, r96, r98]
  rw [if_neg x1]
  by_cases x2 : x = 108
  · subst x2
    rw [if_pos rfl]
    simp (disch := omega) only [Int.reduceAdd, Int.reduceMul, Int.reduceSub, Int.reduceNeg, na_add, na_sub, na_mul, na_neg, na_lt, na_le, na_eq, na_ofNat, bo_some, tl_some, tl_none, rc_int, rc_ref, rc_null, rc_none, rc_long, tb_0, tb_1, ↓mr_g0, mr_r0, mr_get, mr_upd, mr_at, mr_wr, Classical.not_not, not_true_eq_false, not_false_eq_true, na_l0, na_l1, na_l2, na_l3, na_l4, na_l5, na_l6, na_l7, na_l8, na_l9, na_l10, na_l14, na_l15, na_l16, na_l25, na_l30, na_l31, na_l32, na_l33, na_l39, na_l43, na_l45, na_l48, na_l49, na_l50, na_l51, na_l52, na_l53, na_l55, na_l56, na_l57, na_l60, na_l64, na_l71, na_l80, na_l96, na_l100, na_l101, na_l102, na_l103, na_l104, na_l105, na_l106, na_l107, na_l108, na_l109, na_l110, na_l111, na_l112, na_l113, na_l114, na_l115, na_l116, na_l117, na_l118, na_l119, na_l120, na_l121, na_l125, na_l128, na_l150, na_l192, na_l255, na_l999, na_l1000, na_l1248, na_l1344, na_l1875, na_l10000, ↓reduceIte, pf_and, pe_le, pf_le, pe_lt, pf_lt, pe_eq, pf_eq, true_and, and_true, false_and, and_false, true_or, or_true, false_or, or_false, r1, r99, r101]
  rw [if_neg x2]
  by_cases x3 : x = 102
  · subst x3
    rw [if_pos rfl]
    simp (disch := omega) only [Int.reduceAdd, Int.reduceMul, Int.reduceSub, Int.reduceNeg, na_add, na_sub, na_mul, na_neg, na_lt, na_le, na_eq, na_ofNat, bo_some, tl_some, tl_none, rc_int, rc_ref, rc_null, rc_none, rc_long, tb_0, tb_1, ↓mr_g0, mr_r0, mr_get, mr_upd, mr_at, mr_wr, Classical.not_not, not_true_eq_false, not_false_eq_true, na_l0, na_l1, na_l2, na_l3, na_l4, na_l5, na_l6, na_l7, na_l8, na_l9, na_l10, na_l14, na_l15, na_l16, na_l25, na_l30, na_l31, na_l32, na_l33, na_l39, na_l43, na_l45, na_l48, na_l49, na_l50, na_l51, na_l52, na_l53, na_l55, na_l56, na_l57, na_l60, na_l64, na_l71, na_l80, na_l96, na_l100, na_l101, na_l102, na_l103, na_l104, na_l105, na_l106, na_l107, na_l108, na_l109, na_l110, na_l111, na_l112, na_l113, na_l114, na_l115, na_l116, na_l117, na_l118, na_l119, na_l120, na_l121, na_l125, na_l128, na_l150, na_l192, na_l255, na_l999, na_l1000, na_l1248, na_l1344, na_l1875, na_l10000, ↓reduceIte, pf_and, pe_le, pf_le, pe_lt, pf_lt, pe_eq, pf_eq, true_and, and_true, false_and, and_false, true_or, or_true, false_or, or_false, r1, r102, r104]
  rw [if_neg x3]
  by_cases x4 : x = 121
  · subst x4
    rw [if_pos rfl]
    simp (disch := omega) only [Int.reduceAdd, Int.reduceMul, Int.reduceSub, Int.reduceNeg, na_add, na_sub, na_mul, na_neg, na_lt, na_le, na_eq, na_ofNat, bo_some, tl_some, tl_none, rc_int, rc_ref, rc_null, rc_none, rc_long, tb_0, tb_1, ↓mr_g0, mr_r0, mr_get, mr_upd, mr_at, mr_wr, Classical.not_not, not_true_eq_false, not_false_eq_true, na_l0, na_l1, na_l2, na_l3, na_l4, na_l5, na_l6, na_l7, na_l8, na_l9, na_l10, na_l14, na_l15, na_l16, na_l25, na_l30, na_l31, na_l32, na_l33, na_l39, na_l43, na_l45, na_l48, na_l49, na_l50, na_l51, na_l52, na_l53, na_l55, na_l56, na_l57, na_l60, na_l64, na_l71, na_l80, na_l96, na_l100, na_l101, na_l102, na_l103, na_l104, na_l105, na_l106, na_l107, na_l108, na_l109, na_l110, na_l111, na_l112, na_l113, na_l114, na_l115, na_l116, na_l117, na_l118, na_l119, na_l120, na_l121, na_l125, na_l128, na_l150, na_l192, na_l255, na_l999, na_l1000, na_l1248, na_l1344, na_l1875, na_l10000, ↓reduceIte, pf_and, pe_le, pf_le, pe_lt, pf_lt, pe_eq, pf_eq, true_and, and_true, false_and, and_false, true_or, or_true, false_or, or_false, r1, r105, r107]
  rw [if_neg x4]
  by_cases x5 : x = 106
  · subst x5
    rw [if_pos rfl]
    simp (disch := omega) only [Int.reduceAdd, Int.reduceMul, Int.reduceSub, Int.reduceNeg, na_add, na_sub, na_mul, na_neg, na_lt, na_le, na_eq, na_ofNat, bo_some, tl_some, tl_none, rc_int, rc_ref, rc_null, rc_none, rc_long, tb_0, tb_1, ↓mr_g0, mr_r0, mr_get, mr_upd, mr_at, mr_wr, Classical.not_not, not_true_eq_false, not_false_eq_true, na_l0, na_l1, na_l2, na_l3, na_l4, na_l5, na_l6, na_l7, na_l8, na_l9, na_l10, na_l14, na_l15, na_l16, na_l25, na_l30, na_l31, na_l32, na_l33, na_l39, na_l43, na_l45, na_l48, na_l49, na_l50, na_l51, na_l52, na_l53, na_l55, na_l56, na_l57, na_l60, na_l64, na_l71, na_l80, na_l96, na_l100, na_l101, na_l102, na_l103, na_l104, na_l105, na_l106, na_l107, na_l108, na_l109, na_l110, na_l111, na_l112, na_l113, na_l114, na_l115, na_l116, na_l117, na_l118, na_l119, na_l120, na_l121, na_l125, na_l128, na_l150, na_l192, na_l255, na_l999, na_l1000, na_l1248, na_l1344, na_l1875, na_l10000, ↓reduceIte, pf_and, pe_le, pf_le, pe_lt, pf_lt, pe_eq, pf_eq, true_and, and_true, false_and, and_false, true_or, or_true, false_or, or_false, r1, r108, r110]
  rw [if_neg x5]
  by_cases x6 : x = 104
  · subst x6
    rw [if_pos rfl]
    simp (disch := omega) only [Int.reduceAdd, Int.reduceMul, Int.reduceSub, Int.reduceNeg, na_add, na_sub, na_mul, na_neg, na_lt, na_le, na_eq, na_ofNat, bo_some, tl_some, tl_none, rc_int, rc_ref, rc_null, rc_none, rc_long, tb_0, tb_1, ↓mr_g0, mr_r0, mr_get, mr_upd, mr_at, mr_wr, Classical.not_not, not_true_eq_false, not_false_eq_true, na_l0, na_l1, na_l2, na_l3, na_l4, na_l5, na_l6, na_l7, na_l8, na_l9, na_l10, na_l14, na_l15, na_l16, na_l25, na_l30, na_l31, na_l32, na_l33, na_l39, na_l43, na_l45, na_l48, na_l49, na_l50, na_l51, na_l52, na_l53, na_l55, na_l56, na_l57, na_l60, na_l64, na_l71, na_l80, na_l96, na_l100, na_l101, na_l102, na_l103, na_l104, na_l105, na_l106, na_l107, na_l108, na_l109, na_l110, na_l111, na_l112, na_l113, na_l114, na_l115, na_l116, na_l117, na_l118, na_l119, na_l120, na_l121, na_l125, na_l128, na_l150, na_l192, na_l255, na_l999, na_l1000, na_l1248, na_l1344, na_l1875, na_l10000, ↓reduceIte, pf_and, pe_le, pf_le, pe_lt, pf_lt, pe_eq, pf_eq, true_and, and_true, false_and, and_false, true_or, or_true, false_or, or_false, r1, r111, r113]
  rw [if_neg x6]
  by_cases x7 : x = 116
  · subst x7
    rw [if_pos rfl]
    simp (disch := omega) only [Int.reduceAdd, Int.reduceMul, Int.reduceSub, Int.reduceNeg, na_add, na_sub, na_mul, na_neg, na_lt, na_le, na_eq, na_ofNat, bo_some, tl_some, tl_none, rc_int, rc_ref, rc_null, rc_none, rc_long, tb_0, tb_1, ↓mr_g0, mr_r0, mr_get, mr_upd, mr_at, mr_wr, Classical.not_not, not_true_eq_false, not_false_eq_true, na_l0, na_l1, na_l2, na_l3, na_l4, na_l5, na_l6, na_l7, na_l8, na_l9, na_l10, na_l14, na_l15, na_l16, na_l25, na_l30, na_l31, na_l32, na_l33, na_l39, na_l43, na_l45, na_l48, na_l49, na_l50, na_l51, na_l52, na_l53, na_l55, na_l56, na_l57, na_l60, na_l64, na_l71, na_l80, na_l96, na_l100, na_l101, na_l102, na_l103, na_l104, na_l105, na_l106, na_l107, na_l108, na_l109, na_l110, na_l111, na_l112, na_l113, na_l114, na_l115, na_l116, na_l117, na_l118, na_l119, na_l120, na_l121, na_l125, na_l128, na_l150, na_l192, na_l255, na_l999, na_l1000, na_l1248, na_l1344, na_l1875, na_l10000, ↓reduceIte, pf_and, pe_le, pf_le, pe_lt, pf_lt, pe_eq, pf_eq, true_and, and_true, false_and, and_false, true_or, or_true, false_or, or_false, r1, r114, r116]
  rw [if_neg x7]
  obtain ⟨h102, h104, h106, h108, h116, h119, h121⟩ := sw_102 h1 h2 x1 x2 x3 x4 x5 x6 x7
  have hsw : ev2 Ks 91 (1, [some (.int (Int32.ofInt x))], [.int (Int32.ofInt x)]) σ = ev2 Ks 91 (117, [some (.int (Int32.ofInt x))], []) σ := by
    rw [r1]
    exact (if_neg (of_eq_false h102)).trans (it_s ((if_neg (of_eq_false h104)).trans (it_s ((if_neg (of_eq_false h106)).trans (it_s ((if_neg (of_eq_false h108)).trans (it_s (it_s (it_s (it_s (it_s (it_s (it_s ((if_neg (of_eq_false h116)).trans (it_s (it_s ((if_neg (of_eq_false h119)).trans (it_s ((if_neg (of_eq_false h121)).trans rfl)))))))))))))))))))
  rw [hsw, r117, r119]
