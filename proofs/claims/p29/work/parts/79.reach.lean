/-! The places that are reached. -/
/-- a set of places as a number -/
noncomputable def cb_1 (P : Prop) (v : Int) : Int := @ite _ P (Classical.propDecidable _) v 0
noncomputable def cb_S (P : Int → Prop) : Int := cb_1 (P 0) 1 + cb_1 (P 1) 2 + cb_1 (P 2) 4 + cb_1 (P 3) 8 + cb_1 (P 4) 16
theorem cb_t {P : Prop} {v : Int} (h : P) : cb_1 P v = v := if_pos h
theorem cb_f {P : Prop} {v : Int} (h : ¬ P) : cb_1 P v = 0 := if_neg h
theorem cb_cg {P Q : Int → Prop} (h : ∀ p, 0 ≤ p → p < 5 → (P p ↔ Q p)) : cb_S P = cb_S Q := by
  unfold cb_S
  rw [propext (h 0 (by omega) (by omega)), propext (h 1 (by omega) (by omega)), propext (h 2 (by omega) (by omega)), propext (h 3 (by omega) (by omega)), propext (h 4 (by omega) (by omega))]
theorem cb_01 (P : Prop) (v : Int) : (P ∧ cb_1 P v = v) ∨ (¬ P ∧ cb_1 P v = 0) := by
  by_cases h : P
  · exact Or.inl ⟨h, cb_t h⟩
  · exact Or.inr ⟨h, cb_f h⟩
theorem cb_bits : ∀ (a b c d e : Bool) (q : Fin 5), Int32.ofInt ((if a then 1 else 0) + (if b then 2 else 0) + (if c then 4 else 0) + (if d then 8 else 0) + (if e then 16 else 0)) ||| (Int32.ofInt 1 <<< (Int32.ofInt (q.val : Int) &&& 31)) = Int32.ofInt ((if a || q.val = 0 then 1 else 0) + (if b || q.val = 1 then 2 else 0) + (if c || q.val = 2 then 4 else 0) + (if d || q.val = 3 then 8 else 0) + (if e || q.val = 4 then 16 else 0)) := by decide
theorem cb_or {P : Int → Prop} {q : Int} (h0 : 0 ≤ q) (h1 : q < 5) : Int32.ofInt (cb_S P) ||| (Int32.ofInt 1 <<< (Int32.ofInt q &&& 31)) = Int32.ofInt (cb_S (fun p => P p ∨ p = q)) := by
  have k : ∀ (R : Prop) (v : Int), ∃ b : Bool, (b = true ↔ R) ∧ cb_1 R v = if b then v else 0 := fun R v => by
    by_cases h : R
    · exact ⟨true, by simp [h], by rw [cb_t h]; rfl⟩
    · exact ⟨false, by simp [h], by rw [cb_f h]; rfl⟩
  obtain ⟨a, a1, a2⟩ := k (P 0) 1
  obtain ⟨b, b1, b2⟩ := k (P 1) 2
  obtain ⟨c, c1, c2⟩ := k (P 2) 4
  obtain ⟨d, d1, d2⟩ := k (P 3) 8
  obtain ⟨e, e1, e2⟩ := k (P 4) 16
  have m : ∀ (R : Prop) (x : Bool) (v j : Int) (jn : Nat), (x = true ↔ R) → (j = q ↔ q.toNat = jn) → cb_1 (R ∨ j = q) v = if x || q.toNat = jn then v else 0 := by
    intro R x v j jn hx hj
    by_cases h : R ∨ j = q
    · rw [cb_t h, if_pos]
      rcases h with h | h
      · simp [hx.mpr h]
      · simp [hj.mp h]
    · rw [cb_f h, if_neg]
      intro hh
      apply h
      simp at hh
      rcases hh with hh | hh
      · exact Or.inl (hx.mp hh)
      · exact Or.inr (hj.mpr hh)
  have z := cb_bits a b c d e ⟨q.toNat, by omega⟩
  rw [show ((⟨q.toNat, by omega⟩ : Fin 5).val : Int) = q by simp; omega] at z
  unfold cb_S
  rw [a2, b2, c2, d2, e2, m (P 0) a 1 0 0 a1 (by omega), m (P 1) b 2 1 1 b1 (by omega), m (P 2) c 4 2 2 c1 (by omega), m (P 3) d 8 3 3 d1 (by omega), m (P 4) e 16 4 4 e1 (by omega)]
  exact z
def cr_P (F : mr_R) (w s p : Int) : Prop := ∃ v, 0 ≤ v ∧ v < s ∧ F v ≠ -1 ∧ v % 15 / 5 = w ∧ v % 15 % 5 = p
section CSB
variable {C : Nat} {V : mr_R} {PR PZ X : Nat → mr_R} {σ : ri_S} {K : Int}
theorem h68 {F : mr_R} {w : Int} (hF : X 8 = F) (hb : ∀ v, 0 ≤ v → v < 1875 → -1 ≤ F v ∧ F v ≤ 1875) (hw : 0 ≤ w ∧ w < 3) : ∀ (n : Nat) (s : Int) (l4 : Option Value), 0 ≤ s → s + n = 1875 → ev 68 (10, [some (.ref (C + 314)), some (.int (Int32.ofInt w)), some (.int (Int32.ofInt (cb_S (cr_P F w s)))), some (.int (Int32.ofInt s)), l4], []) (cs C V PR PZ X σ) = some (some (.int (Int32.ofInt (cb_S (cr_P F w 1875)))), cs C V PR PZ X σ) := by
  intro n
  induction n with
  | zero =>
    intro s l4 h5 h6
    obtain rfl : s = 1875 := by omega
    rw [H_68_10]
    simp (disch := omega) only [Int.reduceAdd, Int.reduceMul, Int.reduceSub, Int.reduceNeg, na_add, na_sub, na_mul, na_neg, na_lt, na_le, na_eq, na_ofNat, bo_some, tl_some, tl_none, rc_int, rc_ref, rc_null, rc_none, rc_long, tb_0, tb_1, ↓mr_g0, mr_r0, mr_get, mr_upd, mr_at, mr_wr, Classical.not_not, not_true_eq_false, not_false_eq_true, na_l0, na_l1, na_l2, na_l3, na_l4, na_l5, na_l6, na_l7, na_l8, na_l9, na_l10, na_l14, na_l15, na_l16, na_l25, na_l30, na_l31, na_l32, na_l33, na_l39, na_l43, na_l45, na_l48, na_l49, na_l50, na_l51, na_l52, na_l53, na_l55, na_l56, na_l57, na_l60, na_l64, na_l71, na_l80, na_l96, na_l100, na_l101, na_l102, na_l103, na_l104, na_l105, na_l106, na_l107, na_l108, na_l109, na_l110, na_l111, na_l112, na_l113, na_l114, na_l115, na_l116, na_l117, na_l118, na_l119, na_l120, na_l121, na_l125, na_l128, na_l150, na_l192, na_l255, na_l999, na_l1000, na_l1248, na_l1344, na_l1875, na_l10000, ↓reduceIte, pf_and, pe_le, pf_le, pe_lt, pf_lt, pe_eq, pf_eq, true_and, and_true, false_and, and_false, true_or, or_true, false_or, or_false, I_68]
  | succ n ih =>
    intro s l4 h5 h6
    have hbs := hb s h5 (by omega)
    have ihh := ih (s + 1) (some (.int (Int32.ofInt (s % 15)))) (by omega) (by omega)
    have same : ¬ (F s ≠ -1 ∧ s % 15 / 5 = w) → cb_S (cr_P F w (s + 1)) = cb_S (cr_P F w s) := by
      intro hn
      apply cb_cg
      intro p _ _
      constructor
      · rintro ⟨v, a1, a2, a3, a4, a5⟩
        by_cases e : v = s
        · exact absurd ⟨e ▸ a3, e ▸ a4⟩ hn
        · exact ⟨v, a1, by omega, a3, a4, a5⟩
      · rintro ⟨v, a1, a2, a3⟩
        exact ⟨v, a1, by omega, a3⟩
    by_cases q1 : F s = -1
    · rw [same (fun a => a.1 q1)] at ihh
      rw [H_68_10]
      simp (disch := omega) only [Int.reduceAdd, Int.reduceMul, Int.reduceSub, Int.reduceNeg, na_add, na_sub, na_mul, na_neg, na_lt, na_le, na_eq, na_ofNat, bo_some, tl_some, tl_none, rc_int, rc_ref, rc_null, rc_none, rc_long, tb_0, tb_1, ↓mr_g0, mr_r0, mr_get, mr_upd, mr_at, mr_wr, Classical.not_not, not_true_eq_false, not_false_eq_true, na_l0, na_l1, na_l2, na_l3, na_l4, na_l5, na_l6, na_l7, na_l8, na_l9, na_l10, na_l14, na_l15, na_l16, na_l25, na_l30, na_l31, na_l32, na_l33, na_l39, na_l43, na_l45, na_l48, na_l49, na_l50, na_l51, na_l52, na_l53, na_l55, na_l56, na_l57, na_l60, na_l64, na_l71, na_l80, na_l96, na_l100, na_l101, na_l102, na_l103, na_l104, na_l105, na_l106, na_l107, na_l108, na_l109, na_l110, na_l111, na_l112, na_l113, na_l114, na_l115, na_l116, na_l117, na_l118, na_l119, na_l120, na_l121, na_l125, na_l128, na_l150, na_l192, na_l255, na_l999, na_l1000, na_l1248, na_l1344, na_l1875, na_l10000, ↓reduceIte, pf_and, pe_le, pf_le, pe_lt, pf_lt, pe_eq, pf_eq, true_and, and_true, false_and, and_false, true_or, or_true, false_or, or_false, ↓csk_0, ↓cso_0_0, ↓cso_0_1, ↓cso_0_2, ↓cso_0_3, ↓cso_0_4, ↓cso_0_5, ↓csk_1, ↓cso_1_0, ↓cso_1_1, ↓csk_37, ↓cso_37_0, ↓cso_37_1, ↓cso_37_2, ↓csk_277, ↓cso_277_0, ↓cso_277_1, ↓csk_314, ↓cso_314_0, ↓cso_314_1, ↓cso_314_2, ↓cso_314_3, ↓cso_314_4, ↓cso_314_5, ↓cso_314_6, ↓cso_314_7, ↓cso_314_8, ↓cso_314_9, ↓csg_2, ↓csn_2, ↓csg_279, ↓csn_279, ↓csg_315, ↓csn_315, ↓csg_316, ↓csn_316, ↓csg_317, ↓csn_317, ↓csg_318, ↓csn_318, ↓csg_319, ↓csn_319, ↓csg_320, ↓csn_320, ↓csg_321, ↓csn_321, ↓csg_322, ↓csn_322, ↓csg_323, ↓csn_323, ↓csq_38, ↓csm_38, ↓csq_278, ↓csm_278, r140_315, r140_316, r140_317, r140_318, r140_319, r140_320, r140_321, r140_322, r140_323, s140_2, s140_3, s140_4, s140_5, s140_6, s140_7, s140_9, s140_10, s140_12, s140_13, s140_14, ↓spo_1_0, ↓spo_1_1, ↓spo_1_2, ↓spo_1_3, ↓spo_1_4, ↓spo_1_5, ↓spo_1_6, ↓spo_8_0, ↓spo_8_1, ↓spo_8_2, ↓spo_11_0, ↓spo_11_1, ↓spo_11_2, ↓spo_11_3, ↓spo_11_4, ↓spo_11_5, na_div, na_rem, I_68, hF, q1, ihh]
    · by_cases q2 : s % 15 / 5 = w
      · have e : cb_S (cr_P F w (s + 1)) = cb_S (fun p => cr_P F w s p ∨ p = s % 15 % 5) := by
          apply cb_cg
          intro p _ _
          constructor
          · rintro ⟨v, a1, a2, a3, a4, a5⟩
            by_cases e : v = s
            · exact Or.inr (e ▸ a5.symm)
            · exact Or.inl ⟨v, a1, by omega, a3, a4, a5⟩
          · rintro (⟨v, a1, a2, a3⟩ | e)
            · exact ⟨v, a1, by omega, a3⟩
            · exact ⟨s, h5, by omega, q1, q2, e.symm⟩
        rw [e] at ihh
        have ho := cb_or (P := cr_P F w s) (q := s % 15 % 5) (by omega) (by omega)
        rw [H_68_10]
        simp (disch := omega) only [Int.reduceAdd, Int.reduceMul, Int.reduceSub, Int.reduceNeg, na_add, na_sub, na_mul, na_neg, na_lt, na_le, na_eq, na_ofNat, bo_some, tl_some, tl_none, rc_int, rc_ref, rc_null, rc_none, rc_long, tb_0, tb_1, ↓mr_g0, mr_r0, mr_get, mr_upd, mr_at, mr_wr, Classical.not_not, not_true_eq_false, not_false_eq_true, na_l0, na_l1, na_l2, na_l3, na_l4, na_l5, na_l6, na_l7, na_l8, na_l9, na_l10, na_l14, na_l15, na_l16, na_l25, na_l30, na_l31, na_l32, na_l33, na_l39, na_l43, na_l45, na_l48, na_l49, na_l50, na_l51, na_l52, na_l53, na_l55, na_l56, na_l57, na_l60, na_l64, na_l71, na_l80, na_l96, na_l100, na_l101, na_l102, na_l103, na_l104, na_l105, na_l106, na_l107, na_l108, na_l109, na_l110, na_l111, na_l112, na_l113, na_l114, na_l115, na_l116, na_l117, na_l118, na_l119, na_l120, na_l121, na_l125, na_l128, na_l150, na_l192, na_l255, na_l999, na_l1000, na_l1248, na_l1344, na_l1875, na_l10000, ↓reduceIte, pf_and, pe_le, pf_le, pe_lt, pf_lt, pe_eq, pf_eq, true_and, and_true, false_and, and_false, true_or, or_true, false_or, or_false, ↓csk_0, ↓cso_0_0, ↓cso_0_1, ↓cso_0_2, ↓cso_0_3, ↓cso_0_4, ↓cso_0_5, ↓csk_1, ↓cso_1_0, ↓cso_1_1, ↓csk_37, ↓cso_37_0, ↓cso_37_1, ↓cso_37_2, ↓csk_277, ↓cso_277_0, ↓cso_277_1, ↓csk_314, ↓cso_314_0, ↓cso_314_1, ↓cso_314_2, ↓cso_314_3, ↓cso_314_4, ↓cso_314_5, ↓cso_314_6, ↓cso_314_7, ↓cso_314_8, ↓cso_314_9, ↓csg_2, ↓csn_2, ↓csg_279, ↓csn_279, ↓csg_315, ↓csn_315, ↓csg_316, ↓csn_316, ↓csg_317, ↓csn_317, ↓csg_318, ↓csn_318, ↓csg_319, ↓csn_319, ↓csg_320, ↓csn_320, ↓csg_321, ↓csn_321, ↓csg_322, ↓csn_322, ↓csg_323, ↓csn_323, ↓csq_38, ↓csm_38, ↓csq_278, ↓csm_278, r140_315, r140_316, r140_317, r140_318, r140_319, r140_320, r140_321, r140_322, r140_323, s140_2, s140_3, s140_4, s140_5, s140_6, s140_7, s140_9, s140_10, s140_12, s140_13, s140_14, ↓spo_1_0, ↓spo_1_1, ↓spo_1_2, ↓spo_1_3, ↓spo_1_4, ↓spo_1_5, ↓spo_1_6, ↓spo_8_0, ↓spo_8_1, ↓spo_8_2, ↓spo_11_0, ↓spo_11_1, ↓spo_11_2, ↓spo_11_3, ↓spo_11_4, ↓spo_11_5, na_div, na_rem, I_68, hF, q1, q2]
        rw [show s % 15 - w * 5 = s % 15 % 5 by omega, show Int32.ofInt 31 = 31 from rfl, ho]
        exact ihh
      · rw [same (fun a => q2 a.2)] at ihh
        rw [H_68_10]
        simp (disch := omega) only [Int.reduceAdd, Int.reduceMul, Int.reduceSub, Int.reduceNeg, na_add, na_sub, na_mul, na_neg, na_lt, na_le, na_eq, na_ofNat, bo_some, tl_some, tl_none, rc_int, rc_ref, rc_null, rc_none, rc_long, tb_0, tb_1, ↓mr_g0, mr_r0, mr_get, mr_upd, mr_at, mr_wr, Classical.not_not, not_true_eq_false, not_false_eq_true, na_l0, na_l1, na_l2, na_l3, na_l4, na_l5, na_l6, na_l7, na_l8, na_l9, na_l10, na_l14, na_l15, na_l16, na_l25, na_l30, na_l31, na_l32, na_l33, na_l39, na_l43, na_l45, na_l48, na_l49, na_l50, na_l51, na_l52, na_l53, na_l55, na_l56, na_l57, na_l60, na_l64, na_l71, na_l80, na_l96, na_l100, na_l101, na_l102, na_l103, na_l104, na_l105, na_l106, na_l107, na_l108, na_l109, na_l110, na_l111, na_l112, na_l113, na_l114, na_l115, na_l116, na_l117, na_l118, na_l119, na_l120, na_l121, na_l125, na_l128, na_l150, na_l192, na_l255, na_l999, na_l1000, na_l1248, na_l1344, na_l1875, na_l10000, ↓reduceIte, pf_and, pe_le, pf_le, pe_lt, pf_lt, pe_eq, pf_eq, true_and, and_true, false_and, and_false, true_or, or_true, false_or, or_false, ↓csk_0, ↓cso_0_0, ↓cso_0_1, ↓cso_0_2, ↓cso_0_3, ↓cso_0_4, ↓cso_0_5, ↓csk_1, ↓cso_1_0, ↓cso_1_1, ↓csk_37, ↓cso_37_0, ↓cso_37_1, ↓cso_37_2, ↓csk_277, ↓cso_277_0, ↓cso_277_1, ↓csk_314, ↓cso_314_0, ↓cso_314_1, ↓cso_314_2, ↓cso_314_3, ↓cso_314_4, ↓cso_314_5, ↓cso_314_6, ↓cso_314_7, ↓cso_314_8, ↓cso_314_9, ↓csg_2, ↓csn_2, ↓csg_279, ↓csn_279, ↓csg_315, ↓csn_315, ↓csg_316, ↓csn_316, ↓csg_317, ↓csn_317, ↓csg_318, ↓csn_318, ↓csg_319, ↓csn_319, ↓csg_320, ↓csn_320, ↓csg_321, ↓csn_321, ↓csg_322, ↓csn_322, ↓csg_323, ↓csn_323, ↓csq_38, ↓csm_38, ↓csq_278, ↓csm_278, r140_315, r140_316, r140_317, r140_318, r140_319, r140_320, r140_321, r140_322, r140_323, s140_2, s140_3, s140_4, s140_5, s140_6, s140_7, s140_9, s140_10, s140_12, s140_13, s140_14, ↓spo_1_0, ↓spo_1_1, ↓spo_1_2, ↓spo_1_3, ↓spo_1_4, ↓spo_1_5, ↓spo_1_6, ↓spo_8_0, ↓spo_8_1, ↓spo_8_2, ↓spo_11_0, ↓spo_11_1, ↓spo_11_2, ↓spo_11_3, ↓spo_11_4, ↓spo_11_5, na_div, na_rem, I_68, hF, q1, q2, ihh]
theorem sn_D {R : mr_R} (hi : mi K R) {X0 : Nat → mr_R} {f s0 : Int} (hI : sb_I R f X0) (h0 : 0 ≤ s0) (h1 : s0 < 1875) : ∀ n v, bf_D (sn_x X0) (sn_w X0) s0 n v → 0 ≤ v ∧ v < 1875 := by
  intro n
  induction n with
  | zero => intro v h; rw [show v = s0 from h]; omega
  | succ n ih =>
    rintro v ⟨r, k, a1, a2, a3, a4, rfl⟩
    have := ih r a1
    exact sn_bd hi hI this.1 this.2 a2 a3 a4
/-- placesReached -/
theorem c68 {R : mr_R} (hi : mi K R) {X0 : Nat → mr_R} {f s0 w : Int} (hI : sb_I R f X0) (h0 : 0 ≤ s0) (h1 : s0 < 1875) (hV : V 3 = s0) (hw : 0 ≤ w ∧ w < 3) (hX : ∀ j, j ≠ 8 → j ≠ 9 → X j = X0 j) : ∃ X2, (∀ j, j ≠ 8 → j ≠ 9 → X2 j = X0 j) ∧ cal 68 [.ref (C + 314), .int (Int32.ofInt w)] (cs C V PR PZ X σ) = some (some (.int (Int32.ofInt (cb_S (fun p => ∃ n v, bf_D (sn_x X0) (sn_w X0) s0 n v ∧ v % 15 / 5 = w ∧ v % 15 % 5 = p)))), cs C V PR PZ X2 σ) := by
  obtain ⟨r, z, X2, a1, a2, a3, a4, a5, a6⟩ := c67 (C := C) (V := V) (PR := PR) (PZ := PZ) (σ := σ) (goal := -1) hi hI h0 h1 hV (by omega) hX
  refine ⟨X2, a1.1, ?_⟩
  have er : r = -1 := by
    rcases a2 with ⟨e, -⟩ | ⟨-, ⟨s, b1, b2⟩, -⟩
    · exact e
    · have b3 : s % 15 = -1 := b2
      omega
  have hJ := a5 er
  have hG := sn_G hi hI h0 h1
  have hF : X2 8 = z.1 := a1.2.1
  have hle := bf_le hJ (by omega)
  have hb : ∀ v, 0 ≤ v → v < 1875 → -1 ≤ z.1 v ∧ z.1 v ≤ 1875 := by
    intro v b1 b2
    by_cases e : z.1 v = -1
    · omega
    · obtain ⟨j, j1, j2, j3⟩ := hJ.2.2.2.1 v b1 b2 e
      have := hJ.2.2.1 j j1 j2
      rw [j3] at this
      omega
  have h := h68 (C := C) (V := V) (PR := PR) (PZ := PZ) (σ := σ) hF hb hw 1875 0 none (by omega) (by omega)
  have e0 : cb_S (cr_P z.1 w 0) = 0 := by
    unfold cb_S
    have e : ∀ p, ¬ cr_P z.1 w 0 p := by
      rintro p ⟨v, b1, b2, -⟩
      omega
    rw [cb_f (e 0), cb_f (e 1), cb_f (e 2), cb_f (e 3), cb_f (e 4)]
    rfl
  have e1 : cb_S (cr_P z.1 w 1875) = cb_S (fun p => ∃ n v, bf_D (sn_x X0) (sn_w X0) s0 n v ∧ v % 15 / 5 = w ∧ v % 15 % 5 = p) := by
    apply cb_cg
    intro p _ _
    constructor
    · rintro ⟨v, b1, b2, b3, b4⟩
      obtain ⟨n, b5⟩ := (bf_reach hG ⟨h0, h1⟩ hJ b1 b2).mp b3
      exact ⟨n, v, b5, b4⟩
    · rintro ⟨n, v, b1, b2⟩
      have hv := sn_D hi hI h0 h1 n v b1
      exact ⟨v, hv.1, hv.2, (bf_reach hG ⟨h0, h1⟩ hJ hv.1 hv.2).mpr ⟨n, b1⟩, b2⟩
  rw [e0, e1] at h
  rw [er] at a6
  rw [E_68]
  simp (disch := omega) only [Int.reduceAdd, Int.reduceMul, Int.reduceSub, Int.reduceNeg, na_add, na_sub, na_mul, na_neg, na_lt, na_le, na_eq, na_ofNat, bo_some, tl_some, tl_none, rc_int, rc_ref, rc_null, rc_none, rc_long, tb_0, tb_1, ↓mr_g0, mr_r0, mr_get, mr_upd, mr_at, mr_wr, Classical.not_not, not_true_eq_false, not_false_eq_true, na_l0, na_l1, na_l2, na_l3, na_l4, na_l5, na_l6, na_l7, na_l8, na_l9, na_l10, na_l14, na_l15, na_l16, na_l25, na_l30, na_l31, na_l32, na_l33, na_l39, na_l43, na_l45, na_l48, na_l49, na_l50, na_l51, na_l52, na_l53, na_l55, na_l56, na_l57, na_l60, na_l64, na_l71, na_l80, na_l96, na_l100, na_l101, na_l102, na_l103, na_l104, na_l105, na_l106, na_l107, na_l108, na_l109, na_l110, na_l111, na_l112, na_l113, na_l114, na_l115, na_l116, na_l117, na_l118, na_l119, na_l120, na_l121, na_l125, na_l128, na_l150, na_l192, na_l255, na_l999, na_l1000, na_l1248, na_l1344, na_l1875, na_l10000, ↓reduceIte, pf_and, pe_le, pf_le, pe_lt, pf_lt, pe_eq, pf_eq, true_and, and_true, false_and, and_false, true_or, or_true, false_or, or_false, ↓csk_0, ↓cso_0_0, ↓cso_0_1, ↓cso_0_2, ↓cso_0_3, ↓cso_0_4, ↓cso_0_5, ↓csk_1, ↓cso_1_0, ↓cso_1_1, ↓csk_37, ↓cso_37_0, ↓cso_37_1, ↓cso_37_2, ↓csk_277, ↓cso_277_0, ↓cso_277_1, ↓csk_314, ↓cso_314_0, ↓cso_314_1, ↓cso_314_2, ↓cso_314_3, ↓cso_314_4, ↓cso_314_5, ↓cso_314_6, ↓cso_314_7, ↓cso_314_8, ↓cso_314_9, ↓csg_2, ↓csn_2, ↓csg_279, ↓csn_279, ↓csg_315, ↓csn_315, ↓csg_316, ↓csn_316, ↓csg_317, ↓csn_317, ↓csg_318, ↓csn_318, ↓csg_319, ↓csn_319, ↓csg_320, ↓csn_320, ↓csg_321, ↓csn_321, ↓csg_322, ↓csn_322, ↓csg_323, ↓csn_323, ↓csq_38, ↓csm_38, ↓csq_278, ↓csm_278, I_68, a6, h]
end CSB
