/-! What new histories and slots hold. -/
def rg (RA PB N i : Nat) (f g : Nat → Option ri_El) : Prop := g RA = some (.inr (.inl (N, fun j => if j < i then some (PB + 17 * j) else none))) ∧ (∀ j o, j < i → o < 17 → g (PB + 17 * j + o) = mp_c (PB + 17 * j) m0 m0 o) ∧ ∀ q, ¬ q = RA → ¬ (PB ≤ q ∧ q < PB + 17 * i) → g q = f q
theorem rg_S {RA PB N i s : Nat} {f g : Nat → Option ri_El} {e : ri_El} (h : rg RA PB N i f g) (hR : RA < PB) : rg RA PB N (i + 1) f (ri_upd (mp (PB + 17 * i) m0 m0 (ri_upd g (PB + 17 * i) e, s)).1 RA (.inr (.inl (N, va_up (fun j => if j < i then some (PB + 17 * j) else none) i (some (PB + 17 * i)))))) := by
  obtain ⟨h1, h2, h3⟩ := h
  refine ⟨?_, ?_, ?_⟩
  · rw [ru_eq]
    refine congrArg (fun z => some (Sum.inr (Sum.inl (N, z)))) (funext fun j => ?_)
    unfold va_up
    by_cases q : j = i
    · rw [if_pos q, if_pos (by omega), q]
    · rw [if_neg q]
      show (if j < i then some (PB + 17 * j) else none) = _
      by_cases q2 : j < i
      · rw [if_pos q2, if_pos (by omega)]
      · rw [if_neg q2, if_neg (by omega)]
  · intro j o hj ho
    rw [ru_ne (by omega)]
    by_cases q : j = i
    · subst q
      exact mp_at ho
    · have hj2 : j < i := by omega
      rw [mp_off (by omega)]
      show ri_upd g (PB + 17 * i) e (PB + 17 * j + o) = _
      rw [ru_ne (by omega)]
      exact h2 j o hj2 ho
  · intro q q1 q2
    rw [ru_ne q1, mp_off (by omega)]
    show ri_upd g (PB + 17 * i) e q = _
    rw [ru_ne (by omega)]
    exact h3 q q1 (by omega)
theorem rg_0 {RA PB N : Nat} {f : Nat → Option ri_El} (h : f RA = some (.inr (.inl (N, fun _ => none)))) : rg RA PB N 0 f f := by
  refine ⟨?_, fun j o hj => by omega, fun _ _ _ => rfl⟩
  rw [h]
  refine congrArg (fun z => some (Sum.inr (Sum.inl (N, z)))) (funext fun j => ?_)
  rw [if_neg (by omega)]
section MK
variable {H : Nat} {f : Nat → Option ri_El}
theorem h7 (hf : f H = some (.inr (.inr (1, [.ref (H + 1), .int (Int32.ofInt 0), .int (Int32.ofInt 0)])))) : ∀ (n i : Nat) (g : Nat → Option ri_El), i + n = 14 → rg (H + 1) (H + 2) 14 i f g → ∃ g', rg (H + 1) (H + 2) 14 14 f g' ∧ ev 7 (25, [some (.ref H), some (.int (Int32.ofInt i))], []) (g, H + 2 + 17 * i) = some (none, (g', H + 240)) := by
  intro n
  induction n with
  | zero =>
    intro i g hi hg
    obtain rfl : i = 14 := by omega
    refine ⟨g, hg, ?_⟩
    rw [H_7_25]
    simp (disch := omega) only [Int.reduceAdd, Int.reduceMul, Int.reduceSub, Int.reduceNeg, na_add, na_sub, na_mul, na_neg, na_lt, na_le, na_eq, na_ofNat, bo_some, tl_some, tl_none, rc_int, rc_ref, rc_null, rc_none, rc_long, tb_0, tb_1, ↓mr_g0, mr_r0, mr_get, mr_upd, mr_at, mr_wr, Classical.not_not, not_true_eq_false, not_false_eq_true, na_l0, na_l1, na_l2, na_l3, na_l4, na_l5, na_l6, na_l7, na_l8, na_l9, na_l10, na_l14, na_l15, na_l16, na_l25, na_l30, na_l31, na_l32, na_l33, na_l39, na_l43, na_l45, na_l48, na_l49, na_l50, na_l51, na_l52, na_l53, na_l55, na_l56, na_l57, na_l60, na_l64, na_l71, na_l80, na_l96, na_l100, na_l101, na_l102, na_l103, na_l104, na_l105, na_l106, na_l107, na_l108, na_l109, na_l110, na_l111, na_l112, na_l113, na_l114, na_l115, na_l116, na_l117, na_l118, na_l119, na_l120, na_l121, na_l125, na_l128, na_l150, na_l192, na_l255, na_l999, na_l1000, na_l1248, na_l1344, na_l1875, na_l10000, ↓reduceIte, pf_and, pe_le, pf_le, pe_lt, pf_lt, pe_eq, pf_eq, true_and, and_true, false_and, and_false, true_or, or_true, false_or, or_false, I_7]
  | succ n ih =>
    intro i g hi hg
    have gH : g H = some (.inr (.inr (1, [.ref (H + 1), .int (Int32.ofInt 0), .int (Int32.ofInt 0)]))) := by rw [hg.2.2 H (by omega) (by omega)]; exact hf
    obtain ⟨B, hB⟩ : ∃ B, H + 2 + 17 * i = B := ⟨_, rfl⟩
    have hS := rg_S (s := B + 17) (e := .inr (.inr (3, [.null, .null, .null, .int (Int32.ofInt 0), .int (Int32.ofInt 0), .int (Int32.ofInt 0), .int (Int32.ofInt 0), .int (Int32.ofInt 0), .int (Int32.ofInt 0)]))) hg (by omega)
    have ihh := ih (i + 1) _ (by omega) hS
    rw [hB] at ihh
    obtain ⟨g', a1, a2⟩ := ihh
    refine ⟨g', a1, Eq.trans ?_ a2⟩
    have e20 := c20 (B := B) (f := ri_upd g B (.inr (.inr (3, [.null, .null, .null, .int (Int32.ofInt 0), .int (Int32.ofInt 0), .int (Int32.ofInt 0), .int (Int32.ofInt 0), .int (Int32.ofInt 0), .int (Int32.ofInt 0)])))) ru_eq
    have g1 := hg.1
    rw [hB]
    obtain ⟨P, hP⟩ : ∃ P, mp B m0 m0 (ri_upd g B (.inr (.inr (3, [.null, .null, .null, .int (Int32.ofInt 0), .int (Int32.ofInt 0), .int (Int32.ofInt 0), .int (Int32.ofInt 0), .int (Int32.ofInt 0), .int (Int32.ofInt 0)]))), B + 17) = P := ⟨_, rfl⟩
    have P2 : P.2 = B + 17 := by rw [← hP]; rfl
    have P1 : P.1 (H + 1) = some (.inr (.inl (14, fun j => if j < i then some (H + 2 + 17 * j) else none))) := by
      rw [← hP, mp_off (by omega)]
      show ri_upd g B _ (H + 1) = _
      rw [ru_ne (by omega)]
      exact g1
    have PB : ∃ fs, P.1 B = some (.inr (.inr (3, fs))) := ⟨_, by rw [← hP, ← Nat.add_zero B]; exact mp_at (by decide)⟩
    obtain ⟨fs, PB⟩ := PB
    rw [hP] at e20 ⊢
    have ei : ((i + 1 : Nat) : Int) = (i : Int) + 1 := by omega
    have es : H + 2 + 17 * (i + 1) = B + 17 := by omega
    rw [ei, es]
    generalize hQ : ev 7 (25, [some (.ref H), some (.int (Int32.ofInt ((i : Int) + 1)))], []) (ri_upd P.1 (H + 1) (.inr (.inl (14, va_up (fun j => if j < i then some (H + 2 + 17 * j) else none) i (some B)))), B + 17) = Q
    rw [← P2] at hQ
    rw [H_7_25]
    simp (disch := omega) only [Int.reduceAdd, Int.reduceMul, Int.reduceSub, Int.reduceNeg, na_add, na_sub, na_mul, na_neg, na_lt, na_le, na_eq, na_ofNat, bo_some, tl_some, tl_none, rc_int, rc_ref, rc_null, rc_none, rc_long, tb_0, tb_1, ↓mr_g0, mr_r0, mr_get, mr_upd, mr_at, mr_wr, Classical.not_not, not_true_eq_false, not_false_eq_true, na_l0, na_l1, na_l2, na_l3, na_l4, na_l5, na_l6, na_l7, na_l8, na_l9, na_l10, na_l14, na_l15, na_l16, na_l25, na_l30, na_l31, na_l32, na_l33, na_l39, na_l43, na_l45, na_l48, na_l49, na_l50, na_l51, na_l52, na_l53, na_l55, na_l56, na_l57, na_l60, na_l64, na_l71, na_l80, na_l96, na_l100, na_l101, na_l102, na_l103, na_l104, na_l105, na_l106, na_l107, na_l108, na_l109, na_l110, na_l111, na_l112, na_l113, na_l114, na_l115, na_l116, na_l117, na_l118, na_l119, na_l120, na_l121, na_l125, na_l128, na_l150, na_l192, na_l255, na_l999, na_l1000, na_l1248, na_l1344, na_l1875, na_l10000, ↓reduceIte, pf_and, pe_le, pf_le, pe_lt, pf_lt, pe_eq, pf_eq, true_and, and_true, false_and, and_false, true_or, or_true, false_or, or_false, I_7, gH, tvo_1_0, tv_k0, ru_eq, e20, P1, PB, mr_q0, Int.toNat_natCast, hQ]
theorem c7 (h : f H = some (.inr (.inr (1, [.null, .int (Int32.ofInt 0), .int (Int32.ofInt 0)])))) : ∃ g, cal 7 [.ref H] (f, H + 1) = some (none, (g, H + 240)) ∧ g H = some (.inr (.inr (1, [.ref (H + 1), .int (Int32.ofInt 0), .int (Int32.ofInt 0)]))) ∧ g (H + 1) = some (.inr (.inl (14, fun j => if j < 14 then some (H + 2 + 17 * j) else none))) ∧ (∀ j o, j < 14 → o < 17 → g (H + 2 + 17 * j + o) = mp_c (H + 2 + 17 * j) m0 m0 o) ∧ ∀ q, q < H ∨ H + 240 ≤ q → g q = f q := by
  obtain ⟨f1, hf1⟩ : ∃ f1, ri_upd (ri_upd (ri_upd (ri_upd f (H + 1) (.inr (.inl (14, fun _ => none)))) H (.inr (.inr (1, [.ref (H + 1), .int (Int32.ofInt 0), .int (Int32.ofInt 0)])))) H (.inr (.inr (1, [.ref (H + 1), .int (Int32.ofInt 0), .int (Int32.ofInt 0)])))) H (.inr (.inr (1, [.ref (H + 1), .int (Int32.ofInt 0), .int (Int32.ofInt 0)]))) = f1 := ⟨_, rfl⟩
  have fH : f1 H = some (.inr (.inr (1, [.ref (H + 1), .int (Int32.ofInt 0), .int (Int32.ofInt 0)]))) := by rw [← hf1, ru_eq]
  have fR : f1 (H + 1) = some (.inr (.inl (14, fun _ => none))) := by rw [← hf1, ru_ne (by omega), ru_ne (by omega), ru_ne (by omega), ru_eq]
  obtain ⟨g, g1, g2⟩ := h7 (H := H) (f := f1) fH 14 0 f1 (by omega) (rg_0 fR)
  refine ⟨g, ?_, ?_, g1.1, g1.2.1, ?_⟩
  · refine Eq.trans ?_ g2
    rw [show H + 2 + 17 * 0 = H + 2 by omega, show ((0 : Nat) : Int) = 0 from rfl]
    generalize hQ : ev 7 (25, [some (.ref H), some (.int (Int32.ofInt 0))], []) (f1, H + 2) = Q
    rw [E_7]
    simp (disch := omega) only [Int.reduceAdd, Int.reduceMul, Int.reduceSub, Int.reduceNeg, na_add, na_sub, na_mul, na_neg, na_lt, na_le, na_eq, na_ofNat, bo_some, tl_some, tl_none, rc_int, rc_ref, rc_null, rc_none, rc_long, tb_0, tb_1, ↓mr_g0, mr_r0, mr_get, mr_upd, mr_at, mr_wr, Classical.not_not, not_true_eq_false, not_false_eq_true, na_l0, na_l1, na_l2, na_l3, na_l4, na_l5, na_l6, na_l7, na_l8, na_l9, na_l10, na_l14, na_l15, na_l16, na_l25, na_l30, na_l31, na_l32, na_l33, na_l39, na_l43, na_l45, na_l48, na_l49, na_l50, na_l51, na_l52, na_l53, na_l55, na_l56, na_l57, na_l60, na_l64, na_l71, na_l80, na_l96, na_l100, na_l101, na_l102, na_l103, na_l104, na_l105, na_l106, na_l107, na_l108, na_l109, na_l110, na_l111, na_l112, na_l113, na_l114, na_l115, na_l116, na_l117, na_l118, na_l119, na_l120, na_l121, na_l125, na_l128, na_l150, na_l192, na_l255, na_l999, na_l1000, na_l1248, na_l1344, na_l1875, na_l10000, ↓reduceIte, pf_and, pe_le, pf_le, pe_lt, pf_lt, pe_eq, pf_eq, true_and, and_true, false_and, and_false, true_or, or_true, false_or, or_false, I_7, h, nc_14, tvw_1_0, tvw_1_1, tvw_1_2, ru_eq, ru_ne, Nat.reduceLT, Nat.add_assoc, Nat.reduceAdd, hf1, hQ]
  · rw [g1.2.2 H (by omega) (by omega)]; exact fH
  · intro q hq
    rw [g1.2.2 q (by omega) (by omega), ← hf1, ru_ne (by omega), ru_ne (by omega), ru_ne (by omega), ru_ne (by omega)]
theorem h80 (hf : f H = some (.inr (.inr (5, [.ref (H + 1), .ref (H + 2)])))) : ∀ (n i : Nat) (g : Nat → Option ri_El), i + n = 2 → rg (H + 1) (H + 3) 2 i f g → ∃ g', rg (H + 1) (H + 3) 2 2 f g' ∧ ev 80 (21, [some (.ref H), some (.int (Int32.ofInt i))], []) (g, H + 3 + 17 * i) = some (none, (g', H + 37)) := by
  intro n
  induction n with
  | zero =>
    intro i g hi hg
    obtain rfl : i = 2 := by omega
    refine ⟨g, hg, ?_⟩
    rw [H_80_21]
    simp (disch := omega) only [Int.reduceAdd, Int.reduceMul, Int.reduceSub, Int.reduceNeg, na_add, na_sub, na_mul, na_neg, na_lt, na_le, na_eq, na_ofNat, bo_some, tl_some, tl_none, rc_int, rc_ref, rc_null, rc_none, rc_long, tb_0, tb_1, ↓mr_g0, mr_r0, mr_get, mr_upd, mr_at, mr_wr, Classical.not_not, not_true_eq_false, not_false_eq_true, na_l0, na_l1, na_l2, na_l3, na_l4, na_l5, na_l6, na_l7, na_l8, na_l9, na_l10, na_l14, na_l15, na_l16, na_l25, na_l30, na_l31, na_l32, na_l33, na_l39, na_l43, na_l45, na_l48, na_l49, na_l50, na_l51, na_l52, na_l53, na_l55, na_l56, na_l57, na_l60, na_l64, na_l71, na_l80, na_l96, na_l100, na_l101, na_l102, na_l103, na_l104, na_l105, na_l106, na_l107, na_l108, na_l109, na_l110, na_l111, na_l112, na_l113, na_l114, na_l115, na_l116, na_l117, na_l118, na_l119, na_l120, na_l121, na_l125, na_l128, na_l150, na_l192, na_l255, na_l999, na_l1000, na_l1248, na_l1344, na_l1875, na_l10000, ↓reduceIte, pf_and, pe_le, pf_le, pe_lt, pf_lt, pe_eq, pf_eq, true_and, and_true, false_and, and_false, true_or, or_true, false_or, or_false, I_80]
  | succ n ih =>
    intro i g hi hg
    have gH : g H = some (.inr (.inr (5, [.ref (H + 1), .ref (H + 2)]))) := by rw [hg.2.2 H (by omega) (by omega)]; exact hf
    obtain ⟨B, hB⟩ : ∃ B, H + 3 + 17 * i = B := ⟨_, rfl⟩
    have hS := rg_S (s := B + 17) (e := .inr (.inr (3, [.null, .null, .null, .int (Int32.ofInt 0), .int (Int32.ofInt 0), .int (Int32.ofInt 0), .int (Int32.ofInt 0), .int (Int32.ofInt 0), .int (Int32.ofInt 0)]))) hg (by omega)
    have ihh := ih (i + 1) _ (by omega) hS
    rw [hB] at ihh
    obtain ⟨g', a1, a2⟩ := ihh
    refine ⟨g', a1, Eq.trans ?_ a2⟩
    have e20 := c20 (B := B) (f := ri_upd g B (.inr (.inr (3, [.null, .null, .null, .int (Int32.ofInt 0), .int (Int32.ofInt 0), .int (Int32.ofInt 0), .int (Int32.ofInt 0), .int (Int32.ofInt 0), .int (Int32.ofInt 0)])))) ru_eq
    have g1 := hg.1
    rw [hB]
    obtain ⟨P, hP⟩ : ∃ P, mp B m0 m0 (ri_upd g B (.inr (.inr (3, [.null, .null, .null, .int (Int32.ofInt 0), .int (Int32.ofInt 0), .int (Int32.ofInt 0), .int (Int32.ofInt 0), .int (Int32.ofInt 0), .int (Int32.ofInt 0)]))), B + 17) = P := ⟨_, rfl⟩
    have P2 : P.2 = B + 17 := by rw [← hP]; rfl
    have P1 : P.1 (H + 1) = some (.inr (.inl (2, fun j => if j < i then some (H + 3 + 17 * j) else none))) := by
      rw [← hP, mp_off (by omega)]
      show ri_upd g B _ (H + 1) = _
      rw [ru_ne (by omega)]
      exact g1
    have PB : ∃ fs, P.1 B = some (.inr (.inr (3, fs))) := ⟨_, by rw [← hP, ← Nat.add_zero B]; exact mp_at (by decide)⟩
    obtain ⟨fs, PB⟩ := PB
    rw [hP] at e20 ⊢
    have ei : ((i + 1 : Nat) : Int) = (i : Int) + 1 := by omega
    have es : H + 3 + 17 * (i + 1) = B + 17 := by omega
    rw [ei, es]
    generalize hQ : ev 80 (21, [some (.ref H), some (.int (Int32.ofInt ((i : Int) + 1)))], []) (ri_upd P.1 (H + 1) (.inr (.inl (2, va_up (fun j => if j < i then some (H + 3 + 17 * j) else none) i (some B)))), B + 17) = Q
    rw [← P2] at hQ
    rw [H_80_21]
    simp (disch := omega) only [Int.reduceAdd, Int.reduceMul, Int.reduceSub, Int.reduceNeg, na_add, na_sub, na_mul, na_neg, na_lt, na_le, na_eq, na_ofNat, bo_some, tl_some, tl_none, rc_int, rc_ref, rc_null, rc_none, rc_long, tb_0, tb_1, ↓mr_g0, mr_r0, mr_get, mr_upd, mr_at, mr_wr, Classical.not_not, not_true_eq_false, not_false_eq_true, na_l0, na_l1, na_l2, na_l3, na_l4, na_l5, na_l6, na_l7, na_l8, na_l9, na_l10, na_l14, na_l15, na_l16, na_l25, na_l30, na_l31, na_l32, na_l33, na_l39, na_l43, na_l45, na_l48, na_l49, na_l50, na_l51, na_l52, na_l53, na_l55, na_l56, na_l57, na_l60, na_l64, na_l71, na_l80, na_l96, na_l100, na_l101, na_l102, na_l103, na_l104, na_l105, na_l106, na_l107, na_l108, na_l109, na_l110, na_l111, na_l112, na_l113, na_l114, na_l115, na_l116, na_l117, na_l118, na_l119, na_l120, na_l121, na_l125, na_l128, na_l150, na_l192, na_l255, na_l999, na_l1000, na_l1248, na_l1344, na_l1875, na_l10000, ↓reduceIte, pf_and, pe_le, pf_le, pe_lt, pf_lt, pe_eq, pf_eq, true_and, and_true, false_and, and_false, true_or, or_true, false_or, or_false, I_80, gH, tvo_5_0, tv_k0, ru_eq, e20, P1, PB, mr_q0, Int.toNat_natCast, hQ]
theorem c80 (h : f H = some (.inr (.inr (5, [.null, .null])))) : ∃ g, cal 80 [.ref H] (f, H + 1) = some (none, (g, H + 37)) ∧ g H = some (.inr (.inr (5, [.ref (H + 1), .ref (H + 2)]))) ∧ g (H + 1) = some (.inr (.inl (2, fun j => if j < 2 then some (H + 3 + 17 * j) else none))) ∧ g (H + 2) = some (.inl (0, 2, fun _ => Int32.ofInt 0)) ∧ (∀ j o, j < 2 → o < 17 → g (H + 3 + 17 * j + o) = mp_c (H + 3 + 17 * j) m0 m0 o) ∧ ∀ q, q < H ∨ H + 37 ≤ q → g q = f q := by
  obtain ⟨f1, hf1⟩ : ∃ f1, ri_upd (ri_upd (ri_upd (ri_upd f (H + 1) (.inr (.inl (2, fun _ => none)))) H (.inr (.inr (5, [.ref (H + 1), .null])))) (H + 2) (.inl (0, 2, fun _ => Int32.ofInt 0))) H (.inr (.inr (5, [.ref (H + 1), .ref (H + 2)]))) = f1 := ⟨_, rfl⟩
  have fH : f1 H = some (.inr (.inr (5, [.ref (H + 1), .ref (H + 2)]))) := by rw [← hf1, ru_eq]
  have fR : f1 (H + 1) = some (.inr (.inl (2, fun _ => none))) := by rw [← hf1, ru_ne (by omega), ru_ne (by omega), ru_ne (by omega), ru_eq]
  have fF : f1 (H + 2) = some (.inl (0, 2, fun _ => Int32.ofInt 0)) := by rw [← hf1, ru_ne (by omega), ru_eq]
  obtain ⟨g, g1, g2⟩ := h80 (H := H) (f := f1) fH 2 0 f1 (by omega) (rg_0 fR)
  refine ⟨g, ?_, ?_, g1.1, ?_, g1.2.1, ?_⟩
  · refine Eq.trans ?_ g2
    rw [show H + 3 + 17 * 0 = H + 3 by omega, show ((0 : Nat) : Int) = 0 from rfl]
    generalize hQ : ev 80 (21, [some (.ref H), some (.int (Int32.ofInt 0))], []) (f1, H + 3) = Q
    rw [E_80]
    simp (disch := omega) only [Int.reduceAdd, Int.reduceMul, Int.reduceSub, Int.reduceNeg, na_add, na_sub, na_mul, na_neg, na_lt, na_le, na_eq, na_ofNat, bo_some, tl_some, tl_none, rc_int, rc_ref, rc_null, rc_none, rc_long, tb_0, tb_1, ↓mr_g0, mr_r0, mr_get, mr_upd, mr_at, mr_wr, Classical.not_not, not_true_eq_false, not_false_eq_true, na_l0, na_l1, na_l2, na_l3, na_l4, na_l5, na_l6, na_l7, na_l8, na_l9, na_l10, na_l14, na_l15, na_l16, na_l25, na_l30, na_l31, na_l32, na_l33, na_l39, na_l43, na_l45, na_l48, na_l49, na_l50, na_l51, na_l52, na_l53, na_l55, na_l56, na_l57, na_l60, na_l64, na_l71, na_l80, na_l96, na_l100, na_l101, na_l102, na_l103, na_l104, na_l105, na_l106, na_l107, na_l108, na_l109, na_l110, na_l111, na_l112, na_l113, na_l114, na_l115, na_l116, na_l117, na_l118, na_l119, na_l120, na_l121, na_l125, na_l128, na_l150, na_l192, na_l255, na_l999, na_l1000, na_l1248, na_l1344, na_l1875, na_l10000, ↓reduceIte, pf_and, pe_le, pf_le, pe_lt, pf_lt, pe_eq, pf_eq, true_and, and_true, false_and, and_false, true_or, or_true, false_or, or_false, I_80, h, nc_2, tvw_5_0, tvw_5_1, ru_eq, ru_ne, Nat.reduceLT, Nat.add_assoc, Nat.reduceAdd, hf1, hQ]
  · rw [g1.2.2 H (by omega) (by omega)]; exact fH
  · rw [g1.2.2 (H + 2) (by omega) (by omega)]; exact fF
  · intro q hq
    rw [g1.2.2 q (by omega) (by omega), ← hf1, ru_ne (by omega), ru_ne (by omega), ru_ne (by omega), ru_ne (by omega)]
end MK
