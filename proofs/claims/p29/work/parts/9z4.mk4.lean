/-! What a new LilyWheels holds. -/
theorem cs_eq {C : Nat} {V : mr_R} {PR PZ X : Nat → mr_R} {σ s : ri_S} (h2 : s.2 = σ.2) (h : ∀ o, o < 324 → s.1 (C + o) = cs_c C V PR PZ X o) (h3 : ∀ q, ¬ (C ≤ q ∧ q < C + 324) → s.1 q = σ.1 q) : s = cs C V PR PZ X σ := by
  obtain ⟨f, z⟩ := s
  obtain rfl : z = σ.2 := h2
  refine congrArg (·, σ.2) (funext fun q => ?_)
  show f q = (if C ≤ q ∧ q < C + 324 then cs_c C V PR PZ X (q - C) else σ.1 q)
  by_cases b : C ≤ q ∧ q < C + 324
  · rw [if_pos b, ← h (q - C) (by omega)]
    show f q = f (C + (q - C))
    rw [show C + (q - C) = q by omega]
  · rw [if_neg b]; exact h3 q b
section MK
variable {C : Nat} {f : Nat → Option ri_El}
theorem k108a (h : f C = some (.inr (.inr (8, [.null, .null, .null, .null, .null, .null])))) : ∃ g, cal 108 [.ref C] (f, C + 1) = ev 108 (15, [some (.ref C)], []) (g, C + 3) ∧ g C = some (.inr (.inr (8, [.ref (C + 1), .null, .null, .null, .null, .null]))) ∧ g (C + 1) = some (.inr (.inr (6, [.ref (C + 2), .int (Int32.ofInt 0)]))) ∧ g (C + 2) = some (.inl (0, 120, fun _ => Int32.ofInt 0)) ∧ ∀ q, q < C ∨ C + 3 ≤ q → g q = f q := by
  obtain ⟨a0, a1, a4, a5, a8, a9, a12, b15, b16, b19, b20, b23, c26, c27, c30, c31, c34, d37, d38, d41, d42, d45, e48, e49, e52, e53, e56, f59, f60, f63, f64, f67, g70⟩ := I_108
  refine ⟨ri_upd (ri_upd (ri_upd (ri_upd (ri_upd f (C + 1) (.inr (.inr (6, [.null, .int (Int32.ofInt 0)])))) (C + 2) (.inl (0, 120, fun _ => Int32.ofInt 0))) (C + 1) (.inr (.inr (6, [.ref (C + 2), .int (Int32.ofInt 0)])))) (C + 1) (.inr (.inr (6, [.ref (C + 2), .int (Int32.ofInt 0)])))) C (.inr (.inr (8, [.ref (C + 1), .null, .null, .null, .null, .null]))), ?_, ?_, ?_, ?_, ?_⟩
  · rw [E_108]
    simp (disch := omega) only [Int.reduceAdd, Int.reduceMul, Int.reduceSub, Int.reduceNeg, na_add, na_sub, na_mul, na_neg, na_lt, na_le, na_eq, na_ofNat, bo_some, tl_some, tl_none, rc_int, rc_ref, rc_null, rc_none, rc_long, tb_0, tb_1, ↓mr_g0, mr_r0, mr_get, mr_upd, mr_at, mr_wr, Classical.not_not, not_true_eq_false, not_false_eq_true, na_l0, na_l1, na_l2, na_l3, na_l4, na_l5, na_l6, na_l7, na_l8, na_l9, na_l10, na_l14, na_l15, na_l16, na_l25, na_l30, na_l31, na_l32, na_l33, na_l39, na_l43, na_l45, na_l48, na_l49, na_l50, na_l51, na_l52, na_l53, na_l55, na_l56, na_l57, na_l60, na_l64, na_l71, na_l80, na_l96, na_l100, na_l101, na_l102, na_l103, na_l104, na_l105, na_l106, na_l107, na_l108, na_l109, na_l110, na_l111, na_l112, na_l113, na_l114, na_l115, na_l116, na_l117, na_l118, na_l119, na_l120, na_l121, na_l125, na_l128, na_l150, na_l192, na_l255, na_l999, na_l1000, na_l1248, na_l1344, na_l1875, na_l10000, ↓reduceIte, pf_and, pe_le, pf_le, pe_lt, pf_lt, pe_eq, pf_eq, true_and, and_true, false_and, and_false, true_or, or_true, false_or, or_false, a0, a1, a4, a5, a8, a9, a12, E_86, I_86, h, ru_eq, ru_ne, tv_k0, tvw_6_0, tvw_6_1, tvw_8_0, nc_120, Nat.reduceLT, Nat.add_assoc, Nat.reduceAdd]
  · rw [ru_eq]
  · rw [ru_ne (by omega), ru_eq]
  · rw [ru_ne (by omega), ru_ne (by omega), ru_ne (by omega), ru_eq]
  · intro q hq
    rw [ru_ne (by omega), ru_ne (by omega), ru_ne (by omega), ru_ne (by omega), ru_ne (by omega)]
theorem k108b (h : f C = some (.inr (.inr (8, [.ref (C + 1), .null, .null, .null, .null, .null])))) : ∃ g, ev 108 (15, [some (.ref C)], []) (f, C + 3) = ev 108 (26, [some (.ref C)], []) (g, C + 20) ∧ g C = some (.inr (.inr (8, [.ref (C + 1), .ref (C + 3), .null, .null, .null, .null]))) ∧ (∀ o, o < 17 → g (C + 3 + o) = mp_c (C + 3) m0 m0 o) ∧ ∀ q, ¬ q = C → q < C + 3 ∨ C + 20 ≤ q → g q = f q := by
  obtain ⟨a0, a1, a4, a5, a8, a9, a12, b15, b16, b19, b20, b23, c26, c27, c30, c31, c34, d37, d38, d41, d42, d45, e48, e49, e52, e53, e56, f59, f60, f63, f64, f67, g70⟩ := I_108
  have e20 := c20 (B := C + 3) (f := ri_upd f (C + 3) (.inr (.inr (3, [.null, .null, .null, .int (Int32.ofInt 0), .int (Int32.ofInt 0), .int (Int32.ofInt 0), .int (Int32.ofInt 0), .int (Int32.ofInt 0), .int (Int32.ofInt 0)])))) ru_eq
  obtain ⟨P, hP⟩ : ∃ P, mp (C + 3) m0 m0 (ri_upd f (C + 3) (.inr (.inr (3, [.null, .null, .null, .int (Int32.ofInt 0), .int (Int32.ofInt 0), .int (Int32.ofInt 0), .int (Int32.ofInt 0), .int (Int32.ofInt 0), .int (Int32.ofInt 0)]))), C + 3 + 17) = P := ⟨_, rfl⟩
  have P2 : P.2 = C + 20 := by rw [← hP]; rfl
  have PC : P.1 C = some (.inr (.inr (8, [.ref (C + 1), .null, .null, .null, .null, .null]))) := by
    rw [← hP, mp_off (by omega)]
    show ri_upd f (C + 3) _ C = _
    rw [ru_ne (by omega)]
    exact h
  rw [hP] at e20
  refine ⟨ri_upd P.1 C (.inr (.inr (8, [.ref (C + 1), .ref (C + 3), .null, .null, .null, .null]))), ?_, ru_eq, ?_, ?_⟩
  · rw [← P2]
    simp (disch := omega) only [Int.reduceAdd, Int.reduceMul, Int.reduceSub, Int.reduceNeg, na_add, na_sub, na_mul, na_neg, na_lt, na_le, na_eq, na_ofNat, bo_some, tl_some, tl_none, rc_int, rc_ref, rc_null, rc_none, rc_long, tb_0, tb_1, ↓mr_g0, mr_r0, mr_get, mr_upd, mr_at, mr_wr, Classical.not_not, not_true_eq_false, not_false_eq_true, na_l0, na_l1, na_l2, na_l3, na_l4, na_l5, na_l6, na_l7, na_l8, na_l9, na_l10, na_l14, na_l15, na_l16, na_l25, na_l30, na_l31, na_l32, na_l33, na_l39, na_l43, na_l45, na_l48, na_l49, na_l50, na_l51, na_l52, na_l53, na_l55, na_l56, na_l57, na_l60, na_l64, na_l71, na_l80, na_l96, na_l100, na_l101, na_l102, na_l103, na_l104, na_l105, na_l106, na_l107, na_l108, na_l109, na_l110, na_l111, na_l112, na_l113, na_l114, na_l115, na_l116, na_l117, na_l118, na_l119, na_l120, na_l121, na_l125, na_l128, na_l150, na_l192, na_l255, na_l999, na_l1000, na_l1248, na_l1344, na_l1875, na_l10000, ↓reduceIte, pf_and, pe_le, pf_le, pe_lt, pf_lt, pe_eq, pf_eq, true_and, and_true, false_and, and_false, true_or, or_true, false_or, or_false, b15, b16, b19, b20, b23, ru_eq, tv_k0, e20, PC, tvw_8_1]
  · intro o ho
    rw [ru_ne (by omega), ← hP]
    exact mp_at ho
  · intro q q1 q2
    rw [ru_ne q1, ← hP, mp_off (by omega)]
    show ri_upd f (C + 3) _ q = _
    rw [ru_ne (by omega)]
theorem k108c (h : f C = some (.inr (.inr (8, [.ref (C + 1), .ref (C + 3), .null, .null, .null, .null])))) : ∃ g, ev 108 (26, [some (.ref C)], []) (f, C + 20) = ev 108 (37, [some (.ref C)], []) (g, C + 37) ∧ g C = some (.inr (.inr (8, [.ref (C + 1), .ref (C + 3), .ref (C + 20), .null, .null, .null]))) ∧ (∀ o, o < 17 → g (C + 20 + o) = mp_c (C + 20) m0 m0 o) ∧ ∀ q, ¬ q = C → q < C + 20 ∨ C + 37 ≤ q → g q = f q := by
  obtain ⟨a0, a1, a4, a5, a8, a9, a12, b15, b16, b19, b20, b23, c26, c27, c30, c31, c34, d37, d38, d41, d42, d45, e48, e49, e52, e53, e56, f59, f60, f63, f64, f67, g70⟩ := I_108
  have e20 := c20 (B := C + 20) (f := ri_upd f (C + 20) (.inr (.inr (3, [.null, .null, .null, .int (Int32.ofInt 0), .int (Int32.ofInt 0), .int (Int32.ofInt 0), .int (Int32.ofInt 0), .int (Int32.ofInt 0), .int (Int32.ofInt 0)])))) ru_eq
  obtain ⟨P, hP⟩ : ∃ P, mp (C + 20) m0 m0 (ri_upd f (C + 20) (.inr (.inr (3, [.null, .null, .null, .int (Int32.ofInt 0), .int (Int32.ofInt 0), .int (Int32.ofInt 0), .int (Int32.ofInt 0), .int (Int32.ofInt 0), .int (Int32.ofInt 0)]))), C + 20 + 17) = P := ⟨_, rfl⟩
  have P2 : P.2 = C + 37 := by rw [← hP]; rfl
  have PC : P.1 C = some (.inr (.inr (8, [.ref (C + 1), .ref (C + 3), .null, .null, .null, .null]))) := by
    rw [← hP, mp_off (by omega)]
    show ri_upd f (C + 20) _ C = _
    rw [ru_ne (by omega)]
    exact h
  rw [hP] at e20
  refine ⟨ri_upd P.1 C (.inr (.inr (8, [.ref (C + 1), .ref (C + 3), .ref (C + 20), .null, .null, .null]))), ?_, ru_eq, ?_, ?_⟩
  · rw [← P2]
    simp (disch := omega) only [Int.reduceAdd, Int.reduceMul, Int.reduceSub, Int.reduceNeg, na_add, na_sub, na_mul, na_neg, na_lt, na_le, na_eq, na_ofNat, bo_some, tl_some, tl_none, rc_int, rc_ref, rc_null, rc_none, rc_long, tb_0, tb_1, ↓mr_g0, mr_r0, mr_get, mr_upd, mr_at, mr_wr, Classical.not_not, not_true_eq_false, not_false_eq_true, na_l0, na_l1, na_l2, na_l3, na_l4, na_l5, na_l6, na_l7, na_l8, na_l9, na_l10, na_l14, na_l15, na_l16, na_l25, na_l30, na_l31, na_l32, na_l33, na_l39, na_l43, na_l45, na_l48, na_l49, na_l50, na_l51, na_l52, na_l53, na_l55, na_l56, na_l57, na_l60, na_l64, na_l71, na_l80, na_l96, na_l100, na_l101, na_l102, na_l103, na_l104, na_l105, na_l106, na_l107, na_l108, na_l109, na_l110, na_l111, na_l112, na_l113, na_l114, na_l115, na_l116, na_l117, na_l118, na_l119, na_l120, na_l121, na_l125, na_l128, na_l150, na_l192, na_l255, na_l999, na_l1000, na_l1248, na_l1344, na_l1875, na_l10000, ↓reduceIte, pf_and, pe_le, pf_le, pe_lt, pf_lt, pe_eq, pf_eq, true_and, and_true, false_and, and_false, true_or, or_true, false_or, or_false, c26, c27, c30, c31, c34, ru_eq, tv_k0, e20, PC, tvw_8_2]
  · intro o ho
    rw [ru_ne (by omega), ← hP]
    exact mp_at ho
  · intro q q1 q2
    rw [ru_ne q1, ← hP, mp_off (by omega)]
    show ri_upd f (C + 20) _ q = _
    rw [ru_ne (by omega)]
theorem k108d (h : f C = some (.inr (.inr (8, [.ref (C + 1), .ref (C + 3), .ref (C + 20), .null, .null, .null])))) : ∃ g, ev 108 (37, [some (.ref C)], []) (f, C + 37) = ev 108 (48, [some (.ref C)], []) (g, C + 277) ∧ g C = some (.inr (.inr (8, [.ref (C + 1), .ref (C + 3), .ref (C + 20), .ref (C + 37), .null, .null]))) ∧ g (C + 37) = some (.inr (.inr (1, [.ref (C + 38), .int (Int32.ofInt 0), .int (Int32.ofInt 0)]))) ∧ g (C + 38) = some (.inr (.inl (14, fun j => if j < 14 then some (C + 39 + 17 * j) else none))) ∧ (∀ j o, j < 14 → o < 17 → g (C + 39 + 17 * j + o) = mp_c (C + 39 + 17 * j) m0 m0 o) ∧ ∀ q, ¬ q = C → q < C + 37 ∨ C + 277 ≤ q → g q = f q := by
  obtain ⟨a0, a1, a4, a5, a8, a9, a12, b15, b16, b19, b20, b23, c26, c27, c30, c31, c34, d37, d38, d41, d42, d45, e48, e49, e52, e53, e56, f59, f60, f63, f64, f67, g70⟩ := I_108
  obtain ⟨g, g1, g2, g3, g4, g5⟩ := c7 (H := C + 37) (f := ri_upd f (C + 37) (.inr (.inr (1, [.null, .int (Int32.ofInt 0), .int (Int32.ofInt 0)])))) ru_eq
  have gC : g C = some (.inr (.inr (8, [.ref (C + 1), .ref (C + 3), .ref (C + 20), .null, .null, .null]))) := by
    rw [g5 C (by omega), ru_ne (by omega)]
    exact h
  refine ⟨ri_upd g C (.inr (.inr (8, [.ref (C + 1), .ref (C + 3), .ref (C + 20), .ref (C + 37), .null, .null]))), ?_, ru_eq, ?_, ?_, ?_, ?_⟩
  · simp (disch := omega) only [Int.reduceAdd, Int.reduceMul, Int.reduceSub, Int.reduceNeg, na_add, na_sub, na_mul, na_neg, na_lt, na_le, na_eq, na_ofNat, bo_some, tl_some, tl_none, rc_int, rc_ref, rc_null, rc_none, rc_long, tb_0, tb_1, ↓mr_g0, mr_r0, mr_get, mr_upd, mr_at, mr_wr, Classical.not_not, not_true_eq_false, not_false_eq_true, na_l0, na_l1, na_l2, na_l3, na_l4, na_l5, na_l6, na_l7, na_l8, na_l9, na_l10, na_l14, na_l15, na_l16, na_l25, na_l30, na_l31, na_l32, na_l33, na_l39, na_l43, na_l45, na_l48, na_l49, na_l50, na_l51, na_l52, na_l53, na_l55, na_l56, na_l57, na_l60, na_l64, na_l71, na_l80, na_l96, na_l100, na_l101, na_l102, na_l103, na_l104, na_l105, na_l106, na_l107, na_l108, na_l109, na_l110, na_l111, na_l112, na_l113, na_l114, na_l115, na_l116, na_l117, na_l118, na_l119, na_l120, na_l121, na_l125, na_l128, na_l150, na_l192, na_l255, na_l999, na_l1000, na_l1248, na_l1344, na_l1875, na_l10000, ↓reduceIte, pf_and, pe_le, pf_le, pe_lt, pf_lt, pe_eq, pf_eq, true_and, and_true, false_and, and_false, true_or, or_true, false_or, or_false, d37, d38, d41, d42, d45, ru_eq, tv_k0, g1, gC, tvw_8_3, Nat.add_assoc, Nat.reduceAdd]
  · rw [ru_ne (by omega)]; exact g2
  · rw [ru_ne (by omega)]; exact g3
  · intro j o hj ho
    rw [ru_ne (by omega)]
    exact g4 j o hj ho
  · intro q q1 q2
    rw [ru_ne q1, g5 q (by omega), ru_ne (by omega)]
theorem k108e (h : f C = some (.inr (.inr (8, [.ref (C + 1), .ref (C + 3), .ref (C + 20), .ref (C + 37), .null, .null])))) : ∃ g, ev 108 (48, [some (.ref C)], []) (f, C + 277) = ev 108 (59, [some (.ref C)], []) (g, C + 314) ∧ g C = some (.inr (.inr (8, [.ref (C + 1), .ref (C + 3), .ref (C + 20), .ref (C + 37), .ref (C + 277), .null]))) ∧ g (C + 277) = some (.inr (.inr (5, [.ref (C + 278), .ref (C + 279)]))) ∧ g (C + 278) = some (.inr (.inl (2, fun j => if j < 2 then some (C + 280 + 17 * j) else none))) ∧ g (C + 279) = some (.inl (0, 2, fun _ => Int32.ofInt 0)) ∧ (∀ j o, j < 2 → o < 17 → g (C + 280 + 17 * j + o) = mp_c (C + 280 + 17 * j) m0 m0 o) ∧ ∀ q, ¬ q = C → q < C + 277 ∨ C + 314 ≤ q → g q = f q := by
  obtain ⟨a0, a1, a4, a5, a8, a9, a12, b15, b16, b19, b20, b23, c26, c27, c30, c31, c34, d37, d38, d41, d42, d45, e48, e49, e52, e53, e56, f59, f60, f63, f64, f67, g70⟩ := I_108
  obtain ⟨g, g1, g2, g3, g3b, g4, g5⟩ := c80 (H := C + 277) (f := ri_upd f (C + 277) (.inr (.inr (5, [.null, .null])))) ru_eq
  have gC : g C = some (.inr (.inr (8, [.ref (C + 1), .ref (C + 3), .ref (C + 20), .ref (C + 37), .null, .null]))) := by
    rw [g5 C (by omega), ru_ne (by omega)]
    exact h
  refine ⟨ri_upd g C (.inr (.inr (8, [.ref (C + 1), .ref (C + 3), .ref (C + 20), .ref (C + 37), .ref (C + 277), .null]))), ?_, ru_eq, ?_, ?_, ?_, ?_, ?_⟩
  · simp (disch := omega) only [Int.reduceAdd, Int.reduceMul, Int.reduceSub, Int.reduceNeg, na_add, na_sub, na_mul, na_neg, na_lt, na_le, na_eq, na_ofNat, bo_some, tl_some, tl_none, rc_int, rc_ref, rc_null, rc_none, rc_long, tb_0, tb_1, ↓mr_g0, mr_r0, mr_get, mr_upd, mr_at, mr_wr, Classical.not_not, not_true_eq_false, not_false_eq_true, na_l0, na_l1, na_l2, na_l3, na_l4, na_l5, na_l6, na_l7, na_l8, na_l9, na_l10, na_l14, na_l15, na_l16, na_l25, na_l30, na_l31, na_l32, na_l33, na_l39, na_l43, na_l45, na_l48, na_l49, na_l50, na_l51, na_l52, na_l53, na_l55, na_l56, na_l57, na_l60, na_l64, na_l71, na_l80, na_l96, na_l100, na_l101, na_l102, na_l103, na_l104, na_l105, na_l106, na_l107, na_l108, na_l109, na_l110, na_l111, na_l112, na_l113, na_l114, na_l115, na_l116, na_l117, na_l118, na_l119, na_l120, na_l121, na_l125, na_l128, na_l150, na_l192, na_l255, na_l999, na_l1000, na_l1248, na_l1344, na_l1875, na_l10000, ↓reduceIte, pf_and, pe_le, pf_le, pe_lt, pf_lt, pe_eq, pf_eq, true_and, and_true, false_and, and_false, true_or, or_true, false_or, or_false, e48, e49, e52, e53, e56, ru_eq, tv_k0, g1, gC, tvw_8_4, Nat.add_assoc, Nat.reduceAdd]
  · rw [ru_ne (by omega)]; exact g2
  · rw [ru_ne (by omega)]; exact g3
  · rw [ru_ne (by omega)]; exact g3b
  · intro j o hj ho
    rw [ru_ne (by omega)]
    exact g4 j o hj ho
  · intro q q1 q2
    rw [ru_ne q1, g5 q (by omega), ru_ne (by omega)]
end MK
