/-! The model's methods that change its row. -/
section MO
variable {K : Int} {a : Nat} {R : mr_R} {σ : ri_S}
theorem c166 {f n : Int} (h1 : 0 ≤ f) (h2 : f < 5) : cal 166 [.ref a, .int (Int32.ofInt f), .int (Int32.ofInt n)] (mr_row a R σ) = some (none, mr_row a (mg_eat R f n) σ) := by
  rw [E_166]
  simp (disch := omega) only [Int.reduceAdd, Int.reduceMul, Int.reduceSub, Int.reduceNeg, na_add, na_sub, na_mul, na_neg, na_lt, na_le, na_eq, na_ofNat, bo_some, tl_some, tl_none, rc_int, rc_ref, rc_null, rc_none, rc_long, tb_0, tb_1, ↓mr_g0, mr_r0, mr_get, mr_upd, mr_at, mr_wr, Classical.not_not, not_true_eq_false, not_false_eq_true, na_l0, na_l1, na_l2, na_l3, na_l4, na_l5, na_l6, na_l7, na_l8, na_l9, na_l10, na_l14, na_l15, na_l16, na_l25, na_l30, na_l31, na_l32, na_l33, na_l39, na_l43, na_l45, na_l48, na_l49, na_l50, na_l51, na_l52, na_l53, na_l55, na_l56, na_l57, na_l60, na_l64, na_l71, na_l80, na_l96, na_l100, na_l101, na_l102, na_l103, na_l104, na_l105, na_l106, na_l107, na_l108, na_l109, na_l110, na_l111, na_l112, na_l113, na_l114, na_l115, na_l116, na_l117, na_l118, na_l119, na_l120, na_l121, na_l125, na_l128, na_l150, na_l192, na_l255, na_l999, na_l1000, na_l1248, na_l1344, na_l1875, na_l10000, ms_eq, ms_ne, I_166]
  rfl
theorem c167 {f w p : Int} (hi : mi K R) (h1 : 0 ≤ f) (h2 : f < R 2) (h3 : 0 ≤ w) (h4 : w < R 0) (h5 : 0 ≤ p) (h6 : p < 5) : cal 167 [.ref a, .int (Int32.ofInt f), .int (Int32.ofInt w), .int (Int32.ofInt p)] (mr_row a R σ) = some (none, mr_row a (mg_sit R f w p) σ) := by
  have hc := hi.c
  have hw := hi.w h3 h4
  have hp := mf_pad_bd (R := R) (w := w) p (by omega)
  rw [E_167]
  simp (disch := omega) only [Int.reduceAdd, Int.reduceMul, Int.reduceSub, Int.reduceNeg, na_add, na_sub, na_mul, na_neg, na_lt, na_le, na_eq, na_ofNat, bo_some, tl_some, tl_none, rc_int, rc_ref, rc_null, rc_none, rc_long, tb_0, tb_1, ↓mr_g0, mr_r0, mr_get, mr_upd, mr_at, mr_wr, Classical.not_not, not_true_eq_false, not_false_eq_true, na_l0, na_l1, na_l2, na_l3, na_l4, na_l5, na_l6, na_l7, na_l8, na_l9, na_l10, na_l14, na_l15, na_l16, na_l25, na_l30, na_l31, na_l32, na_l33, na_l39, na_l43, na_l45, na_l48, na_l49, na_l50, na_l51, na_l52, na_l53, na_l55, na_l56, na_l57, na_l60, na_l64, na_l71, na_l80, na_l96, na_l100, na_l101, na_l102, na_l103, na_l104, na_l105, na_l106, na_l107, na_l108, na_l109, na_l110, na_l111, na_l112, na_l113, na_l114, na_l115, na_l116, na_l117, na_l118, na_l119, na_l120, na_l121, na_l125, na_l128, na_l150, na_l192, na_l255, na_l999, na_l1000, na_l1248, na_l1344, na_l1875, na_l10000, ms_eq, ms_ne, I_167_0, I_167_1, c157, c166]
  rfl
theorem c168 {w k : Int} (hi : mi K R) (h3 : 0 ≤ w) (h4 : w < R 0) (h5 : -4 ≤ k) (h6 : k ≤ 4) : cal 168 [.ref a, .int (Int32.ofInt w), .int (Int32.ofInt k)] (mr_row a R σ) = some (none, mr_row a (mg_turn R w k) σ) := by
  have hc := hi.c
  have hw := hi.w h3 h4
  rw [E_168]
  simp (disch := omega) only [Int.reduceAdd, Int.reduceMul, Int.reduceSub, Int.reduceNeg, na_add, na_sub, na_mul, na_neg, na_lt, na_le, na_eq, na_ofNat, bo_some, tl_some, tl_none, rc_int, rc_ref, rc_null, rc_none, rc_long, tb_0, tb_1, ↓mr_g0, mr_r0, mr_get, mr_upd, mr_at, mr_wr, Classical.not_not, not_true_eq_false, not_false_eq_true, na_l0, na_l1, na_l2, na_l3, na_l4, na_l5, na_l6, na_l7, na_l8, na_l9, na_l10, na_l14, na_l15, na_l16, na_l25, na_l30, na_l31, na_l32, na_l33, na_l39, na_l43, na_l45, na_l48, na_l49, na_l50, na_l51, na_l52, na_l53, na_l55, na_l56, na_l57, na_l60, na_l64, na_l71, na_l80, na_l96, na_l100, na_l101, na_l102, na_l103, na_l104, na_l105, na_l106, na_l107, na_l108, na_l109, na_l110, na_l111, na_l112, na_l113, na_l114, na_l115, na_l116, na_l117, na_l118, na_l119, na_l120, na_l121, na_l125, na_l128, na_l150, na_l192, na_l255, na_l999, na_l1000, na_l1248, na_l1344, na_l1875, na_l10000, ms_eq, ms_ne, I_168, c149, c156]
  rfl
theorem c169 {f l : Int} (hi : mi K R) (hk : K + 10 ≤ 1000000) (h1 : 0 ≤ f) (h2 : f < R 2) (h3 : 0 ≤ l) (h4 : l < R 1) (q : mf_why R f l = 0) : cal 169 [.ref a, .int (Int32.ofInt f), .int (Int32.ofInt l)] (mr_row a R σ) = some (none, mr_row a (mg_jump R f l) σ) := by
  have hc := hi.c
  have hl := hi.l h3 h4
  have hf := hi.f h1 h2
  have he := mf_end hi h3 h4 (mf_why_0 q).1
  have hw := hi.w (w := R (39 + 4 * l + 2 * mf_away R f l)) (by omega) (by omega)
  have hw2 := hi.w (w := R (71 + 5 * f + 1)) (by omega) (by omega)
  have hp := mf_pad_bd (R := R) (w := R (39 + 4 * l + 2 * mf_away R f l)) (R (39 + 4 * l + 2 * mf_away R f l + 1)) (by omega)
  have h10 := mi_jump1 hi h1 h2 h3 h4 q hk
  have e0 := mg_sit_0 hi h1 h2 he.1.1 he.1.2 (p := R (39 + 4 * l + 2 * mf_away R f l + 1))
  have e9 : ∀ j : Int, 0 ≤ j → j ≤ 4 → mg_sit R f (R (39 + 4 * l + 2 * mf_away R f l)) (R (39 + 4 * l + 2 * mf_away R f l + 1)) (9 + 10 * R (71 + 5 * f + 1) + j) = R (9 + 10 * R (71 + 5 * f + 1) + j) := fun j b1 b2 => mg_sit_of (by omega) (by omega) (by omega) (by omega) (by omega)
  have hwt := mf_wt_bd h10 (R (71 + 5 * f + 1))
  have hao := mf_away_or R f l
  have hao2 := (mf_why_0 q).1
  rw [E_169]
  by_cases q9 : mf_wt (mg_sit R f (R (39 + 4 * l + 2 * mf_away R f l)) (R (39 + 4 * l + 2 * mf_away R f l + 1))) (R (71 + 5 * f + 1)) ≤ R (9 + 10 * R (71 + 5 * f + 1) + 2)
  · rw [show mg_jump R f l = mg_left (mg_sit R f (R (39 + 4 * l + 2 * mf_away R f l)) (R (39 + 4 * l + 2 * mf_away R f l + 1))) (R (71 + 5 * f + 1)) by unfold mg_jump mg_leave; rw [e9 2 (by omega) (by omega), if_pos q9]]
    simp (disch := omega) only [Int.reduceAdd, Int.reduceMul, Int.reduceSub, Int.reduceNeg, na_add, na_sub, na_mul, na_neg, na_lt, na_le, na_eq, na_ofNat, bo_some, tl_some, tl_none, rc_int, rc_ref, rc_null, rc_none, rc_long, tb_0, tb_1, ↓mr_g0, mr_r0, mr_get, mr_upd, mr_at, mr_wr, Classical.not_not, not_true_eq_false, not_false_eq_true, na_l0, na_l1, na_l2, na_l3, na_l4, na_l5, na_l6, na_l7, na_l8, na_l9, na_l10, na_l14, na_l15, na_l16, na_l25, na_l30, na_l31, na_l32, na_l33, na_l39, na_l43, na_l45, na_l48, na_l49, na_l50, na_l51, na_l52, na_l53, na_l55, na_l56, na_l57, na_l60, na_l64, na_l71, na_l80, na_l96, na_l100, na_l101, na_l102, na_l103, na_l104, na_l105, na_l106, na_l107, na_l108, na_l109, na_l110, na_l111, na_l112, na_l113, na_l114, na_l115, na_l116, na_l117, na_l118, na_l119, na_l120, na_l121, na_l125, na_l128, na_l150, na_l192, na_l255, na_l999, na_l1000, na_l1248, na_l1344, na_l1875, na_l10000, ↓reduceIte, pf_and, pe_le, pf_le, pe_lt, pf_lt, pe_eq, pf_eq, true_and, and_true, false_and, and_false, ms_eq, ms_ne, ← Int.add_assoc, I_169_0, I_169_1, c162 hi, c150, c151, c167 hi, c160 h10, c149, e9, c168 h10]
    unfold mg_left mg_turn
    simp (disch := omega) only [Int.reduceAdd, Int.reduceMul, Int.reduceSub, Int.reduceNeg, na_add, na_sub, na_mul, na_neg, na_lt, na_le, na_eq, na_ofNat, bo_some, tl_some, tl_none, rc_int, rc_ref, rc_null, rc_none, rc_long, tb_0, tb_1, ↓mr_g0, mr_r0, mr_get, mr_upd, mr_at, mr_wr, Classical.not_not, not_true_eq_false, not_false_eq_true, na_l0, na_l1, na_l2, na_l3, na_l4, na_l5, na_l6, na_l7, na_l8, na_l9, na_l10, na_l14, na_l15, na_l16, na_l25, na_l30, na_l31, na_l32, na_l33, na_l39, na_l43, na_l45, na_l48, na_l49, na_l50, na_l51, na_l52, na_l53, na_l55, na_l56, na_l57, na_l60, na_l64, na_l71, na_l80, na_l96, na_l100, na_l101, na_l102, na_l103, na_l104, na_l105, na_l106, na_l107, na_l108, na_l109, na_l110, na_l111, na_l112, na_l113, na_l114, na_l115, na_l116, na_l117, na_l118, na_l119, na_l120, na_l121, na_l125, na_l128, na_l150, na_l192, na_l255, na_l999, na_l1000, na_l1248, na_l1344, na_l1875, na_l10000, ms_eq, ms_ne, e9, I_169_0, I_169_1]
  · rw [show mg_jump R f l = (mg_sit R f (R (39 + 4 * l + 2 * mf_away R f l)) (R (39 + 4 * l + 2 * mf_away R f l + 1))) by unfold mg_jump mg_leave; rw [e9 2 (by omega) (by omega), if_neg q9]]
    simp (disch := omega) only [Int.reduceAdd, Int.reduceMul, Int.reduceSub, Int.reduceNeg, na_add, na_sub, na_mul, na_neg, na_lt, na_le, na_eq, na_ofNat, bo_some, tl_some, tl_none, rc_int, rc_ref, rc_null, rc_none, rc_long, tb_0, tb_1, ↓mr_g0, mr_r0, mr_get, mr_upd, mr_at, mr_wr, Classical.not_not, not_true_eq_false, not_false_eq_true, na_l0, na_l1, na_l2, na_l3, na_l4, na_l5, na_l6, na_l7, na_l8, na_l9, na_l10, na_l14, na_l15, na_l16, na_l25, na_l30, na_l31, na_l32, na_l33, na_l39, na_l43, na_l45, na_l48, na_l49, na_l50, na_l51, na_l52, na_l53, na_l55, na_l56, na_l57, na_l60, na_l64, na_l71, na_l80, na_l96, na_l100, na_l101, na_l102, na_l103, na_l104, na_l105, na_l106, na_l107, na_l108, na_l109, na_l110, na_l111, na_l112, na_l113, na_l114, na_l115, na_l116, na_l117, na_l118, na_l119, na_l120, na_l121, na_l125, na_l128, na_l150, na_l192, na_l255, na_l999, na_l1000, na_l1248, na_l1344, na_l1875, na_l10000, ↓reduceIte, pf_and, pe_le, pf_le, pe_lt, pf_lt, pe_eq, pf_eq, true_and, and_true, false_and, and_false, ms_eq, ms_ne, ← Int.add_assoc, I_169_0, I_169_1, c162 hi, c150, c151, c167 hi, c160 h10, c149, e9]
theorem c170 {f s : Int} (hi : mi K R) (h1 : 0 ≤ f) (h2 : f < R 2) (h3 : -1 ≤ s) (h4 : s ≤ 1) : cal 170 [.ref a, .int (Int32.ofInt f), .int (Int32.ofInt s)] (mr_row a R σ) = some (none, mr_row a (mg_step R f s) σ) := by
  have hc := hi.c
  have hf := hi.f h1 h2
  have hw := hi.w (w := R (71 + 5 * f + 1)) (by omega) (by omega)
  have hp := mf_place_bd hi h1 h2
  have hb : 0 ≤ (mf_place R f + s) % R (9 + 10 * R (71 + 5 * f + 1) + 0) ∧ (mf_place R f + s) % R (9 + 10 * R (71 + 5 * f + 1) + 0) < R (9 + 10 * R (71 + 5 * f + 1) + 0) := ⟨Int.emod_nonneg _ (by omega), Int.emod_lt_of_pos _ (by omega)⟩
  rw [E_170]
  simp (disch := omega) only [Int.reduceAdd, Int.reduceMul, Int.reduceSub, Int.reduceNeg, na_add, na_sub, na_mul, na_neg, na_lt, na_le, na_eq, na_ofNat, bo_some, tl_some, tl_none, rc_int, rc_ref, rc_null, rc_none, rc_long, tb_0, tb_1, ↓mr_g0, mr_r0, mr_get, mr_upd, mr_at, mr_wr, Classical.not_not, not_true_eq_false, not_false_eq_true, na_l0, na_l1, na_l2, na_l3, na_l4, na_l5, na_l6, na_l7, na_l8, na_l9, na_l10, na_l14, na_l15, na_l16, na_l25, na_l30, na_l31, na_l32, na_l33, na_l39, na_l43, na_l45, na_l48, na_l49, na_l50, na_l51, na_l52, na_l53, na_l55, na_l56, na_l57, na_l60, na_l64, na_l71, na_l80, na_l96, na_l100, na_l101, na_l102, na_l103, na_l104, na_l105, na_l106, na_l107, na_l108, na_l109, na_l110, na_l111, na_l112, na_l113, na_l114, na_l115, na_l116, na_l117, na_l118, na_l119, na_l120, na_l121, na_l125, na_l128, na_l150, na_l192, na_l255, na_l999, na_l1000, na_l1248, na_l1344, na_l1875, na_l10000, I_170, c149, c150, c158 hi, c156, c167 hi]
  rfl
theorem c171 {f : Int} (hi0 : mi K R) (hk : K + 2 ≤ 1000000) (h1 : 0 ≤ f) (h2 : f < R 2) : cal 171 [.ref a, .int (Int32.ofInt f)] (mr_row a R σ) = some (none, mr_row a (mg_behind R f) σ) := by
  have hc0 := hi0.c
  have hf0 := hi0.f h1 h2
  have hx : mr_row a (mr_st (mr_st (mr_st (mr_st R 3 (R 3 + 1)) 7 (f + 1)) (71 + 5 * f + 4) (R (71 + 5 * f + 4) + 1)) 6 (R 6 + 1)) σ = mr_row a (mg_count R f) σ := rfl
  have hi := mi_count hi0 h1 h2 (by omega)
  have e0 : (mg_count R f) 0 = R 0 := mg_count_of (by omega) (by omega) (by omega) (by omega)
  unfold mg_behind
  rw [E_171]
  generalize mg_count R f = C at hx hi e0 ⊢
  have hc := hi.c
  have b1 : 0 ≤ C 3 % C 0 := Int.emod_nonneg _ (by omega)
  have b2 : C 3 % C 0 < C 0 := Int.emod_lt_of_pos _ (by omega)
  have hw := hi.w b1 b2
  have b3 : 0 ≤ C 3 % C (9 + 10 * (C 3 % C 0) + 0) := Int.emod_nonneg _ (by omega)
  have b4 : C 3 % C (9 + 10 * (C 3 % C 0) + 0) < C (9 + 10 * (C 3 % C 0) + 0) := Int.emod_lt_of_pos _ (by omega)
  have hp := mf_pad_bd (R := C) (w := C 3 % C 0) (C 3 % C (9 + 10 * (C 3 % C 0) + 0)) (by omega)
  have hy := hi.y (w := C 3 % C 0) (k := mf_pad C (C 3 % C 0) (C 3 % C (9 + 10 * (C 3 % C 0) + 0))) b1 b2 (by omega) (by omega)
  have hb := mf_on_bd hi (C 3 % C 0) (mf_pad C (C 3 % C 0) (C 3 % C (9 + 10 * (C 3 % C 0) + 0)))
  unfold mg_comes mg_fly
  generalize hW : C 3 % C 0 = w at *
  generalize hP : C 3 % C (9 + 10 * w + 0) = p at *
  generalize hD : mf_pad C w p = pad at *
  by_cases q1 : mf_on C w pad = -1 <;> by_cases q2 : C (9 + 10 * w + 5 + pad) < 9 <;> simp (disch := omega) only [Int.reduceAdd, Int.reduceMul, Int.reduceSub, Int.reduceNeg, na_add, na_sub, na_mul, na_neg, na_lt, na_le, na_eq, na_ofNat, bo_some, tl_some, tl_none, rc_int, rc_ref, rc_null, rc_none, rc_long, tb_0, tb_1, ↓mr_g0, mr_r0, mr_get, mr_upd, mr_at, mr_wr, Classical.not_not, not_true_eq_false, not_false_eq_true, na_l0, na_l1, na_l2, na_l3, na_l4, na_l5, na_l6, na_l7, na_l8, na_l9, na_l10, na_l14, na_l15, na_l16, na_l25, na_l30, na_l31, na_l32, na_l33, na_l39, na_l43, na_l45, na_l48, na_l49, na_l50, na_l51, na_l52, na_l53, na_l55, na_l56, na_l57, na_l60, na_l64, na_l71, na_l80, na_l96, na_l100, na_l101, na_l102, na_l103, na_l104, na_l105, na_l106, na_l107, na_l108, na_l109, na_l110, na_l111, na_l112, na_l113, na_l114, na_l115, na_l116, na_l117, na_l118, na_l119, na_l120, na_l121, na_l125, na_l128, na_l150, na_l192, na_l255, na_l999, na_l1000, na_l1248, na_l1344, na_l1875, na_l10000, ↓reduceIte, pf_and, pe_le, pf_le, pe_lt, pf_lt, pe_eq, pf_eq, true_and, and_true, false_and, and_false, ms_eq, ms_ne, I_171_0, I_171_1, I_171_2, hx, na_div, na_rem, hW, hP, c149, c157, hD, c159 hi, c166]
theorem c172 {f l : Int} (hi : mi K R) (hk : K + 20 ≤ 1000000) (h1 : 0 ≤ f) (h2 : f < R 2) (h3 : 0 ≤ l) (h4 : l < R 1) : cal 172 [.ref a, .int (Int32.ofInt f), .int (Int32.ofInt l)] (mr_row a R σ) = some (some (.int (Int32.ofInt (mf_why R f l))), mr_row a (mg_leap R f l) σ) := by
  have hb := mf_why_bd R f l
  rw [E_172]
  unfold mg_leap
  by_cases q : mf_why R f l = 0
  · have hj := mi_jump hi h1 h2 h3 h4 q (by omega)
    have ej := mg_jump_0 hi h1 h2 h3 h4 q
    simp (disch := omega) only [Int.reduceAdd, Int.reduceMul, Int.reduceSub, Int.reduceNeg, na_add, na_sub, na_mul, na_neg, na_lt, na_le, na_eq, na_ofNat, bo_some, tl_some, tl_none, rc_int, rc_ref, rc_null, rc_none, rc_long, tb_0, tb_1, ↓mr_g0, mr_r0, mr_get, mr_upd, mr_at, mr_wr, Classical.not_not, not_true_eq_false, not_false_eq_true, na_l0, na_l1, na_l2, na_l3, na_l4, na_l5, na_l6, na_l7, na_l8, na_l9, na_l10, na_l14, na_l15, na_l16, na_l25, na_l30, na_l31, na_l32, na_l33, na_l39, na_l43, na_l45, na_l48, na_l49, na_l50, na_l51, na_l52, na_l53, na_l55, na_l56, na_l57, na_l60, na_l64, na_l71, na_l80, na_l96, na_l100, na_l101, na_l102, na_l103, na_l104, na_l105, na_l106, na_l107, na_l108, na_l109, na_l110, na_l111, na_l112, na_l113, na_l114, na_l115, na_l116, na_l117, na_l118, na_l119, na_l120, na_l121, na_l125, na_l128, na_l150, na_l192, na_l255, na_l999, na_l1000, na_l1248, na_l1344, na_l1875, na_l10000, ↓reduceIte, pf_and, pe_le, pf_le, pe_lt, pf_lt, pe_eq, pf_eq, true_and, and_true, false_and, and_false, I_172, c164 hi, q, c169 hi, c171 hj]
  · simp (disch := omega) only [Int.reduceAdd, Int.reduceMul, Int.reduceSub, Int.reduceNeg, na_add, na_sub, na_mul, na_neg, na_lt, na_le, na_eq, na_ofNat, bo_some, tl_some, tl_none, rc_int, rc_ref, rc_null, rc_none, rc_long, tb_0, tb_1, ↓mr_g0, mr_r0, mr_get, mr_upd, mr_at, mr_wr, Classical.not_not, not_true_eq_false, not_false_eq_true, na_l0, na_l1, na_l2, na_l3, na_l4, na_l5, na_l6, na_l7, na_l8, na_l9, na_l10, na_l14, na_l15, na_l16, na_l25, na_l30, na_l31, na_l32, na_l33, na_l39, na_l43, na_l45, na_l48, na_l49, na_l50, na_l51, na_l52, na_l53, na_l55, na_l56, na_l57, na_l60, na_l64, na_l71, na_l80, na_l96, na_l100, na_l101, na_l102, na_l103, na_l104, na_l105, na_l106, na_l107, na_l108, na_l109, na_l110, na_l111, na_l112, na_l113, na_l114, na_l115, na_l116, na_l117, na_l118, na_l119, na_l120, na_l121, na_l125, na_l128, na_l150, na_l192, na_l255, na_l999, na_l1000, na_l1248, na_l1344, na_l1875, na_l10000, ↓reduceIte, pf_and, pe_le, pf_le, pe_lt, pf_lt, pe_eq, pf_eq, true_and, and_true, false_and, and_false, I_172, c164 hi]
theorem c173 {f s : Int} (hi : mi K R) (hk : K + 20 ≤ 1000000) (h1 : 0 ≤ f) (h2 : f < R 2) (h3 : -1 ≤ s) (h4 : s ≤ 1) : cal 173 [.ref a, .int (Int32.ofInt f), .int (Int32.ofInt s)] (mr_row a R σ) = some (some (.int (Int32.ofInt (mf_hwhy R f s))), mr_row a (mg_hop R f s) σ) := by
  have hb : 0 ≤ mf_hwhy R f s ∧ mf_hwhy R f s ≤ 3 := mf_later_bd R f (R (71 + 5 * f + 1)) ((mf_place R f + s) % R (9 + 10 * R (71 + 5 * f + 1) + 0))
  have hf := hi.f h1 h2
  rw [E_173]
  unfold mg_hop
  by_cases q : mf_hwhy R f s = 0
  · have hj := mi_step hi h1 h2 q (by omega)
    have ej := mg_sit_0 hi h1 h2 (w := R (71 + 5 * f + 1)) (by omega) (by omega) (p := (mf_place R f + s) % R (9 + 10 * R (71 + 5 * f + 1) + 0))
    have ej2 : mg_step R f s 2 = R 2 := ej.2
    simp (disch := omega) only [Int.reduceAdd, Int.reduceMul, Int.reduceSub, Int.reduceNeg, na_add, na_sub, na_mul, na_neg, na_lt, na_le, na_eq, na_ofNat, bo_some, tl_some, tl_none, rc_int, rc_ref, rc_null, rc_none, rc_long, tb_0, tb_1, ↓mr_g0, mr_r0, mr_get, mr_upd, mr_at, mr_wr, Classical.not_not, not_true_eq_false, not_false_eq_true, na_l0, na_l1, na_l2, na_l3, na_l4, na_l5, na_l6, na_l7, na_l8, na_l9, na_l10, na_l14, na_l15, na_l16, na_l25, na_l30, na_l31, na_l32, na_l33, na_l39, na_l43, na_l45, na_l48, na_l49, na_l50, na_l51, na_l52, na_l53, na_l55, na_l56, na_l57, na_l60, na_l64, na_l71, na_l80, na_l96, na_l100, na_l101, na_l102, na_l103, na_l104, na_l105, na_l106, na_l107, na_l108, na_l109, na_l110, na_l111, na_l112, na_l113, na_l114, na_l115, na_l116, na_l117, na_l118, na_l119, na_l120, na_l121, na_l125, na_l128, na_l150, na_l192, na_l255, na_l999, na_l1000, na_l1248, na_l1344, na_l1875, na_l10000, ↓reduceIte, pf_and, pe_le, pf_le, pe_lt, pf_lt, pe_eq, pf_eq, true_and, and_true, false_and, and_false, I_173, c165 hi, q, c170 hi, c171 hj]
  · simp (disch := omega) only [Int.reduceAdd, Int.reduceMul, Int.reduceSub, Int.reduceNeg, na_add, na_sub, na_mul, na_neg, na_lt, na_le, na_eq, na_ofNat, bo_some, tl_some, tl_none, rc_int, rc_ref, rc_null, rc_none, rc_long, tb_0, tb_1, ↓mr_g0, mr_r0, mr_get, mr_upd, mr_at, mr_wr, Classical.not_not, not_true_eq_false, not_false_eq_true, na_l0, na_l1, na_l2, na_l3, na_l4, na_l5, na_l6, na_l7, na_l8, na_l9, na_l10, na_l14, na_l15, na_l16, na_l25, na_l30, na_l31, na_l32, na_l33, na_l39, na_l43, na_l45, na_l48, na_l49, na_l50, na_l51, na_l52, na_l53, na_l55, na_l56, na_l57, na_l60, na_l64, na_l71, na_l80, na_l96, na_l100, na_l101, na_l102, na_l103, na_l104, na_l105, na_l106, na_l107, na_l108, na_l109, na_l110, na_l111, na_l112, na_l113, na_l114, na_l115, na_l116, na_l117, na_l118, na_l119, na_l120, na_l121, na_l125, na_l128, na_l150, na_l192, na_l255, na_l999, na_l1000, na_l1248, na_l1344, na_l1875, na_l10000, ↓reduceIte, pf_and, pe_le, pf_le, pe_lt, pf_lt, pe_eq, pf_eq, true_and, and_true, false_and, and_false, I_173, c165 hi]
end MO
