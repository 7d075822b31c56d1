/-! What is added to the model's row. -/
def mg_zero (R : mr_R) (b : Int) : mr_R := mr_st (mr_st (mr_st (mr_st (mr_st (mr_st (mr_st (mr_st (mr_st (mr_st R (b + 0) 0) (b + 1) 0) (b + 2) 0) (b + 3) 0) (b + 4) 0) (b + 5) 0) (b + 6) 0) (b + 7) 0) (b + 8) 0) (b + 9) 0
def mg_wheel (R : mr_R) (n no s : Int) : mr_R := mr_st (mr_st (mr_st (mr_st (mg_zero R (9 + 10 * R 0)) (9 + 10 * R 0 + 0) n) (9 + 10 * R 0 + 1) no) (9 + 10 * R 0 + 2) s) 0 (R 0 + 1)
def mg_line (R : mr_R) (w p w2 p2 : Int) : mr_R := mr_st (mr_st (mr_st (mr_st (mr_st R (39 + 4 * R 1) w) (39 + 4 * R 1 + 1) p) (39 + 4 * R 1 + 2) w2) (39 + 4 * R 1 + 3) p2) 1 (R 1 + 1)
def mg_frog (R : mr_R) (w p g : Int) : mr_R := mr_st (mr_st (mr_st (mr_st (mr_st (mr_st R (71 + 5 * R 2 + 0) g) (71 + 5 * R 2 + 1) w) (71 + 5 * R 2 + 2) (mf_pad R w p)) (71 + 5 * R 2 + 3) 0) (71 + 5 * R 2 + 4) 0) 2 (R 2 + 1)
def mf_more (R : mr_R) (w p n : Int) : Int := if 9 < R (9 + 10 * w + 5 + mf_pad R w p) + n then R (9 + 10 * w + 5 + mf_pad R w p) + n - 9 else 0
def mg_bring (R : mr_R) (w p n : Int) : mr_R := mr_st (mr_st (mr_st R 6 (R 6 + n)) (9 + 10 * w + 5 + mf_pad R w p) (R (9 + 10 * w + 5 + mf_pad R w p) + n - mf_more R w p n)) 5 (R 5 + mf_more R w p n)
def mf_isW (n no s : Int) : Prop := (3 ≤ n ∧ n ≤ 5) ∧ (-4 ≤ no ∧ no ≤ 4) ∧ (0 ≤ s ∧ s ≤ 30)
def mf_isP (R : mr_R) (w p : Int) : Prop := 0 ≤ w ∧ w < R 0 ∧ 0 ≤ p ∧ p < R (9 + 10 * w + 0)
theorem ms_up {R : mr_R} {k v w : Int} : mr_st (mr_st R k v) k w = mr_st R k w := by
  funext i
  unfold mr_st
  split <;> rfl
theorem ms_cm {R : mr_R} {k j v w : Int} (h : k ≠ j) : mr_st (mr_st R k v) j w = mr_st (mr_st R j w) k v := by
  funext i
  unfold mr_st
  split
  · rename_i e
    rw [if_neg (by omega)]
  · rfl
section MO
variable {K : Int} {a : Nat} {R : mr_R} {σ : ri_S}
theorem c174 {n no s : Int} (h1 : -2147483648 ≤ n) (h2 : n < 2147483648) (h3 : -2147483648 ≤ no) (h4 : no < 2147483648) (h5 : -2147483648 ≤ s) (h6 : s < 2147483648) : cal 174 [.int (Int32.ofInt n), .int (Int32.ofInt no), .int (Int32.ofInt s)] σ = if (3 ≤ n ∧ n ≤ 5) ∧ (-4 ≤ no ∧ no ≤ 4) ∧ (0 ≤ s ∧ s ≤ 30) then some (some (.int (Int32.ofInt 1)), σ) else some (some (.int (Int32.ofInt 0)), σ) := by
  rw [E_174]
  by_cases q1 : 3 ≤ n ∧ n ≤ 5 <;> by_cases q2 : -4 ≤ no ∧ no ≤ 4 <;> by_cases q3 : 0 ≤ s ∧ s ≤ 30 <;> simp (disch := omega) only [Int.reduceAdd, Int.reduceMul, Int.reduceSub, Int.reduceNeg, na_add, na_sub, na_mul, na_neg, na_lt, na_le, na_eq, na_ofNat, bo_some, tl_some, tl_none, rc_int, rc_ref, rc_null, rc_none, rc_long, tb_0, tb_1, ↓mr_g0, mr_r0, mr_get, mr_upd, mr_at, mr_wr, Classical.not_not, not_true_eq_false, not_false_eq_true, na_l0, na_l1, na_l2, na_l3, na_l4, na_l5, na_l6, na_l7, na_l8, na_l9, na_l10, na_l14, na_l15, na_l16, na_l25, na_l30, na_l31, na_l32, na_l33, na_l39, na_l43, na_l45, na_l48, na_l49, na_l50, na_l51, na_l52, na_l53, na_l55, na_l56, na_l57, na_l60, na_l64, na_l71, na_l80, na_l96, na_l100, na_l101, na_l102, na_l103, na_l104, na_l105, na_l106, na_l107, na_l108, na_l109, na_l110, na_l111, na_l112, na_l113, na_l114, na_l115, na_l116, na_l117, na_l118, na_l119, na_l120, na_l121, na_l125, na_l128, na_l150, na_l192, na_l255, na_l999, na_l1000, na_l1248, na_l1344, na_l1875, na_l10000, ↓reduceIte, pf_and, pe_le, pf_le, pe_lt, pf_lt, pe_eq, pf_eq, true_and, and_true, false_and, and_false, nb_neg, nb_wide, nb_lt, nb_gt, nb_l0, nb_l1, nb_l3, nb_l4, nb_l5, nb_l7, nb_l9, nb_l10, nb_l30, nb_l60, nb_l255, I_174, c146, oi_bind]
set_option maxRecDepth 8000 in
theorem c175 {n no s : Int} (h1 : 0 ≤ R 0) (h2 : R 0 < 3) : cal 175 [.ref a, .int (Int32.ofInt n), .int (Int32.ofInt no), .int (Int32.ofInt s)] (mr_row a R σ) = some (some (.int (Int32.ofInt (R 0))), mr_row a (mg_wheel R n no s) σ) := by
  rw [E_175]
  simp (disch := omega) only [Int.reduceAdd, Int.reduceMul, Int.reduceSub, Int.reduceNeg, na_add, na_sub, na_mul, na_neg, na_lt, na_le, na_eq, na_ofNat, bo_some, tl_some, tl_none, rc_int, rc_ref, rc_null, rc_none, rc_long, tb_0, tb_1, ↓mr_g0, mr_r0, mr_get, mr_upd, mr_at, mr_wr, Classical.not_not, not_true_eq_false, not_false_eq_true, na_l0, na_l1, na_l2, na_l3, na_l4, na_l5, na_l6, na_l7, na_l8, na_l9, na_l10, na_l14, na_l15, na_l16, na_l25, na_l30, na_l31, na_l32, na_l33, na_l39, na_l43, na_l45, na_l48, na_l49, na_l50, na_l51, na_l52, na_l53, na_l55, na_l56, na_l57, na_l60, na_l64, na_l71, na_l80, na_l96, na_l100, na_l101, na_l102, na_l103, na_l104, na_l105, na_l106, na_l107, na_l108, na_l109, na_l110, na_l111, na_l112, na_l113, na_l114, na_l115, na_l116, na_l117, na_l118, na_l119, na_l120, na_l121, na_l125, na_l128, na_l150, na_l192, na_l255, na_l999, na_l1000, na_l1248, na_l1344, na_l1875, na_l10000, ↓reduceIte, pf_and, pe_le, pf_le, pe_lt, pf_lt, pe_eq, pf_eq, true_and, and_true, false_and, and_false, ms_eq, ms_ne, I_175_0, I_175_1, H_175_18]
  rfl
theorem c177 {w p w2 p2 : Int} (h1 : 0 ≤ R 1) (h2 : R 1 < 8) : cal 177 [.ref a, .int (Int32.ofInt w), .int (Int32.ofInt p), .int (Int32.ofInt w2), .int (Int32.ofInt p2)] (mr_row a R σ) = some (some (.int (Int32.ofInt (R 1))), mr_row a (mg_line R w p w2 p2) σ) := by
  rw [E_177]
  simp (disch := omega) only [Int.reduceAdd, Int.reduceMul, Int.reduceSub, Int.reduceNeg, na_add, na_sub, na_mul, na_neg, na_lt, na_le, na_eq, na_ofNat, bo_some, tl_some, tl_none, rc_int, rc_ref, rc_null, rc_none, rc_long, tb_0, tb_1, ↓mr_g0, mr_r0, mr_get, mr_upd, mr_at, mr_wr, Classical.not_not, not_true_eq_false, not_false_eq_true, na_l0, na_l1, na_l2, na_l3, na_l4, na_l5, na_l6, na_l7, na_l8, na_l9, na_l10, na_l14, na_l15, na_l16, na_l25, na_l30, na_l31, na_l32, na_l33, na_l39, na_l43, na_l45, na_l48, na_l49, na_l50, na_l51, na_l52, na_l53, na_l55, na_l56, na_l57, na_l60, na_l64, na_l71, na_l80, na_l96, na_l100, na_l101, na_l102, na_l103, na_l104, na_l105, na_l106, na_l107, na_l108, na_l109, na_l110, na_l111, na_l112, na_l113, na_l114, na_l115, na_l116, na_l117, na_l118, na_l119, na_l120, na_l121, na_l125, na_l128, na_l150, na_l192, na_l255, na_l999, na_l1000, na_l1248, na_l1344, na_l1875, na_l10000, ↓reduceIte, pf_and, pe_le, pf_le, pe_lt, pf_lt, pe_eq, pf_eq, true_and, and_true, false_and, and_false, ms_eq, ms_ne, I_177_0, I_177_1]
  rfl
theorem c176 {w p w2 p2 : Int} (h1 : -2147483648 ≤ w) (h2 : w < 2147483648) (h3 : -2147483648 ≤ p) (h4 : p < 2147483648) (h5 : -2147483648 ≤ w2) (h6 : w2 < 2147483648) (h7 : -2147483648 ≤ p2) (h8 : p2 < 2147483648) (hi : mi K R) : cal 176 [.ref a, .int (Int32.ofInt w), .int (Int32.ofInt p), .int (Int32.ofInt w2), .int (Int32.ofInt p2)] (mr_row a R σ) = if (0 ≤ w ∧ w < R 0 ∧ 0 ≤ p ∧ p < R (9 + 10 * w + 0)) ∧ (0 ≤ w2 ∧ w2 < R 0 ∧ 0 ≤ p2 ∧ p2 < R (9 + 10 * w2 + 0)) ∧ w ≠ w2 ∧ R 1 < 8 then some (some (.int (Int32.ofInt 1)), mr_row a R σ) else some (some (.int (Int32.ofInt 0)), mr_row a R σ) := by
  have hc := hi.c
  rw [E_176]
  by_cases q1 : 0 ≤ w ∧ w < R 0 ∧ 0 ≤ p ∧ p < R (9 + 10 * w + 0) <;> by_cases q2 : 0 ≤ w2 ∧ w2 < R 0 ∧ 0 ≤ p2 ∧ p2 < R (9 + 10 * w2 + 0) <;> by_cases q3 : w = w2 <;> by_cases q4 : R 1 < 8 <;> simp (disch := omega) only [Int.reduceAdd, Int.reduceMul, Int.reduceSub, Int.reduceNeg, na_add, na_sub, na_mul, na_neg, na_lt, na_le, na_eq, na_ofNat, bo_some, tl_some, tl_none, rc_int, rc_ref, rc_null, rc_none, rc_long, tb_0, tb_1, ↓mr_g0, mr_r0, mr_get, mr_upd, mr_at, mr_wr, Classical.not_not, not_true_eq_false, not_false_eq_true, na_l0, na_l1, na_l2, na_l3, na_l4, na_l5, na_l6, na_l7, na_l8, na_l9, na_l10, na_l14, na_l15, na_l16, na_l25, na_l30, na_l31, na_l32, na_l33, na_l39, na_l43, na_l45, na_l48, na_l49, na_l50, na_l51, na_l52, na_l53, na_l55, na_l56, na_l57, na_l60, na_l64, na_l71, na_l80, na_l96, na_l100, na_l101, na_l102, na_l103, na_l104, na_l105, na_l106, na_l107, na_l108, na_l109, na_l110, na_l111, na_l112, na_l113, na_l114, na_l115, na_l116, na_l117, na_l118, na_l119, na_l120, na_l121, na_l125, na_l128, na_l150, na_l192, na_l255, na_l999, na_l1000, na_l1248, na_l1344, na_l1875, na_l10000, ↓reduceIte, pf_and, pe_le, pf_le, pe_lt, pf_lt, pe_eq, pf_eq, true_and, and_true, false_and, and_false, nb_neg, nb_wide, nb_lt, nb_gt, nb_l0, nb_l1, nb_l3, nb_l4, nb_l5, nb_l7, nb_l9, nb_l10, nb_l30, nb_l60, nb_l255, I_176, c153, hi, oi_bind, ne_eq]
theorem c178 {w p : Int} (h1 : -2147483648 ≤ w) (h2 : w < 2147483648) (h3 : -2147483648 ≤ p) (h4 : p < 2147483648) (hi : mi K R) : cal 178 [.ref a, .int (Int32.ofInt w), .int (Int32.ofInt p)] (mr_row a R σ) = if (0 ≤ w ∧ w < R 0 ∧ 0 ≤ p ∧ p < R (9 + 10 * w + 0)) ∧ mf_on R w (mf_pad R w p) = -1 ∧ R 2 < 5 then some (some (.int (Int32.ofInt 1)), mr_row a R σ) else some (some (.int (Int32.ofInt 0)), mr_row a R σ) := by
  have hc := hi.c
  rw [E_178]
  by_cases q1 : 0 ≤ w ∧ w < R 0 ∧ 0 ≤ p ∧ p < R (9 + 10 * w + 0)
  · have hw := hi.w q1.1 q1.2.1
    have hp := mf_pad_bd (R := R) (w := w) p (by omega)
    have hb := mf_on_bd hi w (mf_pad R w p)
    by_cases q2 : mf_on R w (mf_pad R w p) = -1 <;> by_cases q4 : R 2 < 5 <;> simp (disch := omega) only [Int.reduceAdd, Int.reduceMul, Int.reduceSub, Int.reduceNeg, na_add, na_sub, na_mul, na_neg, na_lt, na_le, na_eq, na_ofNat, bo_some, tl_some, tl_none, rc_int, rc_ref, rc_null, rc_none, rc_long, tb_0, tb_1, ↓mr_g0, mr_r0, mr_get, mr_upd, mr_at, mr_wr, Classical.not_not, not_true_eq_false, not_false_eq_true, na_l0, na_l1, na_l2, na_l3, na_l4, na_l5, na_l6, na_l7, na_l8, na_l9, na_l10, na_l14, na_l15, na_l16, na_l25, na_l30, na_l31, na_l32, na_l33, na_l39, na_l43, na_l45, na_l48, na_l49, na_l50, na_l51, na_l52, na_l53, na_l55, na_l56, na_l57, na_l60, na_l64, na_l71, na_l80, na_l96, na_l100, na_l101, na_l102, na_l103, na_l104, na_l105, na_l106, na_l107, na_l108, na_l109, na_l110, na_l111, na_l112, na_l113, na_l114, na_l115, na_l116, na_l117, na_l118, na_l119, na_l120, na_l121, na_l125, na_l128, na_l150, na_l192, na_l255, na_l999, na_l1000, na_l1248, na_l1344, na_l1875, na_l10000, ↓reduceIte, pf_and, pe_le, pf_le, pe_lt, pf_lt, pe_eq, pf_eq, true_and, and_true, false_and, and_false, nb_neg, nb_wide, nb_lt, nb_gt, nb_l0, nb_l1, nb_l3, nb_l4, nb_l5, nb_l7, nb_l9, nb_l10, nb_l30, nb_l60, nb_l255, I_178, c153, hi, oi_bind, c157, c159 hi]
  · simp (disch := omega) only [Int.reduceAdd, Int.reduceMul, Int.reduceSub, Int.reduceNeg, na_add, na_sub, na_mul, na_neg, na_lt, na_le, na_eq, na_ofNat, bo_some, tl_some, tl_none, rc_int, rc_ref, rc_null, rc_none, rc_long, tb_0, tb_1, ↓mr_g0, mr_r0, mr_get, mr_upd, mr_at, mr_wr, Classical.not_not, not_true_eq_false, not_false_eq_true, na_l0, na_l1, na_l2, na_l3, na_l4, na_l5, na_l6, na_l7, na_l8, na_l9, na_l10, na_l14, na_l15, na_l16, na_l25, na_l30, na_l31, na_l32, na_l33, na_l39, na_l43, na_l45, na_l48, na_l49, na_l50, na_l51, na_l52, na_l53, na_l55, na_l56, na_l57, na_l60, na_l64, na_l71, na_l80, na_l96, na_l100, na_l101, na_l102, na_l103, na_l104, na_l105, na_l106, na_l107, na_l108, na_l109, na_l110, na_l111, na_l112, na_l113, na_l114, na_l115, na_l116, na_l117, na_l118, na_l119, na_l120, na_l121, na_l125, na_l128, na_l150, na_l192, na_l255, na_l999, na_l1000, na_l1248, na_l1344, na_l1875, na_l10000, ↓reduceIte, pf_and, pe_le, pf_le, pe_lt, pf_lt, pe_eq, pf_eq, true_and, and_true, false_and, and_false, nb_neg, nb_wide, nb_lt, nb_gt, nb_l0, nb_l1, nb_l3, nb_l4, nb_l5, nb_l7, nb_l9, nb_l10, nb_l30, nb_l60, nb_l255, I_178, c153, hi, oi_bind]
theorem c179 {w p g : Int} (hi : mi K R) (h1 : 0 ≤ w) (h2 : w < R 0) (h3 : 0 ≤ p) (h4 : p < 5) (h5 : R 2 < 5) : cal 179 [.ref a, .int (Int32.ofInt w), .int (Int32.ofInt p), .int (Int32.ofInt g)] (mr_row a R σ) = some (some (.int (Int32.ofInt (R 2))), mr_row a (mg_frog R w p g) σ) := by
  have hc := hi.c
  have hw := hi.w h1 h2
  have e : mf_pad (mr_st (mr_st R (71 + 5 * R 2 + 0) g) (71 + 5 * R 2 + 1) w) w p = mf_pad R w p := by unfold mf_pad; simp (disch := omega) only [ms_ne]
  have h57 : cal 157 [.ref a, .int (Int32.ofInt w), .int (Int32.ofInt p)] (mr_row a (mr_st (mr_st R (71 + 5 * R 2 + 0) g) (71 + 5 * R 2 + 1) w) σ) = some (some (.int (Int32.ofInt (mf_pad R w p))), mr_row a (mr_st (mr_st R (71 + 5 * R 2 + 0) g) (71 + 5 * R 2 + 1) w) σ) := by
    rw [← e]
    exact c157 h1 (by omega) (by omega) (by omega) (by simp (disch := omega) only [ms_ne]; omega) (by simp (disch := omega) only [ms_ne]; omega) (by simp (disch := omega) only [ms_ne]; omega) (by simp (disch := omega) only [ms_ne]; omega)
  rw [E_179]
  simp (disch := omega) only [Int.reduceAdd, Int.reduceMul, Int.reduceSub, Int.reduceNeg, na_add, na_sub, na_mul, na_neg, na_lt, na_le, na_eq, na_ofNat, bo_some, tl_some, tl_none, rc_int, rc_ref, rc_null, rc_none, rc_long, tb_0, tb_1, ↓mr_g0, mr_r0, mr_get, mr_upd, mr_at, mr_wr, Classical.not_not, not_true_eq_false, not_false_eq_true, na_l0, na_l1, na_l2, na_l3, na_l4, na_l5, na_l6, na_l7, na_l8, na_l9, na_l10, na_l14, na_l15, na_l16, na_l25, na_l30, na_l31, na_l32, na_l33, na_l39, na_l43, na_l45, na_l48, na_l49, na_l50, na_l51, na_l52, na_l53, na_l55, na_l56, na_l57, na_l60, na_l64, na_l71, na_l80, na_l96, na_l100, na_l101, na_l102, na_l103, na_l104, na_l105, na_l106, na_l107, na_l108, na_l109, na_l110, na_l111, na_l112, na_l113, na_l114, na_l115, na_l116, na_l117, na_l118, na_l119, na_l120, na_l121, na_l125, na_l128, na_l150, na_l192, na_l255, na_l999, na_l1000, na_l1248, na_l1344, na_l1875, na_l10000, ↓reduceIte, pf_and, pe_le, pf_le, pe_lt, pf_lt, pe_eq, pf_eq, true_and, and_true, false_and, and_false, ms_eq, ms_ne, I_179_0, I_179_1, h57]
  rfl
theorem c180 {w p n : Int} (hi : mi K R) (h1 : 0 ≤ w) (h2 : w < R 0) (h3 : 0 ≤ p) (h4 : p < 5) (h5 : 0 ≤ n) (h6 : n ≤ 9) : cal 180 [.ref a, .int (Int32.ofInt w), .int (Int32.ofInt p), .int (Int32.ofInt n)] (mr_row a R σ) = some (some (.int (Int32.ofInt (R (9 + 10 * w + 5 + mf_pad R w p) + n - mf_more R w p n))), mr_row a (mg_bring R w p n) σ) := by
  have hc := hi.c
  have hw := hi.w h1 h2
  have hp := mf_pad_bd (R := R) (w := w) p (by omega)
  have hy := hi.y (w := w) (k := mf_pad R w p) h1 h2 (by omega) (by omega)
  unfold mg_bring mf_more
  rw [E_180]
  by_cases q : 9 < R (9 + 10 * w + 5 + mf_pad R w p) + n <;> simp (disch := omega) only [Int.reduceAdd, Int.reduceMul, Int.reduceSub, Int.reduceNeg, na_add, na_sub, na_mul, na_neg, na_lt, na_le, na_eq, na_ofNat, bo_some, tl_some, tl_none, rc_int, rc_ref, rc_null, rc_none, rc_long, tb_0, tb_1, ↓mr_g0, mr_r0, mr_get, mr_upd, mr_at, mr_wr, Classical.not_not, not_true_eq_false, not_false_eq_true, na_l0, na_l1, na_l2, na_l3, na_l4, na_l5, na_l6, na_l7, na_l8, na_l9, na_l10, na_l14, na_l15, na_l16, na_l25, na_l30, na_l31, na_l32, na_l33, na_l39, na_l43, na_l45, na_l48, na_l49, na_l50, na_l51, na_l52, na_l53, na_l55, na_l56, na_l57, na_l60, na_l64, na_l71, na_l80, na_l96, na_l100, na_l101, na_l102, na_l103, na_l104, na_l105, na_l106, na_l107, na_l108, na_l109, na_l110, na_l111, na_l112, na_l113, na_l114, na_l115, na_l116, na_l117, na_l118, na_l119, na_l120, na_l121, na_l125, na_l128, na_l150, na_l192, na_l255, na_l999, na_l1000, na_l1248, na_l1344, na_l1875, na_l10000, ↓reduceIte, pf_and, pe_le, pf_le, pe_lt, pf_lt, pe_eq, pf_eq, true_and, and_true, false_and, and_false, ms_eq, ms_ne, I_180_0, I_180_1, c157, ms_up]
theorem c181 {w k : Int} (hi : mi K R) (h1 : 0 ≤ w) (h2 : w < R 0) (h3 : -4 ≤ k) (h4 : k ≤ 4) : cal 181 [.ref a, .int (Int32.ofInt w), .int (Int32.ofInt k)] (mr_row a R σ) = some (some (.int (Int32.ofInt ((R (9 + 10 * w + 3) + k) % R (9 + 10 * w + 0)))), mr_row a (mg_turn R w k) σ) := by
  have hc := hi.c
  rw [E_181]
  simp (disch := omega) only [Int.reduceAdd, Int.reduceMul, Int.reduceSub, Int.reduceNeg, na_add, na_sub, na_mul, na_neg, na_lt, na_le, na_eq, na_ofNat, bo_some, tl_some, tl_none, rc_int, rc_ref, rc_null, rc_none, rc_long, tb_0, tb_1, ↓mr_g0, mr_r0, mr_get, mr_upd, mr_at, mr_wr, Classical.not_not, not_true_eq_false, not_false_eq_true, na_l0, na_l1, na_l2, na_l3, na_l4, na_l5, na_l6, na_l7, na_l8, na_l9, na_l10, na_l14, na_l15, na_l16, na_l25, na_l30, na_l31, na_l32, na_l33, na_l39, na_l43, na_l45, na_l48, na_l49, na_l50, na_l51, na_l52, na_l53, na_l55, na_l56, na_l57, na_l60, na_l64, na_l71, na_l80, na_l96, na_l100, na_l101, na_l102, na_l103, na_l104, na_l105, na_l106, na_l107, na_l108, na_l109, na_l110, na_l111, na_l112, na_l113, na_l114, na_l115, na_l116, na_l117, na_l118, na_l119, na_l120, na_l121, na_l125, na_l128, na_l150, na_l192, na_l255, na_l999, na_l1000, na_l1248, na_l1344, na_l1875, na_l10000, ↓reduceIte, pf_and, pe_le, pf_le, pe_lt, pf_lt, pe_eq, pf_eq, true_and, and_true, false_and, and_false, ms_eq, ms_ne, I_181, c168 hi, c149]
  unfold mg_turn
  rw [ms_eq rfl]
end MO
/-! What is kept. -/
theorem mi_wheel {K : Int} {R : mr_R} (hi : mi K R) {n no s : Int} (q : (3 ≤ n ∧ n ≤ 5) ∧ (-4 ≤ no ∧ no ≤ 4) ∧ (0 ≤ s ∧ s ≤ 30)) (h : R 0 < 3) : mi K (mg_wheel R n no s) := by
  have hc := hi.c
  have e1 : ∀ u k : Int, 0 ≤ u → u < R 0 → 0 ≤ k → k < 10 → mg_wheel R n no s (9 + 10 * u + k) = R (9 + 10 * u + k) := fun u k a1 a2 a3 a4 => by
    unfold mg_wheel mg_zero
    simp (disch := omega) only [ms_ne]
  have e2 : ∀ i : Int, i ≠ 0 → (i < 9 ∨ 39 ≤ i) → mg_wheel R n no s i = R i := fun i a1 a2 => by
    unfold mg_wheel mg_zero
    simp (disch := omega) only [ms_ne]
  have e0 : mg_wheel R n no s 0 = R 0 + 1 := by unfold mg_wheel; rw [ms_eq rfl]
  have en : mg_wheel R n no s (9 + 10 * R 0 + 0) = n := by
    unfold mg_wheel
    simp (disch := omega) only [ms_eq, ms_ne]
  have eo : mg_wheel R n no s (9 + 10 * R 0 + 1) = no := by
    unfold mg_wheel
    simp (disch := omega) only [ms_eq, ms_ne]
  have es : mg_wheel R n no s (9 + 10 * R 0 + 2) = s := by
    unfold mg_wheel
    simp (disch := omega) only [ms_eq, ms_ne]
  have ez : ∀ k : Int, 3 ≤ k → k < 10 → mg_wheel R n no s (9 + 10 * R 0 + k) = 0 := fun k a1 a2 => by
    have : k = 3 ∨ k = 4 ∨ k = 5 ∨ k = 6 ∨ k = 7 ∨ k = 8 ∨ k = 9 := by omega
    unfold mg_wheel mg_zero
    rcases this with rfl | rfl | rfl | rfl | rfl | rfl | rfl <;> simp (disch := omega) only [ms_eq, ms_ne]
  refine ⟨⟨hi.k, ?_⟩, ?_, ?_, ?_, ?_, ?_, ?_⟩
  · unfold mi_C
    rw [e0]
    simp (disch := omega) only [e2]
    omega
  · intro u h1 h2
    rw [e0] at h2
    by_cases b : u < R 0
    · have q := hi.w h1 b
      simp (disch := omega) only [e1]
      exact q
    · obtain rfl : u = R 0 := by omega
      rw [en, eo, es, ez 3 (by omega) (by omega), ez 4 (by omega) (by omega)]
      omega
  · intro u k h1 h2 h3 h4
    rw [e0] at h2
    by_cases b : u < R 0
    · have q := hi.y h1 b h3 h4
      rw [show 9 + 10 * u + 5 + k = 9 + 10 * u + (5 + k) by omega] at q ⊢
      simp (disch := omega) only [e1]
      exact q
    · obtain rfl : u = R 0 := by omega
      rw [show 9 + 10 * R 0 + 5 + k = 9 + 10 * R 0 + (5 + k) by omega, ez (5 + k) (by omega) (by omega)]
      omega
  · intro l h1 h2
    rw [e2 1 (by omega) (by omega)] at h2
    have q := hi.l h1 h2
    simp (disch := omega) only [e0, e1, e2]
    omega
  · intro f h1 h2
    rw [e2 2 (by omega) (by omega)] at h2
    have q := hi.f h1 h2
    simp (disch := omega) only [e0, e1, e2]
    omega
  · intro f g h1 h2 h3 h4
    rw [e2 2 (by omega) (by omega)] at h2 h4
    simp (disch := omega) only [e2]
    exact hi.d h1 h2 h3 h4
  · intro i h1
    rw [e2 i (by omega) (by omega)]
    exact hi.z h1
theorem mi_line {K : Int} {R : mr_R} (hi : mi K R) {w p w2 p2 : Int} (q : (0 ≤ w ∧ w < R 0 ∧ 0 ≤ p ∧ p < R (9 + 10 * w + 0)) ∧ (0 ≤ w2 ∧ w2 < R 0 ∧ 0 ≤ p2 ∧ p2 < R (9 + 10 * w2 + 0)) ∧ w ≠ w2 ∧ R 1 < 8) : mi K (mg_line R w p w2 p2) := by
  have hc := hi.c
  unfold mg_line
  refine ⟨⟨hi.k, ?_⟩, ?_, ?_, ?_, ?_, ?_, ?_⟩
  · unfold mi_C
    simp (disch := omega) only [ms_eq, ms_ne]
    omega
  · intro u h1 h2
    simp (disch := omega) only [ms_ne] at h2
    have q := hi.w h1 h2
    simp (disch := omega) only [ms_ne]
    exact q
  · intro u k h1 h2 h3 h4
    simp (disch := omega) only [ms_ne] at h2
    have q := hi.y h1 h2 h3 h4
    simp (disch := omega) only [ms_ne]
    exact q
  · intro l h1 h2
    simp (disch := omega) only [ms_eq] at h2
    by_cases b : l < R 1
    · have q := hi.l h1 b
      simp (disch := omega) only [ms_ne]
      exact q
    · obtain rfl : l = R 1 := by omega
      simp (disch := omega) only [ms_eq, ms_ne]
      omega
  · intro f h1 h2
    simp (disch := omega) only [ms_ne] at h2
    have q := hi.f h1 h2
    simp (disch := omega) only [ms_ne]
    exact q
  · intro f g h1 h2 h3 h4
    simp (disch := omega) only [ms_ne] at h2 h4 ⊢
    exact hi.d h1 h2 h3 h4
  · intro i h1
    simp (disch := omega) only [ms_ne]
    exact hi.z h1
theorem mi_frog {K : Int} {R : mr_R} (hi : mi K R) (hk : 0 ≤ K) {w p g : Int} (q : (0 ≤ w ∧ w < R 0 ∧ 0 ≤ p ∧ p < R (9 + 10 * w + 0)) ∧ mf_on R w (mf_pad R w p) = -1 ∧ R 2 < 5) (q2 : 1 ≤ g ∧ g ≤ 9) : mi K (mg_frog R w p g) := by
  have hc := hi.c
  have hw := hi.w q.1.1 q.1.2.1
  have hp := mf_pad_bd (R := R) (w := w) p (by omega)
  have hn := (mf_on_no hi).mp q.2.1
  unfold mg_frog
  refine ⟨⟨hi.k, ?_⟩, ?_, ?_, ?_, ?_, ?_, ?_⟩
  · unfold mi_C
    simp (disch := omega) only [ms_eq, ms_ne]
    omega
  · intro u h1 h2
    simp (disch := omega) only [ms_ne] at h2
    have q := hi.w h1 h2
    simp (disch := omega) only [ms_ne]
    exact q
  · intro u k h1 h2 h3 h4
    simp (disch := omega) only [ms_ne] at h2
    have q := hi.y h1 h2 h3 h4
    simp (disch := omega) only [ms_ne]
    exact q
  · intro l h1 h2
    simp (disch := omega) only [ms_ne] at h2
    have q := hi.l h1 h2
    simp (disch := omega) only [ms_ne]
    exact q
  · intro f h1 h2
    simp (disch := omega) only [ms_eq] at h2
    by_cases b : f < R 2
    · have q := hi.f h1 b
      simp (disch := omega) only [ms_ne]
      exact q
    · obtain rfl : f = R 2 := by omega
      simp (disch := omega) only [ms_eq, ms_ne]
      omega
  · intro f f2 h1 h2 h3 h4
    simp (disch := omega) only [ms_eq] at h2 h4
    by_cases b : f < R 2
    · by_cases b2 : f2 < R 2
      · simp (disch := omega) only [ms_ne]
        exact hi.d h1 b h3 b2
      · obtain rfl : f2 = R 2 := by omega
        simp (disch := omega) only [ms_eq, ms_ne]
        intro x1 x2
        exact absurd ⟨x1, x2⟩ (hn f h1 b)
    · obtain rfl : f = R 2 := by omega
      by_cases b2 : f2 < R 2
      · simp (disch := omega) only [ms_eq, ms_ne]
        intro x1 x2
        exact absurd ⟨x1.symm, x2.symm⟩ (hn f2 h3 b2)
      · intro _ _; omega
  · intro i h1
    simp (disch := omega) only [ms_ne]
    exact hi.z h1
theorem mi_bring {K : Int} {R : mr_R} (hi : mi K R) (hk : K + 9 ≤ 1000000) {w p n : Int} (h1 : 0 ≤ w) (h2 : w < R 0) (h5 : 0 ≤ n) (h6 : n ≤ 9) : mi (K + 9) (mg_bring R w p n) := by
  have hc := hi.c
  have hw := hi.w h1 h2
  have hp := mf_pad_bd (R := R) (w := w) p (by omega)
  have hy := hi.y (w := w) (k := mf_pad R w p) h1 h2 (by omega) (by omega)
  have hm : 0 ≤ mf_more R w p n ∧ mf_more R w p n ≤ 9 ∧ 0 ≤ R (9 + 10 * w + 5 + mf_pad R w p) + n - mf_more R w p n ∧ R (9 + 10 * w + 5 + mf_pad R w p) + n - mf_more R w p n ≤ 9 := by
    unfold mf_more
    split <;> omega
  have i1 := mi_ctr (k := 6) (v := R 6 + n) (mi_mono hi (K2 := K + 9) (by omega) hk) (by omega) (by omega) (by omega) (by omega)
  have i2 := mi_fly i1 (w := w) (p := mf_pad R w p) (v := R (9 + 10 * w + 5 + mf_pad R w p) + n - mf_more R w p n) h1 (by simp (disch := omega) only [ms_ne]; exact h2) hp.1 (by simp (disch := omega) only [ms_ne]; exact hp.2) (by omega) (by omega)
  exact mi_ctr (k := 5) (v := R 5 + mf_more R w p n) i2 (by omega) (by omega) (by omega) (by omega)
