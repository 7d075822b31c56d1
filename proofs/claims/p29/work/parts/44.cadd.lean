/-! What the class adds to a pond. -/
section CP
variable {K : Int} {B : Nat} {R Z : mr_R} {σ : ri_S}
set_option maxRecDepth 8000 in
theorem c99 {n no s : Int} (hb : 0 ≤ R 0 ∧ R 0 ≤ 3 ∧ 0 ≤ R 1 ∧ R 1 ≤ 8 ∧ 0 ≤ R 2 ∧ R 2 ≤ 5) (h2 : R 0 < 3) : cal 99 [.ref (B + 1), .int (Int32.ofInt n), .int (Int32.ofInt no), .int (Int32.ofInt s)] (mp B R Z σ) = some (some (.int (Int32.ofInt (R 0))), mp B (mg_wheel R n no s) Z σ) := by
  rw [E_99]
  simp (disch := first | omega | (simp (disch := omega) only [ms_eq, ms_ne, mg_eat_of, mg_seat_of] <;> omega) | fail) only [Int.reduceAdd, Int.reduceMul, Int.reduceSub, Int.reduceNeg, na_add, na_sub, na_mul, na_neg, na_lt, na_le, na_eq, na_ofNat, bo_some, tl_some, tl_none, rc_int, rc_ref, rc_null, rc_none, rc_long, tb_0, tb_1, ↓mr_g0, mr_r0, mr_get, mr_upd, mr_at, mr_wr, Classical.not_not, not_true_eq_false, not_false_eq_true, na_l0, na_l1, na_l2, na_l3, na_l4, na_l5, na_l6, na_l7, na_l8, na_l9, na_l10, na_l14, na_l15, na_l16, na_l25, na_l30, na_l31, na_l32, na_l33, na_l39, na_l43, na_l45, na_l48, na_l49, na_l50, na_l51, na_l52, na_l53, na_l55, na_l56, na_l57, na_l60, na_l64, na_l71, na_l80, na_l96, na_l100, na_l101, na_l102, na_l103, na_l104, na_l105, na_l106, na_l107, na_l108, na_l109, na_l110, na_l111, na_l112, na_l113, na_l114, na_l115, na_l116, na_l117, na_l118, na_l119, na_l120, na_l121, na_l125, na_l128, na_l150, na_l192, na_l255, na_l999, na_l1000, na_l1248, na_l1344, na_l1875, na_l10000, ↓reduceIte, pf_and, pe_le, pf_le, pe_lt, pf_lt, pe_eq, pf_eq, true_and, and_true, false_and, and_false, ↓mpk_0, ↓mpk_1, ↓mpk_8, ↓mpk_11, ↓mpo_0_0, ↓mpo_0_1, ↓mpo_0_2, ↓mpo_0_3, ↓mpo_0_4, ↓mpo_0_5, ↓mpo_0_6, ↓mpo_0_7, ↓mpo_0_8, ↓mpo_1_0, ↓mpo_1_1, ↓mpo_1_2, ↓mpo_1_3, ↓mpo_1_4, ↓mpo_1_5, ↓mpo_1_6, ↓mpo_8_0, ↓mpo_8_1, ↓mpo_8_2, ↓mpo_11_0, ↓mpo_11_1, ↓mpo_11_2, ↓mpo_11_3, ↓mpo_11_4, ↓mpo_11_5, q140_2, q140_3, q140_4, q140_5, q140_6, q140_7, q140_9, q140_10, q140_12, q140_13, q140_14, q140_15, q140_16, mpl_w, mpl_y, mpl_l0, mpl_l2, mpl_f, c137, c138, c139, d141_2, d141_3, d141_4, d141_5, d141_6, d141_7, d141_9, d141_10, d141_12, d141_13, d141_14, d141_15, d141_16, ↓mpv_1_0, ↓mpv_8_0, ↓mpv_11_0, mpn_w, mpn_l, mpn_f, I_99_0, I_99_1, H_99_59]
  rw [← mp_Z (Z := Z)]
  · refine congrArg (fun X => some (some (Value.int (Int32.ofInt (R 0))), mp B X Z σ)) (funext fun i => ?_)
    unfold mx_w mg_wheel mg_zero
    by_cases q : i = 0
    · rw [if_pos q, ms_eq q]
    · rw [if_neg q, ms_ne q]
      by_cases q2 : 9 + 10 * R 0 ≤ i ∧ i < 9 + 10 * R 0 + 10
      · rw [if_pos q2]
        have : i = 9 + 10 * R 0 + 0 ∨ i = 9 + 10 * R 0 + 1 ∨ i = 9 + 10 * R 0 + 2 ∨ i = 9 + 10 * R 0 + 3 ∨ i = 9 + 10 * R 0 + 4 ∨ i = 9 + 10 * R 0 + 5 ∨ i = 9 + 10 * R 0 + 6 ∨ i = 9 + 10 * R 0 + 7 ∨ i = 9 + 10 * R 0 + 8 ∨ i = 9 + 10 * R 0 + 9 := by omega
        rcases this with e | e | e | e | e | e | e | e | e | e <;> subst e <;> simp (disch := omega) only [ms_eq, ms_ne]
      · rw [if_neg q2]
        simp (disch := omega) only [ms_ne]
  · have e0 : ∀ X, mx_w R X 0 = R 0 + 1 := fun X => if_pos rfl
    intro w k a1 a2 a3 a4
    rw [e0] at a1
    simp (disch := omega) only [ms_ne]
  · have e0 : ∀ X, mx_w R X 1 = R 1 := fun X => by unfold mx_w; rw [if_neg (by omega), if_neg (by omega)]
    intro l k a1 a2 a3 a4
    rw [e0] at a1
    simp (disch := omega) only [ms_ne]
  · have e0 : ∀ X, mx_w R X 2 = R 2 := fun X => by unfold mx_w; rw [if_neg (by omega), if_neg (by omega)]
    intro f k a1 a2 a3 a4
    rw [e0] at a1
    simp (disch := omega) only [ms_ne]
theorem c15 {w p w2 p2 : Int} (hb : 0 ≤ R 0 ∧ R 0 ≤ 3 ∧ 0 ≤ R 1 ∧ R 1 ≤ 8 ∧ 0 ≤ R 2 ∧ R 2 ≤ 5) (h2 : R 1 < 8) : cal 15 [.ref (B + 8), .int (Int32.ofInt (w * 5 + p)), .int (Int32.ofInt (w2 * 5 + p2))] (mp B R Z σ) = some (some (.int (Int32.ofInt (R 1))), mp B (mg_line R w p w2 p2) Z σ) := by
  rw [E_15]
  simp (disch := first | omega | (simp (disch := omega) only [ms_eq, ms_ne, mg_eat_of, mg_seat_of] <;> omega) | fail) only [Int.reduceAdd, Int.reduceMul, Int.reduceSub, Int.reduceNeg, na_add, na_sub, na_mul, na_neg, na_lt, na_le, na_eq, na_ofNat, bo_some, tl_some, tl_none, rc_int, rc_ref, rc_null, rc_none, rc_long, tb_0, tb_1, ↓mr_g0, mr_r0, mr_get, mr_upd, mr_at, mr_wr, Classical.not_not, not_true_eq_false, not_false_eq_true, na_l0, na_l1, na_l2, na_l3, na_l4, na_l5, na_l6, na_l7, na_l8, na_l9, na_l10, na_l14, na_l15, na_l16, na_l25, na_l30, na_l31, na_l32, na_l33, na_l39, na_l43, na_l45, na_l48, na_l49, na_l50, na_l51, na_l52, na_l53, na_l55, na_l56, na_l57, na_l60, na_l64, na_l71, na_l80, na_l96, na_l100, na_l101, na_l102, na_l103, na_l104, na_l105, na_l106, na_l107, na_l108, na_l109, na_l110, na_l111, na_l112, na_l113, na_l114, na_l115, na_l116, na_l117, na_l118, na_l119, na_l120, na_l121, na_l125, na_l128, na_l150, na_l192, na_l255, na_l999, na_l1000, na_l1248, na_l1344, na_l1875, na_l10000, ↓reduceIte, pf_and, pe_le, pf_le, pe_lt, pf_lt, pe_eq, pf_eq, true_and, and_true, false_and, and_false, ↓mpk_0, ↓mpk_1, ↓mpk_8, ↓mpk_11, ↓mpo_0_0, ↓mpo_0_1, ↓mpo_0_2, ↓mpo_0_3, ↓mpo_0_4, ↓mpo_0_5, ↓mpo_0_6, ↓mpo_0_7, ↓mpo_0_8, ↓mpo_1_0, ↓mpo_1_1, ↓mpo_1_2, ↓mpo_1_3, ↓mpo_1_4, ↓mpo_1_5, ↓mpo_1_6, ↓mpo_8_0, ↓mpo_8_1, ↓mpo_8_2, ↓mpo_11_0, ↓mpo_11_1, ↓mpo_11_2, ↓mpo_11_3, ↓mpo_11_4, ↓mpo_11_5, q140_2, q140_3, q140_4, q140_5, q140_6, q140_7, q140_9, q140_10, q140_12, q140_13, q140_14, q140_15, q140_16, mpl_w, mpl_y, mpl_l0, mpl_l2, mpl_f, c137, c138, c139, d141_2, d141_3, d141_4, d141_5, d141_6, d141_7, d141_9, d141_10, d141_12, d141_13, d141_14, d141_15, d141_16, ↓mpv_1_0, ↓mpv_8_0, ↓mpv_11_0, mpn_w, mpn_l, mpn_f, I_15]
  rw [← mp_Z (Z := Z)]
  · refine congrArg (fun X => some (some (Value.int (Int32.ofInt (R 1))), mp B X Z σ)) (funext fun i => ?_)
    unfold mx_l mg_line
    by_cases q : i = 1
    · rw [if_pos q, ms_eq q]
    · rw [if_neg q, ms_ne q]
      by_cases q2 : 39 + 4 * R 1 ≤ i ∧ i < 39 + 4 * R 1 + 4
      · rw [if_pos q2]
        have : i = 39 + 4 * R 1 ∨ i = 39 + 4 * R 1 + 1 ∨ i = 39 + 4 * R 1 + 2 ∨ i = 39 + 4 * R 1 + 3 := by omega
        rcases this with e | e | e | e <;> subst e <;> simp (disch := omega) only [ms_eq, ms_ne]
      · rw [if_neg q2]
        simp (disch := omega) only [ms_ne]
  · have e0 : ∀ X, mx_l R X 0 = R 0 := fun X => by unfold mx_l; rw [if_neg (by omega), if_neg (by omega)]
    intro w k a1 a2 a3 a4
    rw [e0] at a1
    simp (disch := omega) only [ms_ne]
  · have e0 : ∀ X, mx_l R X 1 = R 1 + 1 := fun X => if_pos rfl
    intro l k a1 a2 a3 a4
    rw [e0] at a1
    simp (disch := omega) only [ms_ne]
  · have e0 : ∀ X, mx_l R X 2 = R 2 := fun X => by unfold mx_l; rw [if_neg (by omega), if_neg (by omega)]
    intro f k a1 a2 a3 a4
    rw [e0] at a1
    simp (disch := omega) only [ms_ne]
theorem c2 {w p g : Int} (hb : 0 ≤ R 0 ∧ R 0 ≤ 3 ∧ 0 ≤ R 1 ∧ R 1 ≤ 8 ∧ 0 ≤ R 2 ∧ R 2 ≤ 5) (h2 : R 2 < 5) : cal 2 [.ref (B + 11), .int (Int32.ofInt w), .int (Int32.ofInt (mf_pad R w p)), .int (Int32.ofInt g)] (mp B R Z σ) = some (some (.int (Int32.ofInt (R 2))), mp B (mg_frog R w p g) Z σ) := by
  rw [E_2]
  simp (disch := first | omega | (simp (disch := omega) only [ms_eq, ms_ne, mg_eat_of, mg_seat_of] <;> omega) | fail) only [Int.reduceAdd, Int.reduceMul, Int.reduceSub, Int.reduceNeg, na_add, na_sub, na_mul, na_neg, na_lt, na_le, na_eq, na_ofNat, bo_some, tl_some, tl_none, rc_int, rc_ref, rc_null, rc_none, rc_long, tb_0, tb_1, ↓mr_g0, mr_r0, mr_get, mr_upd, mr_at, mr_wr, Classical.not_not, not_true_eq_false, not_false_eq_true, na_l0, na_l1, na_l2, na_l3, na_l4, na_l5, na_l6, na_l7, na_l8, na_l9, na_l10, na_l14, na_l15, na_l16, na_l25, na_l30, na_l31, na_l32, na_l33, na_l39, na_l43, na_l45, na_l48, na_l49, na_l50, na_l51, na_l52, na_l53, na_l55, na_l56, na_l57, na_l60, na_l64, na_l71, na_l80, na_l96, na_l100, na_l101, na_l102, na_l103, na_l104, na_l105, na_l106, na_l107, na_l108, na_l109, na_l110, na_l111, na_l112, na_l113, na_l114, na_l115, na_l116, na_l117, na_l118, na_l119, na_l120, na_l121, na_l125, na_l128, na_l150, na_l192, na_l255, na_l999, na_l1000, na_l1248, na_l1344, na_l1875, na_l10000, ↓reduceIte, pf_and, pe_le, pf_le, pe_lt, pf_lt, pe_eq, pf_eq, true_and, and_true, false_and, and_false, ↓mpk_0, ↓mpk_1, ↓mpk_8, ↓mpk_11, ↓mpo_0_0, ↓mpo_0_1, ↓mpo_0_2, ↓mpo_0_3, ↓mpo_0_4, ↓mpo_0_5, ↓mpo_0_6, ↓mpo_0_7, ↓mpo_0_8, ↓mpo_1_0, ↓mpo_1_1, ↓mpo_1_2, ↓mpo_1_3, ↓mpo_1_4, ↓mpo_1_5, ↓mpo_1_6, ↓mpo_8_0, ↓mpo_8_1, ↓mpo_8_2, ↓mpo_11_0, ↓mpo_11_1, ↓mpo_11_2, ↓mpo_11_3, ↓mpo_11_4, ↓mpo_11_5, q140_2, q140_3, q140_4, q140_5, q140_6, q140_7, q140_9, q140_10, q140_12, q140_13, q140_14, q140_15, q140_16, mpl_w, mpl_y, mpl_l0, mpl_l2, mpl_f, c137, c138, c139, d141_2, d141_3, d141_4, d141_5, d141_6, d141_7, d141_9, d141_10, d141_12, d141_13, d141_14, d141_15, d141_16, ↓mpv_1_0, ↓mpv_8_0, ↓mpv_11_0, mpn_w, mpn_l, mpn_f, I_2, E_3, I_3]
  rw [← mp_Z (Z := Z)]
  · refine congrArg (fun X => some (some (Value.int (Int32.ofInt (R 2))), mp B X Z σ)) (funext fun i => ?_)
    unfold mx_f mg_frog
    by_cases q : i = 2
    · rw [if_pos q, ms_eq q]
    · rw [if_neg q, ms_ne q]
      by_cases q2 : 71 + 5 * R 2 ≤ i ∧ i < 71 + 5 * R 2 + 5
      · rw [if_pos q2]
        have : i = 71 + 5 * R 2 + 0 ∨ i = 71 + 5 * R 2 + 1 ∨ i = 71 + 5 * R 2 + 2 ∨ i = 71 + 5 * R 2 + 3 ∨ i = 71 + 5 * R 2 + 4 := by omega
        rcases this with e | e | e | e | e <;> subst e <;> simp (disch := omega) only [ms_eq, ms_ne]
      · rw [if_neg q2]
        simp (disch := omega) only [ms_ne]
  · intro w k a1 a2 a3 a4
    simp (disch := omega) only [ms_ne]
  · intro l k a1 a2 a3 a4
    simp (disch := omega) only [ms_ne]
  · have e0 : ∀ X, mx_f R X 2 = R 2 + 1 := fun X => if_pos rfl
    intro f k a1 a2 a3 a4
    rw [e0] at a1
    simp (disch := omega) only [ms_ne]
/-! What is wrong with a call: 0, or which exception. -/
def mf_fW (R : mr_R) (n no s : Int) : Int := if (3 ≤ n ∧ n ≤ 5) ∧ (-4 ≤ no ∧ no ≤ 4) ∧ (0 ≤ s ∧ s ≤ 30) then (if R 0 < 3 then 0 else 3) else 2
def mf_fL (R : mr_R) (w p w2 p2 : Int) : Int := if (0 ≤ w ∧ w < R 0 ∧ 0 ≤ p ∧ p < R (9 + 10 * w + 0)) ∧ (0 ≤ w2 ∧ w2 < R 0 ∧ 0 ≤ p2 ∧ p2 < R (9 + 10 * w2 + 0)) then (if w = w2 then 2 else if R 1 < 8 then 0 else 3) else 1
def mf_fF (R : mr_R) (w p g : Int) : Int := if (0 ≤ w ∧ w < R 0 ∧ 0 ≤ p ∧ p < R (9 + 10 * w + 0)) then (if 1 ≤ g ∧ g ≤ 9 then (if mf_on R w (mf_pad R w p) = -1 ∧ R 2 < 5 then 0 else 3) else 2) else 1
def mf_fY (R : mr_R) (w p n : Int) : Int := if (0 ≤ w ∧ w < R 0 ∧ 0 ≤ p ∧ p < R (9 + 10 * w + 0)) then (if 1 ≤ n ∧ n ≤ 9 then 0 else 2) else 1
def mf_fT (R : mr_R) (w k : Int) : Int := if 0 ≤ w ∧ w < R 0 then (if -4 ≤ k ∧ k ≤ 4 then 0 else 2) else 1
theorem c23 {n no s : Int} (h1 : -2147483648 ≤ n) (h2 : n < 2147483648) (h3 : -2147483648 ≤ no) (h4 : no < 2147483648) (h5 : -2147483648 ≤ s) (h6 : s < 2147483648) (hi : mi K R) : cal 23 [.ref B, .int (Int32.ofInt n), .int (Int32.ofInt no), .int (Int32.ofInt s)] (mp B R Z σ) = some (some (.int (Int32.ofInt (mf_fW R n no s))), mp B R Z σ) := by
  have hc := hi.c
  rw [E_23]
  unfold mf_fW
  by_cases q1 : 3 ≤ n ∧ n ≤ 5 <;> by_cases q2 : -4 ≤ no ∧ no ≤ 4 <;> by_cases q3 : 0 ≤ s ∧ s ≤ 30 <;> by_cases q4 : R 0 < 3 <;> simp (disch := omega) only [Int.reduceAdd, Int.reduceMul, Int.reduceSub, Int.reduceNeg, na_add, na_sub, na_mul, na_neg, na_lt, na_le, na_eq, na_ofNat, bo_some, tl_some, tl_none, rc_int, rc_ref, rc_null, rc_none, rc_long, tb_0, tb_1, ↓mr_g0, mr_r0, mr_get, mr_upd, mr_at, mr_wr, Classical.not_not, not_true_eq_false, not_false_eq_true, na_l0, na_l1, na_l2, na_l3, na_l4, na_l5, na_l6, na_l7, na_l8, na_l9, na_l10, na_l14, na_l15, na_l16, na_l25, na_l30, na_l31, na_l32, na_l33, na_l39, na_l43, na_l45, na_l48, na_l49, na_l50, na_l51, na_l52, na_l53, na_l55, na_l56, na_l57, na_l60, na_l64, na_l71, na_l80, na_l96, na_l100, na_l101, na_l102, na_l103, na_l104, na_l105, na_l106, na_l107, na_l108, na_l109, na_l110, na_l111, na_l112, na_l113, na_l114, na_l115, na_l116, na_l117, na_l118, na_l119, na_l120, na_l121, na_l125, na_l128, na_l150, na_l192, na_l255, na_l999, na_l1000, na_l1248, na_l1344, na_l1875, na_l10000, ↓reduceIte, pf_and, pe_le, pf_le, pe_lt, pf_lt, pe_eq, pf_eq, true_and, and_true, false_and, and_false, ↓mpk_0, ↓mpk_1, ↓mpk_8, ↓mpk_11, ↓mpo_0_0, ↓mpo_0_1, ↓mpo_0_2, ↓mpo_0_3, ↓mpo_0_4, ↓mpo_0_5, ↓mpo_0_6, ↓mpo_0_7, ↓mpo_0_8, ↓mpo_1_0, ↓mpo_1_1, ↓mpo_1_2, ↓mpo_1_3, ↓mpo_1_4, ↓mpo_1_5, ↓mpo_1_6, ↓mpo_8_0, ↓mpo_8_1, ↓mpo_8_2, ↓mpo_11_0, ↓mpo_11_1, ↓mpo_11_2, ↓mpo_11_3, ↓mpo_11_4, ↓mpo_11_5, q140_2, q140_3, q140_4, q140_5, q140_6, q140_7, q140_9, q140_10, q140_12, q140_13, q140_14, q140_15, q140_16, mpl_w, mpl_y, mpl_l0, mpl_l2, mpl_f, c137, c138, c139, I_23, oi_bind]
theorem c24 {w p w2 p2 : Int} (h1 : -2147483648 ≤ w) (h2 : w < 2147483648) (h3 : -2147483648 ≤ p) (h4 : p < 2147483648) (h5 : -2147483648 ≤ w2) (h6 : w2 < 2147483648) (h7 : -2147483648 ≤ p2) (h8 : p2 < 2147483648) (hi : mi K R) : cal 24 [.ref B, .int (Int32.ofInt w), .int (Int32.ofInt p), .int (Int32.ofInt w2), .int (Int32.ofInt p2)] (mp B R Z σ) = some (some (.int (Int32.ofInt (mf_fL R w p w2 p2))), mp B R Z σ) := by
  have hc := hi.c
  rw [E_24]
  unfold mf_fL
  by_cases q1 : 0 ≤ w ∧ w < R 0 ∧ 0 ≤ p ∧ p < R (9 + 10 * w + 0) <;> by_cases q2 : 0 ≤ w2 ∧ w2 < R 0 ∧ 0 ≤ p2 ∧ p2 < R (9 + 10 * w2 + 0) <;> by_cases q3 : w = w2 <;> by_cases q4 : R 1 < 8 <;> simp (disch := omega) only [Int.reduceAdd, Int.reduceMul, Int.reduceSub, Int.reduceNeg, na_add, na_sub, na_mul, na_neg, na_lt, na_le, na_eq, na_ofNat, bo_some, tl_some, tl_none, rc_int, rc_ref, rc_null, rc_none, rc_long, tb_0, tb_1, ↓mr_g0, mr_r0, mr_get, mr_upd, mr_at, mr_wr, Classical.not_not, not_true_eq_false, not_false_eq_true, na_l0, na_l1, na_l2, na_l3, na_l4, na_l5, na_l6, na_l7, na_l8, na_l9, na_l10, na_l14, na_l15, na_l16, na_l25, na_l30, na_l31, na_l32, na_l33, na_l39, na_l43, na_l45, na_l48, na_l49, na_l50, na_l51, na_l52, na_l53, na_l55, na_l56, na_l57, na_l60, na_l64, na_l71, na_l80, na_l96, na_l100, na_l101, na_l102, na_l103, na_l104, na_l105, na_l106, na_l107, na_l108, na_l109, na_l110, na_l111, na_l112, na_l113, na_l114, na_l115, na_l116, na_l117, na_l118, na_l119, na_l120, na_l121, na_l125, na_l128, na_l150, na_l192, na_l255, na_l999, na_l1000, na_l1248, na_l1344, na_l1875, na_l10000, ↓reduceIte, pf_and, pe_le, pf_le, pe_lt, pf_lt, pe_eq, pf_eq, true_and, and_true, false_and, and_false, ↓mpk_0, ↓mpk_1, ↓mpk_8, ↓mpk_11, ↓mpo_0_0, ↓mpo_0_1, ↓mpo_0_2, ↓mpo_0_3, ↓mpo_0_4, ↓mpo_0_5, ↓mpo_0_6, ↓mpo_0_7, ↓mpo_0_8, ↓mpo_1_0, ↓mpo_1_1, ↓mpo_1_2, ↓mpo_1_3, ↓mpo_1_4, ↓mpo_1_5, ↓mpo_1_6, ↓mpo_8_0, ↓mpo_8_1, ↓mpo_8_2, ↓mpo_11_0, ↓mpo_11_1, ↓mpo_11_2, ↓mpo_11_3, ↓mpo_11_4, ↓mpo_11_5, q140_2, q140_3, q140_4, q140_5, q140_6, q140_7, q140_9, q140_10, q140_12, q140_13, q140_14, q140_15, q140_16, mpl_w, mpl_y, mpl_l0, mpl_l2, mpl_f, c137, c138, c139, I_24, oi_bind, c98, hi]
theorem c25 {w p g : Int} (h1 : -2147483648 ≤ w) (h2 : w < 2147483648) (h3 : -2147483648 ≤ p) (h4 : p < 2147483648) (h5 : -2147483648 ≤ g) (h6 : g < 2147483648) (hi : mi K R) : cal 25 [.ref B, .int (Int32.ofInt w), .int (Int32.ofInt p), .int (Int32.ofInt g)] (mp B R Z σ) = some (some (.int (Int32.ofInt (mf_fF R w p g))), mp B R Z σ) := by
  have hc := hi.c
  rw [E_25]
  unfold mf_fF
  by_cases q1 : 0 ≤ w ∧ w < R 0 ∧ 0 ≤ p ∧ p < R (9 + 10 * w + 0)
  · have hw := hi.w q1.1 q1.2.1
    have hp := mf_pad_bd (R := R) (w := w) p (by omega)
    have hb := mf_on_bd hi w (mf_pad R w p)
    by_cases q2 : 1 ≤ g ∧ g ≤ 9 <;> by_cases q3 : mf_on R w (mf_pad R w p) = -1 <;> by_cases q4 : R 2 < 5 <;> simp (disch := omega) only [Int.reduceAdd, Int.reduceMul, Int.reduceSub, Int.reduceNeg, na_add, na_sub, na_mul, na_neg, na_lt, na_le, na_eq, na_ofNat, bo_some, tl_some, tl_none, rc_int, rc_ref, rc_null, rc_none, rc_long, tb_0, tb_1, ↓mr_g0, mr_r0, mr_get, mr_upd, mr_at, mr_wr, Classical.not_not, not_true_eq_false, not_false_eq_true, na_l0, na_l1, na_l2, na_l3, na_l4, na_l5, na_l6, na_l7, na_l8, na_l9, na_l10, na_l14, na_l15, na_l16, na_l25, na_l30, na_l31, na_l32, na_l33, na_l39, na_l43, na_l45, na_l48, na_l49, na_l50, na_l51, na_l52, na_l53, na_l55, na_l56, na_l57, na_l60, na_l64, na_l71, na_l80, na_l96, na_l100, na_l101, na_l102, na_l103, na_l104, na_l105, na_l106, na_l107, na_l108, na_l109, na_l110, na_l111, na_l112, na_l113, na_l114, na_l115, na_l116, na_l117, na_l118, na_l119, na_l120, na_l121, na_l125, na_l128, na_l150, na_l192, na_l255, na_l999, na_l1000, na_l1248, na_l1344, na_l1875, na_l10000, ↓reduceIte, pf_and, pe_le, pf_le, pe_lt, pf_lt, pe_eq, pf_eq, true_and, and_true, false_and, and_false, ↓mpk_0, ↓mpk_1, ↓mpk_8, ↓mpk_11, ↓mpo_0_0, ↓mpo_0_1, ↓mpo_0_2, ↓mpo_0_3, ↓mpo_0_4, ↓mpo_0_5, ↓mpo_0_6, ↓mpo_0_7, ↓mpo_0_8, ↓mpo_1_0, ↓mpo_1_1, ↓mpo_1_2, ↓mpo_1_3, ↓mpo_1_4, ↓mpo_1_5, ↓mpo_1_6, ↓mpo_8_0, ↓mpo_8_1, ↓mpo_8_2, ↓mpo_11_0, ↓mpo_11_1, ↓mpo_11_2, ↓mpo_11_3, ↓mpo_11_4, ↓mpo_11_5, q140_2, q140_3, q140_4, q140_5, q140_6, q140_7, q140_9, q140_10, q140_12, q140_13, q140_14, q140_15, q140_16, mpl_w, mpl_y, mpl_l0, mpl_l2, mpl_f, c137, c138, c139, I_25_0, I_25_1, oi_bind, c98, hi, c100 hi, c4 hi]
  · simp (disch := omega) only [Int.reduceAdd, Int.reduceMul, Int.reduceSub, Int.reduceNeg, na_add, na_sub, na_mul, na_neg, na_lt, na_le, na_eq, na_ofNat, bo_some, tl_some, tl_none, rc_int, rc_ref, rc_null, rc_none, rc_long, tb_0, tb_1, ↓mr_g0, mr_r0, mr_get, mr_upd, mr_at, mr_wr, Classical.not_not, not_true_eq_false, not_false_eq_true, na_l0, na_l1, na_l2, na_l3, na_l4, na_l5, na_l6, na_l7, na_l8, na_l9, na_l10, na_l14, na_l15, na_l16, na_l25, na_l30, na_l31, na_l32, na_l33, na_l39, na_l43, na_l45, na_l48, na_l49, na_l50, na_l51, na_l52, na_l53, na_l55, na_l56, na_l57, na_l60, na_l64, na_l71, na_l80, na_l96, na_l100, na_l101, na_l102, na_l103, na_l104, na_l105, na_l106, na_l107, na_l108, na_l109, na_l110, na_l111, na_l112, na_l113, na_l114, na_l115, na_l116, na_l117, na_l118, na_l119, na_l120, na_l121, na_l125, na_l128, na_l150, na_l192, na_l255, na_l999, na_l1000, na_l1248, na_l1344, na_l1875, na_l10000, ↓reduceIte, pf_and, pe_le, pf_le, pe_lt, pf_lt, pe_eq, pf_eq, true_and, and_true, false_and, and_false, ↓mpk_0, ↓mpk_1, ↓mpk_8, ↓mpk_11, ↓mpo_0_0, ↓mpo_0_1, ↓mpo_0_2, ↓mpo_0_3, ↓mpo_0_4, ↓mpo_0_5, ↓mpo_0_6, ↓mpo_0_7, ↓mpo_0_8, ↓mpo_1_0, ↓mpo_1_1, ↓mpo_1_2, ↓mpo_1_3, ↓mpo_1_4, ↓mpo_1_5, ↓mpo_1_6, ↓mpo_8_0, ↓mpo_8_1, ↓mpo_8_2, ↓mpo_11_0, ↓mpo_11_1, ↓mpo_11_2, ↓mpo_11_3, ↓mpo_11_4, ↓mpo_11_5, q140_2, q140_3, q140_4, q140_5, q140_6, q140_7, q140_9, q140_10, q140_12, q140_13, q140_14, q140_15, q140_16, mpl_w, mpl_y, mpl_l0, mpl_l2, mpl_f, c137, c138, c139, I_25_0, I_25_1, oi_bind, c98, hi]
theorem c26 {w p n : Int} (h1 : -2147483648 ≤ w) (h2 : w < 2147483648) (h3 : -2147483648 ≤ p) (h4 : p < 2147483648) (h5 : -2147483648 ≤ n) (h6 : n < 2147483648) (hi : mi K R) : cal 26 [.ref B, .int (Int32.ofInt w), .int (Int32.ofInt p), .int (Int32.ofInt n)] (mp B R Z σ) = some (some (.int (Int32.ofInt (mf_fY R w p n))), mp B R Z σ) := by
  have hc := hi.c
  rw [E_26]
  unfold mf_fY
  by_cases q1 : 0 ≤ w ∧ w < R 0 ∧ 0 ≤ p ∧ p < R (9 + 10 * w + 0) <;> by_cases q2 : 1 ≤ n ∧ n ≤ 9 <;> simp (disch := omega) only [Int.reduceAdd, Int.reduceMul, Int.reduceSub, Int.reduceNeg, na_add, na_sub, na_mul, na_neg, na_lt, na_le, na_eq, na_ofNat, bo_some, tl_some, tl_none, rc_int, rc_ref, rc_null, rc_none, rc_long, tb_0, tb_1, ↓mr_g0, mr_r0, mr_get, mr_upd, mr_at, mr_wr, Classical.not_not, not_true_eq_false, not_false_eq_true, na_l0, na_l1, na_l2, na_l3, na_l4, na_l5, na_l6, na_l7, na_l8, na_l9, na_l10, na_l14, na_l15, na_l16, na_l25, na_l30, na_l31, na_l32, na_l33, na_l39, na_l43, na_l45, na_l48, na_l49, na_l50, na_l51, na_l52, na_l53, na_l55, na_l56, na_l57, na_l60, na_l64, na_l71, na_l80, na_l96, na_l100, na_l101, na_l102, na_l103, na_l104, na_l105, na_l106, na_l107, na_l108, na_l109, na_l110, na_l111, na_l112, na_l113, na_l114, na_l115, na_l116, na_l117, na_l118, na_l119, na_l120, na_l121, na_l125, na_l128, na_l150, na_l192, na_l255, na_l999, na_l1000, na_l1248, na_l1344, na_l1875, na_l10000, ↓reduceIte, pf_and, pe_le, pf_le, pe_lt, pf_lt, pe_eq, pf_eq, true_and, and_true, false_and, and_false, ↓mpk_0, ↓mpk_1, ↓mpk_8, ↓mpk_11, ↓mpo_0_0, ↓mpo_0_1, ↓mpo_0_2, ↓mpo_0_3, ↓mpo_0_4, ↓mpo_0_5, ↓mpo_0_6, ↓mpo_0_7, ↓mpo_0_8, ↓mpo_1_0, ↓mpo_1_1, ↓mpo_1_2, ↓mpo_1_3, ↓mpo_1_4, ↓mpo_1_5, ↓mpo_1_6, ↓mpo_8_0, ↓mpo_8_1, ↓mpo_8_2, ↓mpo_11_0, ↓mpo_11_1, ↓mpo_11_2, ↓mpo_11_3, ↓mpo_11_4, ↓mpo_11_5, q140_2, q140_3, q140_4, q140_5, q140_6, q140_7, q140_9, q140_10, q140_12, q140_13, q140_14, q140_15, q140_16, mpl_w, mpl_y, mpl_l0, mpl_l2, mpl_f, c137, c138, c139, I_26, oi_bind, c98, hi]
theorem c29 {w k : Int} (h1 : -2147483648 ≤ w) (h2 : w < 2147483648) (h3 : -2147483648 ≤ k) (h4 : k < 2147483648) (hi : mi K R) : cal 29 [.ref B, .int (Int32.ofInt w), .int (Int32.ofInt k)] (mp B R Z σ) = some (some (.int (Int32.ofInt (mf_fT R w k))), mp B R Z σ) := by
  have hc := hi.c
  rw [E_29]
  unfold mf_fT
  by_cases q1 : 0 ≤ w ∧ w < R 0 <;> by_cases q2 : -4 ≤ k ∧ k ≤ 4 <;> simp (disch := omega) only [Int.reduceAdd, Int.reduceMul, Int.reduceSub, Int.reduceNeg, na_add, na_sub, na_mul, na_neg, na_lt, na_le, na_eq, na_ofNat, bo_some, tl_some, tl_none, rc_int, rc_ref, rc_null, rc_none, rc_long, tb_0, tb_1, ↓mr_g0, mr_r0, mr_get, mr_upd, mr_at, mr_wr, Classical.not_not, not_true_eq_false, not_false_eq_true, na_l0, na_l1, na_l2, na_l3, na_l4, na_l5, na_l6, na_l7, na_l8, na_l9, na_l10, na_l14, na_l15, na_l16, na_l25, na_l30, na_l31, na_l32, na_l33, na_l39, na_l43, na_l45, na_l48, na_l49, na_l50, na_l51, na_l52, na_l53, na_l55, na_l56, na_l57, na_l60, na_l64, na_l71, na_l80, na_l96, na_l100, na_l101, na_l102, na_l103, na_l104, na_l105, na_l106, na_l107, na_l108, na_l109, na_l110, na_l111, na_l112, na_l113, na_l114, na_l115, na_l116, na_l117, na_l118, na_l119, na_l120, na_l121, na_l125, na_l128, na_l150, na_l192, na_l255, na_l999, na_l1000, na_l1248, na_l1344, na_l1875, na_l10000, ↓reduceIte, pf_and, pe_le, pf_le, pe_lt, pf_lt, pe_eq, pf_eq, true_and, and_true, false_and, and_false, ↓mpk_0, ↓mpk_1, ↓mpk_8, ↓mpk_11, ↓mpo_0_0, ↓mpo_0_1, ↓mpo_0_2, ↓mpo_0_3, ↓mpo_0_4, ↓mpo_0_5, ↓mpo_0_6, ↓mpo_0_7, ↓mpo_0_8, ↓mpo_1_0, ↓mpo_1_1, ↓mpo_1_2, ↓mpo_1_3, ↓mpo_1_4, ↓mpo_1_5, ↓mpo_1_6, ↓mpo_8_0, ↓mpo_8_1, ↓mpo_8_2, ↓mpo_11_0, ↓mpo_11_1, ↓mpo_11_2, ↓mpo_11_3, ↓mpo_11_4, ↓mpo_11_5, q140_2, q140_3, q140_4, q140_5, q140_6, q140_7, q140_9, q140_10, q140_12, q140_13, q140_14, q140_15, q140_16, mpl_w, mpl_y, mpl_l0, mpl_l2, mpl_f, c137, c138, c139, I_29, oi_bind, c97]
/-! Calls that are left out where they would throw. -/
def mg_tW (R : mr_R) (n no s : Int) : mr_R := if mf_fW R n no s = 0 then mg_wheel R n no s else R
def mg_tL (R : mr_R) (w p w2 p2 : Int) : mr_R := if mf_fL R w p w2 p2 = 0 then mg_line R w p w2 p2 else R
def mg_tF (R : mr_R) (w p g : Int) : mr_R := if mf_fF R w p g = 0 then mg_frog R w p g else R
def mg_tY (R : mr_R) (w p n : Int) : mr_R := if mf_fY R w p n = 0 then mg_bring R w p n else R
def mg_tT (R : mr_R) (w k : Int) : mr_R := if mf_fT R w k = 0 then mg_turn R w k else R
theorem mf_fW_0 {R : mr_R} {n no s : Int} (h : mf_fW R n no s = 0) : ((3 ≤ n ∧ n ≤ 5) ∧ (-4 ≤ no ∧ no ≤ 4) ∧ (0 ≤ s ∧ s ≤ 30)) ∧ R 0 < 3 := by
  unfold mf_fW at h
  split at h
  · split at h
    · exact ⟨by assumption, by assumption⟩
    · omega
  · omega
theorem mf_fL_0 {R : mr_R} {w p w2 p2 : Int} (h : mf_fL R w p w2 p2 = 0) : (0 ≤ w ∧ w < R 0 ∧ 0 ≤ p ∧ p < R (9 + 10 * w + 0)) ∧ (0 ≤ w2 ∧ w2 < R 0 ∧ 0 ≤ p2 ∧ p2 < R (9 + 10 * w2 + 0)) ∧ w ≠ w2 ∧ R 1 < 8 := by
  unfold mf_fL at h
  split at h
  · split at h
    · omega
    · split at h
      · rename_i a b c; exact ⟨a.1, a.2, b, c⟩
      · omega
  · omega
theorem mf_fF_0 {R : mr_R} {w p g : Int} (h : mf_fF R w p g = 0) : ((0 ≤ w ∧ w < R 0 ∧ 0 ≤ p ∧ p < R (9 + 10 * w + 0)) ∧ mf_on R w (mf_pad R w p) = -1 ∧ R 2 < 5) ∧ (1 ≤ g ∧ g ≤ 9) := by
  unfold mf_fF at h
  split at h
  · split at h
    · split at h
      · rename_i a b c; exact ⟨⟨a, c⟩, b⟩
      · omega
    · omega
  · omega
theorem mf_fY_0 {R : mr_R} {w p n : Int} (h : mf_fY R w p n = 0) : (0 ≤ w ∧ w < R 0 ∧ 0 ≤ p ∧ p < R (9 + 10 * w + 0)) ∧ (1 ≤ n ∧ n ≤ 9) := by
  unfold mf_fY at h
  split at h
  · split at h
    · exact ⟨by assumption, by assumption⟩
    · omega
  · omega
theorem mf_fT_0 {R : mr_R} {w k : Int} (h : mf_fT R w k = 0) : (0 ≤ w ∧ w < R 0) ∧ (-4 ≤ k ∧ k ≤ 4) := by
  unfold mf_fT at h
  split at h
  · split at h
    · exact ⟨by assumption, by assumption⟩
    · omega
  · omega
theorem mf_f_bd (R : mr_R) : (∀ n no s, 0 ≤ mf_fW R n no s ∧ mf_fW R n no s ≤ 3) ∧ (∀ w p w2 p2, 0 ≤ mf_fL R w p w2 p2 ∧ mf_fL R w p w2 p2 ≤ 3) ∧ (∀ w p g, 0 ≤ mf_fF R w p g ∧ mf_fF R w p g ≤ 3) ∧ (∀ w p n, 0 ≤ mf_fY R w p n ∧ mf_fY R w p n ≤ 3) ∧ (∀ w k, 0 ≤ mf_fT R w k ∧ mf_fT R w k ≤ 3) := by
  refine ⟨?_, ?_, ?_, ?_, ?_⟩ <;> intros
  · unfold mf_fW; repeat' split
    all_goals omega
  · unfold mf_fL; repeat' split
    all_goals omega
  · unfold mf_fF; repeat' split
    all_goals omega
  · unfold mf_fY; repeat' split
    all_goals omega
  · unfold mf_fT; repeat' split
    all_goals omega
theorem c30 {n no s : Int} (h1 : -2147483648 ≤ n) (h2 : n < 2147483648) (h3 : -2147483648 ≤ no) (h4 : no < 2147483648) (h5 : -2147483648 ≤ s) (h6 : s < 2147483648) (hi : mi K R) : cal 30 [.ref B, .int (Int32.ofInt n), .int (Int32.ofInt no), .int (Int32.ofInt s)] (mp B R Z σ) = some (some (.int (Int32.ofInt (if mf_fW R n no s = 0 then 1 else 0))), mp B (mg_tW R n no s) Z σ) := by
  have hc := hi.c
  have hb := (mf_f_bd R).1 n no s
  rw [E_30]
  unfold mg_tW
  by_cases q : mf_fW R n no s = 0
  · obtain ⟨a1, a2⟩ := mf_fW_0 q
    simp (disch := omega) only [Int.reduceAdd, Int.reduceMul, Int.reduceSub, Int.reduceNeg, na_add, na_sub, na_mul, na_neg, na_lt, na_le, na_eq, na_ofNat, bo_some, tl_some, tl_none, rc_int, rc_ref, rc_null, rc_none, rc_long, tb_0, tb_1, ↓mr_g0, mr_r0, mr_get, mr_upd, mr_at, mr_wr, Classical.not_not, not_true_eq_false, not_false_eq_true, na_l0, na_l1, na_l2, na_l3, na_l4, na_l5, na_l6, na_l7, na_l8, na_l9, na_l10, na_l14, na_l15, na_l16, na_l25, na_l30, na_l31, na_l32, na_l33, na_l39, na_l43, na_l45, na_l48, na_l49, na_l50, na_l51, na_l52, na_l53, na_l55, na_l56, na_l57, na_l60, na_l64, na_l71, na_l80, na_l96, na_l100, na_l101, na_l102, na_l103, na_l104, na_l105, na_l106, na_l107, na_l108, na_l109, na_l110, na_l111, na_l112, na_l113, na_l114, na_l115, na_l116, na_l117, na_l118, na_l119, na_l120, na_l121, na_l125, na_l128, na_l150, na_l192, na_l255, na_l999, na_l1000, na_l1248, na_l1344, na_l1875, na_l10000, ↓reduceIte, pf_and, pe_le, pf_le, pe_lt, pf_lt, pe_eq, pf_eq, true_and, and_true, false_and, and_false, ↓mpk_0, ↓mpk_1, ↓mpk_8, ↓mpk_11, ↓mpo_0_0, ↓mpo_0_1, ↓mpo_0_2, ↓mpo_0_3, ↓mpo_0_4, ↓mpo_0_5, ↓mpo_0_6, ↓mpo_0_7, ↓mpo_0_8, ↓mpo_1_0, ↓mpo_1_1, ↓mpo_1_2, ↓mpo_1_3, ↓mpo_1_4, ↓mpo_1_5, ↓mpo_1_6, ↓mpo_8_0, ↓mpo_8_1, ↓mpo_8_2, ↓mpo_11_0, ↓mpo_11_1, ↓mpo_11_2, ↓mpo_11_3, ↓mpo_11_4, ↓mpo_11_5, q140_2, q140_3, q140_4, q140_5, q140_6, q140_7, q140_9, q140_10, q140_12, q140_13, q140_14, q140_15, q140_16, mpl_w, mpl_y, mpl_l0, mpl_l2, mpl_f, c137, c138, c139, I_30, c23, hi, q, c99]
  · simp (disch := omega) only [Int.reduceAdd, Int.reduceMul, Int.reduceSub, Int.reduceNeg, na_add, na_sub, na_mul, na_neg, na_lt, na_le, na_eq, na_ofNat, bo_some, tl_some, tl_none, rc_int, rc_ref, rc_null, rc_none, rc_long, tb_0, tb_1, ↓mr_g0, mr_r0, mr_get, mr_upd, mr_at, mr_wr, Classical.not_not, not_true_eq_false, not_false_eq_true, na_l0, na_l1, na_l2, na_l3, na_l4, na_l5, na_l6, na_l7, na_l8, na_l9, na_l10, na_l14, na_l15, na_l16, na_l25, na_l30, na_l31, na_l32, na_l33, na_l39, na_l43, na_l45, na_l48, na_l49, na_l50, na_l51, na_l52, na_l53, na_l55, na_l56, na_l57, na_l60, na_l64, na_l71, na_l80, na_l96, na_l100, na_l101, na_l102, na_l103, na_l104, na_l105, na_l106, na_l107, na_l108, na_l109, na_l110, na_l111, na_l112, na_l113, na_l114, na_l115, na_l116, na_l117, na_l118, na_l119, na_l120, na_l121, na_l125, na_l128, na_l150, na_l192, na_l255, na_l999, na_l1000, na_l1248, na_l1344, na_l1875, na_l10000, ↓reduceIte, pf_and, pe_le, pf_le, pe_lt, pf_lt, pe_eq, pf_eq, true_and, and_true, false_and, and_false, ↓mpk_0, ↓mpk_1, ↓mpk_8, ↓mpk_11, ↓mpo_0_0, ↓mpo_0_1, ↓mpo_0_2, ↓mpo_0_3, ↓mpo_0_4, ↓mpo_0_5, ↓mpo_0_6, ↓mpo_0_7, ↓mpo_0_8, ↓mpo_1_0, ↓mpo_1_1, ↓mpo_1_2, ↓mpo_1_3, ↓mpo_1_4, ↓mpo_1_5, ↓mpo_1_6, ↓mpo_8_0, ↓mpo_8_1, ↓mpo_8_2, ↓mpo_11_0, ↓mpo_11_1, ↓mpo_11_2, ↓mpo_11_3, ↓mpo_11_4, ↓mpo_11_5, q140_2, q140_3, q140_4, q140_5, q140_6, q140_7, q140_9, q140_10, q140_12, q140_13, q140_14, q140_15, q140_16, mpl_w, mpl_y, mpl_l0, mpl_l2, mpl_f, c137, c138, c139, I_30, c23, hi]
theorem c31 {w p w2 p2 : Int} (h1 : -2147483648 ≤ w) (h2 : w < 2147483648) (h3 : -2147483648 ≤ p) (h4 : p < 2147483648) (h5 : -2147483648 ≤ w2) (h6 : w2 < 2147483648) (h7 : -2147483648 ≤ p2) (h8 : p2 < 2147483648) (hi : mi K R) : cal 31 [.ref B, .int (Int32.ofInt w), .int (Int32.ofInt p), .int (Int32.ofInt w2), .int (Int32.ofInt p2)] (mp B R Z σ) = some (some (.int (Int32.ofInt (if mf_fL R w p w2 p2 = 0 then 1 else 0))), mp B (mg_tL R w p w2 p2) Z σ) := by
  have hc := hi.c
  have hb := (mf_f_bd R).2.1 w p w2 p2
  rw [E_31]
  unfold mg_tL
  by_cases q : mf_fL R w p w2 p2 = 0
  · have a := mf_fL_0 q
    simp (disch := omega) only [Int.reduceAdd, Int.reduceMul, Int.reduceSub, Int.reduceNeg, na_add, na_sub, na_mul, na_neg, na_lt, na_le, na_eq, na_ofNat, bo_some, tl_some, tl_none, rc_int, rc_ref, rc_null, rc_none, rc_long, tb_0, tb_1, ↓mr_g0, mr_r0, mr_get, mr_upd, mr_at, mr_wr, Classical.not_not, not_true_eq_false, not_false_eq_true, na_l0, na_l1, na_l2, na_l3, na_l4, na_l5, na_l6, na_l7, na_l8, na_l9, na_l10, na_l14, na_l15, na_l16, na_l25, na_l30, na_l31, na_l32, na_l33, na_l39, na_l43, na_l45, na_l48, na_l49, na_l50, na_l51, na_l52, na_l53, na_l55, na_l56, na_l57, na_l60, na_l64, na_l71, na_l80, na_l96, na_l100, na_l101, na_l102, na_l103, na_l104, na_l105, na_l106, na_l107, na_l108, na_l109, na_l110, na_l111, na_l112, na_l113, na_l114, na_l115, na_l116, na_l117, na_l118, na_l119, na_l120, na_l121, na_l125, na_l128, na_l150, na_l192, na_l255, na_l999, na_l1000, na_l1248, na_l1344, na_l1875, na_l10000, ↓reduceIte, pf_and, pe_le, pf_le, pe_lt, pf_lt, pe_eq, pf_eq, true_and, and_true, false_and, and_false, ↓mpk_0, ↓mpk_1, ↓mpk_8, ↓mpk_11, ↓mpo_0_0, ↓mpo_0_1, ↓mpo_0_2, ↓mpo_0_3, ↓mpo_0_4, ↓mpo_0_5, ↓mpo_0_6, ↓mpo_0_7, ↓mpo_0_8, ↓mpo_1_0, ↓mpo_1_1, ↓mpo_1_2, ↓mpo_1_3, ↓mpo_1_4, ↓mpo_1_5, ↓mpo_1_6, ↓mpo_8_0, ↓mpo_8_1, ↓mpo_8_2, ↓mpo_11_0, ↓mpo_11_1, ↓mpo_11_2, ↓mpo_11_3, ↓mpo_11_4, ↓mpo_11_5, q140_2, q140_3, q140_4, q140_5, q140_6, q140_7, q140_9, q140_10, q140_12, q140_13, q140_14, q140_15, q140_16, mpl_w, mpl_y, mpl_l0, mpl_l2, mpl_f, c137, c138, c139, I_31, c24, hi, q, c15]
  · simp (disch := omega) only [Int.reduceAdd, Int.reduceMul, Int.reduceSub, Int.reduceNeg, na_add, na_sub, na_mul, na_neg, na_lt, na_le, na_eq, na_ofNat, bo_some, tl_some, tl_none, rc_int, rc_ref, rc_null, rc_none, rc_long, tb_0, tb_1, ↓mr_g0, mr_r0, mr_get, mr_upd, mr_at, mr_wr, Classical.not_not, not_true_eq_false, not_false_eq_true, na_l0, na_l1, na_l2, na_l3, na_l4, na_l5, na_l6, na_l7, na_l8, na_l9, na_l10, na_l14, na_l15, na_l16, na_l25, na_l30, na_l31, na_l32, na_l33, na_l39, na_l43, na_l45, na_l48, na_l49, na_l50, na_l51, na_l52, na_l53, na_l55, na_l56, na_l57, na_l60, na_l64, na_l71, na_l80, na_l96, na_l100, na_l101, na_l102, na_l103, na_l104, na_l105, na_l106, na_l107, na_l108, na_l109, na_l110, na_l111, na_l112, na_l113, na_l114, na_l115, na_l116, na_l117, na_l118, na_l119, na_l120, na_l121, na_l125, na_l128, na_l150, na_l192, na_l255, na_l999, na_l1000, na_l1248, na_l1344, na_l1875, na_l10000, ↓reduceIte, pf_and, pe_le, pf_le, pe_lt, pf_lt, pe_eq, pf_eq, true_and, and_true, false_and, and_false, ↓mpk_0, ↓mpk_1, ↓mpk_8, ↓mpk_11, ↓mpo_0_0, ↓mpo_0_1, ↓mpo_0_2, ↓mpo_0_3, ↓mpo_0_4, ↓mpo_0_5, ↓mpo_0_6, ↓mpo_0_7, ↓mpo_0_8, ↓mpo_1_0, ↓mpo_1_1, ↓mpo_1_2, ↓mpo_1_3, ↓mpo_1_4, ↓mpo_1_5, ↓mpo_1_6, ↓mpo_8_0, ↓mpo_8_1, ↓mpo_8_2, ↓mpo_11_0, ↓mpo_11_1, ↓mpo_11_2, ↓mpo_11_3, ↓mpo_11_4, ↓mpo_11_5, q140_2, q140_3, q140_4, q140_5, q140_6, q140_7, q140_9, q140_10, q140_12, q140_13, q140_14, q140_15, q140_16, mpl_w, mpl_y, mpl_l0, mpl_l2, mpl_f, c137, c138, c139, I_31, c24, hi]
theorem c32 {w p g : Int} (h1 : -2147483648 ≤ w) (h2 : w < 2147483648) (h3 : -2147483648 ≤ p) (h4 : p < 2147483648) (h5 : -2147483648 ≤ g) (h6 : g < 2147483648) (hi : mi K R) : cal 32 [.ref B, .int (Int32.ofInt w), .int (Int32.ofInt p), .int (Int32.ofInt g)] (mp B R Z σ) = some (some (.int (Int32.ofInt (if mf_fF R w p g = 0 then 1 else 0))), mp B (mg_tF R w p g) Z σ) := by
  have hc := hi.c
  have hb := (mf_f_bd R).2.2.1 w p g
  rw [E_32]
  unfold mg_tF
  by_cases q : mf_fF R w p g = 0
  · have a := mf_fF_0 q
    have hw := hi.w a.1.1.1 a.1.1.2.1
    simp (disch := omega) only [Int.reduceAdd, Int.reduceMul, Int.reduceSub, Int.reduceNeg, na_add, na_sub, na_mul, na_neg, na_lt, na_le, na_eq, na_ofNat, bo_some, tl_some, tl_none, rc_int, rc_ref, rc_null, rc_none, rc_long, tb_0, tb_1, ↓mr_g0, mr_r0, mr_get, mr_upd, mr_at, mr_wr, Classical.not_not, not_true_eq_false, not_false_eq_true, na_l0, na_l1, na_l2, na_l3, na_l4, na_l5, na_l6, na_l7, na_l8, na_l9, na_l10, na_l14, na_l15, na_l16, na_l25, na_l30, na_l31, na_l32, na_l33, na_l39, na_l43, na_l45, na_l48, na_l49, na_l50, na_l51, na_l52, na_l53, na_l55, na_l56, na_l57, na_l60, na_l64, na_l71, na_l80, na_l96, na_l100, na_l101, na_l102, na_l103, na_l104, na_l105, na_l106, na_l107, na_l108, na_l109, na_l110, na_l111, na_l112, na_l113, na_l114, na_l115, na_l116, na_l117, na_l118, na_l119, na_l120, na_l121, na_l125, na_l128, na_l150, na_l192, na_l255, na_l999, na_l1000, na_l1248, na_l1344, na_l1875, na_l10000, ↓reduceIte, pf_and, pe_le, pf_le, pe_lt, pf_lt, pe_eq, pf_eq, true_and, and_true, false_and, and_false, ↓mpk_0, ↓mpk_1, ↓mpk_8, ↓mpk_11, ↓mpo_0_0, ↓mpo_0_1, ↓mpo_0_2, ↓mpo_0_3, ↓mpo_0_4, ↓mpo_0_5, ↓mpo_0_6, ↓mpo_0_7, ↓mpo_0_8, ↓mpo_1_0, ↓mpo_1_1, ↓mpo_1_2, ↓mpo_1_3, ↓mpo_1_4, ↓mpo_1_5, ↓mpo_1_6, ↓mpo_8_0, ↓mpo_8_1, ↓mpo_8_2, ↓mpo_11_0, ↓mpo_11_1, ↓mpo_11_2, ↓mpo_11_3, ↓mpo_11_4, ↓mpo_11_5, q140_2, q140_3, q140_4, q140_5, q140_6, q140_7, q140_9, q140_10, q140_12, q140_13, q140_14, q140_15, q140_16, mpl_w, mpl_y, mpl_l0, mpl_l2, mpl_f, c137, c138, c139, I_32, c25, hi, q, c100 hi, c2]
  · simp (disch := omega) only [Int.reduceAdd, Int.reduceMul, Int.reduceSub, Int.reduceNeg, na_add, na_sub, na_mul, na_neg, na_lt, na_le, na_eq, na_ofNat, bo_some, tl_some, tl_none, rc_int, rc_ref, rc_null, rc_none, rc_long, tb_0, tb_1, ↓mr_g0, mr_r0, mr_get, mr_upd, mr_at, mr_wr, Classical.not_not, not_true_eq_false, not_false_eq_true, na_l0, na_l1, na_l2, na_l3, na_l4, na_l5, na_l6, na_l7, na_l8, na_l9, na_l10, na_l14, na_l15, na_l16, na_l25, na_l30, na_l31, na_l32, na_l33, na_l39, na_l43, na_l45, na_l48, na_l49, na_l50, na_l51, na_l52, na_l53, na_l55, na_l56, na_l57, na_l60, na_l64, na_l71, na_l80, na_l96, na_l100, na_l101, na_l102, na_l103, na_l104, na_l105, na_l106, na_l107, na_l108, na_l109, na_l110, na_l111, na_l112, na_l113, na_l114, na_l115, na_l116, na_l117, na_l118, na_l119, na_l120, na_l121, na_l125, na_l128, na_l150, na_l192, na_l255, na_l999, na_l1000, na_l1248, na_l1344, na_l1875, na_l10000, ↓reduceIte, pf_and, pe_le, pf_le, pe_lt, pf_lt, pe_eq, pf_eq, true_and, and_true, false_and, and_false, ↓mpk_0, ↓mpk_1, ↓mpk_8, ↓mpk_11, ↓mpo_0_0, ↓mpo_0_1, ↓mpo_0_2, ↓mpo_0_3, ↓mpo_0_4, ↓mpo_0_5, ↓mpo_0_6, ↓mpo_0_7, ↓mpo_0_8, ↓mpo_1_0, ↓mpo_1_1, ↓mpo_1_2, ↓mpo_1_3, ↓mpo_1_4, ↓mpo_1_5, ↓mpo_1_6, ↓mpo_8_0, ↓mpo_8_1, ↓mpo_8_2, ↓mpo_11_0, ↓mpo_11_1, ↓mpo_11_2, ↓mpo_11_3, ↓mpo_11_4, ↓mpo_11_5, q140_2, q140_3, q140_4, q140_5, q140_6, q140_7, q140_9, q140_10, q140_12, q140_13, q140_14, q140_15, q140_16, mpl_w, mpl_y, mpl_l0, mpl_l2, mpl_f, c137, c138, c139, I_32, c25, hi]
theorem c33 {w p n : Int} (h1 : -2147483648 ≤ w) (h2 : w < 2147483648) (h3 : -2147483648 ≤ p) (h4 : p < 2147483648) (h5 : -2147483648 ≤ n) (h6 : n < 2147483648) (hi : mi K R) : cal 33 [.ref B, .int (Int32.ofInt w), .int (Int32.ofInt p), .int (Int32.ofInt n)] (mp B R Z σ) = some (some (.int (Int32.ofInt (if mf_fY R w p n = 0 then 1 else 0))), mp B (mg_tY R w p n) Z σ) := by
  have hc := hi.c
  have hb := (mf_f_bd R).2.2.2.1 w p n
  rw [E_33]
  unfold mg_tY
  by_cases q : mf_fY R w p n = 0
  · have a := mf_fY_0 q
    have hw := hi.w a.1.1 a.1.2.1
    have hp := mf_pad_bd (R := R) (w := w) p (by omega)
    have e35 := c35 (B := B) (Z := Z) (σ := σ) hi a.1.1 a.1.2.1 hp.1 (by omega) (n := n) (by omega) (by omega)
    have eb : mg_brP R w (mf_pad R w p) n = mg_bring R w p n := rfl
    simp (disch := omega) only [Int.reduceAdd, Int.reduceMul, Int.reduceSub, Int.reduceNeg, na_add, na_sub, na_mul, na_neg, na_lt, na_le, na_eq, na_ofNat, bo_some, tl_some, tl_none, rc_int, rc_ref, rc_null, rc_none, rc_long, tb_0, tb_1, ↓mr_g0, mr_r0, mr_get, mr_upd, mr_at, mr_wr, Classical.not_not, not_true_eq_false, not_false_eq_true, na_l0, na_l1, na_l2, na_l3, na_l4, na_l5, na_l6, na_l7, na_l8, na_l9, na_l10, na_l14, na_l15, na_l16, na_l25, na_l30, na_l31, na_l32, na_l33, na_l39, na_l43, na_l45, na_l48, na_l49, na_l50, na_l51, na_l52, na_l53, na_l55, na_l56, na_l57, na_l60, na_l64, na_l71, na_l80, na_l96, na_l100, na_l101, na_l102, na_l103, na_l104, na_l105, na_l106, na_l107, na_l108, na_l109, na_l110, na_l111, na_l112, na_l113, na_l114, na_l115, na_l116, na_l117, na_l118, na_l119, na_l120, na_l121, na_l125, na_l128, na_l150, na_l192, na_l255, na_l999, na_l1000, na_l1248, na_l1344, na_l1875, na_l10000, ↓reduceIte, pf_and, pe_le, pf_le, pe_lt, pf_lt, pe_eq, pf_eq, true_and, and_true, false_and, and_false, ↓mpk_0, ↓mpk_1, ↓mpk_8, ↓mpk_11, ↓mpo_0_0, ↓mpo_0_1, ↓mpo_0_2, ↓mpo_0_3, ↓mpo_0_4, ↓mpo_0_5, ↓mpo_0_6, ↓mpo_0_7, ↓mpo_0_8, ↓mpo_1_0, ↓mpo_1_1, ↓mpo_1_2, ↓mpo_1_3, ↓mpo_1_4, ↓mpo_1_5, ↓mpo_1_6, ↓mpo_8_0, ↓mpo_8_1, ↓mpo_8_2, ↓mpo_11_0, ↓mpo_11_1, ↓mpo_11_2, ↓mpo_11_3, ↓mpo_11_4, ↓mpo_11_5, q140_2, q140_3, q140_4, q140_5, q140_6, q140_7, q140_9, q140_10, q140_12, q140_13, q140_14, q140_15, q140_16, mpl_w, mpl_y, mpl_l0, mpl_l2, mpl_f, c137, c138, c139, I_33, c26, hi, q, c100 hi, e35, eb]
  · simp (disch := omega) only [Int.reduceAdd, Int.reduceMul, Int.reduceSub, Int.reduceNeg, na_add, na_sub, na_mul, na_neg, na_lt, na_le, na_eq, na_ofNat, bo_some, tl_some, tl_none, rc_int, rc_ref, rc_null, rc_none, rc_long, tb_0, tb_1, ↓mr_g0, mr_r0, mr_get, mr_upd, mr_at, mr_wr, Classical.not_not, not_true_eq_false, not_false_eq_true, na_l0, na_l1, na_l2, na_l3, na_l4, na_l5, na_l6, na_l7, na_l8, na_l9, na_l10, na_l14, na_l15, na_l16, na_l25, na_l30, na_l31, na_l32, na_l33, na_l39, na_l43, na_l45, na_l48, na_l49, na_l50, na_l51, na_l52, na_l53, na_l55, na_l56, na_l57, na_l60, na_l64, na_l71, na_l80, na_l96, na_l100, na_l101, na_l102, na_l103, na_l104, na_l105, na_l106, na_l107, na_l108, na_l109, na_l110, na_l111, na_l112, na_l113, na_l114, na_l115, na_l116, na_l117, na_l118, na_l119, na_l120, na_l121, na_l125, na_l128, na_l150, na_l192, na_l255, na_l999, na_l1000, na_l1248, na_l1344, na_l1875, na_l10000, ↓reduceIte, pf_and, pe_le, pf_le, pe_lt, pf_lt, pe_eq, pf_eq, true_and, and_true, false_and, and_false, ↓mpk_0, ↓mpk_1, ↓mpk_8, ↓mpk_11, ↓mpo_0_0, ↓mpo_0_1, ↓mpo_0_2, ↓mpo_0_3, ↓mpo_0_4, ↓mpo_0_5, ↓mpo_0_6, ↓mpo_0_7, ↓mpo_0_8, ↓mpo_1_0, ↓mpo_1_1, ↓mpo_1_2, ↓mpo_1_3, ↓mpo_1_4, ↓mpo_1_5, ↓mpo_1_6, ↓mpo_8_0, ↓mpo_8_1, ↓mpo_8_2, ↓mpo_11_0, ↓mpo_11_1, ↓mpo_11_2, ↓mpo_11_3, ↓mpo_11_4, ↓mpo_11_5, q140_2, q140_3, q140_4, q140_5, q140_6, q140_7, q140_9, q140_10, q140_12, q140_13, q140_14, q140_15, q140_16, mpl_w, mpl_y, mpl_l0, mpl_l2, mpl_f, c137, c138, c139, I_33, c26, hi]
theorem c34 {w k : Int} (h1 : -2147483648 ≤ w) (h2 : w < 2147483648) (h3 : -2147483648 ≤ k) (h4 : k < 2147483648) (hi : mi K R) : cal 34 [.ref B, .int (Int32.ofInt w), .int (Int32.ofInt k)] (mp B R Z σ) = some (some (.int (Int32.ofInt (if mf_fT R w k = 0 then 1 else 0))), mp B (mg_tT R w k) Z σ) := by
  have hc := hi.c
  have hb := (mf_f_bd R).2.2.2.2 w k
  rw [E_34]
  unfold mg_tT
  by_cases q : mf_fT R w k = 0
  · have a := mf_fT_0 q
    simp (disch := omega) only [Int.reduceAdd, Int.reduceMul, Int.reduceSub, Int.reduceNeg, na_add, na_sub, na_mul, na_neg, na_lt, na_le, na_eq, na_ofNat, bo_some, tl_some, tl_none, rc_int, rc_ref, rc_null, rc_none, rc_long, tb_0, tb_1, ↓mr_g0, mr_r0, mr_get, mr_upd, mr_at, mr_wr, Classical.not_not, not_true_eq_false, not_false_eq_true, na_l0, na_l1, na_l2, na_l3, na_l4, na_l5, na_l6, na_l7, na_l8, na_l9, na_l10, na_l14, na_l15, na_l16, na_l25, na_l30, na_l31, na_l32, na_l33, na_l39, na_l43, na_l45, na_l48, na_l49, na_l50, na_l51, na_l52, na_l53, na_l55, na_l56, na_l57, na_l60, na_l64, na_l71, na_l80, na_l96, na_l100, na_l101, na_l102, na_l103, na_l104, na_l105, na_l106, na_l107, na_l108, na_l109, na_l110, na_l111, na_l112, na_l113, na_l114, na_l115, na_l116, na_l117, na_l118, na_l119, na_l120, na_l121, na_l125, na_l128, na_l150, na_l192, na_l255, na_l999, na_l1000, na_l1248, na_l1344, na_l1875, na_l10000, ↓reduceIte, pf_and, pe_le, pf_le, pe_lt, pf_lt, pe_eq, pf_eq, true_and, and_true, false_and, and_false, ↓mpk_0, ↓mpk_1, ↓mpk_8, ↓mpk_11, ↓mpo_0_0, ↓mpo_0_1, ↓mpo_0_2, ↓mpo_0_3, ↓mpo_0_4, ↓mpo_0_5, ↓mpo_0_6, ↓mpo_0_7, ↓mpo_0_8, ↓mpo_1_0, ↓mpo_1_1, ↓mpo_1_2, ↓mpo_1_3, ↓mpo_1_4, ↓mpo_1_5, ↓mpo_1_6, ↓mpo_8_0, ↓mpo_8_1, ↓mpo_8_2, ↓mpo_11_0, ↓mpo_11_1, ↓mpo_11_2, ↓mpo_11_3, ↓mpo_11_4, ↓mpo_11_5, q140_2, q140_3, q140_4, q140_5, q140_6, q140_7, q140_9, q140_10, q140_12, q140_13, q140_14, q140_15, q140_16, mpl_w, mpl_y, mpl_l0, mpl_l2, mpl_f, c137, c138, c139, I_34, c29, hi, q, c102 hi]
  · simp (disch := omega) only [Int.reduceAdd, Int.reduceMul, Int.reduceSub, Int.reduceNeg, na_add, na_sub, na_mul, na_neg, na_lt, na_le, na_eq, na_ofNat, bo_some, tl_some, tl_none, rc_int, rc_ref, rc_null, rc_none, rc_long, tb_0, tb_1, ↓mr_g0, mr_r0, mr_get, mr_upd, mr_at, mr_wr, Classical.not_not, not_true_eq_false, not_false_eq_true, na_l0, na_l1, na_l2, na_l3, na_l4, na_l5, na_l6, na_l7, na_l8, na_l9, na_l10, na_l14, na_l15, na_l16, na_l25, na_l30, na_l31, na_l32, na_l33, na_l39, na_l43, na_l45, na_l48, na_l49, na_l50, na_l51, na_l52, na_l53, na_l55, na_l56, na_l57, na_l60, na_l64, na_l71, na_l80, na_l96, na_l100, na_l101, na_l102, na_l103, na_l104, na_l105, na_l106, na_l107, na_l108, na_l109, na_l110, na_l111, na_l112, na_l113, na_l114, na_l115, na_l116, na_l117, na_l118, na_l119, na_l120, na_l121, na_l125, na_l128, na_l150, na_l192, na_l255, na_l999, na_l1000, na_l1248, na_l1344, na_l1875, na_l10000, ↓reduceIte, pf_and, pe_le, pf_le, pe_lt, pf_lt, pe_eq, pf_eq, true_and, and_true, false_and, and_false, ↓mpk_0, ↓mpk_1, ↓mpk_8, ↓mpk_11, ↓mpo_0_0, ↓mpo_0_1, ↓mpo_0_2, ↓mpo_0_3, ↓mpo_0_4, ↓mpo_0_5, ↓mpo_0_6, ↓mpo_0_7, ↓mpo_0_8, ↓mpo_1_0, ↓mpo_1_1, ↓mpo_1_2, ↓mpo_1_3, ↓mpo_1_4, ↓mpo_1_5, ↓mpo_1_6, ↓mpo_8_0, ↓mpo_8_1, ↓mpo_8_2, ↓mpo_11_0, ↓mpo_11_1, ↓mpo_11_2, ↓mpo_11_3, ↓mpo_11_4, ↓mpo_11_5, q140_2, q140_3, q140_4, q140_5, q140_6, q140_7, q140_9, q140_10, q140_12, q140_13, q140_14, q140_15, q140_16, mpl_w, mpl_y, mpl_l0, mpl_l2, mpl_f, c137, c138, c139, I_34, c29, hi]
end CP
