/-! What the law's calls answer. -/
theorem pf_of {k : Nat} {g : gp} {ps : List Value} {Y : gy} {r : Int × (gy × Nat)} (hk : gk Y) (h : pf_in pfl k = some g) (h2 : g ps Y = some r) : pf k ps Y = some r := by
  unfold pf
  rw [if_pos hk, h]
  exact h2
theorem gz_gg {y : gy × gy} {i : Bool} : gz y i (gg y i) = y := by
  cases i <;> rfl
theorem gg_gz {y : gy × gy} {i : Bool} {Y : gy} : gg (gz y i Y) i = Y := by
  cases i <;> rfl
theorem qq_ok {F v : Int} {Y2 Y : gy} (h : F = 0) : qq F v Y2 Y = (v, (Y2, 0)) := if_pos h
theorem qq_no {F v : Int} {Y2 Y : gy} (h : F ≠ 0) : qq F v Y2 Y = (nz F.toNat, (Y, 1)) := if_neg h
section CALLS
variable {C0 b0 L0 : Nat} {xs0 : Nat → Int32} {yy : gy × gy} {i : Bool} {n : Nat} {Y : gy}
/-- a call that answers r0 -/
def can (C0 b0 L0 : Nat) (xs0 : Nat → Int32) (k : Nat) (as : List Value) (yy : gy × gy) (n : Nat) (i : Bool) (r : Int × (gy × Nat)) : Prop := calm C0 b0 L0 xs0 k as (yy, n) = some (.int (Int32.ofInt r.1), (gz yy i r.2.1, n + r.2.2))
theorem can_pr {k : Nat} {ps : List Value} {r : Int × (gy × Nat)} (hk : Nat.beq k 300 = false ∧ lip k = true) (h : pf (k - 200) ps (gg yy i) = some r) : can C0 b0 L0 xs0 k (.ref (gi C0 i) :: ps) yy n i r := by
  unfold can
  rw [em_pr hk.2]
  exact lpr_of (y := (yy, n)) hk.1 h
theorem can_ok {k : Nat} {as : List Value} {F v : Int} {Y2 Y : gy} (h : can C0 b0 L0 xs0 k as yy n i (qq F v Y2 Y)) (hF : F = 0) : calm C0 b0 L0 xs0 k as (yy, n) = some (.int (Int32.ofInt v), (gz yy i Y2, n)) := by
  unfold can at h
  rw [qq_ok hF] at h
  exact h
theorem can_no {k : Nat} {as : List Value} {F v : Int} {Y2 : gy} (hY : gg yy i = Y) (h : can C0 b0 L0 xs0 k as yy n i (qq F v Y2 Y)) (hF : F ≠ 0) : calm C0 b0 L0 xs0 k as (yy, n) = some (.int (Int32.ofInt (nz F.toNat)), (yy, n + 1)) := by
  unfold can at h
  rw [qq_no hF] at h
  rw [← hY] at h
  rw [gz_gg] at h
  exact h
theorem can_q {k : Nat} {as : List Value} {F v : Int} (hY : gg yy i = Y) (h : can C0 b0 L0 xs0 k as yy n i (qq F v Y Y)) (hF : F = 0) : calm C0 b0 L0 xs0 k as (yy, n) = some (.int (Int32.ofInt v), (yy, n)) := by
  have h2 := can_ok h hF
  rw [← hY, gz_gg] at h2
  exact h2
theorem sw_0 {a : Nat} {x0 x1 x2 v : Int32} {y y2 : (gy × gy) × Nat} (h : calm C0 b0 L0 xs0 309 [.ref a, .int x0] y = some (.int v, y2)) : calm C0 b0 L0 xs0 230 [.ref a, .int (Int32.ofInt 0), .int x0, .int x1, .int x2] y = some (.int v, y2) := by
  rw [M_230]
  simp (disch := omega) only [Int.reduceAdd, Int.reduceMul, Int.reduceSub, Int.reduceNeg, na_add, na_sub, na_mul, na_neg, na_lt, na_le, na_eq, na_ofNat, bo_some, tl_some, tl_none, rc_int, rc_ref, rc_null, rc_none, rc_long, tb_0, tb_1, ↓mr_g0, mr_r0, mr_get, mr_upd, mr_at, mr_wr, Classical.not_not, not_true_eq_false, not_false_eq_true, na_l0, na_l1, na_l2, na_l3, na_l4, na_l5, na_l6, na_l7, na_l8, na_l9, na_l10, na_l14, na_l15, na_l16, na_l25, na_l30, na_l31, na_l32, na_l33, na_l39, na_l43, na_l45, na_l48, na_l49, na_l50, na_l51, na_l52, na_l53, na_l55, na_l56, na_l57, na_l60, na_l64, na_l71, na_l80, na_l96, na_l100, na_l101, na_l102, na_l103, na_l104, na_l105, na_l106, na_l107, na_l108, na_l109, na_l110, na_l111, na_l112, na_l113, na_l114, na_l115, na_l116, na_l117, na_l118, na_l119, na_l120, na_l121, na_l125, na_l128, na_l150, na_l192, na_l255, na_l999, na_l1000, na_l1248, na_l1344, na_l1875, na_l10000, ↓reduceIte, pf_and, pe_le, pf_le, pe_lt, pf_lt, pe_eq, pf_eq, true_and, and_true, false_and, and_false, true_or, or_true, false_or, or_false, L_230_0, L_230_1, L_230_2, em_tab, em_tab0, h, ln_some]
theorem sw_2 {a : Nat} {x0 x1 x2 v : Int32} {y y2 : (gy × gy) × Nat} (h : calm C0 b0 L0 xs0 313 [.ref a, .int x0] y = some (.int v, y2)) : calm C0 b0 L0 xs0 230 [.ref a, .int (Int32.ofInt 2), .int x0, .int x1, .int x2] y = some (.int v, y2) := by
  rw [M_230]
  simp (disch := omega) only [Int.reduceAdd, Int.reduceMul, Int.reduceSub, Int.reduceNeg, na_add, na_sub, na_mul, na_neg, na_lt, na_le, na_eq, na_ofNat, bo_some, tl_some, tl_none, rc_int, rc_ref, rc_null, rc_none, rc_long, tb_0, tb_1, ↓mr_g0, mr_r0, mr_get, mr_upd, mr_at, mr_wr, Classical.not_not, not_true_eq_false, not_false_eq_true, na_l0, na_l1, na_l2, na_l3, na_l4, na_l5, na_l6, na_l7, na_l8, na_l9, na_l10, na_l14, na_l15, na_l16, na_l25, na_l30, na_l31, na_l32, na_l33, na_l39, na_l43, na_l45, na_l48, na_l49, na_l50, na_l51, na_l52, na_l53, na_l55, na_l56, na_l57, na_l60, na_l64, na_l71, na_l80, na_l96, na_l100, na_l101, na_l102, na_l103, na_l104, na_l105, na_l106, na_l107, na_l108, na_l109, na_l110, na_l111, na_l112, na_l113, na_l114, na_l115, na_l116, na_l117, na_l118, na_l119, na_l120, na_l121, na_l125, na_l128, na_l150, na_l192, na_l255, na_l999, na_l1000, na_l1248, na_l1344, na_l1875, na_l10000, ↓reduceIte, pf_and, pe_le, pf_le, pe_lt, pf_lt, pe_eq, pf_eq, true_and, and_true, false_and, and_false, true_or, or_true, false_or, or_false, L_230_0, L_230_1, L_230_2, em_tab, em_tab0, h, ln_some]
theorem sw_3 {a : Nat} {x0 x1 x2 v : Int32} {y y2 : (gy × gy) × Nat} (h : calm C0 b0 L0 xs0 314 [.ref a, .int x0, .int x1] y = some (.int v, y2)) : calm C0 b0 L0 xs0 230 [.ref a, .int (Int32.ofInt 3), .int x0, .int x1, .int x2] y = some (.int v, y2) := by
  rw [M_230]
  simp (disch := omega) only [Int.reduceAdd, Int.reduceMul, Int.reduceSub, Int.reduceNeg, na_add, na_sub, na_mul, na_neg, na_lt, na_le, na_eq, na_ofNat, bo_some, tl_some, tl_none, rc_int, rc_ref, rc_null, rc_none, rc_long, tb_0, tb_1, ↓mr_g0, mr_r0, mr_get, mr_upd, mr_at, mr_wr, Classical.not_not, not_true_eq_false, not_false_eq_true, na_l0, na_l1, na_l2, na_l3, na_l4, na_l5, na_l6, na_l7, na_l8, na_l9, na_l10, na_l14, na_l15, na_l16, na_l25, na_l30, na_l31, na_l32, na_l33, na_l39, na_l43, na_l45, na_l48, na_l49, na_l50, na_l51, na_l52, na_l53, na_l55, na_l56, na_l57, na_l60, na_l64, na_l71, na_l80, na_l96, na_l100, na_l101, na_l102, na_l103, na_l104, na_l105, na_l106, na_l107, na_l108, na_l109, na_l110, na_l111, na_l112, na_l113, na_l114, na_l115, na_l116, na_l117, na_l118, na_l119, na_l120, na_l121, na_l125, na_l128, na_l150, na_l192, na_l255, na_l999, na_l1000, na_l1248, na_l1344, na_l1875, na_l10000, ↓reduceIte, pf_and, pe_le, pf_le, pe_lt, pf_lt, pe_eq, pf_eq, true_and, and_true, false_and, and_false, true_or, or_true, false_or, or_false, L_230_0, L_230_1, L_230_2, em_tab, em_tab0, h, ln_some]
theorem sw_4 {a : Nat} {x0 x1 x2 v : Int32} {y y2 : (gy × gy) × Nat} (h : calm C0 b0 L0 xs0 316 [.ref a, .int x0, .int x1] y = some (.int v, y2)) : calm C0 b0 L0 xs0 230 [.ref a, .int (Int32.ofInt 4), .int x0, .int x1, .int x2] y = some (.int v, y2) := by
  rw [M_230]
  simp (disch := omega) only [Int.reduceAdd, Int.reduceMul, Int.reduceSub, Int.reduceNeg, na_add, na_sub, na_mul, na_neg, na_lt, na_le, na_eq, na_ofNat, bo_some, tl_some, tl_none, rc_int, rc_ref, rc_null, rc_none, rc_long, tb_0, tb_1, ↓mr_g0, mr_r0, mr_get, mr_upd, mr_at, mr_wr, Classical.not_not, not_true_eq_false, not_false_eq_true, na_l0, na_l1, na_l2, na_l3, na_l4, na_l5, na_l6, na_l7, na_l8, na_l9, na_l10, na_l14, na_l15, na_l16, na_l25, na_l30, na_l31, na_l32, na_l33, na_l39, na_l43, na_l45, na_l48, na_l49, na_l50, na_l51, na_l52, na_l53, na_l55, na_l56, na_l57, na_l60, na_l64, na_l71, na_l80, na_l96, na_l100, na_l101, na_l102, na_l103, na_l104, na_l105, na_l106, na_l107, na_l108, na_l109, na_l110, na_l111, na_l112, na_l113, na_l114, na_l115, na_l116, na_l117, na_l118, na_l119, na_l120, na_l121, na_l125, na_l128, na_l150, na_l192, na_l255, na_l999, na_l1000, na_l1248, na_l1344, na_l1875, na_l10000, ↓reduceIte, pf_and, pe_le, pf_le, pe_lt, pf_lt, pe_eq, pf_eq, true_and, and_true, false_and, and_false, true_or, or_true, false_or, or_false, L_230_0, L_230_1, L_230_2, em_tab, em_tab0, h, ln_some]
theorem sw_5 {a : Nat} {x0 x1 x2 v : Int32} {y y2 : (gy × gy) × Nat} (h : calm C0 b0 L0 xs0 317 [.ref a, .int x0, .int x1] y = some (.int v, y2)) : calm C0 b0 L0 xs0 230 [.ref a, .int (Int32.ofInt 5), .int x0, .int x1, .int x2] y = some (.int v, y2) := by
  rw [M_230]
  simp (disch := omega) only [Int.reduceAdd, Int.reduceMul, Int.reduceSub, Int.reduceNeg, na_add, na_sub, na_mul, na_neg, na_lt, na_le, na_eq, na_ofNat, bo_some, tl_some, tl_none, rc_int, rc_ref, rc_null, rc_none, rc_long, tb_0, tb_1, ↓mr_g0, mr_r0, mr_get, mr_upd, mr_at, mr_wr, Classical.not_not, not_true_eq_false, not_false_eq_true, na_l0, na_l1, na_l2, na_l3, na_l4, na_l5, na_l6, na_l7, na_l8, na_l9, na_l10, na_l14, na_l15, na_l16, na_l25, na_l30, na_l31, na_l32, na_l33, na_l39, na_l43, na_l45, na_l48, na_l49, na_l50, na_l51, na_l52, na_l53, na_l55, na_l56, na_l57, na_l60, na_l64, na_l71, na_l80, na_l96, na_l100, na_l101, na_l102, na_l103, na_l104, na_l105, na_l106, na_l107, na_l108, na_l109, na_l110, na_l111, na_l112, na_l113, na_l114, na_l115, na_l116, na_l117, na_l118, na_l119, na_l120, na_l121, na_l125, na_l128, na_l150, na_l192, na_l255, na_l999, na_l1000, na_l1248, na_l1344, na_l1875, na_l10000, ↓reduceIte, pf_and, pe_le, pf_le, pe_lt, pf_lt, pe_eq, pf_eq, true_and, and_true, false_and, and_false, true_or, or_true, false_or, or_false, L_230_0, L_230_1, L_230_2, em_tab, em_tab0, h, ln_some]
theorem sw_6 {a : Nat} {x0 x1 x2 v : Int32} {y y2 : (gy × gy) × Nat} (h : calm C0 b0 L0 xs0 315 [.ref a, .int x0, .int x1, .int x2] y = some (.int v, y2)) : calm C0 b0 L0 xs0 230 [.ref a, .int (Int32.ofInt 6), .int x0, .int x1, .int x2] y = some (.int v, y2) := by
  rw [M_230]
  simp (disch := omega) only [Int.reduceAdd, Int.reduceMul, Int.reduceSub, Int.reduceNeg, na_add, na_sub, na_mul, na_neg, na_lt, na_le, na_eq, na_ofNat, bo_some, tl_some, tl_none, rc_int, rc_ref, rc_null, rc_none, rc_long, tb_0, tb_1, ↓mr_g0, mr_r0, mr_get, mr_upd, mr_at, mr_wr, Classical.not_not, not_true_eq_false, not_false_eq_true, na_l0, na_l1, na_l2, na_l3, na_l4, na_l5, na_l6, na_l7, na_l8, na_l9, na_l10, na_l14, na_l15, na_l16, na_l25, na_l30, na_l31, na_l32, na_l33, na_l39, na_l43, na_l45, na_l48, na_l49, na_l50, na_l51, na_l52, na_l53, na_l55, na_l56, na_l57, na_l60, na_l64, na_l71, na_l80, na_l96, na_l100, na_l101, na_l102, na_l103, na_l104, na_l105, na_l106, na_l107, na_l108, na_l109, na_l110, na_l111, na_l112, na_l113, na_l114, na_l115, na_l116, na_l117, na_l118, na_l119, na_l120, na_l121, na_l125, na_l128, na_l150, na_l192, na_l255, na_l999, na_l1000, na_l1248, na_l1344, na_l1875, na_l10000, ↓reduceIte, pf_and, pe_le, pf_le, pe_lt, pf_lt, pe_eq, pf_eq, true_and, and_true, false_and, and_false, true_or, or_true, false_or, or_false, L_230_0, L_230_1, L_230_2, em_tab, em_tab0, h, ln_some]
theorem sw_7 {a : Nat} {x0 x1 x2 v : Int32} {y y2 : (gy × gy) × Nat} (h : calm C0 b0 L0 xs0 318 [.ref a, .int x0, .int x1, .int x2] y = some (.int v, y2)) : calm C0 b0 L0 xs0 230 [.ref a, .int (Int32.ofInt 7), .int x0, .int x1, .int x2] y = some (.int v, y2) := by
  rw [M_230]
  simp (disch := omega) only [Int.reduceAdd, Int.reduceMul, Int.reduceSub, Int.reduceNeg, na_add, na_sub, na_mul, na_neg, na_lt, na_le, na_eq, na_ofNat, bo_some, tl_some, tl_none, rc_int, rc_ref, rc_null, rc_none, rc_long, tb_0, tb_1, ↓mr_g0, mr_r0, mr_get, mr_upd, mr_at, mr_wr, Classical.not_not, not_true_eq_false, not_false_eq_true, na_l0, na_l1, na_l2, na_l3, na_l4, na_l5, na_l6, na_l7, na_l8, na_l9, na_l10, na_l14, na_l15, na_l16, na_l25, na_l30, na_l31, na_l32, na_l33, na_l39, na_l43, na_l45, na_l48, na_l49, na_l50, na_l51, na_l52, na_l53, na_l55, na_l56, na_l57, na_l60, na_l64, na_l71, na_l80, na_l96, na_l100, na_l101, na_l102, na_l103, na_l104, na_l105, na_l106, na_l107, na_l108, na_l109, na_l110, na_l111, na_l112, na_l113, na_l114, na_l115, na_l116, na_l117, na_l118, na_l119, na_l120, na_l121, na_l125, na_l128, na_l150, na_l192, na_l255, na_l999, na_l1000, na_l1248, na_l1344, na_l1875, na_l10000, ↓reduceIte, pf_and, pe_le, pf_le, pe_lt, pf_lt, pe_eq, pf_eq, true_and, and_true, false_and, and_false, true_or, or_true, false_or, or_false, L_230_0, L_230_1, L_230_2, em_tab, em_tab0, h, ln_some]
theorem sw_8 {a : Nat} {x0 x1 x2 v : Int32} {y y2 : (gy × gy) × Nat} (h : calm C0 b0 L0 xs0 320 [.ref a, .int x0, .int x1, .int x2] y = some (.int v, y2)) : calm C0 b0 L0 xs0 230 [.ref a, .int (Int32.ofInt 8), .int x0, .int x1, .int x2] y = some (.int v, y2) := by
  rw [M_230]
  simp (disch := omega) only [Int.reduceAdd, Int.reduceMul, Int.reduceSub, Int.reduceNeg, na_add, na_sub, na_mul, na_neg, na_lt, na_le, na_eq, na_ofNat, bo_some, tl_some, tl_none, rc_int, rc_ref, rc_null, rc_none, rc_long, tb_0, tb_1, ↓mr_g0, mr_r0, mr_get, mr_upd, mr_at, mr_wr, Classical.not_not, not_true_eq_false, not_false_eq_true, na_l0, na_l1, na_l2, na_l3, na_l4, na_l5, na_l6, na_l7, na_l8, na_l9, na_l10, na_l14, na_l15, na_l16, na_l25, na_l30, na_l31, na_l32, na_l33, na_l39, na_l43, na_l45, na_l48, na_l49, na_l50, na_l51, na_l52, na_l53, na_l55, na_l56, na_l57, na_l60, na_l64, na_l71, na_l80, na_l96, na_l100, na_l101, na_l102, na_l103, na_l104, na_l105, na_l106, na_l107, na_l108, na_l109, na_l110, na_l111, na_l112, na_l113, na_l114, na_l115, na_l116, na_l117, na_l118, na_l119, na_l120, na_l121, na_l125, na_l128, na_l150, na_l192, na_l255, na_l999, na_l1000, na_l1248, na_l1344, na_l1875, na_l10000, ↓reduceIte, pf_and, pe_le, pf_le, pe_lt, pf_lt, pe_eq, pf_eq, true_and, and_true, false_and, and_false, true_or, or_true, false_or, or_false, L_230_0, L_230_1, L_230_2, em_tab, em_tab0, h, ln_some]
theorem sw_9 {a : Nat} {x0 x1 x2 v : Int32} {y y2 : (gy × gy) × Nat} (h : calm C0 b0 L0 xs0 321 [.ref a, .int x0, .int x1, .int x2] y = some (.int v, y2)) : calm C0 b0 L0 xs0 230 [.ref a, .int (Int32.ofInt 9), .int x0, .int x1, .int x2] y = some (.int v, y2) := by
  rw [M_230]
  simp (disch := omega) only [Int.reduceAdd, Int.reduceMul, Int.reduceSub, Int.reduceNeg, na_add, na_sub, na_mul, na_neg, na_lt, na_le, na_eq, na_ofNat, bo_some, tl_some, tl_none, rc_int, rc_ref, rc_null, rc_none, rc_long, tb_0, tb_1, ↓mr_g0, mr_r0, mr_get, mr_upd, mr_at, mr_wr, Classical.not_not, not_true_eq_false, not_false_eq_true, na_l0, na_l1, na_l2, na_l3, na_l4, na_l5, na_l6, na_l7, na_l8, na_l9, na_l10, na_l14, na_l15, na_l16, na_l25, na_l30, na_l31, na_l32, na_l33, na_l39, na_l43, na_l45, na_l48, na_l49, na_l50, na_l51, na_l52, na_l53, na_l55, na_l56, na_l57, na_l60, na_l64, na_l71, na_l80, na_l96, na_l100, na_l101, na_l102, na_l103, na_l104, na_l105, na_l106, na_l107, na_l108, na_l109, na_l110, na_l111, na_l112, na_l113, na_l114, na_l115, na_l116, na_l117, na_l118, na_l119, na_l120, na_l121, na_l125, na_l128, na_l150, na_l192, na_l255, na_l999, na_l1000, na_l1248, na_l1344, na_l1875, na_l10000, ↓reduceIte, pf_and, pe_le, pf_le, pe_lt, pf_lt, pe_eq, pf_eq, true_and, and_true, false_and, and_false, true_or, or_true, false_or, or_false, L_230_0, L_230_1, L_230_2, em_tab, em_tab0, h, ln_some]
theorem sw_10 {a : Nat} {x0 x1 x2 v : Int32} {y y2 : (gy × gy) × Nat} (h : calm C0 b0 L0 xs0 322 [.ref a, .int x0, .int x1] y = some (.int v, y2)) : calm C0 b0 L0 xs0 230 [.ref a, .int (Int32.ofInt 10), .int x0, .int x1, .int x2] y = some (.int v, y2) := by
  rw [M_230]
  simp (disch := omega) only [Int.reduceAdd, Int.reduceMul, Int.reduceSub, Int.reduceNeg, na_add, na_sub, na_mul, na_neg, na_lt, na_le, na_eq, na_ofNat, bo_some, tl_some, tl_none, rc_int, rc_ref, rc_null, rc_none, rc_long, tb_0, tb_1, ↓mr_g0, mr_r0, mr_get, mr_upd, mr_at, mr_wr, Classical.not_not, not_true_eq_false, not_false_eq_true, na_l0, na_l1, na_l2, na_l3, na_l4, na_l5, na_l6, na_l7, na_l8, na_l9, na_l10, na_l14, na_l15, na_l16, na_l25, na_l30, na_l31, na_l32, na_l33, na_l39, na_l43, na_l45, na_l48, na_l49, na_l50, na_l51, na_l52, na_l53, na_l55, na_l56, na_l57, na_l60, na_l64, na_l71, na_l80, na_l96, na_l100, na_l101, na_l102, na_l103, na_l104, na_l105, na_l106, na_l107, na_l108, na_l109, na_l110, na_l111, na_l112, na_l113, na_l114, na_l115, na_l116, na_l117, na_l118, na_l119, na_l120, na_l121, na_l125, na_l128, na_l150, na_l192, na_l255, na_l999, na_l1000, na_l1248, na_l1344, na_l1875, na_l10000, ↓reduceIte, pf_and, pe_le, pf_le, pe_lt, pf_lt, pe_eq, pf_eq, true_and, and_true, false_and, and_false, true_or, or_true, false_or, or_false, L_230_0, L_230_1, L_230_2, em_tab, em_tab0, h, ln_some]
theorem sw_11 {a : Nat} {x0 x1 x2 v : Int32} {y y2 : (gy × gy) × Nat} (h : calm C0 b0 L0 xs0 323 [.ref a, .int x0, .int x1] y = some (.int v, y2)) : calm C0 b0 L0 xs0 230 [.ref a, .int (Int32.ofInt 11), .int x0, .int x1, .int x2] y = some (.int v, y2) := by
  rw [M_230]
  simp (disch := omega) only [Int.reduceAdd, Int.reduceMul, Int.reduceSub, Int.reduceNeg, na_add, na_sub, na_mul, na_neg, na_lt, na_le, na_eq, na_ofNat, bo_some, tl_some, tl_none, rc_int, rc_ref, rc_null, rc_none, rc_long, tb_0, tb_1, ↓mr_g0, mr_r0, mr_get, mr_upd, mr_at, mr_wr, Classical.not_not, not_true_eq_false, not_false_eq_true, na_l0, na_l1, na_l2, na_l3, na_l4, na_l5, na_l6, na_l7, na_l8, na_l9, na_l10, na_l14, na_l15, na_l16, na_l25, na_l30, na_l31, na_l32, na_l33, na_l39, na_l43, na_l45, na_l48, na_l49, na_l50, na_l51, na_l52, na_l53, na_l55, na_l56, na_l57, na_l60, na_l64, na_l71, na_l80, na_l96, na_l100, na_l101, na_l102, na_l103, na_l104, na_l105, na_l106, na_l107, na_l108, na_l109, na_l110, na_l111, na_l112, na_l113, na_l114, na_l115, na_l116, na_l117, na_l118, na_l119, na_l120, na_l121, na_l125, na_l128, na_l150, na_l192, na_l255, na_l999, na_l1000, na_l1248, na_l1344, na_l1875, na_l10000, ↓reduceIte, pf_and, pe_le, pf_le, pe_lt, pf_lt, pe_eq, pf_eq, true_and, and_true, false_and, and_false, true_or, or_true, false_or, or_false, L_230_0, L_230_1, L_230_2, em_tab, em_tab0, h, ln_some]
theorem sw_12 {a : Nat} {x0 x1 x2 v : Int32} {y y2 : (gy × gy) × Nat} (h : calm C0 b0 L0 xs0 324 [.ref a, .int x0, .int x1] y = some (.int v, y2)) : calm C0 b0 L0 xs0 230 [.ref a, .int (Int32.ofInt 12), .int x0, .int x1, .int x2] y = some (.int v, y2) := by
  rw [M_230]
  simp (disch := omega) only [Int.reduceAdd, Int.reduceMul, Int.reduceSub, Int.reduceNeg, na_add, na_sub, na_mul, na_neg, na_lt, na_le, na_eq, na_ofNat, bo_some, tl_some, tl_none, rc_int, rc_ref, rc_null, rc_none, rc_long, tb_0, tb_1, ↓mr_g0, mr_r0, mr_get, mr_upd, mr_at, mr_wr, Classical.not_not, not_true_eq_false, not_false_eq_true, na_l0, na_l1, na_l2, na_l3, na_l4, na_l5, na_l6, na_l7, na_l8, na_l9, na_l10, na_l14, na_l15, na_l16, na_l25, na_l30, na_l31, na_l32, na_l33, na_l39, na_l43, na_l45, na_l48, na_l49, na_l50, na_l51, na_l52, na_l53, na_l55, na_l56, na_l57, na_l60, na_l64, na_l71, na_l80, na_l96, na_l100, na_l101, na_l102, na_l103, na_l104, na_l105, na_l106, na_l107, na_l108, na_l109, na_l110, na_l111, na_l112, na_l113, na_l114, na_l115, na_l116, na_l117, na_l118, na_l119, na_l120, na_l121, na_l125, na_l128, na_l150, na_l192, na_l255, na_l999, na_l1000, na_l1248, na_l1344, na_l1875, na_l10000, ↓reduceIte, pf_and, pe_le, pf_le, pe_lt, pf_lt, pe_eq, pf_eq, true_and, and_true, false_and, and_false, true_or, or_true, false_or, or_false, L_230_0, L_230_1, L_230_2, em_tab, em_tab0, h, ln_some]
theorem sw_13 {a : Nat} {x0 x1 x2 v : Int32} {y y2 : (gy × gy) × Nat} (h : calm C0 b0 L0 xs0 325 [.ref a, .int x0] y = some (.int v, y2)) : calm C0 b0 L0 xs0 230 [.ref a, .int (Int32.ofInt 13), .int x0, .int x1, .int x2] y = some (.int v, y2) := by
  rw [M_230]
  simp (disch := omega) only [Int.reduceAdd, Int.reduceMul, Int.reduceSub, Int.reduceNeg, na_add, na_sub, na_mul, na_neg, na_lt, na_le, na_eq, na_ofNat, bo_some, tl_some, tl_none, rc_int, rc_ref, rc_null, rc_none, rc_long, tb_0, tb_1, ↓mr_g0, mr_r0, mr_get, mr_upd, mr_at, mr_wr, Classical.not_not, not_true_eq_false, not_false_eq_true, na_l0, na_l1, na_l2, na_l3, na_l4, na_l5, na_l6, na_l7, na_l8, na_l9, na_l10, na_l14, na_l15, na_l16, na_l25, na_l30, na_l31, na_l32, na_l33, na_l39, na_l43, na_l45, na_l48, na_l49, na_l50, na_l51, na_l52, na_l53, na_l55, na_l56, na_l57, na_l60, na_l64, na_l71, na_l80, na_l96, na_l100, na_l101, na_l102, na_l103, na_l104, na_l105, na_l106, na_l107, na_l108, na_l109, na_l110, na_l111, na_l112, na_l113, na_l114, na_l115, na_l116, na_l117, na_l118, na_l119, na_l120, na_l121, na_l125, na_l128, na_l150, na_l192, na_l255, na_l999, na_l1000, na_l1248, na_l1344, na_l1875, na_l10000, ↓reduceIte, pf_and, pe_le, pf_le, pe_lt, pf_lt, pe_eq, pf_eq, true_and, and_true, false_and, and_false, true_or, or_true, false_or, or_false, L_230_0, L_230_1, L_230_2, em_tab, em_tab0, h, ln_some]
theorem sw_14 {a : Nat} {x0 x1 x2 v : Int32} {y y2 : (gy × gy) × Nat} (h : calm C0 b0 L0 xs0 326 [.ref a] y = some (.int v, y2)) : calm C0 b0 L0 xs0 230 [.ref a, .int (Int32.ofInt 14), .int x0, .int x1, .int x2] y = some (.int v, y2) := by
  rw [M_230]
  simp (disch := omega) only [Int.reduceAdd, Int.reduceMul, Int.reduceSub, Int.reduceNeg, na_add, na_sub, na_mul, na_neg, na_lt, na_le, na_eq, na_ofNat, bo_some, tl_some, tl_none, rc_int, rc_ref, rc_null, rc_none, rc_long, tb_0, tb_1, ↓mr_g0, mr_r0, mr_get, mr_upd, mr_at, mr_wr, Classical.not_not, not_true_eq_false, not_false_eq_true, na_l0, na_l1, na_l2, na_l3, na_l4, na_l5, na_l6, na_l7, na_l8, na_l9, na_l10, na_l14, na_l15, na_l16, na_l25, na_l30, na_l31, na_l32, na_l33, na_l39, na_l43, na_l45, na_l48, na_l49, na_l50, na_l51, na_l52, na_l53, na_l55, na_l56, na_l57, na_l60, na_l64, na_l71, na_l80, na_l96, na_l100, na_l101, na_l102, na_l103, na_l104, na_l105, na_l106, na_l107, na_l108, na_l109, na_l110, na_l111, na_l112, na_l113, na_l114, na_l115, na_l116, na_l117, na_l118, na_l119, na_l120, na_l121, na_l125, na_l128, na_l150, na_l192, na_l255, na_l999, na_l1000, na_l1248, na_l1344, na_l1875, na_l10000, ↓reduceIte, pf_and, pe_le, pf_le, pe_lt, pf_lt, pe_eq, pf_eq, true_and, and_true, false_and, and_false, true_or, or_true, false_or, or_false, L_230_0, L_230_1, L_230_2, em_tab, em_tab0, h, ln_some]
theorem sw_15 {a : Nat} {x0 x1 x2 v : Int32} {y y2 : (gy × gy) × Nat} (h : calm C0 b0 L0 xs0 327 [.ref a, .int x0, .int x1] y = some (.int v, y2)) : calm C0 b0 L0 xs0 230 [.ref a, .int (Int32.ofInt 15), .int x0, .int x1, .int x2] y = some (.int v, y2) := by
  rw [M_230]
  simp (disch := omega) only [Int.reduceAdd, Int.reduceMul, Int.reduceSub, Int.reduceNeg, na_add, na_sub, na_mul, na_neg, na_lt, na_le, na_eq, na_ofNat, bo_some, tl_some, tl_none, rc_int, rc_ref, rc_null, rc_none, rc_long, tb_0, tb_1, ↓mr_g0, mr_r0, mr_get, mr_upd, mr_at, mr_wr, Classical.not_not, not_true_eq_false, not_false_eq_true, na_l0, na_l1, na_l2, na_l3, na_l4, na_l5, na_l6, na_l7, na_l8, na_l9, na_l10, na_l14, na_l15, na_l16, na_l25, na_l30, na_l31, na_l32, na_l33, na_l39, na_l43, na_l45, na_l48, na_l49, na_l50, na_l51, na_l52, na_l53, na_l55, na_l56, na_l57, na_l60, na_l64, na_l71, na_l80, na_l96, na_l100, na_l101, na_l102, na_l103, na_l104, na_l105, na_l106, na_l107, na_l108, na_l109, na_l110, na_l111, na_l112, na_l113, na_l114, na_l115, na_l116, na_l117, na_l118, na_l119, na_l120, na_l121, na_l125, na_l128, na_l150, na_l192, na_l255, na_l999, na_l1000, na_l1248, na_l1344, na_l1875, na_l10000, ↓reduceIte, pf_and, pe_le, pf_le, pe_lt, pf_lt, pe_eq, pf_eq, true_and, and_true, false_and, and_false, true_or, or_true, false_or, or_false, L_230_0, L_230_1, L_230_2, em_tab, em_tab0, h, ln_some]
theorem sw_16 {a : Nat} {x0 x1 x2 v : Int32} {y y2 : (gy × gy) × Nat} (h : calm C0 b0 L0 xs0 329 [.ref a, .int x0, .int x1] y = some (.int v, y2)) : calm C0 b0 L0 xs0 230 [.ref a, .int (Int32.ofInt 16), .int x0, .int x1, .int x2] y = some (.int v, y2) := by
  rw [M_230]
  simp (disch := omega) only [Int.reduceAdd, Int.reduceMul, Int.reduceSub, Int.reduceNeg, na_add, na_sub, na_mul, na_neg, na_lt, na_le, na_eq, na_ofNat, bo_some, tl_some, tl_none, rc_int, rc_ref, rc_null, rc_none, rc_long, tb_0, tb_1, ↓mr_g0, mr_r0, mr_get, mr_upd, mr_at, mr_wr, Classical.not_not, not_true_eq_false, not_false_eq_true, na_l0, na_l1, na_l2, na_l3, na_l4, na_l5, na_l6, na_l7, na_l8, na_l9, na_l10, na_l14, na_l15, na_l16, na_l25, na_l30, na_l31, na_l32, na_l33, na_l39, na_l43, na_l45, na_l48, na_l49, na_l50, na_l51, na_l52, na_l53, na_l55, na_l56, na_l57, na_l60, na_l64, na_l71, na_l80, na_l96, na_l100, na_l101, na_l102, na_l103, na_l104, na_l105, na_l106, na_l107, na_l108, na_l109, na_l110, na_l111, na_l112, na_l113, na_l114, na_l115, na_l116, na_l117, na_l118, na_l119, na_l120, na_l121, na_l125, na_l128, na_l150, na_l192, na_l255, na_l999, na_l1000, na_l1248, na_l1344, na_l1875, na_l10000, ↓reduceIte, pf_and, pe_le, pf_le, pe_lt, pf_lt, pe_eq, pf_eq, true_and, and_true, false_and, and_false, true_or, or_true, false_or, or_false, L_230_0, L_230_1, L_230_2, em_tab, em_tab0, h, ln_some]
theorem sw_17 {a : Nat} {x0 x1 x2 v : Int32} {y y2 : (gy × gy) × Nat} (h : calm C0 b0 L0 xs0 330 [.ref a, .int x0, .int x1] y = some (.int v, y2)) : calm C0 b0 L0 xs0 230 [.ref a, .int (Int32.ofInt 17), .int x0, .int x1, .int x2] y = some (.int v, y2) := by
  rw [M_230]
  simp (disch := omega) only [Int.reduceAdd, Int.reduceMul, Int.reduceSub, Int.reduceNeg, na_add, na_sub, na_mul, na_neg, na_lt, na_le, na_eq, na_ofNat, bo_some, tl_some, tl_none, rc_int, rc_ref, rc_null, rc_none, rc_long, tb_0, tb_1, ↓mr_g0, mr_r0, mr_get, mr_upd, mr_at, mr_wr, Classical.not_not, not_true_eq_false, not_false_eq_true, na_l0, na_l1, na_l2, na_l3, na_l4, na_l5, na_l6, na_l7, na_l8, na_l9, na_l10, na_l14, na_l15, na_l16, na_l25, na_l30, na_l31, na_l32, na_l33, na_l39, na_l43, na_l45, na_l48, na_l49, na_l50, na_l51, na_l52, na_l53, na_l55, na_l56, na_l57, na_l60, na_l64, na_l71, na_l80, na_l96, na_l100, na_l101, na_l102, na_l103, na_l104, na_l105, na_l106, na_l107, na_l108, na_l109, na_l110, na_l111, na_l112, na_l113, na_l114, na_l115, na_l116, na_l117, na_l118, na_l119, na_l120, na_l121, na_l125, na_l128, na_l150, na_l192, na_l255, na_l999, na_l1000, na_l1248, na_l1344, na_l1875, na_l10000, ↓reduceIte, pf_and, pe_le, pf_le, pe_lt, pf_lt, pe_eq, pf_eq, true_and, and_true, false_and, and_false, true_or, or_true, false_or, or_false, L_230_0, L_230_1, L_230_2, em_tab, em_tab0, h, ln_some]
theorem sw_18 {a : Nat} {x0 x1 x2 v : Int32} {y y2 : (gy × gy) × Nat} (h : calm C0 b0 L0 xs0 333 [.ref a, .int x0] y = some (.int v, y2)) : calm C0 b0 L0 xs0 230 [.ref a, .int (Int32.ofInt 18), .int x0, .int x1, .int x2] y = some (.int v, y2) := by
  rw [M_230]
  simp (disch := omega) only [Int.reduceAdd, Int.reduceMul, Int.reduceSub, Int.reduceNeg, na_add, na_sub, na_mul, na_neg, na_lt, na_le, na_eq, na_ofNat, bo_some, tl_some, tl_none, rc_int, rc_ref, rc_null, rc_none, rc_long, tb_0, tb_1, ↓mr_g0, mr_r0, mr_get, mr_upd, mr_at, mr_wr, Classical.not_not, not_true_eq_false, not_false_eq_true, na_l0, na_l1, na_l2, na_l3, na_l4, na_l5, na_l6, na_l7, na_l8, na_l9, na_l10, na_l14, na_l15, na_l16, na_l25, na_l30, na_l31, na_l32, na_l33, na_l39, na_l43, na_l45, na_l48, na_l49, na_l50, na_l51, na_l52, na_l53, na_l55, na_l56, na_l57, na_l60, na_l64, na_l71, na_l80, na_l96, na_l100, na_l101, na_l102, na_l103, na_l104, na_l105, na_l106, na_l107, na_l108, na_l109, na_l110, na_l111, na_l112, na_l113, na_l114, na_l115, na_l116, na_l117, na_l118, na_l119, na_l120, na_l121, na_l125, na_l128, na_l150, na_l192, na_l255, na_l999, na_l1000, na_l1248, na_l1344, na_l1875, na_l10000, ↓reduceIte, pf_and, pe_le, pf_le, pe_lt, pf_lt, pe_eq, pf_eq, true_and, and_true, false_and, and_false, true_or, or_true, false_or, or_false, L_230_0, L_230_1, L_230_2, em_tab, em_tab0, h, ln_some]
theorem sw_19 {a : Nat} {x0 x1 x2 v : Int32} {y y2 : (gy × gy) × Nat} (h : calm C0 b0 L0 xs0 334 [.ref a, .int x0] y = some (.int v, y2)) : calm C0 b0 L0 xs0 230 [.ref a, .int (Int32.ofInt 19), .int x0, .int x1, .int x2] y = some (.int v, y2) := by
  rw [M_230]
  simp (disch := omega) only [Int.reduceAdd, Int.reduceMul, Int.reduceSub, Int.reduceNeg, na_add, na_sub, na_mul, na_neg, na_lt, na_le, na_eq, na_ofNat, bo_some, tl_some, tl_none, rc_int, rc_ref, rc_null, rc_none, rc_long, tb_0, tb_1, ↓mr_g0, mr_r0, mr_get, mr_upd, mr_at, mr_wr, Classical.not_not, not_true_eq_false, not_false_eq_true, na_l0, na_l1, na_l2, na_l3, na_l4, na_l5, na_l6, na_l7, na_l8, na_l9, na_l10, na_l14, na_l15, na_l16, na_l25, na_l30, na_l31, na_l32, na_l33, na_l39, na_l43, na_l45, na_l48, na_l49, na_l50, na_l51, na_l52, na_l53, na_l55, na_l56, na_l57, na_l60, na_l64, na_l71, na_l80, na_l96, na_l100, na_l101, na_l102, na_l103, na_l104, na_l105, na_l106, na_l107, na_l108, na_l109, na_l110, na_l111, na_l112, na_l113, na_l114, na_l115, na_l116, na_l117, na_l118, na_l119, na_l120, na_l121, na_l125, na_l128, na_l150, na_l192, na_l255, na_l999, na_l1000, na_l1248, na_l1344, na_l1875, na_l10000, ↓reduceIte, pf_and, pe_le, pf_le, pe_lt, pf_lt, pe_eq, pf_eq, true_and, and_true, false_and, and_false, true_or, or_true, false_or, or_false, L_230_0, L_230_1, L_230_2, em_tab, em_tab0, h, ln_some]
theorem cp_113 {a : Int} {u1 : Int32} {u2 : Int32} (hk : gk (gg yy i)) (a1 : -2147483648 ≤ a) (a2 : a < 2147483648) : can C0 b0 L0 xs0 230 [.ref (gi C0 i), .int (Int32.ofInt 2), .int (Int32.ofInt a), .int u1, .int u2] yy n i (q113 (gg yy i) a) := by
  have h := can_pr (C0 := C0) (b0 := b0) (L0 := L0) (xs0 := xs0) (n := n) (k := 313) ⟨rfl, rfl⟩ (pf_of (k := 113) (g := p113) hk rfl (show p113 [.int (Int32.ofInt a)] (gg yy i) = some (q113 (gg yy i) a) by
    show some (q113 (gg yy i) (Int32.ofInt a).toInt) = _
    rw [na_toInt a1 a2]))
  exact sw_2 h
theorem cp_114 {a b : Int} {u2 : Int32} (hk : gk (gg yy i)) (a1 : -2147483648 ≤ a) (a2 : a < 2147483648) (b1 : -2147483648 ≤ b) (b2 : b < 2147483648) : can C0 b0 L0 xs0 230 [.ref (gi C0 i), .int (Int32.ofInt 3), .int (Int32.ofInt a), .int (Int32.ofInt b), .int u2] yy n i (q114 (gg yy i) a b) := by
  have h := can_pr (C0 := C0) (b0 := b0) (L0 := L0) (xs0 := xs0) (n := n) (k := 314) ⟨rfl, rfl⟩ (pf_of (k := 114) (g := p114) hk rfl (show p114 [.int (Int32.ofInt a), .int (Int32.ofInt b)] (gg yy i) = some (q114 (gg yy i) a b) by
    show some (q114 (gg yy i) (Int32.ofInt a).toInt (Int32.ofInt b).toInt) = _
    rw [na_toInt a1 a2, na_toInt b1 b2]))
  exact sw_3 h
theorem cp_115 {a b c : Int}  (hk : gk (gg yy i)) (a1 : -2147483648 ≤ a) (a2 : a < 2147483648) (b1 : -2147483648 ≤ b) (b2 : b < 2147483648) (c1 : -2147483648 ≤ c) (c2 : c < 2147483648) : can C0 b0 L0 xs0 230 [.ref (gi C0 i), .int (Int32.ofInt 6), .int (Int32.ofInt a), .int (Int32.ofInt b), .int (Int32.ofInt c)] yy n i (q115 (gg yy i) a b c) := by
  have h := can_pr (C0 := C0) (b0 := b0) (L0 := L0) (xs0 := xs0) (n := n) (k := 315) ⟨rfl, rfl⟩ (pf_of (k := 115) (g := p115) hk rfl (show p115 [.int (Int32.ofInt a), .int (Int32.ofInt b), .int (Int32.ofInt c)] (gg yy i) = some (q115 (gg yy i) a b c) by
    show some (q115 (gg yy i) (Int32.ofInt a).toInt (Int32.ofInt b).toInt (Int32.ofInt c).toInt) = _
    rw [na_toInt a1 a2, na_toInt b1 b2, na_toInt c1 c2]))
  exact sw_6 h
theorem cp_116 {a b : Int} {u2 : Int32} (hk : gk (gg yy i)) (a1 : -2147483648 ≤ a) (a2 : a < 2147483648) (b1 : -2147483648 ≤ b) (b2 : b < 2147483648) : can C0 b0 L0 xs0 230 [.ref (gi C0 i), .int (Int32.ofInt 4), .int (Int32.ofInt a), .int (Int32.ofInt b), .int u2] yy n i (q116 (gg yy i) a b) := by
  have h := can_pr (C0 := C0) (b0 := b0) (L0 := L0) (xs0 := xs0) (n := n) (k := 316) ⟨rfl, rfl⟩ (pf_of (k := 116) (g := p116) hk rfl (show p116 [.int (Int32.ofInt a), .int (Int32.ofInt b)] (gg yy i) = some (q116 (gg yy i) a b) by
    show some (q116 (gg yy i) (Int32.ofInt a).toInt (Int32.ofInt b).toInt) = _
    rw [na_toInt a1 a2, na_toInt b1 b2]))
  exact sw_4 h
theorem cp_117 {a b : Int} {u2 : Int32} (hk : gk (gg yy i)) (a1 : -2147483648 ≤ a) (a2 : a < 2147483648) (b1 : -2147483648 ≤ b) (b2 : b < 2147483648) : can C0 b0 L0 xs0 230 [.ref (gi C0 i), .int (Int32.ofInt 5), .int (Int32.ofInt a), .int (Int32.ofInt b), .int u2] yy n i (q117 (gg yy i) a b) := by
  have h := can_pr (C0 := C0) (b0 := b0) (L0 := L0) (xs0 := xs0) (n := n) (k := 317) ⟨rfl, rfl⟩ (pf_of (k := 117) (g := p117) hk rfl (show p117 [.int (Int32.ofInt a), .int (Int32.ofInt b)] (gg yy i) = some (q117 (gg yy i) a b) by
    show some (q117 (gg yy i) (Int32.ofInt a).toInt (Int32.ofInt b).toInt) = _
    rw [na_toInt a1 a2, na_toInt b1 b2]))
  exact sw_5 h
theorem cp_118 {a b c : Int}  (hk : gk (gg yy i)) (a1 : -2147483648 ≤ a) (a2 : a < 2147483648) (b1 : -2147483648 ≤ b) (b2 : b < 2147483648) (c1 : -2147483648 ≤ c) (c2 : c < 2147483648) : can C0 b0 L0 xs0 230 [.ref (gi C0 i), .int (Int32.ofInt 7), .int (Int32.ofInt a), .int (Int32.ofInt b), .int (Int32.ofInt c)] yy n i (q118 (gg yy i) a b c) := by
  have h := can_pr (C0 := C0) (b0 := b0) (L0 := L0) (xs0 := xs0) (n := n) (k := 318) ⟨rfl, rfl⟩ (pf_of (k := 118) (g := p118) hk rfl (show p118 [.int (Int32.ofInt a), .int (Int32.ofInt b), .int (Int32.ofInt c)] (gg yy i) = some (q118 (gg yy i) a b c) by
    show some (q118 (gg yy i) (Int32.ofInt a).toInt (Int32.ofInt b).toInt (Int32.ofInt c).toInt) = _
    rw [na_toInt a1 a2, na_toInt b1 b2, na_toInt c1 c2]))
  exact sw_7 h
theorem cp_119 {a b c d : Int}  (hk : gk (gg yy i)) (a1 : -2147483648 ≤ a) (a2 : a < 2147483648) (b1 : -2147483648 ≤ b) (b2 : b < 2147483648) (c1 : -2147483648 ≤ c) (c2 : c < 2147483648) (d1 : -2147483648 ≤ d) (d2 : d < 2147483648) : can C0 b0 L0 xs0 319 [.ref (gi C0 i), .int (Int32.ofInt a), .int (Int32.ofInt b), .int (Int32.ofInt c), .int (Int32.ofInt d)] yy n i (q119 (gg yy i) a b c d) := by
  have h := can_pr (C0 := C0) (b0 := b0) (L0 := L0) (xs0 := xs0) (n := n) (k := 319) ⟨rfl, rfl⟩ (pf_of (k := 119) (g := p119) hk rfl (show p119 [.int (Int32.ofInt a), .int (Int32.ofInt b), .int (Int32.ofInt c), .int (Int32.ofInt d)] (gg yy i) = some (q119 (gg yy i) a b c d) by
    show some (q119 (gg yy i) (Int32.ofInt a).toInt (Int32.ofInt b).toInt (Int32.ofInt c).toInt (Int32.ofInt d).toInt) = _
    rw [na_toInt a1 a2, na_toInt b1 b2, na_toInt c1 c2, na_toInt d1 d2]))
  exact h
theorem cp_120 {a b c : Int}  (hk : gk (gg yy i)) (a1 : -2147483648 ≤ a) (a2 : a < 2147483648) (b1 : -2147483648 ≤ b) (b2 : b < 2147483648) (c1 : -2147483648 ≤ c) (c2 : c < 2147483648) : can C0 b0 L0 xs0 230 [.ref (gi C0 i), .int (Int32.ofInt 8), .int (Int32.ofInt a), .int (Int32.ofInt b), .int (Int32.ofInt c)] yy n i (q120 (gg yy i) a b c) := by
  have h := can_pr (C0 := C0) (b0 := b0) (L0 := L0) (xs0 := xs0) (n := n) (k := 320) ⟨rfl, rfl⟩ (pf_of (k := 120) (g := p120) hk rfl (show p120 [.int (Int32.ofInt a), .int (Int32.ofInt b), .int (Int32.ofInt c)] (gg yy i) = some (q120 (gg yy i) a b c) by
    show some (q120 (gg yy i) (Int32.ofInt a).toInt (Int32.ofInt b).toInt (Int32.ofInt c).toInt) = _
    rw [na_toInt a1 a2, na_toInt b1 b2, na_toInt c1 c2]))
  exact sw_8 h
theorem cp_121 {a b c : Int}  (hk : gk (gg yy i)) (a1 : -2147483648 ≤ a) (a2 : a < 2147483648) (b1 : -2147483648 ≤ b) (b2 : b < 2147483648) (c1 : -2147483648 ≤ c) (c2 : c < 2147483648) : can C0 b0 L0 xs0 230 [.ref (gi C0 i), .int (Int32.ofInt 9), .int (Int32.ofInt a), .int (Int32.ofInt b), .int (Int32.ofInt c)] yy n i (q121 (gg yy i) a b c) := by
  have h := can_pr (C0 := C0) (b0 := b0) (L0 := L0) (xs0 := xs0) (n := n) (k := 321) ⟨rfl, rfl⟩ (pf_of (k := 121) (g := p121) hk rfl (show p121 [.int (Int32.ofInt a), .int (Int32.ofInt b), .int (Int32.ofInt c)] (gg yy i) = some (q121 (gg yy i) a b c) by
    show some (q121 (gg yy i) (Int32.ofInt a).toInt (Int32.ofInt b).toInt (Int32.ofInt c).toInt) = _
    rw [na_toInt a1 a2, na_toInt b1 b2, na_toInt c1 c2]))
  exact sw_9 h
theorem cp_122 {a b : Int} {u2 : Int32} (hk : gk (gg yy i)) (a1 : -2147483648 ≤ a) (a2 : a < 2147483648) (b1 : -2147483648 ≤ b) (b2 : b < 2147483648) : can C0 b0 L0 xs0 230 [.ref (gi C0 i), .int (Int32.ofInt 10), .int (Int32.ofInt a), .int (Int32.ofInt b), .int u2] yy n i (q122 (gg yy i) a b) := by
  have h := can_pr (C0 := C0) (b0 := b0) (L0 := L0) (xs0 := xs0) (n := n) (k := 322) ⟨rfl, rfl⟩ (pf_of (k := 122) (g := p122) hk rfl (show p122 [.int (Int32.ofInt a), .int (Int32.ofInt b)] (gg yy i) = some (q122 (gg yy i) a b) by
    show some (q122 (gg yy i) (Int32.ofInt a).toInt (Int32.ofInt b).toInt) = _
    rw [na_toInt a1 a2, na_toInt b1 b2]))
  exact sw_10 h
theorem cp_123 {a b : Int} {u2 : Int32} (hk : gk (gg yy i)) (a1 : -2147483648 ≤ a) (a2 : a < 2147483648) (b1 : -2147483648 ≤ b) (b2 : b < 2147483648) : can C0 b0 L0 xs0 230 [.ref (gi C0 i), .int (Int32.ofInt 11), .int (Int32.ofInt a), .int (Int32.ofInt b), .int u2] yy n i (q123 (gg yy i) a b) := by
  have h := can_pr (C0 := C0) (b0 := b0) (L0 := L0) (xs0 := xs0) (n := n) (k := 323) ⟨rfl, rfl⟩ (pf_of (k := 123) (g := p123) hk rfl (show p123 [.int (Int32.ofInt a), .int (Int32.ofInt b)] (gg yy i) = some (q123 (gg yy i) a b) by
    show some (q123 (gg yy i) (Int32.ofInt a).toInt (Int32.ofInt b).toInt) = _
    rw [na_toInt a1 a2, na_toInt b1 b2]))
  exact sw_11 h
theorem cp_124 {a b : Int} {u2 : Int32} (hk : gk (gg yy i)) (a1 : -2147483648 ≤ a) (a2 : a < 2147483648) (b1 : -2147483648 ≤ b) (b2 : b < 2147483648) : can C0 b0 L0 xs0 230 [.ref (gi C0 i), .int (Int32.ofInt 12), .int (Int32.ofInt a), .int (Int32.ofInt b), .int u2] yy n i (q124 (gg yy i) a b) := by
  have h := can_pr (C0 := C0) (b0 := b0) (L0 := L0) (xs0 := xs0) (n := n) (k := 324) ⟨rfl, rfl⟩ (pf_of (k := 124) (g := p124) hk rfl (show p124 [.int (Int32.ofInt a), .int (Int32.ofInt b)] (gg yy i) = some (q124 (gg yy i) a b) by
    show some (q124 (gg yy i) (Int32.ofInt a).toInt (Int32.ofInt b).toInt) = _
    rw [na_toInt a1 a2, na_toInt b1 b2]))
  exact sw_12 h
theorem cp_125 {a : Int} {u1 : Int32} {u2 : Int32} (hk : gk (gg yy i)) (a1 : -2147483648 ≤ a) (a2 : a < 2147483648) : can C0 b0 L0 xs0 230 [.ref (gi C0 i), .int (Int32.ofInt 13), .int (Int32.ofInt a), .int u1, .int u2] yy n i (q125 (gg yy i) a) := by
  have h := can_pr (C0 := C0) (b0 := b0) (L0 := L0) (xs0 := xs0) (n := n) (k := 325) ⟨rfl, rfl⟩ (pf_of (k := 125) (g := p125) hk rfl (show p125 [.int (Int32.ofInt a)] (gg yy i) = some (q125 (gg yy i) a) by
    show some (q125 (gg yy i) (Int32.ofInt a).toInt) = _
    rw [na_toInt a1 a2]))
  exact sw_13 h
theorem cp_126 {u0 : Int32} {u1 : Int32} {u2 : Int32} (hk : gk (gg yy i))  : can C0 b0 L0 xs0 230 [.ref (gi C0 i), .int (Int32.ofInt 14), .int u0, .int u1, .int u2] yy n i (q126 (gg yy i)) := by
  have h := can_pr (C0 := C0) (b0 := b0) (L0 := L0) (xs0 := xs0) (n := n) (k := 326) ⟨rfl, rfl⟩ (pf_of (k := 126) (g := p126) (ps := []) (r := q126 (gg yy i)) hk rfl rfl)
  exact sw_14 h
theorem cp_127 {a b : Int} {u2 : Int32} (hk : gk (gg yy i)) (a1 : -2147483648 ≤ a) (a2 : a < 2147483648) (b1 : -2147483648 ≤ b) (b2 : b < 2147483648) : can C0 b0 L0 xs0 230 [.ref (gi C0 i), .int (Int32.ofInt 15), .int (Int32.ofInt a), .int (Int32.ofInt b), .int u2] yy n i (q127 (gg yy i) a b) := by
  have h := can_pr (C0 := C0) (b0 := b0) (L0 := L0) (xs0 := xs0) (n := n) (k := 327) ⟨rfl, rfl⟩ (pf_of (k := 127) (g := p127) hk rfl (show p127 [.int (Int32.ofInt a), .int (Int32.ofInt b)] (gg yy i) = some (q127 (gg yy i) a b) by
    show some (q127 (gg yy i) (Int32.ofInt a).toInt (Int32.ofInt b).toInt) = _
    rw [na_toInt a1 a2, na_toInt b1 b2]))
  exact sw_15 h
theorem cp_128 {a b c d : Int}  (hk : gk (gg yy i)) (a1 : -2147483648 ≤ a) (a2 : a < 2147483648) (b1 : -2147483648 ≤ b) (b2 : b < 2147483648) (c1 : -2147483648 ≤ c) (c2 : c < 2147483648) (d1 : -2147483648 ≤ d) (d2 : d < 2147483648) : can C0 b0 L0 xs0 328 [.ref (gi C0 i), .int (Int32.ofInt a), .int (Int32.ofInt b), .int (Int32.ofInt c), .int (Int32.ofInt d)] yy n i (q128 (gg yy i) a b c d) := by
  have h := can_pr (C0 := C0) (b0 := b0) (L0 := L0) (xs0 := xs0) (n := n) (k := 328) ⟨rfl, rfl⟩ (pf_of (k := 128) (g := p128) hk rfl (show p128 [.int (Int32.ofInt a), .int (Int32.ofInt b), .int (Int32.ofInt c), .int (Int32.ofInt d)] (gg yy i) = some (q128 (gg yy i) a b c d) by
    show some (q128 (gg yy i) (Int32.ofInt a).toInt (Int32.ofInt b).toInt (Int32.ofInt c).toInt (Int32.ofInt d).toInt) = _
    rw [na_toInt a1 a2, na_toInt b1 b2, na_toInt c1 c2, na_toInt d1 d2]))
  exact h
theorem cp_129 {a b : Int} {u2 : Int32} (hk : gk (gg yy i)) (a1 : -2147483648 ≤ a) (a2 : a < 2147483648) (b1 : -2147483648 ≤ b) (b2 : b < 2147483648) : can C0 b0 L0 xs0 230 [.ref (gi C0 i), .int (Int32.ofInt 16), .int (Int32.ofInt a), .int (Int32.ofInt b), .int u2] yy n i (q129 (gg yy i) a b) := by
  have h := can_pr (C0 := C0) (b0 := b0) (L0 := L0) (xs0 := xs0) (n := n) (k := 329) ⟨rfl, rfl⟩ (pf_of (k := 129) (g := p129) hk rfl (show p129 [.int (Int32.ofInt a), .int (Int32.ofInt b)] (gg yy i) = some (q129 (gg yy i) a b) by
    show some (q129 (gg yy i) (Int32.ofInt a).toInt (Int32.ofInt b).toInt) = _
    rw [na_toInt a1 a2, na_toInt b1 b2]))
  exact sw_16 h
theorem cp_130 {a b : Int} {u2 : Int32} (hk : gk (gg yy i)) (a1 : -2147483648 ≤ a) (a2 : a < 2147483648) (b1 : -2147483648 ≤ b) (b2 : b < 2147483648) : can C0 b0 L0 xs0 230 [.ref (gi C0 i), .int (Int32.ofInt 17), .int (Int32.ofInt a), .int (Int32.ofInt b), .int u2] yy n i (q130 (gg yy i) a b) := by
  have h := can_pr (C0 := C0) (b0 := b0) (L0 := L0) (xs0 := xs0) (n := n) (k := 330) ⟨rfl, rfl⟩ (pf_of (k := 130) (g := p130) hk rfl (show p130 [.int (Int32.ofInt a), .int (Int32.ofInt b)] (gg yy i) = some (q130 (gg yy i) a b) by
    show some (q130 (gg yy i) (Int32.ofInt a).toInt (Int32.ofInt b).toInt) = _
    rw [na_toInt a1 a2, na_toInt b1 b2]))
  exact sw_17 h
theorem cp_133 {a : Int} {u1 : Int32} {u2 : Int32} (hk : gk (gg yy i)) (a1 : -2147483648 ≤ a) (a2 : a < 2147483648) : can C0 b0 L0 xs0 230 [.ref (gi C0 i), .int (Int32.ofInt 18), .int (Int32.ofInt a), .int u1, .int u2] yy n i (q133 (gg yy i) a) := by
  have h := can_pr (C0 := C0) (b0 := b0) (L0 := L0) (xs0 := xs0) (n := n) (k := 333) ⟨rfl, rfl⟩ (pf_of (k := 133) (g := p133) hk rfl (show p133 [.int (Int32.ofInt a)] (gg yy i) = some (q133 (gg yy i) a) by
    show some (q133 (gg yy i) (Int32.ofInt a).toInt) = _
    rw [na_toInt a1 a2]))
  exact sw_18 h
theorem cp_134 {a : Int} {u1 : Int32} {u2 : Int32} (hk : gk (gg yy i)) (a1 : -2147483648 ≤ a) (a2 : a < 2147483648) : can C0 b0 L0 xs0 230 [.ref (gi C0 i), .int (Int32.ofInt 19), .int (Int32.ofInt a), .int u1, .int u2] yy n i (q134 (gg yy i) a) := by
  have h := can_pr (C0 := C0) (b0 := b0) (L0 := L0) (xs0 := xs0) (n := n) (k := 334) ⟨rfl, rfl⟩ (pf_of (k := 134) (g := p134) hk rfl (show p134 [.int (Int32.ofInt a)] (gg yy i) = some (q134 (gg yy i) a) by
    show some (q134 (gg yy i) (Int32.ofInt a).toInt) = _
    rw [na_toInt a1 a2]))
  exact sw_19 h
theorem cp_132 {s : Int64} {a : Int} (hk : gk (gg yy i)) (a1 : -2147483648 ≤ a) (a2 : a < 2147483648) : can C0 b0 L0 xs0 332 [.ref (gi C0 i), .long s, .int (Int32.ofInt a)] yy n i (q132 (gg yy i) s a) :=
  can_pr (C0 := C0) (b0 := b0) (L0 := L0) (xs0 := xs0) (n := n) (k := 332) ⟨rfl, rfl⟩ (pf_of (k := 132) (g := p132) hk rfl (show p132 [.long s, .int (Int32.ofInt a)] (gg yy i) = some (q132 (gg yy i) s a) by
    show some (q132 (gg yy i) s (Int32.ofInt a).toInt) = _
    rw [na_toInt a1 a2]))
theorem cf2_109 {a : Int} {u1 u2 : Int32} (hY : gg yy i = Y) (hk : gk Y) (a1 : -2147483648 ≤ a) (a2 : a < 2147483648) (h : a < 0 ∨ 255 < a) : calm C0 b0 L0 xs0 230 [.ref (gi C0 i), .int (Int32.ofInt 0), .int (Int32.ofInt a), .int u1, .int u2] (yy, n) = some (.int (Int32.ofInt (-9999002)), (yy, n + 1)) := by
  subst hY
  have e : p109 [.int (Int32.ofInt a)] (gg yy i) = some (nz 2, (gg yy i, 1)) := by
    show qn (if 0 ≤ (Int32.ofInt a).toInt ∧ (Int32.ofInt a).toInt ≤ 255 then 0 else 2) (gg yy i) = _
    rw [na_toInt a1 a2, if_neg (by omega)]
    rfl
  have h2 := can_pr (C0 := C0) (b0 := b0) (L0 := L0) (xs0 := xs0) (n := n) (k := 309) ⟨rfl, rfl⟩ (pf_of (k := 109) (g := p109) hk rfl e)
  have h3 := sw_0 (x1 := u1) (x2 := u2) h2
  rw [gz_gg] at h3
  exact h3
theorem cf2_131 {a b : Int} (hY : gg yy i = Y) (hk : gk Y) (a1 : -2147483648 ≤ a) (a2 : a < 2147483648) (b1 : -9223372036854775808 ≤ b) (b2 : b < 9223372036854775808) (h : ¬ ((1 ≤ a ∧ a ≤ 3) ∧ 0 ≤ b ∧ b < mf_all a)) : calm C0 b0 L0 xs0 331 [.ref (gi C0 i), .int (Int32.ofInt a), .long (Int64.ofInt b)] (yy, n) = some (.int (Int32.ofInt (-9999002)), (yy, n + 1)) := by
  subst hY
  have e : p131 [.int (Int32.ofInt a), .long (Int64.ofInt b)] (gg yy i) = some (nz 2, (gg yy i, 1)) := by
    show qn (if (1 ≤ (Int32.ofInt a).toInt ∧ (Int32.ofInt a).toInt ≤ 3) ∧ 0 ≤ (Int64.ofInt b).toInt ∧ (Int64.ofInt b).toInt < mf_all (Int32.ofInt a).toInt then 0 else 2) (gg yy i) = _
    rw [na_toInt a1 a2, nb_toInt b1 b2, if_neg h]
    rfl
  have h2 := can_pr (C0 := C0) (b0 := b0) (L0 := L0) (xs0 := xs0) (n := n) (k := 331) ⟨rfl, rfl⟩ (pf_of (k := 131) (g := p131) hk rfl e)
  unfold can at h2
  rw [gz_gg] at h2
  exact h2
theorem cv_113 {a : Int} {u1 : Int32} {u2 : Int32} (hY : gg yy i = Y) (hk : gk Y) (a1 : -2147483648 ≤ a) (a2 : a < 2147483648) (h0 : 0 ≤ a) (h1 : a ≤ 10) : calm C0 b0 L0 xs0 230 [.ref (gi C0 i), .int (Int32.ofInt 2), .int (Int32.ofInt a), .int u1, .int u2] (yy, n) = some (.int (Int32.ofInt (mf_nA Y.1 a)), (yy, n)) := by
  have h := cp_113 (C0 := C0) (b0 := b0) (L0 := L0) (xs0 := xs0) (yy := yy) (i := i) (n := n) (a := a) (u1 := u1) (u2 := u2) (by rw [hY]; exact hk) a1 a2
  rw [hY] at h
  have e : f113 Y.1 a = 0 := by
    unfold f113
    (repeat' split) <;> first | rfl | (exfalso; omega)
  exact can_q hY h e
theorem cf2_113 {a : Int} {u1 : Int32} {u2 : Int32} (hY : gg yy i = Y) (hk : gk Y) (a1 : -2147483648 ≤ a) (a2 : a < 2147483648) (h0 : a < 0 ∨ 10 < a) : calm C0 b0 L0 xs0 230 [.ref (gi C0 i), .int (Int32.ofInt 2), .int (Int32.ofInt a), .int u1, .int u2] (yy, n) = some (.int (Int32.ofInt (-9999002)), (yy, n + 1)) := by
  have h := cp_113 (C0 := C0) (b0 := b0) (L0 := L0) (xs0 := xs0) (yy := yy) (i := i) (n := n) (a := a) (u1 := u1) (u2 := u2) (by rw [hY]; exact hk) a1 a2
  rw [hY] at h
  have e : f113 Y.1 a = 2 := by
    unfold f113
    (repeat' split) <;> first | rfl | (exfalso; omega)
  have h2 := can_no hY h (by rw [e]; decide)
  rw [e] at h2
  exact h2
theorem cv_114 {a b : Int} {u2 : Int32} (hY : gg yy i = Y) (hk : gk Y) (a1 : -2147483648 ≤ a) (a2 : a < 2147483648) (b1 : -2147483648 ≤ b) (b2 : b < 2147483648) (h0 : 0 ≤ a) (h1 : a < Y.1 0) (h2 : 0 ≤ b) (h3 : b ≤ 7) : calm C0 b0 L0 xs0 230 [.ref (gi C0 i), .int (Int32.ofInt 3), .int (Int32.ofInt a), .int (Int32.ofInt b), .int u2] (yy, n) = some (.int (Int32.ofInt (mf_nW Y.1 a b)), (yy, n)) := by
  have h := cp_114 (C0 := C0) (b0 := b0) (L0 := L0) (xs0 := xs0) (yy := yy) (i := i) (n := n) (a := a) (b := b) (u2 := u2) (by rw [hY]; exact hk) a1 a2 b1 b2
  rw [hY] at h
  have e : f114 Y.1 a b = 0 := by
    unfold f114
    (repeat' split) <;> first | rfl | (exfalso; omega)
  exact can_q hY h e
theorem cf1_114 {a b : Int} {u2 : Int32} (hY : gg yy i = Y) (hk : gk Y) (a1 : -2147483648 ≤ a) (a2 : a < 2147483648) (b1 : -2147483648 ≤ b) (b2 : b < 2147483648) (h0 : a < 0 ∨ Y.1 0 ≤ a) : calm C0 b0 L0 xs0 230 [.ref (gi C0 i), .int (Int32.ofInt 3), .int (Int32.ofInt a), .int (Int32.ofInt b), .int u2] (yy, n) = some (.int (Int32.ofInt (-9999001)), (yy, n + 1)) := by
  have h := cp_114 (C0 := C0) (b0 := b0) (L0 := L0) (xs0 := xs0) (yy := yy) (i := i) (n := n) (a := a) (b := b) (u2 := u2) (by rw [hY]; exact hk) a1 a2 b1 b2
  rw [hY] at h
  have e : f114 Y.1 a b = 1 := by
    unfold f114
    (repeat' split) <;> first | rfl | (exfalso; omega)
  have h2 := can_no hY h (by rw [e]; decide)
  rw [e] at h2
  exact h2
theorem cf2_114 {a b : Int} {u2 : Int32} (hY : gg yy i = Y) (hk : gk Y) (a1 : -2147483648 ≤ a) (a2 : a < 2147483648) (b1 : -2147483648 ≤ b) (b2 : b < 2147483648) (h0 : 0 ≤ a) (h1 : a < Y.1 0) (h2 : b < 0 ∨ 7 < b) : calm C0 b0 L0 xs0 230 [.ref (gi C0 i), .int (Int32.ofInt 3), .int (Int32.ofInt a), .int (Int32.ofInt b), .int u2] (yy, n) = some (.int (Int32.ofInt (-9999002)), (yy, n + 1)) := by
  have h := cp_114 (C0 := C0) (b0 := b0) (L0 := L0) (xs0 := xs0) (yy := yy) (i := i) (n := n) (a := a) (b := b) (u2 := u2) (by rw [hY]; exact hk) a1 a2 b1 b2
  rw [hY] at h
  have e : f114 Y.1 a b = 2 := by
    unfold f114
    (repeat' split) <;> first | rfl | (exfalso; omega)
  have h2 := can_no hY h (by rw [e]; decide)
  rw [e] at h2
  exact h2
theorem cv_115 {a b c : Int}  (hY : gg yy i = Y) (hk : gk Y) (a1 : -2147483648 ≤ a) (a2 : a < 2147483648) (b1 : -2147483648 ≤ b) (b2 : b < 2147483648) (c1 : -2147483648 ≤ c) (c2 : c < 2147483648) (h0 : 0 ≤ a) (h1 : a < Y.1 0) (h2 : 0 ≤ b) (h3 : b < Y.1 (9 + 10 * a + 0)) (h4 : 0 ≤ c) (h5 : c ≤ 3) : calm C0 b0 L0 xs0 230 [.ref (gi C0 i), .int (Int32.ofInt 6), .int (Int32.ofInt a), .int (Int32.ofInt b), .int (Int32.ofInt c)] (yy, n) = some (.int (Int32.ofInt (mf_nP Y.1 a b c)), (yy, n)) := by
  have h := cp_115 (C0 := C0) (b0 := b0) (L0 := L0) (xs0 := xs0) (yy := yy) (i := i) (n := n) (a := a) (b := b) (c := c)  (by rw [hY]; exact hk) a1 a2 b1 b2 c1 c2
  rw [hY] at h
  have e : f115 Y.1 a b c = 0 := by
    unfold f115
    (repeat' split) <;> first | rfl | (exfalso; omega)
  exact can_q hY h e
theorem cf1_115 {a b c : Int}  (hY : gg yy i = Y) (hk : gk Y) (a1 : -2147483648 ≤ a) (a2 : a < 2147483648) (b1 : -2147483648 ≤ b) (b2 : b < 2147483648) (c1 : -2147483648 ≤ c) (c2 : c < 2147483648) (h0 : ¬ (0 ≤ a ∧ a < Y.1 0 ∧ 0 ≤ b ∧ b < Y.1 (9 + 10 * a + 0))) : calm C0 b0 L0 xs0 230 [.ref (gi C0 i), .int (Int32.ofInt 6), .int (Int32.ofInt a), .int (Int32.ofInt b), .int (Int32.ofInt c)] (yy, n) = some (.int (Int32.ofInt (-9999001)), (yy, n + 1)) := by
  have h := cp_115 (C0 := C0) (b0 := b0) (L0 := L0) (xs0 := xs0) (yy := yy) (i := i) (n := n) (a := a) (b := b) (c := c)  (by rw [hY]; exact hk) a1 a2 b1 b2 c1 c2
  rw [hY] at h
  have e : f115 Y.1 a b c = 1 := by
    unfold f115
    (repeat' split) <;> first | rfl | (exfalso; omega)
  have h2 := can_no hY h (by rw [e]; decide)
  rw [e] at h2
  exact h2
theorem cf2_115 {a b c : Int}  (hY : gg yy i = Y) (hk : gk Y) (a1 : -2147483648 ≤ a) (a2 : a < 2147483648) (b1 : -2147483648 ≤ b) (b2 : b < 2147483648) (c1 : -2147483648 ≤ c) (c2 : c < 2147483648) (h0 : 0 ≤ a) (h1 : a < Y.1 0) (h2 : 0 ≤ b) (h3 : b < Y.1 (9 + 10 * a + 0)) (h4 : c < 0 ∨ 3 < c) : calm C0 b0 L0 xs0 230 [.ref (gi C0 i), .int (Int32.ofInt 6), .int (Int32.ofInt a), .int (Int32.ofInt b), .int (Int32.ofInt c)] (yy, n) = some (.int (Int32.ofInt (-9999002)), (yy, n + 1)) := by
  have h := cp_115 (C0 := C0) (b0 := b0) (L0 := L0) (xs0 := xs0) (yy := yy) (i := i) (n := n) (a := a) (b := b) (c := c)  (by rw [hY]; exact hk) a1 a2 b1 b2 c1 c2
  rw [hY] at h
  have e : f115 Y.1 a b c = 2 := by
    unfold f115
    (repeat' split) <;> first | rfl | (exfalso; omega)
  have h2 := can_no hY h (by rw [e]; decide)
  rw [e] at h2
  exact h2
theorem cv_116 {a b : Int} {u2 : Int32} (hY : gg yy i = Y) (hk : gk Y) (a1 : -2147483648 ≤ a) (a2 : a < 2147483648) (b1 : -2147483648 ≤ b) (b2 : b < 2147483648) (h0 : 0 ≤ a) (h1 : a < Y.1 2) (h2 : 0 ≤ b) (h3 : b ≤ 5) : calm C0 b0 L0 xs0 230 [.ref (gi C0 i), .int (Int32.ofInt 4), .int (Int32.ofInt a), .int (Int32.ofInt b), .int u2] (yy, n) = some (.int (Int32.ofInt (mf_nF Y.1 a b)), (yy, n)) := by
  have h := cp_116 (C0 := C0) (b0 := b0) (L0 := L0) (xs0 := xs0) (yy := yy) (i := i) (n := n) (a := a) (b := b) (u2 := u2) (by rw [hY]; exact hk) a1 a2 b1 b2
  rw [hY] at h
  have e : f116 Y.1 a b = 0 := by
    unfold f116
    (repeat' split) <;> first | rfl | (exfalso; omega)
  exact can_q hY h e
theorem cf1_116 {a b : Int} {u2 : Int32} (hY : gg yy i = Y) (hk : gk Y) (a1 : -2147483648 ≤ a) (a2 : a < 2147483648) (b1 : -2147483648 ≤ b) (b2 : b < 2147483648) (h0 : a < 0 ∨ Y.1 2 ≤ a) : calm C0 b0 L0 xs0 230 [.ref (gi C0 i), .int (Int32.ofInt 4), .int (Int32.ofInt a), .int (Int32.ofInt b), .int u2] (yy, n) = some (.int (Int32.ofInt (-9999001)), (yy, n + 1)) := by
  have h := cp_116 (C0 := C0) (b0 := b0) (L0 := L0) (xs0 := xs0) (yy := yy) (i := i) (n := n) (a := a) (b := b) (u2 := u2) (by rw [hY]; exact hk) a1 a2 b1 b2
  rw [hY] at h
  have e : f116 Y.1 a b = 1 := by
    unfold f116
    (repeat' split) <;> first | rfl | (exfalso; omega)
  have h2 := can_no hY h (by rw [e]; decide)
  rw [e] at h2
  exact h2
theorem cf2_116 {a b : Int} {u2 : Int32} (hY : gg yy i = Y) (hk : gk Y) (a1 : -2147483648 ≤ a) (a2 : a < 2147483648) (b1 : -2147483648 ≤ b) (b2 : b < 2147483648) (h0 : 0 ≤ a) (h1 : a < Y.1 2) (h2 : b < 0 ∨ 5 < b) : calm C0 b0 L0 xs0 230 [.ref (gi C0 i), .int (Int32.ofInt 4), .int (Int32.ofInt a), .int (Int32.ofInt b), .int u2] (yy, n) = some (.int (Int32.ofInt (-9999002)), (yy, n + 1)) := by
  have h := cp_116 (C0 := C0) (b0 := b0) (L0 := L0) (xs0 := xs0) (yy := yy) (i := i) (n := n) (a := a) (b := b) (u2 := u2) (by rw [hY]; exact hk) a1 a2 b1 b2
  rw [hY] at h
  have e : f116 Y.1 a b = 2 := by
    unfold f116
    (repeat' split) <;> first | rfl | (exfalso; omega)
  have h2 := can_no hY h (by rw [e]; decide)
  rw [e] at h2
  exact h2
theorem cv_117 {a b : Int} {u2 : Int32} (hY : gg yy i = Y) (hk : gk Y) (a1 : -2147483648 ≤ a) (a2 : a < 2147483648) (b1 : -2147483648 ≤ b) (b2 : b < 2147483648) (h0 : 0 ≤ a) (h1 : a < Y.1 1) (h2 : 0 ≤ b) (h3 : b ≤ 3) : calm C0 b0 L0 xs0 230 [.ref (gi C0 i), .int (Int32.ofInt 5), .int (Int32.ofInt a), .int (Int32.ofInt b), .int u2] (yy, n) = some (.int (Int32.ofInt (Y.1 (39 + 4 * a + b))), (yy, n)) := by
  have h := cp_117 (C0 := C0) (b0 := b0) (L0 := L0) (xs0 := xs0) (yy := yy) (i := i) (n := n) (a := a) (b := b) (u2 := u2) (by rw [hY]; exact hk) a1 a2 b1 b2
  rw [hY] at h
  have e : f117 Y.1 a b = 0 := by
    unfold f117
    (repeat' split) <;> first | rfl | (exfalso; omega)
  exact can_q hY h e
theorem cf1_117 {a b : Int} {u2 : Int32} (hY : gg yy i = Y) (hk : gk Y) (a1 : -2147483648 ≤ a) (a2 : a < 2147483648) (b1 : -2147483648 ≤ b) (b2 : b < 2147483648) (h0 : a < 0 ∨ Y.1 1 ≤ a) : calm C0 b0 L0 xs0 230 [.ref (gi C0 i), .int (Int32.ofInt 5), .int (Int32.ofInt a), .int (Int32.ofInt b), .int u2] (yy, n) = some (.int (Int32.ofInt (-9999001)), (yy, n + 1)) := by
  have h := cp_117 (C0 := C0) (b0 := b0) (L0 := L0) (xs0 := xs0) (yy := yy) (i := i) (n := n) (a := a) (b := b) (u2 := u2) (by rw [hY]; exact hk) a1 a2 b1 b2
  rw [hY] at h
  have e : f117 Y.1 a b = 1 := by
    unfold f117
    (repeat' split) <;> first | rfl | (exfalso; omega)
  have h2 := can_no hY h (by rw [e]; decide)
  rw [e] at h2
  exact h2
theorem cf2_117 {a b : Int} {u2 : Int32} (hY : gg yy i = Y) (hk : gk Y) (a1 : -2147483648 ≤ a) (a2 : a < 2147483648) (b1 : -2147483648 ≤ b) (b2 : b < 2147483648) (h0 : 0 ≤ a) (h1 : a < Y.1 1) (h2 : b < 0 ∨ 3 < b) : calm C0 b0 L0 xs0 230 [.ref (gi C0 i), .int (Int32.ofInt 5), .int (Int32.ofInt a), .int (Int32.ofInt b), .int u2] (yy, n) = some (.int (Int32.ofInt (-9999002)), (yy, n + 1)) := by
  have h := cp_117 (C0 := C0) (b0 := b0) (L0 := L0) (xs0 := xs0) (yy := yy) (i := i) (n := n) (a := a) (b := b) (u2 := u2) (by rw [hY]; exact hk) a1 a2 b1 b2
  rw [hY] at h
  have e : f117 Y.1 a b = 2 := by
    unfold f117
    (repeat' split) <;> first | rfl | (exfalso; omega)
  have h2 := can_no hY h (by rw [e]; decide)
  rw [e] at h2
  exact h2
theorem cf2_118 {a b c : Int}  (hY : gg yy i = Y) (hk : gk Y) (a1 : -2147483648 ≤ a) (a2 : a < 2147483648) (b1 : -2147483648 ≤ b) (b2 : b < 2147483648) (c1 : -2147483648 ≤ c) (c2 : c < 2147483648) (h0 : ¬ ((3 ≤ a ∧ a ≤ 5) ∧ (-4 ≤ b ∧ b ≤ 4) ∧ (0 ≤ c ∧ c ≤ 30))) : calm C0 b0 L0 xs0 230 [.ref (gi C0 i), .int (Int32.ofInt 7), .int (Int32.ofInt a), .int (Int32.ofInt b), .int (Int32.ofInt c)] (yy, n) = some (.int (Int32.ofInt (-9999002)), (yy, n + 1)) := by
  have h := cp_118 (C0 := C0) (b0 := b0) (L0 := L0) (xs0 := xs0) (yy := yy) (i := i) (n := n) (a := a) (b := b) (c := c)  (by rw [hY]; exact hk) a1 a2 b1 b2 c1 c2
  rw [hY] at h
  have e : f118 Y.1 a b c = 2 := by
    unfold f118 mf_fW
    (repeat' split) <;> first | rfl | (exfalso; omega)
  have h2 := can_no hY h (by rw [e]; decide)
  rw [e] at h2
  exact h2
theorem cf3_118 {a b c : Int}  (hY : gg yy i = Y) (hk : gk Y) (a1 : -2147483648 ≤ a) (a2 : a < 2147483648) (b1 : -2147483648 ≤ b) (b2 : b < 2147483648) (c1 : -2147483648 ≤ c) (c2 : c < 2147483648) (h0 : (3 ≤ a ∧ a ≤ 5) ∧ (-4 ≤ b ∧ b ≤ 4) ∧ (0 ≤ c ∧ c ≤ 30)) (h1 : 3 ≤ Y.1 0) : calm C0 b0 L0 xs0 230 [.ref (gi C0 i), .int (Int32.ofInt 7), .int (Int32.ofInt a), .int (Int32.ofInt b), .int (Int32.ofInt c)] (yy, n) = some (.int (Int32.ofInt (-9999003)), (yy, n + 1)) := by
  have h := cp_118 (C0 := C0) (b0 := b0) (L0 := L0) (xs0 := xs0) (yy := yy) (i := i) (n := n) (a := a) (b := b) (c := c)  (by rw [hY]; exact hk) a1 a2 b1 b2 c1 c2
  rw [hY] at h
  have e : f118 Y.1 a b c = 3 := by
    unfold f118 mf_fW
    (repeat' split) <;> first | rfl | (exfalso; omega)
  have h2 := can_no hY h (by rw [e]; decide)
  rw [e] at h2
  exact h2
theorem cf1_119 {a b c d : Int}  (hY : gg yy i = Y) (hk : gk Y) (a1 : -2147483648 ≤ a) (a2 : a < 2147483648) (b1 : -2147483648 ≤ b) (b2 : b < 2147483648) (c1 : -2147483648 ≤ c) (c2 : c < 2147483648) (d1 : -2147483648 ≤ d) (d2 : d < 2147483648) (h0 : ¬ ((0 ≤ a ∧ a < Y.1 0 ∧ 0 ≤ b ∧ b < Y.1 (9 + 10 * a + 0)) ∧ (0 ≤ c ∧ c < Y.1 0 ∧ 0 ≤ d ∧ d < Y.1 (9 + 10 * c + 0)))) : calm C0 b0 L0 xs0 319 [.ref (gi C0 i), .int (Int32.ofInt a), .int (Int32.ofInt b), .int (Int32.ofInt c), .int (Int32.ofInt d)] (yy, n) = some (.int (Int32.ofInt (-9999001)), (yy, n + 1)) := by
  have h := cp_119 (C0 := C0) (b0 := b0) (L0 := L0) (xs0 := xs0) (yy := yy) (i := i) (n := n) (a := a) (b := b) (c := c) (d := d)  (by rw [hY]; exact hk) a1 a2 b1 b2 c1 c2 d1 d2
  rw [hY] at h
  have e : f119 Y.1 a b c d = 1 := by
    unfold f119 mf_fL
    (repeat' split) <;> first | rfl | (exfalso; omega)
  have h2 := can_no hY h (by rw [e]; decide)
  rw [e] at h2
  exact h2
theorem cf2_119 {a b c d : Int}  (hY : gg yy i = Y) (hk : gk Y) (a1 : -2147483648 ≤ a) (a2 : a < 2147483648) (b1 : -2147483648 ≤ b) (b2 : b < 2147483648) (c1 : -2147483648 ≤ c) (c2 : c < 2147483648) (d1 : -2147483648 ≤ d) (d2 : d < 2147483648) (h0 : (0 ≤ a ∧ a < Y.1 0 ∧ 0 ≤ b ∧ b < Y.1 (9 + 10 * a + 0)) ∧ (0 ≤ c ∧ c < Y.1 0 ∧ 0 ≤ d ∧ d < Y.1 (9 + 10 * c + 0))) (h1 : a = c) : calm C0 b0 L0 xs0 319 [.ref (gi C0 i), .int (Int32.ofInt a), .int (Int32.ofInt b), .int (Int32.ofInt c), .int (Int32.ofInt d)] (yy, n) = some (.int (Int32.ofInt (-9999002)), (yy, n + 1)) := by
  have h := cp_119 (C0 := C0) (b0 := b0) (L0 := L0) (xs0 := xs0) (yy := yy) (i := i) (n := n) (a := a) (b := b) (c := c) (d := d)  (by rw [hY]; exact hk) a1 a2 b1 b2 c1 c2 d1 d2
  rw [hY] at h
  have e : f119 Y.1 a b c d = 2 := by
    unfold f119 mf_fL
    (repeat' split) <;> first | rfl | (exfalso; omega)
  have h2 := can_no hY h (by rw [e]; decide)
  rw [e] at h2
  exact h2
theorem cf1_120 {a b c : Int}  (hY : gg yy i = Y) (hk : gk Y) (a1 : -2147483648 ≤ a) (a2 : a < 2147483648) (b1 : -2147483648 ≤ b) (b2 : b < 2147483648) (c1 : -2147483648 ≤ c) (c2 : c < 2147483648) (h0 : ¬ (0 ≤ a ∧ a < Y.1 0 ∧ 0 ≤ b ∧ b < Y.1 (9 + 10 * a + 0))) : calm C0 b0 L0 xs0 230 [.ref (gi C0 i), .int (Int32.ofInt 8), .int (Int32.ofInt a), .int (Int32.ofInt b), .int (Int32.ofInt c)] (yy, n) = some (.int (Int32.ofInt (-9999001)), (yy, n + 1)) := by
  have h := cp_120 (C0 := C0) (b0 := b0) (L0 := L0) (xs0 := xs0) (yy := yy) (i := i) (n := n) (a := a) (b := b) (c := c)  (by rw [hY]; exact hk) a1 a2 b1 b2 c1 c2
  rw [hY] at h
  have e : f120 Y.1 a b c = 1 := by
    unfold f120 mf_fF
    (repeat' split) <;> first | rfl | (exfalso; omega)
  have h2 := can_no hY h (by rw [e]; decide)
  rw [e] at h2
  exact h2
theorem cf2_120 {a b c : Int}  (hY : gg yy i = Y) (hk : gk Y) (a1 : -2147483648 ≤ a) (a2 : a < 2147483648) (b1 : -2147483648 ≤ b) (b2 : b < 2147483648) (c1 : -2147483648 ≤ c) (c2 : c < 2147483648) (h0 : 0 ≤ a) (h1 : a < Y.1 0) (h2 : 0 ≤ b) (h3 : b < Y.1 (9 + 10 * a + 0)) (h4 : c < 1 ∨ 9 < c) : calm C0 b0 L0 xs0 230 [.ref (gi C0 i), .int (Int32.ofInt 8), .int (Int32.ofInt a), .int (Int32.ofInt b), .int (Int32.ofInt c)] (yy, n) = some (.int (Int32.ofInt (-9999002)), (yy, n + 1)) := by
  have h := cp_120 (C0 := C0) (b0 := b0) (L0 := L0) (xs0 := xs0) (yy := yy) (i := i) (n := n) (a := a) (b := b) (c := c)  (by rw [hY]; exact hk) a1 a2 b1 b2 c1 c2
  rw [hY] at h
  have e : f120 Y.1 a b c = 2 := by
    unfold f120 mf_fF
    (repeat' split) <;> first | rfl | (exfalso; omega)
  have h2 := can_no hY h (by rw [e]; decide)
  rw [e] at h2
  exact h2
theorem cf1_121 {a b c : Int}  (hY : gg yy i = Y) (hk : gk Y) (a1 : -2147483648 ≤ a) (a2 : a < 2147483648) (b1 : -2147483648 ≤ b) (b2 : b < 2147483648) (c1 : -2147483648 ≤ c) (c2 : c < 2147483648) (h0 : ¬ (0 ≤ a ∧ a < Y.1 0 ∧ 0 ≤ b ∧ b < Y.1 (9 + 10 * a + 0))) : calm C0 b0 L0 xs0 230 [.ref (gi C0 i), .int (Int32.ofInt 9), .int (Int32.ofInt a), .int (Int32.ofInt b), .int (Int32.ofInt c)] (yy, n) = some (.int (Int32.ofInt (-9999001)), (yy, n + 1)) := by
  have h := cp_121 (C0 := C0) (b0 := b0) (L0 := L0) (xs0 := xs0) (yy := yy) (i := i) (n := n) (a := a) (b := b) (c := c)  (by rw [hY]; exact hk) a1 a2 b1 b2 c1 c2
  rw [hY] at h
  have e : f121 Y.1 a b c = 1 := by
    unfold f121 mf_fY
    (repeat' split) <;> first | rfl | (exfalso; omega)
  have h2 := can_no hY h (by rw [e]; decide)
  rw [e] at h2
  exact h2
theorem cf2_121 {a b c : Int}  (hY : gg yy i = Y) (hk : gk Y) (a1 : -2147483648 ≤ a) (a2 : a < 2147483648) (b1 : -2147483648 ≤ b) (b2 : b < 2147483648) (c1 : -2147483648 ≤ c) (c2 : c < 2147483648) (h0 : 0 ≤ a) (h1 : a < Y.1 0) (h2 : 0 ≤ b) (h3 : b < Y.1 (9 + 10 * a + 0)) (h4 : c < 1 ∨ 9 < c) : calm C0 b0 L0 xs0 230 [.ref (gi C0 i), .int (Int32.ofInt 9), .int (Int32.ofInt a), .int (Int32.ofInt b), .int (Int32.ofInt c)] (yy, n) = some (.int (Int32.ofInt (-9999002)), (yy, n + 1)) := by
  have h := cp_121 (C0 := C0) (b0 := b0) (L0 := L0) (xs0 := xs0) (yy := yy) (i := i) (n := n) (a := a) (b := b) (c := c)  (by rw [hY]; exact hk) a1 a2 b1 b2 c1 c2
  rw [hY] at h
  have e : f121 Y.1 a b c = 2 := by
    unfold f121 mf_fY
    (repeat' split) <;> first | rfl | (exfalso; omega)
  have h2 := can_no hY h (by rw [e]; decide)
  rw [e] at h2
  exact h2
theorem cf1_122 {a b : Int} {u2 : Int32} (hY : gg yy i = Y) (hk : gk Y) (a1 : -2147483648 ≤ a) (a2 : a < 2147483648) (b1 : -2147483648 ≤ b) (b2 : b < 2147483648) (h0 : ¬ ((0 ≤ a ∧ a < Y.1 2) ∧ (0 ≤ b ∧ b < Y.1 1))) : calm C0 b0 L0 xs0 230 [.ref (gi C0 i), .int (Int32.ofInt 10), .int (Int32.ofInt a), .int (Int32.ofInt b), .int u2] (yy, n) = some (.int (Int32.ofInt (-9999001)), (yy, n + 1)) := by
  have h := cp_122 (C0 := C0) (b0 := b0) (L0 := L0) (xs0 := xs0) (yy := yy) (i := i) (n := n) (a := a) (b := b) (u2 := u2) (by rw [hY]; exact hk) a1 a2 b1 b2
  rw [hY] at h
  have e : f122 Y.1 a b = 1 := by
    unfold f122
    (repeat' split) <;> first | rfl | (exfalso; omega)
  have h2 := can_no hY h (by rw [e]; decide)
  rw [e] at h2
  exact h2
theorem cv_122 {a b : Int} {u2 : Int32} (hY : gg yy i = Y) (hk : gk Y) (a1 : -2147483648 ≤ a) (a2 : a < 2147483648) (b1 : -2147483648 ≤ b) (b2 : b < 2147483648) (h0 : 0 ≤ a) (h1 : a < Y.1 2) (h2 : 0 ≤ b) (h3 : b < Y.1 1) : calm C0 b0 L0 xs0 230 [.ref (gi C0 i), .int (Int32.ofInt 10), .int (Int32.ofInt a), .int (Int32.ofInt b), .int u2] (yy, n) = some (.int (Int32.ofInt (mf_why Y.1 a b)), (gz yy i (ga Y (mg_leap Y.1 a b)), n)) := by
  have h := cp_122 (C0 := C0) (b0 := b0) (L0 := L0) (xs0 := xs0) (yy := yy) (i := i) (n := n) (a := a) (b := b) (u2 := u2) (by rw [hY]; exact hk) a1 a2 b1 b2
  rw [hY] at h
  have e : f122 Y.1 a b = 0 := by
    unfold f122
    (repeat' split) <;> first | rfl | (exfalso; omega)
  exact can_ok h e
theorem cf1_123 {a b : Int} {u2 : Int32} (hY : gg yy i = Y) (hk : gk Y) (a1 : -2147483648 ≤ a) (a2 : a < 2147483648) (b1 : -2147483648 ≤ b) (b2 : b < 2147483648) (h0 : a < 0 ∨ Y.1 2 ≤ a) : calm C0 b0 L0 xs0 230 [.ref (gi C0 i), .int (Int32.ofInt 11), .int (Int32.ofInt a), .int (Int32.ofInt b), .int u2] (yy, n) = some (.int (Int32.ofInt (-9999001)), (yy, n + 1)) := by
  have h := cp_123 (C0 := C0) (b0 := b0) (L0 := L0) (xs0 := xs0) (yy := yy) (i := i) (n := n) (a := a) (b := b) (u2 := u2) (by rw [hY]; exact hk) a1 a2 b1 b2
  rw [hY] at h
  have e : f123 Y.1 a b = 1 := by
    unfold f123
    (repeat' split) <;> first | rfl | (exfalso; omega)
  have h2 := can_no hY h (by rw [e]; decide)
  rw [e] at h2
  exact h2
theorem cf2_123 {a b : Int} {u2 : Int32} (hY : gg yy i = Y) (hk : gk Y) (a1 : -2147483648 ≤ a) (a2 : a < 2147483648) (b1 : -2147483648 ≤ b) (b2 : b < 2147483648) (h0 : 0 ≤ a) (h1 : a < Y.1 2) (h2 : ¬ (b = 1 ∨ b = -1)) : calm C0 b0 L0 xs0 230 [.ref (gi C0 i), .int (Int32.ofInt 11), .int (Int32.ofInt a), .int (Int32.ofInt b), .int u2] (yy, n) = some (.int (Int32.ofInt (-9999002)), (yy, n + 1)) := by
  have h := cp_123 (C0 := C0) (b0 := b0) (L0 := L0) (xs0 := xs0) (yy := yy) (i := i) (n := n) (a := a) (b := b) (u2 := u2) (by rw [hY]; exact hk) a1 a2 b1 b2
  rw [hY] at h
  have e : f123 Y.1 a b = 2 := by
    unfold f123
    (repeat' split) <;> first | rfl | (exfalso; omega)
  have h2 := can_no hY h (by rw [e]; decide)
  rw [e] at h2
  exact h2
theorem cf1_124 {a b : Int} {u2 : Int32} (hY : gg yy i = Y) (hk : gk Y) (a1 : -2147483648 ≤ a) (a2 : a < 2147483648) (b1 : -2147483648 ≤ b) (b2 : b < 2147483648) (h0 : a < 0 ∨ Y.1 0 ≤ a) : calm C0 b0 L0 xs0 230 [.ref (gi C0 i), .int (Int32.ofInt 12), .int (Int32.ofInt a), .int (Int32.ofInt b), .int u2] (yy, n) = some (.int (Int32.ofInt (-9999001)), (yy, n + 1)) := by
  have h := cp_124 (C0 := C0) (b0 := b0) (L0 := L0) (xs0 := xs0) (yy := yy) (i := i) (n := n) (a := a) (b := b) (u2 := u2) (by rw [hY]; exact hk) a1 a2 b1 b2
  rw [hY] at h
  have e : f124 Y.1 a b = 1 := by
    unfold f124 mf_fT
    (repeat' split) <;> first | rfl | (exfalso; omega)
  have h2 := can_no hY h (by rw [e]; decide)
  rw [e] at h2
  exact h2
theorem cf2_124 {a b : Int} {u2 : Int32} (hY : gg yy i = Y) (hk : gk Y) (a1 : -2147483648 ≤ a) (a2 : a < 2147483648) (b1 : -2147483648 ≤ b) (b2 : b < 2147483648) (h0 : 0 ≤ a) (h1 : a < Y.1 0) (h2 : b < -4 ∨ 4 < b) : calm C0 b0 L0 xs0 230 [.ref (gi C0 i), .int (Int32.ofInt 12), .int (Int32.ofInt a), .int (Int32.ofInt b), .int u2] (yy, n) = some (.int (Int32.ofInt (-9999002)), (yy, n + 1)) := by
  have h := cp_124 (C0 := C0) (b0 := b0) (L0 := L0) (xs0 := xs0) (yy := yy) (i := i) (n := n) (a := a) (b := b) (u2 := u2) (by rw [hY]; exact hk) a1 a2 b1 b2
  rw [hY] at h
  have e : f124 Y.1 a b = 2 := by
    unfold f124 mf_fT
    (repeat' split) <;> first | rfl | (exfalso; omega)
  have h2 := can_no hY h (by rw [e]; decide)
  rw [e] at h2
  exact h2
theorem cf2_125 {a : Int} {u1 : Int32} {u2 : Int32} (hY : gg yy i = Y) (hk : gk Y) (a1 : -2147483648 ≤ a) (a2 : a < 2147483648) (h0 : a < 0 ∨ 1 < a) : calm C0 b0 L0 xs0 230 [.ref (gi C0 i), .int (Int32.ofInt 13), .int (Int32.ofInt a), .int u1, .int u2] (yy, n) = some (.int (Int32.ofInt (-9999002)), (yy, n + 1)) := by
  have h := cp_125 (C0 := C0) (b0 := b0) (L0 := L0) (xs0 := xs0) (yy := yy) (i := i) (n := n) (a := a) (u1 := u1) (u2 := u2) (by rw [hY]; exact hk) a1 a2
  rw [hY] at h
  have e : f125 Y.1 a = 2 := by
    unfold f125
    (repeat' split) <;> first | rfl | (exfalso; omega)
  have h2 := can_no hY h (by rw [e]; decide)
  rw [e] at h2
  exact h2
theorem cv_125 {a : Int} {u1 : Int32} {u2 : Int32} (hY : gg yy i = Y) (hk : gk Y) (a1 : -2147483648 ≤ a) (a2 : a < 2147483648) (h0 : 0 ≤ a) (h1 : a ≤ 1) : calm C0 b0 L0 xs0 230 [.ref (gi C0 i), .int (Int32.ofInt 13), .int (Int32.ofInt a), .int u1, .int u2] (yy, n) = some (.int (Int32.ofInt (Y.1 8)), (gz yy i (ga Y (mr_st Y.1 8 a)), n)) := by
  have h := cp_125 (C0 := C0) (b0 := b0) (L0 := L0) (xs0 := xs0) (yy := yy) (i := i) (n := n) (a := a) (u1 := u1) (u2 := u2) (by rw [hY]; exact hk) a1 a2
  rw [hY] at h
  have e : f125 Y.1 a = 0 := by
    unfold f125
    (repeat' split) <;> first | rfl | (exfalso; omega)
  exact can_ok h e
theorem cv_126 {u0 : Int32} {u1 : Int32} {u2 : Int32} (hY : gg yy i = Y) (hk : gk Y)  (h0 : (Y.2.1.length : Int) ≠ 0) : calm C0 b0 L0 xs0 230 [.ref (gi C0 i), .int (Int32.ofInt 14), .int u0, .int u1, .int u2] (yy, n) = some (.int (Int32.ofInt ((Y.2.1.length : Int) - 1)), (gz yy i (gu Y), n)) := by
  have h := cp_126 (C0 := C0) (b0 := b0) (L0 := L0) (xs0 := xs0) (yy := yy) (i := i) (n := n)  (u0 := u0) (u1 := u1) (u2 := u2) (by rw [hY]; exact hk) 
  rw [hY] at h
  have e : f126 Y = 0 := by
    unfold f126
    (repeat' split) <;> first | rfl | (exfalso; omega)
  exact can_ok h e
theorem cf1_127 {a b : Int} {u2 : Int32} (hY : gg yy i = Y) (hk : gk Y) (a1 : -2147483648 ≤ a) (a2 : a < 2147483648) (b1 : -2147483648 ≤ b) (b2 : b < 2147483648) (h0 : ¬ ((0 ≤ a ∧ a < Y.1 2) ∧ (0 ≤ b ∧ b < Y.1 1))) : calm C0 b0 L0 xs0 230 [.ref (gi C0 i), .int (Int32.ofInt 15), .int (Int32.ofInt a), .int (Int32.ofInt b), .int u2] (yy, n) = some (.int (Int32.ofInt (-9999001)), (yy, n + 1)) := by
  have h := cp_127 (C0 := C0) (b0 := b0) (L0 := L0) (xs0 := xs0) (yy := yy) (i := i) (n := n) (a := a) (b := b) (u2 := u2) (by rw [hY]; exact hk) a1 a2 b1 b2
  rw [hY] at h
  have e : f127 Y.1 a b = 1 := by
    unfold f127
    (repeat' split) <;> first | rfl | (exfalso; omega)
  have h2 := can_no hY h (by rw [e]; decide)
  rw [e] at h2
  exact h2
theorem cv_127 {a b : Int} {u2 : Int32} (hY : gg yy i = Y) (hk : gk Y) (a1 : -2147483648 ≤ a) (a2 : a < 2147483648) (b1 : -2147483648 ≤ b) (b2 : b < 2147483648) (h0 : 0 ≤ a) (h1 : a < Y.1 2) (h2 : 0 ≤ b) (h3 : b < Y.1 1) : calm C0 b0 L0 xs0 230 [.ref (gi C0 i), .int (Int32.ofInt 15), .int (Int32.ofInt a), .int (Int32.ofInt b), .int u2] (yy, n) = some (.int (Int32.ofInt (mf_why Y.1 a b)), (yy, n)) := by
  have h := cp_127 (C0 := C0) (b0 := b0) (L0 := L0) (xs0 := xs0) (yy := yy) (i := i) (n := n) (a := a) (b := b) (u2 := u2) (by rw [hY]; exact hk) a1 a2 b1 b2
  rw [hY] at h
  have e : f127 Y.1 a b = 0 := by
    unfold f127
    (repeat' split) <;> first | rfl | (exfalso; omega)
  exact can_q hY h e
theorem cf1_128 {a b c d : Int}  (hY : gg yy i = Y) (hk : gk Y) (a1 : -2147483648 ≤ a) (a2 : a < 2147483648) (b1 : -2147483648 ≤ b) (b2 : b < 2147483648) (c1 : -2147483648 ≤ c) (c2 : c < 2147483648) (d1 : -2147483648 ≤ d) (d2 : d < 2147483648) (h0 : ¬ ((0 ≤ a ∧ a < Y.1 2) ∧ (0 ≤ b ∧ b < Y.1 0 ∧ 0 ≤ c ∧ c < Y.1 (9 + 10 * b + 0)))) : calm C0 b0 L0 xs0 328 [.ref (gi C0 i), .int (Int32.ofInt a), .int (Int32.ofInt b), .int (Int32.ofInt c), .int (Int32.ofInt d)] (yy, n) = some (.int (Int32.ofInt (-9999001)), (yy, n + 1)) := by
  have h := cp_128 (C0 := C0) (b0 := b0) (L0 := L0) (xs0 := xs0) (yy := yy) (i := i) (n := n) (a := a) (b := b) (c := c) (d := d)  (by rw [hY]; exact hk) a1 a2 b1 b2 c1 c2 d1 d2
  rw [hY] at h
  have e : f128 Y.1 a b c d = 1 := by
    unfold f128
    (repeat' split) <;> first | rfl | (exfalso; omega)
  have h2 := can_no hY h (by rw [e]; decide)
  rw [e] at h2
  exact h2
theorem cf2_128 {a b c d : Int}  (hY : gg yy i = Y) (hk : gk Y) (a1 : -2147483648 ≤ a) (a2 : a < 2147483648) (b1 : -2147483648 ≤ b) (b2 : b < 2147483648) (c1 : -2147483648 ≤ c) (c2 : c < 2147483648) (d1 : -2147483648 ≤ d) (d2 : d < 2147483648) (h0 : (0 ≤ a ∧ a < Y.1 2) ∧ (0 ≤ b ∧ b < Y.1 0 ∧ 0 ≤ c ∧ c < Y.1 (9 + 10 * b + 0))) (h1 : d < 0 ∨ 1 < d) : calm C0 b0 L0 xs0 328 [.ref (gi C0 i), .int (Int32.ofInt a), .int (Int32.ofInt b), .int (Int32.ofInt c), .int (Int32.ofInt d)] (yy, n) = some (.int (Int32.ofInt (-9999002)), (yy, n + 1)) := by
  have h := cp_128 (C0 := C0) (b0 := b0) (L0 := L0) (xs0 := xs0) (yy := yy) (i := i) (n := n) (a := a) (b := b) (c := c) (d := d)  (by rw [hY]; exact hk) a1 a2 b1 b2 c1 c2 d1 d2
  rw [hY] at h
  have e : f128 Y.1 a b c d = 2 := by
    unfold f128
    (repeat' split) <;> first | rfl | (exfalso; omega)
  have h2 := can_no hY h (by rw [e]; decide)
  rw [e] at h2
  exact h2
theorem cv_128 {a b c d : Int}  (hY : gg yy i = Y) (hk : gk Y) (a1 : -2147483648 ≤ a) (a2 : a < 2147483648) (b1 : -2147483648 ≤ b) (b2 : b < 2147483648) (c1 : -2147483648 ≤ c) (c2 : c < 2147483648) (d1 : -2147483648 ≤ d) (d2 : d < 2147483648) (h0 : 0 ≤ a) (h1 : a < Y.1 2) (h2 : 0 ≤ b) (h3 : b < Y.1 0) (h4 : 0 ≤ c) (h5 : c < Y.1 (9 + 10 * b + 0)) (h6 : 0 ≤ d) (h7 : d ≤ 1) : calm C0 b0 L0 xs0 328 [.ref (gi C0 i), .int (Int32.ofInt a), .int (Int32.ofInt b), .int (Int32.ofInt c), .int (Int32.ofInt d)] (yy, n) = some (.int (Int32.ofInt (uf Y.1 a (b * 5 + c))), (yy, n)) := by
  have h := cp_128 (C0 := C0) (b0 := b0) (L0 := L0) (xs0 := xs0) (yy := yy) (i := i) (n := n) (a := a) (b := b) (c := c) (d := d)  (by rw [hY]; exact hk) a1 a2 b1 b2 c1 c2 d1 d2
  rw [hY] at h
  have e : f128 Y.1 a b c d = 0 := by
    unfold f128
    (repeat' split) <;> first | rfl | (exfalso; omega)
  exact can_q hY h e
theorem cf1_129 {a b : Int} {u2 : Int32} (hY : gg yy i = Y) (hk : gk Y) (a1 : -2147483648 ≤ a) (a2 : a < 2147483648) (b1 : -2147483648 ≤ b) (b2 : b < 2147483648) (h0 : ¬ ((0 ≤ a ∧ a < Y.1 2) ∧ (0 ≤ b ∧ b < Y.1 0))) : calm C0 b0 L0 xs0 230 [.ref (gi C0 i), .int (Int32.ofInt 16), .int (Int32.ofInt a), .int (Int32.ofInt b), .int u2] (yy, n) = some (.int (Int32.ofInt (-9999001)), (yy, n + 1)) := by
  have h := cp_129 (C0 := C0) (b0 := b0) (L0 := L0) (xs0 := xs0) (yy := yy) (i := i) (n := n) (a := a) (b := b) (u2 := u2) (by rw [hY]; exact hk) a1 a2 b1 b2
  rw [hY] at h
  have e : f129 Y.1 a b = 1 := by
    unfold f129
    (repeat' split) <;> first | rfl | (exfalso; omega)
  have h2 := can_no hY h (by rw [e]; decide)
  rw [e] at h2
  exact h2
theorem cv_129 {a b : Int} {u2 : Int32} (hY : gg yy i = Y) (hk : gk Y) (a1 : -2147483648 ≤ a) (a2 : a < 2147483648) (b1 : -2147483648 ≤ b) (b2 : b < 2147483648) (h0 : 0 ≤ a) (h1 : a < Y.1 2) (h2 : 0 ≤ b) (h3 : b < Y.1 0) : calm C0 b0 L0 xs0 230 [.ref (gi C0 i), .int (Int32.ofInt 16), .int (Int32.ofInt a), .int (Int32.ofInt b), .int u2] (yy, n) = some (.int (Int32.ofInt (us Y.1 a b)), (yy, n)) := by
  have h := cp_129 (C0 := C0) (b0 := b0) (L0 := L0) (xs0 := xs0) (yy := yy) (i := i) (n := n) (a := a) (b := b) (u2 := u2) (by rw [hY]; exact hk) a1 a2 b1 b2
  rw [hY] at h
  have e : f129 Y.1 a b = 0 := by
    unfold f129
    (repeat' split) <;> first | rfl | (exfalso; omega)
  exact can_q hY h e
theorem cf1_130 {a b : Int} {u2 : Int32} (hY : gg yy i = Y) (hk : gk Y) (a1 : -2147483648 ≤ a) (a2 : a < 2147483648) (b1 : -2147483648 ≤ b) (b2 : b < 2147483648) (h0 : a < 0 ∨ Y.1 2 ≤ a) : calm C0 b0 L0 xs0 230 [.ref (gi C0 i), .int (Int32.ofInt 17), .int (Int32.ofInt a), .int (Int32.ofInt b), .int u2] (yy, n) = some (.int (Int32.ofInt (-9999001)), (yy, n + 1)) := by
  have h := cp_130 (C0 := C0) (b0 := b0) (L0 := L0) (xs0 := xs0) (yy := yy) (i := i) (n := n) (a := a) (b := b) (u2 := u2) (by rw [hY]; exact hk) a1 a2 b1 b2
  rw [hY] at h
  have e : f130 Y.1 a b = 1 := by
    unfold f130
    (repeat' split) <;> first | rfl | (exfalso; omega)
  have h2 := can_no hY h (by rw [e]; decide)
  rw [e] at h2
  exact h2
theorem cf2_130 {a b : Int} {u2 : Int32} (hY : gg yy i = Y) (hk : gk Y) (a1 : -2147483648 ≤ a) (a2 : a < 2147483648) (b1 : -2147483648 ≤ b) (b2 : b < 2147483648) (h0 : 0 ≤ a) (h1 : a < Y.1 2) (h2 : b < 1 ∨ 4 < b) : calm C0 b0 L0 xs0 230 [.ref (gi C0 i), .int (Int32.ofInt 17), .int (Int32.ofInt a), .int (Int32.ofInt b), .int u2] (yy, n) = some (.int (Int32.ofInt (-9999002)), (yy, n + 1)) := by
  have h := cp_130 (C0 := C0) (b0 := b0) (L0 := L0) (xs0 := xs0) (yy := yy) (i := i) (n := n) (a := a) (b := b) (u2 := u2) (by rw [hY]; exact hk) a1 a2 b1 b2
  rw [hY] at h
  have e : f130 Y.1 a b = 2 := by
    unfold f130
    (repeat' split) <;> first | rfl | (exfalso; omega)
  have h2 := can_no hY h (by rw [e]; decide)
  rw [e] at h2
  exact h2
theorem cv_130 {a b : Int} {u2 : Int32} (hY : gg yy i = Y) (hk : gk Y) (a1 : -2147483648 ≤ a) (a2 : a < 2147483648) (b1 : -2147483648 ≤ b) (b2 : b < 2147483648) (h0 : 0 ≤ a) (h1 : a < Y.1 2) (h2 : 1 ≤ b) (h3 : b ≤ 4) : calm C0 b0 L0 xs0 230 [.ref (gi C0 i), .int (Int32.ofInt 17), .int (Int32.ofInt a), .int (Int32.ofInt b), .int u2] (yy, n) = some (.int (Int32.ofInt (um Y.1 a b.toNat)), (yy, n)) := by
  have h := cp_130 (C0 := C0) (b0 := b0) (L0 := L0) (xs0 := xs0) (yy := yy) (i := i) (n := n) (a := a) (b := b) (u2 := u2) (by rw [hY]; exact hk) a1 a2 b1 b2
  rw [hY] at h
  have e : f130 Y.1 a b = 0 := by
    unfold f130
    (repeat' split) <;> first | rfl | (exfalso; omega)
  exact can_q hY h e
theorem cf1_133 {a : Int} {u1 : Int32} {u2 : Int32} (hY : gg yy i = Y) (hk : gk Y) (a1 : -2147483648 ≤ a) (a2 : a < 2147483648) (h0 : a < 0 ∨ 1 < a) : calm C0 b0 L0 xs0 230 [.ref (gi C0 i), .int (Int32.ofInt 18), .int (Int32.ofInt a), .int u1, .int u2] (yy, n) = some (.int (Int32.ofInt (-9999001)), (yy, n + 1)) := by
  have h := cp_133 (C0 := C0) (b0 := b0) (L0 := L0) (xs0 := xs0) (yy := yy) (i := i) (n := n) (a := a) (u1 := u1) (u2 := u2) (by rw [hY]; exact hk) a1 a2
  rw [hY] at h
  have e : f133 Y.1 a = 1 := by
    unfold f133
    (repeat' split) <;> first | rfl | (exfalso; omega)
  have h2 := can_no hY h (by rw [e]; decide)
  rw [e] at h2
  exact h2
theorem cf1_134 {a : Int} {u1 : Int32} {u2 : Int32} (hY : gg yy i = Y) (hk : gk Y) (a1 : -2147483648 ≤ a) (a2 : a < 2147483648) (h0 : a < 0 ∨ 1 < a) : calm C0 b0 L0 xs0 230 [.ref (gi C0 i), .int (Int32.ofInt 19), .int (Int32.ofInt a), .int u1, .int u2] (yy, n) = some (.int (Int32.ofInt (-9999001)), (yy, n + 1)) := by
  have h := cp_134 (C0 := C0) (b0 := b0) (L0 := L0) (xs0 := xs0) (yy := yy) (i := i) (n := n) (a := a) (u1 := u1) (u2 := u2) (by rw [hY]; exact hk) a1 a2
  rw [hY] at h
  have e : f134 Y a = 1 := by
    unfold f134
    (repeat' split) <;> first | rfl | (exfalso; omega)
  have h2 := can_no hY h (by rw [e]; decide)
  rw [e] at h2
  exact h2
end CALLS
