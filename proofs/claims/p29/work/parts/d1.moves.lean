/-! A leap and its undo, on both ponds. -/
theorem gz_f {a b Z : gy} : gz (a, b) false Z = (Z, b) := rfl
theorem gz_t {a b Z : gy} : gz (a, b) true Z = (a, Z) := rfl
section MOVES
variable {C0 b0 L0 : Nat} {xs0 : Nat → Int32} {n : Nat} {Y : gy} {K : Int}
theorem r236_0 {x : Int} (hG : gG K Y) (hK : K + 20 ≤ 100000) (h : Y.1 2 = 0 ∨ Y.1 1 = 0) : calm C0 b0 L0 xs0 236 [.ref (gi C0 false), .ref (gi C0 true), .int (Int32.ofInt x)] ((Y, Y), n) = some (.int (Int32.ofInt 1), ((Y, Y), n + 1)) := by
  have hk := hG.gk (by omega)
  have hc := hG.i.c
  have h0 : gg (Y, Y) false = Y := rfl
  rw [M_236]
  by_cases q : Y.1 2 = 0
  · simp (disch := omega) only [Int.reduceAdd, Int.reduceMul, Int.reduceSub, Int.reduceNeg, na_add, na_sub, na_mul, na_neg, na_lt, na_le, na_eq, na_ofNat, bo_some, tl_some, tl_none, rc_int, rc_ref, rc_null, rc_none, rc_long, tb_0, tb_1, ↓mr_g0, mr_r0, mr_get, mr_upd, mr_at, mr_wr, Classical.not_not, not_true_eq_false, not_false_eq_true, na_l0, na_l1, na_l2, na_l3, na_l4, na_l5, na_l6, na_l7, na_l8, na_l9, na_l10, na_l14, na_l15, na_l16, na_l25, na_l30, na_l31, na_l32, na_l33, na_l39, na_l43, na_l45, na_l48, na_l49, na_l50, na_l51, na_l52, na_l53, na_l55, na_l56, na_l57, na_l60, na_l64, na_l71, na_l80, na_l96, na_l100, na_l101, na_l102, na_l103, na_l104, na_l105, na_l106, na_l107, na_l108, na_l109, na_l110, na_l111, na_l112, na_l113, na_l114, na_l115, na_l116, na_l117, na_l118, na_l119, na_l120, na_l121, na_l125, na_l128, na_l150, na_l192, na_l255, na_l999, na_l1000, na_l1248, na_l1344, na_l1875, na_l10000, ↓reduceIte, pf_and, pe_le, pf_le, pe_lt, pf_lt, pe_eq, pf_eq, true_and, and_true, false_and, and_false, true_or, or_true, false_or, or_false, ln_some, lb_0, lb_1, na_div, na_rem, Nat.add_assoc, Nat.reduceAdd, L_236_0, L_236_1, L_236_2, L_236_3, L_236_4, L_236_5, L_236_6, L_236_7, L_236_8, nA_0, nA_1, nA_2, nA_3, nA_4, nA_5, nA_6, nA_7, nA_8, nA_9, nA_10, nP_0, nP_1, nP_2, nP_3, nW_0, nW_1, nW_2, nW_3, nW_4, nW_5, nW_6, nW_7, nF_0, nF_1, nF_2, nF_3, nF_4, nF_5, cv_113 h0 hk, cv_114 h0 hk, cv_115 h0 hk, cv_116 h0 hk, cv_117 h0 hk, cv_127 h0 hk, cv_128 h0 hk, cv_129 h0 hk, cv_130 h0 hk, cf1_127 h0 hk, eq_self, ite_true, if_true]
  · have q1 : Y.1 1 = 0 := h.resolve_left q
    simp (disch := omega) only [Int.reduceAdd, Int.reduceMul, Int.reduceSub, Int.reduceNeg, na_add, na_sub, na_mul, na_neg, na_lt, na_le, na_eq, na_ofNat, bo_some, tl_some, tl_none, rc_int, rc_ref, rc_null, rc_none, rc_long, tb_0, tb_1, ↓mr_g0, mr_r0, mr_get, mr_upd, mr_at, mr_wr, Classical.not_not, not_true_eq_false, not_false_eq_true, na_l0, na_l1, na_l2, na_l3, na_l4, na_l5, na_l6, na_l7, na_l8, na_l9, na_l10, na_l14, na_l15, na_l16, na_l25, na_l30, na_l31, na_l32, na_l33, na_l39, na_l43, na_l45, na_l48, na_l49, na_l50, na_l51, na_l52, na_l53, na_l55, na_l56, na_l57, na_l60, na_l64, na_l71, na_l80, na_l96, na_l100, na_l101, na_l102, na_l103, na_l104, na_l105, na_l106, na_l107, na_l108, na_l109, na_l110, na_l111, na_l112, na_l113, na_l114, na_l115, na_l116, na_l117, na_l118, na_l119, na_l120, na_l121, na_l125, na_l128, na_l150, na_l192, na_l255, na_l999, na_l1000, na_l1248, na_l1344, na_l1875, na_l10000, ↓reduceIte, pf_and, pe_le, pf_le, pe_lt, pf_lt, pe_eq, pf_eq, true_and, and_true, false_and, and_false, true_or, or_true, false_or, or_false, ln_some, lb_0, lb_1, na_div, na_rem, Nat.add_assoc, Nat.reduceAdd, L_236_0, L_236_1, L_236_2, L_236_3, L_236_4, L_236_5, L_236_6, L_236_7, L_236_8, nA_0, nA_1, nA_2, nA_3, nA_4, nA_5, nA_6, nA_7, nA_8, nA_9, nA_10, nP_0, nP_1, nP_2, nP_3, nW_0, nW_1, nW_2, nW_3, nW_4, nW_5, nW_6, nW_7, nF_0, nF_1, nF_2, nF_3, nF_4, nF_5, cv_113 h0 hk, cv_114 h0 hk, cv_115 h0 hk, cv_116 h0 hk, cv_117 h0 hk, cv_127 h0 hk, cv_128 h0 hk, cv_129 h0 hk, cv_130 h0 hk, cf1_127 h0 hk, eq_self, ite_true, if_true]
def r236_L (C0 : Nat) (Y : gy) (x f l wy w p r wt e to pl le : Int) : ri_L := [some (.ref (gi C0 false)), some (.ref (gi C0 true)), some (.int (Int32.ofInt x)), some (.int (Int32.ofInt (Y.1 2))), some (.int (Int32.ofInt (Y.1 1))), some (.int (Int32.ofInt f)), some (.int (Int32.ofInt l)), some (.int (Int32.ofInt wy)), some (.int (Int32.ofInt (Y.1 3))), some (.int (Int32.ofInt (Y.1 6))), some (.int (Int32.ofInt w)), some (.int (Int32.ofInt p)), some (.int (Int32.ofInt r)), some (.int (Int32.ofInt wt)), some (.int (Int32.ofInt e)), some (.int (Int32.ofInt to)), some (.int (Int32.ofInt pl)), some (.int (Int32.ofInt le)), none, none, none]
theorem r236_1 {x f l e : Int} (hG : gG K Y) (hK : K + 20 ≤ 100000) (x0 : 0 ≤ x) (x1 : x < 2147483648) (hxf : x % Y.1 2 = f) (hxl : x / 5 % Y.1 1 = l) (f0 : 0 ≤ f) (f1 : f < Y.1 2) (l0 : 0 ≤ l) (l1 : l < Y.1 1) (he : e = if Y.1 (39 + 4 * l + 0) = Y.1 (71 + 5 * f + 1) ∧ Y.1 (39 + 4 * l + 1) = mf_place Y.1 f then 2 else 0) : calm C0 b0 L0 xs0 236 [.ref (gi C0 false), .ref (gi C0 true), .int (Int32.ofInt x)] ((Y, Y), n) = evm C0 b0 L0 xs0 236 (224, r236_L C0 Y x f l (mf_why Y.1 f l) (Y.1 (71 + 5 * f + 1)) (mf_place Y.1 f) (Y.1 (9 + 10 * Y.1 (71 + 5 * f + 1) + 3)) (mf_wt Y.1 (Y.1 (71 + 5 * f + 1)) - Y.1 (71 + 5 * f + 0)) e (Y.1 (39 + 4 * l + e)) (Y.1 (39 + 4 * l + e + 1)) (uf Y.1 f (Y.1 (39 + 4 * l + e) * 5 + Y.1 (39 + 4 * l + e + 1))), [.ref (gi C0 false)]) ((Y, Y), n) := by
  have hk := hG.gk (by omega)
  have hi := hG.i
  have hc := hi.c
  have hl3 := hG.2.2.2.2
  have hf := hi.f f0 f1
  have hl := hi.l l0 l1
  have hp := mf_place_bd hi f0 f1
  have hwf := hi.w (w := Y.1 (71 + 5 * f + 1)) (by omega) (by omega)
  have hw0 := hi.w (w := Y.1 (39 + 4 * l + 0)) (by omega) (by omega)
  have hw2 := hi.w (w := Y.1 (39 + 4 * l + 2)) (by omega) (by omega)
  have hwy := mf_why_bd Y.1 f l
  have hwt := mf_wt_bd hi (Y.1 (71 + 5 * f + 1))
  have h0 : gg (Y, Y) false = Y := rfl
  obtain ⟨X, hX⟩ : ∃ X, evm C0 b0 L0 xs0 236 (224, r236_L C0 Y x f l (mf_why Y.1 f l) (Y.1 (71 + 5 * f + 1)) (mf_place Y.1 f) (Y.1 (9 + 10 * Y.1 (71 + 5 * f + 1) + 3)) (mf_wt Y.1 (Y.1 (71 + 5 * f + 1)) - Y.1 (71 + 5 * f + 0)) e (Y.1 (39 + 4 * l + e)) (Y.1 (39 + 4 * l + e + 1)) (uf Y.1 f (Y.1 (39 + 4 * l + e) * 5 + Y.1 (39 + 4 * l + e + 1))), [.ref (gi C0 false)]) ((Y, Y), n) = X := ⟨_, rfl⟩
  rw [hX]
  unfold r236_L at hX
  rw [M_236]
  by_cases A : Y.1 (39 + 4 * l + 0) = Y.1 (71 + 5 * f + 1)
  · by_cases B : Y.1 (39 + 4 * l + 1) = mf_place Y.1 f
    · rw [if_pos ⟨A, B⟩] at he
      subst he
      rw [show 39 + 4 * l + 2 + 1 = 39 + 4 * l + 3 by omega] at hX
      simp (disch := omega) only [Int.reduceAdd, Int.reduceMul, Int.reduceSub, Int.reduceNeg, na_add, na_sub, na_mul, na_neg, na_lt, na_le, na_eq, na_ofNat, bo_some, tl_some, tl_none, rc_int, rc_ref, rc_null, rc_none, rc_long, tb_0, tb_1, ↓mr_g0, mr_r0, mr_get, mr_upd, mr_at, mr_wr, Classical.not_not, not_true_eq_false, not_false_eq_true, na_l0, na_l1, na_l2, na_l3, na_l4, na_l5, na_l6, na_l7, na_l8, na_l9, na_l10, na_l14, na_l15, na_l16, na_l25, na_l30, na_l31, na_l32, na_l33, na_l39, na_l43, na_l45, na_l48, na_l49, na_l50, na_l51, na_l52, na_l53, na_l55, na_l56, na_l57, na_l60, na_l64, na_l71, na_l80, na_l96, na_l100, na_l101, na_l102, na_l103, na_l104, na_l105, na_l106, na_l107, na_l108, na_l109, na_l110, na_l111, na_l112, na_l113, na_l114, na_l115, na_l116, na_l117, na_l118, na_l119, na_l120, na_l121, na_l125, na_l128, na_l150, na_l192, na_l255, na_l999, na_l1000, na_l1248, na_l1344, na_l1875, na_l10000, ↓reduceIte, pf_and, pe_le, pf_le, pe_lt, pf_lt, pe_eq, pf_eq, true_and, and_true, false_and, and_false, true_or, or_true, false_or, or_false, ln_some, lb_0, lb_1, na_div, na_rem, Nat.add_assoc, Nat.reduceAdd, L_236_0, L_236_1, L_236_2, L_236_3, L_236_4, L_236_5, L_236_6, L_236_7, L_236_8, nA_0, nA_1, nA_2, nA_3, nA_4, nA_5, nA_6, nA_7, nA_8, nA_9, nA_10, nP_0, nP_1, nP_2, nP_3, nW_0, nW_1, nW_2, nW_3, nW_4, nW_5, nW_6, nW_7, nF_0, nF_1, nF_2, nF_3, nF_4, nF_5, cv_113 h0 hk, cv_114 h0 hk, cv_115 h0 hk, cv_116 h0 hk, cv_117 h0 hk, cv_127 h0 hk, cv_128 h0 hk, cv_129 h0 hk, cv_130 h0 hk, hxf, hxl, eq_self, ite_true, if_true, ↓hX]
    · rw [if_neg (fun z => B z.2)] at he
      subst he
      rw [show 39 + 4 * l + 0 + 1 = 39 + 4 * l + 1 by omega] at hX
      simp (disch := omega) only [Int.reduceAdd, Int.reduceMul, Int.reduceSub, Int.reduceNeg, na_add, na_sub, na_mul, na_neg, na_lt, na_le, na_eq, na_ofNat, bo_some, tl_some, tl_none, rc_int, rc_ref, rc_null, rc_none, rc_long, tb_0, tb_1, ↓mr_g0, mr_r0, mr_get, mr_upd, mr_at, mr_wr, Classical.not_not, not_true_eq_false, not_false_eq_true, na_l0, na_l1, na_l2, na_l3, na_l4, na_l5, na_l6, na_l7, na_l8, na_l9, na_l10, na_l14, na_l15, na_l16, na_l25, na_l30, na_l31, na_l32, na_l33, na_l39, na_l43, na_l45, na_l48, na_l49, na_l50, na_l51, na_l52, na_l53, na_l55, na_l56, na_l57, na_l60, na_l64, na_l71, na_l80, na_l96, na_l100, na_l101, na_l102, na_l103, na_l104, na_l105, na_l106, na_l107, na_l108, na_l109, na_l110, na_l111, na_l112, na_l113, na_l114, na_l115, na_l116, na_l117, na_l118, na_l119, na_l120, na_l121, na_l125, na_l128, na_l150, na_l192, na_l255, na_l999, na_l1000, na_l1248, na_l1344, na_l1875, na_l10000, ↓reduceIte, pf_and, pe_le, pf_le, pe_lt, pf_lt, pe_eq, pf_eq, true_and, and_true, false_and, and_false, true_or, or_true, false_or, or_false, ln_some, lb_0, lb_1, na_div, na_rem, Nat.add_assoc, Nat.reduceAdd, L_236_0, L_236_1, L_236_2, L_236_3, L_236_4, L_236_5, L_236_6, L_236_7, L_236_8, nA_0, nA_1, nA_2, nA_3, nA_4, nA_5, nA_6, nA_7, nA_8, nA_9, nA_10, nP_0, nP_1, nP_2, nP_3, nW_0, nW_1, nW_2, nW_3, nW_4, nW_5, nW_6, nW_7, nF_0, nF_1, nF_2, nF_3, nF_4, nF_5, cv_113 h0 hk, cv_114 h0 hk, cv_115 h0 hk, cv_116 h0 hk, cv_117 h0 hk, cv_127 h0 hk, cv_128 h0 hk, cv_129 h0 hk, cv_130 h0 hk, hxf, hxl, eq_self, ite_true, if_true, ↓hX]
  · rw [if_neg (fun z => A z.1)] at he
    subst he
    rw [show 39 + 4 * l + 0 + 1 = 39 + 4 * l + 1 by omega] at hX
    simp (disch := omega) only [Int.reduceAdd, Int.reduceMul, Int.reduceSub, Int.reduceNeg, na_add, na_sub, na_mul, na_neg, na_lt, na_le, na_eq, na_ofNat, bo_some, tl_some, tl_none, rc_int, rc_ref, rc_null, rc_none, rc_long, tb_0, tb_1, ↓mr_g0, mr_r0, mr_get, mr_upd, mr_at, mr_wr, Classical.not_not, not_true_eq_false, not_false_eq_true, na_l0, na_l1, na_l2, na_l3, na_l4, na_l5, na_l6, na_l7, na_l8, na_l9, na_l10, na_l14, na_l15, na_l16, na_l25, na_l30, na_l31, na_l32, na_l33, na_l39, na_l43, na_l45, na_l48, na_l49, na_l50, na_l51, na_l52, na_l53, na_l55, na_l56, na_l57, na_l60, na_l64, na_l71, na_l80, na_l96, na_l100, na_l101, na_l102, na_l103, na_l104, na_l105, na_l106, na_l107, na_l108, na_l109, na_l110, na_l111, na_l112, na_l113, na_l114, na_l115, na_l116, na_l117, na_l118, na_l119, na_l120, na_l121, na_l125, na_l128, na_l150, na_l192, na_l255, na_l999, na_l1000, na_l1248, na_l1344, na_l1875, na_l10000, ↓reduceIte, pf_and, pe_le, pf_le, pe_lt, pf_lt, pe_eq, pf_eq, true_and, and_true, false_and, and_false, true_or, or_true, false_or, or_false, ln_some, lb_0, lb_1, na_div, na_rem, Nat.add_assoc, Nat.reduceAdd, L_236_0, L_236_1, L_236_2, L_236_3, L_236_4, L_236_5, L_236_6, L_236_7, L_236_8, nA_0, nA_1, nA_2, nA_3, nA_4, nA_5, nA_6, nA_7, nA_8, nA_9, nA_10, nP_0, nP_1, nP_2, nP_3, nW_0, nW_1, nW_2, nW_3, nW_4, nW_5, nW_6, nW_7, nF_0, nF_1, nF_2, nF_3, nF_4, nF_5, cv_113 h0 hk, cv_114 h0 hk, cv_115 h0 hk, cv_116 h0 hk, cv_117 h0 hk, cv_127 h0 hk, cv_128 h0 hk, cv_129 h0 hk, cv_130 h0 hk, hxf, hxl, eq_self, ite_true, if_true, ↓hX]
theorem r236_2 {x f l w p r wt e to pl le : Int} (hG : gG K Y) (hK : K + 20 ≤ 100000) (f0 : 0 ≤ f) (f1 : f < Y.1 2) (l0 : 0 ≤ l) (l1 : l < Y.1 1) (hw : Y.1 (71 + 5 * f + 1) = w) (hpe : mf_place Y.1 f = p) (hr : Y.1 (9 + 10 * w + 3) = r) (q : mf_why Y.1 f l ≠ 0) : evm C0 b0 L0 xs0 236 (224, r236_L C0 Y x f l (mf_why Y.1 f l) w p r wt e to pl le, [.ref (gi C0 false)]) ((Y, Y), n) = some (.int (Int32.ofInt 1), ((gz1 Y, gz1 Y), n)) := by
  have hk := hG.gk (by omega)
  have hi := hG.i
  have hc := hi.c
  have hf := hi.f f0 f1
  have hp := mf_place_bd hi f0 f1
  have hwf := hi.w (w := Y.1 (71 + 5 * f + 1)) (by omega) (by omega)
  have hwy := mf_why_bd Y.1 f l
  rw [hw] at hf hp hwf
  rw [hpe] at hp
  rw [hr] at hwf
  have hGG := gG_1 hG
  have hg1 : (gz1 Y).1 = Y.1 := rfl
  have hkG := hGG.gk (by omega)
  have eN : mg_leap Y.1 f l = Y.1 := if_neg q
  have hZG : gG (K + 20) (ga Y (mg_leap Y.1 f l)) := by
    rw [eN]
    exact gG_ga hG (by omega) (by omega) (gq_mono hG.1.1 (by omega) (by omega)) hG.1.2
  have hgu : gu (ga Y (mg_leap Y.1 f l)) = gz1 Y := rfl
  have hz1 : (ga Y (mg_leap Y.1 f l)).1 = Y.1 := eN
  have hzl : ((ga Y (mg_leap Y.1 f l)).2.1.length : Int) ≠ 0 := by
    show (((Y.1 :: Y.2.1).take 14).length : Int) ≠ 0
    rw [List.length_take, List.length_cons]
    omega
  generalize hZ : ga Y (mg_leap Y.1 f l) = Z at *
  have hzl2 := hZG.2.2.2.2
  have hkZ := hZG.gk hK
  generalize gz1 Y = G at *
  have h0 : gg (Y, Y) false = Y := rfl
  have h1 : gg (Z, Y) true = Y := rfl
  have hZ0 : gg (Z, Z) false = Z := rfl
  have hG1 : gg (G, Z) true = Z := rfl
  have hG0 : gg (G, G) false = G := rfl
  have zz0 : Z.1 0 = Y.1 0 := by rw [hz1]
  have zz2 : Z.1 2 = Y.1 2 := by rw [hz1]
  have zg0 : G.1 0 = Y.1 0 := by rw [hg1]
  have zg2 : G.1 2 = Y.1 2 := by rw [hg1]
  unfold r236_L
  simp (disch := omega) only [Int.reduceAdd, Int.reduceMul, Int.reduceSub, Int.reduceNeg, na_add, na_sub, na_mul, na_neg, na_lt, na_le, na_eq, na_ofNat, bo_some, tl_some, tl_none, rc_int, rc_ref, rc_null, rc_none, rc_long, tb_0, tb_1, ↓mr_g0, mr_r0, mr_get, mr_upd, mr_at, mr_wr, Classical.not_not, not_true_eq_false, not_false_eq_true, na_l0, na_l1, na_l2, na_l3, na_l4, na_l5, na_l6, na_l7, na_l8, na_l9, na_l10, na_l14, na_l15, na_l16, na_l25, na_l30, na_l31, na_l32, na_l33, na_l39, na_l43, na_l45, na_l48, na_l49, na_l50, na_l51, na_l52, na_l53, na_l55, na_l56, na_l57, na_l60, na_l64, na_l71, na_l80, na_l96, na_l100, na_l101, na_l102, na_l103, na_l104, na_l105, na_l106, na_l107, na_l108, na_l109, na_l110, na_l111, na_l112, na_l113, na_l114, na_l115, na_l116, na_l117, na_l118, na_l119, na_l120, na_l121, na_l125, na_l128, na_l150, na_l192, na_l255, na_l999, na_l1000, na_l1248, na_l1344, na_l1875, na_l10000, ↓reduceIte, pf_and, pe_le, pf_le, pe_lt, pf_lt, pe_eq, pf_eq, true_and, and_true, false_and, and_false, true_or, or_true, false_or, or_false, ln_some, lb_0, lb_1, na_div, na_rem, Nat.add_assoc, Nat.reduceAdd, L_236_0, L_236_1, L_236_2, L_236_3, L_236_4, L_236_5, L_236_6, L_236_7, L_236_8, nA_0, nA_1, nA_2, nA_3, nA_4, nA_5, nA_6, nA_7, nA_8, nA_9, nA_10, nP_0, nP_1, nP_2, nP_3, nW_0, nW_1, nW_2, nW_3, nW_4, nW_5, nW_6, nW_7, nF_0, nF_1, nF_2, nF_3, nF_4, nF_5, M_231, L_231_0, cv_122 h0 hk, cv_122 h1 hk, cv_126 hZ0 hkZ, cv_126 hG1 hkZ, gz_f, gz_t, hZ, hgu, cv_113 hZ0 hkZ, cv_114 hZ0 hkZ, cv_115 hZ0 hkZ, cv_116 hZ0 hkZ, cv_117 hZ0 hkZ, cv_127 hZ0 hkZ, cv_128 hZ0 hkZ, cv_129 hZ0 hkZ, cv_130 hZ0 hkZ, cv_113 hG0 hkG, cv_114 hG0 hkG, cv_115 hG0 hkG, cv_116 hG0 hkG, cv_117 hG0 hkG, cv_127 hG0 hkG, cv_128 hG0 hkG, cv_129 hG0 hkG, cv_130 hG0 hkG, hz1, hg1, hw, hpe, hr, q, eq_self, ite_true, if_true]
theorem r236_3 {x f l w p r e to pl le : Int} (hG : gG K Y) (hK : K + 20 ≤ 100000) (f0 : 0 ≤ f) (f1 : f < Y.1 2) (l0 : 0 ≤ l) (l1 : l < Y.1 1) (hw : Y.1 (71 + 5 * f + 1) = w) (hpe : mf_place Y.1 f = p) (hr : Y.1 (9 + 10 * w + 3) = r) (hto : Y.1 (39 + 4 * l + 2 * mf_away Y.1 f l) = to) (hpl : Y.1 (39 + 4 * l + 2 * mf_away Y.1 f l + 1) = pl) (hle : le = 1) (q : mf_why Y.1 f l = 0) : evm C0 b0 L0 xs0 236 (224, r236_L C0 Y x f l (mf_why Y.1 f l) w p r (mf_wt Y.1 w - Y.1 (71 + 5 * f + 0)) e to pl le, [.ref (gi C0 false)]) ((Y, Y), n) = some (.int (Int32.ofInt 1), ((gz1 Y, gz1 Y), n)) := by
  have hk := hG.gk (by omega)
  have hi := hG.i
  have hc := hi.c
  have hf := hi.f f0 f1
  have hp := mf_place_bd hi f0 f1
  have hwf := hi.w (w := Y.1 (71 + 5 * f + 1)) (by omega) (by omega)
  have hwt := mf_wt_bd hi w
  rw [hw] at hf hp hwf
  rw [hpe] at hp
  have hlt := lw_turn hwf.1.1 hwf.1.2 hwf.2.2.2.1.1 hwf.2.2.2.1.2 hwf.2.1.1 hwf.2.1.2
  have hee := mf_end hi l0 l1 (mf_why_0 q).1
  rw [hto, hpl] at hee
  have hwt5 := hi.w hee.1.1 hee.1.2
  have lc := leap_c hi (by omega) f0 f1 l0 l1 q hw hto hpl
  rw [hr] at hwf hlt lc
  have hGG := gG_1 hG
  have hg1 : (gz1 Y).1 = Y.1 := rfl
  have hkG := hGG.gk (by omega)
  have hZG : gG (K + 20) (ga Y (mg_leap Y.1 f l)) := by
    have g := gq_leap hG.1.1 (show K + 20 ≤ 1000000 by omega) f0 f1 l0 l1
    have h2 := hG.1.2
    exact gG_ga hG (by omega) (by omega) g.1 (by omega)
  have hgu : gu (ga Y (mg_leap Y.1 f l)) = gz1 Y := rfl
  have hzz : mg_leap Y.1 f l = (ga Y (mg_leap Y.1 f l)).1 := rfl
  have hzl : ((ga Y (mg_leap Y.1 f l)).2.1.length : Int) ≠ 0 := by
    show (((Y.1 :: Y.2.1).take 14).length : Int) ≠ 0
    rw [List.length_take, List.length_cons]
    omega
  rw [hzz] at lc
  generalize hZ : ga Y (mg_leap Y.1 f l) = Z at *
  have hzl2 := hZG.2.2.2.2
  have hkZ := hZG.gk hK
  generalize gz1 Y = G at *
  have h0 : gg (Y, Y) false = Y := rfl
  have h1 : gg (Z, Y) true = Y := rfl
  have hZ0 : gg (Z, Z) false = Z := rfl
  have hG1 : gg (G, Z) true = Z := rfl
  have hG0 : gg (G, G) false = G := rfl
  obtain ⟨⟨z1, z2⟩, ⟨z3, z4, z5⟩, z6, ⟨z7, z8, z9⟩, ⟨z10, z11, z12⟩, z13⟩ := lc
  have zg0 : G.1 0 = Y.1 0 := by rw [hg1]
  have zg2 : G.1 2 = Y.1 2 := by rw [hg1]
  subst hle
  unfold r236_L
  by_cases qs : mf_wt Y.1 w - Y.1 (71 + 5 * f + 0) ≤ Y.1 (9 + 10 * w + 2)
  · rw [if_pos qs] at z13
    obtain ⟨t, ht⟩ : ∃ t, (r + Y.1 (9 + 10 * w + 1) + Y.1 (9 + 10 * w + 0)).tmod (Y.1 (9 + 10 * w + 0)) = t := ⟨_, rfl⟩
    rw [ht] at hlt
    by_cases qt : t < 0
    · have z14 := hlt.2.1 qt
      rw [← z14] at z13
      simp (disch := omega) only [Int.reduceAdd, Int.reduceMul, Int.reduceSub, Int.reduceNeg, na_add, na_sub, na_mul, na_neg, na_lt, na_le, na_eq, na_ofNat, bo_some, tl_some, tl_none, rc_int, rc_ref, rc_null, rc_none, rc_long, tb_0, tb_1, ↓mr_g0, mr_r0, mr_get, mr_upd, mr_at, mr_wr, Classical.not_not, not_true_eq_false, not_false_eq_true, na_l0, na_l1, na_l2, na_l3, na_l4, na_l5, na_l6, na_l7, na_l8, na_l9, na_l10, na_l14, na_l15, na_l16, na_l25, na_l30, na_l31, na_l32, na_l33, na_l39, na_l43, na_l45, na_l48, na_l49, na_l50, na_l51, na_l52, na_l53, na_l55, na_l56, na_l57, na_l60, na_l64, na_l71, na_l80, na_l96, na_l100, na_l101, na_l102, na_l103, na_l104, na_l105, na_l106, na_l107, na_l108, na_l109, na_l110, na_l111, na_l112, na_l113, na_l114, na_l115, na_l116, na_l117, na_l118, na_l119, na_l120, na_l121, na_l125, na_l128, na_l150, na_l192, na_l255, na_l999, na_l1000, na_l1248, na_l1344, na_l1875, na_l10000, ↓reduceIte, pf_and, pe_le, pf_le, pe_lt, pf_lt, pe_eq, pf_eq, true_and, and_true, false_and, and_false, true_or, or_true, false_or, or_false, ln_some, lb_0, lb_1, na_tdiv, na_trem, Nat.add_assoc, Nat.reduceAdd, L_236_0, L_236_1, L_236_2, L_236_3, L_236_4, L_236_5, L_236_6, L_236_7, L_236_8, nA_0, nA_1, nA_2, nA_3, nA_4, nA_5, nA_6, nA_7, nA_8, nA_9, nA_10, nP_0, nP_1, nP_2, nP_3, nW_0, nW_1, nW_2, nW_3, nW_4, nW_5, nW_6, nW_7, nF_0, nF_1, nF_2, nF_3, nF_4, nF_5, M_231, L_231_0, cv_122 h0 hk, cv_122 h1 hk, cv_126 hZ0 hkZ, cv_126 hG1 hkZ, gz_f, gz_t, hZ, hgu, cv_113 hZ0 hkZ, cv_114 hZ0 hkZ, cv_115 hZ0 hkZ, cv_116 hZ0 hkZ, cv_117 hZ0 hkZ, cv_127 hZ0 hkZ, cv_128 hZ0 hkZ, cv_129 hZ0 hkZ, cv_130 hZ0 hkZ, cv_113 hG0 hkG, cv_114 hG0 hkG, cv_115 hG0 hkG, cv_116 hG0 hkG, cv_117 hG0 hkG, cv_127 hG0 hkG, cv_128 hG0 hkG, cv_129 hG0 hkG, cv_130 hG0 hkG, hg1, hw, hpe, hr, ht, q, z1, z2, z3, z4, z5, z6, z10, z11, z12, z13, eq_self, ite_true, if_true]
    · have z14 := hlt.2.2 qt
      rw [← z14] at z13
      simp (disch := omega) only [Int.reduceAdd, Int.reduceMul, Int.reduceSub, Int.reduceNeg, na_add, na_sub, na_mul, na_neg, na_lt, na_le, na_eq, na_ofNat, bo_some, tl_some, tl_none, rc_int, rc_ref, rc_null, rc_none, rc_long, tb_0, tb_1, ↓mr_g0, mr_r0, mr_get, mr_upd, mr_at, mr_wr, Classical.not_not, not_true_eq_false, not_false_eq_true, na_l0, na_l1, na_l2, na_l3, na_l4, na_l5, na_l6, na_l7, na_l8, na_l9, na_l10, na_l14, na_l15, na_l16, na_l25, na_l30, na_l31, na_l32, na_l33, na_l39, na_l43, na_l45, na_l48, na_l49, na_l50, na_l51, na_l52, na_l53, na_l55, na_l56, na_l57, na_l60, na_l64, na_l71, na_l80, na_l96, na_l100, na_l101, na_l102, na_l103, na_l104, na_l105, na_l106, na_l107, na_l108, na_l109, na_l110, na_l111, na_l112, na_l113, na_l114, na_l115, na_l116, na_l117, na_l118, na_l119, na_l120, na_l121, na_l125, na_l128, na_l150, na_l192, na_l255, na_l999, na_l1000, na_l1248, na_l1344, na_l1875, na_l10000, ↓reduceIte, pf_and, pe_le, pf_le, pe_lt, pf_lt, pe_eq, pf_eq, true_and, and_true, false_and, and_false, true_or, or_true, false_or, or_false, ln_some, lb_0, lb_1, na_tdiv, na_trem, Nat.add_assoc, Nat.reduceAdd, L_236_0, L_236_1, L_236_2, L_236_3, L_236_4, L_236_5, L_236_6, L_236_7, L_236_8, nA_0, nA_1, nA_2, nA_3, nA_4, nA_5, nA_6, nA_7, nA_8, nA_9, nA_10, nP_0, nP_1, nP_2, nP_3, nW_0, nW_1, nW_2, nW_3, nW_4, nW_5, nW_6, nW_7, nF_0, nF_1, nF_2, nF_3, nF_4, nF_5, M_231, L_231_0, cv_122 h0 hk, cv_122 h1 hk, cv_126 hZ0 hkZ, cv_126 hG1 hkZ, gz_f, gz_t, hZ, hgu, cv_113 hZ0 hkZ, cv_114 hZ0 hkZ, cv_115 hZ0 hkZ, cv_116 hZ0 hkZ, cv_117 hZ0 hkZ, cv_127 hZ0 hkZ, cv_128 hZ0 hkZ, cv_129 hZ0 hkZ, cv_130 hZ0 hkZ, cv_113 hG0 hkG, cv_114 hG0 hkG, cv_115 hG0 hkG, cv_116 hG0 hkG, cv_117 hG0 hkG, cv_127 hG0 hkG, cv_128 hG0 hkG, cv_129 hG0 hkG, cv_130 hG0 hkG, hg1, hw, hpe, hr, ht, q, z1, z2, z3, z4, z5, z6, z10, z11, z12, z13, eq_self, ite_true, if_true]
  · rw [if_neg qs] at z13
    obtain ⟨t, ht⟩ : ∃ t, (r + Y.1 (9 + 10 * w + 1) + Y.1 (9 + 10 * w + 0)).tmod (Y.1 (9 + 10 * w + 0)) = t := ⟨_, rfl⟩
    simp (disch := omega) only [Int.reduceAdd, Int.reduceMul, Int.reduceSub, Int.reduceNeg, na_add, na_sub, na_mul, na_neg, na_lt, na_le, na_eq, na_ofNat, bo_some, tl_some, tl_none, rc_int, rc_ref, rc_null, rc_none, rc_long, tb_0, tb_1, ↓mr_g0, mr_r0, mr_get, mr_upd, mr_at, mr_wr, Classical.not_not, not_true_eq_false, not_false_eq_true, na_l0, na_l1, na_l2, na_l3, na_l4, na_l5, na_l6, na_l7, na_l8, na_l9, na_l10, na_l14, na_l15, na_l16, na_l25, na_l30, na_l31, na_l32, na_l33, na_l39, na_l43, na_l45, na_l48, na_l49, na_l50, na_l51, na_l52, na_l53, na_l55, na_l56, na_l57, na_l60, na_l64, na_l71, na_l80, na_l96, na_l100, na_l101, na_l102, na_l103, na_l104, na_l105, na_l106, na_l107, na_l108, na_l109, na_l110, na_l111, na_l112, na_l113, na_l114, na_l115, na_l116, na_l117, na_l118, na_l119, na_l120, na_l121, na_l125, na_l128, na_l150, na_l192, na_l255, na_l999, na_l1000, na_l1248, na_l1344, na_l1875, na_l10000, ↓reduceIte, pf_and, pe_le, pf_le, pe_lt, pf_lt, pe_eq, pf_eq, true_and, and_true, false_and, and_false, true_or, or_true, false_or, or_false, ln_some, lb_0, lb_1, na_tdiv, na_trem, Nat.add_assoc, Nat.reduceAdd, L_236_0, L_236_1, L_236_2, L_236_3, L_236_4, L_236_5, L_236_6, L_236_7, L_236_8, nA_0, nA_1, nA_2, nA_3, nA_4, nA_5, nA_6, nA_7, nA_8, nA_9, nA_10, nP_0, nP_1, nP_2, nP_3, nW_0, nW_1, nW_2, nW_3, nW_4, nW_5, nW_6, nW_7, nF_0, nF_1, nF_2, nF_3, nF_4, nF_5, M_231, L_231_0, cv_122 h0 hk, cv_122 h1 hk, cv_126 hZ0 hkZ, cv_126 hG1 hkZ, gz_f, gz_t, hZ, hgu, cv_113 hZ0 hkZ, cv_114 hZ0 hkZ, cv_115 hZ0 hkZ, cv_116 hZ0 hkZ, cv_117 hZ0 hkZ, cv_127 hZ0 hkZ, cv_128 hZ0 hkZ, cv_129 hZ0 hkZ, cv_130 hZ0 hkZ, cv_113 hG0 hkG, cv_114 hG0 hkG, cv_115 hG0 hkG, cv_116 hG0 hkG, cv_117 hG0 hkG, cv_127 hG0 hkG, cv_128 hG0 hkG, cv_129 hG0 hkG, cv_130 hG0 hkG, hg1, hw, hpe, hr, ht, q, z1, z2, z3, z4, z5, z6, z10, z11, z12, z13, eq_self, ite_true, if_true]
theorem r236 {x : Int} (hG : gG K Y) (hK : K + 20 ≤ 100000) (x0 : 0 ≤ x) (x1 : x < 2147483648) (h : ¬ (Y.1 2 = 0 ∨ Y.1 1 = 0)) : calm C0 b0 L0 xs0 236 [.ref (gi C0 false), .ref (gi C0 true), .int (Int32.ofInt x)] ((Y, Y), n) = some (.int (Int32.ofInt 1), ((gz1 Y, gz1 Y), n)) := by
  have hi := hG.i
  have hc := hi.c
  have f0 : 0 ≤ x % Y.1 2 ∧ x % Y.1 2 < Y.1 2 := ⟨Int.emod_nonneg _ (by omega), Int.emod_lt_of_pos _ (by omega)⟩
  have l0 : 0 ≤ x / 5 % Y.1 1 ∧ x / 5 % Y.1 1 < Y.1 1 := ⟨Int.emod_nonneg _ (by omega), Int.emod_lt_of_pos _ (by omega)⟩
  generalize hxf : x % Y.1 2 = f at *
  generalize hxl : x / 5 % Y.1 1 = l at *
  rw [r236_1 hG hK x0 x1 hxf hxl f0.1 f0.2 l0.1 l0.2 rfl]
  by_cases q : mf_why Y.1 f l = 0
  · have qa := (mf_why_0 q).1
    have e : (if Y.1 (39 + 4 * l + 0) = Y.1 (71 + 5 * f + 1) ∧ Y.1 (39 + 4 * l + 1) = mf_place Y.1 f then 2 else 0) = 2 * mf_away Y.1 f l := by
      unfold mf_away at qa ⊢
      by_cases A : Y.1 (39 + 4 * l + 0) = Y.1 (71 + 5 * f + 1) ∧ Y.1 (39 + 4 * l + 1) = mf_place Y.1 f
      · rw [if_pos A, if_pos A]
        rfl
      · rw [if_neg A] at qa
        rw [if_neg A, if_neg A]
        by_cases B : Y.1 (39 + 4 * l + 2) = Y.1 (71 + 5 * f + 1) ∧ Y.1 (39 + 4 * l + 3) = mf_place Y.1 f
        · rw [if_pos B]
          rfl
        · rw [if_neg B] at qa
          exact absurd rfl qa
    rw [e]
    have he := mf_end hi l0.1 l0.2 qa
    have hv := hi.w he.1.1 he.1.2
    refine r236_3 hG hK f0.1 f0.2 l0.1 l0.2 rfl rfl rfl rfl rfl ?_ q
    refine uf_one hi f0.1 f0.2 (Or.inr ⟨l, l0, qa, rfl⟩) ?_
    have e1 : (Y.1 (39 + 4 * l + 2 * mf_away Y.1 f l) * 5 + Y.1 (39 + 4 * l + 2 * mf_away Y.1 f l + 1)) / 5 = Y.1 (39 + 4 * l + 2 * mf_away Y.1 f l) := by omega
    have e2 : (Y.1 (39 + 4 * l + 2 * mf_away Y.1 f l) * 5 + Y.1 (39 + 4 * l + 2 * mf_away Y.1 f l + 1)) % 5 = Y.1 (39 + 4 * l + 2 * mf_away Y.1 f l + 1) := by omega
    rw [e1, e2]
    exact mf_later_0 (mf_why_0 q).2
  · exact r236_2 hG hK f0.1 f0.2 l0.1 l0.2 rfl rfl rfl q
end MOVES
