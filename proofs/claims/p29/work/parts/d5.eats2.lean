/-! The most flies: the law's method. -/
section EATS2
variable {C0 b0 L0 : Nat} {xs0 : Nat → Int32} {n : Nat} {Y : gy} {K : Int}
theorem r238_0 {x : Int} (hG : gG K Y) (hK : K + 20 ≤ 100000) (h : Y.1 2 = 0) : calm C0 b0 L0 xs0 238 [.ref (gi C0 false), .ref (gi C0 true), .int (Int32.ofInt x)] ((Y, Y), n) = some (.int (Int32.ofInt 1), ((Y, Y), n)) := by
  have hk := hG.gk (by omega)
  have hc := hG.i.c
  have h0 : gg (Y, Y) false = Y := rfl
  rw [M_238]
  simp (disch := omega) only [Int.reduceAdd, Int.reduceMul, Int.reduceSub, Int.reduceNeg, na_add, na_sub, na_mul, na_neg, na_lt, na_le, na_eq, na_ofNat, bo_some, tl_some, tl_none, rc_int, rc_ref, rc_null, rc_none, rc_long, tb_0, tb_1, ↓mr_g0, mr_r0, mr_get, mr_upd, mr_at, mr_wr, Classical.not_not, not_true_eq_false, not_false_eq_true, na_l0, na_l1, na_l2, na_l3, na_l4, na_l5, na_l6, na_l7, na_l8, na_l9, na_l10, na_l14, na_l15, na_l16, na_l25, na_l30, na_l31, na_l32, na_l33, na_l39, na_l43, na_l45, na_l48, na_l49, na_l50, na_l51, na_l52, na_l53, na_l55, na_l56, na_l57, na_l60, na_l64, na_l71, na_l80, na_l96, na_l100, na_l101, na_l102, na_l103, na_l104, na_l105, na_l106, na_l107, na_l108, na_l109, na_l110, na_l111, na_l112, na_l113, na_l114, na_l115, na_l116, na_l117, na_l118, na_l119, na_l120, na_l121, na_l125, na_l128, na_l150, na_l192, na_l255, na_l999, na_l1000, na_l1248, na_l1344, na_l1875, na_l10000, ↓reduceIte, pf_and, pe_le, pf_le, pe_lt, pf_lt, pe_eq, pf_eq, true_and, and_true, false_and, and_false, true_or, or_true, false_or, or_false, ln_some, lb_0, lb_1, na_div, na_rem, Nat.add_assoc, Nat.reduceAdd, L_238_0, L_238_1, L_238_2, L_238_3, L_238_4, L_238_5, L_238_6, M_231, L_231_0, nA_0, nA_1, nA_2, nA_3, nA_4, nA_5, nA_6, nA_7, nA_8, nA_9, nA_10, nP_0, nP_1, nP_2, nP_3, nW_0, nW_1, nW_2, nW_3, nW_4, nW_5, nW_6, nW_7, nF_0, nF_1, nF_2, nF_3, nF_4, nF_5, cv_113 h0 hk, cv_114 h0 hk, cv_115 h0 hk, cv_116 h0 hk, cv_117 h0 hk, cv_127 h0 hk, cv_128 h0 hk, cv_129 h0 hk, cv_130 h0 hk, gz_f, gz_t, Int.add_sub_cancel, eq_self, ite_true, if_true, h]
theorem r238_1 {x f : Int} (hG : gG K Y) (hK : K + 20 ≤ 100000) (x0 : 0 ≤ x) (x1 : x < 2147483648) (hxf : x % Y.1 2 = f) (f0 : 0 ≤ f) (f1 : f < Y.1 2) : calm C0 b0 L0 xs0 238 [.ref (gi C0 false), .ref (gi C0 true), .int (Int32.ofInt x)] ((Y, Y), n) = some (.int (Int32.ofInt 1), ((gz1 Y, gz1 Y), n)) := by
  have hk := hG.gk (by omega)
  have hi := hG.i
  have hc := hi.c
  have hGG := gG_1 hG
  have hg1 : (gz1 Y).1 = Y.1 := rfl
  have hkG := hGG.gk (by omega)
  have gs := gq_set (v := 0) hG.1.1 (by decide) (by decide)
  have h2 := hG.1.2
  have hZG : gG (K + 20) (ga Y (mr_st Y.1 8 0)) := gG_ga hG (by omega) (by omega) (gq_mono gs.1 (by omega) (by omega)) (by omega)
  have hgu : gu (ga Y (mr_st Y.1 8 0)) = gz1 Y := rfl
  have u8 : um (mr_st Y.1 8 0) f 1 = um Y.1 f 1 := um_8 hi f0 f1 (by decide) (by decide)
  have hzz : mr_st Y.1 8 0 = (ga Y (mr_st Y.1 8 0)).1 := rfl
  have z8 : mr_st Y.1 8 0 8 = 0 := ms_eq rfl
  have z0 : mr_st Y.1 8 0 0 = Y.1 0 := ms_ne (by decide)
  have z1 : mr_st Y.1 8 0 1 = Y.1 1 := ms_ne (by decide)
  have z2 : mr_st Y.1 8 0 2 = Y.1 2 := ms_ne (by decide)
  have zf : mf_flA (mr_st Y.1 8 0) = mf_flA Y.1 := by
    rw [sw_flA (by omega) (by omega), sw_flA (by omega) (by omega), sw_st (by decide) (by decide)]
  have hzl : ((ga Y (mr_st Y.1 8 0)).2.1.length : Int) ≠ 0 := by
    show (((Y.1 :: Y.2.1).take 14).length : Int) ≠ 0
    rw [List.length_take, List.length_cons]
    omega
  rw [hzz] at u8 z8 z0 z1 z2 zf
  generalize hZ : ga Y (mr_st Y.1 8 0) = Z at *
  have hzl2 := hZG.2.2.2.2
  have hkZ := hZG.gk hK
  generalize gz1 Y = G at *
  have ub1 := (um_ok hi f0 f1 (n := 1) (by decide) (by decide)).1
  have ub2 := (um_ok hi f0 f1 (n := 2) (by decide) (by decide)).1
  have ub3 := (um_ok hi f0 f1 (n := 3) (by decide) (by decide)).1
  have uu1 : um Y.1 f (1 : Int).toNat ≤ um Y.1 f (2 : Int).toNat := um_up hi f0 f1 (n := 1) (by decide) (by decide)
  have uu2 : um Y.1 f (2 : Int).toNat ≤ um Y.1 f (3 : Int).toNat := um_up hi f0 f1 (n := 2) (by decide) (by decide)
  have uu3 := um_all hi f0 f1 (n := 3) (by decide) (by decide)
  have hfl := flA_bd hi
  have h0 : gg (Y, Y) false = Y := rfl
  have h1 : gg (Z, Y) true = Y := rfl
  have hZY : gg (Z, Y) false = Z := rfl
  have hZ0 : gg (Z, Z) false = Z := rfl
  have hG1 : gg (G, Z) true = Z := rfl
  have hG0 : gg (G, G) false = G := rfl
  have zg8 : G.1 8 = Y.1 8 := by rw [hg1]
  have hA : calm C0 b0 L0 xs0 238 [.ref (gi C0 false), .ref (gi C0 true), .int (Int32.ofInt x)] ((Y, Y), n) = evm C0 b0 L0 xs0 238 (126, r238_L C0 x (Y.1 2) f (um Y.1 f (1 : Int).toNat) (um Y.1 f (2 : Int).toNat) (um Y.1 f (3 : Int).toNat) (Y.1 8) 0 0 none none none none none, []) ((Z, Z), n) := by
    unfold r238_L
    rw [M_238]
    simp (disch := omega) only [Int.reduceAdd, Int.reduceMul, Int.reduceSub, Int.reduceNeg, na_add, na_sub, na_mul, na_neg, na_lt, na_le, na_eq, na_ofNat, bo_some, tl_some, tl_none, rc_int, rc_ref, rc_null, rc_none, rc_long, tb_0, tb_1, ↓mr_g0, mr_r0, mr_get, mr_upd, mr_at, mr_wr, Classical.not_not, not_true_eq_false, not_false_eq_true, na_l0, na_l1, na_l2, na_l3, na_l4, na_l5, na_l6, na_l7, na_l8, na_l9, na_l10, na_l14, na_l15, na_l16, na_l25, na_l30, na_l31, na_l32, na_l33, na_l39, na_l43, na_l45, na_l48, na_l49, na_l50, na_l51, na_l52, na_l53, na_l55, na_l56, na_l57, na_l60, na_l64, na_l71, na_l80, na_l96, na_l100, na_l101, na_l102, na_l103, na_l104, na_l105, na_l106, na_l107, na_l108, na_l109, na_l110, na_l111, na_l112, na_l113, na_l114, na_l115, na_l116, na_l117, na_l118, na_l119, na_l120, na_l121, na_l125, na_l128, na_l150, na_l192, na_l255, na_l999, na_l1000, na_l1248, na_l1344, na_l1875, na_l10000, ↓reduceIte, pf_and, pe_le, pf_le, pe_lt, pf_lt, pe_eq, pf_eq, true_and, and_true, false_and, and_false, true_or, or_true, false_or, or_false, ln_some, lb_0, lb_1, na_div, na_rem, Nat.add_assoc, Nat.reduceAdd, L_238_0, L_238_1, L_238_2, L_238_3, L_238_4, L_238_5, L_238_6, M_231, L_231_0, nA_0, nA_1, nA_2, nA_3, nA_4, nA_5, nA_6, nA_7, nA_8, nA_9, nA_10, nP_0, nP_1, nP_2, nP_3, nW_0, nW_1, nW_2, nW_3, nW_4, nW_5, nW_6, nW_7, nF_0, nF_1, nF_2, nF_3, nF_4, nF_5, cv_113 h0 hk, cv_114 h0 hk, cv_115 h0 hk, cv_116 h0 hk, cv_117 h0 hk, cv_127 h0 hk, cv_128 h0 hk, cv_129 h0 hk, cv_130 h0 hk, cv_113 hZY hkZ, cv_114 hZY hkZ, cv_115 hZY hkZ, cv_116 hZY hkZ, cv_117 hZY hkZ, cv_127 hZY hkZ, cv_128 hZY hkZ, cv_129 hZY hkZ, cv_130 hZY hkZ, cv_125 h0 hk, cv_125 h1 hk, gz_f, gz_t, Int.add_sub_cancel, eq_self, ite_true, if_true, hZ, hxf, zf]
  obtain ⟨a12, a13, a14, a15, a16, hB⟩ := r238_w (C0 := C0) (b0 := b0) (L0 := L0) (xs0 := xs0) (n := n) (x := x) (fr := Y.1 2) (one := um Y.1 f (1 : Int).toNat) (two := um Y.1 f (2 : Int).toNat) (three := um Y.1 f (3 : Int).toNat) (free := Y.1 8) (a12 := none) (a13 := none) (a14 := none) (a15 := none) (a16 := none) hZ0 hkZ hZG.i f0 (by omega) z8
  rw [hA, hB, u8]
  show evm C0 b0 L0 xs0 238 (126, r238_L C0 x (Y.1 2) f (um Y.1 f (1 : Int).toNat) (um Y.1 f (2 : Int).toNat) (um Y.1 f (3 : Int).toNat) (Y.1 8) (um Y.1 f (1 : Int).toNat) (2 + Z.1 1) a12 a13 a14 a15 a16, []) ((Z, Z), n) = _
  unfold r238_L
  rw [G_238_126]
  simp (disch := omega) only [Int.reduceAdd, Int.reduceMul, Int.reduceSub, Int.reduceNeg, na_add, na_sub, na_mul, na_neg, na_lt, na_le, na_eq, na_ofNat, bo_some, tl_some, tl_none, rc_int, rc_ref, rc_null, rc_none, rc_long, tb_0, tb_1, ↓mr_g0, mr_r0, mr_get, mr_upd, mr_at, mr_wr, Classical.not_not, not_true_eq_false, not_false_eq_true, na_l0, na_l1, na_l2, na_l3, na_l4, na_l5, na_l6, na_l7, na_l8, na_l9, na_l10, na_l14, na_l15, na_l16, na_l25, na_l30, na_l31, na_l32, na_l33, na_l39, na_l43, na_l45, na_l48, na_l49, na_l50, na_l51, na_l52, na_l53, na_l55, na_l56, na_l57, na_l60, na_l64, na_l71, na_l80, na_l96, na_l100, na_l101, na_l102, na_l103, na_l104, na_l105, na_l106, na_l107, na_l108, na_l109, na_l110, na_l111, na_l112, na_l113, na_l114, na_l115, na_l116, na_l117, na_l118, na_l119, na_l120, na_l121, na_l125, na_l128, na_l150, na_l192, na_l255, na_l999, na_l1000, na_l1248, na_l1344, na_l1875, na_l10000, ↓reduceIte, pf_and, pe_le, pf_le, pe_lt, pf_lt, pe_eq, pf_eq, true_and, and_true, false_and, and_false, true_or, or_true, false_or, or_false, ln_some, lb_0, lb_1, na_div, na_rem, Nat.add_assoc, Nat.reduceAdd, L_238_0, L_238_1, L_238_2, L_238_3, L_238_4, L_238_5, L_238_6, M_231, L_231_0, nA_0, nA_1, nA_2, nA_3, nA_4, nA_5, nA_6, nA_7, nA_8, nA_9, nA_10, nP_0, nP_1, nP_2, nP_3, nW_0, nW_1, nW_2, nW_3, nW_4, nW_5, nW_6, nW_7, nF_0, nF_1, nF_2, nF_3, nF_4, nF_5, cv_113 hZ0 hkZ, cv_114 hZ0 hkZ, cv_115 hZ0 hkZ, cv_116 hZ0 hkZ, cv_117 hZ0 hkZ, cv_127 hZ0 hkZ, cv_128 hZ0 hkZ, cv_129 hZ0 hkZ, cv_130 hZ0 hkZ, cv_113 hG0 hkG, cv_114 hG0 hkG, cv_115 hG0 hkG, cv_116 hG0 hkG, cv_117 hG0 hkG, cv_127 hG0 hkG, cv_128 hG0 hkG, cv_129 hG0 hkG, cv_130 hG0 hkG, cv_126 hZ0 hkZ, cv_126 hG1 hkZ, gz_f, gz_t, Int.add_sub_cancel, eq_self, ite_true, if_true, hgu, hg1]
theorem r238 {x : Int} (hG : gG K Y) (hK : K + 20 ≤ 100000) (x0 : 0 ≤ x) (x1 : x < 2147483648) (h : ¬ Y.1 2 = 0) : calm C0 b0 L0 xs0 238 [.ref (gi C0 false), .ref (gi C0 true), .int (Int32.ofInt x)] ((Y, Y), n) = some (.int (Int32.ofInt 1), ((gz1 Y, gz1 Y), n)) := by
  have hc := hG.i.c
  exact r238_1 hG hK x0 x1 rfl (Int.emod_nonneg _ (by omega)) (Int.emod_lt_of_pos _ (by omega))
end EATS2
