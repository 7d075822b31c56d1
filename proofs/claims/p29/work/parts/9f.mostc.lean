/-! Most flies of the class: the call. -/
section CSB
variable {C : Nat} {V : mr_R} {PR PZ X : Nat → mr_R} {σ : ri_S} {K : Int}
theorem c142f {X : Nat → mr_R} : cal 142 [.ref (C + 3 + 7), .ref (C + 323)] (cs C V PR PZ X σ) = some (none, cs C V PR PZ (ms_a X 10 (mc_cp (mp_y (PR 0) (PZ 0)) 0 (X 10) 0 15)) σ) := by
  have x7 : (cs C V PR PZ X σ).1 (C + 3 + 7) = some (.inl (0, 15, mr_ar (mp_y (PR 0) (PZ 0)))) := by
    have e := mpx_7 (B := C + 3) (R := PR 0) (Z := PZ 0) (σ := cs C V PR PZ X σ)
    rw [cm_0] at e
    exact e
  have ec : va_cpy (mr_ar (mp_y (PR 0) (PZ 0))) (mr_ar (X 10)) 0 0 15 = mr_ar (mc_cp (mp_y (PR 0) (PZ 0)) 0 (X 10) 0 15) := by
    funext j
    unfold va_cpy mr_ar mc_cp
    by_cases q : j < 15
    · rw [if_pos ⟨by omega, by omega⟩, if_pos (by omega), show ((0 + (j - 0) : Nat) : Int) = 0 + ((j : Int) - 0) by omega]
    · rw [if_neg (by omega), if_neg (by omega)]
  have ea := csa_323 (C := C) (V := V) (PR := PR) (PZ := PZ) (X := X) (σ := σ) (Y := mc_cp (mp_y (PR 0) (PZ 0)) 0 (X 10) 0 15)
  rw [E_142]
  simp (disch := omega) only [Int.reduceAdd, Int.reduceMul, Int.reduceSub, Int.reduceNeg, na_add, na_sub, na_mul, na_neg, na_lt, na_le, na_eq, na_ofNat, bo_some, tl_some, tl_none, rc_int, rc_ref, rc_null, rc_none, rc_long, tb_0, tb_1, ↓mr_g0, mr_r0, mr_get, mr_upd, mr_at, mr_wr, Classical.not_not, not_true_eq_false, not_false_eq_true, na_l0, na_l1, na_l2, na_l3, na_l4, na_l5, na_l6, na_l7, na_l8, na_l9, na_l10, na_l14, na_l15, na_l16, na_l25, na_l30, na_l31, na_l32, na_l33, na_l39, na_l43, na_l45, na_l48, na_l49, na_l50, na_l51, na_l52, na_l53, na_l55, na_l56, na_l57, na_l60, na_l64, na_l71, na_l80, na_l96, na_l100, na_l101, na_l102, na_l103, na_l104, na_l105, na_l106, na_l107, na_l108, na_l109, na_l110, na_l111, na_l112, na_l113, na_l114, na_l115, na_l116, na_l117, na_l118, na_l119, na_l120, na_l121, na_l125, na_l128, na_l150, na_l192, na_l255, na_l999, na_l1000, na_l1248, na_l1344, na_l1875, na_l10000, ↓reduceIte, pf_and, pe_le, pf_le, pe_lt, pf_lt, pe_eq, pf_eq, true_and, and_true, false_and, and_false, true_or, or_true, false_or, or_false, I_142, x7, csx_323, tv_n0, tvc0, ec, ea]
theorem mp_yok {Y : mr_R} (hi : mi K (PR 0)) : be_Y (PR 0) (mc_cp (mp_y (PR 0) (PZ 0)) 0 Y 0 15) ∧ ∀ a, be_ok (PR 0) a → (mc_cp (mp_y (PR 0) (PZ 0)) 0 Y 0 15) a = PR 0 (9 + 10 * (a / 5) + 5 + a % 5) := by
  have hc := hi.c
  have key : ∀ a, be_ok (PR 0) a → (mc_cp (mp_y (PR 0) (PZ 0)) 0 Y 0 15) a = PR 0 (9 + 10 * (a / 5) + 5 + a % 5) := by
    intro a ha
    unfold be_ok at ha
    unfold mc_cp
    rw [if_pos (by omega), show 0 + (a - 0) = a / 5 * 5 + a % 5 by omega]
    exact mpl_y ha.2.2 (by omega) (by omega)
  refine ⟨fun a ha => ?_, key⟩
  rw [key a ha]
  have hy := hi.y (w := a / 5) (k := a % 5) (by unfold be_ok at ha; omega) ha.2.2 (by omega) (by omega)
  omega
theorem c130 {f n : Int} (hi : mi K (PR 0)) (h1 : 0 ≤ f) (h2 : f < PR 0 2) (n1 : 1 ≤ n) (n2 : n ≤ 4) : ∃ r X0 Y, sb_I (PR 0) f X0 ∧ sb_ch X X0 ∧ be_M (sn_x X0) (sn_w X0) (X0 5) n.toNat (sg_n (PR 0) f) Y r ∧ (∀ a, be_ok (PR 0) a → Y a = PR 0 (9 + 10 * (a / 5) + 5 + a % 5)) ∧ (0 ≤ r ∧ r ≤ 36) ∧ cal 130 [.ref C, .int (Int32.ofInt f), .int (Int32.ofInt n)] (cs C V PR PZ X σ) = some (some (.int (Int32.ofInt r)), cs C (mr_st V 3 (sg_n (PR 0) f)) PR PZ (ms_a X0 10 Y) σ) := by
  have hc := hi.c
  obtain ⟨X0, a1, a2, a3⟩ := c57 (C := C) (V := V) (PZ := PZ) (σ := σ) (X := X) hi h1 h2
  have hn := sn_now hi h1 h2 a2
  have hy := mp_yok (PZ := PZ) (Y := X0 10) hi
  obtain ⟨Y, hYd⟩ : ∃ Y, mc_cp (mp_y (PR 0) (PZ 0)) 0 (X0 10) 0 15 = Y := ⟨_, rfl⟩
  have e142 := c142f (C := C) (V := mr_st V 3 (sg_n (PR 0) f)) (PR := PR) (PZ := PZ) (X := X0) (σ := σ)
  rw [hYd] at hy e142
  have l73 := c73 (C := C) (V := mr_st V 3 (sg_n (PR 0) f)) (PR := PR) (PZ := PZ) (σ := σ) (R := PR 0) (X := X0)
  obtain ⟨r, r1, r2, r3⟩ := c77 hi a2 (c76 hi a2 (c75 hi a2 (c74 hi a2 l73))) (sg_n (PR 0) f) Y n hn.1.1 hn.1.2 hy.1 (by omega) n2
  have e1 := c1 (B := C + 3) (R := PR 0) (Z := PZ 0) (σ := cs C V PR PZ X σ) (w := f) (by omega) (by omega) (by omega)
  rw [if_pos ⟨h1, h2⟩, cm_0] at e1
  have v3 : mr_st V 3 (sg_n (PR 0) f) 3 = sg_n (PR 0) f := ms_eq rfl
  have e72 : cal 72 [.ref (C + 314), .ref (C + 3), .int (Int32.ofInt n)] (cs C (mr_st V 3 (sg_n (PR 0) f)) PR PZ X0 σ) = some (some (.int (Int32.ofInt r)), cs C (mr_st V 3 (sg_n (PR 0) f)) PR PZ (ms_a X0 10 Y) σ) := by
    rw [E_72]
    simp (disch := omega) only [Int.reduceAdd, Int.reduceMul, Int.reduceSub, Int.reduceNeg, na_add, na_sub, na_mul, na_neg, na_lt, na_le, na_eq, na_ofNat, bo_some, tl_some, tl_none, rc_int, rc_ref, rc_null, rc_none, rc_long, tb_0, tb_1, ↓mr_g0, mr_r0, mr_get, mr_upd, mr_at, mr_wr, Classical.not_not, not_true_eq_false, not_false_eq_true, na_l0, na_l1, na_l2, na_l3, na_l4, na_l5, na_l6, na_l7, na_l8, na_l9, na_l10, na_l14, na_l15, na_l16, na_l25, na_l30, na_l31, na_l32, na_l33, na_l39, na_l43, na_l45, na_l48, na_l49, na_l50, na_l51, na_l52, na_l53, na_l55, na_l56, na_l57, na_l60, na_l64, na_l71, na_l80, na_l96, na_l100, na_l101, na_l102, na_l103, na_l104, na_l105, na_l106, na_l107, na_l108, na_l109, na_l110, na_l111, na_l112, na_l113, na_l114, na_l115, na_l116, na_l117, na_l118, na_l119, na_l120, na_l121, na_l125, na_l128, na_l150, na_l192, na_l255, na_l999, na_l1000, na_l1248, na_l1344, na_l1875, na_l10000, ↓reduceIte, pf_and, pe_le, pf_le, pe_lt, pf_lt, pe_eq, pf_eq, true_and, and_true, false_and, and_false, true_or, or_true, false_or, or_false, ↓csk_0, ↓cso_0_0, ↓cso_0_1, ↓cso_0_2, ↓cso_0_3, ↓cso_0_4, ↓cso_0_5, ↓csk_1, ↓cso_1_0, ↓cso_1_1, ↓csk_37, ↓cso_37_0, ↓cso_37_1, ↓cso_37_2, ↓csk_277, ↓cso_277_0, ↓cso_277_1, ↓csk_314, ↓cso_314_0, ↓cso_314_1, ↓cso_314_2, ↓cso_314_3, ↓cso_314_4, ↓cso_314_5, ↓cso_314_6, ↓cso_314_7, ↓cso_314_8, ↓cso_314_9, ↓csg_2, ↓csn_2, ↓csg_279, ↓csn_279, ↓csg_315, ↓csn_315, ↓csg_316, ↓csn_316, ↓csg_317, ↓csn_317, ↓csg_318, ↓csn_318, ↓csg_319, ↓csn_319, ↓csg_320, ↓csn_320, ↓csg_321, ↓csn_321, ↓csg_322, ↓csn_322, ↓csg_323, ↓csn_323, ↓csq_38, ↓csm_38, ↓csq_278, ↓csm_278, ↓cpk0_0, ↓cpk0_1, ↓cpk0_8, ↓cpk0_11, ↓cpo0_0, ↓cpo0_1, ↓cpo0_2, ↓cpo0_3, ↓cpo0_4, ↓cpo0_5, ↓cpo0_6, ↓cpo0_7, ↓cpo0_8, ↓cpk1_0, ↓cpk1_1, ↓cpk1_8, ↓cpk1_11, ↓cpo1_0, ↓cpo1_1, ↓cpo1_2, ↓cpo1_3, ↓cpo1_4, ↓cpo1_5, ↓cpo1_6, ↓cpo1_7, ↓cpo1_8, r140_315, r140_316, r140_317, r140_318, r140_319, r140_320, r140_321, r140_322, r140_323, s140_2, s140_3, s140_4, s140_5, s140_6, s140_7, s140_9, s140_10, s140_12, s140_13, s140_14, ↓spo_1_0, ↓spo_1_1, ↓spo_1_2, ↓spo_1_3, ↓spo_1_4, ↓spo_1_5, ↓spo_1_6, ↓spo_8_0, ↓spo_8_1, ↓spo_8_2, ↓spo_11_0, ↓spo_11_1, ↓spo_11_2, ↓spo_11_3, ↓spo_11_4, ↓spo_11_5, I_72, e142, v3, r3]
  refine ⟨r, X0, Y, a2, a1, r1, hy.2, by omega, ?_⟩
  rw [E_130]
  simp (disch := omega) only [Int.reduceAdd, Int.reduceMul, Int.reduceSub, Int.reduceNeg, na_add, na_sub, na_mul, na_neg, na_lt, na_le, na_eq, na_ofNat, bo_some, tl_some, tl_none, rc_int, rc_ref, rc_null, rc_none, rc_long, tb_0, tb_1, ↓mr_g0, mr_r0, mr_get, mr_upd, mr_at, mr_wr, Classical.not_not, not_true_eq_false, not_false_eq_true, na_l0, na_l1, na_l2, na_l3, na_l4, na_l5, na_l6, na_l7, na_l8, na_l9, na_l10, na_l14, na_l15, na_l16, na_l25, na_l30, na_l31, na_l32, na_l33, na_l39, na_l43, na_l45, na_l48, na_l49, na_l50, na_l51, na_l52, na_l53, na_l55, na_l56, na_l57, na_l60, na_l64, na_l71, na_l80, na_l96, na_l100, na_l101, na_l102, na_l103, na_l104, na_l105, na_l106, na_l107, na_l108, na_l109, na_l110, na_l111, na_l112, na_l113, na_l114, na_l115, na_l116, na_l117, na_l118, na_l119, na_l120, na_l121, na_l125, na_l128, na_l150, na_l192, na_l255, na_l999, na_l1000, na_l1248, na_l1344, na_l1875, na_l10000, ↓reduceIte, pf_and, pe_le, pf_le, pe_lt, pf_lt, pe_eq, pf_eq, true_and, and_true, false_and, and_false, true_or, or_true, false_or, or_false, ↓csk_0, ↓cso_0_0, ↓cso_0_1, ↓cso_0_2, ↓cso_0_3, ↓cso_0_4, ↓cso_0_5, ↓csk_1, ↓cso_1_0, ↓cso_1_1, ↓csk_37, ↓cso_37_0, ↓cso_37_1, ↓cso_37_2, ↓csk_277, ↓cso_277_0, ↓cso_277_1, ↓csk_314, ↓cso_314_0, ↓cso_314_1, ↓cso_314_2, ↓cso_314_3, ↓cso_314_4, ↓cso_314_5, ↓cso_314_6, ↓cso_314_7, ↓cso_314_8, ↓cso_314_9, ↓csg_2, ↓csn_2, ↓csg_279, ↓csn_279, ↓csg_315, ↓csn_315, ↓csg_316, ↓csn_316, ↓csg_317, ↓csn_317, ↓csg_318, ↓csn_318, ↓csg_319, ↓csn_319, ↓csg_320, ↓csn_320, ↓csg_321, ↓csn_321, ↓csg_322, ↓csn_322, ↓csg_323, ↓csn_323, ↓csq_38, ↓csm_38, ↓csq_278, ↓csm_278, ↓cpk0_0, ↓cpk0_1, ↓cpk0_8, ↓cpk0_11, ↓cpo0_0, ↓cpo0_1, ↓cpo0_2, ↓cpo0_3, ↓cpo0_4, ↓cpo0_5, ↓cpo0_6, ↓cpo0_7, ↓cpo0_8, ↓cpk1_0, ↓cpk1_1, ↓cpk1_8, ↓cpk1_11, ↓cpo1_0, ↓cpo1_1, ↓cpo1_2, ↓cpo1_3, ↓cpo1_4, ↓cpo1_5, ↓cpo1_6, ↓cpo1_7, ↓cpo1_8, I_130, c137, c136, c135, e1, a3, e72]
end CSB
