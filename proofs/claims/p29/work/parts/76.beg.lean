/-! What a search begins with. -/
def sg_T (R : mr_R) : Int := ((if 0 < R 0 then R (9 + 10 * 0 + 3) else 0) * 25 + (if 1 < R 0 then R (9 + 10 * 1 + 3) else 0) * 5) + (if 2 < R 0 then R (9 + 10 * 2 + 3) else 0)
theorem sg_T_bd {K : Int} {R : mr_R} (hi : mi K R) : 0 ≤ sg_T R ∧ sg_T R < 125 ∧ ∀ w, 0 ≤ w → w < 3 → sg_t (sg_T R) w = if w < R 0 then R (9 + 10 * w + 3) else 0 := by
  have hc := hi.c
  have k0 : 0 < R 0 → 0 ≤ R (9 + 10 * 0 + 3) ∧ R (9 + 10 * 0 + 3) < 5 := fun h => by have := hi.w (w := 0) (by omega) h; omega
  have k1 : 1 < R 0 → 0 ≤ R (9 + 10 * 1 + 3) ∧ R (9 + 10 * 1 + 3) < 5 := fun h => by have := hi.w (w := 1) (by omega) h; omega
  have k2 : 2 < R 0 → 0 ≤ R (9 + 10 * 2 + 3) ∧ R (9 + 10 * 2 + 3) < 5 := fun h => by have := hi.w (w := 2) (by omega) h; omega
  unfold sg_T
  have a0 : 0 ≤ (if 0 < R 0 then R (9 + 10 * 0 + 3) else 0) ∧ (if 0 < R 0 then R (9 + 10 * 0 + 3) else 0) < 5 := by split <;> omega
  have a1 : 0 ≤ (if 1 < R 0 then R (9 + 10 * 1 + 3) else 0) ∧ (if 1 < R 0 then R (9 + 10 * 1 + 3) else 0) < 5 := by split <;> omega
  have a2 : 0 ≤ (if 2 < R 0 then R (9 + 10 * 2 + 3) else 0) ∧ (if 2 < R 0 then R (9 + 10 * 2 + 3) else 0) < 5 := by split <;> omega
  refine ⟨by omega, by omega, fun w h1 h2 => ?_⟩
  have e : w = 0 ∨ w = 1 ∨ w = 2 := by omega
  rcases e with e | e | e
  · rw [e]
    generalize (if 0 < R 0 then R (9 + 10 * 0 + 3) else 0) = x0 at *
    generalize (if 1 < R 0 then R (9 + 10 * 1 + 3) else 0) = x1 at *
    generalize (if 2 < R 0 then R (9 + 10 * 2 + 3) else 0) = x2 at *
    unfold sg_t
    rw [if_pos rfl]
    omega
  · rw [e]
    generalize (if 0 < R 0 then R (9 + 10 * 0 + 3) else 0) = x0 at *
    generalize (if 1 < R 0 then R (9 + 10 * 1 + 3) else 0) = x1 at *
    generalize (if 2 < R 0 then R (9 + 10 * 2 + 3) else 0) = x2 at *
    unfold sg_t
    rw [if_neg (by omega), if_pos rfl]
    omega
  · rw [e]
    generalize (if 0 < R 0 then R (9 + 10 * 0 + 3) else 0) = x0 at *
    generalize (if 1 < R 0 then R (9 + 10 * 1 + 3) else 0) = x1 at *
    generalize (if 2 < R 0 then R (9 + 10 * 2 + 3) else 0) = x2 at *
    unfold sg_t
    rw [if_neg (by omega), if_neg (by omega)]
    omega
/-- what stands in the rows of a search for the frog f -/
def sb_I (R : mr_R) (f : Int) (X : Nat → mr_R) : Prop :=
  sy_J R (R 1) X ∧ st_I R f 3 X ∧ (∀ a, 0 ≤ a → a < 15 → X 4 a = sk_v R f a) ∧ (∀ s, 0 ≤ s → s < 1875 → X 5 s = sp_v R X (s / 15) (s % 15 / 5) (s % 5))
/-- what a search leaves -/
def sb_ch (X X2 : Nat → mr_R) : Prop := X2 0 = X 0 ∧ X2 1 = X 1
def sg_n (R : mr_R) (f : Int) : Int := sg_T R * 15 + (R (71 + 5 * f + 1) * 5 + mf_place R f)
section CSB
variable {C : Nat} {V : mr_R} {PR PZ : Nat → mr_R} {σ : ri_S} {K : Int}
theorem h57 {f : Int} {X : Nat → mr_R} (hi : mi K (PR 0)) (hx : ∀ a, 0 ≤ a → a < 15 → X 3 a = 0 ∨ X 3 a = 1) (hx4 : ∀ a, 0 ≤ a → a < 15 → X 4 a = 0 ∨ X 4 a = 1) : ∀ (m : Nat) (T : Int), 0 ≤ T → T + m = 125 → ev 57 (19, [some (.ref (C + 314)), some (.ref (C + 3)), some (.int (Int32.ofInt f)), some (.int (Int32.ofInt T)), none], []) (cs C V PR PZ (ms_a X 5 (sp_T (PR 0) X (T * 15) (X 5))) σ) = ev 57 (45, [some (.ref (C + 314)), some (.ref (C + 3)), some (.int (Int32.ofInt f)), some (.int (Int32.ofInt 0)), some (.int (Int32.ofInt 0))], []) (cs C V PR PZ (ms_a X 5 (sp_T (PR 0) X 1875 (X 5))) σ) := by
  intro m
  induction m with
  | zero =>
    intro T h5 h6
    obtain rfl : T = 125 := by omega
    rw [H_57_19]
    simp (disch := omega) only [Int.reduceAdd, Int.reduceMul, Int.reduceSub, Int.reduceNeg, na_add, na_sub, na_mul, na_neg, na_lt, na_le, na_eq, na_ofNat, bo_some, tl_some, tl_none, rc_int, rc_ref, rc_null, rc_none, rc_long, tb_0, tb_1, ↓mr_g0, mr_r0, mr_get, mr_upd, mr_at, mr_wr, Classical.not_not, not_true_eq_false, not_false_eq_true, na_l0, na_l1, na_l2, na_l3, na_l4, na_l5, na_l6, na_l7, na_l8, na_l9, na_l10, na_l14, na_l15, na_l16, na_l25, na_l30, na_l31, na_l32, na_l33, na_l39, na_l43, na_l45, na_l48, na_l49, na_l50, na_l51, na_l52, na_l53, na_l55, na_l56, na_l57, na_l60, na_l64, na_l71, na_l80, na_l96, na_l100, na_l101, na_l102, na_l103, na_l104, na_l105, na_l106, na_l107, na_l108, na_l109, na_l110, na_l111, na_l112, na_l113, na_l114, na_l115, na_l116, na_l117, na_l118, na_l119, na_l120, na_l121, na_l125, na_l128, na_l150, na_l192, na_l255, na_l999, na_l1000, na_l1248, na_l1344, na_l1875, na_l10000, ↓reduceIte, pf_and, pe_le, pf_le, pe_lt, pf_lt, pe_eq, pf_eq, true_and, and_true, false_and, and_false, true_or, or_true, false_or, or_false, I_57_0, I_57_1]
  | succ m ih =>
    intro T h5 h6
    have hn := ih (T + 1) (by omega) (by omega)
    rw [H_57_19]
    simp (disch := omega) only [Int.reduceAdd, Int.reduceMul, Int.reduceSub, Int.reduceNeg, na_add, na_sub, na_mul, na_neg, na_lt, na_le, na_eq, na_ofNat, bo_some, tl_some, tl_none, rc_int, rc_ref, rc_null, rc_none, rc_long, tb_0, tb_1, ↓mr_g0, mr_r0, mr_get, mr_upd, mr_at, mr_wr, Classical.not_not, not_true_eq_false, not_false_eq_true, na_l0, na_l1, na_l2, na_l3, na_l4, na_l5, na_l6, na_l7, na_l8, na_l9, na_l10, na_l14, na_l15, na_l16, na_l25, na_l30, na_l31, na_l32, na_l33, na_l39, na_l43, na_l45, na_l48, na_l49, na_l50, na_l51, na_l52, na_l53, na_l55, na_l56, na_l57, na_l60, na_l64, na_l71, na_l80, na_l96, na_l100, na_l101, na_l102, na_l103, na_l104, na_l105, na_l106, na_l107, na_l108, na_l109, na_l110, na_l111, na_l112, na_l113, na_l114, na_l115, na_l116, na_l117, na_l118, na_l119, na_l120, na_l121, na_l125, na_l128, na_l150, na_l192, na_l255, na_l999, na_l1000, na_l1248, na_l1344, na_l1875, na_l10000, ↓reduceIte, pf_and, pe_le, pf_le, pe_lt, pf_lt, pe_eq, pf_eq, true_and, and_true, false_and, and_false, true_or, or_true, false_or, or_false, ↓csk_0, ↓cso_0_0, ↓cso_0_1, ↓cso_0_2, ↓cso_0_3, ↓cso_0_4, ↓cso_0_5, ↓csk_1, ↓cso_1_0, ↓cso_1_1, ↓csk_37, ↓cso_37_0, ↓cso_37_1, ↓cso_37_2, ↓csk_277, ↓cso_277_0, ↓cso_277_1, ↓csk_314, ↓cso_314_0, ↓cso_314_1, ↓cso_314_2, ↓cso_314_3, ↓cso_314_4, ↓cso_314_5, ↓cso_314_6, ↓cso_314_7, ↓cso_314_8, ↓cso_314_9, ↓csg_2, ↓csn_2, ↓csg_279, ↓csn_279, ↓csg_315, ↓csn_315, ↓csg_316, ↓csn_316, ↓csg_317, ↓csn_317, ↓csg_318, ↓csn_318, ↓csg_319, ↓csn_319, ↓csg_320, ↓csn_320, ↓csg_321, ↓csn_321, ↓csg_322, ↓csn_322, ↓csg_323, ↓csn_323, ↓csq_38, ↓csm_38, ↓csq_278, ↓csm_278, ↓cpk0_0, ↓cpk0_1, ↓cpk0_8, ↓cpk0_11, ↓cpo0_0, ↓cpo0_1, ↓cpo0_2, ↓cpo0_3, ↓cpo0_4, ↓cpo0_5, ↓cpo0_6, ↓cpo0_7, ↓cpo0_8, ↓cpk1_0, ↓cpk1_1, ↓cpk1_8, ↓cpk1_11, ↓cpo1_0, ↓cpo1_1, ↓cpo1_2, ↓cpo1_3, ↓cpo1_4, ↓cpo1_5, ↓cpo1_6, ↓cpo1_7, ↓cpo1_8, r140_315, r140_316, r140_317, r140_318, r140_319, r140_320, r140_321, r140_322, r140_323, s140_2, s140_3, s140_4, s140_5, s140_6, s140_7, s140_9, s140_10, s140_12, s140_13, s140_14, ↓spo_1_0, ↓spo_1_1, ↓spo_1_2, ↓spo_1_3, ↓spo_1_4, ↓spo_1_5, ↓spo_1_6, ↓spo_8_0, ↓spo_8_1, ↓spo_8_2, ↓spo_11_0, ↓spo_11_1, ↓spo_11_2, ↓spo_11_3, ↓spo_11_4, ↓spo_11_5, I_57_0, I_57_1, c64 hi, hx, hx4, hn]
theorem h57b {f : Int} {X : Nat → mr_R} (hi : mi K (PR 0)) (h1 : 0 ≤ f) (h2 : f < PR 0 2) : ev 57 (45, [some (.ref (C + 314)), some (.ref (C + 3)), some (.int (Int32.ofInt f)), some (.int (Int32.ofInt 0)), some (.int (Int32.ofInt 0))], []) (cs C V PR PZ X σ) = some (none, cs C (mr_st V 3 (sg_n (PR 0) f)) PR PZ X σ) := by
  have hc := hi.c
  have hf := hi.f h1 h2
  have e38 := s38 (C := C) (V := V) (PZ := PZ) (X := X) (σ := σ) hi h1 h2
  unfold sg_n sg_T
  have e : PR 0 0 = 1 ∨ PR 0 0 = 2 ∨ PR 0 0 = 3 := by omega
  rcases e with e | e | e
  · rw [e]
    simp (disch := first | omega | (simp (disch := omega) only [ms_eq, ms_ne, mg_eat_of, mg_seat_of] <;> omega) | fail) only [Int.reduceAdd, Int.reduceMul, Int.reduceSub, Int.reduceNeg, na_add, na_sub, na_mul, na_neg, na_lt, na_le, na_eq, na_ofNat, bo_some, tl_some, tl_none, rc_int, rc_ref, rc_null, rc_none, rc_long, tb_0, tb_1, ↓mr_g0, mr_r0, mr_get, mr_upd, mr_at, mr_wr, Classical.not_not, not_true_eq_false, not_false_eq_true, na_l0, na_l1, na_l2, na_l3, na_l4, na_l5, na_l6, na_l7, na_l8, na_l9, na_l10, na_l14, na_l15, na_l16, na_l25, na_l30, na_l31, na_l32, na_l33, na_l39, na_l43, na_l45, na_l48, na_l49, na_l50, na_l51, na_l52, na_l53, na_l55, na_l56, na_l57, na_l60, na_l64, na_l71, na_l80, na_l96, na_l100, na_l101, na_l102, na_l103, na_l104, na_l105, na_l106, na_l107, na_l108, na_l109, na_l110, na_l111, na_l112, na_l113, na_l114, na_l115, na_l116, na_l117, na_l118, na_l119, na_l120, na_l121, na_l125, na_l128, na_l150, na_l192, na_l255, na_l999, na_l1000, na_l1248, na_l1344, na_l1875, na_l10000, ↓reduceIte, pf_and, pe_le, pf_le, pe_lt, pf_lt, pe_eq, pf_eq, true_and, and_true, false_and, and_false, true_or, or_true, false_or, or_false, ↓csk_0, ↓cso_0_0, ↓cso_0_1, ↓cso_0_2, ↓cso_0_3, ↓cso_0_4, ↓cso_0_5, ↓csk_1, ↓cso_1_0, ↓cso_1_1, ↓csk_37, ↓cso_37_0, ↓cso_37_1, ↓cso_37_2, ↓csk_277, ↓cso_277_0, ↓cso_277_1, ↓csk_314, ↓cso_314_0, ↓cso_314_1, ↓cso_314_2, ↓cso_314_3, ↓cso_314_4, ↓cso_314_5, ↓cso_314_6, ↓cso_314_7, ↓cso_314_8, ↓cso_314_9, ↓csg_2, ↓csn_2, ↓csg_279, ↓csn_279, ↓csg_315, ↓csn_315, ↓csg_316, ↓csn_316, ↓csg_317, ↓csn_317, ↓csg_318, ↓csn_318, ↓csg_319, ↓csn_319, ↓csg_320, ↓csn_320, ↓csg_321, ↓csn_321, ↓csg_322, ↓csn_322, ↓csg_323, ↓csn_323, ↓csq_38, ↓csm_38, ↓csq_278, ↓csm_278, ↓csv_1_1, ↓csv_37_1, ↓csv_37_2, ↓csv_314_9, csa_2, csa_279, csa_315, csa_316, csa_317, csa_318, csa_319, csa_320, csa_321, csa_322, csa_323, csu_1_1, csu_37_1, csu_37_2, csu_314_9, sa_eq, sa_ne, sa_up, ms_eq, ms_ne, ↓cpk0_0, ↓cpk0_1, ↓cpk0_8, ↓cpk0_11, ↓cpo0_0, ↓cpo0_1, ↓cpo0_2, ↓cpo0_3, ↓cpo0_4, ↓cpo0_5, ↓cpo0_6, ↓cpo0_7, ↓cpo0_8, ↓cpk1_0, ↓cpk1_1, ↓cpk1_8, ↓cpk1_11, ↓cpo1_0, ↓cpo1_1, ↓cpo1_2, ↓cpo1_3, ↓cpo1_4, ↓cpo1_5, ↓cpo1_6, ↓cpo1_7, ↓cpo1_8, r140_315, r140_316, r140_317, r140_318, r140_319, r140_320, r140_321, r140_322, r140_323, s140_2, s140_3, s140_4, s140_5, s140_6, s140_7, s140_9, s140_10, s140_12, s140_13, s140_14, ↓spo_1_0, ↓spo_1_1, ↓spo_1_2, ↓spo_1_3, ↓spo_1_4, ↓spo_1_5, ↓spo_1_6, ↓spo_8_0, ↓spo_8_1, ↓spo_8_2, ↓spo_11_0, ↓spo_11_1, ↓spo_11_2, ↓spo_11_3, ↓spo_11_4, ↓spo_11_5, I_57_0, I_57_1, H_57_45, c58, mpl_w, e38, e, sg_u]
    refine congrArg (fun t => some ((none : Option Value), cs C (mr_st V 3 (t * 15 + _)) PR PZ X σ)) ?_
    omega
  · rw [e]
    simp (disch := first | omega | (simp (disch := omega) only [ms_eq, ms_ne, mg_eat_of, mg_seat_of] <;> omega) | fail) only [Int.reduceAdd, Int.reduceMul, Int.reduceSub, Int.reduceNeg, na_add, na_sub, na_mul, na_neg, na_lt, na_le, na_eq, na_ofNat, bo_some, tl_some, tl_none, rc_int, rc_ref, rc_null, rc_none, rc_long, tb_0, tb_1, ↓mr_g0, mr_r0, mr_get, mr_upd, mr_at, mr_wr, Classical.not_not, not_true_eq_false, not_false_eq_true, na_l0, na_l1, na_l2, na_l3, na_l4, na_l5, na_l6, na_l7, na_l8, na_l9, na_l10, na_l14, na_l15, na_l16, na_l25, na_l30, na_l31, na_l32, na_l33, na_l39, na_l43, na_l45, na_l48, na_l49, na_l50, na_l51, na_l52, na_l53, na_l55, na_l56, na_l57, na_l60, na_l64, na_l71, na_l80, na_l96, na_l100, na_l101, na_l102, na_l103, na_l104, na_l105, na_l106, na_l107, na_l108, na_l109, na_l110, na_l111, na_l112, na_l113, na_l114, na_l115, na_l116, na_l117, na_l118, na_l119, na_l120, na_l121, na_l125, na_l128, na_l150, na_l192, na_l255, na_l999, na_l1000, na_l1248, na_l1344, na_l1875, na_l10000, ↓reduceIte, pf_and, pe_le, pf_le, pe_lt, pf_lt, pe_eq, pf_eq, true_and, and_true, false_and, and_false, true_or, or_true, false_or, or_false, ↓csk_0, ↓cso_0_0, ↓cso_0_1, ↓cso_0_2, ↓cso_0_3, ↓cso_0_4, ↓cso_0_5, ↓csk_1, ↓cso_1_0, ↓cso_1_1, ↓csk_37, ↓cso_37_0, ↓cso_37_1, ↓cso_37_2, ↓csk_277, ↓cso_277_0, ↓cso_277_1, ↓csk_314, ↓cso_314_0, ↓cso_314_1, ↓cso_314_2, ↓cso_314_3, ↓cso_314_4, ↓cso_314_5, ↓cso_314_6, ↓cso_314_7, ↓cso_314_8, ↓cso_314_9, ↓csg_2, ↓csn_2, ↓csg_279, ↓csn_279, ↓csg_315, ↓csn_315, ↓csg_316, ↓csn_316, ↓csg_317, ↓csn_317, ↓csg_318, ↓csn_318, ↓csg_319, ↓csn_319, ↓csg_320, ↓csn_320, ↓csg_321, ↓csn_321, ↓csg_322, ↓csn_322, ↓csg_323, ↓csn_323, ↓csq_38, ↓csm_38, ↓csq_278, ↓csm_278, ↓csv_1_1, ↓csv_37_1, ↓csv_37_2, ↓csv_314_9, csa_2, csa_279, csa_315, csa_316, csa_317, csa_318, csa_319, csa_320, csa_321, csa_322, csa_323, csu_1_1, csu_37_1, csu_37_2, csu_314_9, sa_eq, sa_ne, sa_up, ms_eq, ms_ne, ↓cpk0_0, ↓cpk0_1, ↓cpk0_8, ↓cpk0_11, ↓cpo0_0, ↓cpo0_1, ↓cpo0_2, ↓cpo0_3, ↓cpo0_4, ↓cpo0_5, ↓cpo0_6, ↓cpo0_7, ↓cpo0_8, ↓cpk1_0, ↓cpk1_1, ↓cpk1_8, ↓cpk1_11, ↓cpo1_0, ↓cpo1_1, ↓cpo1_2, ↓cpo1_3, ↓cpo1_4, ↓cpo1_5, ↓cpo1_6, ↓cpo1_7, ↓cpo1_8, r140_315, r140_316, r140_317, r140_318, r140_319, r140_320, r140_321, r140_322, r140_323, s140_2, s140_3, s140_4, s140_5, s140_6, s140_7, s140_9, s140_10, s140_12, s140_13, s140_14, ↓spo_1_0, ↓spo_1_1, ↓spo_1_2, ↓spo_1_3, ↓spo_1_4, ↓spo_1_5, ↓spo_1_6, ↓spo_8_0, ↓spo_8_1, ↓spo_8_2, ↓spo_11_0, ↓spo_11_1, ↓spo_11_2, ↓spo_11_3, ↓spo_11_4, ↓spo_11_5, I_57_0, I_57_1, H_57_45, c58, mpl_w, e38, e, sg_u]
    refine congrArg (fun t => some ((none : Option Value), cs C (mr_st V 3 (t * 15 + _)) PR PZ X σ)) ?_
    omega
  · rw [e]
    simp (disch := first | omega | (simp (disch := omega) only [ms_eq, ms_ne, mg_eat_of, mg_seat_of] <;> omega) | fail) only [Int.reduceAdd, Int.reduceMul, Int.reduceSub, Int.reduceNeg, na_add, na_sub, na_mul, na_neg, na_lt, na_le, na_eq, na_ofNat, bo_some, tl_some, tl_none, rc_int, rc_ref, rc_null, rc_none, rc_long, tb_0, tb_1, ↓mr_g0, mr_r0, mr_get, mr_upd, mr_at, mr_wr, Classical.not_not, not_true_eq_false, not_false_eq_true, na_l0, na_l1, na_l2, na_l3, na_l4, na_l5, na_l6, na_l7, na_l8, na_l9, na_l10, na_l14, na_l15, na_l16, na_l25, na_l30, na_l31, na_l32, na_l33, na_l39, na_l43, na_l45, na_l48, na_l49, na_l50, na_l51, na_l52, na_l53, na_l55, na_l56, na_l57, na_l60, na_l64, na_l71, na_l80, na_l96, na_l100, na_l101, na_l102, na_l103, na_l104, na_l105, na_l106, na_l107, na_l108, na_l109, na_l110, na_l111, na_l112, na_l113, na_l114, na_l115, na_l116, na_l117, na_l118, na_l119, na_l120, na_l121, na_l125, na_l128, na_l150, na_l192, na_l255, na_l999, na_l1000, na_l1248, na_l1344, na_l1875, na_l10000, ↓reduceIte, pf_and, pe_le, pf_le, pe_lt, pf_lt, pe_eq, pf_eq, true_and, and_true, false_and, and_false, true_or, or_true, false_or, or_false, ↓csk_0, ↓cso_0_0, ↓cso_0_1, ↓cso_0_2, ↓cso_0_3, ↓cso_0_4, ↓cso_0_5, ↓csk_1, ↓cso_1_0, ↓cso_1_1, ↓csk_37, ↓cso_37_0, ↓cso_37_1, ↓cso_37_2, ↓csk_277, ↓cso_277_0, ↓cso_277_1, ↓csk_314, ↓cso_314_0, ↓cso_314_1, ↓cso_314_2, ↓cso_314_3, ↓cso_314_4, ↓cso_314_5, ↓cso_314_6, ↓cso_314_7, ↓cso_314_8, ↓cso_314_9, ↓csg_2, ↓csn_2, ↓csg_279, ↓csn_279, ↓csg_315, ↓csn_315, ↓csg_316, ↓csn_316, ↓csg_317, ↓csn_317, ↓csg_318, ↓csn_318, ↓csg_319, ↓csn_319, ↓csg_320, ↓csn_320, ↓csg_321, ↓csn_321, ↓csg_322, ↓csn_322, ↓csg_323, ↓csn_323, ↓csq_38, ↓csm_38, ↓csq_278, ↓csm_278, ↓csv_1_1, ↓csv_37_1, ↓csv_37_2, ↓csv_314_9, csa_2, csa_279, csa_315, csa_316, csa_317, csa_318, csa_319, csa_320, csa_321, csa_322, csa_323, csu_1_1, csu_37_1, csu_37_2, csu_314_9, sa_eq, sa_ne, sa_up, ms_eq, ms_ne, ↓cpk0_0, ↓cpk0_1, ↓cpk0_8, ↓cpk0_11, ↓cpo0_0, ↓cpo0_1, ↓cpo0_2, ↓cpo0_3, ↓cpo0_4, ↓cpo0_5, ↓cpo0_6, ↓cpo0_7, ↓cpo0_8, ↓cpk1_0, ↓cpk1_1, ↓cpk1_8, ↓cpk1_11, ↓cpo1_0, ↓cpo1_1, ↓cpo1_2, ↓cpo1_3, ↓cpo1_4, ↓cpo1_5, ↓cpo1_6, ↓cpo1_7, ↓cpo1_8, r140_315, r140_316, r140_317, r140_318, r140_319, r140_320, r140_321, r140_322, r140_323, s140_2, s140_3, s140_4, s140_5, s140_6, s140_7, s140_9, s140_10, s140_12, s140_13, s140_14, ↓spo_1_0, ↓spo_1_1, ↓spo_1_2, ↓spo_1_3, ↓spo_1_4, ↓spo_1_5, ↓spo_1_6, ↓spo_8_0, ↓spo_8_1, ↓spo_8_2, ↓spo_11_0, ↓spo_11_1, ↓spo_11_2, ↓spo_11_3, ↓spo_11_4, ↓spo_11_5, I_57_0, I_57_1, H_57_45, c58, mpl_w, e38, e, sg_u]
    refine congrArg (fun t => some ((none : Option Value), cs C (mr_st V 3 (t * 15 + _)) PR PZ X σ)) ?_
    omega
theorem sy_cg {R : mr_R} {l : Int} {X X2 : Nat → mr_R} (h6 : X2 6 = X 6) (h7 : X2 7 = X 7) (h : sy_J R l X) : sy_J R l X2 := by
  unfold sy_J sw_ok sw_in at h ⊢
  rw [h6, h7]
  exact h
theorem st_cg {R : mr_R} {f w : Int} {X X2 : Nat → mr_R} (h2 : X2 2 = X 2) (h3 : X2 3 = X 3) (h : st_I R f w X) : st_I R f w X2 := by
  unfold st_I at h ⊢
  rw [h2, h3]
  exact h
theorem sp_cg {R : mr_R} {X X2 : Nat → mr_R} {T w p : Int} (h3 : X2 3 = X 3) (h4 : X2 4 = X 4) : sp_v R X2 T w p = sp_v R X T w p := by
  unfold sp_v sc_T
  rw [h3, h4]
theorem c57 {f : Int} {X : Nat → mr_R} (hi : mi K (PR 0)) (h1 : 0 ≤ f) (h2 : f < PR 0 2) : ∃ X2, sb_ch X X2 ∧ sb_I (PR 0) f X2 ∧ cal 57 [.ref (C + 314), .ref (C + 3), .int (Int32.ofInt f)] (cs C V PR PZ X σ) = some (none, cs C (mr_st V 3 (sg_n (PR 0) f)) PR PZ X2 σ) := by
  have hc := hi.c
  obtain ⟨X1, a1, a2, a3⟩ := c60 (C := C) (V := V) (PZ := PZ) (σ := σ) (X := X) hi
  obtain ⟨X2, b1, b2, b3⟩ := c62 (C := C) (V := V) (PZ := PZ) (σ := σ) (X := X1) hi (show 0 ≤ f ∧ f < 5 by omega)
  have c3 := c63 (C := C) (V := V) (PZ := PZ) (σ := σ) (X := X2) hi (show 0 ≤ f ∧ f < 5 by omega)
  obtain ⟨X3, hX3⟩ : ∃ X3, X3 = ms_a X2 4 (sk_T (PR 0) f 15 (X2 4)) := ⟨_, rfl⟩
  rw [← hX3] at c3
  have n4 : ∀ j, j ≠ 4 → X3 j = X2 j := fun j hj => by rw [hX3]; exact sa_ne hj
  have x4 : ∀ a, 0 ≤ a → a < 15 → X3 4 a = sk_v (PR 0) f a := fun a d1 d2 => by
    rw [hX3, sa_eq rfl]
    unfold sk_T
    rw [if_pos ⟨d1, d2⟩]
  have s3 : st_I (PR 0) f 3 X3 := st_cg (n4 2 (by decide)) (n4 3 (by decide)) b2
  have x40 : ∀ a, 0 ≤ a → a < 15 → X3 4 a = 0 ∨ X3 4 a = 1 := fun a d1 d2 => by
    rw [x4 a d1 d2]
    unfold sk_v
    split
    · exact Or.inl rfl
    · exact Or.inr rfl
  have hl := h57 (C := C) (V := V) (PZ := PZ) (σ := σ) (f := f) (X := X3) hi (fun a d1 d2 => (s3.2.2.2.2 a d1 d2).1) x40 125 0 (by omega) (by omega)
  have e0 : sp_T (PR 0) X3 (0 * 15) (X3 5) = X3 5 := by
    funext s
    unfold sp_T
    rw [if_neg (by omega)]
  rw [e0, sa_id] at hl
  have hb := h57b (C := C) (V := V) (PZ := PZ) (σ := σ) (X := ms_a X3 5 (sp_T (PR 0) X3 1875 (X3 5))) hi h1 h2
  have n5 : ∀ j, j ≠ 5 → (ms_a X3 5 (sp_T (PR 0) X3 1875 (X3 5))) j = X3 j := fun j hj => sa_ne hj
  refine ⟨ms_a X3 5 (sp_T (PR 0) X3 1875 (X3 5)), ?_, ⟨?_, ?_, ?_, ?_⟩, ?_⟩
  · constructor
    · rw [n5 0 (by decide), n4 0 (by decide), b1 0 (by decide) (by decide), a1 0 (by decide) (by decide)]
    · rw [n5 1 (by decide), n4 1 (by decide), b1 1 (by decide) (by decide), a1 1 (by decide) (by decide)]
  · refine sy_cg ?_ ?_ a2
    · rw [n5 6 (by decide), n4 6 (by decide), b1 6 (by decide) (by decide)]
    · rw [n5 7 (by decide), n4 7 (by decide), b1 7 (by decide) (by decide)]
  · exact st_cg (n5 2 (by decide)) (n5 3 (by decide)) s3
  · intro a d1 d2
    rw [n5 4 (by decide)]
    exact x4 a d1 d2
  · intro s d1 d2
    rw [sp_cg (n5 3 (by decide)) (n5 4 (by decide)), sa_eq rfl]
    unfold sp_T
    rw [if_pos ⟨d1, d2⟩]
  · rw [E_57]
    simp (disch := omega) only [Int.reduceAdd, Int.reduceMul, Int.reduceSub, Int.reduceNeg, na_add, na_sub, na_mul, na_neg, na_lt, na_le, na_eq, na_ofNat, bo_some, tl_some, tl_none, rc_int, rc_ref, rc_null, rc_none, rc_long, tb_0, tb_1, ↓mr_g0, mr_r0, mr_get, mr_upd, mr_at, mr_wr, Classical.not_not, not_true_eq_false, not_false_eq_true, na_l0, na_l1, na_l2, na_l3, na_l4, na_l5, na_l6, na_l7, na_l8, na_l9, na_l10, na_l14, na_l15, na_l16, na_l25, na_l30, na_l31, na_l32, na_l33, na_l39, na_l43, na_l45, na_l48, na_l49, na_l50, na_l51, na_l52, na_l53, na_l55, na_l56, na_l57, na_l60, na_l64, na_l71, na_l80, na_l96, na_l100, na_l101, na_l102, na_l103, na_l104, na_l105, na_l106, na_l107, na_l108, na_l109, na_l110, na_l111, na_l112, na_l113, na_l114, na_l115, na_l116, na_l117, na_l118, na_l119, na_l120, na_l121, na_l125, na_l128, na_l150, na_l192, na_l255, na_l999, na_l1000, na_l1248, na_l1344, na_l1875, na_l10000, ↓reduceIte, pf_and, pe_le, pf_le, pe_lt, pf_lt, pe_eq, pf_eq, true_and, and_true, false_and, and_false, true_or, or_true, false_or, or_false, ↓csk_0, ↓cso_0_0, ↓cso_0_1, ↓cso_0_2, ↓cso_0_3, ↓cso_0_4, ↓cso_0_5, ↓csk_1, ↓cso_1_0, ↓cso_1_1, ↓csk_37, ↓cso_37_0, ↓cso_37_1, ↓cso_37_2, ↓csk_277, ↓cso_277_0, ↓cso_277_1, ↓csk_314, ↓cso_314_0, ↓cso_314_1, ↓cso_314_2, ↓cso_314_3, ↓cso_314_4, ↓cso_314_5, ↓cso_314_6, ↓cso_314_7, ↓cso_314_8, ↓cso_314_9, ↓csg_2, ↓csn_2, ↓csg_279, ↓csn_279, ↓csg_315, ↓csn_315, ↓csg_316, ↓csn_316, ↓csg_317, ↓csn_317, ↓csg_318, ↓csn_318, ↓csg_319, ↓csn_319, ↓csg_320, ↓csn_320, ↓csg_321, ↓csn_321, ↓csg_322, ↓csn_322, ↓csg_323, ↓csn_323, ↓csq_38, ↓csm_38, ↓csq_278, ↓csm_278, I_57_0, I_57_1, a3, b3, c3, hl, hb]
end CSB
