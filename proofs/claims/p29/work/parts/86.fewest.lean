/-! fewest and couldBe of the class. -/
section CSB
variable {C : Nat} {V : mr_R} {PR PZ X : Nat → mr_R} {σ : ri_S} {K : Int}
theorem c129 {f w : Int} (hi : mi K (PR 0)) (h1 : 0 ≤ f) (h2 : f < PR 0 2) (h3 : 0 ≤ w) (h4 : w < PR 0 0) : ∃ X0 X2, sb_I (PR 0) f X0 ∧ sb_ch X X0 ∧ (∀ j, j ≠ 8 → j ≠ 9 → X2 j = X0 j) ∧ cal 129 [.ref C, .int (Int32.ofInt f), .int (Int32.ofInt w)] (cs C V PR PZ X σ) = some (some (.int (Int32.ofInt (cb_S (fun p => ∃ n v, bf_D (sn_x X0) (sn_w X0) (sg_n (PR 0) f) n v ∧ v % 15 / 5 = w ∧ v % 15 % 5 = p)))), cs C (mr_st V 3 (sg_n (PR 0) f)) PR PZ X2 σ) := by
  have hc := hi.c
  obtain ⟨X0, a1, a2, a3⟩ := c57 (C := C) (V := V) (PZ := PZ) (σ := σ) (X := X) hi h1 h2
  have hn := sn_now hi h1 h2 a2
  obtain ⟨X2, b1, b2⟩ := c68 (C := C) (V := mr_st V 3 (sg_n (PR 0) f)) (PR := PR) (PZ := PZ) (σ := σ) (w := w) (X := X0) hi a2 hn.1.1 hn.1.2 (ms_eq rfl) (by omega) (fun _ _ _ => rfl)
  refine ⟨X0, X2, a2, a1, b1, ?_⟩
  have e1 := c1 (B := C + 3) (R := PR 0) (Z := PZ 0) (σ := cs C V PR PZ X σ) (w := f) (by omega) (by omega) (by omega)
  rw [if_pos ⟨h1, h2⟩] at e1
  have e2 := c97 (B := C + 3) (R := PR 0) (Z := PZ 0) (σ := cs C V PR PZ X σ) (w := w) (by omega) (by omega) (by omega)
  rw [if_pos ⟨h3, h4⟩] at e2
  rw [cm_0] at e1 e2
  rw [E_129]
  simp (disch := omega) only [Int.reduceAdd, Int.reduceMul, Int.reduceSub, Int.reduceNeg, na_add, na_sub, na_mul, na_neg, na_lt, na_le, na_eq, na_ofNat, bo_some, tl_some, tl_none, rc_int, rc_ref, rc_null, rc_none, rc_long, tb_0, tb_1, ↓mr_g0, mr_r0, mr_get, mr_upd, mr_at, mr_wr, Classical.not_not, not_true_eq_false, not_false_eq_true, na_l0, na_l1, na_l2, na_l3, na_l4, na_l5, na_l6, na_l7, na_l8, na_l9, na_l10, na_l14, na_l15, na_l16, na_l25, na_l30, na_l31, na_l32, na_l33, na_l39, na_l43, na_l45, na_l48, na_l49, na_l50, na_l51, na_l52, na_l53, na_l55, na_l56, na_l57, na_l60, na_l64, na_l71, na_l80, na_l96, na_l100, na_l101, na_l102, na_l103, na_l104, na_l105, na_l106, na_l107, na_l108, na_l109, na_l110, na_l111, na_l112, na_l113, na_l114, na_l115, na_l116, na_l117, na_l118, na_l119, na_l120, na_l121, na_l125, na_l128, na_l150, na_l192, na_l255, na_l999, na_l1000, na_l1248, na_l1344, na_l1875, na_l10000, ↓reduceIte, pf_and, pe_le, pf_le, pe_lt, pf_lt, pe_eq, pf_eq, true_and, and_true, false_and, and_false, true_or, or_true, false_or, or_false, ↓csk_0, ↓cso_0_0, ↓cso_0_1, ↓cso_0_2, ↓cso_0_3, ↓cso_0_4, ↓cso_0_5, ↓csk_1, ↓cso_1_0, ↓cso_1_1, ↓csk_37, ↓cso_37_0, ↓cso_37_1, ↓cso_37_2, ↓csk_277, ↓cso_277_0, ↓cso_277_1, ↓csk_314, ↓cso_314_0, ↓cso_314_1, ↓cso_314_2, ↓cso_314_3, ↓cso_314_4, ↓cso_314_5, ↓cso_314_6, ↓cso_314_7, ↓cso_314_8, ↓cso_314_9, ↓csg_2, ↓csn_2, ↓csg_279, ↓csn_279, ↓csg_315, ↓csn_315, ↓csg_316, ↓csn_316, ↓csg_317, ↓csn_317, ↓csg_318, ↓csn_318, ↓csg_319, ↓csn_319, ↓csg_320, ↓csn_320, ↓csg_321, ↓csn_321, ↓csg_322, ↓csn_322, ↓csg_323, ↓csn_323, ↓csq_38, ↓csm_38, ↓csq_278, ↓csm_278, ↓cpk0_0, ↓cpk0_1, ↓cpk0_8, ↓cpk0_11, ↓cpo0_0, ↓cpo0_1, ↓cpo0_2, ↓cpo0_3, ↓cpo0_4, ↓cpo0_5, ↓cpo0_6, ↓cpo0_7, ↓cpo0_8, ↓cpk1_0, ↓cpk1_1, ↓cpk1_8, ↓cpk1_11, ↓cpo1_0, ↓cpo1_1, ↓cpo1_2, ↓cpo1_3, ↓cpo1_4, ↓cpo1_5, ↓cpo1_6, ↓cpo1_7, ↓cpo1_8, I_129, c136, c135, e1, e2, a3, b2]
end CSB
