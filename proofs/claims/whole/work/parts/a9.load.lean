/-! The class loads its text. -/
section CSB
variable {Ks : Nat → Nat} {C : Nat} {V : mr_R} {PR PZ X : Nat → mr_R} {σ : ri_S} {K : Int}
theorem cwz_0 {R Z : mr_R} : mp (C + 3) R Z (cs C V PR PZ X σ) = cs C V (ms_a PR 0 R) (ms_a PZ 0 Z) X σ := csr (C := C) (V := V) (PR := PR) (PZ := PZ) (X := X) (σ := σ) (i := 0) (R := R) (Z := Z) (by decide)
theorem c112 {n : Int} (hi : mi K (PR 0)) (hK : sk_ok Ks) (hV : V 0 = n) (hn0 : 0 ≤ n) (hn : n ≤ 120) (ht : ct_ok X) (hr : (tx_e (X 0) n).1 = -1) : cal2 Ks 112 [.ref C] (cs C V PR PZ X σ) = some (some (.int (Int32.ofInt (tx_e (X 0) n).2.2)), cs C (mr_st V 2 0) (ms_a PR 0 (tx_e (X 0) n).2.1) (ms_a PZ 0 (mp_0 (PR 0) (PZ 0))) (ms_a X 1 (mc_fl (X 1) 2 0)) σ) := by
  have hc := hi.c
  have e90 := c90 (C := C) (V := V) (PR := PR) (PZ := PZ) (X := X) (σ := σ) hK hV hn0 hn ht
  rw [hr] at e90
  have e135 : ∀ s : ri_S, cal2 Ks 135 [.int (Int32.ofInt 0)] s = some (none, s) := fun s => cal_2 (c135 (σ := s))
  have e9 := cal_2 (Ks := Ks) (c9 (C := C) (V := V) (PR := PR) (PZ := PZ) (X := X) (σ := σ))
  have e83 := cal_2 (Ks := Ks) (c83 (C := C) (V := mr_st V 2 0) (PR := PR) (PZ := PZ) (X := X) (σ := σ))
  have e21 := cal_2 (Ks := Ks) (c21 (B := C + 3) (R := PR 0) (Z := PZ 0) (σ := cs C (mr_st V 2 0) PR PZ (ms_a X 1 (mc_fl (X 1) 2 0)) σ) (by omega))
  rw [cm_0, cwz_0] at e21
  have x0 : (ms_a X 1 (mc_fl (X 1) 2 0)) 0 = X 0 := sa_ne (by decide)
  have e93 := c93 (C := C) (V := mr_st V 2 0) (PR := ms_a PR 0 (fun _ => 0)) (PZ := ms_a PZ 0 (mp_0 (PR 0) (PZ 0))) (X := ms_a X 1 (mc_fl (X 1) 2 0)) (σ := σ) (n := n) hK (by rw [← hV]; rfl) hn0 hn (fun i h1 h2 => by rw [x0]; exact ht i h1 h2) (by rw [x0]; exact hr) (sa_eq rfl)
  rw [x0] at e93
  rw [F_112]
  simp (disch := omega) only [Nat.reduceAdd, Int.reduceAdd, Int.reduceMul, Int.reduceSub, Int.reduceNeg, na_add, na_sub, na_mul, na_neg, na_lt, na_le, na_eq, na_ofNat, bo_some, tl_some, tl_none, rc_int, rc_ref, rc_null, rc_none, rc_long, tb_0, tb_1, ↓mr_g0, mr_r0, mr_get, mr_upd, mr_at, mr_wr, Classical.not_not, not_true_eq_false, not_false_eq_true, na_l0, na_l1, na_l2, na_l3, na_l4, na_l5, na_l6, na_l7, na_l8, na_l9, na_l10, na_l14, na_l15, na_l16, na_l25, na_l30, na_l31, na_l32, na_l33, na_l39, na_l43, na_l45, na_l48, na_l49, na_l50, na_l51, na_l52, na_l53, na_l55, na_l56, na_l57, na_l60, na_l64, na_l71, na_l80, na_l96, na_l100, na_l101, na_l102, na_l103, na_l104, na_l105, na_l106, na_l107, na_l108, na_l109, na_l110, na_l111, na_l112, na_l113, na_l114, na_l115, na_l116, na_l117, na_l118, na_l119, na_l120, na_l121, na_l125, na_l128, na_l150, na_l192, na_l255, na_l999, na_l1000, na_l1248, na_l1344, na_l1875, na_l10000, ↓reduceIte, pf_and, pe_le, pf_le, pe_lt, pf_lt, pe_eq, pf_eq, true_and, and_true, false_and, and_false, true_or, or_true, false_or, or_false, ↓csk_0, ↓cso_0_0, ↓cso_0_1, ↓cso_0_2, ↓cso_0_3, ↓cso_0_4, ↓cso_0_5, ↓csk_1, ↓cso_1_0, ↓cso_1_1, ↓csk_37, ↓cso_37_0, ↓cso_37_1, ↓cso_37_2, ↓csk_277, ↓cso_277_0, ↓cso_277_1, ↓csk_314, ↓cso_314_0, ↓cso_314_1, ↓cso_314_2, ↓cso_314_3, ↓cso_314_4, ↓cso_314_5, ↓cso_314_6, ↓cso_314_7, ↓cso_314_8, ↓cso_314_9, ↓csg_2, ↓csn_2, ↓csg_279, ↓csn_279, ↓csg_315, ↓csn_315, ↓csg_316, ↓csn_316, ↓csg_317, ↓csn_317, ↓csg_318, ↓csn_318, ↓csg_319, ↓csn_319, ↓csg_320, ↓csn_320, ↓csg_321, ↓csn_321, ↓csg_322, ↓csn_322, ↓csg_323, ↓csn_323, ↓csq_38, ↓csm_38, ↓csq_278, ↓csm_278, ↓cpk0_0, ↓cpk0_1, ↓cpk0_8, ↓cpk0_11, ↓cpo0_0, ↓cpo0_1, ↓cpo0_2, ↓cpo0_3, ↓cpo0_4, ↓cpo0_5, ↓cpo0_6, ↓cpo0_7, ↓cpo0_8, ↓cpk1_0, ↓cpk1_1, ↓cpk1_8, ↓cpk1_11, ↓cpo1_0, ↓cpo1_1, ↓cpo1_2, ↓cpo1_3, ↓cpo1_4, ↓cpo1_5, ↓cpo1_6, ↓cpo1_7, ↓cpo1_8, J_112, e90, e135, e9, e83, e21, e93, sa_up]
end CSB
