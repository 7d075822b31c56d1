/-! Waves in the class: the fewest moves. -/
def wv (X0 X : Nat → mr_R) (z : bf_Z) : Prop := (∀ j, j ≠ 8 → j ≠ 9 → X j = X0 j) ∧ X 8 = z.1 ∧ X 9 = z.2.1
theorem sp_cg3 {R : mr_R} {X X2 : Nat → mr_R} (h3 : X2 3 = X 3) (h4 : X2 4 = X 4) : sp_v R X2 = sp_v R X := by
  funext T w p
  have hs : sc_T X2 T = sc_T X T := by unfold sc_T; rw [h3]
  unfold sp_v
  rw [hs, h4]
theorem sb_cg {R : mr_R} {f : Int} {X X2 : Nat → mr_R} (h : ∀ j, j ≠ 8 → j ≠ 9 → X2 j = X j) (hI : sb_I R f X) : sb_I R f X2 := by
  have e2 := h 2 (by decide) (by decide)
  have e3 := h 3 (by decide) (by decide)
  have e4 := h 4 (by decide) (by decide)
  have e5 := h 5 (by decide) (by decide)
  have e6 := h 6 (by decide) (by decide)
  have e7 := h 7 (by decide) (by decide)
  unfold sb_I sy_J sw_ok sw_in st_I at *
  rw [sp_cg3 e3 e4, e2, e3, e4, e5, e6, e7]
  exact hI
theorem sn_cg {X X2 : Nat → mr_R} (h : ∀ j, j ≠ 8 → j ≠ 9 → X2 j = X j) : sn_x X2 = sn_x X ∧ sn_w X2 = sn_w X := by
  constructor
  · funext s k
    unfold sn_x
    rw [h 2 (by decide) (by decide), h 5 (by decide) (by decide), h 6 (by decide) (by decide)]
  · funext s
    unfold sn_w
    rw [h 7 (by decide) (by decide)]
theorem sn_G {K : Int} {R : mr_R} (hi : mi K R) {X : Nat → mr_R} {f s0 : Int} (hI : sb_I R f X) (h0 : 0 ≤ s0) (h1 : s0 < 1875) : ∀ n v k, bf_D (sn_x X) (sn_w X) s0 n v → 0 ≤ k → k < sn_w X v → sn_x X v k ≠ -1 → 0 ≤ sn_x X v k ∧ sn_x X v k < 1875 := by
  have hb : ∀ n v, bf_D (sn_x X) (sn_w X) s0 n v → 0 ≤ v ∧ v < 1875 := by
    intro n
    induction n with
    | zero => intro v h; rw [show v = s0 from h]; omega
    | succ n ih =>
      rintro v ⟨r, k, a1, a2, a3, a4, rfl⟩
      have := ih r a1
      exact sn_bd hi hI this.1 this.2 a2 a3 a4
  intro n v k a1 a2 a3 a4
  have := hb n v a1
  exact sn_bd hi hI this.1 this.2 a2 a3 a4
theorem bf_1e {nx : Int → Int → Int} {u k x : Int} {z : bf_Z} (hx : nx u k = x) : bf_1 nx u k z = if x ≠ -1 ∧ z.1 x = -1 then (mr_st z.1 x (z.1 u + 1), mr_st z.2.1 z.2.2 x, z.2.2 + 1) else z := by
  unfold bf_1
  rw [hx]
section CSB
variable {C : Nat} {V : mr_R} {PR PZ : Nat → mr_R} {σ : ri_S} {K : Int}
theorem h67s {R : mr_R} (hi : mi K R) {X0 X : Nat → mr_R} {f s0 goal i u k : Int} {z : bf_Z} {l6 : Option Value} (hI : sb_I R f X0) (h0 : 0 ≤ s0) (h1 : s0 < 1875) (hw : wv X0 X z) (hJ : bf_J 1875 (sn_x X0) (sn_w X0) s0 i k z) (hiz : i < z.2.2) (hu : z.2.1 i = u) (hk : 0 ≤ k) (hk2 : k < sn_w X0 u) : ∃ X2 l6', wv X0 X2 (bf_1 (sn_x X0) u k z) ∧ ev 67 (80, [some (.ref (C + 314)), some (.int (Int32.ofInt goal)), some (.int (Int32.ofInt z.2.2)), some (.int (Int32.ofInt i)), some (.int (Int32.ofInt u)), some (.int (Int32.ofInt k)), l6], []) (cs C V PR PZ X σ) = ev 67 (80, [some (.ref (C + 314)), some (.int (Int32.ofInt goal)), some (.int (Int32.ofInt (bf_1 (sn_x X0) u k z).2.2)), some (.int (Int32.ofInt i)), some (.int (Int32.ofInt u)), some (.int (Int32.ofInt (k + 1))), l6'], []) (cs C V PR PZ X2 σ) := by
  have hIX := sb_cg hw.1 hI
  obtain ⟨ex, ew⟩ := sn_cg hw.1
  have hle := bf_le hJ (by omega)
  have hq := hJ.2.2.1 i hJ.1.1 hiz
  have hG := sn_G hi hI h0 h1
  rw [hu] at hq
  have hn := hG _ u k hq.2.2.2.2 hk hk2
  have hS := bf_step hG hJ hiz hk (by rw [hu]; exact hk2)
  rw [hu] at hS
  have hle2 := bf_le hS (by omega)
  have hcnt := (hI.1.1 (u % 15) (by omega) (by omega)).1
  have hk3 : k < X 7 (u % 15) := by rw [hw.1 7 (by decide) (by decide)]; exact hk2
  have c := c66 (C := C) (V := V) (PR := PR) (PZ := PZ) (σ := σ) hi hIX hq.1 hq.2.1 hk hk3
  rw [ex] at c
  have hkk : X 7 (u % 15) = sn_w X0 u := by rw [hw.1 7 (by decide) (by decide)]; rfl
  have hwb : 0 ≤ sn_w X0 u ∧ sn_w X0 u ≤ 10 := hcnt
  have h4 := hJ.2.2.2.1 (sn_x X0 u k)
  have h3 := hJ.2.2.1
  have e1 := bf_1e (nx := sn_x X0) (u := u) (k := k) (z := z) rfl
  generalize hx : sn_x X0 u k = x at *
  generalize hwu : sn_w X0 u = nn at *
  obtain ⟨F, Q, e⟩ := z
  obtain ⟨w1, w2, w3⟩ := hw
  simp only at w2 w3 h3 h4 hu hq hle hiz e1 ⊢
  by_cases q1 : x = -1
  · rw [if_neg (by simp [q1])] at e1
    refine ⟨X, some (.int (Int32.ofInt x)), by rw [e1]; exact ⟨w1, w2, w3⟩, ?_⟩
    rw [e1]
    rw [H_67_80]
    simp (disch := omega) only [Int.reduceAdd, Int.reduceMul, Int.reduceSub, Int.reduceNeg, na_add, na_sub, na_mul, na_neg, na_lt, na_le, na_eq, na_ofNat, bo_some, tl_some, tl_none, rc_int, rc_ref, rc_null, rc_none, rc_long, tb_0, tb_1, ↓mr_g0, mr_r0, mr_get, mr_upd, mr_at, mr_wr, Classical.not_not, not_true_eq_false, not_false_eq_true, na_l0, na_l1, na_l2, na_l3, na_l4, na_l5, na_l6, na_l7, na_l8, na_l9, na_l10, na_l14, na_l15, na_l16, na_l25, na_l30, na_l31, na_l32, na_l33, na_l39, na_l43, na_l45, na_l48, na_l49, na_l50, na_l51, na_l52, na_l53, na_l55, na_l56, na_l57, na_l60, na_l64, na_l71, na_l80, na_l96, na_l100, na_l101, na_l102, na_l103, na_l104, na_l105, na_l106, na_l107, na_l108, na_l109, na_l110, na_l111, na_l112, na_l113, na_l114, na_l115, na_l116, na_l117, na_l118, na_l119, na_l120, na_l121, na_l125, na_l128, na_l150, na_l192, na_l255, na_l999, na_l1000, na_l1248, na_l1344, na_l1875, na_l10000, ↓reduceIte, pf_and, pe_le, pf_le, pe_lt, pf_lt, pe_eq, pf_eq, true_and, and_true, false_and, and_false, true_or, or_true, false_or, or_false, ↓csk_0, ↓cso_0_0, ↓cso_0_1, ↓cso_0_2, ↓cso_0_3, ↓cso_0_4, ↓cso_0_5, ↓csk_1, ↓cso_1_0, ↓cso_1_1, ↓csk_37, ↓cso_37_0, ↓cso_37_1, ↓cso_37_2, ↓csk_277, ↓cso_277_0, ↓cso_277_1, ↓csk_314, ↓cso_314_0, ↓cso_314_1, ↓cso_314_2, ↓cso_314_3, ↓cso_314_4, ↓cso_314_5, ↓cso_314_6, ↓cso_314_7, ↓cso_314_8, ↓cso_314_9, ↓csg_2, ↓csn_2, ↓csg_279, ↓csn_279, ↓csg_315, ↓csn_315, ↓csg_316, ↓csn_316, ↓csg_317, ↓csn_317, ↓csg_318, ↓csn_318, ↓csg_319, ↓csn_319, ↓csg_320, ↓csn_320, ↓csg_321, ↓csn_321, ↓csg_322, ↓csn_322, ↓csg_323, ↓csn_323, ↓csq_38, ↓csm_38, ↓csq_278, ↓csm_278, r140_315, r140_316, r140_317, r140_318, r140_319, r140_320, r140_321, r140_322, r140_323, s140_2, s140_3, s140_4, s140_5, s140_6, s140_7, s140_9, s140_10, s140_12, s140_13, s140_14, ↓spo_1_0, ↓spo_1_1, ↓spo_1_2, ↓spo_1_3, ↓spo_1_4, ↓spo_1_5, ↓spo_1_6, ↓spo_8_0, ↓spo_8_1, ↓spo_8_2, ↓spo_11_0, ↓spo_11_1, ↓spo_11_2, ↓spo_11_3, ↓spo_11_4, ↓spo_11_5, na_div, na_rem, I_67_0, I_67_1, I_67_2, hkk, c, q1]
  · have hx2 := hn q1
    by_cases q2 : F x = -1
    · rw [if_pos ⟨q1, q2⟩] at e1
      rw [e1] at hle2
      simp only at hle2
      rw [e1]
      refine ⟨ms_a (ms_a X 8 (mr_st F x (F u + 1))) 9 (mr_st Q e x), some (.int (Int32.ofInt x)), ⟨fun j a1 a2 => by rw [sa_ne a2, sa_ne a1, w1 j a1 a2], by rw [sa_ne (by decide), sa_eq rfl], by rw [sa_eq rfl]⟩, ?_⟩
      simp only
      rw [H_67_80]
      simp (disch := first | omega | decide) only [Int.reduceAdd, Int.reduceMul, Int.reduceSub, Int.reduceNeg, na_add, na_sub, na_mul, na_neg, na_lt, na_le, na_eq, na_ofNat, bo_some, tl_some, tl_none, rc_int, rc_ref, rc_null, rc_none, rc_long, tb_0, tb_1, ↓mr_g0, mr_r0, mr_get, mr_upd, mr_at, mr_wr, Classical.not_not, not_true_eq_false, not_false_eq_true, na_l0, na_l1, na_l2, na_l3, na_l4, na_l5, na_l6, na_l7, na_l8, na_l9, na_l10, na_l14, na_l15, na_l16, na_l25, na_l30, na_l31, na_l32, na_l33, na_l39, na_l43, na_l45, na_l48, na_l49, na_l50, na_l51, na_l52, na_l53, na_l55, na_l56, na_l57, na_l60, na_l64, na_l71, na_l80, na_l96, na_l100, na_l101, na_l102, na_l103, na_l104, na_l105, na_l106, na_l107, na_l108, na_l109, na_l110, na_l111, na_l112, na_l113, na_l114, na_l115, na_l116, na_l117, na_l118, na_l119, na_l120, na_l121, na_l125, na_l128, na_l150, na_l192, na_l255, na_l999, na_l1000, na_l1248, na_l1344, na_l1875, na_l10000, ↓reduceIte, pf_and, pe_le, pf_le, pe_lt, pf_lt, pe_eq, pf_eq, true_and, and_true, false_and, and_false, true_or, or_true, false_or, or_false, ↓csk_0, ↓cso_0_0, ↓cso_0_1, ↓cso_0_2, ↓cso_0_3, ↓cso_0_4, ↓cso_0_5, ↓csk_1, ↓cso_1_0, ↓cso_1_1, ↓csk_37, ↓cso_37_0, ↓cso_37_1, ↓cso_37_2, ↓csk_277, ↓cso_277_0, ↓cso_277_1, ↓csk_314, ↓cso_314_0, ↓cso_314_1, ↓cso_314_2, ↓cso_314_3, ↓cso_314_4, ↓cso_314_5, ↓cso_314_6, ↓cso_314_7, ↓cso_314_8, ↓cso_314_9, ↓csg_2, ↓csn_2, ↓csg_279, ↓csn_279, ↓csg_315, ↓csn_315, ↓csg_316, ↓csn_316, ↓csg_317, ↓csn_317, ↓csg_318, ↓csn_318, ↓csg_319, ↓csn_319, ↓csg_320, ↓csn_320, ↓csg_321, ↓csn_321, ↓csg_322, ↓csn_322, ↓csg_323, ↓csn_323, ↓csq_38, ↓csm_38, ↓csq_278, ↓csm_278, r140_315, r140_316, r140_317, r140_318, r140_319, r140_320, r140_321, r140_322, r140_323, s140_2, s140_3, s140_4, s140_5, s140_6, s140_7, s140_9, s140_10, s140_12, s140_13, s140_14, ↓spo_1_0, ↓spo_1_1, ↓spo_1_2, ↓spo_1_3, ↓spo_1_4, ↓spo_1_5, ↓spo_1_6, ↓spo_8_0, ↓spo_8_1, ↓spo_8_2, ↓spo_11_0, ↓spo_11_1, ↓spo_11_2, ↓spo_11_3, ↓spo_11_4, ↓spo_11_5, w141_315, w229_315, w141_316, w229_316, w141_317, w229_317, w141_318, w229_318, w141_319, w229_319, w141_320, w229_320, w141_321, w229_321, w141_322, w229_322, w141_323, w229_323, na_div, na_rem, I_67_0, I_67_1, I_67_2, hkk, c, q1, w2, w3, q2, sa_eq, sa_ne]
    · obtain ⟨j, j1, j2, j3⟩ := h4 hx2.1 hx2.2 q2
      have hfx := h3 j j1 j2
      rw [j3] at hfx
      rw [if_neg (fun a => q2 a.2)] at e1
      refine ⟨X, some (.int (Int32.ofInt x)), by rw [e1]; exact ⟨w1, w2, w3⟩, ?_⟩
      rw [e1]
      simp only
      rw [H_67_80]
      simp (disch := omega) only [Int.reduceAdd, Int.reduceMul, Int.reduceSub, Int.reduceNeg, na_add, na_sub, na_mul, na_neg, na_lt, na_le, na_eq, na_ofNat, bo_some, tl_some, tl_none, rc_int, rc_ref, rc_null, rc_none, rc_long, tb_0, tb_1, ↓mr_g0, mr_r0, mr_get, mr_upd, mr_at, mr_wr, Classical.not_not, not_true_eq_false, not_false_eq_true, na_l0, na_l1, na_l2, na_l3, na_l4, na_l5, na_l6, na_l7, na_l8, na_l9, na_l10, na_l14, na_l15, na_l16, na_l25, na_l30, na_l31, na_l32, na_l33, na_l39, na_l43, na_l45, na_l48, na_l49, na_l50, na_l51, na_l52, na_l53, na_l55, na_l56, na_l57, na_l60, na_l64, na_l71, na_l80, na_l96, na_l100, na_l101, na_l102, na_l103, na_l104, na_l105, na_l106, na_l107, na_l108, na_l109, na_l110, na_l111, na_l112, na_l113, na_l114, na_l115, na_l116, na_l117, na_l118, na_l119, na_l120, na_l121, na_l125, na_l128, na_l150, na_l192, na_l255, na_l999, na_l1000, na_l1248, na_l1344, na_l1875, na_l10000, ↓reduceIte, pf_and, pe_le, pf_le, pe_lt, pf_lt, pe_eq, pf_eq, true_and, and_true, false_and, and_false, true_or, or_true, false_or, or_false, ↓csk_0, ↓cso_0_0, ↓cso_0_1, ↓cso_0_2, ↓cso_0_3, ↓cso_0_4, ↓cso_0_5, ↓csk_1, ↓cso_1_0, ↓cso_1_1, ↓csk_37, ↓cso_37_0, ↓cso_37_1, ↓cso_37_2, ↓csk_277, ↓cso_277_0, ↓cso_277_1, ↓csk_314, ↓cso_314_0, ↓cso_314_1, ↓cso_314_2, ↓cso_314_3, ↓cso_314_4, ↓cso_314_5, ↓cso_314_6, ↓cso_314_7, ↓cso_314_8, ↓cso_314_9, ↓csg_2, ↓csn_2, ↓csg_279, ↓csn_279, ↓csg_315, ↓csn_315, ↓csg_316, ↓csn_316, ↓csg_317, ↓csn_317, ↓csg_318, ↓csn_318, ↓csg_319, ↓csn_319, ↓csg_320, ↓csn_320, ↓csg_321, ↓csn_321, ↓csg_322, ↓csn_322, ↓csg_323, ↓csn_323, ↓csq_38, ↓csm_38, ↓csq_278, ↓csm_278, r140_315, r140_316, r140_317, r140_318, r140_319, r140_320, r140_321, r140_322, r140_323, s140_2, s140_3, s140_4, s140_5, s140_6, s140_7, s140_9, s140_10, s140_12, s140_13, s140_14, ↓spo_1_0, ↓spo_1_1, ↓spo_1_2, ↓spo_1_3, ↓spo_1_4, ↓spo_1_5, ↓spo_1_6, ↓spo_8_0, ↓spo_8_1, ↓spo_8_2, ↓spo_11_0, ↓spo_11_1, ↓spo_11_2, ↓spo_11_3, ↓spo_11_4, ↓spo_11_5, na_div, na_rem, I_67_0, I_67_1, I_67_2, hkk, c, q1, w2, q2]
theorem h67k {R : mr_R} (hi : mi K R) {X0 : Nat → mr_R} {f s0 goal i u nn : Int} (hI : sb_I R f X0) (h0 : 0 ≤ s0) (h1 : s0 < 1875) (hnn : sn_w X0 u = nn) (hnn0 : nn ≤ 10) : ∀ (n : Nat) (k : Int) (z : bf_Z) (X : Nat → mr_R) (l6 : Option Value), 0 ≤ k → k + n = nn → wv X0 X z → bf_J 1875 (sn_x X0) (sn_w X0) s0 i k z → i < z.2.2 → z.2.1 i = u → ∃ z2 X2 l6', wv X0 X2 z2 ∧ bf_J 1875 (sn_x X0) (sn_w X0) s0 i nn z2 ∧ i < z2.2.2 ∧ (∀ j, 0 ≤ j → j ≤ i → z2.2.1 j = z.2.1 j) ∧ ev 67 (80, [some (.ref (C + 314)), some (.int (Int32.ofInt goal)), some (.int (Int32.ofInt z.2.2)), some (.int (Int32.ofInt i)), some (.int (Int32.ofInt u)), some (.int (Int32.ofInt k)), l6], []) (cs C V PR PZ X σ) = ev 67 (36, [some (.ref (C + 314)), some (.int (Int32.ofInt goal)), some (.int (Int32.ofInt z2.2.2)), some (.int (Int32.ofInt (i + 1))), some (.int (Int32.ofInt u)), some (.int (Int32.ofInt nn)), l6'], []) (cs C V PR PZ X2 σ) := by
  intro n
  induction n with
  | zero =>
    intro k z X l6 h5 h6 hw hJ hiz hu
    obtain rfl : k = nn := by omega
    refine ⟨z, X, l6, hw, hJ, hiz, fun _ _ _ => rfl, ?_⟩
    have hle := bf_le hJ (by omega)
    have hq := hJ.2.2.1 i hJ.1.1 hiz
    rw [hu] at hq
    have hkk : X 7 (u % 15) = k := by rw [hw.1 7 (by decide) (by decide)]; exact hnn
    rw [H_67_80]
    simp (disch := omega) only [Int.reduceAdd, Int.reduceMul, Int.reduceSub, Int.reduceNeg, na_add, na_sub, na_mul, na_neg, na_lt, na_le, na_eq, na_ofNat, bo_some, tl_some, tl_none, rc_int, rc_ref, rc_null, rc_none, rc_long, tb_0, tb_1, ↓mr_g0, mr_r0, mr_get, mr_upd, mr_at, mr_wr, Classical.not_not, not_true_eq_false, not_false_eq_true, na_l0, na_l1, na_l2, na_l3, na_l4, na_l5, na_l6, na_l7, na_l8, na_l9, na_l10, na_l14, na_l15, na_l16, na_l25, na_l30, na_l31, na_l32, na_l33, na_l39, na_l43, na_l45, na_l48, na_l49, na_l50, na_l51, na_l52, na_l53, na_l55, na_l56, na_l57, na_l60, na_l64, na_l71, na_l80, na_l96, na_l100, na_l101, na_l102, na_l103, na_l104, na_l105, na_l106, na_l107, na_l108, na_l109, na_l110, na_l111, na_l112, na_l113, na_l114, na_l115, na_l116, na_l117, na_l118, na_l119, na_l120, na_l121, na_l125, na_l128, na_l150, na_l192, na_l255, na_l999, na_l1000, na_l1248, na_l1344, na_l1875, na_l10000, ↓reduceIte, pf_and, pe_le, pf_le, pe_lt, pf_lt, pe_eq, pf_eq, true_and, and_true, false_and, and_false, true_or, or_true, false_or, or_false, ↓csk_0, ↓cso_0_0, ↓cso_0_1, ↓cso_0_2, ↓cso_0_3, ↓cso_0_4, ↓cso_0_5, ↓csk_1, ↓cso_1_0, ↓cso_1_1, ↓csk_37, ↓cso_37_0, ↓cso_37_1, ↓cso_37_2, ↓csk_277, ↓cso_277_0, ↓cso_277_1, ↓csk_314, ↓cso_314_0, ↓cso_314_1, ↓cso_314_2, ↓cso_314_3, ↓cso_314_4, ↓cso_314_5, ↓cso_314_6, ↓cso_314_7, ↓cso_314_8, ↓cso_314_9, ↓csg_2, ↓csn_2, ↓csg_279, ↓csn_279, ↓csg_315, ↓csn_315, ↓csg_316, ↓csn_316, ↓csg_317, ↓csn_317, ↓csg_318, ↓csn_318, ↓csg_319, ↓csn_319, ↓csg_320, ↓csn_320, ↓csg_321, ↓csn_321, ↓csg_322, ↓csn_322, ↓csg_323, ↓csn_323, ↓csq_38, ↓csm_38, ↓csq_278, ↓csm_278, r140_315, r140_316, r140_317, r140_318, r140_319, r140_320, r140_321, r140_322, r140_323, s140_2, s140_3, s140_4, s140_5, s140_6, s140_7, s140_9, s140_10, s140_12, s140_13, s140_14, ↓spo_1_0, ↓spo_1_1, ↓spo_1_2, ↓spo_1_3, ↓spo_1_4, ↓spo_1_5, ↓spo_1_6, ↓spo_8_0, ↓spo_8_1, ↓spo_8_2, ↓spo_11_0, ↓spo_11_1, ↓spo_11_2, ↓spo_11_3, ↓spo_11_4, ↓spo_11_5, na_div, na_rem, I_67_0, I_67_1, I_67_2, hkk]
  | succ n ih =>
    intro k z X l6 h5 h6 hw hJ hiz hu
    obtain ⟨X1, l7, a1, a2⟩ := h67s (C := C) (V := V) (PR := PR) (PZ := PZ) (σ := σ) (goal := goal) (l6 := l6) hi hI h0 h1 hw hJ hiz hu h5 (by omega)
    have hS := bf_step (sn_G hi hI h0 h1) hJ hiz h5 (by rw [hu]; omega)
    rw [hu] at hS
    have hb : z.2.2 ≤ (bf_1 (sn_x X0) u k z).2.2 ∧ ∀ j, j ≤ i → (bf_1 (sn_x X0) u k z).2.1 j = z.2.1 j := by
      unfold bf_1
      split
      · exact ⟨by show z.2.2 ≤ z.2.2 + 1; omega, fun j hj => ms_ne (by omega)⟩
      · exact ⟨Int.le_refl _, fun _ _ => rfl⟩
    obtain ⟨z2, X2, l8, b1, b2, b3, b4, b5⟩ := ih (k + 1) _ X1 l7 (by omega) (by omega) a1 hS (by omega) (by rw [hb.2 i (Int.le_refl _)]; exact hu)
    exact ⟨z2, X2, l8, b1, b2, b3, fun j c1 c2 => by rw [b4 j c1 c2, hb.2 j c2], a2.trans b5⟩
theorem h67 {R : mr_R} (hi : mi K R) {X0 : Nat → mr_R} {f s0 goal : Int} (hI : sb_I R f X0) (h0 : 0 ≤ s0) (h1 : s0 < 1875) (hg : -1 ≤ goal ∧ goal < 15) : ∀ (n : Nat) (i : Int) (z : bf_Z) (X : Nat → mr_R) (l4 l5 l6 : Option Value), i + n = 1875 → wv X0 X z → bf_J 1875 (sn_x X0) (sn_w X0) s0 i 0 z → (∀ j, 0 ≤ j → j < i → ¬ z.2.1 j % 15 = goal) → ∃ r z2 X2, wv X0 X2 z2 ∧ bf_L (sn_x X0) (sn_w X0) s0 (fun s => s % 15 = goal) r ∧ -1 ≤ r ∧ r < 1875 ∧ (r = -1 → bf_J 1875 (sn_x X0) (sn_w X0) s0 z2.2.2 0 z2) ∧ ev 67 (36, [some (.ref (C + 314)), some (.int (Int32.ofInt goal)), some (.int (Int32.ofInt z.2.2)), some (.int (Int32.ofInt i)), l4, l5, l6], []) (cs C V PR PZ X σ) = some (some (.int (Int32.ofInt r)), cs C V PR PZ X2 σ) := by
  intro n
  induction n with
  | zero =>
    intro i z X l4 l5 l6 h5 hw hJ hn
    have hle := bf_le hJ (by omega)
    have e : i = z.2.2 := by have := hJ.1; omega
    refine ⟨-1, z, X, hw, bf_none (sn_G hi hI h0 h1) ⟨h0, h1⟩ (e ▸ hJ) (e ▸ hn), by omega, by omega, fun _ => e ▸ hJ, ?_⟩
    rw [← e]
    rw [H_67_36]
    simp (disch := omega) only [Int.reduceAdd, Int.reduceMul, Int.reduceSub, Int.reduceNeg, na_add, na_sub, na_mul, na_neg, na_lt, na_le, na_eq, na_ofNat, bo_some, tl_some, tl_none, rc_int, rc_ref, rc_null, rc_none, rc_long, tb_0, tb_1, ↓mr_g0, mr_r0, mr_get, mr_upd, mr_at, mr_wr, Classical.not_not, not_true_eq_false, not_false_eq_true, na_l0, na_l1, na_l2, na_l3, na_l4, na_l5, na_l6, na_l7, na_l8, na_l9, na_l10, na_l14, na_l15, na_l16, na_l25, na_l30, na_l31, na_l32, na_l33, na_l39, na_l43, na_l45, na_l48, na_l49, na_l50, na_l51, na_l52, na_l53, na_l55, na_l56, na_l57, na_l60, na_l64, na_l71, na_l80, na_l96, na_l100, na_l101, na_l102, na_l103, na_l104, na_l105, na_l106, na_l107, na_l108, na_l109, na_l110, na_l111, na_l112, na_l113, na_l114, na_l115, na_l116, na_l117, na_l118, na_l119, na_l120, na_l121, na_l125, na_l128, na_l150, na_l192, na_l255, na_l999, na_l1000, na_l1248, na_l1344, na_l1875, na_l10000, ↓reduceIte, pf_and, pe_le, pf_le, pe_lt, pf_lt, pe_eq, pf_eq, true_and, and_true, false_and, and_false, true_or, or_true, false_or, or_false, I_67_0, I_67_1, I_67_2]
  | succ n ih =>
    intro i z X l4 l5 l6 h5 hw hJ hn
    have hle := bf_le hJ (by omega)
    have hb := hJ.1
    by_cases e : i = z.2.2
    · refine ⟨-1, z, X, hw, bf_none (sn_G hi hI h0 h1) ⟨h0, h1⟩ (e ▸ hJ) (e ▸ hn), by omega, by omega, fun _ => e ▸ hJ, ?_⟩
      rw [← e]
      rw [H_67_36]
      simp (disch := omega) only [Int.reduceAdd, Int.reduceMul, Int.reduceSub, Int.reduceNeg, na_add, na_sub, na_mul, na_neg, na_lt, na_le, na_eq, na_ofNat, bo_some, tl_some, tl_none, rc_int, rc_ref, rc_null, rc_none, rc_long, tb_0, tb_1, ↓mr_g0, mr_r0, mr_get, mr_upd, mr_at, mr_wr, Classical.not_not, not_true_eq_false, not_false_eq_true, na_l0, na_l1, na_l2, na_l3, na_l4, na_l5, na_l6, na_l7, na_l8, na_l9, na_l10, na_l14, na_l15, na_l16, na_l25, na_l30, na_l31, na_l32, na_l33, na_l39, na_l43, na_l45, na_l48, na_l49, na_l50, na_l51, na_l52, na_l53, na_l55, na_l56, na_l57, na_l60, na_l64, na_l71, na_l80, na_l96, na_l100, na_l101, na_l102, na_l103, na_l104, na_l105, na_l106, na_l107, na_l108, na_l109, na_l110, na_l111, na_l112, na_l113, na_l114, na_l115, na_l116, na_l117, na_l118, na_l119, na_l120, na_l121, na_l125, na_l128, na_l150, na_l192, na_l255, na_l999, na_l1000, na_l1248, na_l1344, na_l1875, na_l10000, ↓reduceIte, pf_and, pe_le, pf_le, pe_lt, pf_lt, pe_eq, pf_eq, true_and, and_true, false_and, and_false, true_or, or_true, false_or, or_false, I_67_0, I_67_1, I_67_2]
    · have hiz : i < z.2.2 := by omega
      have hq := hJ.2.2.1 i hJ.1.1 hiz
      obtain ⟨u, hu⟩ : ∃ u, z.2.1 i = u := ⟨_, rfl⟩
      obtain ⟨nn, hnn⟩ : ∃ nn, sn_w X0 u = nn := ⟨_, rfl⟩
      rw [hu] at hq
      have hcnt := (hI.1.1 (u % 15) (by omega) (by omega)).1
      have hnb : 0 ≤ nn ∧ nn ≤ 10 := hnn ▸ hcnt
      have r9 : X 9 i = u := by rw [hw.2.2]; exact hu
      have r8 : X 8 u = z.1 u := by rw [hw.2.1]
      by_cases q : u % 15 = goal
      · refine ⟨z.1 u, z, X, hw, hu ▸ bf_first (P := fun s => s % 15 = goal) (sn_G hi hI h0 h1) ⟨h0, h1⟩ hJ hiz (by rw [hu]; exact q) hn, by omega, by omega, fun a => by omega, ?_⟩
        rw [H_67_36]
        simp (disch := omega) only [Int.reduceAdd, Int.reduceMul, Int.reduceSub, Int.reduceNeg, na_add, na_sub, na_mul, na_neg, na_lt, na_le, na_eq, na_ofNat, bo_some, tl_some, tl_none, rc_int, rc_ref, rc_null, rc_none, rc_long, tb_0, tb_1, ↓mr_g0, mr_r0, mr_get, mr_upd, mr_at, mr_wr, Classical.not_not, not_true_eq_false, not_false_eq_true, na_l0, na_l1, na_l2, na_l3, na_l4, na_l5, na_l6, na_l7, na_l8, na_l9, na_l10, na_l14, na_l15, na_l16, na_l25, na_l30, na_l31, na_l32, na_l33, na_l39, na_l43, na_l45, na_l48, na_l49, na_l50, na_l51, na_l52, na_l53, na_l55, na_l56, na_l57, na_l60, na_l64, na_l71, na_l80, na_l96, na_l100, na_l101, na_l102, na_l103, na_l104, na_l105, na_l106, na_l107, na_l108, na_l109, na_l110, na_l111, na_l112, na_l113, na_l114, na_l115, na_l116, na_l117, na_l118, na_l119, na_l120, na_l121, na_l125, na_l128, na_l150, na_l192, na_l255, na_l999, na_l1000, na_l1248, na_l1344, na_l1875, na_l10000, ↓reduceIte, pf_and, pe_le, pf_le, pe_lt, pf_lt, pe_eq, pf_eq, true_and, and_true, false_and, and_false, true_or, or_true, false_or, or_false, ↓csk_0, ↓cso_0_0, ↓cso_0_1, ↓cso_0_2, ↓cso_0_3, ↓cso_0_4, ↓cso_0_5, ↓csk_1, ↓cso_1_0, ↓cso_1_1, ↓csk_37, ↓cso_37_0, ↓cso_37_1, ↓cso_37_2, ↓csk_277, ↓cso_277_0, ↓cso_277_1, ↓csk_314, ↓cso_314_0, ↓cso_314_1, ↓cso_314_2, ↓cso_314_3, ↓cso_314_4, ↓cso_314_5, ↓cso_314_6, ↓cso_314_7, ↓cso_314_8, ↓cso_314_9, ↓csg_2, ↓csn_2, ↓csg_279, ↓csn_279, ↓csg_315, ↓csn_315, ↓csg_316, ↓csn_316, ↓csg_317, ↓csn_317, ↓csg_318, ↓csn_318, ↓csg_319, ↓csn_319, ↓csg_320, ↓csn_320, ↓csg_321, ↓csn_321, ↓csg_322, ↓csn_322, ↓csg_323, ↓csn_323, ↓csq_38, ↓csm_38, ↓csq_278, ↓csm_278, r140_315, r140_316, r140_317, r140_318, r140_319, r140_320, r140_321, r140_322, r140_323, s140_2, s140_3, s140_4, s140_5, s140_6, s140_7, s140_9, s140_10, s140_12, s140_13, s140_14, ↓spo_1_0, ↓spo_1_1, ↓spo_1_2, ↓spo_1_3, ↓spo_1_4, ↓spo_1_5, ↓spo_1_6, ↓spo_8_0, ↓spo_8_1, ↓spo_8_2, ↓spo_11_0, ↓spo_11_1, ↓spo_11_2, ↓spo_11_3, ↓spo_11_4, ↓spo_11_5, na_div, na_rem, I_67_0, I_67_1, I_67_2, r9, r8, q]
      · obtain ⟨z2, X2, l7, b1, b2, b3, b4, b5⟩ := h67k (C := C) (V := V) (PR := PR) (PZ := PZ) (σ := σ) (goal := goal) hi hI h0 h1 hnn hnb.2 nn.toNat 0 z X l6 (by omega) (by omega) hw hJ hiz hu
        have hu2 : z2.2.1 i = u := by rw [b4 i (by omega) (Int.le_refl _)]; exact hu
        have hJ2 := bf_next (N := 1875) (nx := sn_x X0) (nw := sn_w X0) (s0 := s0) (i := i) (z := z2) (by rw [hu2, hnn]; exact b2) b3
        obtain ⟨r, z3, X3, c1, c2, c3, c4, c5, c6⟩ := ih (i + 1) z2 X2 (some (.int (Int32.ofInt u))) (some (.int (Int32.ofInt nn))) l7 (by omega) b1 hJ2 (fun j d1 d2 => by
          rw [b4 j d1 (by omega)]
          by_cases ej : j = i
          · rw [ej, hu]; exact q
          · exact hn j d1 (by omega))
        refine ⟨r, z3, X3, c1, c2, c3, c4, c5, Eq.trans ?_ (b5.trans c6)⟩
        generalize hQ : ev 67 (80, [some (.ref (C + 314)), some (.int (Int32.ofInt goal)), some (.int (Int32.ofInt z.2.2)), some (.int (Int32.ofInt i)), some (.int (Int32.ofInt u)), some (.int (Int32.ofInt 0)), l6], []) (cs C V PR PZ X σ) = Q
        rw [H_67_36]
        simp (disch := omega) only [Int.reduceAdd, Int.reduceMul, Int.reduceSub, Int.reduceNeg, na_add, na_sub, na_mul, na_neg, na_lt, na_le, na_eq, na_ofNat, bo_some, tl_some, tl_none, rc_int, rc_ref, rc_null, rc_none, rc_long, tb_0, tb_1, ↓mr_g0, mr_r0, mr_get, mr_upd, mr_at, mr_wr, Classical.not_not, not_true_eq_false, not_false_eq_true, na_l0, na_l1, na_l2, na_l3, na_l4, na_l5, na_l6, na_l7, na_l8, na_l9, na_l10, na_l14, na_l15, na_l16, na_l25, na_l30, na_l31, na_l32, na_l33, na_l39, na_l43, na_l45, na_l48, na_l49, na_l50, na_l51, na_l52, na_l53, na_l55, na_l56, na_l57, na_l60, na_l64, na_l71, na_l80, na_l96, na_l100, na_l101, na_l102, na_l103, na_l104, na_l105, na_l106, na_l107, na_l108, na_l109, na_l110, na_l111, na_l112, na_l113, na_l114, na_l115, na_l116, na_l117, na_l118, na_l119, na_l120, na_l121, na_l125, na_l128, na_l150, na_l192, na_l255, na_l999, na_l1000, na_l1248, na_l1344, na_l1875, na_l10000, ↓reduceIte, pf_and, pe_le, pf_le, pe_lt, pf_lt, pe_eq, pf_eq, true_and, and_true, false_and, and_false, true_or, or_true, false_or, or_false, ↓csk_0, ↓cso_0_0, ↓cso_0_1, ↓cso_0_2, ↓cso_0_3, ↓cso_0_4, ↓cso_0_5, ↓csk_1, ↓cso_1_0, ↓cso_1_1, ↓csk_37, ↓cso_37_0, ↓cso_37_1, ↓cso_37_2, ↓csk_277, ↓cso_277_0, ↓cso_277_1, ↓csk_314, ↓cso_314_0, ↓cso_314_1, ↓cso_314_2, ↓cso_314_3, ↓cso_314_4, ↓cso_314_5, ↓cso_314_6, ↓cso_314_7, ↓cso_314_8, ↓cso_314_9, ↓csg_2, ↓csn_2, ↓csg_279, ↓csn_279, ↓csg_315, ↓csn_315, ↓csg_316, ↓csn_316, ↓csg_317, ↓csn_317, ↓csg_318, ↓csn_318, ↓csg_319, ↓csn_319, ↓csg_320, ↓csn_320, ↓csg_321, ↓csn_321, ↓csg_322, ↓csn_322, ↓csg_323, ↓csn_323, ↓csq_38, ↓csm_38, ↓csq_278, ↓csm_278, r140_315, r140_316, r140_317, r140_318, r140_319, r140_320, r140_321, r140_322, r140_323, s140_2, s140_3, s140_4, s140_5, s140_6, s140_7, s140_9, s140_10, s140_12, s140_13, s140_14, ↓spo_1_0, ↓spo_1_1, ↓spo_1_2, ↓spo_1_3, ↓spo_1_4, ↓spo_1_5, ↓spo_1_6, ↓spo_8_0, ↓spo_8_1, ↓spo_8_2, ↓spo_11_0, ↓spo_11_1, ↓spo_11_2, ↓spo_11_3, ↓spo_11_4, ↓spo_11_5, na_div, na_rem, I_67_0, I_67_1, I_67_2, r9, r8, q, hQ]
/-- fewestByWaves -/
theorem c67 {R : mr_R} (hi : mi K R) {X0 X : Nat → mr_R} {f s0 goal : Int} (hI : sb_I R f X0) (h0 : 0 ≤ s0) (h1 : s0 < 1875) (hV : V 3 = s0) (hg : -1 ≤ goal ∧ goal < 15) (hX : ∀ j, j ≠ 8 → j ≠ 9 → X j = X0 j) : ∃ r z2 X2, wv X0 X2 z2 ∧ bf_L (sn_x X0) (sn_w X0) s0 (fun s => s % 15 = goal) r ∧ -1 ≤ r ∧ r < 1875 ∧ (r = -1 → bf_J 1875 (sn_x X0) (sn_w X0) s0 z2.2.2 0 z2) ∧ cal 67 [.ref (C + 314), .int (Int32.ofInt goal)] (cs C V PR PZ X σ) = some (some (.int (Int32.ofInt r)), cs C V PR PZ X2 σ) := by
  obtain ⟨r, z2, X2, a1, a2, a3, a4, a5, a6⟩ := h67 (C := C) (V := V) (PR := PR) (PZ := PZ) (σ := σ) hi hI h0 h1 hg 1875 0 (mr_st (mc_fl (X 8) 1875 (-1)) s0 0, mr_st (X 9) 0 s0, 1) (ms_a (ms_a X 8 (mr_st (mc_fl (X 8) 1875 (-1)) s0 0)) 9 (mr_st (X 9) 0 s0)) none none none (by omega) ⟨fun j b1 b2 => by rw [sa_ne b2, sa_ne b1, hX j b1 b2], by rw [sa_ne (by decide), sa_eq rfl], by rw [sa_eq rfl]⟩ (bf_J0 h0 h1 (fun v b1 b2 => by
      by_cases e : v = s0
      · rw [ms_eq e, if_pos e]
      · rw [ms_ne e, if_neg e]
        unfold mc_fl
        rw [if_pos (by omega)]) (ms_eq rfl)) (fun j b1 b2 => by omega)
  refine ⟨r, z2, X2, a1, a2, a3, a4, a5, Eq.trans ?_ a6⟩
  rw [E_67]
  simp (disch := first | omega | decide) only [Int.reduceAdd, Int.reduceMul, Int.reduceSub, Int.reduceNeg, na_add, na_sub, na_mul, na_neg, na_lt, na_le, na_eq, na_ofNat, bo_some, tl_some, tl_none, rc_int, rc_ref, rc_null, rc_none, rc_long, tb_0, tb_1, ↓mr_g0, mr_r0, mr_get, mr_upd, mr_at, mr_wr, Classical.not_not, not_true_eq_false, not_false_eq_true, na_l0, na_l1, na_l2, na_l3, na_l4, na_l5, na_l6, na_l7, na_l8, na_l9, na_l10, na_l14, na_l15, na_l16, na_l25, na_l30, na_l31, na_l32, na_l33, na_l39, na_l43, na_l45, na_l48, na_l49, na_l50, na_l51, na_l52, na_l53, na_l55, na_l56, na_l57, na_l60, na_l64, na_l71, na_l80, na_l96, na_l100, na_l101, na_l102, na_l103, na_l104, na_l105, na_l106, na_l107, na_l108, na_l109, na_l110, na_l111, na_l112, na_l113, na_l114, na_l115, na_l116, na_l117, na_l118, na_l119, na_l120, na_l121, na_l125, na_l128, na_l150, na_l192, na_l255, na_l999, na_l1000, na_l1248, na_l1344, na_l1875, na_l10000, ↓reduceIte, pf_and, pe_le, pf_le, pe_lt, pf_lt, pe_eq, pf_eq, true_and, and_true, false_and, and_false, true_or, or_true, false_or, or_false, ↓csk_0, ↓cso_0_0, ↓cso_0_1, ↓cso_0_2, ↓cso_0_3, ↓cso_0_4, ↓cso_0_5, ↓csk_1, ↓cso_1_0, ↓cso_1_1, ↓csk_37, ↓cso_37_0, ↓cso_37_1, ↓cso_37_2, ↓csk_277, ↓cso_277_0, ↓cso_277_1, ↓csk_314, ↓cso_314_0, ↓cso_314_1, ↓cso_314_2, ↓cso_314_3, ↓cso_314_4, ↓cso_314_5, ↓cso_314_6, ↓cso_314_7, ↓cso_314_8, ↓cso_314_9, ↓csg_2, ↓csn_2, ↓csg_279, ↓csn_279, ↓csg_315, ↓csn_315, ↓csg_316, ↓csn_316, ↓csg_317, ↓csn_317, ↓csg_318, ↓csn_318, ↓csg_319, ↓csn_319, ↓csg_320, ↓csn_320, ↓csg_321, ↓csn_321, ↓csg_322, ↓csn_322, ↓csg_323, ↓csn_323, ↓csq_38, ↓csm_38, ↓csq_278, ↓csm_278, r140_315, r140_316, r140_317, r140_318, r140_319, r140_320, r140_321, r140_322, r140_323, s140_2, s140_3, s140_4, s140_5, s140_6, s140_7, s140_9, s140_10, s140_12, s140_13, s140_14, ↓spo_1_0, ↓spo_1_1, ↓spo_1_2, ↓spo_1_3, ↓spo_1_4, ↓spo_1_5, ↓spo_1_6, ↓spo_8_0, ↓spo_8_1, ↓spo_8_2, ↓spo_11_0, ↓spo_11_1, ↓spo_11_2, ↓spo_11_3, ↓spo_11_4, ↓spo_11_5, w141_315, w229_315, w141_316, w229_316, w141_317, w229_317, w141_318, w229_318, w141_319, w229_319, w141_320, w229_320, w141_321, w229_321, w141_322, w229_322, w141_323, w229_323, I_67_0, I_67_1, I_67_2, hV, sa_eq, sa_ne, sa_up]
end CSB
