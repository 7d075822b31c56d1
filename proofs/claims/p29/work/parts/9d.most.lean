/-! Most flies of the class. -/
theorem sb_10 {R : mr_R} {f : Int} {X : Nat → mr_R} {Y : mr_R} (hI : sb_I R f X) : sb_I R f (ms_a X 10 Y) := by
  have e2 : (ms_a X 10 Y) 2 = X 2 := sa_ne (by decide)
  have e3 : (ms_a X 10 Y) 3 = X 3 := sa_ne (by decide)
  have e4 : (ms_a X 10 Y) 4 = X 4 := sa_ne (by decide)
  have e5 : (ms_a X 10 Y) 5 = X 5 := sa_ne (by decide)
  have e6 : (ms_a X 10 Y) 6 = X 6 := sa_ne (by decide)
  have e7 : (ms_a X 10 Y) 7 = X 7 := sa_ne (by decide)
  unfold sb_I sy_J sw_ok sw_in st_I at *
  rw [sp_cg3 e3 e4, e2, e3, e4, e5, e6, e7]
  exact hI
theorem sn_10 {X : Nat → mr_R} {Y : mr_R} : sn_x (ms_a X 10 Y) = sn_x X := by
  have e2 : (ms_a X 10 Y) 2 = X 2 := sa_ne (by decide)
  have e5 : (ms_a X 10 Y) 5 = X 5 := sa_ne (by decide)
  have e6 : (ms_a X 10 Y) 6 = X 6 := sa_ne (by decide)
  funext s k
  unfold sn_x
  rw [e2, e5, e6]
/-- pads of wheels -/
def be_ok (R : mr_R) (a : Int) : Prop := 0 ≤ a ∧ a < 15 ∧ a / 5 < R 0
theorem be_G {K : Int} {R : mr_R} (hi : mi K R) {X : Nat → mr_R} {f : Int} (hI : sb_I R f X) : ∀ s k, (0 ≤ s ∧ s < 1875) → 0 ≤ k → k < sn_w X s → sn_x X s k ≠ -1 → (0 ≤ sn_x X s k ∧ sn_x X s k < 1875) ∧ be_ok R (X 5 (sn_x X s k)) := by
  intro s k hs h2 h3 h4
  have hc := hi.c
  have hbd := sn_bd hi hI hs.1 hs.2 h2 h3 h4
  refine ⟨hbd, ?_⟩
  have hv := sn_V hi hI hs.1 hs.2 h2 h3 h4
  rw [hI.2.2.2 _ hbd.1 hbd.2] at hv ⊢
  have h5 := (sp_iff hi).mp hv
  obtain ⟨w, hw⟩ : ∃ w, sn_x X s k % 15 / 5 = w := ⟨_, rfl⟩
  rw [hw] at h5 ⊢
  have hww := hi.w h5.2.1.1 h5.2.1.2.1
  unfold sp_v
  rw [if_pos h5]
  have b1 := Int.emod_nonneg (sn_x X s k % 5 - sg_t (sn_x X s k / 15) w) (show R (9 + 10 * w + 0) ≠ 0 by omega)
  have b2 := Int.emod_lt_of_pos (sn_x X s k % 5 - sg_t (sn_x X s k / 15) w) (show 0 < R (9 + 10 * w + 0) by omega)
  unfold be_ok
  omega
def be_Y (R Y : mr_R) : Prop := ∀ a, be_ok R a → 0 ≤ Y a ∧ Y a ≤ 9
theorem be_Y0 {R Y : mr_R} (h : be_Y R Y) (a : Int) : be_Y R (mr_st Y a 0) := by
  intro x hx
  by_cases q : x = a
  · rw [ms_eq q]; omega
  · rw [ms_ne q]; exact h x hx
theorem st_st {Y : mr_R} {a v : Int} : mr_st (mr_st Y a v) a (Y a) = Y := by
  funext i
  by_cases q : i = a
  · rw [ms_eq q, q]
  · rw [ms_ne q, ms_ne q]
section CSB
variable {C : Nat} {V : mr_R} {PR PZ : Nat → mr_R} {σ : ri_S} {K : Int}
/-- what a level says -/
def be_L (C : Nat) (V : mr_R) (PR PZ : Nat → mr_R) (σ : ri_S) (R : mr_R) (X : Nat → mr_R) (m : Nat) (d : Int) : Prop := ∀ (s : Int) (Y : mr_R) (q : Int), 0 ≤ s → s < 1875 → be_Y R Y → 0 ≤ q → q ≤ d → ∃ r, be_M (sn_x X) (sn_w X) (X 5) q.toNat s Y r ∧ (0 ≤ r ∧ r ≤ 9 * q) ∧ cal m [.ref (C + 314), .int (Int32.ofInt s), .int (Int32.ofInt q)] (cs C V PR PZ (ms_a X 10 Y) σ) = some (some (.int (Int32.ofInt r)), cs C V PR PZ (ms_a X 10 Y) σ)
theorem c73 {R : mr_R} {X : Nat → mr_R} : be_L C V PR PZ σ R X 73 0 := by
  intro s Y q h1 h2 h3 h4 h5
  obtain rfl : q = 0 := by omega
  refine ⟨0, be_M0, by omega, ?_⟩
  rw [E_73]
  simp (disch := omega) only [Int.reduceAdd, Int.reduceMul, Int.reduceSub, Int.reduceNeg, na_add, na_sub, na_mul, na_neg, na_lt, na_le, na_eq, na_ofNat, bo_some, tl_some, tl_none, rc_int, rc_ref, rc_null, rc_none, rc_long, tb_0, tb_1, ↓mr_g0, mr_r0, mr_get, mr_upd, mr_at, mr_wr, Classical.not_not, not_true_eq_false, not_false_eq_true, na_l0, na_l1, na_l2, na_l3, na_l4, na_l5, na_l6, na_l7, na_l8, na_l9, na_l10, na_l14, na_l15, na_l16, na_l25, na_l30, na_l31, na_l32, na_l33, na_l39, na_l43, na_l45, na_l48, na_l49, na_l50, na_l51, na_l52, na_l53, na_l55, na_l56, na_l57, na_l60, na_l64, na_l71, na_l80, na_l96, na_l100, na_l101, na_l102, na_l103, na_l104, na_l105, na_l106, na_l107, na_l108, na_l109, na_l110, na_l111, na_l112, na_l113, na_l114, na_l115, na_l116, na_l117, na_l118, na_l119, na_l120, na_l121, na_l125, na_l128, na_l150, na_l192, na_l255, na_l999, na_l1000, na_l1248, na_l1344, na_l1875, na_l10000, ↓reduceIte, pf_and, pe_le, pf_le, pe_lt, pf_lt, pe_eq, pf_eq, true_and, and_true, false_and, and_false, true_or, or_true, false_or, or_false, I_73_0, I_73_1]
theorem h74 {R : mr_R} {X : Nat → mr_R} {f : Int} (hi : mi K R) (hI : sb_I R f X) (hL : be_L C V PR PZ σ R X 73 0) {s q nn : Int} {Y : mr_R} (h1 : 0 ≤ s) (h2 : s < 1875) (hY : be_Y R Y) (q1 : 0 ≤ q) (q2 : q ≤ 0) (hnn : sn_w X s = nn) : ∀ (n : Nat) (k best : Int) (l5 l6 l7 : Option Value), ri_clr l5 = l5 → ri_clr l6 = l6 → 0 ≤ k → k + n = nn → be_P (sn_x X) (sn_w X) (X 5) q.toNat s Y k best → 0 ≤ best → best ≤ 9 * (q + 1) → ∃ r, be_P (sn_x X) (sn_w X) (X 5) q.toNat s Y nn r ∧ (0 ≤ r ∧ r ≤ 9 * (q + 1)) ∧ ev 74 (11, [some (.ref (C + 314)), some (.int (Int32.ofInt s)), some (.int (Int32.ofInt (q + 1))), some (.int (Int32.ofInt best)), some (.int (Int32.ofInt k)), l5, l6, l7], []) (cs C V PR PZ (ms_a X 10 Y) σ) = some (some (.int (Int32.ofInt r)), cs C V PR PZ (ms_a X 10 Y) σ) := by
  have cnt := (hI.1.1 (s % 15) (by omega) (by omega)).1
  have e7 : X 7 (s % 15) = nn := hnn
  rw [e7] at cnt
  have n7 : ∀ Z : mr_R, (ms_a X 10 Z) 7 = X 7 := fun Z => sa_ne (by decide)
  have n5 : ∀ Z : mr_R, (ms_a X 10 Z) 5 = X 5 := fun Z => sa_ne (by decide)
  intro n
  induction n with
  | zero =>
    intro k best l5 l6 l7 hl5 hl6 k1 k2 hP b1 b2
    obtain rfl : k = nn := by omega
    refine ⟨best, hP, ⟨b1, b2⟩, ?_⟩
    rw [H_74_11]
    simp (disch := omega) only [Int.reduceAdd, Int.reduceMul, Int.reduceSub, Int.reduceNeg, na_add, na_sub, na_mul, na_neg, na_lt, na_le, na_eq, na_ofNat, bo_some, tl_some, tl_none, rc_int, rc_ref, rc_null, rc_none, rc_long, tb_0, tb_1, ↓mr_g0, mr_r0, mr_get, mr_upd, mr_at, mr_wr, Classical.not_not, not_true_eq_false, not_false_eq_true, na_l0, na_l1, na_l2, na_l3, na_l4, na_l5, na_l6, na_l7, na_l8, na_l9, na_l10, na_l14, na_l15, na_l16, na_l25, na_l30, na_l31, na_l32, na_l33, na_l39, na_l43, na_l45, na_l48, na_l49, na_l50, na_l51, na_l52, na_l53, na_l55, na_l56, na_l57, na_l60, na_l64, na_l71, na_l80, na_l96, na_l100, na_l101, na_l102, na_l103, na_l104, na_l105, na_l106, na_l107, na_l108, na_l109, na_l110, na_l111, na_l112, na_l113, na_l114, na_l115, na_l116, na_l117, na_l118, na_l119, na_l120, na_l121, na_l125, na_l128, na_l150, na_l192, na_l255, na_l999, na_l1000, na_l1248, na_l1344, na_l1875, na_l10000, ↓reduceIte, pf_and, pe_le, pf_le, pe_lt, pf_lt, pe_eq, pf_eq, true_and, and_true, false_and, and_false, true_or, or_true, false_or, or_false, ↓csk_0, ↓cso_0_0, ↓cso_0_1, ↓cso_0_2, ↓cso_0_3, ↓cso_0_4, ↓cso_0_5, ↓csk_1, ↓cso_1_0, ↓cso_1_1, ↓csk_37, ↓cso_37_0, ↓cso_37_1, ↓cso_37_2, ↓csk_277, ↓cso_277_0, ↓cso_277_1, ↓csk_314, ↓cso_314_0, ↓cso_314_1, ↓cso_314_2, ↓cso_314_3, ↓cso_314_4, ↓cso_314_5, ↓cso_314_6, ↓cso_314_7, ↓cso_314_8, ↓cso_314_9, ↓csg_2, ↓csn_2, ↓csg_279, ↓csn_279, ↓csg_315, ↓csn_315, ↓csg_316, ↓csn_316, ↓csg_317, ↓csn_317, ↓csg_318, ↓csn_318, ↓csg_319, ↓csn_319, ↓csg_320, ↓csn_320, ↓csg_321, ↓csn_321, ↓csg_322, ↓csn_322, ↓csg_323, ↓csn_323, ↓csq_38, ↓csm_38, ↓csq_278, ↓csm_278, r140_315, r140_316, r140_317, r140_318, r140_319, r140_320, r140_321, r140_322, r140_323, s140_2, s140_3, s140_4, s140_5, s140_6, s140_7, s140_9, s140_10, s140_12, s140_13, s140_14, ↓spo_1_0, ↓spo_1_1, ↓spo_1_2, ↓spo_1_3, ↓spo_1_4, ↓spo_1_5, ↓spo_1_6, ↓spo_8_0, ↓spo_8_1, ↓spo_8_2, ↓spo_11_0, ↓spo_11_1, ↓spo_11_2, ↓spo_11_3, ↓spo_11_4, ↓spo_11_5, na_div, na_rem, I_74_0, I_74_1, n7, e7]
  | succ n ih =>
    intro k best l5 l6 l7 hl5 hl6 k1 k2 hP b1 b2
    have e66 := c66 (C := C) (V := V) (PR := PR) (PZ := PZ) (X := ms_a X 10 Y) (σ := σ) (k := k) hi (sb_10 (Y := Y) hI) h1 h2 k1 (by rw [n7, e7]; omega)
    rw [sn_10] at e66
    by_cases c : sn_x X s k = -1
    · obtain ⟨r, r1, r2, r3⟩ := ih (k + 1) best (some (.int (Int32.ofInt (-1)))) l6 l7 rfl hl6 (by omega) (by omega) (be_Pno hP c) b1 b2
      refine ⟨r, r1, r2, Eq.trans ?_ r3⟩
      rw [c] at e66
      generalize hQ : ev 74 (11, [some (.ref (C + 314)), some (.int (Int32.ofInt s)), some (.int (Int32.ofInt (q + 1))), some (.int (Int32.ofInt best)), some (.int (Int32.ofInt (k + 1))), some (.int (Int32.ofInt (-1))), l6, l7], []) (cs C V PR PZ (ms_a X 10 Y) σ) = Q
      rw [H_74_11]
      simp (disch := omega) only [Int.reduceAdd, Int.reduceMul, Int.reduceSub, Int.reduceNeg, na_add, na_sub, na_mul, na_neg, na_lt, na_le, na_eq, na_ofNat, bo_some, tl_some, tl_none, rc_int, rc_ref, rc_null, rc_none, rc_long, tb_0, tb_1, ↓mr_g0, mr_r0, mr_get, mr_upd, mr_at, mr_wr, Classical.not_not, not_true_eq_false, not_false_eq_true, na_l0, na_l1, na_l2, na_l3, na_l4, na_l5, na_l6, na_l7, na_l8, na_l9, na_l10, na_l14, na_l15, na_l16, na_l25, na_l30, na_l31, na_l32, na_l33, na_l39, na_l43, na_l45, na_l48, na_l49, na_l50, na_l51, na_l52, na_l53, na_l55, na_l56, na_l57, na_l60, na_l64, na_l71, na_l80, na_l96, na_l100, na_l101, na_l102, na_l103, na_l104, na_l105, na_l106, na_l107, na_l108, na_l109, na_l110, na_l111, na_l112, na_l113, na_l114, na_l115, na_l116, na_l117, na_l118, na_l119, na_l120, na_l121, na_l125, na_l128, na_l150, na_l192, na_l255, na_l999, na_l1000, na_l1248, na_l1344, na_l1875, na_l10000, ↓reduceIte, pf_and, pe_le, pf_le, pe_lt, pf_lt, pe_eq, pf_eq, true_and, and_true, false_and, and_false, true_or, or_true, false_or, or_false, ↓csk_0, ↓cso_0_0, ↓cso_0_1, ↓cso_0_2, ↓cso_0_3, ↓cso_0_4, ↓cso_0_5, ↓csk_1, ↓cso_1_0, ↓cso_1_1, ↓csk_37, ↓cso_37_0, ↓cso_37_1, ↓cso_37_2, ↓csk_277, ↓cso_277_0, ↓cso_277_1, ↓csk_314, ↓cso_314_0, ↓cso_314_1, ↓cso_314_2, ↓cso_314_3, ↓cso_314_4, ↓cso_314_5, ↓cso_314_6, ↓cso_314_7, ↓cso_314_8, ↓cso_314_9, ↓csg_2, ↓csn_2, ↓csg_279, ↓csn_279, ↓csg_315, ↓csn_315, ↓csg_316, ↓csn_316, ↓csg_317, ↓csn_317, ↓csg_318, ↓csn_318, ↓csg_319, ↓csn_319, ↓csg_320, ↓csn_320, ↓csg_321, ↓csn_321, ↓csg_322, ↓csn_322, ↓csg_323, ↓csn_323, ↓csq_38, ↓csm_38, ↓csq_278, ↓csm_278, r140_315, r140_316, r140_317, r140_318, r140_319, r140_320, r140_321, r140_322, r140_323, s140_2, s140_3, s140_4, s140_5, s140_6, s140_7, s140_9, s140_10, s140_12, s140_13, s140_14, ↓spo_1_0, ↓spo_1_1, ↓spo_1_2, ↓spo_1_3, ↓spo_1_4, ↓spo_1_5, ↓spo_1_6, ↓spo_8_0, ↓spo_8_1, ↓spo_8_2, ↓spo_11_0, ↓spo_11_1, ↓spo_11_2, ↓spo_11_3, ↓spo_11_4, ↓spo_11_5, na_div, na_rem, I_74_0, I_74_1, n7, e7, e66, hQ]
    · obtain ⟨g1, g2⟩ := be_G hi hI s k ⟨h1, h2⟩ k1 (by rw [hnn]; omega) c
      obtain ⟨v, hv⟩ : ∃ v, sn_x X s k = v := ⟨_, rfl⟩
      obtain ⟨a, ha⟩ : ∃ a, X 5 v = a := ⟨_, rfl⟩
      have hpy := fun m hm => be_Pyes (nx := sn_x X) (nw := sn_w X) (pd := X 5) (n := q.toNat) (s := s) (k := k) (Y := Y) (r := best) (m := m) hP k1 c hm
      rw [hv] at e66 c g1 g2 hpy
      rw [ha] at g2 hpy
      have ya := hY a g2
      obtain ⟨m, m1, m2, m3⟩ := hL v (mr_st Y a 0) q g1.1 g1.2 (be_Y0 hY a) q1 q2
      have hp2 := hpy m m1
      have ga := g2.1
      have gb := g2.2.1
      by_cases c2 : best < Y a + m
      · rw [if_pos c2] at hp2
        obtain ⟨r, r1, r2, r3⟩ := ih (k + 1) (Y a + m) (some (.int (Int32.ofInt v))) (some (.int (Int32.ofInt a))) (some (.int (Int32.ofInt (Y a)))) rfl rfl (by omega) (by omega) hp2 (by omega) (by omega)
        refine ⟨r, r1, r2, Eq.trans ?_ r3⟩
        generalize hQ : ev 74 (11, [some (.ref (C + 314)), some (.int (Int32.ofInt s)), some (.int (Int32.ofInt (q + 1))), some (.int (Int32.ofInt (Y a + m))), some (.int (Int32.ofInt (k + 1))), some (.int (Int32.ofInt v)), some (.int (Int32.ofInt a)), some (.int (Int32.ofInt (Y a)))], []) (cs C V PR PZ (ms_a X 10 Y) σ) = Q
        rw [H_74_11]
        simp (disch := omega) only [Int.reduceAdd, Int.reduceMul, Int.reduceSub, Int.reduceNeg, na_add, na_sub, na_mul, na_neg, na_lt, na_le, na_eq, na_ofNat, bo_some, tl_some, tl_none, rc_int, rc_ref, rc_null, rc_none, rc_long, tb_0, tb_1, ↓mr_g0, mr_r0, mr_get, mr_upd, mr_at, mr_wr, Classical.not_not, not_true_eq_false, not_false_eq_true, na_l0, na_l1, na_l2, na_l3, na_l4, na_l5, na_l6, na_l7, na_l8, na_l9, na_l10, na_l14, na_l15, na_l16, na_l25, na_l30, na_l31, na_l32, na_l33, na_l39, na_l43, na_l45, na_l48, na_l49, na_l50, na_l51, na_l52, na_l53, na_l55, na_l56, na_l57, na_l60, na_l64, na_l71, na_l80, na_l96, na_l100, na_l101, na_l102, na_l103, na_l104, na_l105, na_l106, na_l107, na_l108, na_l109, na_l110, na_l111, na_l112, na_l113, na_l114, na_l115, na_l116, na_l117, na_l118, na_l119, na_l120, na_l121, na_l125, na_l128, na_l150, na_l192, na_l255, na_l999, na_l1000, na_l1248, na_l1344, na_l1875, na_l10000, ↓reduceIte, pf_and, pe_le, pf_le, pe_lt, pf_lt, pe_eq, pf_eq, true_and, and_true, false_and, and_false, true_or, or_true, false_or, or_false, ↓csk_0, ↓cso_0_0, ↓cso_0_1, ↓cso_0_2, ↓cso_0_3, ↓cso_0_4, ↓cso_0_5, ↓csk_1, ↓cso_1_0, ↓cso_1_1, ↓csk_37, ↓cso_37_0, ↓cso_37_1, ↓cso_37_2, ↓csk_277, ↓cso_277_0, ↓cso_277_1, ↓csk_314, ↓cso_314_0, ↓cso_314_1, ↓cso_314_2, ↓cso_314_3, ↓cso_314_4, ↓cso_314_5, ↓cso_314_6, ↓cso_314_7, ↓cso_314_8, ↓cso_314_9, ↓csg_2, ↓csn_2, ↓csg_279, ↓csn_279, ↓csg_315, ↓csn_315, ↓csg_316, ↓csn_316, ↓csg_317, ↓csn_317, ↓csg_318, ↓csn_318, ↓csg_319, ↓csn_319, ↓csg_320, ↓csn_320, ↓csg_321, ↓csn_321, ↓csg_322, ↓csn_322, ↓csg_323, ↓csn_323, ↓csq_38, ↓csm_38, ↓csq_278, ↓csm_278, r140_315, r140_316, r140_317, r140_318, r140_319, r140_320, r140_321, r140_322, r140_323, s140_2, s140_3, s140_4, s140_5, s140_6, s140_7, s140_9, s140_10, s140_12, s140_13, s140_14, ↓spo_1_0, ↓spo_1_1, ↓spo_1_2, ↓spo_1_3, ↓spo_1_4, ↓spo_1_5, ↓spo_1_6, ↓spo_8_0, ↓spo_8_1, ↓spo_8_2, ↓spo_11_0, ↓spo_11_1, ↓spo_11_2, ↓spo_11_3, ↓spo_11_4, ↓spo_11_5, w141_315, w229_315, w141_316, w229_316, w141_317, w229_317, w141_318, w229_318, w141_319, w229_319, w141_320, w229_320, w141_321, w229_321, w141_322, w229_322, w141_323, w229_323, na_div, na_rem, I_74_0, I_74_1, n7, n5, e7, e66, c, ha, sa_eq, sa_up, m3, c2, st_st, Int.add_sub_cancel, hQ]
      · rw [if_neg c2] at hp2
        obtain ⟨r, r1, r2, r3⟩ := ih (k + 1) best (some (.int (Int32.ofInt v))) (some (.int (Int32.ofInt a))) (some (.int (Int32.ofInt (Y a)))) rfl rfl (by omega) (by omega) hp2 (by omega) (by omega)
        refine ⟨r, r1, r2, Eq.trans ?_ r3⟩
        generalize hQ : ev 74 (11, [some (.ref (C + 314)), some (.int (Int32.ofInt s)), some (.int (Int32.ofInt (q + 1))), some (.int (Int32.ofInt best)), some (.int (Int32.ofInt (k + 1))), some (.int (Int32.ofInt v)), some (.int (Int32.ofInt a)), some (.int (Int32.ofInt (Y a)))], []) (cs C V PR PZ (ms_a X 10 Y) σ) = Q
        rw [H_74_11]
        simp (disch := omega) only [Int.reduceAdd, Int.reduceMul, Int.reduceSub, Int.reduceNeg, na_add, na_sub, na_mul, na_neg, na_lt, na_le, na_eq, na_ofNat, bo_some, tl_some, tl_none, rc_int, rc_ref, rc_null, rc_none, rc_long, tb_0, tb_1, ↓mr_g0, mr_r0, mr_get, mr_upd, mr_at, mr_wr, Classical.not_not, not_true_eq_false, not_false_eq_true, na_l0, na_l1, na_l2, na_l3, na_l4, na_l5, na_l6, na_l7, na_l8, na_l9, na_l10, na_l14, na_l15, na_l16, na_l25, na_l30, na_l31, na_l32, na_l33, na_l39, na_l43, na_l45, na_l48, na_l49, na_l50, na_l51, na_l52, na_l53, na_l55, na_l56, na_l57, na_l60, na_l64, na_l71, na_l80, na_l96, na_l100, na_l101, na_l102, na_l103, na_l104, na_l105, na_l106, na_l107, na_l108, na_l109, na_l110, na_l111, na_l112, na_l113, na_l114, na_l115, na_l116, na_l117, na_l118, na_l119, na_l120, na_l121, na_l125, na_l128, na_l150, na_l192, na_l255, na_l999, na_l1000, na_l1248, na_l1344, na_l1875, na_l10000, ↓reduceIte, pf_and, pe_le, pf_le, pe_lt, pf_lt, pe_eq, pf_eq, true_and, and_true, false_and, and_false, true_or, or_true, false_or, or_false, ↓csk_0, ↓cso_0_0, ↓cso_0_1, ↓cso_0_2, ↓cso_0_3, ↓cso_0_4, ↓cso_0_5, ↓csk_1, ↓cso_1_0, ↓cso_1_1, ↓csk_37, ↓cso_37_0, ↓cso_37_1, ↓cso_37_2, ↓csk_277, ↓cso_277_0, ↓cso_277_1, ↓csk_314, ↓cso_314_0, ↓cso_314_1, ↓cso_314_2, ↓cso_314_3, ↓cso_314_4, ↓cso_314_5, ↓cso_314_6, ↓cso_314_7, ↓cso_314_8, ↓cso_314_9, ↓csg_2, ↓csn_2, ↓csg_279, ↓csn_279, ↓csg_315, ↓csn_315, ↓csg_316, ↓csn_316, ↓csg_317, ↓csn_317, ↓csg_318, ↓csn_318, ↓csg_319, ↓csn_319, ↓csg_320, ↓csn_320, ↓csg_321, ↓csn_321, ↓csg_322, ↓csn_322, ↓csg_323, ↓csn_323, ↓csq_38, ↓csm_38, ↓csq_278, ↓csm_278, r140_315, r140_316, r140_317, r140_318, r140_319, r140_320, r140_321, r140_322, r140_323, s140_2, s140_3, s140_4, s140_5, s140_6, s140_7, s140_9, s140_10, s140_12, s140_13, s140_14, ↓spo_1_0, ↓spo_1_1, ↓spo_1_2, ↓spo_1_3, ↓spo_1_4, ↓spo_1_5, ↓spo_1_6, ↓spo_8_0, ↓spo_8_1, ↓spo_8_2, ↓spo_11_0, ↓spo_11_1, ↓spo_11_2, ↓spo_11_3, ↓spo_11_4, ↓spo_11_5, w141_315, w229_315, w141_316, w229_316, w141_317, w229_317, w141_318, w229_318, w141_319, w229_319, w141_320, w229_320, w141_321, w229_321, w141_322, w229_322, w141_323, w229_323, na_div, na_rem, I_74_0, I_74_1, n7, n5, e7, e66, c, ha, sa_eq, sa_up, m3, c2, st_st, Int.add_sub_cancel, hQ]
theorem c74 {R : mr_R} {X : Nat → mr_R} {f : Int} (hi : mi K R) (hI : sb_I R f X) (hL : be_L C V PR PZ σ R X 73 0) : be_L C V PR PZ σ R X 74 1 := by
  intro s Y q h1 h2 h3 h4 h5
  by_cases e : q = 0
  · subst e
    refine ⟨0, be_M0, by omega, ?_⟩
    rw [E_74]
    simp (disch := omega) only [Int.reduceAdd, Int.reduceMul, Int.reduceSub, Int.reduceNeg, na_add, na_sub, na_mul, na_neg, na_lt, na_le, na_eq, na_ofNat, bo_some, tl_some, tl_none, rc_int, rc_ref, rc_null, rc_none, rc_long, tb_0, tb_1, ↓mr_g0, mr_r0, mr_get, mr_upd, mr_at, mr_wr, Classical.not_not, not_true_eq_false, not_false_eq_true, na_l0, na_l1, na_l2, na_l3, na_l4, na_l5, na_l6, na_l7, na_l8, na_l9, na_l10, na_l14, na_l15, na_l16, na_l25, na_l30, na_l31, na_l32, na_l33, na_l39, na_l43, na_l45, na_l48, na_l49, na_l50, na_l51, na_l52, na_l53, na_l55, na_l56, na_l57, na_l60, na_l64, na_l71, na_l80, na_l96, na_l100, na_l101, na_l102, na_l103, na_l104, na_l105, na_l106, na_l107, na_l108, na_l109, na_l110, na_l111, na_l112, na_l113, na_l114, na_l115, na_l116, na_l117, na_l118, na_l119, na_l120, na_l121, na_l125, na_l128, na_l150, na_l192, na_l255, na_l999, na_l1000, na_l1248, na_l1344, na_l1875, na_l10000, ↓reduceIte, pf_and, pe_le, pf_le, pe_lt, pf_lt, pe_eq, pf_eq, true_and, and_true, false_and, and_false, true_or, or_true, false_or, or_false, I_74_0, I_74_1]
  · obtain ⟨p, rfl⟩ : ∃ p, q = p + 1 := ⟨q - 1, by omega⟩
    have cnt := (hI.1.1 (s % 15) (by omega) (by omega)).1
    obtain ⟨nn, hnn⟩ : ∃ nn, sn_w X s = nn := ⟨_, rfl⟩
    have e7 : X 7 (s % 15) = nn := hnn
    rw [e7] at cnt
    obtain ⟨r, r1, r2, r3⟩ := h74 (C := C) (V := V) (PR := PR) (PZ := PZ) (σ := σ) hi hI hL h1 h2 h3 (show 0 ≤ p by omega) (by omega) hnn nn.toNat 0 0 none none none rfl rfl (by omega) (by omega) be_P0 (by omega) (by omega)
    refine ⟨r, ?_, r2, Eq.trans ?_ r3⟩
    · rw [show (p + 1).toNat = p.toNat + 1 by omega]
      exact be_PM (by rw [hnn]; exact r1)
    · rw [E_74]
      simp (disch := omega) only [Int.reduceAdd, Int.reduceMul, Int.reduceSub, Int.reduceNeg, na_add, na_sub, na_mul, na_neg, na_lt, na_le, na_eq, na_ofNat, bo_some, tl_some, tl_none, rc_int, rc_ref, rc_null, rc_none, rc_long, tb_0, tb_1, ↓mr_g0, mr_r0, mr_get, mr_upd, mr_at, mr_wr, Classical.not_not, not_true_eq_false, not_false_eq_true, na_l0, na_l1, na_l2, na_l3, na_l4, na_l5, na_l6, na_l7, na_l8, na_l9, na_l10, na_l14, na_l15, na_l16, na_l25, na_l30, na_l31, na_l32, na_l33, na_l39, na_l43, na_l45, na_l48, na_l49, na_l50, na_l51, na_l52, na_l53, na_l55, na_l56, na_l57, na_l60, na_l64, na_l71, na_l80, na_l96, na_l100, na_l101, na_l102, na_l103, na_l104, na_l105, na_l106, na_l107, na_l108, na_l109, na_l110, na_l111, na_l112, na_l113, na_l114, na_l115, na_l116, na_l117, na_l118, na_l119, na_l120, na_l121, na_l125, na_l128, na_l150, na_l192, na_l255, na_l999, na_l1000, na_l1248, na_l1344, na_l1875, na_l10000, ↓reduceIte, pf_and, pe_le, pf_le, pe_lt, pf_lt, pe_eq, pf_eq, true_and, and_true, false_and, and_false, true_or, or_true, false_or, or_false, I_74_0, I_74_1]
end CSB
