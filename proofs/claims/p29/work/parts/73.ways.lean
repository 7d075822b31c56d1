/-! The ways from each spot. -/
def sy_h (R : mr_R) (w p a b : Int) : Prop := a = w * 5 + p ∧ (b = w * 5 + (p + 1) % R (9 + 10 * w + 0) ∨ b = w * 5 + (p - 1) % R (9 + 10 * w + 0))
def sy_W (R : mr_R) (w p a b : Int) : Prop := ∃ v q, (0 ≤ v ∧ v < R 0) ∧ (0 ≤ q ∧ q < R (9 + 10 * v + 0)) ∧ (v < w ∨ (v = w ∧ q < p)) ∧ sy_h R v q a b
def sy_f (R : mr_R) (l : Int) : Int := R (39 + 4 * l + 0) * 5 + R (39 + 4 * l + 1)
def sy_o (R : mr_R) (l : Int) : Int := R (39 + 4 * l + 2) * 5 + R (39 + 4 * l + 3)
def sy_L (R : mr_R) (l a b : Int) : Prop := ∃ k, 0 ≤ k ∧ k < l ∧ ((a = sy_f R k ∧ b = sy_o R k) ∨ (a = sy_o R k ∧ b = sy_f R k))
def sy_I (R : mr_R) (w p : Int) (X : Nat → mr_R) : Prop := sw_ok X ∧ (∀ a b, 0 ≤ a → a < 15 → (sw_in X a b ↔ sy_W R w p a b)) ∧ (∀ a, 0 ≤ a → a < 15 → X 7 a ≤ 2 ∧ (w * 5 + p ≤ a → X 7 a = 0))
def sy_J (R : mr_R) (l : Int) (X : Nat → mr_R) : Prop := sw_ok X ∧ (∀ a b, 0 ≤ a → a < 15 → (sw_in X a b ↔ sy_W R (R 0) 0 a b ∨ sy_L R l a b)) ∧ (∀ a, 0 ≤ a → a < 15 → X 7 a ≤ 2 + l)
theorem sw_tr {X Y Z : Nat → mr_R} (h : sw_ch X Y) (h2 : sw_ch Y Z) : sw_ch X Z := fun j a b => (h2 j a b).trans (h j a b)
section CSB
variable {C : Nat} {V : mr_R} {PR PZ : Nat → mr_R} {σ : ri_S} {K : Int}
theorem h60p {w n : Int} (hi : mi K (PR 0)) (h1 : 0 ≤ w) (h2 : w < PR 0 0) (hn : n = PR 0 (9 + 10 * w + 0)) : ∀ (m : Nat) (p : Int) (X : Nat → mr_R), 0 ≤ p → p + m = n → sy_I (PR 0) w p X → ∃ X2, sw_ch X X2 ∧ sy_I (PR 0) w n X2 ∧ ev 60 (36, [some (.ref (C + 314)), some (.ref (C + 3)), some (.int (Int32.ofInt w)), some (.int (Int32.ofInt n)), some (.int (Int32.ofInt p))], []) (cs C V PR PZ X σ) = ev 60 (10, [some (.ref (C + 314)), some (.ref (C + 3)), some (.int (Int32.ofInt (w + 1))), some (.int (Int32.ofInt n)), some (.int (Int32.ofInt n))], []) (cs C V PR PZ X2 σ) := by
  have hc := hi.c
  have hw := hi.w h1 h2
  intro m
  induction m with
  | zero =>
    intro p X h5 h6 hI
    obtain rfl : p = n := by omega
    refine ⟨X, fun _ _ _ => rfl, hI, ?_⟩
    rw [H_60_36]
    simp (disch := omega) only [Int.reduceAdd, Int.reduceMul, Int.reduceSub, Int.reduceNeg, na_add, na_sub, na_mul, na_neg, na_lt, na_le, na_eq, na_ofNat, bo_some, tl_some, tl_none, rc_int, rc_ref, rc_null, rc_none, rc_long, tb_0, tb_1, ↓mr_g0, mr_r0, mr_get, mr_upd, mr_at, mr_wr, Classical.not_not, not_true_eq_false, not_false_eq_true, na_l0, na_l1, na_l2, na_l3, na_l4, na_l5, na_l6, na_l7, na_l8, na_l9, na_l10, na_l14, na_l15, na_l16, na_l25, na_l30, na_l31, na_l32, na_l33, na_l39, na_l43, na_l45, na_l48, na_l49, na_l50, na_l51, na_l52, na_l53, na_l55, na_l56, na_l57, na_l60, na_l64, na_l71, na_l80, na_l96, na_l100, na_l101, na_l102, na_l103, na_l104, na_l105, na_l106, na_l107, na_l108, na_l109, na_l110, na_l111, na_l112, na_l113, na_l114, na_l115, na_l116, na_l117, na_l118, na_l119, na_l120, na_l121, na_l125, na_l128, na_l150, na_l192, na_l255, na_l999, na_l1000, na_l1248, na_l1344, na_l1875, na_l10000, ↓reduceIte, pf_and, pe_le, pf_le, pe_lt, pf_lt, pe_eq, pf_eq, true_and, and_true, false_and, and_false, true_or, or_true, false_or, or_false, I_60_0, I_60_1, I_60_2]
  | succ m ih =>
    intro p X h5 h6 hI
    have ha : 0 ≤ w * 5 + p ∧ w * 5 + p < 15 := by omega
    have q1 : 0 ≤ (p + 1) % n ∧ (p + 1) % n < n := ⟨Int.emod_nonneg _ (by omega), Int.emod_lt_of_pos _ (by omega)⟩
    have q2 : 0 ≤ (p - 1) % n ∧ (p - 1) % n < n := ⟨Int.emod_nonneg _ (by omega), Int.emod_lt_of_pos _ (by omega)⟩
    obtain ⟨i1, i2, i3⟩ := hI
    have z0 := (i3 _ ha.1 ha.2).2 (Int.le_refl _)
    obtain ⟨X1, e1, f1, f2, f3, f4, f5⟩ := c61 (C := C) (V := V) (PR := PR) (PZ := PZ) (σ := σ) i1 ha.1 ha.2 (b := w * 5 + (p + 1) % n) (by omega) (by omega) (by omega)
    obtain ⟨X2, e2, g1, g2, g3, g4, g5⟩ := c61 (C := C) (V := V) (PR := PR) (PZ := PZ) (σ := σ) f2 ha.1 ha.2 (b := w * 5 + (p - 1) % n) (by omega) (by omega) (by omega)
    obtain ⟨X3, k1, k2, k3⟩ := ih (p + 1) X2 (by omega) (by omega) ⟨g2, fun a b a0 a1 => by
        rw [g3 a b a0 a1, f3 a b a0 a1, i2 a b a0 a1]
        constructor
        · rintro ((⟨v, q, b1, b2, b3, b4⟩ | ⟨b1, b2⟩) | ⟨b1, b2⟩)
          · exact ⟨v, q, b1, b2, by omega, b4⟩
          · exact ⟨w, p, ⟨h1, h2⟩, by omega, Or.inr ⟨rfl, by omega⟩, b1, Or.inl (by rw [← hn]; exact b2)⟩
          · exact ⟨w, p, ⟨h1, h2⟩, by omega, Or.inr ⟨rfl, by omega⟩, b1, Or.inr (by rw [← hn]; exact b2)⟩
        · rintro ⟨v, q, b1, b2, b3, b4, b5⟩
          by_cases e : v = w ∧ q = p
          · obtain ⟨rfl, rfl⟩ := e
            rw [← hn] at b5
            rcases b5 with b5 | b5
            · exact Or.inl (Or.inr ⟨b4, b5⟩)
            · exact Or.inr ⟨b4, b5⟩
          · exact Or.inl (Or.inl ⟨v, q, b1, b2, by omega, b4, b5⟩), fun a a0 a1 => by
        have y := i3 a a0 a1
        by_cases e : a = w * 5 + p
        · rw [e]
          exact ⟨by omega, fun b => by omega⟩
        · rw [g4 a e, f4 a e]
          exact ⟨y.1, fun b => y.2 (by omega)⟩⟩
    refine ⟨X3, sw_tr (sw_tr f1 g1) k1, k2, ?_⟩
    rw [H_60_36]
    simp (disch := omega) only [Int.reduceAdd, Int.reduceMul, Int.reduceSub, Int.reduceNeg, na_add, na_sub, na_mul, na_neg, na_lt, na_le, na_eq, na_ofNat, bo_some, tl_some, tl_none, rc_int, rc_ref, rc_null, rc_none, rc_long, tb_0, tb_1, ↓mr_g0, mr_r0, mr_get, mr_upd, mr_at, mr_wr, Classical.not_not, not_true_eq_false, not_false_eq_true, na_l0, na_l1, na_l2, na_l3, na_l4, na_l5, na_l6, na_l7, na_l8, na_l9, na_l10, na_l14, na_l15, na_l16, na_l25, na_l30, na_l31, na_l32, na_l33, na_l39, na_l43, na_l45, na_l48, na_l49, na_l50, na_l51, na_l52, na_l53, na_l55, na_l56, na_l57, na_l60, na_l64, na_l71, na_l80, na_l96, na_l100, na_l101, na_l102, na_l103, na_l104, na_l105, na_l106, na_l107, na_l108, na_l109, na_l110, na_l111, na_l112, na_l113, na_l114, na_l115, na_l116, na_l117, na_l118, na_l119, na_l120, na_l121, na_l125, na_l128, na_l150, na_l192, na_l255, na_l999, na_l1000, na_l1248, na_l1344, na_l1875, na_l10000, ↓reduceIte, pf_and, pe_le, pf_le, pe_lt, pf_lt, pe_eq, pf_eq, true_and, and_true, false_and, and_false, true_or, or_true, false_or, or_false, ↓csk_0, ↓cso_0_0, ↓cso_0_1, ↓cso_0_2, ↓cso_0_3, ↓cso_0_4, ↓cso_0_5, ↓csk_1, ↓cso_1_0, ↓cso_1_1, ↓csk_37, ↓cso_37_0, ↓cso_37_1, ↓cso_37_2, ↓csk_277, ↓cso_277_0, ↓cso_277_1, ↓csk_314, ↓cso_314_0, ↓cso_314_1, ↓cso_314_2, ↓cso_314_3, ↓cso_314_4, ↓cso_314_5, ↓cso_314_6, ↓cso_314_7, ↓cso_314_8, ↓cso_314_9, ↓csg_2, ↓csn_2, ↓csg_279, ↓csn_279, ↓csg_315, ↓csn_315, ↓csg_316, ↓csn_316, ↓csg_317, ↓csn_317, ↓csg_318, ↓csn_318, ↓csg_319, ↓csn_319, ↓csg_320, ↓csn_320, ↓csg_321, ↓csn_321, ↓csg_322, ↓csn_322, ↓csg_323, ↓csn_323, ↓csq_38, ↓csm_38, ↓csq_278, ↓csm_278, I_60_0, I_60_1, I_60_2, c138, c139, e1, e2, k3]
theorem h60w (hi : mi K (PR 0)) : ∀ (m : Nat) (w : Int) (X : Nat → mr_R) (l3 l4 : Option Value), 0 ≤ w → w + m = PR 0 0 → sy_I (PR 0) w 0 X → ∃ X2 l5 l6, sw_ch X X2 ∧ sy_I (PR 0) (PR 0 0) 0 X2 ∧ ev 60 (10, [some (.ref (C + 314)), some (.ref (C + 3)), some (.int (Int32.ofInt w)), l3, l4], []) (cs C V PR PZ X σ) = ev 60 (100, [some (.ref (C + 314)), some (.ref (C + 3)), some (.int (Int32.ofInt 0)), l5, l6], []) (cs C V PR PZ X2 σ) := by
  have hc := hi.c
  intro m
  induction m with
  | zero =>
    intro w X l3 l4 h5 h6 hI
    obtain rfl : w = PR 0 0 := by omega
    refine ⟨X, l3, l4, fun _ _ _ => rfl, hI, ?_⟩
    rw [H_60_10]
    simp (disch := omega) only [Int.reduceAdd, Int.reduceMul, Int.reduceSub, Int.reduceNeg, na_add, na_sub, na_mul, na_neg, na_lt, na_le, na_eq, na_ofNat, bo_some, tl_some, tl_none, rc_int, rc_ref, rc_null, rc_none, rc_long, tb_0, tb_1, ↓mr_g0, mr_r0, mr_get, mr_upd, mr_at, mr_wr, Classical.not_not, not_true_eq_false, not_false_eq_true, na_l0, na_l1, na_l2, na_l3, na_l4, na_l5, na_l6, na_l7, na_l8, na_l9, na_l10, na_l14, na_l15, na_l16, na_l25, na_l30, na_l31, na_l32, na_l33, na_l39, na_l43, na_l45, na_l48, na_l49, na_l50, na_l51, na_l52, na_l53, na_l55, na_l56, na_l57, na_l60, na_l64, na_l71, na_l80, na_l96, na_l100, na_l101, na_l102, na_l103, na_l104, na_l105, na_l106, na_l107, na_l108, na_l109, na_l110, na_l111, na_l112, na_l113, na_l114, na_l115, na_l116, na_l117, na_l118, na_l119, na_l120, na_l121, na_l125, na_l128, na_l150, na_l192, na_l255, na_l999, na_l1000, na_l1248, na_l1344, na_l1875, na_l10000, ↓reduceIte, pf_and, pe_le, pf_le, pe_lt, pf_lt, pe_eq, pf_eq, true_and, and_true, false_and, and_false, true_or, or_true, false_or, or_false, ↓csk_0, ↓cso_0_0, ↓cso_0_1, ↓cso_0_2, ↓cso_0_3, ↓cso_0_4, ↓cso_0_5, ↓csk_1, ↓cso_1_0, ↓cso_1_1, ↓csk_37, ↓cso_37_0, ↓cso_37_1, ↓cso_37_2, ↓csk_277, ↓cso_277_0, ↓cso_277_1, ↓csk_314, ↓cso_314_0, ↓cso_314_1, ↓cso_314_2, ↓cso_314_3, ↓cso_314_4, ↓cso_314_5, ↓cso_314_6, ↓cso_314_7, ↓cso_314_8, ↓cso_314_9, ↓csg_2, ↓csn_2, ↓csg_279, ↓csn_279, ↓csg_315, ↓csn_315, ↓csg_316, ↓csn_316, ↓csg_317, ↓csn_317, ↓csg_318, ↓csn_318, ↓csg_319, ↓csn_319, ↓csg_320, ↓csn_320, ↓csg_321, ↓csn_321, ↓csg_322, ↓csn_322, ↓csg_323, ↓csn_323, ↓csq_38, ↓csm_38, ↓csq_278, ↓csm_278, ↓cpk0_0, ↓cpk0_1, ↓cpk0_8, ↓cpk0_11, ↓cpo0_0, ↓cpo0_1, ↓cpo0_2, ↓cpo0_3, ↓cpo0_4, ↓cpo0_5, ↓cpo0_6, ↓cpo0_7, ↓cpo0_8, ↓cpk1_0, ↓cpk1_1, ↓cpk1_8, ↓cpk1_11, ↓cpo1_0, ↓cpo1_1, ↓cpo1_2, ↓cpo1_3, ↓cpo1_4, ↓cpo1_5, ↓cpo1_6, ↓cpo1_7, ↓cpo1_8, r140_315, r140_316, r140_317, r140_318, r140_319, r140_320, r140_321, r140_322, r140_323, s140_2, s140_3, s140_4, s140_5, s140_6, s140_7, s140_9, s140_10, s140_12, s140_13, s140_14, ↓spo_1_0, ↓spo_1_1, ↓spo_1_2, ↓spo_1_3, ↓spo_1_4, ↓spo_1_5, ↓spo_1_6, ↓spo_8_0, ↓spo_8_1, ↓spo_8_2, ↓spo_11_0, ↓spo_11_1, ↓spo_11_2, ↓spo_11_3, ↓spo_11_4, ↓spo_11_5, I_60_0, I_60_1, I_60_2]
  | succ m ih =>
    intro w X l3 l4 h5 h6 hI
    have hw := hi.w h5 (show w < PR 0 0 by omega)
    obtain ⟨X1, a1, a2, a3⟩ := h60p (C := C) (V := V) (PZ := PZ) (σ := σ) hi h5 (show w < PR 0 0 by omega) rfl (PR 0 (9 + 10 * w + 0)).toNat 0 X (by omega) (by omega) hI
    obtain ⟨X2, l5, l6, b1, b2, b3⟩ := ih (w + 1) X1 (some (.int (Int32.ofInt (PR 0 (9 + 10 * w + 0))))) (some (.int (Int32.ofInt (PR 0 (9 + 10 * w + 0))))) (by omega) (by omega) ⟨a2.1, fun a b c0 c1 => by
        rw [a2.2.1 a b c0 c1]
        constructor
        · rintro ⟨v, q, d1, d2, d3, d4⟩
          exact ⟨v, q, d1, d2, by omega, d4⟩
        · rintro ⟨v, q, d1, d2, d3, d4⟩
          refine ⟨v, q, d1, d2, ?_, d4⟩
          by_cases e : v = w
          · subst e; exact Or.inr ⟨rfl, d2.2⟩
          · exact Or.inl (by omega), fun a c0 c1 => ⟨(a2.2.2 a c0 c1).1, fun d => (a2.2.2 a c0 c1).2 (by omega)⟩⟩
    refine ⟨X2, l5, l6, sw_tr a1 b1, b2, ?_⟩
    rw [H_60_10]
    simp (disch := omega) only [Int.reduceAdd, Int.reduceMul, Int.reduceSub, Int.reduceNeg, na_add, na_sub, na_mul, na_neg, na_lt, na_le, na_eq, na_ofNat, bo_some, tl_some, tl_none, rc_int, rc_ref, rc_null, rc_none, rc_long, tb_0, tb_1, ↓mr_g0, mr_r0, mr_get, mr_upd, mr_at, mr_wr, Classical.not_not, not_true_eq_false, not_false_eq_true, na_l0, na_l1, na_l2, na_l3, na_l4, na_l5, na_l6, na_l7, na_l8, na_l9, na_l10, na_l14, na_l15, na_l16, na_l25, na_l30, na_l31, na_l32, na_l33, na_l39, na_l43, na_l45, na_l48, na_l49, na_l50, na_l51, na_l52, na_l53, na_l55, na_l56, na_l57, na_l60, na_l64, na_l71, na_l80, na_l96, na_l100, na_l101, na_l102, na_l103, na_l104, na_l105, na_l106, na_l107, na_l108, na_l109, na_l110, na_l111, na_l112, na_l113, na_l114, na_l115, na_l116, na_l117, na_l118, na_l119, na_l120, na_l121, na_l125, na_l128, na_l150, na_l192, na_l255, na_l999, na_l1000, na_l1248, na_l1344, na_l1875, na_l10000, ↓reduceIte, pf_and, pe_le, pf_le, pe_lt, pf_lt, pe_eq, pf_eq, true_and, and_true, false_and, and_false, true_or, or_true, false_or, or_false, ↓csk_0, ↓cso_0_0, ↓cso_0_1, ↓cso_0_2, ↓cso_0_3, ↓cso_0_4, ↓cso_0_5, ↓csk_1, ↓cso_1_0, ↓cso_1_1, ↓csk_37, ↓cso_37_0, ↓cso_37_1, ↓cso_37_2, ↓csk_277, ↓cso_277_0, ↓cso_277_1, ↓csk_314, ↓cso_314_0, ↓cso_314_1, ↓cso_314_2, ↓cso_314_3, ↓cso_314_4, ↓cso_314_5, ↓cso_314_6, ↓cso_314_7, ↓cso_314_8, ↓cso_314_9, ↓csg_2, ↓csn_2, ↓csg_279, ↓csn_279, ↓csg_315, ↓csn_315, ↓csg_316, ↓csn_316, ↓csg_317, ↓csn_317, ↓csg_318, ↓csn_318, ↓csg_319, ↓csn_319, ↓csg_320, ↓csn_320, ↓csg_321, ↓csn_321, ↓csg_322, ↓csn_322, ↓csg_323, ↓csn_323, ↓csq_38, ↓csm_38, ↓csq_278, ↓csm_278, ↓cpk0_0, ↓cpk0_1, ↓cpk0_8, ↓cpk0_11, ↓cpo0_0, ↓cpo0_1, ↓cpo0_2, ↓cpo0_3, ↓cpo0_4, ↓cpo0_5, ↓cpo0_6, ↓cpo0_7, ↓cpo0_8, ↓cpk1_0, ↓cpk1_1, ↓cpk1_8, ↓cpk1_11, ↓cpo1_0, ↓cpo1_1, ↓cpo1_2, ↓cpo1_3, ↓cpo1_4, ↓cpo1_5, ↓cpo1_6, ↓cpo1_7, ↓cpo1_8, r140_315, r140_316, r140_317, r140_318, r140_319, r140_320, r140_321, r140_322, r140_323, s140_2, s140_3, s140_4, s140_5, s140_6, s140_7, s140_9, s140_10, s140_12, s140_13, s140_14, ↓spo_1_0, ↓spo_1_1, ↓spo_1_2, ↓spo_1_3, ↓spo_1_4, ↓spo_1_5, ↓spo_1_6, ↓spo_8_0, ↓spo_8_1, ↓spo_8_2, ↓spo_11_0, ↓spo_11_1, ↓spo_11_2, ↓spo_11_3, ↓spo_11_4, ↓spo_11_5, I_60_0, I_60_1, I_60_2, mpl_w, a3, b3]
theorem h60l (hi : mi K (PR 0)) : ∀ (m : Nat) (l : Int) (X : Nat → mr_R) (l3 l4 : Option Value), 0 ≤ l → l + m = PR 0 1 → sy_J (PR 0) l X → ∃ X2, sw_ch X X2 ∧ sy_J (PR 0) (PR 0 1) X2 ∧ ev 60 (100, [some (.ref (C + 314)), some (.ref (C + 3)), some (.int (Int32.ofInt l)), l3, l4], []) (cs C V PR PZ X σ) = some (none, cs C V PR PZ X2 σ) := by
  have hc := hi.c
  intro m
  induction m with
  | zero =>
    intro l X l3 l4 h5 h6 hI
    obtain rfl : l = PR 0 1 := by omega
    refine ⟨X, fun _ _ _ => rfl, hI, ?_⟩
    rw [H_60_100]
    simp (disch := omega) only [Int.reduceAdd, Int.reduceMul, Int.reduceSub, Int.reduceNeg, na_add, na_sub, na_mul, na_neg, na_lt, na_le, na_eq, na_ofNat, bo_some, tl_some, tl_none, rc_int, rc_ref, rc_null, rc_none, rc_long, tb_0, tb_1, ↓mr_g0, mr_r0, mr_get, mr_upd, mr_at, mr_wr, Classical.not_not, not_true_eq_false, not_false_eq_true, na_l0, na_l1, na_l2, na_l3, na_l4, na_l5, na_l6, na_l7, na_l8, na_l9, na_l10, na_l14, na_l15, na_l16, na_l25, na_l30, na_l31, na_l32, na_l33, na_l39, na_l43, na_l45, na_l48, na_l49, na_l50, na_l51, na_l52, na_l53, na_l55, na_l56, na_l57, na_l60, na_l64, na_l71, na_l80, na_l96, na_l100, na_l101, na_l102, na_l103, na_l104, na_l105, na_l106, na_l107, na_l108, na_l109, na_l110, na_l111, na_l112, na_l113, na_l114, na_l115, na_l116, na_l117, na_l118, na_l119, na_l120, na_l121, na_l125, na_l128, na_l150, na_l192, na_l255, na_l999, na_l1000, na_l1248, na_l1344, na_l1875, na_l10000, ↓reduceIte, pf_and, pe_le, pf_le, pe_lt, pf_lt, pe_eq, pf_eq, true_and, and_true, false_and, and_false, true_or, or_true, false_or, or_false, ↓csk_0, ↓cso_0_0, ↓cso_0_1, ↓cso_0_2, ↓cso_0_3, ↓cso_0_4, ↓cso_0_5, ↓csk_1, ↓cso_1_0, ↓cso_1_1, ↓csk_37, ↓cso_37_0, ↓cso_37_1, ↓cso_37_2, ↓csk_277, ↓cso_277_0, ↓cso_277_1, ↓csk_314, ↓cso_314_0, ↓cso_314_1, ↓cso_314_2, ↓cso_314_3, ↓cso_314_4, ↓cso_314_5, ↓cso_314_6, ↓cso_314_7, ↓cso_314_8, ↓cso_314_9, ↓csg_2, ↓csn_2, ↓csg_279, ↓csn_279, ↓csg_315, ↓csn_315, ↓csg_316, ↓csn_316, ↓csg_317, ↓csn_317, ↓csg_318, ↓csn_318, ↓csg_319, ↓csn_319, ↓csg_320, ↓csn_320, ↓csg_321, ↓csn_321, ↓csg_322, ↓csn_322, ↓csg_323, ↓csn_323, ↓csq_38, ↓csm_38, ↓csq_278, ↓csm_278, ↓cpk0_0, ↓cpk0_1, ↓cpk0_8, ↓cpk0_11, ↓cpo0_0, ↓cpo0_1, ↓cpo0_2, ↓cpo0_3, ↓cpo0_4, ↓cpo0_5, ↓cpo0_6, ↓cpo0_7, ↓cpo0_8, ↓cpk1_0, ↓cpk1_1, ↓cpk1_8, ↓cpk1_11, ↓cpo1_0, ↓cpo1_1, ↓cpo1_2, ↓cpo1_3, ↓cpo1_4, ↓cpo1_5, ↓cpo1_6, ↓cpo1_7, ↓cpo1_8, r140_315, r140_316, r140_317, r140_318, r140_319, r140_320, r140_321, r140_322, r140_323, s140_2, s140_3, s140_4, s140_5, s140_6, s140_7, s140_9, s140_10, s140_12, s140_13, s140_14, ↓spo_1_0, ↓spo_1_1, ↓spo_1_2, ↓spo_1_3, ↓spo_1_4, ↓spo_1_5, ↓spo_1_6, ↓spo_8_0, ↓spo_8_1, ↓spo_8_2, ↓spo_11_0, ↓spo_11_1, ↓spo_11_2, ↓spo_11_3, ↓spo_11_4, ↓spo_11_5, I_60_0, I_60_1, I_60_2]
  | succ m ih =>
    intro l X l3 l4 h5 h6 hI
    have hl := hi.l h5 (show l < PR 0 1 by omega)
    have hw0 := hi.w (w := PR 0 (39 + 4 * l + 0)) (by omega) (by omega)
    have hw2 := hi.w (w := PR 0 (39 + 4 * l + 2)) (by omega) (by omega)
    have hf : 0 ≤ sy_f (PR 0) l ∧ sy_f (PR 0) l < 15 := by unfold sy_f; omega
    have ho : 0 ≤ sy_o (PR 0) l ∧ sy_o (PR 0) l < 15 := by unfold sy_o; omega
    have hfo : sy_f (PR 0) l ≠ sy_o (PR 0) l := by unfold sy_f sy_o; omega
    obtain ⟨i1, i2, i3⟩ := hI
    have y1 := i3 _ hf.1 hf.2
    have y2 := i3 _ ho.1 ho.2
    obtain ⟨X1, e1, f1, f2, f3, f4, f5⟩ := c61 (C := C) (V := V) (PR := PR) (PZ := PZ) (σ := σ) i1 hf.1 hf.2 ho.1 ho.2 (by omega)
    have y3 := f4 _ hfo.symm
    obtain ⟨X2, e2, g1, g2, g3, g4, g5⟩ := c61 (C := C) (V := V) (PR := PR) (PZ := PZ) (σ := σ) f2 ho.1 ho.2 hf.1 hf.2 (by omega)
    obtain ⟨X3, k1, k2, k3⟩ := ih (l + 1) X2 l3 l4 (by omega) (by omega) ⟨g2, fun a b a0 a1 => by
        rw [g3 a b a0 a1, f3 a b a0 a1, i2 a b a0 a1]
        constructor
        · rintro (((h | ⟨k, b1, b2, b3⟩) | ⟨b1, b2⟩) | ⟨b1, b2⟩)
          · exact Or.inl h
          · exact Or.inr ⟨k, b1, by omega, b3⟩
          · exact Or.inr ⟨l, h5, by omega, Or.inl ⟨b1, b2⟩⟩
          · exact Or.inr ⟨l, h5, by omega, Or.inr ⟨b1, b2⟩⟩
        · rintro (h | ⟨k, b1, b2, b3⟩)
          · exact Or.inl (Or.inl (Or.inl h))
          · by_cases e : k = l
            · subst e
              rcases b3 with ⟨b3, b4⟩ | ⟨b3, b4⟩
              · exact Or.inl (Or.inr ⟨b3, b4⟩)
              · exact Or.inr ⟨b3, b4⟩
            · exact Or.inl (Or.inl (Or.inr ⟨k, b1, by omega, b3⟩)), fun a a0 a1 => by
        have y := i3 a a0 a1
        by_cases ea : a = sy_f (PR 0) l
        · rw [g4 a (by rw [ea]; exact hfo), ea]
          omega
        · by_cases eb : a = sy_o (PR 0) l
          · rw [eb]; omega
          · rw [g4 a eb, f4 a ea]; omega⟩
    refine ⟨X3, sw_tr (sw_tr f1 g1) k1, k2, ?_⟩
    have ef : mp_l (PR 0) (PZ 0) 0 l = sy_f (PR 0) l := mpl_l0 (by omega)
    have eo : mp_l (PR 0) (PZ 0) 2 l = sy_o (PR 0) l := mpl_l2 (by omega)
    rw [H_60_100]
    simp (disch := omega) only [Int.reduceAdd, Int.reduceMul, Int.reduceSub, Int.reduceNeg, na_add, na_sub, na_mul, na_neg, na_lt, na_le, na_eq, na_ofNat, bo_some, tl_some, tl_none, rc_int, rc_ref, rc_null, rc_none, rc_long, tb_0, tb_1, ↓mr_g0, mr_r0, mr_get, mr_upd, mr_at, mr_wr, Classical.not_not, not_true_eq_false, not_false_eq_true, na_l0, na_l1, na_l2, na_l3, na_l4, na_l5, na_l6, na_l7, na_l8, na_l9, na_l10, na_l14, na_l15, na_l16, na_l25, na_l30, na_l31, na_l32, na_l33, na_l39, na_l43, na_l45, na_l48, na_l49, na_l50, na_l51, na_l52, na_l53, na_l55, na_l56, na_l57, na_l60, na_l64, na_l71, na_l80, na_l96, na_l100, na_l101, na_l102, na_l103, na_l104, na_l105, na_l106, na_l107, na_l108, na_l109, na_l110, na_l111, na_l112, na_l113, na_l114, na_l115, na_l116, na_l117, na_l118, na_l119, na_l120, na_l121, na_l125, na_l128, na_l150, na_l192, na_l255, na_l999, na_l1000, na_l1248, na_l1344, na_l1875, na_l10000, ↓reduceIte, pf_and, pe_le, pf_le, pe_lt, pf_lt, pe_eq, pf_eq, true_and, and_true, false_and, and_false, true_or, or_true, false_or, or_false, ↓csk_0, ↓cso_0_0, ↓cso_0_1, ↓cso_0_2, ↓cso_0_3, ↓cso_0_4, ↓cso_0_5, ↓csk_1, ↓cso_1_0, ↓cso_1_1, ↓csk_37, ↓cso_37_0, ↓cso_37_1, ↓cso_37_2, ↓csk_277, ↓cso_277_0, ↓cso_277_1, ↓csk_314, ↓cso_314_0, ↓cso_314_1, ↓cso_314_2, ↓cso_314_3, ↓cso_314_4, ↓cso_314_5, ↓cso_314_6, ↓cso_314_7, ↓cso_314_8, ↓cso_314_9, ↓csg_2, ↓csn_2, ↓csg_279, ↓csn_279, ↓csg_315, ↓csn_315, ↓csg_316, ↓csn_316, ↓csg_317, ↓csn_317, ↓csg_318, ↓csn_318, ↓csg_319, ↓csn_319, ↓csg_320, ↓csn_320, ↓csg_321, ↓csn_321, ↓csg_322, ↓csn_322, ↓csg_323, ↓csn_323, ↓csq_38, ↓csm_38, ↓csq_278, ↓csm_278, ↓cpk0_0, ↓cpk0_1, ↓cpk0_8, ↓cpk0_11, ↓cpo0_0, ↓cpo0_1, ↓cpo0_2, ↓cpo0_3, ↓cpo0_4, ↓cpo0_5, ↓cpo0_6, ↓cpo0_7, ↓cpo0_8, ↓cpk1_0, ↓cpk1_1, ↓cpk1_8, ↓cpk1_11, ↓cpo1_0, ↓cpo1_1, ↓cpo1_2, ↓cpo1_3, ↓cpo1_4, ↓cpo1_5, ↓cpo1_6, ↓cpo1_7, ↓cpo1_8, r140_315, r140_316, r140_317, r140_318, r140_319, r140_320, r140_321, r140_322, r140_323, s140_2, s140_3, s140_4, s140_5, s140_6, s140_7, s140_9, s140_10, s140_12, s140_13, s140_14, ↓spo_1_0, ↓spo_1_1, ↓spo_1_2, ↓spo_1_3, ↓spo_1_4, ↓spo_1_5, ↓spo_1_6, ↓spo_8_0, ↓spo_8_1, ↓spo_8_2, ↓spo_11_0, ↓spo_11_1, ↓spo_11_2, ↓spo_11_3, ↓spo_11_4, ↓spo_11_5, I_60_0, I_60_1, I_60_2, ef, eo, e1, e2, k3]
theorem c60 {X : Nat → mr_R} (hi : mi K (PR 0)) : ∃ X2, (∀ j, j ≠ 6 → j ≠ 7 → X2 j = X j) ∧ sy_J (PR 0) (PR 0 1) X2 ∧ cal 60 [.ref (C + 314), .ref (C + 3)] (cs C V PR PZ X σ) = some (none, cs C V PR PZ X2 σ) := by
  have hc := hi.c
  obtain ⟨X1, l5, l6, a1, a2, a3⟩ := h60w (C := C) (V := V) (PZ := PZ) (σ := σ) hi (PR 0 0).toNat 0 (ms_a X 7 (mc_fl (X 7) 15 0)) none none (by omega) (by omega) (by
    have z : ∀ a, 0 ≤ a → a < 15 → (ms_a X 7 (mc_fl (X 7) 15 0)) 7 a = 0 := fun a b1 b2 => by
      rw [sa_eq rfl]
      unfold mc_fl
      rw [if_pos ⟨b1, b2⟩]
    refine ⟨fun a b1 b2 => ?_, fun a b b1 b2 => ?_, fun a b1 b2 => ?_⟩
    · rw [z a b1 b2]
      exact ⟨by omega, fun k k1 k2 => by omega⟩
    · constructor
      · rintro ⟨k, k1, k2, -⟩
        rw [z a b1 b2] at k2
        omega
      · rintro ⟨v, q, d1, d2, d3, -⟩
        omega
    · rw [z a b1 b2]
      exact ⟨by omega, fun _ => rfl⟩)
  obtain ⟨X2, b1, b2, b3⟩ := h60l (C := C) (V := V) (PZ := PZ) (σ := σ) hi (PR 0 1).toNat 0 X1 l5 l6 (by omega) (by omega) ⟨a2.1, fun a b c0 c1 => by
      rw [a2.2.1 a b c0 c1]
      constructor
      · exact Or.inl
      · rintro (h | ⟨k, k1, k2, -⟩)
        · exact h
        · omega, fun a c0 c1 => by have := (a2.2.2 a c0 c1).1; omega⟩
  refine ⟨X2, fun j j6 j7 => ?_, b2, ?_⟩
  · rw [sw_tr a1 b1 j j6 j7, sa_ne j7]
  · rw [E_60]
    simp (disch := omega) only [Int.reduceAdd, Int.reduceMul, Int.reduceSub, Int.reduceNeg, na_add, na_sub, na_mul, na_neg, na_lt, na_le, na_eq, na_ofNat, bo_some, tl_some, tl_none, rc_int, rc_ref, rc_null, rc_none, rc_long, tb_0, tb_1, ↓mr_g0, mr_r0, mr_get, mr_upd, mr_at, mr_wr, Classical.not_not, not_true_eq_false, not_false_eq_true, na_l0, na_l1, na_l2, na_l3, na_l4, na_l5, na_l6, na_l7, na_l8, na_l9, na_l10, na_l14, na_l15, na_l16, na_l25, na_l30, na_l31, na_l32, na_l33, na_l39, na_l43, na_l45, na_l48, na_l49, na_l50, na_l51, na_l52, na_l53, na_l55, na_l56, na_l57, na_l60, na_l64, na_l71, na_l80, na_l96, na_l100, na_l101, na_l102, na_l103, na_l104, na_l105, na_l106, na_l107, na_l108, na_l109, na_l110, na_l111, na_l112, na_l113, na_l114, na_l115, na_l116, na_l117, na_l118, na_l119, na_l120, na_l121, na_l125, na_l128, na_l150, na_l192, na_l255, na_l999, na_l1000, na_l1248, na_l1344, na_l1875, na_l10000, ↓reduceIte, pf_and, pe_le, pf_le, pe_lt, pf_lt, pe_eq, pf_eq, true_and, and_true, false_and, and_false, true_or, or_true, false_or, or_false, ↓csk_0, ↓cso_0_0, ↓cso_0_1, ↓cso_0_2, ↓cso_0_3, ↓cso_0_4, ↓cso_0_5, ↓csk_1, ↓cso_1_0, ↓cso_1_1, ↓csk_37, ↓cso_37_0, ↓cso_37_1, ↓cso_37_2, ↓csk_277, ↓cso_277_0, ↓cso_277_1, ↓csk_314, ↓cso_314_0, ↓cso_314_1, ↓cso_314_2, ↓cso_314_3, ↓cso_314_4, ↓cso_314_5, ↓cso_314_6, ↓cso_314_7, ↓cso_314_8, ↓cso_314_9, ↓csg_2, ↓csn_2, ↓csg_279, ↓csn_279, ↓csg_315, ↓csn_315, ↓csg_316, ↓csn_316, ↓csg_317, ↓csn_317, ↓csg_318, ↓csn_318, ↓csg_319, ↓csn_319, ↓csg_320, ↓csn_320, ↓csg_321, ↓csn_321, ↓csg_322, ↓csn_322, ↓csg_323, ↓csn_323, ↓csq_38, ↓csm_38, ↓csq_278, ↓csm_278, w141_315, w229_315, w141_316, w229_316, w141_317, w229_317, w141_318, w229_318, w141_319, w229_319, w141_320, w229_320, w141_321, w229_321, w141_322, w229_322, w141_323, w229_323, I_60_0, I_60_1, I_60_2, a3, b3]
end CSB
