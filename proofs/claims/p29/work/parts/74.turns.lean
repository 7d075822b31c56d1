/-! The turns of wheels that are left, and which turns there could be. -/
theorem c139x (v n : Int) : ∃ x : Int, ∀ s : ri_S, cal 139 [.int (Int32.ofInt v), .int (Int32.ofInt n)] s = some (some (.int (Int32.ofInt x)), s) := by
  by_cases q : Int32.ofInt n ≤ 0
  · refine ⟨0, fun s => ?_⟩
    rw [E_139]
    simp only [I_139, q, ↓reduceIte]
    rfl
  · have q2 : ¬ Int32.ofInt n = 0 := fun e => q (by rw [e]; decide)
    refine ⟨((Int32.ofInt v - Int32.ofInt v / Int32.ofInt n * Int32.ofInt n + Int32.ofInt n) - (Int32.ofInt v - Int32.ofInt v / Int32.ofInt n * Int32.ofInt n + Int32.ofInt n) / Int32.ofInt n * Int32.ofInt n).toInt, fun s => ?_⟩
    rw [E_139]
    simp only [I_139, q, q2, ↓reduceIte, Int32.ofInt_toInt]
theorem c139z (n : Int) : ∀ s : ri_S, cal 139 [.int (Int32.ofInt 0), .int (Int32.ofInt n)] s = some (some (.int (Int32.ofInt 0)), s) := by
  intro s
  obtain ⟨a, ha, h1, h2⟩ := na_of (Int32.ofInt n)
  rw [ha]
  by_cases q : a ≤ 0
  · rw [E_139]
    simp (disch := omega) only [Int.reduceAdd, Int.reduceMul, Int.reduceSub, Int.reduceNeg, na_add, na_sub, na_mul, na_neg, na_lt, na_le, na_eq, na_ofNat, bo_some, tl_some, tl_none, rc_int, rc_ref, rc_null, rc_none, rc_long, tb_0, tb_1, ↓mr_g0, mr_r0, mr_get, mr_upd, mr_at, mr_wr, Classical.not_not, not_true_eq_false, not_false_eq_true, na_l0, na_l1, na_l2, na_l3, na_l4, na_l5, na_l6, na_l7, na_l8, na_l9, na_l10, na_l14, na_l15, na_l16, na_l25, na_l30, na_l31, na_l32, na_l33, na_l39, na_l43, na_l45, na_l48, na_l49, na_l50, na_l51, na_l52, na_l53, na_l55, na_l56, na_l57, na_l60, na_l64, na_l71, na_l80, na_l96, na_l100, na_l101, na_l102, na_l103, na_l104, na_l105, na_l106, na_l107, na_l108, na_l109, na_l110, na_l111, na_l112, na_l113, na_l114, na_l115, na_l116, na_l117, na_l118, na_l119, na_l120, na_l121, na_l125, na_l128, na_l150, na_l192, na_l255, na_l999, na_l1000, na_l1248, na_l1344, na_l1875, na_l10000, ↓reduceIte, pf_and, pe_le, pf_le, pe_lt, pf_lt, pe_eq, pf_eq, true_and, and_true, false_and, and_false, true_or, or_true, false_or, or_false, I_139]
  · rw [E_139]
    have e1 : (0 : Int) / a = 0 := Int.zero_ediv _
    have e2 : a / a = 1 := Int.ediv_self (by omega)
    simp (disch := omega) only [Int.reduceAdd, Int.reduceMul, Int.reduceSub, Int.reduceNeg, na_add, na_sub, na_mul, na_neg, na_lt, na_le, na_eq, na_ofNat, bo_some, tl_some, tl_none, rc_int, rc_ref, rc_null, rc_none, rc_long, tb_0, tb_1, ↓mr_g0, mr_r0, mr_get, mr_upd, mr_at, mr_wr, Classical.not_not, not_true_eq_false, not_false_eq_true, na_l0, na_l1, na_l2, na_l3, na_l4, na_l5, na_l6, na_l7, na_l8, na_l9, na_l10, na_l14, na_l15, na_l16, na_l25, na_l30, na_l31, na_l32, na_l33, na_l39, na_l43, na_l45, na_l48, na_l49, na_l50, na_l51, na_l52, na_l53, na_l55, na_l56, na_l57, na_l60, na_l64, na_l71, na_l80, na_l96, na_l100, na_l101, na_l102, na_l103, na_l104, na_l105, na_l106, na_l107, na_l108, na_l109, na_l110, na_l111, na_l112, na_l113, na_l114, na_l115, na_l116, na_l117, na_l118, na_l119, na_l120, na_l121, na_l125, na_l128, na_l150, na_l192, na_l255, na_l999, na_l1000, na_l1248, na_l1344, na_l1875, na_l10000, ↓reduceIte, pf_and, pe_le, pf_le, pe_lt, pf_lt, pe_eq, pf_eq, true_and, and_true, false_and, and_false, true_or, or_true, false_or, or_false, na_div, I_139, e1, Int.zero_mul, Int.zero_add, Int.sub_self, e2, Int.one_mul]
def sg_by (R : mr_R) (f w : Int) : Int := if mf_wg R w f ≤ R (9 + 10 * w + 2) then R (9 + 10 * w + 1) else 0
/-- turnWhenLeft and couldTurnTo, of the wheels below w -/
def st_I (R : mr_R) (f w : Int) (X : Nat → mr_R) : Prop :=
  (∀ v t, 0 ≤ v → v < w → v < R 0 → 0 ≤ t → t < 5 → X 2 (v * 5 + t) = (t + sg_by R f v) % R (9 + 10 * v + 0)) ∧
  (∀ v, 0 ≤ v → v < w → v < R 0 → X 3 (v * 5 + R (9 + 10 * v + 3)) = 1) ∧
  (∀ v t, 0 ≤ v → v < w → v < R 0 → 0 ≤ t → t < 5 → X 3 (v * 5 + t) ≠ 0 → X 3 (v * 5 + (t + sg_by R f v) % R (9 + 10 * v + 0)) ≠ 0) ∧
  (∀ v, 0 ≤ v → v < w → R 0 ≤ v → X 3 (v * 5 + 0) = 1) ∧
  (∀ a, 0 ≤ a → a < 15 → (X 3 a = 0 ∨ X 3 a = 1) ∧ (w * 5 ≤ a → X 3 a = 0))
def st_ch (X X2 : Nat → mr_R) : Prop := ∀ j, j ≠ 2 → j ≠ 3 → X2 j = X j
theorem st_tr {X Y Z : Nat → mr_R} (h : st_ch X Y) (h2 : st_ch Y Z) : st_ch X Z := fun j a b => (h2 j a b).trans (h j a b)
theorem sg_5 {t0 t1 t2 t3 t4 b n : Int} (hn : n = 3 ∨ n = 4 ∨ n = 5) (h0 : 0 ≤ t0 ∧ t0 < n) (e1 : t1 = (t0 + b) % n) (e2 : t2 = (t1 + b) % n) (e3 : t3 = (t2 + b) % n) (e4 : t4 = (t3 + b) % n) : (t4 + b) % n = t0 ∨ (t4 + b) % n = t1 ∨ (t4 + b) % n = t2 := by
  rcases hn with e | e | e <;> subst e <;> omega
section CSB
variable {C : Nat} {V : mr_R} {PR PZ : Nat → mr_R} {σ : ri_S} {K : Int}
theorem h62t {w b nn f : Int} {l4 : Option Value} {g : Int → Int} (h1 : 0 ≤ w) (h2 : w < 3) (hc4 : ri_clr l4 = l4) (hnn : nn = mp_w (PR 0) (PZ 0) 0 w) (hg : ∀ t, 0 ≤ t → t < 5 → ∀ s, cal 139 [.int (Int32.ofInt (t + b)), .int (Int32.ofInt nn)] s = some (some (.int (Int32.ofInt (g t))), s)) : ∀ (m : Nat) (t : Int) (X : Nat → mr_R) (l7 : Option Value), 0 ≤ t → t + m = 5 → (∀ u, 0 ≤ u → u < t → X 2 (w * 5 + u) = g u) → ∃ Y : mr_R, (∀ u, 0 ≤ u → u < 5 → Y (w * 5 + u) = g u) ∧ (∀ a, a < w * 5 ∨ w * 5 + 5 ≤ a → Y a = X 2 a) ∧ ev 62 (81, [some (.ref (C + 314)), some (.ref (C + 3)), some (.int (Int32.ofInt f)), some (.int (Int32.ofInt w)), l4, some (.int (Int32.ofInt b)), some (.int (Int32.ofInt t)), l7], []) (cs C V PR PZ X σ) = ev 62 (125, [some (.ref (C + 314)), some (.ref (C + 3)), some (.int (Int32.ofInt f)), some (.int (Int32.ofInt w)), l4, some (.int (Int32.ofInt b)), some (.int (Int32.ofInt 5)), l7], []) (cs C V PR PZ (ms_a X 2 Y) σ) := by
  intro m
  induction m with
  | zero =>
    intro t X l7 h5 h6 hX
    obtain rfl : t = 5 := by omega
    refine ⟨X 2, fun u a1 a2 => hX u a1 a2, fun _ _ => rfl, ?_⟩
    generalize hR : ev 62 (125, [some (.ref (C + 314)), some (.ref (C + 3)), some (.int (Int32.ofInt f)), some (.int (Int32.ofInt w)), l4, some (.int (Int32.ofInt b)), some (.int (Int32.ofInt 5)), l7], []) (cs C V PR PZ (ms_a X 2 (X 2)) σ) = Q
    rw [sa_id] at hR
    rw [H_62_81]
    simp (disch := omega) only [Int.reduceAdd, Int.reduceMul, Int.reduceSub, Int.reduceNeg, na_add, na_sub, na_mul, na_neg, na_lt, na_le, na_eq, na_ofNat, bo_some, tl_some, tl_none, rc_int, rc_ref, rc_null, rc_none, rc_long, tb_0, tb_1, ↓mr_g0, mr_r0, mr_get, mr_upd, mr_at, mr_wr, Classical.not_not, not_true_eq_false, not_false_eq_true, na_l0, na_l1, na_l2, na_l3, na_l4, na_l5, na_l6, na_l7, na_l8, na_l9, na_l10, na_l14, na_l15, na_l16, na_l25, na_l30, na_l31, na_l32, na_l33, na_l39, na_l43, na_l45, na_l48, na_l49, na_l50, na_l51, na_l52, na_l53, na_l55, na_l56, na_l57, na_l60, na_l64, na_l71, na_l80, na_l96, na_l100, na_l101, na_l102, na_l103, na_l104, na_l105, na_l106, na_l107, na_l108, na_l109, na_l110, na_l111, na_l112, na_l113, na_l114, na_l115, na_l116, na_l117, na_l118, na_l119, na_l120, na_l121, na_l125, na_l128, na_l150, na_l192, na_l255, na_l999, na_l1000, na_l1248, na_l1344, na_l1875, na_l10000, ↓reduceIte, pf_and, pe_le, pf_le, pe_lt, pf_lt, pe_eq, pf_eq, true_and, and_true, false_and, and_false, true_or, or_true, false_or, or_false, I_62_0, I_62_1, hR]
  | succ m ih =>
    intro t X l7 h5 h6 hX
    obtain ⟨Y, y1, y2, y3⟩ := ih (t + 1) (ms_a X 2 (mr_st (X 2) (w * 5 + t) (g t))) l7 (by omega) (by omega) (fun u a1 a2 => by
      rw [sa_eq rfl]
      by_cases e : u = t
      · rw [ms_eq (by omega), e]
      · rw [ms_ne (by omega)]; exact hX u a1 (by omega))
    rw [sa_up] at y3
    refine ⟨Y, y1, fun a b1 => ?_, ?_⟩
    · rw [y2 a b1, sa_eq rfl, ms_ne (by omega)]
    · rw [H_62_81]
      have hgt := hg t h5 (by omega)
      rw [hnn] at hgt
      generalize ev 62 (125, [some (.ref (C + 314)), some (.ref (C + 3)), some (.int (Int32.ofInt f)), some (.int (Int32.ofInt w)), l4, some (.int (Int32.ofInt b)), some (.int (Int32.ofInt 5)), l7], []) (cs C V PR PZ (ms_a X 2 Y) σ) = Q at *
      simp (disch := omega) only [Int.reduceAdd, Int.reduceMul, Int.reduceSub, Int.reduceNeg, na_add, na_sub, na_mul, na_neg, na_lt, na_le, na_eq, na_ofNat, bo_some, tl_some, tl_none, rc_int, rc_ref, rc_null, rc_none, rc_long, tb_0, tb_1, ↓mr_g0, mr_r0, mr_get, mr_upd, mr_at, mr_wr, Classical.not_not, not_true_eq_false, not_false_eq_true, na_l0, na_l1, na_l2, na_l3, na_l4, na_l5, na_l6, na_l7, na_l8, na_l9, na_l10, na_l14, na_l15, na_l16, na_l25, na_l30, na_l31, na_l32, na_l33, na_l39, na_l43, na_l45, na_l48, na_l49, na_l50, na_l51, na_l52, na_l53, na_l55, na_l56, na_l57, na_l60, na_l64, na_l71, na_l80, na_l96, na_l100, na_l101, na_l102, na_l103, na_l104, na_l105, na_l106, na_l107, na_l108, na_l109, na_l110, na_l111, na_l112, na_l113, na_l114, na_l115, na_l116, na_l117, na_l118, na_l119, na_l120, na_l121, na_l125, na_l128, na_l150, na_l192, na_l255, na_l999, na_l1000, na_l1248, na_l1344, na_l1875, na_l10000, ↓reduceIte, pf_and, pe_le, pf_le, pe_lt, pf_lt, pe_eq, pf_eq, true_and, and_true, false_and, and_false, true_or, or_true, false_or, or_false, ↓csk_0, ↓cso_0_0, ↓cso_0_1, ↓cso_0_2, ↓cso_0_3, ↓cso_0_4, ↓cso_0_5, ↓csk_1, ↓cso_1_0, ↓cso_1_1, ↓csk_37, ↓cso_37_0, ↓cso_37_1, ↓cso_37_2, ↓csk_277, ↓cso_277_0, ↓cso_277_1, ↓csk_314, ↓cso_314_0, ↓cso_314_1, ↓cso_314_2, ↓cso_314_3, ↓cso_314_4, ↓cso_314_5, ↓cso_314_6, ↓cso_314_7, ↓cso_314_8, ↓cso_314_9, ↓csg_2, ↓csn_2, ↓csg_279, ↓csn_279, ↓csg_315, ↓csn_315, ↓csg_316, ↓csn_316, ↓csg_317, ↓csn_317, ↓csg_318, ↓csn_318, ↓csg_319, ↓csn_319, ↓csg_320, ↓csn_320, ↓csg_321, ↓csn_321, ↓csg_322, ↓csn_322, ↓csg_323, ↓csn_323, ↓csq_38, ↓csm_38, ↓csq_278, ↓csm_278, ↓cpk0_0, ↓cpk0_1, ↓cpk0_8, ↓cpk0_11, ↓cpo0_0, ↓cpo0_1, ↓cpo0_2, ↓cpo0_3, ↓cpo0_4, ↓cpo0_5, ↓cpo0_6, ↓cpo0_7, ↓cpo0_8, ↓cpk1_0, ↓cpk1_1, ↓cpk1_8, ↓cpk1_11, ↓cpo1_0, ↓cpo1_1, ↓cpo1_2, ↓cpo1_3, ↓cpo1_4, ↓cpo1_5, ↓cpo1_6, ↓cpo1_7, ↓cpo1_8, r140_315, r140_316, r140_317, r140_318, r140_319, r140_320, r140_321, r140_322, r140_323, s140_2, s140_3, s140_4, s140_5, s140_6, s140_7, s140_9, s140_10, s140_12, s140_13, s140_14, ↓spo_1_0, ↓spo_1_1, ↓spo_1_2, ↓spo_1_3, ↓spo_1_4, ↓spo_1_5, ↓spo_1_6, ↓spo_8_0, ↓spo_8_1, ↓spo_8_2, ↓spo_11_0, ↓spo_11_1, ↓spo_11_2, ↓spo_11_3, ↓spo_11_4, ↓spo_11_5, w141_315, w229_315, w141_316, w229_316, w141_317, w229_317, w141_318, w229_318, w141_319, w229_319, w141_320, w229_320, w141_321, w229_321, w141_322, w229_322, w141_323, w229_323, I_62_0, I_62_1, I_62_2, c138, hgt, y3]
theorem h62k1 {X : Nat → mr_R} {w f t t2 k b : Int} {l4 : Option Value} (h1 : 0 ≤ w) (h2 : w < 3) (b0 : 0 ≤ t ∧ t < 5) (hk : 0 ≤ k ∧ k < 5) (e0 : X 2 (w * 5 + t) = t2) : ev 62 (156, [some (.ref (C + 314)), some (.ref (C + 3)), some (.int (Int32.ofInt f)), some (.int (Int32.ofInt w)), l4, some (.int (Int32.ofInt b)), some (.int (Int32.ofInt t)), some (.int (Int32.ofInt k))], []) (cs C V PR PZ X σ) = ev 62 (156, [some (.ref (C + 314)), some (.ref (C + 3)), some (.int (Int32.ofInt f)), some (.int (Int32.ofInt w)), l4, some (.int (Int32.ofInt b)), some (.int (Int32.ofInt t2)), some (.int (Int32.ofInt (k + 1)))], []) (cs C V PR PZ (ms_a X 3 (mr_st (X 3) (w * 5 + t) 1)) σ) := by
  rw [H_62_156]
  simp (disch := omega) only [Int.reduceAdd, Int.reduceMul, Int.reduceSub, Int.reduceNeg, na_add, na_sub, na_mul, na_neg, na_lt, na_le, na_eq, na_ofNat, bo_some, tl_some, tl_none, rc_int, rc_ref, rc_null, rc_none, rc_long, tb_0, tb_1, ↓mr_g0, mr_r0, mr_get, mr_upd, mr_at, mr_wr, Classical.not_not, not_true_eq_false, not_false_eq_true, na_l0, na_l1, na_l2, na_l3, na_l4, na_l5, na_l6, na_l7, na_l8, na_l9, na_l10, na_l14, na_l15, na_l16, na_l25, na_l30, na_l31, na_l32, na_l33, na_l39, na_l43, na_l45, na_l48, na_l49, na_l50, na_l51, na_l52, na_l53, na_l55, na_l56, na_l57, na_l60, na_l64, na_l71, na_l80, na_l96, na_l100, na_l101, na_l102, na_l103, na_l104, na_l105, na_l106, na_l107, na_l108, na_l109, na_l110, na_l111, na_l112, na_l113, na_l114, na_l115, na_l116, na_l117, na_l118, na_l119, na_l120, na_l121, na_l125, na_l128, na_l150, na_l192, na_l255, na_l999, na_l1000, na_l1248, na_l1344, na_l1875, na_l10000, ↓reduceIte, pf_and, pe_le, pf_le, pe_lt, pf_lt, pe_eq, pf_eq, true_and, and_true, false_and, and_false, true_or, or_true, false_or, or_false, ↓csk_0, ↓cso_0_0, ↓cso_0_1, ↓cso_0_2, ↓cso_0_3, ↓cso_0_4, ↓cso_0_5, ↓csk_1, ↓cso_1_0, ↓cso_1_1, ↓csk_37, ↓cso_37_0, ↓cso_37_1, ↓cso_37_2, ↓csk_277, ↓cso_277_0, ↓cso_277_1, ↓csk_314, ↓cso_314_0, ↓cso_314_1, ↓cso_314_2, ↓cso_314_3, ↓cso_314_4, ↓cso_314_5, ↓cso_314_6, ↓cso_314_7, ↓cso_314_8, ↓cso_314_9, ↓csg_2, ↓csn_2, ↓csg_279, ↓csn_279, ↓csg_315, ↓csn_315, ↓csg_316, ↓csn_316, ↓csg_317, ↓csn_317, ↓csg_318, ↓csn_318, ↓csg_319, ↓csn_319, ↓csg_320, ↓csn_320, ↓csg_321, ↓csn_321, ↓csg_322, ↓csn_322, ↓csg_323, ↓csn_323, ↓csq_38, ↓csm_38, ↓csq_278, ↓csm_278, r140_315, r140_316, r140_317, r140_318, r140_319, r140_320, r140_321, r140_322, r140_323, s140_2, s140_3, s140_4, s140_5, s140_6, s140_7, s140_9, s140_10, s140_12, s140_13, s140_14, ↓spo_1_0, ↓spo_1_1, ↓spo_1_2, ↓spo_1_3, ↓spo_1_4, ↓spo_1_5, ↓spo_1_6, ↓spo_8_0, ↓spo_8_1, ↓spo_8_2, ↓spo_11_0, ↓spo_11_1, ↓spo_11_2, ↓spo_11_3, ↓spo_11_4, ↓spo_11_5, w141_315, w229_315, w141_316, w229_316, w141_317, w229_317, w141_318, w229_318, w141_319, w229_319, w141_320, w229_320, w141_321, w229_321, w141_322, w229_322, w141_323, w229_323, I_62_0, I_62_1, I_62_2, c138, sa_ne, e0]
theorem h62k {X : Nat → mr_R} {w f t0 t1 t2 t3 t4 t5 b : Int} {l4 : Option Value} (h1 : 0 ≤ w) (h2 : w < 3) (b0 : 0 ≤ t0 ∧ t0 < 5) (b1 : 0 ≤ t1 ∧ t1 < 5) (b2 : 0 ≤ t2 ∧ t2 < 5) (b3 : 0 ≤ t3 ∧ t3 < 5) (b4 : 0 ≤ t4 ∧ t4 < 5) (e0 : X 2 (w * 5 + t0) = t1) (e1 : X 2 (w * 5 + t1) = t2) (e2 : X 2 (w * 5 + t2) = t3) (e3 : X 2 (w * 5 + t3) = t4) (e4 : X 2 (w * 5 + t4) = t5) : ev 62 (156, [some (.ref (C + 314)), some (.ref (C + 3)), some (.int (Int32.ofInt f)), some (.int (Int32.ofInt w)), l4, some (.int (Int32.ofInt b)), some (.int (Int32.ofInt t0)), some (.int (Int32.ofInt 0))], []) (cs C V PR PZ X σ) = ev 62 (10, [some (.ref (C + 314)), some (.ref (C + 3)), some (.int (Int32.ofInt f)), some (.int (Int32.ofInt (w + 1))), l4, some (.int (Int32.ofInt b)), some (.int (Int32.ofInt t5)), some (.int (Int32.ofInt 5))], []) (cs C V PR PZ (ms_a X 3 (mr_st (mr_st (mr_st (mr_st (mr_st (X 3) (w * 5 + t0) 1) (w * 5 + t1) 1) (w * 5 + t2) 1) (w * 5 + t3) 1) (w * 5 + t4) 1)) σ) := by
  have n23 : ∀ Y : mr_R, (ms_a X 3 Y) 2 = X 2 := fun Y => sa_ne (by decide)
  rw [h62k1 (t2 := t1) h1 h2 b0 (by omega) e0]
  rw [h62k1 (t := t1) (t2 := t2) h1 h2 b1 (by omega) (by rw [n23]; exact e1)]
  rw [h62k1 (t := t2) (t2 := t3) h1 h2 b2 (by omega) (by simp (disch := omega) only [sa_up, sa_eq, sa_ne]; exact e2)]
  rw [h62k1 (t := t3) (t2 := t4) h1 h2 b3 (by omega) (by simp (disch := omega) only [sa_up, sa_eq, sa_ne]; exact e3)]
  rw [h62k1 (t := t4) (t2 := t5) h1 h2 b4 (by omega) (by simp (disch := omega) only [sa_up, sa_eq, sa_ne]; exact e4)]
  simp (disch := omega) only [sa_up, sa_eq]
  rw [H_62_156]
  simp (disch := omega) only [Int.reduceAdd, Int.reduceMul, Int.reduceSub, Int.reduceNeg, na_add, na_sub, na_mul, na_neg, na_lt, na_le, na_eq, na_ofNat, bo_some, tl_some, tl_none, rc_int, rc_ref, rc_null, rc_none, rc_long, tb_0, tb_1, ↓mr_g0, mr_r0, mr_get, mr_upd, mr_at, mr_wr, Classical.not_not, not_true_eq_false, not_false_eq_true, na_l0, na_l1, na_l2, na_l3, na_l4, na_l5, na_l6, na_l7, na_l8, na_l9, na_l10, na_l14, na_l15, na_l16, na_l25, na_l30, na_l31, na_l32, na_l33, na_l39, na_l43, na_l45, na_l48, na_l49, na_l50, na_l51, na_l52, na_l53, na_l55, na_l56, na_l57, na_l60, na_l64, na_l71, na_l80, na_l96, na_l100, na_l101, na_l102, na_l103, na_l104, na_l105, na_l106, na_l107, na_l108, na_l109, na_l110, na_l111, na_l112, na_l113, na_l114, na_l115, na_l116, na_l117, na_l118, na_l119, na_l120, na_l121, na_l125, na_l128, na_l150, na_l192, na_l255, na_l999, na_l1000, na_l1248, na_l1344, na_l1875, na_l10000, ↓reduceIte, pf_and, pe_le, pf_le, pe_lt, pf_lt, pe_eq, pf_eq, true_and, and_true, false_and, and_false, true_or, or_true, false_or, or_false, I_62_0, I_62_1, I_62_2]
theorem mf_wgF_bd {R : mr_R} (hi : mi K R) {w g : Int} : ∀ (n : Nat) (f s : Int), 0 ≤ f → f + n = R 2 → 0 ≤ s → s ≤ 9 * f → 0 ≤ mf_wgF R w g n f s ∧ mf_wgF R w g n f s ≤ 45 := by
  have hc := hi.c
  intro n
  induction n with
  | zero => intro f s h1 h2 h3 h4; simp only [mf_wgF]; omega
  | succ n ih =>
    intro f s h1 h2 h3 h4
    simp only [mf_wgF]
    have hf := hi.f h1 (by omega)
    exact ih (f + 1) _ (by omega) (by omega) (by split <;> omega) (by split <;> omega)
theorem mf_wg_bd {R : mr_R} (hi : mi K R) (w g : Int) : 0 ≤ mf_wg R w g ∧ mf_wg R w g ≤ 45 := by
  have hc := hi.c
  exact mf_wgF_bd hi _ _ _ (by omega) (by omega) (by omega) (by omega)
/-- one wheel -/
theorem h62b {w f : Int} {X : Nat → mr_R} {l4 l5 l6 l7 : Option Value} (hi : mi K (PR 0)) (hf : 0 ≤ f ∧ f < 5) (h1 : 0 ≤ w) (h2 : w < 3) (hI : st_I (PR 0) f w X) : ∃ X2 l4' l5' l6' l7', st_ch X X2 ∧ st_I (PR 0) f (w + 1) X2 ∧ ev 62 (10, [some (.ref (C + 314)), some (.ref (C + 3)), some (.int (Int32.ofInt f)), some (.int (Int32.ofInt w)), l4, l5, l6, l7], []) (cs C V PR PZ X σ) = ev 62 (10, [some (.ref (C + 314)), some (.ref (C + 3)), some (.int (Int32.ofInt f)), some (.int (Int32.ofInt (w + 1))), l4', l5', l6', l7'], []) (cs C V PR PZ X2 σ) := by
  have hc := hi.c
  obtain ⟨i1, i2, i3, i4, i5⟩ := hI
  by_cases hw : w < PR 0 0
  · have hww := hi.w h1 hw
    have hwt := mf_wg_bd hi w f
    have hby : -4 ≤ sg_by (PR 0) f w ∧ sg_by (PR 0) f w ≤ 4 := by
      unfold sg_by
      split <;> omega
    have hbe : sg_by (PR 0) f w = if mf_wg (PR 0) w f ≤ PR 0 (9 + 10 * w + 2) then PR 0 (9 + 10 * w + 1) else 0 := rfl
    generalize hb : sg_by (PR 0) f w = b at *
    have hg : ∀ t, 0 ≤ t → t < 5 → ∀ s, cal 139 [.int (Int32.ofInt (t + b)), .int (Int32.ofInt (mp_w (PR 0) (PZ 0) 0 w))] s = some (some (.int (Int32.ofInt ((t + b) % PR 0 (9 + 10 * w + 0)))), s) := fun t a1 a2 s => by
      rw [mpl_w hw]
      exact c139 (by omega) (by omega) (by omega) (by omega)
    have bd : ∀ t : Int, 0 ≤ (t + b) % PR 0 (9 + 10 * w + 0) ∧ (t + b) % PR 0 (9 + 10 * w + 0) < PR 0 (9 + 10 * w + 0) := fun t => ⟨Int.emod_nonneg _ (by omega), Int.emod_lt_of_pos _ (by omega)⟩
    obtain ⟨Y, y1, y2, y3⟩ := h62t (C := C) (V := V) (PR := PR) (PZ := PZ) (σ := σ) (b := b) (f := f) (l4 := some (.int (Int32.ofInt (if mf_wg (PR 0) w f ≤ PR 0 (9 + 10 * w + 2) then 1 else 0)))) (g := fun t => (t + b) % PR 0 (9 + 10 * w + 0)) h1 h2 rfl rfl hg 5 0 X l7 (by omega) (by omega) (fun u a1 a2 => by omega)
    generalize ht0 : PR 0 (9 + 10 * w + 3) = t0 at *
    generalize hn : PR 0 (9 + 10 * w + 0) = n at *
    obtain ⟨t1, ht1⟩ : ∃ t1, t1 = (t0 + b) % n := ⟨_, rfl⟩
    obtain ⟨t2, ht2⟩ : ∃ t2, t2 = (t1 + b) % n := ⟨_, rfl⟩
    obtain ⟨t3, ht3⟩ : ∃ t3, t3 = (t2 + b) % n := ⟨_, rfl⟩
    obtain ⟨t4, ht4⟩ : ∃ t4, t4 = (t3 + b) % n := ⟨_, rfl⟩
    obtain ⟨t5, ht5⟩ : ∃ t5, t5 = (t4 + b) % n := ⟨_, rfl⟩
    have b1 := bd t0
    have b2 := bd t1
    have b3 := bd t2
    have b4 := bd t3
    rw [← ht1] at b1
    rw [← ht2] at b2
    rw [← ht3] at b3
    rw [← ht4] at b4
    have h5 := sg_5 (show n = 3 ∨ n = 4 ∨ n = 5 by omega) (show 0 ≤ t0 ∧ t0 < n by omega) ht1 ht2 ht3 ht4
    rw [← ht5] at h5
    have k := h62k (C := C) (V := V) (PR := PR) (PZ := PZ) (σ := σ) (X := ms_a X 2 Y) (w := w) (f := f) (t0 := t0) (t1 := t1) (t2 := t2) (t3 := t3) (t4 := t4) (t5 := t5) (b := b) (l4 := some (.int (Int32.ofInt (if mf_wg (PR 0) w f ≤ PR 0 (9 + 10 * w + 2) then 1 else 0)))) h1 h2 (by omega) (by omega) (by omega) (by omega) (by omega) (by rw [sa_eq rfl, y1 t0 (by omega) (by omega)]; exact ht1.symm) (by rw [sa_eq rfl, y1 t1 (by omega) (by omega)]; exact ht2.symm) (by rw [sa_eq rfl, y1 t2 (by omega) (by omega)]; exact ht3.symm) (by rw [sa_eq rfl, y1 t3 (by omega) (by omega)]; exact ht4.symm) (by rw [sa_eq rfl, y1 t4 (by omega) (by omega)]; exact ht5.symm)
    have e3 : (ms_a X 2 Y) 3 = X 3 := sa_ne (by decide)
    rw [e3] at k
    refine ⟨ms_a (ms_a X 2 Y) 3 (mr_st (mr_st (mr_st (mr_st (mr_st (X 3) (w * 5 + t0) 1) (w * 5 + t1) 1) (w * 5 + t2) 1) (w * 5 + t3) 1) (w * 5 + t4) 1), some (.int (Int32.ofInt (if mf_wg (PR 0) w f ≤ PR 0 (9 + 10 * w + 2) then 1 else 0))), some (.int (Int32.ofInt b)), some (.int (Int32.ofInt t5)), some (.int (Int32.ofInt 5)), ?_, ?_, ?_⟩
    rotate_left 2
    · rw [← k]
      rw [H_62_10]
      by_cases q : mf_wg (PR 0) w f ≤ PR 0 (9 + 10 * w + 2)
      · rw [if_pos q] at hbe y3 ⊢
        subst hbe
        simp (disch := omega) only [Int.reduceAdd, Int.reduceMul, Int.reduceSub, Int.reduceNeg, na_add, na_sub, na_mul, na_neg, na_lt, na_le, na_eq, na_ofNat, bo_some, tl_some, tl_none, rc_int, rc_ref, rc_null, rc_none, rc_long, tb_0, tb_1, ↓mr_g0, mr_r0, mr_get, mr_upd, mr_at, mr_wr, Classical.not_not, not_true_eq_false, not_false_eq_true, na_l0, na_l1, na_l2, na_l3, na_l4, na_l5, na_l6, na_l7, na_l8, na_l9, na_l10, na_l14, na_l15, na_l16, na_l25, na_l30, na_l31, na_l32, na_l33, na_l39, na_l43, na_l45, na_l48, na_l49, na_l50, na_l51, na_l52, na_l53, na_l55, na_l56, na_l57, na_l60, na_l64, na_l71, na_l80, na_l96, na_l100, na_l101, na_l102, na_l103, na_l104, na_l105, na_l106, na_l107, na_l108, na_l109, na_l110, na_l111, na_l112, na_l113, na_l114, na_l115, na_l116, na_l117, na_l118, na_l119, na_l120, na_l121, na_l125, na_l128, na_l150, na_l192, na_l255, na_l999, na_l1000, na_l1248, na_l1344, na_l1875, na_l10000, ↓reduceIte, pf_and, pe_le, pf_le, pe_lt, pf_lt, pe_eq, pf_eq, true_and, and_true, false_and, and_false, true_or, or_true, false_or, or_false, ↓csk_0, ↓cso_0_0, ↓cso_0_1, ↓cso_0_2, ↓cso_0_3, ↓cso_0_4, ↓cso_0_5, ↓csk_1, ↓cso_1_0, ↓cso_1_1, ↓csk_37, ↓cso_37_0, ↓cso_37_1, ↓cso_37_2, ↓csk_277, ↓cso_277_0, ↓cso_277_1, ↓csk_314, ↓cso_314_0, ↓cso_314_1, ↓cso_314_2, ↓cso_314_3, ↓cso_314_4, ↓cso_314_5, ↓cso_314_6, ↓cso_314_7, ↓cso_314_8, ↓cso_314_9, ↓csg_2, ↓csn_2, ↓csg_279, ↓csn_279, ↓csg_315, ↓csn_315, ↓csg_316, ↓csn_316, ↓csg_317, ↓csn_317, ↓csg_318, ↓csn_318, ↓csg_319, ↓csn_319, ↓csg_320, ↓csn_320, ↓csg_321, ↓csn_321, ↓csg_322, ↓csn_322, ↓csg_323, ↓csn_323, ↓csq_38, ↓csm_38, ↓csq_278, ↓csm_278, ↓cpk0_0, ↓cpk0_1, ↓cpk0_8, ↓cpk0_11, ↓cpo0_0, ↓cpo0_1, ↓cpo0_2, ↓cpo0_3, ↓cpo0_4, ↓cpo0_5, ↓cpo0_6, ↓cpo0_7, ↓cpo0_8, ↓cpk1_0, ↓cpk1_1, ↓cpk1_8, ↓cpk1_11, ↓cpo1_0, ↓cpo1_1, ↓cpo1_2, ↓cpo1_3, ↓cpo1_4, ↓cpo1_5, ↓cpo1_6, ↓cpo1_7, ↓cpo1_8, r140_315, r140_316, r140_317, r140_318, r140_319, r140_320, r140_321, r140_322, r140_323, s140_2, s140_3, s140_4, s140_5, s140_6, s140_7, s140_9, s140_10, s140_12, s140_13, s140_14, ↓spo_1_0, ↓spo_1_1, ↓spo_1_2, ↓spo_1_3, ↓spo_1_4, ↓spo_1_5, ↓spo_1_6, ↓spo_8_0, ↓spo_8_1, ↓spo_8_2, ↓spo_11_0, ↓spo_11_1, ↓spo_11_2, ↓spo_11_3, ↓spo_11_4, ↓spo_11_5, I_62_0, I_62_1, I_62_2, s97, s5 hi, mpl_w, y3, ht0]
      · rw [if_neg q] at hbe y3 ⊢
        subst hbe
        simp (disch := omega) only [Int.reduceAdd, Int.reduceMul, Int.reduceSub, Int.reduceNeg, na_add, na_sub, na_mul, na_neg, na_lt, na_le, na_eq, na_ofNat, bo_some, tl_some, tl_none, rc_int, rc_ref, rc_null, rc_none, rc_long, tb_0, tb_1, ↓mr_g0, mr_r0, mr_get, mr_upd, mr_at, mr_wr, Classical.not_not, not_true_eq_false, not_false_eq_true, na_l0, na_l1, na_l2, na_l3, na_l4, na_l5, na_l6, na_l7, na_l8, na_l9, na_l10, na_l14, na_l15, na_l16, na_l25, na_l30, na_l31, na_l32, na_l33, na_l39, na_l43, na_l45, na_l48, na_l49, na_l50, na_l51, na_l52, na_l53, na_l55, na_l56, na_l57, na_l60, na_l64, na_l71, na_l80, na_l96, na_l100, na_l101, na_l102, na_l103, na_l104, na_l105, na_l106, na_l107, na_l108, na_l109, na_l110, na_l111, na_l112, na_l113, na_l114, na_l115, na_l116, na_l117, na_l118, na_l119, na_l120, na_l121, na_l125, na_l128, na_l150, na_l192, na_l255, na_l999, na_l1000, na_l1248, na_l1344, na_l1875, na_l10000, ↓reduceIte, pf_and, pe_le, pf_le, pe_lt, pf_lt, pe_eq, pf_eq, true_and, and_true, false_and, and_false, true_or, or_true, false_or, or_false, ↓csk_0, ↓cso_0_0, ↓cso_0_1, ↓cso_0_2, ↓cso_0_3, ↓cso_0_4, ↓cso_0_5, ↓csk_1, ↓cso_1_0, ↓cso_1_1, ↓csk_37, ↓cso_37_0, ↓cso_37_1, ↓cso_37_2, ↓csk_277, ↓cso_277_0, ↓cso_277_1, ↓csk_314, ↓cso_314_0, ↓cso_314_1, ↓cso_314_2, ↓cso_314_3, ↓cso_314_4, ↓cso_314_5, ↓cso_314_6, ↓cso_314_7, ↓cso_314_8, ↓cso_314_9, ↓csg_2, ↓csn_2, ↓csg_279, ↓csn_279, ↓csg_315, ↓csn_315, ↓csg_316, ↓csn_316, ↓csg_317, ↓csn_317, ↓csg_318, ↓csn_318, ↓csg_319, ↓csn_319, ↓csg_320, ↓csn_320, ↓csg_321, ↓csn_321, ↓csg_322, ↓csn_322, ↓csg_323, ↓csn_323, ↓csq_38, ↓csm_38, ↓csq_278, ↓csm_278, ↓cpk0_0, ↓cpk0_1, ↓cpk0_8, ↓cpk0_11, ↓cpo0_0, ↓cpo0_1, ↓cpo0_2, ↓cpo0_3, ↓cpo0_4, ↓cpo0_5, ↓cpo0_6, ↓cpo0_7, ↓cpo0_8, ↓cpk1_0, ↓cpk1_1, ↓cpk1_8, ↓cpk1_11, ↓cpo1_0, ↓cpo1_1, ↓cpo1_2, ↓cpo1_3, ↓cpo1_4, ↓cpo1_5, ↓cpo1_6, ↓cpo1_7, ↓cpo1_8, r140_315, r140_316, r140_317, r140_318, r140_319, r140_320, r140_321, r140_322, r140_323, s140_2, s140_3, s140_4, s140_5, s140_6, s140_7, s140_9, s140_10, s140_12, s140_13, s140_14, ↓spo_1_0, ↓spo_1_1, ↓spo_1_2, ↓spo_1_3, ↓spo_1_4, ↓spo_1_5, ↓spo_1_6, ↓spo_8_0, ↓spo_8_1, ↓spo_8_2, ↓spo_11_0, ↓spo_11_1, ↓spo_11_2, ↓spo_11_3, ↓spo_11_4, ↓spo_11_5, I_62_0, I_62_1, I_62_2, s97, s5 hi, mpl_w, y3, ht0]
    · intro j j2 j3
      rw [sa_ne j3, sa_ne j2]
    · have X2e : ∀ Z : mr_R, (ms_a (ms_a X 2 Y) 3 Z) 2 = Y := fun Z => by rw [sa_ne (by decide), sa_eq rfl]
      have X3e : ∀ Z : mr_R, (ms_a (ms_a X 2 Y) 3 Z) 3 = Z := fun Z => sa_eq rfl
      have blk : ∀ a, a < w * 5 ∨ w * 5 + 5 ≤ a → mr_st (mr_st (mr_st (mr_st (mr_st (X 3) (w * 5 + t0) 1) (w * 5 + t1) 1) (w * 5 + t2) 1) (w * 5 + t3) 1) (w * 5 + t4) 1 a = X 3 a := fun a ha => by
        simp (disch := omega) only [ms_ne]
      have at_ : ∀ t, 0 ≤ t → t < 5 → mr_st (mr_st (mr_st (mr_st (mr_st (X 3) (w * 5 + t0) 1) (w * 5 + t1) 1) (w * 5 + t2) 1) (w * 5 + t3) 1) (w * 5 + t4) 1 (w * 5 + t) = if t = t0 ∨ t = t1 ∨ t = t2 ∨ t = t3 ∨ t = t4 then 1 else 0 := fun t a1 a2 => by
        have z := (i5 (w * 5 + t) (by omega) (by omega)).2 (by omega)
        unfold mr_st
        rw [z]
        repeat' split
        all_goals omega
      refine ⟨?_, ?_, ?_, ?_, ?_⟩
      · intro v t a1 a2 a3 a4 a5
        rw [X2e]
        by_cases e : v = w
        · subst e
          rw [y1 t a4 a5, hb, hn]
        · rw [y2 _ (by omega)]
          exact i1 v t a1 (by omega) a3 a4 a5
      · intro v a1 a2 a3
        rw [X3e]
        by_cases e : v = w
        · subst e
          rw [ht0, at_ t0 (by omega) (by omega), if_pos (Or.inl rfl)]
        · have hv := hi.w a1 a3
          rw [blk _ (by omega)]
          exact i2 v a1 (by omega) a3
      · intro v t a1 a2 a3 a4 a5 a6
        rw [X3e] at a6 ⊢
        have hv := hi.w a1 a3
        have bv : 0 ≤ (t + sg_by (PR 0) f v) % PR 0 (9 + 10 * v + 0) ∧ (t + sg_by (PR 0) f v) % PR 0 (9 + 10 * v + 0) < PR 0 (9 + 10 * v + 0) := ⟨Int.emod_nonneg _ (by omega), Int.emod_lt_of_pos _ (by omega)⟩
        by_cases e : v = w
        · subst e
          rw [hb, hn] at bv ⊢
          rw [at_ t a4 a5] at a6
          rw [at_ _ (by omega) (by omega)]
          have a7 : t = t0 ∨ t = t1 ∨ t = t2 ∨ t = t3 ∨ t = t4 := by
            refine Classical.byContradiction fun z => a6 (if_neg z)
          rw [if_pos]
          · omega
          · rcases a7 with rfl | rfl | rfl | rfl | rfl
            · exact Or.inr (Or.inl ht1.symm)
            · exact Or.inr (Or.inr (Or.inl ht2.symm))
            · exact Or.inr (Or.inr (Or.inr (Or.inl ht3.symm)))
            · exact Or.inr (Or.inr (Or.inr (Or.inr ht4.symm)))
            · rw [← ht5]; omega
        · rw [blk _ (by omega)] at a6 ⊢
          exact i3 v t a1 (by omega) a3 a4 a5 a6
      · intro v a1 a2 a3
        rw [X3e, blk _ (by omega)]
        exact i4 v a1 (by omega) a3
      · intro a a1 a2
        rw [X3e]
        by_cases e : a < w * 5 ∨ w * 5 + 5 ≤ a
        · rw [blk _ e]
          have z := i5 a a1 a2
          exact ⟨z.1, fun q => z.2 (by omega)⟩
        · have z := at_ (a - w * 5) (by omega) (by omega)
          rw [show w * 5 + (a - w * 5) = a by omega] at z
          rw [z]
          refine ⟨?_, fun q => by omega⟩
          split
          · exact Or.inr rfl
          · exact Or.inl rfl
  · have hg0 := fun t : Int => c139x (t + 0) (mp_w (PR 0) (PZ 0) 0 w)
    obtain ⟨g0, hg0⟩ := Classical.skolem.mp hg0
    obtain ⟨Y, y1, y2, y3⟩ := h62t (C := C) (V := V) (PR := PR) (PZ := PZ) (σ := σ) (b := 0) (f := f) (l4 := some (.int (Int32.ofInt 0))) (g := fun t => if t = 0 then 0 else g0 t) h1 h2 rfl rfl (fun t a1 a2 s => by
      by_cases e : t = 0
      · rw [if_pos e, e]
        exact c139z _ s
      · rw [if_neg e]
        exact hg0 t s) 5 0 X l7 (by omega) (by omega) (fun u a1 a2 => by omega)
    have yz : Y (w * 5 + 0) = 0 := by rw [y1 0 (by omega) (by omega), if_pos rfl]
    have k := h62k (C := C) (V := V) (PR := PR) (PZ := PZ) (σ := σ) (X := ms_a X 2 Y) (w := w) (f := f) (t0 := 0) (t1 := 0) (t2 := 0) (t3 := 0) (t4 := 0) (t5 := 0) (b := 0) (l4 := some (.int (Int32.ofInt 0))) h1 h2 (by omega) (by omega) (by omega) (by omega) (by omega) (by rw [sa_eq rfl]; exact yz) (by rw [sa_eq rfl]; exact yz) (by rw [sa_eq rfl]; exact yz) (by rw [sa_eq rfl]; exact yz) (by rw [sa_eq rfl]; exact yz)
    have e3 : (ms_a X 2 Y) 3 = X 3 := sa_ne (by decide)
    simp only [e3, ms_up] at k
    refine ⟨ms_a (ms_a X 2 Y) 3 (mr_st (X 3) (w * 5 + 0) 1), some (.int (Int32.ofInt 0)), some (.int (Int32.ofInt 0)), some (.int (Int32.ofInt 0)), some (.int (Int32.ofInt 5)), ?_, ?_, ?_⟩
    rotate_left 2
    · rw [← k]
      rw [H_62_10]
      simp (disch := omega) only [Int.reduceAdd, Int.reduceMul, Int.reduceSub, Int.reduceNeg, na_add, na_sub, na_mul, na_neg, na_lt, na_le, na_eq, na_ofNat, bo_some, tl_some, tl_none, rc_int, rc_ref, rc_null, rc_none, rc_long, tb_0, tb_1, ↓mr_g0, mr_r0, mr_get, mr_upd, mr_at, mr_wr, Classical.not_not, not_true_eq_false, not_false_eq_true, na_l0, na_l1, na_l2, na_l3, na_l4, na_l5, na_l6, na_l7, na_l8, na_l9, na_l10, na_l14, na_l15, na_l16, na_l25, na_l30, na_l31, na_l32, na_l33, na_l39, na_l43, na_l45, na_l48, na_l49, na_l50, na_l51, na_l52, na_l53, na_l55, na_l56, na_l57, na_l60, na_l64, na_l71, na_l80, na_l96, na_l100, na_l101, na_l102, na_l103, na_l104, na_l105, na_l106, na_l107, na_l108, na_l109, na_l110, na_l111, na_l112, na_l113, na_l114, na_l115, na_l116, na_l117, na_l118, na_l119, na_l120, na_l121, na_l125, na_l128, na_l150, na_l192, na_l255, na_l999, na_l1000, na_l1248, na_l1344, na_l1875, na_l10000, ↓reduceIte, pf_and, pe_le, pf_le, pe_lt, pf_lt, pe_eq, pf_eq, true_and, and_true, false_and, and_false, true_or, or_true, false_or, or_false, ↓csk_0, ↓cso_0_0, ↓cso_0_1, ↓cso_0_2, ↓cso_0_3, ↓cso_0_4, ↓cso_0_5, ↓csk_1, ↓cso_1_0, ↓cso_1_1, ↓csk_37, ↓cso_37_0, ↓cso_37_1, ↓cso_37_2, ↓csk_277, ↓cso_277_0, ↓cso_277_1, ↓csk_314, ↓cso_314_0, ↓cso_314_1, ↓cso_314_2, ↓cso_314_3, ↓cso_314_4, ↓cso_314_5, ↓cso_314_6, ↓cso_314_7, ↓cso_314_8, ↓cso_314_9, ↓csg_2, ↓csn_2, ↓csg_279, ↓csn_279, ↓csg_315, ↓csn_315, ↓csg_316, ↓csn_316, ↓csg_317, ↓csn_317, ↓csg_318, ↓csn_318, ↓csg_319, ↓csn_319, ↓csg_320, ↓csn_320, ↓csg_321, ↓csn_321, ↓csg_322, ↓csn_322, ↓csg_323, ↓csn_323, ↓csq_38, ↓csm_38, ↓csq_278, ↓csm_278, ↓cpk0_0, ↓cpk0_1, ↓cpk0_8, ↓cpk0_11, ↓cpo0_0, ↓cpo0_1, ↓cpo0_2, ↓cpo0_3, ↓cpo0_4, ↓cpo0_5, ↓cpo0_6, ↓cpo0_7, ↓cpo0_8, ↓cpk1_0, ↓cpk1_1, ↓cpk1_8, ↓cpk1_11, ↓cpo1_0, ↓cpo1_1, ↓cpo1_2, ↓cpo1_3, ↓cpo1_4, ↓cpo1_5, ↓cpo1_6, ↓cpo1_7, ↓cpo1_8, r140_315, r140_316, r140_317, r140_318, r140_319, r140_320, r140_321, r140_322, r140_323, s140_2, s140_3, s140_4, s140_5, s140_6, s140_7, s140_9, s140_10, s140_12, s140_13, s140_14, ↓spo_1_0, ↓spo_1_1, ↓spo_1_2, ↓spo_1_3, ↓spo_1_4, ↓spo_1_5, ↓spo_1_6, ↓spo_8_0, ↓spo_8_1, ↓spo_8_2, ↓spo_11_0, ↓spo_11_1, ↓spo_11_2, ↓spo_11_3, ↓spo_11_4, ↓spo_11_5, I_62_0, I_62_1, I_62_2, s97, y3]
    · intro j j2 j3
      rw [sa_ne j3, sa_ne j2]
    · have X2e : ∀ Z : mr_R, (ms_a (ms_a X 2 Y) 3 Z) 2 = Y := fun Z => by rw [sa_ne (by decide), sa_eq rfl]
      have X3e : ∀ Z : mr_R, (ms_a (ms_a X 2 Y) 3 Z) 3 = Z := fun Z => sa_eq rfl
      refine ⟨?_, ?_, ?_, ?_, ?_⟩
      · intro v t a1 a2 a3 a4 a5
        rw [X2e, y2 _ (by omega)]
        exact i1 v t a1 (by omega) a3 a4 a5
      · intro v a1 a2 a3
        have hv := hi.w a1 a3
        rw [X3e, ms_ne (by omega)]
        exact i2 v a1 (by omega) a3
      · intro v t a1 a2 a3 a4 a5 a6
        rw [X3e] at a6 ⊢
        have hv := hi.w a1 a3
        have bv : 0 ≤ (t + sg_by (PR 0) f v) % PR 0 (9 + 10 * v + 0) ∧ (t + sg_by (PR 0) f v) % PR 0 (9 + 10 * v + 0) < PR 0 (9 + 10 * v + 0) := ⟨Int.emod_nonneg _ (by omega), Int.emod_lt_of_pos _ (by omega)⟩
        rw [ms_ne (by omega)] at a6 ⊢
        exact i3 v t a1 (by omega) a3 a4 a5 a6
      · intro v a1 a2 a3
        rw [X3e]
        by_cases e : v = w
        · rw [ms_eq (by omega)]
        · rw [ms_ne (by omega)]
          exact i4 v a1 (by omega) a3
      · intro a a1 a2
        rw [X3e]
        have z := i5 a a1 a2
        by_cases e : a = w * 5 + 0
        · rw [ms_eq e]
          exact ⟨Or.inr rfl, fun q => by omega⟩
        · rw [ms_ne e]
          exact ⟨z.1, fun q => z.2 (by omega)⟩
theorem h62w {f : Int} (hi : mi K (PR 0)) (hf : 0 ≤ f ∧ f < 5) : ∀ (m : Nat) (w : Int) (X : Nat → mr_R) (l4 l5 l6 l7 : Option Value), 0 ≤ w → w + m = 3 → st_I (PR 0) f w X → ∃ X2, st_ch X X2 ∧ st_I (PR 0) f 3 X2 ∧ ev 62 (10, [some (.ref (C + 314)), some (.ref (C + 3)), some (.int (Int32.ofInt f)), some (.int (Int32.ofInt w)), l4, l5, l6, l7], []) (cs C V PR PZ X σ) = some (none, cs C V PR PZ X2 σ) := by
  intro m
  induction m with
  | zero =>
    intro w X l4 l5 l6 l7 h5 h6 hI
    obtain rfl : w = 3 := by omega
    refine ⟨X, fun _ _ _ => rfl, hI, ?_⟩
    rw [H_62_10]
    simp (disch := omega) only [Int.reduceAdd, Int.reduceMul, Int.reduceSub, Int.reduceNeg, na_add, na_sub, na_mul, na_neg, na_lt, na_le, na_eq, na_ofNat, bo_some, tl_some, tl_none, rc_int, rc_ref, rc_null, rc_none, rc_long, tb_0, tb_1, ↓mr_g0, mr_r0, mr_get, mr_upd, mr_at, mr_wr, Classical.not_not, not_true_eq_false, not_false_eq_true, na_l0, na_l1, na_l2, na_l3, na_l4, na_l5, na_l6, na_l7, na_l8, na_l9, na_l10, na_l14, na_l15, na_l16, na_l25, na_l30, na_l31, na_l32, na_l33, na_l39, na_l43, na_l45, na_l48, na_l49, na_l50, na_l51, na_l52, na_l53, na_l55, na_l56, na_l57, na_l60, na_l64, na_l71, na_l80, na_l96, na_l100, na_l101, na_l102, na_l103, na_l104, na_l105, na_l106, na_l107, na_l108, na_l109, na_l110, na_l111, na_l112, na_l113, na_l114, na_l115, na_l116, na_l117, na_l118, na_l119, na_l120, na_l121, na_l125, na_l128, na_l150, na_l192, na_l255, na_l999, na_l1000, na_l1248, na_l1344, na_l1875, na_l10000, ↓reduceIte, pf_and, pe_le, pf_le, pe_lt, pf_lt, pe_eq, pf_eq, true_and, and_true, false_and, and_false, true_or, or_true, false_or, or_false, I_62_0, I_62_1, I_62_2]
  | succ m ih =>
    intro w X l4 l5 l6 l7 h5 h6 hI
    obtain ⟨X1, a4, a5, a6, a7, b1, b2, b3⟩ := h62b (C := C) (V := V) (PZ := PZ) (σ := σ) (l4 := l4) (l5 := l5) (l6 := l6) (l7 := l7) hi hf h5 (by omega) hI
    obtain ⟨X2, c1, c2, c3⟩ := ih (w + 1) X1 a4 a5 a6 a7 (by omega) (by omega) b2
    exact ⟨X2, st_tr b1 c1, c2, b3.trans c3⟩
theorem c62 {f : Int} {X : Nat → mr_R} (hi : mi K (PR 0)) (hf : 0 ≤ f ∧ f < 5) : ∃ X2, st_ch X X2 ∧ st_I (PR 0) f 3 X2 ∧ cal 62 [.ref (C + 314), .ref (C + 3), .int (Int32.ofInt f)] (cs C V PR PZ X σ) = some (none, cs C V PR PZ X2 σ) := by
  have z : ∀ a, 0 ≤ a → a < 15 → (ms_a X 3 (mc_fl (X 3) 15 0)) 3 a = 0 := fun a b1 b2 => by
    rw [sa_eq rfl]
    unfold mc_fl
    rw [if_pos ⟨b1, b2⟩]
  obtain ⟨X2, a1, a2, a3⟩ := h62w (C := C) (V := V) (PZ := PZ) (σ := σ) hi hf 3 0 (ms_a X 3 (mc_fl (X 3) 15 0)) none none none none (by omega) (by omega) ⟨fun v t b1 b2 => by omega, fun v b1 b2 => by omega, fun v t b1 b2 => by omega, fun v b1 b2 => by omega, fun a b1 b2 => ⟨Or.inl (z a b1 b2), fun _ => z a b1 b2⟩⟩
  refine ⟨X2, fun j j2 j3 => ?_, a2, ?_⟩
  · rw [a1 j j2 j3, sa_ne j3]
  · rw [E_62]
    simp (disch := omega) only [Int.reduceAdd, Int.reduceMul, Int.reduceSub, Int.reduceNeg, na_add, na_sub, na_mul, na_neg, na_lt, na_le, na_eq, na_ofNat, bo_some, tl_some, tl_none, rc_int, rc_ref, rc_null, rc_none, rc_long, tb_0, tb_1, ↓mr_g0, mr_r0, mr_get, mr_upd, mr_at, mr_wr, Classical.not_not, not_true_eq_false, not_false_eq_true, na_l0, na_l1, na_l2, na_l3, na_l4, na_l5, na_l6, na_l7, na_l8, na_l9, na_l10, na_l14, na_l15, na_l16, na_l25, na_l30, na_l31, na_l32, na_l33, na_l39, na_l43, na_l45, na_l48, na_l49, na_l50, na_l51, na_l52, na_l53, na_l55, na_l56, na_l57, na_l60, na_l64, na_l71, na_l80, na_l96, na_l100, na_l101, na_l102, na_l103, na_l104, na_l105, na_l106, na_l107, na_l108, na_l109, na_l110, na_l111, na_l112, na_l113, na_l114, na_l115, na_l116, na_l117, na_l118, na_l119, na_l120, na_l121, na_l125, na_l128, na_l150, na_l192, na_l255, na_l999, na_l1000, na_l1248, na_l1344, na_l1875, na_l10000, ↓reduceIte, pf_and, pe_le, pf_le, pe_lt, pf_lt, pe_eq, pf_eq, true_and, and_true, false_and, and_false, true_or, or_true, false_or, or_false, ↓csk_0, ↓cso_0_0, ↓cso_0_1, ↓cso_0_2, ↓cso_0_3, ↓cso_0_4, ↓cso_0_5, ↓csk_1, ↓cso_1_0, ↓cso_1_1, ↓csk_37, ↓cso_37_0, ↓cso_37_1, ↓cso_37_2, ↓csk_277, ↓cso_277_0, ↓cso_277_1, ↓csk_314, ↓cso_314_0, ↓cso_314_1, ↓cso_314_2, ↓cso_314_3, ↓cso_314_4, ↓cso_314_5, ↓cso_314_6, ↓cso_314_7, ↓cso_314_8, ↓cso_314_9, ↓csg_2, ↓csn_2, ↓csg_279, ↓csn_279, ↓csg_315, ↓csn_315, ↓csg_316, ↓csn_316, ↓csg_317, ↓csn_317, ↓csg_318, ↓csn_318, ↓csg_319, ↓csn_319, ↓csg_320, ↓csn_320, ↓csg_321, ↓csn_321, ↓csg_322, ↓csn_322, ↓csg_323, ↓csn_323, ↓csq_38, ↓csm_38, ↓csq_278, ↓csm_278, w141_315, w229_315, w141_316, w229_316, w141_317, w229_317, w141_318, w229_318, w141_319, w229_319, w141_320, w229_320, w141_321, w229_321, w141_322, w229_322, w141_323, w229_323, I_62_0, I_62_1, I_62_2, a3]
end CSB
