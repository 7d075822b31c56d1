/-! Waves in the class. -/
/-- the standing behind the way k of s -/
def sn_x (X : Nat → mr_R) (s k : Int) : Int := if X 5 (s / 15 * 15 + X 6 (s % 15 * 10 + k)) = -1 then -1 else if X 6 (s % 15 * 10 + k) / 5 = s % 15 / 5 then s / 15 * 15 + X 6 (s % 15 * 10 + k) else (s / 15 + (X 2 (s % 15 / 5 * 5 + sg_t (s / 15) (s % 15 / 5)) - sg_t (s / 15) (s % 15 / 5)) * sg_u (s % 15 / 5)) * 15 + X 6 (s % 15 * 10 + k)
def sn_w (X : Nat → mr_R) (s : Int) : Int := X 7 (s % 15)
theorem sg_rep {T w t : Int} (h0 : 0 ≤ T) (h1 : T < 125) (h2 : 0 ≤ w) (h3 : w < 3) (h4 : 0 ≤ t) (h5 : t < 5) : 0 ≤ T + (t - sg_t T w) * sg_u w ∧ T + (t - sg_t T w) * sg_u w < 125 ∧ sg_t (T + (t - sg_t T w) * sg_u w) w = t ∧ ∀ v, 0 ≤ v → v < 3 → v ≠ w → sg_t (T + (t - sg_t T w) * sg_u w) v = sg_t T v := by
  have e : w = 0 ∨ w = 1 ∨ w = 2 := by omega
  rcases e with e | e | e <;> subst e
  · unfold sg_t sg_u
    simp only [if_true]
    refine ⟨by omega, by omega, by omega, fun v a b c => ?_⟩
    have e : v = 1 ∨ v = 2 := by omega
    rcases e with e | e <;> subst e <;> simp <;> omega
  · unfold sg_t sg_u
    simp only [show ¬ (1 : Int) = 0 by decide, if_true, if_false]
    refine ⟨by omega, by omega, by omega, fun v a b c => ?_⟩
    have e : v = 0 ∨ v = 2 := by omega
    rcases e with e | e <;> subst e <;> simp <;> omega
  · unfold sg_t sg_u
    simp only [show ¬ (2 : Int) = 0 by decide, show ¬ (2 : Int) = 1 by decide, if_false]
    refine ⟨by omega, by omega, by omega, fun v a b c => ?_⟩
    have e : v = 0 ∨ v = 1 := by omega
    rcases e with e | e <;> subst e <;> simp <;> omega
/-- ways lead from place to place -/
theorem sy_live {K : Int} {R : mr_R} (hi : mi K R) {X : Nat → mr_R} {f a k : Int} (hI : sb_I R f X) (h0 : 0 ≤ a) (h1 : a < 15) (h2 : 0 ≤ k) (h3 : k < X 7 a) : (0 ≤ a / 5 ∧ a / 5 < R 0 ∧ a % 5 < R (9 + 10 * (a / 5) + 0)) ∧ (0 ≤ X 6 (a * 10 + k) ∧ X 6 (a * 10 + k) < 15) := by
  have hc := hi.c
  have hk := (hI.1.1 a h0 h1).2 k h2 h3
  refine ⟨?_, hk⟩
  rcases (hI.1.2.1 a (X 6 (a * 10 + k)) h0 h1).mp ⟨k, h2, h3, rfl⟩ with ⟨v, q, b1, b2, -, b4⟩ | ⟨l, l1, l2, l3⟩
  · have hv := hi.w b1.1 b1.2
    have e := b4.1
    rw [show a / 5 = v by omega]
    omega
  · have hl := hi.l l1 l2
    have w0 := hi.w (w := R (39 + 4 * l + 0)) (by omega) (by omega)
    have w2 := hi.w (w := R (39 + 4 * l + 2)) (by omega) (by omega)
    unfold sy_f sy_o at l3
    rcases l3 with ⟨e, -⟩ | ⟨e, -⟩
    · rw [show a / 5 = R (39 + 4 * l + 0) by omega]
      omega
    · rw [show a / 5 = R (39 + 4 * l + 2) by omega]
      omega
theorem sn_bd {K : Int} {R : mr_R} (hi : mi K R) {X : Nat → mr_R} {f s k : Int} (hI : sb_I R f X) (h0 : 0 ≤ s) (h1 : s < 1875) (h2 : 0 ≤ k) (h3 : k < sn_w X s) (h4 : sn_x X s k ≠ -1) : 0 ≤ sn_x X s k ∧ sn_x X s k < 1875 := by
  unfold sn_w at h3
  have hc := hi.c
  obtain ⟨l1, l2⟩ := sy_live hi hI (a := s % 15) (by omega) (by omega) h2 h3
  have hw := hi.w l1.1 l1.2.1
  have bt := sg_t_bd (T := s / 15) (w := s % 15 / 5) (by omega) (by omega)
  have et := hI.2.1.1 (s % 15 / 5) (sg_t (s / 15) (s % 15 / 5)) l1.1 (by omega) l1.2.1 bt.1 bt.2
  have bq : 0 ≤ (sg_t (s / 15) (s % 15 / 5) + sg_by R f (s % 15 / 5)) % R (9 + 10 * (s % 15 / 5) + 0) ∧ (sg_t (s / 15) (s % 15 / 5) + sg_by R f (s % 15 / 5)) % R (9 + 10 * (s % 15 / 5) + 0) < R (9 + 10 * (s % 15 / 5) + 0) := ⟨Int.emod_nonneg _ (by omega), Int.emod_lt_of_pos _ (by omega)⟩
  rw [← et] at bq
  have br := sg_rep (T := s / 15) (w := s % 15 / 5) (t := X 2 (s % 15 / 5 * 5 + sg_t (s / 15) (s % 15 / 5))) (by omega) (by omega) l1.1 (by omega) bq.1 (by omega)
  unfold sn_x at h4 ⊢
  split
  · rename_i q; rw [if_pos q] at h4; exact absurd rfl h4
  · split
    · omega
    · omega
theorem sp_bd {K : Int} {R : mr_R} (hi : mi K R) {X : Nat → mr_R} (T w p : Int) : -1 ≤ sp_v R X T w p ∧ sp_v R X T w p < 15 := by
  have hc := hi.c
  unfold sp_v
  split
  · rename_i q
    obtain ⟨-, ⟨q1, q2, q3, q4⟩, -⟩ := q
    have hw := hi.w q1 q2
    have b1 := Int.emod_nonneg (p - sg_t T w) (show R (9 + 10 * w + 0) ≠ 0 by omega)
    have b2 := Int.emod_lt_of_pos (p - sg_t T w) (show 0 < R (9 + 10 * w + 0) by omega)
    omega
  · omega
section CSB
variable {C : Nat} {V : mr_R} {PR PZ X : Nat → mr_R} {σ : ri_S} {K : Int}
theorem c66 {R : mr_R} {f s k : Int} (hi : mi K R) (hI : sb_I R f X) (h0 : 0 ≤ s) (h1 : s < 1875) (h2 : 0 ≤ k) (h3 : k < X 7 (s % 15)) : cal 66 [.ref (C + 314), .int (Int32.ofInt s), .int (Int32.ofInt k)] (cs C V PR PZ X σ) = some (some (.int (Int32.ofInt (sn_x X s k))), cs C V PR PZ X σ) := by
  have hc := hi.c
  unfold sn_x
  obtain ⟨T, hT⟩ : ∃ T, s / 15 = T := ⟨_, rfl⟩
  obtain ⟨a, ha⟩ : ∃ a, s % 15 = a := ⟨_, rfl⟩
  obtain ⟨w, hw2⟩ : ∃ w, a / 5 = w := ⟨_, rfl⟩
  have bT : 0 ≤ T ∧ T < 125 := by omega
  have ba : 0 ≤ a ∧ a < 15 := by omega
  have bw : 0 ≤ w ∧ w < 3 := by omega
  rw [ha] at h3
  rw [hT, ha, hw2]
  obtain ⟨l1, l2⟩ := sy_live hi hI (a := a) (by omega) (by omega) h2 h3
  have hcnt := (hI.1.1 a (by omega) (by omega)).1
  rw [hw2] at l1
  have hw := hi.w l1.1 l1.2.1
  have bt := sg_t_bd (T := T) (w := w) (by omega) (by omega)
  have et := hI.2.1.1 w (sg_t T w) l1.1 (by omega) l1.2.1 bt.1 bt.2
  have bq : 0 ≤ (sg_t T w + sg_by R f w) % R (9 + 10 * w + 0) ∧ (sg_t T w + sg_by R f w) % R (9 + 10 * w + 0) < R (9 + 10 * w + 0) := ⟨Int.emod_nonneg _ (by omega), Int.emod_lt_of_pos _ (by omega)⟩
  rw [← et] at bq
  have hp := sp_bd hi (X := X) ((T * 15 + X 6 (a * 10 + k)) / 15) ((T * 15 + X 6 (a * 10 + k)) % 15 / 5) ((T * 15 + X 6 (a * 10 + k)) % 5)
  rw [← hI.2.2.2 (T * 15 + X 6 (a * 10 + k)) (by omega) (by omega)] at hp
  clear hI et
  generalize hto : X 6 (a * 10 + k) = b at *
  generalize hpb : X 5 (T * 15 + b) = pb at *
  generalize ht : sg_t T w = t at *
  generalize htt : X 2 (w * 5 + t) = t2 at *
  have hs : s - T * 15 = a := by omega
  have bg : -5 ≤ t2 - t ∧ t2 - t ≤ 5 := by omega
  have bu : sg_u w = 25 ∨ sg_u w = 5 ∨ sg_u w = 1 := by unfold sg_u; split; exact Or.inl rfl; split; exact Or.inr (Or.inl rfl); exact Or.inr (Or.inr rfl)
  have bm : -125 ≤ (t2 - t) * sg_u w ∧ (t2 - t) * sg_u w ≤ 125 := by rcases bu with e | e | e <;> rw [e] <;> omega
  rw [E_66]
  by_cases q1 : pb = -1
  · simp (disch := omega) only [Int.reduceAdd, Int.reduceMul, Int.reduceSub, Int.reduceNeg, na_add, na_sub, na_mul, na_neg, na_lt, na_le, na_eq, na_ofNat, bo_some, tl_some, tl_none, rc_int, rc_ref, rc_null, rc_none, rc_long, tb_0, tb_1, ↓mr_g0, mr_r0, mr_get, mr_upd, mr_at, mr_wr, Classical.not_not, not_true_eq_false, not_false_eq_true, na_l0, na_l1, na_l2, na_l3, na_l4, na_l5, na_l6, na_l7, na_l8, na_l9, na_l10, na_l14, na_l15, na_l16, na_l25, na_l30, na_l31, na_l32, na_l33, na_l39, na_l43, na_l45, na_l48, na_l49, na_l50, na_l51, na_l52, na_l53, na_l55, na_l56, na_l57, na_l60, na_l64, na_l71, na_l80, na_l96, na_l100, na_l101, na_l102, na_l103, na_l104, na_l105, na_l106, na_l107, na_l108, na_l109, na_l110, na_l111, na_l112, na_l113, na_l114, na_l115, na_l116, na_l117, na_l118, na_l119, na_l120, na_l121, na_l125, na_l128, na_l150, na_l192, na_l255, na_l999, na_l1000, na_l1248, na_l1344, na_l1875, na_l10000, ↓reduceIte, pf_and, pe_le, pf_le, pe_lt, pf_lt, pe_eq, pf_eq, true_and, and_true, false_and, and_false, true_or, or_true, false_or, or_false, ↓csk_0, ↓cso_0_0, ↓cso_0_1, ↓cso_0_2, ↓cso_0_3, ↓cso_0_4, ↓cso_0_5, ↓csk_1, ↓cso_1_0, ↓cso_1_1, ↓csk_37, ↓cso_37_0, ↓cso_37_1, ↓cso_37_2, ↓csk_277, ↓cso_277_0, ↓cso_277_1, ↓csk_314, ↓cso_314_0, ↓cso_314_1, ↓cso_314_2, ↓cso_314_3, ↓cso_314_4, ↓cso_314_5, ↓cso_314_6, ↓cso_314_7, ↓cso_314_8, ↓cso_314_9, ↓csg_2, ↓csn_2, ↓csg_279, ↓csn_279, ↓csg_315, ↓csn_315, ↓csg_316, ↓csn_316, ↓csg_317, ↓csn_317, ↓csg_318, ↓csn_318, ↓csg_319, ↓csn_319, ↓csg_320, ↓csn_320, ↓csg_321, ↓csn_321, ↓csg_322, ↓csn_322, ↓csg_323, ↓csn_323, ↓csq_38, ↓csm_38, ↓csq_278, ↓csm_278, r140_315, r140_316, r140_317, r140_318, r140_319, r140_320, r140_321, r140_322, r140_323, s140_2, s140_3, s140_4, s140_5, s140_6, s140_7, s140_9, s140_10, s140_12, s140_13, s140_14, ↓spo_1_0, ↓spo_1_1, ↓spo_1_2, ↓spo_1_3, ↓spo_1_4, ↓spo_1_5, ↓spo_1_6, ↓spo_8_0, ↓spo_8_1, ↓spo_8_2, ↓spo_11_0, ↓spo_11_1, ↓spo_11_2, ↓spo_11_3, ↓spo_11_4, ↓spo_11_5, na_div, na_rem, I_66_0, I_66_1, c59, c58, c138, hT, hs, ha, hw2, hto, hpb, q1]
  · by_cases q2 : b / 5 = w
    · simp (disch := omega) only [Int.reduceAdd, Int.reduceMul, Int.reduceSub, Int.reduceNeg, na_add, na_sub, na_mul, na_neg, na_lt, na_le, na_eq, na_ofNat, bo_some, tl_some, tl_none, rc_int, rc_ref, rc_null, rc_none, rc_long, tb_0, tb_1, ↓mr_g0, mr_r0, mr_get, mr_upd, mr_at, mr_wr, Classical.not_not, not_true_eq_false, not_false_eq_true, na_l0, na_l1, na_l2, na_l3, na_l4, na_l5, na_l6, na_l7, na_l8, na_l9, na_l10, na_l14, na_l15, na_l16, na_l25, na_l30, na_l31, na_l32, na_l33, na_l39, na_l43, na_l45, na_l48, na_l49, na_l50, na_l51, na_l52, na_l53, na_l55, na_l56, na_l57, na_l60, na_l64, na_l71, na_l80, na_l96, na_l100, na_l101, na_l102, na_l103, na_l104, na_l105, na_l106, na_l107, na_l108, na_l109, na_l110, na_l111, na_l112, na_l113, na_l114, na_l115, na_l116, na_l117, na_l118, na_l119, na_l120, na_l121, na_l125, na_l128, na_l150, na_l192, na_l255, na_l999, na_l1000, na_l1248, na_l1344, na_l1875, na_l10000, ↓reduceIte, pf_and, pe_le, pf_le, pe_lt, pf_lt, pe_eq, pf_eq, true_and, and_true, false_and, and_false, true_or, or_true, false_or, or_false, ↓csk_0, ↓cso_0_0, ↓cso_0_1, ↓cso_0_2, ↓cso_0_3, ↓cso_0_4, ↓cso_0_5, ↓csk_1, ↓cso_1_0, ↓cso_1_1, ↓csk_37, ↓cso_37_0, ↓cso_37_1, ↓cso_37_2, ↓csk_277, ↓cso_277_0, ↓cso_277_1, ↓csk_314, ↓cso_314_0, ↓cso_314_1, ↓cso_314_2, ↓cso_314_3, ↓cso_314_4, ↓cso_314_5, ↓cso_314_6, ↓cso_314_7, ↓cso_314_8, ↓cso_314_9, ↓csg_2, ↓csn_2, ↓csg_279, ↓csn_279, ↓csg_315, ↓csn_315, ↓csg_316, ↓csn_316, ↓csg_317, ↓csn_317, ↓csg_318, ↓csn_318, ↓csg_319, ↓csn_319, ↓csg_320, ↓csn_320, ↓csg_321, ↓csn_321, ↓csg_322, ↓csn_322, ↓csg_323, ↓csn_323, ↓csq_38, ↓csm_38, ↓csq_278, ↓csm_278, r140_315, r140_316, r140_317, r140_318, r140_319, r140_320, r140_321, r140_322, r140_323, s140_2, s140_3, s140_4, s140_5, s140_6, s140_7, s140_9, s140_10, s140_12, s140_13, s140_14, ↓spo_1_0, ↓spo_1_1, ↓spo_1_2, ↓spo_1_3, ↓spo_1_4, ↓spo_1_5, ↓spo_1_6, ↓spo_8_0, ↓spo_8_1, ↓spo_8_2, ↓spo_11_0, ↓spo_11_1, ↓spo_11_2, ↓spo_11_3, ↓spo_11_4, ↓spo_11_5, na_div, na_rem, I_66_0, I_66_1, c59, c58, c138, hT, hs, ha, hw2, hto, hpb, q1, q2]
    · simp (disch := omega) only [Int.reduceAdd, Int.reduceMul, Int.reduceSub, Int.reduceNeg, na_add, na_sub, na_mul, na_neg, na_lt, na_le, na_eq, na_ofNat, bo_some, tl_some, tl_none, rc_int, rc_ref, rc_null, rc_none, rc_long, tb_0, tb_1, ↓mr_g0, mr_r0, mr_get, mr_upd, mr_at, mr_wr, Classical.not_not, not_true_eq_false, not_false_eq_true, na_l0, na_l1, na_l2, na_l3, na_l4, na_l5, na_l6, na_l7, na_l8, na_l9, na_l10, na_l14, na_l15, na_l16, na_l25, na_l30, na_l31, na_l32, na_l33, na_l39, na_l43, na_l45, na_l48, na_l49, na_l50, na_l51, na_l52, na_l53, na_l55, na_l56, na_l57, na_l60, na_l64, na_l71, na_l80, na_l96, na_l100, na_l101, na_l102, na_l103, na_l104, na_l105, na_l106, na_l107, na_l108, na_l109, na_l110, na_l111, na_l112, na_l113, na_l114, na_l115, na_l116, na_l117, na_l118, na_l119, na_l120, na_l121, na_l125, na_l128, na_l150, na_l192, na_l255, na_l999, na_l1000, na_l1248, na_l1344, na_l1875, na_l10000, ↓reduceIte, pf_and, pe_le, pf_le, pe_lt, pf_lt, pe_eq, pf_eq, true_and, and_true, false_and, and_false, true_or, or_true, false_or, or_false, ↓csk_0, ↓cso_0_0, ↓cso_0_1, ↓cso_0_2, ↓cso_0_3, ↓cso_0_4, ↓cso_0_5, ↓csk_1, ↓cso_1_0, ↓cso_1_1, ↓csk_37, ↓cso_37_0, ↓cso_37_1, ↓cso_37_2, ↓csk_277, ↓cso_277_0, ↓cso_277_1, ↓csk_314, ↓cso_314_0, ↓cso_314_1, ↓cso_314_2, ↓cso_314_3, ↓cso_314_4, ↓cso_314_5, ↓cso_314_6, ↓cso_314_7, ↓cso_314_8, ↓cso_314_9, ↓csg_2, ↓csn_2, ↓csg_279, ↓csn_279, ↓csg_315, ↓csn_315, ↓csg_316, ↓csn_316, ↓csg_317, ↓csn_317, ↓csg_318, ↓csn_318, ↓csg_319, ↓csn_319, ↓csg_320, ↓csn_320, ↓csg_321, ↓csn_321, ↓csg_322, ↓csn_322, ↓csg_323, ↓csn_323, ↓csq_38, ↓csm_38, ↓csq_278, ↓csm_278, r140_315, r140_316, r140_317, r140_318, r140_319, r140_320, r140_321, r140_322, r140_323, s140_2, s140_3, s140_4, s140_5, s140_6, s140_7, s140_9, s140_10, s140_12, s140_13, s140_14, ↓spo_1_0, ↓spo_1_1, ↓spo_1_2, ↓spo_1_3, ↓spo_1_4, ↓spo_1_5, ↓spo_1_6, ↓spo_8_0, ↓spo_8_1, ↓spo_8_2, ↓spo_11_0, ↓spo_11_1, ↓spo_11_2, ↓spo_11_3, ↓spo_11_4, ↓spo_11_5, na_div, na_rem, I_66_0, I_66_1, c59, c58, c138, hT, hs, ha, hw2, hto, hpb, q1, q2, ht, htt]
end CSB
