/-! The standing now. -/
theorem sx_pad {p t n : Int} (hn : n = 3 ∨ n = 4 ∨ n = 5) (h0 : 0 ≤ p) (h1 : p < n) : ((p + t) % n - t) % n = p := by
  rcases hn with e | e | e <;> subst e <;> omega
theorem sn_now {K : Int} {R : mr_R} (hi : mi K R) {X : Nat → mr_R} {f : Int} (h1 : 0 ≤ f) (h2 : f < R 2) (hI : sb_I R f X) : (0 ≤ sg_n R f ∧ sg_n R f < 1875) ∧ X 5 (sg_n R f) ≠ -1 := by
  have hc := hi.c
  have hf := hi.f h1 h2
  have hT := sg_T_bd hi
  have hp := mf_place_bd hi h1 h2
  have own := mf_on_own hi h1 h2
  obtain ⟨w, hw⟩ : ∃ w, R (71 + 5 * f + 1) = w := ⟨_, rfl⟩
  have hww := hi.w (w := w) (by omega) (by omega)
  have hpe : mf_place R f = (R (71 + 5 * f + 2) + R (9 + 10 * w + 3)) % R (9 + 10 * w + 0) := by rw [← hw]; rfl
  rw [hw] at hp own
  have hn : R (9 + 10 * w + 0) = 3 ∨ R (9 + 10 * w + 0) = 4 ∨ R (9 + 10 * w + 0) = 5 := by omega
  have bpad : R (71 + 5 * f + 2) < R (9 + 10 * w + 0) := by rw [← hw]; omega
  have hpad := sx_pad (t := R (9 + 10 * w + 3)) hn (show 0 ≤ R (71 + 5 * f + 2) by omega) bpad
  rw [← hpe] at hpad
  have bw : 0 ≤ w ∧ w < 3 := by omega
  have bs : 0 ≤ w * 5 + mf_place R f ∧ w * 5 + mf_place R f < 15 := by omega
  have hd := st_d (T := sg_T R) bs.1 bs.2
  have e5 : (w * 5 + mf_place R f) / 5 = w ∧ (w * 5 + mf_place R f) % 5 = mf_place R f := by omega
  have bn : 0 ≤ sg_n R f ∧ sg_n R f < 1875 := by
    unfold sg_n
    rw [hw]
    omega
  refine ⟨bn, ?_⟩
  rw [hI.2.2.2 _ bn.1 bn.2, sp_iff hi]
  unfold sg_n
  rw [hw, hd.1, hd.2.1, hd.2.2, e5.1, e5.2]
  have tw := hT.2.2 w bw.1 bw.2
  rw [if_pos (by omega)] at tw
  refine ⟨?_, ⟨by omega, by omega, by omega, by omega⟩, ?_⟩
  · have gen : ∀ v, 0 ≤ v → v < 3 → X 3 (v * 5 + sg_t (sg_T R) v) ≠ 0 := by
      intro v v1 v2
      rw [hT.2.2 v v1 v2]
      by_cases q : v < R 0
      · rw [if_pos q, hI.2.1.2.1 v v1 v2 q]
        decide
      · rw [if_neg q, hI.2.1.2.2.2.1 v v1 v2 (by omega)]
        decide
    exact ⟨gen 0 (by decide) (by decide), gen 1 (by decide) (by decide), gen 2 (by decide) (by decide)⟩
  · rw [tw, hpad]
    have b2 : 0 ≤ R (71 + 5 * f + 2) ∧ R (71 + 5 * f + 2) < 5 := by omega
    rw [hI.2.2.1 _ (by omega) (by omega)]
    unfold sk_v
    rw [show (w * 5 + R (71 + 5 * f + 2)) / 5 = w by omega, show (w * 5 + R (71 + 5 * f + 2)) % 5 = R (71 + 5 * f + 2) by omega, if_pos (Or.inr own)]
    decide

