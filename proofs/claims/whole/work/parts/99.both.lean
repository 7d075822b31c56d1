/-! The two graphs take the same steps. -/
theorem sx_pl {p t n : Int} (hn : n = 3 ∨ n = 4 ∨ n = 5) (h0 : 0 ≤ p) (h1 : p < n) : ((p - t) % n + t) % n = p := by
  rcases hn with e | e | e <;> subst e <;> omega
def sz_c (R : mr_R) (s : Int) : Int := s / 15 * 15 + sm_mp R s
def sz_v (X : Nat → mr_R) (T w b : Int) : Int := if X 5 (T * 15 + b) = -1 then -1 else if b / 5 = w then T * 15 + b else (T + (X 2 (w * 5 + sg_t T w) - sg_t T w) * sg_u w) * 15 + b
section BO
variable {K : Int} {R : mr_R} {X : Nat → mr_R} {f s : Int}
theorem sz_g (hR : mi K R) (hg : sm_g R f s) (h1 : 0 ≤ f) (h2 : f < R 2) : (0 ≤ s ∧ s < 1875) ∧ (s % 15 / 5 < R 0 ∧ R 0 ≤ 3) ∧ s % 5 < R (9 + 10 * (s % 15 / 5) + 0) ∧ (∀ v, 0 ≤ v → v < R 0 → sg_t (s / 15) v < R (9 + 10 * v + 0)) ∧ (sm_mp R s / 5 = s % 15 / 5 ∧ 0 ≤ sm_mp R s % 5 ∧ sm_mp R s % 5 < R (9 + 10 * (s % 15 / 5) + 0) ∧ 0 ≤ sm_mp R s ∧ sm_mp R s < 15) := by
  obtain ⟨K0, T0, b1, b2, b3⟩ := hg
  have hc := hR.c
  have hd := sm_dec b1 h1 (by rw [b2.1.2.2.1]; exact h2) b3
  have hp := sm_plc b1 b2 h1 h2 b3
  have hf := b1.f h1 (by rw [b2.1.2.2.1]; exact h2)
  have w2 : s % 15 / 5 < R 0 := by rw [hd.2.2.1, ← b2.1.1]; exact hf.2.1.2
  refine ⟨hd.1, ⟨w2, by omega⟩, hp.2.2.2.2.2, ?_, by omega⟩
  intro v v1 v2
  have w0 := b1.w v1 (by rw [b2.1.1]; exact v2)
  rw [hd.2.2.2.2 v v1 (by omega), ← (b2.2.1 v v1 (by omega)).1]
  unfold sm_t
  rw [if_pos (by rw [b2.1.1]; exact v2)]
  omega
theorem sz_mv {b : Int} (hR : mi K R) (hI : sb_I R f X) (hg : sm_g R f s) (h1 : 0 ≤ f) (h2 : f < R 2) (hT : sc_T X (s / 15)) (b1 : 0 ≤ b) (b3 : b / 5 < R 0) (b4 : b % 5 < R (9 + 10 * (b / 5) + 0)) : (sm_mv R f (s / 15) (s % 15 / 5) b = -1 ∧ sz_v X (s / 15) (s % 15 / 5) b = -1) ∨ (sm_mv R f (s / 15) (s % 15 / 5) b ≠ -1 ∧ sz_v X (s / 15) (s % 15 / 5) b = sz_c R (sm_mv R f (s / 15) (s % 15 / 5) b) ∧ sc_T X (sm_mv R f (s / 15) (s % 15 / 5) b / 15)) := by
  have hz := sz_g hR hg h1 h2
  have hc := hR.c
  obtain ⟨T, hTT⟩ : ∃ T, s / 15 = T := ⟨_, rfl⟩
  obtain ⟨w, hw⟩ : ∃ w, s % 15 / 5 = w := ⟨_, rfl⟩
  have w1 : 0 ≤ w := by omega
  have T1 : 0 ≤ T ∧ T < 125 := by omega
  have htv : ∀ v, 0 ≤ v → v < R 0 → sg_t T v < R (9 + 10 * v + 0) := hTT ▸ hz.2.2.2.1
  rw [hTT] at hT
  have w2 : w < R 0 := by omega
  rw [hTT, hw]
  have hwb := hR.w (w := b / 5) (by omega) b3
  have hww := hR.w w1 w2
  have hnb : R (9 + 10 * (b / 5) + 0) = 3 ∨ R (9 + 10 * (b / 5) + 0) = 4 ∨ R (9 + 10 * (b / 5) + 0) = 5 := by omega
  have bq : 0 ≤ sm_q R T b ∧ sm_q R T b < R (9 + 10 * (b / 5) + 0) := ⟨Int.emod_nonneg _ (by omega), Int.emod_lt_of_pos _ (by omega)⟩
  have b15 : b < 15 := by omega
  have hd := st_d (T := T) b1 b15
  have x5 : X 5 (T * 15 + b) ≠ -1 ↔ (mf_on R (b / 5) (sm_q R T b) = -1 ∨ mf_on R (b / 5) (sm_q R T b) = f) := by
    rw [hI.2.2.2 _ (by omega) (by omega), sp_iff hR, hd.1, hd.2.1, hd.2.2]
    have e4 : X 4 (b / 5 * 5 + sm_q R T b) = sk_v R f (b / 5 * 5 + sm_q R T b) := hI.2.2.1 _ (by omega) (by omega)
    show (sc_T X T ∧ _ ∧ ¬ X 4 (b / 5 * 5 + sm_q R T b) = 1) ↔ _
    rw [e4]
    unfold sk_v
    rw [show (b / 5 * 5 + sm_q R T b) / 5 = b / 5 by omega, show (b / 5 * 5 + sm_q R T b) % 5 = sm_q R T b by omega]
    constructor
    · rintro ⟨-, -, a⟩
      refine Decidable.byContradiction fun c => a (if_neg c)
    · intro a
      refine ⟨hT, ⟨by omega, b3, by omega, b4⟩, ?_⟩
      rw [if_pos a]
      decide
  have bt := sg_t_bd (T := T) (w := w) T1.1 T1.2
  have et := hI.2.1.1 w (sg_t T w) w1 (by omega) w2 bt.1 bt.2
  have b2q : 0 ≤ (sg_t T w + sg_by R f w) % R (9 + 10 * w + 0) ∧ (sg_t T w + sg_by R f w) % R (9 + 10 * w + 0) < R (9 + 10 * w + 0) := ⟨Int.emod_nonneg _ (by omega), Int.emod_lt_of_pos _ (by omega)⟩
  have hrep := sg_rep (T := T) (w := w) (t := (sg_t T w + sg_by R f w) % R (9 + 10 * w + 0)) T1.1 T1.2 w1 (by omega) b2q.1 (by omega)
  unfold sm_mv sz_v
  by_cases c : mf_on R (b / 5) (sm_q R T b) = -1 ∨ mf_on R (b / 5) (sm_q R T b) = f
  · rw [if_pos c, if_neg (x5.mpr c)]
    refine Or.inr ?_
    by_cases e : b / 5 = w
    · rw [if_pos e, if_pos e]
      refine ⟨by omega, ?_, ?_⟩
      · unfold sz_c sm_mp
        rw [show (T * 15 + (b / 5 * 5 + sm_q R T b)) / 15 = T by omega, show (T * 15 + (b / 5 * 5 + sm_q R T b)) % 15 / 5 = b / 5 by omega, show (T * 15 + (b / 5 * 5 + sm_q R T b)) % 5 = sm_q R T b by omega]
        unfold sm_q
        rw [sx_pl hnb (by omega) b4]
        omega
      · rw [show (T * 15 + (b / 5 * 5 + sm_q R T b)) / 15 = T by omega]
        exact hT
    · rw [if_neg e, if_neg e, et]
      have ett : sm_tt R f T w = T + ((sg_t T w + sg_by R f w) % R (9 + 10 * w + 0) - sg_t T w) * sg_u w := rfl
      rw [← ett] at hrep ⊢
      obtain ⟨T2, hT2⟩ : ∃ T2, sm_tt R f T w = T2 := ⟨_, rfl⟩
      rw [hT2] at hrep ⊢
      refine ⟨by omega, ?_, ?_⟩
      · unfold sz_c sm_mp
        rw [show (T2 * 15 + (b / 5 * 5 + sm_q R T b)) / 15 = T2 by omega, show (T2 * 15 + (b / 5 * 5 + sm_q R T b)) % 15 / 5 = b / 5 by omega, show (T2 * 15 + (b / 5 * 5 + sm_q R T b)) % 5 = sm_q R T b by omega, hrep.2.2.2 (b / 5) (by omega) (by omega) e]
        unfold sm_q
        rw [sx_pl hnb (by omega) b4]
        omega
      · rw [show (T2 * 15 + (b / 5 * 5 + sm_q R T b)) / 15 = T2 by omega]
        have gen : ∀ v, 0 ≤ v → v < 3 → X 3 (v * 5 + sg_t T v) ≠ 0 → X 3 (v * 5 + sg_t T2 v) ≠ 0 := by
          intro v v1 v2 v3
          by_cases ev : v = w
          · rw [ev] at v3 ⊢
            rw [hrep.2.2.1]
            exact hI.2.1.2.2.1 w (sg_t T w) w1 (by omega) w2 bt.1 bt.2 v3
          · rw [hrep.2.2.2 v v1 v2 ev]
            exact v3
        exact ⟨gen 0 (by decide) (by decide) hT.1, gen 1 (by decide) (by decide) hT.2.1, gen 2 (by decide) (by decide) hT.2.2⟩
  · rw [if_neg c, if_pos (Decidable.byContradiction fun a => c (x5.mp a))]
    exact Or.inl ⟨rfl, rfl⟩
theorem sz_x {k : Int} (hz : sm_mp R s / 5 = s % 15 / 5 ∧ 0 ≤ sm_mp R s ∧ sm_mp R s < 15) : sn_x X (sz_c R s) k = sz_v X (s / 15) (s % 15 / 5) (X 6 (sm_mp R s * 10 + k)) ∧ sn_w X (sz_c R s) = X 7 (sm_mp R s) := by
  have hd := st_d (T := s / 15) hz.2.1 hz.2.2
  unfold sn_x sn_w sz_v sz_c
  rw [hd.1, hd.2.1, hz.1]
  exact ⟨rfl, rfl⟩
theorem sz_line {y : Int} (hR : mi K R) (y1 : 0 ≤ y) (y2 : y < R 1) : ((0 ≤ sy_f R y ∧ sy_f R y / 5 < R 0 ∧ sy_f R y % 5 < R (9 + 10 * (sy_f R y / 5) + 0)) ∧ (0 ≤ sy_o R y ∧ sy_o R y / 5 < R 0 ∧ sy_o R y % 5 < R (9 + 10 * (sy_o R y / 5) + 0))) ∧ sy_f R y ≠ sy_o R y := by
  have hl := hR.l y1 y2
  have w0 := hR.w hl.1.1 hl.1.2
  have w2 := hR.w hl.2.2.1.1 hl.2.2.1.2
  unfold sy_f sy_o
  rw [show (R (39 + 4 * y + 0) * 5 + R (39 + 4 * y + 1)) / 5 = R (39 + 4 * y + 0) by omega, show (R (39 + 4 * y + 2) * 5 + R (39 + 4 * y + 3)) / 5 = R (39 + 4 * y + 2) by omega]
  omega
theorem sz_side {p d : Int} {w : Int} (hR : mi K R) (w1 : 0 ≤ w) (w2 : w < R 0) : 0 ≤ w * 5 + (p + d) % R (9 + 10 * w + 0) ∧ (w * 5 + (p + d) % R (9 + 10 * w + 0)) / 5 = w ∧ (w * 5 + (p + d) % R (9 + 10 * w + 0)) % 5 = (p + d) % R (9 + 10 * w + 0) ∧ (p + d) % R (9 + 10 * w + 0) < R (9 + 10 * w + 0) := by
  have hw := hR.w w1 w2
  have b2q : 0 ≤ (p + d) % R (9 + 10 * w + 0) ∧ (p + d) % R (9 + 10 * w + 0) < R (9 + 10 * w + 0) := ⟨Int.emod_nonneg _ (by omega), Int.emod_lt_of_pos _ (by omega)⟩
  omega
end BO
