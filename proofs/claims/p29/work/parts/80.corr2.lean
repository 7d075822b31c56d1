/-! Corrections in the class. -/
theorem sp_iff {K : Int} {R : mr_R} {X : Nat → mr_R} {T w p : Int} (h : mi K R) : sp_v R X T w p ≠ -1 ↔ (sc_T X T ∧ (0 ≤ w ∧ w < R 0 ∧ 0 ≤ p ∧ p < R (9 + 10 * w + 0)) ∧ ¬ X 4 (w * 5 + (p - sg_t T w) % R (9 + 10 * w + 0)) = 1) := by
  have hc := h.c
  unfold sp_v
  split
  · rename_i q
    refine ⟨fun _ => q, fun _ => ?_⟩
    have hw := h.w q.2.1.1 q.2.1.2.1
    have b1 := Int.emod_nonneg (p - sg_t T w) (show R (9 + 10 * w + 0) ≠ 0 by omega)
    omega
  · rename_i q
    exact ⟨fun a => absurd rfl a, fun a => absurd a q⟩
theorem st_d {T b : Int} (h0 : 0 ≤ b) (h1 : b < 15) : (T * 15 + b) / 15 = T ∧ (T * 15 + b) % 15 = b ∧ (T * 15 + b) % 5 = b % 5 := by omega
theorem sn_V {K : Int} {R : mr_R} (hi : mi K R) {X : Nat → mr_R} {f s k : Int} (hI : sb_I R f X) (h0 : 0 ≤ s) (h1 : s < 1875) (h2 : 0 ≤ k) (h3 : k < sn_w X s) (h4 : sn_x X s k ≠ -1) : X 5 (sn_x X s k) ≠ -1 := by
  have hbd := sn_bd hi hI h0 h1 h2 h3 h4
  rw [hI.2.2.2 _ hbd.1 hbd.2, sp_iff hi]
  unfold sn_w at h3
  have hc := hi.c
  revert h4 hbd
  unfold sn_x
  obtain ⟨T, hT⟩ : ∃ T, s / 15 = T := ⟨_, rfl⟩
  obtain ⟨a, ha⟩ : ∃ a, s % 15 = a := ⟨_, rfl⟩
  obtain ⟨w, hw2⟩ : ∃ w, a / 5 = w := ⟨_, rfl⟩
  have bT : 0 ≤ T ∧ T < 125 := by omega
  have ba : 0 ≤ a ∧ a < 15 := by omega
  have bw : 0 ≤ w ∧ w < 3 := by omega
  rw [ha] at h3
  rw [hT, ha, hw2]
  obtain ⟨l1, l2⟩ := sy_live hi hI (a := a) (by omega) (by omega) h2 h3
  rw [hw2] at l1
  have hw := hi.w l1.1 l1.2.1
  have bt := sg_t_bd (T := T) (w := w) (by omega) (by omega)
  have et := hI.2.1.1 w (sg_t T w) l1.1 (by omega) l1.2.1 bt.1 bt.2
  have bq : 0 ≤ (sg_t T w + sg_by R f w) % R (9 + 10 * w + 0) ∧ (sg_t T w + sg_by R f w) % R (9 + 10 * w + 0) < R (9 + 10 * w + 0) := ⟨Int.emod_nonneg _ (by omega), Int.emod_lt_of_pos _ (by omega)⟩
  have e3 := hI.2.1.2.2.1 w (sg_t T w) l1.1 (by omega) l1.2.1 bt.1 bt.2
  rw [← et] at bq e3
  have hp := hI.2.2.2 (T * 15 + X 6 (a * 10 + k)) (by omega) (by omega)
  have hr := sg_rep (T := T) (w := w) (t := X 2 (w * 5 + sg_t T w)) bT.1 bT.2 bw.1 bw.2 bq.1 (by omega)
  clear hI et
  intro h4 hbd
  generalize X 6 (a * 10 + k) = b at *
  generalize X 2 (w * 5 + sg_t T w) = t2 at *
  by_cases q1 : X 5 (T * 15 + b) = -1
  · rw [if_pos q1] at h4; exact absurd rfl h4
  · rw [if_neg q1] at h4 hbd ⊢
    rw [hp] at q1
    have q3 := (sp_iff hi).mp q1
    have d := st_d (T := T) l2.1 l2.2
    rw [d.1, d.2.1, d.2.2] at q3
    by_cases q2 : b / 5 = w
    · rw [if_pos q2, d.1, d.2.1, d.2.2]
      exact q3
    · rw [if_neg q2] at h4 hbd ⊢
      generalize T + (t2 - sg_t T w) * sg_u w = T2 at *
      have d2 := st_d (T := T2) l2.1 l2.2
      rw [d2.1, d2.2.1, d2.2.2]
      obtain ⟨r1, r2, r3, r4⟩ := hr
      have b5 : 0 ≤ b / 5 ∧ b / 5 < 3 := by clear hp hbd h4 q3 d d2 r1 r2; omega
      rw [r4 (b / 5) b5.1 b5.2 q2]
      refine ⟨?_, q3.2⟩
      obtain ⟨c0, c1, c2⟩ := q3.1
      have gen : ∀ v, 0 ≤ v → v < 3 → X 3 (v * 5 + sg_t T v) ≠ 0 → X 3 (w * 5 + sg_t T w) ≠ 0 → X 3 (v * 5 + sg_t T2 v) ≠ 0 := by
        intro v v1 v2 v3 v4
        by_cases e : v = w
        · rw [e, r3]; exact e3 v4
        · rw [r4 v v1 v2 e]; exact v3
      have cw : X 3 (w * 5 + sg_t T w) ≠ 0 := by
        have e : w = 0 ∨ w = 1 ∨ w = 2 := by clear hp hbd h4 q3 d d2 r1 r2; omega
        rcases e with e | e | e <;> rw [e] <;> assumption
      exact ⟨gen 0 (by decide) (by decide) c0 cw, gen 1 (by decide) (by decide) c1 cw, gen 2 (by decide) (by decide) c2 cw⟩

