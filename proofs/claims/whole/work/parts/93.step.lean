/-! What a move of the trial comes to. -/
section MV
variable {K K2 : Int} {R T : mr_R} {f s : Int}
theorem sm_leap (hi : mi K T) (hR : mi K2 R) (h8 : R 8 = 0) (hq : sq R f T) (h1 : 0 ≤ f) (h2 : f < R 2) (hs : sm_n T f = s) {w p : Int} (w1 : 0 ≤ w) (w2 : w < R 0) (p1 : 0 ≤ p) (p2 : p < 5) (hn : w ≠ s % 15 / 5) : (mf_later T f w p = 0 → sq R f (mg_leave (mg_sit T f w p) (s % 15 / 5)) ∧ sm_n (mg_leave (mg_sit T f w p) (s % 15 / 5)) f = sm_mv R f (s / 15) (s % 15 / 5) (w * 5 + p)) ∧ (¬ mf_later T f w p = 0 → sm_mv R f (s / 15) (s % 15 / 5) (w * 5 + p) = -1) := by
  have hc := hi.c
  have hd := sm_dec hi h1 (by rw [hq.1.2.2.1]; exact h2) hs
  have hb0 : R 0 ≤ 3 := by rw [← hq.1.1]; omega
  have hb2 : R 2 ≤ 5 := by rw [← hq.1.2.2.1]; omega
  have hp := sm_pad hi hq h1 h2 hs w1 w2 p1 p2
  have hw := hi.w w1 (by rw [hq.1.1]; exact w2)
  have e0 := (hq.2.1 w w1 (by omega)).1
  have hl := sm_later hi hR h8 hq h1 h2 hs w1 w2 p1 p2 (Or.inl (by rw [← hd.2.2.1]; exact fun e => hn e.symm))
  have hj := sm_jump hi hq h1 h2 hs w1 w2 p1 p2 hn
  unfold sm_mv
  rw [hl]
  refine ⟨fun a => ⟨sq_leave (sq_sit hq h1 (by omega) w1 (by omega) hp.2.1 (by omega)) (by omega) (by omega), ?_⟩, fun a => if_neg a⟩
  rw [if_pos a, hj, if_neg (by omega)]
  omega
theorem sm_hop (hi : mi K T) (hR : mi K2 R) (h8 : R 8 = 0) (hq : sq R f T) (h1 : 0 ≤ f) (h2 : f < R 2) (hs : sm_n T f = s) {p : Int} (p1 : 0 ≤ p) (p2 : p < 5) (hn : s % 5 ≠ mf_pad T (s % 15 / 5) p) : (mf_later T f (s % 15 / 5) p = 0 → sq R f (mg_sit T f (s % 15 / 5) p) ∧ sm_n (mg_sit T f (s % 15 / 5) p) f = sm_mv R f (s / 15) (s % 15 / 5) (s % 15 / 5 * 5 + p)) ∧ (¬ mf_later T f (s % 15 / 5) p = 0 → sm_mv R f (s / 15) (s % 15 / 5) (s % 15 / 5 * 5 + p) = -1) := by
  have hc := hi.c
  have hd := sm_dec hi h1 (by rw [hq.1.2.2.1]; exact h2) hs
  have hf := hi.f h1 (by rw [hq.1.2.2.1]; exact h2)
  have hb0 : R 0 ≤ 3 := by rw [← hq.1.1]; omega
  have hb2 : R 2 ≤ 5 := by rw [← hq.1.2.2.1]; omega
  have w2 : s % 15 / 5 < R 0 := by rw [hd.2.2.1, ← hq.1.1]; exact hf.2.1.2
  have w1 : 0 ≤ s % 15 / 5 := by omega
  have hp := sm_pad hi hq h1 h2 hs w1 w2 p1 p2
  have hw := hi.w w1 (by rw [hq.1.1]; exact w2)
  have e0 := (hq.2.1 _ w1 (by omega)).1
  have hl := sm_later hi hR h8 hq h1 h2 hs w1 w2 p1 p2 (Or.inr (by rw [← hd.2.2.2.1]; exact hn))
  have hj := sm_side hi hq h1 h2 hs p1 p2
  unfold sm_mv
  rw [hl]
  refine ⟨fun a => ⟨sq_sit hq h1 (by omega) w1 (by omega) hp.2.1 (by omega), ?_⟩, fun a => if_neg a⟩
  rw [if_pos a, hj, if_pos (by omega)]
  omega
theorem sm_plc (hi : mi K T) (hq : sq R f T) (h1 : 0 ≤ f) (h2 : f < R 2) (hs : sm_n T f = s) : sm_mp R s = s % 15 / 5 * 5 + mf_place T f ∧ (0 ≤ mf_place T f ∧ mf_place T f < R (9 + 10 * (s % 15 / 5) + 0)) ∧ R (9 + 10 * (s % 15 / 5) + 0) ≤ 5 ∧ 3 ≤ R (9 + 10 * (s % 15 / 5) + 0) ∧ mf_pad T (s % 15 / 5) (mf_place T f) = s % 5 ∧ s % 5 < R (9 + 10 * (s % 15 / 5) + 0) := by
  have hc := hi.c
  have hd := sm_dec hi h1 (by rw [hq.1.2.2.1]; exact h2) hs
  have hf := hi.f h1 (by rw [hq.1.2.2.1]; exact h2)
  have hb0 : R 0 ≤ 3 := by rw [← hq.1.1]; omega
  have w2 : s % 15 / 5 < R 0 := by rw [hd.2.2.1, ← hq.1.1]; exact hf.2.1.2
  have w1 : 0 ≤ s % 15 / 5 := by omega
  have hw := hi.w w1 (by rw [hq.1.1]; exact w2)
  have e0 := (hq.2.1 _ w1 (by omega)).1
  have dt := hd.2.2.2.2 _ w1 (by omega)
  have hp := mf_place_bd hi h1 (by rw [hq.1.2.2.1]; exact h2)
  rw [← hd.2.2.1, e0] at hp
  have et : sm_t T (s % 15 / 5) = T (9 + 10 * (s % 15 / 5) + 3) := by
    unfold sm_t
    rw [if_pos (by rw [hq.1.1]; exact w2)]
  have ep : mf_place T f = (s % 5 + sg_t (s / 15) (s % 15 / 5)) % R (9 + 10 * (s % 15 / 5) + 0) := by
    unfold mf_place
    rw [← hd.2.2.1, ← hd.2.2.2.1, e0, dt, et]
  have bp : s % 5 < R (9 + 10 * (s % 15 / 5) + 0) := by
    rw [hd.2.2.2.1, ← e0, hd.2.2.1]
    exact hf.2.2.1.2
  refine ⟨?_, hp, by omega, by omega, ?_, bp⟩
  · unfold sm_mp
    rw [ep]
  · unfold mf_pad
    rw [ep, dt, et, e0]
    exact sx_pad (by omega) (by omega) bp
theorem sx_next {p t n d : Int} (hn : n = 3 ∨ n = 4 ∨ n = 5) (h0 : 0 ≤ p) (h1 : p < n) (hd : d = 1 ∨ d = -1) : (p - t) % n ≠ ((p + d) % n - t) % n := by
  rcases hn with e | e | e <;> subst e <;> omega
theorem sm_goes {y : Int} (hi : mi K T) (hR : mi K2 R) (hk : K + 20 ≤ 1000000) (h8 : R 8 = 0) (hq : sq R f T) (h1 : 0 ≤ f) (h2 : f < R 2) (hs : sm_n T f = s) (y1 : 0 ≤ y) (y2 : y < 10) : (sm_can T f y → mi (K + 20) (sm_go T f y) ∧ sq R f (sm_go T f y) ∧ sm_n (sm_go T f y) f = sm_x R f s y) ∧ (¬ sm_can T f y → sm_x R f s y = -1) := by
  have hc := hi.c
  have hd := sm_dec hi h1 (by rw [hq.1.2.2.1]; exact h2) hs
  have hpl := sm_plc hi hq h1 h2 hs
  have h2T : f < T 2 := by rw [hq.1.2.2.1]; exact h2
  unfold sm_can sm_go sm_x
  by_cases c : y < 8
  · rw [if_pos c, if_pos c, if_pos c, hq.1.2.1]
    by_cases c1 : y < R 1
    · rw [if_pos c1]
      have hl := hR.l y1 c1
      have w0 := hR.w hl.1.1 hl.1.2
      have w2 := hR.w hl.2.2.1.1 hl.2.2.1.2
      have t0 : T (39 + 4 * y + 0) = R (39 + 4 * y + 0) := hq.2.2.1 _ (by omega) (by omega)
      have t1 : T (39 + 4 * y + 1) = R (39 + 4 * y + 1) := hq.2.2.1 _ (by omega) (by omega)
      have t2 : T (39 + 4 * y + 2) = R (39 + 4 * y + 2) := hq.2.2.1 _ (by omega) (by omega)
      have t3 : T (39 + 4 * y + 3) = R (39 + 4 * y + 3) := hq.2.2.1 _ (by omega) (by omega)
      by_cases c2 : sy_f R y = sm_mp R s
      · rw [if_pos c2]
        have c3 : R (39 + 4 * y + 0) = s % 15 / 5 ∧ R (39 + 4 * y + 1) = mf_place T f := by
          unfold sy_f at c2
          omega
        have ea : mf_away T f y = 1 := by
          unfold mf_away
          rw [if_pos ⟨by rw [t0, ← hd.2.2.1]; exact c3.1, by rw [t1]; exact c3.2⟩]
        have ew : mf_why T f y = mf_later T f (R (39 + 4 * y + 2)) (R (39 + 4 * y + 3)) := by
          unfold mf_why
          rw [ea, if_neg (by omega), show 39 + 4 * y + 2 * 1 = 39 + 4 * y + 2 by omega, show 39 + 4 * y + 2 + 1 = 39 + 4 * y + 3 by omega, t2, t3]
        have ej : mg_jump T f y = mg_leave (mg_sit T f (R (39 + 4 * y + 2)) (R (39 + 4 * y + 3))) (s % 15 / 5) := by
          unfold mg_jump
          rw [ea, show 39 + 4 * y + 2 * 1 = 39 + 4 * y + 2 by omega, show 39 + 4 * y + 2 + 1 = 39 + 4 * y + 3 by omega, t2, t3, hd.2.2.1]
        have hle := sm_leap hi hR h8 hq h1 h2 hs (w := R (39 + 4 * y + 2)) (p := R (39 + 4 * y + 3)) hl.2.2.1.1 hl.2.2.1.2 (by omega) (by omega) (by omega)
        refine ⟨fun a => ?_, fun a => ?_⟩
        · have hm := mi_jump hi h1 h2T y1 (by rw [hq.1.2.1]; exact c1) a.2 (by omega)
          rw [ew] at a
          refine ⟨mi_mono hm (by omega) hk, ?_⟩
          rw [ej]
          exact hle.1 a.2
        · rw [ew] at a
          exact hle.2 fun z => a ⟨c1, z⟩
      · rw [if_neg c2]
        have n1 : ¬ (T (39 + 4 * y + 0) = T (71 + 5 * f + 1) ∧ T (39 + 4 * y + 1) = mf_place T f) := by
          rintro ⟨z1, z2⟩
          rw [t0, ← hd.2.2.1] at z1
          rw [t1] at z2
          unfold sy_f at c2
          omega
        by_cases c4 : sy_o R y = sm_mp R s
        · rw [if_pos c4]
          have c3 : R (39 + 4 * y + 2) = s % 15 / 5 ∧ R (39 + 4 * y + 3) = mf_place T f := by
            unfold sy_o at c4
            omega
          have ea : mf_away T f y = 0 := by
            unfold mf_away
            rw [if_neg n1, if_pos ⟨by rw [t2, ← hd.2.2.1]; exact c3.1, by rw [t3]; exact c3.2⟩]
          have ew : mf_why T f y = mf_later T f (R (39 + 4 * y + 0)) (R (39 + 4 * y + 1)) := by
            unfold mf_why
            rw [ea, if_neg (by omega), show 39 + 4 * y + 2 * 0 = 39 + 4 * y + 0 by omega, show 39 + 4 * y + 0 + 1 = 39 + 4 * y + 1 by omega, t0, t1]
          have ej : mg_jump T f y = mg_leave (mg_sit T f (R (39 + 4 * y + 0)) (R (39 + 4 * y + 1))) (s % 15 / 5) := by
            unfold mg_jump
            rw [ea, show 39 + 4 * y + 2 * 0 = 39 + 4 * y + 0 by omega, show 39 + 4 * y + 0 + 1 = 39 + 4 * y + 1 by omega, t0, t1, hd.2.2.1]
          have hle := sm_leap hi hR h8 hq h1 h2 hs (w := R (39 + 4 * y + 0)) (p := R (39 + 4 * y + 1)) hl.1.1 hl.1.2 (by omega) (by omega) (by omega)
          refine ⟨fun a => ?_, fun a => ?_⟩
          · have hm := mi_jump hi h1 h2T y1 (by rw [hq.1.2.1]; exact c1) a.2 (by omega)
            rw [ew] at a
            refine ⟨mi_mono hm (by omega) hk, ?_⟩
            rw [ej]
            exact hle.1 a.2
          · rw [ew] at a
            exact hle.2 fun z => a ⟨c1, z⟩
        · rw [if_neg c4]
          have n2 : ¬ (T (39 + 4 * y + 2) = T (71 + 5 * f + 1) ∧ T (39 + 4 * y + 3) = mf_place T f) := by
            rintro ⟨z1, z2⟩
            rw [t2, ← hd.2.2.1] at z1
            rw [t3] at z2
            unfold sy_o at c4
            omega
          have ew : mf_why T f y = 1 := by
            unfold mf_why mf_away
            rw [if_neg n1, if_neg n2, if_pos rfl]
          rw [ew]
          exact ⟨fun a => absurd a.2 (by omega), fun _ => rfl⟩
    · rw [if_neg c1]
      exact ⟨fun a => absurd a.1 c1, fun _ => rfl⟩
  · rw [if_neg c, if_neg c, if_neg c]
    obtain ⟨d, hdd⟩ : ∃ d : Int, (if y = 8 then (1 : Int) else -1) = d := ⟨_, rfl⟩
    have bd : d = 1 ∨ d = -1 := by
      by_cases e : y = 8
      · rw [if_pos e] at hdd; exact Or.inl hdd.symm
      · rw [if_neg e] at hdd; exact Or.inr hdd.symm
    rw [hdd]
    clear hdd
    have bp5 : mf_place T f < 5 := by omega
    have bp0 : 0 ≤ mf_place T f := hpl.2.1.1
    have em : sm_mp R s % 5 = mf_place T f := by rw [hpl.1]; omega
    have hf := hi.f h1 h2T
    have w2 : s % 15 / 5 < R 0 := by rw [hd.2.2.1, ← hq.1.1]; exact hf.2.1.2
    have e0 := (hq.2.1 (s % 15 / 5) (by omega) (by omega)).1
    rw [em]
    have hn : R (9 + 10 * (s % 15 / 5) + 0) = 3 ∨ R (9 + 10 * (s % 15 / 5) + 0) = 4 ∨ R (9 + 10 * (s % 15 / 5) + 0) = 5 := by omega
    obtain ⟨p, hp⟩ : ∃ p, (mf_place T f + d) % R (9 + 10 * (s % 15 / 5) + 0) = p := ⟨_, rfl⟩
    have bp : 0 ≤ p ∧ p < R (9 + 10 * (s % 15 / 5) + 0) := by
      rw [← hp]
      exact ⟨Int.emod_nonneg _ (by omega), Int.emod_lt_of_pos _ (by omega)⟩
    have hne : s % 5 ≠ mf_pad T (s % 15 / 5) p := by
      rw [← hpl.2.2.2.2.1]
      unfold mf_pad
      rw [e0, ← hp]
      exact sx_next hn bp0 hpl.2.1.2 bd
    have eh : mf_hwhy T f d = mf_later T f (s % 15 / 5) p := by
      unfold mf_hwhy
      rw [← hd.2.2.1, e0, hp]
    have es : mg_step T f d = mg_sit T f (s % 15 / 5) p := by
      unfold mg_step
      rw [← hd.2.2.1, e0, hp]
    rw [hp]
    have hh := sm_hop hi hR h8 hq h1 h2 hs (p := p) bp.1 (by omega) hne
    refine ⟨fun a => ?_, fun a => ?_⟩
    · have hm := mi_step hi h1 h2T a (by omega)
      rw [eh] at a
      refine ⟨mi_mono hm (by omega) hk, ?_⟩
      rw [es]
      exact hh.1 a
    · rw [eh] at a
      exact hh.2 a
end MV
