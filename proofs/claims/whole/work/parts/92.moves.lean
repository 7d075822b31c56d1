/-! The moves of the model's trial, as steps from standing to standing. -/
theorem sm_fr {K : Int} {R : mr_R} {f w pad : Int} (hi : mi K R) (h1 : 0 ≤ f) (h2 : f < R 2) : (mf_on R w pad = -1 ∨ mf_on R w pad = f) ↔ ∀ g, 0 ≤ g → g < R 2 → g ≠ f → ¬ (R (71 + 5 * g + 1) = w ∧ R (71 + 5 * g + 2) = pad) := by
  constructor
  · rintro (h | h) g g1 g2 g3 g4
    · exact (mf_on_no hi).mp h g g1 g2 g4
    · obtain ⟨a1, a2, a3, a4⟩ := mf_on_at hi (w := w) (pad := pad) (by omega)
      rw [h] at a3 a4
      exact g3 (hi.d g1 g2 h1 h2 (by rw [g4.1, a3]) (by rw [g4.2, a4]))
  · intro h
    by_cases e : mf_on R w pad = -1
    · exact Or.inl e
    · obtain ⟨a1, a2, a3, a4⟩ := mf_on_at hi e
      refine Or.inr (Decidable.byContradiction fun e2 => h _ a1 a2 e2 ⟨a3, a4⟩)
theorem sm_frT {K K2 : Int} {R T : mr_R} {f w pad : Int} (hi : mi K T) (hR : mi K2 R) (hq : sq R f T) (h1 : 0 ≤ f) (h2 : f < R 2) (hn : T (71 + 5 * f + 1) ≠ w ∨ T (71 + 5 * f + 2) ≠ pad) : mf_on T w pad = -1 ↔ (mf_on R w pad = -1 ∨ mf_on R w pad = f) := by
  have hc := hR.c
  rw [sm_fr hR h1 h2, mf_on_no hi, hq.1.2.2.1]
  constructor
  · intro h g g1 g2 g3 g4
    have e := (hq.2.2.2 g g1 (by omega)).2 g3
    exact h g g1 g2 ⟨by rw [e.1]; exact g4.1, by rw [e.2]; exact g4.2⟩
  · intro h g g1 g2 g4
    by_cases e3 : g = f
    · subst e3
      rcases hn with hn | hn
      · exact hn g4.1
      · exact hn g4.2
    · have e := (hq.2.2.2 g g1 (by omega)).2 e3
      rw [e.1, e.2] at g4
      exact h g g1 g2 e3 g4
theorem sm_wt {R T : mr_R} {f w : Int} (hq : sq R f T) (hn : T (71 + 5 * f + 1) ≠ w) : ∀ (n : Nat) (g s : Int), 0 ≤ g → g + n ≤ 5 → mf_wtF T w n g s = mf_wgF R w f n g s := by
  intro n
  induction n with
  | zero => intro g s _ _; rfl
  | succ n ih =>
    intro g s g1 g2
    have d := hq.2.2.2 g g1 (by omega)
    show mf_wtF T w n (g + 1) (s + if T (71 + 5 * g + 1) = w then T (71 + 5 * g + 0) else 0) = mf_wgF R w f n (g + 1) (s + if R (71 + 5 * g + 1) = w ∧ g ≠ f then R (71 + 5 * g + 0) else 0)
    rw [ih _ _ (by omega) (by omega)]
    congr 2
    by_cases e : g = f
    · subst e
      rw [if_neg hn, if_neg (fun z => z.2 rfl)]
    · rw [(d.2 e).1, d.1]
      by_cases e2 : R (71 + 5 * g + 1) = w
      · rw [if_pos e2, if_pos ⟨e2, e⟩]
      · rw [if_neg e2, if_neg (fun z => e2 z.1)]
/-- the pad below the place b -/
def sm_q (R : mr_R) (T b : Int) : Int := (b % 5 - sg_t T (b / 5)) % R (9 + 10 * (b / 5) + 0)
/-- the turns when the wheel w was left -/
def sm_tt (R : mr_R) (f T w : Int) : Int := T + ((sg_t T w + sg_by R f w) % R (9 + 10 * w + 0) - sg_t T w) * sg_u w
def sm_mv (R : mr_R) (f T w b : Int) : Int := if mf_on R (b / 5) (sm_q R T b) = -1 ∨ mf_on R (b / 5) (sm_q R T b) = f then (if b / 5 = w then T else sm_tt R f T w) * 15 + (b / 5 * 5 + sm_q R T b) else -1
/-- the place of a standing -/
def sm_mp (R : mr_R) (s : Int) : Int := s % 15 / 5 * 5 + (s % 5 + sg_t (s / 15) (s % 15 / 5)) % R (9 + 10 * (s % 15 / 5) + 0)
def sm_x (R : mr_R) (f s y : Int) : Int := if y < 8 then (if y < R 1 then (if sy_f R y = sm_mp R s then sm_mv R f (s / 15) (s % 15 / 5) (sy_o R y) else if sy_o R y = sm_mp R s then sm_mv R f (s / 15) (s % 15 / 5) (sy_f R y) else -1) else -1) else sm_mv R f (s / 15) (s % 15 / 5) (s % 15 / 5 * 5 + (sm_mp R s % 5 + (if y = 8 then 1 else -1)) % R (9 + 10 * (s % 15 / 5) + 0))
theorem sit_on {T : mr_R} {f w p : Int} (h1 : 0 ≤ f) (h3 : 0 ≤ w) (h4 : w < 3) (h5 : 0 ≤ mf_pad T w p) (h6 : mf_pad T w p < 5) : (mg_sit T f w p) (71 + 5 * f + 1) = w ∧ (mg_sit T f w p) (71 + 5 * f + 2) = mf_pad T w p ∧ (∀ i, i < 39 → (i - 9) % 10 < 4 → i ≠ 4 → (mg_sit T f w p) i = T i) := by
  unfold mg_sit mg_eat mg_seat
  refine ⟨?_, ?_, ?_⟩
  · simp (disch := omega) only [ms_eq, ms_ne]
  · simp (disch := omega) only [ms_eq, ms_ne]
  · intro i i1 i2 i3
    simp (disch := omega) only [ms_eq, ms_ne]
theorem sit_t {T : mr_R} {f w p : Int} (h1 : 0 ≤ f) (h3 : 0 ≤ w) (h4 : w < 3) (h5 : 0 ≤ mf_pad T w p) (h6 : mf_pad T w p < 5) {v : Int} (v1 : 0 ≤ v) (v2 : v < 3) : sm_t (mg_sit T f w p) v = sm_t T v := by
  have h := (sit_on h1 h3 h4 h5 h6).2.2
  unfold sm_t
  rw [h 0 (by omega) (by omega) (by omega), h (9 + 10 * v + 3) (by omega) (by omega) (by omega)]
theorem sm_T_eq {T T2 : mr_R} (h : ∀ v, 0 ≤ v → v < 3 → sm_t T2 v = sm_t T v) : sm_T T2 = sm_T T := by
  unfold sm_T
  rw [h 0 (by omega) (by omega), h 1 (by omega) (by omega), h 2 (by omega) (by omega)]
section MV
variable {K K2 : Int} {R T : mr_R} {f s : Int}
/-- the pad below a place -/
theorem sm_pad (hi : mi K T) (hq : sq R f T) (h1 : 0 ≤ f) (h2 : f < R 2) (hs : sm_n T f = s) {w p : Int} (w1 : 0 ≤ w) (w2 : w < R 0) (p1 : 0 ≤ p) (p2 : p < 5) : mf_pad T w p = sm_q R (s / 15) (w * 5 + p) ∧ 0 ≤ mf_pad T w p ∧ mf_pad T w p < R (9 + 10 * w + 0) := by
  have hc := hi.c
  have hd := (sm_dec hi h1 (by rw [hq.1.2.2.1]; exact h2) hs).2.2.2.2 w w1 (by rw [hq.1.1] at hc; omega)
  have hw := hi.w w1 (by rw [hq.1.1]; exact w2)
  have e0 := (hq.2.1 w w1 (by rw [hq.1.1] at hc; omega)).1
  have hb := mf_pad_bd (R := T) (w := w) p (by omega)
  refine ⟨?_, hb.1, by rw [← e0]; exact hb.2⟩
  unfold mf_pad sm_q
  rw [show (w * 5 + p) / 5 = w by omega, show (w * 5 + p) % 5 = p by omega, hd, e0]
  unfold sm_t
  rw [if_pos (by rw [hq.1.1]; exact w2)]
theorem sm_later (hi : mi K T) (hR : mi K2 R) (h8 : R 8 = 0) (hq : sq R f T) (h1 : 0 ≤ f) (h2 : f < R 2) (hs : sm_n T f = s) {w p : Int} (w1 : 0 ≤ w) (w2 : w < R 0) (p1 : 0 ≤ p) (p2 : p < 5) (hn : T (71 + 5 * f + 1) ≠ w ∨ T (71 + 5 * f + 2) ≠ mf_pad T w p) : mf_later T f w p = 0 ↔ (mf_on R ((w * 5 + p) / 5) (sm_q R (s / 15) (w * 5 + p)) = -1 ∨ mf_on R ((w * 5 + p) / 5) (sm_q R (s / 15) (w * 5 + p)) = f) := by
  have hp := sm_pad hi hq h1 h2 hs w1 w2 p1 p2
  rw [show (w * 5 + p) / 5 = w by omega, ← hp.1, ← sm_frT hi hR hq h1 h2 hn]
  unfold mf_later
  rw [hq.1.2.2.2, h8]
  by_cases e : mf_on T w (mf_pad T w p) = -1
  · rw [if_pos e, if_neg (by omega)]
    exact ⟨fun _ => e, fun _ => rfl⟩
  · rw [if_neg e]
    exact ⟨fun z => by omega, fun z => absurd z e⟩
theorem sm_side (hi : mi K T) (hq : sq R f T) (h1 : 0 ≤ f) (h2 : f < R 2) (hs : sm_n T f = s) {p : Int} (p1 : 0 ≤ p) (p2 : p < 5) : sm_n (mg_sit T f (s % 15 / 5) p) f = s / 15 * 15 + (s % 15 / 5 * 5 + sm_q R (s / 15) (s % 15 / 5 * 5 + p)) := by
  have hc := hi.c
  have hd := sm_dec hi h1 (by rw [hq.1.2.2.1]; exact h2) hs
  have hf := hi.f h1 (by rw [hq.1.2.2.1]; exact h2)
  have w2 : s % 15 / 5 < R 0 := by rw [hd.2.2.1, ← hq.1.1]; exact hf.2.1.2
  have hp := sm_pad hi hq h1 h2 hs (w := s % 15 / 5) (by omega) w2 p1 p2
  have hw := hi.w (w := s % 15 / 5) (by omega) (by rw [hq.1.1]; exact w2)
  have e0 := (hq.2.1 (s % 15 / 5) (by omega) (by omega)).1
  have ho := sit_on (T := T) (f := f) (w := s % 15 / 5) (p := p) h1 (by omega) (by omega) hp.2.1 (by omega)
  unfold sm_n
  rw [ho.1, ho.2.1, sm_T_eq (fun v v1 v2 => sit_t h1 (by omega) (by omega) hp.2.1 (by omega) v1 v2), ← hd.2.1, hp.1]
  omega
theorem sm_jump (hi : mi K T) (hq : sq R f T) (h1 : 0 ≤ f) (h2 : f < R 2) (hs : sm_n T f = s) {w p : Int} (w1 : 0 ≤ w) (w2 : w < R 0) (p1 : 0 ≤ p) (p2 : p < 5) (hn : w ≠ s % 15 / 5) : sm_n (mg_leave (mg_sit T f w p) (s % 15 / 5)) f = sm_tt R f (s / 15) (s % 15 / 5) * 15 + (w * 5 + sm_q R (s / 15) (w * 5 + p)) := by
  have hc := hi.c
  have hd := sm_dec hi h1 (by rw [hq.1.2.2.1]; exact h2) hs
  have hf := hi.f h1 (by rw [hq.1.2.2.1]; exact h2)
  obtain ⟨u, hu⟩ : ∃ u, s % 15 / 5 = u := ⟨_, rfl⟩
  have hb0 : R 0 ≤ 3 := by rw [← hq.1.1]; omega
  have hb2 : R 2 ≤ 5 := by rw [← hq.1.2.2.1]; omega
  have u2 : u < R 0 := by rw [← hu, hd.2.2.1, ← hq.1.1]; exact hf.2.1.2
  have u1 : 0 ≤ u := by omega
  rw [hu] at hn ⊢
  have hp := sm_pad hi hq h1 h2 hs w1 w2 p1 p2
  have hw := hi.w w1 (by rw [hq.1.1]; exact w2)
  have hwu := hi.w u1 (by rw [hq.1.1]; exact u2)
  have e0 := (hq.2.1 w w1 (by omega)).1
  obtain ⟨eu0, eu1, eu2⟩ := hq.2.1 u u1 (by omega)
  have ho := sit_on (T := T) (f := f) (w := w) (p := p) h1 w1 (by omega) hp.2.1 (by omega)
  have ht := fun v => sit_t (T := T) (f := f) (w := w) (p := p) h1 w1 (by omega) hp.2.1 (by omega) (v := v)
  have hq1 := sq_sit (w := w) (p := p) hq h1 (by omega) w1 (by omega) hp.2.1 (by omega)
  have hwt : mf_wt (mg_sit T f w p) u = mf_wg R u f := by
    unfold mf_wt mf_wg
    rw [hq1.1.2.2.1]
    exact sm_wt hq1 (by rw [ho.1]; exact hn) _ _ _ (by omega) (by omega)
  have tu : (mg_sit T f w p) (9 + 10 * u + 3) = sm_t T u := by
    have e := ht u u1 (by omega)
    unfold sm_t at e ⊢
    rw [if_pos (by rw [hq1.1.1]; exact u2)] at e
    exact e
  have dt := hd.2.2.2.2 u u1 (by omega)
  have du : ∀ v, 0 ≤ v → v < 3 → sg_t (s / 15) v = sm_t T v := hd.2.2.2.2
  have hT1 := sm_T_eq (fun v v1 v2 => ht v v1 v2)
  obtain ⟨q0, q1, q2⟩ := hq1.2.1 u u1 (by omega)
  unfold mg_leave
  rw [hwt, q2]
  unfold sm_tt sg_by
  rw [dt]
  have bt := sm_t_bd hi u1 (by omega)
  have btn : sm_t T u < R (9 + 10 * u + 0) := by
    rw [← eu0]
    unfold sm_t
    rw [if_pos (by rw [hq.1.1]; exact u2)]
    omega
  by_cases c : mf_wg R u f ≤ R (9 + 10 * u + 2)
  · rw [if_pos c, if_pos c]
    unfold mg_left mg_turn
    rw [q0, q1, tu]
    obtain ⟨T1, hT⟩ : ∃ T1, mg_sit T f w p = T1 := ⟨_, rfl⟩
    rw [hT] at ho ht hT1 hq1
    rw [hT]
    obtain ⟨t', ht'⟩ : ∃ t', (sm_t T u + R (9 + 10 * u + 1)) % R (9 + 10 * u + 0) = t' := ⟨_, rfl⟩
    rw [ht']
    have bn : 0 ≤ t' ∧ t' < 5 := by
      have b1 := Int.emod_nonneg (sm_t T u + R (9 + 10 * u + 1)) (show R (9 + 10 * u + 0) ≠ 0 by omega)
      have b2 := Int.emod_lt_of_pos (sm_t T u + R (9 + 10 * u + 1)) (show 0 < R (9 + 10 * u + 0) by omega)
      omega
    have k1 : ∀ v x : Int, 0 ≤ v → v < 3 → sm_t (mr_st (mr_st T1 (9 + 10 * u + 3) t') (9 + 10 * u + 4) x) v = if v = u then t' else sm_t T v := by
      intro v x v1 v2
      by_cases e : v = u
      · subst e
        rw [if_pos rfl]
        unfold sm_t
        rw [ms_ne (by omega), ms_ne (by omega), ms_ne (by omega), ms_eq rfl, if_pos (by rw [hq1.1.1]; exact u2)]
      · rw [if_neg e, ← ht v v1 v2]
        unfold sm_t
        rw [ms_ne (by omega), ms_ne (by omega), ms_ne (by omega), ms_ne (by omega)]
    unfold sm_n
    rw [ms_ne (by omega), ms_ne (by omega), ms_ne (by omega), ms_ne (by omega), ho.1, ho.2.1, hp.1]
    unfold sm_T
    rw [k1 0 _ (by omega) (by omega), k1 1 _ (by omega) (by omega), k1 2 _ (by omega) (by omega)]
    have eT : s / 15 = 5 * (5 * (5 * 0 + sm_t T 0) + sm_t T 1) + sm_t T 2 := hd.2.1
    rw [eT]
    have hv : u = 0 ∨ u = 1 ∨ u = 2 := by omega
    rcases hv with e3 | e3 | e3 <;> subst e3
    · rw [if_pos rfl, if_neg (by omega), if_neg (by omega)]
      unfold sg_u
      rw [if_pos rfl]
      omega
    · rw [if_neg (by omega), if_pos rfl, if_neg (by omega)]
      unfold sg_u
      rw [if_neg (by omega), if_pos rfl]
      omega
    · rw [if_neg (by omega), if_neg (by omega), if_pos rfl]
      unfold sg_u
      rw [if_neg (by omega), if_neg (by omega)]
      omega
  · rw [if_neg c, if_neg c]
    unfold sm_n
    rw [ho.1, ho.2.1, hT1, ← hd.2.1, hp.1, Int.add_zero, Int.emod_eq_of_lt bt.1 btn]
    omega
end MV
