/-! The trial of a search: what stays the same. -/
/-- the same pond but for where the frog f sits, the turns and what is counted -/
def sq (R : mr_R) (f : Int) (T : mr_R) : Prop := (T 0 = R 0 ∧ T 1 = R 1 ∧ T 2 = R 2 ∧ T 8 = R 8) ∧ (∀ w, 0 ≤ w → w < 3 → T (9 + 10 * w + 0) = R (9 + 10 * w + 0) ∧ T (9 + 10 * w + 1) = R (9 + 10 * w + 1) ∧ T (9 + 10 * w + 2) = R (9 + 10 * w + 2)) ∧ (∀ i, 39 ≤ i → i < 71 → T i = R i) ∧ (∀ g, 0 ≤ g → g < 5 → T (71 + 5 * g + 0) = R (71 + 5 * g + 0) ∧ (g ≠ f → T (71 + 5 * g + 1) = R (71 + 5 * g + 1) ∧ T (71 + 5 * g + 2) = R (71 + 5 * g + 2)))
def sq_ir (f i : Int) : Prop := (3 ≤ i ∧ i ≤ 7) ∨ (∃ w k, 0 ≤ w ∧ w < 3 ∧ 3 ≤ k ∧ k < 10 ∧ i = 9 + 10 * w + k) ∨ (∃ g k, 0 ≤ g ∧ g < 5 ∧ (k = 3 ∨ k = 4 ∨ ((k = 1 ∨ k = 2) ∧ g = f)) ∧ i = 71 + 5 * g + k)
theorem sq_st {R T : mr_R} {f i v : Int} (h : sq R f T) (hi : sq_ir f i) : sq R f (mr_st T i v) := by
  obtain ⟨⟨a0, a1, a2, a8⟩, b, c, d⟩ := h
  have k0 : ∀ j : Int, j ≠ i → T j = R j → mr_st T i v j = R j := fun j q e => by rw [ms_ne q]; exact e
  refine ⟨⟨?_, ?_, ?_, ?_⟩, ?_, ?_, ?_⟩
  · refine k0 0 ?_ a0
    rcases hi with e | ⟨w, k, e1, e2, e3, e4, e5⟩ | ⟨g, k, e1, e2, e3, e4⟩ <;> omega
  · refine k0 1 ?_ a1
    rcases hi with e | ⟨w, k, e1, e2, e3, e4, e5⟩ | ⟨g, k, e1, e2, e3, e4⟩ <;> omega
  · refine k0 2 ?_ a2
    rcases hi with e | ⟨w, k, e1, e2, e3, e4, e5⟩ | ⟨g, k, e1, e2, e3, e4⟩ <;> omega
  · refine k0 8 ?_ a8
    rcases hi with e | ⟨w, k, e1, e2, e3, e4, e5⟩ | ⟨g, k, e1, e2, e3, e4⟩ <;> omega
  · intro u u1 u2
    obtain ⟨b0, b1, b2⟩ := b u u1 u2
    refine ⟨k0 _ ?_ b0, k0 _ ?_ b1, k0 _ ?_ b2⟩
    all_goals rcases hi with e | ⟨w, k, e1, e2, e3, e4, e5⟩ | ⟨g, k, e1, e2, e3, e4⟩ <;> omega
  · intro j j1 j2
    refine k0 _ ?_ (c j j1 j2)
    rcases hi with e | ⟨w, k, e1, e2, e3, e4, e5⟩ | ⟨g, k, e1, e2, e3, e4⟩ <;> omega
  · intro u u1 u2
    obtain ⟨d0, d1⟩ := d u u1 u2
    refine ⟨k0 _ ?_ d0, fun q => ⟨k0 _ ?_ (d1 q).1, k0 _ ?_ (d1 q).2⟩⟩
    all_goals rcases hi with e | ⟨w, k, e1, e2, e3, e4, e5⟩ | ⟨g, k, e1, e2, e3, e4⟩ <;> omega
theorem sq_w {R T : mr_R} {f w k v : Int} (h : sq R f T) (h1 : 0 ≤ w) (h2 : w < 3) (h3 : 3 ≤ k) (h4 : k < 10) : sq R f (mr_st T (9 + 10 * w + k) v) := sq_st h (Or.inr (Or.inl ⟨w, k, h1, h2, h3, h4, rfl⟩))
theorem sq_f {R T : mr_R} {f g k v : Int} (h : sq R f T) (h1 : 0 ≤ g) (h2 : g < 5) (h3 : k = 3 ∨ k = 4 ∨ ((k = 1 ∨ k = 2) ∧ g = f)) : sq R f (mr_st T (71 + 5 * g + k) v) := sq_st h (Or.inr (Or.inr ⟨g, k, h1, h2, h3, rfl⟩))
theorem sq_c {R T : mr_R} {f k v : Int} (h : sq R f T) (h1 : 3 ≤ k) (h2 : k ≤ 7) : sq R f (mr_st T k v) := sq_st h (Or.inl ⟨h1, h2⟩)
theorem sq_sit {R T : mr_R} {f w p : Int} (h : sq R f T) (h1 : 0 ≤ f) (h2 : f < 5) (h3 : 0 ≤ w) (h4 : w < 3) (h5 : 0 ≤ mf_pad T w p) (h6 : mf_pad T w p < 5) : sq R f (mg_sit T f w p) := by
  unfold mg_sit mg_eat mg_seat
  rw [show 9 + 10 * w + 5 + mf_pad T w p = 9 + 10 * w + (5 + mf_pad T w p) by omega]
  exact sq_w (sq_f (sq_c (sq_f (sq_f h h1 h2 (by omega)) h1 h2 (by omega)) (by omega) (by omega)) h1 h2 (by omega)) h3 h4 (by omega) (by omega)
theorem sq_leave {R T : mr_R} {f w : Int} (h : sq R f T) (h3 : 0 ≤ w) (h4 : w < 3) : sq R f (mg_leave T w) := by
  unfold mg_leave mg_left mg_turn
  split
  · exact sq_w (sq_w h h3 h4 (by omega) (by omega)) h3 h4 (by omega) (by omega)
  · exact h
theorem sq_stand {R T : mr_R} {f s : Int} (h : sq R f T) (h1 : 0 ≤ f) (h2 : f < 5) : sq R f (sm_st T f s) := by
  unfold sm_st
  exact sq_f (sq_f (sq_w (sq_w (sq_w h (by omega) (by omega) (by omega) (by omega)) (by omega) (by omega) (by omega) (by omega)) (by omega) (by omega) (by omega) (by omega)) h1 h2 (by omega)) h1 h2 (by omega)
/-- what a standing tells -/
theorem sm_dec {K : Int} {T : mr_R} {f s : Int} (hi : mi K T) (h1 : 0 ≤ f) (h2 : f < T 2) (hs : sm_n T f = s) : (0 ≤ s ∧ s < 1875) ∧ s / 15 = sm_T T ∧ s % 15 / 5 = T (71 + 5 * f + 1) ∧ s % 5 = T (71 + 5 * f + 2) ∧ (∀ v, 0 ≤ v → v < 3 → sg_t (s / 15) v = sm_t T v) := by
  have hc := hi.c
  have hf := hi.f h1 h2
  have b0 := sm_t_bd hi (w := 0) (by omega) (by omega)
  have b1 := sm_t_bd hi (w := 1) (by omega) (by omega)
  have b2 := sm_t_bd hi (w := 2) (by omega) (by omega)
  have hw := hi.w hf.2.1.1 hf.2.1.2
  have e : sm_T T = 5 * (5 * (5 * 0 + sm_t T 0) + sm_t T 1) + sm_t T 2 := rfl
  unfold sm_n at hs
  have e1 : s / 15 = sm_T T := by omega
  refine ⟨by omega, e1, by omega, by omega, fun v v1 v2 => ?_⟩
  rw [e1]
  have hv : v = 0 ∨ v = 1 ∨ v = 2 := by omega
  rcases hv with e3 | e3 | e3 <;> subst e3
  · show sm_T T / 25 = _
    omega
  · show sm_T T / 5 % 5 = _
    omega
  · show sm_T T % 5 = _
    omega
