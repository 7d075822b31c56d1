/-! The two searches agree. -/
theorem on_8 {R : mr_R} {v w pad : Int} : ∀ (n : Nat) (g : Int), 0 ≤ g → mf_onF (mr_st R 8 v) w pad n g = mf_onF R w pad n g := by
  intro n
  induction n with
  | zero => intro g _; rfl
  | succ n ih =>
    intro g h
    show (if mr_st R 8 v (71 + 5 * g + 1) = w ∧ mr_st R 8 v (71 + 5 * g + 2) = pad then g else mf_onF (mr_st R 8 v) w pad n (g + 1)) = (if R (71 + 5 * g + 1) = w ∧ R (71 + 5 * g + 2) = pad then g else mf_onF R w pad n (g + 1))
    rw [ih (g + 1) (by omega), ms_ne (by omega), ms_ne (by omega)]
theorem wg_8 {R : mr_R} {v w f : Int} : ∀ (n : Nat) (g s : Int), 0 ≤ g → mf_wgF (mr_st R 8 v) w f n g s = mf_wgF R w f n g s := by
  intro n
  induction n with
  | zero => intro g s _; rfl
  | succ n ih =>
    intro g s h
    show mf_wgF (mr_st R 8 v) w f n (g + 1) (s + if mr_st R 8 v (71 + 5 * g + 1) = w ∧ g ≠ f then mr_st R 8 v (71 + 5 * g + 0) else 0) = mf_wgF R w f n (g + 1) (s + if R (71 + 5 * g + 1) = w ∧ g ≠ f then R (71 + 5 * g + 0) else 0)
    rw [ih (g + 1) _ (by omega), ms_ne (by omega), ms_ne (by omega)]
theorem sb_8 {K : Int} {R : mr_R} {X : Nat → mr_R} {f v : Int} (hi : mi K R) (hI : sb_I R f X) (hi2 : mi K (mr_st R 8 v)) : sb_I (mr_st R 8 v) f X := by
  have hc := hi.c
  obtain ⟨⟨a1, a2, a3⟩, ⟨b1, b2, b3, b4, b5⟩, c, d⟩ := hI
  have e0 : mr_st R 8 v 0 = R 0 := ms_ne (by omega)
  have e1 : mr_st R 8 v 1 = R 1 := ms_ne (by omega)
  have e2 : mr_st R 8 v 2 = R 2 := ms_ne (by omega)
  have ew : ∀ w k : Int, 0 ≤ w → 0 ≤ k → mr_st R 8 v (9 + 10 * w + k) = R (9 + 10 * w + k) := fun w k h1 h2 => ms_ne (by omega)
  have el : ∀ l k : Int, 0 ≤ l → 0 ≤ k → mr_st R 8 v (39 + 4 * l + k) = R (39 + 4 * l + k) := fun w k h1 h2 => ms_ne (by omega)
  have eon : ∀ w pad, mf_on (mr_st R 8 v) w pad = mf_on R w pad := fun w pad => by
    unfold mf_on
    rw [e2]
    exact on_8 _ _ (by omega)
  have eby : ∀ w, 0 ≤ w → sg_by (mr_st R 8 v) f w = sg_by R f w := fun w h => by
    unfold sg_by mf_wg
    rw [e2, wg_8 _ _ _ (by omega), ew w 2 h (by omega), ew w 1 h (by omega)]
  have eW : ∀ a b, sy_W (mr_st R 8 v) (R 0) 0 a b ↔ sy_W R (R 0) 0 a b := by
    intro a b
    unfold sy_W sy_h
    rw [e0]
    constructor
    · rintro ⟨u, q, u1, u2, u3, u4⟩
      rw [ew u 0 u1.1 (by omega)] at u2 u4
      exact ⟨u, q, u1, u2, u3, u4⟩
    · rintro ⟨u, q, u1, u2, u3, u4⟩
      rw [← ew u 0 u1.1 (by omega)] at u2 u4
      exact ⟨u, q, u1, u2, u3, u4⟩
  have eL : ∀ a b, sy_L (mr_st R 8 v) (R 1) a b ↔ sy_L R (R 1) a b := by
    intro a b
    unfold sy_L sy_f sy_o
    constructor
    · rintro ⟨u, u1, u2, u3⟩
      rw [el u 0 u1 (by omega), el u 1 u1 (by omega), el u 2 u1 (by omega), el u 3 u1 (by omega)] at u3
      exact ⟨u, u1, u2, u3⟩
    · rintro ⟨u, u1, u2, u3⟩
      rw [← el u 0 u1 (by omega), ← el u 1 u1 (by omega), ← el u 2 u1 (by omega), ← el u 3 u1 (by omega)] at u3
      exact ⟨u, u1, u2, u3⟩
  refine ⟨⟨a1, ?_, ?_⟩, ⟨?_, ?_, ?_, ?_, b5⟩, ?_, ?_⟩
  · intro a b h1 h2
    rw [e0, e1, eW, eL]
    exact a2 a b h1 h2
  · rw [e1]
    exact a3
  · intro u t h1 h2 h3 h4 h5
    rw [e0] at h3
    rw [eby u h1, ew u 0 h1 (by omega)]
    exact b1 u t h1 h2 h3 h4 h5
  · intro u h1 h2 h3
    rw [e0] at h3
    rw [ew u 3 h1 (by omega)]
    exact b2 u h1 h2 h3
  · intro u t h1 h2 h3 h4 h5 h6
    rw [e0] at h3
    rw [eby u h1, ew u 0 h1 (by omega)]
    exact b3 u t h1 h2 h3 h4 h5 h6
  · intro u h1 h2 h3
    rw [e0] at h3
    exact b4 u h1 h2 h3
  · intro a h1 h2
    rw [c a h1 h2]
    unfold sk_v
    rw [eon]
  · intro s h1 h2
    rw [d s h1 h2]
    unfold sp_v
    rw [e0, ew (s % 15 / 5) 0 (by omega) (by omega)]
section AG
variable {K : Int} {R : mr_R} {X : Nat → mr_R} {f : Int}
theorem sz_now (hi : mi K R) (h1 : 0 ≤ f) (h2 : f < R 2) (hI : sb_I R f X) : sz_c (mr_st R 8 0) (sm_n (mr_st R 8 0) f) = sg_n R f ∧ sc_T X (sm_n (mr_st R 8 0) f / 15) := by
  have hc := hi.c
  have hRi : mi K (mr_st R 8 0) := mi_set hi (by omega) (by omega)
  have h2R : f < mr_st R 8 0 2 := by rw [ms_ne (by omega)]; exact h2
  have hd := sm_dec hRi h1 h2R rfl
  have hp := sm_plc hRi sq_rfl h1 h2R rfl
  have hf := hi.f h1 h2
  have hnow := sn_now hi h1 h2 hI
  have e1 : mr_st R 8 0 (71 + 5 * f + 1) = R (71 + 5 * f + 1) := ms_ne (by omega)
  have ep : mf_place (mr_st R 8 0) f = mf_place R f := by
    unfold mf_place
    rw [e1, ms_ne (by omega), ms_ne (by omega), ms_ne (by omega)]
  have et : ∀ v, 0 ≤ v → sm_t (mr_st R 8 0) v = if v < R 0 then R (9 + 10 * v + 3) else 0 := by
    intro v hv
    unfold sm_t
    rw [ms_ne (by omega), ms_ne (by omega)]
  have eT : sm_T (mr_st R 8 0) = sg_T R := by
    unfold sm_T sg_T
    rw [et 0 (by omega), et 1 (by omega), et 2 (by omega)]
    generalize (if 0 < R 0 then R (9 + 10 * 0 + 3) else 0) = x0
    generalize (if 1 < R 0 then R (9 + 10 * 1 + 3) else 0) = x1
    generalize (if 2 < R 0 then R (9 + 10 * 2 + 3) else 0) = x2
    omega
  have ec : sz_c (mr_st R 8 0) (sm_n (mr_st R 8 0) f) = sg_n R f := by
    unfold sz_c sg_n
    rw [hp.1, hd.2.1, hd.2.2.1, eT, ep, e1]
  refine ⟨ec, ?_⟩
  have h5 := hnow.2
  rw [hI.2.2.2 _ hnow.1.1 hnow.1.2, sp_iff hi] at h5
  have e15 : sg_n R f / 15 = sm_n (mr_st R 8 0) f / 15 := by
    rw [← ec]
    have hz := sz_g hRi ⟨K, _, hRi, sq_rfl, rfl⟩ h1 h2R
    exact (st_d (T := sm_n (mr_st R 8 0) f / 15) hz.2.2.2.2.2.2.2.1 hz.2.2.2.2.2.2.2.2).1
  rw [← e15]
  exact h5.1
theorem ag_few {g r r2 : Int} (hi : mi K R) (hk : K + 20 ≤ 1000000) (h1 : 0 ≤ f) (h2 : f < R 2) (hI : sb_I R f X) (hm : bf_L (sm_x (mr_st R 8 0) f) (fun _ => 10) (sm_n (mr_st R 8 0) f) (fun s => sm_mp (mr_st R 8 0) s = g) r) (hc : bf_L (sn_x X) (sn_w X) (sg_n R f) (fun s => s % 15 = g) r2) : r = r2 := by
  have hn := sz_now hi h1 h2 hI
  have hc0 := hi.c
  have hRi : mi K (mr_st R 8 0) := mi_set hi (by omega) (by omega)
  have h := sz_L hRi hk (ms_eq rfl) (sb_8 hi hI hRi) ⟨K, _, hRi, sq_rfl, rfl⟩ h1 (by rw [ms_ne (by omega)]; exact h2) hn.2 hm
  rw [hn.1] at h
  exact bf_L_uniq h hc
theorem ag_could {w : Int} (hi : mi K R) (hk : K + 20 ≤ 1000000) (h1 : 0 ≤ f) (h2 : f < R 2) (hI : sb_I R f X) (w1 : 0 ≤ w) : cb_S (fun p => ∃ n v, bf_D (sn_x X) (sn_w X) (sg_n R f) n v ∧ v % 15 / 5 = w ∧ v % 15 % 5 = p) = cb_S (fun q => q < R (9 + 10 * w + 0) ∧ ∃ n v, bf_D (sm_x (mr_st R 8 0) f) (fun _ => 10) (sm_n (mr_st R 8 0) f) n v ∧ sm_mp (mr_st R 8 0) v = w * 5 + q) := by
  have hn := sz_now hi h1 h2 hI
  have hc0 := hi.c
  have hRi : mi K (mr_st R 8 0) := mi_set hi (by omega) (by omega)
  apply cb_cg
  intro q q1 q2
  have h := sz_S (w := w) (q := q) hRi hk (ms_eq rfl) (sb_8 hi hI hRi) ⟨K, _, hRi, sq_rfl, rfl⟩ h1 (by rw [ms_ne (by omega)]; exact h2) hn.2 q1 q2
  rw [hn.1, ms_ne (show 9 + 10 * w + 0 ≠ 8 by omega)] at h
  exact h
end AG
