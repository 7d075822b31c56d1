/-! Standing as told keeps a good row. -/
theorem mi_tout {K : Int} {R : mr_R} (hi : mi K R) {w v : Int} (a1 : R 0 ≤ w) (a2 : w < 3) : mi K (mr_st R (9 + 10 * w + 3) v) := by
  have hc := hi.c
  refine ⟨⟨hi.k, ?_⟩, ?_, ?_, ?_, ?_, ?_, ?_⟩
  · unfold mi_C
    simp (disch := omega) only [ms_eq, ms_ne]
    omega
  · intro u h1 h2
    simp (disch := omega) only [ms_ne] at h1 h2
    have q := hi.w h1 h2
    simp (disch := omega) only [ms_eq, ms_ne]
    exact q
  · intro u k h1 h2 h3 h4
    simp (disch := omega) only [ms_ne] at h1 h2 h3 h4
    have q := hi.y h1 h2 h3 h4
    simp (disch := omega) only [ms_eq, ms_ne]
    exact q
  · intro u h1 h2
    simp (disch := omega) only [ms_ne] at h1 h2
    have q := hi.l h1 h2
    simp (disch := omega) only [ms_eq, ms_ne]
    exact q
  · intro u h1 h2
    simp (disch := omega) only [ms_ne] at h1 h2
    have q := hi.f h1 h2
    simp (disch := omega) only [ms_eq, ms_ne]
    exact q
  · intro u g h1 h2 h3 h4
    simp (disch := omega) only [ms_eq, ms_ne] at h2 h4 ⊢
    exact hi.d h1 h2 h3 h4
  · intro u h1
    simp (disch := omega) only [ms_ne]
    exact hi.z h1
theorem mi_tany {K : Int} {R : mr_R} (hi : mi K R) {w v : Int} (a1 : 0 ≤ w) (a2 : w < 3) (a3 : w < R 0 → 0 ≤ v ∧ v < R (9 + 10 * w + 0)) : mi K (mr_st R (9 + 10 * w + 3) v) := by
  by_cases e : w < R 0
  · exact mi_turn hi a1 e (a3 e).1 (a3 e).2
  · exact mi_tout hi (by omega) a2
/-- a standing that a row has -/
def sm_g (R : mr_R) (f s : Int) : Prop := ∃ K T, mi K T ∧ sq R f T ∧ sm_n T f = s
section MV
variable {K K2 : Int} {R T : mr_R} {f s : Int}
theorem sm_g_bd (hg : sm_g R f s) (h1 : 0 ≤ f) (h2 : f < R 2) : 0 ≤ s ∧ s < 1875 := by
  obtain ⟨K, T, a1, a2, a3⟩ := hg
  exact (sm_dec a1 h1 (by rw [a2.1.2.2.1]; exact h2) a3).1
theorem sm_stand (hi : mi K T) (hq : sq R f T) (hg : sm_g R f s) (h1 : 0 ≤ f) (h2 : f < R 2) : mi K (sm_st T f s) ∧ sq R f (sm_st T f s) ∧ sm_n (sm_st T f s) f = s := by
  obtain ⟨K0, T0, b1, b2, b3⟩ := hg
  have hc := hi.c
  have hc0 := b1.c
  have hb0 : R 0 ≤ 3 := by rw [← hq.1.1]; omega
  have hb2 : R 2 ≤ 5 := by rw [← hq.1.2.2.1]; omega
  have h20 : f < T0 2 := by rw [b2.1.2.2.1]; exact h2
  have hd := sm_dec b1 h1 h20 b3
  have hf := b1.f h1 h20
  have tt : ∀ v, 0 ≤ v → v < 3 → v < T 0 → 0 ≤ sg_t (s / 15) v ∧ sg_t (s / 15) v < T (9 + 10 * v + 0) := by
    intro v v1 v2 v3
    have w0 := b1.w v1 (show v < T0 0 by rw [b2.1.1, ← hq.1.1]; exact v3)
    rw [hd.2.2.2.2 v v1 v2]
    have e1 := (hq.2.1 v v1 v2).1
    have e2 := (b2.2.1 v v1 v2).1
    unfold sm_t
    rw [if_pos (by rw [b2.1.1, ← hq.1.1]; exact v3)]
    omega
  have t2 : s / 15 % 5 = sg_t (s / 15) 2 := by
    show _ = s / 15 % 5
    rfl
  have t1 : s / 15 / 5 % 5 = sg_t (s / 15) 1 := by
    show _ = s / 15 / 5 % 5
    rfl
  have t0 : s / 15 / 5 / 5 % 5 = sg_t (s / 15) 0 := by
    show _ = s / 15 / 25
    omega
  have i1 := mi_tany hi (w := 2) (v := s / 15 % 5) (by omega) (by omega) (fun z => by rw [t2]; exact tt 2 (by omega) (by omega) z)
  have i2 := mi_tany i1 (w := 1) (v := s / 15 / 5 % 5) (by omega) (by omega) (fun z => by
    rw [ms_ne (by omega)] at z
    rw [t1, ms_ne (by omega)]; exact tt 1 (by omega) (by omega) z)
  have i3 := mi_tany i2 (w := 0) (v := s / 15 / 5 / 5 % 5) (by omega) (by omega) (fun z => by
    rw [ms_ne (by omega), ms_ne (by omega)] at z
    rw [t0, ms_ne (by omega), ms_ne (by omega)]; exact tt 0 (by omega) (by omega) z)
  refine ⟨?_, sq_stand hq h1 (by omega), ?_⟩
  · refine mi_seat i3 (f := f) (w := s % 15 / 5) (pad := s % 5) h1 ?_ (by omega) ?_ (by omega) ?_ ?_
    · rw [ms_ne (by omega), ms_ne (by omega), ms_ne (by omega), hq.1.2.2.1]; exact h2
    · rw [ms_ne (by omega), ms_ne (by omega), ms_ne (by omega), hq.1.1, hd.2.2.1, ← b2.1.1]; exact hf.2.1.2
    · rw [ms_ne (by omega), ms_ne (by omega), ms_ne (by omega), (hq.2.1 _ (by omega) (by omega)).1, ← (b2.2.1 _ (by omega) (by omega)).1, hd.2.2.2.1, hd.2.2.1]; exact hf.2.2.1.2
    · intro g g1 g2 g3 g4
      rw [ms_ne (by omega), ms_ne (by omega), ms_ne (by omega)] at g2 g3 g4
      rw [hq.1.2.2.1] at g2
      refine Decidable.byContradiction fun e => ?_
      have e1 := (hq.2.2.2 g g1 (by omega)).2 e
      have e2 := (b2.2.2.2 g g1 (by omega)).2 e
      rw [e1.1, ← e2.1, hd.2.2.1] at g3
      rw [e1.2, ← e2.2, hd.2.2.2.1] at g4
      exact e (b1.d g1 (by rw [b2.1.2.2.1]; exact g2) h1 h20 g3 g4)
  · have key : ∀ v, 0 ≤ v → v < 3 → sm_t (sm_st T f s) v = sg_t (s / 15) v := by
      intro v v1 v2
      rw [hd.2.2.2.2 v v1 v2]
      have e3 : sm_t T0 v = if v < R 0 then sg_t (s / 15) v else 0 := by
        by_cases z : v < R 0
        · rw [if_pos z, hd.2.2.2.2 v v1 v2]
        · rw [if_neg z]
          unfold sm_t
          rw [if_neg (by rw [b2.1.1]; exact z)]
      rw [e3]
      unfold sm_t sm_st
      rw [ms_ne (by omega), ms_ne (by omega), ms_ne (by omega), ms_ne (by omega), ms_ne (by omega), hq.1.1]
      by_cases z : v < R 0
      · rw [if_pos z, if_pos z, ms_ne (by omega), ms_ne (by omega)]
        have hv : v = 0 ∨ v = 1 ∨ v = 2 := by omega
        rcases hv with e | e | e <;> subst e
        · rw [ms_eq rfl, t0]
        · rw [ms_ne (by omega), ms_eq rfl, t1]
        · rw [ms_ne (by omega), ms_ne (by omega), ms_eq rfl, t2]
      · rw [if_neg z, if_neg z]
    have eT : sm_T (sm_st T f s) = s / 15 := by
      rw [hd.2.1]
      exact sm_T_eq (fun v v1 v2 => by rw [key v v1 v2, hd.2.2.2.2 v v1 v2])
    unfold sm_n
    rw [eT]
    have e1 : (sm_st T f s) (71 + 5 * f + 1) = s % 15 / 5 := by
      unfold sm_st
      rw [ms_ne (by omega), ms_eq rfl]
    have e2 : (sm_st T f s) (71 + 5 * f + 2) = s % 5 := by
      unfold sm_st
      rw [ms_eq rfl]
    rw [e1, e2]
    omega
theorem sq_rfl : sq R f R := ⟨⟨rfl, rfl, rfl, rfl⟩, fun _ _ _ => ⟨rfl, rfl, rfl⟩, fun _ _ _ => rfl, fun _ _ _ => ⟨rfl, fun _ => ⟨rfl, rfl⟩⟩⟩
theorem sm_can_x {y : Int} (hi : mi K T) (hR : mi K2 R) (hk : K + 20 ≤ 1000000) (h8 : R 8 = 0) (hq : sq R f T) (h1 : 0 ≤ f) (h2 : f < R 2) (hs : sm_n T f = s) (y1 : 0 ≤ y) (y2 : y < 10) : sm_can T f y ↔ sm_x R f s y ≠ -1 := by
  have h := sm_goes hi hR hk h8 hq h1 h2 hs y1 y2
  constructor
  · intro a
    obtain ⟨b1, b2, b3⟩ := h.1 a
    have := (sm_dec b1 h1 (by rw [b2.1.2.2.1]; exact h2) b3).1.1
    omega
  · intro a
    exact Classical.byContradiction fun b => a (h.2 b)
/-- the graph of the model -/
theorem sm_gx {y : Int} (hR : mi K2 R) (hk : K2 + 20 ≤ 1000000) (h8 : R 8 = 0) (h1 : 0 ≤ f) (h2 : f < R 2) (hg : sm_g R f s) (y1 : 0 ≤ y) (y2 : y < 10) (hx : sm_x R f s y ≠ -1) : sm_g R f (sm_x R f s y) := by
  obtain ⟨b1, b2, b3⟩ := sm_stand hR sq_rfl hg h1 h2
  have c := (sm_can_x b1 hR hk h8 b2 h1 h2 b3 y1 y2).mpr hx
  obtain ⟨d1, d2, d3⟩ := (sm_goes b1 hR hk h8 b2 h1 h2 b3 y1 y2).1 c
  exact ⟨_, _, d1, d2, d3⟩
theorem sm_gD {s0 : Int} (hR : mi K2 R) (hk : K2 + 20 ≤ 1000000) (h8 : R 8 = 0) (h1 : 0 ≤ f) (h2 : f < R 2) (hg : sm_g R f s0) : ∀ (n : Nat) (v : Int), bf_D (sm_x R f) (fun _ => 10) s0 n v → sm_g R f v := by
  intro n
  induction n with
  | zero =>
    intro v h
    rw [show v = s0 from h]
    exact hg
  | succ n ih =>
    rintro v ⟨r, k, a1, a2, a3, a4, rfl⟩
    exact sm_gx hR hk h8 h1 h2 (ih r a1) a2 a3 a4
theorem sm_G {s0 : Int} (hR : mi K2 R) (hk : K2 + 20 ≤ 1000000) (h8 : R 8 = 0) (h1 : 0 ≤ f) (h2 : f < R 2) (hg : sm_g R f s0) : ∀ n v k, bf_D (sm_x R f) (fun _ => 10) s0 n v → 0 ≤ k → k < (fun _ => (10 : Int)) v → sm_x R f v k ≠ -1 → 0 ≤ sm_x R f v k ∧ sm_x R f v k < 1875 := by
  intro n v k a1 a2 a3 a4
  exact sm_g_bd (sm_gx hR hk h8 h1 h2 (sm_gD hR hk h8 h1 h2 hg n v a1) a2 a3 a4) h1 h2
end MV
