/-! What a row keeps under single changes. -/
theorem mi_ctr {K : Int} {R : mr_R} (hi : mi K R) {k v : Int} (a1 : 3 ≤ k) (a2 : k ≤ 6) (a3 : 0 ≤ v) (a4 : v ≤ K) : mi K (mr_st R k v) := by
  have hc := hi.c
  refine ⟨⟨hi.k, ?_⟩, ?_, ?_, ?_, ?_, ?_, ?_⟩
  · unfold mi_C
    have a9 : k = 3 ∨ k = 4 ∨ k = 5 ∨ k = 6 := by omega
    rcases a9 with rfl | rfl | rfl | rfl <;> simp (disch := omega) only [ms_eq, ms_ne] <;> omega
  · intro u h1 h2
    simp (disch := omega) only [ms_ne] at h1 h2
    have q := hi.w h1 h2
    simp (disch := omega) only [ms_eq, ms_ne]
    exact q
  · intro u k h1 h2 h3 h4
    simp (disch := omega) only [ms_ne] at h1 h2 h3 h4
    have q := hi.y h1 h2 h3 h4
    simp (disch := omega) only [ms_eq, ms_ne]
    exact q
  · intro u h1 h2
    simp (disch := omega) only [ms_ne] at h1 h2
    have q := hi.l h1 h2
    simp (disch := omega) only [ms_eq, ms_ne]
    exact q
  · intro u h1 h2
    simp (disch := omega) only [ms_ne] at h1 h2
    have q := hi.f h1 h2
    simp (disch := omega) only [ms_eq, ms_ne]
    exact q
  · intro u g h1 h2 h3 h4
    simp (disch := omega) only [ms_eq, ms_ne] at h2 h4 ⊢
    exact hi.d h1 h2 h3 h4
  · intro u h1
    simp (disch := omega) only [ms_ne]
    exact hi.z h1
theorem mi_lat {K : Int} {R : mr_R} (hi : mi K R) {v : Int} (a3 : 0 ≤ v) (a4 : v ≤ R 2) : mi K (mr_st R 7 v) := by
  have hc := hi.c
  refine ⟨⟨hi.k, ?_⟩, ?_, ?_, ?_, ?_, ?_, ?_⟩
  · unfold mi_C
    simp (disch := omega) only [ms_eq, ms_ne]
    omega
  · intro u h1 h2
    simp (disch := omega) only [ms_ne] at h1 h2
    have q := hi.w h1 h2
    simp (disch := omega) only [ms_eq, ms_ne]
    exact q
  · intro u k h1 h2 h3 h4
    simp (disch := omega) only [ms_ne] at h1 h2 h3 h4
    have q := hi.y h1 h2 h3 h4
    simp (disch := omega) only [ms_eq, ms_ne]
    exact q
  · intro u h1 h2
    simp (disch := omega) only [ms_ne] at h1 h2
    have q := hi.l h1 h2
    simp (disch := omega) only [ms_eq, ms_ne]
    exact q
  · intro u h1 h2
    simp (disch := omega) only [ms_ne] at h1 h2
    have q := hi.f h1 h2
    simp (disch := omega) only [ms_eq, ms_ne]
    exact q
  · intro u g h1 h2 h3 h4
    simp (disch := omega) only [ms_eq, ms_ne] at h2 h4 ⊢
    exact hi.d h1 h2 h3 h4
  · intro u h1
    simp (disch := omega) only [ms_ne]
    exact hi.z h1
theorem mi_set {K : Int} {R : mr_R} (hi : mi K R) {v : Int} (a3 : 0 ≤ v) (a4 : v ≤ 1) : mi K (mr_st R 8 v) := by
  have hc := hi.c
  refine ⟨⟨hi.k, ?_⟩, ?_, ?_, ?_, ?_, ?_, ?_⟩
  · unfold mi_C
    simp (disch := omega) only [ms_eq, ms_ne]
    omega
  · intro u h1 h2
    simp (disch := omega) only [ms_ne] at h1 h2
    have q := hi.w h1 h2
    simp (disch := omega) only [ms_eq, ms_ne]
    exact q
  · intro u k h1 h2 h3 h4
    simp (disch := omega) only [ms_ne] at h1 h2 h3 h4
    have q := hi.y h1 h2 h3 h4
    simp (disch := omega) only [ms_eq, ms_ne]
    exact q
  · intro u h1 h2
    simp (disch := omega) only [ms_ne] at h1 h2
    have q := hi.l h1 h2
    simp (disch := omega) only [ms_eq, ms_ne]
    exact q
  · intro u h1 h2
    simp (disch := omega) only [ms_ne] at h1 h2
    have q := hi.f h1 h2
    simp (disch := omega) only [ms_eq, ms_ne]
    exact q
  · intro u g h1 h2 h3 h4
    simp (disch := omega) only [ms_eq, ms_ne] at h2 h4 ⊢
    exact hi.d h1 h2 h3 h4
  · intro u h1
    simp (disch := omega) only [ms_ne]
    exact hi.z h1
theorem mi_ate {K : Int} {R : mr_R} (hi : mi K R) {f v : Int} (a1 : 0 ≤ f) (a2 : f < R 2) (a3 : 0 ≤ v) (a4 : v ≤ K) : mi K (mr_st R (71 + 5 * f + 3) v) := by
  have hc := hi.c
  refine ⟨⟨hi.k, ?_⟩, ?_, ?_, ?_, ?_, ?_, ?_⟩
  · unfold mi_C
    simp (disch := omega) only [ms_eq, ms_ne]
    omega
  · intro u h1 h2
    simp (disch := omega) only [ms_ne] at h1 h2
    have q := hi.w h1 h2
    simp (disch := omega) only [ms_eq, ms_ne]
    exact q
  · intro u k h1 h2 h3 h4
    simp (disch := omega) only [ms_ne] at h1 h2 h3 h4
    have q := hi.y h1 h2 h3 h4
    simp (disch := omega) only [ms_eq, ms_ne]
    exact q
  · intro u h1 h2
    simp (disch := omega) only [ms_ne] at h1 h2
    have q := hi.l h1 h2
    simp (disch := omega) only [ms_eq, ms_ne]
    exact q
  · intro u h1 h2
    simp (disch := omega) only [ms_ne] at h1 h2
    have q := hi.f h1 h2
    by_cases e : u = f
    · (try subst e)
      simp (disch := omega) only [ms_eq, ms_ne]
      omega
    · simp (disch := omega) only [ms_eq, ms_ne]
      omega
  · intro u g h1 h2 h3 h4
    simp (disch := omega) only [ms_eq, ms_ne] at h2 h4 ⊢
    exact hi.d h1 h2 h3 h4
  · intro u h1
    simp (disch := omega) only [ms_ne]
    exact hi.z h1
theorem mi_made {K : Int} {R : mr_R} (hi : mi K R) {f v : Int} (a1 : 0 ≤ f) (a2 : f < R 2) (a3 : 0 ≤ v) (a4 : v ≤ K) : mi K (mr_st R (71 + 5 * f + 4) v) := by
  have hc := hi.c
  refine ⟨⟨hi.k, ?_⟩, ?_, ?_, ?_, ?_, ?_, ?_⟩
  · unfold mi_C
    simp (disch := omega) only [ms_eq, ms_ne]
    omega
  · intro u h1 h2
    simp (disch := omega) only [ms_ne] at h1 h2
    have q := hi.w h1 h2
    simp (disch := omega) only [ms_eq, ms_ne]
    exact q
  · intro u k h1 h2 h3 h4
    simp (disch := omega) only [ms_ne] at h1 h2 h3 h4
    have q := hi.y h1 h2 h3 h4
    simp (disch := omega) only [ms_eq, ms_ne]
    exact q
  · intro u h1 h2
    simp (disch := omega) only [ms_ne] at h1 h2
    have q := hi.l h1 h2
    simp (disch := omega) only [ms_eq, ms_ne]
    exact q
  · intro u h1 h2
    simp (disch := omega) only [ms_ne] at h1 h2
    have q := hi.f h1 h2
    by_cases e : u = f
    · (try subst e)
      simp (disch := omega) only [ms_eq, ms_ne]
      omega
    · simp (disch := omega) only [ms_eq, ms_ne]
      omega
  · intro u g h1 h2 h3 h4
    simp (disch := omega) only [ms_eq, ms_ne] at h2 h4 ⊢
    exact hi.d h1 h2 h3 h4
  · intro u h1
    simp (disch := omega) only [ms_ne]
    exact hi.z h1
theorem mi_turn {K : Int} {R : mr_R} (hi : mi K R) {w v : Int} (a1 : 0 ≤ w) (a2 : w < R 0) (a3 : 0 ≤ v) (a4 : v < R (9 + 10 * w + 0)) : mi K (mr_st R (9 + 10 * w + 3) v) := by
  have hc := hi.c
  refine ⟨⟨hi.k, ?_⟩, ?_, ?_, ?_, ?_, ?_, ?_⟩
  · unfold mi_C
    simp (disch := omega) only [ms_eq, ms_ne]
    omega
  · intro u h1 h2
    simp (disch := omega) only [ms_ne] at h1 h2
    have q := hi.w h1 h2
    by_cases e : u = w
    · (try subst e)
      simp (disch := omega) only [ms_eq, ms_ne]
      omega
    · simp (disch := omega) only [ms_eq, ms_ne]
      omega
  · intro u k h1 h2 h3 h4
    simp (disch := omega) only [ms_ne] at h1 h2 h3 h4
    have q := hi.y h1 h2 h3 h4
    simp (disch := omega) only [ms_eq, ms_ne]
    exact q
  · intro u h1 h2
    simp (disch := omega) only [ms_ne] at h1 h2
    have q := hi.l h1 h2
    simp (disch := omega) only [ms_eq, ms_ne]
    exact q
  · intro u h1 h2
    simp (disch := omega) only [ms_ne] at h1 h2
    have q := hi.f h1 h2
    simp (disch := omega) only [ms_eq, ms_ne]
    exact q
  · intro u g h1 h2 h3 h4
    simp (disch := omega) only [ms_eq, ms_ne] at h2 h4 ⊢
    exact hi.d h1 h2 h3 h4
  · intro u h1
    simp (disch := omega) only [ms_ne]
    exact hi.z h1
theorem mi_left {K : Int} {R : mr_R} (hi : mi K R) {w v : Int} (a1 : 0 ≤ w) (a2 : w < R 0) (a3 : 0 ≤ v) (a4 : v ≤ K) : mi K (mr_st R (9 + 10 * w + 4) v) := by
  have hc := hi.c
  refine ⟨⟨hi.k, ?_⟩, ?_, ?_, ?_, ?_, ?_, ?_⟩
  · unfold mi_C
    simp (disch := omega) only [ms_eq, ms_ne]
    omega
  · intro u h1 h2
    simp (disch := omega) only [ms_ne] at h1 h2
    have q := hi.w h1 h2
    by_cases e : u = w
    · (try subst e)
      simp (disch := omega) only [ms_eq, ms_ne]
      omega
    · simp (disch := omega) only [ms_eq, ms_ne]
      omega
  · intro u k h1 h2 h3 h4
    simp (disch := omega) only [ms_ne] at h1 h2 h3 h4
    have q := hi.y h1 h2 h3 h4
    simp (disch := omega) only [ms_eq, ms_ne]
    exact q
  · intro u h1 h2
    simp (disch := omega) only [ms_ne] at h1 h2
    have q := hi.l h1 h2
    simp (disch := omega) only [ms_eq, ms_ne]
    exact q
  · intro u h1 h2
    simp (disch := omega) only [ms_ne] at h1 h2
    have q := hi.f h1 h2
    simp (disch := omega) only [ms_eq, ms_ne]
    exact q
  · intro u g h1 h2 h3 h4
    simp (disch := omega) only [ms_eq, ms_ne] at h2 h4 ⊢
    exact hi.d h1 h2 h3 h4
  · intro u h1
    simp (disch := omega) only [ms_ne]
    exact hi.z h1
theorem mi_fly {K : Int} {R : mr_R} (hi : mi K R) {w p v : Int} (a1 : 0 ≤ w) (a2 : w < R 0) (a5 : 0 ≤ p) (a6 : p < R (9 + 10 * w + 0)) (a3 : 0 ≤ v) (a4 : v ≤ 9) : mi K (mr_st R (9 + 10 * w + 5 + p) v) := by
  have hc := hi.c
  have hw := hi.w a1 a2
  refine ⟨⟨hi.k, ?_⟩, ?_, ?_, ?_, ?_, ?_, ?_⟩
  · unfold mi_C
    simp (disch := omega) only [ms_eq, ms_ne]
    omega
  · intro u h1 h2
    simp (disch := omega) only [ms_ne] at h1 h2
    have q := hi.w h1 h2
    simp (disch := omega) only [ms_eq, ms_ne]
    exact q
  · intro u k h1 h2 h3 h4
    simp (disch := omega) only [ms_ne] at h1 h2 h3 h4
    have q := hi.y h1 h2 h3 h4
    by_cases e : u = w ∧ k = p
    · obtain ⟨e1, e2⟩ := e
      subst e1 e2
      simp (disch := omega) only [ms_eq, ms_ne]
      omega
    · simp (disch := omega) only [ms_eq, ms_ne]
      omega
  · intro u h1 h2
    simp (disch := omega) only [ms_ne] at h1 h2
    have q := hi.l h1 h2
    simp (disch := omega) only [ms_eq, ms_ne]
    exact q
  · intro u h1 h2
    simp (disch := omega) only [ms_ne] at h1 h2
    have q := hi.f h1 h2
    simp (disch := omega) only [ms_eq, ms_ne]
    exact q
  · intro u g h1 h2 h3 h4
    simp (disch := omega) only [ms_eq, ms_ne] at h2 h4 ⊢
    exact hi.d h1 h2 h3 h4
  · intro u h1
    simp (disch := omega) only [ms_ne]
    exact hi.z h1
theorem mi_mono {K K2 : Int} {R : mr_R} (hi : mi K R) (h : K ≤ K2) (h2 : K2 ≤ 1000000) : mi K2 R := by
  have hc := hi.c
  refine ⟨⟨h2, by unfold mi_C; omega⟩, ?_, hi.2.2.1, hi.2.2.2.1, ?_, hi.2.2.2.2.2.1, hi.2.2.2.2.2.2⟩
  · intro w a1 a2
    have q := hi.w a1 a2
    omega
  · intro f a1 a2
    have q := hi.f a1 a2
    omega
/-- a frog sits on another pad, which is free (or its own) -/
def mg_seat (R : mr_R) (f w pad : Int) : mr_R := mr_st (mr_st R (71 + 5 * f + 1) w) (71 + 5 * f + 2) pad
theorem mi_seat {K : Int} {R : mr_R} (hi : mi K R) {f w pad : Int} (a1 : 0 ≤ f) (a2 : f < R 2) (a3 : 0 ≤ w) (a4 : w < R 0) (a5 : 0 ≤ pad) (a6 : pad < R (9 + 10 * w + 0)) (a7 : ∀ g, 0 ≤ g → g < R 2 → R (71 + 5 * g + 1) = w → R (71 + 5 * g + 2) = pad → g = f) : mi K (mg_seat R f w pad) := by
  have hc := hi.c
  unfold mg_seat
  refine ⟨⟨hi.k, ?_⟩, ?_, ?_, ?_, ?_, ?_, ?_⟩
  · unfold mi_C
    simp (disch := omega) only [ms_eq, ms_ne]
    omega
  · intro u h1 h2
    simp (disch := omega) only [ms_ne] at h1 h2
    have q := hi.w h1 h2
    simp (disch := omega) only [ms_eq, ms_ne]
    exact q
  · intro u k h1 h2 h3 h4
    simp (disch := omega) only [ms_ne] at h1 h2 h3 h4
    have q := hi.y h1 h2 h3 h4
    simp (disch := omega) only [ms_eq, ms_ne]
    exact q
  · intro u h1 h2
    simp (disch := omega) only [ms_ne] at h1 h2
    have q := hi.l h1 h2
    simp (disch := omega) only [ms_eq, ms_ne]
    exact q
  · intro u h1 h2
    simp (disch := omega) only [ms_ne] at h1 h2
    have q := hi.f h1 h2
    by_cases e : u = f
    · subst e
      simp (disch := omega) only [ms_eq, ms_ne]
      omega
    · simp (disch := omega) only [ms_eq, ms_ne]
      omega
  · intro u g h1 h2 h3 h4
    simp (disch := omega) only [ms_ne] at h2 h4
    by_cases e : u = f
    · by_cases e2 : g = f
      · intro _ _; omega
      · subst e
        simp (disch := omega) only [ms_eq, ms_ne]
        intro b1 b2
        exact (a7 g h3 h4 b1.symm b2.symm).symm
    · by_cases e2 : g = f
      · subst e2
        simp (disch := omega) only [ms_eq, ms_ne]
        intro b1 b2
        exact a7 u h1 h2 b1 b2
      · simp (disch := omega) only [ms_eq, ms_ne]
        exact hi.d h1 h2 h3 h4
  · intro u h1
    simp (disch := omega) only [ms_ne]
    exact hi.z h1

