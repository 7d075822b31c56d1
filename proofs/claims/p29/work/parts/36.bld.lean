/-! What is added to the model's row. -/
def mg_zero (R : mr_R) (b : Int) : mr_R := mr_st (mr_st (mr_st (mr_st (mr_st (mr_st (mr_st (mr_st (mr_st (mr_st R (b + 0) 0) (b + 1) 0) (b + 2) 0) (b + 3) 0) (b + 4) 0) (b + 5) 0) (b + 6) 0) (b + 7) 0) (b + 8) 0) (b + 9) 0
def mg_wheel (R : mr_R) (n no s : Int) : mr_R := mr_st (mr_st (mr_st (mr_st (mg_zero R (9 + 10 * R 0)) (9 + 10 * R 0 + 0) n) (9 + 10 * R 0 + 1) no) (9 + 10 * R 0 + 2) s) 0 (R 0 + 1)
def mg_line (R : mr_R) (w p w2 p2 : Int) : mr_R := mr_st (mr_st (mr_st (mr_st (mr_st R (39 + 4 * R 1) w) (39 + 4 * R 1 + 1) p) (39 + 4 * R 1 + 2) w2) (39 + 4 * R 1 + 3) p2) 1 (R 1 + 1)
def mg_frog (R : mr_R) (w p g : Int) : mr_R := mr_st (mr_st (mr_st (mr_st (mr_st (mr_st R (71 + 5 * R 2 + 0) g) (71 + 5 * R 2 + 1) w) (71 + 5 * R 2 + 2) (mf_pad R w p)) (71 + 5 * R 2 + 3) 0) (71 + 5 * R 2 + 4) 0) 2 (R 2 + 1)
def mf_more (R : mr_R) (w p n : Int) : Int := if 9 < R (9 + 10 * w + 5 + mf_pad R w p) + n then R (9 + 10 * w + 5 + mf_pad R w p) + n - 9 else 0
def mg_bring (R : mr_R) (w p n : Int) : mr_R := mr_st (mr_st (mr_st R 6 (R 6 + n)) (9 + 10 * w + 5 + mf_pad R w p) (R (9 + 10 * w + 5 + mf_pad R w p) + n - mf_more R w p n)) 5 (R 5 + mf_more R w p n)
def mf_isW (n no s : Int) : Prop := (3 ≤ n ∧ n ≤ 5) ∧ (-4 ≤ no ∧ no ≤ 4) ∧ (0 ≤ s ∧ s ≤ 30)
def mf_isP (R : mr_R) (w p : Int) : Prop := 0 ≤ w ∧ w < R 0 ∧ 0 ≤ p ∧ p < R (9 + 10 * w + 0)
theorem ms_up {R : mr_R} {k v w : Int} : mr_st (mr_st R k v) k w = mr_st R k w := by
  funext i
  unfold mr_st
  split <;> rfl
theorem ms_cm {R : mr_R} {k j v w : Int} (h : k ≠ j) : mr_st (mr_st R k v) j w = mr_st (mr_st R j w) k v := by
  funext i
  unfold mr_st
  split
  · rename_i e
    rw [if_neg (by omega)]
  · rfl
/-! What is kept. -/
theorem mi_wheel {K : Int} {R : mr_R} (hi : mi K R) {n no s : Int} (q : (3 ≤ n ∧ n ≤ 5) ∧ (-4 ≤ no ∧ no ≤ 4) ∧ (0 ≤ s ∧ s ≤ 30)) (h : R 0 < 3) : mi K (mg_wheel R n no s) := by
  have hc := hi.c
  have e1 : ∀ u k : Int, 0 ≤ u → u < R 0 → 0 ≤ k → k < 10 → mg_wheel R n no s (9 + 10 * u + k) = R (9 + 10 * u + k) := fun u k a1 a2 a3 a4 => by
    unfold mg_wheel mg_zero
    simp (disch := omega) only [ms_ne]
  have e2 : ∀ i : Int, i ≠ 0 → (i < 9 ∨ 39 ≤ i) → mg_wheel R n no s i = R i := fun i a1 a2 => by
    unfold mg_wheel mg_zero
    simp (disch := omega) only [ms_ne]
  have e0 : mg_wheel R n no s 0 = R 0 + 1 := by unfold mg_wheel; rw [ms_eq rfl]
  have en : mg_wheel R n no s (9 + 10 * R 0 + 0) = n := by
    unfold mg_wheel
    simp (disch := omega) only [ms_eq, ms_ne]
  have eo : mg_wheel R n no s (9 + 10 * R 0 + 1) = no := by
    unfold mg_wheel
    simp (disch := omega) only [ms_eq, ms_ne]
  have es : mg_wheel R n no s (9 + 10 * R 0 + 2) = s := by
    unfold mg_wheel
    simp (disch := omega) only [ms_eq, ms_ne]
  have ez : ∀ k : Int, 3 ≤ k → k < 10 → mg_wheel R n no s (9 + 10 * R 0 + k) = 0 := fun k a1 a2 => by
    have : k = 3 ∨ k = 4 ∨ k = 5 ∨ k = 6 ∨ k = 7 ∨ k = 8 ∨ k = 9 := by omega
    unfold mg_wheel mg_zero
    rcases this with rfl | rfl | rfl | rfl | rfl | rfl | rfl <;> simp (disch := omega) only [ms_eq, ms_ne]
  refine ⟨⟨hi.k, ?_⟩, ?_, ?_, ?_, ?_, ?_, ?_⟩
  · unfold mi_C
    rw [e0]
    simp (disch := omega) only [e2]
    omega
  · intro u h1 h2
    rw [e0] at h2
    by_cases b : u < R 0
    · have q := hi.w h1 b
      simp (disch := omega) only [e1]
      exact q
    · obtain rfl : u = R 0 := by omega
      rw [en, eo, es, ez 3 (by omega) (by omega), ez 4 (by omega) (by omega)]
      omega
  · intro u k h1 h2 h3 h4
    rw [e0] at h2
    by_cases b : u < R 0
    · have q := hi.y h1 b h3 h4
      rw [show 9 + 10 * u + 5 + k = 9 + 10 * u + (5 + k) by omega] at q ⊢
      simp (disch := omega) only [e1]
      exact q
    · obtain rfl : u = R 0 := by omega
      rw [show 9 + 10 * R 0 + 5 + k = 9 + 10 * R 0 + (5 + k) by omega, ez (5 + k) (by omega) (by omega)]
      omega
  · intro l h1 h2
    rw [e2 1 (by omega) (by omega)] at h2
    have q := hi.l h1 h2
    simp (disch := omega) only [e0, e1, e2]
    omega
  · intro f h1 h2
    rw [e2 2 (by omega) (by omega)] at h2
    have q := hi.f h1 h2
    simp (disch := omega) only [e0, e1, e2]
    omega
  · intro f g h1 h2 h3 h4
    rw [e2 2 (by omega) (by omega)] at h2 h4
    simp (disch := omega) only [e2]
    exact hi.d h1 h2 h3 h4
  · intro i h1
    rw [e2 i (by omega) (by omega)]
    exact hi.z h1
theorem mi_line {K : Int} {R : mr_R} (hi : mi K R) {w p w2 p2 : Int} (q : (0 ≤ w ∧ w < R 0 ∧ 0 ≤ p ∧ p < R (9 + 10 * w + 0)) ∧ (0 ≤ w2 ∧ w2 < R 0 ∧ 0 ≤ p2 ∧ p2 < R (9 + 10 * w2 + 0)) ∧ w ≠ w2 ∧ R 1 < 8) : mi K (mg_line R w p w2 p2) := by
  have hc := hi.c
  unfold mg_line
  refine ⟨⟨hi.k, ?_⟩, ?_, ?_, ?_, ?_, ?_, ?_⟩
  · unfold mi_C
    simp (disch := omega) only [ms_eq, ms_ne]
    omega
  · intro u h1 h2
    simp (disch := omega) only [ms_ne] at h2
    have q := hi.w h1 h2
    simp (disch := omega) only [ms_ne]
    exact q
  · intro u k h1 h2 h3 h4
    simp (disch := omega) only [ms_ne] at h2
    have q := hi.y h1 h2 h3 h4
    simp (disch := omega) only [ms_ne]
    exact q
  · intro l h1 h2
    simp (disch := omega) only [ms_eq] at h2
    by_cases b : l < R 1
    · have q := hi.l h1 b
      simp (disch := omega) only [ms_ne]
      exact q
    · obtain rfl : l = R 1 := by omega
      simp (disch := omega) only [ms_eq, ms_ne]
      omega
  · intro f h1 h2
    simp (disch := omega) only [ms_ne] at h2
    have q := hi.f h1 h2
    simp (disch := omega) only [ms_ne]
    exact q
  · intro f g h1 h2 h3 h4
    simp (disch := omega) only [ms_ne] at h2 h4 ⊢
    exact hi.d h1 h2 h3 h4
  · intro i h1
    simp (disch := omega) only [ms_ne]
    exact hi.z h1
theorem mi_frog {K : Int} {R : mr_R} (hi : mi K R) (hk : 0 ≤ K) {w p g : Int} (q : (0 ≤ w ∧ w < R 0 ∧ 0 ≤ p ∧ p < R (9 + 10 * w + 0)) ∧ mf_on R w (mf_pad R w p) = -1 ∧ R 2 < 5) (q2 : 1 ≤ g ∧ g ≤ 9) : mi K (mg_frog R w p g) := by
  have hc := hi.c
  have hw := hi.w q.1.1 q.1.2.1
  have hp := mf_pad_bd (R := R) (w := w) p (by omega)
  have hn := (mf_on_no hi).mp q.2.1
  unfold mg_frog
  refine ⟨⟨hi.k, ?_⟩, ?_, ?_, ?_, ?_, ?_, ?_⟩
  · unfold mi_C
    simp (disch := omega) only [ms_eq, ms_ne]
    omega
  · intro u h1 h2
    simp (disch := omega) only [ms_ne] at h2
    have q := hi.w h1 h2
    simp (disch := omega) only [ms_ne]
    exact q
  · intro u k h1 h2 h3 h4
    simp (disch := omega) only [ms_ne] at h2
    have q := hi.y h1 h2 h3 h4
    simp (disch := omega) only [ms_ne]
    exact q
  · intro l h1 h2
    simp (disch := omega) only [ms_ne] at h2
    have q := hi.l h1 h2
    simp (disch := omega) only [ms_ne]
    exact q
  · intro f h1 h2
    simp (disch := omega) only [ms_eq] at h2
    by_cases b : f < R 2
    · have q := hi.f h1 b
      simp (disch := omega) only [ms_ne]
      exact q
    · obtain rfl : f = R 2 := by omega
      simp (disch := omega) only [ms_eq, ms_ne]
      omega
  · intro f f2 h1 h2 h3 h4
    simp (disch := omega) only [ms_eq] at h2 h4
    by_cases b : f < R 2
    · by_cases b2 : f2 < R 2
      · simp (disch := omega) only [ms_ne]
        exact hi.d h1 b h3 b2
      · obtain rfl : f2 = R 2 := by omega
        simp (disch := omega) only [ms_eq, ms_ne]
        intro x1 x2
        exact absurd ⟨x1, x2⟩ (hn f h1 b)
    · obtain rfl : f = R 2 := by omega
      by_cases b2 : f2 < R 2
      · simp (disch := omega) only [ms_eq, ms_ne]
        intro x1 x2
        exact absurd ⟨x1.symm, x2.symm⟩ (hn f2 h3 b2)
      · intro _ _; omega
  · intro i h1
    simp (disch := omega) only [ms_ne]
    exact hi.z h1
theorem mi_bring {K : Int} {R : mr_R} (hi : mi K R) (hk : K + 9 ≤ 1000000) {w p n : Int} (h1 : 0 ≤ w) (h2 : w < R 0) (h5 : 0 ≤ n) (h6 : n ≤ 9) : mi (K + 9) (mg_bring R w p n) := by
  have hc := hi.c
  have hw := hi.w h1 h2
  have hp := mf_pad_bd (R := R) (w := w) p (by omega)
  have hy := hi.y (w := w) (k := mf_pad R w p) h1 h2 (by omega) (by omega)
  have hm : 0 ≤ mf_more R w p n ∧ mf_more R w p n ≤ 9 ∧ 0 ≤ R (9 + 10 * w + 5 + mf_pad R w p) + n - mf_more R w p n ∧ R (9 + 10 * w + 5 + mf_pad R w p) + n - mf_more R w p n ≤ 9 := by
    unfold mf_more
    split <;> omega
  have i1 := mi_ctr (k := 6) (v := R 6 + n) (mi_mono hi (K2 := K + 9) (by omega) hk) (by omega) (by omega) (by omega) (by omega)
  have i2 := mi_fly i1 (w := w) (p := mf_pad R w p) (v := R (9 + 10 * w + 5 + mf_pad R w p) + n - mf_more R w p n) h1 (by simp (disch := omega) only [ms_ne]; exact h2) hp.1 (by simp (disch := omega) only [ms_ne]; exact hp.2) (by omega) (by omega)
  exact mi_ctr (k := 5) (v := R 5 + mf_more R w p n) i2 (by omega) (by omega) (by omega) (by omega)

