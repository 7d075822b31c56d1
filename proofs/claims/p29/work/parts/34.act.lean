/-! What the model does to its row. -/
def mg_eat (R : mr_R) (f n : Int) : mr_R := mr_st (mr_st R 4 (R 4 + n)) (71 + 5 * f + 3) (R (71 + 5 * f + 3) + n)
def mg_sit (R : mr_R) (f w p : Int) : mr_R := mr_st (mg_eat (mg_seat R f w (mf_pad R w p)) f (R (9 + 10 * w + 5 + mf_pad R w p))) (9 + 10 * w + 5 + mf_pad R w p) 0
def mg_turn (R : mr_R) (w k : Int) : mr_R := mr_st R (9 + 10 * w + 3) ((R (9 + 10 * w + 3) + k) % R (9 + 10 * w + 0))
def mg_left (R : mr_R) (w : Int) : mr_R := mr_st (mg_turn R w (R (9 + 10 * w + 1))) (9 + 10 * w + 4) (R (9 + 10 * w + 4) + 1)
def mg_leave (R : mr_R) (w : Int) : mr_R := if mf_wt R w ≤ R (9 + 10 * w + 2) then mg_left R w else R
def mg_jump (R : mr_R) (f l : Int) : mr_R := mg_leave (mg_sit R f (R (39 + 4 * l + 2 * mf_away R f l)) (R (39 + 4 * l + 2 * mf_away R f l + 1))) (R (71 + 5 * f + 1))
def mg_step (R : mr_R) (f s : Int) : mr_R := mg_sit R f (R (71 + 5 * f + 1)) ((mf_place R f + s) % R (9 + 10 * R (71 + 5 * f + 1) + 0))
def mg_count (R : mr_R) (f : Int) : mr_R := mr_st (mr_st (mr_st (mr_st R 3 (R 3 + 1)) 7 (f + 1)) (71 + 5 * f + 4) (R (71 + 5 * f + 4) + 1)) 6 (R 6 + 1)
def mg_fly (R : mr_R) (w pad : Int) : mr_R := if mf_on R w pad = -1 then (if R (9 + 10 * w + 5 + pad) < 9 then mr_st R (9 + 10 * w + 5 + pad) (R (9 + 10 * w + 5 + pad) + 1) else mr_st R 5 (R 5 + 1)) else mg_eat R (mf_on R w pad) 1
def mg_comes (R : mr_R) : mr_R := mg_fly R (R 3 % R 0) (mf_pad R (R 3 % R 0) (R 3 % R (9 + 10 * (R 3 % R 0) + 0)))
def mg_behind (R : mr_R) (f : Int) : mr_R := mg_comes (mg_count R f)
def mg_leap (R : mr_R) (f l : Int) : mr_R := if mf_why R f l = 0 then mg_behind (mg_jump R f l) f else R
def mg_hop (R : mr_R) (f s : Int) : mr_R := if mf_hwhy R f s = 0 then mg_behind (mg_step R f s) f else R
theorem mi_eat {K n : Int} {R : mr_R} (hi : mi K R) {f : Int} (a1 : 0 ≤ f) (a2 : f < R 2) (a3 : 0 ≤ n) (a4 : K + n ≤ 1000000) : mi (K + n) (mg_eat R f n) := by
  have hc := hi.c
  have hf := hi.f a1 a2
  have h1 := mi_ctr (k := 4) (v := R 4 + n) (mi_mono hi (K2 := K + n) (by omega) a4) (by omega) (by omega) (by omega) (by omega)
  exact mi_ate h1 a1 (by simp (disch := omega) only [ms_ne]; exact a2) (by omega) (by omega)
theorem mi_sit {K : Int} {R : mr_R} (hi : mi K R) {f w p : Int} (a1 : 0 ≤ f) (a2 : f < R 2) (a3 : 0 ≤ w) (a4 : w < R 0) (a5 : mf_on R w (mf_pad R w p) = -1) (hk : K + 9 ≤ 1000000) : mi (K + 9) (mg_sit R f w p) := by
  have hc := hi.c
  have hw := hi.w a3 a4
  have hp := mf_pad_bd (R := R) (w := w) p (by omega)
  have hy := hi.y (w := w) (k := mf_pad R w p) a3 a4 (by omega) (by omega)
  have h1 := mi_seat hi a1 a2 a3 a4 hp.1 hp.2 fun g b1 b2 b3 b4 => absurd ⟨b3, b4⟩ ((mf_on_no hi).mp a5 g b1 b2)
  have e2 : (mg_seat R f w (mf_pad R w p)) 2 = R 2 := by unfold mg_seat; simp (disch := omega) only [ms_ne]
  have e0 : (mg_seat R f w (mf_pad R w p)) 0 = R 0 := by unfold mg_seat; simp (disch := omega) only [ms_ne]
  have e9 : (mg_seat R f w (mf_pad R w p)) (9 + 10 * w + 0) = R (9 + 10 * w + 0) := by unfold mg_seat; simp (disch := omega) only [ms_ne]
  have h2 := mi_mono (mi_eat h1 (n := R (9 + 10 * w + 5 + mf_pad R w p)) a1 (by rw [e2]; exact a2) (by omega) (by omega)) (K2 := K + 9) (by omega) hk
  unfold mg_sit
  refine mi_fly h2 a3 ?_ (by omega) ?_ (by omega) (by omega)
  · unfold mg_eat
    simp (disch := omega) only [ms_ne]
    rw [e0]; exact a4
  · unfold mg_eat
    simp (disch := omega) only [ms_ne]
    rw [e9]; exact hp.2
theorem mi_left2 {K : Int} {R : mr_R} (hi : mi K R) {w : Int} (a3 : 0 ≤ w) (a4 : w < R 0) (hk : K + 1 ≤ 1000000) : mi (K + 1) (mg_left R w) := by
  have hc := hi.c
  have hw := hi.w a3 a4
  have hi2 := mi_mono hi (K2 := K + 1) (by omega) hk
  have h1 := mi_turn hi2 (v := (R (9 + 10 * w + 3) + R (9 + 10 * w + 1)) % R (9 + 10 * w + 0)) a3 a4 (Int.emod_nonneg _ (by omega)) (Int.emod_lt_of_pos _ (by omega))
  exact mi_left h1 a3 (by simp (disch := omega) only [ms_ne]; exact a4) (by omega) (by omega)
theorem mi_turn2 {K : Int} {R : mr_R} (hi : mi K R) {w k : Int} (a3 : 0 ≤ w) (a4 : w < R 0) : mi K (mg_turn R w k) := by
  have hw := hi.w a3 a4
  exact mi_turn hi a3 a4 (Int.emod_nonneg _ (by omega)) (Int.emod_lt_of_pos _ (by omega))
theorem mi_leave {K : Int} {R : mr_R} (hi : mi K R) {w : Int} (a3 : 0 ≤ w) (a4 : w < R 0) (hk : K + 1 ≤ 1000000) : mi (K + 1) (mg_leave R w) := by
  unfold mg_leave
  split
  · exact mi_left2 hi a3 a4 hk
  · exact mi_mono hi (by omega) hk
theorem mi_count {K : Int} {R : mr_R} (hi : mi K R) {f : Int} (a1 : 0 ≤ f) (a2 : f < R 2) (hk : K + 1 ≤ 1000000) : mi (K + 1) (mg_count R f) := by
  have hc := hi.c
  have hf := hi.f a1 a2
  have hi2 := mi_mono hi (K2 := K + 1) (by omega) hk
  have h1 := mi_ctr (k := 3) (v := R 3 + 1) hi2 (by omega) (by omega) (by omega) (by omega)
  have h2 := mi_lat h1 (v := f + 1) (by omega) (by simp (disch := omega) only [ms_ne]; omega)
  have h3 := mi_made h2 (f := f) (v := R (71 + 5 * f + 4) + 1) a1 (by simp (disch := omega) only [ms_ne]; omega) (by omega) (by omega)
  exact mi_ctr (k := 6) (v := R 6 + 1) h3 (by omega) (by omega) (by omega) (by omega)
theorem mi_flyc {K : Int} {R : mr_R} (hi : mi K R) {w p : Int} (a1 : 0 ≤ w) (a2 : w < R 0) (a3 : 0 ≤ p) (a4 : p < R (9 + 10 * w + 0)) (hk : K + 1 ≤ 1000000) : mi (K + 1) (mg_fly R w p) := by
  have hc := hi.c
  have hw := hi.w a1 a2
  have hy := hi.y (w := w) (k := p) a1 a2 (by omega) (by omega)
  have hi2 := mi_mono hi (K2 := K + 1) (by omega) hk
  unfold mg_fly
  split
  · split
    · exact mi_fly hi2 a1 a2 a3 a4 (by omega) (by omega)
    · exact mi_ctr hi2 (by omega) (by omega) (by omega) (by omega)
  · rename_i q
    obtain ⟨b1, b2, -, -⟩ := mf_on_at hi q
    exact mi_eat hi b1 b2 (by omega) hk
theorem mi_comes {K : Int} {R : mr_R} (hi : mi K R) (h0 : 0 < R 0) (hk : K + 1 ≤ 1000000) : mi (K + 1) (mg_comes R) := by
  have b1 : 0 ≤ R 3 % R 0 := Int.emod_nonneg _ (by omega)
  have b2 : R 3 % R 0 < R 0 := Int.emod_lt_of_pos _ (by omega)
  have hw := hi.w b1 b2
  have hp := mf_pad_bd (R := R) (w := R 3 % R 0) (R 3 % R (9 + 10 * (R 3 % R 0) + 0)) (by omega)
  exact mi_flyc hi b1 b2 hp.1 hp.2 hk
theorem mg_seat_of {R : mr_R} {f w p i : Int} (h : i ≠ 71 + 5 * f + 1) (h2 : i ≠ 71 + 5 * f + 2) : mg_seat R f w p i = R i := by
  unfold mg_seat
  simp (disch := omega) only [ms_ne]
theorem mg_eat_of {R : mr_R} {f n i : Int} (h : i ≠ 4) (h2 : i ≠ 71 + 5 * f + 3) : mg_eat R f n i = R i := by
  unfold mg_eat
  simp (disch := omega) only [ms_ne]
theorem mg_sit_of {R : mr_R} {f w p i : Int} (h : i ≠ 71 + 5 * f + 1) (h2 : i ≠ 71 + 5 * f + 2) (h3 : i ≠ 71 + 5 * f + 3) (h4 : i ≠ 4) (h5 : i ≠ 9 + 10 * w + 5 + mf_pad R w p) : mg_sit R f w p i = R i := by
  unfold mg_sit
  rw [ms_ne h5, mg_eat_of h4 h3, mg_seat_of h h2]
theorem mg_left_of {R : mr_R} {w i : Int} (h : i ≠ 9 + 10 * w + 3) (h2 : i ≠ 9 + 10 * w + 4) : mg_left R w i = R i := by
  unfold mg_left mg_turn
  simp (disch := omega) only [ms_ne]
theorem mg_leave_of {R : mr_R} {w i : Int} (h : i ≠ 9 + 10 * w + 3) (h2 : i ≠ 9 + 10 * w + 4) : mg_leave R w i = R i := by
  unfold mg_leave
  split
  · exact mg_left_of h h2
  · rfl
theorem mg_count_of {R : mr_R} {f i : Int} (h : i ≠ 3) (h1 : i ≠ 6) (h2 : i ≠ 7) (h3 : i ≠ 71 + 5 * f + 4) : mg_count R f i = R i := by
  unfold mg_count
  simp (disch := omega) only [ms_ne]
/-- the far end of a line, seen from a frog that can leap -/
theorem mf_end {K : Int} {R : mr_R} (hi : mi K R) {f l : Int} (h3 : 0 ≤ l) (h4 : l < R 1) (q : mf_away R f l ≠ -1) : (0 ≤ R (39 + 4 * l + 2 * mf_away R f l) ∧ R (39 + 4 * l + 2 * mf_away R f l) < R 0) ∧ (0 ≤ R (39 + 4 * l + 2 * mf_away R f l + 1) ∧ R (39 + 4 * l + 2 * mf_away R f l + 1) < R (9 + 10 * R (39 + 4 * l + 2 * mf_away R f l) + 0)) ∧ R (39 + 4 * l + 2 * mf_away R f l) ≠ R (71 + 5 * f + 1) := by
  have hl := hi.l h3 h4
  have hm : (mf_away R f l = 1 ∧ R (39 + 4 * l + 0) = R (71 + 5 * f + 1)) ∨ (mf_away R f l = 0 ∧ R (39 + 4 * l + 2) = R (71 + 5 * f + 1)) := by
    unfold mf_away at q ⊢
    split
    · rename_i b; exact Or.inl ⟨rfl, b.1⟩
    · rename_i b
      rw [if_neg b] at q
      split
      · rename_i b2; exact Or.inr ⟨rfl, b2.1⟩
      · rename_i b2; rw [if_neg b2] at q; exact absurd rfl q
  rcases hm with ⟨e, e2⟩ | ⟨e, e2⟩
  · rw [e, show (39 + 4 * l + 2 * 1 : Int) = 39 + 4 * l + 2 by omega, show (39 + 4 * l + 2 + 1 : Int) = 39 + 4 * l + 3 by omega]
    omega
  · rw [e, show (39 + 4 * l + 2 * 0 : Int) = 39 + 4 * l + 0 by omega, show (39 + 4 * l + 0 + 1 : Int) = 39 + 4 * l + 1 by omega]
    omega
theorem mf_why_0 {R : mr_R} {f l : Int} (h : mf_why R f l = 0) : mf_away R f l ≠ -1 ∧ mf_later R f (R (39 + 4 * l + 2 * mf_away R f l)) (R (39 + 4 * l + 2 * mf_away R f l + 1)) = 0 := by
  unfold mf_why at h
  split at h
  · omega
  · rename_i q; exact ⟨q, h⟩
theorem mf_later_0 {R : mr_R} {f w p : Int} (h : mf_later R f w p = 0) : mf_on R w (mf_pad R w p) = -1 := by
  unfold mf_later at h
  split at h
  · assumption
  · omega
theorem mi_jump1 {K : Int} {R : mr_R} (hi : mi K R) {f l : Int} (a1 : 0 ≤ f) (a2 : f < R 2) (h3 : 0 ≤ l) (h4 : l < R 1) (q : mf_why R f l = 0) (hk : K + 10 ≤ 1000000) : mi (K + 9) (mg_sit R f (R (39 + 4 * l + 2 * mf_away R f l)) (R (39 + 4 * l + 2 * mf_away R f l + 1))) := by
  obtain ⟨q1, q2⟩ := mf_why_0 q
  have he := mf_end hi h3 h4 q1
  exact mi_sit hi a1 a2 he.1.1 he.1.2 (mf_later_0 q2) (by omega)
theorem mg_sit_0 {K : Int} {R : mr_R} (hi : mi K R) {f w p : Int} (a1 : 0 ≤ f) (a2 : f < R 2) (a3 : 0 ≤ w) (a4 : w < R 0) : mg_sit R f w p 0 = R 0 ∧ mg_sit R f w p 2 = R 2 := by
  have hw := hi.w a3 a4
  have hp := mf_pad_bd (R := R) (w := w) p (by omega)
  exact ⟨mg_sit_of (by omega) (by omega) (by omega) (by omega) (by omega), mg_sit_of (by omega) (by omega) (by omega) (by omega) (by omega)⟩
theorem mi_jump {K : Int} {R : mr_R} (hi : mi K R) {f l : Int} (a1 : 0 ≤ f) (a2 : f < R 2) (h3 : 0 ≤ l) (h4 : l < R 1) (q : mf_why R f l = 0) (hk : K + 10 ≤ 1000000) : mi (K + 10) (mg_jump R f l) := by
  have he := mf_end hi h3 h4 (mf_why_0 q).1
  have h1 := mi_jump1 hi a1 a2 h3 h4 q hk
  have hf := hi.f a1 a2
  have e0 := mg_sit_0 hi a1 a2 he.1.1 he.1.2 (p := R (39 + 4 * l + 2 * mf_away R f l + 1))
  unfold mg_jump
  have h2 := mi_leave h1 (w := R (71 + 5 * f + 1)) (by omega) (by omega) (by omega)
  exact mi_mono h2 (by omega) hk
theorem mi_step {K : Int} {R : mr_R} (hi : mi K R) {f s : Int} (a1 : 0 ≤ f) (a2 : f < R 2) (q : mf_hwhy R f s = 0) (hk : K + 9 ≤ 1000000) : mi (K + 9) (mg_step R f s) := by
  have hf := hi.f a1 a2
  exact mi_sit hi a1 a2 (by omega) (by omega) (mf_later_0 q) hk
theorem mi_behind {K : Int} {R : mr_R} (hi : mi K R) {f : Int} (a1 : 0 ≤ f) (a2 : f < R 2) (hk : K + 2 ≤ 1000000) : mi (K + 2) (mg_behind R f) := by
  have hc := hi.c
  have hf := hi.f a1 a2
  have h1 := mi_count hi a1 a2 (by omega)
  have e0 : (mg_count R f) 0 = R 0 := mg_count_of (by omega) (by omega) (by omega) (by omega)
  exact mi_mono (mi_comes h1 (by rw [e0]; omega) (by omega)) (by omega) hk
theorem mg_jump_0 {K : Int} {R : mr_R} (hi : mi K R) {f l : Int} (a1 : 0 ≤ f) (a2 : f < R 2) (h3 : 0 ≤ l) (h4 : l < R 1) (q : mf_why R f l = 0) : mg_jump R f l 0 = R 0 ∧ mg_jump R f l 2 = R 2 := by
  have hc := hi.c
  have hf := hi.f a1 a2
  have he := mf_end hi h3 h4 (mf_why_0 q).1
  have e0 := mg_sit_0 hi a1 a2 he.1.1 he.1.2 (p := R (39 + 4 * l + 2 * mf_away R f l + 1))
  unfold mg_jump
  rw [mg_leave_of (by omega) (by omega), mg_leave_of (by omega) (by omega)]
  exact e0
theorem mi_leap {K : Int} {R : mr_R} (hi : mi K R) {f l : Int} (a1 : 0 ≤ f) (a2 : f < R 2) (h3 : 0 ≤ l) (h4 : l < R 1) (hk : K + 20 ≤ 1000000) : mi (K + 20) (mg_leap R f l) := by
  unfold mg_leap
  split
  · rename_i q
    have e := mg_jump_0 hi a1 a2 h3 h4 q
    exact mi_mono (mi_behind (mi_jump hi a1 a2 h3 h4 q (by omega)) a1 (by omega) (by omega)) (by omega) hk
  · exact mi_mono hi (by omega) hk
theorem mi_hop {K : Int} {R : mr_R} (hi : mi K R) {f s : Int} (a1 : 0 ≤ f) (a2 : f < R 2) (hk : K + 20 ≤ 1000000) : mi (K + 20) (mg_hop R f s) := by
  have hf := hi.f a1 a2
  unfold mg_hop
  split
  · rename_i q
    have e := mg_sit_0 hi a1 a2 (w := R (71 + 5 * f + 1)) (by omega) (by omega) (p := (mf_place R f + s) % R (9 + 10 * R (71 + 5 * f + 1) + 0))
    exact mi_mono (mi_behind (mi_step hi a1 a2 q (by omega)) a1 (by unfold mg_step; omega) (by omega)) (by omega) hk
  · exact mi_mono hi (by omega) hk

