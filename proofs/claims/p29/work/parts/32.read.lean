/-! What a row keeps, and what the model reads off it. -/
def mi_C (K : Int) (R : mr_R) : Prop := (0 ≤ R 0 ∧ R 0 ≤ 3) ∧ (0 ≤ R 1 ∧ R 1 ≤ 8) ∧ (0 ≤ R 2 ∧ R 2 ≤ 5) ∧ (0 ≤ R 3 ∧ R 3 ≤ K) ∧ (0 ≤ R 4 ∧ R 4 ≤ K) ∧ (0 ≤ R 5 ∧ R 5 ≤ K) ∧ (0 ≤ R 6 ∧ R 6 ≤ K) ∧ (0 ≤ R 7 ∧ R 7 ≤ R 2) ∧ (0 ≤ R 8 ∧ R 8 ≤ 1)
def mi_W (K : Int) (R : mr_R) : Prop := ∀ w : Int, 0 ≤ w → w < R 0 → (3 ≤ R (9 + 10 * w + 0) ∧ R (9 + 10 * w + 0) ≤ 5) ∧ (-4 ≤ R (9 + 10 * w + 1) ∧ R (9 + 10 * w + 1) ≤ 4) ∧ (0 ≤ R (9 + 10 * w + 2) ∧ R (9 + 10 * w + 2) ≤ 30) ∧ (0 ≤ R (9 + 10 * w + 3) ∧ R (9 + 10 * w + 3) < R (9 + 10 * w + 0)) ∧ (0 ≤ R (9 + 10 * w + 4) ∧ R (9 + 10 * w + 4) ≤ K)
def mi_Y (R : mr_R) : Prop := ∀ w k : Int, 0 ≤ w → w < R 0 → 0 ≤ k → k < 5 → 0 ≤ R (9 + 10 * w + 5 + k) ∧ R (9 + 10 * w + 5 + k) ≤ 9 ∧ (R (9 + 10 * w + 0) ≤ k → R (9 + 10 * w + 5 + k) = 0)
def mi_L (R : mr_R) : Prop := ∀ l : Int, 0 ≤ l → l < R 1 → (0 ≤ R (39 + 4 * l + 0) ∧ R (39 + 4 * l + 0) < R 0) ∧ (0 ≤ R (39 + 4 * l + 1) ∧ R (39 + 4 * l + 1) < R (9 + 10 * R (39 + 4 * l + 0) + 0)) ∧ (0 ≤ R (39 + 4 * l + 2) ∧ R (39 + 4 * l + 2) < R 0) ∧ (0 ≤ R (39 + 4 * l + 3) ∧ R (39 + 4 * l + 3) < R (9 + 10 * R (39 + 4 * l + 2) + 0)) ∧ R (39 + 4 * l + 0) ≠ R (39 + 4 * l + 2)
def mi_F (K : Int) (R : mr_R) : Prop := ∀ f : Int, 0 ≤ f → f < R 2 → (1 ≤ R (71 + 5 * f + 0) ∧ R (71 + 5 * f + 0) ≤ 9) ∧ (0 ≤ R (71 + 5 * f + 1) ∧ R (71 + 5 * f + 1) < R 0) ∧ (0 ≤ R (71 + 5 * f + 2) ∧ R (71 + 5 * f + 2) < R (9 + 10 * R (71 + 5 * f + 1) + 0)) ∧ (0 ≤ R (71 + 5 * f + 3) ∧ R (71 + 5 * f + 3) ≤ K) ∧ (0 ≤ R (71 + 5 * f + 4) ∧ R (71 + 5 * f + 4) ≤ K)
def mi_D (R : mr_R) : Prop := ∀ f g : Int, 0 ≤ f → f < R 2 → 0 ≤ g → g < R 2 → R (71 + 5 * f + 1) = R (71 + 5 * g + 1) → R (71 + 5 * f + 2) = R (71 + 5 * g + 2) → f = g
/-- nothing stands outside the row -/
def mi_Z (R : mr_R) : Prop := ∀ i : Int, i < 0 ∨ 96 ≤ i → R i = 0
def mi (K : Int) (R : mr_R) : Prop := (K ≤ 1000000 ∧ mi_C K R) ∧ mi_W K R ∧ mi_Y R ∧ mi_L R ∧ mi_F K R ∧ mi_D R ∧ mi_Z R
theorem mi.k {K : Int} {R : mr_R} (h : mi K R) : K ≤ 1000000 := h.1.1
theorem mi.c {K : Int} {R : mr_R} (h : mi K R) : (0 ≤ R 0 ∧ R 0 ≤ 3) ∧ (0 ≤ R 1 ∧ R 1 ≤ 8) ∧ (0 ≤ R 2 ∧ R 2 ≤ 5) ∧ (0 ≤ R 3 ∧ R 3 ≤ K) ∧ (0 ≤ R 4 ∧ R 4 ≤ K) ∧ (0 ≤ R 5 ∧ R 5 ≤ K) ∧ (0 ≤ R 6 ∧ R 6 ≤ K) ∧ (0 ≤ R 7 ∧ R 7 ≤ R 2) ∧ (0 ≤ R 8 ∧ R 8 ≤ 1) := h.1.2
theorem mi.w {K : Int} {R : mr_R} (h : mi K R) {w : Int} (h1 : 0 ≤ w) (h2 : w < R 0) : (3 ≤ R (9 + 10 * w + 0) ∧ R (9 + 10 * w + 0) ≤ 5) ∧ (-4 ≤ R (9 + 10 * w + 1) ∧ R (9 + 10 * w + 1) ≤ 4) ∧ (0 ≤ R (9 + 10 * w + 2) ∧ R (9 + 10 * w + 2) ≤ 30) ∧ (0 ≤ R (9 + 10 * w + 3) ∧ R (9 + 10 * w + 3) < R (9 + 10 * w + 0)) ∧ (0 ≤ R (9 + 10 * w + 4) ∧ R (9 + 10 * w + 4) ≤ K) := h.2.1 w h1 h2
theorem mi.y {K : Int} {R : mr_R} (h : mi K R) {w k : Int} (h1 : 0 ≤ w) (h2 : w < R 0) (h3 : 0 ≤ k) (h4 : k < 5) : 0 ≤ R (9 + 10 * w + 5 + k) ∧ R (9 + 10 * w + 5 + k) ≤ 9 ∧ (R (9 + 10 * w + 0) ≤ k → R (9 + 10 * w + 5 + k) = 0) := h.2.2.1 w k h1 h2 h3 h4
theorem mi.l {K : Int} {R : mr_R} (h : mi K R) {l : Int} (h1 : 0 ≤ l) (h2 : l < R 1) : (0 ≤ R (39 + 4 * l + 0) ∧ R (39 + 4 * l + 0) < R 0) ∧ (0 ≤ R (39 + 4 * l + 1) ∧ R (39 + 4 * l + 1) < R (9 + 10 * R (39 + 4 * l + 0) + 0)) ∧ (0 ≤ R (39 + 4 * l + 2) ∧ R (39 + 4 * l + 2) < R 0) ∧ (0 ≤ R (39 + 4 * l + 3) ∧ R (39 + 4 * l + 3) < R (9 + 10 * R (39 + 4 * l + 2) + 0)) ∧ R (39 + 4 * l + 0) ≠ R (39 + 4 * l + 2) := h.2.2.2.1 l h1 h2
theorem mi.f {K : Int} {R : mr_R} (h : mi K R) {f : Int} (h1 : 0 ≤ f) (h2 : f < R 2) : (1 ≤ R (71 + 5 * f + 0) ∧ R (71 + 5 * f + 0) ≤ 9) ∧ (0 ≤ R (71 + 5 * f + 1) ∧ R (71 + 5 * f + 1) < R 0) ∧ (0 ≤ R (71 + 5 * f + 2) ∧ R (71 + 5 * f + 2) < R (9 + 10 * R (71 + 5 * f + 1) + 0)) ∧ (0 ≤ R (71 + 5 * f + 3) ∧ R (71 + 5 * f + 3) ≤ K) ∧ (0 ≤ R (71 + 5 * f + 4) ∧ R (71 + 5 * f + 4) ≤ K) := h.2.2.2.2.1 f h1 h2
theorem mi.d {K : Int} {R : mr_R} (h : mi K R) {f g : Int} (h1 : 0 ≤ f) (h2 : f < R 2) (h3 : 0 ≤ g) (h4 : g < R 2) (h5 : R (71 + 5 * f + 1) = R (71 + 5 * g + 1)) (h6 : R (71 + 5 * f + 2) = R (71 + 5 * g + 2)) : f = g := h.2.2.2.2.2.1 f g h1 h2 h3 h4 h5 h6
theorem mi.z {K : Int} {R : mr_R} (h : mi K R) {i : Int} (h1 : i < 0 ∨ 96 ≤ i) : R i = 0 := h.2.2.2.2.2.2 i h1
/-- the frog on a pad, from a frog on -/
def mf_onF (R : mr_R) (w pad : Int) : Nat → Int → Int
  | 0, _ => -1
  | n + 1, f => if R (71 + 5 * f + 1) = w ∧ R (71 + 5 * f + 2) = pad then f else mf_onF R w pad n (f + 1)
def mf_on (R : mr_R) (w pad : Int) : Int := mf_onF R w pad (R 2).toNat 0
def mf_wtF (R : mr_R) (w : Int) : Nat → Int → Int → Int
  | 0, _, s => s
  | n + 1, f, s => mf_wtF R w n (f + 1) (s + if R (71 + 5 * f + 1) = w then R (71 + 5 * f + 0) else 0)
def mf_wt (R : mr_R) (w : Int) : Int := mf_wtF R w (R 2).toNat 0 0
def mf_fly (R : mr_R) (w : Int) : Int := 0 + R (9 + 10 * w + 5) + R (9 + 10 * w + 6) + R (9 + 10 * w + 7) + R (9 + 10 * w + 8) + R (9 + 10 * w + 9)
def mf_away (R : mr_R) (f l : Int) : Int := if R (39 + 4 * l + 0) = R (71 + 5 * f + 1) ∧ R (39 + 4 * l + 1) = mf_place R f then 1 else if R (39 + 4 * l + 2) = R (71 + 5 * f + 1) ∧ R (39 + 4 * l + 3) = mf_place R f then 0 else -1
def mf_later (R : mr_R) (f w p : Int) : Int := if mf_on R w (mf_pad R w p) = -1 then (if R 8 = 1 ∧ R 7 = f + 1 then 3 else 0) else 2
def mf_why (R : mr_R) (f l : Int) : Int := if mf_away R f l = -1 then 1 else mf_later R f (R (39 + 4 * l + 2 * mf_away R f l)) (R (39 + 4 * l + 2 * mf_away R f l + 1))
def mf_hwhy (R : mr_R) (f s : Int) : Int := mf_later R f (R (71 + 5 * f + 1)) ((mf_place R f + s) % R (9 + 10 * R (71 + 5 * f + 1) + 0))
theorem mf_onF_bd {R : mr_R} {w pad : Int} : ∀ (n : Nat) (f : Int), 0 ≤ f → -1 ≤ mf_onF R w pad n f ∧ mf_onF R w pad n f < f + n := by
  intro n
  induction n with
  | zero => intro f h; simp only [mf_onF]; omega
  | succ n ih =>
    intro f h
    simp only [mf_onF]
    have := ih (f + 1) (by omega)
    split <;> omega
theorem mf_onF_no {R : mr_R} {w pad : Int} : ∀ (n : Nat) (f : Int), 0 ≤ f → (mf_onF R w pad n f = -1 ↔ ∀ g : Int, f ≤ g → g < f + n → ¬ (R (71 + 5 * g + 1) = w ∧ R (71 + 5 * g + 2) = pad)) := by
  intro n
  induction n with
  | zero => intro f h; unfold mf_onF; exact ⟨fun _ g h1 h2 => by omega, fun _ => rfl⟩
  | succ n ih =>
    intro f h
    simp only [mf_onF]
    split
    · rename_i q
      exact ⟨fun e => by omega, fun k => absurd q (k f (by omega) (by omega))⟩
    · rename_i q
      rw [ih (f + 1) (by omega)]
      constructor
      · intro k g h1 h2
        by_cases e : g = f
        · subst e; exact q
        · exact k g (by omega) (by omega)
      · intro k g h1 h2
        exact k g (by omega) (by omega)
theorem mf_onF_at {R : mr_R} {w pad : Int} : ∀ (n : Nat) (f : Int), 0 ≤ f → mf_onF R w pad n f ≠ -1 → f ≤ mf_onF R w pad n f ∧ R (71 + 5 * mf_onF R w pad n f + 1) = w ∧ R (71 + 5 * mf_onF R w pad n f + 2) = pad := by
  intro n
  induction n with
  | zero => intro f h q; exact absurd rfl q
  | succ n ih =>
    intro f h
    simp only [mf_onF]
    split
    · rename_i q
      intro _
      exact ⟨by omega, q⟩
    · intro q
      obtain ⟨h1, h2⟩ := ih (f + 1) (by omega) q
      exact ⟨by omega, h2⟩
theorem mf_on_bd {K : Int} {R : mr_R} (hi : mi K R) (w pad : Int) : -1 ≤ mf_on R w pad ∧ mf_on R w pad < R 2 := by
  have hc := hi.c
  have := mf_onF_bd (R := R) (w := w) (pad := pad) (R 2).toNat 0 (by omega)
  unfold mf_on
  omega
theorem mf_on_no {K : Int} {R : mr_R} (hi : mi K R) {w pad : Int} : mf_on R w pad = -1 ↔ ∀ g : Int, 0 ≤ g → g < R 2 → ¬ (R (71 + 5 * g + 1) = w ∧ R (71 + 5 * g + 2) = pad) := by
  have hc := hi.c
  unfold mf_on
  rw [mf_onF_no _ _ (by omega)]
  exact ⟨fun k g h1 h2 => k g h1 (by omega), fun k g h1 h2 => k g h1 (by omega)⟩
theorem mf_on_at {K : Int} {R : mr_R} (hi : mi K R) {w pad : Int} (h : mf_on R w pad ≠ -1) : 0 ≤ mf_on R w pad ∧ mf_on R w pad < R 2 ∧ R (71 + 5 * mf_on R w pad + 1) = w ∧ R (71 + 5 * mf_on R w pad + 2) = pad := by
  have h1 := mf_onF_at (R := R) (w := w) (pad := pad) (R 2).toNat 0 (by omega) h
  exact ⟨h1.1, (mf_on_bd hi w pad).2, h1.2⟩
/-- a frog found on its own pad -/
theorem mf_on_own {K : Int} {R : mr_R} (hi : mi K R) {f : Int} (h1 : 0 ≤ f) (h2 : f < R 2) : mf_on R (R (71 + 5 * f + 1)) (R (71 + 5 * f + 2)) = f := by
  have q : mf_on R (R (71 + 5 * f + 1)) (R (71 + 5 * f + 2)) ≠ -1 := fun e => (mf_on_no hi).mp e f h1 h2 ⟨rfl, rfl⟩
  obtain ⟨a1, a2, a3, a4⟩ := mf_on_at hi q
  exact hi.d a1 a2 h1 h2 a3 a4
theorem mf_wtF_bd {K : Int} {R : mr_R} (hi : mi K R) {w : Int} : ∀ (n : Nat) (f s : Int), 0 ≤ f → f + n = R 2 → 0 ≤ s → s ≤ 9 * f → 0 ≤ mf_wtF R w n f s ∧ mf_wtF R w n f s ≤ 45 := by
  have hc := hi.c
  intro n
  induction n with
  | zero => intro f s h1 h2 h3 h4; simp only [mf_wtF]; omega
  | succ n ih =>
    intro f s h1 h2 h3 h4
    simp only [mf_wtF]
    have hf := hi.f h1 (by omega)
    exact ih (f + 1) _ (by omega) (by omega) (by split <;> omega) (by split <;> omega)
theorem mf_wt_bd {K : Int} {R : mr_R} (hi : mi K R) (w : Int) : 0 ≤ mf_wt R w ∧ mf_wt R w ≤ 45 := by
  have hc := hi.c
  exact mf_wtF_bd hi _ _ _ (by omega) (by omega) (by omega) (by omega)
theorem mf_pad_bd {R : mr_R} {w : Int} (p : Int) (h : 0 < R (9 + 10 * w + 0)) : 0 ≤ mf_pad R w p ∧ mf_pad R w p < R (9 + 10 * w + 0) := ⟨Int.emod_nonneg _ (by omega), Int.emod_lt_of_pos _ h⟩
theorem mf_place_bd {K : Int} {R : mr_R} (hi : mi K R) {f : Int} (h1 : 0 ≤ f) (h2 : f < R 2) : 0 ≤ mf_place R f ∧ mf_place R f < R (9 + 10 * R (71 + 5 * f + 1) + 0) := by
  have hf := hi.f h1 h2
  have hw := hi.w (w := R (71 + 5 * f + 1)) (by omega) (by omega)
  exact ⟨Int.emod_nonneg _ (by omega), Int.emod_lt_of_pos _ (by omega)⟩
theorem mf_away_or (R : mr_R) (f l : Int) : mf_away R f l = -1 ∨ mf_away R f l = 0 ∨ mf_away R f l = 1 := by
  unfold mf_away
  split
  · omega
  · split <;> omega
theorem mf_later_bd (R : mr_R) (f w p : Int) : 0 ≤ mf_later R f w p ∧ mf_later R f w p ≤ 3 := by
  unfold mf_later
  split
  · split <;> omega
  · omega
theorem mf_why_bd (R : mr_R) (f l : Int) : 0 ≤ mf_why R f l ∧ mf_why R f l ≤ 3 := by
  unfold mf_why
  split
  · omega
  · exact mf_later_bd _ _ _ _
