/-! What a row keeps, and what the model reads off it. -/
def mi_C (K : Int) (R : mr_R) : Prop := (0 ≤ R 0 ∧ R 0 ≤ 3) ∧ (0 ≤ R 1 ∧ R 1 ≤ 8) ∧ (0 ≤ R 2 ∧ R 2 ≤ 5) ∧ (0 ≤ R 3 ∧ R 3 ≤ K) ∧ (0 ≤ R 4 ∧ R 4 ≤ K) ∧ (0 ≤ R 5 ∧ R 5 ≤ K) ∧ (0 ≤ R 6 ∧ R 6 ≤ K) ∧ (0 ≤ R 7 ∧ R 7 ≤ R 2) ∧ (0 ≤ R 8 ∧ R 8 ≤ 1)
def mi_W (K : Int) (R : mr_R) : Prop := ∀ w : Int, 0 ≤ w → w < R 0 → (3 ≤ R (9 + 10 * w + 0) ∧ R (9 + 10 * w + 0) ≤ 5) ∧ (-4 ≤ R (9 + 10 * w + 1) ∧ R (9 + 10 * w + 1) ≤ 4) ∧ (0 ≤ R (9 + 10 * w + 2) ∧ R (9 + 10 * w + 2) ≤ 30) ∧ (0 ≤ R (9 + 10 * w + 3) ∧ R (9 + 10 * w + 3) < R (9 + 10 * w + 0)) ∧ (0 ≤ R (9 + 10 * w + 4) ∧ R (9 + 10 * w + 4) ≤ K)
def mi_Y (R : mr_R) : Prop := ∀ w k : Int, 0 ≤ w → w < R 0 → 0 ≤ k → k < 5 → 0 ≤ R (9 + 10 * w + 5 + k) ∧ R (9 + 10 * w + 5 + k) ≤ 9 ∧ (R (9 + 10 * w + 0) ≤ k → R (9 + 10 * w + 5 + k) = 0)
def mi_L (R : mr_R) : Prop := ∀ l : Int, 0 ≤ l → l < R 1 → (0 ≤ R (39 + 4 * l + 0) ∧ R (39 + 4 * l + 0) < R 0) ∧ (0 ≤ R (39 + 4 * l + 1) ∧ R (39 + 4 * l + 1) < R (9 + 10 * R (39 + 4 * l + 0) + 0)) ∧ (0 ≤ R (39 + 4 * l + 2) ∧ R (39 + 4 * l + 2) < R 0) ∧ (0 ≤ R (39 + 4 * l + 3) ∧ R (39 + 4 * l + 3) < R (9 + 10 * R (39 + 4 * l + 2) + 0)) ∧ R (39 + 4 * l + 0) ≠ R (39 + 4 * l + 2)
def mi_F (K : Int) (R : mr_R) : Prop := ∀ f : Int, 0 ≤ f → f < R 2 → (1 ≤ R (71 + 5 * f + 0) ∧ R (71 + 5 * f + 0) ≤ 9) ∧ (0 ≤ R (71 + 5 * f + 1) ∧ R (71 + 5 * f + 1) < R 0) ∧ (0 ≤ R (71 + 5 * f + 2) ∧ R (71 + 5 * f + 2) < R (9 + 10 * R (71 + 5 * f + 1) + 0)) ∧ (0 ≤ R (71 + 5 * f + 3) ∧ R (71 + 5 * f + 3) ≤ K) ∧ (0 ≤ R (71 + 5 * f + 4) ∧ R (71 + 5 * f + 4) ≤ K)
def mi_D (R : mr_R) : Prop := ∀ f g : Int, 0 ≤ f → f < R 2 → 0 ≤ g → g < R 2 → R (71 + 5 * f + 1) = R (71 + 5 * g + 1) → R (71 + 5 * f + 2) = R (71 + 5 * g + 2) → f = g
/-- nothing stands outside the row -/
def mi_Z (R : mr_R) : Prop := ∀ i : Int, i < 0 ∨ 96 ≤ i → R i = 0
def mi (K : Int) (R : mr_R) : Prop := (K ≤ 1000000 ∧ mi_C K R) ∧ mi_W K R ∧ mi_Y R ∧ mi_L R ∧ mi_F K R ∧ mi_D R ∧ mi_Z R
theorem mi.k {K : Int} {R : mr_R} (h : mi K R) : K ≤ 1000000 := h.1.1
theorem mi.c {K : Int} {R : mr_R} (h : mi K R) : (0 ≤ R 0 ∧ R 0 ≤ 3) ∧ (0 ≤ R 1 ∧ R 1 ≤ 8) ∧ (0 ≤ R 2 ∧ R 2 ≤ 5) ∧ (0 ≤ R 3 ∧ R 3 ≤ K) ∧ (0 ≤ R 4 ∧ R 4 ≤ K) ∧ (0 ≤ R 5 ∧ R 5 ≤ K) ∧ (0 ≤ R 6 ∧ R 6 ≤ K) ∧ (0 ≤ R 7 ∧ R 7 ≤ R 2) ∧ (0 ≤ R 8 ∧ R 8 ≤ 1) := h.1.2
theorem mi.w {K : Int} {R : mr_R} (h : mi K R) {w : Int} (h1 : 0 ≤ w) (h2 : w < R 0) : (3 ≤ R (9 + 10 * w + 0) ∧ R (9 + 10 * w + 0) ≤ 5) ∧ (-4 ≤ R (9 + 10 * w + 1) ∧ R (9 + 10 * w + 1) ≤ 4) ∧ (0 ≤ R (9 + 10 * w + 2) ∧ R (9 + 10 * w + 2) ≤ 30) ∧ (0 ≤ R (9 + 10 * w + 3) ∧ R (9 + 10 * w + 3) < R (9 + 10 * w + 0)) ∧ (0 ≤ R (9 + 10 * w + 4) ∧ R (9 + 10 * w + 4) ≤ K) := h.2.1 w h1 h2
theorem mi.y {K : Int} {R : mr_R} (h : mi K R) {w k : Int} (h1 : 0 ≤ w) (h2 : w < R 0) (h3 : 0 ≤ k) (h4 : k < 5) : 0 ≤ R (9 + 10 * w + 5 + k) ∧ R (9 + 10 * w + 5 + k) ≤ 9 ∧ (R (9 + 10 * w + 0) ≤ k → R (9 + 10 * w + 5 + k) = 0) := h.2.2.1 w k h1 h2 h3 h4
theorem mi.l {K : Int} {R : mr_R} (h : mi K R) {l : Int} (h1 : 0 ≤ l) (h2 : l < R 1) : (0 ≤ R (39 + 4 * l + 0) ∧ R (39 + 4 * l + 0) < R 0) ∧ (0 ≤ R (39 + 4 * l + 1) ∧ R (39 + 4 * l + 1) < R (9 + 10 * R (39 + 4 * l + 0) + 0)) ∧ (0 ≤ R (39 + 4 * l + 2) ∧ R (39 + 4 * l + 2) < R 0) ∧ (0 ≤ R (39 + 4 * l + 3) ∧ R (39 + 4 * l + 3) < R (9 + 10 * R (39 + 4 * l + 2) + 0)) ∧ R (39 + 4 * l + 0) ≠ R (39 + 4 * l + 2) := h.2.2.2.1 l h1 h2
theorem mi.f {K : Int} {R : mr_R} (h : mi K R) {f : Int} (h1 : 0 ≤ f) (h2 : f < R 2) : (1 ≤ R (71 + 5 * f + 0) ∧ R (71 + 5 * f + 0) ≤ 9) ∧ (0 ≤ R (71 + 5 * f + 1) ∧ R (71 + 5 * f + 1) < R 0) ∧ (0 ≤ R (71 + 5 * f + 2) ∧ R (71 + 5 * f + 2) < R (9 + 10 * R (71 + 5 * f + 1) + 0)) ∧ (0 ≤ R (71 + 5 * f + 3) ∧ R (71 + 5 * f + 3) ≤ K) ∧ (0 ≤ R (71 + 5 * f + 4) ∧ R (71 + 5 * f + 4) ≤ K) := h.2.2.2.2.1 f h1 h2
theorem mi.d {K : Int} {R : mr_R} (h : mi K R) {f g : Int} (h1 : 0 ≤ f) (h2 : f < R 2) (h3 : 0 ≤ g) (h4 : g < R 2) (h5 : R (71 + 5 * f + 1) = R (71 + 5 * g + 1)) (h6 : R (71 + 5 * f + 2) = R (71 + 5 * g + 2)) : f = g := h.2.2.2.2.2.1 f g h1 h2 h3 h4 h5 h6
theorem mi.z {K : Int} {R : mr_R} (h : mi K R) {i : Int} (h1 : i < 0 ∨ 96 ≤ i) : R i = 0 := h.2.2.2.2.2.2 i h1
/-- the frog on a pad, from a frog on -/
def mf_onF (R : mr_R) (w pad : Int) : Nat → Int → Int
  | 0, _ => -1
  | n + 1, f => if R (71 + 5 * f + 1) = w ∧ R (71 + 5 * f + 2) = pad then f else mf_onF R w pad n (f + 1)
def mf_on (R : mr_R) (w pad : Int) : Int := mf_onF R w pad (R 2).toNat 0
def mf_wtF (R : mr_R) (w : Int) : Nat → Int → Int → Int
  | 0, _, s => s
  | n + 1, f, s => mf_wtF R w n (f + 1) (s + if R (71 + 5 * f + 1) = w then R (71 + 5 * f + 0) else 0)
def mf_wt (R : mr_R) (w : Int) : Int := mf_wtF R w (R 2).toNat 0 0
def mf_fly (R : mr_R) (w : Int) : Int := 0 + R (9 + 10 * w + 5) + R (9 + 10 * w + 6) + R (9 + 10 * w + 7) + R (9 + 10 * w + 8) + R (9 + 10 * w + 9)
def mf_away (R : mr_R) (f l : Int) : Int := if R (39 + 4 * l + 0) = R (71 + 5 * f + 1) ∧ R (39 + 4 * l + 1) = mf_place R f then 1 else if R (39 + 4 * l + 2) = R (71 + 5 * f + 1) ∧ R (39 + 4 * l + 3) = mf_place R f then 0 else -1
def mf_later (R : mr_R) (f w p : Int) : Int := if mf_on R w (mf_pad R w p) = -1 then (if R 8 = 1 ∧ R 7 = f + 1 then 3 else 0) else 2
def mf_why (R : mr_R) (f l : Int) : Int := if mf_away R f l = -1 then 1 else mf_later R f (R (39 + 4 * l + 2 * mf_away R f l)) (R (39 + 4 * l + 2 * mf_away R f l + 1))
def mf_hwhy (R : mr_R) (f s : Int) : Int := mf_later R f (R (71 + 5 * f + 1)) ((mf_place R f + s) % R (9 + 10 * R (71 + 5 * f + 1) + 0))
theorem mf_onF_bd {R : mr_R} {w pad : Int} : ∀ (n : Nat) (f : Int), 0 ≤ f → -1 ≤ mf_onF R w pad n f ∧ mf_onF R w pad n f < f + n := by
  intro n
  induction n with
  | zero => intro f h; simp only [mf_onF]; omega
  | succ n ih =>
    intro f h
    simp only [mf_onF]
    have := ih (f + 1) (by omega)
    split <;> omega
theorem mf_onF_no {R : mr_R} {w pad : Int} : ∀ (n : Nat) (f : Int), 0 ≤ f → (mf_onF R w pad n f = -1 ↔ ∀ g : Int, f ≤ g → g < f + n → ¬ (R (71 + 5 * g + 1) = w ∧ R (71 + 5 * g + 2) = pad)) := by
  intro n
  induction n with
  | zero => intro f h; unfold mf_onF; exact ⟨fun _ g h1 h2 => by omega, fun _ => rfl⟩
  | succ n ih =>
    intro f h
    simp only [mf_onF]
    split
    · rename_i q
      exact ⟨fun e => by omega, fun k => absurd q (k f (by omega) (by omega))⟩
    · rename_i q
      rw [ih (f + 1) (by omega)]
      constructor
      · intro k g h1 h2
        by_cases e : g = f
        · subst e; exact q
        · exact k g (by omega) (by omega)
      · intro k g h1 h2
        exact k g (by omega) (by omega)
theorem mf_onF_at {R : mr_R} {w pad : Int} : ∀ (n : Nat) (f : Int), 0 ≤ f → mf_onF R w pad n f ≠ -1 → f ≤ mf_onF R w pad n f ∧ R (71 + 5 * mf_onF R w pad n f + 1) = w ∧ R (71 + 5 * mf_onF R w pad n f + 2) = pad := by
  intro n
  induction n with
  | zero => intro f h q; exact absurd rfl q
  | succ n ih =>
    intro f h
    simp only [mf_onF]
    split
    · rename_i q
      intro _
      exact ⟨by omega, q⟩
    · intro q
      obtain ⟨h1, h2⟩ := ih (f + 1) (by omega) q
      exact ⟨by omega, h2⟩
theorem mf_on_bd {K : Int} {R : mr_R} (hi : mi K R) (w pad : Int) : -1 ≤ mf_on R w pad ∧ mf_on R w pad < R 2 := by
  have hc := hi.c
  have := mf_onF_bd (R := R) (w := w) (pad := pad) (R 2).toNat 0 (by omega)
  unfold mf_on
  omega
theorem mf_on_no {K : Int} {R : mr_R} (hi : mi K R) {w pad : Int} : mf_on R w pad = -1 ↔ ∀ g : Int, 0 ≤ g → g < R 2 → ¬ (R (71 + 5 * g + 1) = w ∧ R (71 + 5 * g + 2) = pad) := by
  have hc := hi.c
  unfold mf_on
  rw [mf_onF_no _ _ (by omega)]
  exact ⟨fun k g h1 h2 => k g h1 (by omega), fun k g h1 h2 => k g h1 (by omega)⟩
theorem mf_on_at {K : Int} {R : mr_R} (hi : mi K R) {w pad : Int} (h : mf_on R w pad ≠ -1) : 0 ≤ mf_on R w pad ∧ mf_on R w pad < R 2 ∧ R (71 + 5 * mf_on R w pad + 1) = w ∧ R (71 + 5 * mf_on R w pad + 2) = pad := by
  have h1 := mf_onF_at (R := R) (w := w) (pad := pad) (R 2).toNat 0 (by omega) h
  exact ⟨h1.1, (mf_on_bd hi w pad).2, h1.2⟩
/-- a frog found on its own pad -/
theorem mf_on_own {K : Int} {R : mr_R} (hi : mi K R) {f : Int} (h1 : 0 ≤ f) (h2 : f < R 2) : mf_on R (R (71 + 5 * f + 1)) (R (71 + 5 * f + 2)) = f := by
  have q : mf_on R (R (71 + 5 * f + 1)) (R (71 + 5 * f + 2)) ≠ -1 := fun e => (mf_on_no hi).mp e f h1 h2 ⟨rfl, rfl⟩
  obtain ⟨a1, a2, a3, a4⟩ := mf_on_at hi q
  exact hi.d a1 a2 h1 h2 a3 a4
theorem mf_wtF_bd {K : Int} {R : mr_R} (hi : mi K R) {w : Int} : ∀ (n : Nat) (f s : Int), 0 ≤ f → f + n = R 2 → 0 ≤ s → s ≤ 9 * f → 0 ≤ mf_wtF R w n f s ∧ mf_wtF R w n f s ≤ 45 := by
  have hc := hi.c
  intro n
  induction n with
  | zero => intro f s h1 h2 h3 h4; simp only [mf_wtF]; omega
  | succ n ih =>
    intro f s h1 h2 h3 h4
    simp only [mf_wtF]
    have hf := hi.f h1 (by omega)
    exact ih (f + 1) _ (by omega) (by omega) (by split <;> omega) (by split <;> omega)
theorem mf_wt_bd {K : Int} {R : mr_R} (hi : mi K R) (w : Int) : 0 ≤ mf_wt R w ∧ mf_wt R w ≤ 45 := by
  have hc := hi.c
  exact mf_wtF_bd hi _ _ _ (by omega) (by omega) (by omega) (by omega)
theorem mf_pad_bd {R : mr_R} {w : Int} (p : Int) (h : 0 < R (9 + 10 * w + 0)) : 0 ≤ mf_pad R w p ∧ mf_pad R w p < R (9 + 10 * w + 0) := ⟨Int.emod_nonneg _ (by omega), Int.emod_lt_of_pos _ h⟩
theorem mf_place_bd {K : Int} {R : mr_R} (hi : mi K R) {f : Int} (h1 : 0 ≤ f) (h2 : f < R 2) : 0 ≤ mf_place R f ∧ mf_place R f < R (9 + 10 * R (71 + 5 * f + 1) + 0) := by
  have hf := hi.f h1 h2
  have hw := hi.w (w := R (71 + 5 * f + 1)) (by omega) (by omega)
  exact ⟨Int.emod_nonneg _ (by omega), Int.emod_lt_of_pos _ (by omega)⟩
theorem mf_away_or (R : mr_R) (f l : Int) : mf_away R f l = -1 ∨ mf_away R f l = 0 ∨ mf_away R f l = 1 := by
  unfold mf_away
  split
  · omega
  · split <;> omega
theorem mf_later_bd (R : mr_R) (f w p : Int) : 0 ≤ mf_later R f w p ∧ mf_later R f w p ≤ 3 := by
  unfold mf_later
  split
  · split <;> omega
  · omega
theorem mf_why_bd (R : mr_R) (f l : Int) : 0 ≤ mf_why R f l ∧ mf_why R f l ≤ 3 := by
  unfold mf_why
  split
  · omega
  · exact mf_later_bd _ _ _ _
section MO
variable {K : Int} {a : Nat} {R : mr_R} {σ : ri_S}
theorem c153 {w p : Int} (h1 : -2147483648 ≤ w) (h2 : w < 2147483648) (h3 : -2147483648 ≤ p) (h4 : p < 2147483648) (hi : mi K R) : cal 153 [.ref a, .int (Int32.ofInt w), .int (Int32.ofInt p)] (mr_row a R σ) = if 0 ≤ w ∧ w < R 0 ∧ 0 ≤ p ∧ p < R (9 + 10 * w + 0) then some (some (.int (Int32.ofInt 1)), mr_row a R σ) else some (some (.int (Int32.ofInt 0)), mr_row a R σ) := by
  have hc := hi.c
  rw [E_153]
  by_cases q : 0 ≤ w ∧ w < R 0
  · have hw := hi.w q.1 q.2
    by_cases q2 : 0 ≤ p ∧ p < R (9 + 10 * w + 0) <;> simp (disch := omega) only [Int.reduceAdd, Int.reduceMul, Int.reduceSub, Int.reduceNeg, na_add, na_sub, na_mul, na_neg, na_lt, na_le, na_eq, na_ofNat, bo_some, tl_some, tl_none, rc_int, rc_ref, rc_null, rc_none, rc_long, tb_0, tb_1, ↓mr_g0, mr_r0, mr_get, mr_upd, mr_at, mr_wr, Classical.not_not, not_true_eq_false, not_false_eq_true, na_l0, na_l1, na_l2, na_l3, na_l4, na_l5, na_l6, na_l7, na_l8, na_l9, na_l10, na_l14, na_l15, na_l16, na_l25, na_l30, na_l31, na_l32, na_l33, na_l39, na_l43, na_l45, na_l48, na_l49, na_l50, na_l51, na_l52, na_l53, na_l55, na_l56, na_l57, na_l60, na_l64, na_l71, na_l80, na_l96, na_l100, na_l101, na_l102, na_l103, na_l104, na_l105, na_l106, na_l107, na_l108, na_l109, na_l110, na_l111, na_l112, na_l113, na_l114, na_l115, na_l116, na_l117, na_l118, na_l119, na_l120, na_l121, na_l125, na_l128, na_l150, na_l192, na_l255, na_l999, na_l1000, na_l1248, na_l1344, na_l1875, na_l10000, ↓reduceIte, pf_and, pe_le, pf_le, pe_lt, pf_lt, pe_eq, pf_eq, true_and, and_true, false_and, and_false, nb_neg, nb_wide, nb_lt, nb_gt, nb_l0, nb_l1, nb_l3, nb_l4, nb_l5, nb_l7, nb_l9, nb_l10, nb_l30, nb_l60, nb_l255, I_153, c152, c149, c146, oi_bind]
  · simp (disch := omega) only [Int.reduceAdd, Int.reduceMul, Int.reduceSub, Int.reduceNeg, na_add, na_sub, na_mul, na_neg, na_lt, na_le, na_eq, na_ofNat, bo_some, tl_some, tl_none, rc_int, rc_ref, rc_null, rc_none, rc_long, tb_0, tb_1, ↓mr_g0, mr_r0, mr_get, mr_upd, mr_at, mr_wr, Classical.not_not, not_true_eq_false, not_false_eq_true, na_l0, na_l1, na_l2, na_l3, na_l4, na_l5, na_l6, na_l7, na_l8, na_l9, na_l10, na_l14, na_l15, na_l16, na_l25, na_l30, na_l31, na_l32, na_l33, na_l39, na_l43, na_l45, na_l48, na_l49, na_l50, na_l51, na_l52, na_l53, na_l55, na_l56, na_l57, na_l60, na_l64, na_l71, na_l80, na_l96, na_l100, na_l101, na_l102, na_l103, na_l104, na_l105, na_l106, na_l107, na_l108, na_l109, na_l110, na_l111, na_l112, na_l113, na_l114, na_l115, na_l116, na_l117, na_l118, na_l119, na_l120, na_l121, na_l125, na_l128, na_l150, na_l192, na_l255, na_l999, na_l1000, na_l1248, na_l1344, na_l1875, na_l10000, ↓reduceIte, pf_and, pe_le, pf_le, pe_lt, pf_lt, pe_eq, pf_eq, true_and, and_true, false_and, and_false, I_153, c152, oi_bind]
theorem c158 {f : Int} (hi : mi K R) (h1 : 0 ≤ f) (h2 : f < R 2) : cal 158 [.ref a, .int (Int32.ofInt f)] (mr_row a R σ) = some (some (.int (Int32.ofInt (mf_place R f))), mr_row a R σ) := by
  have hc := hi.c
  have hf := hi.f h1 h2
  have hw := hi.w (w := R (71 + 5 * f + 1)) (by omega) (by omega)
  rw [E_158]
  simp (disch := omega) only [Int.reduceAdd, Int.reduceMul, Int.reduceSub, Int.reduceNeg, na_add, na_sub, na_mul, na_neg, na_lt, na_le, na_eq, na_ofNat, bo_some, tl_some, tl_none, rc_int, rc_ref, rc_null, rc_none, rc_long, tb_0, tb_1, ↓mr_g0, mr_r0, mr_get, mr_upd, mr_at, mr_wr, Classical.not_not, not_true_eq_false, not_false_eq_true, na_l0, na_l1, na_l2, na_l3, na_l4, na_l5, na_l6, na_l7, na_l8, na_l9, na_l10, na_l14, na_l15, na_l16, na_l25, na_l30, na_l31, na_l32, na_l33, na_l39, na_l43, na_l45, na_l48, na_l49, na_l50, na_l51, na_l52, na_l53, na_l55, na_l56, na_l57, na_l60, na_l64, na_l71, na_l80, na_l96, na_l100, na_l101, na_l102, na_l103, na_l104, na_l105, na_l106, na_l107, na_l108, na_l109, na_l110, na_l111, na_l112, na_l113, na_l114, na_l115, na_l116, na_l117, na_l118, na_l119, na_l120, na_l121, na_l125, na_l128, na_l150, na_l192, na_l255, na_l999, na_l1000, na_l1248, na_l1344, na_l1875, na_l10000, I_158, c149, c150, c156]
  rfl
theorem h159 {w pad : Int} (hi : mi K R) (h1 : -1000 ≤ w) (h2 : w ≤ 1000) (h3 : -1000 ≤ pad) (h4 : pad ≤ 1000) : ∀ (n : Nat) (f : Int), 0 ≤ f → f + n = R 2 → ev 159 (2, [some (.ref a), some (.int (Int32.ofInt w)), some (.int (Int32.ofInt pad)), some (.int (Int32.ofInt f))], []) (mr_row a R σ) = some (some (.int (Int32.ofInt (mf_onF R w pad n f))), mr_row a R σ) := by
  have hc := hi.c
  intro n
  induction n with
  | zero =>
    intro f h5 h6
    rw [H_159_2]
    simp (disch := omega) only [Int.reduceAdd, Int.reduceMul, Int.reduceSub, Int.reduceNeg, na_add, na_sub, na_mul, na_neg, na_lt, na_le, na_eq, na_ofNat, bo_some, tl_some, tl_none, rc_int, rc_ref, rc_null, rc_none, rc_long, tb_0, tb_1, ↓mr_g0, mr_r0, mr_get, mr_upd, mr_at, mr_wr, Classical.not_not, not_true_eq_false, not_false_eq_true, na_l0, na_l1, na_l2, na_l3, na_l4, na_l5, na_l6, na_l7, na_l8, na_l9, na_l10, na_l14, na_l15, na_l16, na_l25, na_l30, na_l31, na_l32, na_l33, na_l39, na_l43, na_l45, na_l48, na_l49, na_l50, na_l51, na_l52, na_l53, na_l55, na_l56, na_l57, na_l60, na_l64, na_l71, na_l80, na_l96, na_l100, na_l101, na_l102, na_l103, na_l104, na_l105, na_l106, na_l107, na_l108, na_l109, na_l110, na_l111, na_l112, na_l113, na_l114, na_l115, na_l116, na_l117, na_l118, na_l119, na_l120, na_l121, na_l125, na_l128, na_l150, na_l192, na_l255, na_l999, na_l1000, na_l1248, na_l1344, na_l1875, na_l10000, ↓reduceIte, pf_and, pe_le, pf_le, pe_lt, pf_lt, pe_eq, pf_eq, true_and, and_true, false_and, and_false, I_159, mf_onF]
  | succ n ih =>
    intro f h5 h6
    have hf := hi.f h5 (by omega)
    have hw := hi.w (w := R (71 + 5 * f + 1)) (by omega) (by omega)
    have hn := ih (f + 1) (by omega) (by omega)
    rw [H_159_2]
    by_cases q1 : R (71 + 5 * f + 1) = w <;> by_cases q2 : R (71 + 5 * f + 2) = pad <;> simp (disch := omega) only [Int.reduceAdd, Int.reduceMul, Int.reduceSub, Int.reduceNeg, na_add, na_sub, na_mul, na_neg, na_lt, na_le, na_eq, na_ofNat, bo_some, tl_some, tl_none, rc_int, rc_ref, rc_null, rc_none, rc_long, tb_0, tb_1, ↓mr_g0, mr_r0, mr_get, mr_upd, mr_at, mr_wr, Classical.not_not, not_true_eq_false, not_false_eq_true, na_l0, na_l1, na_l2, na_l3, na_l4, na_l5, na_l6, na_l7, na_l8, na_l9, na_l10, na_l14, na_l15, na_l16, na_l25, na_l30, na_l31, na_l32, na_l33, na_l39, na_l43, na_l45, na_l48, na_l49, na_l50, na_l51, na_l52, na_l53, na_l55, na_l56, na_l57, na_l60, na_l64, na_l71, na_l80, na_l96, na_l100, na_l101, na_l102, na_l103, na_l104, na_l105, na_l106, na_l107, na_l108, na_l109, na_l110, na_l111, na_l112, na_l113, na_l114, na_l115, na_l116, na_l117, na_l118, na_l119, na_l120, na_l121, na_l125, na_l128, na_l150, na_l192, na_l255, na_l999, na_l1000, na_l1248, na_l1344, na_l1875, na_l10000, ↓reduceIte, pf_and, pe_le, pf_le, pe_lt, pf_lt, pe_eq, pf_eq, true_and, and_true, false_and, and_false, I_159, mf_onF, c150, hn]
theorem c159 {w pad : Int} (hi : mi K R) (h1 : -1000 ≤ w) (h2 : w ≤ 1000) (h3 : -1000 ≤ pad) (h4 : pad ≤ 1000) : cal 159 [.ref a, .int (Int32.ofInt w), .int (Int32.ofInt pad)] (mr_row a R σ) = some (some (.int (Int32.ofInt (mf_on R w pad))), mr_row a R σ) := by
  have hc := hi.c
  rw [E_159]
  simp (disch := omega) only [Int.reduceAdd, Int.reduceMul, Int.reduceSub, Int.reduceNeg, na_add, na_sub, na_mul, na_neg, na_lt, na_le, na_eq, na_ofNat, bo_some, tl_some, tl_none, rc_int, rc_ref, rc_null, rc_none, rc_long, tb_0, tb_1, ↓mr_g0, mr_r0, mr_get, mr_upd, mr_at, mr_wr, Classical.not_not, not_true_eq_false, not_false_eq_true, na_l0, na_l1, na_l2, na_l3, na_l4, na_l5, na_l6, na_l7, na_l8, na_l9, na_l10, na_l14, na_l15, na_l16, na_l25, na_l30, na_l31, na_l32, na_l33, na_l39, na_l43, na_l45, na_l48, na_l49, na_l50, na_l51, na_l52, na_l53, na_l55, na_l56, na_l57, na_l60, na_l64, na_l71, na_l80, na_l96, na_l100, na_l101, na_l102, na_l103, na_l104, na_l105, na_l106, na_l107, na_l108, na_l109, na_l110, na_l111, na_l112, na_l113, na_l114, na_l115, na_l116, na_l117, na_l118, na_l119, na_l120, na_l121, na_l125, na_l128, na_l150, na_l192, na_l255, na_l999, na_l1000, na_l1248, na_l1344, na_l1875, na_l10000, I_159, h159 hi h1 h2 h3 h4 (R 2).toNat 0]
  rfl
theorem h160 {w : Int} (hi : mi K R) (h1 : -1000 ≤ w) (h2 : w ≤ 1000) : ∀ (n : Nat) (f s : Int), 0 ≤ f → f + n = R 2 → ev 160 (4, [some (.ref a), some (.int (Int32.ofInt w)), some (.int (Int32.ofInt s)), some (.int (Int32.ofInt f))], []) (mr_row a R σ) = some (some (.int (Int32.ofInt (mf_wtF R w n f s))), mr_row a R σ) := by
  have hc := hi.c
  intro n
  induction n with
  | zero =>
    intro f s h5 h6
    rw [H_160_4]
    simp (disch := omega) only [Int.reduceAdd, Int.reduceMul, Int.reduceSub, Int.reduceNeg, na_add, na_sub, na_mul, na_neg, na_lt, na_le, na_eq, na_ofNat, bo_some, tl_some, tl_none, rc_int, rc_ref, rc_null, rc_none, rc_long, tb_0, tb_1, ↓mr_g0, mr_r0, mr_get, mr_upd, mr_at, mr_wr, Classical.not_not, not_true_eq_false, not_false_eq_true, na_l0, na_l1, na_l2, na_l3, na_l4, na_l5, na_l6, na_l7, na_l8, na_l9, na_l10, na_l14, na_l15, na_l16, na_l25, na_l30, na_l31, na_l32, na_l33, na_l39, na_l43, na_l45, na_l48, na_l49, na_l50, na_l51, na_l52, na_l53, na_l55, na_l56, na_l57, na_l60, na_l64, na_l71, na_l80, na_l96, na_l100, na_l101, na_l102, na_l103, na_l104, na_l105, na_l106, na_l107, na_l108, na_l109, na_l110, na_l111, na_l112, na_l113, na_l114, na_l115, na_l116, na_l117, na_l118, na_l119, na_l120, na_l121, na_l125, na_l128, na_l150, na_l192, na_l255, na_l999, na_l1000, na_l1248, na_l1344, na_l1875, na_l10000, ↓reduceIte, pf_and, pe_le, pf_le, pe_lt, pf_lt, pe_eq, pf_eq, true_and, and_true, false_and, and_false, I_160, mf_wtF]
  | succ n ih =>
    intro f s h5 h6
    have hf := hi.f h5 (by omega)
    have hw := hi.w (w := R (71 + 5 * f + 1)) (by omega) (by omega)
    have hn := fun s => ih (f + 1) s (by omega) (by omega)
    rw [H_160_4]
    by_cases q1 : R (71 + 5 * f + 1) = w <;> simp (disch := omega) only [Int.reduceAdd, Int.reduceMul, Int.reduceSub, Int.reduceNeg, na_add, na_sub, na_mul, na_neg, na_lt, na_le, na_eq, na_ofNat, bo_some, tl_some, tl_none, rc_int, rc_ref, rc_null, rc_none, rc_long, tb_0, tb_1, ↓mr_g0, mr_r0, mr_get, mr_upd, mr_at, mr_wr, Classical.not_not, not_true_eq_false, not_false_eq_true, na_l0, na_l1, na_l2, na_l3, na_l4, na_l5, na_l6, na_l7, na_l8, na_l9, na_l10, na_l14, na_l15, na_l16, na_l25, na_l30, na_l31, na_l32, na_l33, na_l39, na_l43, na_l45, na_l48, na_l49, na_l50, na_l51, na_l52, na_l53, na_l55, na_l56, na_l57, na_l60, na_l64, na_l71, na_l80, na_l96, na_l100, na_l101, na_l102, na_l103, na_l104, na_l105, na_l106, na_l107, na_l108, na_l109, na_l110, na_l111, na_l112, na_l113, na_l114, na_l115, na_l116, na_l117, na_l118, na_l119, na_l120, na_l121, na_l125, na_l128, na_l150, na_l192, na_l255, na_l999, na_l1000, na_l1248, na_l1344, na_l1875, na_l10000, ↓reduceIte, pf_and, pe_le, pf_le, pe_lt, pf_lt, pe_eq, pf_eq, true_and, and_true, false_and, and_false, I_160, mf_wtF, c150, hn]
theorem c160 {w : Int} (hi : mi K R) (h1 : -1000 ≤ w) (h2 : w ≤ 1000) : cal 160 [.ref a, .int (Int32.ofInt w)] (mr_row a R σ) = some (some (.int (Int32.ofInt (mf_wt R w))), mr_row a R σ) := by
  have hc := hi.c
  rw [E_160]
  simp (disch := omega) only [Int.reduceAdd, Int.reduceMul, Int.reduceSub, Int.reduceNeg, na_add, na_sub, na_mul, na_neg, na_lt, na_le, na_eq, na_ofNat, bo_some, tl_some, tl_none, rc_int, rc_ref, rc_null, rc_none, rc_long, tb_0, tb_1, ↓mr_g0, mr_r0, mr_get, mr_upd, mr_at, mr_wr, Classical.not_not, not_true_eq_false, not_false_eq_true, na_l0, na_l1, na_l2, na_l3, na_l4, na_l5, na_l6, na_l7, na_l8, na_l9, na_l10, na_l14, na_l15, na_l16, na_l25, na_l30, na_l31, na_l32, na_l33, na_l39, na_l43, na_l45, na_l48, na_l49, na_l50, na_l51, na_l52, na_l53, na_l55, na_l56, na_l57, na_l60, na_l64, na_l71, na_l80, na_l96, na_l100, na_l101, na_l102, na_l103, na_l104, na_l105, na_l106, na_l107, na_l108, na_l109, na_l110, na_l111, na_l112, na_l113, na_l114, na_l115, na_l116, na_l117, na_l118, na_l119, na_l120, na_l121, na_l125, na_l128, na_l150, na_l192, na_l255, na_l999, na_l1000, na_l1248, na_l1344, na_l1875, na_l10000, I_160, h160 hi h1 h2 (R 2).toNat 0]
  rfl
set_option maxRecDepth 8000 in
theorem c161 {w : Int} (h1 : 0 ≤ w) (h2 : w < 3) : cal 161 [.ref a, .int (Int32.ofInt w)] (mr_row a R σ) = some (some (.int (Int32.ofInt (mf_fly R w))), mr_row a R σ) := by
  rw [E_161]
  simp (disch := omega) only [Int.reduceAdd, Int.reduceMul, Int.reduceSub, Int.reduceNeg, na_add, na_sub, na_mul, na_neg, na_lt, na_le, na_eq, na_ofNat, bo_some, tl_some, tl_none, rc_int, rc_ref, rc_null, rc_none, rc_long, tb_0, tb_1, ↓mr_g0, mr_r0, mr_get, mr_upd, mr_at, mr_wr, Classical.not_not, not_true_eq_false, not_false_eq_true, na_l0, na_l1, na_l2, na_l3, na_l4, na_l5, na_l6, na_l7, na_l8, na_l9, na_l10, na_l14, na_l15, na_l16, na_l25, na_l30, na_l31, na_l32, na_l33, na_l39, na_l43, na_l45, na_l48, na_l49, na_l50, na_l51, na_l52, na_l53, na_l55, na_l56, na_l57, na_l60, na_l64, na_l71, na_l80, na_l96, na_l100, na_l101, na_l102, na_l103, na_l104, na_l105, na_l106, na_l107, na_l108, na_l109, na_l110, na_l111, na_l112, na_l113, na_l114, na_l115, na_l116, na_l117, na_l118, na_l119, na_l120, na_l121, na_l125, na_l128, na_l150, na_l192, na_l255, na_l999, na_l1000, na_l1248, na_l1344, na_l1875, na_l10000, ↓reduceIte, pf_and, pe_le, pf_le, pe_lt, pf_lt, pe_eq, pf_eq, true_and, and_true, false_and, and_false, I_161, H_161_4, c149]
  rfl
theorem c162 {f l : Int} (hi : mi K R) (h1 : 0 ≤ f) (h2 : f < R 2) (h3 : 0 ≤ l) (h4 : l < R 1) : cal 162 [.ref a, .int (Int32.ofInt f), .int (Int32.ofInt l)] (mr_row a R σ) = some (some (.int (Int32.ofInt (mf_away R f l))), mr_row a R σ) := by
  have hc := hi.c
  have hf := hi.f h1 h2
  have hw := hi.w (w := R (71 + 5 * f + 1)) (by omega) (by omega)
  have hl := hi.l h3 h4
  have hw0 := hi.w (w := R (39 + 4 * l + 0)) (by omega) (by omega)
  have hw2 := hi.w (w := R (39 + 4 * l + 2)) (by omega) (by omega)
  have hp := mf_place_bd hi h1 h2
  rw [E_162]
  unfold mf_away
  by_cases q1 : R (39 + 4 * l + 0) = R (71 + 5 * f + 1) <;> by_cases q2 : R (39 + 4 * l + 1) = mf_place R f <;> by_cases q3 : R (39 + 4 * l + 2) = R (71 + 5 * f + 1) <;> by_cases q4 : R (39 + 4 * l + 3) = mf_place R f <;> first | (exfalso; omega) | simp (disch := omega) only [Int.reduceAdd, Int.reduceMul, Int.reduceSub, Int.reduceNeg, na_add, na_sub, na_mul, na_neg, na_lt, na_le, na_eq, na_ofNat, bo_some, tl_some, tl_none, rc_int, rc_ref, rc_null, rc_none, rc_long, tb_0, tb_1, ↓mr_g0, mr_r0, mr_get, mr_upd, mr_at, mr_wr, Classical.not_not, not_true_eq_false, not_false_eq_true, na_l0, na_l1, na_l2, na_l3, na_l4, na_l5, na_l6, na_l7, na_l8, na_l9, na_l10, na_l14, na_l15, na_l16, na_l25, na_l30, na_l31, na_l32, na_l33, na_l39, na_l43, na_l45, na_l48, na_l49, na_l50, na_l51, na_l52, na_l53, na_l55, na_l56, na_l57, na_l60, na_l64, na_l71, na_l80, na_l96, na_l100, na_l101, na_l102, na_l103, na_l104, na_l105, na_l106, na_l107, na_l108, na_l109, na_l110, na_l111, na_l112, na_l113, na_l114, na_l115, na_l116, na_l117, na_l118, na_l119, na_l120, na_l121, na_l125, na_l128, na_l150, na_l192, na_l255, na_l999, na_l1000, na_l1248, na_l1344, na_l1875, na_l10000, ↓reduceIte, pf_and, pe_le, pf_le, pe_lt, pf_lt, pe_eq, pf_eq, true_and, and_true, false_and, and_false, I_162, c150, c151, c158 hi]
theorem c163 {f w p : Int} (hi : mi K R) (h0 : 0 ≤ f) (h00 : f < R 2) (h1 : 0 ≤ w) (h2 : w < R 0) (h3 : 0 ≤ p) (h4 : p < 5) : cal 163 [.ref a, .int (Int32.ofInt f), .int (Int32.ofInt w), .int (Int32.ofInt p)] (mr_row a R σ) = some (some (.int (Int32.ofInt (mf_later R f w p))), mr_row a R σ) := by
  have hc := hi.c
  have hw := hi.w h1 h2
  have hp := mf_pad_bd (R := R) (w := w) p (by omega)
  have hb := mf_on_bd hi w (mf_pad R w p)
  rw [E_163]
  unfold mf_later
  by_cases q1 : mf_on R w (mf_pad R w p) = -1 <;> by_cases q2 : R 8 = 1 <;> by_cases q3 : R 7 = f + 1 <;> simp (disch := omega) only [Int.reduceAdd, Int.reduceMul, Int.reduceSub, Int.reduceNeg, na_add, na_sub, na_mul, na_neg, na_lt, na_le, na_eq, na_ofNat, bo_some, tl_some, tl_none, rc_int, rc_ref, rc_null, rc_none, rc_long, tb_0, tb_1, ↓mr_g0, mr_r0, mr_get, mr_upd, mr_at, mr_wr, Classical.not_not, not_true_eq_false, not_false_eq_true, na_l0, na_l1, na_l2, na_l3, na_l4, na_l5, na_l6, na_l7, na_l8, na_l9, na_l10, na_l14, na_l15, na_l16, na_l25, na_l30, na_l31, na_l32, na_l33, na_l39, na_l43, na_l45, na_l48, na_l49, na_l50, na_l51, na_l52, na_l53, na_l55, na_l56, na_l57, na_l60, na_l64, na_l71, na_l80, na_l96, na_l100, na_l101, na_l102, na_l103, na_l104, na_l105, na_l106, na_l107, na_l108, na_l109, na_l110, na_l111, na_l112, na_l113, na_l114, na_l115, na_l116, na_l117, na_l118, na_l119, na_l120, na_l121, na_l125, na_l128, na_l150, na_l192, na_l255, na_l999, na_l1000, na_l1248, na_l1344, na_l1875, na_l10000, ↓reduceIte, pf_and, pe_le, pf_le, pe_lt, pf_lt, pe_eq, pf_eq, true_and, and_true, false_and, and_false, I_163, c157, c159 hi]
theorem c164 {f l : Int} (hi : mi K R) (h1 : 0 ≤ f) (h2 : f < R 2) (h3 : 0 ≤ l) (h4 : l < R 1) : cal 164 [.ref a, .int (Int32.ofInt f), .int (Int32.ofInt l)] (mr_row a R σ) = some (some (.int (Int32.ofInt (mf_why R f l))), mr_row a R σ) := by
  have hc := hi.c
  have hl := hi.l h3 h4
  have hw0 := hi.w (w := R (39 + 4 * l + 0)) (by omega) (by omega)
  have hw2 := hi.w (w := R (39 + 4 * l + 2)) (by omega) (by omega)
  rw [E_164]
  unfold mf_why
  rcases mf_away_or R f l with q | q | q
  · simp (disch := omega) only [Int.reduceAdd, Int.reduceMul, Int.reduceSub, Int.reduceNeg, na_add, na_sub, na_mul, na_neg, na_lt, na_le, na_eq, na_ofNat, bo_some, tl_some, tl_none, rc_int, rc_ref, rc_null, rc_none, rc_long, tb_0, tb_1, ↓mr_g0, mr_r0, mr_get, mr_upd, mr_at, mr_wr, Classical.not_not, not_true_eq_false, not_false_eq_true, na_l0, na_l1, na_l2, na_l3, na_l4, na_l5, na_l6, na_l7, na_l8, na_l9, na_l10, na_l14, na_l15, na_l16, na_l25, na_l30, na_l31, na_l32, na_l33, na_l39, na_l43, na_l45, na_l48, na_l49, na_l50, na_l51, na_l52, na_l53, na_l55, na_l56, na_l57, na_l60, na_l64, na_l71, na_l80, na_l96, na_l100, na_l101, na_l102, na_l103, na_l104, na_l105, na_l106, na_l107, na_l108, na_l109, na_l110, na_l111, na_l112, na_l113, na_l114, na_l115, na_l116, na_l117, na_l118, na_l119, na_l120, na_l121, na_l125, na_l128, na_l150, na_l192, na_l255, na_l999, na_l1000, na_l1248, na_l1344, na_l1875, na_l10000, ↓reduceIte, pf_and, pe_le, pf_le, pe_lt, pf_lt, pe_eq, pf_eq, true_and, and_true, false_and, and_false, I_164, c162 hi, q]
  · simp (disch := omega) only [Int.reduceAdd, Int.reduceMul, Int.reduceSub, Int.reduceNeg, na_add, na_sub, na_mul, na_neg, na_lt, na_le, na_eq, na_ofNat, bo_some, tl_some, tl_none, rc_int, rc_ref, rc_null, rc_none, rc_long, tb_0, tb_1, ↓mr_g0, mr_r0, mr_get, mr_upd, mr_at, mr_wr, Classical.not_not, not_true_eq_false, not_false_eq_true, na_l0, na_l1, na_l2, na_l3, na_l4, na_l5, na_l6, na_l7, na_l8, na_l9, na_l10, na_l14, na_l15, na_l16, na_l25, na_l30, na_l31, na_l32, na_l33, na_l39, na_l43, na_l45, na_l48, na_l49, na_l50, na_l51, na_l52, na_l53, na_l55, na_l56, na_l57, na_l60, na_l64, na_l71, na_l80, na_l96, na_l100, na_l101, na_l102, na_l103, na_l104, na_l105, na_l106, na_l107, na_l108, na_l109, na_l110, na_l111, na_l112, na_l113, na_l114, na_l115, na_l116, na_l117, na_l118, na_l119, na_l120, na_l121, na_l125, na_l128, na_l150, na_l192, na_l255, na_l999, na_l1000, na_l1248, na_l1344, na_l1875, na_l10000, ↓reduceIte, pf_and, pe_le, pf_le, pe_lt, pf_lt, pe_eq, pf_eq, true_and, and_true, false_and, and_false, I_164, c162 hi, q, c151, c163 hi, show (2 : Int) * 0 = 0 from rfl, show (0 : Int) + 1 = 1 from rfl, Int.add_assoc (39 + 4 * l)]
  · simp (disch := omega) only [Int.reduceAdd, Int.reduceMul, Int.reduceSub, Int.reduceNeg, na_add, na_sub, na_mul, na_neg, na_lt, na_le, na_eq, na_ofNat, bo_some, tl_some, tl_none, rc_int, rc_ref, rc_null, rc_none, rc_long, tb_0, tb_1, ↓mr_g0, mr_r0, mr_get, mr_upd, mr_at, mr_wr, Classical.not_not, not_true_eq_false, not_false_eq_true, na_l0, na_l1, na_l2, na_l3, na_l4, na_l5, na_l6, na_l7, na_l8, na_l9, na_l10, na_l14, na_l15, na_l16, na_l25, na_l30, na_l31, na_l32, na_l33, na_l39, na_l43, na_l45, na_l48, na_l49, na_l50, na_l51, na_l52, na_l53, na_l55, na_l56, na_l57, na_l60, na_l64, na_l71, na_l80, na_l96, na_l100, na_l101, na_l102, na_l103, na_l104, na_l105, na_l106, na_l107, na_l108, na_l109, na_l110, na_l111, na_l112, na_l113, na_l114, na_l115, na_l116, na_l117, na_l118, na_l119, na_l120, na_l121, na_l125, na_l128, na_l150, na_l192, na_l255, na_l999, na_l1000, na_l1248, na_l1344, na_l1875, na_l10000, ↓reduceIte, pf_and, pe_le, pf_le, pe_lt, pf_lt, pe_eq, pf_eq, true_and, and_true, false_and, and_false, I_164, c162 hi, q, c151, c163 hi, show (2 : Int) * 1 = 2 from rfl, show (2 : Int) + 1 = 3 from rfl, Int.add_assoc (39 + 4 * l)]
theorem c165 {f s : Int} (hi : mi K R) (h1 : 0 ≤ f) (h2 : f < R 2) (h3 : -1 ≤ s) (h4 : s ≤ 1) : cal 165 [.ref a, .int (Int32.ofInt f), .int (Int32.ofInt s)] (mr_row a R σ) = some (some (.int (Int32.ofInt (mf_hwhy R f s))), mr_row a R σ) := by
  have hc := hi.c
  have hf := hi.f h1 h2
  have hw := hi.w (w := R (71 + 5 * f + 1)) (by omega) (by omega)
  have hp := mf_place_bd hi h1 h2
  have hb : 0 ≤ (mf_place R f + s) % R (9 + 10 * R (71 + 5 * f + 1) + 0) ∧ (mf_place R f + s) % R (9 + 10 * R (71 + 5 * f + 1) + 0) < R (9 + 10 * R (71 + 5 * f + 1) + 0) := ⟨Int.emod_nonneg _ (by omega), Int.emod_lt_of_pos _ (by omega)⟩
  rw [E_165]
  simp (disch := omega) only [Int.reduceAdd, Int.reduceMul, Int.reduceSub, Int.reduceNeg, na_add, na_sub, na_mul, na_neg, na_lt, na_le, na_eq, na_ofNat, bo_some, tl_some, tl_none, rc_int, rc_ref, rc_null, rc_none, rc_long, tb_0, tb_1, ↓mr_g0, mr_r0, mr_get, mr_upd, mr_at, mr_wr, Classical.not_not, not_true_eq_false, not_false_eq_true, na_l0, na_l1, na_l2, na_l3, na_l4, na_l5, na_l6, na_l7, na_l8, na_l9, na_l10, na_l14, na_l15, na_l16, na_l25, na_l30, na_l31, na_l32, na_l33, na_l39, na_l43, na_l45, na_l48, na_l49, na_l50, na_l51, na_l52, na_l53, na_l55, na_l56, na_l57, na_l60, na_l64, na_l71, na_l80, na_l96, na_l100, na_l101, na_l102, na_l103, na_l104, na_l105, na_l106, na_l107, na_l108, na_l109, na_l110, na_l111, na_l112, na_l113, na_l114, na_l115, na_l116, na_l117, na_l118, na_l119, na_l120, na_l121, na_l125, na_l128, na_l150, na_l192, na_l255, na_l999, na_l1000, na_l1248, na_l1344, na_l1875, na_l10000, I_165, c150, c149, c158 hi, c156, c163 hi]
  rfl
end MO
