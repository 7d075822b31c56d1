/-! Sums of at most five. -/
def t5 (m : Int) (g : Int → Int) : Int := (if 0 < m then g 0 else 0) + (if 1 < m then g 1 else 0) + (if 2 < m then g 2 else 0) + (if 3 < m then g 3 else 0) + (if 4 < m then g 4 else 0)
section T5
variable {m k : Int} {g h : Int → Int}
theorem t5_0 : t5 0 g = 0 := rfl
theorem t5_cg (e : ∀ j, 0 ≤ j → j < m → g j = h j) : t5 m g = t5 m h := by
  have one : ∀ j : Int, 0 ≤ j → (if j < m then g j else 0) = (if j < m then h j else 0) := by
    intro j j0
    by_cases q : j < m
    · rw [if_pos q, if_pos q, e j j0 q]
    · rw [if_neg q, if_neg q]
  unfold t5
  rw [one 0 (by decide), one 1 (by decide), one 2 (by decide), one 3 (by decide), one 4 (by decide)]
theorem t5_add : t5 m (fun j => g j + h j) = t5 m g + t5 m h := by
  have one : ∀ j : Int, (if j < m then g j + h j else 0) = (if j < m then g j else 0) + (if j < m then h j else 0) := by
    intro j
    by_cases q : j < m
    · rw [if_pos q, if_pos q, if_pos q]
    · rw [if_neg q, if_neg q, if_neg q]
      rfl
  unfold t5
  rw [one, one, one, one, one]
  omega
theorem t5_zero (e : ∀ j, 0 ≤ j → j < m → g j = 0) : t5 m g = 0 := by
  rw [t5_cg (h := fun _ => 0) e]
  unfold t5
  (repeat' split) <;> rfl
theorem t5_step (h0 : 0 ≤ m) (h1 : m < 5) : t5 (m + 1) g = t5 m g + g m := by
  have hm : m = 0 ∨ m = 1 ∨ m = 2 ∨ m = 3 ∨ m = 4 := by omega
  unfold t5
  rcases hm with e | e | e | e | e <;> subst e <;> simp
theorem t5_one {e : Int} (h0 : 0 ≤ e) (h1 : e < m) (h5 : m ≤ 5) (z : ∀ j, 0 ≤ j → j < m → j ≠ e → g j = 0) : t5 m g = g e := by
  have one : ∀ j : Int, 0 ≤ j → j ≠ e → (if j < m then g j else 0) = 0 := by
    intro j j0 je
    by_cases q : j < m
    · rw [if_pos q, z j j0 q je]
    · rw [if_neg q]
  have he : e = 0 ∨ e = 1 ∨ e = 2 ∨ e = 3 ∨ e = 4 := by omega
  unfold t5
  rcases he with q | q | q | q | q <;> subst q
  · rw [if_pos h1, one 1 (by decide) (by decide), one 2 (by decide) (by decide), one 3 (by decide) (by decide), one 4 (by decide) (by decide)]
    omega
  · rw [one 0 (by decide) (by decide), if_pos h1, one 2 (by decide) (by decide), one 3 (by decide) (by decide), one 4 (by decide) (by decide)]
    omega
  · rw [one 0 (by decide) (by decide), one 1 (by decide) (by decide), if_pos h1, one 3 (by decide) (by decide), one 4 (by decide) (by decide)]
    omega
  · rw [one 0 (by decide) (by decide), one 1 (by decide) (by decide), one 2 (by decide) (by decide), if_pos h1, one 4 (by decide) (by decide)]
    omega
  · rw [one 0 (by decide) (by decide), one 1 (by decide) (by decide), one 2 (by decide) (by decide), one 3 (by decide) (by decide), if_pos h1]
    omega
theorem t5_if {c : Prop} [Decidable c] : t5 m (fun j => if c then g j else 0) = if c then t5 m g else 0 := by
  by_cases q : c
  · simp only [if_pos q]
  · simp only [if_neg q]
    exact t5_zero fun _ _ _ => rfl
theorem t5_swap {f : Int → Int → Int} : t5 m (fun a => t5 k (fun b => f a b)) = t5 k (fun b => t5 m (fun a => f a b)) := by
  have e : t5 m (fun a => t5 k (fun b => f a b)) = t5 m (fun a => (((if 0 < k then f a 0 else 0) + (if 1 < k then f a 1 else 0)) + (if 2 < k then f a 2 else 0)) + (if 3 < k then f a 3 else 0) + (if 4 < k then f a 4 else 0)) := rfl
  rw [e, t5_add (g := fun a => (((if 0 < k then f a 0 else 0) + (if 1 < k then f a 1 else 0)) + (if 2 < k then f a 2 else 0)) + (if 3 < k then f a 3 else 0)) (h := fun a => if 4 < k then f a 4 else 0), t5_add (g := fun a => (((if 0 < k then f a 0 else 0) + (if 1 < k then f a 1 else 0)) + (if 2 < k then f a 2 else 0))) (h := fun a => if 3 < k then f a 3 else 0), t5_add (g := fun a => ((if 0 < k then f a 0 else 0) + (if 1 < k then f a 1 else 0))) (h := fun a => if 2 < k then f a 2 else 0), t5_add (g := fun a => (if 0 < k then f a 0 else 0)) (h := fun a => if 1 < k then f a 1 else 0), t5_if, t5_if, t5_if, t5_if, t5_if]
  rfl
theorem t5_rot {n r : Int} (n1 : 3 ≤ n) (n2 : n ≤ 5) (r1 : 0 ≤ r) (r2 : r < n) : t5 n (fun p => g ((p - r) % n)) = t5 n g := by
  have hn : n = 3 ∨ n = 4 ∨ n = 5 := by omega
  have hr : r = 0 ∨ r = 1 ∨ r = 2 ∨ r = 3 ∨ r = 4 := by omega
  unfold t5
  rcases hn with e | e | e <;> subst e <;> rcases hr with q | q | q | q | q <;> subst q <;> first | (exfalso; omega) | (simp; try omega)
theorem t5_le (h0 : ∀ j, 0 ≤ j → j < m → 0 ≤ g j) : 0 ≤ t5 m g := by
  have one : ∀ j : Int, 0 ≤ j → 0 ≤ (if j < m then g j else 0) := by
    intro j j0
    by_cases q : j < m
    · rw [if_pos q]
      exact h0 j j0 q
    · rw [if_neg q]
      decide
  have a0 := one 0 (by decide)
  have a1 := one 1 (by decide)
  have a2 := one 2 (by decide)
  have a3 := one 3 (by decide)
  have a4 := one 4 (by decide)
  unfold t5
  omega
theorem t5_up {c : Int} (c0 : 0 ≤ c) (h0 : ∀ j, 0 ≤ j → j < m → g j ≤ c) : t5 m g ≤ 5 * c := by
  have one : ∀ j : Int, 0 ≤ j → (if j < m then g j else 0) ≤ c := by
    intro j j0
    by_cases q : j < m
    · rw [if_pos q]
      exact h0 j j0 q
    · rw [if_neg q]
      exact c0
  have a0 := one 0 (by decide)
  have a1 := one 1 (by decide)
  have a2 := one 2 (by decide)
  have a3 := one 3 (by decide)
  have a4 := one 4 (by decide)
  unfold t5
  omega
end T5
section SUMS
variable {K : Int} {R : mr_R} {w : Int}
theorem sv_t5 {k : Int} : sv R k = t5 (R 2) (fun f => R (71 + 5 * f + k)) := rfl
theorem sw_t5 (hi : mi K R) : sw R = t5 (R 0) (fun w => mf_fly R w) := by
  have hc := hi.c
  unfold sw t5
  try dsimp only
  rw [if_neg (show ¬ 3 < R 0 by omega), if_neg (show ¬ 4 < R 0 by omega)]
  omega
/-- what a frog's number is worth -/
def vl (v : Int → Int) (f : Int) : Int := if f = -1 then 0 else v f
theorem on_sum (hi : mi K R) {d : Int} {v : Int → Int} : vl v (mf_on R w d) = t5 (R 2) (fun f => if R (71 + 5 * f + 1) = w ∧ R (71 + 5 * f + 2) = d then v f else 0) := by
  have hc := hi.c
  unfold vl
  by_cases q : mf_on R w d = -1
  · rw [if_pos q]
    have h := (mf_on_no hi).mp q
    exact (t5_zero fun f f0 f1 => if_neg (h f f0 f1)).symm
  · rw [if_neg q]
    have h := mf_on_at hi q
    rw [t5_one h.1 h.2.1 (by omega) (fun f f0 f1 fe => if_neg fun z => fe ?_), if_pos ⟨h.2.2.1, h.2.2.2⟩]
    have h2 := mf_on_own hi f0 f1
    rw [z.1, z.2] at h2
    exact h2.symm
theorem wt_F : ∀ (n : Nat) (f s : Int), 0 ≤ f → f + n = R 2 → R 2 ≤ 5 → mf_wtF R w n f s = s + t5 (R 2) (fun g => if f ≤ g then (if R (71 + 5 * g + 1) = w then R (71 + 5 * g + 0) else 0) else 0) := by
  intro n
  induction n with
  | zero =>
    intro f s f0 f1 _
    rw [t5_zero fun g g0 g1 => if_neg (by omega)]
    show s = s + 0
    omega
  | succ n ih =>
    intro f s f0 f1 h5
    show mf_wtF R w n (f + 1) _ = _
    rw [ih (f + 1) _ (by omega) (by omega) h5]
    have e : t5 (R 2) (fun g => if f ≤ g then (if R (71 + 5 * g + 1) = w then R (71 + 5 * g + 0) else 0) else 0) = t5 (R 2) (fun g => (if f + 1 ≤ g then (if R (71 + 5 * g + 1) = w then R (71 + 5 * g + 0) else 0) else 0) + (if g = f then (if R (71 + 5 * g + 1) = w then R (71 + 5 * g + 0) else 0) else 0)) := by
      refine t5_cg fun g g0 g1 => ?_
      try dsimp only
      by_cases q : g = f
      · rw [if_pos (show f ≤ g by omega), if_neg (show ¬ f + 1 ≤ g by omega), if_pos q]
        omega
      · rw [if_neg q]
        by_cases q2 : f ≤ g
        · rw [if_pos q2, if_pos (show f + 1 ≤ g by omega)]
          omega
        · rw [if_neg q2, if_neg (show ¬ f + 1 ≤ g by omega)]
          rfl
    rw [e, t5_add, t5_one (e := f) (g := fun g => if g = f then (if R (71 + 5 * g + 1) = w then R (71 + 5 * g + 0) else 0) else 0) f0 (by omega) h5 (fun g _ _ ge => if_neg ge), if_pos rfl]
    omega
theorem wt_sum (hi : mi K R) : mf_wt R w = t5 (R 2) (fun f => if R (71 + 5 * f + 1) = w then R (71 + 5 * f + 0) else 0) := by
  have hc := hi.c
  unfold mf_wt
  rw [wt_F _ 0 0 (by omega) (by omega) (by omega), Int.zero_add]
  exact t5_cg fun g g0 g1 => if_pos g0
/-- the frogs on a wheel, by places -/
theorem seat_sum (hi : mi K R) (w0 : 0 ≤ w) (w1 : w < R 0) {v : Int → Int} : t5 (R (9 + 10 * w + 0)) (fun p => vl v (mf_on R w (mf_pad R w p))) = t5 (R 2) (fun f => if R (71 + 5 * f + 1) = w then v f else 0) := by
  have hw := hi.w w0 w1
  have hc := hi.c
  show t5 (R (9 + 10 * w + 0)) (fun p => (fun d => vl v (mf_on R w d)) ((p - R (9 + 10 * w + 3)) % R (9 + 10 * w + 0))) = _
  rw [t5_rot (g := fun d => vl v (mf_on R w d)) (by omega) (by omega) (by omega) (by omega)]
  rw [t5_cg (m := R (9 + 10 * w + 0)) (fun d _ _ => on_sum (w := w) (d := d) (v := v) hi), t5_swap]
  refine t5_cg fun f f0 f1 => ?_
  try dsimp only
  have hf := hi.f f0 f1
  by_cases q : R (71 + 5 * f + 1) = w
  · rw [if_pos q, t5_one (e := R (71 + 5 * f + 2)) (by omega) (by rw [← q]; omega) (by omega) (fun j _ _ je => if_neg fun z => je z.2.symm), if_pos ⟨q, rfl⟩]
  · rw [if_neg q]
    exact t5_zero fun j _ _ => if_neg fun z => q z.1
theorem fly_sum (hi : mi K R) (w0 : 0 ≤ w) (w1 : w < R 0) : t5 (R (9 + 10 * w + 0)) (fun p => R (9 + 10 * w + 5 + mf_pad R w p)) = mf_fly R w := by
  have hw := hi.w w0 w1
  show t5 (R (9 + 10 * w + 0)) (fun p => (fun d => R (9 + 10 * w + 5 + d)) ((p - R (9 + 10 * w + 3)) % R (9 + 10 * w + 0))) = _
  rw [t5_rot (g := fun d => R (9 + 10 * w + 5 + d)) (by omega) (by omega) (by omega) (by omega)]
  have y3 := (hi.y (k := 3) w0 w1 (by decide) (by decide)).2.2
  have y4 := (hi.y (k := 4) w0 w1 (by decide) (by decide)).2.2
  unfold t5 mf_fly
  try dsimp only
  rw [if_pos (by omega), if_pos (by omega), if_pos (by omega), show 9 + 10 * w + 5 + 0 = 9 + 10 * w + 5 by omega, show 9 + 10 * w + 5 + 1 = 9 + 10 * w + 6 by omega, show 9 + 10 * w + 5 + 2 = 9 + 10 * w + 7 by omega]
  rw [show 9 + 10 * w + 5 + 3 = 9 + 10 * w + 8 by omega] at y3 ⊢
  rw [show 9 + 10 * w + 5 + 4 = 9 + 10 * w + 9 by omega] at y4 ⊢
  (repeat' split) <;> omega
theorem there_sum (hi : mi K R) : t5 (R 0) (fun w => t5 (R (9 + 10 * w + 0)) (fun p => vl (fun _ => 1) (mf_on R w (mf_pad R w p)))) = R 2 := by
  have hc := hi.c
  rw [t5_cg (fun w w0 w1 => seat_sum hi w0 w1), t5_swap]
  have e : t5 (R 2) (fun f => t5 (R 0) (fun w => if R (71 + 5 * f + 1) = w then 1 else 0)) = t5 (R 2) (fun _ => 1) := by
    refine t5_cg fun f f0 f1 => ?_
    try dsimp only
    have hf := hi.f f0 f1
    rw [t5_one (e := R (71 + 5 * f + 1)) (by omega) (by omega) (by omega) (fun j _ _ je => if_neg fun z => je z.symm), if_pos rfl]
  rw [e]
  unfold t5
  dsimp only
  (repeat' split) <;> omega
theorem ends_F (hi : mi K R) : ∀ (n : Nat) (l : Int) (s : Int → Int → Int), 0 ≤ l → l + n = R 1 → t5 (R 0) (fun w => t5 (R (9 + 10 * w + 0)) (fun p => mf_endF R w p n l (s w p))) = t5 (R 0) (fun w => t5 (R (9 + 10 * w + 0)) (fun p => s w p)) + 2 * n := by
  intro n
  induction n with
  | zero =>
    intro l s _ _
    show t5 (R 0) (fun w => t5 (R (9 + 10 * w + 0)) (fun p => s w p)) = _
    omega
  | succ n ih =>
    intro l s l0 l1
    have hc := hi.c
    have hl := hi.l (l := l) l0 (by omega)
    show t5 (R 0) (fun w => t5 (R (9 + 10 * w + 0)) (fun p => mf_endF R w p n (l + 1) (s w p + if (R (39 + 4 * l + 0) = w ∧ R (39 + 4 * l + 1) = p) ∨ (R (39 + 4 * l + 2) = w ∧ R (39 + 4 * l + 3) = p) then 1 else 0))) = _
    rw [ih (l + 1) (fun w p => s w p + if (R (39 + 4 * l + 0) = w ∧ R (39 + 4 * l + 1) = p) ∨ (R (39 + 4 * l + 2) = w ∧ R (39 + 4 * l + 3) = p) then 1 else 0) (by omega) (by omega)]
    have e1 : t5 (R 0) (fun w => t5 (R (9 + 10 * w + 0)) (fun p => s w p + if (R (39 + 4 * l + 0) = w ∧ R (39 + 4 * l + 1) = p) ∨ (R (39 + 4 * l + 2) = w ∧ R (39 + 4 * l + 3) = p) then 1 else 0)) = t5 (R 0) (fun w => t5 (R (9 + 10 * w + 0)) (fun p => s w p) + t5 (R (9 + 10 * w + 0)) (fun p => (if R (39 + 4 * l + 0) = w ∧ R (39 + 4 * l + 1) = p then 1 else 0) + (if R (39 + 4 * l + 2) = w ∧ R (39 + 4 * l + 3) = p then 1 else 0))) := by
      refine t5_cg fun w w0 w1 => ?_
      try dsimp only
      rw [← t5_add]
      refine t5_cg fun p p0 p1 => ?_
      try dsimp only
      by_cases q1 : R (39 + 4 * l + 0) = w ∧ R (39 + 4 * l + 1) = p
      · rw [if_pos (Or.inl q1), if_pos q1, if_neg fun z => by omega]
        rfl
      · by_cases q2 : R (39 + 4 * l + 2) = w ∧ R (39 + 4 * l + 3) = p
        · rw [if_pos (Or.inr q2), if_neg q1, if_pos q2]
          rfl
        · rw [if_neg fun z => z.elim q1 q2, if_neg q1, if_neg q2]
          rfl
    have e2 : ∀ a b : Int, 0 ≤ a → a < R 0 → 0 ≤ b → b < R (9 + 10 * a + 0) → t5 (R 0) (fun w => t5 (R (9 + 10 * w + 0)) (fun p => if a = w ∧ b = p then 1 else 0)) = 1 := by
      intro a b a0 a1 b0 b1
      have hw := hi.w a0 a1
      rw [t5_one (e := a) a0 a1 (by omega) (fun j _ _ je => t5_zero fun p _ _ => if_neg fun z => je z.1.symm), t5_one (e := b) b0 b1 (by omega) (fun p _ _ pe => if_neg fun z => pe z.2.symm), if_pos ⟨rfl, rfl⟩]
    rw [e1, t5_add, t5_cg (m := R 0) (g := fun w => t5 (R (9 + 10 * w + 0)) (fun p => (if R (39 + 4 * l + 0) = w ∧ R (39 + 4 * l + 1) = p then 1 else 0) + (if R (39 + 4 * l + 2) = w ∧ R (39 + 4 * l + 3) = p then 1 else 0))) (fun w _ _ => t5_add), t5_add, e2 _ _ hl.1.1 hl.1.2 hl.2.1.1 hl.2.1.2, e2 _ _ hl.2.2.1.1 hl.2.2.1.2 hl.2.2.2.1.1 hl.2.2.2.1.2]
    omega
theorem ends_sum (hi : mi K R) : t5 (R 0) (fun w => t5 (R (9 + 10 * w + 0)) (fun p => mf_end2 R w p)) = 2 * R 1 := by
  have hc := hi.c
  unfold mf_end2
  rw [ends_F hi (R 1).toNat 0 (fun _ _ => 0) (by omega) (by omega), t5_zero fun w _ _ => t5_zero fun p _ _ => rfl]
  omega
/-- the pads seen, by the first places -/
def pdF (n r : Int) : Nat → Int32
  | 0 => Int32.ofInt 0
  | p + 1 => pdF n r p ||| (Int32.ofInt 1 <<< (Int32.ofInt (((p : Int) - r) % n) &&& 31))
theorem pd_all {n r : Int} (n1 : 3 ≤ n) (n2 : n ≤ 5) (r1 : 0 ≤ r) (r2 : r < n) : pdF n r n.toNat = (Int32.ofInt 1 <<< (Int32.ofInt n &&& 31)) - Int32.ofInt 1 := by
  have hn : n = 3 ∨ n = 4 ∨ n = 5 := by omega
  have hr : r = 0 ∨ r = 1 ∨ r = 2 ∨ r = 3 ∨ r = 4 := by omega
  rcases hn with e | e | e <;> subst e <;> rcases hr with q | q | q | q | q <;> subst q <;> first | (exfalso; omega) | decide
theorem rnd_all {n no : Int} (n1 : 3 ≤ n) (n2 : n ≤ 5) (o1 : -4 ≤ no) (o2 : no ≤ 4) : (0 < mf_rF n no (n - 1).toNat 1 ∧ mf_rF n no (n - 1).toNat 1 ≤ n) ∧ (mf_rF n no (n - 1).toNat 1 * no).tmod n = 0 ∧ (mf_rF n no (n - 1).toNat 1 = 1 ∨ (n.tmod (mf_rF n no (n - 1).toNat 1) = 0 ∧ no.tmod n ≠ 0)) ∧ (-5 ≤ no.tmod n ∧ no.tmod n ≤ 5) ∧ (-20 ≤ mf_rF n no (n - 1).toNat 1 * no ∧ mf_rF n no (n - 1).toNat 1 * no ≤ 20) := by
  have hn : n = 3 ∨ n = 4 ∨ n = 5 := by omega
  have ho : no = -4 ∨ no = -3 ∨ no = -2 ∨ no = -1 ∨ no = 0 ∨ no = 1 ∨ no = 2 ∨ no = 3 ∨ no = 4 := by omega
  rcases hn with e | e | e <;> subst e <;> rcases ho with q | q | q | q | q | q | q | q | q <;> subst q <;> decide
end SUMS
