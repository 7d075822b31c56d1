/-! Distances corrected until nothing changes. -/
def bk_G (nx : Int → Int → Int) (nw : Int → Int) (P : Int → Prop) : Nat → Int → Prop
  | 0, v => P v
  | n + 1, v => ∃ k, 0 ≤ k ∧ k < nw v ∧ nx v k ≠ -1 ∧ bk_G nx nw P n (nx v k)
/-- the best distance of v, by its ways from k on -/
def bk_m (nx : Int → Int → Int) (far : mr_R) (v : Int) : Nat → Int → Int → Int
  | 0, _, b => b
  | n + 1, k, b => bk_m nx far v n (k + 1) (if nx v k = -1 then b else if far (nx v k) + 1 < b then far (nx v k) + 1 else b)
def bk_b (nx : Int → Int → Int) (nw : Int → Int) (far : mr_R) (v : Int) : Int := bk_m nx far v (nw v).toNat 0 (far v)
/-- one round, from v on: the row and whether it changed -/
def bk_a (nx : Int → Int → Int) (nw : Int → Int) (pb : mr_R) : Nat → Int → mr_R × Int → mr_R × Int
  | 0, _, z => z
  | n + 1, v, z => bk_a nx nw pb n (v + 1) (if pb v = -1 then z else (mr_st z.1 v (bk_b nx nw z.1 v), if bk_b nx nw z.1 v < z.1 v then 1 else z.2))
section BK
variable {N : Int} {nx : Int → Int → Int} {nw : Int → Int} {s0 : Int} {P : Int → Prop}
theorem bk_D : ∀ (n : Nat) (u : Int), (∃ s, bf_D nx nw u n s ∧ P s) ↔ bk_G nx nw P n u := by
  intro n
  induction n with
  | zero =>
    intro u
    constructor
    · rintro ⟨s, h, p⟩
      have h : s = u := h
      rw [h] at p; exact p
    · intro p; exact ⟨u, rfl, p⟩
  | succ n ih =>
    have key : ∀ (n : Nat) (u s : Int), bf_D nx nw u (n + 1) s ↔ ∃ k, 0 ≤ k ∧ k < nw u ∧ nx u k ≠ -1 ∧ bf_D nx nw (nx u k) n s := by
      intro n
      induction n with
      | zero =>
        intro u s
        constructor
        · rintro ⟨r, k, hr, a, b, c, d⟩
          have hr : r = u := hr
          subst hr
          exact ⟨k, a, b, c, d⟩
        · rintro ⟨k, a, b, c, d⟩
          exact ⟨u, k, rfl, a, b, c, d⟩
      | succ n ihn =>
        intro u s
        constructor
        · rintro ⟨r, k, hr, a, b, c, d⟩
          obtain ⟨k', a', b', c', d'⟩ := (ihn u r).mp hr
          exact ⟨k', a', b', c', r, k, d', a, b, c, d⟩
        · rintro ⟨k', a', b', c', r, k, d', a, b, c, d⟩
          exact ⟨r, k, (ihn u r).mpr ⟨k', a', b', c', d'⟩, a, b, c, d⟩
    intro u
    constructor
    · rintro ⟨s, h, p⟩
      obtain ⟨k, a, b, c, d⟩ := (key n u s).mp h
      exact ⟨k, a, b, c, (ih _).mp ⟨s, d, p⟩⟩
    · rintro ⟨k, a, b, c, d⟩
      obtain ⟨s, h, p⟩ := (ih _).mpr d
      exact ⟨s, (key n u s).mpr ⟨k, a, b, c, h⟩, p⟩
theorem bk_m_sp {far : mr_R} {v : Int} : ∀ (n : Nat) (k b : Int), 0 ≤ k → bk_m nx far v n k b ≤ b ∧ (∀ j, k ≤ j → j < k + n → nx v j ≠ -1 → bk_m nx far v n k b ≤ far (nx v j) + 1) ∧ (bk_m nx far v n k b = b ∨ ∃ j, k ≤ j ∧ j < k + n ∧ nx v j ≠ -1 ∧ bk_m nx far v n k b = far (nx v j) + 1) := by
  intro n
  induction n with
  | zero =>
    intro k b _
    exact ⟨Int.le_refl _, fun j a c => by omega, Or.inl rfl⟩
  | succ n ih =>
    intro k b hk
    simp only [bk_m]
    by_cases q : nx v k = -1
    · rw [if_pos q]
      obtain ⟨i1, i2, i3⟩ := ih (k + 1) b (by omega)
      refine ⟨i1, fun j a c d => ?_, ?_⟩
      · by_cases e : j = k
        · rw [e] at d; exact absurd q d
        · exact i2 j (by omega) (by omega) d
      · rcases i3 with i3 | ⟨j, a, c, d, e⟩
        · exact Or.inl i3
        · exact Or.inr ⟨j, by omega, by omega, d, e⟩
    · rw [if_neg q]
      by_cases q2 : far (nx v k) + 1 < b
      · rw [if_pos q2]
        obtain ⟨i1, i2, i3⟩ := ih (k + 1) (far (nx v k) + 1) (by omega)
        refine ⟨by omega, fun j a c d => ?_, ?_⟩
        · by_cases e : j = k
          · rw [e]; exact i1
          · exact i2 j (by omega) (by omega) d
        · rcases i3 with i3 | ⟨j, a, c, d, e⟩
          · exact Or.inr ⟨k, by omega, by omega, q, i3⟩
          · exact Or.inr ⟨j, by omega, by omega, d, e⟩
      · rw [if_neg q2]
        obtain ⟨i1, i2, i3⟩ := ih (k + 1) b (by omega)
        refine ⟨i1, fun j a c d => ?_, ?_⟩
        · by_cases e : j = k
          · rw [e]; omega
          · exact i2 j (by omega) (by omega) d
        · rcases i3 with i3 | ⟨j, a, c, d, e⟩
          · exact Or.inl i3
          · exact Or.inr ⟨j, by omega, by omega, d, e⟩
/-- each distance is one that a way has, or N -/
def bk_lo (N : Int) (nx : Int → Int → Int) (nw : Int → Int) (P : Int → Prop) (far : mr_R) : Prop := ∀ v, 0 ≤ v → v < N → 0 ≤ far v ∧ far v ≤ N ∧ (far v < N → bk_G nx nw P (far v).toNat v)
/-- what a round comes to -/
def bk_R (N : Int) (nx : Int → Int → Int) (nw : Int → Int) (P : Int → Prop) (pb : mr_R) (u : Int) (far0 : mr_R) (z : mr_R × Int) : Prop :=
  bk_lo N nx nw P z.1 ∧ (∀ v, 0 ≤ v → v < N → z.1 v ≤ far0 v) ∧ (∀ v k, 0 ≤ v → v < u → pb v ≠ -1 → 0 ≤ k → k < nw v → nx v k ≠ -1 → z.1 v ≤ far0 (nx v k) + 1) ∧ (z.2 = 0 → z.1 = far0) ∧ (z.2 = 0 ∨ z.2 = 1)
theorem bk_step {pb far0 : mr_R} {v : Int} {z : mr_R × Int} (hG : ∀ v k, 0 ≤ v → v < N → pb v ≠ -1 → 0 ≤ k → k < nw v → nx v k ≠ -1 → 0 ≤ nx v k ∧ nx v k < N) (hw : ∀ v, 0 ≤ v → v < N → 0 ≤ nw v) (h0 : 0 ≤ v) (h1 : v < N) (h : bk_R N nx nw P pb v far0 z) : bk_R N nx nw P pb (v + 1) far0 (if pb v = -1 then z else (mr_st z.1 v (bk_b nx nw z.1 v), if bk_b nx nw z.1 v < z.1 v then 1 else z.2)) := by
  obtain ⟨a1, a2, a3, a4, a5⟩ := h
  by_cases q : pb v = -1
  · rw [if_pos q]
    refine ⟨a1, a2, fun x k b1 b2 b3 => ?_, a4, a5⟩
    by_cases e : x = v
    · rw [e] at b3; exact absurd q b3
    · exact a3 x k b1 (by omega) b3
  · rw [if_neg q]
    have hn := hw v h0 h1
    obtain ⟨m1, m2, m3⟩ := bk_m_sp (nx := nx) (far := z.1) (v := v) (nw v).toNat 0 (z.1 v) (by omega)
    have m1 : bk_b nx nw z.1 v ≤ z.1 v := m1
    have m2 : ∀ j, 0 ≤ j → j < nw v → nx v j ≠ -1 → bk_b nx nw z.1 v ≤ z.1 (nx v j) + 1 := fun j b1 b2 => m2 j b1 (by omega)
    have m3 : bk_b nx nw z.1 v = z.1 v ∨ ∃ j, 0 ≤ j ∧ j < nw v ∧ nx v j ≠ -1 ∧ bk_b nx nw z.1 v = z.1 (nx v j) + 1 := by
      rcases m3 with m3 | ⟨j, b1, b2, b3, b4⟩
      · exact Or.inl m3
      · exact Or.inr ⟨j, b1, by omega, b3, b4⟩
    generalize bk_b nx nw z.1 v = b at *
    refine ⟨?_, ?_, ?_, ?_, ?_⟩
    · intro x b1 b2
      show 0 ≤ mr_st z.1 v b x ∧ mr_st z.1 v b x ≤ N ∧ (mr_st z.1 v b x < N → bk_G nx nw P (mr_st z.1 v b x).toNat x)
      by_cases e : x = v
      · rw [ms_eq e]
        have av := a1 v h0 h1
        rcases m3 with m3 | ⟨j, c1, c2, c3, c4⟩
        · rw [m3, e]; exact av
        · have aj := hG v j h0 h1 q c1 c2 c3
          have an := a1 _ aj.1 aj.2
          refine ⟨by omega, by omega, fun c5 => ?_⟩
          have e1 : b.toNat = (z.1 (nx v j)).toNat + 1 := by omega
          rw [e1, e]
          exact ⟨j, c1, c2, c3, an.2.2 (by omega)⟩
      · rw [ms_ne e]; exact a1 x b1 b2
    · intro x b1 b2
      show mr_st z.1 v b x ≤ far0 x
      by_cases e : x = v
      · rw [ms_eq e, e]
        have := a2 v h0 h1
        omega
      · rw [ms_ne e]; exact a2 x b1 b2
    · intro x k b1 b2 b3 b4 b5 b6
      show mr_st z.1 v b x ≤ far0 (nx x k) + 1
      by_cases e : x = v
      · subst e
        rw [ms_eq rfl]
        have aj := hG x k h0 h1 q b4 b5 b6
        have := a2 _ aj.1 aj.2
        have := m2 k b4 b5 b6
        omega
      · rw [ms_ne e]; exact a3 x k b1 (by omega) b3 b4 b5 b6
    · intro c
      have c : (if b < z.1 v then 1 else z.2) = 0 := c
      show mr_st z.1 v b = far0
      by_cases e : b < z.1 v
      · rw [if_pos e] at c; omega
      · rw [if_neg e] at c
        rw [ms_id (by omega)]
        exact a4 c
    · show (if b < z.1 v then 1 else z.2) = 0 ∨ (if b < z.1 v then 1 else z.2) = 1
      split
      · exact Or.inr rfl
      · exact a5
theorem bk_round {pb far0 : mr_R} (hG : ∀ v k, 0 ≤ v → v < N → pb v ≠ -1 → 0 ≤ k → k < nw v → nx v k ≠ -1 → 0 ≤ nx v k ∧ nx v k < N) (hw : ∀ v, 0 ≤ v → v < N → 0 ≤ nw v) : ∀ (n : Nat) (v : Int) (z : mr_R × Int), 0 ≤ v → v + n = N → bk_R N nx nw P pb v far0 z → bk_R N nx nw P pb N far0 (bk_a nx nw pb n v z) := by
  intro n
  induction n with
  | zero =>
    intro v z h0 h1 h
    obtain rfl : v = N := by omega
    exact h
  | succ n ih =>
    intro v z h0 h1 h
    simp only [bk_a]
    exact ih (v + 1) _ (by omega) (by omega) (bk_step hG hw h0 (by omega) h)
/-- what holds behind t rounds -/
def bk_T (N : Int) (nx : Int → Int → Int) (nw : Int → Int) (P : Int → Prop) (pb : mr_R) (t : Int) (far : mr_R) : Prop := bk_lo N nx nw P far ∧ ∀ (n : Nat) (v : Int), (n : Int) ≤ t → 0 ≤ v → v < N → pb v ≠ -1 → bk_G nx nw P n v → far v ≤ n
theorem bk_T0 {pb far : mr_R} (h : ∀ v, 0 ≤ v → v < N → (P v → far v = 0) ∧ (¬ P v → far v = N)) (hN : 0 < N) : bk_T N nx nw P pb 0 far := by
  constructor
  · intro v a b
    by_cases p : P v
    · rw [(h v a b).1 p]
      exact ⟨by omega, by omega, fun _ => p⟩
    · rw [(h v a b).2 p]
      exact ⟨by omega, by omega, fun c => by omega⟩
  · intro n v a b c _ g
    obtain rfl : n = 0 := by omega
    rw [(h v b c).1 g]
    omega
theorem bk_R0 {pb far : mr_R} (h : bk_lo N nx nw P far) : bk_R N nx nw P pb 0 far (far, 0) := ⟨h, fun _ _ _ => Int.le_refl _, fun v k a b => by omega, fun _ => rfl, Or.inl rfl⟩
theorem bk_TS {pb far : mr_R} {z : mr_R × Int} {t : Int} (ht : 0 ≤ t) (hG : ∀ v k, 0 ≤ v → v < N → pb v ≠ -1 → 0 ≤ k → k < nw v → nx v k ≠ -1 → 0 ≤ nx v k ∧ nx v k < N) (hV : ∀ v k, 0 ≤ v → v < N → pb v ≠ -1 → 0 ≤ k → k < nw v → nx v k ≠ -1 → pb (nx v k) ≠ -1) (h : bk_T N nx nw P pb t far) (h2 : bk_R N nx nw P pb N far z) : bk_T N nx nw P pb (t + 1) z.1 := by
  refine ⟨h2.1, ?_⟩
  intro n v a b c d g
  by_cases e : (n : Int) ≤ t
  · have := h.2 n v e b c d g
    have := h2.2.1 v b c
    omega
  · cases n with
    | zero =>
      omega
    | succ n =>
      obtain ⟨k, k1, k2, k3, k4⟩ := g
      have hg := hG v k b c d k1 k2 k3
      have hv := hV v k b c d k1 k2 k3
      have := h.2 n _ (by omega) hg.1 hg.2 hv k4
      have := h2.2.2.1 v k b c d k1 k2 k3
      omega
/-- nothing changed: all distances stand -/
theorem bk_fix {pb far : mr_R} {z : mr_R × Int} {t : Int} (ht : 0 ≤ t) (hG : ∀ v k, 0 ≤ v → v < N → pb v ≠ -1 → 0 ≤ k → k < nw v → nx v k ≠ -1 → 0 ≤ nx v k ∧ nx v k < N) (hV : ∀ v k, 0 ≤ v → v < N → pb v ≠ -1 → 0 ≤ k → k < nw v → nx v k ≠ -1 → pb (nx v k) ≠ -1) (h : bk_T N nx nw P pb t far) (h2 : bk_R N nx nw P pb N far z) (h3 : z.2 = 0) (t2 : Int) : bk_T N nx nw P pb t2 z.1 := by
  have e := h2.2.2.2.1 h3
  refine ⟨h2.1, ?_⟩
  have key : ∀ (n : Nat) (v : Int), 0 ≤ v → v < N → pb v ≠ -1 → bk_G nx nw P n v → far v ≤ n := by
    intro n
    induction n with
    | zero => intro v b c d g; exact h.2 0 v (by omega) b c d g
    | succ n ih =>
      intro v b c d g
      obtain ⟨k, k1, k2, k3, k4⟩ := g
      have hg := hG v k b c d k1 k2 k3
      have := ih _ hg.1 hg.2 (hV v k b c d k1 k2 k3) k4
      have := h2.2.2.1 v k b c d k1 k2 k3
      rw [e] at this
      omega
  intro n v _ b c d g
  rw [e]
  exact key n v b c d g
/-- what is told in the end -/
theorem bk_end {pb far : mr_R} (h : bk_T N nx nw P pb N far) (h0 : 0 ≤ s0) (h1 : s0 < N) (hs : pb s0 ≠ -1) {r : Int} (hr : bf_L nx nw s0 P r) (hr2 : r < N) : bf_L nx nw s0 P (if far s0 < N then far s0 else -1) := by
  have hlo := h.1 s0 h0 h1
  by_cases q : far s0 < N
  · rw [if_pos q]
    obtain ⟨s, d1, d2⟩ := (bk_D (nx := nx) (nw := nw) (P := P) _ _).mpr (hlo.2.2 q)
    refine Or.inr ⟨hlo.1, ⟨s, d1, d2⟩, ?_⟩
    intro n s d1 d2
    by_cases e : (n : Int) ≤ N
    · exact h.2 n s0 e h0 h1 hs ((bk_D _ _).mp ⟨s, d1, d2⟩)
    · omega
  · rw [if_neg q]
    rcases hr with ⟨a, b⟩ | ⟨a, ⟨s, b1, b2⟩, c⟩
    · exact Or.inl ⟨rfl, b⟩
    · have := h.2 r.toNat s0 (by omega) h0 h1 hs ((bk_D _ _).mp ⟨s, b1, b2⟩)
      omega
end BK
