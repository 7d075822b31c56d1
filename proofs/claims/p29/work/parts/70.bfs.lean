/-! Ways through a graph: waves, and corrections of distances. Nothing of the machine. -/
/-- what n steps from s0 come to -/
def bf_D (nx : Int → Int → Int) (nw : Int → Int) (s0 : Int) : Nat → Int → Prop
  | 0, s => s = s0
  | n + 1, s => ∃ r k, bf_D nx nw s0 n r ∧ 0 ≤ k ∧ k < nw r ∧ nx r k ≠ -1 ∧ s = nx r k
/-- the fewest steps to P, or -1 -/
def bf_L (nx : Int → Int → Int) (nw : Int → Int) (s0 : Int) (P : Int → Prop) (r : Int) : Prop :=
  (r = -1 ∧ ∀ n s, bf_D nx nw s0 n s → ¬ P s) ∨ (0 ≤ r ∧ (∃ s, bf_D nx nw s0 r.toNat s ∧ P s) ∧ ∀ n s, bf_D nx nw s0 n s → P s → r ≤ n)
theorem bf_L_uniq {nx : Int → Int → Int} {nw : Int → Int} {s0 : Int} {P : Int → Prop} {r r2 : Int} (h : bf_L nx nw s0 P r) (h2 : bf_L nx nw s0 P r2) : r = r2 := by
  rcases h with ⟨a, b⟩ | ⟨a, ⟨s, b1, b2⟩, c⟩
  · rcases h2 with ⟨a2, -⟩ | ⟨a2, ⟨s, b1, b2⟩, -⟩
    · rw [a, a2]
    · exact absurd b2 (b _ _ b1)
  · rcases h2 with ⟨a2, b3⟩ | ⟨a2, ⟨s2, b3, b4⟩, c2⟩
    · exact absurd b2 (b3 _ _ b1)
    · have := c _ _ b3 b4
      have := c2 _ _ b1 b2
      omega
abbrev bf_Z : Type := mr_R × mr_R × Int
/-- far, queue, end: what the way k of u adds -/
def bf_1 (nx : Int → Int → Int) (u k : Int) (z : bf_Z) : bf_Z := if nx u k ≠ -1 ∧ z.1 (nx u k) = -1 then (mr_st z.1 (nx u k) (z.1 u + 1), mr_st z.2.1 z.2.2 (nx u k), z.2.2 + 1) else z
def bf_in (nx : Int → Int → Int) (u : Int) : Nat → Int → bf_Z → bf_Z
  | 0, _, z => z
  | n + 1, k, z => bf_in nx u n (k + 1) (bf_1 nx u k z)
/-- what holds while the place i of the queue is worked on, its ways below kk being done -/
def bf_J (N : Int) (nx : Int → Int → Int) (nw : Int → Int) (s0 i kk : Int) (z : bf_Z) : Prop :=
  (0 ≤ i ∧ i ≤ z.2.2 ∧ 1 ≤ z.2.2) ∧ (z.2.1 0 = s0 ∧ z.1 s0 = 0) ∧
  (∀ j, 0 ≤ j → j < z.2.2 → 0 ≤ z.2.1 j ∧ z.2.1 j < N ∧ 0 ≤ z.1 (z.2.1 j) ∧ z.1 (z.2.1 j) ≤ j ∧ bf_D nx nw s0 (z.1 (z.2.1 j)).toNat (z.2.1 j)) ∧
  (∀ v, 0 ≤ v → v < N → z.1 v ≠ -1 → ∃ j, 0 ≤ j ∧ j < z.2.2 ∧ z.2.1 j = v) ∧
  (∀ j k, 0 ≤ j → j < z.2.2 → 0 ≤ k → k < z.2.2 → z.2.1 j = z.2.1 k → j = k) ∧
  (∀ j k, 0 ≤ j → j ≤ k → k < z.2.2 → z.1 (z.2.1 j) ≤ z.1 (z.2.1 k)) ∧
  (∀ j, i < z.2.2 → 0 ≤ j → j < z.2.2 → z.1 (z.2.1 j) ≤ z.1 (z.2.1 i) + 1) ∧
  (∀ j k, 0 ≤ j → j < i → 0 ≤ k → k < nw (z.2.1 j) → nx (z.2.1 j) k ≠ -1 → z.1 (nx (z.2.1 j) k) ≠ -1 ∧ z.1 (nx (z.2.1 j) k) ≤ z.1 (z.2.1 j) + 1) ∧
  (∀ k, i < z.2.2 → 0 ≤ k → k < kk → nx (z.2.1 i) k ≠ -1 → z.1 (nx (z.2.1 i) k) ≠ -1 ∧ z.1 (nx (z.2.1 i) k) ≤ z.1 (z.2.1 i) + 1)
section BF
variable {N : Int} {nx : Int → Int → Int} {nw : Int → Int} {s0 : Int}
theorem bf_J0 {far Q : mr_R} (h0 : 0 ≤ s0) (h1 : s0 < N) (hf : ∀ v, 0 ≤ v → v < N → far v = if v = s0 then 0 else -1) (hq : Q 0 = s0) : bf_J N nx nw s0 0 0 (far, Q, 1) := by
  have e0 : far s0 = 0 := by rw [hf s0 h0 h1, if_pos rfl]
  have j0 : ∀ j : Int, 0 ≤ j → j < 1 → j = 0 := fun j a b => by omega
  refine ⟨⟨by omega, by show (0 : Int) ≤ 1; omega, by show (1 : Int) ≤ 1; omega⟩, ⟨hq, e0⟩, ?_, ?_, ?_, ?_, ?_, ?_, ?_⟩
  · intro j a b
    obtain rfl := j0 j a b
    show 0 ≤ Q 0 ∧ Q 0 < N ∧ 0 ≤ far (Q 0) ∧ far (Q 0) ≤ 0 ∧ bf_D nx nw s0 (far (Q 0)).toNat (Q 0)
    rw [hq, e0]
    exact ⟨h0, h1, by omega, by omega, rfl⟩
  · intro v a b c
    refine ⟨0, by omega, by show (0 : Int) < 1; omega, ?_⟩
    have c2 : far v ≠ -1 := c
    rw [hf v a b] at c2
    by_cases e : v = s0
    · rw [e]; exact hq
    · rw [if_neg e] at c2; exact absurd rfl c2
  · intro j k a b c d _
    rw [j0 j a b, j0 k c d]
  · intro j k a b c
    have c : k < 1 := c
    rw [j0 j a (by omega), j0 k (by omega) c]
    exact Int.le_refl _
  · intro j a b c
    rw [j0 j b c]
    show far (Q 0) ≤ far (Q 0) + 1
    omega
  · intro j k a b; omega
  · intro k a b c; omega
/-- no more places than there are -/
theorem bf_le {i kk : Int} {z : bf_Z} (h : bf_J N nx nw s0 i kk z) (hN : 0 ≤ N) : z.2.2 ≤ N := by
  obtain ⟨h0, -, h3, -, h5, -⟩ := h
  have hn : ((List.range z.2.2.toNat).map fun (j : Nat) => (z.2.1 (j : Int)).toNat).Nodup := by
    rw [List.nodup_iff_pairwise_ne, List.pairwise_map]
    refine (List.nodup_range).imp_of_mem ?_
    intro a b ha hb hab e
    rw [List.mem_range] at ha hb
    have ra := h3 a (by omega) (by omega)
    have rb := h3 b (by omega) (by omega)
    have := h5 a b (by omega) (by omega) (by omega) (by omega) (by omega)
    omega
  have hs : ((List.range z.2.2.toNat).map fun (j : Nat) => (z.2.1 (j : Int)).toNat) ⊆ List.range N.toNat := by
    intro x hx
    obtain ⟨j, hj, rfl⟩ := List.mem_map.mp hx
    rw [List.mem_range] at hj ⊢
    have ra := h3 j (by omega) (by omega)
    omega
  have := hn.length_le_of_subset hs
  rw [List.length_map, List.length_range, List.length_range] at this
  omega
theorem bf_step {i kk : Int} {z : bf_Z} (hG : ∀ n v k, bf_D nx nw s0 n v → 0 ≤ k → k < nw v → nx v k ≠ -1 → 0 ≤ nx v k ∧ nx v k < N) (h : bf_J N nx nw s0 i kk z) (hi : i < z.2.2) (hk : 0 ≤ kk) (hkw : kk < nw (z.2.1 i)) : bf_J N nx nw s0 i (kk + 1) (bf_1 nx (z.2.1 i) kk z) := by
  obtain ⟨h0, h2, h3, h4, h5, h6, h7, h8, h9⟩ := h
  unfold bf_1
  have ri := h3 i h0.1 hi
  by_cases q : nx (z.2.1 i) kk ≠ -1 ∧ z.1 (nx (z.2.1 i) kk) = -1
  · rw [if_pos q]
    have rv := hG _ _ _ ri.2.2.2.2 hk hkw q.1
    generalize hv : nx (z.2.1 i) kk = v at *
    generalize hu : z.2.1 i = u at *
    have old : ∀ j, 0 ≤ j → j < z.2.2 → mr_st z.2.1 z.2.2 v j = z.2.1 j := fun j a b => ms_ne (by omega)
    have new : mr_st z.2.1 z.2.2 v z.2.2 = v := ms_eq rfl
    have nev : ∀ j, 0 ≤ j → j < z.2.2 → z.2.1 j ≠ v := fun j a b e => by
      have := (h3 j a b).2.2.1
      rw [e, q.2] at this
      omega
    have fold : ∀ j, 0 ≤ j → j < z.2.2 → mr_st z.1 v (z.1 u + 1) (z.2.1 j) = z.1 (z.2.1 j) := fun j a b => ms_ne (nev j a b)
    have fnew : mr_st z.1 v (z.1 u + 1) v = z.1 u + 1 := ms_eq rfl
    have fok : ∀ x, z.1 x ≠ -1 → mr_st z.1 v (z.1 u + 1) x = z.1 x := fun x hx => ms_ne (fun e => hx (by rw [e]; exact q.2))
    have huv := nev i h0.1 hi
    rw [hu] at huv
    have fu : mr_st z.1 v (z.1 u + 1) u = z.1 u := ms_ne huv
    refine ⟨⟨h0.1, by show i ≤ z.2.2 + 1; omega, by show 1 ≤ z.2.2 + 1; omega⟩, ⟨?_, ?_⟩, ?_, ?_, ?_, ?_, ?_, ?_, ?_⟩
    · show mr_st z.2.1 z.2.2 v 0 = s0
      rw [old 0 (by omega) (by omega)]; exact h2.1
    · show mr_st z.1 v (z.1 u + 1) s0 = 0
      rw [fok s0 (by rw [h2.2]; omega)]; exact h2.2
    · intro j a b
      show 0 ≤ mr_st z.2.1 z.2.2 v j ∧ mr_st z.2.1 z.2.2 v j < N ∧ 0 ≤ mr_st z.1 v (z.1 u + 1) (mr_st z.2.1 z.2.2 v j) ∧ mr_st z.1 v (z.1 u + 1) (mr_st z.2.1 z.2.2 v j) ≤ j ∧ bf_D nx nw s0 (mr_st z.1 v (z.1 u + 1) (mr_st z.2.1 z.2.2 v j)).toNat (mr_st z.2.1 z.2.2 v j)
      have b : j < z.2.2 + 1 := b
      by_cases e : j = z.2.2
      · rw [e, new, fnew]
        have e1 : (z.1 u + 1).toNat = (z.1 u).toNat + 1 := by omega
        refine ⟨rv.1, rv.2, by omega, by omega, ?_⟩
        rw [e1]
        exact ⟨u, kk, ri.2.2.2.2, hk, hkw, by rw [hv]; exact q.1, hv.symm⟩
      · rw [old j a (by omega), fold j a (by omega)]
        exact h3 j a (by omega)
    · intro x a b c
      have c : mr_st z.1 v (z.1 u + 1) x ≠ -1 := c
      by_cases e : x = v
      · exact ⟨z.2.2, by omega, by show z.2.2 < z.2.2 + 1; omega, by rw [e]; exact new⟩
      · rw [ms_ne e] at c
        obtain ⟨j, j1, j2, j3⟩ := h4 x a b c
        exact ⟨j, j1, by show j < z.2.2 + 1; omega, by show mr_st z.2.1 z.2.2 v j = x; rw [old j j1 j2]; exact j3⟩
    · intro j k a b c d e
      have b : j < z.2.2 + 1 := b
      have d : k < z.2.2 + 1 := d
      have e : mr_st z.2.1 z.2.2 v j = mr_st z.2.1 z.2.2 v k := e
      by_cases ej : j = z.2.2
      · by_cases ek : k = z.2.2
        · rw [ej, ek]
        · rw [ej, new, old k c (by omega)] at e
          exact absurd e.symm (nev k c (by omega))
      · by_cases ek : k = z.2.2
        · rw [ek, new, old j a (by omega)] at e
          exact absurd e (nev j a (by omega))
        · rw [old j a (by omega), old k c (by omega)] at e
          exact h5 j k a (by omega) c (by omega) e
    · intro j k a b c
      have c : k < z.2.2 + 1 := c
      show mr_st z.1 v (z.1 u + 1) (mr_st z.2.1 z.2.2 v j) ≤ mr_st z.1 v (z.1 u + 1) (mr_st z.2.1 z.2.2 v k)
      by_cases ek : k = z.2.2
      · rw [ek, new, fnew]
        by_cases ej : j = z.2.2
        · rw [ej, new, fnew]; exact Int.le_refl _
        · rw [old j a (by omega), fold j a (by omega)]
          exact h7 j hi a (by omega)
      · rw [old j a (by omega), fold j a (by omega), old k (by omega) (by omega), fold k (by omega) (by omega)]
        exact h6 j k a b (by omega)
    · intro j _ a b
      have b : j < z.2.2 + 1 := b
      show mr_st z.1 v (z.1 u + 1) (mr_st z.2.1 z.2.2 v j) ≤ mr_st z.1 v (z.1 u + 1) (mr_st z.2.1 z.2.2 v i) + 1
      rw [old i h0.1 hi, hu, fu]
      by_cases ej : j = z.2.2
      · rw [ej, new, fnew]; exact Int.le_refl _
      · rw [old j a (by omega), fold j a (by omega)]
        exact h7 j hi a (by omega)
    · intro j k a b c d e
      have d : k < nw (mr_st z.2.1 z.2.2 v j) := d
      have e : nx (mr_st z.2.1 z.2.2 v j) k ≠ -1 := e
      show mr_st z.1 v (z.1 u + 1) (nx (mr_st z.2.1 z.2.2 v j) k) ≠ -1 ∧ mr_st z.1 v (z.1 u + 1) (nx (mr_st z.2.1 z.2.2 v j) k) ≤ mr_st z.1 v (z.1 u + 1) (mr_st z.2.1 z.2.2 v j) + 1
      rw [old j a (by omega)] at d e ⊢
      have w := h8 j k a b c d e
      rw [fok _ w.1, fold j a (by omega)]
      exact w
    · intro k _ a b e
      have e : nx (mr_st z.2.1 z.2.2 v i) k ≠ -1 := e
      show mr_st z.1 v (z.1 u + 1) (nx (mr_st z.2.1 z.2.2 v i) k) ≠ -1 ∧ mr_st z.1 v (z.1 u + 1) (nx (mr_st z.2.1 z.2.2 v i) k) ≤ mr_st z.1 v (z.1 u + 1) (mr_st z.2.1 z.2.2 v i) + 1
      rw [old i h0.1 hi, hu] at e ⊢
      rw [fu]
      by_cases ek : k = kk
      · rw [ek, hv, fnew]
        exact ⟨by omega, Int.le_refl _⟩
      · have w := h9 k hi a (by omega) e
        rw [fok _ w.1]
        exact w
  · rw [if_neg q]
    refine ⟨h0, h2, h3, h4, h5, h6, h7, h8, ?_⟩
    intro k _ a b e
    by_cases ek : k = kk
    · rw [ek] at e ⊢
      have e2 : z.1 (nx (z.2.1 i) kk) ≠ -1 := fun w => q ⟨e, w⟩
      refine ⟨e2, ?_⟩
      have rv := hG _ _ _ ri.2.2.2.2 hk hkw e
      obtain ⟨j, j1, j2, j3⟩ := h4 _ rv.1 rv.2 e2
      rw [← j3]
      exact h7 j hi j1 j2
    · exact h9 k hi a (by omega) e
/-- all ways of a place done: on to the next -/
theorem bf_next {i : Int} {z : bf_Z} (h : bf_J N nx nw s0 i (nw (z.2.1 i)) z) (hi : i < z.2.2) : bf_J N nx nw s0 (i + 1) 0 z := by
  obtain ⟨h0, h2, h3, h4, h5, h6, h7, h8, h9⟩ := h
  refine ⟨⟨by omega, by omega, h0.2.2⟩, h2, h3, h4, h5, h6, ?_, ?_, ?_⟩
  · intro j a b c
    have := h7 j hi b c
    have := h6 i (i + 1) h0.1 (by omega) a
    omega
  · intro j k a b c d e
    by_cases ej : j = i
    · rw [ej] at d e ⊢
      exact h9 k hi c d e
    · exact h8 j k a (by omega) c d e
  · intro k a b c; omega
/-- what is nearer than the place i was met before it -/
theorem bf_near {i kk : Int} {z : bf_Z} (hG : ∀ n v k, bf_D nx nw s0 n v → 0 ≤ k → k < nw v → nx v k ≠ -1 → 0 ≤ nx v k ∧ nx v k < N) (h00 : 0 ≤ s0 ∧ s0 < N) (h : bf_J N nx nw s0 i kk z) : ∀ (n : Nat) (s : Int), bf_D nx nw s0 n s → (i = z.2.2 ∨ (n : Int) ≤ z.1 (z.2.1 i)) → ∃ j, 0 ≤ j ∧ j < z.2.2 ∧ z.2.1 j = s ∧ z.1 s ≤ n := by
  obtain ⟨h0, h2, h3, h4, h5, h6, h7, h8, h9⟩ := h
  intro n
  induction n with
  | zero =>
    intro s hs _
    have hs : s = s0 := hs
    rw [hs]
    exact ⟨0, by omega, by omega, h2.1, by rw [h2.2]; omega⟩
  | succ n ih =>
    intro s hs hb
    obtain ⟨r, k, hr, k1, k2, k3, rfl⟩ := hs
    obtain ⟨j, j1, j2, j3, j4⟩ := ih r hr (by omega)
    have hji : j < i := by
      rcases hb with hb | hb
      · omega
      · refine Int.not_le.mp fun a => ?_
        by_cases hie : i < z.2.2
        · have := h6 i j h0.1 a j2
          rw [j3] at this
          omega
        · omega
    have w := h8 j k j1 hji k1 (by rw [j3]; exact k2) (by rw [j3]; exact k3)
    rw [j3] at w
    have rv := hG _ _ _ hr k1 k2 k3
    obtain ⟨j', a1, a2, a3⟩ := h4 _ rv.1 rv.2 w.1
    exact ⟨j', a1, a2, a3, by omega⟩
/-- the first place of the queue with P tells the fewest steps -/
theorem bf_first {i kk : Int} {z : bf_Z} {P : Int → Prop} (hG : ∀ n v k, bf_D nx nw s0 n v → 0 ≤ k → k < nw v → nx v k ≠ -1 → 0 ≤ nx v k ∧ nx v k < N) (h00 : 0 ≤ s0 ∧ s0 < N) (h : bf_J N nx nw s0 i kk z) (hi : i < z.2.2) (hP : P (z.2.1 i)) (hn : ∀ j, 0 ≤ j → j < i → ¬ P (z.2.1 j)) : bf_L nx nw s0 P (z.1 (z.2.1 i)) := by
  have hh := h
  obtain ⟨h0, h2, h3, h4, h5, h6, h7, h8, h9⟩ := h
  have ri := h3 i h0.1 hi
  refine Or.inr ⟨ri.2.2.1, ⟨_, ri.2.2.2.2, hP⟩, ?_⟩
  intro n s hs hp
  refine Int.not_lt.mp fun a => ?_
  obtain ⟨j, j1, j2, j3, j4⟩ := bf_near hG h00 hh n s hs (Or.inr (by omega))
  have hji : j < i := by
    refine Int.not_le.mp fun b => ?_
    have := h6 i j h0.1 b j2
    rw [j3] at this
    omega
  exact hn j j1 hji (by rw [j3]; exact hp)
theorem bf_none {kk : Int} {z : bf_Z} {P : Int → Prop} (hG : ∀ n v k, bf_D nx nw s0 n v → 0 ≤ k → k < nw v → nx v k ≠ -1 → 0 ≤ nx v k ∧ nx v k < N) (h00 : 0 ≤ s0 ∧ s0 < N) (h : bf_J N nx nw s0 z.2.2 kk z) (hn : ∀ j, 0 ≤ j → j < z.2.2 → ¬ P (z.2.1 j)) : bf_L nx nw s0 P (-1) := by
  refine Or.inl ⟨rfl, ?_⟩
  intro n s hs hp
  obtain ⟨j, j1, j2, j3, j4⟩ := bf_near hG h00 h n s hs (Or.inl rfl)
  exact hn j j1 j2 (by rw [j3]; exact hp)
/-- what is reached: behind the whole queue -/
theorem bf_reach {kk : Int} {z : bf_Z} (hG : ∀ n v k, bf_D nx nw s0 n v → 0 ≤ k → k < nw v → nx v k ≠ -1 → 0 ≤ nx v k ∧ nx v k < N) (h00 : 0 ≤ s0 ∧ s0 < N) (h : bf_J N nx nw s0 z.2.2 kk z) {s : Int} (a : 0 ≤ s) (b : s < N) : z.1 s ≠ -1 ↔ ∃ n, bf_D nx nw s0 n s := by
  constructor
  · intro q
    have hh := h
    obtain ⟨h0, h2, h3, h4, -⟩ := h
    obtain ⟨j, j1, j2, j3⟩ := h4 s a b q
    have := (h3 j j1 j2).2.2.2.2
    rw [j3] at this
    exact ⟨_, this⟩
  · rintro ⟨n, hs⟩
    obtain ⟨j, j1, j2, j3, j4⟩ := bf_near hG h00 h n s hs (Or.inl rfl)
    have := (h.2.2.1 j j1 j2).2.2.1
    rw [j3] at this
    omega
end BF
