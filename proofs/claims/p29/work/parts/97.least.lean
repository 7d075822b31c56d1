/-! The model's least. -/
theorem bf_first2 {N : Int} {nx : Int → Int → Int} {nw : Int → Int} {s0 kk k : Int} {z : bf_Z} {P : Int → Prop} (hG : ∀ n v k, bf_D nx nw s0 n v → 0 ≤ k → k < nw v → nx v k ≠ -1 → 0 ≤ nx v k ∧ nx v k < N) (h00 : 0 ≤ s0 ∧ s0 < N) (h : bf_J N nx nw s0 z.2.2 kk z) (k0 : 0 ≤ k) (hk : k < z.2.2) (hP : P (z.2.1 k)) (hn : ∀ j, 0 ≤ j → j < k → ¬ P (z.2.1 j)) : bf_L nx nw s0 P (z.1 (z.2.1 k)) := by
  have hh := h
  obtain ⟨h0, h2, h3, h4, h5, h6, h7, h8, h9⟩ := h
  have ri := h3 k k0 hk
  refine Or.inr ⟨ri.2.2.1, ⟨_, ri.2.2.2.2, hP⟩, ?_⟩
  intro n s hs hp
  obtain ⟨j, j1, j2, j3, j4⟩ := bf_near hG h00 hh n s hs (Or.inl rfl)
  have hkj : k ≤ j := by
    refine Int.not_lt.mp fun b => hn j j1 b (by rw [j3]; exact hp)
  have := h6 k j k0 hkj j2
  rw [j3] at this
  omega
