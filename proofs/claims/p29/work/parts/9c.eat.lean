/-! Most flies: walks and what they eat. Nothing of the machine. -/
section BE
variable (nx : Int → Int → Int) (nw : Int → Int) (pd : Int → Int)
/-- what a walk of at most n steps can eat -/
def be_E : Nat → Int → mr_R → Int → Prop
  | 0, _, _, t => t = 0
  | n + 1, s, Y, t => t = 0 ∨ ∃ j t', 0 ≤ j ∧ j < nw s ∧ nx s j ≠ -1 ∧ be_E n (nx s j) (mr_st Y (pd (nx s j)) 0) t' ∧ t = Y (pd (nx s j)) + t'
def be_O (n : Nat) (s : Int) (Y : mr_R) (k t : Int) : Prop := t = 0 ∨ ∃ j t', 0 ≤ j ∧ j < k ∧ nx s j ≠ -1 ∧ be_E nx nw pd n (nx s j) (mr_st Y (pd (nx s j)) 0) t' ∧ t = Y (pd (nx s j)) + t'
def be_M (n : Nat) (s : Int) (Y : mr_R) (r : Int) : Prop := be_E nx nw pd n s Y r ∧ ∀ t, be_E nx nw pd n s Y t → t ≤ r
def be_P (n : Nat) (s : Int) (Y : mr_R) (k r : Int) : Prop := be_O nx nw pd n s Y k r ∧ ∀ t, be_O nx nw pd n s Y k t → t ≤ r
end BE
section BE2
variable {nx : Int → Int → Int} {nw : Int → Int} {pd : Int → Int}
theorem be_M_uniq {n : Nat} {s : Int} {Y : mr_R} {r r2 : Int} (h : be_M nx nw pd n s Y r) (h2 : be_M nx nw pd n s Y r2) : r = r2 := by
  have := h.2 _ h2.1
  have := h2.2 _ h.1
  omega
theorem be_E0 {n : Nat} {s : Int} {Y : mr_R} : be_E nx nw pd n s Y 0 := by
  cases n with
  | zero => exact rfl
  | succ n => exact Or.inl rfl
theorem be_M0 {s : Int} {Y : mr_R} : be_M nx nw pd 0 s Y 0 := ⟨rfl, fun t h => by rw [show t = 0 from h]; exact Int.le_refl _⟩
theorem be_P0 {n : Nat} {s : Int} {Y : mr_R} : be_P nx nw pd n s Y 0 0 := by
  refine ⟨Or.inl rfl, fun t h => ?_⟩
  rcases h with h | ⟨j, t', a, b, -⟩
  · omega
  · omega
theorem be_PM {n : Nat} {s : Int} {Y : mr_R} {r : Int} (h : be_P nx nw pd n s Y (nw s) r) : be_M nx nw pd (n + 1) s Y r := h
/-- one way more -/
theorem be_Pno {n : Nat} {s k : Int} {Y : mr_R} {r : Int} (h : be_P nx nw pd n s Y k r) (hx : nx s k = -1) : be_P nx nw pd n s Y (k + 1) r := by
  refine ⟨?_, fun t ht => h.2 t ?_⟩
  · rcases h.1 with a | ⟨j, t', a, b, c⟩
    · exact Or.inl a
    · exact Or.inr ⟨j, t', a, by omega, c⟩
  · rcases ht with a | ⟨j, t', a, b, c⟩
    · exact Or.inl a
    · by_cases e : j = k
      · rw [e] at c
        exact absurd hx c.1
      · exact Or.inr ⟨j, t', a, by omega, c⟩
theorem be_Pyes {n : Nat} {s k : Int} {Y : mr_R} {r m : Int} (h : be_P nx nw pd n s Y k r) (hk : 0 ≤ k) (hx : nx s k ≠ -1) (hm : be_M nx nw pd n (nx s k) (mr_st Y (pd (nx s k)) 0) m) : be_P nx nw pd n s Y (k + 1) (if r < Y (pd (nx s k)) + m then Y (pd (nx s k)) + m else r) := by
  refine ⟨?_, fun t ht => ?_⟩
  · by_cases c : r < Y (pd (nx s k)) + m
    · rw [if_pos c]
      exact Or.inr ⟨k, m, hk, by omega, hx, hm.1, rfl⟩
    · rw [if_neg c]
      rcases h.1 with a | ⟨j, t', a, b, d⟩
      · exact Or.inl a
      · exact Or.inr ⟨j, t', a, by omega, d⟩
  · have g : t ≤ r ∨ t ≤ Y (pd (nx s k)) + m := by
      rcases ht with a | ⟨j, t', a, b, d1, d2, d3⟩
      · exact Or.inl (h.2 t (Or.inl a))
      · by_cases e : j = k
        · rw [e] at d2 d3
          have := hm.2 t' d2
          exact Or.inr (by omega)
        · exact Or.inl (h.2 t (Or.inr ⟨j, t', a, by omega, d1, d2, d3⟩))
    split <;> omega
/-- bounds -/
theorem be_bd {G : Int → Prop} {ok : Int → Prop} (hG : ∀ s k, G s → 0 ≤ k → k < nw s → nx s k ≠ -1 → G (nx s k) ∧ ok (pd (nx s k))) : ∀ (n : Nat) (s : Int) (Y : mr_R) (t : Int), G s → (∀ a, ok a → 0 ≤ Y a ∧ Y a ≤ 9) → be_E nx nw pd n s Y t → 0 ≤ t ∧ t ≤ 9 * n := by
  intro n
  induction n with
  | zero =>
    intro s Y t _ _ h
    rw [show t = 0 from h]
    omega
  | succ n ih =>
    intro s Y t hs hY h
    rcases h with a | ⟨j, t', a, b, c, d, e⟩
    · omega
    · obtain ⟨g1, g2⟩ := hG s j hs a b c
      have y := hY _ g2
      have := ih _ _ t' g1 (fun x hx => by
        by_cases q : x = pd (nx s j)
        · rw [ms_eq q]; omega
        · rw [ms_ne q]; exact hY x hx) d
      omega
/-- only the flies of the pads that can be come to count -/
theorem be_cg {G : Int → Prop} {ok : Int → Prop} (hG : ∀ s k, G s → 0 ≤ k → k < nw s → nx s k ≠ -1 → G (nx s k) ∧ ok (pd (nx s k))) : ∀ (n : Nat) (s : Int) (Y Y2 : mr_R) (t : Int), G s → (∀ a, ok a → Y a = Y2 a) → be_E nx nw pd n s Y t → be_E nx nw pd n s Y2 t := by
  intro n
  induction n with
  | zero =>
    intro s Y Y2 t _ _ h
    exact h
  | succ n ih =>
    intro s Y Y2 t hs hY h
    rcases h with a | ⟨j, t', a, b, c, d, e⟩
    · exact Or.inl a
    · obtain ⟨g1, g2⟩ := hG s j hs a b c
      refine Or.inr ⟨j, t', a, b, c, ih _ _ _ t' g1 (fun x hx => ?_) d, by rw [← hY _ g2]; exact e⟩
      by_cases q : x = pd (nx s j)
      · rw [ms_eq q, ms_eq q]
      · rw [ms_ne q, ms_ne q]; exact hY x hx
/-- where steps go there and back the same is eaten -/
theorem be_sim {nx2 : Int → Int → Int} {nw2 : Int → Int} {pd2 : Int → Int} {ρ : Int → Int → Prop} (hF : ∀ s c k, ρ s c → 0 ≤ k → k < nw s → nx s k ≠ -1 → ∃ k2, 0 ≤ k2 ∧ k2 < nw2 c ∧ nx2 c k2 ≠ -1 ∧ ρ (nx s k) (nx2 c k2) ∧ pd (nx s k) = pd2 (nx2 c k2)) : ∀ (n : Nat) (s c : Int) (Y : mr_R) (t : Int), ρ s c → be_E nx nw pd n s Y t → be_E nx2 nw2 pd2 n c Y t := by
  intro n
  induction n with
  | zero =>
    intro s c Y t _ h
    exact h
  | succ n ih =>
    intro s c Y t hs h
    rcases h with a | ⟨j, t', a, b, d, e, f⟩
    · exact Or.inl a
    · obtain ⟨k2, k3, k4, k5, k6, k7⟩ := hF s c j hs a b d
      refine Or.inr ⟨k2, t', k3, k4, k5, ?_, by rw [← k7]; exact f⟩
      rw [← k7]
      exact ih _ _ _ t' k6 e
end BE2
