/-! The model reads: a command. -/
theorem sw_no {x c : Int} (h1 : 0 ≤ x) (h2 : x ≤ 255) (c1 : 0 ≤ c) (c2 : c ≤ 255) (h : x ≠ c) : ¬ (Int32.ofInt x = Int32.ofInt c) := by
  rw [na_eq (by omega) (by omega) (by omega) (by omega)]
  exact h
theorem it_s {α : Type} {c : Prop} {i : Decidable c} {D R : α} (h : R = D) : @ite α c i D R = D := by
  by_cases q : c
  · exact if_pos q
  · exact (if_neg q).trans h
section MMB
variable {M : Nat} {S : mr_R} {A : Nat → mr_R} {σ : ri_S} {K : Int}
theorem sw_102 {x : Int} (h1 : 0 ≤ x) (h2 : x ≤ 255) (x1 : ¬ x = 119) (x2 : ¬ x = 108) (x3 : ¬ x = 102) (x4 : ¬ x = 121) (x5 : ¬ x = 106) (x6 : ¬ x = 104) (x7 : ¬ x = 116) : (Int32.ofInt x = 102) = False ∧ (Int32.ofInt x = 104) = False ∧ (Int32.ofInt x = 106) = False ∧ (Int32.ofInt x = 108) = False ∧ (Int32.ofInt x = 116) = False ∧ (Int32.ofInt x = 119) = False ∧ (Int32.ofInt x = 121) = False := by
  rw [na_l102, na_l104, na_l106, na_l108, na_l116, na_l119, na_l121]
  exact ⟨eq_false (sw_no h1 h2 (by omega) (by omega) x3), eq_false (sw_no h1 h2 (by omega) (by omega) x6), eq_false (sw_no h1 h2 (by omega) (by omega) x5), eq_false (sw_no h1 h2 (by omega) (by omega) x2), eq_false (sw_no h1 h2 (by omega) (by omega) x7), eq_false (sw_no h1 h2 (by omega) (by omega) x1), eq_false (sw_no h1 h2 (by omega) (by omega) x4)⟩
theorem h192d {L : ri_L} {s : ri_S} {x : Int} (h1 : 0 ≤ x) (h2 : x ≤ 255) (x1 : ¬ x = 119) (x2 : ¬ x = 108) (x3 : ¬ x = 102) (x4 : ¬ x = 121) (x5 : ¬ x = 106) (x6 : ¬ x = 104) (x7 : ¬ x = 116) : ev 192 (21, L, [.int (Int32.ofInt x)]) s = ev 192 (280, L, []) s := by
  obtain ⟨h102, h104, h106, h108, h116, h119, h121⟩ := sw_102 h1 h2 x1 x2 x3 x4 x5 x6 x7
  obtain ⟨-, -, -, -, -, -, -, -, -, -, -, -, -, r14, -⟩ := I_192_0
  rw [r14]
  exact (if_neg (of_eq_false h102)).trans (it_s ((if_neg (of_eq_false h104)).trans (it_s ((if_neg (of_eq_false h106)).trans (it_s ((if_neg (of_eq_false h108)).trans (it_s (it_s (it_s (it_s (it_s (it_s (it_s ((if_neg (of_eq_false h116)).trans (it_s (it_s ((if_neg (of_eq_false h119)).trans (it_s ((if_neg (of_eq_false h121)).trans (rfl))))))))))))))))))))
end MMB
