/-! The model's calls that tell numbers; its text buffer. -/
section MMB
variable {M : Nat} {S : mr_R} {A : Nat → mr_R} {σ : ri_S} {K : Int}
theorem mf_endF1 {R : mr_R} {w p l s : Int} {n : Nat} (h : (R (39 + 4 * l + 0) = w ∧ R (39 + 4 * l + 1) = p) ∨ (R (39 + 4 * l + 2) = w ∧ R (39 + 4 * l + 3) = p)) : mf_endF R w p (n + 1) l s = mf_endF R w p n (l + 1) (s + 1) := by
  simp only [mf_endF]
  rw [if_pos h]
theorem mf_endF0 {R : mr_R} {w p l s : Int} {n : Nat} (h : ¬ ((R (39 + 4 * l + 0) = w ∧ R (39 + 4 * l + 1) = p) ∨ (R (39 + 4 * l + 2) = w ∧ R (39 + 4 * l + 3) = p))) : mf_endF R w p (n + 1) l s = mf_endF R w p n (l + 1) (s + 0) := by
  simp only [mf_endF]
  rw [if_neg h]
end MMB
