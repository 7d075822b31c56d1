/-! The model's search: a move of the trial. -/
theorem mf_hwhy_bd (R : mr_R) (f d : Int) : 0 ≤ mf_hwhy R f d ∧ mf_hwhy R f d ≤ 9 := by
  unfold mf_hwhy mf_later
  repeat' split
  all_goals omega
