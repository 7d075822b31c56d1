/-! Texts: what may stand where, and what a text does. -/
/-- a sign that is asked for, of a kind -/
def tx_al (X : mr_R) (k j : Int) : Bool := if k = 110 then decide (51 ≤ X j ∧ X j ≤ 53) else if k = 111 then decide (48 ≤ X j ∧ X j ≤ 56) else if k = 116 then decide (48 ≤ X j ∧ X j ≤ 51) else if k = 117 then decide (48 ≤ X j ∧ X j ≤ (if X (j - 1) = 51 then 48 else 57)) else if k = 119 then decide (48 ≤ X j ∧ X j ≤ 50) else if k = 112 then decide (48 ≤ X j ∧ X j ≤ 52) else if k = 102 then decide (48 ≤ X j ∧ X j ≤ 52) else if k = 100 then decide (49 ≤ X j ∧ X j ≤ 57) else if k = 108 then decide (48 ≤ X j ∧ X j ≤ 55) else if k = 107 then decide (49 ≤ X j ∧ X j ≤ 52) else decide (X j = 43 ∨ X j = 45)
def tx_fm (c : Int) : List Int := if c = 119 then [110, 111, 116, 117] else if c = 108 then [119, 112, 119, 112] else if c = 102 then [119, 112, 100] else if c = 121 then [119, 112, 100] else if c = 106 then [102, 108] else if c = 104 then [102, 115] else if c = 116 then [119, 107] else []
def tx_wk (X : mr_R) (n : Int) : List Int → Int → Int × Bool
  | [], j => (j, true)
  | k :: l, j => if j < n ∧ tx_al X k j = true then tx_wk X n l (j + 1) else (j, false)
/-- the command at i: where it ends, or what is wrong -/
def tx_cm (X : mr_R) (n i : Int) : Int × Bool := if tx_fm (X i) = [] then (i, false) else tx_wk X n (tx_fm (X i)) (i + 1)
/-- what the command at i does: the row, and how many are left out -/
def tx_do (X : mr_R) (i : Int) (z : mr_R × Int) : mr_R × Int :=
  if X i = 119 then (mg_tW z.1 (X (i + 1) - 48) (X (i + 2) - 48 - 4) (10 * (X (i + 3) - 48) + (X (i + 4) - 48)), z.2 + if mf_fW z.1 (X (i + 1) - 48) (X (i + 2) - 48 - 4) (10 * (X (i + 3) - 48) + (X (i + 4) - 48)) = 0 then 0 else 1)
  else if X i = 108 then (mg_tL z.1 (X (i + 1) - 48) (X (i + 2) - 48) (X (i + 3) - 48) (X (i + 4) - 48), z.2 + if mf_fL z.1 (X (i + 1) - 48) (X (i + 2) - 48) (X (i + 3) - 48) (X (i + 4) - 48) = 0 then 0 else 1)
  else if X i = 102 then (mg_tF z.1 (X (i + 1) - 48) (X (i + 2) - 48) (X (i + 3) - 48), z.2 + if mf_fF z.1 (X (i + 1) - 48) (X (i + 2) - 48) (X (i + 3) - 48) = 0 then 0 else 1)
  else if X i = 121 then (mg_tY z.1 (X (i + 1) - 48) (X (i + 2) - 48) (X (i + 3) - 48), z.2 + if mf_fY z.1 (X (i + 1) - 48) (X (i + 2) - 48) (X (i + 3) - 48) = 0 then 0 else 1)
  else if X i = 106 then (if X (i + 1) - 48 < z.1 2 ∧ X (i + 2) - 48 < z.1 1 then (mg_leap z.1 (X (i + 1) - 48) (X (i + 2) - 48), z.2 + if mf_why z.1 (X (i + 1) - 48) (X (i + 2) - 48) = 0 then 0 else 1) else (z.1, z.2 + 1))
  else if X i = 104 then (if X (i + 1) - 48 < z.1 2 then (mg_hop z.1 (X (i + 1) - 48) (if X (i + 2) = 43 then 1 else -1), z.2 + if mf_hwhy z.1 (X (i + 1) - 48) (if X (i + 2) = 43 then 1 else -1) = 0 then 0 else 1) else (z.1, z.2 + 1))
  else (mg_tT z.1 (X (i + 1) - 48) (X (i + 2) - 48), z.2 + if mf_fT z.1 (X (i + 1) - 48) (X (i + 2) - 48) = 0 then 0 else 1)
/-- the commands from i on: where it is wrong (or -1), the row, how many are left out -/
def tx_rn (X : mr_R) (n : Int) : Nat → Int → mr_R × Int → Int × (mr_R × Int)
  | 0, _, z => (-1, z)
  | m + 1, i, z => if i < n then (if (tx_cm X n i).2 = true then tx_rn X n m (tx_cm X n i).1 (tx_do X i z) else ((tx_cm X n i).1, z)) else (-1, z)
section TX
variable {X : mr_R} {n : Int}
theorem tx_wk_le : ∀ (l : List Int) (j : Int), j ≤ (tx_wk X n l j).1 ∧ ((tx_wk X n l j).2 = true → (tx_wk X n l j).1 = j + l.length) ∧ (j ≤ n → (tx_wk X n l j).1 ≤ n) := by
  intro l
  induction l with
  | nil =>
    intro j
    refine ⟨Int.le_refl _, fun _ => ?_, fun h => h⟩
    show j = j + 0
    omega
  | cons k l ih =>
    intro j
    unfold tx_wk
    by_cases q : j < n ∧ tx_al X k j = true
    · rw [if_pos q]
      have := ih (j + 1)
      refine ⟨by omega, fun h => ?_, fun _ => this.2.2 (by omega)⟩
      rw [this.2.1 h, List.length_cons]
      omega
    · rw [if_neg q]
      refine ⟨Int.le_refl _, fun h => absurd (show false = true from h) Bool.false_ne_true, fun h => h⟩
theorem tx_fm_len (c : Int) : ((tx_fm c).length : Int) ≤ 4 := by
  unfold tx_fm
  repeat' split
  all_goals decide
theorem tx_cm_le {i : Int} (h : i < n) : i ≤ (tx_cm X n i).1 ∧ (tx_cm X n i).1 ≤ n ∧ ((tx_cm X n i).2 = true → i + 1 ≤ (tx_cm X n i).1 ∧ (tx_cm X n i).1 = i + 1 + (tx_fm (X i)).length) := by
  unfold tx_cm
  by_cases q : tx_fm (X i) = []
  · rw [if_pos q]
    refine ⟨Int.le_refl _, by show i ≤ n; omega, fun h => absurd (show false = true from h) Bool.false_ne_true⟩
  · rw [if_neg q]
    have h2 := tx_wk_le (X := X) (n := n) (tx_fm (X i)) (i + 1)
    exact ⟨by omega, h2.2.2 (by omega), fun h => ⟨h2.1, h2.2.1 h⟩⟩
end TX
