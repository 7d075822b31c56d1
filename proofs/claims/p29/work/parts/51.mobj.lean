/-! The model's object: numbers S (refusal, size, acts, spot, out), rows A (1 text, 2 now, 3 trial, 4 diary, 5 kept, 6 isKept, 7 far, 8 row). -/
def ms_a (A : Nat → mr_R) (k : Nat) (X : mr_R) : Nat → mr_R := fun j => if j = k then X else A j
theorem sa_eq {A : Nat → mr_R} {k j : Nat} {X : mr_R} (h : j = k) : ms_a A k X j = X := if_pos h
theorem sa_ne {A : Nat → mr_R} {k j : Nat} {X : mr_R} (h : j ≠ k) : ms_a A k X j = A j := if_neg h
theorem sa_id {A : Nat → mr_R} {k : Nat} : ms_a A k (A k) = A := by
  funext j
  unfold ms_a
  split
  · rename_i e; rw [e]
  · rfl
theorem sa_up {A : Nat → mr_R} {k : Nat} {X Y : mr_R} : ms_a (ms_a A k X) k Y = ms_a A k Y := by
  funext j
  unfold ms_a
  split <;> rfl
section MMB
variable {M : Nat} {S : mr_R} {A : Nat → mr_R} {σ : ri_S} {K : Int}
/-- what is remembered: the diary and how many -/
def mh_n (n : Int) : Int := if n = 14 then 13 else n
def mh_D (n : Int) (D : mr_R) : mr_R := if n = 14 then mc_cp D 96 D 0 1248 else D
theorem mh_S {D : mr_R} {k : Int} (h : 0 ≤ k) : mr_st (mc_cp D 96 D 0 k) k (D (k + 96)) = mc_cp D 96 D 0 (k + 1) := by
  have := mc_cpS (F := D) (G := D) (p := 96) (q := 0) (n := k) h
  rw [Int.zero_add, show (96 : Int) + k = k + 96 by omega] at this
  exact this
theorem mh_g {D : mr_R} {k : Int} (h : 0 ≤ k) : mc_cp D 96 D 0 k (k + 96) = D (k + 96) := by
  unfold mc_cp
  rw [if_neg (by omega)]
end MMB
