/-! Whole rows copied and cleared. -/
def ma (b n : Nat) (X : mr_R) (σ : ri_S) : ri_S := (ri_upd σ.1 b (.inl (0, n, mr_ar X)), σ.2)
theorem ma_at {b n : Nat} {X : mr_R} {σ : ri_S} : (ma b n X σ).1 b = some (.inl (0, n, mr_ar X)) := if_pos rfl
theorem ma_off {b n a : Nat} {X : mr_R} {σ : ri_S} (h : ¬ a = b) : (ma b n X σ).1 a = σ.1 a := if_neg h
theorem ma_wr {b n : Nat} {X Y : mr_R} {σ : ri_S} : ((ri_upd (ma b n X σ).1 b (.inl (0, n, mr_ar Y)), (ma b n X σ).2) : ri_S) = ma b n Y σ := by
  unfold ma
  simp only [ru_up]
theorem ma_g {b n : Nat} {X : mr_R} {σ : ri_S} {k : Int} {K : Nat → (Nat → Int32) → Nat → Option ri_R} (h : 0 ≤ k) (h2 : k < n) (h3 : k < 2147483648) : tv_r 0 ((ma b n X σ).1 b) (Int32.ofInt k) K = K n (mr_ar X) k.toNat := by
  rw [ma_at, mr_r0 h h2 h3]
theorem ma_self {b n : Nat} {X : mr_R} {σ : ri_S} (h : σ.1 b = some (.inl (0, n, mr_ar X))) : ma b n X σ = σ := by
  unfold ma
  obtain ⟨f, z⟩ := σ
  refine congrArg (·, z) (funext fun q => ?_)
  unfold ri_upd
  by_cases e : q = b
  · rw [if_pos e, e]; exact h.symm
  · rw [if_neg e]
/-- 96 numbers of F from p on, laid into G from q on -/
def mc_cp (F : mr_R) (p : Int) (G : mr_R) (q : Int) (n : Int) : mr_R := fun i => if q ≤ i ∧ i < q + n then F (p + (i - q)) else G i
theorem mc_cp0 {F G : mr_R} {p q : Int} : mc_cp F p G q 0 = G := by
  funext i
  unfold mc_cp
  rw [if_neg (by omega)]
theorem mc_cpS {F G : mr_R} {p q n : Int} (h : 0 ≤ n) : mr_st (mc_cp F p G q n) (q + n) (F (p + n)) = mc_cp F p G q (n + 1) := by
  funext i
  unfold mr_st mc_cp
  by_cases e : i = q + n
  · rw [if_pos e, if_pos (by omega)]
    congr 1
    omega
  · rw [if_neg e]
    by_cases e2 : q ≤ i ∧ i < q + n
    · rw [if_pos e2, if_pos (by omega)]
    · rw [if_neg e2, if_neg (by omega)]
section CPS
variable {a b n m : Nat} {F G : mr_R} {p q : Int} {σ : ri_S}
/-- a row of zeros -/
def mc_cl (R : mr_R) (n : Int) : mr_R := fun i => if 0 ≤ i ∧ i < n then 0 else R i
end CPS
