/-! How the law's methods read on. -/
noncomputable def evm (C0 b0 L0 : Nat) (xs0 : Nat → Int32) (k : Nat) (fr : ri_F) (y : (gy × gy) × Nat) : Option (Value × ((gy × gy) × Nat)) := lm_ev PL LM LH lip (lpr C0 b0 L0 xs0) k fr y
noncomputable def calm (C0 b0 L0 : Nat) (xs0 : Nat → Int32) (k : Nat) (as : List Value) (y : (gy × gy) × Nat) : Option (Value × ((gy × gy) × Nat)) := lm_call PL LM LH lip (lpr C0 b0 L0 xs0) k as y
/-- going on behind a call -/
def lm_n (q : Option (Value × ((gy × gy) × Nat))) (K : Value → (gy × gy) × Nat → Option (Value × ((gy × gy) × Nat))) : Option (Value × ((gy × gy) × Nat)) := match q with
  | none => none
  | some r => K r.1 r.2
def lm_b (x : Int32) (X : Option (Value × ((gy × gy) × Nat))) : Option (Value × ((gy × gy) × Nat)) := if x = 0 ∨ x = 1 then X else none
theorem ln_some {v : Value} {y : (gy × gy) × Nat} {K : Value → (gy × gy) × Nat → Option (Value × ((gy × gy) × Nat))} : lm_n (some (v, y)) K = K v y := rfl
theorem lb_0 {X : Option (Value × ((gy × gy) × Nat))} : lm_b (Int32.ofInt 0) X = X := rfl
theorem lb_1 {X : Option (Value × ((gy × gy) × Nat))} : lm_b (Int32.ofInt 1) X = X := rfl
section EVM
variable {C0 b0 L0 : Nat} {xs0 : Nat → Int32} {k pc : Nat} {L : ri_L} {st : List Value} {y : (gy × gy) × Nat}
theorem em_p {f : ri_F → Option ri_F} {fr2 : ri_F} (h : PL k pc = some (.inl f)) (h2 : f (pc, L, st) = some fr2) : evm C0 b0 L0 xs0 k (pc, L, st) y = evm C0 b0 L0 xs0 k fr2 y := by
  unfold evm
  rw [lm_ev_step h, h2]
  rfl
theorem em_b {f : ri_F → Option ri_F} {c : Prop} {dc : Decidable c} {a b : ri_F} (h : PL k pc = some (.inl f)) (h2 : f (pc, L, st) = if decide c = true then some a else some b) : evm C0 b0 L0 xs0 k (pc, L, st) y = if c then evm C0 b0 L0 xs0 k a y else evm C0 b0 L0 xs0 k b y := by
  unfold evm
  rw [lm_ev_step h, h2]
  by_cases hc : c
  · rw [if_pos hc, if_pos (decide_eq_true hc)]; rfl
  · rw [if_neg hc, if_neg (by rw [decide_eq_false hc]; simp)]; rfl
theorem em_d {f : ri_F → Option ri_F} {z : Int32} {a : ri_F} (h : PL k pc = some (.inl f)) (h2 : f (pc, L, st) = if z = 0 then none else some a) : evm C0 b0 L0 xs0 k (pc, L, st) y = if z = 0 then none else evm C0 b0 L0 xs0 k a y := by
  unfold evm
  rw [lm_ev_step h, h2]
  by_cases hc : z = 0
  · rw [if_pos hc, if_pos hc]; rfl
  · rw [if_neg hc, if_neg hc]; rfl
theorem em_r {rk : Nat} {X : Option (Value × ((gy × gy) × Nat))} (h : PL k pc = some (.inr (.inr rk))) (h2 : lm_stp (some (.inr (.inr rk))) (pc, L, st) y (fun _ _ => none) (fun _ _ => none) = X) : evm C0 b0 L0 xs0 k (pc, L, st) y = X := by
  unfold evm
  rw [lm_ev_fin (fr := (pc, L, st)) h, h2]
theorem em_call {k2 n : Nat} {as rest : List Value} (h : PL k pc = some (.inr (.inl (k2, n)))) (hH : Nat.blt (LH k2) (LH k) = true) (hs : (st.take n).reverse = as) (hd : st.drop n = rest) (hc : (ri_few rest && Nat.ble n st.length && ri_fit (LM k2) as) = true) : evm C0 b0 L0 xs0 k (pc, L, st) y = lm_n (calm C0 b0 L0 xs0 k2 as y) fun v y => evm C0 b0 L0 xs0 k (pc + 3, L, v :: rest) y := by
  unfold evm
  rw [lm_ev_call h hH, hs, hd, if_pos hc]
  unfold calm lm_n
  cases lm_call PL LM LH lip (lpr C0 b0 L0 xs0) k2 as y <;> rfl
theorem em_tab {t : Nat} {ts : List Nat} {lo x : Int32} {d : Nat} : evm C0 b0 L0 xs0 k (ri_tab (t :: ts) lo d x, L, st) y = if x = lo then evm C0 b0 L0 xs0 k (t, L, st) y else evm C0 b0 L0 xs0 k (ri_tab ts (lo + 1) d x, L, st) y := by
  unfold ri_tab
  by_cases hc : x = lo
  · rw [if_pos hc, if_pos hc]
  · rw [if_neg hc, if_neg hc]
    cases ts <;> rfl
theorem em_tab0 {lo x : Int32} {d : Nat} : evm C0 b0 L0 xs0 k (ri_tab [] lo d x, L, st) y = evm C0 b0 L0 xs0 k (d, L, st) y := rfl
/-- a step of the law that is a call of a pond -/
theorem em_pr {k : Nat} {as : List Value} (h : lip k = true) : calm C0 b0 L0 xs0 k as y = lpr C0 b0 L0 xs0 k as y := by
  unfold calm lm_call
  rw [if_pos h]
theorem em_in {k : Nat} {as : List Value} (h : lip k = false) : calm C0 b0 L0 xs0 k as y = evm C0 b0 L0 xs0 k (0, ri_ent (LM k) as, []) y := by
  unfold calm lm_call evm
  rw [if_neg (by rw [h]; decide)]
end EVM
