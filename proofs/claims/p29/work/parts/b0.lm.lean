/-! The law's machine: plain steps, calls and returns over a state of any kind. -/
abbrev lm_C : Type := (ri_F → Option ri_F) ⊕ ((Nat × Nat) ⊕ Nat)
section LMC
variable {S : Type}
def lm_stp (c : Option lm_C) (fr : ri_F) (y : S) (K : ri_F → S → Option (Value × S)) (G : Nat → List Value → Option (Value × S)) : Option (Value × S) :=
  match c with
  | none => none
  | some (.inl f) => match f fr with
    | none => none
    | some q => K q y
  | some (.inr (.inl (k2, n))) =>
    if (ri_few (fr.2.2.drop n) && Nat.ble n fr.2.2.length) = true then
      match G k2 (fr.2.2.take n).reverse with
      | none => none
      | some q => K (fr.1 + 3, fr.2.1, q.1 :: fr.2.2.drop n) q.2
    else none
  | some (.inr (.inr 1)) => match fr.2.2 with
    | [.int v] => some (.int v, y)
    | _ => none
  | some (.inr (.inr 2)) => match fr.2.2 with
    | [.int v] => if v = 0 ∨ v = 1 then some (.int v, y) else none
    | _ => none
  | some (.inr (.inr _)) => none
def lm_run (P : Nat → Nat → Option lm_C) (M Hh : Nat → Nat) (ip : Nat → Bool) (pr : Nat → List Value → S → Option (Value × S)) : Nat → Nat → ri_F → S → Option (Value × S)
  | 0, _, _, _ => none
  | n + 1, k, fr, y => lm_stp (P k fr.1) fr y (fun fr2 y2 => lm_run P M Hh ip pr n k fr2 y2) (fun k2 as => if (Nat.blt (Hh k2) (Hh k) && ri_fit (M k2) as) = true then (if ip k2 = true then pr k2 as y else lm_run P M Hh ip pr n k2 (0, ri_ent (M k2) as, []) y) else none)
theorem lm_stp_mono {c : Option lm_C} {fr : ri_F} {y : S} {K K2 : ri_F → S → Option (Value × S)} {G G2 : Nat → List Value → Option (Value × S)} (hK : ∀ a b r, K a b = some r → K2 a b = some r) (hG : ∀ a b r, G a b = some r → G2 a b = some r) {r : Value × S} (h : lm_stp c fr y K G = some r) : lm_stp c fr y K2 G2 = some r := by
  match c, h with
  | none, h => exact absurd h (by simp [lm_stp])
  | some (.inl f), h =>
    simp only [lm_stp] at h ⊢
    cases ho : f fr with
    | none => rw [ho] at h; exact absurd h (by simp)
    | some q => rw [ho] at h; exact hK _ _ _ h
  | some (.inr (.inl (k2, n))), h =>
    simp only [lm_stp] at h ⊢
    split at h
    · rename_i hc
      rw [if_pos hc]
      cases hg : G k2 (fr.2.2.take n).reverse with
      | none => rw [hg] at h; exact absurd h (by simp)
      | some q =>
        rw [hg] at h
        rw [hG _ _ _ hg]
        exact hK _ _ _ h
    · exact absurd h (by simp)
  | some (.inr (.inr 0)), h => exact absurd h (by simp [lm_stp])
  | some (.inr (.inr 1)), h => exact h
  | some (.inr (.inr 2)), h => exact h
  | some (.inr (.inr (n + 3))), h => exact absurd h (by simp [lm_stp])
variable {P : Nat → Nat → Option lm_C} {M Hh : Nat → Nat} {ip : Nat → Bool} {pr : Nat → List Value → S → Option (Value × S)}
theorem lm_run_mono : ∀ (n k : Nat) (fr : ri_F) (y : S) (r : Value × S), lm_run P M Hh ip pr n k fr y = some r → lm_run P M Hh ip pr (n + 1) k fr y = some r := by
  intro n
  induction n with
  | zero => intro k fr y r h; exact absurd h (by simp [lm_run])
  | succ n ih =>
    intro k fr y r h
    rw [lm_run] at h ⊢
    refine lm_stp_mono (fun a b r h => ih _ _ _ _ h) (fun a b r h => ?_) h
    split at h
    · rename_i hc
      rw [if_pos hc]
      split at h
      · rename_i hp
        rw [if_pos hp]
        exact h
      · rename_i hp
        rw [if_neg hp]
        exact ih _ _ _ _ h
    · exact absurd h (by simp)
noncomputable def lm_ev (P : Nat → Nat → Option lm_C) (M Hh : Nat → Nat) (ip : Nat → Bool) (pr : Nat → List Value → S → Option (Value × S)) (k : Nat) (fr : ri_F) (y : S) : Option (Value × S) := ri_lim fun n => lm_run P M Hh ip pr n k fr y
noncomputable def lm_call (P : Nat → Nat → Option lm_C) (M Hh : Nat → Nat) (ip : Nat → Bool) (pr : Nat → List Value → S → Option (Value × S)) (k : Nat) (as : List Value) (y : S) : Option (Value × S) := if ip k = true then pr k as y else lm_ev P M Hh ip pr k (0, ri_ent (M k) as, []) y
variable {k pc : Nat} {L : ri_L} {st : List Value} {y : S}
theorem lm_ev_up (k : Nat) (fr : ri_F) (y : S) : ri_up fun n => lm_run P M Hh ip pr n k fr y := fun n a h => lm_run_mono n k fr y a h
theorem lm_ev_one {fr : ri_F} {g : Nat → Option (Value × S)} (h : ∀ n, lm_run P M Hh ip pr (n + 1) k fr y = g n) (hg : ri_up g) : lm_ev P M Hh ip pr k fr y = ri_lim g := by
  refine ri_opt fun a => ?_
  unfold lm_ev
  rw [ri_lim_iff (lm_ev_up k fr y), ri_lim_iff hg]
  constructor
  · rintro ⟨n, hn⟩
    cases n with
    | zero => exact absurd hn (by simp [lm_run])
    | succ n => exact ⟨n, by rw [← h]; exact hn⟩
  · rintro ⟨n, hn⟩
    exact ⟨n + 1, by rw [h]; exact hn⟩
theorem lm_ev_step {f : ri_F → Option ri_F} (hP : P k pc = some (.inl f)) : lm_ev P M Hh ip pr k (pc, L, st) y = (f (pc, L, st)).bind fun q => lm_ev P M Hh ip pr k q y := by
  cases ho : f (pc, L, st) with
  | none =>
    refine ri_lim_no fun n => ?_
    cases n with
    | zero => rfl
    | succ n => simp only [lm_run, hP, lm_stp, ho]
  | some q =>
    rw [lm_ev_one (g := fun n => lm_run P M Hh ip pr n k q y) (fun n => by simp only [lm_run, hP, lm_stp, ho]) (lm_ev_up _ _ _)]
    rfl
theorem lm_ev_call {k2 n : Nat} (hP : P k pc = some (.inr (.inl (k2, n)))) (hH : Nat.blt (Hh k2) (Hh k) = true) : lm_ev P M Hh ip pr k (pc, L, st) y =
    if (ri_few (st.drop n) && Nat.ble n st.length && ri_fit (M k2) (st.take n).reverse) = true then (lm_call P M Hh ip pr k2 (st.take n).reverse y).bind fun q => lm_ev P M Hh ip pr k (pc + 3, L, q.1 :: st.drop n) q.2 else none := by
  split
  · rename_i hc0
    rw [Bool.and_eq_true] at hc0
    obtain ⟨hc, hF⟩ := hc0
    have hHF : (Nat.blt (Hh k2) (Hh k) && ri_fit (M k2) (st.take n).reverse) = true := by rw [hH, hF]; rfl
    refine ri_opt fun a => ?_
    rw [Option.bind_eq_some_iff]
    unfold lm_call
    by_cases hp : ip k2 = true
    · rw [if_pos hp]
      unfold lm_ev
      rw [ri_lim_iff (lm_ev_up _ _ _)]
      constructor
      · rintro ⟨n9, hn⟩
        cases n9 with
        | zero => exact absurd hn (by simp [lm_run])
        | succ n9 =>
          rw [lm_run] at hn
          simp only [hP, lm_stp, if_pos hc, if_pos hHF, if_pos hp] at hn
          cases hg : pr k2 (st.take n).reverse y with
          | none => rw [hg] at hn; exact absurd hn (by simp)
          | some q =>
            rw [hg] at hn
            exact ⟨q, rfl, ri_lim_of (lm_ev_up _ _ _) hn⟩
      · rintro ⟨q, h1, h2⟩
        obtain ⟨n2, h2⟩ := ri_lim_to h2
        refine ⟨n2 + 1, ?_⟩
        rw [lm_run]
        simp only [hP, lm_stp, if_pos hc, if_pos hHF, if_pos hp, h1]
        exact h2
    · rw [if_neg hp]
      unfold lm_ev
      rw [ri_lim_iff (lm_ev_up _ _ _)]
      constructor
      · rintro ⟨n9, hn⟩
        cases n9 with
        | zero => exact absurd hn (by simp [lm_run])
        | succ n9 =>
          rw [lm_run] at hn
          simp only [hP, lm_stp, if_pos hc, if_pos hHF, if_neg hp] at hn
          cases hg : lm_run P M Hh ip pr n9 k2 (0, ri_ent (M k2) (st.take n).reverse, []) y with
          | none => rw [hg] at hn; exact absurd hn (by simp)
          | some q =>
            rw [hg] at hn
            exact ⟨q, ri_lim_of (lm_ev_up _ _ _) hg, ri_lim_of (lm_ev_up _ _ _) hn⟩
      · rintro ⟨q, h1, h2⟩
        obtain ⟨n1, h1⟩ := ri_lim_to h1
        obtain ⟨n2, h2⟩ := ri_lim_to h2
        have e1 := ri_up_le (lm_ev_up _ _ _) h1 (max n1 n2) (Nat.le_max_left _ _)
        have e2 := ri_up_le (lm_ev_up _ _ _) h2 (max n1 n2) (Nat.le_max_right _ _)
        refine ⟨max n1 n2 + 1, ?_⟩
        rw [lm_run]
        simp only [hP, lm_stp, if_pos hc, if_pos hHF, if_neg hp]
        rw [show lm_run P M Hh ip pr (max n1 n2) k2 (0, ri_ent (M k2) (st.take n).reverse, []) y = some q from e1]
        exact e2
  · rename_i hc0
    refine ri_lim_no fun n9 => ?_
    cases n9 with
    | zero => rfl
    | succ n9 =>
      rw [lm_run]
      simp only [hP, lm_stp]
      split
      · rename_i hc
        have hF : ri_fit (M k2) (st.take n).reverse = false := by
          cases hq : ri_fit (M k2) (st.take n).reverse with
          | false => rfl
          | true => exact absurd (by rw [hc, hq]; rfl) hc0
        rw [if_neg (by rw [hF]; simp)]
      · rfl
theorem lm_ev_fin {rk : Nat} {fr : ri_F} (hP : P k fr.1 = some (.inr (.inr rk))) : lm_ev P M Hh ip pr k fr y = lm_stp (some (.inr (.inr rk))) fr y (fun _ _ => none) (fun _ _ => none) := by
  have h : ∀ n, lm_run P M Hh ip pr (n + 1) k fr y = lm_stp (some (.inr (.inr rk))) fr y (fun _ _ => none) (fun _ _ => none) := by
    intro n
    rw [lm_run, hP]
    match rk with
    | 0 => rfl
    | 1 => rfl
    | 2 => rfl
    | n + 3 => rfl
  rw [lm_ev_one h (fun _ _ h => h)]
  cases hx : lm_stp (some (.inr (.inr rk))) fr y (fun _ _ => none) (fun _ _ => none) with
  | none => exact ri_lim_no fun _ => rfl
  | some r => exact ri_lim_of (f := fun _ => some r) (fun _ _ h => h) (n := 0) rfl
end LMC
