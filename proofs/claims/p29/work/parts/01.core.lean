/-! The reading machine: a method's code as a list of steps over a picture of the heap (address to cell), and what it comes to. Nothing here speaks of this claim's classes. -/
abbrev ri_El : Type := (Nat × Nat × (Nat → Int32)) ⊕ ((Nat × (Nat → Option Nat)) ⊕ (Nat × List Value))
abbrev ri_S : Type := (Nat → Option ri_El) × Nat
abbrev ri_L : Type := List (Option Value)
abbrev ri_F : Type := Nat × ri_L × List Value
abbrev ri_Op : Type := ri_F → ri_S → Option (ri_F × ri_S)
/-- an entry: a step; a call (method, how many arguments, the receiver's class where the call is virtual); a return (0 void, 1 int, 2 boolean, 3 long, 4 reference) -/
abbrev ri_C : Type := ri_Op ⊕ ((Nat × Nat × Option Nat) ⊕ Nat)
abbrev ri_R : Type := Option Value × ri_S
def ri_get : ri_L → Nat → Option Value
  | [], _ => none
  | a :: _, 0 => a
  | _ :: l, i + 1 => ri_get l i
def ri_clr : Option Value → Option Value
  | some (.int x) => some (.int x)
  | some (.ref x) => some (.ref x)
  | some .null => some .null
  | _ => none
def ri_set : ri_L → Nat → Value → ri_L
  | [], _, _ => []
  | _ :: l, 0, v => some v :: l
  | a :: l, i + 1, v => (match i with | 0 => ri_clr a | _ + 1 => a) :: ri_set l i v
def ri_non : ri_L → Nat → ri_L
  | [], _ => []
  | _ :: l, 0 => none :: l
  | a :: l, i + 1 => a :: ri_non l i
/-- the locals at a method's entry -/
def ri_ent : Nat → List Value → ri_L
  | 0, _ => []
  | n + 1, [] => none :: ri_ent n []
  | n + 1, .long x :: vs => some (.long x) :: (match n with | 0 => [] | n + 1 => none :: ri_ent n vs)
  | n + 1, .int x :: vs => some (.int x) :: ri_ent n vs
  | n + 1, .ref x :: vs => some (.ref x) :: ri_ent n vs
  | n + 1, .null :: vs => some .null :: ri_ent n vs
  | _ + 1, _ => []
/-- the arguments fit into n locals -/
def ri_fit : Nat → List Value → Bool
  | _, [] => true
  | n + 1, .int _ :: vs => ri_fit n vs
  | n + 1, .ref _ :: vs => ri_fit n vs
  | n + 1, .null :: vs => ri_fit n vs
  | n + 2, .long _ :: vs => ri_fit n vs
  | _, _ => false
def ri_few : List Value → Bool
  | [] => true
  | [_] => true
  | [_, _] => true
  | [_, _, _] => true
  | [_, _, _, _] => true
  | _ => false
def ri_upd (f : Nat → Option ri_El) (a : Nat) (e : ri_El) : Nat → Option ri_El := fun q => if q = a then some e else f q
/-- a virtual call's receiver is of the class -/
def ri_rcv (rc : Option Nat) (as : List Value) (σ : ri_S) : Bool :=
  match rc with
  | none => true
  | some ci => match as with
    | .ref b :: _ => match σ.1 b with
      | some (.inr (.inr (c2, _))) => Nat.beq c2 ci
      | _ => false
    | _ => false
def ri_stp (c : Option ri_C) (fr : ri_F) (σ : ri_S) (K : ri_F → ri_S → Option ri_R) (G : Nat → List Value → Option ri_R) : Option ri_R :=
  match c with
  | none => none
  | some (.inl op) => match op fr σ with
    | none => none
    | some q => K q.1 q.2
  | some (.inr (.inl (k2, n, rc))) =>
    if (ri_few (fr.2.2.drop n) && Nat.ble n fr.2.2.length && ri_rcv rc (fr.2.2.take n).reverse σ) = true then
      match G k2 (fr.2.2.take n).reverse with
      | none => none
      | some q => K (fr.1 + 3, fr.2.1, q.1.toList ++ fr.2.2.drop n) q.2
    else none
  | some (.inr (.inr 0)) => match fr.2.2 with
    | [] => some (none, σ)
    | _ => none
  | some (.inr (.inr 1)) => match fr.2.2 with
    | [.int v] => some (some (.int v), σ)
    | _ => none
  | some (.inr (.inr 2)) => match fr.2.2 with
    | [.int v] => if v = 0 ∨ v = 1 then some (some (.int v), σ) else none
    | _ => none
  | some (.inr (.inr 3)) => match fr.2.2 with
    | [.long v] => some (some (.long v), σ)
    | _ => none
  | some (.inr (.inr 4)) => match fr.2.2 with
    | [.ref v] => some (some (.ref v), σ)
    | [.null] => some (some .null, σ)
    | _ => none
  | some (.inr (.inr _)) => none
def ri_run (P : Nat → Nat → Option ri_C) (M Hh : Nat → Nat) : Nat → Nat → ri_F → ri_S → Option ri_R
  | 0, _, _, _ => none
  | n + 1, k, fr, σ => ri_stp (P k fr.1) fr σ (fun fr2 σ2 => ri_run P M Hh n k fr2 σ2) (fun k2 as => if (Nat.blt (Hh k2) (Hh k) && ri_fit (M k2) as) = true then ri_run P M Hh n k2 (0, ri_ent (M k2) as, []) σ else none)
theorem ri_stp_mono {c : Option ri_C} {fr : ri_F} {σ : ri_S} {K K2 : ri_F → ri_S → Option ri_R} {G G2 : Nat → List Value → Option ri_R} (hK : ∀ a b r, K a b = some r → K2 a b = some r) (hG : ∀ a b r, G a b = some r → G2 a b = some r) {r : ri_R} (h : ri_stp c fr σ K G = some r) : ri_stp c fr σ K2 G2 = some r := by
  match c, h with
  | none, h => exact absurd h (by simp [ri_stp])
  | some (.inl op), h =>
    simp only [ri_stp] at h ⊢
    cases ho : op fr σ with
    | none => rw [ho] at h; exact absurd h (by simp)
    | some q => rw [ho] at h; exact hK _ _ _ h
  | some (.inr (.inl (k2, n, rc))), h =>
    simp only [ri_stp] at h ⊢
    split at h
    · rename_i hc
      rw [if_pos hc]
      cases hg : G k2 (fr.2.2.take n).reverse with
      | none => rw [hg] at h; exact absurd h (by simp)
      | some q =>
        rw [hg] at h
        rw [hG _ _ _ hg]
        exact hK _ _ _ h
    · exact absurd h (by simp)
  | some (.inr (.inr 0)), h => exact h
  | some (.inr (.inr 1)), h => exact h
  | some (.inr (.inr 2)), h => exact h
  | some (.inr (.inr 3)), h => exact h
  | some (.inr (.inr 4)), h => exact h
  | some (.inr (.inr (n + 5))), h => exact absurd h (by simp [ri_stp])
theorem ri_run_mono {P : Nat → Nat → Option ri_C} {M Hh : Nat → Nat} : ∀ (n k : Nat) (fr : ri_F) (σ : ri_S) (r : ri_R), ri_run P M Hh n k fr σ = some r → ri_run P M Hh (n + 1) k fr σ = some r := by
  intro n
  induction n with
  | zero => intro k fr σ r h; exact absurd h (by simp [ri_run])
  | succ n ih =>
    intro k fr σ r h
    rw [ri_run] at h ⊢
    refine ri_stp_mono (fun a b r h => ih _ _ _ _ h) (fun a b r h => ?_) h
    split at h
    · rename_i hc
      rw [if_pos hc]
      exact ih _ _ _ _ h
    · exact absurd h (by simp)
/-- what a rising row of answers comes to -/
noncomputable def ri_lim {α : Type} (f : Nat → Option α) : Option α :=
  @ite _ (∃ n a, f n = some a) (Classical.propDecidable _) (f (Classical.epsilon fun n => ∃ a, f n = some a)) none
def ri_up {α : Type} (f : Nat → Option α) : Prop := ∀ n a, f n = some a → f (n + 1) = some a
theorem ri_up_le {α : Type} {f : Nat → Option α} (h : ri_up f) {n a} (hn : f n = some a) : ∀ m, n ≤ m → f m = some a := by
  intro m hm
  induction m with
  | zero => rw [Nat.le_zero.mp hm] at hn; exact hn
  | succ m ih =>
    rcases Nat.lt_or_ge n (m + 1) with q | q
    · exact h _ _ (ih (Nat.le_of_lt_succ q))
    · rw [Nat.le_antisymm hm q] at hn; exact hn
theorem ri_lim_of {α : Type} {f : Nat → Option α} (h : ri_up f) {n : Nat} {a : α} (hn : f n = some a) : ri_lim f = some a := by
  have hx : ∃ n a, f n = some a := ⟨n, a, hn⟩
  unfold ri_lim
  rw [if_pos hx]
  obtain ⟨b, hb⟩ := Classical.epsilon_spec hx
  have h1 := ri_up_le h hn (max n (Classical.epsilon fun n => ∃ a, f n = some a)) (Nat.le_max_left _ _)
  have h2 := ri_up_le h hb (max n (Classical.epsilon fun n => ∃ a, f n = some a)) (Nat.le_max_right _ _)
  rw [hb, ← h2, h1]
theorem ri_lim_to {α : Type} {f : Nat → Option α} {a : α} (h : ri_lim f = some a) : ∃ n, f n = some a := by
  unfold ri_lim at h
  split at h
  · exact ⟨_, h⟩
  · exact absurd h (by simp)
theorem ri_lim_no {α : Type} {f : Nat → Option α} (h : ∀ n, f n = none) : ri_lim f = none := by
  unfold ri_lim
  rw [if_neg]
  rintro ⟨n, a, hn⟩
  rw [h] at hn
  exact absurd hn (by simp)
theorem ri_lim_iff {α : Type} {f : Nat → Option α} (h : ri_up f) {a : α} : ri_lim f = some a ↔ ∃ n, f n = some a := ⟨ri_lim_to, fun ⟨_, hn⟩ => ri_lim_of h hn⟩
theorem ri_opt {α : Type} {x y : Option α} (h : ∀ a, x = some a ↔ y = some a) : x = y := by
  cases x with
  | none => cases y with
    | none => rfl
    | some b => exact absurd ((h b).2 rfl) (by simp)
  | some a => exact ((h a).1 rfl).symm
noncomputable def ri_ev (P : Nat → Nat → Option ri_C) (M Hh : Nat → Nat) (k : Nat) (fr : ri_F) (σ : ri_S) : Option ri_R := ri_lim fun n => ri_run P M Hh n k fr σ
noncomputable def ri_call (P : Nat → Nat → Option ri_C) (M Hh : Nat → Nat) (k : Nat) (as : List Value) (σ : ri_S) : Option ri_R := ri_ev P M Hh k (0, ri_ent (M k) as, []) σ
section RIEV
variable {P : Nat → Nat → Option ri_C} {M Hh : Nat → Nat} {k pc : Nat} {L : ri_L} {st : List Value} {σ : ri_S}
theorem ri_ev_up (k : Nat) (fr : ri_F) (σ : ri_S) : ri_up fun n => ri_run P M Hh n k fr σ := fun n a h => ri_run_mono n k fr σ a h
theorem ri_ev_one {fr : ri_F} {g : Nat → Option ri_R} (h : ∀ n, ri_run P M Hh (n + 1) k fr σ = g n) (hg : ri_up g) : ri_ev P M Hh k fr σ = ri_lim g := by
  refine ri_opt fun a => ?_
  unfold ri_ev
  rw [ri_lim_iff (ri_ev_up k fr σ), ri_lim_iff hg]
  constructor
  · rintro ⟨n, hn⟩
    cases n with
    | zero => exact absurd hn (by simp [ri_run])
    | succ n => exact ⟨n, by rw [← h]; exact hn⟩
  · rintro ⟨n, hn⟩
    exact ⟨n + 1, by rw [h]; exact hn⟩
theorem ri_ev_step {op : ri_Op} (hP : P k pc = some (.inl op)) : ri_ev P M Hh k (pc, L, st) σ = (op (pc, L, st) σ).bind fun q => ri_ev P M Hh k q.1 q.2 := by
  cases ho : op (pc, L, st) σ with
  | none =>
    refine ri_lim_no fun n => ?_
    cases n with
    | zero => rfl
    | succ n => simp only [ri_run, hP, ri_stp, ho]
  | some q =>
    rw [ri_ev_one (g := fun n => ri_run P M Hh n k q.1 q.2) (fun n => by simp only [ri_run, hP, ri_stp, ho]) (ri_ev_up _ _ _)]
    rfl
theorem ri_ev_call {k2 n : Nat} {rc : Option Nat} (hP : P k pc = some (.inr (.inl (k2, n, rc)))) (hH : Nat.blt (Hh k2) (Hh k) = true) : ri_ev P M Hh k (pc, L, st) σ =
    if (ri_few (st.drop n) && Nat.ble n st.length && ri_rcv rc (st.take n).reverse σ && ri_fit (M k2) (st.take n).reverse) = true then (ri_call P M Hh k2 (st.take n).reverse σ).bind fun q => ri_ev P M Hh k (pc + 3, L, q.1.toList ++ st.drop n) q.2 else none := by
  split
  · rename_i hc0
    rw [Bool.and_eq_true] at hc0
    obtain ⟨hc, hF⟩ := hc0
    have hHF : (Nat.blt (Hh k2) (Hh k) && ri_fit (M k2) (st.take n).reverse) = true := by rw [hH, hF]; rfl
    refine ri_opt fun a => ?_
    rw [Option.bind_eq_some_iff]
    unfold ri_call ri_ev
    rw [ri_lim_iff (ri_ev_up _ _ _)]
    constructor
    · rintro ⟨n9, hn⟩
      cases n9 with
      | zero => exact absurd hn (by simp [ri_run])
      | succ n9 =>
        rw [ri_run] at hn
        simp only [hP, ri_stp, if_pos hc, if_pos hHF] at hn
        cases hg : ri_run P M Hh n9 k2 (0, ri_ent (M k2) (st.take n).reverse, []) σ with
        | none => rw [hg] at hn; exact absurd hn (by simp)
        | some q =>
          rw [hg] at hn
          exact ⟨q, ri_lim_of (ri_ev_up _ _ _) hg, ri_lim_of (ri_ev_up _ _ _) hn⟩
    · rintro ⟨q, h1, h2⟩
      obtain ⟨n1, h1⟩ := ri_lim_to h1
      obtain ⟨n2, h2⟩ := ri_lim_to h2
      have e1 := ri_up_le (ri_ev_up _ _ _) h1 (max n1 n2) (Nat.le_max_left _ _)
      have e2 := ri_up_le (ri_ev_up _ _ _) h2 (max n1 n2) (Nat.le_max_right _ _)
      refine ⟨max n1 n2 + 1, ?_⟩
      rw [ri_run]
      simp only [hP, ri_stp, if_pos hc, if_pos hHF]
      rw [show ri_run P M Hh (max n1 n2) k2 (0, ri_ent (M k2) (st.take n).reverse, []) σ = some q from e1]
      exact e2
  · rename_i hc0
    refine ri_lim_no fun n9 => ?_
    cases n9 with
    | zero => rfl
    | succ n9 =>
      rw [ri_run]
      simp only [hP, ri_stp]
      split
      · rename_i hc
        have hF : ri_fit (M k2) (st.take n).reverse = false := by
          cases hq : ri_fit (M k2) (st.take n).reverse with
          | false => rfl
          | true => exact absurd (by rw [hc, hq]; rfl) hc0
        rw [if_neg (by rw [hF]; simp)]
      · rfl
theorem ri_ev_fin {rk : Nat} {fr : ri_F} (hP : P k fr.1 = some (.inr (.inr rk))) : ri_ev P M Hh k fr σ = ri_stp (some (.inr (.inr rk))) fr σ (fun _ _ => none) (fun _ _ => none) := by
  have h : ∀ n, ri_run P M Hh (n + 1) k fr σ = ri_stp (some (.inr (.inr rk))) fr σ (fun _ _ => none) (fun _ _ => none) := by
    intro n
    rw [ri_run, hP]
    match rk with
    | 0 => rfl
    | 1 => rfl
    | 2 => rfl
    | 3 => rfl
    | 4 => rfl
    | n + 5 => rfl
  rw [ri_ev_one h (fun _ _ h => h)]
  cases hx : ri_stp (some (.inr (.inr rk))) fr σ (fun _ _ => none) (fun _ _ => none) with
  | none => exact ri_lim_no fun _ => rfl
  | some r => exact ri_lim_of (f := fun _ => some r) (fun _ _ h => h) (n := 0) rfl
end RIEV
