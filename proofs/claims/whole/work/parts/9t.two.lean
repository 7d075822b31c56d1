/-! The second table: what the methods of the text do with strings too. Ks: where the seven literals lie. -/
def sk_b : Nat → List Int32 := fun i => ([[110, 111, 116, 117], [119, 112, 119, 112], [119, 112, 100], [102, 108], [102, 115], [119, 107], []] : List (List Int32)).getD i []
def sk_i (Ks : Nat → Nat) (a : Nat) : Option Nat := ([0, 1, 2, 3, 4, 5, 6] : List Nat).find? fun i => Nat.beq (Ks i) a
def ri_str (Ks : Nat → Nat) (i : Nat) : ri_F → Option ri_F := fun fr => some (fr.1 + 2, fr.2.1, .ref (Ks i) :: fr.2.2)
def ri_sem (Ks : Nat → Nat) : ri_F → Option ri_F := fun fr => match fr.2.2 with
  | .ref a :: st => if ri_few st = true then (sk_i Ks a).bind fun i => some (fr.1 + 3, fr.2.1, .int (if (sk_b i).length = 0 then 1 else 0) :: st) else none
  | _ => none
def ri_sln (Ks : Nat → Nat) : ri_F → Option ri_F := fun fr => match fr.2.2 with
  | .ref a :: st => if ri_few st = true then (sk_i Ks a).bind fun i => some (fr.1 + 3, fr.2.1, .int (Int32.ofNat (sk_b i).length) :: st) else none
  | _ => none
def ri_sch (Ks : Nat → Nat) : ri_F → Option ri_F := fun fr => match fr.2.2 with
  | .int x :: .ref a :: st => if ri_few st = true then (sk_i Ks a).bind fun i => if ¬ x < 0 ∧ x.toNatClampNeg < (sk_b i).length then some (fr.1 + 3, fr.2.1, .int ((sk_b i).getD x.toNatClampNeg 0) :: st) else none else none
  | _ => none
/-- X8_firstError -/
def TX_90 (Ks : Nat → Nat) : List (Nat × ri_C) := [(45, .inl (ri_pu (ri_sem Ks))), (48, .inl (ri_pu (ri_if (fun x => decide (x = 0)) 53))), (51, .inl (ri_pu (ri_iload 1 1))), (52, .inr (.inr 1)), (53, .inl (ri_pu (ri_iinc 1 1))), (56, .inl (ri_pu (ri_icon 0 1))), (57, .inl (ri_pu (ri_istore 3 1))), (58, .inl (ri_pu (ri_iload 3 1))), (59, .inl (ri_pu (ri_aload 2 1))), (60, .inl (ri_pu (ri_sln Ks))), (63, .inl (ri_pu (ri_icmp (fun x y => decide (y ≤ x)) 98))), (66, .inl (ri_pu (ri_iload 1 1))), (67, .inl (ri_pu (ri_aload 0 1))), (68, .inl (ri_getf 6 1)), (71, .inl (ri_pu (ri_icmp (fun x y => decide (y ≤ x)) 87))), (74, .inl (ri_pu (ri_aload 0 1))), (75, .inl (ri_pu (ri_aload 2 1))), (76, .inl (ri_pu (ri_iload 3 1))), (77, .inl (ri_pu (ri_sch Ks))), (80, .inl (ri_pu (ri_iload 1 1))), (81, .inr (.inl (92, 3, some 6))), (84, .inl (ri_pu (ri_if (fun x => decide (¬ x = 0)) 89))), (87, .inl (ri_pu (ri_iload 1 1))), (88, .inr (.inr 1)), (89, .inl (ri_pu (ri_iinc 1 1))), (92, .inl (ri_pu (ri_iinc 3 1))), (95, .inl (ri_pu (ri_goto 58))), (98, .inl (ri_pu (ri_goto 24)))]
/-- X8_formOf -/
def TX_91 (Ks : Nat → Nat) : List (Nat × ri_C) := [(96, .inl (ri_pu (ri_str Ks 0))), (98, .inr (.inr 4)), (99, .inl (ri_pu (ri_str Ks 1))), (101, .inr (.inr 4)), (102, .inl (ri_pu (ri_str Ks 2))), (104, .inr (.inr 4)), (105, .inl (ri_pu (ri_str Ks 2))), (107, .inr (.inr 4)), (108, .inl (ri_pu (ri_str Ks 3))), (110, .inr (.inr 4)), (111, .inl (ri_pu (ri_str Ks 4))), (113, .inr (.inr 4)), (114, .inl (ri_pu (ri_str Ks 5))), (116, .inr (.inr 4)), (117, .inl (ri_pu (ri_str Ks 6))), (119, .inr (.inr 4))]
/-- X8_carryOut -/
def TX_93 (Ks : Nat → Nat) : List (Nat × ri_C) := [(37, .inl (ri_pu (ri_sln Ks))), (40, .inl (ri_pu (ri_ib fun x y => x + y))), (41, .inl (ri_pu (ri_ib fun x y => x + y))), (42, .inl (ri_pu (ri_istore 3 1))), (43, .inl (ri_pu (ri_goto 4)))]
def TLx (Ks : Nat → Nat) : Nat → List (Nat × ri_C) := fun k => if Nat.beq k 90 = true then TX_90 Ks else if Nat.beq k 91 = true then TX_91 Ks else if Nat.beq k 93 = true then TX_93 Ks else []
def TT2 (Ks : Nat → Nat) : Nat → Nat → Option ri_C := fun k pc => ri_find (TLs k ++ TLx Ks k) pc
def TH2 : Nat → Nat := fun k => if Nat.beq k 90 = true then 6 else if Nat.beq k 111 = true then 7 else TH k
noncomputable def ev2 (Ks : Nat → Nat) (k : Nat) (fr : ri_F) (σ : ri_S) : Option ri_R := ri_ev (TT2 Ks) TM TH2 k fr σ
noncomputable def cal2 (Ks : Nat → Nat) (k : Nat) (as : List Value) (σ : ri_S) : Option ri_R := ri_call (TT2 Ks) TM TH2 k as σ
theorem rf_app {l2 : List (Nat × ri_C)} {pc : Nat} {x : ri_C} : ∀ (l1 : List (Nat × ri_C)), ri_find l1 pc = some x → ri_find (l1 ++ l2) pc = some x
  | [], h => by simp [ri_find] at h
  | q :: l, h => by
    show ri_find (q :: (l ++ l2)) pc = some x
    unfold ri_find at h ⊢
    by_cases e : Nat.beq q.1 pc = true
    · rw [if_pos e] at h ⊢; exact h
    · rw [if_neg e] at h ⊢; exact rf_app l h
theorem tt_2 {Ks : Nat → Nat} {k pc : Nat} {x : ri_C} (h : TT k pc = some x) : TT2 Ks k pc = some x := rf_app _ h
/-- who calls the text's firstError, and that nothing calls errorPosition -/
theorem tc_all : (List.range 231).all (fun k => (TLs k).all fun q => match q.2 with | .inr (.inl (k2, _, _)) => (!Nat.beq k2 111) && ((!Nat.beq k2 90) || Nat.beq k 111 || Nat.beq k 112) | _ => true) = true := by decide +kernel
theorem gd_out {α : Type} {l : List α} {k : Nat} {d : α} (h : l.length ≤ k) : l.getD k d = d := by
  simp [List.getD, List.getElem?_eq_none h]
theorem tl_out {k : Nat} (h : 230 ≤ k) : TLs k = [] := gd_out h
theorem rf_mem {pc : Nat} {x : ri_C} : ∀ (l : List (Nat × ri_C)), ri_find l pc = some x → ∃ q, q ∈ l ∧ q.2 = x
  | [], h => by simp [ri_find] at h
  | q :: l, h => by
    unfold ri_find at h
    by_cases e : Nat.beq q.1 pc = true
    · rw [if_pos e] at h
      exact ⟨q, List.mem_cons_self, Option.some.inj h⟩
    · rw [if_neg e] at h
      obtain ⟨r, r1, r2⟩ := rf_mem l h
      exact ⟨r, List.mem_cons_of_mem _ r1, r2⟩
theorem th_2 {k pc k2 n : Nat} {rc : Option Nat} (h : TT k pc = some (.inr (.inl (k2, n, rc)))) (hH : Nat.blt (TH k2) (TH k) = true) : Nat.blt (TH2 k2) (TH2 k) = true := by
  obtain ⟨q, q1, q2⟩ := rf_mem _ h
  have hk : k < 230 := by
    refine Nat.lt_of_not_le fun a => ?_
    rw [tl_out a] at q1
    exact absurd q1 List.not_mem_nil
  have ha := List.all_eq_true.mp tc_all k (List.mem_range.mpr (by omega))
  have hb := List.all_eq_true.mp ha q q1
  rw [q2] at hb
  simp only [Bool.and_eq_true, Bool.not_eq_true', Bool.or_eq_true] at hb
  obtain ⟨b1, b2⟩ := hb
  unfold TH2
  rw [if_neg (show ¬ Nat.beq k2 111 = true by rw [b1]; decide)]
  rcases b2 with (b2 | b2) | b2
  · rw [if_neg (show ¬ Nat.beq k2 90 = true by rw [b2]; decide)]
    have e2 : TH k2 < TH k := by simpa [Nat.blt_eq] using hH
    have t90 : TH 90 = 1 := rfl
    have t111 : TH 111 = 2 := rfl
    rw [Nat.blt_eq]
    by_cases c : Nat.beq k 90 = true
    · rw [if_pos c]
      have := Nat.eq_of_beq_eq_true c
      subst this
      omega
    · rw [if_neg c]
      by_cases c2 : Nat.beq k 111 = true
      · rw [if_pos c2]
        have := Nat.eq_of_beq_eq_true c2
        subst this
        omega
      · rw [if_neg c2]
        exact e2
  · have := Nat.eq_of_beq_eq_true b2
    subst this
    rw [if_neg (show ¬ Nat.beq 111 90 = true by decide), if_pos (show Nat.beq 111 111 = true by decide)]
    have e2 : TH k2 < TH 111 := by simpa [Nat.blt_eq] using hH
    have t111 : TH 111 = 2 := rfl
    rw [Nat.blt_eq]
    split <;> omega
  · have := Nat.eq_of_beq_eq_true b2
    subst this
    split
    · decide
    · rename_i c
      have e2 : TH k2 < TH 112 := by simpa [Nat.blt_eq] using hH
      rw [Nat.blt_eq]
      exact e2
/-- what the first table comes to, the second comes to -/
theorem rr_2 {Ks : Nat → Nat} : ∀ (n k : Nat) (fr : ri_F) (σ : ri_S) (r : ri_R), ri_run TT TM TH n k fr σ = some r → ri_run (TT2 Ks) TM TH2 n k fr σ = some r := by
  intro n
  induction n with
  | zero => intro k fr σ r h; exact absurd h (by simp [ri_run])
  | succ n ih =>
    intro k fr σ r h
    rw [ri_run] at h ⊢
    cases hx : TT k fr.1 with
    | none => rw [hx] at h; exact absurd h (by simp [ri_stp])
    | some x =>
      rw [tt_2 hx]
      rw [hx] at h
      match x, hx, h with
      | .inl op, hx, h => exact ri_stp_mono (fun a b r h => ih _ _ _ _ h) (fun a b r h => by exact absurd h (by simp)) (G := fun _ _ => none) h
      | .inr (.inr 0), hx, h => exact h
      | .inr (.inr 1), hx, h => exact h
      | .inr (.inr 2), hx, h => exact h
      | .inr (.inr 3), hx, h => exact h
      | .inr (.inr 4), hx, h => exact h
      | .inr (.inr (n5 + 5)), hx, h => exact absurd h (by simp [ri_stp])
      | .inr (.inl (k2, n2, rc)), hx, h =>
        simp only [ri_stp] at h ⊢
        split at h
        · rename_i hc
          rw [if_pos hc]
          cases hg : (if (Nat.blt (TH k2) (TH k) && ri_fit (TM k2) (fr.2.2.take n2).reverse) = true then ri_run TT TM TH n k2 (0, ri_ent (TM k2) (fr.2.2.take n2).reverse, []) σ else none) with
          | none => rw [hg] at h; exact absurd h (by simp)
          | some q =>
            rw [hg] at h
            split at hg
            · rename_i hc2
              rw [Bool.and_eq_true] at hc2
              rw [if_pos (by rw [Bool.and_eq_true]; exact ⟨th_2 hx hc2.1, hc2.2⟩), ih _ _ _ _ hg]
              exact ih _ _ _ _ h
            · exact absurd hg (by simp)
        · exact absurd h (by simp)
theorem cal_2 {Ks : Nat → Nat} {k : Nat} {as : List Value} {σ : ri_S} {r : ri_R} (h : cal k as σ = some r) : cal2 Ks k as σ = some r := by
  unfold cal ri_call ri_ev at h
  obtain ⟨n, hn⟩ := ri_lim_to h
  unfold cal2 ri_call ri_ev
  exact ri_lim_of (ri_ev_up _ _ _) (rr_2 n _ _ _ _ hn)
