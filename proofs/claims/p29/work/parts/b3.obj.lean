/-! A pond as calls see it: its row, what is remembered (the latest first), what the slots hold. -/
def su_b (z : Nat) : ri_S := (fun _ => none, z)
abbrev gy : Type := mr_R × (List mr_R × (Nat → Option mr_R))
def gr_1 (Y : gy) (V : mr_R) (PR X : Nat → mr_R) : Prop :=
  (PR 0 = Y.1 ∧ cs_P PR ∧ V 0 = 0) ∧ ((0 ≤ V 1 ∧ V 1 < 14) ∧ V 2 = (Y.2.1.length : Int) ∧ V 2 ≤ 14) ∧ (∀ (i : Nat) (R : mr_R), Y.2.1[i]? = some R → PR (((V 1 + (V 2 - 1 - (i : Int))) % 14).toNat + 2) = R) ∧ (∀ i : Nat, i < 2 → (X 1 (i : Int) = 1 ∧ Y.2.2 i = some (PR (i + 16))) ∨ (X 1 (i : Int) = 0 ∧ Y.2.2 i = none)) ∧ (∀ i : Int, X 1 i = 1 ∨ X 1 i = 0)
/-- behind an action, an undo, a save, a restore -/
def ga (Y : gy) (N : mr_R) : gy := (N, ((Y.1 :: Y.2.1).take 14, Y.2.2))
def gu (Y : gy) : gy := (Y.2.1.headD (fun _ => 0), (Y.2.1.tail, Y.2.2))
def gv (Y : gy) (i : Nat) : gy := (Y.1, (Y.2.1, fun j => if j = i then some Y.1 else Y.2.2 j))
def gt (Y : gy) (i : Nat) : gy := ((Y.2.2 i).getD (fun _ => 0), ([], Y.2.2))
section GR
variable {Y : gy} {V V2 : mr_R} {PR PR2 X X2 : Nat → mr_R} {K : Int}
theorem gr_side (h : gr_1 Y V PR X) (v0 : V2 0 = V 0) (v1 : V2 1 = V 1) (v2 : V2 2 = V 2) (pr : ∀ i, i ≠ 1 → PR2 i = PR i) (p1 : cs_P PR2) (x1 : X2 1 = X 1) : gr_1 Y V2 PR2 X2 := by
  obtain ⟨⟨a1, a2, a3⟩, ⟨b1, b2, b3⟩, c, d, g9⟩ := h
  refine ⟨⟨(pr 0 (by decide)).trans a1, p1, v0.trans a3⟩, ⟨by rw [v1]; exact b1, v2.trans b2, by rw [v2]; exact b3⟩, fun i R hi => ?_, fun i hi => ?_, by rw [x1]; exact g9⟩
  · rw [v1, v2, pr _ (by omega)]
    exact c i R hi
  · rw [x1, pr _ (by omega)]
    exact d i hi
theorem cs_P1 {T : mr_R} (h : cs_P PR) (hT : mi K T) : cs_P (ms_a PR 1 T) := by
  intro i hi
  by_cases e : i = 1
  · rw [sa_eq e]
    have := hT.c
    exact ⟨this.1.1, this.1.2, this.2.1.1, this.2.1.2, this.2.2.1.1, this.2.2.1.2⟩
  · rw [sa_ne e]
    exact h i hi
theorem gr_act {N : mr_R} (h : gr_1 Y V PR X) (hN : mi K N) : gr_1 (ga Y N) (ck_V V) (ck_R V PR N) X := by
  obtain ⟨⟨a1, a2, a3⟩, ⟨b1, b2, b3⟩, c, d, g9⟩ := h
  have b4 : 0 ≤ V 2 := by omega
  have ho : 0 ≤ ch_o V ∧ ch_o V < 14 := by unfold ch_o; split <;> omega
  have hn : 0 ≤ mh_n (V 2) ∧ mh_n (V 2) ≤ 13 := by unfold mh_n; split <;> omega
  have hci : 2 ≤ ch_i V ∧ ch_i V ≤ 15 := by unfold ch_i; omega
  have eV1 : ck_V V 1 = ch_o V := rfl
  have eV2 : ck_V V 2 = mh_n (V 2) + 1 := rfl
  have eR0 : ck_R V PR N 0 = N := sa_eq rfl
  have eRc : ck_R V PR N (ch_i V) = PR 0 := (sa_ne (by omega)).trans (sa_eq rfl)
  have eRo : ∀ i, i ≠ 0 → i ≠ ch_i V → ck_R V PR N i = PR i := fun i h1 h2 => (sa_ne h1).trans (sa_ne h2)
  refine ⟨⟨eR0, fun i hi => ?_, a3⟩, ⟨by rw [eV1]; exact ho, ?_, by rw [eV2]; omega⟩, fun i R hR => ?_, fun i hi => ?_, g9⟩
  · by_cases e : i = 0
    · subst e
      rw [eR0]
      have := hN.c
      exact ⟨this.1.1, this.1.2, this.2.1.1, this.2.1.2, this.2.2.1.1, this.2.2.1.2⟩
    · by_cases e2 : i = ch_i V
      · rw [e2, eRc]
        exact a2 0 (by decide)
      · rw [eRo i e e2]
        exact a2 i hi
  · rw [eV2]
    show mh_n (V 2) + 1 = (((Y.1 :: Y.2.1).take 14).length : Int)
    rw [List.length_take, List.length_cons]
    unfold mh_n
    split <;> omega
  · rw [eV1, eV2]
    have hR : ((Y.1 :: Y.2.1).take 14)[i]? = some R := hR
    have hi14 : i < 14 := by
      refine Nat.lt_of_not_le fun q => ?_
      rw [List.getElem?_take, if_neg (by omega)] at hR
      cases hR
    rw [List.getElem?_take, if_pos hi14] at hR
    cases i with
    | zero =>
      have hR : some Y.1 = some R := hR
      cases hR
      rw [show ch_o V + (mh_n (V 2) + 1 - 1 - ((0 : Nat) : Int)) = ch_o V + mh_n (V 2) by omega]
      exact eRc.trans a1
    | succ i =>
      have hR : Y.2.1[i]? = some R := hR
      have hl : i < Y.2.1.length := (List.getElem?_eq_some_iff.mp hR).1
      have e : (ch_o V + (mh_n (V 2) + 1 - 1 - ((i + 1 : Nat) : Int))) % 14 = (V 1 + (V 2 - 1 - (i : Int))) % 14 := by
        unfold ch_o mh_n
        split <;> omega
      have hne : ((V 1 + (V 2 - 1 - (i : Int))) % 14).toNat + 2 ≠ ch_i V := by
        unfold ch_i ch_o mh_n
        split <;> omega
      rw [e, eRo _ (by omega) hne]
      exact c i R hR
  · rw [eRo _ (by omega) (by omega)]
    exact d i hi
theorem gr_undo (h : gr_1 Y V PR X) (hv : (Y.2.1.length : Int) ≠ 0) : gr_1 (gu Y) (mr_st V 2 (V 2 - 1)) (ms_a PR 0 (PR (((V 1 + (V 2 - 1)) % 14).toNat + 2))) X := by
  obtain ⟨⟨a1, a2, a3⟩, ⟨b1, b2, b3⟩, c, d, g9⟩ := h
  obtain ⟨R0, ⟨hh, S⟩⟩ := Y
  cases hh with
  | nil => exact absurd rfl hv
  | cons R1 t =>
    have b2 : V 2 = ((R1 :: t).length : Int) := b2
    rw [List.length_cons] at b2
    have eR : PR (((V 1 + (V 2 - 1)) % 14).toNat + 2) = R1 := by
      have := c 0 R1 rfl
      rwa [show V 2 - 1 - ((0 : Nat) : Int) = V 2 - 1 by omega] at this
    have eRo : ∀ i, i ≠ 0 → ms_a PR 0 (PR (((V 1 + (V 2 - 1)) % 14).toNat + 2)) i = PR i := fun i h1 => sa_ne h1
    refine ⟨⟨eR, fun i hi => ?_, a3⟩, ⟨b1, ?_, ?_⟩, fun i R hR => ?_, fun i hi => ?_, g9⟩
    · by_cases e : i = 0
      · subst e
        exact a2 _ (by omega)
      · rw [eRo i e]
        exact a2 i hi
    · show V 2 - 1 = (t.length : Int)
      omega
    · show V 2 - 1 ≤ 14
      omega
    · show ms_a PR 0 _ (((V 1 + (V 2 - 1 - 1 - (i : Int))) % 14).toNat + 2) = R
      rw [eRo _ (by omega)]
      have := c (i + 1) R hR
      rwa [show V 2 - 1 - ((i + 1 : Nat) : Int) = V 2 - 1 - 1 - (i : Int) by omega] at this
    · rw [eRo _ (by omega)]
      exact d i hi
theorem gr_save (h : gr_1 Y V PR X) {x : Int} (x1 : 0 ≤ x) (x2 : x ≤ 1) : gr_1 (gv Y x.toNat) V (ms_a PR (x.toNat + 16) (PR 0)) (ms_a X 1 (mr_st (X 1) x 1)) := by
  obtain ⟨⟨a1, a2, a3⟩, ⟨b1, b2, b3⟩, c, d, g9⟩ := h
  have eRo : ∀ i, i ≠ x.toNat + 16 → ms_a PR (x.toNat + 16) (PR 0) i = PR i := fun i h1 => sa_ne h1
  refine ⟨⟨(eRo 0 (by omega)).trans a1, fun i hi => ?_, a3⟩, ⟨b1, b2, b3⟩, fun i R hR => ?_, fun i hi => ?_, fun i => ?_⟩
  · by_cases e : i = x.toNat + 16
    · rw [sa_eq e]
      exact a2 0 (by decide)
    · rw [eRo i e]
      exact a2 i hi
  · rw [eRo _ (by omega)]
    exact c i R hR
  · show (mr_st (X 1) x 1 (i : Int) = 1 ∧ (if i = x.toNat then some Y.1 else Y.2.2 i) = some (ms_a PR (x.toNat + 16) (PR 0) (i + 16))) ∨ (mr_st (X 1) x 1 (i : Int) = 0 ∧ (if i = x.toNat then some Y.1 else Y.2.2 i) = none)
    by_cases e : i = x.toNat
    · rw [if_pos e, sa_eq (by omega), a1]
      exact Or.inl ⟨ms_eq (by omega), rfl⟩
    · rw [if_neg e, eRo _ (by omega), ms_ne (by omega)]
      exact d i hi
  · show mr_st (X 1) x 1 i = 1 ∨ mr_st (X 1) x 1 i = 0
    unfold mr_st
    split
    · exact Or.inl rfl
    · exact g9 i
theorem gr_rest (h : gr_1 Y V PR X) {x : Int} (x1 : 0 ≤ x) (x2 : x ≤ 1) (x3 : X 1 x = 1) : gr_1 (gt Y x.toNat) (mr_st V 2 0) (ms_a PR 0 (PR (x.toNat + 16))) X := by
  obtain ⟨⟨a1, a2, a3⟩, ⟨b1, b2, b3⟩, c, d, g9⟩ := h
  have eRo : ∀ i, i ≠ 0 → ms_a PR 0 (PR (x.toNat + 16)) i = PR i := fun i h1 => sa_ne h1
  have hd := d x.toNat (by omega)
  rw [show ((x.toNat : Nat) : Int) = x by omega] at hd
  have he : Y.2.2 x.toNat = some (PR (x.toNat + 16)) := by
    rcases hd with hd | hd
    · exact hd.2
    · omega
  refine ⟨⟨?_, fun i hi => ?_, a3⟩, ⟨b1, rfl, by show (0 : Int) ≤ 14; omega⟩, fun i R hR => ?_, fun i hi => ?_, g9⟩
  · show PR (x.toNat + 16) = (Y.2.2 x.toNat).getD (fun _ => 0)
    rw [he]
    rfl
  · by_cases e : i = 0
    · subst e
      exact a2 _ (by omega)
    · rw [eRo i e]
      exact a2 i hi
  · have hR : ([] : List mr_R)[i]? = some R := hR
    cases hR
  · rw [eRo _ (by omega)]
    exact d i hi
end GR
