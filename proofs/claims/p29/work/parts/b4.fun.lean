/-! The calls as functions of a pond's state. -/
abbrev gp : Type := List Value → gy → Option (Int × (gy × Nat))
/-- what the law has for a fault -/
def nz (f : Nat) : Int := ([0, -9999001, -9999002, -9999003] : List Int).getD f 0
def gk (Y : gy) : Prop := mi 100000 Y.1 ∧ (∀ R, R ∈ Y.2.1 → mi 100000 R) ∧ (∀ i R, Y.2.2 i = some R → mi 100000 R)
/-- what the law catches of a call -/
def wf : Nat → List Nat := fun k => (([(109, [2, 3]), (112, [3]), (113, [2]), (114, [1, 2]), (115, [1, 2]), (116, [1, 2]), (117, [1, 2]), (118, [2, 3]), (119, [1, 2, 3]), (120, [1, 2, 3]), (121, [1, 2]), (122, [1]), (123, [1, 2]), (124, [1, 2]), (125, [2]), (126, [3]), (127, [1]), (128, [1, 2]), (129, [1]), (130, [1, 2]), (131, [2]), (132, [2]), (133, [1]), (134, [1, 3])] : List (Nat × List Nat)).find? fun q => Nat.beq q.1 k).elim [] (fun q => q.2)
/-- fault F, or the value v and the state Y2 -/
def qq (F v : Int) (Y2 Y : gy) : Int × (gy × Nat) := if F = 0 then (v, (Y2, 0)) else (nz F.toNat, (Y, 1))
def ob (Y Y2 : gy) (k : Nat) (ps : List Value) (v : Int32) (t : Nat) : Prop := ∀ (C : Nat) (V : mr_R) (PR PZ X : Nat → mr_R) (σ : ri_S), gr_1 Y V PR X →
  (t = 0 ∧ ∃ (V2 : mr_R) (PR2 PZ2 X2 : Nat → mr_R), gr_1 Y2 V2 PR2 X2 ∧ cal k (.ref C :: ps) (cs C V PR PZ X σ) = some (some (.int v), cs C V2 PR2 PZ2 X2 σ)) ∨
  (t = 1 ∧ Y2 = Y ∧ ∃ f, ((1 ≤ f ∧ f ≤ 3) ∧ f ∈ wf k) ∧ v = Int32.ofInt (nz f) ∧ ev3 k (0, ri_ent (TM k) (.ref C :: ps), []) (cs C V PR PZ X σ) = some (some (.int (Int32.ofNat f)), cs C V PR PZ X σ))
theorem qq_le {F v : Int} {Y2 Y : gy} : (qq F v Y2 Y).2.2 ≤ 1 := by
  unfold qq
  split
  · exact Nat.zero_le _
  · exact Nat.le_refl _
theorem ob_of {Y Y2 : gy} {k : Nat} {ps : List Value} {F v : Int} (hF : (0 ≤ F ∧ F ≤ 3) ∧ (F ≠ 0 → F.toNat ∈ wf k)) (hx : ∀ (C : Nat) (V : mr_R) (PR PZ X : Nat → mr_R) (σ : ri_S), gr_1 Y V PR X → ev3 k (0, ri_ent (TM k) (.ref C :: ps), []) (cs C V PR PZ X σ) = some (some (.int (Int32.ofInt F)), cs C V PR PZ X σ))
    (ho : F = 0 → ∀ (C : Nat) (V : mr_R) (PR PZ X : Nat → mr_R) (σ : ri_S), gr_1 Y V PR X → ∃ (V2 : mr_R) (PR2 PZ2 X2 : Nat → mr_R), gr_1 Y2 V2 PR2 X2 ∧ cal k (.ref C :: ps) (cs C V PR PZ X σ) = some (some (.int (Int32.ofInt v)), cs C V2 PR2 PZ2 X2 σ)) :
    ob Y (qq F v Y2 Y).2.1 k ps (Int32.ofInt (qq F v Y2 Y).1) (qq F v Y2 Y).2.2 := by
  intro C V PR PZ X σ h
  unfold qq
  by_cases q : F = 0
  · rw [if_pos q]
    exact Or.inl ⟨rfl, ho q C V PR PZ X σ h⟩
  · rw [if_neg q]
    refine Or.inr ⟨rfl, rfl, F.toNat, ⟨by omega, hF.2 q⟩, rfl, ?_⟩
    have e := hx C V PR PZ X σ h
    rw [show F = ((F.toNat : Nat) : Int) by omega] at e
    exact e
/-- a call refused, if it is one of these -/
def qn (F : Int) (Y : gy) : Option (Int × (gy × Nat)) := if F = 0 then none else some (nz F.toNat, (Y, 1))
theorem qn_le {F : Int} {Y : gy} {r : Int × (gy × Nat)} (h : qn F Y = some r) : r.2.2 ≤ 1 := by
  unfold qn at h
  split at h
  · cases h
  · cases h
    exact Nat.le_refl _
theorem ob_no {Y : gy} {k : Nat} {ps : List Value} {F : Int} {r : Int × (gy × Nat)} (h : qn F Y = some r) (hF : (0 ≤ F ∧ F ≤ 3) ∧ (F ≠ 0 → F.toNat ∈ wf k)) (hx : ∀ (C : Nat) (V : mr_R) (PR PZ X : Nat → mr_R) (σ : ri_S), gr_1 Y V PR X → ev3 k (0, ri_ent (TM k) (.ref C :: ps), []) (cs C V PR PZ X σ) = some (some (.int (Int32.ofInt F)), cs C V PR PZ X σ)) : ob Y r.2.1 k ps (Int32.ofInt r.1) r.2.2 := by
  unfold qn at h
  split at h
  · cases h
  · rename_i q
    cases h
    have h2 := ob_of (Y2 := Y) (v := 0) hF hx (fun e => absurd e q)
    unfold qq at h2
    rw [if_neg q] at h2
    exact h2
def f113 (R : mr_R) (x : Int) : Int := if 0 ≤ x ∧ x ≤ 10 then 0 else 2
def q113 (Y : gy) (x : Int) : Int × (gy × Nat) := qq (f113 Y.1 x) (mf_nA Y.1 x) (Y) Y
def p113 : gp := fun ps Y => match ps with
  | [.int a0] => some (q113 Y a0.toInt)
  | _ => none
theorem o113 {Y : gy} (hk : gk Y) {x : Int} (x1 : -2147483648 ≤ x) (x2 : x < 2147483648) : ob Y (q113 Y x).2.1 113 [.int (Int32.ofInt x)] (Int32.ofInt (q113 Y x).1) (q113 Y x).2.2 := by
  refine ob_of ⟨by unfold f113; (repeat' split) <;> omega, by unfold f113; (repeat' split) <;> first | decide +kernel | (intro h; exact absurd rfl h)⟩ (fun C V PR PZ X σ h => ?_) (fun q C V PR PZ X σ h => ?_)
  · obtain ⟨⟨e0, hP, z0⟩, ⟨b1, b2, b3⟩, hr, hs, -⟩ := id h
    have b4 : 0 ≤ V 2 := by omega
    have ii : mi 100000 (PR 0) := by rw [e0]; exact hk.1
    have hd := d113 (C := C) (V := V) (PR := PR) (PZ := PZ) (X := X) (σ := σ) x1 x2
    exact hd
  · obtain ⟨⟨e0, hP, z0⟩, ⟨b1, b2, b3⟩, hr, hs, -⟩ := id h
    have b4 : 0 ≤ V 2 := by omega
    have ii : mi 100000 (PR 0) := by rw [e0]; exact hk.1
    unfold f113 at q
    skip
    have c1 : 0 ≤ x ∧ x ≤ 10 := by
      refine Classical.byContradiction fun c => ?_
      rw [if_neg c] at q
      exact absurd q (by decide)
    have hc := c113 (C := C) (V := V) (PR := PR) (PZ := PZ) (X := X) (σ := σ) ii c1.1 c1.2
    rw [e0] at hc
    exact ⟨V, PR, PZ, X, h, hc⟩
def f114 (R : mr_R) (w x : Int) : Int := if 0 ≤ w ∧ w < R 0 then (if 0 ≤ x ∧ x ≤ 7 then 0 else 2) else 1
def q114 (Y : gy) (w x : Int) : Int × (gy × Nat) := qq (f114 Y.1 w x) (mf_nW Y.1 w x) (Y) Y
def p114 : gp := fun ps Y => match ps with
  | [.int a0, .int a1] => some (q114 Y a0.toInt a1.toInt)
  | _ => none
theorem o114 {Y : gy} (hk : gk Y) {w x : Int} (w1 : -2147483648 ≤ w) (w2 : w < 2147483648) (x1 : -2147483648 ≤ x) (x2 : x < 2147483648) : ob Y (q114 Y w x).2.1 114 [.int (Int32.ofInt w), .int (Int32.ofInt x)] (Int32.ofInt (q114 Y w x).1) (q114 Y w x).2.2 := by
  refine ob_of ⟨by unfold f114; (repeat' split) <;> omega, by unfold f114; (repeat' split) <;> first | decide +kernel | (intro h; exact absurd rfl h)⟩ (fun C V PR PZ X σ h => ?_) (fun q C V PR PZ X σ h => ?_)
  · obtain ⟨⟨e0, hP, z0⟩, ⟨b1, b2, b3⟩, hr, hs, -⟩ := id h
    have b4 : 0 ≤ V 2 := by omega
    have ii : mi 100000 (PR 0) := by rw [e0]; exact hk.1
    have hd := d114 (C := C) (V := V) (PR := PR) (PZ := PZ) (X := X) (σ := σ) ii w1 w2 x1 x2
    rw [e0] at hd
    exact hd
  · obtain ⟨⟨e0, hP, z0⟩, ⟨b1, b2, b3⟩, hr, hs, -⟩ := id h
    have b4 : 0 ≤ V 2 := by omega
    have ii : mi 100000 (PR 0) := by rw [e0]; exact hk.1
    unfold f114 at q
    rw [← e0] at q
    have c1 : 0 ≤ w ∧ w < PR 0 0 := by
      refine Classical.byContradiction fun c => ?_
      rw [if_neg c] at q
      exact absurd q (by decide)
    rw [if_pos c1] at q
    have c2 : 0 ≤ x ∧ x ≤ 7 := by
      refine Classical.byContradiction fun c => ?_
      rw [if_neg c] at q
      exact absurd q (by decide)
    have hc := c114 (C := C) (V := V) (PR := PR) (PZ := PZ) (X := X) (σ := σ) ii c1.1 c1.2 c2.1 c2.2
    rw [e0] at hc
    exact ⟨V, PR, PZ, X, h, hc⟩
def f115 (R : mr_R) (w p x : Int) : Int := if 0 ≤ w ∧ w < R 0 ∧ 0 ≤ p ∧ p < R (9 + 10 * w + 0) then (if 0 ≤ x ∧ x ≤ 3 then 0 else 2) else 1
def q115 (Y : gy) (w p x : Int) : Int × (gy × Nat) := qq (f115 Y.1 w p x) (mf_nP Y.1 w p x) (Y) Y
def p115 : gp := fun ps Y => match ps with
  | [.int a0, .int a1, .int a2] => some (q115 Y a0.toInt a1.toInt a2.toInt)
  | _ => none
theorem o115 {Y : gy} (hk : gk Y) {w p x : Int} (w1 : -2147483648 ≤ w) (w2 : w < 2147483648) (p1 : -2147483648 ≤ p) (p2 : p < 2147483648) (x1 : -2147483648 ≤ x) (x2 : x < 2147483648) : ob Y (q115 Y w p x).2.1 115 [.int (Int32.ofInt w), .int (Int32.ofInt p), .int (Int32.ofInt x)] (Int32.ofInt (q115 Y w p x).1) (q115 Y w p x).2.2 := by
  refine ob_of ⟨by unfold f115; (repeat' split) <;> omega, by unfold f115; (repeat' split) <;> first | decide +kernel | (intro h; exact absurd rfl h)⟩ (fun C V PR PZ X σ h => ?_) (fun q C V PR PZ X σ h => ?_)
  · obtain ⟨⟨e0, hP, z0⟩, ⟨b1, b2, b3⟩, hr, hs, -⟩ := id h
    have b4 : 0 ≤ V 2 := by omega
    have ii : mi 100000 (PR 0) := by rw [e0]; exact hk.1
    have hd := d115 (C := C) (V := V) (PR := PR) (PZ := PZ) (X := X) (σ := σ) ii w1 w2 p1 p2 x1 x2
    rw [e0] at hd
    exact hd
  · obtain ⟨⟨e0, hP, z0⟩, ⟨b1, b2, b3⟩, hr, hs, -⟩ := id h
    have b4 : 0 ≤ V 2 := by omega
    have ii : mi 100000 (PR 0) := by rw [e0]; exact hk.1
    unfold f115 at q
    rw [← e0] at q
    have c1 : 0 ≤ w ∧ w < PR 0 0 ∧ 0 ≤ p ∧ p < PR 0 (9 + 10 * w + 0) := by
      refine Classical.byContradiction fun c => ?_
      rw [if_neg c] at q
      exact absurd q (by decide)
    rw [if_pos c1] at q
    have c2 : 0 ≤ x ∧ x ≤ 3 := by
      refine Classical.byContradiction fun c => ?_
      rw [if_neg c] at q
      exact absurd q (by decide)
    have hc := c115 (C := C) (V := V) (PR := PR) (PZ := PZ) (X := X) (σ := σ) ii c1 c2.1 c2.2
    rw [e0] at hc
    exact ⟨V, PR, PZ, X, h, hc⟩
def f116 (R : mr_R) (f x : Int) : Int := if 0 ≤ f ∧ f < R 2 then (if 0 ≤ x ∧ x ≤ 5 then 0 else 2) else 1
def q116 (Y : gy) (f x : Int) : Int × (gy × Nat) := qq (f116 Y.1 f x) (mf_nF Y.1 f x) (Y) Y
def p116 : gp := fun ps Y => match ps with
  | [.int a0, .int a1] => some (q116 Y a0.toInt a1.toInt)
  | _ => none
theorem o116 {Y : gy} (hk : gk Y) {f x : Int} (f1 : -2147483648 ≤ f) (f2 : f < 2147483648) (x1 : -2147483648 ≤ x) (x2 : x < 2147483648) : ob Y (q116 Y f x).2.1 116 [.int (Int32.ofInt f), .int (Int32.ofInt x)] (Int32.ofInt (q116 Y f x).1) (q116 Y f x).2.2 := by
  refine ob_of ⟨by unfold f116; (repeat' split) <;> omega, by unfold f116; (repeat' split) <;> first | decide +kernel | (intro h; exact absurd rfl h)⟩ (fun C V PR PZ X σ h => ?_) (fun q C V PR PZ X σ h => ?_)
  · obtain ⟨⟨e0, hP, z0⟩, ⟨b1, b2, b3⟩, hr, hs, -⟩ := id h
    have b4 : 0 ≤ V 2 := by omega
    have ii : mi 100000 (PR 0) := by rw [e0]; exact hk.1
    have hd := d116 (C := C) (V := V) (PR := PR) (PZ := PZ) (X := X) (σ := σ) ii f1 f2 x1 x2
    rw [e0] at hd
    exact hd
  · obtain ⟨⟨e0, hP, z0⟩, ⟨b1, b2, b3⟩, hr, hs, -⟩ := id h
    have b4 : 0 ≤ V 2 := by omega
    have ii : mi 100000 (PR 0) := by rw [e0]; exact hk.1
    unfold f116 at q
    rw [← e0] at q
    have c1 : 0 ≤ f ∧ f < PR 0 2 := by
      refine Classical.byContradiction fun c => ?_
      rw [if_neg c] at q
      exact absurd q (by decide)
    rw [if_pos c1] at q
    have c2 : 0 ≤ x ∧ x ≤ 5 := by
      refine Classical.byContradiction fun c => ?_
      rw [if_neg c] at q
      exact absurd q (by decide)
    have hc := c116 (C := C) (V := V) (PR := PR) (PZ := PZ) (X := X) (σ := σ) ii c1.1 c1.2 c2.1 c2.2
    rw [e0] at hc
    exact ⟨V, PR, PZ, X, h, hc⟩
def f117 (R : mr_R) (l x : Int) : Int := if 0 ≤ l ∧ l < R 1 then (if 0 ≤ x ∧ x ≤ 3 then 0 else 2) else 1
def q117 (Y : gy) (l x : Int) : Int × (gy × Nat) := qq (f117 Y.1 l x) (Y.1 (39 + 4 * l + x)) (Y) Y
def p117 : gp := fun ps Y => match ps with
  | [.int a0, .int a1] => some (q117 Y a0.toInt a1.toInt)
  | _ => none
theorem o117 {Y : gy} (hk : gk Y) {l x : Int} (l1 : -2147483648 ≤ l) (l2 : l < 2147483648) (x1 : -2147483648 ≤ x) (x2 : x < 2147483648) : ob Y (q117 Y l x).2.1 117 [.int (Int32.ofInt l), .int (Int32.ofInt x)] (Int32.ofInt (q117 Y l x).1) (q117 Y l x).2.2 := by
  refine ob_of ⟨by unfold f117; (repeat' split) <;> omega, by unfold f117; (repeat' split) <;> first | decide +kernel | (intro h; exact absurd rfl h)⟩ (fun C V PR PZ X σ h => ?_) (fun q C V PR PZ X σ h => ?_)
  · obtain ⟨⟨e0, hP, z0⟩, ⟨b1, b2, b3⟩, hr, hs, -⟩ := id h
    have b4 : 0 ≤ V 2 := by omega
    have ii : mi 100000 (PR 0) := by rw [e0]; exact hk.1
    have hd := d117 (C := C) (V := V) (PR := PR) (PZ := PZ) (X := X) (σ := σ) ii l1 l2 x1 x2
    rw [e0] at hd
    exact hd
  · obtain ⟨⟨e0, hP, z0⟩, ⟨b1, b2, b3⟩, hr, hs, -⟩ := id h
    have b4 : 0 ≤ V 2 := by omega
    have ii : mi 100000 (PR 0) := by rw [e0]; exact hk.1
    unfold f117 at q
    rw [← e0] at q
    have c1 : 0 ≤ l ∧ l < PR 0 1 := by
      refine Classical.byContradiction fun c => ?_
      rw [if_neg c] at q
      exact absurd q (by decide)
    rw [if_pos c1] at q
    have c2 : 0 ≤ x ∧ x ≤ 3 := by
      refine Classical.byContradiction fun c => ?_
      rw [if_neg c] at q
      exact absurd q (by decide)
    have hc := c117 (C := C) (V := V) (PR := PR) (PZ := PZ) (X := X) (σ := σ) ii c1.1 c1.2 c2.1 c2.2
    rw [e0] at hc
    exact ⟨V, PR, PZ, X, h, hc⟩
def f118 (R : mr_R) (n no s : Int) : Int := mf_fW R n no s
def q118 (Y : gy) (n no s : Int) : Int × (gy × Nat) := qq (f118 Y.1 n no s) (Y.1 0) (ga Y (mg_wheel Y.1 n no s)) Y
def p118 : gp := fun ps Y => match ps with
  | [.int a0, .int a1, .int a2] => some (q118 Y a0.toInt a1.toInt a2.toInt)
  | _ => none
theorem o118 {Y : gy} (hk : gk Y) {n no s : Int} (n1 : -2147483648 ≤ n) (n2 : n < 2147483648) (no1 : -2147483648 ≤ no) (no2 : no < 2147483648) (s1 : -2147483648 ≤ s) (s2 : s < 2147483648) : ob Y (q118 Y n no s).2.1 118 [.int (Int32.ofInt n), .int (Int32.ofInt no), .int (Int32.ofInt s)] (Int32.ofInt (q118 Y n no s).1) (q118 Y n no s).2.2 := by
  refine ob_of ⟨by unfold f118 mf_fW; (repeat' split) <;> omega, by unfold f118 mf_fW; (repeat' split) <;> first | decide +kernel | (intro h; exact absurd rfl h)⟩ (fun C V PR PZ X σ h => ?_) (fun q C V PR PZ X σ h => ?_)
  · obtain ⟨⟨e0, hP, z0⟩, ⟨b1, b2, b3⟩, hr, hs, -⟩ := id h
    have b4 : 0 ≤ V 2 := by omega
    have ii : mi 100000 (PR 0) := by rw [e0]; exact hk.1
    have hd := d118 (C := C) (V := V) (PR := PR) (PZ := PZ) (X := X) (σ := σ) ii n1 n2 no1 no2 s1 s2
    rw [e0] at hd
    exact hd
  · obtain ⟨⟨e0, hP, z0⟩, ⟨b1, b2, b3⟩, hr, hs, -⟩ := id h
    have b4 : 0 ≤ V 2 := by omega
    have ii : mi 100000 (PR 0) := by rw [e0]; exact hk.1
    unfold f118 at q
    rw [← e0] at q
    have hc := c118 (C := C) (V := V) (PR := PR) (PZ := PZ) (X := X) (σ := σ) ii hP b1.1 b1.2 b4 b3 q
    have hm := gr_act (N := (mg_wheel (PR 0) n no s)) h (mi_wheel ii (mf_fW_0 q).1 (mf_fW_0 q).2)
    rw [e0] at hc hm
    exact ⟨_, _, _, _, hm, hc⟩
def f119 (R : mr_R) (w p y z : Int) : Int := mf_fL R w p y z
def q119 (Y : gy) (w p y z : Int) : Int × (gy × Nat) := qq (f119 Y.1 w p y z) (Y.1 1) (ga Y (mg_line Y.1 w p y z)) Y
def p119 : gp := fun ps Y => match ps with
  | [.int a0, .int a1, .int a2, .int a3] => some (q119 Y a0.toInt a1.toInt a2.toInt a3.toInt)
  | _ => none
theorem o119 {Y : gy} (hk : gk Y) {w p y z : Int} (w1 : -2147483648 ≤ w) (w2 : w < 2147483648) (p1 : -2147483648 ≤ p) (p2 : p < 2147483648) (y1 : -2147483648 ≤ y) (y2 : y < 2147483648) (z1 : -2147483648 ≤ z) (z2 : z < 2147483648) : ob Y (q119 Y w p y z).2.1 119 [.int (Int32.ofInt w), .int (Int32.ofInt p), .int (Int32.ofInt y), .int (Int32.ofInt z)] (Int32.ofInt (q119 Y w p y z).1) (q119 Y w p y z).2.2 := by
  refine ob_of ⟨by unfold f119 mf_fL; (repeat' split) <;> omega, by unfold f119 mf_fL; (repeat' split) <;> first | decide +kernel | (intro h; exact absurd rfl h)⟩ (fun C V PR PZ X σ h => ?_) (fun q C V PR PZ X σ h => ?_)
  · obtain ⟨⟨e0, hP, z0⟩, ⟨b1, b2, b3⟩, hr, hs, -⟩ := id h
    have b4 : 0 ≤ V 2 := by omega
    have ii : mi 100000 (PR 0) := by rw [e0]; exact hk.1
    have hd := d119 (C := C) (V := V) (PR := PR) (PZ := PZ) (X := X) (σ := σ) ii w1 w2 p1 p2 y1 y2 z1 z2
    rw [e0] at hd
    exact hd
  · obtain ⟨⟨e0, hP, z0⟩, ⟨b1, b2, b3⟩, hr, hs, -⟩ := id h
    have b4 : 0 ≤ V 2 := by omega
    have ii : mi 100000 (PR 0) := by rw [e0]; exact hk.1
    unfold f119 at q
    rw [← e0] at q
    have hc := c119 (C := C) (V := V) (PR := PR) (PZ := PZ) (X := X) (σ := σ) ii hP b1.1 b1.2 b4 b3 q
    have hm := gr_act (N := (mg_line (PR 0) w p y z)) h (mi_line ii (mf_fL_0 q))
    rw [e0] at hc hm
    exact ⟨_, _, _, _, hm, hc⟩
def f120 (R : mr_R) (w p g : Int) : Int := mf_fF R w p g
def q120 (Y : gy) (w p g : Int) : Int × (gy × Nat) := qq (f120 Y.1 w p g) (Y.1 2) (ga Y (mg_frog Y.1 w p g)) Y
def p120 : gp := fun ps Y => match ps with
  | [.int a0, .int a1, .int a2] => some (q120 Y a0.toInt a1.toInt a2.toInt)
  | _ => none
theorem o120 {Y : gy} (hk : gk Y) {w p g : Int} (w1 : -2147483648 ≤ w) (w2 : w < 2147483648) (p1 : -2147483648 ≤ p) (p2 : p < 2147483648) (g1 : -2147483648 ≤ g) (g2 : g < 2147483648) : ob Y (q120 Y w p g).2.1 120 [.int (Int32.ofInt w), .int (Int32.ofInt p), .int (Int32.ofInt g)] (Int32.ofInt (q120 Y w p g).1) (q120 Y w p g).2.2 := by
  refine ob_of ⟨by unfold f120 mf_fF; (repeat' split) <;> omega, by unfold f120 mf_fF; (repeat' split) <;> first | decide +kernel | (intro h; exact absurd rfl h)⟩ (fun C V PR PZ X σ h => ?_) (fun q C V PR PZ X σ h => ?_)
  · obtain ⟨⟨e0, hP, z0⟩, ⟨b1, b2, b3⟩, hr, hs, -⟩ := id h
    have b4 : 0 ≤ V 2 := by omega
    have ii : mi 100000 (PR 0) := by rw [e0]; exact hk.1
    have hd := d120 (C := C) (V := V) (PR := PR) (PZ := PZ) (X := X) (σ := σ) ii w1 w2 p1 p2 g1 g2
    rw [e0] at hd
    exact hd
  · obtain ⟨⟨e0, hP, z0⟩, ⟨b1, b2, b3⟩, hr, hs, -⟩ := id h
    have b4 : 0 ≤ V 2 := by omega
    have ii : mi 100000 (PR 0) := by rw [e0]; exact hk.1
    unfold f120 at q
    rw [← e0] at q
    have hc := c120 (C := C) (V := V) (PR := PR) (PZ := PZ) (X := X) (σ := σ) ii hP b1.1 b1.2 b4 b3 q
    have hm := gr_act (N := (mg_frog (PR 0) w p g)) h (mi_frog ii (by omega) (mf_fF_0 q).1 (mf_fF_0 q).2)
    rw [e0] at hc hm
    exact ⟨_, _, _, _, hm, hc⟩
def f121 (R : mr_R) (w p n : Int) : Int := mf_fY R w p n
def q121 (Y : gy) (w p n : Int) : Int × (gy × Nat) := qq (f121 Y.1 w p n) (Y.1 (9 + 10 * w + 5 + mf_pad Y.1 w p) + n - mf_more Y.1 w p n) (ga Y (mg_bring Y.1 w p n)) Y
def p121 : gp := fun ps Y => match ps with
  | [.int a0, .int a1, .int a2] => some (q121 Y a0.toInt a1.toInt a2.toInt)
  | _ => none
theorem o121 {Y : gy} (hk : gk Y) {w p n : Int} (w1 : -2147483648 ≤ w) (w2 : w < 2147483648) (p1 : -2147483648 ≤ p) (p2 : p < 2147483648) (n1 : -2147483648 ≤ n) (n2 : n < 2147483648) : ob Y (q121 Y w p n).2.1 121 [.int (Int32.ofInt w), .int (Int32.ofInt p), .int (Int32.ofInt n)] (Int32.ofInt (q121 Y w p n).1) (q121 Y w p n).2.2 := by
  refine ob_of ⟨by unfold f121 mf_fY; (repeat' split) <;> omega, by unfold f121 mf_fY; (repeat' split) <;> first | decide +kernel | (intro h; exact absurd rfl h)⟩ (fun C V PR PZ X σ h => ?_) (fun q C V PR PZ X σ h => ?_)
  · obtain ⟨⟨e0, hP, z0⟩, ⟨b1, b2, b3⟩, hr, hs, -⟩ := id h
    have b4 : 0 ≤ V 2 := by omega
    have ii : mi 100000 (PR 0) := by rw [e0]; exact hk.1
    have hd := d121 (C := C) (V := V) (PR := PR) (PZ := PZ) (X := X) (σ := σ) ii w1 w2 p1 p2 n1 n2
    rw [e0] at hd
    exact hd
  · obtain ⟨⟨e0, hP, z0⟩, ⟨b1, b2, b3⟩, hr, hs, -⟩ := id h
    have b4 : 0 ≤ V 2 := by omega
    have ii : mi 100000 (PR 0) := by rw [e0]; exact hk.1
    unfold f121 at q
    rw [← e0] at q
    have hc := c121 (C := C) (V := V) (PR := PR) (PZ := PZ) (X := X) (σ := σ) ii hP b1.1 b1.2 b4 b3 q
    have hm := gr_act (N := (mg_bring (PR 0) w p n)) h (mi_bring ii (by omega) (mf_fY_0 q).1.1 (mf_fY_0 q).1.2.1 (by have := (mf_fY_0 q).2; omega) (by have := (mf_fY_0 q).2; omega))
    rw [e0] at hc hm
    exact ⟨_, _, _, _, hm, hc⟩
def f122 (R : mr_R) (f l : Int) : Int := if (0 ≤ f ∧ f < R 2) ∧ (0 ≤ l ∧ l < R 1) then 0 else 1
def q122 (Y : gy) (f l : Int) : Int × (gy × Nat) := qq (f122 Y.1 f l) (mf_why Y.1 f l) (ga Y (mg_leap Y.1 f l)) Y
def p122 : gp := fun ps Y => match ps with
  | [.int a0, .int a1] => some (q122 Y a0.toInt a1.toInt)
  | _ => none
theorem o122 {Y : gy} (hk : gk Y) {f l : Int} (f1 : -2147483648 ≤ f) (f2 : f < 2147483648) (l1 : -2147483648 ≤ l) (l2 : l < 2147483648) : ob Y (q122 Y f l).2.1 122 [.int (Int32.ofInt f), .int (Int32.ofInt l)] (Int32.ofInt (q122 Y f l).1) (q122 Y f l).2.2 := by
  refine ob_of ⟨by unfold f122; (repeat' split) <;> omega, by unfold f122; (repeat' split) <;> first | decide +kernel | (intro h; exact absurd rfl h)⟩ (fun C V PR PZ X σ h => ?_) (fun q C V PR PZ X σ h => ?_)
  · obtain ⟨⟨e0, hP, z0⟩, ⟨b1, b2, b3⟩, hr, hs, -⟩ := id h
    have b4 : 0 ≤ V 2 := by omega
    have ii : mi 100000 (PR 0) := by rw [e0]; exact hk.1
    have hd := d122 (C := C) (V := V) (PR := PR) (PZ := PZ) (X := X) (σ := σ) ii f1 f2 l1 l2
    rw [e0] at hd
    exact hd
  · obtain ⟨⟨e0, hP, z0⟩, ⟨b1, b2, b3⟩, hr, hs, -⟩ := id h
    have b4 : 0 ≤ V 2 := by omega
    have ii : mi 100000 (PR 0) := by rw [e0]; exact hk.1
    unfold f122 at q
    rw [← e0] at q
    have c1 : (0 ≤ f ∧ f < PR 0 2) ∧ (0 ≤ l ∧ l < PR 0 1) := by
      refine Classical.byContradiction fun c => ?_
      rw [if_neg c] at q
      exact absurd q (by decide)
    have hc := c122 (C := C) (V := V) (PR := PR) (PZ := PZ) (X := X) (σ := σ) ii (by omega) hP b1.1 b1.2 b4 b3 c1
    have hm := gr_act (N := (mg_leap (PR 0) f l)) h (mi_leap ii c1.1.1 c1.1.2 c1.2.1 c1.2.2 (by omega))
    rw [e0] at hc hm
    exact ⟨_, _, _, _, hm, hc⟩
def f123 (R : mr_R) (f s : Int) : Int := if ¬ (0 ≤ f ∧ f < R 2) then 1 else if s = 1 ∨ s = -1 then 0 else 2
def q123 (Y : gy) (f s : Int) : Int × (gy × Nat) := qq (f123 Y.1 f s) (mf_hwhy Y.1 f s) (ga Y (mg_hop Y.1 f s)) Y
def p123 : gp := fun ps Y => match ps with
  | [.int a0, .int a1] => some (q123 Y a0.toInt a1.toInt)
  | _ => none
theorem o123 {Y : gy} (hk : gk Y) {f s : Int} (f1 : -2147483648 ≤ f) (f2 : f < 2147483648) (s1 : -2147483648 ≤ s) (s2 : s < 2147483648) : ob Y (q123 Y f s).2.1 123 [.int (Int32.ofInt f), .int (Int32.ofInt s)] (Int32.ofInt (q123 Y f s).1) (q123 Y f s).2.2 := by
  refine ob_of ⟨by unfold f123; (repeat' split) <;> omega, by unfold f123; (repeat' split) <;> first | decide +kernel | (intro h; exact absurd rfl h)⟩ (fun C V PR PZ X σ h => ?_) (fun q C V PR PZ X σ h => ?_)
  · obtain ⟨⟨e0, hP, z0⟩, ⟨b1, b2, b3⟩, hr, hs, -⟩ := id h
    have b4 : 0 ≤ V 2 := by omega
    have ii : mi 100000 (PR 0) := by rw [e0]; exact hk.1
    have hd := d123 (C := C) (V := V) (PR := PR) (PZ := PZ) (X := X) (σ := σ) ii f1 f2 s1 s2
    rw [e0] at hd
    exact hd
  · obtain ⟨⟨e0, hP, z0⟩, ⟨b1, b2, b3⟩, hr, hs, -⟩ := id h
    have b4 : 0 ≤ V 2 := by omega
    have ii : mi 100000 (PR 0) := by rw [e0]; exact hk.1
    unfold f123 at q
    rw [← e0] at q
    have c1 : 0 ≤ f ∧ f < PR 0 2 := by
      refine Classical.byContradiction fun c => ?_
      rw [if_pos c] at q
      exact absurd q (by decide)
    rw [if_neg (fun z => z c1)] at q
    have c2 : s = 1 ∨ s = -1 := by
      refine Classical.byContradiction fun c => ?_
      rw [if_neg c] at q
      exact absurd q (by decide)
    have hc := c123 (C := C) (V := V) (PR := PR) (PZ := PZ) (X := X) (σ := σ) ii (by omega) hP b1.1 b1.2 b4 b3 c1 c2
    have hm := gr_act (N := (mg_hop (PR 0) f s)) h (mi_hop ii c1.1 c1.2 (by omega))
    rw [e0] at hc hm
    exact ⟨_, _, _, _, hm, hc⟩
def f124 (R : mr_R) (w k : Int) : Int := mf_fT R w k
def q124 (Y : gy) (w k : Int) : Int × (gy × Nat) := qq (f124 Y.1 w k) ((Y.1 (9 + 10 * w + 3) + k) % Y.1 (9 + 10 * w + 0)) (ga Y (mg_turn Y.1 w k)) Y
def p124 : gp := fun ps Y => match ps with
  | [.int a0, .int a1] => some (q124 Y a0.toInt a1.toInt)
  | _ => none
theorem o124 {Y : gy} (hk : gk Y) {w k : Int} (w1 : -2147483648 ≤ w) (w2 : w < 2147483648) (k1 : -2147483648 ≤ k) (k2 : k < 2147483648) : ob Y (q124 Y w k).2.1 124 [.int (Int32.ofInt w), .int (Int32.ofInt k)] (Int32.ofInt (q124 Y w k).1) (q124 Y w k).2.2 := by
  refine ob_of ⟨by unfold f124 mf_fT; (repeat' split) <;> omega, by unfold f124 mf_fT; (repeat' split) <;> first | decide +kernel | (intro h; exact absurd rfl h)⟩ (fun C V PR PZ X σ h => ?_) (fun q C V PR PZ X σ h => ?_)
  · obtain ⟨⟨e0, hP, z0⟩, ⟨b1, b2, b3⟩, hr, hs, -⟩ := id h
    have b4 : 0 ≤ V 2 := by omega
    have ii : mi 100000 (PR 0) := by rw [e0]; exact hk.1
    have hd := d124 (C := C) (V := V) (PR := PR) (PZ := PZ) (X := X) (σ := σ) ii w1 w2 k1 k2
    rw [e0] at hd
    exact hd
  · obtain ⟨⟨e0, hP, z0⟩, ⟨b1, b2, b3⟩, hr, hs, -⟩ := id h
    have b4 : 0 ≤ V 2 := by omega
    have ii : mi 100000 (PR 0) := by rw [e0]; exact hk.1
    unfold f124 at q
    rw [← e0] at q
    have hc := c124 (C := C) (V := V) (PR := PR) (PZ := PZ) (X := X) (σ := σ) ii hP b1.1 b1.2 b4 b3 q
    have hm := gr_act (N := (mg_turn (PR 0) w k)) h (mi_turn2 ii (mf_fT_0 q).1.1 (mf_fT_0 q).1.2)
    rw [e0] at hc hm
    exact ⟨_, _, _, _, hm, hc⟩
def f125 (R : mr_R) (v : Int) : Int := if 0 ≤ v ∧ v ≤ 1 then 0 else 2
def q125 (Y : gy) (v : Int) : Int × (gy × Nat) := qq (f125 Y.1 v) (Y.1 8) (ga Y (mr_st Y.1 8 v)) Y
def p125 : gp := fun ps Y => match ps with
  | [.int a0] => some (q125 Y a0.toInt)
  | _ => none
theorem o125 {Y : gy} (hk : gk Y) {v : Int} (v1 : -2147483648 ≤ v) (v2 : v < 2147483648) : ob Y (q125 Y v).2.1 125 [.int (Int32.ofInt v)] (Int32.ofInt (q125 Y v).1) (q125 Y v).2.2 := by
  refine ob_of ⟨by unfold f125; (repeat' split) <;> omega, by unfold f125; (repeat' split) <;> first | decide +kernel | (intro h; exact absurd rfl h)⟩ (fun C V PR PZ X σ h => ?_) (fun q C V PR PZ X σ h => ?_)
  · obtain ⟨⟨e0, hP, z0⟩, ⟨b1, b2, b3⟩, hr, hs, -⟩ := id h
    have b4 : 0 ≤ V 2 := by omega
    have ii : mi 100000 (PR 0) := by rw [e0]; exact hk.1
    have hd := d125 (C := C) (V := V) (PR := PR) (PZ := PZ) (X := X) (σ := σ) v1 v2
    exact hd
  · obtain ⟨⟨e0, hP, z0⟩, ⟨b1, b2, b3⟩, hr, hs, -⟩ := id h
    have b4 : 0 ≤ V 2 := by omega
    have ii : mi 100000 (PR 0) := by rw [e0]; exact hk.1
    unfold f125 at q
    skip
    have c1 : 0 ≤ v ∧ v ≤ 1 := by
      refine Classical.byContradiction fun c => ?_
      rw [if_neg c] at q
      exact absurd q (by decide)
    have hc := c125 (C := C) (V := V) (PR := PR) (PZ := PZ) (X := X) (σ := σ) ii hP b1.1 b1.2 b4 b3 c1
    have hm := gr_act (N := (mr_st (PR 0) 8 v)) h (mi_set ii c1.1 c1.2)
    rw [e0] at hc hm
    exact ⟨_, _, _, _, hm, hc⟩
def f127 (R : mr_R) (f l : Int) : Int := if (0 ≤ f ∧ f < R 2) ∧ (0 ≤ l ∧ l < R 1) then 0 else 1
def q127 (Y : gy) (f l : Int) : Int × (gy × Nat) := qq (f127 Y.1 f l) (mf_why Y.1 f l) (Y) Y
def p127 : gp := fun ps Y => match ps with
  | [.int a0, .int a1] => some (q127 Y a0.toInt a1.toInt)
  | _ => none
theorem o127 {Y : gy} (hk : gk Y) {f l : Int} (f1 : -2147483648 ≤ f) (f2 : f < 2147483648) (l1 : -2147483648 ≤ l) (l2 : l < 2147483648) : ob Y (q127 Y f l).2.1 127 [.int (Int32.ofInt f), .int (Int32.ofInt l)] (Int32.ofInt (q127 Y f l).1) (q127 Y f l).2.2 := by
  refine ob_of ⟨by unfold f127; (repeat' split) <;> omega, by unfold f127; (repeat' split) <;> first | decide +kernel | (intro h; exact absurd rfl h)⟩ (fun C V PR PZ X σ h => ?_) (fun q C V PR PZ X σ h => ?_)
  · obtain ⟨⟨e0, hP, z0⟩, ⟨b1, b2, b3⟩, hr, hs, -⟩ := id h
    have b4 : 0 ≤ V 2 := by omega
    have ii : mi 100000 (PR 0) := by rw [e0]; exact hk.1
    have hd := d127 (C := C) (V := V) (PR := PR) (PZ := PZ) (X := X) (σ := σ) ii f1 f2 l1 l2
    rw [e0] at hd
    exact hd
  · obtain ⟨⟨e0, hP, z0⟩, ⟨b1, b2, b3⟩, hr, hs, -⟩ := id h
    have b4 : 0 ≤ V 2 := by omega
    have ii : mi 100000 (PR 0) := by rw [e0]; exact hk.1
    unfold f127 at q
    rw [← e0] at q
    have c1 : (0 ≤ f ∧ f < PR 0 2) ∧ (0 ≤ l ∧ l < PR 0 1) := by
      refine Classical.byContradiction fun c => ?_
      rw [if_neg c] at q
      exact absurd q (by decide)
    have hc := c127 (C := C) (V := V) (PR := PR) (PZ := PZ) (X := X) (σ := σ) ii c1
    rw [e0] at hc
    exact ⟨V, PR, PZ, X, h, hc⟩
def f128 (R : mr_R) (f w p y : Int) : Int := if (0 ≤ f ∧ f < R 2) ∧ (0 ≤ w ∧ w < R 0 ∧ 0 ≤ p ∧ p < R (9 + 10 * w + 0)) then (if 0 ≤ y ∧ y ≤ 1 then 0 else 2) else 1
noncomputable def q128 (Y : gy) (f w p y : Int) : Int × (gy × Nat) := qq (f128 Y.1 f w p y) (uf Y.1 f (w * 5 + p)) (Y) Y
noncomputable def p128 : gp := fun ps Y => match ps with
  | [.int a0, .int a1, .int a2, .int a3] => some (q128 Y a0.toInt a1.toInt a2.toInt a3.toInt)
  | _ => none
theorem o128 {Y : gy} (hk : gk Y) {f w p y : Int} (f1 : -2147483648 ≤ f) (f2 : f < 2147483648) (w1 : -2147483648 ≤ w) (w2 : w < 2147483648) (p1 : -2147483648 ≤ p) (p2 : p < 2147483648) (y1 : -2147483648 ≤ y) (y2 : y < 2147483648) : ob Y (q128 Y f w p y).2.1 128 [.int (Int32.ofInt f), .int (Int32.ofInt w), .int (Int32.ofInt p), .int (Int32.ofInt y)] (Int32.ofInt (q128 Y f w p y).1) (q128 Y f w p y).2.2 := by
  refine ob_of ⟨by unfold f128; (repeat' split) <;> omega, by unfold f128; (repeat' split) <;> first | decide +kernel | (intro h; exact absurd rfl h)⟩ (fun C V PR PZ X σ h => ?_) (fun q C V PR PZ X σ h => ?_)
  · obtain ⟨⟨e0, hP, z0⟩, ⟨b1, b2, b3⟩, hr, hs, -⟩ := id h
    have b4 : 0 ≤ V 2 := by omega
    have ii : mi 100000 (PR 0) := by rw [e0]; exact hk.1
    have hd := d128 (C := C) (V := V) (PR := PR) (PZ := PZ) (X := X) (σ := σ) ii f1 f2 w1 w2 p1 p2 y1 y2
    rw [e0] at hd
    exact hd
  · obtain ⟨⟨e0, hP, z0⟩, ⟨b1, b2, b3⟩, hr, hs, -⟩ := id h
    have b4 : 0 ≤ V 2 := by omega
    have ii : mi 100000 (PR 0) := by rw [e0]; exact hk.1
    unfold f128 at q
    rw [← e0] at q
    have c1 : (0 ≤ f ∧ f < PR 0 2) ∧ (0 ≤ w ∧ w < PR 0 0 ∧ 0 ≤ p ∧ p < PR 0 (9 + 10 * w + 0)) := by
      refine Classical.byContradiction fun c => ?_
      rw [if_neg c] at q
      exact absurd q (by decide)
    rw [if_pos c1] at q
    have c2 : 0 ≤ y ∧ y ≤ 1 := by
      refine Classical.byContradiction fun c => ?_
      rw [if_neg c] at q
      exact absurd q (by decide)
    obtain ⟨r, X0, X2, a1, a2, a3, a4, a5, a6, a7⟩ := c128 (C := C) (V := V) (PR := PR) (PZ := PZ) (X := X) (σ := σ) (f := f) (w := w) (p := p) (y := y) ii c1.1.1 c1.1.2 c1.2 (by omega)
    have hu := uf_L ii c1.1.1 c1.1.2 a1 a4
    rw [hu, e0] at a7
    exact ⟨_, _, _, _, gr_side h (ms_ne (by decide)) (ms_ne (by decide)) (ms_ne (by decide)) (fun _ _ => rfl) hP ((a3 1 (by decide) (by decide)).trans a2.2), a7⟩
def f129 (R : mr_R) (f w : Int) : Int := if (0 ≤ f ∧ f < R 2) ∧ (0 ≤ w ∧ w < R 0) then 0 else 1
noncomputable def q129 (Y : gy) (f w : Int) : Int × (gy × Nat) := qq (f129 Y.1 f w) (us Y.1 f w) (Y) Y
noncomputable def p129 : gp := fun ps Y => match ps with
  | [.int a0, .int a1] => some (q129 Y a0.toInt a1.toInt)
  | _ => none
theorem o129 {Y : gy} (hk : gk Y) {f w : Int} (f1 : -2147483648 ≤ f) (f2 : f < 2147483648) (w1 : -2147483648 ≤ w) (w2 : w < 2147483648) : ob Y (q129 Y f w).2.1 129 [.int (Int32.ofInt f), .int (Int32.ofInt w)] (Int32.ofInt (q129 Y f w).1) (q129 Y f w).2.2 := by
  refine ob_of ⟨by unfold f129; (repeat' split) <;> omega, by unfold f129; (repeat' split) <;> first | decide +kernel | (intro h; exact absurd rfl h)⟩ (fun C V PR PZ X σ h => ?_) (fun q C V PR PZ X σ h => ?_)
  · obtain ⟨⟨e0, hP, z0⟩, ⟨b1, b2, b3⟩, hr, hs, -⟩ := id h
    have b4 : 0 ≤ V 2 := by omega
    have ii : mi 100000 (PR 0) := by rw [e0]; exact hk.1
    have hd := d129 (C := C) (V := V) (PR := PR) (PZ := PZ) (X := X) (σ := σ) ii f1 f2 w1 w2
    rw [e0] at hd
    exact hd
  · obtain ⟨⟨e0, hP, z0⟩, ⟨b1, b2, b3⟩, hr, hs, -⟩ := id h
    have b4 : 0 ≤ V 2 := by omega
    have ii : mi 100000 (PR 0) := by rw [e0]; exact hk.1
    unfold f129 at q
    rw [← e0] at q
    have c1 : (0 ≤ f ∧ f < PR 0 2) ∧ (0 ≤ w ∧ w < PR 0 0) := by
      refine Classical.byContradiction fun c => ?_
      rw [if_neg c] at q
      exact absurd q (by decide)
    obtain ⟨X0, X2, a1, a2, a3, a7⟩ := c129 (C := C) (V := V) (PR := PR) (PZ := PZ) (X := X) (σ := σ) (f := f) (w := w) ii c1.1.1 c1.1.2 c1.2.1 c1.2.2
    rw [us_S ii c1.1.1 c1.1.2 a1 w, e0] at a7
    exact ⟨_, _, _, _, gr_side h (ms_ne (by decide)) (ms_ne (by decide)) (ms_ne (by decide)) (fun _ _ => rfl) hP ((a3 1 (by decide) (by decide)).trans a2.2), a7⟩
def f130 (R : mr_R) (f n : Int) : Int := if 0 ≤ f ∧ f < R 2 then (if 1 ≤ n ∧ n ≤ 4 then 0 else 2) else 1
noncomputable def q130 (Y : gy) (f n : Int) : Int × (gy × Nat) := qq (f130 Y.1 f n) (um Y.1 f n.toNat) (Y) Y
noncomputable def p130 : gp := fun ps Y => match ps with
  | [.int a0, .int a1] => some (q130 Y a0.toInt a1.toInt)
  | _ => none
theorem o130 {Y : gy} (hk : gk Y) {f n : Int} (f1 : -2147483648 ≤ f) (f2 : f < 2147483648) (n1 : -2147483648 ≤ n) (n2 : n < 2147483648) : ob Y (q130 Y f n).2.1 130 [.int (Int32.ofInt f), .int (Int32.ofInt n)] (Int32.ofInt (q130 Y f n).1) (q130 Y f n).2.2 := by
  refine ob_of ⟨by unfold f130; (repeat' split) <;> omega, by unfold f130; (repeat' split) <;> first | decide +kernel | (intro h; exact absurd rfl h)⟩ (fun C V PR PZ X σ h => ?_) (fun q C V PR PZ X σ h => ?_)
  · obtain ⟨⟨e0, hP, z0⟩, ⟨b1, b2, b3⟩, hr, hs, -⟩ := id h
    have b4 : 0 ≤ V 2 := by omega
    have ii : mi 100000 (PR 0) := by rw [e0]; exact hk.1
    have hd := d130 (C := C) (V := V) (PR := PR) (PZ := PZ) (X := X) (σ := σ) ii f1 f2 n1 n2
    rw [e0] at hd
    exact hd
  · obtain ⟨⟨e0, hP, z0⟩, ⟨b1, b2, b3⟩, hr, hs, -⟩ := id h
    have b4 : 0 ≤ V 2 := by omega
    have ii : mi 100000 (PR 0) := by rw [e0]; exact hk.1
    unfold f130 at q
    rw [← e0] at q
    have c1 : 0 ≤ f ∧ f < PR 0 2 := by
      refine Classical.byContradiction fun c => ?_
      rw [if_neg c] at q
      exact absurd q (by decide)
    rw [if_pos c1] at q
    have c2 : 1 ≤ n ∧ n ≤ 4 := by
      refine Classical.byContradiction fun c => ?_
      rw [if_neg c] at q
      exact absurd q (by decide)
    obtain ⟨r, X0, Y9, a1, a2, a3, a4, a5, a7⟩ := c130 (C := C) (V := V) (PR := PR) (PZ := PZ) (X := X) (σ := σ) (f := f) (n := n) ii c1.1 c1.2 c2.1 c2.2
    rw [(um_M ii c1.1 c1.2 a1 a4 a3).1, e0] at a7
    exact ⟨_, _, _, _, gr_side h (ms_ne (by decide)) (ms_ne (by decide)) (ms_ne (by decide)) (fun _ _ => rfl) hP ((sa_ne (by decide)).trans a2.2), a7⟩
def f133 (R : mr_R) (x : Int) : Int := if 0 ≤ x ∧ x ≤ 1 then 0 else 1
def q133 (Y : gy) (x : Int) : Int × (gy × Nat) := qq (f133 Y.1 x) (Y.1 3) (gv Y x.toNat) Y
def p133 : gp := fun ps Y => match ps with
  | [.int a0] => some (q133 Y a0.toInt)
  | _ => none
theorem o133 {Y : gy} (hk : gk Y) {x : Int} (x1 : -2147483648 ≤ x) (x2 : x < 2147483648) : ob Y (q133 Y x).2.1 133 [.int (Int32.ofInt x)] (Int32.ofInt (q133 Y x).1) (q133 Y x).2.2 := by
  refine ob_of ⟨by unfold f133; (repeat' split) <;> omega, by unfold f133; (repeat' split) <;> first | decide +kernel | (intro h; exact absurd rfl h)⟩ (fun C V PR PZ X σ h => ?_) (fun q C V PR PZ X σ h => ?_)
  · obtain ⟨⟨e0, hP, z0⟩, ⟨b1, b2, b3⟩, hr, hs, -⟩ := id h
    have b4 : 0 ≤ V 2 := by omega
    have ii : mi 100000 (PR 0) := by rw [e0]; exact hk.1
    have hd := d133 (C := C) (V := V) (PR := PR) (PZ := PZ) (X := X) (σ := σ) x1 x2
    exact hd
  · obtain ⟨⟨e0, hP, z0⟩, ⟨b1, b2, b3⟩, hr, hs, -⟩ := id h
    have b4 : 0 ≤ V 2 := by omega
    have ii : mi 100000 (PR 0) := by rw [e0]; exact hk.1
    unfold f133 at q
    skip
    have c1 : 0 ≤ x ∧ x ≤ 1 := by
      refine Classical.byContradiction fun c => ?_
      rw [if_neg c] at q
      exact absurd q (by decide)
    have hc := c133 (C := C) (V := V) (PR := PR) (PZ := PZ) (X := X) (σ := σ) hP c1.1 c1.2
    have hm := gr_save h c1.1 c1.2
    rw [e0] at hc hm
    exact ⟨_, _, _, _, hm, hc⟩
def p109 : gp := fun ps Y => match ps with
  | [.int a0] => qn (if 0 ≤ a0.toInt ∧ a0.toInt ≤ 255 then 0 else 2) Y
  | _ => none
theorem o109 {Y : gy} {c : Int} (c1 : -2147483648 ≤ c) (c2 : c < 2147483648) {r : Int × (gy × Nat)} (h : qn (if 0 ≤ c ∧ c ≤ 255 then 0 else 2) Y = some r) : ob Y r.2.1 109 [.int (Int32.ofInt c)] (Int32.ofInt r.1) r.2.2 := by
  refine ob_no h ⟨by split <;> omega, by split <;> first | decide +kernel | (intro h; exact absurd rfl h)⟩ (fun C V PR PZ X σ h => ?_)
  have hz := h.1.2.2
  have hd := d109 (C := C) (V := V) (PR := PR) (PZ := PZ) (X := X) (σ := σ) (c := c) (by omega) (by omega) c1 c2
  rw [if_neg (show ¬ V 0 = 120 by omega)] at hd
  exact hd
def p131 : gp := fun ps Y => match ps with
  | [.int a0, .long a1] => qn (if (1 ≤ a0.toInt ∧ a0.toInt ≤ 3) ∧ 0 ≤ a1.toInt ∧ a1.toInt < mf_all a0.toInt then 0 else 2) Y
  | _ => none
theorem o131 {Y : gy} {n a : Int} (n1 : -2147483648 ≤ n) (n2 : n < 2147483648) (a1 : -9223372036854775808 ≤ a) (a2 : a < 9223372036854775808) {r : Int × (gy × Nat)} (h : qn (if (1 ≤ n ∧ n ≤ 3) ∧ 0 ≤ a ∧ a < mf_all n then 0 else 2) Y = some r) : ob Y r.2.1 131 [.int (Int32.ofInt n), .long (Int64.ofInt a)] (Int32.ofInt r.1) r.2.2 := by
  refine ob_no h ⟨by split <;> omega, by split <;> first | decide +kernel | (intro h; exact absurd rfl h)⟩ (fun C V PR PZ X σ h => ?_)
  exact d131 n1 n2 a1 a2
/-- what a simulation tells -/
def v132 (R : mr_R) (x : Int64) (m : Int) : Int := 1000 * (mg_sF sx_n sx_r m.toNat x R 3 - R 3) + (if 999 < mg_sF sx_n sx_r m.toNat x R 4 - R 4 then 999 else mg_sF sx_n sx_r m.toNat x R 4 - R 4)
def f132 (m : Int) : Int := if 1 ≤ m ∧ m ≤ 60 then 0 else 2
def q132 (Y : gy) (x : Int64) (m : Int) : Int × (gy × Nat) := qq (f132 m) (v132 Y.1 x m) Y Y
def p132 : gp := fun ps Y => match ps with
  | [.long a0, .int a1] => some (q132 Y a0 a1.toInt)
  | _ => none
theorem o132 {Y : gy} (hk : gk Y) {x : Int64} {m : Int} (m1 : -2147483648 ≤ m) (m2 : m < 2147483648) : ob Y (q132 Y x m).2.1 132 [.long x, .int (Int32.ofInt m)] (Int32.ofInt (q132 Y x m).1) (q132 Y x m).2.2 := by
  refine ob_of ⟨by unfold f132; split <;> omega, by unfold f132; split <;> first | decide +kernel | (intro h; exact absurd rfl h)⟩ (fun C V PR PZ X σ h => ?_) (fun q C V PR PZ X σ h => ?_)
  · exact d132 m1 m2
  · obtain ⟨⟨e0, hP, z0⟩, ⟨b1, b2, b3⟩, hr, hs, -⟩ := id h
    have ii : mi 100000 (PR 0) := by rw [e0]; exact hk.1
    unfold f132 at q
    have c1 : 1 ≤ m ∧ m ≤ 60 := by
      refine Classical.byContradiction fun c => ?_
      rw [if_neg c] at q
      exact absurd q (by decide)
    have hc := c132 (C := C) (V := V) (PR := PR) (PZ := PZ) (X := X) (σ := σ) (x := x) ii (by omega) (by omega) hP c1
    have hT := mi_sF (f := sx_n) (g := sx_r) (fun x => (sx_bd x).1) m.toNat x ii (by omega) (by omega)
    rw [e0] at hc hT
    exact ⟨_, _, _, _, gr_side h rfl rfl rfl (fun _ e => sa_ne e) (cs_P1 hP hT) rfl, hc⟩
/-- undo and restore -/
def f126 (Y : gy) : Int := if (Y.2.1.length : Int) = 0 then 3 else 0
def q126 (Y : gy) : Int × (gy × Nat) := qq (f126 Y) ((Y.2.1.length : Int) - 1) (gu Y) Y
def p126 : gp := fun ps Y => match ps with
  | [] => some (q126 Y)
  | _ => none
theorem o126 {Y : gy} : ob Y (q126 Y).2.1 126 [] (Int32.ofInt (q126 Y).1) (q126 Y).2.2 := by
  refine ob_of ⟨by unfold f126; split <;> omega, by unfold f126; split <;> first | decide +kernel | (intro h; exact absurd rfl h)⟩ (fun C V PR PZ X σ h => ?_) (fun q C V PR PZ X σ h => ?_)
  · obtain ⟨⟨e0, hP, z0⟩, ⟨b1, b2, b3⟩, hr, hs, -⟩ := id h
    have hd := d126 (C := C) (V := V) (PR := PR) (PZ := PZ) (X := X) (σ := σ) (by omega) b3
    rw [b2] at hd
    exact hd
  · obtain ⟨⟨e0, hP, z0⟩, ⟨b1, b2, b3⟩, hr, hs, -⟩ := id h
    have c1 : (Y.2.1.length : Int) ≠ 0 := by
      intro c
      unfold f126 at q
      rw [if_pos c] at q
      exact absurd q (by decide)
    have hc := c126 (C := C) (V := V) (PR := PR) (PZ := PZ) (X := X) (σ := σ) hP b1.1 b1.2 (by omega) b3
    have e : Int32.ofInt (V 2 - 1) = Int32.ofInt ((Y.2.1.length : Int) - 1) := by rw [b2]
    rw [e] at hc
    exact ⟨_, _, _, _, gr_undo h c1, hc⟩
def f134 (Y : gy) (x : Int) : Int := if 0 ≤ x ∧ x ≤ 1 then (if (Y.2.2 x.toNat).isSome = true then 0 else 3) else 1
def q134 (Y : gy) (x : Int) : Int × (gy × Nat) := qq (f134 Y x) ((gt Y x.toNat).1 3) (gt Y x.toNat) Y
def p134 : gp := fun ps Y => match ps with
  | [.int a0] => some (q134 Y a0.toInt)
  | _ => none
theorem x134 {Y : gy} {V : mr_R} {PR X : Nat → mr_R} (h : gr_1 Y V PR X) {x : Int} (x1 : 0 ≤ x) (x2 : x ≤ 1) : (X 1 x = 1 ∧ Y.2.2 x.toNat = some (PR (x.toNat + 16))) ∨ (X 1 x = 0 ∧ Y.2.2 x.toNat = none) := by
  have := h.2.2.2.1 x.toNat (by omega)
  rwa [show ((x.toNat : Nat) : Int) = x by omega] at this
theorem o134 {Y : gy} {x : Int} (x1 : -2147483648 ≤ x) (x2 : x < 2147483648) : ob Y (q134 Y x).2.1 134 [.int (Int32.ofInt x)] (Int32.ofInt (q134 Y x).1) (q134 Y x).2.2 := by
  refine ob_of ⟨by unfold f134; (repeat' split) <;> omega, by unfold f134; (repeat' split) <;> first | decide +kernel | (intro h; exact absurd rfl h)⟩ (fun C V PR PZ X σ h => ?_) (fun q C V PR PZ X σ h => ?_)
  · unfold f134
    by_cases c : 0 ≤ x ∧ x ≤ 1
    · have hx := x134 h c.1 c.2
      have hd := d134 (C := C) (V := V) (PR := PR) (PZ := PZ) (X := X) (σ := σ) (x := x) (h.2.2.2.2 x) x1 x2
      rw [if_pos c] at hd ⊢
      rcases hx with ⟨a, b⟩ | ⟨a, b⟩
      · rw [if_pos a] at hd
        rw [b, if_pos (show (some (PR (x.toNat + 16))).isSome = true from rfl)]
        exact hd
      · rw [if_neg (by omega)] at hd
        rw [b, if_neg (show ¬ (none : Option mr_R).isSome = true by decide)]
        exact hd
    · have hd := d134 (C := C) (V := V) (PR := PR) (PZ := PZ) (X := X) (σ := σ) (x := x) (h.2.2.2.2 x) x1 x2
      rw [if_neg c] at hd
      rw [if_neg c]
      exact hd
  · obtain ⟨⟨e0, hP, z0⟩, ⟨b1, b2, b3⟩, hr, hs, -⟩ := id h
    unfold f134 at q
    have c1 : 0 ≤ x ∧ x ≤ 1 := by
      refine Classical.byContradiction fun c => ?_
      rw [if_neg c] at q
      exact absurd q (by decide)
    rw [if_pos c1] at q
    rcases x134 h c1.1 c1.2 with ⟨a, b⟩ | ⟨a, b⟩
    · have hc := c134 (C := C) (V := V) (PR := PR) (PZ := PZ) (X := X) (σ := σ) hP c1.1 c1.2 a
      have e : PR (x.toNat + 16) = (gt Y x.toNat).1 := by
        show _ = (Y.2.2 x.toNat).getD (fun _ => 0)
        rw [b]
        rfl
      rw [e] at hc
      have hm := gr_rest h c1.1 c1.2 a
      rw [e] at hm
      exact ⟨_, _, _, _, hm, hc⟩
    · rw [b, if_neg (show ¬ (none : Option mr_R).isSome = true by decide)] at q
      exact absurd q (by decide)
noncomputable def pfl : List (Nat × gp) := [(109, p109), (113, p113), (114, p114), (115, p115), (116, p116), (117, p117), (118, p118), (119, p119), (120, p120), (121, p121), (122, p122), (123, p123), (124, p124), (125, p125), (126, p126), (127, p127), (128, p128), (129, p129), (130, p130), (131, p131), (132, p132), (133, p133), (134, p134)]
def pf_in : List (Nat × gp) → Nat → Option gp
  | [], _ => none
  | q :: l, k => if Nat.beq q.1 k = true then some q.2 else pf_in l k
theorem pf_mem {k : Nat} {g : gp} : ∀ (l : List (Nat × gp)), pf_in l k = some g → (k, g) ∈ l
  | [], h => by simp [pf_in] at h
  | q :: l, h => by
    unfold pf_in at h
    by_cases e : Nat.beq q.1 k = true
    · rw [if_pos e] at h
      have h1 := Nat.eq_of_beq_eq_true e
      have h2 := Option.some.inj h
      rw [← h1, ← h2]
      exact List.mem_cons_self
    · rw [if_neg e] at h
      exact List.mem_cons_of_mem _ (pf_mem l h)
/-- the call k of a pond -/
noncomputable def pf (k : Nat) (ps : List Value) (Y : gy) : Option (Int × (gy × Nat)) := @ite _ (gk Y) (Classical.propDecidable _) ((pf_in pfl k).bind fun g => g ps Y) none
theorem po : ∀ q ∈ pfl, ∀ (ps : List Value) (Y : gy) (r : Int × (gy × Nat)), gk Y → q.2 ps Y = some r → ob Y r.2.1 q.1 ps (Int32.ofInt r.1) r.2.2 ∧ r.2.2 ≤ 1 := by
  unfold pfl
  refine List.forall_mem_cons.mpr ⟨?_, List.forall_mem_cons.mpr ⟨?_, List.forall_mem_cons.mpr ⟨?_, List.forall_mem_cons.mpr ⟨?_, List.forall_mem_cons.mpr ⟨?_, List.forall_mem_cons.mpr ⟨?_, List.forall_mem_cons.mpr ⟨?_, List.forall_mem_cons.mpr ⟨?_, List.forall_mem_cons.mpr ⟨?_, List.forall_mem_cons.mpr ⟨?_, List.forall_mem_cons.mpr ⟨?_, List.forall_mem_cons.mpr ⟨?_, List.forall_mem_cons.mpr ⟨?_, List.forall_mem_cons.mpr ⟨?_, List.forall_mem_cons.mpr ⟨?_, List.forall_mem_cons.mpr ⟨?_, List.forall_mem_cons.mpr ⟨?_, List.forall_mem_cons.mpr ⟨?_, List.forall_mem_cons.mpr ⟨?_, List.forall_mem_cons.mpr ⟨?_, List.forall_mem_cons.mpr ⟨?_, List.forall_mem_cons.mpr ⟨?_, List.forall_mem_cons.mpr ⟨?_, fun _ h => nomatch h⟩⟩⟩⟩⟩⟩⟩⟩⟩⟩⟩⟩⟩⟩⟩⟩⟩⟩⟩⟩⟩⟩⟩
  · intro ps Y r hk h
    simp only [p109] at h
    split at h
    · rename_i x0
      obtain ⟨y0, rfl, u0, v0⟩ := na_of x0
      rw [na_toInt u0 v0] at h
      exact ⟨o109 u0 v0 h, qn_le h⟩
    · cases h
  · intro ps Y r hk h
    simp only [p113] at h
    split at h
    · cases h
      rename_i x0
      obtain ⟨y0, rfl, u0, v0⟩ := na_of x0
      rw [na_toInt u0 v0]
      exact ⟨o113 hk u0 v0, qq_le⟩
    · cases h
  · intro ps Y r hk h
    simp only [p114] at h
    split at h
    · cases h
      rename_i x0 x1
      obtain ⟨y0, rfl, u0, v0⟩ := na_of x0
      obtain ⟨y1, rfl, u1, v1⟩ := na_of x1
      rw [na_toInt u0 v0, na_toInt u1 v1]
      exact ⟨o114 hk u0 v0 u1 v1, qq_le⟩
    · cases h
  · intro ps Y r hk h
    simp only [p115] at h
    split at h
    · cases h
      rename_i x0 x1 x2
      obtain ⟨y0, rfl, u0, v0⟩ := na_of x0
      obtain ⟨y1, rfl, u1, v1⟩ := na_of x1
      obtain ⟨y2, rfl, u2, v2⟩ := na_of x2
      rw [na_toInt u0 v0, na_toInt u1 v1, na_toInt u2 v2]
      exact ⟨o115 hk u0 v0 u1 v1 u2 v2, qq_le⟩
    · cases h
  · intro ps Y r hk h
    simp only [p116] at h
    split at h
    · cases h
      rename_i x0 x1
      obtain ⟨y0, rfl, u0, v0⟩ := na_of x0
      obtain ⟨y1, rfl, u1, v1⟩ := na_of x1
      rw [na_toInt u0 v0, na_toInt u1 v1]
      exact ⟨o116 hk u0 v0 u1 v1, qq_le⟩
    · cases h
  · intro ps Y r hk h
    simp only [p117] at h
    split at h
    · cases h
      rename_i x0 x1
      obtain ⟨y0, rfl, u0, v0⟩ := na_of x0
      obtain ⟨y1, rfl, u1, v1⟩ := na_of x1
      rw [na_toInt u0 v0, na_toInt u1 v1]
      exact ⟨o117 hk u0 v0 u1 v1, qq_le⟩
    · cases h
  · intro ps Y r hk h
    simp only [p118] at h
    split at h
    · cases h
      rename_i x0 x1 x2
      obtain ⟨y0, rfl, u0, v0⟩ := na_of x0
      obtain ⟨y1, rfl, u1, v1⟩ := na_of x1
      obtain ⟨y2, rfl, u2, v2⟩ := na_of x2
      rw [na_toInt u0 v0, na_toInt u1 v1, na_toInt u2 v2]
      exact ⟨o118 hk u0 v0 u1 v1 u2 v2, qq_le⟩
    · cases h
  · intro ps Y r hk h
    simp only [p119] at h
    split at h
    · cases h
      rename_i x0 x1 x2 x3
      obtain ⟨y0, rfl, u0, v0⟩ := na_of x0
      obtain ⟨y1, rfl, u1, v1⟩ := na_of x1
      obtain ⟨y2, rfl, u2, v2⟩ := na_of x2
      obtain ⟨y3, rfl, u3, v3⟩ := na_of x3
      rw [na_toInt u0 v0, na_toInt u1 v1, na_toInt u2 v2, na_toInt u3 v3]
      exact ⟨o119 hk u0 v0 u1 v1 u2 v2 u3 v3, qq_le⟩
    · cases h
  · intro ps Y r hk h
    simp only [p120] at h
    split at h
    · cases h
      rename_i x0 x1 x2
      obtain ⟨y0, rfl, u0, v0⟩ := na_of x0
      obtain ⟨y1, rfl, u1, v1⟩ := na_of x1
      obtain ⟨y2, rfl, u2, v2⟩ := na_of x2
      rw [na_toInt u0 v0, na_toInt u1 v1, na_toInt u2 v2]
      exact ⟨o120 hk u0 v0 u1 v1 u2 v2, qq_le⟩
    · cases h
  · intro ps Y r hk h
    simp only [p121] at h
    split at h
    · cases h
      rename_i x0 x1 x2
      obtain ⟨y0, rfl, u0, v0⟩ := na_of x0
      obtain ⟨y1, rfl, u1, v1⟩ := na_of x1
      obtain ⟨y2, rfl, u2, v2⟩ := na_of x2
      rw [na_toInt u0 v0, na_toInt u1 v1, na_toInt u2 v2]
      exact ⟨o121 hk u0 v0 u1 v1 u2 v2, qq_le⟩
    · cases h
  · intro ps Y r hk h
    simp only [p122] at h
    split at h
    · cases h
      rename_i x0 x1
      obtain ⟨y0, rfl, u0, v0⟩ := na_of x0
      obtain ⟨y1, rfl, u1, v1⟩ := na_of x1
      rw [na_toInt u0 v0, na_toInt u1 v1]
      exact ⟨o122 hk u0 v0 u1 v1, qq_le⟩
    · cases h
  · intro ps Y r hk h
    simp only [p123] at h
    split at h
    · cases h
      rename_i x0 x1
      obtain ⟨y0, rfl, u0, v0⟩ := na_of x0
      obtain ⟨y1, rfl, u1, v1⟩ := na_of x1
      rw [na_toInt u0 v0, na_toInt u1 v1]
      exact ⟨o123 hk u0 v0 u1 v1, qq_le⟩
    · cases h
  · intro ps Y r hk h
    simp only [p124] at h
    split at h
    · cases h
      rename_i x0 x1
      obtain ⟨y0, rfl, u0, v0⟩ := na_of x0
      obtain ⟨y1, rfl, u1, v1⟩ := na_of x1
      rw [na_toInt u0 v0, na_toInt u1 v1]
      exact ⟨o124 hk u0 v0 u1 v1, qq_le⟩
    · cases h
  · intro ps Y r hk h
    simp only [p125] at h
    split at h
    · cases h
      rename_i x0
      obtain ⟨y0, rfl, u0, v0⟩ := na_of x0
      rw [na_toInt u0 v0]
      exact ⟨o125 hk u0 v0, qq_le⟩
    · cases h
  · intro ps Y r hk h
    simp only [p126] at h
    split at h
    · cases h
      exact ⟨o126, qq_le⟩
    · cases h
  · intro ps Y r hk h
    simp only [p127] at h
    split at h
    · cases h
      rename_i x0 x1
      obtain ⟨y0, rfl, u0, v0⟩ := na_of x0
      obtain ⟨y1, rfl, u1, v1⟩ := na_of x1
      rw [na_toInt u0 v0, na_toInt u1 v1]
      exact ⟨o127 hk u0 v0 u1 v1, qq_le⟩
    · cases h
  · intro ps Y r hk h
    simp only [p128] at h
    split at h
    · cases h
      rename_i x0 x1 x2 x3
      obtain ⟨y0, rfl, u0, v0⟩ := na_of x0
      obtain ⟨y1, rfl, u1, v1⟩ := na_of x1
      obtain ⟨y2, rfl, u2, v2⟩ := na_of x2
      obtain ⟨y3, rfl, u3, v3⟩ := na_of x3
      rw [na_toInt u0 v0, na_toInt u1 v1, na_toInt u2 v2, na_toInt u3 v3]
      exact ⟨o128 hk u0 v0 u1 v1 u2 v2 u3 v3, qq_le⟩
    · cases h
  · intro ps Y r hk h
    simp only [p129] at h
    split at h
    · cases h
      rename_i x0 x1
      obtain ⟨y0, rfl, u0, v0⟩ := na_of x0
      obtain ⟨y1, rfl, u1, v1⟩ := na_of x1
      rw [na_toInt u0 v0, na_toInt u1 v1]
      exact ⟨o129 hk u0 v0 u1 v1, qq_le⟩
    · cases h
  · intro ps Y r hk h
    simp only [p130] at h
    split at h
    · cases h
      rename_i x0 x1
      obtain ⟨y0, rfl, u0, v0⟩ := na_of x0
      obtain ⟨y1, rfl, u1, v1⟩ := na_of x1
      rw [na_toInt u0 v0, na_toInt u1 v1]
      exact ⟨o130 hk u0 v0 u1 v1, qq_le⟩
    · cases h
  · intro ps Y r hk h
    simp only [p131] at h
    split at h
    · rename_i x0 x1
      obtain ⟨y0, rfl, u0, v0⟩ := na_of x0
      obtain ⟨y1, rfl, u1, v1⟩ := nb_of x1
      rw [na_toInt u0 v0, nb_toInt u1 v1] at h
      exact ⟨o131 u0 v0 u1 v1 h, qn_le h⟩
    · cases h
  · intro ps Y r hk h
    simp only [p132] at h
    split at h
    · cases h
      rename_i x0 x1
      obtain ⟨y1, rfl, u1, v1⟩ := na_of x1
      rw [na_toInt u1 v1]
      exact ⟨o132 hk u1 v1, qq_le⟩
    · cases h
  · intro ps Y r hk h
    simp only [p133] at h
    split at h
    · cases h
      rename_i x0
      obtain ⟨y0, rfl, u0, v0⟩ := na_of x0
      rw [na_toInt u0 v0]
      exact ⟨o133 hk u0 v0, qq_le⟩
    · cases h
  · intro ps Y r hk h
    simp only [p134] at h
    split at h
    · cases h
      rename_i x0
      obtain ⟨y0, rfl, u0, v0⟩ := na_of x0
      rw [na_toInt u0 v0]
      exact ⟨o134 u0 v0, qq_le⟩
    · cases h
theorem pf_ob {k : Nat} {ps : List Value} {Y : gy} {r : Int × (gy × Nat)} (h : pf k ps Y = some r) : gk Y ∧ ob Y r.2.1 k ps (Int32.ofInt r.1) r.2.2 ∧ r.2.2 ≤ 1 ∧ ∃ g, (k, g) ∈ pfl ∧ g ps Y = some r := by
  unfold pf at h
  split at h
  · rename_i hk
    rw [Option.bind_eq_some_iff] at h
    obtain ⟨g, h1, h2⟩ := h
    have hm := pf_mem _ h1
    have ho := po _ hm ps Y r hk h2
    exact ⟨hk, ho.1, ho.2, g, hm, h2⟩
  · cases h
