/-! The law's methods, the two ponds, the calls as steps. -/
def lq {α : Type} (d : α) : List (Nat × α) → Nat → α
  | [], _ => d
  | q :: l, k => if Nat.beq q.1 k = true then q.2 else lq d l k
def LN : Nat → MethodName := lq ⟨"", "", ""⟩ [(230, ⟨"LilyWheelsLaw", "call", "(LLilyWheels;IIII)I"⟩), (231, ⟨"LilyWheelsLaw", "thrown", "(I)Z"⟩), (232, ⟨"LilyWheelsLaw", "refuses", "(LLilyWheels;I)Z"⟩), (233, ⟨"LilyWheelsLaw", "holds", "(LLilyWheels;)Z"⟩), (234, ⟨"LilyWheelsLaw", "act", "(LLilyWheels;I)I"⟩), (235, ⟨"LilyWheelsLaw", "alike", "(LLilyWheels;LLilyWheels;I)Z"⟩), (236, ⟨"LilyWheelsLaw", "moves", "(LLilyWheels;LLilyWheels;I)Z"⟩), (237, ⟨"LilyWheelsLaw", "ways", "(LLilyWheels;I)Z"⟩), (238, ⟨"LilyWheelsLaw", "eats", "(LLilyWheels;LLilyWheels;I)Z"⟩), (240, ⟨"LilyWheelsLaw", "law", "([I)Z"⟩), (300, ⟨"LilyWheelsLaw", "cell", "([II)I"⟩), (309, ⟨"LilyWheelsLaw", "tryAppend", "(LLilyWheels;I)I"⟩), (312, ⟨"LilyWheelsLaw", "tryLoad", "(LLilyWheels;)I"⟩), (313, ⟨"LilyWheelsLaw", "tryAbout", "(LLilyWheels;I)I"⟩), (314, ⟨"LilyWheelsLaw", "tryWheel", "(LLilyWheels;II)I"⟩), (315, ⟨"LilyWheelsLaw", "trySpot", "(LLilyWheels;III)I"⟩), (316, ⟨"LilyWheelsLaw", "tryFrog", "(LLilyWheels;II)I"⟩), (317, ⟨"LilyWheelsLaw", "tryRope", "(LLilyWheels;II)I"⟩), (318, ⟨"LilyWheelsLaw", "tryBuild", "(LLilyWheels;III)I"⟩), (319, ⟨"LilyWheelsLaw", "lines", "(LLilyWheels;IIII)I"⟩), (320, ⟨"LilyWheelsLaw", "tryCome", "(LLilyWheels;III)I"⟩), (321, ⟨"LilyWheelsLaw", "tryBring", "(LLilyWheels;III)I"⟩), (322, ⟨"LilyWheelsLaw", "tryLeap", "(LLilyWheels;II)I"⟩), (323, ⟨"LilyWheelsLaw", "tryHop", "(LLilyWheels;II)I"⟩), (324, ⟨"LilyWheelsLaw", "tryTurn", "(LLilyWheels;II)I"⟩), (325, ⟨"LilyWheelsLaw", "tryLay", "(LLilyWheels;I)I"⟩), (326, ⟨"LilyWheelsLaw", "tryUndo", "(LLilyWheels;)I"⟩), (327, ⟨"LilyWheelsLaw", "tryWhy", "(LLilyWheels;II)I"⟩), (328, ⟨"LilyWheelsLaw", "least", "(LLilyWheels;IIII)I"⟩), (329, ⟨"LilyWheelsLaw", "tryCould", "(LLilyWheels;II)I"⟩), (330, ⟨"LilyWheelsLaw", "tryMost", "(LLilyWheels;II)I"⟩), (331, ⟨"LilyWheelsLaw", "doScript", "(LLilyWheels;IJ)I"⟩), (332, ⟨"LilyWheelsLaw", "doSimulate", "(LLilyWheels;JI)I"⟩), (333, ⟨"LilyWheelsLaw", "tryKeep", "(LLilyWheels;I)I"⟩), (334, ⟨"LilyWheelsLaw", "tryBack", "(LLilyWheels;I)I"⟩)]
def LB : Nat → ByteArray := lq ⟨#[]⟩ [(230, method_26_code), (231, method_28_code), (232, method_29_code), (233, method_30_code), (234, method_31_code), (235, method_32_code), (236, method_34_code), (237, method_35_code), (238, method_36_code), (240, code), (300, method_27_code), (309, method_6_code), (312, method_7_code), (313, method_8_code), (314, method_9_code), (315, method_12_code), (316, method_10_code), (317, method_11_code), (318, method_13_code), (319, method_2_code), (320, method_14_code), (321, method_15_code), (322, method_16_code), (323, method_17_code), (324, method_18_code), (325, method_19_code), (326, method_20_code), (327, method_21_code), (328, method_3_code), (329, method_22_code), (330, method_23_code), (331, method_4_code), (332, method_5_code), (333, method_24_code), (334, method_25_code)]
def LM : Nat → Nat := lq 0 [(230, 5), (231, 1), (232, 9), (233, 21), (234, 9), (235, 5), (236, 21), (237, 12), (238, 17), (240, 9), (300, 2), (309, 3), (312, 2), (313, 3), (314, 4), (315, 5), (316, 4), (317, 4), (318, 5), (319, 6), (320, 5), (321, 5), (322, 4), (323, 4), (324, 4), (325, 3), (326, 2), (327, 4), (328, 6), (329, 4), (330, 4), (331, 5), (332, 5), (333, 3), (334, 3)]
def LR : Nat → (Option FieldType) := lq none [(230, (some .int)), (231, (some .boolean)), (232, (some .boolean)), (233, (some .boolean)), (234, (some .int)), (235, (some .boolean)), (236, (some .boolean)), (237, (some .boolean)), (238, (some .boolean)), (240, (some .boolean)), (300, (some .int)), (309, (some .int)), (312, (some .int)), (313, (some .int)), (314, (some .int)), (315, (some .int)), (316, (some .int)), (317, (some .int)), (318, (some .int)), (319, (some .int)), (320, (some .int)), (321, (some .int)), (322, (some .int)), (323, (some .int)), (324, (some .int)), (325, (some .int)), (326, (some .int)), (327, (some .int)), (328, (some .int)), (329, (some .int)), (330, (some .int)), (331, (some .int)), (332, (some .int)), (333, (some .int)), (334, (some .int))]
def LH : Nat → Nat := lq 0 [(230, 21), (231, 20), (232, 22), (233, 22), (234, 22), (235, 22), (236, 22), (237, 22), (238, 22), (240, 23), (300, 20), (309, 20), (312, 20), (313, 20), (314, 20), (315, 20), (316, 20), (317, 20), (318, 20), (319, 20), (320, 20), (321, 20), (322, 20), (323, 20), (324, 20), (325, 20), (326, 20), (327, 20), (328, 20), (329, 20), (330, 20), (331, 20), (332, 20), (333, 20), (334, 20)]
def LTb : Nat → (List (Nat × Nat × Nat × Nat)) := lq [] [(230, []), (231, []), (232, []), (233, []), (234, []), (235, []), (236, []), (237, []), (238, []), (240, []), (300, []), (309, [(0, 5, 6, 16), (0, 5, 10, 19)]), (312, [(0, 4, 5, 19)]), (313, [(0, 5, 6, 16)]), (314, [(0, 6, 7, 13), (0, 6, 11, 16)]), (315, [(0, 7, 8, 13), (0, 7, 13, 16)]), (316, [(0, 6, 7, 13), (0, 6, 11, 16)]), (317, [(0, 6, 7, 13), (0, 6, 11, 16)]), (318, [(0, 7, 8, 16), (0, 7, 13, 19)]), (319, [(0, 9, 10, 13), (0, 9, 15, 16), (0, 9, 20, 19)]), (320, [(0, 7, 8, 13), (0, 7, 13, 16), (0, 7, 18, 19)]), (321, [(0, 7, 8, 13), (0, 7, 13, 16)]), (322, [(0, 6, 7, 13)]), (323, [(0, 6, 7, 13), (0, 6, 11, 16)]), (324, [(0, 6, 7, 13), (0, 6, 11, 16)]), (325, [(0, 5, 6, 16)]), (326, [(0, 4, 5, 19)]), (327, [(0, 6, 7, 13)]), (328, [(0, 9, 10, 13), (0, 9, 15, 16)]), (329, [(0, 6, 7, 13)]), (330, [(0, 6, 7, 13), (0, 6, 11, 16)]), (331, [(0, 6, 7, 16)]), (332, [(0, 6, 7, 16)]), (333, [(0, 5, 6, 13)]), (334, [(0, 5, 6, 13), (0, 5, 10, 19)])]
def lip (k : Nat) : Bool := Nat.ble 300 k
def LWd (k : Nat) : Cond := if Nat.ble 301 k = true then Cond.codeWith (LN k) (LB k) (LM k) (LR k) (LTb k) else Cond.code (LN k) (LB k) (LM k) (LR k)
theorem lq_le : ∀ (l : List (Nat × Nat)) (k m d : Nat), d ≤ m → (∀ q ∈ l, q.2 ≤ m) → lq d l k ≤ m
  | [], _, _, _, h, _ => h
  | q :: l, k, m, d, h, h2 => by
    unfold lq
    split
    · exact h2 q List.mem_cons_self
    · exact lq_le l k m d h fun z hz => h2 z (List.mem_cons_of_mem _ hz)
theorem LM_40 : ∀ k, LM k ≤ 40 := fun k => lq_le _ k 40 0 (Nat.zero_le _) (by decide)
/-! The two ponds. -/
def gi (C0 : Nat) (i : Bool) : Nat := match i with | false => C0 | true => C0 + 324
def gg (y : gy × gy) (i : Bool) : gy := match i with | false => y.1 | true => y.2
def gz (y : gy × gy) (i : Bool) (Y : gy) : gy × gy := match i with | false => (Y, y.2) | true => (y.1, Y)
def gr (C0 : Nat) (y : gy × gy) (σ : ri_S) : Prop := ∃ (V : mr_R) (PR PZ X : Nat → mr_R) (V2 : mr_R) (PR2 PZ2 X2 : Nat → mr_R) (z : Nat), C0 + 648 ≤ z ∧ gr_1 y.1 V PR X ∧ gr_1 y.2 V2 PR2 X2 ∧ σ = cs C0 V PR PZ X (cs (C0 + 324) V2 PR2 PZ2 X2 (su_b z))
theorem cs_cs {C M : Nat} {V V2 : mr_R} {PR PZ X PR2 PZ2 X2 : Nat → mr_R} {σ : ri_S} (h : C + 324 ≤ M) : cs C V PR PZ X (cs M V2 PR2 PZ2 X2 σ) = cs M V2 PR2 PZ2 X2 (cs C V PR PZ X σ) := by
  refine congrArg (·, σ.2) (funext fun q => ?_)
  show (if C ≤ q ∧ q < C + 324 then cs_c C V PR PZ X (q - C) else if M ≤ q ∧ q < M + 324 then cs_c M V2 PR2 PZ2 X2 (q - M) else σ.1 q) = (if M ≤ q ∧ q < M + 324 then cs_c M V2 PR2 PZ2 X2 (q - M) else if C ≤ q ∧ q < C + 324 then cs_c C V PR PZ X (q - C) else σ.1 q)
  by_cases a : C ≤ q ∧ q < C + 324
  · rw [if_pos a, if_neg (by omega), if_pos a]
  · rw [if_neg a, if_neg a]
theorem gr_z {C0 : Nat} {y : gy × gy} {σ : ri_S} (h : gr C0 y σ) : C0 ≤ σ.2 := by
  obtain ⟨V, PR, PZ, X, V2, PR2, PZ2, X2, z, hz, h1, h2, rfl⟩ := h
  show C0 ≤ z
  omega
/-- the size may grow -/
theorem gr_up {C0 z2 : Nat} {y : gy × gy} {σ : ri_S} (h : gr C0 y σ) (hz2 : σ.2 ≤ z2) : gr C0 y (σ.1, z2) := by
  obtain ⟨V, PR, PZ, X, V2, PR2, PZ2, X2, z, hz, h1, h2, rfl⟩ := h
  have hz3 : z ≤ z2 := hz2
  exact ⟨V, PR, PZ, X, V2, PR2, PZ2, X2, z2, by omega, h1, h2, rfl⟩
theorem gr_rcv {C0 : Nat} {y : gy × gy} {σ : ri_S} {as : List Value} (h : gr C0 y σ) (i : Bool) : ri_rcv (some 8) (.ref (gi C0 i) :: as) σ = true := by
  obtain ⟨V, PR, PZ, X, V2, PR2, PZ2, X2, z, hz, h1, h2, rfl⟩ := h
  cases i with
  | false =>
    have h0 := csx_0 (C := C0) (V := V) (PR := PR) (PZ := PZ) (X := X) (σ := cs (C0 + 324) V2 PR2 PZ2 X2 (su_b z))
    unfold ri_rcv
    simp only [gi, h0]
    rfl
  | true =>
    have h0 := csx_0 (C := C0 + 324) (V := V2) (PR := PR2) (PZ := PZ2) (X := X2) (σ := cs C0 V PR PZ X (su_b z))
    rw [cs_cs (Nat.le_refl _)]
    unfold ri_rcv
    simp only [gi, h0]
    rfl
/-- a call of one pond in the room of both -/
theorem gr_ob {C0 k t : Nat} {y : gy × gy} {σ : ri_S} {i : Bool} {Y2 : gy} {ps : List Value} {v : Int32} (h : gr C0 y σ) (ho : ob (gg y i) Y2 k ps v t) :
    (t = 0 ∧ ∃ σ2, gr C0 (gz y i Y2) σ2 ∧ cal k (.ref (gi C0 i) :: ps) σ = some (some (.int v), σ2) ∧ σ2.2 = σ.2) ∨
    (t = 1 ∧ gr C0 (gz y i Y2) σ ∧ ∃ f, ((1 ≤ f ∧ f ≤ 3) ∧ f ∈ wf k) ∧ v = Int32.ofInt (nz f) ∧ ev3 k (0, ri_ent (TM k) (.ref (gi C0 i) :: ps), []) σ = some (some (.int (Int32.ofNat f)), σ)) := by
  obtain ⟨V, PR, PZ, X, V2, PR2, PZ2, X2, z, hz, h1, h2, rfl⟩ := h
  cases i with
  | false =>
    rcases ho C0 V PR PZ X (cs (C0 + 324) V2 PR2 PZ2 X2 (su_b z)) h1 with ⟨e, V3, PR3, PZ3, X3, h3, hc⟩ | ⟨e, e2, f, hf, hv, hc⟩
    · exact Or.inl ⟨e, _, ⟨V3, PR3, PZ3, X3, V2, PR2, PZ2, X2, z, hz, h3, h2, rfl⟩, hc, rfl⟩
    · exact Or.inr ⟨e, ⟨V, PR, PZ, X, V2, PR2, PZ2, X2, z, hz, by rw [e2]; exact h1, h2, rfl⟩, f, hf, hv, hc⟩
  | true =>
    rw [cs_cs (Nat.le_refl _)]
    rcases ho (C0 + 324) V2 PR2 PZ2 X2 (cs C0 V PR PZ X (su_b z)) h2 with ⟨e, V3, PR3, PZ3, X3, h3, hc⟩ | ⟨e, e2, f, hf, hv, hc⟩
    · exact Or.inl ⟨e, _, ⟨V, PR, PZ, X, V3, PR3, PZ3, X3, z, hz, h1, h3, (cs_cs (Nat.le_refl _)).symm⟩, hc, rfl⟩
    · exact Or.inr ⟨e, ⟨V, PR, PZ, X, V2, PR2, PZ2, X2, z, hz, h1, by rw [e2]; exact h2, (cs_cs (Nat.le_refl _)).symm⟩, f, hf, hv, hc⟩
/-! The calls as steps. -/
/-- an int of the script, or what stands for it -/
def cellv (L0 : Nat) (xs0 : Nat → Int32) (k : Int) : Int32 := (if k < (L0 : Int) then xs0 k.toNat else Int32.ofInt 15519767 * (Int32.ofInt k + Int32.ofInt 3) + Int32.ofInt 11779) &&& Int32.ofInt 2147483647
noncomputable def lpr (C0 b0 L0 : Nat) (xs0 : Nat → Int32) : Nat → List Value → (gy × gy) × Nat → Option (Value × ((gy × gy) × Nat)) := fun k as y =>
  if Nat.beq k 300 = true then (match as with
    | [.ref a, .int i] => if a = b0 ∧ 0 ≤ i.toInt then some (.int (cellv L0 xs0 i.toInt), y) else none
    | _ => none)
  else (match as with
    | .ref a :: ps => if a = C0 then (pf (k - 200) ps y.1.1).map fun r => (.int (Int32.ofInt r.1), (gz y.1 false r.2.1, y.2 + r.2.2)) else if a = C0 + 324 then (pf (k - 200) ps y.1.2).map fun r => (.int (Int32.ofInt r.1), (gz y.1 true r.2.1, y.2 + r.2.2)) else none
    | _ => none)
section LPR
variable {C0 b0 L0 : Nat} {xs0 : Nat → Int32} {k : Nat} {as ps : List Value} {y y2 : (gy × gy) × Nat} {r : Value}
theorem lpr_in (hk : Nat.beq k 300 = false) (h : lpr C0 b0 L0 xs0 k as y = some (r, y2)) : ∃ (i : Bool) (ps : List Value) (r0 : Int × (gy × Nat)), as = .ref (gi C0 i) :: ps ∧ pf (k - 200) ps (gg y.1 i) = some r0 ∧ r = .int (Int32.ofInt r0.1) ∧ y2 = (gz y.1 i r0.2.1, y.2 + r0.2.2) := by
  unfold lpr at h
  rw [if_neg (by rw [hk]; decide)] at h
  split at h
  · rename_i a ps
    split at h
    · rename_i e
      subst e
      rw [Option.map_eq_some_iff] at h
      obtain ⟨r0, h1, h2⟩ := h
      cases h2
      exact ⟨false, ps, r0, rfl, h1, rfl, rfl⟩
    · split at h
      · rename_i e
        subst e
        rw [Option.map_eq_some_iff] at h
        obtain ⟨r0, h1, h2⟩ := h
        cases h2
        exact ⟨true, ps, r0, rfl, h1, rfl, rfl⟩
      · cases h
  · cases h
theorem lpr_of {i : Bool} {r0 : Int × (gy × Nat)} (hk : Nat.beq k 300 = false) (h : pf (k - 200) ps (gg y.1 i) = some r0) : lpr C0 b0 L0 xs0 k (.ref (gi C0 i) :: ps) y = some (.int (Int32.ofInt r0.1), (gz y.1 i r0.2.1, y.2 + r0.2.2)) := by
  unfold lpr
  rw [if_neg (by rw [hk]; decide)]
  cases i with
  | false =>
    have h : pf (k - 200) ps y.1.1 = some r0 := h
    show (if C0 = C0 then _ else _) = _
    rw [if_pos rfl, h]
    rfl
  | true =>
    have h : pf (k - 200) ps y.1.2 = some r0 := h
    show (if C0 + 324 = C0 then _ else if C0 + 324 = C0 + 324 then _ else _) = _
    rw [if_neg (by omega), if_pos rfl, h]
    rfl
theorem lpr_cell {k : Int} (h1 : 0 ≤ k) (h2 : k < 2147483648) : lpr C0 b0 L0 xs0 300 [.ref b0, .int (Int32.ofInt k)] y = some (.int (cellv L0 xs0 k), y) := by
  unfold lpr
  rw [if_pos (show Nat.beq 300 300 = true from rfl)]
  show (if b0 = b0 ∧ 0 ≤ (Int32.ofInt k).toInt then _ else _) = _
  rw [na_toInt (by omega) h2, if_pos ⟨rfl, h1⟩]
end LPR
