/-! The steps, and that the machine goes with them. -/
/-- the locals of the picture are the frame's -/
def ri_Lo (ls : Array Slot) (nL : Nat) (L : ri_L) : Prop := ls.size = nL ∧ lv_wf ls ∧ ∀ (i : Nat) (v : Value), ri_get L i = some v → ls[i]? = some (.val v)
def ri_lv : Nat → ri_L → List (Nat × Value)
  | _, [] => []
  | k, none :: l => ri_lv (k + 1) l
  | k, some v :: l => (k, v) :: ri_lv (k + 1) l
theorem ri_lv_get : ∀ (L : ri_L) (k : Nat) (q : Nat × Value), q ∈ ri_lv k L ↔ ∃ i, q.1 = k + i ∧ ri_get L i = some q.2
  | [], k, q => by simp [ri_lv, ri_get]
  | none :: l, k, q => by
    rw [ri_lv, ri_lv_get l (k + 1) q]
    constructor
    · rintro ⟨i, h1, h2⟩
      exact ⟨i + 1, by omega, h2⟩
    · rintro ⟨i, h1, h2⟩
      cases i with
      | zero => exact absurd h2 (by simp [ri_get])
      | succ i => exact ⟨i, by omega, h2⟩
  | some v :: l, k, q => by
    rw [ri_lv, List.mem_cons, ri_lv_get l (k + 1) q]
    constructor
    · rintro (h | ⟨i, h1, h2⟩)
      · subst h; exact ⟨0, rfl, rfl⟩
      · exact ⟨i + 1, by omega, h2⟩
    · rintro ⟨i, h1, h2⟩
      cases i with
      | zero => exact Or.inl (by obtain ⟨a, b⟩ := q; simp only [ri_get, Option.some.injEq] at h2; simp only [Nat.add_zero] at h1; rw [h1, h2])
      | succ i => exact Or.inr ⟨i, by omega, h2⟩
theorem ri_Lo.has {ls : Array Slot} {nL : Nat} {L : ri_L} (h : ri_Lo ls nL L) : lv_has ls nL (ri_lv 0 L) := ⟨h.1, h.2.1, fun q hq => by
  obtain ⟨i, h1, h2⟩ := (ri_lv_get L 0 q).mp hq
  rw [h1, Nat.zero_add]
  exact h.2.2 i _ h2⟩
theorem ri_clr_cat {a : Option Value} {w : Value} (h : ri_clr a = some w) : a = some w ∧ w.category ≠ 2 := by
  match a, h with
  | none, h => cases h
  | some (.int x), h => cases h; exact ⟨rfl, show (1 : Nat) ≠ 2 by decide⟩
  | some (.ref x), h => cases h; exact ⟨rfl, show (1 : Nat) ≠ 2 by decide⟩
  | some .null, h => cases h; exact ⟨rfl, show (1 : Nat) ≠ 2 by decide⟩
theorem ri_get_set : ∀ (L : ri_L) (i j : Nat) (v w : Value), ri_get (ri_set L i v) j = some w → (j = i ∧ w = v) ∨ (j ≠ i ∧ ri_get L j = some w ∧ ¬ (j + 1 = i ∧ w.category = 2))
  | [], i, j, v, w, h => by cases i <;> exact absurd h (by simp [ri_set, ri_get])
  | a :: l, 0, 0, v, w, h => by simp only [ri_set, ri_get, Option.some.injEq] at h; exact Or.inl ⟨rfl, h.symm⟩
  | a :: l, 0, j + 1, v, w, h => Or.inr ⟨by omega, h, by omega⟩
  | a :: l, 1, 0, v, w, h => by
    have h1 : ri_clr a = some w := h
    obtain ⟨h2, h3⟩ := ri_clr_cat h1
    exact Or.inr ⟨by omega, h2, fun q => h3 q.2⟩
  | a :: l, i + 2, 0, v, w, h => Or.inr ⟨by omega, h, by omega⟩
  | a :: l, i + 1, j + 1, v, w, h => by
    rcases ri_get_set l i j v w h with ⟨h1, h2⟩ | ⟨h1, h2, h3⟩
    · exact Or.inl ⟨by omega, h2⟩
    · exact Or.inr ⟨by omega, h2, fun q => h3 ⟨by omega, q.2⟩⟩
theorem ri_get_non : ∀ (L : ri_L) (i j : Nat) (w : Value), ri_get (ri_non L i) j = some w → j ≠ i ∧ ri_get L j = some w
  | [], i, j, w, h => by exact absurd h (by simp [ri_non, ri_get])
  | a :: l, 0, 0, w, h => by exact absurd h (by simp [ri_non, ri_get])
  | a :: l, 0, j + 1, w, h => ⟨by omega, h⟩
  | a :: l, i + 1, 0, w, h => ⟨by omega, h⟩
  | a :: l, i + 1, j + 1, w, h => by
    obtain ⟨h1, h2⟩ := ri_get_non l i j w h
    exact ⟨by omega, h2⟩
theorem ri_Lo.set {ls2 : Array Slot} {nL i : Nat} {L : ri_L} {v : Value} (h : lv_has ls2 nL ((i, v) :: (ri_lv 0 L).filter (fun q => !(q.1 == i) && !(q.1 + 1 == i && q.2.category == 2)))) : ri_Lo ls2 nL (ri_set L i v) := by
  refine ⟨h.1, h.2.1, fun j w hj => ?_⟩
  rcases ri_get_set L i j v w hj with ⟨h1, h2⟩ | ⟨h1, h2, h3⟩
  · rw [h1, h2]
    exact h.2.2 (i, v) List.mem_cons_self
  · refine h.2.2 (j, w) (List.mem_cons_of_mem _ (List.mem_filter.mpr ⟨(ri_lv_get L 0 (j, w)).mpr ⟨j, by simp, h2⟩, ?_⟩))
    have e1 : (j == i) = false := by simp [h1]
    show (!(j == i) && !(j + 1 == i && w.category == 2)) = true
    rw [e1]
    simp
    by_cases hj : j + 1 = i
    · exact Or.inr fun b => h3 ⟨hj, b⟩
    · exact Or.inl hj
theorem ri_Lo.set2 {ls2 : Array Slot} {nL i : Nat} {L : ri_L} {v : Value} (h : lv_has ls2 nL ((i, v) :: (ri_lv 0 L).filter (fun q => !(q.1 == i) && (!(q.1 == i + 1) && !(q.1 + 1 == i && q.2.category == 2))))) : ri_Lo ls2 nL (ri_non (ri_set L i v) (i + 1)) := by
  refine ⟨h.1, h.2.1, fun j w hj => ?_⟩
  obtain ⟨h0, hj⟩ := ri_get_non _ _ _ _ hj
  rcases ri_get_set L i j v w hj with ⟨h1, h2⟩ | ⟨h1, h2, h3⟩
  · rw [h1, h2]
    exact h.2.2 (i, v) List.mem_cons_self
  · refine h.2.2 (j, w) (List.mem_cons_of_mem _ (List.mem_filter.mpr ⟨(ri_lv_get L 0 (j, w)).mpr ⟨j, by simp, h2⟩, ?_⟩))
    have e1 : (j == i) = false := by simp [h1]
    have e2 : (j == i + 1) = false := by simp [h0]
    show (!(j == i) && (!(j == i + 1) && !(j + 1 == i && w.category == 2))) = true
    rw [e1, e2]
    simp
    by_cases hj : j + 1 = i
    · exact Or.inr fun b => h3 ⟨hj, b⟩
    · exact Or.inl hj
/-- a cell of the picture as the kit has it -/
def ri_cv (dT : Nat → ClassId) : ri_El → va_E
  | .inl (k, n, f) => .inl (dT k, n, .inl f)
  | .inr (.inl (n, g)) => .inl (dT 2, n, .inr (.inr (.inr (.inr g))))
  | .inr (.inr (ci, fs)) => .inr (ci, fs)
def ri_tys (dT : Nat → ClassId) (Cq : String) : List (ClassId × FieldType) := [(dT 0, .int), (dT 1, .int), (dT 2, .object Cq)]
/-- the picture holds -/
def ri_Hp (D : va_G) (cl : List vw_C) (dT : Nat → ClassId) (A : Nat → Prop) (σ : ri_S) (H : Heap) : Prop :=
  (∀ (a : Nat) (e : ri_El), σ.1 a = some e → va_at D cl (a, ri_cv dT e) H ∧ A a) ∧ H.size = σ.2
def ri_I (D : va_G) (cl : List vw_C) (dT : Nat → ClassId) (A : Nat → Prop) (H0 : Heap) (σ : ri_S) (H : Heap) (locs : List Loc) : Prop :=
  ri_Hp D cl dT A σ H ∧ va_S A H0 H locs
/-- what holds all through a method -/
def ri_X (LW : List Cond) (cl : List vw_C) (Cq : String) (Ex : (Nat → Prop) → State → Heap → Prop) (D : va_G) (dT : Nat → ClassId) (own nme : String) (cc : ByteArray) (nL : Nat) (p : Program) (R : Room) (s : State) (m : MethodId) (args : Array Value) (meth : Method) (c : Code) (A : Nat → Prop) : Prop :=
  CallFix p m c cc nL s args LW own ∧ (1 ≤ R.frames ∧ 60 ≤ R.locals) ∧ va_K D cl (ri_tys dT Cq) s ∧ (∀ q, s.heap.size ≤ q → A q) ∧ meth.name = nme ∧ Ex A s s.heap
/-- the machine goes with a step -/
def ri_ok (LW : List Cond) (cl : List vw_C) (Cq : String) (Ex : (Nat → Prop) → State → Heap → Prop) (D : va_G) (dT : Nat → ClassId) (own nme : String) (cc : ByteArray) (nL : Nat) (pc : Nat) (op : ri_Op) : Prop :=
  ∀ (p : Program) (l : Launch) (e : Env) (R : Room) (s : State) (m : MethodId) (args : Array Value) (below : List Frame) (meth : Method) (c : Code) (A : Nat → Prop) (Q : State → Prop), ri_X LW cl Cq Ex D dT own nme cc nL p R s m args meth c A →
    ∀ (L : ri_L) (st : List Value) (σ : ri_S) (fr2 : ri_F) (σ2 : ri_S) (H : Heap) (locs : List Loc) (cells slots : Nat) (ls : Array Slot), op (pc, L, st) σ = some (fr2, σ2) → ri_I D cl dT A s.heap σ H locs → ri_Lo ls nL L →
      cells + (σ2.2 - σ.2) ≤ R.cells → slots + 2000 * (σ2.2 - σ.2) ≤ R.slots →
      (∀ (H2 : Heap) (locs2 : List Loc) (ls2 : Array Slot), ri_I D cl dT A s.heap σ2 H2 locs2 → ri_Lo ls2 nL fr2.2.1 → W p l e R s m args below meth c H2 locs2 (cells + (σ2.2 - σ.2)) (slots + 2000 * (σ2.2 - σ.2)) Q (F0 m fr2.1 ls2 fr2.2.2)) →
      σ.2 ≤ σ2.2 ∧ W p l e R s m args below meth c H locs cells slots Q (F0 m pc ls st)
/-- a step that leaves the heap -/
def ri_pu (f : ri_F → Option ri_F) : ri_Op := fun fr σ => (f fr).map fun g => (g, σ)
def ri_okp (LW : List Cond) (own : String) (cc : ByteArray) (nL : Nat) (pc : Nat) (f : ri_F → Option ri_F) : Prop :=
  ∀ (p : Program) (l : Launch) (e : Env) (R : Room) (s : State) (m : MethodId) (args : Array Value) (below : List Frame) (meth : Method) (c : Code) (Q : State → Prop), CallFix p m c cc nL s args LW own → (1 ≤ R.frames ∧ 60 ≤ R.locals) →
    ∀ (L : ri_L) (st : List Value) (fr2 : ri_F) (H : Heap) (locs : List Loc) (cells slots : Nat) (ls : Array Slot), f (pc, L, st) = some fr2 → ri_Lo ls nL L → cells ≤ R.cells → slots ≤ R.slots →
      (∀ (ls2 : Array Slot), ri_Lo ls2 nL fr2.2.1 → W p l e R s m args below meth c H locs cells slots Q (F0 m fr2.1 ls2 fr2.2.2)) → W p l e R s m args below meth c H locs cells slots Q (F0 m pc ls st)
theorem ri_okp.ok {LW : List Cond} {cl : List vw_C} {Cq : String} {Ex : (Nat → Prop) → State → Heap → Prop} {D : va_G} {dT : Nat → ClassId} {own nme : String} {cc : ByteArray} {nL pc : Nat} {f : ri_F → Option ri_F} (h : ri_okp LW own cc nL pc f) : ri_ok LW cl Cq Ex D dT own nme cc nL pc (ri_pu f) := by
  intro p l e R s m args below meth c A Q X L st σ fr2 σ2 H locs cells slots ls ho hI hL hc hs kk
  unfold ri_pu at ho
  cases hf : f (pc, L, st) with
  | none => rw [hf] at ho; cases ho
  | some g =>
    rw [hf] at ho
    cases ho
    rw [Nat.sub_self, Nat.mul_zero, Nat.add_zero] at hs
    rw [Nat.sub_self, Nat.add_zero] at hc
    refine ⟨Nat.le_refl _, h p l e R s m args below meth c Q X.1 X.2.1 L st fr2 H locs cells slots ls hf hL hc hs fun ls2 hL2 => ?_⟩
    have h1 := kk H locs ls2 hI hL2
    rwa [Nat.sub_self, Nat.mul_zero, Nat.add_zero, Nat.add_zero] at h1
-- the plain steps
def ri_iload (i n : Nat) : ri_F → Option ri_F := fun fr => match ri_get fr.2.1 i with
  | some (.int x) => some (fr.1 + n, fr.2.1, .int x :: fr.2.2)
  | _ => none
def ri_lload (i n : Nat) : ri_F → Option ri_F := fun fr => match ri_get fr.2.1 i with
  | some (.long x) => some (fr.1 + n, fr.2.1, .long x :: fr.2.2)
  | _ => none
def ri_aload (i n : Nat) : ri_F → Option ri_F := fun fr => match ri_get fr.2.1 i with
  | some (.ref x) => some (fr.1 + n, fr.2.1, .ref x :: fr.2.2)
  | some .null => some (fr.1 + n, fr.2.1, .null :: fr.2.2)
  | _ => none
def ri_istore (i n : Nat) : ri_F → Option ri_F := fun fr => match fr.2.2 with
  | .int x :: st => some (fr.1 + n, ri_set fr.2.1 i (.int x), st)
  | _ => none
def ri_astore (i n : Nat) : ri_F → Option ri_F := fun fr => match fr.2.2 with
  | .ref x :: st => some (fr.1 + n, ri_set fr.2.1 i (.ref x), st)
  | .null :: st => some (fr.1 + n, ri_set fr.2.1 i .null, st)
  | _ => none
def ri_lstore (i n : Nat) : ri_F → Option ri_F := fun fr => match fr.2.2 with
  | .long x :: st => some (fr.1 + n, ri_non (ri_set fr.2.1 i (.long x)) (i + 1), st)
  | _ => none
def ri_iinc (i : Nat) (d : Int32) : ri_F → Option ri_F := fun fr => match ri_get fr.2.1 i with
  | some (.int x) => some (fr.1 + 3, ri_set fr.2.1 i (.int (x + d)), fr.2.2)
  | _ => none
def ri_icon (v : Int32) (n : Nat) : ri_F → Option ri_F := fun fr => some (fr.1 + n, fr.2.1, .int v :: fr.2.2)
def ri_lcon (v : Int64) (n : Nat) : ri_F → Option ri_F := fun fr => some (fr.1 + n, fr.2.1, .long v :: fr.2.2)
def ri_null : ri_F → Option ri_F := fun fr => some (fr.1 + 1, fr.2.1, .null :: fr.2.2)
def ri_ib (f : Int32 → Int32 → Int32) : ri_F → Option ri_F := fun fr => match fr.2.2 with
  | .int y :: .int x :: st => some (fr.1 + 1, fr.2.1, .int (f x y) :: st)
  | _ => none
def ri_idr (f : Int32 → Int32 → Int32) : ri_F → Option ri_F := fun fr => match fr.2.2 with
  | .int y :: .int x :: st => if y = 0 then none else some (fr.1 + 1, fr.2.1, .int (f x y) :: st)
  | _ => none
def ri_lb (f : Int64 → Int64 → Int64) : ri_F → Option ri_F := fun fr => match fr.2.2 with
  | .long y :: .long x :: st => some (fr.1 + 1, fr.2.1, .long (f x y) :: st)
  | _ => none
def ri_ldr (f : Int64 → Int64 → Int64) : ri_F → Option ri_F := fun fr => match fr.2.2 with
  | .long y :: .long x :: st => if y = 0 then none else some (fr.1 + 1, fr.2.1, .long (f x y) :: st)
  | _ => none
def ri_lsh (f : Int64 → Int32 → Int64) : ri_F → Option ri_F := fun fr => match fr.2.2 with
  | .int y :: .long x :: st => some (fr.1 + 1, fr.2.1, .long (f x y) :: st)
  | _ => none
def ri_lcmp : ri_F → Option ri_F := fun fr => match fr.2.2 with
  | .long y :: .long x :: st => some (fr.1 + 1, fr.2.1, .int (lg_cmp x y) :: st)
  | _ => none
def ri_i2l : ri_F → Option ri_F := fun fr => match fr.2.2 with
  | .int x :: st => some (fr.1 + 1, fr.2.1, .long x.toInt64 :: st)
  | _ => none
def ri_l2i : ri_F → Option ri_F := fun fr => match fr.2.2 with
  | .long x :: st => some (fr.1 + 1, fr.2.1, .int x.toInt32 :: st)
  | _ => none
def ri_dup : ri_F → Option ri_F := fun fr => match fr.2.2 with
  | .int x :: st => some (fr.1 + 1, fr.2.1, .int x :: .int x :: st)
  | .ref x :: st => some (fr.1 + 1, fr.2.1, .ref x :: .ref x :: st)
  | _ => none
def ri_dup2 : ri_F → Option ri_F := fun fr => match fr.2.2 with
  | .int x :: .ref y :: st => some (fr.1 + 1, fr.2.1, .int x :: .ref y :: .int x :: .ref y :: st)
  | _ => none
def ri_pop : ri_F → Option ri_F := fun fr => match fr.2.2 with
  | .int _ :: st => some (fr.1 + 1, fr.2.1, st)
  | .ref _ :: st => some (fr.1 + 1, fr.2.1, st)
  | _ => none
def ri_goto (t : Nat) : ri_F → Option ri_F := fun fr => some (t, fr.2.1, fr.2.2)
def ri_if (c : Int32 → Bool) (t : Nat) : ri_F → Option ri_F := fun fr => match fr.2.2 with
  | .int x :: st => if c x = true then some (t, fr.2.1, st) else some (fr.1 + 3, fr.2.1, st)
  | _ => none
def ri_icmp (c : Int32 → Int32 → Bool) (t : Nat) : ri_F → Option ri_F := fun fr => match fr.2.2 with
  | .int y :: .int x :: st => if c x y = true then some (t, fr.2.1, st) else some (fr.1 + 3, fr.2.1, st)
  | _ => none
def ri_ifnull (t : Nat) : ri_F → Option ri_F := fun fr => match fr.2.2 with
  | .null :: st => some (t, fr.2.1, st)
  | .ref _ :: st => some (fr.1 + 3, fr.2.1, st)
  | _ => none
/-- a table of targets from lo on -/
def ri_tab : List Nat → Int32 → Nat → Int32 → Nat
  | [], _, d, _ => d
  | t :: ts, lo, d, x => if x = lo then t else ri_tab ts (lo + 1) d x
def ri_switch (lo : Int32) (ts : List Nat) (d : Nat) : ri_F → Option ri_F := fun fr => match fr.2.2 with
  | .int x :: st => some (ri_tab ts lo d x, fr.2.1, st)
  | _ => none
def ri_min : ri_F → Option ri_F := fun fr => match fr.2.2 with
  | .int y :: .int x :: st => if ri_few st = true then some (fr.1 + 3, fr.2.1, .int (if y < x then y else x) :: st) else none
  | _ => none
def ri_max : ri_F → Option ri_F := fun fr => match fr.2.2 with
  | .int y :: .int x :: st => if ri_few st = true then some (fr.1 + 3, fr.2.1, .int (if x < y then y else x) :: st) else none
  | _ => none
/-- Object's constructor -/
def ri_oinit : ri_F → Option ri_F := fun fr => match fr.2.2 with
  | .ref _ :: st => if ri_few st = true then some (fr.1 + 3, fr.2.1, st) else none
  | _ => none
theorem ri_few_cat : ∀ {st : List Value}, ri_few st = true → (st.map fun v => v.category).sum ≤ 8 := by
  have hc : ∀ v : Value, v.category ≤ 2 := fun v => by cases v <;> simp [Value.category]
  intro st h
  match st, h with
  | [], _ => decide
  | [a], _ => have := hc a; simp; omega
  | [a, b], _ => have := hc a; have := hc b; simp; omega
  | [a, b, c], _ => have := hc a; have := hc b; have := hc c; simp; omega
  | [a, b, c, d], _ => have := hc a; have := hc b; have := hc c; have := hc d; simp; omega
