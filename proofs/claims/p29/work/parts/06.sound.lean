/-! What the reading machine comes to, the machine comes to. -/
/-- a call at pc of the method (nm2, b2, m2, rt2), n arguments, the receiver's class rc: the machine makes it -/
def ri_cok (LW : List Cond) (cl : List vw_C) (own : String) (cc : ByteArray) (nL pc : Nat) (nm2 : MethodName) (b2 : ByteArray) (m2 : Nat) (rt2 : Option FieldType) (n : Nat) (rc : Option Nat) : Prop :=
  ∀ (p : Program) (l : Launch) (e : Env) (R : Room) (s : State) (m : MethodId) (args : Array Value) (below : List Frame) (meth : Method) (c : Code), CallFix p m c cc nL s args LW own →
    ∀ (rm : Room) (Pc : Array Value → State → Prop) (Qc : Array Value → State → Outcome → State → Prop) (mc ms : Nat) (free : Addr → Prop), Met l nm2 (Cond.code nm2 b2 m2 rt2 :: LW) rm Pc Qc mc ms free → rm.cells = mc → rm.slots = ms → rm.frames + 1 ≤ R.frames → 8 + (m2 + 11) + rm.locals ≤ R.locals → FrameBlind Pc →
    ∀ (As rest : List Value) (H : Heap) (locs : List Loc) (cells slots : Nat) (ls : Array Slot), As.length = n → ls.size = nL → (∀ U : State, U.heap = H → s.WarmedH U.vm → Pc As.toArray U) →
      (∀ ci, rc = some ci → ∃ (b : Nat) (bs : List Value) (q : vw_C) (cell : Cell), As = .ref b :: bs ∧ cl[ci]? = some q ∧ H[b]? = some cell ∧ cell.vm.isStatics = false ∧ s.vm.findClass q.1 = some cell.cls) → (rest.map fun v => v.category).sum ≤ 8 → cells + mc ≤ R.cells → slots + ms ≤ R.slots →
      va_Run p l e R s m args below meth c H locs cells slots mc ms (F0 m pc ls (As.reverse ++ rest)) rest (Qc As.toArray) free
def ri_fin (cc : ByteArray) (pc rk : Nat) (rt : Option FieldType) : Prop := match rk with
  | 0 => decode cc pc = .ok (.return_, 1) ∧ rt = none
  | 1 => decode cc pc = .ok (.ireturn, 1) ∧ rt = some .int
  | 2 => decode cc pc = .ok (.ireturn, 1) ∧ rt = some .boolean
  | 3 => decode cc pc = .ok (.lreturn, 1) ∧ rt = some .long
  | 4 => decode cc pc = .ok (.areturn, 1) ∧ ∃ n, rt = some (.object n)
  | _ => True
section RISND
variable {LW : List Cond} {cl : List vw_C} {Cq : String} {Ex : (Nat → Prop) → State → Heap → Prop} {D : va_G} {dT : Nat → ClassId} {P : Nat → Nat → Option ri_C} {N : Nat → MethodName} {B : Nat → ByteArray} {M Hh : Nat → Nat} {Rt : Nat → Option FieldType}
/-- an entry of method k at pc is the machine's -/
def ri_eok (LW : List Cond) (cl : List vw_C) (Cq : String) (Ex : (Nat → Prop) → State → Heap → Prop) (D : va_G) (dT : Nat → ClassId) (N : Nat → MethodName) (B : Nat → ByteArray) (M : Nat → Nat) (Rt : Nat → Option FieldType) (k pc : Nat) (x : ri_C) : Prop := match x with
  | .inl op => ri_ok LW cl Cq Ex D dT (N k).cls (N k).name (B k) (M k) pc op
  | .inr (.inl (k2, n, rc)) => ri_cok LW cl (N k).cls (B k) (M k) pc (N k2) (B k2) (M k2) (Rt k2) n rc
  | .inr (.inr rk) => ri_fin (B k) pc rk (Rt k)
/-- a method of the table is the machine's -/
def ri_mok (LW : List Cond) (cl : List vw_C) (Cq : String) (Ex : (Nat → Prop) → State → Heap → Prop) (D : va_G) (dT : Nat → ClassId) (P : Nat → Nat → Option ri_C) (N : Nat → MethodName) (B : Nat → ByteArray) (M : Nat → Nat) (Rt : Nat → Option FieldType) (k : Nat) : Prop :=
  plainName (N k).cls = true ∧ M k ≤ 40 ∧ ∀ (pc : Nat) (x : ri_C), P k pc = some x → ri_eok LW cl Cq Ex D dT N B M Rt k pc x
def ri_room (h c : Nat) : Room := { frames := h + 1, cells := c, slots := 2000 * c, locals := 60 * (h + 1) }
/-- the cells that a call may touch -/
def ri_dom (σ : ri_S) : Nat → Prop := fun q => (∃ e, σ.1 q = some e) ∨ σ.2 ≤ q
def ri_Pc (Ex : (Nat → Prop) → State → Heap → Prop) (cl : List vw_C) (Cq : String) (D : va_G) (dT : Nat → ClassId) (as : List Value) (σ : ri_S) : Array Value → State → Prop :=
  va_Pc as fun U => ri_Hp D cl dT (ri_dom σ) σ U.heap ∧ va_K D cl (ri_tys dT Cq) U ∧ Ex (ri_dom σ) U U.heap
def ri_Qc (cl : List vw_C) (D : va_G) (dT : Nat → ClassId) (σ : ri_S) (r : Option Value) (σ2 : ri_S) : Array Value → State → Outcome → State → Prop := fun _ st o t =>
  o = .returned r ∧ ri_Hp D cl dT (ri_dom σ) σ2 t.heap ∧ va_F (ri_dom σ) st t
def ri_Met (LW : List Cond) (cl : List vw_C) (Cq : String) (Ex : (Nat → Prop) → State → Heap → Prop) (D : va_G) (dT : Nat → ClassId) (N : Nat → MethodName) (B : Nat → ByteArray) (M Hh : Nat → Nat) (Rt : Nat → Option FieldType) (l : Launch) (k : Nat) (as : List Value) (σ : ri_S) (r : Option Value) (σ2 : ri_S) : Prop :=
  Met l (N k) (Cond.code (N k) (B k) (M k) (Rt k) :: LW) (ri_room (Hh k) (σ2.2 - σ.2)) (ri_Pc Ex cl Cq D dT as σ) (ri_Qc cl D dT σ r σ2) (σ2.2 - σ.2) (2000 * (σ2.2 - σ.2)) (ri_dom σ)
/-- what is known beside the picture may be seen from any later heap, of fewer cells -/
def ri_exok (Ex : (Nat → Prop) → State → Heap → Prop) : Prop :=
  (∀ (A A2 : Nat → Prop) (s U : State) (H : Heap) (locs : List Loc), Ex A s s.heap → va_S A s.heap H locs → s.vm.Alike U.vm → U.heap = H → (∀ q, A2 q → A q) → Ex A2 U U.heap) ∧ ∀ (A : Nat → Prop) (U : State) (g : JFrame) (mk : MethodId) (a : Array Value), Ex A U U.heap → Ex A (U.calling g mk a) (U.calling g mk a).heap
def ri_body (LW : List Cond) (cl : List vw_C) (Cq : String) (Ex : (Nat → Prop) → State → Heap → Prop) (D : va_G) (dT : Nat → ClassId) (N : Nat → MethodName) (B : Nat → ByteArray) (M Hh : Nat → Nat) (Rt : Nat → Option FieldType) (l : Launch) (k : Nat) (fr : ri_F) (σ : ri_S) (r : Option Value) (σ2 : ri_S) : Prop :=
  ∀ (p : Program) (e : Env) (R : Room) (s : State) (m : MethodId) (args : Array Value) (below : List Frame) (meth : Method) (c : Code) (A : Nat → Prop) (Qc : Array Value → State → Outcome → State → Prop), ri_X LW cl Cq Ex D dT (N k).cls (N k).name (B k) (M k) p R s m args meth c A → (Hh k + 1 ≤ R.frames ∧ 60 * (Hh k + 1) ≤ R.locals) → meth.sig.returnType = Rt k → meth.locks = false →
    ∀ (H : Heap) (locs : List Loc) (cells slots : Nat) (ls : Array Slot), ri_I D cl dT A s.heap σ H locs → ri_Lo ls (M k) fr.2.1 → cells + (σ2.2 - σ.2) ≤ R.cells → slots + 2000 * (σ2.2 - σ.2) ≤ R.slots →
      (∀ (t : State) (locs2 : List Loc), ri_I D cl dT A s.heap σ2 t.heap locs2 → s.WarmedH t.vm → Qc args s (.returned r) t) →
      W p l e R s m args below meth c H locs cells slots (MQ below Qc args s (cells + (σ2.2 - σ.2)) (slots + 2000 * (σ2.2 - σ.2)) A) (F0 m fr.1 ls fr.2.2)
theorem ri_ent_Lo : ∀ (as : List Value) (n k : Nat) (ls : Array Slot), (∀ q ∈ lv_args k as, ls[q.1]? = some (.val q.2)) → ∀ (i : Nat) (v : Value), ri_get (ri_ent n as) i = some v → ls[k + i]? = some (.val v)
  | as, 0, k, ls, h, i, v, hg => by simp [ri_ent, ri_get] at hg
  | [], n + 1, k, ls, h, 0, v, hg => by simp [ri_ent, ri_get] at hg
  | [], n + 1, k, ls, h, i + 1, v, hg => by
    rw [show k + (i + 1) = (k + 1) + i by omega]
    exact ri_ent_Lo [] n (k + 1) ls (by intro q hq; simp [lv_args] at hq) i v (by simpa [ri_ent, ri_get] using hg)
  | .int x :: vs, n + 1, k, ls, h, 0, v, hg => by
    simp only [ri_ent, ri_get, Option.some.injEq] at hg
    subst hg
    exact h (k, .int x) (by simp [lv_args])
  | .int x :: vs, n + 1, k, ls, h, i + 1, v, hg => by
    rw [show k + (i + 1) = (k + 1) + i by omega]
    exact ri_ent_Lo vs n (k + 1) ls (fun q hq => h q (by rw [lv_args]; exact List.mem_cons_of_mem _ hq)) i v (by simpa [ri_ent, ri_get] using hg)
  | .ref x :: vs, n + 1, k, ls, h, 0, v, hg => by
    simp only [ri_ent, ri_get, Option.some.injEq] at hg
    subst hg
    exact h (k, .ref x) (by simp [lv_args])
  | .ref x :: vs, n + 1, k, ls, h, i + 1, v, hg => by
    rw [show k + (i + 1) = (k + 1) + i by omega]
    exact ri_ent_Lo vs n (k + 1) ls (fun q hq => h q (by rw [lv_args]; exact List.mem_cons_of_mem _ hq)) i v (by simpa [ri_ent, ri_get] using hg)
  | .null :: vs, n + 1, k, ls, h, 0, v, hg => by
    simp only [ri_ent, ri_get, Option.some.injEq] at hg
    subst hg
    exact h (k, .null) (by simp [lv_args])
  | .null :: vs, n + 1, k, ls, h, i + 1, v, hg => by
    rw [show k + (i + 1) = (k + 1) + i by omega]
    exact ri_ent_Lo vs n (k + 1) ls (fun q hq => h q (by rw [lv_args]; exact List.mem_cons_of_mem _ hq)) i v (by simpa [ri_ent, ri_get] using hg)
  | .long x :: vs, 1, k, ls, h, 0, v, hg => by
    simp only [ri_ent, ri_get, Option.some.injEq] at hg
    subst hg
    exact h (k, .long x) (by simp [lv_args])
  | .long x :: vs, n + 2, k, ls, h, 0, v, hg => by
    simp only [ri_ent, ri_get, Option.some.injEq] at hg
    subst hg
    exact h (k, .long x) (by simp [lv_args])
  | .long x :: vs, 1, k, ls, h, i + 1, v, hg => by simp [ri_ent, ri_get] at hg
  | .long x :: vs, n + 2, k, ls, h, 1, v, hg => by simp [ri_ent, ri_get] at hg
  | .long x :: vs, n + 2, k, ls, h, i + 2, v, hg => by
    rw [show k + (i + 2) = (k + 2) + i by omega]
    exact ri_ent_Lo vs n (k + 2) ls (fun q hq => h q (by rw [lv_args]; exact List.mem_cons_of_mem _ hq)) i v (by simpa [ri_ent, ri_get] using hg)
  | .float x :: vs, n + 1, k, ls, h, i, v, hg => by simp [ri_ent, ri_get] at hg
  | .double x :: vs, n + 1, k, ls, h, i, v, hg => by simp [ri_ent, ri_get] at hg
  | .retAddr x :: vs, n + 1, k, ls, h, i, v, hg => by simp [ri_ent, ri_get] at hg
theorem ri_fit_len : ∀ (as : List Value) (n : Nat), ri_fit n as = true → (lg_sl as).length ≤ n
  | [], n, _ => by simp [lg_sl]
  | .int x :: vs, n + 1, h => by
    have := ri_fit_len vs n h
    show (Slot.val (.int x) :: lg_sl vs).length ≤ n + 1
    rw [List.length_cons]
    omega
  | .ref x :: vs, n + 1, h => by
    have := ri_fit_len vs n h
    show (Slot.val (.ref x) :: lg_sl vs).length ≤ n + 1
    rw [List.length_cons]
    omega
  | .null :: vs, n + 1, h => by
    have := ri_fit_len vs n h
    show (Slot.val .null :: lg_sl vs).length ≤ n + 1
    rw [List.length_cons]
    omega
  | .long x :: vs, n + 2, h => by
    have := ri_fit_len vs n h
    show (Slot.val (.long x) :: Slot.second :: lg_sl vs).length ≤ n + 2
    rw [List.length_cons, List.length_cons]
    omega
  | .int x :: vs, 0, h => by cases h
  | .ref x :: vs, 0, h => by cases h
  | .null :: vs, 0, h => by cases h
  | .long x :: vs, 0, h => by cases h
  | .long x :: vs, 1, h => by cases h
  | .float x :: vs, n, h => by cases n <;> cases h
  | .double x :: vs, n, h => by cases n <;> cases h
  | .retAddr x :: vs, n, h => by cases n <;> cases h
theorem ri_met_of {l : Launch} {k : Nat} {as : List Value} {σ σ2 : ri_S} {r : Option Value} (hpl : plainName (N k).cls = true) (hfit : ri_fit (M k) as = true) (hle : σ.2 ≤ σ2.2) (hb : ri_body LW cl Cq Ex D dT N B M Hh Rt l k (0, ri_ent (M k) as, []) σ r σ2) : ri_Met LW cl Cq Ex D dT N B M Hh Rt l k as σ r σ2 := by
  refine Met.ofW (cc := B k) (maxL := M k) (ret := Rt k) hpl rfl ?_
  intro p e s m args below meth c s₁ Bd hml hv
  obtain ⟨rfl, hHp, hK, hEx⟩ := hv
  have hts0 := atoms_spec (ws := Cond.code (N k) (B k) (M k) (Rt k) :: LW) Bd.pre
  have hts : ∀ w ∈ LW, w.before as.toArray s = true := fun w h => hts0 w (List.mem_cons_of_mem _ h)
  have hown : s.vm.findClass (N k).cls = some m.cls := findClass_of_methodNamed Bd.named
  have hnme : meth.name = (N k).name := (name_of_methodNamed Bd.named Bd.method).1
  rw [lg_entry_eq]
  have hl := lv_entry as (n := M k) (ri_fit_len _ _ hfit)
  generalize (lg_sl as ++ List.replicate (M k - (lg_sl as).length) Slot.unset).toArray = ls at hl ⊢
  have h := hb p e (ri_room (Hh k) (σ2.2 - σ.2)) s m as.toArray below meth c (ri_dom σ) (ri_Qc cl D dT σ r σ2) ⟨⟨Bd.exec, Bd.bytes, hml, hown, hts⟩, ⟨Nat.succ_le_succ (Nat.zero_le _), by show 60 ≤ 60 * (Hh k + 1); omega⟩, hK, fun q hq => Or.inr (by rw [← hHp.2]; exact hq), hnme, hEx⟩ ⟨Nat.le_refl _, Nat.le_refl _⟩ Bd.returns Bd.notSynchronized
    s.heap [] 0 0 ls ⟨hHp, va_S.rf⟩ ⟨hl.1, hl.2.1, fun i v hg => by
      have h9 := ri_ent_Lo as (M k) 0 ls hl.2.2 i v hg
      rwa [Nat.zero_add] at h9⟩ (by show 0 + _ ≤ σ2.2 - σ.2; omega) (by show 0 + _ ≤ 2000 * (σ2.2 - σ.2); omega) (fun t locs2 hI hW => ⟨rfl, hI.1, hI.2.1, hI.2.2.1⟩)
  rw [Nat.zero_add, Nat.zero_add] at h
  exact h
end RISND
