/-! The three methods of a String that the class calls, for the literals of the text: walked by hand. -/
def RJ0 : String := "java/lang/String"
def RJ1 : String := "java/lang/StringLatin1"
def RJ3 : String := "jdk/internal/util/Preconditions"
def sk_bs : List (List Int32) := [[110, 111, 116, 117], [119, 112, 119, 112], [119, 112, 100], [102, 108], [102, 115], [119, 107], []]
def sk_ln : List Nat := [4, 4, 3, 2, 2, 2, 0]
theorem sk_bs_b (i : Nat) : sk_bs.getD i [] = sk_b i := rfl
/-- what stands of strings and the library's statics -/
def sx_E (Ks Kv : Nat → Nat) (A : Nat → Prop) (U : State) (H : Heap) : Prop :=
  vk_S 7 sk_ln sk_bs Ks Kv A U H ∧ va_Z RJ0 "COMPACT_STRINGS" "Z" (.int 1) A U H ∧ va_Zq RJ3 "SIOOBE_FORMATTER" "Ljava/util/function/BiFunction;" A U H
theorem sx_E.moved {Ks Kv : Nat → Nat} {A : Nat → Prop} {u U : State} {H : Heap} (hvm : u.vm.Alike U.vm) (h : sx_E Ks Kv A u H) : sx_E Ks Kv A U H := ⟨h.1.moved hvm, va_Z.moved hvm h.2.1, va_Zq.moved hvm h.2.2⟩
theorem sx_E.kept {Ks Kv : Nat → Nat} {A : Nat → Prop} {U : State} {H H1 : Heap} (h : sx_E Ks Kv A U H) (hq : ∀ a : Nat, a < H.size → ¬ A a → H1[a]? = H[a]?) : sx_E Ks Kv A U H1 := ⟨h.1.kept hq, h.2.1.kept hq, h.2.2.kept hq⟩
theorem sx_E.narrow {Ks Kv : Nat → Nat} {A B : Nat → Prop} {U : State} {H : Heap} (h : sx_E Ks Kv A U H) (hAB : ∀ q, B q → A q) : sx_E Ks Kv B U H := ⟨h.1.narrow hAB, h.2.1.narrow hAB, h.2.2.narrow hAB⟩
def jw_room (h : Nat) : Room := { frames := h + 1, cells := 0, slots := 0, locals := 60 * (h + 1) }
def jw_Pc (Ks Kv : Nat → Nat) (as : List Value) : Array Value → State → Prop := fun a U => a = as.toArray ∧ sx_E Ks Kv (fun _ => False) U U.heap
def jw_Qc (r : Option Value) : Array Value → State → Outcome → State → Prop := fun _ st o t => o = .returned r ∧ t.heap = st.heap
def jw_Met (Ks Kv : Nat → Nat) (l : Launch) (y : MethodName) (b : ByteArray) (mx : Nat) (rt : Option FieldType) (h : Nat) (as : List Value) (r : Option Value) : Prop :=
  Met l y (Cond.code y b mx rt :: ri_LW) (jw_room h) (jw_Pc Ks Kv as) (jw_Qc r) 0 0 (fun _ => False)
theorem jw_blind (Ks Kv : Nat → Nat) (as : List Value) : FrameBlind (jw_Pc Ks Kv as) := fun a U g mk h => ⟨h.1, sx_E.moved (u := U) (U := U.calling g mk a) (Vm.Alike.refl U.vm) h.2⟩
/-- what holds inside such a method -/
def jw_X (Ks Kv : Nat → Nat) (own : String) (cc : ByteArray) (nL h : Nat) (rt : Option FieldType) (p : Program) (R : Room) (s : State) (m : MethodId) (args : Array Value) (meth : Method) (c : Code) : Prop :=
  CallFix p m c cc nL s args ri_LW own ∧ (h + 1 ≤ R.frames ∧ 60 * (h + 1) ≤ R.locals) ∧ sx_E Ks Kv (fun _ => False) s s.heap ∧ meth.sig.returnType = rt ∧ meth.locks = false
section JW
variable {Ks Kv : Nat → Nat} {l : Launch}
theorem jw_of {y : MethodName} {b : ByteArray} {mx h : Nat} {rt : Option FieldType} {as : List Value} {r : Option Value} (hpl : plainName y.cls = true) (hfit : (lg_sl as).length ≤ mx)
    (hb : ∀ (p : Program) (e : Env) (R : Room) (s : State) (m : MethodId) (args : Array Value) (below : List Frame) (meth : Method) (c : Code) (Qc : Array Value → State → Outcome → State → Prop), jw_X Ks Kv y.cls b mx h rt p R s m args meth c →
      ∀ ls : Array Slot, ls.size = mx → (∀ q ∈ lv_args 0 as, ls[q.1]? = some (.val q.2)) → (∀ t : State, t.heap = s.heap → s.WarmedH t.vm → Qc args s (.returned r) t) → W p l e R s m args below meth c s.heap [] 0 0 (MQ below Qc args s 0 0 (fun _ => False)) (F0 m 0 ls [])) :
    jw_Met Ks Kv l y b mx rt h as r := by
  refine Met.ofW (cc := b) (maxL := mx) (ret := rt) hpl rfl ?_
  intro p e s m args below meth c s₁ Bd hml hv
  obtain ⟨rfl, hE⟩ := hv
  have hts0 := atoms_spec (ws := Cond.code y b mx rt :: ri_LW) Bd.pre
  have hts : ∀ w ∈ ri_LW, w.before as.toArray s = true := fun w h => hts0 w (List.mem_cons_of_mem _ h)
  have hown : s.vm.findClass y.cls = some m.cls := findClass_of_methodNamed Bd.named
  rw [lg_entry_eq]
  have hl := lv_entry as (n := mx) hfit
  generalize (lg_sl as ++ List.replicate (mx - (lg_sl as).length) Slot.unset).toArray = ls at hl ⊢
  exact hb p e (jw_room h) s m as.toArray below meth c (jw_Qc r) ⟨⟨Bd.exec, Bd.bytes, hml, hown, hts⟩, ⟨Nat.le_refl _, Nat.le_refl _⟩, hE, Bd.returns, Bd.notSynchronized⟩ ls hl.1 hl.2.2 (fun t ht _ => ⟨rfl, ht⟩)
def jw_cl : List vw_C := [(RJ0, fun _ => default, 0)]
/-- such a method called -/
theorem jw_call {p : Program} {e : Env} {R : Room} {s : State} {m : MethodId} {args : Array Value} {below : List Frame} {meth : Method} {c : Code} {H : Heap} {locs : List Loc} {cells slots : Nat} {Q : State → Prop} {A : Nat → Prop} {own : String} {cc : ByteArray} {nL pc h : Nat} {ls : Array Slot} {y : MethodName} {b : ByteArray} {mx n : Nat} {rt : Option FieldType} {rc : Option Nat} {as rest : List Value} {r : Option Value}
    (hc : ri_cok ri_LW jw_cl own cc nL pc y b mx rt n rc) (hM : jw_Met Ks Kv l y b mx rt h as r) (S : CallFix p m c cc nL s args ri_LW own) (hfr : h + 2 ≤ R.frames) (hlo : 8 + (mx + 11) + 60 * (h + 1) ≤ R.locals) (hE : sx_E Ks Kv A s s.heap) (hS : va_S A s.heap H locs) (hn : as.length = n) (hsz : ls.size = nL)
    (hr : ∀ ci, rc = some ci → ∃ (i : Nat) (bs : List Value), as = .ref (Ks i) :: bs ∧ i < 7 ∧ ci = 0) (hw : (rest.map fun v => v.category).sum ≤ 8) (hcc : cells ≤ R.cells) (hss : slots ≤ R.slots)
    (kk : W p l e R s m args below meth c H locs cells slots Q (F0 m (pc + 3) ls (r.toList ++ rest))) : W p l e R s m args below meth c H locs cells slots Q (F0 m pc ls (as.reverse ++ rest)) := by
  have hrun := hc p l e R s m args below meth c S _ _ _ _ _ _ hM rfl rfl hfr hlo (jw_blind Ks Kv as) as rest H locs cells slots ls hn hsz
    (fun U hU hW => ⟨rfl, by rw [hU]; exact ((hE.kept hS.2.1).moved hW.alike).narrow (fun _ h => h.elim)⟩)
    (fun ci hci => by
      obtain ⟨i, bs, e1, e2, e3⟩ := hr ci hci
      subst e3
      obtain ⟨cell, g1, g2, g3⟩ := vk_recv hE.1 e2 hS
      exact ⟨Ks i, bs, _, cell, e1, rfl, g1, g2, g3⟩) hw hcc hss
  intro T hT X
  obtain ⟨v, st₀, t, T2, L, h0, X2, hL, e1, e2, ⟨hv, hh⟩, st⟩ := hrun T hT X
  cases hv
  have hL0 : L = [] := by
    cases L with
    | nil => rfl
    | cons q L => exact (hL q List.mem_cons_self).elim
  subst hL0
  rw [List.append_nil] at X2
  obtain ⟨t2, a1, b1⟩ := kk T2 (by rw [e1, hh, h0]) X2
  exact ⟨t2, st t2 a1, b1⟩
end JW
