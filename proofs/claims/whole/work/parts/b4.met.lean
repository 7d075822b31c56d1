/-! A wrapper's contract out of its walk. -/
def wr_A (σ : ri_S) (o : Nat) : Nat → Prop := fun q => ri_dom σ q ∨ q = o
def wq_Pc (Ks Kv Km : Nat → Nat) (D : va_G) (dT : Nat → ClassId) (dL : ClassId) (as : List Value) (σ : ri_S) (o : Nat) (g : Nat → Int64) : Array Value → State → Prop := fun a U =>
  a = as.toArray ∧ ri_Hp D vwCl dT (ri_dom σ) σ U.heap ∧ va_K D vwCl (ri_tys dT RX3) U ∧ va_K D vwCl [(dL, .long)] U ∧ nv_E Ks Kv Km (wr_A σ o) U U.heap ∧ wr_out dL o g U.heap
def wq_Qc (D : va_G) (dT : Nat → ClassId) (dL : ClassId) (σ : ri_S) (o : Nat) (r : Int32) (Post : ri_S → (Nat → Int64) → Prop) : Array Value → State → Outcome → State → Prop := fun _ st oc t =>
  oc = .returned (some (.int r)) ∧ ∃ (σ3 : ri_S) (g3 : Nat → Int64), Post σ3 g3 ∧ ri_Hp D vwCl dT (wr_A σ o) σ3 t.heap ∧ wr_out dL o g3 t.heap ∧ va_F (wr_A σ o) st t
section WQO
variable {Ks Kv Km : Nat → Nat} {D : va_G} {dT : Nat → ClassId} {dL : ClassId} {l : Launch}
theorem wq_blind (as : List Value) (σ : ri_S) (o : Nat) (g : Nat → Int64) : FrameBlind (wq_Pc Ks Kv Km D dT dL as σ o g) := fun a U f mk h => ⟨h.1, h.2.1, va_K.moved (u := U) (U := U.calling f mk a) (Vm.Alike.refl U.vm) h.2.2.1, va_K.moved (u := U) (U := U.calling f mk a) (Vm.Alike.refl U.vm) h.2.2.2.1, (nv_exok Ks Kv Km).2 _ _ _ _ _ h.2.2.2.2.1, h.2.2.2.2.2⟩
theorem wq_of {y : MethodName} {b : ByteArray} {mx : Nat} {hh : List (Nat × Nat × Nat × Nat)} {as : List Value} {σ : ri_S} {o : Nat} {g : Nat → Int64} {r : Int32} {Post : ri_S → (Nat → Int64) → Prop} {rm : Room} {mc ms : Nat} (hy : y.cls = "LilyWheelsLaw") (hfit : (lg_sl as).length ≤ mx)
    (hb : ∀ (p : Program) (e : Env) (s : State) (m : MethodId) (args : Array Value) (below : List Frame) (meth : Method) (c : Code) (Qc : Array Value → State → Outcome → State → Prop), wr_X Ks Kv Km D dT dL b mx p s m args meth c (wr_A σ o) → c.exceptionTable.toList = tableOf hh → ri_I D vwCl dT (wr_A σ o) s.heap σ s.heap [] → wr_out dL o g s.heap →
      ∀ ls : Array Slot, ls.size = mx → lv_wf ls → (∀ q ∈ lv_args 0 as, ls[q.1]? = some (.val q.2)) → (∀ (t : State) (locs2 : List Loc) (σ3 : ri_S) (g3 : Nat → Int64), ri_I D vwCl dT (wr_A σ o) s.heap σ3 t.heap locs2 → wr_out dL o g3 t.heap → Post σ3 g3 → Qc args s (.returned (some (.int r))) t) →
      W p l e rm s m args below meth c s.heap [] 0 0 (MQ below Qc args s mc ms (wr_A σ o)) (F0 m 0 ls [])) :
    Met l y (Cond.codeWith y b mx (some .int) hh :: ri_LW) rm (wq_Pc Ks Kv Km D dT dL as σ o g) (wq_Qc D dT dL σ o r Post) mc ms (wr_A σ o) := by
  refine va_MetW (cc := b) (maxL := mx) (ret := some .int) (hh := hh) (by rw [hy]; decide +kernel) rfl ?_
  intro p e s m args below meth c s₁ Bd hml hv
  obtain ⟨rfl, hHp, hK, hKL, hE, hout⟩ := hv
  have hts0 := atoms_spec (ws := Cond.codeWith y b mx (some .int) hh :: ri_LW) Bd.pre
  have hts : ∀ w ∈ ri_LW, w.before as.toArray s = true := fun w h => hts0 w (List.mem_cons_of_mem _ h)
  have hown : s.vm.findClass "LilyWheelsLaw" = some m.cls := by rw [← hy]; exact findClass_of_methodNamed Bd.named
  have htab : c.exceptionTable.toList = tableOf hh := vx_table (x := y) Bd (hts0 _ List.mem_cons_self)
  rw [lg_entry_eq]
  have hl := lv_entry as (n := mx) hfit
  generalize (lg_sl as ++ List.replicate (mx - (lg_sl as).length) Slot.unset).toArray = ls at hl ⊢
  have hI : ri_I D vwCl dT (wr_A σ o) s.heap σ s.heap [] := ⟨⟨fun q x hq => ⟨(hHp.1 q x hq).1, Or.inl (hHp.1 q x hq).2⟩, hHp.2⟩, va_S.rf⟩
  exact hb p e s m as.toArray below meth c (wq_Qc D dT dL σ o r Post) ⟨⟨Bd.exec, Bd.bytes, hml, hown, hts⟩, hK, hKL, fun q hq => Or.inl (Or.inr (by rw [← hHp.2]; exact hq)), hE, Bd.returns, Bd.notSynchronized⟩ htab hI hout ls hl.1 hl.2.1 hl.2.2
    (fun t locs2 σ3 g3 h1 h2 h3 => ⟨rfl, σ3, g3, h3, h1.1, h2, h1.2.1, h1.2.2.1⟩)
end WQO
