/-! What the law's machine comes to, the machine comes to. -/
/-- all that is new since the law began -/
def lm_A (C0 : Nat) : Nat → Prop := fun q => C0 ≤ q
def lm_I {S : Type} (Rel : S → ri_S → Prop) (D : va_G) (dT : Nat → ClassId) (C0 : Nat) (H0 : Heap) (y : S) (H : Heap) (locs : List Loc) : Prop := ∃ σ, Rel y σ ∧ ri_I D vwCl dT (lm_A C0) H0 σ H locs
def lm_room (h c : Nat) : Room := { frames := h + 1, cells := c, slots := 6 * c, locals := 60 * (h + 1) }
def lm_Pc {S : Type} (Rel : S → ri_S → Prop) (Km : Nat → Nat) (b0 L0 : Nat) (xs0 : Nat → Int32) (D : va_G) (dT : Nat → ClassId) (C0 : Nat) (as : List Value) (y : S) : Array Value → State → Prop :=
  va_Pc as fun U => (∃ σ, Rel y σ ∧ ri_Hp D vwCl dT (lm_A C0) σ U.heap) ∧ va_K D vwCl (ri_tys dT RX3) U ∧ nv_E Km b0 L0 xs0 (lm_A C0) U U.heap
def lm_Qc {S : Type} (Rel : S → ri_S → Prop) (D : va_G) (dT : Nat → ClassId) (C0 : Nat) (r : Value) (y2 : S) : Array Value → State → Outcome → State → Prop := fun _ st o t =>
  o = .returned (some r) ∧ (∃ σ, Rel y2 σ ∧ ri_Hp D vwCl dT (lm_A C0) σ t.heap) ∧ va_F (lm_A C0) st t
def lm_Met {S : Type} (Rel : S → ri_S → Prop) (Km : Nat → Nat) (b0 L0 : Nat) (xs0 : Nat → Int32) (D : va_G) (dT : Nat → ClassId) (C0 : Nat) (N : Nat → MethodName) (Wd : Nat → Cond) (Hh : Nat → Nat) (l : Launch) (k : Nat) (as : List Value) (y : S × Nat) (r : Value) (y2 : S × Nat) : Prop :=
  Met l (N k) (Wd k :: ri_LW) (lm_room (Hh k) (y2.2 - y.2)) (lm_Pc Rel Km b0 L0 xs0 D dT C0 as y.1) (lm_Qc Rel D dT C0 r y2.1) (y2.2 - y.2) (6 * (y2.2 - y.2)) (lm_A C0)
/-- a call of the law -/
def lm_cok (own : String) (cc : ByteArray) (nL pc : Nat) (nm2 : MethodName) (w2 : Cond) (m2 n : Nat) : Prop :=
  ∀ (p : Program) (l : Launch) (e : Env) (R : Room) (s : State) (m : MethodId) (args : Array Value) (below : List Frame) (meth : Method) (c : Code), CallFix p m c cc nL s args ri_LW own →
    ∀ (rm : Room) (Pc : Array Value → State → Prop) (Qc : Array Value → State → Outcome → State → Prop) (mc ms : Nat) (free : Addr → Prop), Met l nm2 (w2 :: ri_LW) rm Pc Qc mc ms free → rm.cells = mc → rm.slots = ms → rm.frames + 1 ≤ R.frames → 8 + (m2 + 11) + rm.locals ≤ R.locals → FrameBlind Pc →
    ∀ (As rest : List Value) (H : Heap) (locs : List Loc) (cells slots : Nat) (ls : Array Slot), As.length = n → ls.size = nL → (∀ U : State, U.heap = H → s.WarmedH U.vm → Pc As.toArray U) →
      (rest.map fun v => v.category).sum ≤ 8 → cells + mc ≤ R.cells → slots + ms ≤ R.slots →
      va_Run p l e R s m args below meth c H locs cells slots mc ms (F0 m pc ls (As.reverse ++ rest)) rest (Qc As.toArray) free
theorem ri_cok.lm {own : String} {cc : ByteArray} {nL pc : Nat} {nm2 : MethodName} {b2 : ByteArray} {m2 n : Nat} {rt2 : Option FieldType} (h : ri_cok ri_LW vwCl own cc nL pc nm2 b2 m2 rt2 n none) : lm_cok own cc nL pc nm2 (Cond.code nm2 b2 m2 rt2) m2 n :=
  fun p l e R s m args below meth c S rm Pc Qc mc ms free hM h1 h2 h3 h4 h5 As rest H locs cells slots ls h6 h7 h8 h9 h10 h11 => h p l e R s m args below meth c S rm Pc Qc mc ms free hM h1 h2 h3 h4 h5 As rest H locs cells slots ls h6 h7 h8 (fun _ h => by cases h) h9 h10 h11
/-- a call of a method with a table -/
theorem lm_cokW {own : String} {cc : ByteArray} {nL pc index : Nat} {nm2 : MethodName} {b2 : ByteArray} {m2 n : Nat} {rt2 : Option FieldType} {hh : List (Nat × Nat × Nat × Nat)} (hd : decode cc pc = .ok (.invokestatic index, 3)) (h1 : Cond.methodLink own index nm2 ∈ ri_LW) (h2 : Cond.static nm2 ∈ ri_LW) (h3 : Cond.initialized nm2.cls ∈ ri_LW) (h4 : Cond.codeWith nm2 b2 m2 rt2 hh ∈ ri_LW) (h5 : ri_named nm2 n) : lm_cok own cc nL pc nm2 (Cond.codeWith nm2 b2 m2 rt2 hh) m2 n := by
  intro p l e R s m args below meth c S rm Pc Qc mc ms free hM hrc hrs hfr hlo hbl As rest H locs cells slots ls hn hsz hp hW hc hs
  have hts := S.2.2.2.2
  exact vx_runSW (m := m) (n := n) S hM ⟨⟨hrc, hrs, hfr, hlo, ri_pays ri_LWok hts h4, List.mem_cons_self⟩, hts _ h4, hts _ h3, h5.1, ri_np h5, hts _ h1, hts _ h2⟩ ⟨hbl, hp⟩ rfl hn hsz rfl (by show 2 * 0 + _ ≤ 8; omega) hd ⟨hc, hs⟩
section LMS
variable {S : Type} {Rel : S → ri_S → Prop} {Km : Nat → Nat} {b0 L0 : Nat} {xs0 : Nat → Int32} {D : va_G} {dT : Nat → ClassId} {C0 : Nat} {P : Nat → Nat → Option lm_C} {N : Nat → MethodName} {B : Nat → ByteArray} {M Hh : Nat → Nat} {Rt : Nat → Option FieldType} {Wd : Nat → Cond} {ip : Nat → Bool} {pr : Nat → List Value → S × Nat → Option (Value × (S × Nat))}
/-- what holds all through a method of the law -/
abbrev lm_X (Km : Nat → Nat) (b0 L0 : Nat) (xs0 : Nat → Int32) (D : va_G) (dT : Nat → ClassId) (C0 : Nat) (own nme : String) (cc : ByteArray) (nL : Nat) (p : Program) (R : Room) (s : State) (m : MethodId) (args : Array Value) (meth : Method) (c : Code) : Prop :=
  ri_X ri_LW vwCl RX3 (nv_E Km b0 L0 xs0) D dT own nme cc nL p R s m args meth c (lm_A C0)
def lm_eok (N : Nat → MethodName) (B : Nat → ByteArray) (M : Nat → Nat) (Rt : Nat → Option FieldType) (Wd : Nat → Cond) (k pc : Nat) (x : lm_C) : Prop := match x with
  | .inl f => ri_okp ri_LW (N k).cls (B k) (M k) pc f
  | .inr (.inl (k2, n)) => lm_cok (N k).cls (B k) (M k) pc (N k2) (Wd k2) (M k2) n
  | .inr (.inr rk) => ri_fin (B k) pc rk (Rt k)
def lm_body (Rel : S → ri_S → Prop) (Km : Nat → Nat) (b0 L0 : Nat) (xs0 : Nat → Int32) (D : va_G) (dT : Nat → ClassId) (C0 : Nat) (N : Nat → MethodName) (B : Nat → ByteArray) (M Hh : Nat → Nat) (Rt : Nat → Option FieldType) (l : Launch) (k : Nat) (fr : ri_F) (y : S × Nat) (r : Value) (y2 : S × Nat) : Prop :=
  ∀ (p : Program) (e : Env) (R : Room) (s : State) (m : MethodId) (args : Array Value) (below : List Frame) (meth : Method) (c : Code) (Qc : Array Value → State → Outcome → State → Prop), lm_X Km b0 L0 xs0 D dT C0 (N k).cls (N k).name (B k) (M k) p R s m args meth c → (Hh k + 1 ≤ R.frames ∧ 60 * (Hh k + 1) ≤ R.locals) → meth.sig.returnType = Rt k → meth.locks = false →
    ∀ (H : Heap) (locs : List Loc) (cells slots : Nat) (ls : Array Slot), lm_I Rel D dT C0 s.heap y.1 H locs → ri_Lo ls (M k) fr.2.1 → cells + (y2.2 - y.2) ≤ R.cells → slots + 6 * (y2.2 - y.2) ≤ R.slots →
      (∀ (t : State) (locs2 : List Loc), lm_I Rel D dT C0 s.heap y2.1 t.heap locs2 → s.WarmedH t.vm → Qc args s (.returned (some r)) t) →
      W p l e R s m args below meth c H locs cells slots (MQ below Qc args s (cells + (y2.2 - y.2)) (slots + 6 * (y2.2 - y.2)) (lm_A C0)) (F0 m fr.1 ls fr.2.2)
theorem lm_blind (as : List Value) (y : S) : FrameBlind (lm_Pc Rel Km b0 L0 xs0 D dT C0 as y) := fun a U g mk h => ⟨h.1, h.2.1, va_K.moved (u := U) (U := U.calling g mk a) (Vm.Alike.refl U.vm) h.2.2.1, (nv_exok Km b0 L0 xs0).2 _ _ _ _ _ h.2.2.2⟩
theorem lm_pre {s U : State} {H : Heap} {y : S} {locs : List Loc} (hI : lm_I Rel D dT C0 s.heap y H locs) (hK : va_K D vwCl (ri_tys dT RX3) s) (hE : nv_E Km b0 L0 xs0 (lm_A C0) s s.heap) (as : List Value) (hU : U.heap = H) (hW : s.WarmedH U.vm) : lm_Pc Rel Km b0 L0 xs0 D dT C0 as y as.toArray U := by
  obtain ⟨σ, hR, hI⟩ := hI
  exact ⟨rfl, ⟨σ, hR, by rw [hU]; exact hI.1⟩, va_K.moved hW.alike hK, (nv_exok Km b0 L0 xs0).1 _ _ _ _ _ _ hE hI.2 hW hU (fun _ h => h)⟩
theorem lm_row {p : Program} {l : Launch} {e : Env} {R : Room} {s : State} {m : MethodId} {args a : Array Value} {below : List Frame} {meth : Method} {c : Code} {H : Heap} {locs : List Loc} {cells slots mc ms pc : Nat} {ls : Array Slot} {st0 rest : List Value} {y y2 : S} {r : Value} {Q : State → Prop}
    (hr : va_Run p l e R s m args below meth c H locs cells slots mc ms (F0 m pc ls st0) rest (lm_Qc Rel D dT C0 r y2 a) (lm_A C0)) (hI : lm_I Rel D dT C0 s.heap y H locs)
    (kk : ∀ (H1 : Heap) (locs1 : List Loc), lm_I Rel D dT C0 s.heap y2 H1 locs1 → W p l e R s m args below meth c H1 locs1 (cells + mc) (slots + ms) Q (F0 m (pc + 3) ls (r :: rest))) : W p l e R s m args below meth c H locs cells slots Q (F0 m pc ls st0) := by
  intro T hT X
  obtain ⟨v, st₀, t, T2, L, h0, X2, hL, e1, e2, ⟨hv, ⟨σ2, hR2, hHp⟩, hz, hk⟩, st⟩ := hr T hT X
  cases hv
  rw [h0] at hz hk
  obtain ⟨σ, hR, hI1, hS⟩ := hI
  obtain ⟨t2, a1, b1⟩ := kk T2.heap (locs ++ L) ⟨σ2, hR2, ⟨fun q x hq => by rw [e1]; exact hHp.1 q x hq, by rw [e1]; exact hHp.2⟩, Nat.le_trans hS.1 (by rw [e1]; exact hz), fun q h1 h2 => by rw [e1, hk q (Nat.lt_of_lt_of_le h1 hS.1) h2]; exact hS.2.1 q h1 h2, fun q hq => by
      rcases List.mem_append.mp hq with h | h
      · exact hS.2.2 q h
      · exact hL q h⟩ T2 rfl X2
  exact ⟨t2, st t2 a1, b1⟩
theorem lm_met_of {l : Launch} {k : Nat} {as : List Value} {y y2 : S × Nat} {r : Value} (hRel : ∀ y σ, Rel y σ → C0 ≤ σ.2) (hW : Wd k = Cond.code (N k) (B k) (M k) (Rt k)) (hpl : plainName (N k).cls = true) (hfit : ri_fit (M k) as = true) (hb : lm_body Rel Km b0 L0 xs0 D dT C0 N B M Hh Rt l k (0, ri_ent (M k) as, []) y r y2) : lm_Met Rel Km b0 L0 xs0 D dT C0 N Wd Hh l k as y r y2 := by
  refine Met.ofW (cc := B k) (maxL := M k) (ret := Rt k) hpl (by rw [hW]) ?_
  intro p e s m args below meth c s₁ Bd hml hv
  obtain ⟨rfl, ⟨σ, hR, hHp⟩, hK, hEx⟩ := hv
  have hts0 := atoms_spec (ws := Wd k :: ri_LW) Bd.pre
  have hts : ∀ w ∈ ri_LW, w.before as.toArray s = true := fun w h => hts0 w (List.mem_cons_of_mem _ h)
  have hown : s.vm.findClass (N k).cls = some m.cls := findClass_of_methodNamed Bd.named
  have hnme : meth.name = (N k).name := (name_of_methodNamed Bd.named Bd.method).1
  rw [lg_entry_eq]
  have hl := lv_entry as (n := M k) (ri_fit_len _ _ hfit)
  generalize (lg_sl as ++ List.replicate (M k - (lg_sl as).length) Slot.unset).toArray = ls at hl ⊢
  have h := hb p e (lm_room (Hh k) (y2.2 - y.2)) s m as.toArray below meth c (lm_Qc Rel D dT C0 r y2.1) ⟨⟨Bd.exec, Bd.bytes, hml, hown, hts⟩, ⟨Nat.succ_le_succ (Nat.zero_le _), by show 60 ≤ 60 * (Hh k + 1); omega⟩, hK, fun q hq => by show C0 ≤ q; have h1 := hRel _ _ hR; rw [← hHp.2] at h1; omega, hnme, hEx⟩ ⟨Nat.le_refl _, Nat.le_refl _⟩ Bd.returns Bd.notSynchronized
    s.heap [] 0 0 ls ⟨σ, hR, hHp, va_S.rf⟩ ⟨hl.1, hl.2.1, fun i v hg => by
      have h9 := ri_ent_Lo as (M k) 0 ls hl.2.2 i v hg
      rwa [Nat.zero_add] at h9⟩ (by show 0 + _ ≤ y2.2 - y.2; omega) (by show 0 + _ ≤ 6 * (y2.2 - y.2); omega) (fun t locs2 hI hW => by
        obtain ⟨σ2, hR2, hI2⟩ := hI
        exact ⟨rfl, ⟨σ2, hR2, hI2.1⟩, hI2.2.1, hI2.2.2.1⟩)
  rw [Nat.zero_add, Nat.zero_add] at h
  exact h
set_option maxHeartbeats 1000000 in
theorem lm_sound (l : Launch) (hRel : ∀ y σ, Rel y σ → C0 ≤ σ.2) (hM40 : ∀ k, M k ≤ 40) (hM : ∀ k pc x, ip k = false → P k pc = some x → Wd k = Cond.code (N k) (B k) (M k) (Rt k) ∧ plainName (N k).cls = true ∧ lm_eok N B M Rt Wd k pc x)
    (hpr : ∀ k as y r y2, ip k = true → ri_fit (M k) as = true → pr k as y = some (r, y2) → y.2 ≤ y2.2 ∧ lm_Met Rel Km b0 L0 xs0 D dT C0 N Wd Hh l k as y r y2) :
    ∀ (n k : Nat) (fr : ri_F) (y : S × Nat) (r : Value) (y2 : S × Nat), ip k = false → lm_run P M Hh ip pr n k fr y = some (r, y2) → y.2 ≤ y2.2 ∧ lm_body Rel Km b0 L0 xs0 D dT C0 N B M Hh Rt l k fr y r y2 := by
  intro n
  induction n with
  | zero => intro k fr y r y2 hk h; exact absurd h (by simp [lm_run])
  | succ n ih =>
    rintro k ⟨pc, L, st⟩ y r y2 hk h
    rw [lm_run] at h
    cases hx : P k pc with
    | none => simp only [hx, lm_stp] at h; cases h
    | some x =>
      have hme := (hM k pc x hk hx).2.2
      match x, hx, hme with
      | .inl f, hx, hme =>
        simp only [hx, lm_stp] at h
        cases ho : f (pc, L, st) with
        | none => rw [ho] at h; cases h
        | some q =>
          rw [ho] at h
          obtain ⟨i1, i2⟩ := ih k q y r y2 hk h
          refine ⟨i1, ?_⟩
          intro p e R s m args below meth c Qc X hR hrt hlk H locs cells slots ls hI hL hc hs hfin
          exact hme p l e R s m args below meth c _ X.1 X.2.1 L st q H locs cells slots ls ho hL (by omega) (by omega) fun ls2 hL2 => i2 p e R s m args below meth c Qc X hR hrt hlk H locs cells slots ls2 hI hL2 hc hs hfin
      | .inr (.inl (k2, n2)), hx, hme =>
        simp only [hx, lm_stp] at h
        split at h
        · rename_i hcond
          simp only [Bool.and_eq_true] at hcond
          obtain ⟨hfew, hble⟩ := hcond
          have hble := Nat.le_of_ble_eq_true hble
          cases hg : (if (Nat.blt (Hh k2) (Hh k) && ri_fit (M k2) (st.take n2).reverse) = true then (if ip k2 = true then pr k2 (st.take n2).reverse y else lm_run P M Hh ip pr n k2 (0, ri_ent (M k2) (st.take n2).reverse, []) y) else none) with
          | none => rw [hg] at h; cases h
          | some q =>
            rw [hg] at h
            split at hg
            · rename_i hc2
              simp only [Bool.and_eq_true] at hc2
              obtain ⟨hlt, hfit⟩ := hc2
              have hlt : Hh k2 < Hh k := by simpa [Nat.blt_eq] using hlt
              have hmet : y.2 ≤ q.2.2 ∧ lm_Met Rel Km b0 L0 xs0 D dT C0 N Wd Hh l k2 (st.take n2).reverse y q.1 q.2 := by
                split at hg
                · rename_i hp
                  exact hpr k2 _ y q.1 q.2 hp hfit hg
                · rename_i hp
                  have hp2 : ip k2 = false := by simpa using hp
                  obtain ⟨i1, i2⟩ := ih k2 _ y q.1 q.2 hp2 hg
                  have hne : ∃ pc x, P k2 pc = some x := by
                    cases n with
                    | zero => exact absurd hg (by simp [lm_run])
                    | succ n =>
                      rw [lm_run] at hg
                      cases hp : P k2 0 with
                      | none => simp only [hp, lm_stp] at hg; cases hg
                      | some x => exact ⟨0, x, hp⟩
                  obtain ⟨pc3, x3, h3⟩ := hne
                  obtain ⟨m1, m2, -⟩ := hM k2 pc3 x3 hp2 h3
                  exact ⟨i1, lm_met_of hRel m1 m2 hfit i2⟩
              obtain ⟨i1, hmet⟩ := hmet
              obtain ⟨j1, j2⟩ := ih k _ q.2 r y2 hk h
              refine ⟨Nat.le_trans i1 j1, ?_⟩
              have m40 := hM40 k2
              intro p e R s m args below meth c Qc X hR hrt hlk H locs cells slots ls hI hL hc hs hfin
              have hrun := hme p l e R s m args below meth c X.1 _ _ _ _ _ _ hmet rfl rfl (by show Hh k2 + 1 + 1 ≤ _; omega) (by show 8 + (M k2 + 11) + 60 * (Hh k2 + 1) ≤ _; omega) (lm_blind _ _)
                (st.take n2).reverse (st.drop n2) H locs cells slots ls (by rw [List.length_reverse, List.length_take]; omega) hL.1 (fun U hU hW => lm_pre hI X.2.2.1 X.2.2.2.2.2 _ hU hW) (ri_few_cat hfew) (by omega) (by omega)
              rw [List.reverse_reverse, List.take_append_drop] at hrun
              refine lm_row hrun hI fun H1 locs1 hI1 => ?_
              have k3 := j2 p e R s m args below meth c Qc X hR hrt hlk H1 locs1 (cells + (q.2.2 - y.2)) (slots + 6 * (q.2.2 - y.2)) ls hI1 hL (by omega) (by omega) hfin
              rw [show cells + (q.2.2 - y.2) + (y2.2 - q.2.2) = cells + (y2.2 - y.2) by omega, show slots + 6 * (q.2.2 - y.2) + 6 * (y2.2 - q.2.2) = slots + 6 * (y2.2 - y.2) by omega] at k3
              exact k3
            · cases hg
        · cases h
      | .inr (.inr rk), hx, hme =>
        have h2 : lm_stp (some (.inr (.inr rk))) (pc, L, st) y (fun fr2 y2 => lm_run P M Hh ip pr n k fr2 y2) (fun k2 as => if (Nat.blt (Hh k2) (Hh k) && ri_fit (M k2) as) = true then (if ip k2 = true then pr k2 as y else lm_run P M Hh ip pr n k2 (0, ri_ent (M k2) as, []) y) else none) = some (r, y2) := by rw [← hx]; exact h
        match rk, hme, h2 with
        | 0, hme, h2 => simp only [lm_stp] at h2; cases h2
        | 1, hme, h2 =>
          simp only [lm_stp] at h2
          split at h2
          · rename_i v
            cases h2
            refine ⟨Nat.le_refl _, ?_⟩
            intro p e R s m args below meth c Qc X hR hrt hlk H locs cells slots ls hI hL hc hs hfin
            rw [Nat.sub_self, Nat.mul_zero, Nat.add_zero, Nat.add_zero]
            exact W.iret X.1.1 X.1.2.1 (hrt.trans hme.2) (fun t ht hW => hfin t locs (by rw [ht]; exact hI) hW) (by obtain ⟨σ, hR, hI⟩ := hI; exact hI.2.2.2) hme.1
          · cases h2
        | 2, hme, h2 =>
          simp only [lm_stp] at h2
          split at h2
          · rename_i v
            split at h2
            · rename_i hv
              cases h2
              refine ⟨Nat.le_refl _, ?_⟩
              intro p e R s m args below meth c Qc X hR hrt hlk H locs cells slots ls hI hL hc hs hfin
              rw [Nat.sub_self, Nat.mul_zero, Nat.add_zero, Nat.add_zero]
              exact W.zret X.1.1 X.1.2.1 (hrt.trans hme.2) (by rcases hv with rfl | rfl <;> rfl) (fun t ht hW => hfin t locs (by rw [ht]; exact hI) hW) (by obtain ⟨σ, hR, hI⟩ := hI; exact hI.2.2.2) hme.1
            · cases h2
          · cases h2
        | n9 + 3, hme, h2 => simp only [lm_stp] at h2; cases h2
end LMS
