/-! The reading machine once more: a step may ask for the room of its method (what a step calls inside). -/
section RJMAIN
variable {LW : List Cond} {cl : List vw_C} {Cq : String} {Ex : (Nat → Prop) → State → Heap → Prop} {D : va_G} {dT : Nat → ClassId} {P : Nat → Nat → Option ri_C} {N : Nat → MethodName} {B : Nat → ByteArray} {M Hh : Nat → Nat} {Rt : Nat → Option FieldType}
/-- the machine goes with a step of a method of height h -/
def rj_ok (h : Nat) (LW : List Cond) (cl : List vw_C) (Cq : String) (Ex : (Nat → Prop) → State → Heap → Prop) (D : va_G) (dT : Nat → ClassId) (own nme : String) (cc : ByteArray) (nL : Nat) (pc : Nat) (op : ri_Op) : Prop :=
  ∀ (p : Program) (l : Launch) (e : Env) (R : Room) (s : State) (m : MethodId) (args : Array Value) (below : List Frame) (meth : Method) (c : Code) (A : Nat → Prop) (Q : State → Prop), ri_X LW cl Cq Ex D dT own nme cc nL p R s m args meth c A → (h + 1 ≤ R.frames ∧ 60 * (h + 1) ≤ R.locals) →
    ∀ (L : ri_L) (st : List Value) (σ : ri_S) (fr2 : ri_F) (σ2 : ri_S) (H : Heap) (locs : List Loc) (cells slots : Nat) (ls : Array Slot), op (pc, L, st) σ = some (fr2, σ2) → ri_I D cl dT A s.heap σ H locs → ri_Lo ls nL L →
      cells + (σ2.2 - σ.2) ≤ R.cells → slots + 2000 * (σ2.2 - σ.2) ≤ R.slots →
      (∀ (H2 : Heap) (locs2 : List Loc) (ls2 : Array Slot), ri_I D cl dT A s.heap σ2 H2 locs2 → ri_Lo ls2 nL fr2.2.1 → W p l e R s m args below meth c H2 locs2 (cells + (σ2.2 - σ.2)) (slots + 2000 * (σ2.2 - σ.2)) Q (F0 m fr2.1 ls2 fr2.2.2)) →
      σ.2 ≤ σ2.2 ∧ W p l e R s m args below meth c H locs cells slots Q (F0 m pc ls st)
theorem ri_ok.j {h : Nat} {own nme : String} {cc : ByteArray} {nL pc : Nat} {op : ri_Op} (a : ri_ok LW cl Cq Ex D dT own nme cc nL pc op) : rj_ok h LW cl Cq Ex D dT own nme cc nL pc op := fun p l e R s m args below meth c A Q X _ => a p l e R s m args below meth c A Q X
/-- what is known beside the picture may be seen from any later heap, of fewer cells, as the machine warms -/
def rj_exok (Ex : (Nat → Prop) → State → Heap → Prop) : Prop :=
  (∀ (A A2 : Nat → Prop) (s U : State) (H : Heap) (locs : List Loc), Ex A s s.heap → va_S A s.heap H locs → s.WarmedH U.vm → U.heap = H → (∀ q, A2 q → A q) → Ex A2 U U.heap) ∧ ∀ (A : Nat → Prop) (U : State) (g : JFrame) (mk : MethodId) (a : Array Value), Ex A U U.heap → Ex A (U.calling g mk a) (U.calling g mk a).heap
theorem rj_blind (hX : rj_exok Ex) (as : List Value) (σ : ri_S) : FrameBlind (ri_Pc Ex cl Cq D dT as σ) := fun a U g mk h => ⟨h.1, h.2.1, va_K.moved (u := U) (U := U.calling g mk a) (Vm.Alike.refl U.vm) h.2.2.1, hX.2 _ _ _ _ _ h.2.2.2⟩
theorem rj_pre {A : Nat → Prop} {s U : State} {H : Heap} {σ : ri_S} {locs : List Loc} (hX : rj_exok Ex) (hI : ri_I D cl dT A s.heap σ H locs) (hK : va_K D cl (ri_tys dT Cq) s) (hA : ∀ q, s.heap.size ≤ q → A q) (hE : Ex A s s.heap) (as : List Value) (hU : U.heap = H) (hW : s.WarmedH U.vm) : ri_Pc Ex cl Cq D dT as σ as.toArray U :=
  ⟨rfl, by rw [hU]; exact hI.1.dom, va_K.moved hW.alike hK, hX.1 _ _ _ _ _ _ hE hI.2 hW hU (ri_dom_in hI hA)⟩
def rj_eok (LW : List Cond) (cl : List vw_C) (Cq : String) (Ex : (Nat → Prop) → State → Heap → Prop) (D : va_G) (dT : Nat → ClassId) (N : Nat → MethodName) (B : Nat → ByteArray) (M Hh : Nat → Nat) (Rt : Nat → Option FieldType) (k pc : Nat) (x : ri_C) : Prop := match x with
  | .inl op => rj_ok (Hh k) LW cl Cq Ex D dT (N k).cls (N k).name (B k) (M k) pc op
  | .inr (.inl (k2, n, rc)) => ri_cok LW cl (N k).cls (B k) (M k) pc (N k2) (B k2) (M k2) (Rt k2) n rc
  | .inr (.inr rk) => ri_fin (B k) pc rk (Rt k)
theorem ri_eok.j {k pc : Nat} {x : ri_C} (h : ri_eok LW cl Cq Ex D dT N B M Rt k pc x) : rj_eok LW cl Cq Ex D dT N B M Hh Rt k pc x := by
  match x, h with
  | .inl op, h => exact ri_ok.j h
  | .inr (.inl (k2, n, rc)), h => exact h
  | .inr (.inr rk), h => exact h
def rj_mok (LW : List Cond) (cl : List vw_C) (Cq : String) (Ex : (Nat → Prop) → State → Heap → Prop) (D : va_G) (dT : Nat → ClassId) (P : Nat → Nat → Option ri_C) (N : Nat → MethodName) (B : Nat → ByteArray) (M Hh : Nat → Nat) (Rt : Nat → Option FieldType) (k : Nat) : Prop :=
  plainName (N k).cls = true ∧ M k ≤ 40 ∧ ∀ (pc : Nat) (x : ri_C), P k pc = some x → rj_eok LW cl Cq Ex D dT N B M Hh Rt k pc x
set_option maxHeartbeats 1000000 in
theorem rj_sound (hX : rj_exok Ex) (hG : ri_gok P) (hM : ∀ k, (∃ pc x, P k pc = some x) → rj_mok LW cl Cq Ex D dT P N B M Hh Rt k) (l : Launch) : ∀ (n k : Nat) (fr : ri_F) (σ : ri_S) (r : Option Value) (σ2 : ri_S), ri_run P M Hh n k fr σ = some (r, σ2) → σ.2 ≤ σ2.2 ∧ ri_body LW cl Cq Ex D dT N B M Hh Rt l k fr σ r σ2 := by
  intro n
  induction n with
  | zero => intro k fr σ r σ2 h; exact absurd h (by simp [ri_run])
  | succ n ih =>
    rintro k ⟨pc, L, st⟩ σ r σ2 h
    rw [ri_run] at h
    cases hx : P k pc with
    | none => simp only [hx, ri_stp] at h; cases h
    | some x =>
      have hme := (hM k ⟨pc, x, hx⟩).2.2 pc x hx
      match x, hx, hme with
      | .inl op, hx, hme =>
        simp only [hx, ri_stp] at h
        cases ho : op (pc, L, st) σ with
        | none => rw [ho] at h; cases h
        | some q =>
          rw [ho] at h
          obtain ⟨i1, i2⟩ := ih k q.1 q.2 r σ2 h
          have g1 := hG k pc op hx _ _ _ ho
          refine ⟨Nat.le_trans g1 i1, ?_⟩
          intro p e R s m args below meth c A Qc X hR hrt hlk H locs cells slots ls hI hL hc hs hfin
          refine (hme p l e R s m args below meth c A _ X hR L st σ q.1 q.2 H locs cells slots ls ho hI hL (by omega) (by omega) fun H2 locs2 ls2 hI2 hL2 => ?_).2
          have k2 := i2 p e R s m args below meth c A Qc X hR hrt hlk H2 locs2 (cells + (q.2.2 - σ.2)) (slots + 2000 * (q.2.2 - σ.2)) ls2 hI2 hL2 (by omega) (by omega) hfin
          rw [show cells + (q.2.2 - σ.2) + (σ2.2 - q.2.2) = cells + (σ2.2 - σ.2) by omega, show slots + 2000 * (q.2.2 - σ.2) + 2000 * (σ2.2 - q.2.2) = slots + 2000 * (σ2.2 - σ.2) by omega] at k2
          exact k2
      | .inr (.inl (k2, n2, rc)), hx, hme =>
        simp only [hx, ri_stp] at h
        split at h
        · rename_i hcond
          simp only [Bool.and_eq_true] at hcond
          obtain ⟨⟨hfew, hble⟩, hrcv⟩ := hcond
          have hble := Nat.le_of_ble_eq_true hble
          cases hg : (if (Nat.blt (Hh k2) (Hh k) && ri_fit (M k2) (st.take n2).reverse) = true then ri_run P M Hh n k2 (0, ri_ent (M k2) (st.take n2).reverse, []) σ else none) with
          | none => rw [hg] at h; cases h
          | some q =>
            rw [hg] at h
            split at hg
            · rename_i hc2
              simp only [Bool.and_eq_true] at hc2
              obtain ⟨hlt, hfit⟩ := hc2
              have hlt : Hh k2 < Hh k := by simpa [Nat.blt_eq] using hlt
              obtain ⟨i1, i2⟩ := ih k2 _ σ q.1 q.2 hg
              obtain ⟨j1, j2⟩ := ih k _ q.2 r σ2 h
              refine ⟨Nat.le_trans i1 j1, ?_⟩
              have hne : ∃ pc x, P k2 pc = some x := by
                cases n with
                | zero => exact absurd hg (by simp [ri_run])
                | succ n =>
                  rw [ri_run] at hg
                  cases hp : P k2 0 with
                  | none => simp only [hp, ri_stp] at hg; cases hg
                  | some x => exact ⟨0, x, hp⟩
              obtain ⟨m1, m2, -⟩ := hM k2 hne
              have hmet := ri_met_of (Rt := Rt) m1 hfit i1 i2
              intro p e R s m args below meth c A Qc X hR hrt hlk H locs cells slots ls hI hL hc hs hfin
              have hrun := hme p l e R s m args below meth c X.1 _ _ _ _ _ _ hmet rfl rfl (by show Hh k2 + 1 + 1 ≤ _; omega) (by show 8 + (M k2 + 11) + 60 * (Hh k2 + 1) ≤ _; omega) (rj_blind hX _ _)
                (st.take n2).reverse (st.drop n2) H locs cells slots ls (by rw [List.length_reverse, List.length_take]; omega) hL.1 (fun U hU hW => rj_pre hX hI X.2.2.1 X.2.2.2.1 X.2.2.2.2.2 _ hU hW) (ri_rcv_of (p := p) X.2.2.1 hI hrcv) (ri_few_cat hfew) (by omega) (by omega)
              rw [List.reverse_reverse, List.take_append_drop] at hrun
              refine ri_callrow hrun hI X.2.2.2.1 fun H1 locs1 hI1 => ?_
              have k3 := j2 p e R s m args below meth c A Qc X hR hrt hlk H1 locs1 (cells + (q.2.2 - σ.2)) (slots + 2000 * (q.2.2 - σ.2)) ls hI1 hL (by omega) (by omega) hfin
              rw [show cells + (q.2.2 - σ.2) + (σ2.2 - q.2.2) = cells + (σ2.2 - σ.2) by omega, show slots + 2000 * (q.2.2 - σ.2) + 2000 * (σ2.2 - q.2.2) = slots + 2000 * (σ2.2 - σ.2) by omega] at k3
              exact k3
            · cases hg
        · cases h
      | .inr (.inr rk), hx, hme =>
        have h2 : ri_stp (some (.inr (.inr rk))) (pc, L, st) σ (fun fr2 σ2 => ri_run P M Hh n k fr2 σ2) (fun k2 as => if (Nat.blt (Hh k2) (Hh k) && ri_fit (M k2) as) = true then ri_run P M Hh n k2 (0, ri_ent (M k2) as, []) σ else none) = some (r, σ2) := by rw [← hx]; exact h
        match rk, hme, h2 with
        | 0, hme, h2 =>
          simp only [ri_stp] at h2
          split at h2
          · cases h2
            refine ⟨Nat.le_refl _, ?_⟩
            intro p e R s m args below meth c A Qc X hR hrt hlk H locs cells slots ls hI hL hc hs hfin
            rw [Nat.sub_self, Nat.mul_zero, Nat.add_zero, Nat.add_zero]
            exact W.vret X.1.1 X.1.2.1 (hrt.trans hme.2) (fun t ht hW => hfin t locs (by rw [ht]; exact hI) hW) hI.2.2.2 hme.1
          · cases h2
        | 1, hme, h2 =>
          simp only [ri_stp] at h2
          split at h2
          · rename_i v
            cases h2
            refine ⟨Nat.le_refl _, ?_⟩
            intro p e R s m args below meth c A Qc X hR hrt hlk H locs cells slots ls hI hL hc hs hfin
            rw [Nat.sub_self, Nat.mul_zero, Nat.add_zero, Nat.add_zero]
            exact W.iret X.1.1 X.1.2.1 (hrt.trans hme.2) (fun t ht hW => hfin t locs (by rw [ht]; exact hI) hW) hI.2.2.2 hme.1
          · cases h2
        | 2, hme, h2 =>
          simp only [ri_stp] at h2
          split at h2
          · rename_i v
            split at h2
            · rename_i hv
              cases h2
              refine ⟨Nat.le_refl _, ?_⟩
              intro p e R s m args below meth c A Qc X hR hrt hlk H locs cells slots ls hI hL hc hs hfin
              rw [Nat.sub_self, Nat.mul_zero, Nat.add_zero, Nat.add_zero]
              exact W.zret X.1.1 X.1.2.1 (hrt.trans hme.2) (by rcases hv with rfl | rfl <;> rfl) (fun t ht hW => hfin t locs (by rw [ht]; exact hI) hW) hI.2.2.2 hme.1
            · cases h2
          · cases h2
        | 3, hme, h2 =>
          simp only [ri_stp] at h2
          split at h2
          · rename_i v
            cases h2
            refine ⟨Nat.le_refl _, ?_⟩
            intro p e R s m args below meth c A Qc X hR hrt hlk H locs cells slots ls hI hL hc hs hfin
            rw [Nat.sub_self, Nat.mul_zero, Nat.add_zero, Nat.add_zero]
            exact W.lret X.1.1 X.1.2.1 (hrt.trans hme.2) (fun t ht hW => hfin t locs (by rw [ht]; exact hI) hW) hI.2.2.2 hme.1
          · cases h2
        | 4, hme, h2 =>
          obtain ⟨hm1, nn, hm2⟩ := hme
          simp only [ri_stp] at h2
          split at h2
          · rename_i v
            cases h2
            refine ⟨Nat.le_refl _, ?_⟩
            intro p e R s m args below meth c A Qc X hR hrt hlk H locs cells slots ls hI hL hc hs hfin
            rw [Nat.sub_self, Nat.mul_zero, Nat.add_zero, Nat.add_zero]
            exact W.aret X.1.1 X.1.2.1 (hrt.trans hm2) (Or.inl ⟨nn, rfl⟩) (Or.inr ⟨_, rfl⟩) (fun t ht hW => hfin t locs (by rw [ht]; exact hI) hW) hI.2.2.2 hm1
          · cases h2
            refine ⟨Nat.le_refl _, ?_⟩
            intro p e R s m args below meth c A Qc X hR hrt hlk H locs cells slots ls hI hL hc hs hfin
            rw [Nat.sub_self, Nat.mul_zero, Nat.add_zero, Nat.add_zero]
            exact W.aret X.1.1 X.1.2.1 (hrt.trans hm2) (Or.inl ⟨nn, rfl⟩) (Or.inl rfl) (fun t ht hW => hfin t locs (by rw [ht]; exact hI) hW) hI.2.2.2 hm1
          · cases h2
        | n9 + 5, hme, h2 => simp only [ri_stp] at h2; cases h2
/-- a method's contract out of what its picture comes to -/
theorem rj_meets (hX : rj_exok Ex) (hG : ri_gok P) (hM : ∀ k, (∃ pc x, P k pc = some x) → rj_mok LW cl Cq Ex D dT P N B M Hh Rt k) (l : Launch) {k : Nat} {as : List Value} {σ σ2 : ri_S} {r : Option Value} (hfit : ri_fit (M k) as = true) (h : ri_call P M Hh k as σ = some (r, σ2)) : σ.2 ≤ σ2.2 ∧ ri_Met LW cl Cq Ex D dT N B M Hh Rt l k as σ r σ2 := by
  obtain ⟨n, hn⟩ := ri_lim_to h
  obtain ⟨h1, h2⟩ := rj_sound (N := N) (B := B) (Rt := Rt) hX hG hM l n k _ σ r σ2 hn
  have hne : ∃ pc x, P k pc = some x := by
    cases n with
    | zero => exact absurd hn (by simp [ri_run])
    | succ n =>
      rw [ri_run] at hn
      cases hp : P k 0 with
      | none => simp only [hp, ri_stp] at hn; cases hn
      | some x => exact ⟨0, x, hp⟩
  exact ⟨h1, ri_met_of (hM k hne).1 hfit h1 h2⟩

/-! A run that stops: only steps, and the calls as steps. -/
/-- a call as a step: what the callee comes to -/
noncomputable def rs_call (P : Nat → Nat → Option ri_C) (M Hh : Nat → Nat) (hk k2 n : Nat) (rc : Option Nat) : ri_Op := fun fr σ =>
  if (ri_few (fr.2.2.drop n) && Nat.ble n fr.2.2.length && ri_rcv rc (fr.2.2.take n).reverse σ && (Nat.blt (Hh k2) hk && ri_fit (M k2) (fr.2.2.take n).reverse)) = true then
    (ri_call P M Hh k2 (fr.2.2.take n).reverse σ).map fun q => ((fr.1 + 3, fr.2.1, q.1.toList ++ fr.2.2.drop n), q.2)
  else none
theorem rs_call_ok (hX : rj_exok Ex) (hG : ri_gok P) (hM : ∀ k, (∃ pc x, P k pc = some x) → rj_mok LW cl Cq Ex D dT P N B M Hh Rt k) {h k pc k2 n : Nat} {rc : Option Nat} (hm : M k ≤ 40) (hc : ri_cok LW cl (N k).cls (B k) (M k) pc (N k2) (B k2) (M k2) (Rt k2) n rc) : rj_ok h LW cl Cq Ex D dT (N k).cls (N k).name (B k) (M k) pc (rs_call P M Hh h k2 n rc) := by
  intro p l e R s m args below meth c A Q X hR L st σ fr2 σ2 H locs cells slots ls ho hI hL hc1 hs1 kk
  unfold rs_call at ho
  dsimp only at ho
  split at ho
  · rename_i hcond
    simp only [Bool.and_eq_true] at hcond
    obtain ⟨⟨⟨hfew, hble⟩, hrcv⟩, hlt, hfit⟩ := hcond
    have hble := Nat.le_of_ble_eq_true hble
    have hlt : Hh k2 < h := by simpa [Nat.blt_eq] using hlt
    cases hg : ri_call P M Hh k2 (st.take n).reverse σ with
    | none => rw [hg] at ho; cases ho
    | some q =>
      rw [hg] at ho
      simp only [Option.map_some, Option.some.injEq, Prod.mk.injEq] at ho
      obtain ⟨rfl, rfl⟩ := ho
      obtain ⟨i1, hmet⟩ := rj_meets (r := q.1) (σ2 := q.2) (N := N) (B := B) (Rt := Rt) hX hG hM l hfit hg
      refine ⟨i1, ?_⟩
      have hrun := hc p l e R s m args below meth c X.1 _ _ _ _ _ _ hmet rfl rfl (by show Hh k2 + 1 + 1 ≤ _; omega) (by
          have m2 : M k2 ≤ 40 := by
            obtain ⟨n0, hn0⟩ := ri_lim_to hg
            refine (hM k2 ?_).2.1
            cases n0 with
            | zero => exact absurd hn0 (by simp [ri_run])
            | succ n0 =>
              rw [ri_run] at hn0
              cases hp : P k2 0 with
              | none => simp only [hp, ri_stp] at hn0; cases hn0
              | some x => exact ⟨0, x, hp⟩
          show 8 + (M k2 + 11) + 60 * (Hh k2 + 1) ≤ _; omega) (rj_blind hX _ _)
        (st.take n).reverse (st.drop n) H locs cells slots ls (by rw [List.length_reverse, List.length_take]; omega) hL.1 (fun U hU hW => rj_pre hX hI X.2.2.1 X.2.2.2.1 X.2.2.2.2.2 _ hU hW) (ri_rcv_of (p := p) X.2.2.1 hI hrcv) (ri_few_cat hfew) hc1 hs1
      rw [List.reverse_reverse, List.take_append_drop] at hrun
      exact ri_callrow hrun hI X.2.2.2.1 fun H1 locs1 hI1 => kk H1 locs1 ls hI1 hL
  · cases ho
theorem rs_call_gr (hX : rj_exok Ex) (hG : ri_gok P) (hM : ∀ k, (∃ pc x, P k pc = some x) → rj_mok LW cl Cq Ex D dT P N B M Hh Rt k) (l : Launch) {h k2 n : Nat} {rc : Option Nat} : ri_gr (rs_call P M Hh h k2 n rc) := by
  intro fr σ q ho
  unfold rs_call at ho
  split at ho
  · rename_i hcond
    simp only [Bool.and_eq_true] at hcond
    cases hg : ri_call P M Hh k2 (fr.2.2.take n).reverse σ with
    | none => rw [hg] at ho; cases ho
    | some q1 =>
      rw [hg] at ho
      simp only [Option.map_some, Option.some.injEq] at ho
      subst ho
      exact (rj_meets (r := q1.1) (σ2 := q1.2) (N := N) (B := B) (Rt := Rt) hX hG hM l hcond.2.2 hg).1
  · cases ho
/-- a run of steps alone, to the entry that ends it -/
def rs_W (h : Nat) (LW : List Cond) (cl : List vw_C) (Cq : String) (Ex : (Nat → Prop) → State → Heap → Prop) (D : va_G) (dT : Nat → ClassId) (own nme : String) (cc : ByteArray) (nL : Nat) (l : Launch) (fr : ri_F) (σ : ri_S) (fr2 : ri_F) (σ2 : ri_S) : Prop :=
  ∀ (p : Program) (e : Env) (R : Room) (s : State) (m : MethodId) (args : Array Value) (below : List Frame) (meth : Method) (c : Code) (A : Nat → Prop) (Q : State → Prop), ri_X LW cl Cq Ex D dT own nme cc nL p R s m args meth c A → (h + 1 ≤ R.frames ∧ 60 * (h + 1) ≤ R.locals) →
    ∀ (H : Heap) (locs : List Loc) (cells slots : Nat) (ls : Array Slot), ri_I D cl dT A s.heap σ H locs → ri_Lo ls nL fr.2.1 → cells + (σ2.2 - σ.2) ≤ R.cells → slots + 2000 * (σ2.2 - σ.2) ≤ R.slots →
      (∀ (H2 : Heap) (locs2 : List Loc) (ls2 : Array Slot), ri_I D cl dT A s.heap σ2 H2 locs2 → ri_Lo ls2 nL fr2.2.1 → W p l e R s m args below meth c H2 locs2 (cells + (σ2.2 - σ.2)) (slots + 2000 * (σ2.2 - σ.2)) Q (F0 m fr2.1 ls2 fr2.2.2)) →
      W p l e R s m args below meth c H locs cells slots Q (F0 m fr.1 ls fr.2.2)
theorem rs_fin {S : Nat → Nat → Option ri_C} {M9 H9 : Nat → Nat} {n k rk : Nat} {fr : ri_F} {σ : ri_S} {r : Option Value} {σ2 : ri_S} (hx : S k fr.1 = some (.inr (.inr rk))) (h : ri_run S M9 H9 (n + 1) k fr σ = some (r, σ2)) : σ = σ2 ∧ ri_stp (some (.inr (.inr rk))) fr σ (fun _ _ => none) (fun _ _ => none) = some (r, σ2) := by
  rw [ri_run, hx] at h
  match rk, h with
  | 0, h => refine ⟨?_, h⟩; simp only [ri_stp] at h; split at h <;> cases h; rfl
  | 1, h => refine ⟨?_, h⟩; simp only [ri_stp] at h; split at h <;> cases h; rfl
  | 2, h =>
    refine ⟨?_, h⟩
    simp only [ri_stp] at h
    split at h
    · split at h
      · cases h; rfl
      · cases h
    · cases h
  | 3, h => refine ⟨?_, h⟩; simp only [ri_stp] at h; split at h <;> cases h; rfl
  | 4, h => refine ⟨?_, h⟩; simp only [ri_stp] at h; split at h <;> cases h <;> rfl
  | n9 + 5, h => simp only [ri_stp] at h; cases h
theorem rs_sound {S : Nat → Nat → Option ri_C} {k h : Nat} (hS : ∀ pc op, S k pc = some (.inl op) → rj_ok h LW cl Cq Ex D dT (N k).cls (N k).name (B k) (M k) pc op) (hN : ∀ pc q, S k pc ≠ some (.inr (.inl q))) (hg : ∀ pc op, S k pc = some (.inl op) → ri_gr op) {M9 H9 : Nat → Nat} (l : Launch) : ∀ (n : Nat) (fr : ri_F) (σ : ri_S) (r : Option Value) (σ2 : ri_S), ri_run S M9 H9 n k fr σ = some (r, σ2) →
    ∃ (fr2 : ri_F) (rk : Nat), S k fr2.1 = some (.inr (.inr rk)) ∧ ri_stp (some (.inr (.inr rk))) fr2 σ2 (fun _ _ => none) (fun _ _ => none) = some (r, σ2) ∧ σ.2 ≤ σ2.2 ∧ rs_W h LW cl Cq Ex D dT (N k).cls (N k).name (B k) (M k) l fr σ fr2 σ2 := by
  intro n
  induction n with
  | zero => intro fr σ r σ2 h; exact absurd h (by simp [ri_run])
  | succ n ih =>
    rintro ⟨pc, L, st⟩ σ r σ2 h
    cases hx : S k pc with
    | none => rw [ri_run] at h; simp only [hx, ri_stp] at h; cases h
    | some x =>
      match x, hx with
      | .inl op, hx =>
        rw [ri_run] at h
        simp only [hx, ri_stp] at h
        cases ho : op (pc, L, st) σ with
        | none => rw [ho] at h; cases h
        | some q =>
          rw [ho] at h
          obtain ⟨fr2, rk, i1, i2, i3, i4⟩ := ih q.1 q.2 r σ2 h
          have g1 := hg pc op hx _ _ _ ho
          refine ⟨fr2, rk, i1, i2, Nat.le_trans g1 i3, ?_⟩
          intro p e R s m args below meth c A Q X hR H locs cells slots ls hI hL hc hs hfin
          refine (hS pc op hx p l e R s m args below meth c A _ X hR L st σ q.1 q.2 H locs cells slots ls ho hI hL (by omega) (by omega) fun H2 locs2 ls2 hI2 hL2 => ?_).2
          refine i4 p e R s m args below meth c A Q X hR H2 locs2 (cells + (q.2.2 - σ.2)) (slots + 2000 * (q.2.2 - σ.2)) ls2 hI2 hL2 (by omega) (by omega) fun H3 locs3 ls3 hI3 hL3 => ?_
          have k2 := hfin H3 locs3 ls3 hI3 hL3
          rw [show cells + (q.2.2 - σ.2) + (σ2.2 - q.2.2) = cells + (σ2.2 - σ.2) by omega, show slots + 2000 * (q.2.2 - σ.2) + 2000 * (σ2.2 - q.2.2) = slots + 2000 * (σ2.2 - σ.2) by omega]
          exact k2
      | .inr (.inl q), hx => exact absurd hx (hN pc q)
      | .inr (.inr rk), hx =>
        obtain ⟨rfl, e2⟩ := rs_fin hx h
        refine ⟨(pc, L, st), rk, hx, e2, Nat.le_refl _, ?_⟩
        intro p e R s m args below meth c A Q X hR H locs cells slots ls hI hL hc hs hfin
        have k2 := hfin H locs ls hI hL
        rw [Nat.sub_self, Nat.mul_zero, Nat.add_zero, Nat.add_zero] at k2
        exact k2
end RJMAIN
