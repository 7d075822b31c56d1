/-! The steps that read and write the heap. -/
def ri_ix (i : Int32) (n : Nat) : Option Nat := if i < 0 ∨ n ≤ i.toNatClampNeg then none else some i.toNatClampNeg
theorem ri_ix_in {i : Int32} {n j : Nat} (h : ri_ix i n = some j) : vp_in i n ∧ j = i.toNatClampNeg := by
  unfold ri_ix at h
  split at h
  · cases h
  · rename_i hn
    exact ⟨hn, by cases h; rfl⟩
def ri_getf (ci k : Nat) : ri_Op := fun fr σ => match fr.2.2 with
  | .ref a :: st => match σ.1 a with
    | some (.inr (.inr (c2, fs))) => if Nat.beq c2 ci = true then (match fs[k]? with
      | some v => some ((fr.1 + 3, fr.2.1, v :: st), σ)
      | none => none) else none
    | _ => none
  | _ => none
def ri_putw (ci k : Nat) (fr : ri_F) (σ : ri_S) (v : Value) (a : Nat) (st : List Value) : Option (ri_F × ri_S) := match σ.1 a with
    | some (.inr (.inr (c2, fs))) => if Nat.beq c2 ci = true then (match fs[k]? with
      | some _ => some ((fr.1 + 3, fr.2.1, st), (ri_upd σ.1 a (.inr (.inr (ci, fs.set k v))), σ.2))
      | none => none) else none
    | _ => none
def ri_puti (ci k : Nat) : ri_Op := fun fr σ => match fr.2.2 with
  | .int x :: .ref a :: st => ri_putw ci k fr σ (.int x) a st
  | _ => none
def ri_putr (ci k : Nat) : ri_Op := fun fr σ => match fr.2.2 with
  | .ref x :: .ref a :: st => ri_putw ci k fr σ (.ref x) a st
  | _ => none
def ri_alen : ri_Op := fun fr σ => match fr.2.2 with
  | .ref a :: st => match σ.1 a with
    | some (.inl (0, n, _)) => some ((fr.1 + 1, fr.2.1, .int (Int32.ofNat n) :: st), σ)
    | some (.inr (.inl (n, _))) => some ((fr.1 + 1, fr.2.1, .int (Int32.ofNat n) :: st), σ)
    | _ => none
  | _ => none
def ri_iald : ri_Op := fun fr σ => match fr.2.2 with
  | .int i :: .ref a :: st => match σ.1 a with
    | some (.inl (0, n, f)) => match ri_ix i n with
      | some j => some ((fr.1 + 1, fr.2.1, .int (f j) :: st), σ)
      | none => none
    | _ => none
  | _ => none
def ri_zald : ri_Op := fun fr σ => match fr.2.2 with
  | .int i :: .ref a :: st => match σ.1 a with
    | some (.inl (1, n, f)) => match ri_ix i n with
      | some j => some ((fr.1 + 1, fr.2.1, .int (f j) :: st), σ)
      | none => none
    | _ => none
  | _ => none
def ri_aald : ri_Op := fun fr σ => match fr.2.2 with
  | .int i :: .ref a :: st => match σ.1 a with
    | some (.inr (.inl (n, f))) => match ri_ix i n with
      | some j => match f j with
        | none => some ((fr.1 + 1, fr.2.1, .null :: st), σ)
        | some b => some ((fr.1 + 1, fr.2.1, .ref b :: st), σ)
      | none => none
    | _ => none
  | _ => none
def ri_iast : ri_Op := fun fr σ => match fr.2.2 with
  | .int x :: .int i :: .ref a :: st => match σ.1 a with
    | some (.inl (0, n, f)) => match ri_ix i n with
      | some j => some ((fr.1 + 1, fr.2.1, st), (ri_upd σ.1 a (.inl (0, n, upd f j x)), σ.2))
      | none => none
    | _ => none
  | _ => none
def ri_zast : ri_Op := fun fr σ => match fr.2.2 with
  | .int x :: .int i :: .ref a :: st => match σ.1 a with
    | some (.inl (1, n, f)) => match ri_ix i n with
      | some j => some ((fr.1 + 1, fr.2.1, st), (ri_upd σ.1 a (.inl (1, n, upd f j (vp_nar .boolean x))), σ.2))
      | none => none
    | _ => none
  | _ => none
/-- a row of references takes an object of class ci -/
def ri_aast (ci : Nat) : ri_Op := fun fr σ => match fr.2.2 with
  | .ref x :: .int i :: .ref a :: st => match σ.1 a with
    | some (.inr (.inl (n, f))) => match ri_ix i n with
      | some j => match σ.1 x with
        | some (.inr (.inr (c2, _))) => if Nat.beq c2 ci = true then some ((fr.1 + 1, fr.2.1, st), (ri_upd σ.1 a (.inr (.inl (n, va_up f j (some x)))), σ.2)) else none
        | _ => none
      | none => none
    | _ => none
  | _ => none
def ri_new (ci : Nat) (fs : List Value) : ri_Op := fun fr σ => some ((fr.1 + 3, fr.2.1, .ref σ.2 :: fr.2.2), (ri_upd σ.1 σ.2 (.inr (.inr (ci, fs))), σ.2 + 1))
def ri_newa (k : Nat) : ri_Op := fun fr σ => match fr.2.2 with
  | .int n :: st => if n < 0 ∨ 2000 < n.toNatClampNeg then none else some ((fr.1 + 2, fr.2.1, .ref σ.2 :: st), (ri_upd σ.1 σ.2 (.inl (k, n.toNatClampNeg, fun _ => 0)), σ.2 + 1))
  | _ => none
def ri_newq : ri_Op := fun fr σ => match fr.2.2 with
  | .int n :: st => if n < 0 ∨ 2000 < n.toNatClampNeg then none else some ((fr.1 + 3, fr.2.1, .ref σ.2 :: st), (ri_upd σ.1 σ.2 (.inr (.inl (n.toNatClampNeg, fun _ => none))), σ.2 + 1))
  | _ => none
def ri_copy : ri_Op := fun fr σ => match fr.2.2 with
  | .int n :: .int dp :: .ref b :: .int sp :: .ref a :: st => match σ.1 a, σ.1 b with
    | some (.inl (0, n0, f)), some (.inl (0, n1, g)) =>
      if ri_few st = true ∧ ¬ sp < 0 ∧ ¬ dp < 0 ∧ ¬ n < 0 ∧ sp.toNatClampNeg + n.toNatClampNeg ≤ n0 ∧ dp.toNatClampNeg + n.toNatClampNeg ≤ n1 then
        some ((fr.1 + 3, fr.2.1, st), (ri_upd σ.1 b (.inl (0, n1, va_cpy f g sp.toNatClampNeg dp.toNatClampNeg n.toNatClampNeg)), σ.2)) else none
    | _, _ => none
  | _ => none
section RIOH
variable {LW : List Cond} {cl : List vw_C} {Cq : String} {Ex : (Nat → Prop) → State → Heap → Prop} {D : va_G} {dT : Nat → ClassId} {own nme : String} {cc : ByteArray} {nL pc : Nat}
theorem ri_P1 {a : Nat} {e : va_E} {H : Heap} (h : va_at D cl (a, e) H) : va_P D cl [(a, e)] H := by
  intro k q hq
  have hz : k < 1 := (List.getElem?_eq_some_iff.mp hq).1
  rw [show k = 0 by omega] at hq
  cases hq
  exact h
theorem ri_I.put {A : Nat → Prop} {H0 H H1 : Heap} {σ : ri_S} {locs : List Loc} {a k : Nat} {e0 e : ri_El} (hI : ri_I D cl dT A H0 σ H locs) (ha : σ.1 a = some e0) (he : va_at D cl (a, ri_cv dT e) H1) (z : H1.size = H.size) (oq : ∀ q : Nat, q ≠ a → H1[q]? = H[q]?) : ri_I D cl dT A H0 (ri_upd σ.1 a e, σ.2) H1 (locs ++ [⟨a, k⟩]) := by
  obtain ⟨⟨h1, h2⟩, hS⟩ := hI
  refine ⟨⟨fun q x hq => ?_, by rw [z]; exact h2⟩, hS.put z oq (h1 a e0 ha).2⟩
  simp only [ri_upd] at hq
  split at hq
  · rename_i hqa
    cases hq
    subst hqa
    exact ⟨he, (h1 q e0 ha).2⟩
  · rename_i hqa
    exact ⟨(h1 q x hq).1.kept (oq q hqa), (h1 q x hq).2⟩
theorem ri_I.add {A : Nat → Prop} {H0 H H1 : Heap} {σ : ri_S} {locs : List Loc} {e : ri_El} (hI : ri_I D cl dT A H0 σ H locs) (hA : ∀ q, H0.size ≤ q → A q) (he : va_at D cl (H.size, ri_cv dT e) H1) (z : H1.size = H.size + 1) (oq : ∀ q : Nat, q < H.size → H1[q]? = H[q]?) : ri_I D cl dT A H0 (ri_upd σ.1 σ.2 e, σ.2 + 1) H1 locs := by
  obtain ⟨⟨h1, h2⟩, hS⟩ := hI
  refine ⟨⟨fun q x hq => ?_, by rw [z, h2]⟩, ⟨Nat.le_trans hS.1 (by omega), fun x g1 g2 => (oq x (Nat.lt_of_lt_of_le g1 hS.1)).trans (hS.2.1 x g1 g2), hS.2.2⟩⟩
  simp only [ri_upd] at hq
  split at hq
  · rename_i hqa
    cases hq
    subst hqa
    rw [← h2]
    exact ⟨he, hA _ hS.1⟩
  · exact ⟨(h1 q x hq).1.kept (oq q (h1 q x hq).1.lt), (h1 q x hq).2⟩
theorem rh_getf {C : String} {T : u_T} {N ci index : Nat} (hin : ∀ w ∈ u_ws C T N, w ∈ LW) (hc : cl[ci]? = some (C, T, N)) (k : Nat) (hk : k < N) (hw : Cond.fieldLink own index (T k).1 (T k).2.1 (T k).2.2.1 ∈ LW) (hd : decode cc pc = .ok (.getfield index, 3)) : ri_ok LW cl Cq Ex D dT own nme cc nL pc (ri_getf ci k) := by
  intro p l e R s m args below meth c A Q X L st σ fr2 σ2 H locs cells slots ls ho hI hL hc2 hs2 kk
  obtain ⟨⟨hx, hb, hml, hown, hts⟩, hR, hK, hA, -, -⟩ := X
  unfold ri_getf at ho
  split at ho
  · rename_i a st2 he
    obtain rfl : st = _ := he
    split at ho
    · rename_i c2 fs hg
      split at ho
      · rename_i hb2
        obtain rfl := Nat.eq_of_beq_eq_true hb2
        split at ho
        · rename_i v hv
          cases ho
          refine ⟨Nat.le_refl _, va_get (D := D) hx hb hts hin hown hK (ri_P1 (hI.1.1 a _ hg).1) 0 rfl hc k hk (hts _ hw) (fun _ h => h) hv hd ?_⟩
          have h1 := kk H locs ls hI hL
          rwa [Nat.sub_self, Nat.mul_zero, Nat.add_zero, Nat.add_zero] at h1
        · cases ho
      · cases ho
    · cases ho
  · cases ho
theorem rh_getfN {C host : String} {T : u_T} {N ci index : Nat} (hin : ∀ w ∈ u_ws C T N, w ∈ LW) (hc : cl[ci]? = some (C, T, N)) (k : Nat) (hk : k < N) (hw : Cond.fieldLinkNest own index (T k).1 (T k).2.1 (T k).2.2.1 host ∈ LW) (hd : decode cc pc = .ok (.getfield index, 3)) : ri_ok LW cl Cq Ex D dT own nme cc nL pc (ri_getf ci k) := by
  intro p l e R s m args below meth c A Q X L st σ fr2 σ2 H locs cells slots ls ho hI hL hc2 hs2 kk
  obtain ⟨⟨hx, hb, hml, hown, hts⟩, hR, hK, hA, -, -⟩ := X
  unfold ri_getf at ho
  split at ho
  · rename_i a st2 he
    obtain rfl : st = _ := he
    split at ho
    · rename_i c2 fs hg
      split at ho
      · rename_i hb2
        obtain rfl := Nat.eq_of_beq_eq_true hb2
        split at ho
        · rename_i v hv
          cases ho
          refine ⟨Nat.le_refl _, va_getN (D := D) hx hb hts hin hown hK (ri_P1 (hI.1.1 a _ hg).1) 0 rfl hc k hk (hts _ hw) (fun _ h => h) hv hd ?_⟩
          have h1 := kk H locs ls hI hL
          rwa [Nat.sub_self, Nat.mul_zero, Nat.add_zero, Nat.add_zero] at h1
        · cases ho
      · cases ho
    · cases ho
  · cases ho
/-- a field is written: what the machine must grant of it -/
def ri_pw (LW : List Cond) (cl : List vw_C) (D : va_G) (dT : Nat → ClassId) (Cq : String) (own nme : String) (cc : ByteArray) (nL pc ci k : Nat) (v : Value) : Prop :=
  ∀ (p : Program) (l : Launch) (e : Env) (R : Room) (s : State) (m : MethodId) (args : Array Value) (below : List Frame) (meth : Method) (c : Code) (Q : State → Prop), CallFix p m c cc nL s args LW own → va_K D cl (ri_tys dT Cq) s → meth.name = nme →
    ∀ (fs : List Value) (a : Nat) (st : List Value) (H : Heap) (locs : List Loc) (cells slots : Nat) (ls : Array Slot), va_at D cl (a, .inr (ci, fs)) H → k < fs.length →
      (∀ (H1 : Heap) (j : Nat), va_at D cl (a, .inr (ci, fs.set k v)) H1 → H1.size = H.size → (∀ q : Nat, q ≠ a → H1[q]? = H[q]?) → W p l e R s m args below meth c H1 (locs ++ [⟨a, j⟩]) cells slots Q (F0 m (pc + 3) ls st)) →
      W p l e R s m args below meth c H locs cells slots Q (F0 m pc ls (v :: .ref a :: st))
theorem ri_pw.step {ci k : Nat} {v : Value} (h : ri_pw LW cl D dT Cq own nme cc nL pc ci k v) {p : Program} {l : Launch} {e : Env} {R : Room} {s : State} {m : MethodId} {args : Array Value} {below : List Frame} {meth : Method} {c : Code} {A : Nat → Prop} {Q : State → Prop} (X : ri_X LW cl Cq Ex D dT own nme cc nL p R s m args meth c A)
    {L : ri_L} {st : List Value} {σ : ri_S} {fr2 : ri_F} {σ2 : ri_S} {H : Heap} {locs : List Loc} {cells slots a : Nat} {ls : Array Slot} (ho : ri_putw ci k (pc, L, v :: .ref a :: st) σ v a st = some (fr2, σ2)) (hI : ri_I D cl dT A s.heap σ H locs) (hL : ri_Lo ls nL L)
    (kk : ∀ (H2 : Heap) (locs2 : List Loc) (ls2 : Array Slot), ri_I D cl dT A s.heap σ2 H2 locs2 → ri_Lo ls2 nL fr2.2.1 → W p l e R s m args below meth c H2 locs2 (cells + (σ2.2 - σ.2)) (slots + 2000 * (σ2.2 - σ.2)) Q (F0 m fr2.1 ls2 fr2.2.2)) :
    σ.2 ≤ σ2.2 ∧ W p l e R s m args below meth c H locs cells slots Q (F0 m pc ls (v :: .ref a :: st)) := by
  unfold ri_putw at ho
  split at ho
  · rename_i c2 fs hg
    split at ho
    · rename_i hb2
      obtain rfl := Nat.eq_of_beq_eq_true hb2
      split at ho
      · rename_i v2 hv
        cases ho
        refine ⟨Nat.le_refl _, h p l e R s m args below meth c Q X.1 X.2.2.1 X.2.2.2.2.1 fs a st H locs cells slots ls (hI.1.1 a _ hg).1 (List.getElem?_eq_some_iff.mp hv).1 fun H1 j g1 g2 g3 => ?_⟩
        have h1 := kk H1 (locs ++ [⟨a, j⟩]) ls (hI.put (e := .inr (.inr (c2, fs.set k v))) hg g1 g2 g3) hL
        rwa [Nat.sub_self, Nat.mul_zero, Nat.add_zero, Nat.add_zero] at h1
      · cases ho
    · cases ho
  · cases ho
theorem rh_puti {ci k : Nat} (h : ∀ x : Int32, ri_pw LW cl D dT Cq own nme cc nL pc ci k (.int x)) : ri_ok LW cl Cq Ex D dT own nme cc nL pc (ri_puti ci k) := by
  intro p l e R s m args below meth c A Q X L st σ fr2 σ2 H locs cells slots ls ho hI hL hc2 hs2 kk
  unfold ri_puti at ho
  split at ho
  · rename_i x a st2 he
    obtain rfl : st = _ := he
    exact (h x).step X ho hI hL kk
  · cases ho
theorem rh_putr {ci k : Nat} (h : ∀ x : Nat, ri_pw LW cl D dT Cq own nme cc nL pc ci k (.ref x)) : ri_ok LW cl Cq Ex D dT own nme cc nL pc (ri_putr ci k) := by
  intro p l e R s m args below meth c A Q X L st σ fr2 σ2 H locs cells slots ls ho hI hL hc2 hs2 kk
  unfold ri_putr at ho
  split at ho
  · rename_i x a st2 he
    obtain rfl : st = _ := he
    exact (h x).step X ho hI hL kk
  · cases ho
theorem ri_at_set {C : String} {T : u_T} {N ci k a : Nat} {v : Value} {fs : List Value} {H1 : Heap} {cell : Cell} (hc : cl[ci]? = some (C, T, N)) (hap : ∀ x y, x < N → y < N → x ≠ y → (D.2 ci) x ≠ (D.2 ci) y) (hk : k < N) (q2 : cell.cls = D.1 ci) (q3 : cell.vm = .none) (q4 : ∀ j, j < N → cell.slots[(D.2 ci) j]? = some (vp_V fs j)) (hl : k < fs.length) (e1 : H1[a]? = some (cell.setSlot ((D.2 ci) k) v)) : va_at D cl (a, .inr (ci, fs.set k v)) H1 :=
  ⟨(C, T, N), hc, t_OB.to (V := updV (vp_V fs) k v) ⟨_, e1, q2, q3, t_set q4 hap hk v⟩ (fun j _ => vp_updV_set hl v j)⟩
theorem rp_plain {C : String} {T : u_T} {N ci index : Nat} (hin : ∀ w ∈ u_ws C T N, w ∈ LW) (ty0 : Nat → FieldType) (hty : ∀ k, k < N → parseFieldDescriptor (T k).2.2.1 = some (ty0 k)) (hnm : ∀ a, a < N → ∀ b, b < N → a ≠ b → (T a).2.1 ≠ (T b).2.1) (hc : cl[ci]? = some (C, T, N)) (k : Nat) (hk : k < N) (hw : Cond.fieldLink own index (T k).1 (T k).2.1 (T k).2.2.1 ∈ LW)
    (hfin : (T k).2.2.2 = false ∨ ((T k).2.2.2 = true ∧ nme = "<init>" ∧ (T k).1 = own)) {v : Value} (hn : narrow (ty0 k) v = v) (hfit : fits (ty0 k) v = true) (hd : decode cc pc = .ok (.putfield index, 3)) : ri_pw LW cl D dT Cq own nme cc nL pc ci k v := by
  intro p l e R s m args below meth c Q S hK hname fs a st H locs cells slots ls hat hl kk
  obtain ⟨hx, hb, hml, hown, hts⟩ := S
  have hap := va_apart (own := own) hts hin ty0 hty hnm hK hc
  obtain ⟨r, h1, cell, q1, q2, q3, q4⟩ := hat
  have hr : r = (C, T, N) := Option.some.inj (h1.symm.trans hc)
  subst hr
  obtain ⟨hS, hfc, kC, hkC, hkind⟩ := hK.1 ci _ hc
  obtain ⟨cf, kf, fi, f, hi, hsl⟩ := hS k hk
  have hlay := hts _ (hin _ (u_in_lay hk))
  unfold u_lay at hlay
  have hst := (u_facts hfc hkC (u_lays hts hin hk) hi).1
  have hlt : f.slot < cell.slots.size := by rw [hsl]; exact k2_hasslot (q4 k hk)
  rcases hfin with hfin | ⟨hfin, hnm2, hdecl⟩
  · rw [if_neg (by rw [hfin]; decide)] at hlay
    have h6 := u_store hfc hkC hkind hlay hi (hty k hk) hn hfit
    refine W.putK hx hb (f := f) ⟨hown, hts _ hw, ⟨_, _, _, hi⟩, hst⟩ (by rw [q2]; exact h6) q1 q3 hlt rfl rfl hd fun H1 e1 e2 e3 => ?_
    rw [hsl] at e1 ⊢
    exact kk H1 _ (ri_at_set hc hap hk q2 q3 q4 hl e1) e2 e3
  · rw [if_pos hfin] at hlay
    have hcf : m.cls = cf := by
      obtain ⟨_, _, c9, _, _, _, -, -, hf9, -, -, -, hown2, -⟩ := Cond.laysFinal_spec hlay
      have e1 : c9 = cf := by have := hi.symm.trans hf9; simp at this; exact this.1.symm
      rw [hdecl] at hown2
      rw [← e1]; exact Option.some.inj (hown.symm.trans hown2)
    have h6 := u_fits hfc hkC hkind (Or.inr hlay) hi (hty k hk) hn hfit
    refine W.putFinK hx hb hown (hts _ hw) hi hst hcf (hname.trans hnm2) (by rw [q2]; exact h6) q1 q3 hlt rfl rfl hd fun H1 e1 e2 e3 => ?_
    rw [hsl] at e1 ⊢
    exact kk H1 _ (ri_at_set hc hap hk q2 q3 q4 hl e1) e2 e3
theorem rp_nest {C host : String} {T : u_T} {N ci index : Nat} (hin : ∀ w ∈ u_ws C T N, w ∈ LW) (ty0 : Nat → FieldType) (hty : ∀ k, k < N → parseFieldDescriptor (T k).2.2.1 = some (ty0 k)) (hnm : ∀ a, a < N → ∀ b, b < N → a ≠ b → (T a).2.1 ≠ (T b).2.1) (hc : cl[ci]? = some (C, T, N)) (k : Nat) (hk : k < N) (hw : Cond.fieldLinkNest own index (T k).1 (T k).2.1 (T k).2.2.1 host ∈ LW)
    (hfin : (T k).2.2.2 = false) {v : Value} (hn : narrow (ty0 k) v = v) (hfit : fits (ty0 k) v = true) (hd : decode cc pc = .ok (.putfield index, 3)) : ri_pw LW cl D dT Cq own nme cc nL pc ci k v := by
  intro p l e R s m args below meth c Q S hK hname fs a st H locs cells slots ls hat hl kk
  obtain ⟨hx, hb, hml, hown, hts⟩ := S
  have hap := va_apart (own := own) hts hin ty0 hty hnm hK hc
  obtain ⟨r, h1, cell, q1, q2, q3, q4⟩ := hat
  have hr : r = (C, T, N) := Option.some.inj (h1.symm.trans hc)
  subst hr
  obtain ⟨hS, hfc, kC, hkC, hkind⟩ := hK.1 ci _ hc
  obtain ⟨cf, kf, fi, f, hi, hsl⟩ := hS k hk
  have hlay := hts _ (hin _ (u_in_lay hk))
  unfold u_lay at hlay
  have hst := (u_facts hfc hkC (u_lays hts hin hk) hi).1
  have hlt : f.slot < cell.slots.size := by rw [hsl]; exact k2_hasslot (q4 k hk)
  rw [if_neg (by rw [hfin]; decide)] at hlay
  have h6 := u_store hfc hkC hkind hlay hi (hty k hk) hn hfit
  refine va_WputK hx hb (f := f) hown (hts _ hw) hi hst (by rw [q2]; exact h6) q1 q3 hlt rfl rfl hd fun H1 e1 e2 e3 => ?_
  rw [hsl] at e1 ⊢
  exact kk H1 _ (ri_at_set hc hap hk q2 q3 q4 hl e1) e2 e3
theorem rh_alen (hd : decode cc pc = .ok (.arraylength, 1)) : ri_ok LW cl Cq Ex D dT own nme cc nL pc ri_alen := by
  intro p l e R s m args below meth c A Q X L st σ fr2 σ2 H locs cells slots ls ho hI hL hc2 hs2 kk
  obtain ⟨⟨hx, hb, hml, hown, hts⟩, hR, hK, hA, -, -⟩ := X
  unfold ri_alen at ho
  split at ho
  · rename_i a st2 he
    obtain rfl : st = _ := he
    split at ho
    · rename_i n f hg
      cases ho
      refine ⟨Nat.le_refl _, va_alen (D := D) hx hb hK (ri_P1 (hI.1.1 a _ hg).1) 0 0 rfl rfl rfl hd ?_⟩
      have h1 := kk H locs ls hI hL
      rwa [Nat.sub_self, Nat.mul_zero, Nat.add_zero, Nat.add_zero] at h1
    · rename_i n f hg
      cases ho
      refine ⟨Nat.le_refl _, va_alen (D := D) hx hb hK (ri_P1 (hI.1.1 a _ hg).1) 0 2 rfl rfl rfl hd ?_⟩
      have h1 := kk H locs ls hI hL
      rwa [Nat.sub_self, Nat.mul_zero, Nat.add_zero, Nat.add_zero] at h1
    · cases ho
  · cases ho
theorem rh_iald (hd : decode cc pc = .ok (.iaload, 1)) : ri_ok LW cl Cq Ex D dT own nme cc nL pc ri_iald := by
  intro p l e R s m args below meth c A Q X L st σ fr2 σ2 H locs cells slots ls ho hI hL hc2 hs2 kk
  obtain ⟨⟨hx, hb, hml, hown, hts⟩, hR, hK, hA, -, -⟩ := X
  unfold ri_iald at ho
  split at ho
  · rename_i i a st2 he
    obtain rfl : st = _ := he
    split at ho
    · rename_i n f hg
      split at ho
      · rename_i j hj
        obtain ⟨h1, rfl⟩ := ri_ix_in hj
        cases ho
        refine ⟨Nat.le_refl _, va_iald (D := D) hx hb hK (ri_P1 (hI.1.1 a _ hg).1) 0 0 rfl rfl h1 hd ?_⟩
        have h1 := kk H locs ls hI hL
        rwa [Nat.sub_self, Nat.mul_zero, Nat.add_zero, Nat.add_zero] at h1
      · cases ho
    · cases ho
  · cases ho
theorem rh_aald (hd : decode cc pc = .ok (.aaload, 1)) : ri_ok LW cl Cq Ex D dT own nme cc nL pc ri_aald := by
  intro p l e R s m args below meth c A Q X L st σ fr2 σ2 H locs cells slots ls ho hI hL hc2 hs2 kk
  obtain ⟨⟨hx, hb, hml, hown, hts⟩, hR, hK, hA, -, -⟩ := X
  unfold ri_aald at ho
  split at ho
  · rename_i i a st2 he
    obtain rfl : st = _ := he
    split at ho
    · rename_i n f hg
      split at ho
      · rename_i j hj
        obtain ⟨h1, rfl⟩ := ri_ix_in hj
        split at ho
        · rename_i hf
          cases ho
          refine ⟨Nat.le_refl _, va_aldq (D := D) hx hb hK (ri_P1 (hI.1.1 a _ hg).1) 0 2 rfl rfl h1 hd ?_⟩
          have h1 := kk H locs ls hI hL
          rw [hf]
          rwa [Nat.sub_self, Nat.mul_zero, Nat.add_zero, Nat.add_zero] at h1
        · rename_i b hf
          cases ho
          refine ⟨Nat.le_refl _, va_aldq (D := D) hx hb hK (ri_P1 (hI.1.1 a _ hg).1) 0 2 rfl rfl h1 hd ?_⟩
          have h1 := kk H locs ls hI hL
          rw [hf]
          rwa [Nat.sub_self, Nat.mul_zero, Nat.add_zero, Nat.add_zero] at h1
      · cases ho
    · cases ho
  · cases ho
theorem rh_iast (hd : decode cc pc = .ok (.iastore, 1)) : ri_ok LW cl Cq Ex D dT own nme cc nL pc ri_iast := by
  intro p l e R s m args below meth c A Q X L st σ fr2 σ2 H locs cells slots ls ho hI hL hc2 hs2 kk
  obtain ⟨⟨hx, hb, hml, hown, hts⟩, hR, hK, hA, -, -⟩ := X
  unfold ri_iast at ho
  split at ho
  · rename_i x i a st2 he
    obtain rfl : st = _ := he
    split at ho
    · rename_i n f hg
      split at ho
      · rename_i j hj
        obtain ⟨h1, rfl⟩ := ri_ix_in hj
        cases ho
        refine ⟨Nat.le_refl _, W.iast hx hb (hI.1.1 a _ hg).1 ((hK.2 0 _ rfl).1 n (fun j => .int (f j))) (fun q => by cases q) (by show ¬ (i < 0 ∨ (arrV _ _ _).slots.size ≤ _); rw [arrV_size]; exact h1) rfl rfl hd fun H1 e1 z oq => ?_⟩
        have h1 := kk H1 (locs ++ [⟨a, i.toNatClampNeg⟩]) ls (hI.put (e := .inl (0, n, upd f i.toNatClampNeg x)) hg ?_ z oq) hL
        rwa [Nat.sub_self, Nat.mul_zero, Nat.add_zero, Nat.add_zero] at h1
        show H1[a]? = some (vp_cell _ _)
        rw [e1]
        rw [vp_cell_i, vp_cell_i, arrV_store]
        congr 2
        funext q
        by_cases hq : q = i.toNatClampNeg
        · subst hq
          simp [updV, upd]
        · simp [updV, upd, hq]
      · cases ho
    · cases ho
  · cases ho
end RIOH
