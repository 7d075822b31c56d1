/-! The main row: what the reading machine comes to, the machine comes to. -/
def ri_gr (op : ri_Op) : Prop := ∀ (fr : ri_F) (σ : ri_S) (q : ri_F × ri_S), op fr σ = some q → σ.2 ≤ q.2.2
theorem rg_pu (f : ri_F → Option ri_F) : ri_gr (ri_pu f) := by
  intro fr σ q h
  unfold ri_pu at h
  cases hf : f fr with
  | none => rw [hf] at h; cases h
  | some g => rw [hf] at h; cases h; exact Nat.le_refl _
theorem rg_getf (ci k : Nat) : ri_gr (ri_getf ci k) := by
  intro fr σ q h
  unfold ri_getf at h
  repeat' split at h
  all_goals cases h
  all_goals exact Nat.le_refl _
theorem rg_putw {ci k : Nat} {fr : ri_F} {σ : ri_S} {v : Value} {a : Nat} {st : List Value} {q : ri_F × ri_S} (h : ri_putw ci k fr σ v a st = some q) : σ.2 ≤ q.2.2 := by
  unfold ri_putw at h
  repeat' split at h
  all_goals cases h
  all_goals exact Nat.le_refl _
theorem rg_puti (ci k : Nat) : ri_gr (ri_puti ci k) := by
  intro fr σ q h
  unfold ri_puti at h
  split at h
  · exact rg_putw h
  · cases h
theorem rg_putr (ci k : Nat) : ri_gr (ri_putr ci k) := by
  intro fr σ q h
  unfold ri_putr at h
  split at h
  · exact rg_putw h
  · cases h
theorem rg_alen : ri_gr ri_alen := by
  intro fr σ q h
  unfold ri_alen at h
  repeat' split at h
  all_goals cases h
  all_goals exact Nat.le_refl _
theorem rg_iald : ri_gr ri_iald := by
  intro fr σ q h
  unfold ri_iald at h
  repeat' split at h
  all_goals cases h
  all_goals exact Nat.le_refl _
theorem rg_zald : ri_gr ri_zald := by
  intro fr σ q h
  unfold ri_zald at h
  repeat' split at h
  all_goals cases h
  all_goals exact Nat.le_refl _
theorem rg_aald : ri_gr ri_aald := by
  intro fr σ q h
  unfold ri_aald at h
  repeat' split at h
  all_goals cases h
  all_goals exact Nat.le_refl _
theorem rg_iast : ri_gr ri_iast := by
  intro fr σ q h
  unfold ri_iast at h
  repeat' split at h
  all_goals cases h
  all_goals exact Nat.le_refl _
theorem rg_zast : ri_gr ri_zast := by
  intro fr σ q h
  unfold ri_zast at h
  repeat' split at h
  all_goals cases h
  all_goals exact Nat.le_refl _
theorem rg_aast (ci : Nat) : ri_gr (ri_aast ci) := by
  intro fr σ q h
  unfold ri_aast at h
  repeat' split at h
  all_goals cases h
  all_goals exact Nat.le_refl _
theorem rg_new (ci : Nat) (fs : List Value) : ri_gr (ri_new ci fs) := by
  intro fr σ q h
  unfold ri_new at h
  cases h
  exact Nat.le_succ _
theorem rg_newa (k : Nat) : ri_gr (ri_newa k) := by
  intro fr σ q h
  unfold ri_newa at h
  repeat' split at h
  all_goals cases h
  all_goals exact Nat.le_succ _
theorem rg_newq : ri_gr ri_newq := by
  intro fr σ q h
  unfold ri_newq at h
  repeat' split at h
  all_goals cases h
  all_goals exact Nat.le_succ _
theorem rg_copy : ri_gr ri_copy := by
  intro fr σ q h
  unfold ri_copy at h
  repeat' split at h
  all_goals cases h
  all_goals exact Nat.le_refl _
section RIMAIN
variable {LW : List Cond} {cl : List vw_C} {Cq : String} {Ex : (Nat → Prop) → State → Heap → Prop} {D : va_G} {dT : Nat → ClassId} {P : Nat → Nat → Option ri_C} {N : Nat → MethodName} {B : Nat → ByteArray} {M Hh : Nat → Nat} {Rt : Nat → Option FieldType}
theorem ri_dom_in {A : Nat → Prop} {H0 H : Heap} {σ : ri_S} {locs : List Loc} (hI : ri_I D cl dT A H0 σ H locs) (hA : ∀ q, H0.size ≤ q → A q) : ∀ q, ri_dom σ q → A q := by
  rintro q (⟨e, h⟩ | h)
  · exact (hI.1.1 q e h).2
  · exact hA q (Nat.le_trans (Nat.le_trans hI.2.1 (Nat.le_of_eq hI.1.2)) h)
theorem ri_Hp.dom {A : Nat → Prop} {H : Heap} {σ : ri_S} (h : ri_Hp D cl dT A σ H) : ri_Hp D cl dT (ri_dom σ) σ H := ⟨fun a e ha => ⟨(h.1 a e ha).1, Or.inl ⟨e, ha⟩⟩, h.2⟩
theorem ri_blind (hX : ri_exok Ex) (as : List Value) (σ : ri_S) : FrameBlind (ri_Pc Ex cl Cq D dT as σ) := fun a U g mk h => ⟨h.1, h.2.1, va_K.moved (u := U) (U := U.calling g mk a) (Vm.Alike.refl U.vm) h.2.2.1, hX.2 _ _ _ _ _ h.2.2.2⟩
theorem ri_pre {A : Nat → Prop} {s U : State} {H : Heap} {σ : ri_S} {locs : List Loc} (hX : ri_exok Ex) (hI : ri_I D cl dT A s.heap σ H locs) (hK : va_K D cl (ri_tys dT Cq) s) (hA : ∀ q, s.heap.size ≤ q → A q) (hE : Ex A s s.heap) (as : List Value) (hU : U.heap = H) (hW : s.WarmedH U.vm) : ri_Pc Ex cl Cq D dT as σ as.toArray U :=
  ⟨rfl, by rw [hU]; exact hI.1.dom, va_K.moved hW.alike hK, hX.1 _ _ _ _ _ _ hE hI.2 hW.alike hU (ri_dom_in hI hA)⟩
theorem ri_callrow {p : Program} {l : Launch} {e : Env} {R : Room} {s : State} {m : MethodId} {args a : Array Value} {below : List Frame} {meth : Method} {c : Code} {A : Nat → Prop} {H : Heap} {locs : List Loc} {cells slots mc ms pc : Nat} {ls : Array Slot} {st0 rest : List Value} {σ σ1 : ri_S} {r : Option Value} {Q : State → Prop}
    (hr : va_Run p l e R s m args below meth c H locs cells slots mc ms (F0 m pc ls st0) rest (ri_Qc cl D dT σ r σ1 a) (ri_dom σ)) (hI : ri_I D cl dT A s.heap σ H locs) (hA : ∀ q, s.heap.size ≤ q → A q)
    (kk : ∀ (H1 : Heap) (locs1 : List Loc), ri_I D cl dT A s.heap σ1 H1 locs1 → W p l e R s m args below meth c H1 locs1 (cells + mc) (slots + ms) Q (F0 m (pc + 3) ls (r.toList ++ rest))) : W p l e R s m args below meth c H locs cells slots Q (F0 m pc ls st0) := by
  intro T hT X
  obtain ⟨v, st₀, t, T2, L, h0, X2, hL, e1, e2, ⟨hv, hHp, hz, hk⟩, st⟩ := hr T hT X
  cases hv
  rw [h0] at hz hk
  have hd := ri_dom_in hI hA
  have hS := hI.2
  obtain ⟨t2, a1, b1⟩ := kk T2.heap (locs ++ L) ⟨⟨fun q x hq => by rw [e1]; exact ⟨(hHp.1 q x hq).1, hd q (hHp.1 q x hq).2⟩, by rw [e1]; exact hHp.2⟩, Nat.le_trans hS.1 (by rw [e1]; exact hz), fun q h1 h2 => by rw [e1, hk q (Nat.lt_of_lt_of_le h1 hS.1) (fun z => h2 (hd q z))]; exact hS.2.1 q h1 h2, fun q hq => by
      rcases List.mem_append.mp hq with h | h
      · exact hS.2.2 q h
      · exact hd _ (hL q h)⟩ T2 rfl X2
  exact ⟨t2, st t2 a1, b1⟩
theorem ri_rcv_of {p : Program} {s : State} {A : Nat → Prop} {H0 H : Heap} {σ : ri_S} {locs : List Loc} {rc : Option Nat} {as : List Value} (hK : va_K D cl (ri_tys dT Cq) s) (hI : ri_I D cl dT A H0 σ H locs) (h : ri_rcv rc as σ = true) : ∀ ci, rc = some ci → ∃ (b : Nat) (bs : List Value) (q : vw_C) (cell : Cell), as = .ref b :: bs ∧ cl[ci]? = some q ∧ H[b]? = some cell ∧ cell.vm.isStatics = false ∧ s.vm.findClass q.1 = some cell.cls := by
  intro ci hc
  subst hc
  unfold ri_rcv at h
  simp only at h
  split at h
  · rename_i b bs
    split at h
    · rename_i c2 fs hb
      obtain rfl := Nat.eq_of_beq_eq_true h
      obtain ⟨q, hq, -⟩ := (hI.1.1 b _ hb).1
      obtain ⟨cell, h1, h2, h3⟩ := va_recv hK (ri_P1 (hI.1.1 b _ hb).1) (q0 := 0) hq rfl
      exact ⟨b, bs, q, cell, rfl, hq, h1, h2, h3⟩
    · cases h
  · cases h
def ri_gok (P : Nat → Nat → Option ri_C) : Prop := ∀ (k pc : Nat) (op : ri_Op), P k pc = some (.inl op) → ri_gr op
set_option maxHeartbeats 1000000 in
theorem ri_sound (hX : ri_exok Ex) (hG : ri_gok P) (hM : ∀ k, (∃ pc x, P k pc = some x) → ri_mok LW cl Cq Ex D dT P N B M Rt k) (l : Launch) : ∀ (n k : Nat) (fr : ri_F) (σ : ri_S) (r : Option Value) (σ2 : ri_S), ri_run P M Hh n k fr σ = some (r, σ2) → σ.2 ≤ σ2.2 ∧ ri_body LW cl Cq Ex D dT N B M Hh Rt l k fr σ r σ2 := by
  intro n
  induction n with
  | zero => intro k fr σ r σ2 h; exact absurd h (by simp [ri_run])
  | succ n ih =>
    rintro k ⟨pc, L, st⟩ σ r σ2 h
    rw [ri_run] at h
    cases hx : P k pc with
    | none => simp only [hx, ri_stp] at h; cases h
    | some x =>
      have hme := (hM k ⟨pc, x, hx⟩).2.2 pc x hx
      match x, hx, hme with
      | .inl op, hx, hme =>
        simp only [hx, ri_stp] at h
        cases ho : op (pc, L, st) σ with
        | none => rw [ho] at h; cases h
        | some q =>
          rw [ho] at h
          obtain ⟨i1, i2⟩ := ih k q.1 q.2 r σ2 h
          have g1 := hG k pc op hx _ _ _ ho
          refine ⟨Nat.le_trans g1 i1, ?_⟩
          intro p e R s m args below meth c A Qc X hR hrt hlk H locs cells slots ls hI hL hc hs hfin
          refine (hme p l e R s m args below meth c A _ X L st σ q.1 q.2 H locs cells slots ls ho hI hL (by omega) (by omega) fun H2 locs2 ls2 hI2 hL2 => ?_).2
          have k2 := i2 p e R s m args below meth c A Qc X hR hrt hlk H2 locs2 (cells + (q.2.2 - σ.2)) (slots + 2000 * (q.2.2 - σ.2)) ls2 hI2 hL2 (by omega) (by omega) hfin
          rw [show cells + (q.2.2 - σ.2) + (σ2.2 - q.2.2) = cells + (σ2.2 - σ.2) by omega, show slots + 2000 * (q.2.2 - σ.2) + 2000 * (σ2.2 - q.2.2) = slots + 2000 * (σ2.2 - σ.2) by omega] at k2
          exact k2
      | .inr (.inl (k2, n2, rc)), hx, hme =>
        simp only [hx, ri_stp] at h
        split at h
        · rename_i hcond
          simp only [Bool.and_eq_true] at hcond
          obtain ⟨⟨hfew, hble⟩, hrcv⟩ := hcond
          have hble := Nat.le_of_ble_eq_true hble
          cases hg : (if (Nat.blt (Hh k2) (Hh k) && ri_fit (M k2) (st.take n2).reverse) = true then ri_run P M Hh n k2 (0, ri_ent (M k2) (st.take n2).reverse, []) σ else none) with
          | none => rw [hg] at h; cases h
          | some q =>
            rw [hg] at h
            split at hg
            · rename_i hc2
              simp only [Bool.and_eq_true] at hc2
              obtain ⟨hlt, hfit⟩ := hc2
              have hlt : Hh k2 < Hh k := by simpa [Nat.blt_eq] using hlt
              obtain ⟨i1, i2⟩ := ih k2 _ σ q.1 q.2 hg
              obtain ⟨j1, j2⟩ := ih k _ q.2 r σ2 h
              refine ⟨Nat.le_trans i1 j1, ?_⟩
              have hne : ∃ pc x, P k2 pc = some x := by
                cases n with
                | zero => exact absurd hg (by simp [ri_run])
                | succ n =>
                  rw [ri_run] at hg
                  cases hp : P k2 0 with
                  | none => simp only [hp, ri_stp] at hg; cases hg
                  | some x => exact ⟨0, x, hp⟩
              obtain ⟨m1, m2, -⟩ := hM k2 hne
              have hmet := ri_met_of (Rt := Rt) m1 hfit i1 i2
              intro p e R s m args below meth c A Qc X hR hrt hlk H locs cells slots ls hI hL hc hs hfin
              have hrun := hme p l e R s m args below meth c X.1 _ _ _ _ _ _ hmet rfl rfl (by show Hh k2 + 1 + 1 ≤ _; omega) (by show 8 + (M k2 + 11) + 60 * (Hh k2 + 1) ≤ _; omega) (ri_blind hX _ _)
                (st.take n2).reverse (st.drop n2) H locs cells slots ls (by rw [List.length_reverse, List.length_take]; omega) hL.1 (fun U hU hW => ri_pre hX hI X.2.2.1 X.2.2.2.1 X.2.2.2.2.2 _ hU hW) (ri_rcv_of (p := p) X.2.2.1 hI hrcv) (ri_few_cat hfew) (by omega) (by omega)
              rw [List.reverse_reverse, List.take_append_drop] at hrun
              refine ri_callrow hrun hI X.2.2.2.1 fun H1 locs1 hI1 => ?_
              have k3 := j2 p e R s m args below meth c A Qc X hR hrt hlk H1 locs1 (cells + (q.2.2 - σ.2)) (slots + 2000 * (q.2.2 - σ.2)) ls hI1 hL (by omega) (by omega) hfin
              rw [show cells + (q.2.2 - σ.2) + (σ2.2 - q.2.2) = cells + (σ2.2 - σ.2) by omega, show slots + 2000 * (q.2.2 - σ.2) + 2000 * (σ2.2 - q.2.2) = slots + 2000 * (σ2.2 - σ.2) by omega] at k3
              exact k3
            · cases hg
        · cases h
      | .inr (.inr rk), hx, hme =>
        have h2 : ri_stp (some (.inr (.inr rk))) (pc, L, st) σ (fun fr2 σ2 => ri_run P M Hh n k fr2 σ2) (fun k2 as => if (Nat.blt (Hh k2) (Hh k) && ri_fit (M k2) as) = true then ri_run P M Hh n k2 (0, ri_ent (M k2) as, []) σ else none) = some (r, σ2) := by rw [← hx]; exact h
        match rk, hme, h2 with
        | 0, hme, h2 =>
          simp only [ri_stp] at h2
          split at h2
          · cases h2
            refine ⟨Nat.le_refl _, ?_⟩
            intro p e R s m args below meth c A Qc X hR hrt hlk H locs cells slots ls hI hL hc hs hfin
            rw [Nat.sub_self, Nat.mul_zero, Nat.add_zero, Nat.add_zero]
            exact W.vret X.1.1 X.1.2.1 (hrt.trans hme.2) (fun t ht hW => hfin t locs (by rw [ht]; exact hI) hW) hI.2.2.2 hme.1
          · cases h2
        | 1, hme, h2 =>
          simp only [ri_stp] at h2
          split at h2
          · rename_i v
            cases h2
            refine ⟨Nat.le_refl _, ?_⟩
            intro p e R s m args below meth c A Qc X hR hrt hlk H locs cells slots ls hI hL hc hs hfin
            rw [Nat.sub_self, Nat.mul_zero, Nat.add_zero, Nat.add_zero]
            exact W.iret X.1.1 X.1.2.1 (hrt.trans hme.2) (fun t ht hW => hfin t locs (by rw [ht]; exact hI) hW) hI.2.2.2 hme.1
          · cases h2
        | 2, hme, h2 =>
          simp only [ri_stp] at h2
          split at h2
          · rename_i v
            split at h2
            · rename_i hv
              cases h2
              refine ⟨Nat.le_refl _, ?_⟩
              intro p e R s m args below meth c A Qc X hR hrt hlk H locs cells slots ls hI hL hc hs hfin
              rw [Nat.sub_self, Nat.mul_zero, Nat.add_zero, Nat.add_zero]
              exact W.zret X.1.1 X.1.2.1 (hrt.trans hme.2) (by rcases hv with rfl | rfl <;> rfl) (fun t ht hW => hfin t locs (by rw [ht]; exact hI) hW) hI.2.2.2 hme.1
            · cases h2
          · cases h2
        | 3, hme, h2 =>
          simp only [ri_stp] at h2
          split at h2
          · rename_i v
            cases h2
            refine ⟨Nat.le_refl _, ?_⟩
            intro p e R s m args below meth c A Qc X hR hrt hlk H locs cells slots ls hI hL hc hs hfin
            rw [Nat.sub_self, Nat.mul_zero, Nat.add_zero, Nat.add_zero]
            exact W.lret X.1.1 X.1.2.1 (hrt.trans hme.2) (fun t ht hW => hfin t locs (by rw [ht]; exact hI) hW) hI.2.2.2 hme.1
          · cases h2
        | 4, hme, h2 =>
          obtain ⟨hm1, nn, hm2⟩ := hme
          simp only [ri_stp] at h2
          split at h2
          · rename_i v
            cases h2
            refine ⟨Nat.le_refl _, ?_⟩
            intro p e R s m args below meth c A Qc X hR hrt hlk H locs cells slots ls hI hL hc hs hfin
            rw [Nat.sub_self, Nat.mul_zero, Nat.add_zero, Nat.add_zero]
            exact W.aret X.1.1 X.1.2.1 (hrt.trans hm2) (Or.inl ⟨nn, rfl⟩) (Or.inr ⟨_, rfl⟩) (fun t ht hW => hfin t locs (by rw [ht]; exact hI) hW) hI.2.2.2 hm1
          · cases h2
            refine ⟨Nat.le_refl _, ?_⟩
            intro p e R s m args below meth c A Qc X hR hrt hlk H locs cells slots ls hI hL hc hs hfin
            rw [Nat.sub_self, Nat.mul_zero, Nat.add_zero, Nat.add_zero]
            exact W.aret X.1.1 X.1.2.1 (hrt.trans hm2) (Or.inl ⟨nn, rfl⟩) (Or.inl rfl) (fun t ht hW => hfin t locs (by rw [ht]; exact hI) hW) hI.2.2.2 hm1
          · cases h2
        | n9 + 5, hme, h2 => simp only [ri_stp] at h2; cases h2
/-- a method's contract out of what its picture comes to -/
theorem ri_meets (hX : ri_exok Ex) (hG : ri_gok P) (hM : ∀ k, (∃ pc x, P k pc = some x) → ri_mok LW cl Cq Ex D dT P N B M Rt k) (l : Launch) {k : Nat} {as : List Value} {σ σ2 : ri_S} {r : Option Value} (hfit : ri_fit (M k) as = true) (h : ri_call P M Hh k as σ = some (r, σ2)) : σ.2 ≤ σ2.2 ∧ ri_Met LW cl Cq Ex D dT N B M Hh Rt l k as σ r σ2 := by
  obtain ⟨n, hn⟩ := ri_lim_to h
  obtain ⟨h1, h2⟩ := ri_sound (N := N) (B := B) (Rt := Rt) hX hG hM l n k _ σ r σ2 hn
  have hne : ∃ pc x, P k pc = some x := by
    cases n with
    | zero => exact absurd hn (by simp [ri_run])
    | succ n =>
      rw [ri_run] at hn
      cases hp : P k 0 with
      | none => simp only [hp, ri_stp] at hn; cases hn
      | some x => exact ⟨0, x, hp⟩
  exact ⟨h1, ri_met_of (hM k hne).1 hfit h1 h2⟩
end RIMAIN
