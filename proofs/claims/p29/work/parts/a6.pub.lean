/-! A method of the class that refuses: it runs to where it calls refuse, and what refuse throws leaves it. -/
/-- the stopped run of method k: steps, calls as steps, the end where refuse is called -/
noncomputable def st_S (k : Nat) : Nat → Nat → Option ri_C := fun _ pc => match TT k pc with
  | some (.inl op) => some (.inl op)
  | some (.inr (.inl (k2, n, rc))) => if Nat.beq k2 135 = true then some (.inr (.inr 1)) else some (.inl (rs_call (TT) TM TH (TH k) k2 n rc))
  | _ => none
noncomputable def ev3 (k : Nat) (fr : ri_F) (σ : ri_S) : Option ri_R := ri_ev (st_S k) TM TH k fr σ
theorem st_op {k k9 pc : Nat} {op : ri_Op} (h : st_S k k9 pc = some (.inl op)) : TT k pc = some (.inl op) ∨ ∃ k2 n rc, TT k pc = some (.inr (.inl (k2, n, rc))) ∧ op = rs_call (TT) TM TH (TH k) k2 n rc := by
  unfold st_S at h
  split at h
  · rename_i op2 e
    cases h
    exact Or.inl e
  · rename_i k2 n rc e
    split at h
    · cases h
    · cases h
      exact Or.inr ⟨k2, n, rc, e, rfl⟩
  · cases h
theorem st_no {k k9 pc : Nat} {q : Nat × Nat × Option Nat} : st_S k k9 pc ≠ some (.inr (.inl q)) := by
  intro h
  unfold st_S at h
  split at h
  · cases h
  · split at h <;> cases h
  · cases h
theorem st_end {k k9 pc rk : Nat} (h : st_S k k9 pc = some (.inr (.inr rk))) : rk = 1 ∧ ∃ n rc, TT k pc = some (.inr (.inl (135, n, rc))) := by
  unfold st_S at h
  split at h
  · cases h
  · rename_i k2 n rc e
    split at h
    · rename_i e2
      cases h
      rw [Nat.eq_of_beq_eq_true e2] at e
      exact ⟨rfl, n, rc, e⟩
    · cases h
  · cases h
def nx_chk (k : Nat) : Bool := (TLs k).all fun q => match q.2 with | .inr (.inl (k2, _, _)) => (!Nat.beq k2 135) || decide (decode (TB k) q.1 = .ok (.invokestatic 51, 3)) | _ => true
theorem nx_chk_all : ∀ k, k < 230 → nx_chk k = true := by decide +kernel
theorem nx_stop {k pc n : Nat} {rc : Option Nat} (hk : 109 ≤ k) (h : TT k pc = some (.inr (.inl (135, n, rc)))) : decode (TB k) pc = .ok (.invokestatic 51, 3) := by
  have hk2 := rx_k h
  have h1 := rf_mem2 _ h
  have h3 := List.all_eq_true.mp (nx_chk_all k hk2) _ h1
  simp only [Bool.or_eq_true, Bool.not_eq_true', decide_eq_true_eq] at h3
  rcases h3 with h3 | h3
  · exact absurd h3 (by decide)
  · exact h3
section NXP
variable {Km : Nat → Nat} {b0 L0 : Nat} {xs0 : Nat → Int32} {D : va_G} {dT : Nat → ClassId}
/-- what a throw leaves of a picture -/
def nx_XQ (D : va_G) (dT : Nat → ClassId) (f : Nat) (σ σ2 : ri_S) : String → State → State → Prop := fun E st t =>
  E = nx_c f ∧ σ2.2 ≤ t.heap.size ∧ ri_Hp D vwCl dT (ri_dom σ) (σ2.1, t.heap.size) t.heap ∧ va_F (ri_dom σ) st t
def nx_rm (k : Nat) (σ σ2 : ri_S) : Room := { frames := TH k + 8, cells := σ2.2 - σ.2 + 1, slots := 2000 * (σ2.2 - σ.2) + 6, locals := 60 * (TH k + 1) + 200 }
theorem nx_pub {l : Launch} (hl : l.stackTraces = false) {k f : Nat} (hk : 109 ≤ k) (hown : (TN k).cls = "LilyWheels") (hf : 1 ≤ f ∧ f ≤ 3) {as : List Value} {σ σ2 : ri_S} (hfit : ri_fit (TM k) as = true) (h : ev3 k (0, ri_ent (TM k) as, []) σ = some (some (.int (Int32.ofNat f)), σ2)) :
    σ.2 ≤ σ2.2 ∧ vx_Met l (TN k) (Cond.code (TN k) (TB k) (TM k) (TR k) :: ri_LW) (nx_rm k σ σ2) (ri_Pc (nv_E Km b0 L0 xs0) vwCl RX3 D dT as σ) (fun _ _ _ _ => False) (nx_XQ D dT f σ σ2) (σ2.2 - σ.2 + 1) (2000 * (σ2.2 - σ.2) + 6) (ri_dom σ) := by
  have hX := nv_exok Km b0 L0 xs0
  have hG : ri_gok (TT) := rx_gok (nv_E Km b0 L0 xs0) D dT
  have hM := rx_mok (Ex := nv_E Km b0 L0 xs0) (D := D) (dT := dT)
  obtain ⟨n0, hn0⟩ := ri_lim_to h
  have hkk : k < 230 := by
    cases n0 with
    | zero => exact absurd hn0 (by simp [ri_run])
    | succ n0 =>
      rw [ri_run] at hn0
      cases hp : TT k 0 with
      | none => 
        have e : st_S k k 0 = none := by unfold st_S; rw [hp]
        rw [e] at hn0
        simp only [ri_stp] at hn0
        cases hn0
      | some x => exact rx_k hp
  have hhd : plainName (TN k).cls = true ∧ TM k ≤ 40 := ⟨(by rw [hown]; decide +kernel), (rx_head k hkk).2⟩
  obtain ⟨fr2, rk, i1, i2, i3, i4⟩ := rs_sound (N := TN) (B := TB) (M := TM) (h := TH k) (k := k) (LW := ri_LW) (cl := vwCl) (Cq := RX3) (Ex := nv_E Km b0 L0 xs0) (D := D) (dT := dT) (S := st_S k)
    (fun pc op ho => by
      rcases st_op ho with ho2 | ⟨k2, n, rc, ho2, rfl⟩
      · exact (hM k ⟨pc, _, ho2⟩).2.2 pc _ ho2
      · exact rs_call_ok hX hG hM hhd.2 ((hM k ⟨pc, _, ho2⟩).2.2 pc _ ho2))
    (fun pc q => st_no)
    (fun pc op ho => by
      rcases st_op ho with ho2 | ⟨k2, n, rc, ho2, rfl⟩
      · exact hG k pc op ho2
      · exact rs_call_gr hX hG hM l) l n0 _ σ _ σ2 hn0
  refine ⟨i3, ?_⟩
  obtain ⟨rfl, nn, rcc, i1⟩ := st_end i1
  have hdec := nx_stop hk i1
  have hst : fr2.2.2 = [.int (Int32.ofNat f)] := by
    simp only [ri_stp] at i2
    split at i2
    · rename_i v e
      simp only [Option.some.injEq, Prod.mk.injEq, Value.int.injEq, and_true] at i2
      rw [e, i2]
    · cases i2
  refine vx_ofW (cc := TB k) (maxL := TM k) (ret := TR k) hhd.1 rfl ?_
  intro p e s m args below meth c s₁ Bd hml hne hv
  obtain ⟨rfl, hHp, hK, hEx⟩ := hv
  have hts0 := atoms_spec (ws := Cond.code (TN k) (TB k) (TM k) (TR k) :: ri_LW) Bd.pre
  have hts : ∀ w ∈ ri_LW, w.before as.toArray s = true := fun w h => hts0 w (List.mem_cons_of_mem _ h)
  have hownm : s.vm.findClass (TN k).cls = some m.cls := findClass_of_methodNamed Bd.named
  have hnme : meth.name = (TN k).name := (name_of_methodNamed Bd.named Bd.method).1
  have hout : ∀ pc, ∀ x ∈ c.exceptionTable.toList, covers x pc = false := fun pc x hx => (hne x hx).elim
  rw [lg_entry_eq]
  have hle := lv_entry as (n := TM k) (ri_fit_len _ _ hfit)
  generalize (lg_sl as ++ List.replicate (TM k - (lg_sl as).length) Slot.unset).toArray = ls at hle ⊢
  have hCF : CallFix p m c (TB k) (TM k) s as.toArray ri_LW (TN k).cls := ⟨Bd.exec, Bd.bytes, hml, hownm, hts⟩
  have hXX : ri_X ri_LW vwCl RX3 (nv_E Km b0 L0 xs0) D dT (TN k).cls (TN k).name (TB k) (TM k) p (nx_rm k σ σ2) s m as.toArray meth c (ri_dom σ) := ⟨hCF, ⟨by show 1 ≤ TH k + 8; omega, by show 60 ≤ 60 * (TH k + 1) + 200; omega⟩, hK, fun q hq => Or.inr (by rw [← hHp.2]; exact hq), hnme, hEx⟩
  refine i4 p e (nx_rm k σ σ2) s m as.toArray below meth c (ri_dom σ) _ hXX ⟨by show TH k + 1 ≤ TH k + 8; omega, by show 60 * (TH k + 1) ≤ 60 * (TH k + 1) + 200; omega⟩ s.heap [] 0 0 ls ⟨hHp, va_S.rf⟩ ⟨hle.1, hle.2.1, fun i v hg => by
      have h9 := ri_ent_Lo as (TM k) 0 ls hle.2.2 i v hg
      rwa [Nat.zero_add] at h9⟩ (by show 0 + _ ≤ σ2.2 - σ.2 + 1; omega) (by show 0 + _ ≤ 2000 * (σ2.2 - σ.2) + 6; omega) fun H2 locs2 ls2 hI2 hL2 => ?_
  rw [hst]
  have hown2 : s.vm.findClass "LilyWheels" = some m.cls := by rw [← hown]; exact hownm
  have hCF2 : CallFix p m c (TB k) (TM k) s as.toArray ri_LW "LilyWheels" := ⟨Bd.exec, Bd.bytes, hml, hown2, hts⟩
  have h5 : ri_named (TN 135) 1 := ⟨⟨by decide +kernel, by decide +kernel⟩, by decide +kernel⟩
  have hrun := vx_runS (m := m) (rest := []) (As := [.int (Int32.ofNat f)]) (H := H2) (locs := locs2) (cells := 0 + (σ2.2 - σ.2)) (slots := 0 + 2000 * (σ2.2 - σ.2)) (g := F0 m fr2.1 ls2 [.int (Int32.ofNat f)]) (own := "LilyWheels") (index := 51) (n := 1)
    (R := nx_rm k σ σ2) (e := e) (below := below) (meth := meth)
    hCF2 (nx_refuse (Km := Km) (b0 := b0) (L0 := L0) (xs0 := xs0) hl hf) ⟨⟨rfl, rfl, by show 6 + 1 ≤ TH k + 8; omega, by show 8 + (1 + 11) + 100 ≤ 60 * (TH k + 1) + 200; omega, ri_pays ri_LWok hts (show (Cond.code (TN 135) (TB 135) (TM 135) (TR 135)) ∈ ri_LW from List.mem_filter.mpr ⟨by decide +kernel, by decide +kernel⟩), List.mem_cons_self, hts _ (show (Cond.code (TN 135) (TB 135) (TM 135) (TR 135)) ∈ ri_LW from List.mem_filter.mpr ⟨by decide +kernel, by decide +kernel⟩), hts _ (show (Jvm.Cond.initialized "LilyWheels") ∈ ri_LW from List.mem_filter.mpr ⟨by decide +kernel, by decide +kernel⟩), h5.1, ri_np h5, hts _ (show (Jvm.Cond.methodLink "LilyWheels" (51 : Nat) ({ cls := "LilyWheels", name := "refuse", desc := "(I)V" } : Jvm.MethodName)) ∈ ri_LW from List.mem_filter.mpr ⟨by decide +kernel, by decide +kernel⟩)⟩, hts _ (show (Jvm.Cond.static ({ cls := "LilyWheels", name := "refuse", desc := "(I)V" } : Jvm.MethodName)) ∈ ri_LW from List.mem_filter.mpr ⟨by decide +kernel, by decide +kernel⟩)⟩
    ⟨fun a U g mk h => ⟨h.1, hX.2 _ _ _ _ _ h.2⟩, fun U hU hW => ⟨rfl, hX.1 _ _ _ _ _ _ hEx hI2.2 hW hU (fun _ h => h.elim)⟩⟩ rfl rfl hL2.1 rfl (by show 2 * 0 + 0 ≤ 8; omega) hdec ⟨by show 0 + (σ2.2 - σ.2) + 1 ≤ σ2.2 - σ.2 + 1; omega, by show 0 + 2000 * (σ2.2 - σ.2) + 6 ≤ 2000 * (σ2.2 - σ.2) + 6; omega⟩
  intro T hT X
  rcases hrun T hT X with ⟨v, st₀, t, T', L, h0, X', hL, e1, e2, hv, st⟩ | ⟨q, st₀, t, T', L, E, ce, h0, X', hL, e1, e2, ⟨hE1, hz, hk2⟩, hce, hcv, hcl, st⟩
  · exact hv.elim
  · have hL0 : L = [] := by
      cases L with
      | nil => rfl
      | cons q L => exact (hL q List.mem_cons_self).elim
    subst hL0
    rw [List.append_nil] at X'
    rw [h0] at hz hk2
    have hHp2 : ri_Hp D vwCl dT (ri_dom σ) (σ2.1, T'.heap.size) T'.heap := ⟨fun a x ha => ⟨va_at.kept (hI2.1.1 a x ha).1 (by rw [e1]; exact hk2 a (va_at.lt (hI2.1.1 a x ha).1)), (hI2.1.1 a x ha).2⟩, rfl⟩
    have hF : s.heap.size ≤ T'.heap.size ∧ ∀ q : Nat, q < s.heap.size → ¬ ri_dom σ q → T'.heap[q]? = s.heap[q]? := ⟨Nat.le_trans hI2.2.1 (by rw [e1]; exact hz), fun q h1 h2 => by rw [e1, hk2 q (Nat.lt_of_lt_of_le h1 hI2.2.1)]; exact hI2.2.2.1 q h1 h2⟩
    obtain ⟨t2, a1, b1⟩ := vx_out (Qc := fun _ _ _ _ => False) (XC := nx_XQ D dT f σ σ2) (free := ri_dom σ) (mc := σ2.2 - σ.2 + 1) (ms := 2000 * (σ2.2 - σ.2) + 6) (pc := fr2.1) (ls := ls2) (rest := []) (E := E) (H := T'.heap) (cells := 0 + (σ2.2 - σ.2) + 1) (slots := 0 + 2000 * (σ2.2 - σ.2) + 6)
      (hout _) Bd.notSynchronized (by rw [e1]; exact hce) hcv hcl (fun t ht _ => ⟨hE1, by rw [ht, ← hI2.1.2, e1]; exact hz, by rw [ht]; exact hHp2, by unfold va_F; rw [ht]; exact hF⟩) (fun z hz => hI2.2.2.2 z hz) (by omega) (by omega) T' rfl X'
    exact ⟨t2, st.trans a1, b1⟩
end NXP
