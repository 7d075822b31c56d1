/-! A wrapper of the law: its call of the class, what it returns, what it catches. -/
def wr_ct (f : Nat) : Nat := ([0, 13, 16, 19] : List Nat).getD f 0
def wr_cc (f : Nat) : Nat := ([0, 15, 18, 21] : List Nat).getD f 0
theorem wr_f {f : Nat} (hf : 1 ≤ f ∧ f ≤ 3) {Q : Nat → Prop} (h1 : Q 1) (h2 : Q 2) (h3 : Q 3) : Q f := by
  rcases (by omega : f = 1 ∨ f = 2 ∨ f = 3) with rfl | rfl | rfl
  · exact h1
  · exact h2
  · exact h3
theorem wr_cl {f : Nat} (hf : 1 ≤ f ∧ f ≤ 3) : Cond.classLink "LilyWheelsLaw" (wr_ct f) (nx_c f) ∈ ri_LW :=
  wr_f (Q := fun f => Cond.classLink "LilyWheelsLaw" (wr_ct f) (nx_c f) ∈ ri_LW) hf (List.mem_filter.mpr ⟨(by decide +kernel : Cond.classLink "LilyWheelsLaw" 13 "java/lang/IndexOutOfBoundsException" ∈ lw_tbl), by decide +kernel⟩) (List.mem_filter.mpr ⟨(by decide +kernel : Cond.classLink "LilyWheelsLaw" 16 "java/lang/IllegalArgumentException" ∈ lw_tbl), by decide +kernel⟩) (List.mem_filter.mpr ⟨(by decide +kernel : Cond.classLink "LilyWheelsLaw" 19 "java/lang/IllegalStateException" ∈ lw_tbl), by decide +kernel⟩)
theorem wr_cn {f : Nat} (hf : 1 ≤ f ∧ f ≤ 3) : Cond.constant "LilyWheelsLaw" (wr_cc f) (Int32.ofInt (nz f)) ∈ ri_LW :=
  wr_f (Q := fun f => Cond.constant "LilyWheelsLaw" (wr_cc f) (Int32.ofInt (nz f)) ∈ ri_LW) hf (List.mem_filter.mpr ⟨(by decide +kernel : Cond.constant "LilyWheelsLaw" 15 (Int32.ofInt (-9999001)) ∈ lw_tbl), by decide +kernel⟩) (List.mem_filter.mpr ⟨(by decide +kernel : Cond.constant "LilyWheelsLaw" 18 (Int32.ofInt (-9999002)) ∈ lw_tbl), by decide +kernel⟩) (List.mem_filter.mpr ⟨(by decide +kernel : Cond.constant "LilyWheelsLaw" 21 (Int32.ofInt (-9999003)) ∈ lw_tbl), by decide +kernel⟩)
theorem wr_cs {f : Nat} (hf : 1 ≤ f ∧ f ≤ 3) : Cond.castable (nx_c f) (nx_c f) ∈ lw_tbl :=
  wr_f (Q := fun f => Cond.castable (nx_c f) (nx_c f) ∈ lw_tbl) hf (by decide +kernel : Cond.castable "java/lang/IndexOutOfBoundsException" "java/lang/IndexOutOfBoundsException" ∈ lw_tbl) (by decide +kernel : Cond.castable "java/lang/IllegalArgumentException" "java/lang/IllegalArgumentException" ∈ lw_tbl) (by decide +kernel : Cond.castable "java/lang/IllegalStateException" "java/lang/IllegalStateException" ∈ lw_tbl)
section WRP
variable {p : Program} {l : Launch} {e : Env} {R : Room} {s : State} {m : MethodId} {args a : Array Value} {below : List Frame} {meth : Method} {c : Code} {A : Nat → Prop} {H : Heap} {locs : List Loc} {cells slots mc ms pc : Nat} {ls : Array Slot} {st0 rest : List Value} {σ σ1 : ri_S} {Q : State → Prop} {D : va_G} {dT : Nat → ClassId}
theorem wr_row {r : Option Value} (hr : va_Run p l e R s m args below meth c H locs cells slots mc ms (F0 m pc ls st0) rest (ri_Qc vwCl D dT σ r σ1 a) (ri_dom σ)) (hI : ri_I D vwCl dT A s.heap σ H locs) (hA : ∀ q, s.heap.size ≤ q → A q)
    (kk : ∀ (H1 : Heap) (locs1 : List Loc), ri_I D vwCl dT A s.heap σ1 H1 locs1 → (∀ q : Nat, q < H.size → ¬ ri_dom σ q → H1[q]? = H[q]?) → W p l e R s m args below meth c H1 locs1 (cells + mc) (slots + ms) Q (F0 m (pc + 3) ls (r.toList ++ rest))) : W p l e R s m args below meth c H locs cells slots Q (F0 m pc ls st0) := by
  intro T hT X
  obtain ⟨v, st₀, t, T2, L, h0, X2, hL, e1, e2, ⟨hv, hHp, hz, hk⟩, st⟩ := hr T hT X
  cases hv
  rw [h0] at hz hk
  have hd := ri_dom_in hI hA
  have hS := hI.2
  obtain ⟨t2, a1, b1⟩ := kk T2.heap (locs ++ L) ⟨⟨fun q x hq => by rw [e1]; exact ⟨(hHp.1 q x hq).1, hd q (hHp.1 q x hq).2⟩, by rw [e1]; exact hHp.2⟩, Nat.le_trans hS.1 (by rw [e1]; exact hz), fun q h1 h2 => by rw [e1, hk q (Nat.lt_of_lt_of_le h1 hS.1) (fun z => h2 (hd q z))]; exact hS.2.1 q h1 h2, fun q hq => by
      rcases List.mem_append.mp hq with h | h
      · exact hS.2.2 q h
      · exact hd _ (hL q h)⟩ (fun q h1 h2 => by rw [e1]; exact hk q h1 h2) T2 rfl X2
  exact ⟨t2, st t2 a1, b1⟩
theorem wr_rowx {f : Nat} (hr : vx_Run p l e R s m args below meth c H locs cells slots mc ms (F0 m pc ls st0) rest (fun _ _ _ => False) (nx_XQ D dT f σ σ1) (ri_dom σ)) (hI : ri_I D vwCl dT A s.heap σ H locs) (hA : ∀ q, s.heap.size ≤ q → A q)
    (kx : ∀ (q9 : Addr) (ce : Cell) (H1 : Heap) (locs1 : List Loc), ri_I D vwCl dT A s.heap (σ1.1, H1.size) H1 locs1 → σ1.2 ≤ H1.size → H1[q9]? = some ce → ce.vm = .none → s.vm.findClass (nx_c f) = some ce.cls → vx_W p l e R s m args below meth c H1 locs1 (cells + mc) (slots + ms) Q (F0 m pc ls rest) q9) : W p l e R s m args below meth c H locs cells slots Q (F0 m pc ls st0) := by
  intro T hT X
  rcases hr T hT X with ⟨v, st₀, t, T', L, h0, X', hL, e1, e2, hv, st⟩ | ⟨q, st₀, t, T2, L, E, ce, h0, X2, hL, e1, e2, ⟨hE, hz2, hHp, hz, hk⟩, hce, hcv, hcl, st⟩
  · exact hv.elim
  · subst hE
    rw [h0] at hz hk
    have hd := ri_dom_in hI hA
    have hS := hI.2
    obtain ⟨t2, a1, b1⟩ := kx q ce T2.heap (locs ++ L) ⟨⟨fun q x hq => by rw [e1]; exact ⟨(hHp.1 q x hq).1, hd q (hHp.1 q x hq).2⟩, rfl⟩, Nat.le_trans hS.1 (by rw [e1]; exact hz), fun q h1 h2 => by rw [e1, hk q (Nat.lt_of_lt_of_le h1 hS.1) (fun z => h2 (hd q z))]; exact hS.2.1 q h1 h2, fun q hq => by
        rcases List.mem_append.mp hq with h | h
        · exact hS.2.2 q h
        · exact hd _ (hL q h)⟩ (by rw [e1]; exact hz2) (by rw [e1]; exact hce) hcv hcl T2 rfl X2
    exact ⟨t2, st.trans a1, b1⟩
end WRP
/-- how a wrapper catches fault f -/
def wr_H (cc : ByteArray) (nL pc : Nat) (hh : List (Nat × Nat × Nat × Nat)) (f : Nat) : Prop := ∃ (pre suf : List (Nat × Nat × Nat × Nat)) (st en hp i hp2 : Nat), hh = pre ++ (st, en, hp, wr_ct f) :: suf ∧ (∀ z ∈ pre, ∃ f2, (1 ≤ f2 ∧ f2 ≤ 3) ∧ f ≠ f2 ∧ z.2.2.2 = wr_ct f2) ∧ covers (⟨st, en, hp, wr_ct f⟩ : ExceptionTableEntry) pc = true ∧
  ((∃ kf : Fin 4, decode cc hp = .ok (.astore_n kf, 1) ∧ (kf : Nat) = i ∧ hp2 = hp + 1) ∨ (decode cc hp = .ok (.astore i, 2) ∧ hp2 = hp + 2)) ∧ i < nL ∧ decode cc hp2 = .ok (.ldc (wr_cc f), 2) ∧ decode cc (hp2 + 2) = .ok (.ireturn, 1)
section WRC
variable {Km : Nat → Nat} {b0 L0 C0 : Nat} {xs0 : Nat → Int32} {p : Program} {l : Launch} {e : Env} {R : Room} {s : State} {m : MethodId} {args : Array Value} {below : List Frame} {meth : Method} {c : Code} {H : Heap} {locs : List Loc} {cells slots pc : Nat} {ls : Array Slot} {D : va_G} {dT : Nat → ClassId} {cc : ByteArray} {nL : Nat} {nme : String}
theorem wr_cat {f st en hp : Nat} {q9 : Addr} {ce : Cell} {rest : List Value} {Q : State → Prop} (X : lm_X Km b0 L0 xs0 D dT C0 "LilyWheelsLaw" nme cc nL p R s m args meth c) (hf : 1 ≤ f ∧ f ≤ 3) {hh : List (Nat × Nat × Nat × Nat)} (htab : c.exceptionTable.toList = tableOf hh) (pre suf : List (Nat × Nat × Nat × Nat)) (hsp : hh = pre ++ (st, en, hp, wr_ct f) :: suf)
    (hpre : ∀ z ∈ pre, ∃ f2, (1 ≤ f2 ∧ f2 ≤ 3) ∧ f ≠ f2 ∧ z.2.2.2 = wr_ct f2) (hcv : covers (⟨st, en, hp, wr_ct f⟩ : ExceptionTableEntry) pc = true) (hcell : H[q9]? = some ce) (hv : ce.vm = .none) (hcl : s.vm.findClass (nx_c f) = some ce.cls)
    (kk : W p l e R s m args below meth c H locs cells slots Q (F0 m hp ls [.ref q9])) : vx_W p l e R s m args below meth c H locs cells slots Q (F0 m pc ls rest) q9 := by
  obtain ⟨S, hroom, hK, hA, hnm, hE⟩ := X
  have hts := S.2.2.2.2
  have hct : ∀ f2, (1 ≤ f2 ∧ f2 ≤ 3) → wr_ct f2 ≠ 0 := fun f2 hf2 => wr_f (Q := fun f => wr_ct f ≠ 0) hf2 (by decide) (by decide) (by decide)
  have hca : (Cond.castable (nx_c f) (nx_c f)).before args s = true := va_Nw.use rfl (hE.2.1 _ (wr_cs hf) rfl)
  refine vx_catch (own := "LilyWheelsLaw") (name := nx_c f) (E := nx_c f) (ce := ce) S.2.2.2.1 (tableOf pre) (⟨st, en, hp, wr_ct f⟩ : ExceptionTableEntry) (tableOf suf) (by rw [htab, hsp]; simp [tableOf]) (fun z hz => ?_) hcv (hct f hf) (hts _ (wr_cl hf)) hca hcell hv hcl kk
  obtain ⟨w, hw, rfl⟩ := List.mem_map.mp hz
  obtain ⟨f2, hf2, hne, he⟩ := hpre w hw
  refine Or.inr ⟨?_, nx_c f2, ?_, hE.2.2.2.2 f f2 hf hf2 hne⟩
  · show w.2.2.2 ≠ 0
    rw [he]; exact hct f2 hf2
  · show (Cond.classLink "LilyWheelsLaw" w.2.2.2 (nx_c f2)).before args s = true
    rw [he]; exact hts _ (wr_cl hf2)
theorem pw_end {k n t index : Nat} {i : Bool} {y : gy × gy} {Y2 : gy} {ps : List Value} {v : Int32} {hh : List (Nat × Nat × Nat × Nat)} {Qc : Array Value → State → Outcome → State → Prop} (X : lm_X Km b0 L0 xs0 D dT C0 "LilyWheelsLaw" nme cc nL p R s m args meth c) (hrt : meth.sig.returnType = some .int) (hlk : meth.locks = false) (hl : l.stackTraces = false) (htab : c.exceptionTable.toList = tableOf hh)
    (hk : 109 ≤ k) (hown : (TN k).cls = "LilyWheels") (hroom : (TH k + 8 + 1 ≤ R.frames ∧ TH k + 1 + 1 ≤ R.frames) ∧ 8 + (TM k + 11) + (60 * (TH k + 1) + 200) ≤ R.locals)
    (h1 : Cond.methodLink "LilyWheelsLaw" index (TN k) ∈ ri_LW) (h2 : Cond.instanceMethod (TN k) ∈ ri_LW) (h2s : Cond.selects (TN k).cls (TN k) (TN k) ∈ ri_LW) (h3 : Cond.initialized (TN k).cls ∈ ri_LW) (h4 : Cond.code (TN k) (TB k) (TM k) (TR k) ∈ ri_LW) (h5 : ri_named (TN k) n) (hd : decode cc pc = .ok (.invokevirtual index, 3)) (hret : decode cc (pc + 3) = .ok (.ireturn, 1)) (hcat : ∀ f ∈ wf k, wr_H cc nL pc hh f)
    (hfit : ri_fit (TM k) (.ref (gi C0 i) :: ps) = true) (hn : ps.length = n) (hsz : ls.size = nL) (hwf : lv_wf ls) (hI : lm_I (gr C0) D dT C0 s.heap y H locs) (ho : ob (gg y i) Y2 k ps v t) (hcs : cells + t ≤ R.cells) (hss : slots + 6 * t ≤ R.slots)
    (hfin : ∀ (t2 : State) (locs2 : List Loc), lm_I (gr C0) D dT C0 s.heap (gz y i Y2) t2.heap locs2 → Qc args s (.returned (some (.int v))) t2) :
    W p l e R s m args below meth c H locs cells slots (MQ below Qc args s (cells + t) (slots + 6 * t) (lm_A C0)) (F0 m pc ls ((Value.ref (gi C0 i) :: ps).reverse ++ [])) := by
  have XX := X
  obtain ⟨S, -, hK, hA, hnm, hE⟩ := XX
  obtain ⟨σ, hR, hIσ⟩ := hI
  have hX := nv_exok Km b0 L0 xs0
  have hts := S.2.2.2.2
  have hrcv := gr_rcv (as := ps) hR i
  have hcl8 : vwCl[8]? = some ((TN k).cls, TX10, 6) := by rw [hown]; rfl
  rcases gr_ob hR ho with ⟨rfl, σ2, hR2, hcall, hz⟩ | ⟨rfl, hR2, f, ⟨hf, hfw⟩, hv, hev⟩
  · have hG : ri_gok TT := rx_gok (nv_E Km b0 L0 xs0) D dT
    have hM := rx_mok (Ex := nv_E Km b0 L0 xs0) (D := D) (dT := dT)
    obtain ⟨hle, hmet⟩ := rj_meets (r := some (.int v)) (σ2 := σ2) (N := TN) (B := TB) (Rt := TR) hX hG hM l hfit hcall
    have hc : ri_cok ri_LW vwCl "LilyWheelsLaw" cc nL pc (TN k) (TB k) (TM k) (TR k) (n + 1) (some 8) := rc_V (T := TX10) (Nn := 6) ri_LWok hcl8 hd h1 h2 h2s h3 h4 h5
    have hrun := hc p l e R s m args below meth c S _ _ _ _ _ _ hmet rfl rfl hroom.1.2 (by show 8 + (TM k + 11) + 60 * (TH k + 1) ≤ _; omega) (rj_blind hX _ _) (.ref (gi C0 i) :: ps) [] H locs cells slots ls (by simpa using hn) hsz (fun U hU hW => rj_pre hX hIσ hK hA hE _ hU hW) (ri_rcv_of (p := p) hK hIσ hrcv) (by simp) (by omega) (by omega)
    refine wr_row hrun hIσ hA fun H1 locs1 hI1 hk1 => ?_
    rw [hz, Nat.sub_self]
    exact W.iret S.1 S.2.1 hrt (fun t2 ht2 _ => hfin t2 locs1 ⟨σ2, hR2, by rw [ht2]; exact hI1⟩) (fun z hz => hI1.2.2.2 z hz) hret
  · obtain ⟨hle, hmet⟩ := nx_pub (Km := Km) (b0 := b0) (L0 := L0) (xs0 := xs0) (D := D) (dT := dT) hl hk hown hf hfit hev
    obtain ⟨b, bs, q, cell, e1, hq, g1, g2, g3⟩ := ri_rcv_of (p := p) hK hIσ hrcv 8 rfl
    obtain ⟨rfl, rfl⟩ : gi C0 i = b ∧ ps = bs := by
      have := e1
      simp only [List.cons.injEq, Value.ref.injEq] at this
      exact this
    have hq2 : q.1 = (TN k).cls := by
      have h9 : vwCl[8]? = some q := hq
      rw [hcl8] at h9
      cases h9
      rfl
    rw [hq2] at g3
    have hrun := vx_runV (m := m) (n := n) (As := ps) (b := gi C0 i) (rest := []) (H := H) (locs := locs) (cells := cells) (slots := slots) (g := F0 m pc ls ((Value.ref (gi C0 i) :: ps).reverse ++ [])) (own := "LilyWheelsLaw") (C := (TN k).cls) (index := index) (R := R) (e := e) (below := below) (meth := meth)
      S hmet ⟨⟨rfl, rfl, hroom.1.1, hroom.2, ri_pays ri_LWok hts h4, List.mem_cons_self, hts _ h4, hts _ h3, h5.1, ri_np h5, hts _ h1⟩, hts _ h2, hts _ h2s⟩
      ⟨rj_blind hX _ _, ⟨cell, g1, g2, g3⟩, fun U hU hW => rj_pre hX hIσ hK hA hE _ hU hW⟩ rfl hn hsz (by show (Value.ref (gi C0 i) :: ps).reverse ++ _ = _; simp) (by show 2 * 0 + _ ≤ 8; simp) hd ⟨by omega, by omega⟩
    refine wr_rowx hrun hIσ hA fun q9 ce H1 locs1 hI1 hz hce hcv9 hcl9 => ?_
    rw [Nat.sub_self]
    obtain ⟨pre, suf, st, en, hp, j, hp2, c1, c2, c3, c4, c5, c6, c7⟩ := hcat f hfw
    refine wr_cat X hf htab pre suf c1 c2 c3 hce hcv9 hcl9 ?_
    have hR3 : gr C0 (gz y i Y2) (σ.1, H1.size) := gr_up hR2 hz
    have hfin2 : ∀ ls2 : Array Slot, W p l e R s m args below meth c H1 locs1 (cells + (0 + 1)) (slots + (2000 * 0 + 6)) (MQ below Qc args s (cells + 1) (slots + 6 * 1) (lm_A C0)) (F0 m hp2 ls2 []) := by
      intro ls2
      refine lv_ldc S.1 S.2.1 S.2.2.2.1 (hts _ (wr_cn hf)) c6 ?_
      rw [← hv]
      exact W.iret S.1 S.2.1 hrt (fun t2 ht2 _ => hfin t2 locs1 ⟨_, hR3, by rw [ht2]; exact hI1⟩) (fun z hz => hI1.2.2.2 z hz) c7
    have hlv : lv_has ls nL [] := ⟨hsz, hwf, fun q hq => by cases hq⟩
    rcases c4 with ⟨kf, d1, d2, d3⟩ | ⟨d1, d3⟩
    · subst d3
      exact lv_astore_n S.1 S.2.1 d1 d2 hlv c5 rfl (fun ls2 _ => hfin2 ls2)
    · subst d3
      exact lv_astore S.1 S.2.1 d1 hlv c5 rfl (fun ls2 _ => hfin2 ls2)
/-- a wrapper's contract out of its walk -/
theorem pm_of {k : Nat} {as : List Value} {y y2 : (gy × gy) × Nat} {r : Value} (hy : (LN k).cls = "LilyWheelsLaw") (hW : LWd k = Cond.codeWith (LN k) (LB k) (LM k) (some .int) (LTb k)) (hfit : (lg_sl as).length ≤ LM k)
    (hb : ∀ (p : Program) (e : Env) (s : State) (m : MethodId) (args : Array Value) (below : List Frame) (meth : Method) (c : Code) (Qc : Array Value → State → Outcome → State → Prop), lm_X Km b0 L0 xs0 D dT C0 "LilyWheelsLaw" (LN k).name (LB k) (LM k) p (lm_room (LH k) (y2.2 - y.2)) s m args meth c → meth.sig.returnType = some .int → meth.locks = false → c.exceptionTable.toList = tableOf (LTb k) → lm_I (gr C0) D dT C0 s.heap y.1 s.heap [] →
      ∀ ls : Array Slot, ls.size = LM k → lv_wf ls → (∀ q ∈ lv_args 0 as, ls[q.1]? = some (.val q.2)) → (∀ (t : State) (locs2 : List Loc), lm_I (gr C0) D dT C0 s.heap y2.1 t.heap locs2 → Qc args s (.returned (some r)) t) →
      W p l e (lm_room (LH k) (y2.2 - y.2)) s m args below meth c s.heap [] 0 0 (MQ below Qc args s (y2.2 - y.2) (6 * (y2.2 - y.2)) (lm_A C0)) (F0 m 0 ls [])) :
    lm_Met (gr C0) Km b0 L0 xs0 D dT C0 LN LWd LH l k as y r y2 := by
  unfold lm_Met
  rw [hW]
  refine va_MetW (cc := LB k) (maxL := LM k) (ret := some .int) (hh := LTb k) (by rw [hy]; decide +kernel) rfl ?_
  intro p e s m args below meth c s₁ Bd hml hv
  obtain ⟨rfl, ⟨σ, hR, hHp⟩, hK, hE⟩ := hv
  have hts0 := atoms_spec (ws := Cond.codeWith (LN k) (LB k) (LM k) (some .int) (LTb k) :: ri_LW) Bd.pre
  have hts : ∀ w ∈ ri_LW, w.before as.toArray s = true := fun w h => hts0 w (List.mem_cons_of_mem _ h)
  have hown : s.vm.findClass "LilyWheelsLaw" = some m.cls := by rw [← hy]; exact findClass_of_methodNamed Bd.named
  have hnme : meth.name = (LN k).name := (name_of_methodNamed Bd.named Bd.method).1
  have htab : c.exceptionTable.toList = tableOf (LTb k) := vx_table (x := LN k) Bd (hts0 _ List.mem_cons_self)
  rw [lg_entry_eq]
  have hl := lv_entry as (n := LM k) hfit
  generalize (lg_sl as ++ List.replicate (LM k - (lg_sl as).length) Slot.unset).toArray = ls at hl ⊢
  exact hb p e s m as.toArray below meth c (lm_Qc (gr C0) D dT C0 r y2.1) ⟨⟨Bd.exec, Bd.bytes, hml, hown, hts⟩, ⟨Nat.succ_le_succ (Nat.zero_le _), by show 60 ≤ 60 * (LH k + 1); omega⟩, hK, fun q hq => by show C0 ≤ q; have h1 := gr_z hR; rw [← hHp.2] at h1; omega, hnme, hE⟩ Bd.returns Bd.notSynchronized htab ⟨σ, hR, hHp, va_S.rf⟩ ls hl.1 hl.2.1 hl.2.2
    (fun t locs2 hI => by
      obtain ⟨σ2, hR2, hI2⟩ := hI
      exact ⟨rfl, ⟨σ2, hR2, hI2.1⟩, hI2.2.1, hI2.2.2.1⟩)
end WRC
