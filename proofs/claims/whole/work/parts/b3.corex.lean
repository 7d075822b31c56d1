/-! A wrapper of the law from its call of the class on, where the class throws. -/
section WRC
variable {Ks Kv Km : Nat → Nat} {p : Program} {l : Launch} {e : Env} {R : Room} {s : State} {m : MethodId} {args : Array Value} {below : List Frame} {meth : Method} {c : Code} {A : Nat → Prop} {H : Heap} {locs : List Loc} {cells slots pc : Nat} {ls : Array Slot} {σ σ2 : ri_S} {D : va_G} {dT : Nat → ClassId} {dL : ClassId} {cc : ByteArray} {nL : Nat}
theorem wr_no {k n o f index : Nat} {ps : List Value} {C : Nat} {g : Nat → Int64} {Q : State → Prop} (X : wr_X Ks Kv Km D dT dL cc nL p s m args meth c A) (hl : l.stackTraces = false) (hk : 109 ≤ k) (hown : (TN k).cls = "LilyWheels") (hf : 1 ≤ f ∧ f ≤ 3) (hfr : TH2 k + 8 + 1 ≤ R.frames) (hlo : 8 + (TM k + 11) + (60 * (TH2 k + 1) + 200) ≤ R.locals)
    (h1 : Cond.methodLink "LilyWheelsLaw" index (TN k) ∈ ri_LW) (h2 : Cond.instanceMethod (TN k) ∈ ri_LW) (h2s : Cond.selects (TN k).cls (TN k) (TN k) ∈ ri_LW) (h3 : Cond.initialized (TN k).cls ∈ ri_LW) (h4 : Cond.code (TN k) (TB k) (TM k) (TR k) ∈ ri_LW) (h5 : ri_named (TN k) n) (hd : decode cc pc = .ok (.invokevirtual index, 3))
    (hev : ev3 Ks k (0, ri_ent (TM k) (.ref C :: ps), []) σ = some (some (.int (Int32.ofNat f)), σ2)) (hfit : ri_fit (TM k) (.ref C :: ps) = true) (hrcv : ri_rcv (some 8) (.ref C :: ps) σ = true) (hn : ps.length = n) (hsz : ls.size = nL)
    (hI : ri_I D vwCl dT A s.heap σ H locs) (ho : σ.1 o = none) (ho2 : o < σ.2) (hout : wr_out dL o g H) (hcs : cells + (σ2.2 - σ.2 + 1) ≤ R.cells) (hss : slots + (2000 * (σ2.2 - σ.2) + 6) ≤ R.slots)
    (kx : ∀ (q9 : Addr) (ce : Cell) (H1 : Heap) (locs1 : List Loc), ri_I D vwCl dT A s.heap (σ2.1, H1.size) H1 locs1 → wr_out dL o g H1 → σ2.2 ≤ H1.size → (∀ q : Nat, q < H.size → ¬ ri_dom σ q → H1[q]? = H[q]?) → H1[q9]? = some ce → ce.vm = .none → s.vm.findClass (nx_c f) = some ce.cls → vx_W p l e R s m args below meth c H1 locs1 (cells + (σ2.2 - σ.2 + 1)) (slots + (2000 * (σ2.2 - σ.2) + 6)) Q (F0 m pc ls [.int 0, .ref o]) q9) :
    W p l e R s m args below meth c H locs cells slots Q (F0 m pc ls ((Value.ref C :: ps).reverse ++ [.int 0, .ref o])) := by
  obtain ⟨S, hK, hKL, hA, hE, hrt, hlk⟩ := X
  have hX := nv_exok Ks Kv Km
  have hts := S.2.2.2.2
  obtain ⟨hle, hmet⟩ := nx_pub (Ks := Ks) (Kv := Kv) (Km := Km) (D := D) (dT := dT) hl hk hown hf hfit hev
  obtain ⟨b, bs, q, cell, e1, hq, g1, g2, g3⟩ := ri_rcv_of (p := p) hK hI hrcv 8 rfl
  obtain ⟨rfl, rfl⟩ : C = b ∧ ps = bs := by
    have := e1
    simp only [List.cons.injEq, Value.ref.injEq] at this
    exact this
  have hq2 : q.1 = (TN k).cls := by
    rw [hown]
    have h9 : vwCl[8]? = some q := hq
    have h8 : (vwCl[8]?).map (fun z => z.1) = some "LilyWheels" := by decide +kernel
    rw [h9] at h8
    exact Option.some.inj h8
  rw [hq2] at g3
  have hrun := vx_runV (m := m) (n := n) (As := ps) (b := C) (rest := [.int 0, .ref o]) (H := H) (locs := locs) (cells := cells) (slots := slots) (g := F0 m pc ls ((Value.ref C :: ps).reverse ++ [.int 0, .ref o])) (own := "LilyWheelsLaw") (C := (TN k).cls) (index := index) (R := R) (e := e) (below := below) (meth := meth)
    S hmet ⟨⟨rfl, rfl, hfr, hlo, ri_pays ri_LWok hts h4, List.mem_cons_self, hts _ h4, hts _ h3, h5.1, ri_np h5, hts _ h1⟩, hts _ h2, hts _ h2s⟩
    ⟨rj_blind hX _ _, ⟨cell, g1, g2, g3⟩, fun U hU hW => rj_pre hX hI hK hA hE _ hU hW⟩ rfl hn hsz (by show (Value.ref C :: ps).reverse ++ _ = _; simp) (by show 2 * 0 + _ ≤ 8; simp [Value.category]) hd ⟨hcs, hss⟩
  refine wr_rowx hrun hI hA fun q9 ce H1 locs1 hI1 hz hk1 hc9 hv9 hcl9 => ?_
  have hoH : o < H.size := by rw [hI.1.2]; exact ho2
  exact kx q9 ce H1 locs1 hI1 ((hk1 o hoH (wr_nd ho ho2)).trans hout) hz hk1 hc9 hv9 hcl9
end WRC
