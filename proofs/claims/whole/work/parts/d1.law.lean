/-! The law: what holds all through it, and its calls. -/
def lx_A (s : State) : Nat → Prop := fun q => s.heap.size ≤ q
def lx_X (Ks Kv Km : Nat → Nat) (D : va_G) (dT : Nat → ClassId) (dL : ClassId) (p : Program) (l : Launch) (s : State) (m : MethodId) (meth : Method) (c : Code) (b L : Nat) (xs : Nat → Int32) : Prop :=
  lw_At p s m meth c b L xs ∧ CallFix p m c code 7 s #[Value.ref b] ri_LW "LilyWheelsLaw" ∧ va_K D vwCl (ri_tys dT RX3) s ∧ va_K D vwCl [(dL, .long)] s ∧ nv_E Ks Kv Km (lx_A s) s s.heap ∧ sk_ok Ks ∧ l.stackTraces = false ∧ L ≤ 2560
/-- the law's own state at the head of its loop -/
def lx_S (D : va_G) (dT : Nat → ClassId) (dL : ClassId) (s : State) (b C M o : Nat) (iv : Int32) (K : Int) (σ : ri_S) (g : Nat → Int64) (H : Heap) (locs : List Loc) (ls : Array Slot) : Prop :=
  (s.heap.size ≤ C ∧ C + 324 ≤ M ∧ M + 9 ≤ o ∧ o < σ.2) ∧ su_w K C M σ.2 σ ∧ ri_I D vwCl dT (lx_A s) s.heap σ H locs ∧ wr_out dL o g H ∧ lv_has ls 7 [(0, .ref b), (1, .ref C), (2, .ref M), (3, .ref o), (4, .int iv)]
/-- what a wrapper leaves to the model -/
def su_P (K2 : Int) (C M km : Nat) (as : List Value) (r : Int32) (σ3 : ri_S) (g3 : Nat → Int64) : Prop :=
  su_f C M σ3.2 σ3 ∧ ∃ (w : Int32) (σ4 : ri_S), cal km (.ref M :: as) σ3 = some (some (.int w), σ4) ∧ cal 144 [.ref M] σ4 = some (some (.int r), σ4) ∧ su_w K2 C M σ3.2 σ4 ∧ (r = 0 → g3 0 = w.toInt64)
section SUF
variable {C M z o : Nat} {K : Int} {σ : ri_S} {as : List Value}
theorem su_w_f (h : su_w K C M z σ) : su_f C M z σ := by
  obtain ⟨V, PR, PZ, X, S, A, e, -⟩ := h
  exact ⟨V, PR, PZ, X, S, A, e⟩
theorem su_f_z (h : su_f C M z σ) : σ.2 = z := by
  obtain ⟨V, PR, PZ, X, S, A, rfl⟩ := h
  rfl
theorem su_f_w {z2 : Nat} (h : su_f C M z σ) : su_f C M z2 (σ.1, z2) := by
  obtain ⟨V, PR, PZ, X, S, A, rfl⟩ := h
  exact ⟨V, PR, PZ, X, S, A, rfl⟩
theorem su_f_o (h : su_f C M z σ) (hCM : C + 324 ≤ M) (hMo : M + 9 ≤ o) : σ.1 o = none := by
  obtain ⟨V, PR, PZ, X, S, A, rfl⟩ := h
  rw [cs_off (by omega), mm_off (by omega)]
  rfl
theorem su_f_C (h : su_f C M z σ) : ri_rcv (some 8) (.ref C :: as) σ = true := by
  obtain ⟨V, PR, PZ, X, S, A, rfl⟩ := h
  have h0 : (cs C V PR PZ X (mm M S A (su_b z))).1 C = some (.inr (.inr (8, [.ref (C + 1), .ref (C + 3), .ref (C + 20), .ref (C + 37), .ref (C + 277), .ref (C + 314)]))) := (cs_at (o := 0) (by decide)).trans rfl
  unfold ri_rcv
  simp only [h0]
  rfl
theorem su_f_M (h : su_f C M z σ) (hCM : C + 324 ≤ M) : ri_rcv (some 9) (.ref M :: as) σ = true := by
  obtain ⟨V, PR, PZ, X, S, A, rfl⟩ := h
  have h0 := mmx_0 (M := M) (S := S) (A := A) (σ := cs C V PR PZ X (su_b z))
  rw [cs_mm hCM]
  unfold ri_rcv
  simp only [h0]
  rfl
end SUF
section LX
variable {Ks Kv Km : Nat → Nat} {D : va_G} {dT : Nat → ClassId} {dL : ClassId} {p : Program} {l : Launch} {e : Env} {s : State} {m : MethodId} {a : Array Value} {below : List Frame} {meth : Method} {c : Code} {b L : Nat} {xs : Nat → Int32} {H : Heap} {locs : List Loc} {cells slots mc ms pc : Nat} {ls : Array Slot} {st0 rest : List Value} {σ σ2 : ri_S} {Q : State → Prop} {o : Nat} {g : Nat → Int64}
theorem wq_row {R : Room} {args : Array Value} {A : Nat → Prop} {r : Int32} {Post : ri_S → (Nat → Int64) → Prop} (hr : va_Run p l e R s m args below meth c H locs cells slots mc ms (F0 m pc ls st0) rest (wq_Qc D dT dL σ o r Post a) (wr_A σ o)) (hI : ri_I D vwCl dT A s.heap σ H locs) (hA : ∀ q, s.heap.size ≤ q → A q) (hoA : A o)
    (kk : ∀ (H1 : Heap) (locs1 : List Loc) (σ3 : ri_S) (g3 : Nat → Int64), ri_I D vwCl dT A s.heap σ3 H1 locs1 → wr_out dL o g3 H1 → Post σ3 g3 → W p l e R s m args below meth c H1 locs1 (cells + mc) (slots + ms) Q (F0 m (pc + 3) ls (.int r :: rest))) : W p l e R s m args below meth c H locs cells slots Q (F0 m pc ls st0) := by
  intro T hT X
  obtain ⟨v, st₀, t, T2, L, h0, X2, hL, e1, e2, ⟨hv, σ3, g3, hpost, hHp, hout, hz, hk⟩, st⟩ := hr T hT X
  cases hv
  rw [h0] at hz hk
  have hd : ∀ q, wr_A σ o q → A q := fun q h => h.elim (ri_dom_in hI hA q) (fun e => by rw [e]; exact hoA)
  have hS := hI.2
  obtain ⟨t2, a1, b1⟩ := kk T2.heap (locs ++ L) σ3 g3 ⟨⟨fun q x hq => by rw [e1]; exact ⟨(hHp.1 q x hq).1, hd q (hHp.1 q x hq).2⟩, by rw [e1]; exact hHp.2⟩, Nat.le_trans hS.1 (by rw [e1]; exact hz), fun q h1 h2 => by rw [e1, hk q (Nat.lt_of_lt_of_le h1 hS.1) (fun z => h2 (hd q z))]; exact hS.2.1 q h1 h2, fun q hq => by
      rcases List.mem_append.mp hq with h | h
      · exact hS.2.2 q h
      · exact hd _ (hL q h)⟩ (by rw [e1]; exact hout) hpost T2 rfl X2
  exact ⟨t2, st t2 a1, b1⟩
/-- the law calls a wrapper -/
theorem lx_call {index n mx : Nat} {y : MethodName} {bytes : ByteArray} {hh : List (Nat × Nat × Nat × Nat)} {as : List Value} {r : Int32} {Post : ri_S → (Nat → Int64) → Prop} {rm : Room} (X : lx_X Ks Kv Km D dT dL p l s m meth c b L xs)
    (hM : Met l y (Cond.codeWith y bytes mx (some .int) hh :: ri_LW) rm (wq_Pc Ks Kv Km D dT dL as σ o g) (wq_Qc D dT dL σ o r Post) mc ms (wr_A σ o)) (hrm : rm.cells = mc ∧ rm.slots = ms) (hfr : rm.frames + 1 ≤ 2048 ∧ 8 + (mx + 11) + rm.locals ≤ 84000)
    (h1 : Cond.methodLink "LilyWheelsLaw" index y ∈ ri_LW) (h2 : Cond.static y ∈ ri_LW) (h3 : Cond.initialized y.cls ∈ ri_LW) (h4 : Cond.codeWith y bytes mx (some .int) hh ∈ ri_LW) (h5 : ri_named y n) (hd : decode code pc = .ok (.invokestatic index, 3)) (hn : as.length = n) (hsz : ls.size = 7)
    (hI : ri_I D vwCl dT (lx_A s) s.heap σ H locs) (hoA : s.heap.size ≤ o) (hout : wr_out dL o g H) (hcs : cells + mc ≤ 601024) (hss : slots + ms ≤ 7293034)
    (kk : ∀ (H1 : Heap) (locs1 : List Loc) (σ3 : ri_S) (g3 : Nat → Int64), ri_I D vwCl dT (lx_A s) s.heap σ3 H1 locs1 → wr_out dL o g3 H1 → Post σ3 g3 → W p l e room_1 s m #[Value.ref b] below meth c H1 locs1 (cells + mc) (slots + ms) Q (F0 m (pc + 3) ls [.int r])) : W p l e room_1 s m #[Value.ref b] below meth c H locs cells slots Q (F0 m pc ls (as.reverse ++ [])) := by
  obtain ⟨-, S, hK, hKL, hE, -, -, -⟩ := X
  have hX := nv_exok Ks Kv Km
  have hts := S.2.2.2.2
  have hA : ∀ q, s.heap.size ≤ q → lx_A s q := fun _ h => h
  have hd2 : ∀ q, wr_A σ o q → lx_A s q := fun q h => h.elim (ri_dom_in hI hA q) (fun e => by rw [e]; exact hoA)
  have hrun := vx_runSW (m := m) (rest := []) (As := as) (H := H) (locs := locs) (cells := cells) (slots := slots) (g := F0 m pc ls (as.reverse ++ [])) (own := "LilyWheelsLaw") (index := index) (n := n) (R := room_1) (e := e) (below := below) (meth := meth)
    S hM ⟨⟨hrm.1, hrm.2, hfr.1, hfr.2, ri_pays ri_LWok hts h4, List.mem_cons_self⟩, hts _ h4, hts _ h3, h5.1, ri_np h5, hts _ h1, hts _ h2⟩
    ⟨wq_blind _ _ _ _, fun U hU hW => ⟨rfl, by rw [hU]; exact hI.1.dom, va_K.moved hW.alike hK, va_K.moved hW.alike hKL, hX.1 _ _ _ _ _ _ hE hI.2 hW hU hd2, by rw [hU]; exact hout⟩⟩ rfl hn hsz rfl (by show 2 * 0 + 0 ≤ 8; omega) hd ⟨hcs, hss⟩
  exact wq_row hrun hI hA hoA kk
/-- the law calls a method that the second table has -/
theorem lx_mod {k n ci : Nat} {as : List Value} {r : Option Value} (X : lx_X Ks Kv Km D dT dL p l s m meth c b L xs) (hc : ri_cok ri_LW vwCl "LilyWheelsLaw" code 7 pc (TN k) (TB k) (TM k) (TR k) n (some ci)) (hcall : cal2 Ks k as σ = some (r, σ2)) (hfit : ri_fit (TM k) as = true) (hrcv : ri_rcv (some ci) as σ = true) (hn : as.length = n) (hH : TH2 k ≤ 100 ∧ TM k ≤ 40) (hst : (rest.map fun v => v.category).sum ≤ 8) (hsz : ls.size = 7)
    (hI : ri_I D vwCl dT (lx_A s) s.heap σ H locs) (hcs : cells + (σ2.2 - σ.2) ≤ 601024) (hss : slots + 2000 * (σ2.2 - σ.2) ≤ 7293034)
    (kk : ∀ (H1 : Heap) (locs1 : List Loc), ri_I D vwCl dT (lx_A s) s.heap σ2 H1 locs1 → (∀ q : Nat, q < H.size → ¬ ri_dom σ q → H1[q]? = H[q]?) → W p l e room_1 s m #[Value.ref b] below meth c H1 locs1 (cells + (σ2.2 - σ.2)) (slots + 2000 * (σ2.2 - σ.2)) Q (F0 m (pc + 3) ls (r.toList ++ rest))) : W p l e room_1 s m #[Value.ref b] below meth c H locs cells slots Q (F0 m pc ls (as.reverse ++ rest)) := by
  obtain ⟨-, S, hK, hKL, hE, -, -, -⟩ := X
  have hX := nv_exok Ks Kv Km
  have hA : ∀ q, s.heap.size ≤ q → lx_A s q := fun _ h => h
  have hG : ri_gok (TT2 Ks) := rx_gok (Ex := nv_E Ks Kv Km) D dT nv_sj
  have hM := rx_mok (Ex := nv_E Ks Kv Km) (D := D) (dT := dT) (Ks := Ks) nv_sj
  obtain ⟨hle, hmet⟩ := rj_meets (r := r) (σ2 := σ2) (N := TN) (B := TB) (Rt := TR) hX hG hM l hfit hcall
  have hrun := hc p l e room_1 s m _ below meth c S _ _ _ _ _ _ hmet rfl rfl (by show TH2 k + 1 + 1 ≤ 2048; omega) (by show 8 + (TM k + 11) + 60 * (TH2 k + 1) ≤ 84000; omega) (rj_blind hX _ _) as rest H locs cells slots ls hn hsz (fun U hU hW => rj_pre hX hI hK hA hE _ hU hW) (ri_rcv_of (p := p) hK hI hrcv) hst hcs hss
  exact wr_row hrun hI hA kk
theorem lx_mod0 {k n ci : Nat} {as : List Value} {r : Option Value} (X : lx_X Ks Kv Km D dT dL p l s m meth c b L xs) (hc : ri_cok ri_LW vwCl "LilyWheelsLaw" code 7 pc (TN k) (TB k) (TM k) (TR k) n (some ci)) (hcall : cal2 Ks k as σ = some (r, σ2)) (hz : σ2.2 = σ.2) (hfit : ri_fit (TM k) as = true) (hrcv : ri_rcv (some ci) as σ = true) (hn : as.length = n) (hH : TH2 k ≤ 100 ∧ TM k ≤ 40) (hst : (rest.map fun v => v.category).sum ≤ 8) (hsz : ls.size = 7)
    (hI : ri_I D vwCl dT (lx_A s) s.heap σ H locs) (hcs : cells ≤ 601024) (hss : slots ≤ 7293034)
    (kk : ∀ (H1 : Heap) (locs1 : List Loc), ri_I D vwCl dT (lx_A s) s.heap σ2 H1 locs1 → (∀ q : Nat, q < H.size → ¬ ri_dom σ q → H1[q]? = H[q]?) → W p l e room_1 s m #[Value.ref b] below meth c H1 locs1 cells slots Q (F0 m (pc + 3) ls (r.toList ++ rest))) : W p l e room_1 s m #[Value.ref b] below meth c H locs cells slots Q (F0 m pc ls (as.reverse ++ rest)) := by
  refine lx_mod X hc hcall hfit hrcv hn hH hst hsz hI (by omega) (by omega) fun H1 locs1 h1 h2 => ?_
  rw [hz, Nat.sub_self, Nat.mul_zero, Nat.add_zero, Nat.add_zero]
  exact kk H1 locs1 h1 h2
/-- from the call of the model on, to the end of the loop's body -/
theorem lx_tail {km n C M : Nat} {as : List Value} {r iv : Int32} {K2 off : Int} (X : lx_X Ks Kv Km D dT dL p l s m meth c b L xs) (hCM : C + 324 ≤ M) (hMo : M + 9 ≤ o) (hoz : o < σ.2) (hP : su_P K2 C M km as r σ g) (hI : ri_I D vwCl dT (lx_A s) s.heap σ H locs) (hout : wr_out dL o g H)
    (hc : ri_cok ri_LW vwCl "LilyWheelsLaw" code 7 pc (TN km) (TB km) (TM km) (TR km) n (some 9)) (hc2 : ri_cok ri_LW vwCl "LilyWheelsLaw" code 7 (pc + 6) (TN 144) (TB 144) (TM 144) (TR 144) 1 (some 9)) (hfit : ri_fit (TM km) (.ref M :: as) = true) (hn : (Value.ref M :: as).length = n) (hH : TH2 km ≤ 100 ∧ TM km ≤ 40)
    (hl : lv_has ls 7 [(5, .int r), (0, .ref b), (1, .ref C), (2, .ref M), (3, .ref o), (4, .int iv)]) (hcs : cells ≤ 601024) (hss : slots ≤ 7293034)
    (d3 : decode code (pc + 3) = .ok (.istore 6, 2)) (d5 : decode code (pc + 5) = .ok (.aload_n 2, 1)) (d9 : decode code (pc + 9) = .ok (.iload 5, 2)) (d11 : decode code (pc + 11) = .ok (.if_icmp .eq 5, 3)) (d16 : decode code (pc + 16) = .ok (.iload 5, 2)) (d18 : decode code (pc + 18) = .ok (.ifCond .ne 15, 3)) (d21 : decode code (pc + 21) = .ok (.aload_n 3, 1)) (d22 : decode code (pc + 22) = .ok (.iconst 0, 1)) (d23 : decode code (pc + 23) = .ok (.laload, 1)) (d24 : decode code (pc + 24) = .ok (.iload 6, 2)) (d26 : decode code (pc + 26) = .ok (.i2l, 1)) (d27 : decode code (pc + 27) = .ok (.lcmp, 1)) (d28 : decode code (pc + 28) = .ok (.ifCond .eq 5, 3)) (d33 : decode code (pc + 33) = .ok (.goto off, 3)) (hoff : ((pc + 33 : Nat) : Int) + off = ((1866 : Nat) : Int))
    (kk : ∀ (H1 : Heap) (locs1 : List Loc) (ls1 : Array Slot) (σ4 : ri_S), su_w K2 C M σ4.2 σ4 → o < σ4.2 → ri_I D vwCl dT (lx_A s) s.heap σ4 H1 locs1 → wr_out dL o g H1 → lv_has ls1 7 [(0, .ref b), (1, .ref C), (2, .ref M), (3, .ref o), (4, .int iv)] → W p l e room_1 s m #[Value.ref b] below meth c H1 locs1 cells slots Q (F0 m 1866 ls1 [])) :
    W p l e room_1 s m #[Value.ref b] below meth c H locs cells slots Q (F0 m pc ls ((Value.ref M :: as).reverse ++ [])) := by
  obtain ⟨hf, w, σ4, e1, e2, hw, hg⟩ := hP
  have z4 : σ4.2 = σ.2 := su_f_z (su_w_f hw)
  have hx := X.2.1.1
  have hb := X.2.1.2.1
  have hKL := X.2.2.2.1
  refine lx_mod0 X hc (cal_2 e1) z4 hfit (su_f_M hf hCM) hn hH (by simp) hl.1 hI hcs hss fun H1 locs1 hI1 hk1 => ?_
  have hout1 : wr_out dL o g H1 := (hk1 o (by rw [hI.1.2]; exact hoz) (wr_nd (su_f_o hf hCM hMo) hoz)).trans hout
  have hf4 : su_f C M σ.2 σ4 := su_w_f hw
  show W p l e room_1 s m #[Value.ref b] below meth c H1 locs1 cells slots Q (F0 m (pc + 3) ls [.int w])
  refine lv_istore (lv' := [(6, .int w), (5, .int r), (0, .ref b), (1, .ref C), (2, .ref M), (3, .ref o), (4, .int iv)]) hx hb d3 hl (by decide) rfl (fun ls2 hl2 => ?_)
  refine lv_aload_n hx hb d5 rfl (lv_at hl2 4 rfl) ?_
  refine lx_mod0 (as := [.ref M]) (rest := []) X hc2 (cal_2 e2) rfl rfl (su_f_M hf4 hCM) rfl ⟨by decide +kernel, by decide +kernel⟩ (by simp) hl2.1 hI1 hcs hss fun H2 locs2 hI2 hk2 => ?_
  have hout2 : wr_out dL o g H2 := (hk2 o (by rw [hI1.1.2, z4]; exact hoz) (wr_nd (su_f_o hf4 hCM hMo) (by rw [z4]; exact hoz))).trans hout1
  show W p l e room_1 s m #[Value.ref b] below meth c H2 locs2 cells slots Q (F0 m (pc + 9) ls2 [.int r])
  have hfin : W p l e room_1 s m #[Value.ref b] below meth c H2 locs2 cells slots Q (F0 m (pc + 33) ls2 []) :=
    lv_goto hx hb d33 hoff (kk H2 locs2 ls2 σ4 (by rw [z4]; exact hw) (by rw [z4]; exact hoz) hI2 hout2 (lv_sub hl2 [2, 3, 4, 5, 6] rfl))
  refine lv_iload hx hb d9 (lv_at hl2 1 rfl) ?_
  refine lv_icmp_eq hx hb d11 (tgt := pc + 16) (by omega) (fun _ => ?_) (fun h => absurd rfl h)
  refine lv_iload hx hb d16 (lv_at hl2 1 rfl) ?_
  refine lv_if_ne hx hb d18 (tgt := pc + 33) (by omega) (fun _ => hfin) (fun h0 => ?_)
  refine lv_aload_n hx hb d21 rfl (lv_at hl2 5 rfl) ?_
  refine lv_iconst hx hb d22 (v := 0) rfl ?_
  refine W.lald (v := .long (g 0)) hx hb hout2 ((hKL.2 0 _ rfl).1 1 (fun j => .long (g j))) (fun q => by cases q) (by show ¬ ((0 : Int32) < 0 ∨ (arrV _ _ _).slots.size ≤ _); rw [arrV_size]; exact (show ¬ ((0 : Int32) < 0 ∨ 1 ≤ (0 : Int32).toNatClampNeg) by decide)) (by show (arrV _ _ _).slots[_]? = _; rw [arrV_read _ _ (show (0 : Int32).toNatClampNeg < 1 by decide)]; rfl) rfl rfl d23 ?_
  show W p l e room_1 s m #[Value.ref b] below meth c H2 locs2 cells slots Q (F0 m (pc + 24) ls2 [.long (g 0)])
  refine lv_iload hx hb d24 (lv_at hl2 0 rfl) ?_
  refine lv_i2l hx hb d26 rfl ?_
  refine W.lcmp hx hb d27 ?_
  rw [hg h0]
  refine lv_if_eq hx hb d28 (tgt := pc + 33) (by omega) (fun _ => hfin) (fun h => absurd (by simp [lg_cmp]) h)
/-- what a wrapper comes to -/
def su_C (Ks Kv Km : Nat → Nat) (D : va_G) (dT : Nat → ClassId) (dL : ClassId) (l : Launch) (y : MethodName) (ws : List Cond) (mx : Nat) (full : List Value) (σ : ri_S) (o : Nat) (g : Nat → Int64) (K2 : Int) (C M km : Nat) (as : List Value) : Prop :=
  ∃ (r : Int32) (rm : Room) (mc ms : Nat) (Post : ri_S → (Nat → Int64) → Prop), Met l y ws rm (wq_Pc Ks Kv Km D dT dL full σ o g) (wq_Qc D dT dL σ o r Post) mc ms (wr_A σ o) ∧ ((rm.cells = mc ∧ rm.slots = ms) ∧ rm.frames + 1 ≤ 2048 ∧ 8 + (mx + 11) + rm.locals ≤ 84000) ∧ (mc ≤ 1 ∧ ms ≤ 6) ∧ ∀ σ3 g3, Post σ3 g3 → σ.2 ≤ σ3.2 ∧ su_P K2 C M km as r σ3 g3
theorem su_C_r {y : MethodName} {ws : List Cond} {mx C M kc km : Nat} {full as : List Value} {K2 : Int} (hCM : C + 324 ≤ M) (hMo : M + 9 ≤ o) (hH : TH2 kc ≤ 100) (hmx : mx ≤ 10) (hr : su_r Ks K2 C M σ.2 kc km as σ) (hm : ∀ (v : Int32) (σ1 : ri_S), cal2 Ks kc (.ref C :: as) σ = some (some (.int v), σ1) → σ1.1 o = none → Met l y ws (wr_rm kc σ σ1) (wq_Pc Ks Kv Km D dT dL full σ o g) (wq_Qc D dT dL σ o 0 (fun σ3 g3 => σ3 = σ1 ∧ g3 = vp_updL g 0 v.toInt64)) (σ1.2 - σ.2) (2000 * (σ1.2 - σ.2)) (wr_A σ o)) : su_C Ks Kv Km D dT dL l y ws mx full σ o g K2 C M km as := by
  obtain ⟨v, σ1, σ4, h1, h2, h3, h4, h5⟩ := hr
  have z1 : σ1.2 = σ.2 := su_f_z h2
  refine ⟨0, _, _, _, _, hm v σ1 h1 (su_f_o h2 hCM hMo), ⟨⟨rfl, rfl⟩, by show TH2 kc + 2 + 1 ≤ 2048; omega, by show 8 + (mx + 11) + (60 * (TH2 kc + 1) + 100) ≤ 84000; omega⟩, ⟨by omega, by omega⟩, fun σ3 g3 hp => ?_⟩
  obtain ⟨rfl, rfl⟩ := hp
  refine ⟨by omega, by rw [z1]; exact h2, v, σ4, h3, h4, by rw [z1]; exact h5, fun _ => ?_⟩
  simp [vp_updL]
theorem su_C_x {y : MethodName} {ws : List Cond} {mx C M kc km f j : Nat} {full as : List Value} {K2 : Int} {jv : Int32} (hf : su_f C M σ.2 σ) (hH : TH2 kc ≤ 100) (hmx : mx ≤ 10) (hjv : Int32.ofNat j = jv) (hj0 : jv ≠ 0) (hr : su_x Ks K2 C M kc km f j as σ) (hm : ev3 Ks kc (0, ri_ent (TM kc) (.ref C :: as), []) σ = some (some (.int (Int32.ofNat f)), σ) → Met l y ws (wr_rmx kc σ σ) (wq_Pc Ks Kv Km D dT dL full σ o g) (wq_Qc D dT dL σ o jv (fun σ3 g3 => σ3.1 = σ.1 ∧ σ.2 ≤ σ3.2 ∧ g3 = g)) (σ.2 - σ.2 + 1) (2000 * (σ.2 - σ.2) + 6) (wr_A σ o)) : su_C Ks Kv Km D dT dL l y ws mx full σ o g K2 C M km as := by
  obtain ⟨h1, h2⟩ := hr
  refine ⟨jv, _, _, _, _, hm h1, ⟨⟨rfl, rfl⟩, by show TH2 kc + 9 + 1 ≤ 2048; omega, by show 8 + (mx + 11) + (60 * (TH2 kc + 1) + 300) ≤ 84000; omega⟩, ⟨by omega, by omega⟩, fun σ3 g3 hp => ?_⟩
  obtain ⟨f3, z3⟩ := σ3
  obtain ⟨a1, a2, a3⟩ := hp
  obtain rfl : f3 = σ.1 := a1
  obtain ⟨w, σ4, b1, b2, b3⟩ := h2 z3
  subst hjv
  exact ⟨a2, su_f_w hf, w, σ4, b1, b2, b3, fun h => absurd h hj0⟩
end LX
