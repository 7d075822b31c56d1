/-! The law from its entry. -/
theorem ws_st {C : Nat} {z1 z2 z : Nat} {e1 e2 : ri_El} : (cs (C + 324) m0 (fun _ => m0) (fun _ => m0) (fun _ => m0) (ri_upd (cs C m0 (fun _ => m0) (fun _ => m0) (fun _ => m0) (ri_upd (fun _ => none) C e1, z1)).1 (C + 324) e2, z2)).1 = (cs C m0 (fun _ => m0) (fun _ => m0) (fun _ => m0) (cs (C + 324) m0 (fun _ => m0) (fun _ => m0) (fun _ => m0) (su_b z))).1 := by
  funext q
  show (if C + 324 ≤ q ∧ q < C + 324 + 324 then cs_c (C + 324) m0 (fun _ => m0) (fun _ => m0) (fun _ => m0) (q - (C + 324)) else (if q = C + 324 then some e2 else (if C ≤ q ∧ q < C + 324 then cs_c C m0 (fun _ => m0) (fun _ => m0) (fun _ => m0) (q - C) else (if q = C then some e1 else none)))) = (if C ≤ q ∧ q < C + 324 then cs_c C m0 (fun _ => m0) (fun _ => m0) (fun _ => m0) (q - C) else if C + 324 ≤ q ∧ q < C + 324 + 324 then cs_c (C + 324) m0 (fun _ => m0) (fun _ => m0) (fun _ => m0) (q - (C + 324)) else none)
  by_cases a : C + 324 ≤ q ∧ q < C + 324 + 324
  · rw [if_pos a, if_neg (by omega), if_pos a]
  · rw [if_neg a, if_neg (show ¬ q = C + 324 by omega)]
    by_cases b : C ≤ q ∧ q < C + 324
    · rw [if_pos b, if_pos b]
    · rw [if_neg b, if_neg (show ¬ q = C by omega), if_neg b, if_neg a]
theorem ws_rc {f : Nat → Option ri_El} {a ci z : Nat} {fs : List Value} {as : List Value} (h : f a = some (.inr (.inr (ci, fs)))) : ri_rcv (some ci) (.ref a :: as) (f, z) = true := by
  unfold ri_rcv
  simp only [h]
  exact Nat.beq_refl ci
theorem ws_gr {C : Nat} : gr C (Y_0, Y_0) (cs C m0 (fun _ => m0) (fun _ => m0) (fun _ => m0) (cs (C + 324) m0 (fun _ => m0) (fun _ => m0) (fun _ => m0) (su_b (C + 648)))) := by
  have h : gr_1 Y_0 m0 (fun _ => m0) (fun _ => m0) := by
    refine ⟨⟨rfl, fun i _ => ?_, rfl⟩, ⟨⟨by decide, by decide⟩, rfl, by decide⟩, fun i R h => ?_, fun i _ => Or.inr ⟨rfl, rfl⟩, fun i => Or.inr rfl⟩
    · show (0 : Int) ≤ 0 ∧ (0 : Int) ≤ 3 ∧ (0 : Int) ≤ 0 ∧ (0 : Int) ≤ 8 ∧ (0 : Int) ≤ 0 ∧ (0 : Int) ≤ 5
      decide
    · have h : ([] : List mr_R)[i]? = some R := h
      cases h
  exact ⟨m0, (fun _ => m0), (fun _ => m0), (fun _ => m0), m0, (fun _ => m0), (fun _ => m0), (fun _ => m0), C + 648, Nat.le_refl _, h, h, rfl⟩
/-- the end of the law's machine is the law's end -/
theorem ws_end {below : List Frame} {args : Array Value} {s t : State} {k n : Nat} (hk : k ≤ 600104) (hn : n ≤ 7301314) (h : MQ below (fun _ _ o _ => o = .returned (some (.int (Int32.ofInt 1)))) args s k n (lm_A s.heap.size) t) : lw_Z below args s t := by
  obtain ⟨o, h1, h2, h3, L, ⟨h4, h5, h6⟩, h7⟩ := h
  refine ⟨o, h1, h2, h3, h4, h5, ?_⟩
  obtain ⟨q1, q2, q3, q4, q5, q6⟩ := h6
  refine ⟨q1, q2, Nat.le_trans q3 (Nat.add_le_add_left hk _), q4, Nat.le_trans q5 hn, fun a c hac => ?_⟩
  obtain ⟨c', r1, r2, r3, r4⟩ := q6 a c hac
  refine ⟨c', r1, r2, r3, fun i _ => r4 i fun hm => ?_⟩
  have hb : s.heap.size ≤ a := h7 _ hm
  exact absurd (Array.getElem?_eq_some_iff.mp hac).1 (Nat.not_lt.mpr hb)
section START
variable {Km : Nat → Nat} {D : va_G} {dT : Nat → ClassId} {p : Program} {l : Launch} {e : Env} {s : State} {m : MethodId} {below : List Frame} {meth : Method} {c : Code} {b L : Nat} {xs : Nat → Int32} {H : Heap} {locs : List Loc} {cells slots pc : Nat} {ls : Array Slot} {rest : List Value} {σ σ2 : ri_S} {Q : State → Prop}
theorem lx_mod {k n ci : Nat} {as : List Value} {r : Option Value} (S : CallFix p m c code 9 s #[Value.ref b] ri_LW "LilyWheelsLaw") (hK : va_K D vwCl (ri_tys dT RX3) s) (hE : nv_E Km b L xs (lm_A s.heap.size) s s.heap) (hc : ri_cok ri_LW vwCl "LilyWheelsLaw" code 9 pc (TN k) (TB k) (TM k) (TR k) n (some ci)) (hcall : cal k as σ = some (r, σ2)) (hfit : ri_fit (TM k) as = true) (hrcv : ri_rcv (some ci) as σ = true) (hn : as.length = n) (hH : TH k ≤ 100 ∧ TM k ≤ 40) (hst : (rest.map fun v => v.category).sum ≤ 8) (hsz : ls.size = 9)
    (hI : ri_I D vwCl dT (lm_A s.heap.size) s.heap σ H locs) (hcs : cells + (σ2.2 - σ.2) ≤ 600104) (hss : slots + 2000 * (σ2.2 - σ.2) ≤ 7301314)
    (kk : ∀ (H1 : Heap) (locs1 : List Loc), ri_I D vwCl dT (lm_A s.heap.size) s.heap σ2 H1 locs1 → (∀ q : Nat, q < H.size → ¬ ri_dom σ q → H1[q]? = H[q]?) → W p l e room_1 s m #[Value.ref b] below meth c H1 locs1 (cells + (σ2.2 - σ.2)) (slots + 2000 * (σ2.2 - σ.2)) Q (F0 m (pc + 3) ls (r.toList ++ rest))) : W p l e room_1 s m #[Value.ref b] below meth c H locs cells slots Q (F0 m pc ls (as.reverse ++ rest)) := by
  have hX := nv_exok Km b L xs
  have hA : ∀ q, s.heap.size ≤ q → lm_A s.heap.size q := fun _ h => h
  have hG : ri_gok TT := rx_gok (nv_E Km b L xs) D dT
  have hM := rx_mok (Ex := nv_E Km b L xs) (D := D) (dT := dT)
  obtain ⟨hle, hmet⟩ := rj_meets (r := r) (σ2 := σ2) (N := TN) (B := TB) (Rt := TR) hX hG hM l hfit hcall
  have hrun := hc p l e room_1 s m _ below meth c S _ _ _ _ _ _ hmet rfl rfl (by show TH k + 1 + 1 ≤ 2048; omega) (by show 8 + (TM k + 11) + 60 * (TH k + 1) ≤ 84000; omega) (rj_blind hX _ _) as rest H locs cells slots ls hn hsz (fun U hU hW => rj_pre hX hI hK hA hE _ hU hW) (ri_rcv_of (p := p) hK hI hrcv) hst hcs hss
  exact wr_row hrun hI hA kk
end START
theorem ws_law {Km : Nat → Nat} {D : va_G} {dT : Nat → ClassId} {p : Program} {e : Env} {s : State} {m : MethodId} {below : List Frame} {meth : Method} {c : Code} (l : Launch) (hl0 : l.stackTraces = false) {b L : Nat} {xs : Nat → Int32} (hL : L ≤ 260) (C0 : lw_At p s m meth c b L xs) (hnm : meth.name = "law") (hCF : CallFix p m c code 9 s #[Value.ref b] ri_LW "LilyWheelsLaw") (hK : va_K D vwCl (ri_tys dT RX3) s) (hE : nv_E Km b L xs (lm_A s.heap.size) s s.heap) {H : Heap} {locs : List Loc} {ls : Array Slot} (hI : ri_I D vwCl dT (lm_A s.heap.size) s.heap (cs s.heap.size m0 (fun _ => m0) (fun _ => m0) (fun _ => m0) (cs (s.heap.size + 324) m0 (fun _ => m0) (fun _ => m0) (fun _ => m0) (su_b (s.heap.size + 648)))) H locs) (hLo : ri_Lo ls 9 [some (.ref b), some (.ref s.heap.size), some (.ref (s.heap.size + 324)), none, none, none, none, none, none]) : W p l e room_1 s m #[Value.ref b] below meth c H locs 648 1296000 (lw_Z below #[Value.ref b] s) (F0 m 16 ls []) := by
  obtain ⟨n1, Y2, hn, hev⟩ := r240 (C0 := s.heap.size) (b0 := b) (L0 := L) (xs0 := xs)
  obtain ⟨n, hrun⟩ := ri_lim_to hev
  have hs := (lm_sound (Rel := gr s.heap.size) (Km := Km) (b0 := b) (L0 := L) (xs0 := xs) (D := D) (dT := dT) (C0 := s.heap.size) (N := LN) (B := LB) (Rt := LR) (Wd := LWd) l (fun y σ h => by
    obtain ⟨V, PR, PZ, X, V2, PR2, PZ2, X2, z, hz, -, -, rfl⟩ := h
    show s.heap.size ≤ z
    omega) LM_40 ml_ok (lpr_ok hl0 hL) n 240 _ _ _ _ rfl hrun).2
  have h9 := hs p e room_1 s m #[Value.ref b] below meth c (fun _ _ o _ => o = .returned (some (.int (Int32.ofInt 1)))) ⟨hCF, ⟨by show 1 ≤ 2048; omega, by show 60 ≤ 84000; omega⟩, hK, fun _ h => h, hnm, hE⟩ ⟨by show LH 240 + 1 ≤ 2048; decide, by show 60 * (LH 240 + 1) ≤ 84000; decide⟩ C0.2.2.1 C0.2.2.2.2.2.2.2.2.1 H locs 648 1296000 ls ⟨_, ws_gr, hI⟩ hLo (by show 648 + (n1 - 0) ≤ 600104; omega) (by show 1296000 + 6 * (n1 - 0) ≤ 7301314; omega) (fun t locs2 _ _ => rfl)
  intro T hT X
  obtain ⟨t, a1, b1⟩ := h9 T hT X
  exact ⟨t, a1, ws_end (by show 648 + (n1 - 0) ≤ 600104; omega) (by show 1296000 + 6 * (n1 - 0) ≤ 7301314; omega) b1⟩
theorem whole_start {p : Program} {e : Env} {s : State} {m : MethodId} {below : List Frame} {meth : Method} {c : Code} (l : Launch) (hflags : l.flags = flags0) {b L : Nat} {xs : Nat → Int32} (hL : L ≤ 260) (C0 : lw_At p s m meth c b L xs) : W p l e room_1 s m #[Value.ref b] below meth c s.heap [] 0 0 (lw_Z below #[Value.ref b] s) (entryFrame m ([Value.ref b] : List Value).toArray 9) := by
  obtain ⟨hx, hb, hr, hml, hown, hts, hX, hbl, hlocks, hgv, hnm⟩ := id C0
  have hl0 : l.stackTraces = false := by unfold Launch.stackTraces; rw [hflags]; decide
  obtain ⟨D, dT, hK⟩ := en_K hts
  obtain ⟨Km, hE⟩ := en_E hts hgv hX hbl
  have hCF : CallFix p m c code 9 s #[Value.ref b] ri_LW "LilyWheelsLaw" := ⟨hx, hb, hml, hown, fun w h => hts w (List.mem_filter.mp h).1⟩
  have hRX : ri_X ri_LW vwCl RX3 (nv_E Km b L xs) D dT "LilyWheelsLaw" meth.name code 9 p room_1 s m #[Value.ref b] meth c (lm_A s.heap.size) := ⟨hCF, ⟨by show 1 ≤ 2048; omega, by show 60 ≤ 84000; omega⟩, hK, fun _ h => h, rfl, hE⟩
  obtain ⟨C, hC⟩ : ∃ C : Nat, C = s.heap.size := ⟨_, rfl⟩
  rw [lg_entry_eq]
  have hle := lv_entry ([.ref b]) (n := 9) (Nat.le_of_ble_eq_true rfl)
  generalize (lg_sl ([Value.ref b]) ++ List.replicate (9 - (lg_sl ([Value.ref b])).length) Slot.unset).toArray = ls at hle ⊢
  have hl : lv_has ls 9 [(0, .ref b)] := hle
  have hI0 : ri_I D vwCl dT (lm_A s.heap.size) s.heap (su_b C) s.heap [] := ⟨⟨fun a e h => (by cases h), hC.symm⟩, va_S.rf⟩
  have hLo0 : ri_Lo ls 9 [some (.ref b)] := ⟨hl.1, hl.2.1, fun i v h => by
    match i, h with
    | 0, h => cases h; exact lv_at hl 0 rfl
    | i + 1, h => cases h⟩
  have n1 := rh_new (Ex := nv_E Km b L xs) (D := D) (dT := dT) (Cq := RX3) (nme := meth.name) (nL := 9) (T := TX10) (N := 6) (ci := 8) (fs := [.null, .null, .null, .null, .null, .null]) li_X10 tyX10 tyX10_ok (cl := vwCl) rfl (show Cond.classLink "LilyWheelsLaw" 8 RX10 ∈ ri_LW from List.mem_filter.mpr ⟨by decide +kernel, by decide +kernel⟩) (show Cond.instantiable RX10 6 ∈ ri_LW from List.mem_filter.mpr ⟨by decide +kernel, by decide +kernel⟩) (show Cond.initialized RX10 ∈ ri_LW from List.mem_filter.mpr ⟨by decide +kernel, by decide +kernel⟩) (fun j hj => by rcases (show j = 0 ∨ j = 1 ∨ j = 2 ∨ j = 3 ∨ j = 4 ∨ j = 5 by omega) with rfl | rfl | rfl | rfl | rfl | rfl <;> rfl) (by decide) (show decode code 0 = .ok (.new 8, 3) by decide +kernel)
  refine (n1 p l e room_1 s m #[Value.ref b] below meth c (lm_A s.heap.size) _ hRX [some (.ref b)] [] (su_b C) (3, [some (.ref b)], [.ref C]) (ri_upd (fun _ => none) C (.inr (.inr (8, [.null, .null, .null, .null, .null, .null]))), C + 1) s.heap [] 0 0 ls rfl hI0 hLo0 (by show 0 + (C + 1 - C) ≤ 600104; omega) (by show 0 + 2000 * (C + 1 - C) ≤ 7301314; omega) fun H1 locs1 ls1 hI1 hLo1 => ?_).2
  refine W.widen (k := 1) (n := 2000) (by show 0 + (C + 1 - C) ≤ 1; omega) (by show 0 + 2000 * (C + 1 - C) ≤ 2000; omega) ?_
  have hl1 : lv_has ls1 9 [(0, .ref b)] := ⟨hLo1.1, hLo1.2.1, fun q hq => by
    simp only [List.mem_cons, List.not_mem_nil, or_false] at hq
    subst hq
    exact hLo1.2.2 0 (.ref b) rfl⟩
  show W p l e room_1 s m #[Value.ref b] below meth c H1 locs1 1 2000 (lw_Z below #[Value.ref b] s) (F0 m 3 ls1 [.ref C])
  refine lv_dup hx hb (show decode code 3 = .ok (.dup, 1) by decide +kernel) rfl ?_
  have f1 : (ri_upd (fun _ => none) C (.inr (.inr (8, [.null, .null, .null, .null, .null, .null]))) : Nat → Option ri_El) C = some (.inr (.inr (8, [.null, .null, .null, .null, .null, .null]))) := if_pos rfl
  refine lx_mod (k := 108) (n := 1) (ci := 8) (as := [.ref C]) (rest := [.ref C]) (r := none) (σ2 := cs C m0 (fun _ => m0) (fun _ => m0) (fun _ => m0) (ri_upd (fun _ => none) C (.inr (.inr (8, [.null, .null, .null, .null, .null, .null]))), C + 324)) hCF hK hE (rc_I (nm2 := TN 108) (b2 := TB 108) (m2 := TM 108) (rt2 := TR 108) (n := 0) (ci := 8) (T := TX10) (Nn := 6) ri_LWok rfl (show decode code 4 = .ok (.invokespecial 185, 3) by decide +kernel) (by decide +kernel) (by decide +kernel) (show Cond.methodLink "LilyWheelsLaw" 185 (TN 108) ∈ ri_LW from List.mem_filter.mpr ⟨by decide +kernel, by decide +kernel⟩) (show Cond.instanceMethod (TN 108) ∈ ri_LW from List.mem_filter.mpr ⟨by decide +kernel, by decide +kernel⟩) (show Cond.initialized (TN 108).cls ∈ ri_LW from List.mem_filter.mpr ⟨by decide +kernel, by decide +kernel⟩) (show Cond.code (TN 108) (TB 108) (TM 108) (TR 108) ∈ ri_LW from List.mem_filter.mpr ⟨by decide +kernel, by decide +kernel⟩) ⟨⟨by decide +kernel, by decide +kernel⟩, by decide +kernel⟩) (c108 f1) rfl (ws_rc f1) rfl ⟨by decide +kernel, by decide +kernel⟩ (by simp [Value.category]) hl1.1 hI1 (by show 1 + (C + 324 - (C + 1)) ≤ 600104; omega) (by show 2000 + 2000 * (C + 324 - (C + 1)) ≤ 7301314; omega) fun H2 locs2 hI2 _ => ?_
  refine W.widen (k := 324) (n := 648000) (by show 1 + (C + 324 - (C + 1)) ≤ 324; omega) (by show 2000 + 2000 * (C + 324 - (C + 1)) ≤ 648000; omega) ?_
  show W p l e room_1 s m #[Value.ref b] below meth c H2 locs2 324 648000 (lw_Z below #[Value.ref b] s) (F0 m 7 ls1 [.ref C])
  refine lv_astore_n (lv' := [(1, .ref C), (0, .ref b)]) hx hb (show decode code 7 = .ok (.astore_n 1, 1) by decide +kernel) rfl hl1 (by decide) rfl (fun ls2 hl2 => ?_)
  have hLo2 : ri_Lo ls2 9 [some (.ref b), some (.ref C)] := ⟨hl2.1, hl2.2.1, fun i v h => by
    match i, h with
    | 0, h => cases h; exact lv_at hl2 1 rfl
    | 1, h => cases h; exact lv_at hl2 0 rfl
    | i + 2, h => cases h⟩
  have n2 := rh_new (Ex := nv_E Km b L xs) (D := D) (dT := dT) (Cq := RX3) (nme := meth.name) (nL := 9) (T := TX10) (N := 6) (ci := 8) (fs := [.null, .null, .null, .null, .null, .null]) li_X10 tyX10 tyX10_ok (cl := vwCl) rfl (show Cond.classLink "LilyWheelsLaw" 8 RX10 ∈ ri_LW from List.mem_filter.mpr ⟨by decide +kernel, by decide +kernel⟩) (show Cond.instantiable RX10 6 ∈ ri_LW from List.mem_filter.mpr ⟨by decide +kernel, by decide +kernel⟩) (show Cond.initialized RX10 ∈ ri_LW from List.mem_filter.mpr ⟨by decide +kernel, by decide +kernel⟩) (fun j hj => by rcases (show j = 0 ∨ j = 1 ∨ j = 2 ∨ j = 3 ∨ j = 4 ∨ j = 5 by omega) with rfl | rfl | rfl | rfl | rfl | rfl <;> rfl) (by decide) (show decode code 8 = .ok (.new 8, 3) by decide +kernel)
  refine (n2 p l e room_1 s m #[Value.ref b] below meth c (lm_A s.heap.size) _ hRX [some (.ref b), some (.ref C)] [] (cs C m0 (fun _ => m0) (fun _ => m0) (fun _ => m0) (ri_upd (fun _ => none) C (.inr (.inr (8, [.null, .null, .null, .null, .null, .null]))), C + 324)) (11, [some (.ref b), some (.ref C)], [.ref (C + 324)]) (ri_upd (cs C m0 (fun _ => m0) (fun _ => m0) (fun _ => m0) (ri_upd (fun _ => none) C (.inr (.inr (8, [.null, .null, .null, .null, .null, .null]))), C + 324)).1 (C + 324) (.inr (.inr (8, [.null, .null, .null, .null, .null, .null]))), C + 325) H2 locs2 324 648000 ls2 rfl hI2 hLo2 (by show 324 + (C + 325 - (C + 324)) ≤ 600104; omega) (by show 648000 + 2000 * (C + 325 - (C + 324)) ≤ 7301314; omega) fun H3 locs3 ls3 hI3 hLo3 => ?_).2
  refine W.widen (k := 325) (n := 650000) (by show 324 + (C + 325 - (C + 324)) ≤ 325; omega) (by show 648000 + 2000 * (C + 325 - (C + 324)) ≤ 650000; omega) ?_
  have hl3 : lv_has ls3 9 [(0, .ref b), (1, .ref C)] := ⟨hLo3.1, hLo3.2.1, fun q hq => by
    simp only [List.mem_cons, List.not_mem_nil, or_false] at hq
    rcases hq with rfl | rfl
    · exact hLo3.2.2 0 (.ref b) rfl
    · exact hLo3.2.2 1 (.ref C) rfl⟩
  show W p l e room_1 s m #[Value.ref b] below meth c H3 locs3 325 650000 (lw_Z below #[Value.ref b] s) (F0 m 11 ls3 [.ref (C + 324)])
  refine lv_dup hx hb (show decode code 11 = .ok (.dup, 1) by decide +kernel) rfl ?_
  have f2 : (ri_upd (cs C m0 (fun _ => m0) (fun _ => m0) (fun _ => m0) (ri_upd (fun _ => none) C (.inr (.inr (8, [.null, .null, .null, .null, .null, .null]))), C + 324)).1 (C + 324) (.inr (.inr (8, [.null, .null, .null, .null, .null, .null]))) : Nat → Option ri_El) (C + 324) = some (.inr (.inr (8, [.null, .null, .null, .null, .null, .null]))) := if_pos rfl
  refine lx_mod (k := 108) (n := 1) (ci := 8) (as := [.ref (C + 324)]) (rest := [.ref (C + 324)]) (r := none) (σ2 := cs (C + 324) m0 (fun _ => m0) (fun _ => m0) (fun _ => m0) (ri_upd (cs C m0 (fun _ => m0) (fun _ => m0) (fun _ => m0) (ri_upd (fun _ => none) C (.inr (.inr (8, [.null, .null, .null, .null, .null, .null]))), C + 324)).1 (C + 324) (.inr (.inr (8, [.null, .null, .null, .null, .null, .null]))), C + 324 + 324)) hCF hK hE (rc_I (nm2 := TN 108) (b2 := TB 108) (m2 := TM 108) (rt2 := TR 108) (n := 0) (ci := 8) (T := TX10) (Nn := 6) ri_LWok rfl (show decode code 12 = .ok (.invokespecial 185, 3) by decide +kernel) (by decide +kernel) (by decide +kernel) (show Cond.methodLink "LilyWheelsLaw" 185 (TN 108) ∈ ri_LW from List.mem_filter.mpr ⟨by decide +kernel, by decide +kernel⟩) (show Cond.instanceMethod (TN 108) ∈ ri_LW from List.mem_filter.mpr ⟨by decide +kernel, by decide +kernel⟩) (show Cond.initialized (TN 108).cls ∈ ri_LW from List.mem_filter.mpr ⟨by decide +kernel, by decide +kernel⟩) (show Cond.code (TN 108) (TB 108) (TM 108) (TR 108) ∈ ri_LW from List.mem_filter.mpr ⟨by decide +kernel, by decide +kernel⟩) ⟨⟨by decide +kernel, by decide +kernel⟩, by decide +kernel⟩) (c108 f2) rfl (ws_rc f2) rfl ⟨by decide +kernel, by decide +kernel⟩ (by simp [Value.category]) hl3.1 hI3 (by show 325 + (C + 324 + 324 - (C + 325)) ≤ 600104; omega) (by show 650000 + 2000 * (C + 324 + 324 - (C + 325)) ≤ 7301314; omega) fun H4 locs4 hI4 _ => ?_
  refine W.widen (k := 648) (n := 1296000) (by show 325 + (C + 324 + 324 - (C + 325)) ≤ 648; omega) (by show 650000 + 2000 * (C + 324 + 324 - (C + 325)) ≤ 1296000; omega) ?_
  show W p l e room_1 s m #[Value.ref b] below meth c H4 locs4 648 1296000 (lw_Z below #[Value.ref b] s) (F0 m 15 ls3 [.ref (C + 324)])
  refine lv_astore_n (lv' := [(2, .ref (C + 324)), (0, .ref b), (1, .ref C)]) hx hb (show decode code 15 = .ok (.astore_n 2, 1) by decide +kernel) rfl hl3 (by decide) rfl (fun ls4 hl4 => ?_)
  have hLo4 : ri_Lo ls4 9 [some (.ref b), some (.ref C), some (.ref (C + 324)), none, none, none, none, none, none] := ⟨hl4.1, hl4.2.1, fun i v h => by
    match i, h with
    | 0, h => cases h; exact lv_at hl4 1 rfl
    | 1, h => cases h; exact lv_at hl4 2 rfl
    | 2, h => cases h; exact lv_at hl4 0 rfl
    | 3, h => cases h
    | 4, h => cases h
    | 5, h => cases h
    | 6, h => cases h
    | 7, h => cases h
    | 8, h => cases h
    | i + 9, h => cases h⟩
  have hst : cs (C + 324) m0 (fun _ => m0) (fun _ => m0) (fun _ => m0) (ri_upd (cs C m0 (fun _ => m0) (fun _ => m0) (fun _ => m0) (ri_upd (fun _ => none) C (.inr (.inr (8, [.null, .null, .null, .null, .null, .null]))), C + 324)).1 (C + 324) (.inr (.inr (8, [.null, .null, .null, .null, .null, .null]))), C + 324 + 324) = cs C m0 (fun _ => m0) (fun _ => m0) (fun _ => m0) (cs (C + 324) m0 (fun _ => m0) (fun _ => m0) (fun _ => m0) (su_b (C + 648))) := Prod.ext ws_st rfl
  rw [hst] at hI4
  subst hC
  exact ws_law l hl0 hL C0 hnm hCF hK hE hI4 hLo4
