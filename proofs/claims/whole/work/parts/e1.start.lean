/-! The law from its entry. -/
theorem ws_st {C M z z1 z2 : Nat} {e1 e2 : ri_El} (hCM : C + 324 ≤ M) : (mm M m0 (fun _ => m0) (ri_upd (cs C m0 (fun _ => m0) (fun _ => m0) (fun _ => m0) (ri_upd (fun _ => none) C e1, z1)).1 M e2, z2)).1 = (cs C m0 (fun _ => m0) (fun _ => m0) (fun _ => m0) (mm M m0 (fun _ => m0) (su_b z))).1 := by
  funext q
  show (if M ≤ q ∧ q < M + 9 then mm_c M m0 (fun _ => m0) (q - M) else (if q = M then some e2 else (if C ≤ q ∧ q < C + 324 then cs_c C m0 (fun _ => m0) (fun _ => m0) (fun _ => m0) (q - C) else (if q = C then some e1 else none)))) = (if C ≤ q ∧ q < C + 324 then cs_c C m0 (fun _ => m0) (fun _ => m0) (fun _ => m0) (q - C) else if M ≤ q ∧ q < M + 9 then mm_c M m0 (fun _ => m0) (q - M) else none)
  by_cases a : M ≤ q ∧ q < M + 9
  · rw [if_pos a, if_neg (by omega), if_pos a]
  · rw [if_neg a, if_neg (show ¬ q = M by omega)]
    by_cases b : C ≤ q ∧ q < C + 324
    · rw [if_pos b, if_pos b]
    · rw [if_neg b, if_neg (show ¬ q = C by omega), if_neg b, if_neg a]
theorem ws_rc {f : Nat → Option ri_El} {a ci z : Nat} {fs : List Value} {as : List Value} (h : f a = some (.inr (.inr (ci, fs)))) : ri_rcv (some ci) (.ref a :: as) (f, z) = true := by
  unfold ri_rcv
  simp only [h]
  exact Nat.beq_refl ci
theorem whole_start {p : Program} {e : Env} {s : State} {m : MethodId} {below : List Frame} {meth : Method} {c : Code} (l : Launch) (hflags : l.flags = flags0) {b L : Nat} {xs : Nat → Int32} (hL : L ≤ 2560) (C0 : lw_At p s m meth c b L xs) : W p l e room_1 s m #[Value.ref b] below meth c s.heap [] 0 0 (lw_Z below #[Value.ref b] s) (entryFrame m ([Value.ref b] : List Value).toArray 7) := by
  obtain ⟨hx, hb, hr, hml, hown, hts, hX, hbl, hlocks, hgv⟩ := id C0
  have hl0 : l.stackTraces = false := by unfold Launch.stackTraces; rw [hflags]; decide
  obtain ⟨D, dT, dL, hK, hKL⟩ := en_K hts
  obtain ⟨Ks, Kv, Km, hE⟩ := en_E hts hgv
  have hCF : CallFix p m c code 7 s #[Value.ref b] ri_LW "LilyWheelsLaw" := ⟨hx, hb, hml, hown, fun w h => hts w (List.mem_filter.mp h).1⟩
  have X : lx_X Ks Kv Km D dT dL p l s m meth c b L xs := ⟨C0, hCF, hK, hKL, hE, sk_ok_of hE.1.1, hl0, hL⟩
  have hA : ∀ q, s.heap.size ≤ q → lx_A s q := fun _ h => h
  have hRX : ri_X ri_LW vwCl RX3 (nv_E Ks Kv Km) D dT "LilyWheelsLaw" meth.name code 7 p room_1 s m #[Value.ref b] meth c (lx_A s) := ⟨hCF, ⟨by show 1 ≤ 2048; omega, by show 60 ≤ 84000; omega⟩, hK, hA, rfl, hE⟩
  obtain ⟨C, hC⟩ : ∃ C : Nat, C = s.heap.size := ⟨_, rfl⟩
  rw [lg_entry_eq]
  have hle := lv_entry ([.ref b]) (n := 7) (Nat.le_of_ble_eq_true rfl)
  generalize (lg_sl ([Value.ref b]) ++ List.replicate (7 - (lg_sl ([Value.ref b])).length) Slot.unset).toArray = ls at hle ⊢
  have hl : lv_has ls 7 [(0, .ref b)] := hle
  have hI0 : ri_I D vwCl dT (lx_A s) s.heap (su_b C) s.heap [] := ⟨⟨fun a e h => (by cases h), hC.symm⟩, va_S.rf⟩
  have hLo0 : ri_Lo ls 7 [some (.ref b)] := ⟨hl.1, hl.2.1, fun i v h => by
    match i, h with
    | 0, h => cases h; exact lv_at hl 0 rfl
    | i + 1, h => cases h⟩
  have n1 := rh_new (Ex := nv_E Ks Kv Km) (D := D) (dT := dT) (Cq := RX3) (nme := meth.name) (nL := 7) (T := TX10) (N := 6) (ci := 8) (fs := [.null, .null, .null, .null, .null, .null]) li_X10 tyX10 tyX10_ok (cl := vwCl) rfl (show Cond.classLink "LilyWheelsLaw" 8 RX10 ∈ ri_LW from List.mem_filter.mpr ⟨by decide +kernel, by decide +kernel⟩) (show Cond.instantiable RX10 6 ∈ ri_LW from List.mem_filter.mpr ⟨by decide +kernel, by decide +kernel⟩) (show Cond.initialized RX10 ∈ ri_LW from List.mem_filter.mpr ⟨by decide +kernel, by decide +kernel⟩) (fun j hj => by rcases (show j = 0 ∨ j = 1 ∨ j = 2 ∨ j = 3 ∨ j = 4 ∨ j = 5 by omega) with rfl | rfl | rfl | rfl | rfl | rfl <;> rfl) (by decide) (show decode code 0 = .ok (.new 8, 3) by decide +kernel)
  refine (n1 p l e room_1 s m #[Value.ref b] below meth c (lx_A s) _ hRX [some (.ref b)] [] (su_b C) (3, [some (.ref b)], [.ref C]) (ri_upd (fun _ => none) C (.inr (.inr (8, [.null, .null, .null, .null, .null, .null]))), C + 1) s.heap [] 0 0 ls rfl hI0 hLo0 (by show 0 + (C + 1 - C) ≤ 601024; omega) (by show 0 + 2000 * (C + 1 - C) ≤ 7293034; omega) fun H1 locs1 ls1 hI1 hLo1 => ?_).2
  refine W.widen (k := 1) (n := 2000) (by show 0 + (C + 1 - C) ≤ 1; omega) (by show 0 + 2000 * (C + 1 - C) ≤ 2000; omega) ?_
  have hl1 : lv_has ls1 7 [(0, .ref b)] := ⟨hLo1.1, hLo1.2.1, fun q hq => by
    simp only [List.mem_cons, List.not_mem_nil, or_false] at hq
    subst hq
    exact hLo1.2.2 0 (.ref b) rfl⟩
  show W p l e room_1 s m #[Value.ref b] below meth c H1 locs1 1 2000 (lw_Z below #[Value.ref b] s) (F0 m 3 ls1 [.ref C])
  refine lv_dup hx hb (show decode code 3 = .ok (.dup, 1) by decide +kernel) rfl ?_
  have f1 : (ri_upd (fun _ => none) C (.inr (.inr (8, [.null, .null, .null, .null, .null, .null]))) : Nat → Option ri_El) C = some (.inr (.inr (8, [.null, .null, .null, .null, .null, .null]))) := if_pos rfl
  refine lx_mod (k := 108) (n := 1) (ci := 8) (as := [.ref C]) (rest := [.ref C]) (r := none) (σ2 := cs C m0 (fun _ => m0) (fun _ => m0) (fun _ => m0) (ri_upd (fun _ => none) C (.inr (.inr (8, [.null, .null, .null, .null, .null, .null]))), C + 324)) X (rc_I (nm2 := TN 108) (b2 := TB 108) (m2 := TM 108) (rt2 := TR 108) (n := 0) (ci := 8) (T := TX10) (Nn := 6) ri_LWok rfl (show decode code 4 = .ok (.invokespecial 94, 3) by decide +kernel) (by decide +kernel) (by decide +kernel) (show Cond.methodLink "LilyWheelsLaw" 94 (TN 108) ∈ ri_LW from List.mem_filter.mpr ⟨by decide +kernel, by decide +kernel⟩) (show Cond.instanceMethod (TN 108) ∈ ri_LW from List.mem_filter.mpr ⟨by decide +kernel, by decide +kernel⟩) (show Cond.initialized (TN 108).cls ∈ ri_LW from List.mem_filter.mpr ⟨by decide +kernel, by decide +kernel⟩) (show Cond.code (TN 108) (TB 108) (TM 108) (TR 108) ∈ ri_LW from List.mem_filter.mpr ⟨by decide +kernel, by decide +kernel⟩) ⟨⟨by decide +kernel, by decide +kernel⟩, by decide +kernel⟩) (cal_2 (c108 f1)) rfl (ws_rc f1) rfl ⟨by decide +kernel, by decide +kernel⟩ (by simp [Value.category]) hl1.1 hI1 (by show 1 + (C + 324 - (C + 1)) ≤ 601024; omega) (by show 2000 + 2000 * (C + 324 - (C + 1)) ≤ 7293034; omega) fun H2 locs2 hI2 _ => ?_
  refine W.widen (k := 324) (n := 648000) (by show 1 + (C + 324 - (C + 1)) ≤ 324; omega) (by show 2000 + 2000 * (C + 324 - (C + 1)) ≤ 648000; omega) ?_
  show W p l e room_1 s m #[Value.ref b] below meth c H2 locs2 324 648000 (lw_Z below #[Value.ref b] s) (F0 m 7 ls1 [.ref C])
  refine lv_astore_n (lv' := [(1, .ref C), (0, .ref b)]) hx hb (show decode code 7 = .ok (.astore_n 1, 1) by decide +kernel) rfl hl1 (by decide) rfl (fun ls2 hl2 => ?_)
  have hLo2 : ri_Lo ls2 7 [some (.ref b), some (.ref C)] := ⟨hl2.1, hl2.2.1, fun i v h => by
    match i, h with
    | 0, h => cases h; exact lv_at hl2 1 rfl
    | 1, h => cases h; exact lv_at hl2 0 rfl
    | i + 2, h => cases h⟩
  obtain ⟨M, hM⟩ : ∃ M : Nat, M = C + 324 := ⟨_, rfl⟩
  have n2 := rh_new (Ex := nv_E Ks Kv Km) (D := D) (dT := dT) (Cq := RX3) (nme := meth.name) (nL := 7) (T := TX11) (N := 13) (ci := 9) (fs := [.int (Int32.ofInt 0), .null, .int (Int32.ofInt 0), .null, .null, .null, .int (Int32.ofInt 0), .null, .null, .null, .null, .int (Int32.ofInt 0), .int (Int32.ofInt 0)]) li_X11 tyX11 tyX11_ok (cl := vwCl) rfl (show Cond.classLink "LilyWheelsLaw" 95 RX11 ∈ ri_LW from List.mem_filter.mpr ⟨by decide +kernel, by decide +kernel⟩) (show Cond.instantiable RX11 13 ∈ ri_LW from List.mem_filter.mpr ⟨by decide +kernel, by decide +kernel⟩) (show Cond.initialized RX11 ∈ ri_LW from List.mem_filter.mpr ⟨by decide +kernel, by decide +kernel⟩) (fun j hj => by rcases (show j = 0 ∨ j = 1 ∨ j = 2 ∨ j = 3 ∨ j = 4 ∨ j = 5 ∨ j = 6 ∨ j = 7 ∨ j = 8 ∨ j = 9 ∨ j = 10 ∨ j = 11 ∨ j = 12 by omega) with rfl | rfl | rfl | rfl | rfl | rfl | rfl | rfl | rfl | rfl | rfl | rfl | rfl <;> rfl) (by decide) (show decode code 8 = .ok (.new 95, 3) by decide +kernel)
  refine (n2 p l e room_1 s m #[Value.ref b] below meth c (lx_A s) _ hRX [some (.ref b), some (.ref C)] [] (cs C m0 (fun _ => m0) (fun _ => m0) (fun _ => m0) (ri_upd (fun _ => none) C (.inr (.inr (8, [.null, .null, .null, .null, .null, .null]))), C + 324)) (11, [some (.ref b), some (.ref C)], [.ref M]) (ri_upd (cs C m0 (fun _ => m0) (fun _ => m0) (fun _ => m0) (ri_upd (fun _ => none) C (.inr (.inr (8, [.null, .null, .null, .null, .null, .null]))), C + 324)).1 M (.inr (.inr (9, [.int (Int32.ofInt 0), .null, .int (Int32.ofInt 0), .null, .null, .null, .int (Int32.ofInt 0), .null, .null, .null, .null, .int (Int32.ofInt 0), .int (Int32.ofInt 0)]))), M + 1) H2 locs2 324 648000 ls2 (by rw [hM]; rfl) hI2 hLo2 (by show 324 + (M + 1 - (C + 324)) ≤ 601024; omega) (by show 648000 + 2000 * (M + 1 - (C + 324)) ≤ 7293034; omega) fun H3 locs3 ls3 hI3 hLo3 => ?_).2
  refine W.widen (k := 325) (n := 650000) (by show 324 + (M + 1 - (C + 324)) ≤ 325; omega) (by show 648000 + 2000 * (M + 1 - (C + 324)) ≤ 650000; omega) ?_
  have hl3 : lv_has ls3 7 [(0, .ref b), (1, .ref C)] := ⟨hLo3.1, hLo3.2.1, fun q hq => by
    simp only [List.mem_cons, List.not_mem_nil, or_false] at hq
    rcases hq with rfl | rfl
    · exact hLo3.2.2 0 (.ref b) rfl
    · exact hLo3.2.2 1 (.ref C) rfl⟩
  show W p l e room_1 s m #[Value.ref b] below meth c H3 locs3 325 650000 (lw_Z below #[Value.ref b] s) (F0 m 11 ls3 [.ref M])
  refine lv_dup hx hb (show decode code 11 = .ok (.dup, 1) by decide +kernel) rfl ?_
  have f2 : (ri_upd (cs C m0 (fun _ => m0) (fun _ => m0) (fun _ => m0) (ri_upd (fun _ => none) C (.inr (.inr (8, [.null, .null, .null, .null, .null, .null]))), C + 324)).1 M (.inr (.inr (9, [.int (Int32.ofInt 0), .null, .int (Int32.ofInt 0), .null, .null, .null, .int (Int32.ofInt 0), .null, .null, .null, .null, .int (Int32.ofInt 0), .int (Int32.ofInt 0)]))) : Nat → Option ri_El) M = some (.inr (.inr (9, [.int (Int32.ofInt 0), .null, .int (Int32.ofInt 0), .null, .null, .null, .int (Int32.ofInt 0), .null, .null, .null, .null, .int (Int32.ofInt 0), .int (Int32.ofInt 0)]))) := if_pos rfl
  refine lx_mod (k := 143) (n := 1) (ci := 9) (as := [.ref M]) (rest := [.ref M]) (r := none) (σ2 := mm M m0 (fun _ => m0) (ri_upd (cs C m0 (fun _ => m0) (fun _ => m0) (fun _ => m0) (ri_upd (fun _ => none) C (.inr (.inr (8, [.null, .null, .null, .null, .null, .null]))), C + 324)).1 M (.inr (.inr (9, [.int (Int32.ofInt 0), .null, .int (Int32.ofInt 0), .null, .null, .null, .int (Int32.ofInt 0), .null, .null, .null, .null, .int (Int32.ofInt 0), .int (Int32.ofInt 0)]))), M + 9)) X (rc_I (nm2 := TN 143) (b2 := TB 143) (m2 := TM 143) (rt2 := TR 143) (n := 0) (ci := 9) (T := TX11) (Nn := 13) ri_LWok rfl (show decode code 12 = .ok (.invokespecial 97, 3) by decide +kernel) (by decide +kernel) (by decide +kernel) (show Cond.methodLink "LilyWheelsLaw" 97 (TN 143) ∈ ri_LW from List.mem_filter.mpr ⟨by decide +kernel, by decide +kernel⟩) (show Cond.instanceMethod (TN 143) ∈ ri_LW from List.mem_filter.mpr ⟨by decide +kernel, by decide +kernel⟩) (show Cond.initialized (TN 143).cls ∈ ri_LW from List.mem_filter.mpr ⟨by decide +kernel, by decide +kernel⟩) (show Cond.code (TN 143) (TB 143) (TM 143) (TR 143) ∈ ri_LW from List.mem_filter.mpr ⟨by decide +kernel, by decide +kernel⟩) ⟨⟨by decide +kernel, by decide +kernel⟩, by decide +kernel⟩) (cal_2 (c143 f2)) rfl (ws_rc f2) rfl ⟨by decide +kernel, by decide +kernel⟩ (by simp [Value.category]) hl3.1 hI3 (by show 325 + (M + 9 - (M + 1)) ≤ 601024; omega) (by show 650000 + 2000 * (M + 9 - (M + 1)) ≤ 7293034; omega) fun H4 locs4 hI4 _ => ?_
  refine W.widen (k := 333) (n := 666000) (by show 325 + (M + 9 - (M + 1)) ≤ 333; omega) (by show 650000 + 2000 * (M + 9 - (M + 1)) ≤ 666000; omega) ?_
  show W p l e room_1 s m #[Value.ref b] below meth c H4 locs4 333 666000 (lw_Z below #[Value.ref b] s) (F0 m 15 ls3 [.ref M])
  refine lv_astore_n (lv' := [(2, .ref M), (0, .ref b), (1, .ref C)]) hx hb (show decode code 15 = .ok (.astore_n 2, 1) by decide +kernel) rfl hl3 (by decide) rfl (fun ls4 hl4 => ?_)
  refine lv_iconst hx hb (show decode code 16 = .ok (.iconst 1, 1) by decide +kernel) (v := 1) rfl ?_
  have z4 : H4.size = M + 9 := hI4.1.2
  refine va_newaK hx hb (atype := .long) (hts (.arrayClass .long) (by decide +kernel)) rfl (show decode code 17 = .ok (.newarray .long, 2) by decide +kernel) rfl (by decide) (N := 1) rfl (by decide) (by show 333 + 1 ≤ 601024; omega) (by show 666000 + 1 ≤ 7293034; omega) z4 fun H5 cA e5 z5 o5 hAr hNm => ?_
  obtain rfl : cA = dL := Option.some.inj (hNm.symm.trans (hKL.2 0 _ rfl).2)
  show W p l e room_1 s m #[Value.ref b] below meth c H5 locs4 334 666001 (lw_Z below #[Value.ref b] s) (F0 m 19 ls4 [.ref (M + 9)])
  refine lv_astore_n (lv' := [(3, .ref (M + 9)), (2, .ref M), (0, .ref b), (1, .ref C)]) hx hb (show decode code 19 = .ok (.astore_n 3, 1) by decide +kernel) rfl hl4 (by decide) rfl (fun ls5 hl5 => ?_)
  refine lv_iconst hx hb (show decode code 20 = .ok (.iconst 0, 1) by decide +kernel) (v := Int32.ofInt ((5 * 0 : Nat) : Int)) rfl ?_
  refine lv_istore (lv' := [(4, .int (Int32.ofInt ((5 * 0 : Nat) : Int))), (3, .ref (M + 9)), (2, .ref M), (0, .ref b), (1, .ref C)]) hx hb (show decode code 21 = .ok (.istore 4, 2) by decide +kernel) hl5 (by decide) rfl (fun ls6 hl6 => ?_)
  refine W.widen (k := 1000 + 0) (n := 700000 + 6 * 0) (by omega) (by omega) ?_
  have hst : (mm M m0 (fun _ => m0) (ri_upd (cs C m0 (fun _ => m0) (fun _ => m0) (fun _ => m0) (ri_upd (fun _ => none) C (.inr (.inr (8, [.null, .null, .null, .null, .null, .null]))), C + 324)).1 M (.inr (.inr (9, [.int (Int32.ofInt 0), .null, .int (Int32.ofInt 0), .null, .null, .null, .int (Int32.ofInt 0), .null, .null, .null, .null, .int (Int32.ofInt 0), .int (Int32.ofInt 0)]))), M + 9)).1 = (cs C m0 (fun _ => m0) (fun _ => m0) (fun _ => m0) (mm M m0 (fun _ => m0) (su_b (M + 10)))).1 := ws_st (by omega)
  have hI5 : ri_I D vwCl dT (lx_A s) s.heap (cs C m0 (fun _ => m0) (fun _ => m0) (fun _ => m0) (mm M m0 (fun _ => m0) (su_b (M + 10)))) H5 locs4 := by
    refine ⟨⟨fun a x ha => ?_, by rw [z5]; rfl⟩, Nat.le_trans hI4.2.1 (by omega), fun q h1 h2 => (o5 q (by have := hI4.2.1; omega)).trans (hI4.2.2.1 q h1 h2), hI4.2.2.2⟩
    rw [← hst] at ha
    have h9 := hI4.1.1 a x ha
    exact ⟨va_at.kept h9.1 (o5 a (by have := va_at.lt h9.1; omega)), h9.2⟩
  refine lx_loop X (C := C) (M := M) (o := M + 9) (L + 2) 0 (by omega) (by omega) (by omega) (cs C m0 (fun _ => m0) (fun _ => m0) (fun _ => m0) (mm M m0 (fun _ => m0) (su_b (M + 10)))) (fun _ => 0) H5 locs4 ls6 ⟨⟨by omega, by omega, by omega, by show M + 9 < M + 10; omega⟩, ⟨m0, (fun _ => m0), (fun _ => m0), (fun _ => m0), m0, (fun _ => m0), rfl, lr_0⟩, hI5, ?_, lv_sub hl6 [3, 4, 2, 1, 0] rfl⟩
  show H5[M + 9]? = some (vp_cell _ _)
  rw [vp_cell_l]
  exact e5
