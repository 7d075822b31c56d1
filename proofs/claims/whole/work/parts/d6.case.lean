/-! The law: cases, 4. -/
section LX
variable {Ks Kv Km : Nat → Nat} {D : va_G} {dT : Nat → ClassId} {dL : ClassId} {p : Program} {l : Launch} {e : Env} {s : State} {m : MethodId} {below : List Frame} {meth : Method} {c : Code} {b L : Nat} {xs : Nat → Int32} {H : Heap} {locs : List Loc} {cells slots : Nat} {ls : Array Slot} {σ : ri_S} {Q : State → Prop} {C M o : Nat} {K : Int} {iv : Int32} {g : Nat → Int64}
theorem lx_th1456 : ri_cok ri_LW vwCl "LilyWheelsLaw" code 7 1456 (TN 144) (TB 144) (TM 144) (TR 144) 1 (some 9) := (rc_V (nm2 := TN 144) (b2 := TB 144) (m2 := TM 144) (rt2 := TR 144) (n := 0) (ci := 9) (T := TX11) (Nn := 13) ri_LWok rfl (show decode code 1456 = .ok (.invokevirtual 104, 3) by decide +kernel) (show Cond.methodLink "LilyWheelsLaw" 104 (TN 144) ∈ ri_LW from List.mem_filter.mpr ⟨by decide +kernel, by decide +kernel⟩) (show Cond.instanceMethod (TN 144) ∈ ri_LW from List.mem_filter.mpr ⟨by decide +kernel, by decide +kernel⟩) (show Cond.selects (TN 144).cls (TN 144) (TN 144) ∈ ri_LW from List.mem_filter.mpr ⟨by decide +kernel, by decide +kernel⟩) (show Cond.initialized (TN 144).cls ∈ ri_LW from List.mem_filter.mpr ⟨by decide +kernel, by decide +kernel⟩) (show Cond.code (TN 144) (TB 144) (TM 144) (TR 144) ∈ ri_LW from List.mem_filter.mpr ⟨by decide +kernel, by decide +kernel⟩) ⟨⟨by decide +kernel, by decide +kernel⟩, by decide +kernel⟩)
theorem lc_couldBe (X : lx_X Ks Kv Km D dT dL p l s m meth c b L xs) (S : lx_S D dT dL s b C M o iv K σ g H locs ls) (h1 : vp_in (iv + Int32.ofInt 1) L) (h2 : vp_in (iv + Int32.ofInt 2) L) (h3 : vp_in (iv + Int32.ofInt 3) L) (h4 : vp_in (iv + Int32.ofInt 4) L) (hcs : cells + 1 ≤ 601024) (hss : slots + 6 ≤ 7293034) (hk : K + 20 + 400000 ≤ 1000000)
    (kk : ∀ (H1 : Heap) (locs1 : List Loc) (ls1 : Array Slot) (σ4 : ri_S) (g4 : Nat → Int64), lx_S D dT dL s b C M o iv (K + 20) σ4 g4 H1 locs1 ls1 → W p l e room_1 s m #[Value.ref b] below meth c H1 locs1 (cells + 1) (slots + 6) Q (F0 m 1866 ls1 [])) : W p l e room_1 s m #[Value.ref b] below meth c H locs cells slots Q (F0 m 1418 ls []) := by
  obtain ⟨⟨hC, hCM, hMo, hoz⟩, hσ, hI, hout, hl⟩ := S
  have hx := X.2.1.1
  have hb := X.2.1.2.1
  have hX := X.1.2.2.2.2.2.2.1
  have hbl := X.1.2.2.2.2.2.2.2.1
  have htl := X.1.2.2.2.2.2.1
  have hown := X.1.2.2.2.2.1
  have hbA : ¬ lx_A s b := Nat.not_le.mpr hbl
  refine lv_aload_n hx hb (show decode code 1418 = .ok (.aload_n 1, 1) by decide +kernel) rfl (lv_at hl 1 rfl) ?_
  refine lv_aload_n hx hb (show decode code 1419 = .ok (.aload_n 0, 1) by decide +kernel) rfl (lv_at hl 0 rfl) ?_
  refine lv_iload hx hb (show decode code 1420 = .ok (.iload 4, 2) by decide +kernel) (lv_at hl 4 rfl) ?_
  refine lv_iconst hx hb (show decode code 1422 = .ok (.iconst 1, 1) by decide +kernel) (v := Int32.ofInt 1) rfl ?_
  refine lv_iadd hx hb (show decode code 1423 = .ok (.iadd, 1) by decide +kernel) ?_
  refine va_sld hx hb hX hbl hbA hI.2 h1 (show decode code 1424 = .ok (.iaload, 1) by decide +kernel) ?_
  refine lv_aload_n hx hb (show decode code 1425 = .ok (.aload_n 0, 1) by decide +kernel) rfl (lv_at hl 0 rfl) ?_
  refine lv_iload hx hb (show decode code 1426 = .ok (.iload 4, 2) by decide +kernel) (lv_at hl 4 rfl) ?_
  refine lv_iconst hx hb (show decode code 1428 = .ok (.iconst 2, 1) by decide +kernel) (v := Int32.ofInt 2) rfl ?_
  refine lv_iadd hx hb (show decode code 1429 = .ok (.iadd, 1) by decide +kernel) ?_
  refine va_sld hx hb hX hbl hbA hI.2 h2 (show decode code 1430 = .ok (.iaload, 1) by decide +kernel) ?_
  refine lv_aload_n hx hb (show decode code 1431 = .ok (.aload_n 3, 1) by decide +kernel) rfl (lv_at hl 3 rfl) ?_
  obtain ⟨r, rm, mc, ms, Post, hM, ⟨e1, e3, e4⟩, ⟨e5, e6⟩, hP⟩ := wc_couldBe (Ks := Ks) (Kv := Kv) (Km := Km) (D := D) (dT := dT) (dL := dL) (g := g) (xs (iv + Int32.ofInt 1).toNatClampNeg) (xs (iv + Int32.ofInt 2).toNatClampNeg) hCM hMo hoz X.2.2.2.2.2.2.1 X.2.2.2.2.2.1 hσ hk
  refine lx_call (index := 170) (n := 4) (pc := 1432) (as := [.ref C, .int (xs (iv + Int32.ofInt 1).toNatClampNeg), .int (xs (iv + Int32.ofInt 2).toNatClampNeg), .ref o]) X hM e1 ⟨e3, e4⟩ (show Cond.methodLink "LilyWheelsLaw" 170 (⟨"LilyWheelsLaw", "couldBe", "(LLilyWheels;II[J)I"⟩ : MethodName) ∈ ri_LW from List.mem_filter.mpr ⟨by decide +kernel, by decide +kernel⟩) (show Cond.static (⟨"LilyWheelsLaw", "couldBe", "(LLilyWheels;II[J)I"⟩ : MethodName) ∈ ri_LW from List.mem_filter.mpr ⟨by decide +kernel, by decide +kernel⟩) (show Cond.initialized (⟨"LilyWheelsLaw", "couldBe", "(LLilyWheels;II[J)I"⟩ : MethodName).cls ∈ ri_LW from List.mem_filter.mpr ⟨by decide +kernel, by decide +kernel⟩) (show Cond.codeWith (⟨"LilyWheelsLaw", "couldBe", "(LLilyWheels;II[J)I"⟩ : MethodName) method_21_code 5 (some .int) [(0, 10, 13, 28)] ∈ ri_LW from List.mem_filter.mpr ⟨by decide +kernel, by decide +kernel⟩) ⟨⟨by decide +kernel, by decide +kernel⟩, by decide +kernel⟩ (show decode code 1432 = .ok (.invokestatic 170, 3) by decide +kernel) rfl hl.1 hI (by omega) hout (by omega) (by omega) fun H1 locs1 σ3 g3 hI1 hout1 hp => ?_
  obtain ⟨z3, hP3⟩ := hP σ3 g3 hp
  refine W.widen (k := cells + 1) (n := slots + 6) (by omega) (by omega) ?_
  refine lv_istore (lv' := [(5, .int r), (0, .ref b), (1, .ref C), (2, .ref M), (3, .ref o), (4, .int iv)]) hx hb (show decode code 1435 = .ok (.istore 5, 2) by decide +kernel) hl (by decide) rfl (fun ls hl => ?_)
  refine lv_aload_n hx hb (show decode code 1437 = .ok (.aload_n 2, 1) by decide +kernel) rfl (lv_at hl 3 rfl) ?_
  refine lv_aload_n hx hb (show decode code 1438 = .ok (.aload_n 0, 1) by decide +kernel) rfl (lv_at hl 1 rfl) ?_
  refine lv_iload hx hb (show decode code 1439 = .ok (.iload 4, 2) by decide +kernel) (lv_at hl 5 rfl) ?_
  refine lv_iconst hx hb (show decode code 1441 = .ok (.iconst 1, 1) by decide +kernel) (v := Int32.ofInt 1) rfl ?_
  refine lv_iadd hx hb (show decode code 1442 = .ok (.iadd, 1) by decide +kernel) ?_
  refine va_sld hx hb hX hbl hbA hI1.2 h1 (show decode code 1443 = .ok (.iaload, 1) by decide +kernel) ?_
  refine lv_aload_n hx hb (show decode code 1444 = .ok (.aload_n 0, 1) by decide +kernel) rfl (lv_at hl 1 rfl) ?_
  refine lv_iload hx hb (show decode code 1445 = .ok (.iload 4, 2) by decide +kernel) (lv_at hl 5 rfl) ?_
  refine lv_iconst hx hb (show decode code 1447 = .ok (.iconst 2, 1) by decide +kernel) (v := Int32.ofInt 2) rfl ?_
  refine lv_iadd hx hb (show decode code 1448 = .ok (.iadd, 1) by decide +kernel) ?_
  refine va_sld hx hb hX hbl hbA hI1.2 h2 (show decode code 1449 = .ok (.iaload, 1) by decide +kernel) ?_
  exact lx_tail (pc := 1450) (km := 220) (n := 3) (as := [.int (xs (iv + Int32.ofInt 1).toNatClampNeg), .int (xs (iv + Int32.ofInt 2).toNatClampNeg)]) X hCM hMo (by omega) hP3 hI1 hout1 (rc_V (nm2 := TN 220) (b2 := TB 220) (m2 := TM 220) (rt2 := TR 220) (n := 2) (ci := 9) (T := TX11) (Nn := 13) ri_LWok rfl (show decode code 1450 = .ok (.invokevirtual 172, 3) by decide +kernel) (show Cond.methodLink "LilyWheelsLaw" 172 (TN 220) ∈ ri_LW from List.mem_filter.mpr ⟨by decide +kernel, by decide +kernel⟩) (show Cond.instanceMethod (TN 220) ∈ ri_LW from List.mem_filter.mpr ⟨by decide +kernel, by decide +kernel⟩) (show Cond.selects (TN 220).cls (TN 220) (TN 220) ∈ ri_LW from List.mem_filter.mpr ⟨by decide +kernel, by decide +kernel⟩) (show Cond.initialized (TN 220).cls ∈ ri_LW from List.mem_filter.mpr ⟨by decide +kernel, by decide +kernel⟩) (show Cond.code (TN 220) (TB 220) (TM 220) (TR 220) ∈ ri_LW from List.mem_filter.mpr ⟨by decide +kernel, by decide +kernel⟩) ⟨⟨by decide +kernel, by decide +kernel⟩, by decide +kernel⟩) lx_th1456 rfl rfl ⟨by decide +kernel, by decide +kernel⟩ hl (by omega) (by omega)
    (show decode code 1453 = .ok (.istore 6, 2) by decide +kernel) (show decode code 1455 = .ok (.aload_n 2, 1) by decide +kernel) (show decode code 1459 = .ok (.iload 5, 2) by decide +kernel) (show decode code 1461 = .ok (.if_icmp .eq 5, 3) by decide +kernel) (show decode code 1466 = .ok (.iload 5, 2) by decide +kernel) (show decode code 1468 = .ok (.ifCond .ne 15, 3) by decide +kernel) (show decode code 1471 = .ok (.aload_n 3, 1) by decide +kernel) (show decode code 1472 = .ok (.iconst 0, 1) by decide +kernel) (show decode code 1473 = .ok (.laload, 1) by decide +kernel) (show decode code 1474 = .ok (.iload 6, 2) by decide +kernel) (show decode code 1476 = .ok (.i2l, 1) by decide +kernel) (show decode code 1477 = .ok (.lcmp, 1) by decide +kernel) (show decode code 1478 = .ok (.ifCond .eq 5, 3) by decide +kernel) (show decode code 1483 = .ok (.goto 383, 3) by decide +kernel) (by omega) fun H2 locs2 ls2 σ4 hw hz hI2 hout2 hl2 => kk H2 locs2 ls2 σ4 g3 ⟨⟨hC, hCM, hMo, hz⟩, hw, hI2, hout2, hl2⟩
theorem lx_th1524 : ri_cok ri_LW vwCl "LilyWheelsLaw" code 7 1524 (TN 144) (TB 144) (TM 144) (TR 144) 1 (some 9) := (rc_V (nm2 := TN 144) (b2 := TB 144) (m2 := TM 144) (rt2 := TR 144) (n := 0) (ci := 9) (T := TX11) (Nn := 13) ri_LWok rfl (show decode code 1524 = .ok (.invokevirtual 104, 3) by decide +kernel) (show Cond.methodLink "LilyWheelsLaw" 104 (TN 144) ∈ ri_LW from List.mem_filter.mpr ⟨by decide +kernel, by decide +kernel⟩) (show Cond.instanceMethod (TN 144) ∈ ri_LW from List.mem_filter.mpr ⟨by decide +kernel, by decide +kernel⟩) (show Cond.selects (TN 144).cls (TN 144) (TN 144) ∈ ri_LW from List.mem_filter.mpr ⟨by decide +kernel, by decide +kernel⟩) (show Cond.initialized (TN 144).cls ∈ ri_LW from List.mem_filter.mpr ⟨by decide +kernel, by decide +kernel⟩) (show Cond.code (TN 144) (TB 144) (TM 144) (TR 144) ∈ ri_LW from List.mem_filter.mpr ⟨by decide +kernel, by decide +kernel⟩) ⟨⟨by decide +kernel, by decide +kernel⟩, by decide +kernel⟩)
theorem lc_mostFlies (X : lx_X Ks Kv Km D dT dL p l s m meth c b L xs) (S : lx_S D dT dL s b C M o iv K σ g H locs ls) (h1 : vp_in (iv + Int32.ofInt 1) L) (h2 : vp_in (iv + Int32.ofInt 2) L) (h3 : vp_in (iv + Int32.ofInt 3) L) (h4 : vp_in (iv + Int32.ofInt 4) L) (hcs : cells + 1 ≤ 601024) (hss : slots + 6 ≤ 7293034) (hk : K + 20 + 400000 ≤ 1000000)
    (kk : ∀ (H1 : Heap) (locs1 : List Loc) (ls1 : Array Slot) (σ4 : ri_S) (g4 : Nat → Int64), lx_S D dT dL s b C M o iv (K + 20) σ4 g4 H1 locs1 ls1 → W p l e room_1 s m #[Value.ref b] below meth c H1 locs1 (cells + 1) (slots + 6) Q (F0 m 1866 ls1 [])) : W p l e room_1 s m #[Value.ref b] below meth c H locs cells slots Q (F0 m 1486 ls []) := by
  obtain ⟨⟨hC, hCM, hMo, hoz⟩, hσ, hI, hout, hl⟩ := S
  have hx := X.2.1.1
  have hb := X.2.1.2.1
  have hX := X.1.2.2.2.2.2.2.1
  have hbl := X.1.2.2.2.2.2.2.2.1
  have htl := X.1.2.2.2.2.2.1
  have hown := X.1.2.2.2.2.1
  have hbA : ¬ lx_A s b := Nat.not_le.mpr hbl
  refine lv_aload_n hx hb (show decode code 1486 = .ok (.aload_n 1, 1) by decide +kernel) rfl (lv_at hl 1 rfl) ?_
  refine lv_aload_n hx hb (show decode code 1487 = .ok (.aload_n 0, 1) by decide +kernel) rfl (lv_at hl 0 rfl) ?_
  refine lv_iload hx hb (show decode code 1488 = .ok (.iload 4, 2) by decide +kernel) (lv_at hl 4 rfl) ?_
  refine lv_iconst hx hb (show decode code 1490 = .ok (.iconst 1, 1) by decide +kernel) (v := Int32.ofInt 1) rfl ?_
  refine lv_iadd hx hb (show decode code 1491 = .ok (.iadd, 1) by decide +kernel) ?_
  refine va_sld hx hb hX hbl hbA hI.2 h1 (show decode code 1492 = .ok (.iaload, 1) by decide +kernel) ?_
  refine lv_aload_n hx hb (show decode code 1493 = .ok (.aload_n 0, 1) by decide +kernel) rfl (lv_at hl 0 rfl) ?_
  refine lv_iload hx hb (show decode code 1494 = .ok (.iload 4, 2) by decide +kernel) (lv_at hl 4 rfl) ?_
  refine lv_iconst hx hb (show decode code 1496 = .ok (.iconst 2, 1) by decide +kernel) (v := Int32.ofInt 2) rfl ?_
  refine lv_iadd hx hb (show decode code 1497 = .ok (.iadd, 1) by decide +kernel) ?_
  refine va_sld hx hb hX hbl hbA hI.2 h2 (show decode code 1498 = .ok (.iaload, 1) by decide +kernel) ?_
  refine lv_aload_n hx hb (show decode code 1499 = .ok (.aload_n 3, 1) by decide +kernel) rfl (lv_at hl 3 rfl) ?_
  obtain ⟨r, rm, mc, ms, Post, hM, ⟨e1, e3, e4⟩, ⟨e5, e6⟩, hP⟩ := wc_mostFlies (Ks := Ks) (Kv := Kv) (Km := Km) (D := D) (dT := dT) (dL := dL) (g := g) (xs (iv + Int32.ofInt 1).toNatClampNeg) (xs (iv + Int32.ofInt 2).toNatClampNeg) hCM hMo hoz X.2.2.2.2.2.2.1 X.2.2.2.2.2.1 hσ hk
  refine lx_call (index := 173) (n := 4) (pc := 1500) (as := [.ref C, .int (xs (iv + Int32.ofInt 1).toNatClampNeg), .int (xs (iv + Int32.ofInt 2).toNatClampNeg), .ref o]) X hM e1 ⟨e3, e4⟩ (show Cond.methodLink "LilyWheelsLaw" 173 (⟨"LilyWheelsLaw", "mostFlies", "(LLilyWheels;II[J)I"⟩ : MethodName) ∈ ri_LW from List.mem_filter.mpr ⟨by decide +kernel, by decide +kernel⟩) (show Cond.static (⟨"LilyWheelsLaw", "mostFlies", "(LLilyWheels;II[J)I"⟩ : MethodName) ∈ ri_LW from List.mem_filter.mpr ⟨by decide +kernel, by decide +kernel⟩) (show Cond.initialized (⟨"LilyWheelsLaw", "mostFlies", "(LLilyWheels;II[J)I"⟩ : MethodName).cls ∈ ri_LW from List.mem_filter.mpr ⟨by decide +kernel, by decide +kernel⟩) (show Cond.codeWith (⟨"LilyWheelsLaw", "mostFlies", "(LLilyWheels;II[J)I"⟩ : MethodName) method_22_code 5 (some .int) [(0, 10, 13, 28), (0, 10, 17, 13)] ∈ ri_LW from List.mem_filter.mpr ⟨by decide +kernel, by decide +kernel⟩) ⟨⟨by decide +kernel, by decide +kernel⟩, by decide +kernel⟩ (show decode code 1500 = .ok (.invokestatic 173, 3) by decide +kernel) rfl hl.1 hI (by omega) hout (by omega) (by omega) fun H1 locs1 σ3 g3 hI1 hout1 hp => ?_
  obtain ⟨z3, hP3⟩ := hP σ3 g3 hp
  refine W.widen (k := cells + 1) (n := slots + 6) (by omega) (by omega) ?_
  refine lv_istore (lv' := [(5, .int r), (0, .ref b), (1, .ref C), (2, .ref M), (3, .ref o), (4, .int iv)]) hx hb (show decode code 1503 = .ok (.istore 5, 2) by decide +kernel) hl (by decide) rfl (fun ls hl => ?_)
  refine lv_aload_n hx hb (show decode code 1505 = .ok (.aload_n 2, 1) by decide +kernel) rfl (lv_at hl 3 rfl) ?_
  refine lv_aload_n hx hb (show decode code 1506 = .ok (.aload_n 0, 1) by decide +kernel) rfl (lv_at hl 1 rfl) ?_
  refine lv_iload hx hb (show decode code 1507 = .ok (.iload 4, 2) by decide +kernel) (lv_at hl 5 rfl) ?_
  refine lv_iconst hx hb (show decode code 1509 = .ok (.iconst 1, 1) by decide +kernel) (v := Int32.ofInt 1) rfl ?_
  refine lv_iadd hx hb (show decode code 1510 = .ok (.iadd, 1) by decide +kernel) ?_
  refine va_sld hx hb hX hbl hbA hI1.2 h1 (show decode code 1511 = .ok (.iaload, 1) by decide +kernel) ?_
  refine lv_aload_n hx hb (show decode code 1512 = .ok (.aload_n 0, 1) by decide +kernel) rfl (lv_at hl 1 rfl) ?_
  refine lv_iload hx hb (show decode code 1513 = .ok (.iload 4, 2) by decide +kernel) (lv_at hl 5 rfl) ?_
  refine lv_iconst hx hb (show decode code 1515 = .ok (.iconst 2, 1) by decide +kernel) (v := Int32.ofInt 2) rfl ?_
  refine lv_iadd hx hb (show decode code 1516 = .ok (.iadd, 1) by decide +kernel) ?_
  refine va_sld hx hb hX hbl hbA hI1.2 h2 (show decode code 1517 = .ok (.iaload, 1) by decide +kernel) ?_
  exact lx_tail (pc := 1518) (km := 221) (n := 3) (as := [.int (xs (iv + Int32.ofInt 1).toNatClampNeg), .int (xs (iv + Int32.ofInt 2).toNatClampNeg)]) X hCM hMo (by omega) hP3 hI1 hout1 (rc_V (nm2 := TN 221) (b2 := TB 221) (m2 := TM 221) (rt2 := TR 221) (n := 2) (ci := 9) (T := TX11) (Nn := 13) ri_LWok rfl (show decode code 1518 = .ok (.invokevirtual 175, 3) by decide +kernel) (show Cond.methodLink "LilyWheelsLaw" 175 (TN 221) ∈ ri_LW from List.mem_filter.mpr ⟨by decide +kernel, by decide +kernel⟩) (show Cond.instanceMethod (TN 221) ∈ ri_LW from List.mem_filter.mpr ⟨by decide +kernel, by decide +kernel⟩) (show Cond.selects (TN 221).cls (TN 221) (TN 221) ∈ ri_LW from List.mem_filter.mpr ⟨by decide +kernel, by decide +kernel⟩) (show Cond.initialized (TN 221).cls ∈ ri_LW from List.mem_filter.mpr ⟨by decide +kernel, by decide +kernel⟩) (show Cond.code (TN 221) (TB 221) (TM 221) (TR 221) ∈ ri_LW from List.mem_filter.mpr ⟨by decide +kernel, by decide +kernel⟩) ⟨⟨by decide +kernel, by decide +kernel⟩, by decide +kernel⟩) lx_th1524 rfl rfl ⟨by decide +kernel, by decide +kernel⟩ hl (by omega) (by omega)
    (show decode code 1521 = .ok (.istore 6, 2) by decide +kernel) (show decode code 1523 = .ok (.aload_n 2, 1) by decide +kernel) (show decode code 1527 = .ok (.iload 5, 2) by decide +kernel) (show decode code 1529 = .ok (.if_icmp .eq 5, 3) by decide +kernel) (show decode code 1534 = .ok (.iload 5, 2) by decide +kernel) (show decode code 1536 = .ok (.ifCond .ne 15, 3) by decide +kernel) (show decode code 1539 = .ok (.aload_n 3, 1) by decide +kernel) (show decode code 1540 = .ok (.iconst 0, 1) by decide +kernel) (show decode code 1541 = .ok (.laload, 1) by decide +kernel) (show decode code 1542 = .ok (.iload 6, 2) by decide +kernel) (show decode code 1544 = .ok (.i2l, 1) by decide +kernel) (show decode code 1545 = .ok (.lcmp, 1) by decide +kernel) (show decode code 1546 = .ok (.ifCond .eq 5, 3) by decide +kernel) (show decode code 1551 = .ok (.goto 315, 3) by decide +kernel) (by omega) fun H2 locs2 ls2 σ4 hw hz hI2 hout2 hl2 => kk H2 locs2 ls2 σ4 g3 ⟨⟨hC, hCM, hMo, hz⟩, hw, hI2, hout2, hl2⟩
theorem lx_th1624 : ri_cok ri_LW vwCl "LilyWheelsLaw" code 7 1624 (TN 144) (TB 144) (TM 144) (TR 144) 1 (some 9) := (rc_V (nm2 := TN 144) (b2 := TB 144) (m2 := TM 144) (rt2 := TR 144) (n := 0) (ci := 9) (T := TX11) (Nn := 13) ri_LWok rfl (show decode code 1624 = .ok (.invokevirtual 104, 3) by decide +kernel) (show Cond.methodLink "LilyWheelsLaw" 104 (TN 144) ∈ ri_LW from List.mem_filter.mpr ⟨by decide +kernel, by decide +kernel⟩) (show Cond.instanceMethod (TN 144) ∈ ri_LW from List.mem_filter.mpr ⟨by decide +kernel, by decide +kernel⟩) (show Cond.selects (TN 144).cls (TN 144) (TN 144) ∈ ri_LW from List.mem_filter.mpr ⟨by decide +kernel, by decide +kernel⟩) (show Cond.initialized (TN 144).cls ∈ ri_LW from List.mem_filter.mpr ⟨by decide +kernel, by decide +kernel⟩) (show Cond.code (TN 144) (TB 144) (TM 144) (TR 144) ∈ ri_LW from List.mem_filter.mpr ⟨by decide +kernel, by decide +kernel⟩) ⟨⟨by decide +kernel, by decide +kernel⟩, by decide +kernel⟩)
theorem lc_runScript (X : lx_X Ks Kv Km D dT dL p l s m meth c b L xs) (S : lx_S D dT dL s b C M o iv K σ g H locs ls) (h1 : vp_in (iv + Int32.ofInt 1) L) (h2 : vp_in (iv + Int32.ofInt 2) L) (h3 : vp_in (iv + Int32.ofInt 3) L) (h4 : vp_in (iv + Int32.ofInt 4) L) (hcs : cells + 1 ≤ 601024) (hss : slots + 6 ≤ 7293034) (hk : K + 20 + 400000 ≤ 1000000)
    (kk : ∀ (H1 : Heap) (locs1 : List Loc) (ls1 : Array Slot) (σ4 : ri_S) (g4 : Nat → Int64), lx_S D dT dL s b C M o iv (K + 20) σ4 g4 H1 locs1 ls1 → W p l e room_1 s m #[Value.ref b] below meth c H1 locs1 (cells + 1) (slots + 6) Q (F0 m 1866 ls1 [])) : W p l e room_1 s m #[Value.ref b] below meth c H locs cells slots Q (F0 m 1554 ls []) := by
  obtain ⟨⟨hC, hCM, hMo, hoz⟩, hσ, hI, hout, hl⟩ := S
  have hx := X.2.1.1
  have hb := X.2.1.2.1
  have hX := X.1.2.2.2.2.2.2.1
  have hbl := X.1.2.2.2.2.2.2.2.1
  have htl := X.1.2.2.2.2.2.1
  have hown := X.1.2.2.2.2.1
  have hbA : ¬ lx_A s b := Nat.not_le.mpr hbl
  refine lv_aload_n hx hb (show decode code 1554 = .ok (.aload_n 1, 1) by decide +kernel) rfl (lv_at hl 1 rfl) ?_
  refine lv_aload_n hx hb (show decode code 1555 = .ok (.aload_n 0, 1) by decide +kernel) rfl (lv_at hl 0 rfl) ?_
  refine lv_iload hx hb (show decode code 1556 = .ok (.iload 4, 2) by decide +kernel) (lv_at hl 4 rfl) ?_
  refine lv_iconst hx hb (show decode code 1558 = .ok (.iconst 1, 1) by decide +kernel) (v := Int32.ofInt 1) rfl ?_
  refine lv_iadd hx hb (show decode code 1559 = .ok (.iadd, 1) by decide +kernel) ?_
  refine va_sld hx hb hX hbl hbA hI.2 h1 (show decode code 1560 = .ok (.iaload, 1) by decide +kernel) ?_
  refine lv_aload_n hx hb (show decode code 1561 = .ok (.aload_n 0, 1) by decide +kernel) rfl (lv_at hl 0 rfl) ?_
  refine lv_iload hx hb (show decode code 1562 = .ok (.iload 4, 2) by decide +kernel) (lv_at hl 4 rfl) ?_
  refine lv_iconst hx hb (show decode code 1564 = .ok (.iconst 2, 1) by decide +kernel) (v := Int32.ofInt 2) rfl ?_
  refine lv_iadd hx hb (show decode code 1565 = .ok (.iadd, 1) by decide +kernel) ?_
  refine va_sld hx hb hX hbl hbA hI.2 h2 (show decode code 1566 = .ok (.iaload, 1) by decide +kernel) ?_
  refine lv_i2l hx hb (show decode code 1567 = .ok (.i2l, 1) by decide +kernel) rfl ?_
  refine lv_bipush hx hb (show decode code 1568 = .ok (.bipush 32, 2) by decide +kernel) (v := Int32.ofInt 32) (by decide +kernel) ?_
  refine lv_lshl hx hb (show decode code 1570 = .ok (.lshl, 1) by decide +kernel) rfl ?_
  refine lv_aload_n hx hb (show decode code 1571 = .ok (.aload_n 0, 1) by decide +kernel) rfl (lv_at hl 0 rfl) ?_
  refine lv_iload hx hb (show decode code 1572 = .ok (.iload 4, 2) by decide +kernel) (lv_at hl 4 rfl) ?_
  refine lv_iconst hx hb (show decode code 1574 = .ok (.iconst 3, 1) by decide +kernel) (v := Int32.ofInt 3) rfl ?_
  refine lv_iadd hx hb (show decode code 1575 = .ok (.iadd, 1) by decide +kernel) ?_
  refine va_sld hx hb hX hbl hbA hI.2 h3 (show decode code 1576 = .ok (.iaload, 1) by decide +kernel) ?_
  refine lv_i2l hx hb (show decode code 1577 = .ok (.i2l, 1) by decide +kernel) rfl ?_
  refine lv_ldc2 (v := 4294967295) hx hb hown (htl _ (show Cond.constantLong R_law 176 4294967295 ∈ lw_tbl by decide +kernel)) (show decode code 1578 = .ok (.ldc2_w 176, 3) by decide +kernel) ?_
  refine lv_land hx hb (show decode code 1581 = .ok (.land, 1) by decide +kernel) ?_
  refine lv_lor hx hb (show decode code 1582 = .ok (.lor, 1) by decide +kernel) ?_
  refine lv_aload_n hx hb (show decode code 1583 = .ok (.aload_n 3, 1) by decide +kernel) rfl (lv_at hl 3 rfl) ?_
  obtain ⟨r, rm, mc, ms, Post, hM, ⟨e1, e3, e4⟩, ⟨e5, e6⟩, hP⟩ := wc_runScript (Ks := Ks) (Kv := Kv) (Km := Km) (D := D) (dT := dT) (dL := dL) (g := g) (xs (iv + Int32.ofInt 1).toNatClampNeg) (lx_j (xs (iv + Int32.ofInt 2).toNatClampNeg) (xs (iv + Int32.ofInt 3).toNatClampNeg)) hCM hMo hoz X.2.2.2.2.2.2.1 X.2.2.2.2.2.1 hσ hk
  refine lx_call (index := 178) (n := 4) (pc := 1584) (as := [.ref C, .int (xs (iv + Int32.ofInt 1).toNatClampNeg), .long (lx_j (xs (iv + Int32.ofInt 2).toNatClampNeg) (xs (iv + Int32.ofInt 3).toNatClampNeg)), .ref o]) X hM e1 ⟨e3, e4⟩ (show Cond.methodLink "LilyWheelsLaw" 178 (⟨"LilyWheelsLaw", "runScript", "(LLilyWheels;IJ[J)I"⟩ : MethodName) ∈ ri_LW from List.mem_filter.mpr ⟨by decide +kernel, by decide +kernel⟩) (show Cond.static (⟨"LilyWheelsLaw", "runScript", "(LLilyWheels;IJ[J)I"⟩ : MethodName) ∈ ri_LW from List.mem_filter.mpr ⟨by decide +kernel, by decide +kernel⟩) (show Cond.initialized (⟨"LilyWheelsLaw", "runScript", "(LLilyWheels;IJ[J)I"⟩ : MethodName).cls ∈ ri_LW from List.mem_filter.mpr ⟨by decide +kernel, by decide +kernel⟩) (show Cond.codeWith (⟨"LilyWheelsLaw", "runScript", "(LLilyWheels;IJ[J)I"⟩ : MethodName) method_23_code 6 (some .int) [(0, 11, 14, 13)] ∈ ri_LW from List.mem_filter.mpr ⟨by decide +kernel, by decide +kernel⟩) ⟨⟨by decide +kernel, by decide +kernel⟩, by decide +kernel⟩ (show decode code 1584 = .ok (.invokestatic 178, 3) by decide +kernel) rfl hl.1 hI (by omega) hout (by omega) (by omega) fun H1 locs1 σ3 g3 hI1 hout1 hp => ?_
  obtain ⟨z3, hP3⟩ := hP σ3 g3 hp
  refine W.widen (k := cells + 1) (n := slots + 6) (by omega) (by omega) ?_
  refine lv_istore (lv' := [(5, .int r), (0, .ref b), (1, .ref C), (2, .ref M), (3, .ref o), (4, .int iv)]) hx hb (show decode code 1587 = .ok (.istore 5, 2) by decide +kernel) hl (by decide) rfl (fun ls hl => ?_)
  refine lv_aload_n hx hb (show decode code 1589 = .ok (.aload_n 2, 1) by decide +kernel) rfl (lv_at hl 3 rfl) ?_
  refine lv_aload_n hx hb (show decode code 1590 = .ok (.aload_n 0, 1) by decide +kernel) rfl (lv_at hl 1 rfl) ?_
  refine lv_iload hx hb (show decode code 1591 = .ok (.iload 4, 2) by decide +kernel) (lv_at hl 5 rfl) ?_
  refine lv_iconst hx hb (show decode code 1593 = .ok (.iconst 1, 1) by decide +kernel) (v := Int32.ofInt 1) rfl ?_
  refine lv_iadd hx hb (show decode code 1594 = .ok (.iadd, 1) by decide +kernel) ?_
  refine va_sld hx hb hX hbl hbA hI1.2 h1 (show decode code 1595 = .ok (.iaload, 1) by decide +kernel) ?_
  refine lv_aload_n hx hb (show decode code 1596 = .ok (.aload_n 0, 1) by decide +kernel) rfl (lv_at hl 1 rfl) ?_
  refine lv_iload hx hb (show decode code 1597 = .ok (.iload 4, 2) by decide +kernel) (lv_at hl 5 rfl) ?_
  refine lv_iconst hx hb (show decode code 1599 = .ok (.iconst 2, 1) by decide +kernel) (v := Int32.ofInt 2) rfl ?_
  refine lv_iadd hx hb (show decode code 1600 = .ok (.iadd, 1) by decide +kernel) ?_
  refine va_sld hx hb hX hbl hbA hI1.2 h2 (show decode code 1601 = .ok (.iaload, 1) by decide +kernel) ?_
  refine lv_i2l hx hb (show decode code 1602 = .ok (.i2l, 1) by decide +kernel) rfl ?_
  refine lv_bipush hx hb (show decode code 1603 = .ok (.bipush 32, 2) by decide +kernel) (v := Int32.ofInt 32) (by decide +kernel) ?_
  refine lv_lshl hx hb (show decode code 1605 = .ok (.lshl, 1) by decide +kernel) rfl ?_
  refine lv_aload_n hx hb (show decode code 1606 = .ok (.aload_n 0, 1) by decide +kernel) rfl (lv_at hl 1 rfl) ?_
  refine lv_iload hx hb (show decode code 1607 = .ok (.iload 4, 2) by decide +kernel) (lv_at hl 5 rfl) ?_
  refine lv_iconst hx hb (show decode code 1609 = .ok (.iconst 3, 1) by decide +kernel) (v := Int32.ofInt 3) rfl ?_
  refine lv_iadd hx hb (show decode code 1610 = .ok (.iadd, 1) by decide +kernel) ?_
  refine va_sld hx hb hX hbl hbA hI1.2 h3 (show decode code 1611 = .ok (.iaload, 1) by decide +kernel) ?_
  refine lv_i2l hx hb (show decode code 1612 = .ok (.i2l, 1) by decide +kernel) rfl ?_
  refine lv_ldc2 (v := 4294967295) hx hb hown (htl _ (show Cond.constantLong R_law 176 4294967295 ∈ lw_tbl by decide +kernel)) (show decode code 1613 = .ok (.ldc2_w 176, 3) by decide +kernel) ?_
  refine lv_land hx hb (show decode code 1616 = .ok (.land, 1) by decide +kernel) ?_
  refine lv_lor hx hb (show decode code 1617 = .ok (.lor, 1) by decide +kernel) ?_
  exact lx_tail (pc := 1618) (km := 223) (n := 3) (as := [.int (xs (iv + Int32.ofInt 1).toNatClampNeg), .long (lx_j (xs (iv + Int32.ofInt 2).toNatClampNeg) (xs (iv + Int32.ofInt 3).toNatClampNeg))]) X hCM hMo (by omega) hP3 hI1 hout1 (rc_V (nm2 := TN 223) (b2 := TB 223) (m2 := TM 223) (rt2 := TR 223) (n := 2) (ci := 9) (T := TX11) (Nn := 13) ri_LWok rfl (show decode code 1618 = .ok (.invokevirtual 181, 3) by decide +kernel) (show Cond.methodLink "LilyWheelsLaw" 181 (TN 223) ∈ ri_LW from List.mem_filter.mpr ⟨by decide +kernel, by decide +kernel⟩) (show Cond.instanceMethod (TN 223) ∈ ri_LW from List.mem_filter.mpr ⟨by decide +kernel, by decide +kernel⟩) (show Cond.selects (TN 223).cls (TN 223) (TN 223) ∈ ri_LW from List.mem_filter.mpr ⟨by decide +kernel, by decide +kernel⟩) (show Cond.initialized (TN 223).cls ∈ ri_LW from List.mem_filter.mpr ⟨by decide +kernel, by decide +kernel⟩) (show Cond.code (TN 223) (TB 223) (TM 223) (TR 223) ∈ ri_LW from List.mem_filter.mpr ⟨by decide +kernel, by decide +kernel⟩) ⟨⟨by decide +kernel, by decide +kernel⟩, by decide +kernel⟩) lx_th1624 rfl rfl ⟨by decide +kernel, by decide +kernel⟩ hl (by omega) (by omega)
    (show decode code 1621 = .ok (.istore 6, 2) by decide +kernel) (show decode code 1623 = .ok (.aload_n 2, 1) by decide +kernel) (show decode code 1627 = .ok (.iload 5, 2) by decide +kernel) (show decode code 1629 = .ok (.if_icmp .eq 5, 3) by decide +kernel) (show decode code 1634 = .ok (.iload 5, 2) by decide +kernel) (show decode code 1636 = .ok (.ifCond .ne 15, 3) by decide +kernel) (show decode code 1639 = .ok (.aload_n 3, 1) by decide +kernel) (show decode code 1640 = .ok (.iconst 0, 1) by decide +kernel) (show decode code 1641 = .ok (.laload, 1) by decide +kernel) (show decode code 1642 = .ok (.iload 6, 2) by decide +kernel) (show decode code 1644 = .ok (.i2l, 1) by decide +kernel) (show decode code 1645 = .ok (.lcmp, 1) by decide +kernel) (show decode code 1646 = .ok (.ifCond .eq 5, 3) by decide +kernel) (show decode code 1651 = .ok (.goto 215, 3) by decide +kernel) (by omega) fun H2 locs2 ls2 σ4 hw hz hI2 hout2 hl2 => kk H2 locs2 ls2 σ4 g3 ⟨⟨hC, hCM, hMo, hz⟩, hw, hI2, hout2, hl2⟩
theorem lx_th1724 : ri_cok ri_LW vwCl "LilyWheelsLaw" code 7 1724 (TN 144) (TB 144) (TM 144) (TR 144) 1 (some 9) := (rc_V (nm2 := TN 144) (b2 := TB 144) (m2 := TM 144) (rt2 := TR 144) (n := 0) (ci := 9) (T := TX11) (Nn := 13) ri_LWok rfl (show decode code 1724 = .ok (.invokevirtual 104, 3) by decide +kernel) (show Cond.methodLink "LilyWheelsLaw" 104 (TN 144) ∈ ri_LW from List.mem_filter.mpr ⟨by decide +kernel, by decide +kernel⟩) (show Cond.instanceMethod (TN 144) ∈ ri_LW from List.mem_filter.mpr ⟨by decide +kernel, by decide +kernel⟩) (show Cond.selects (TN 144).cls (TN 144) (TN 144) ∈ ri_LW from List.mem_filter.mpr ⟨by decide +kernel, by decide +kernel⟩) (show Cond.initialized (TN 144).cls ∈ ri_LW from List.mem_filter.mpr ⟨by decide +kernel, by decide +kernel⟩) (show Cond.code (TN 144) (TB 144) (TM 144) (TR 144) ∈ ri_LW from List.mem_filter.mpr ⟨by decide +kernel, by decide +kernel⟩) ⟨⟨by decide +kernel, by decide +kernel⟩, by decide +kernel⟩)
theorem lc_simulate (X : lx_X Ks Kv Km D dT dL p l s m meth c b L xs) (S : lx_S D dT dL s b C M o iv K σ g H locs ls) (h1 : vp_in (iv + Int32.ofInt 1) L) (h2 : vp_in (iv + Int32.ofInt 2) L) (h3 : vp_in (iv + Int32.ofInt 3) L) (h4 : vp_in (iv + Int32.ofInt 4) L) (hcs : cells + 1 ≤ 601024) (hss : slots + 6 ≤ 7293034) (hk : K + 20 + 400000 ≤ 1000000)
    (kk : ∀ (H1 : Heap) (locs1 : List Loc) (ls1 : Array Slot) (σ4 : ri_S) (g4 : Nat → Int64), lx_S D dT dL s b C M o iv (K + 20) σ4 g4 H1 locs1 ls1 → W p l e room_1 s m #[Value.ref b] below meth c H1 locs1 (cells + 1) (slots + 6) Q (F0 m 1866 ls1 [])) : W p l e room_1 s m #[Value.ref b] below meth c H locs cells slots Q (F0 m 1654 ls []) := by
  obtain ⟨⟨hC, hCM, hMo, hoz⟩, hσ, hI, hout, hl⟩ := S
  have hx := X.2.1.1
  have hb := X.2.1.2.1
  have hX := X.1.2.2.2.2.2.2.1
  have hbl := X.1.2.2.2.2.2.2.2.1
  have htl := X.1.2.2.2.2.2.1
  have hown := X.1.2.2.2.2.1
  have hbA : ¬ lx_A s b := Nat.not_le.mpr hbl
  refine lv_aload_n hx hb (show decode code 1654 = .ok (.aload_n 1, 1) by decide +kernel) rfl (lv_at hl 1 rfl) ?_
  refine lv_aload_n hx hb (show decode code 1655 = .ok (.aload_n 0, 1) by decide +kernel) rfl (lv_at hl 0 rfl) ?_
  refine lv_iload hx hb (show decode code 1656 = .ok (.iload 4, 2) by decide +kernel) (lv_at hl 4 rfl) ?_
  refine lv_iconst hx hb (show decode code 1658 = .ok (.iconst 1, 1) by decide +kernel) (v := Int32.ofInt 1) rfl ?_
  refine lv_iadd hx hb (show decode code 1659 = .ok (.iadd, 1) by decide +kernel) ?_
  refine va_sld hx hb hX hbl hbA hI.2 h1 (show decode code 1660 = .ok (.iaload, 1) by decide +kernel) ?_
  refine lv_i2l hx hb (show decode code 1661 = .ok (.i2l, 1) by decide +kernel) rfl ?_
  refine lv_bipush hx hb (show decode code 1662 = .ok (.bipush 32, 2) by decide +kernel) (v := Int32.ofInt 32) (by decide +kernel) ?_
  refine lv_lshl hx hb (show decode code 1664 = .ok (.lshl, 1) by decide +kernel) rfl ?_
  refine lv_aload_n hx hb (show decode code 1665 = .ok (.aload_n 0, 1) by decide +kernel) rfl (lv_at hl 0 rfl) ?_
  refine lv_iload hx hb (show decode code 1666 = .ok (.iload 4, 2) by decide +kernel) (lv_at hl 4 rfl) ?_
  refine lv_iconst hx hb (show decode code 1668 = .ok (.iconst 2, 1) by decide +kernel) (v := Int32.ofInt 2) rfl ?_
  refine lv_iadd hx hb (show decode code 1669 = .ok (.iadd, 1) by decide +kernel) ?_
  refine va_sld hx hb hX hbl hbA hI.2 h2 (show decode code 1670 = .ok (.iaload, 1) by decide +kernel) ?_
  refine lv_i2l hx hb (show decode code 1671 = .ok (.i2l, 1) by decide +kernel) rfl ?_
  refine lv_ldc2 (v := 4294967295) hx hb hown (htl _ (show Cond.constantLong R_law 176 4294967295 ∈ lw_tbl by decide +kernel)) (show decode code 1672 = .ok (.ldc2_w 176, 3) by decide +kernel) ?_
  refine lv_land hx hb (show decode code 1675 = .ok (.land, 1) by decide +kernel) ?_
  refine lv_lor hx hb (show decode code 1676 = .ok (.lor, 1) by decide +kernel) ?_
  refine lv_aload_n hx hb (show decode code 1677 = .ok (.aload_n 0, 1) by decide +kernel) rfl (lv_at hl 0 rfl) ?_
  refine lv_iload hx hb (show decode code 1678 = .ok (.iload 4, 2) by decide +kernel) (lv_at hl 4 rfl) ?_
  refine lv_iconst hx hb (show decode code 1680 = .ok (.iconst 3, 1) by decide +kernel) (v := Int32.ofInt 3) rfl ?_
  refine lv_iadd hx hb (show decode code 1681 = .ok (.iadd, 1) by decide +kernel) ?_
  refine va_sld hx hb hX hbl hbA hI.2 h3 (show decode code 1682 = .ok (.iaload, 1) by decide +kernel) ?_
  refine lv_aload_n hx hb (show decode code 1683 = .ok (.aload_n 3, 1) by decide +kernel) rfl (lv_at hl 3 rfl) ?_
  obtain ⟨r, rm, mc, ms, Post, hM, ⟨e1, e3, e4⟩, ⟨e5, e6⟩, hP⟩ := wc_simulate (Ks := Ks) (Kv := Kv) (Km := Km) (D := D) (dT := dT) (dL := dL) (g := g) (lx_j (xs (iv + Int32.ofInt 1).toNatClampNeg) (xs (iv + Int32.ofInt 2).toNatClampNeg)) (xs (iv + Int32.ofInt 3).toNatClampNeg) hCM hMo hoz X.2.2.2.2.2.2.1 X.2.2.2.2.2.1 hσ hk
  refine lx_call (index := 182) (n := 4) (pc := 1684) (as := [.ref C, .long (lx_j (xs (iv + Int32.ofInt 1).toNatClampNeg) (xs (iv + Int32.ofInt 2).toNatClampNeg)), .int (xs (iv + Int32.ofInt 3).toNatClampNeg), .ref o]) X hM e1 ⟨e3, e4⟩ (show Cond.methodLink "LilyWheelsLaw" 182 (⟨"LilyWheelsLaw", "simulate", "(LLilyWheels;JI[J)I"⟩ : MethodName) ∈ ri_LW from List.mem_filter.mpr ⟨by decide +kernel, by decide +kernel⟩) (show Cond.static (⟨"LilyWheelsLaw", "simulate", "(LLilyWheels;JI[J)I"⟩ : MethodName) ∈ ri_LW from List.mem_filter.mpr ⟨by decide +kernel, by decide +kernel⟩) (show Cond.initialized (⟨"LilyWheelsLaw", "simulate", "(LLilyWheels;JI[J)I"⟩ : MethodName).cls ∈ ri_LW from List.mem_filter.mpr ⟨by decide +kernel, by decide +kernel⟩) (show Cond.codeWith (⟨"LilyWheelsLaw", "simulate", "(LLilyWheels;JI[J)I"⟩ : MethodName) method_24_code 6 (some .int) [(0, 11, 14, 13)] ∈ ri_LW from List.mem_filter.mpr ⟨by decide +kernel, by decide +kernel⟩) ⟨⟨by decide +kernel, by decide +kernel⟩, by decide +kernel⟩ (show decode code 1684 = .ok (.invokestatic 182, 3) by decide +kernel) rfl hl.1 hI (by omega) hout (by omega) (by omega) fun H1 locs1 σ3 g3 hI1 hout1 hp => ?_
  obtain ⟨z3, hP3⟩ := hP σ3 g3 hp
  refine W.widen (k := cells + 1) (n := slots + 6) (by omega) (by omega) ?_
  refine lv_istore (lv' := [(5, .int r), (0, .ref b), (1, .ref C), (2, .ref M), (3, .ref o), (4, .int iv)]) hx hb (show decode code 1687 = .ok (.istore 5, 2) by decide +kernel) hl (by decide) rfl (fun ls hl => ?_)
  refine lv_aload_n hx hb (show decode code 1689 = .ok (.aload_n 2, 1) by decide +kernel) rfl (lv_at hl 3 rfl) ?_
  refine lv_aload_n hx hb (show decode code 1690 = .ok (.aload_n 0, 1) by decide +kernel) rfl (lv_at hl 1 rfl) ?_
  refine lv_iload hx hb (show decode code 1691 = .ok (.iload 4, 2) by decide +kernel) (lv_at hl 5 rfl) ?_
  refine lv_iconst hx hb (show decode code 1693 = .ok (.iconst 1, 1) by decide +kernel) (v := Int32.ofInt 1) rfl ?_
  refine lv_iadd hx hb (show decode code 1694 = .ok (.iadd, 1) by decide +kernel) ?_
  refine va_sld hx hb hX hbl hbA hI1.2 h1 (show decode code 1695 = .ok (.iaload, 1) by decide +kernel) ?_
  refine lv_i2l hx hb (show decode code 1696 = .ok (.i2l, 1) by decide +kernel) rfl ?_
  refine lv_bipush hx hb (show decode code 1697 = .ok (.bipush 32, 2) by decide +kernel) (v := Int32.ofInt 32) (by decide +kernel) ?_
  refine lv_lshl hx hb (show decode code 1699 = .ok (.lshl, 1) by decide +kernel) rfl ?_
  refine lv_aload_n hx hb (show decode code 1700 = .ok (.aload_n 0, 1) by decide +kernel) rfl (lv_at hl 1 rfl) ?_
  refine lv_iload hx hb (show decode code 1701 = .ok (.iload 4, 2) by decide +kernel) (lv_at hl 5 rfl) ?_
  refine lv_iconst hx hb (show decode code 1703 = .ok (.iconst 2, 1) by decide +kernel) (v := Int32.ofInt 2) rfl ?_
  refine lv_iadd hx hb (show decode code 1704 = .ok (.iadd, 1) by decide +kernel) ?_
  refine va_sld hx hb hX hbl hbA hI1.2 h2 (show decode code 1705 = .ok (.iaload, 1) by decide +kernel) ?_
  refine lv_i2l hx hb (show decode code 1706 = .ok (.i2l, 1) by decide +kernel) rfl ?_
  refine lv_ldc2 (v := 4294967295) hx hb hown (htl _ (show Cond.constantLong R_law 176 4294967295 ∈ lw_tbl by decide +kernel)) (show decode code 1707 = .ok (.ldc2_w 176, 3) by decide +kernel) ?_
  refine lv_land hx hb (show decode code 1710 = .ok (.land, 1) by decide +kernel) ?_
  refine lv_lor hx hb (show decode code 1711 = .ok (.lor, 1) by decide +kernel) ?_
  refine lv_aload_n hx hb (show decode code 1712 = .ok (.aload_n 0, 1) by decide +kernel) rfl (lv_at hl 1 rfl) ?_
  refine lv_iload hx hb (show decode code 1713 = .ok (.iload 4, 2) by decide +kernel) (lv_at hl 5 rfl) ?_
  refine lv_iconst hx hb (show decode code 1715 = .ok (.iconst 3, 1) by decide +kernel) (v := Int32.ofInt 3) rfl ?_
  refine lv_iadd hx hb (show decode code 1716 = .ok (.iadd, 1) by decide +kernel) ?_
  refine va_sld hx hb hX hbl hbA hI1.2 h3 (show decode code 1717 = .ok (.iaload, 1) by decide +kernel) ?_
  exact lx_tail (pc := 1718) (km := 226) (n := 3) (as := [.long (lx_j (xs (iv + Int32.ofInt 1).toNatClampNeg) (xs (iv + Int32.ofInt 2).toNatClampNeg)), .int (xs (iv + Int32.ofInt 3).toNatClampNeg)]) X hCM hMo (by omega) hP3 hI1 hout1 (rc_V (nm2 := TN 226) (b2 := TB 226) (m2 := TM 226) (rt2 := TR 226) (n := 2) (ci := 9) (T := TX11) (Nn := 13) ri_LWok rfl (show decode code 1718 = .ok (.invokevirtual 185, 3) by decide +kernel) (show Cond.methodLink "LilyWheelsLaw" 185 (TN 226) ∈ ri_LW from List.mem_filter.mpr ⟨by decide +kernel, by decide +kernel⟩) (show Cond.instanceMethod (TN 226) ∈ ri_LW from List.mem_filter.mpr ⟨by decide +kernel, by decide +kernel⟩) (show Cond.selects (TN 226).cls (TN 226) (TN 226) ∈ ri_LW from List.mem_filter.mpr ⟨by decide +kernel, by decide +kernel⟩) (show Cond.initialized (TN 226).cls ∈ ri_LW from List.mem_filter.mpr ⟨by decide +kernel, by decide +kernel⟩) (show Cond.code (TN 226) (TB 226) (TM 226) (TR 226) ∈ ri_LW from List.mem_filter.mpr ⟨by decide +kernel, by decide +kernel⟩) ⟨⟨by decide +kernel, by decide +kernel⟩, by decide +kernel⟩) lx_th1724 rfl rfl ⟨by decide +kernel, by decide +kernel⟩ hl (by omega) (by omega)
    (show decode code 1721 = .ok (.istore 6, 2) by decide +kernel) (show decode code 1723 = .ok (.aload_n 2, 1) by decide +kernel) (show decode code 1727 = .ok (.iload 5, 2) by decide +kernel) (show decode code 1729 = .ok (.if_icmp .eq 5, 3) by decide +kernel) (show decode code 1734 = .ok (.iload 5, 2) by decide +kernel) (show decode code 1736 = .ok (.ifCond .ne 15, 3) by decide +kernel) (show decode code 1739 = .ok (.aload_n 3, 1) by decide +kernel) (show decode code 1740 = .ok (.iconst 0, 1) by decide +kernel) (show decode code 1741 = .ok (.laload, 1) by decide +kernel) (show decode code 1742 = .ok (.iload 6, 2) by decide +kernel) (show decode code 1744 = .ok (.i2l, 1) by decide +kernel) (show decode code 1745 = .ok (.lcmp, 1) by decide +kernel) (show decode code 1746 = .ok (.ifCond .eq 5, 3) by decide +kernel) (show decode code 1751 = .ok (.goto 115, 3) by decide +kernel) (by omega) fun H2 locs2 ls2 σ4 hw hz hI2 hout2 hl2 => kk H2 locs2 ls2 σ4 g3 ⟨⟨hC, hCM, hMo, hz⟩, hw, hI2, hout2, hl2⟩
theorem lx_th1780 : ri_cok ri_LW vwCl "LilyWheelsLaw" code 7 1780 (TN 144) (TB 144) (TM 144) (TR 144) 1 (some 9) := (rc_V (nm2 := TN 144) (b2 := TB 144) (m2 := TM 144) (rt2 := TR 144) (n := 0) (ci := 9) (T := TX11) (Nn := 13) ri_LWok rfl (show decode code 1780 = .ok (.invokevirtual 104, 3) by decide +kernel) (show Cond.methodLink "LilyWheelsLaw" 104 (TN 144) ∈ ri_LW from List.mem_filter.mpr ⟨by decide +kernel, by decide +kernel⟩) (show Cond.instanceMethod (TN 144) ∈ ri_LW from List.mem_filter.mpr ⟨by decide +kernel, by decide +kernel⟩) (show Cond.selects (TN 144).cls (TN 144) (TN 144) ∈ ri_LW from List.mem_filter.mpr ⟨by decide +kernel, by decide +kernel⟩) (show Cond.initialized (TN 144).cls ∈ ri_LW from List.mem_filter.mpr ⟨by decide +kernel, by decide +kernel⟩) (show Cond.code (TN 144) (TB 144) (TM 144) (TR 144) ∈ ri_LW from List.mem_filter.mpr ⟨by decide +kernel, by decide +kernel⟩) ⟨⟨by decide +kernel, by decide +kernel⟩, by decide +kernel⟩)
theorem lc_save (X : lx_X Ks Kv Km D dT dL p l s m meth c b L xs) (S : lx_S D dT dL s b C M o iv K σ g H locs ls) (h1 : vp_in (iv + Int32.ofInt 1) L) (h2 : vp_in (iv + Int32.ofInt 2) L) (h3 : vp_in (iv + Int32.ofInt 3) L) (h4 : vp_in (iv + Int32.ofInt 4) L) (hcs : cells + 1 ≤ 601024) (hss : slots + 6 ≤ 7293034) (hk : K + 20 + 400000 ≤ 1000000)
    (kk : ∀ (H1 : Heap) (locs1 : List Loc) (ls1 : Array Slot) (σ4 : ri_S) (g4 : Nat → Int64), lx_S D dT dL s b C M o iv (K + 20) σ4 g4 H1 locs1 ls1 → W p l e room_1 s m #[Value.ref b] below meth c H1 locs1 (cells + 1) (slots + 6) Q (F0 m 1866 ls1 [])) : W p l e room_1 s m #[Value.ref b] below meth c H locs cells slots Q (F0 m 1754 ls []) := by
  obtain ⟨⟨hC, hCM, hMo, hoz⟩, hσ, hI, hout, hl⟩ := S
  have hx := X.2.1.1
  have hb := X.2.1.2.1
  have hX := X.1.2.2.2.2.2.2.1
  have hbl := X.1.2.2.2.2.2.2.2.1
  have htl := X.1.2.2.2.2.2.1
  have hown := X.1.2.2.2.2.1
  have hbA : ¬ lx_A s b := Nat.not_le.mpr hbl
  refine lv_aload_n hx hb (show decode code 1754 = .ok (.aload_n 1, 1) by decide +kernel) rfl (lv_at hl 1 rfl) ?_
  refine lv_aload_n hx hb (show decode code 1755 = .ok (.aload_n 0, 1) by decide +kernel) rfl (lv_at hl 0 rfl) ?_
  refine lv_iload hx hb (show decode code 1756 = .ok (.iload 4, 2) by decide +kernel) (lv_at hl 4 rfl) ?_
  refine lv_iconst hx hb (show decode code 1758 = .ok (.iconst 1, 1) by decide +kernel) (v := Int32.ofInt 1) rfl ?_
  refine lv_iadd hx hb (show decode code 1759 = .ok (.iadd, 1) by decide +kernel) ?_
  refine va_sld hx hb hX hbl hbA hI.2 h1 (show decode code 1760 = .ok (.iaload, 1) by decide +kernel) ?_
  refine lv_aload_n hx hb (show decode code 1761 = .ok (.aload_n 3, 1) by decide +kernel) rfl (lv_at hl 3 rfl) ?_
  obtain ⟨r, rm, mc, ms, Post, hM, ⟨e1, e3, e4⟩, ⟨e5, e6⟩, hP⟩ := wc_save (Ks := Ks) (Kv := Kv) (Km := Km) (D := D) (dT := dT) (dL := dL) (g := g) (xs (iv + Int32.ofInt 1).toNatClampNeg) hCM hMo hoz X.2.2.2.2.2.2.1 X.2.2.2.2.2.1 hσ hk
  refine lx_call (index := 186) (n := 3) (pc := 1762) (as := [.ref C, .int (xs (iv + Int32.ofInt 1).toNatClampNeg), .ref o]) X hM e1 ⟨e3, e4⟩ (show Cond.methodLink "LilyWheelsLaw" 186 (⟨"LilyWheelsLaw", "save", "(LLilyWheels;I[J)I"⟩ : MethodName) ∈ ri_LW from List.mem_filter.mpr ⟨by decide +kernel, by decide +kernel⟩) (show Cond.static (⟨"LilyWheelsLaw", "save", "(LLilyWheels;I[J)I"⟩ : MethodName) ∈ ri_LW from List.mem_filter.mpr ⟨by decide +kernel, by decide +kernel⟩) (show Cond.initialized (⟨"LilyWheelsLaw", "save", "(LLilyWheels;I[J)I"⟩ : MethodName).cls ∈ ri_LW from List.mem_filter.mpr ⟨by decide +kernel, by decide +kernel⟩) (show Cond.codeWith (⟨"LilyWheelsLaw", "save", "(LLilyWheels;I[J)I"⟩ : MethodName) method_25_code 4 (some .int) [(0, 9, 12, 28)] ∈ ri_LW from List.mem_filter.mpr ⟨by decide +kernel, by decide +kernel⟩) ⟨⟨by decide +kernel, by decide +kernel⟩, by decide +kernel⟩ (show decode code 1762 = .ok (.invokestatic 186, 3) by decide +kernel) rfl hl.1 hI (by omega) hout (by omega) (by omega) fun H1 locs1 σ3 g3 hI1 hout1 hp => ?_
  obtain ⟨z3, hP3⟩ := hP σ3 g3 hp
  refine W.widen (k := cells + 1) (n := slots + 6) (by omega) (by omega) ?_
  refine lv_istore (lv' := [(5, .int r), (0, .ref b), (1, .ref C), (2, .ref M), (3, .ref o), (4, .int iv)]) hx hb (show decode code 1765 = .ok (.istore 5, 2) by decide +kernel) hl (by decide) rfl (fun ls hl => ?_)
  refine lv_aload_n hx hb (show decode code 1767 = .ok (.aload_n 2, 1) by decide +kernel) rfl (lv_at hl 3 rfl) ?_
  refine lv_aload_n hx hb (show decode code 1768 = .ok (.aload_n 0, 1) by decide +kernel) rfl (lv_at hl 1 rfl) ?_
  refine lv_iload hx hb (show decode code 1769 = .ok (.iload 4, 2) by decide +kernel) (lv_at hl 5 rfl) ?_
  refine lv_iconst hx hb (show decode code 1771 = .ok (.iconst 1, 1) by decide +kernel) (v := Int32.ofInt 1) rfl ?_
  refine lv_iadd hx hb (show decode code 1772 = .ok (.iadd, 1) by decide +kernel) ?_
  refine va_sld hx hb hX hbl hbA hI1.2 h1 (show decode code 1773 = .ok (.iaload, 1) by decide +kernel) ?_
  exact lx_tail (pc := 1774) (km := 227) (n := 2) (as := [.int (xs (iv + Int32.ofInt 1).toNatClampNeg)]) X hCM hMo (by omega) hP3 hI1 hout1 (rc_V (nm2 := TN 227) (b2 := TB 227) (m2 := TM 227) (rt2 := TR 227) (n := 1) (ci := 9) (T := TX11) (Nn := 13) ri_LWok rfl (show decode code 1774 = .ok (.invokevirtual 188, 3) by decide +kernel) (show Cond.methodLink "LilyWheelsLaw" 188 (TN 227) ∈ ri_LW from List.mem_filter.mpr ⟨by decide +kernel, by decide +kernel⟩) (show Cond.instanceMethod (TN 227) ∈ ri_LW from List.mem_filter.mpr ⟨by decide +kernel, by decide +kernel⟩) (show Cond.selects (TN 227).cls (TN 227) (TN 227) ∈ ri_LW from List.mem_filter.mpr ⟨by decide +kernel, by decide +kernel⟩) (show Cond.initialized (TN 227).cls ∈ ri_LW from List.mem_filter.mpr ⟨by decide +kernel, by decide +kernel⟩) (show Cond.code (TN 227) (TB 227) (TM 227) (TR 227) ∈ ri_LW from List.mem_filter.mpr ⟨by decide +kernel, by decide +kernel⟩) ⟨⟨by decide +kernel, by decide +kernel⟩, by decide +kernel⟩) lx_th1780 rfl rfl ⟨by decide +kernel, by decide +kernel⟩ hl (by omega) (by omega)
    (show decode code 1777 = .ok (.istore 6, 2) by decide +kernel) (show decode code 1779 = .ok (.aload_n 2, 1) by decide +kernel) (show decode code 1783 = .ok (.iload 5, 2) by decide +kernel) (show decode code 1785 = .ok (.if_icmp .eq 5, 3) by decide +kernel) (show decode code 1790 = .ok (.iload 5, 2) by decide +kernel) (show decode code 1792 = .ok (.ifCond .ne 15, 3) by decide +kernel) (show decode code 1795 = .ok (.aload_n 3, 1) by decide +kernel) (show decode code 1796 = .ok (.iconst 0, 1) by decide +kernel) (show decode code 1797 = .ok (.laload, 1) by decide +kernel) (show decode code 1798 = .ok (.iload 6, 2) by decide +kernel) (show decode code 1800 = .ok (.i2l, 1) by decide +kernel) (show decode code 1801 = .ok (.lcmp, 1) by decide +kernel) (show decode code 1802 = .ok (.ifCond .eq 5, 3) by decide +kernel) (show decode code 1807 = .ok (.goto 59, 3) by decide +kernel) (by omega) fun H2 locs2 ls2 σ4 hw hz hI2 hout2 hl2 => kk H2 locs2 ls2 σ4 g3 ⟨⟨hC, hCM, hMo, hz⟩, hw, hI2, hout2, hl2⟩
theorem lx_th1836 : ri_cok ri_LW vwCl "LilyWheelsLaw" code 7 1836 (TN 144) (TB 144) (TM 144) (TR 144) 1 (some 9) := (rc_V (nm2 := TN 144) (b2 := TB 144) (m2 := TM 144) (rt2 := TR 144) (n := 0) (ci := 9) (T := TX11) (Nn := 13) ri_LWok rfl (show decode code 1836 = .ok (.invokevirtual 104, 3) by decide +kernel) (show Cond.methodLink "LilyWheelsLaw" 104 (TN 144) ∈ ri_LW from List.mem_filter.mpr ⟨by decide +kernel, by decide +kernel⟩) (show Cond.instanceMethod (TN 144) ∈ ri_LW from List.mem_filter.mpr ⟨by decide +kernel, by decide +kernel⟩) (show Cond.selects (TN 144).cls (TN 144) (TN 144) ∈ ri_LW from List.mem_filter.mpr ⟨by decide +kernel, by decide +kernel⟩) (show Cond.initialized (TN 144).cls ∈ ri_LW from List.mem_filter.mpr ⟨by decide +kernel, by decide +kernel⟩) (show Cond.code (TN 144) (TB 144) (TM 144) (TR 144) ∈ ri_LW from List.mem_filter.mpr ⟨by decide +kernel, by decide +kernel⟩) ⟨⟨by decide +kernel, by decide +kernel⟩, by decide +kernel⟩)
theorem lc_restore (X : lx_X Ks Kv Km D dT dL p l s m meth c b L xs) (S : lx_S D dT dL s b C M o iv K σ g H locs ls) (h1 : vp_in (iv + Int32.ofInt 1) L) (h2 : vp_in (iv + Int32.ofInt 2) L) (h3 : vp_in (iv + Int32.ofInt 3) L) (h4 : vp_in (iv + Int32.ofInt 4) L) (hcs : cells + 1 ≤ 601024) (hss : slots + 6 ≤ 7293034) (hk : K + 20 + 400000 ≤ 1000000)
    (kk : ∀ (H1 : Heap) (locs1 : List Loc) (ls1 : Array Slot) (σ4 : ri_S) (g4 : Nat → Int64), lx_S D dT dL s b C M o iv (K + 20) σ4 g4 H1 locs1 ls1 → W p l e room_1 s m #[Value.ref b] below meth c H1 locs1 (cells + 1) (slots + 6) Q (F0 m 1866 ls1 [])) : W p l e room_1 s m #[Value.ref b] below meth c H locs cells slots Q (F0 m 1810 ls []) := by
  obtain ⟨⟨hC, hCM, hMo, hoz⟩, hσ, hI, hout, hl⟩ := S
  have hx := X.2.1.1
  have hb := X.2.1.2.1
  have hX := X.1.2.2.2.2.2.2.1
  have hbl := X.1.2.2.2.2.2.2.2.1
  have htl := X.1.2.2.2.2.2.1
  have hown := X.1.2.2.2.2.1
  have hbA : ¬ lx_A s b := Nat.not_le.mpr hbl
  refine lv_aload_n hx hb (show decode code 1810 = .ok (.aload_n 1, 1) by decide +kernel) rfl (lv_at hl 1 rfl) ?_
  refine lv_aload_n hx hb (show decode code 1811 = .ok (.aload_n 0, 1) by decide +kernel) rfl (lv_at hl 0 rfl) ?_
  refine lv_iload hx hb (show decode code 1812 = .ok (.iload 4, 2) by decide +kernel) (lv_at hl 4 rfl) ?_
  refine lv_iconst hx hb (show decode code 1814 = .ok (.iconst 1, 1) by decide +kernel) (v := Int32.ofInt 1) rfl ?_
  refine lv_iadd hx hb (show decode code 1815 = .ok (.iadd, 1) by decide +kernel) ?_
  refine va_sld hx hb hX hbl hbA hI.2 h1 (show decode code 1816 = .ok (.iaload, 1) by decide +kernel) ?_
  refine lv_aload_n hx hb (show decode code 1817 = .ok (.aload_n 3, 1) by decide +kernel) rfl (lv_at hl 3 rfl) ?_
  obtain ⟨r, rm, mc, ms, Post, hM, ⟨e1, e3, e4⟩, ⟨e5, e6⟩, hP⟩ := wc_restore (Ks := Ks) (Kv := Kv) (Km := Km) (D := D) (dT := dT) (dL := dL) (g := g) (xs (iv + Int32.ofInt 1).toNatClampNeg) hCM hMo hoz X.2.2.2.2.2.2.1 X.2.2.2.2.2.1 hσ hk
  refine lx_call (index := 189) (n := 3) (pc := 1818) (as := [.ref C, .int (xs (iv + Int32.ofInt 1).toNatClampNeg), .ref o]) X hM e1 ⟨e3, e4⟩ (show Cond.methodLink "LilyWheelsLaw" 189 (⟨"LilyWheelsLaw", "restore", "(LLilyWheels;I[J)I"⟩ : MethodName) ∈ ri_LW from List.mem_filter.mpr ⟨by decide +kernel, by decide +kernel⟩) (show Cond.static (⟨"LilyWheelsLaw", "restore", "(LLilyWheels;I[J)I"⟩ : MethodName) ∈ ri_LW from List.mem_filter.mpr ⟨by decide +kernel, by decide +kernel⟩) (show Cond.initialized (⟨"LilyWheelsLaw", "restore", "(LLilyWheels;I[J)I"⟩ : MethodName).cls ∈ ri_LW from List.mem_filter.mpr ⟨by decide +kernel, by decide +kernel⟩) (show Cond.codeWith (⟨"LilyWheelsLaw", "restore", "(LLilyWheels;I[J)I"⟩ : MethodName) method_26_code 4 (some .int) [(0, 9, 12, 28), (0, 9, 15, 15)] ∈ ri_LW from List.mem_filter.mpr ⟨by decide +kernel, by decide +kernel⟩) ⟨⟨by decide +kernel, by decide +kernel⟩, by decide +kernel⟩ (show decode code 1818 = .ok (.invokestatic 189, 3) by decide +kernel) rfl hl.1 hI (by omega) hout (by omega) (by omega) fun H1 locs1 σ3 g3 hI1 hout1 hp => ?_
  obtain ⟨z3, hP3⟩ := hP σ3 g3 hp
  refine W.widen (k := cells + 1) (n := slots + 6) (by omega) (by omega) ?_
  refine lv_istore (lv' := [(5, .int r), (0, .ref b), (1, .ref C), (2, .ref M), (3, .ref o), (4, .int iv)]) hx hb (show decode code 1821 = .ok (.istore 5, 2) by decide +kernel) hl (by decide) rfl (fun ls hl => ?_)
  refine lv_aload_n hx hb (show decode code 1823 = .ok (.aload_n 2, 1) by decide +kernel) rfl (lv_at hl 3 rfl) ?_
  refine lv_aload_n hx hb (show decode code 1824 = .ok (.aload_n 0, 1) by decide +kernel) rfl (lv_at hl 1 rfl) ?_
  refine lv_iload hx hb (show decode code 1825 = .ok (.iload 4, 2) by decide +kernel) (lv_at hl 5 rfl) ?_
  refine lv_iconst hx hb (show decode code 1827 = .ok (.iconst 1, 1) by decide +kernel) (v := Int32.ofInt 1) rfl ?_
  refine lv_iadd hx hb (show decode code 1828 = .ok (.iadd, 1) by decide +kernel) ?_
  refine va_sld hx hb hX hbl hbA hI1.2 h1 (show decode code 1829 = .ok (.iaload, 1) by decide +kernel) ?_
  exact lx_tail (pc := 1830) (km := 228) (n := 2) (as := [.int (xs (iv + Int32.ofInt 1).toNatClampNeg)]) X hCM hMo (by omega) hP3 hI1 hout1 (rc_V (nm2 := TN 228) (b2 := TB 228) (m2 := TM 228) (rt2 := TR 228) (n := 1) (ci := 9) (T := TX11) (Nn := 13) ri_LWok rfl (show decode code 1830 = .ok (.invokevirtual 191, 3) by decide +kernel) (show Cond.methodLink "LilyWheelsLaw" 191 (TN 228) ∈ ri_LW from List.mem_filter.mpr ⟨by decide +kernel, by decide +kernel⟩) (show Cond.instanceMethod (TN 228) ∈ ri_LW from List.mem_filter.mpr ⟨by decide +kernel, by decide +kernel⟩) (show Cond.selects (TN 228).cls (TN 228) (TN 228) ∈ ri_LW from List.mem_filter.mpr ⟨by decide +kernel, by decide +kernel⟩) (show Cond.initialized (TN 228).cls ∈ ri_LW from List.mem_filter.mpr ⟨by decide +kernel, by decide +kernel⟩) (show Cond.code (TN 228) (TB 228) (TM 228) (TR 228) ∈ ri_LW from List.mem_filter.mpr ⟨by decide +kernel, by decide +kernel⟩) ⟨⟨by decide +kernel, by decide +kernel⟩, by decide +kernel⟩) lx_th1836 rfl rfl ⟨by decide +kernel, by decide +kernel⟩ hl (by omega) (by omega)
    (show decode code 1833 = .ok (.istore 6, 2) by decide +kernel) (show decode code 1835 = .ok (.aload_n 2, 1) by decide +kernel) (show decode code 1839 = .ok (.iload 5, 2) by decide +kernel) (show decode code 1841 = .ok (.if_icmp .eq 5, 3) by decide +kernel) (show decode code 1846 = .ok (.iload 5, 2) by decide +kernel) (show decode code 1848 = .ok (.ifCond .ne 15, 3) by decide +kernel) (show decode code 1851 = .ok (.aload_n 3, 1) by decide +kernel) (show decode code 1852 = .ok (.iconst 0, 1) by decide +kernel) (show decode code 1853 = .ok (.laload, 1) by decide +kernel) (show decode code 1854 = .ok (.iload 6, 2) by decide +kernel) (show decode code 1856 = .ok (.i2l, 1) by decide +kernel) (show decode code 1857 = .ok (.lcmp, 1) by decide +kernel) (show decode code 1858 = .ok (.ifCond .eq 5, 3) by decide +kernel) (show decode code 1863 = .ok (.goto 3, 3) by decide +kernel) (by omega) fun H2 locs2 ls2 σ4 hw hz hI2 hout2 hl2 => kk H2 locs2 ls2 σ4 g3 ⟨⟨hC, hCM, hMo, hz⟩, hw, hI2, hout2, hl2⟩
end LX
