/-! The law: cases, 2. -/
section LX
variable {Ks Kv Km : Nat → Nat} {D : va_G} {dT : Nat → ClassId} {dL : ClassId} {p : Program} {l : Launch} {e : Env} {s : State} {m : MethodId} {below : List Frame} {meth : Method} {c : Code} {b L : Nat} {xs : Nat → Int32} {H : Heap} {locs : List Loc} {cells slots : Nat} {ls : Array Slot} {σ : ri_S} {Q : State → Prop} {C M o : Nat} {K : Int} {iv : Int32} {g : Nat → Int64}
theorem lx_th592 : ri_cok ri_LW vwCl "LilyWheelsLaw" code 7 592 (TN 144) (TB 144) (TM 144) (TR 144) 1 (some 9) := (rc_V (nm2 := TN 144) (b2 := TB 144) (m2 := TM 144) (rt2 := TR 144) (n := 0) (ci := 9) (T := TX11) (Nn := 13) ri_LWok rfl (show decode code 592 = .ok (.invokevirtual 104, 3) by decide +kernel) (show Cond.methodLink "LilyWheelsLaw" 104 (TN 144) ∈ ri_LW from List.mem_filter.mpr ⟨by decide +kernel, by decide +kernel⟩) (show Cond.instanceMethod (TN 144) ∈ ri_LW from List.mem_filter.mpr ⟨by decide +kernel, by decide +kernel⟩) (show Cond.selects (TN 144).cls (TN 144) (TN 144) ∈ ri_LW from List.mem_filter.mpr ⟨by decide +kernel, by decide +kernel⟩) (show Cond.initialized (TN 144).cls ∈ ri_LW from List.mem_filter.mpr ⟨by decide +kernel, by decide +kernel⟩) (show Cond.code (TN 144) (TB 144) (TM 144) (TR 144) ∈ ri_LW from List.mem_filter.mpr ⟨by decide +kernel, by decide +kernel⟩) ⟨⟨by decide +kernel, by decide +kernel⟩, by decide +kernel⟩)
theorem lc_lineOf (X : lx_X Ks Kv Km D dT dL p l s m meth c b L xs) (S : lx_S D dT dL s b C M o iv K σ g H locs ls) (h1 : vp_in (iv + Int32.ofInt 1) L) (h2 : vp_in (iv + Int32.ofInt 2) L) (h3 : vp_in (iv + Int32.ofInt 3) L) (h4 : vp_in (iv + Int32.ofInt 4) L) (hcs : cells + 1 ≤ 601024) (hss : slots + 6 ≤ 7293034) (hk : K + 20 + 400000 ≤ 1000000)
    (kk : ∀ (H1 : Heap) (locs1 : List Loc) (ls1 : Array Slot) (σ4 : ri_S) (g4 : Nat → Int64), lx_S D dT dL s b C M o iv (K + 20) σ4 g4 H1 locs1 ls1 → W p l e room_1 s m #[Value.ref b] below meth c H1 locs1 (cells + 1) (slots + 6) Q (F0 m 1866 ls1 [])) : W p l e room_1 s m #[Value.ref b] below meth c H locs cells slots Q (F0 m 554 ls []) := by
  obtain ⟨⟨hC, hCM, hMo, hoz⟩, hσ, hI, hout, hl⟩ := S
  have hx := X.2.1.1
  have hb := X.2.1.2.1
  have hX := X.1.2.2.2.2.2.2.1
  have hbl := X.1.2.2.2.2.2.2.2.1
  have htl := X.1.2.2.2.2.2.1
  have hown := X.1.2.2.2.2.1
  have hbA : ¬ lx_A s b := Nat.not_le.mpr hbl
  refine lv_aload_n hx hb (show decode code 554 = .ok (.aload_n 1, 1) by decide +kernel) rfl (lv_at hl 1 rfl) ?_
  refine lv_aload_n hx hb (show decode code 555 = .ok (.aload_n 0, 1) by decide +kernel) rfl (lv_at hl 0 rfl) ?_
  refine lv_iload hx hb (show decode code 556 = .ok (.iload 4, 2) by decide +kernel) (lv_at hl 4 rfl) ?_
  refine lv_iconst hx hb (show decode code 558 = .ok (.iconst 1, 1) by decide +kernel) (v := Int32.ofInt 1) rfl ?_
  refine lv_iadd hx hb (show decode code 559 = .ok (.iadd, 1) by decide +kernel) ?_
  refine va_sld hx hb hX hbl hbA hI.2 h1 (show decode code 560 = .ok (.iaload, 1) by decide +kernel) ?_
  refine lv_aload_n hx hb (show decode code 561 = .ok (.aload_n 0, 1) by decide +kernel) rfl (lv_at hl 0 rfl) ?_
  refine lv_iload hx hb (show decode code 562 = .ok (.iload 4, 2) by decide +kernel) (lv_at hl 4 rfl) ?_
  refine lv_iconst hx hb (show decode code 564 = .ok (.iconst 2, 1) by decide +kernel) (v := Int32.ofInt 2) rfl ?_
  refine lv_iadd hx hb (show decode code 565 = .ok (.iadd, 1) by decide +kernel) ?_
  refine va_sld hx hb hX hbl hbA hI.2 h2 (show decode code 566 = .ok (.iaload, 1) by decide +kernel) ?_
  refine lv_aload_n hx hb (show decode code 567 = .ok (.aload_n 3, 1) by decide +kernel) rfl (lv_at hl 3 rfl) ?_
  obtain ⟨r, rm, mc, ms, Post, hM, ⟨e1, e3, e4⟩, ⟨e5, e6⟩, hP⟩ := wc_lineOf (Ks := Ks) (Kv := Kv) (Km := Km) (D := D) (dT := dT) (dL := dL) (g := g) (xs (iv + Int32.ofInt 1).toNatClampNeg) (xs (iv + Int32.ofInt 2).toNatClampNeg) hCM hMo hoz X.2.2.2.2.2.2.1 X.2.2.2.2.2.1 hσ hk
  refine lx_call (index := 133) (n := 4) (pc := 568) (as := [.ref C, .int (xs (iv + Int32.ofInt 1).toNatClampNeg), .int (xs (iv + Int32.ofInt 2).toNatClampNeg), .ref o]) X hM e1 ⟨e3, e4⟩ (show Cond.methodLink "LilyWheelsLaw" 133 (⟨"LilyWheelsLaw", "lineOf", "(LLilyWheels;II[J)I"⟩ : MethodName) ∈ ri_LW from List.mem_filter.mpr ⟨by decide +kernel, by decide +kernel⟩) (show Cond.static (⟨"LilyWheelsLaw", "lineOf", "(LLilyWheels;II[J)I"⟩ : MethodName) ∈ ri_LW from List.mem_filter.mpr ⟨by decide +kernel, by decide +kernel⟩) (show Cond.initialized (⟨"LilyWheelsLaw", "lineOf", "(LLilyWheels;II[J)I"⟩ : MethodName).cls ∈ ri_LW from List.mem_filter.mpr ⟨by decide +kernel, by decide +kernel⟩) (show Cond.codeWith (⟨"LilyWheelsLaw", "lineOf", "(LLilyWheels;II[J)I"⟩ : MethodName) method_9_code 5 (some .int) [(0, 10, 13, 28), (0, 10, 17, 13)] ∈ ri_LW from List.mem_filter.mpr ⟨by decide +kernel, by decide +kernel⟩) ⟨⟨by decide +kernel, by decide +kernel⟩, by decide +kernel⟩ (show decode code 568 = .ok (.invokestatic 133, 3) by decide +kernel) rfl hl.1 hI (by omega) hout (by omega) (by omega) fun H1 locs1 σ3 g3 hI1 hout1 hp => ?_
  obtain ⟨z3, hP3⟩ := hP σ3 g3 hp
  refine W.widen (k := cells + 1) (n := slots + 6) (by omega) (by omega) ?_
  refine lv_istore (lv' := [(5, .int r), (0, .ref b), (1, .ref C), (2, .ref M), (3, .ref o), (4, .int iv)]) hx hb (show decode code 571 = .ok (.istore 5, 2) by decide +kernel) hl (by decide) rfl (fun ls hl => ?_)
  refine lv_aload_n hx hb (show decode code 573 = .ok (.aload_n 2, 1) by decide +kernel) rfl (lv_at hl 3 rfl) ?_
  refine lv_aload_n hx hb (show decode code 574 = .ok (.aload_n 0, 1) by decide +kernel) rfl (lv_at hl 1 rfl) ?_
  refine lv_iload hx hb (show decode code 575 = .ok (.iload 4, 2) by decide +kernel) (lv_at hl 5 rfl) ?_
  refine lv_iconst hx hb (show decode code 577 = .ok (.iconst 1, 1) by decide +kernel) (v := Int32.ofInt 1) rfl ?_
  refine lv_iadd hx hb (show decode code 578 = .ok (.iadd, 1) by decide +kernel) ?_
  refine va_sld hx hb hX hbl hbA hI1.2 h1 (show decode code 579 = .ok (.iaload, 1) by decide +kernel) ?_
  refine lv_aload_n hx hb (show decode code 580 = .ok (.aload_n 0, 1) by decide +kernel) rfl (lv_at hl 1 rfl) ?_
  refine lv_iload hx hb (show decode code 581 = .ok (.iload 4, 2) by decide +kernel) (lv_at hl 5 rfl) ?_
  refine lv_iconst hx hb (show decode code 583 = .ok (.iconst 2, 1) by decide +kernel) (v := Int32.ofInt 2) rfl ?_
  refine lv_iadd hx hb (show decode code 584 = .ok (.iadd, 1) by decide +kernel) ?_
  refine va_sld hx hb hX hbl hbA hI1.2 h2 (show decode code 585 = .ok (.iaload, 1) by decide +kernel) ?_
  exact lx_tail (pc := 586) (km := 202) (n := 3) (as := [.int (xs (iv + Int32.ofInt 1).toNatClampNeg), .int (xs (iv + Int32.ofInt 2).toNatClampNeg)]) X hCM hMo (by omega) hP3 hI1 hout1 (rc_V (nm2 := TN 202) (b2 := TB 202) (m2 := TM 202) (rt2 := TR 202) (n := 2) (ci := 9) (T := TX11) (Nn := 13) ri_LWok rfl (show decode code 586 = .ok (.invokevirtual 135, 3) by decide +kernel) (show Cond.methodLink "LilyWheelsLaw" 135 (TN 202) ∈ ri_LW from List.mem_filter.mpr ⟨by decide +kernel, by decide +kernel⟩) (show Cond.instanceMethod (TN 202) ∈ ri_LW from List.mem_filter.mpr ⟨by decide +kernel, by decide +kernel⟩) (show Cond.selects (TN 202).cls (TN 202) (TN 202) ∈ ri_LW from List.mem_filter.mpr ⟨by decide +kernel, by decide +kernel⟩) (show Cond.initialized (TN 202).cls ∈ ri_LW from List.mem_filter.mpr ⟨by decide +kernel, by decide +kernel⟩) (show Cond.code (TN 202) (TB 202) (TM 202) (TR 202) ∈ ri_LW from List.mem_filter.mpr ⟨by decide +kernel, by decide +kernel⟩) ⟨⟨by decide +kernel, by decide +kernel⟩, by decide +kernel⟩) lx_th592 rfl rfl ⟨by decide +kernel, by decide +kernel⟩ hl (by omega) (by omega)
    (show decode code 589 = .ok (.istore 6, 2) by decide +kernel) (show decode code 591 = .ok (.aload_n 2, 1) by decide +kernel) (show decode code 595 = .ok (.iload 5, 2) by decide +kernel) (show decode code 597 = .ok (.if_icmp .eq 5, 3) by decide +kernel) (show decode code 602 = .ok (.iload 5, 2) by decide +kernel) (show decode code 604 = .ok (.ifCond .ne 15, 3) by decide +kernel) (show decode code 607 = .ok (.aload_n 3, 1) by decide +kernel) (show decode code 608 = .ok (.iconst 0, 1) by decide +kernel) (show decode code 609 = .ok (.laload, 1) by decide +kernel) (show decode code 610 = .ok (.iload 6, 2) by decide +kernel) (show decode code 612 = .ok (.i2l, 1) by decide +kernel) (show decode code 613 = .ok (.lcmp, 1) by decide +kernel) (show decode code 614 = .ok (.ifCond .eq 5, 3) by decide +kernel) (show decode code 619 = .ok (.goto 1247, 3) by decide +kernel) (by omega) fun H2 locs2 ls2 σ4 hw hz hI2 hout2 hl2 => kk H2 locs2 ls2 σ4 g3 ⟨⟨hC, hCM, hMo, hz⟩, hw, hI2, hout2, hl2⟩
theorem lx_th672 : ri_cok ri_LW vwCl "LilyWheelsLaw" code 7 672 (TN 144) (TB 144) (TM 144) (TR 144) 1 (some 9) := (rc_V (nm2 := TN 144) (b2 := TB 144) (m2 := TM 144) (rt2 := TR 144) (n := 0) (ci := 9) (T := TX11) (Nn := 13) ri_LWok rfl (show decode code 672 = .ok (.invokevirtual 104, 3) by decide +kernel) (show Cond.methodLink "LilyWheelsLaw" 104 (TN 144) ∈ ri_LW from List.mem_filter.mpr ⟨by decide +kernel, by decide +kernel⟩) (show Cond.instanceMethod (TN 144) ∈ ri_LW from List.mem_filter.mpr ⟨by decide +kernel, by decide +kernel⟩) (show Cond.selects (TN 144).cls (TN 144) (TN 144) ∈ ri_LW from List.mem_filter.mpr ⟨by decide +kernel, by decide +kernel⟩) (show Cond.initialized (TN 144).cls ∈ ri_LW from List.mem_filter.mpr ⟨by decide +kernel, by decide +kernel⟩) (show Cond.code (TN 144) (TB 144) (TM 144) (TR 144) ∈ ri_LW from List.mem_filter.mpr ⟨by decide +kernel, by decide +kernel⟩) ⟨⟨by decide +kernel, by decide +kernel⟩, by decide +kernel⟩)
theorem lc_wheel (X : lx_X Ks Kv Km D dT dL p l s m meth c b L xs) (S : lx_S D dT dL s b C M o iv K σ g H locs ls) (h1 : vp_in (iv + Int32.ofInt 1) L) (h2 : vp_in (iv + Int32.ofInt 2) L) (h3 : vp_in (iv + Int32.ofInt 3) L) (h4 : vp_in (iv + Int32.ofInt 4) L) (hcs : cells + 1 ≤ 601024) (hss : slots + 6 ≤ 7293034) (hk : K + 20 + 400000 ≤ 1000000)
    (kk : ∀ (H1 : Heap) (locs1 : List Loc) (ls1 : Array Slot) (σ4 : ri_S) (g4 : Nat → Int64), lx_S D dT dL s b C M o iv (K + 20) σ4 g4 H1 locs1 ls1 → W p l e room_1 s m #[Value.ref b] below meth c H1 locs1 (cells + 1) (slots + 6) Q (F0 m 1866 ls1 [])) : W p l e room_1 s m #[Value.ref b] below meth c H locs cells slots Q (F0 m 622 ls []) := by
  obtain ⟨⟨hC, hCM, hMo, hoz⟩, hσ, hI, hout, hl⟩ := S
  have hx := X.2.1.1
  have hb := X.2.1.2.1
  have hX := X.1.2.2.2.2.2.2.1
  have hbl := X.1.2.2.2.2.2.2.2.1
  have htl := X.1.2.2.2.2.2.1
  have hown := X.1.2.2.2.2.1
  have hbA : ¬ lx_A s b := Nat.not_le.mpr hbl
  refine lv_aload_n hx hb (show decode code 622 = .ok (.aload_n 1, 1) by decide +kernel) rfl (lv_at hl 1 rfl) ?_
  refine lv_aload_n hx hb (show decode code 623 = .ok (.aload_n 0, 1) by decide +kernel) rfl (lv_at hl 0 rfl) ?_
  refine lv_iload hx hb (show decode code 624 = .ok (.iload 4, 2) by decide +kernel) (lv_at hl 4 rfl) ?_
  refine lv_iconst hx hb (show decode code 626 = .ok (.iconst 1, 1) by decide +kernel) (v := Int32.ofInt 1) rfl ?_
  refine lv_iadd hx hb (show decode code 627 = .ok (.iadd, 1) by decide +kernel) ?_
  refine va_sld hx hb hX hbl hbA hI.2 h1 (show decode code 628 = .ok (.iaload, 1) by decide +kernel) ?_
  refine lv_aload_n hx hb (show decode code 629 = .ok (.aload_n 0, 1) by decide +kernel) rfl (lv_at hl 0 rfl) ?_
  refine lv_iload hx hb (show decode code 630 = .ok (.iload 4, 2) by decide +kernel) (lv_at hl 4 rfl) ?_
  refine lv_iconst hx hb (show decode code 632 = .ok (.iconst 2, 1) by decide +kernel) (v := Int32.ofInt 2) rfl ?_
  refine lv_iadd hx hb (show decode code 633 = .ok (.iadd, 1) by decide +kernel) ?_
  refine va_sld hx hb hX hbl hbA hI.2 h2 (show decode code 634 = .ok (.iaload, 1) by decide +kernel) ?_
  refine lv_aload_n hx hb (show decode code 635 = .ok (.aload_n 0, 1) by decide +kernel) rfl (lv_at hl 0 rfl) ?_
  refine lv_iload hx hb (show decode code 636 = .ok (.iload 4, 2) by decide +kernel) (lv_at hl 4 rfl) ?_
  refine lv_iconst hx hb (show decode code 638 = .ok (.iconst 3, 1) by decide +kernel) (v := Int32.ofInt 3) rfl ?_
  refine lv_iadd hx hb (show decode code 639 = .ok (.iadd, 1) by decide +kernel) ?_
  refine va_sld hx hb hX hbl hbA hI.2 h3 (show decode code 640 = .ok (.iaload, 1) by decide +kernel) ?_
  refine lv_aload_n hx hb (show decode code 641 = .ok (.aload_n 3, 1) by decide +kernel) rfl (lv_at hl 3 rfl) ?_
  obtain ⟨r, rm, mc, ms, Post, hM, ⟨e1, e3, e4⟩, ⟨e5, e6⟩, hP⟩ := wc_wheel (Ks := Ks) (Kv := Kv) (Km := Km) (D := D) (dT := dT) (dL := dL) (g := g) (xs (iv + Int32.ofInt 1).toNatClampNeg) (xs (iv + Int32.ofInt 2).toNatClampNeg) (xs (iv + Int32.ofInt 3).toNatClampNeg) hCM hMo hoz X.2.2.2.2.2.2.1 X.2.2.2.2.2.1 hσ hk
  refine lx_call (index := 136) (n := 5) (pc := 642) (as := [.ref C, .int (xs (iv + Int32.ofInt 1).toNatClampNeg), .int (xs (iv + Int32.ofInt 2).toNatClampNeg), .int (xs (iv + Int32.ofInt 3).toNatClampNeg), .ref o]) X hM e1 ⟨e3, e4⟩ (show Cond.methodLink "LilyWheelsLaw" 136 (⟨"LilyWheelsLaw", "wheel", "(LLilyWheels;III[J)I"⟩ : MethodName) ∈ ri_LW from List.mem_filter.mpr ⟨by decide +kernel, by decide +kernel⟩) (show Cond.static (⟨"LilyWheelsLaw", "wheel", "(LLilyWheels;III[J)I"⟩ : MethodName) ∈ ri_LW from List.mem_filter.mpr ⟨by decide +kernel, by decide +kernel⟩) (show Cond.initialized (⟨"LilyWheelsLaw", "wheel", "(LLilyWheels;III[J)I"⟩ : MethodName).cls ∈ ri_LW from List.mem_filter.mpr ⟨by decide +kernel, by decide +kernel⟩) (show Cond.codeWith (⟨"LilyWheelsLaw", "wheel", "(LLilyWheels;III[J)I"⟩ : MethodName) method_10_code 6 (some .int) [(0, 12, 15, 13), (0, 12, 19, 15)] ∈ ri_LW from List.mem_filter.mpr ⟨by decide +kernel, by decide +kernel⟩) ⟨⟨by decide +kernel, by decide +kernel⟩, by decide +kernel⟩ (show decode code 642 = .ok (.invokestatic 136, 3) by decide +kernel) rfl hl.1 hI (by omega) hout (by omega) (by omega) fun H1 locs1 σ3 g3 hI1 hout1 hp => ?_
  obtain ⟨z3, hP3⟩ := hP σ3 g3 hp
  refine W.widen (k := cells + 1) (n := slots + 6) (by omega) (by omega) ?_
  refine lv_istore (lv' := [(5, .int r), (0, .ref b), (1, .ref C), (2, .ref M), (3, .ref o), (4, .int iv)]) hx hb (show decode code 645 = .ok (.istore 5, 2) by decide +kernel) hl (by decide) rfl (fun ls hl => ?_)
  refine lv_aload_n hx hb (show decode code 647 = .ok (.aload_n 2, 1) by decide +kernel) rfl (lv_at hl 3 rfl) ?_
  refine lv_aload_n hx hb (show decode code 648 = .ok (.aload_n 0, 1) by decide +kernel) rfl (lv_at hl 1 rfl) ?_
  refine lv_iload hx hb (show decode code 649 = .ok (.iload 4, 2) by decide +kernel) (lv_at hl 5 rfl) ?_
  refine lv_iconst hx hb (show decode code 651 = .ok (.iconst 1, 1) by decide +kernel) (v := Int32.ofInt 1) rfl ?_
  refine lv_iadd hx hb (show decode code 652 = .ok (.iadd, 1) by decide +kernel) ?_
  refine va_sld hx hb hX hbl hbA hI1.2 h1 (show decode code 653 = .ok (.iaload, 1) by decide +kernel) ?_
  refine lv_aload_n hx hb (show decode code 654 = .ok (.aload_n 0, 1) by decide +kernel) rfl (lv_at hl 1 rfl) ?_
  refine lv_iload hx hb (show decode code 655 = .ok (.iload 4, 2) by decide +kernel) (lv_at hl 5 rfl) ?_
  refine lv_iconst hx hb (show decode code 657 = .ok (.iconst 2, 1) by decide +kernel) (v := Int32.ofInt 2) rfl ?_
  refine lv_iadd hx hb (show decode code 658 = .ok (.iadd, 1) by decide +kernel) ?_
  refine va_sld hx hb hX hbl hbA hI1.2 h2 (show decode code 659 = .ok (.iaload, 1) by decide +kernel) ?_
  refine lv_aload_n hx hb (show decode code 660 = .ok (.aload_n 0, 1) by decide +kernel) rfl (lv_at hl 1 rfl) ?_
  refine lv_iload hx hb (show decode code 661 = .ok (.iload 4, 2) by decide +kernel) (lv_at hl 5 rfl) ?_
  refine lv_iconst hx hb (show decode code 663 = .ok (.iconst 3, 1) by decide +kernel) (v := Int32.ofInt 3) rfl ?_
  refine lv_iadd hx hb (show decode code 664 = .ok (.iadd, 1) by decide +kernel) ?_
  refine va_sld hx hb hX hbl hbA hI1.2 h3 (show decode code 665 = .ok (.iaload, 1) by decide +kernel) ?_
  exact lx_tail (pc := 666) (km := 204) (n := 4) (as := [.int (xs (iv + Int32.ofInt 1).toNatClampNeg), .int (xs (iv + Int32.ofInt 2).toNatClampNeg), .int (xs (iv + Int32.ofInt 3).toNatClampNeg)]) X hCM hMo (by omega) hP3 hI1 hout1 (rc_V (nm2 := TN 204) (b2 := TB 204) (m2 := TM 204) (rt2 := TR 204) (n := 3) (ci := 9) (T := TX11) (Nn := 13) ri_LWok rfl (show decode code 666 = .ok (.invokevirtual 138, 3) by decide +kernel) (show Cond.methodLink "LilyWheelsLaw" 138 (TN 204) ∈ ri_LW from List.mem_filter.mpr ⟨by decide +kernel, by decide +kernel⟩) (show Cond.instanceMethod (TN 204) ∈ ri_LW from List.mem_filter.mpr ⟨by decide +kernel, by decide +kernel⟩) (show Cond.selects (TN 204).cls (TN 204) (TN 204) ∈ ri_LW from List.mem_filter.mpr ⟨by decide +kernel, by decide +kernel⟩) (show Cond.initialized (TN 204).cls ∈ ri_LW from List.mem_filter.mpr ⟨by decide +kernel, by decide +kernel⟩) (show Cond.code (TN 204) (TB 204) (TM 204) (TR 204) ∈ ri_LW from List.mem_filter.mpr ⟨by decide +kernel, by decide +kernel⟩) ⟨⟨by decide +kernel, by decide +kernel⟩, by decide +kernel⟩) lx_th672 rfl rfl ⟨by decide +kernel, by decide +kernel⟩ hl (by omega) (by omega)
    (show decode code 669 = .ok (.istore 6, 2) by decide +kernel) (show decode code 671 = .ok (.aload_n 2, 1) by decide +kernel) (show decode code 675 = .ok (.iload 5, 2) by decide +kernel) (show decode code 677 = .ok (.if_icmp .eq 5, 3) by decide +kernel) (show decode code 682 = .ok (.iload 5, 2) by decide +kernel) (show decode code 684 = .ok (.ifCond .ne 15, 3) by decide +kernel) (show decode code 687 = .ok (.aload_n 3, 1) by decide +kernel) (show decode code 688 = .ok (.iconst 0, 1) by decide +kernel) (show decode code 689 = .ok (.laload, 1) by decide +kernel) (show decode code 690 = .ok (.iload 6, 2) by decide +kernel) (show decode code 692 = .ok (.i2l, 1) by decide +kernel) (show decode code 693 = .ok (.lcmp, 1) by decide +kernel) (show decode code 694 = .ok (.ifCond .eq 5, 3) by decide +kernel) (show decode code 699 = .ok (.goto 1167, 3) by decide +kernel) (by omega) fun H2 locs2 ls2 σ4 hw hz hI2 hout2 hl2 => kk H2 locs2 ls2 σ4 g3 ⟨⟨hC, hCM, hMo, hz⟩, hw, hI2, hout2, hl2⟩
theorem lx_th764 : ri_cok ri_LW vwCl "LilyWheelsLaw" code 7 764 (TN 144) (TB 144) (TM 144) (TR 144) 1 (some 9) := (rc_V (nm2 := TN 144) (b2 := TB 144) (m2 := TM 144) (rt2 := TR 144) (n := 0) (ci := 9) (T := TX11) (Nn := 13) ri_LWok rfl (show decode code 764 = .ok (.invokevirtual 104, 3) by decide +kernel) (show Cond.methodLink "LilyWheelsLaw" 104 (TN 144) ∈ ri_LW from List.mem_filter.mpr ⟨by decide +kernel, by decide +kernel⟩) (show Cond.instanceMethod (TN 144) ∈ ri_LW from List.mem_filter.mpr ⟨by decide +kernel, by decide +kernel⟩) (show Cond.selects (TN 144).cls (TN 144) (TN 144) ∈ ri_LW from List.mem_filter.mpr ⟨by decide +kernel, by decide +kernel⟩) (show Cond.initialized (TN 144).cls ∈ ri_LW from List.mem_filter.mpr ⟨by decide +kernel, by decide +kernel⟩) (show Cond.code (TN 144) (TB 144) (TM 144) (TR 144) ∈ ri_LW from List.mem_filter.mpr ⟨by decide +kernel, by decide +kernel⟩) ⟨⟨by decide +kernel, by decide +kernel⟩, by decide +kernel⟩)
theorem lc_line (X : lx_X Ks Kv Km D dT dL p l s m meth c b L xs) (S : lx_S D dT dL s b C M o iv K σ g H locs ls) (h1 : vp_in (iv + Int32.ofInt 1) L) (h2 : vp_in (iv + Int32.ofInt 2) L) (h3 : vp_in (iv + Int32.ofInt 3) L) (h4 : vp_in (iv + Int32.ofInt 4) L) (hcs : cells + 1 ≤ 601024) (hss : slots + 6 ≤ 7293034) (hk : K + 20 + 400000 ≤ 1000000)
    (kk : ∀ (H1 : Heap) (locs1 : List Loc) (ls1 : Array Slot) (σ4 : ri_S) (g4 : Nat → Int64), lx_S D dT dL s b C M o iv (K + 20) σ4 g4 H1 locs1 ls1 → W p l e room_1 s m #[Value.ref b] below meth c H1 locs1 (cells + 1) (slots + 6) Q (F0 m 1866 ls1 [])) : W p l e room_1 s m #[Value.ref b] below meth c H locs cells slots Q (F0 m 702 ls []) := by
  obtain ⟨⟨hC, hCM, hMo, hoz⟩, hσ, hI, hout, hl⟩ := S
  have hx := X.2.1.1
  have hb := X.2.1.2.1
  have hX := X.1.2.2.2.2.2.2.1
  have hbl := X.1.2.2.2.2.2.2.2.1
  have htl := X.1.2.2.2.2.2.1
  have hown := X.1.2.2.2.2.1
  have hbA : ¬ lx_A s b := Nat.not_le.mpr hbl
  refine lv_aload_n hx hb (show decode code 702 = .ok (.aload_n 1, 1) by decide +kernel) rfl (lv_at hl 1 rfl) ?_
  refine lv_aload_n hx hb (show decode code 703 = .ok (.aload_n 0, 1) by decide +kernel) rfl (lv_at hl 0 rfl) ?_
  refine lv_iload hx hb (show decode code 704 = .ok (.iload 4, 2) by decide +kernel) (lv_at hl 4 rfl) ?_
  refine lv_iconst hx hb (show decode code 706 = .ok (.iconst 1, 1) by decide +kernel) (v := Int32.ofInt 1) rfl ?_
  refine lv_iadd hx hb (show decode code 707 = .ok (.iadd, 1) by decide +kernel) ?_
  refine va_sld hx hb hX hbl hbA hI.2 h1 (show decode code 708 = .ok (.iaload, 1) by decide +kernel) ?_
  refine lv_aload_n hx hb (show decode code 709 = .ok (.aload_n 0, 1) by decide +kernel) rfl (lv_at hl 0 rfl) ?_
  refine lv_iload hx hb (show decode code 710 = .ok (.iload 4, 2) by decide +kernel) (lv_at hl 4 rfl) ?_
  refine lv_iconst hx hb (show decode code 712 = .ok (.iconst 2, 1) by decide +kernel) (v := Int32.ofInt 2) rfl ?_
  refine lv_iadd hx hb (show decode code 713 = .ok (.iadd, 1) by decide +kernel) ?_
  refine va_sld hx hb hX hbl hbA hI.2 h2 (show decode code 714 = .ok (.iaload, 1) by decide +kernel) ?_
  refine lv_aload_n hx hb (show decode code 715 = .ok (.aload_n 0, 1) by decide +kernel) rfl (lv_at hl 0 rfl) ?_
  refine lv_iload hx hb (show decode code 716 = .ok (.iload 4, 2) by decide +kernel) (lv_at hl 4 rfl) ?_
  refine lv_iconst hx hb (show decode code 718 = .ok (.iconst 3, 1) by decide +kernel) (v := Int32.ofInt 3) rfl ?_
  refine lv_iadd hx hb (show decode code 719 = .ok (.iadd, 1) by decide +kernel) ?_
  refine va_sld hx hb hX hbl hbA hI.2 h3 (show decode code 720 = .ok (.iaload, 1) by decide +kernel) ?_
  refine lv_aload_n hx hb (show decode code 721 = .ok (.aload_n 0, 1) by decide +kernel) rfl (lv_at hl 0 rfl) ?_
  refine lv_iload hx hb (show decode code 722 = .ok (.iload 4, 2) by decide +kernel) (lv_at hl 4 rfl) ?_
  refine lv_iconst hx hb (show decode code 724 = .ok (.iconst 4, 1) by decide +kernel) (v := Int32.ofInt 4) rfl ?_
  refine lv_iadd hx hb (show decode code 725 = .ok (.iadd, 1) by decide +kernel) ?_
  refine va_sld hx hb hX hbl hbA hI.2 h4 (show decode code 726 = .ok (.iaload, 1) by decide +kernel) ?_
  refine lv_aload_n hx hb (show decode code 727 = .ok (.aload_n 3, 1) by decide +kernel) rfl (lv_at hl 3 rfl) ?_
  obtain ⟨r, rm, mc, ms, Post, hM, ⟨e1, e3, e4⟩, ⟨e5, e6⟩, hP⟩ := wc_line (Ks := Ks) (Kv := Kv) (Km := Km) (D := D) (dT := dT) (dL := dL) (g := g) (xs (iv + Int32.ofInt 1).toNatClampNeg) (xs (iv + Int32.ofInt 2).toNatClampNeg) (xs (iv + Int32.ofInt 3).toNatClampNeg) (xs (iv + Int32.ofInt 4).toNatClampNeg) hCM hMo hoz X.2.2.2.2.2.2.1 X.2.2.2.2.2.1 hσ hk
  refine lx_call (index := 139) (n := 6) (pc := 728) (as := [.ref C, .int (xs (iv + Int32.ofInt 1).toNatClampNeg), .int (xs (iv + Int32.ofInt 2).toNatClampNeg), .int (xs (iv + Int32.ofInt 3).toNatClampNeg), .int (xs (iv + Int32.ofInt 4).toNatClampNeg), .ref o]) X hM e1 ⟨e3, e4⟩ (show Cond.methodLink "LilyWheelsLaw" 139 (⟨"LilyWheelsLaw", "line", "(LLilyWheels;IIII[J)I"⟩ : MethodName) ∈ ri_LW from List.mem_filter.mpr ⟨by decide +kernel, by decide +kernel⟩) (show Cond.static (⟨"LilyWheelsLaw", "line", "(LLilyWheels;IIII[J)I"⟩ : MethodName) ∈ ri_LW from List.mem_filter.mpr ⟨by decide +kernel, by decide +kernel⟩) (show Cond.initialized (⟨"LilyWheelsLaw", "line", "(LLilyWheels;IIII[J)I"⟩ : MethodName).cls ∈ ri_LW from List.mem_filter.mpr ⟨by decide +kernel, by decide +kernel⟩) (show Cond.codeWith (⟨"LilyWheelsLaw", "line", "(LLilyWheels;IIII[J)I"⟩ : MethodName) method_11_code 7 (some .int) [(0, 14, 17, 28), (0, 14, 21, 13), (0, 14, 25, 15)] ∈ ri_LW from List.mem_filter.mpr ⟨by decide +kernel, by decide +kernel⟩) ⟨⟨by decide +kernel, by decide +kernel⟩, by decide +kernel⟩ (show decode code 728 = .ok (.invokestatic 139, 3) by decide +kernel) rfl hl.1 hI (by omega) hout (by omega) (by omega) fun H1 locs1 σ3 g3 hI1 hout1 hp => ?_
  obtain ⟨z3, hP3⟩ := hP σ3 g3 hp
  refine W.widen (k := cells + 1) (n := slots + 6) (by omega) (by omega) ?_
  refine lv_istore (lv' := [(5, .int r), (0, .ref b), (1, .ref C), (2, .ref M), (3, .ref o), (4, .int iv)]) hx hb (show decode code 731 = .ok (.istore 5, 2) by decide +kernel) hl (by decide) rfl (fun ls hl => ?_)
  refine lv_aload_n hx hb (show decode code 733 = .ok (.aload_n 2, 1) by decide +kernel) rfl (lv_at hl 3 rfl) ?_
  refine lv_aload_n hx hb (show decode code 734 = .ok (.aload_n 0, 1) by decide +kernel) rfl (lv_at hl 1 rfl) ?_
  refine lv_iload hx hb (show decode code 735 = .ok (.iload 4, 2) by decide +kernel) (lv_at hl 5 rfl) ?_
  refine lv_iconst hx hb (show decode code 737 = .ok (.iconst 1, 1) by decide +kernel) (v := Int32.ofInt 1) rfl ?_
  refine lv_iadd hx hb (show decode code 738 = .ok (.iadd, 1) by decide +kernel) ?_
  refine va_sld hx hb hX hbl hbA hI1.2 h1 (show decode code 739 = .ok (.iaload, 1) by decide +kernel) ?_
  refine lv_aload_n hx hb (show decode code 740 = .ok (.aload_n 0, 1) by decide +kernel) rfl (lv_at hl 1 rfl) ?_
  refine lv_iload hx hb (show decode code 741 = .ok (.iload 4, 2) by decide +kernel) (lv_at hl 5 rfl) ?_
  refine lv_iconst hx hb (show decode code 743 = .ok (.iconst 2, 1) by decide +kernel) (v := Int32.ofInt 2) rfl ?_
  refine lv_iadd hx hb (show decode code 744 = .ok (.iadd, 1) by decide +kernel) ?_
  refine va_sld hx hb hX hbl hbA hI1.2 h2 (show decode code 745 = .ok (.iaload, 1) by decide +kernel) ?_
  refine lv_aload_n hx hb (show decode code 746 = .ok (.aload_n 0, 1) by decide +kernel) rfl (lv_at hl 1 rfl) ?_
  refine lv_iload hx hb (show decode code 747 = .ok (.iload 4, 2) by decide +kernel) (lv_at hl 5 rfl) ?_
  refine lv_iconst hx hb (show decode code 749 = .ok (.iconst 3, 1) by decide +kernel) (v := Int32.ofInt 3) rfl ?_
  refine lv_iadd hx hb (show decode code 750 = .ok (.iadd, 1) by decide +kernel) ?_
  refine va_sld hx hb hX hbl hbA hI1.2 h3 (show decode code 751 = .ok (.iaload, 1) by decide +kernel) ?_
  refine lv_aload_n hx hb (show decode code 752 = .ok (.aload_n 0, 1) by decide +kernel) rfl (lv_at hl 1 rfl) ?_
  refine lv_iload hx hb (show decode code 753 = .ok (.iload 4, 2) by decide +kernel) (lv_at hl 5 rfl) ?_
  refine lv_iconst hx hb (show decode code 755 = .ok (.iconst 4, 1) by decide +kernel) (v := Int32.ofInt 4) rfl ?_
  refine lv_iadd hx hb (show decode code 756 = .ok (.iadd, 1) by decide +kernel) ?_
  refine va_sld hx hb hX hbl hbA hI1.2 h4 (show decode code 757 = .ok (.iaload, 1) by decide +kernel) ?_
  exact lx_tail (pc := 758) (km := 205) (n := 5) (as := [.int (xs (iv + Int32.ofInt 1).toNatClampNeg), .int (xs (iv + Int32.ofInt 2).toNatClampNeg), .int (xs (iv + Int32.ofInt 3).toNatClampNeg), .int (xs (iv + Int32.ofInt 4).toNatClampNeg)]) X hCM hMo (by omega) hP3 hI1 hout1 (rc_V (nm2 := TN 205) (b2 := TB 205) (m2 := TM 205) (rt2 := TR 205) (n := 4) (ci := 9) (T := TX11) (Nn := 13) ri_LWok rfl (show decode code 758 = .ok (.invokevirtual 142, 3) by decide +kernel) (show Cond.methodLink "LilyWheelsLaw" 142 (TN 205) ∈ ri_LW from List.mem_filter.mpr ⟨by decide +kernel, by decide +kernel⟩) (show Cond.instanceMethod (TN 205) ∈ ri_LW from List.mem_filter.mpr ⟨by decide +kernel, by decide +kernel⟩) (show Cond.selects (TN 205).cls (TN 205) (TN 205) ∈ ri_LW from List.mem_filter.mpr ⟨by decide +kernel, by decide +kernel⟩) (show Cond.initialized (TN 205).cls ∈ ri_LW from List.mem_filter.mpr ⟨by decide +kernel, by decide +kernel⟩) (show Cond.code (TN 205) (TB 205) (TM 205) (TR 205) ∈ ri_LW from List.mem_filter.mpr ⟨by decide +kernel, by decide +kernel⟩) ⟨⟨by decide +kernel, by decide +kernel⟩, by decide +kernel⟩) lx_th764 rfl rfl ⟨by decide +kernel, by decide +kernel⟩ hl (by omega) (by omega)
    (show decode code 761 = .ok (.istore 6, 2) by decide +kernel) (show decode code 763 = .ok (.aload_n 2, 1) by decide +kernel) (show decode code 767 = .ok (.iload 5, 2) by decide +kernel) (show decode code 769 = .ok (.if_icmp .eq 5, 3) by decide +kernel) (show decode code 774 = .ok (.iload 5, 2) by decide +kernel) (show decode code 776 = .ok (.ifCond .ne 15, 3) by decide +kernel) (show decode code 779 = .ok (.aload_n 3, 1) by decide +kernel) (show decode code 780 = .ok (.iconst 0, 1) by decide +kernel) (show decode code 781 = .ok (.laload, 1) by decide +kernel) (show decode code 782 = .ok (.iload 6, 2) by decide +kernel) (show decode code 784 = .ok (.i2l, 1) by decide +kernel) (show decode code 785 = .ok (.lcmp, 1) by decide +kernel) (show decode code 786 = .ok (.ifCond .eq 5, 3) by decide +kernel) (show decode code 791 = .ok (.goto 1075, 3) by decide +kernel) (by omega) fun H2 locs2 ls2 σ4 hw hz hI2 hout2 hl2 => kk H2 locs2 ls2 σ4 g3 ⟨⟨hC, hCM, hMo, hz⟩, hw, hI2, hout2, hl2⟩
theorem lx_th844 : ri_cok ri_LW vwCl "LilyWheelsLaw" code 7 844 (TN 144) (TB 144) (TM 144) (TR 144) 1 (some 9) := (rc_V (nm2 := TN 144) (b2 := TB 144) (m2 := TM 144) (rt2 := TR 144) (n := 0) (ci := 9) (T := TX11) (Nn := 13) ri_LWok rfl (show decode code 844 = .ok (.invokevirtual 104, 3) by decide +kernel) (show Cond.methodLink "LilyWheelsLaw" 104 (TN 144) ∈ ri_LW from List.mem_filter.mpr ⟨by decide +kernel, by decide +kernel⟩) (show Cond.instanceMethod (TN 144) ∈ ri_LW from List.mem_filter.mpr ⟨by decide +kernel, by decide +kernel⟩) (show Cond.selects (TN 144).cls (TN 144) (TN 144) ∈ ri_LW from List.mem_filter.mpr ⟨by decide +kernel, by decide +kernel⟩) (show Cond.initialized (TN 144).cls ∈ ri_LW from List.mem_filter.mpr ⟨by decide +kernel, by decide +kernel⟩) (show Cond.code (TN 144) (TB 144) (TM 144) (TR 144) ∈ ri_LW from List.mem_filter.mpr ⟨by decide +kernel, by decide +kernel⟩) ⟨⟨by decide +kernel, by decide +kernel⟩, by decide +kernel⟩)
theorem lc_frog (X : lx_X Ks Kv Km D dT dL p l s m meth c b L xs) (S : lx_S D dT dL s b C M o iv K σ g H locs ls) (h1 : vp_in (iv + Int32.ofInt 1) L) (h2 : vp_in (iv + Int32.ofInt 2) L) (h3 : vp_in (iv + Int32.ofInt 3) L) (h4 : vp_in (iv + Int32.ofInt 4) L) (hcs : cells + 1 ≤ 601024) (hss : slots + 6 ≤ 7293034) (hk : K + 20 + 400000 ≤ 1000000)
    (kk : ∀ (H1 : Heap) (locs1 : List Loc) (ls1 : Array Slot) (σ4 : ri_S) (g4 : Nat → Int64), lx_S D dT dL s b C M o iv (K + 20) σ4 g4 H1 locs1 ls1 → W p l e room_1 s m #[Value.ref b] below meth c H1 locs1 (cells + 1) (slots + 6) Q (F0 m 1866 ls1 [])) : W p l e room_1 s m #[Value.ref b] below meth c H locs cells slots Q (F0 m 794 ls []) := by
  obtain ⟨⟨hC, hCM, hMo, hoz⟩, hσ, hI, hout, hl⟩ := S
  have hx := X.2.1.1
  have hb := X.2.1.2.1
  have hX := X.1.2.2.2.2.2.2.1
  have hbl := X.1.2.2.2.2.2.2.2.1
  have htl := X.1.2.2.2.2.2.1
  have hown := X.1.2.2.2.2.1
  have hbA : ¬ lx_A s b := Nat.not_le.mpr hbl
  refine lv_aload_n hx hb (show decode code 794 = .ok (.aload_n 1, 1) by decide +kernel) rfl (lv_at hl 1 rfl) ?_
  refine lv_aload_n hx hb (show decode code 795 = .ok (.aload_n 0, 1) by decide +kernel) rfl (lv_at hl 0 rfl) ?_
  refine lv_iload hx hb (show decode code 796 = .ok (.iload 4, 2) by decide +kernel) (lv_at hl 4 rfl) ?_
  refine lv_iconst hx hb (show decode code 798 = .ok (.iconst 1, 1) by decide +kernel) (v := Int32.ofInt 1) rfl ?_
  refine lv_iadd hx hb (show decode code 799 = .ok (.iadd, 1) by decide +kernel) ?_
  refine va_sld hx hb hX hbl hbA hI.2 h1 (show decode code 800 = .ok (.iaload, 1) by decide +kernel) ?_
  refine lv_aload_n hx hb (show decode code 801 = .ok (.aload_n 0, 1) by decide +kernel) rfl (lv_at hl 0 rfl) ?_
  refine lv_iload hx hb (show decode code 802 = .ok (.iload 4, 2) by decide +kernel) (lv_at hl 4 rfl) ?_
  refine lv_iconst hx hb (show decode code 804 = .ok (.iconst 2, 1) by decide +kernel) (v := Int32.ofInt 2) rfl ?_
  refine lv_iadd hx hb (show decode code 805 = .ok (.iadd, 1) by decide +kernel) ?_
  refine va_sld hx hb hX hbl hbA hI.2 h2 (show decode code 806 = .ok (.iaload, 1) by decide +kernel) ?_
  refine lv_aload_n hx hb (show decode code 807 = .ok (.aload_n 0, 1) by decide +kernel) rfl (lv_at hl 0 rfl) ?_
  refine lv_iload hx hb (show decode code 808 = .ok (.iload 4, 2) by decide +kernel) (lv_at hl 4 rfl) ?_
  refine lv_iconst hx hb (show decode code 810 = .ok (.iconst 3, 1) by decide +kernel) (v := Int32.ofInt 3) rfl ?_
  refine lv_iadd hx hb (show decode code 811 = .ok (.iadd, 1) by decide +kernel) ?_
  refine va_sld hx hb hX hbl hbA hI.2 h3 (show decode code 812 = .ok (.iaload, 1) by decide +kernel) ?_
  refine lv_aload_n hx hb (show decode code 813 = .ok (.aload_n 3, 1) by decide +kernel) rfl (lv_at hl 3 rfl) ?_
  obtain ⟨r, rm, mc, ms, Post, hM, ⟨e1, e3, e4⟩, ⟨e5, e6⟩, hP⟩ := wc_frog (Ks := Ks) (Kv := Kv) (Km := Km) (D := D) (dT := dT) (dL := dL) (g := g) (xs (iv + Int32.ofInt 1).toNatClampNeg) (xs (iv + Int32.ofInt 2).toNatClampNeg) (xs (iv + Int32.ofInt 3).toNatClampNeg) hCM hMo hoz X.2.2.2.2.2.2.1 X.2.2.2.2.2.1 hσ hk
  refine lx_call (index := 143) (n := 5) (pc := 814) (as := [.ref C, .int (xs (iv + Int32.ofInt 1).toNatClampNeg), .int (xs (iv + Int32.ofInt 2).toNatClampNeg), .int (xs (iv + Int32.ofInt 3).toNatClampNeg), .ref o]) X hM e1 ⟨e3, e4⟩ (show Cond.methodLink "LilyWheelsLaw" 143 (⟨"LilyWheelsLaw", "frog", "(LLilyWheels;III[J)I"⟩ : MethodName) ∈ ri_LW from List.mem_filter.mpr ⟨by decide +kernel, by decide +kernel⟩) (show Cond.static (⟨"LilyWheelsLaw", "frog", "(LLilyWheels;III[J)I"⟩ : MethodName) ∈ ri_LW from List.mem_filter.mpr ⟨by decide +kernel, by decide +kernel⟩) (show Cond.initialized (⟨"LilyWheelsLaw", "frog", "(LLilyWheels;III[J)I"⟩ : MethodName).cls ∈ ri_LW from List.mem_filter.mpr ⟨by decide +kernel, by decide +kernel⟩) (show Cond.codeWith (⟨"LilyWheelsLaw", "frog", "(LLilyWheels;III[J)I"⟩ : MethodName) method_12_code 6 (some .int) [(0, 12, 15, 28), (0, 12, 19, 13), (0, 12, 23, 15)] ∈ ri_LW from List.mem_filter.mpr ⟨by decide +kernel, by decide +kernel⟩) ⟨⟨by decide +kernel, by decide +kernel⟩, by decide +kernel⟩ (show decode code 814 = .ok (.invokestatic 143, 3) by decide +kernel) rfl hl.1 hI (by omega) hout (by omega) (by omega) fun H1 locs1 σ3 g3 hI1 hout1 hp => ?_
  obtain ⟨z3, hP3⟩ := hP σ3 g3 hp
  refine W.widen (k := cells + 1) (n := slots + 6) (by omega) (by omega) ?_
  refine lv_istore (lv' := [(5, .int r), (0, .ref b), (1, .ref C), (2, .ref M), (3, .ref o), (4, .int iv)]) hx hb (show decode code 817 = .ok (.istore 5, 2) by decide +kernel) hl (by decide) rfl (fun ls hl => ?_)
  refine lv_aload_n hx hb (show decode code 819 = .ok (.aload_n 2, 1) by decide +kernel) rfl (lv_at hl 3 rfl) ?_
  refine lv_aload_n hx hb (show decode code 820 = .ok (.aload_n 0, 1) by decide +kernel) rfl (lv_at hl 1 rfl) ?_
  refine lv_iload hx hb (show decode code 821 = .ok (.iload 4, 2) by decide +kernel) (lv_at hl 5 rfl) ?_
  refine lv_iconst hx hb (show decode code 823 = .ok (.iconst 1, 1) by decide +kernel) (v := Int32.ofInt 1) rfl ?_
  refine lv_iadd hx hb (show decode code 824 = .ok (.iadd, 1) by decide +kernel) ?_
  refine va_sld hx hb hX hbl hbA hI1.2 h1 (show decode code 825 = .ok (.iaload, 1) by decide +kernel) ?_
  refine lv_aload_n hx hb (show decode code 826 = .ok (.aload_n 0, 1) by decide +kernel) rfl (lv_at hl 1 rfl) ?_
  refine lv_iload hx hb (show decode code 827 = .ok (.iload 4, 2) by decide +kernel) (lv_at hl 5 rfl) ?_
  refine lv_iconst hx hb (show decode code 829 = .ok (.iconst 2, 1) by decide +kernel) (v := Int32.ofInt 2) rfl ?_
  refine lv_iadd hx hb (show decode code 830 = .ok (.iadd, 1) by decide +kernel) ?_
  refine va_sld hx hb hX hbl hbA hI1.2 h2 (show decode code 831 = .ok (.iaload, 1) by decide +kernel) ?_
  refine lv_aload_n hx hb (show decode code 832 = .ok (.aload_n 0, 1) by decide +kernel) rfl (lv_at hl 1 rfl) ?_
  refine lv_iload hx hb (show decode code 833 = .ok (.iload 4, 2) by decide +kernel) (lv_at hl 5 rfl) ?_
  refine lv_iconst hx hb (show decode code 835 = .ok (.iconst 3, 1) by decide +kernel) (v := Int32.ofInt 3) rfl ?_
  refine lv_iadd hx hb (show decode code 836 = .ok (.iadd, 1) by decide +kernel) ?_
  refine va_sld hx hb hX hbl hbA hI1.2 h3 (show decode code 837 = .ok (.iaload, 1) by decide +kernel) ?_
  exact lx_tail (pc := 838) (km := 206) (n := 4) (as := [.int (xs (iv + Int32.ofInt 1).toNatClampNeg), .int (xs (iv + Int32.ofInt 2).toNatClampNeg), .int (xs (iv + Int32.ofInt 3).toNatClampNeg)]) X hCM hMo (by omega) hP3 hI1 hout1 (rc_V (nm2 := TN 206) (b2 := TB 206) (m2 := TM 206) (rt2 := TR 206) (n := 3) (ci := 9) (T := TX11) (Nn := 13) ri_LWok rfl (show decode code 838 = .ok (.invokevirtual 145, 3) by decide +kernel) (show Cond.methodLink "LilyWheelsLaw" 145 (TN 206) ∈ ri_LW from List.mem_filter.mpr ⟨by decide +kernel, by decide +kernel⟩) (show Cond.instanceMethod (TN 206) ∈ ri_LW from List.mem_filter.mpr ⟨by decide +kernel, by decide +kernel⟩) (show Cond.selects (TN 206).cls (TN 206) (TN 206) ∈ ri_LW from List.mem_filter.mpr ⟨by decide +kernel, by decide +kernel⟩) (show Cond.initialized (TN 206).cls ∈ ri_LW from List.mem_filter.mpr ⟨by decide +kernel, by decide +kernel⟩) (show Cond.code (TN 206) (TB 206) (TM 206) (TR 206) ∈ ri_LW from List.mem_filter.mpr ⟨by decide +kernel, by decide +kernel⟩) ⟨⟨by decide +kernel, by decide +kernel⟩, by decide +kernel⟩) lx_th844 rfl rfl ⟨by decide +kernel, by decide +kernel⟩ hl (by omega) (by omega)
    (show decode code 841 = .ok (.istore 6, 2) by decide +kernel) (show decode code 843 = .ok (.aload_n 2, 1) by decide +kernel) (show decode code 847 = .ok (.iload 5, 2) by decide +kernel) (show decode code 849 = .ok (.if_icmp .eq 5, 3) by decide +kernel) (show decode code 854 = .ok (.iload 5, 2) by decide +kernel) (show decode code 856 = .ok (.ifCond .ne 15, 3) by decide +kernel) (show decode code 859 = .ok (.aload_n 3, 1) by decide +kernel) (show decode code 860 = .ok (.iconst 0, 1) by decide +kernel) (show decode code 861 = .ok (.laload, 1) by decide +kernel) (show decode code 862 = .ok (.iload 6, 2) by decide +kernel) (show decode code 864 = .ok (.i2l, 1) by decide +kernel) (show decode code 865 = .ok (.lcmp, 1) by decide +kernel) (show decode code 866 = .ok (.ifCond .eq 5, 3) by decide +kernel) (show decode code 871 = .ok (.goto 995, 3) by decide +kernel) (by omega) fun H2 locs2 ls2 σ4 hw hz hI2 hout2 hl2 => kk H2 locs2 ls2 σ4 g3 ⟨⟨hC, hCM, hMo, hz⟩, hw, hI2, hout2, hl2⟩
theorem lx_th924 : ri_cok ri_LW vwCl "LilyWheelsLaw" code 7 924 (TN 144) (TB 144) (TM 144) (TR 144) 1 (some 9) := (rc_V (nm2 := TN 144) (b2 := TB 144) (m2 := TM 144) (rt2 := TR 144) (n := 0) (ci := 9) (T := TX11) (Nn := 13) ri_LWok rfl (show decode code 924 = .ok (.invokevirtual 104, 3) by decide +kernel) (show Cond.methodLink "LilyWheelsLaw" 104 (TN 144) ∈ ri_LW from List.mem_filter.mpr ⟨by decide +kernel, by decide +kernel⟩) (show Cond.instanceMethod (TN 144) ∈ ri_LW from List.mem_filter.mpr ⟨by decide +kernel, by decide +kernel⟩) (show Cond.selects (TN 144).cls (TN 144) (TN 144) ∈ ri_LW from List.mem_filter.mpr ⟨by decide +kernel, by decide +kernel⟩) (show Cond.initialized (TN 144).cls ∈ ri_LW from List.mem_filter.mpr ⟨by decide +kernel, by decide +kernel⟩) (show Cond.code (TN 144) (TB 144) (TM 144) (TR 144) ∈ ri_LW from List.mem_filter.mpr ⟨by decide +kernel, by decide +kernel⟩) ⟨⟨by decide +kernel, by decide +kernel⟩, by decide +kernel⟩)
theorem lc_flies (X : lx_X Ks Kv Km D dT dL p l s m meth c b L xs) (S : lx_S D dT dL s b C M o iv K σ g H locs ls) (h1 : vp_in (iv + Int32.ofInt 1) L) (h2 : vp_in (iv + Int32.ofInt 2) L) (h3 : vp_in (iv + Int32.ofInt 3) L) (h4 : vp_in (iv + Int32.ofInt 4) L) (hcs : cells + 1 ≤ 601024) (hss : slots + 6 ≤ 7293034) (hk : K + 20 + 400000 ≤ 1000000)
    (kk : ∀ (H1 : Heap) (locs1 : List Loc) (ls1 : Array Slot) (σ4 : ri_S) (g4 : Nat → Int64), lx_S D dT dL s b C M o iv (K + 20) σ4 g4 H1 locs1 ls1 → W p l e room_1 s m #[Value.ref b] below meth c H1 locs1 (cells + 1) (slots + 6) Q (F0 m 1866 ls1 [])) : W p l e room_1 s m #[Value.ref b] below meth c H locs cells slots Q (F0 m 874 ls []) := by
  obtain ⟨⟨hC, hCM, hMo, hoz⟩, hσ, hI, hout, hl⟩ := S
  have hx := X.2.1.1
  have hb := X.2.1.2.1
  have hX := X.1.2.2.2.2.2.2.1
  have hbl := X.1.2.2.2.2.2.2.2.1
  have htl := X.1.2.2.2.2.2.1
  have hown := X.1.2.2.2.2.1
  have hbA : ¬ lx_A s b := Nat.not_le.mpr hbl
  refine lv_aload_n hx hb (show decode code 874 = .ok (.aload_n 1, 1) by decide +kernel) rfl (lv_at hl 1 rfl) ?_
  refine lv_aload_n hx hb (show decode code 875 = .ok (.aload_n 0, 1) by decide +kernel) rfl (lv_at hl 0 rfl) ?_
  refine lv_iload hx hb (show decode code 876 = .ok (.iload 4, 2) by decide +kernel) (lv_at hl 4 rfl) ?_
  refine lv_iconst hx hb (show decode code 878 = .ok (.iconst 1, 1) by decide +kernel) (v := Int32.ofInt 1) rfl ?_
  refine lv_iadd hx hb (show decode code 879 = .ok (.iadd, 1) by decide +kernel) ?_
  refine va_sld hx hb hX hbl hbA hI.2 h1 (show decode code 880 = .ok (.iaload, 1) by decide +kernel) ?_
  refine lv_aload_n hx hb (show decode code 881 = .ok (.aload_n 0, 1) by decide +kernel) rfl (lv_at hl 0 rfl) ?_
  refine lv_iload hx hb (show decode code 882 = .ok (.iload 4, 2) by decide +kernel) (lv_at hl 4 rfl) ?_
  refine lv_iconst hx hb (show decode code 884 = .ok (.iconst 2, 1) by decide +kernel) (v := Int32.ofInt 2) rfl ?_
  refine lv_iadd hx hb (show decode code 885 = .ok (.iadd, 1) by decide +kernel) ?_
  refine va_sld hx hb hX hbl hbA hI.2 h2 (show decode code 886 = .ok (.iaload, 1) by decide +kernel) ?_
  refine lv_aload_n hx hb (show decode code 887 = .ok (.aload_n 0, 1) by decide +kernel) rfl (lv_at hl 0 rfl) ?_
  refine lv_iload hx hb (show decode code 888 = .ok (.iload 4, 2) by decide +kernel) (lv_at hl 4 rfl) ?_
  refine lv_iconst hx hb (show decode code 890 = .ok (.iconst 3, 1) by decide +kernel) (v := Int32.ofInt 3) rfl ?_
  refine lv_iadd hx hb (show decode code 891 = .ok (.iadd, 1) by decide +kernel) ?_
  refine va_sld hx hb hX hbl hbA hI.2 h3 (show decode code 892 = .ok (.iaload, 1) by decide +kernel) ?_
  refine lv_aload_n hx hb (show decode code 893 = .ok (.aload_n 3, 1) by decide +kernel) rfl (lv_at hl 3 rfl) ?_
  obtain ⟨r, rm, mc, ms, Post, hM, ⟨e1, e3, e4⟩, ⟨e5, e6⟩, hP⟩ := wc_flies (Ks := Ks) (Kv := Kv) (Km := Km) (D := D) (dT := dT) (dL := dL) (g := g) (xs (iv + Int32.ofInt 1).toNatClampNeg) (xs (iv + Int32.ofInt 2).toNatClampNeg) (xs (iv + Int32.ofInt 3).toNatClampNeg) hCM hMo hoz X.2.2.2.2.2.2.1 X.2.2.2.2.2.1 hσ hk
  refine lx_call (index := 146) (n := 5) (pc := 894) (as := [.ref C, .int (xs (iv + Int32.ofInt 1).toNatClampNeg), .int (xs (iv + Int32.ofInt 2).toNatClampNeg), .int (xs (iv + Int32.ofInt 3).toNatClampNeg), .ref o]) X hM e1 ⟨e3, e4⟩ (show Cond.methodLink "LilyWheelsLaw" 146 (⟨"LilyWheelsLaw", "flies", "(LLilyWheels;III[J)I"⟩ : MethodName) ∈ ri_LW from List.mem_filter.mpr ⟨by decide +kernel, by decide +kernel⟩) (show Cond.static (⟨"LilyWheelsLaw", "flies", "(LLilyWheels;III[J)I"⟩ : MethodName) ∈ ri_LW from List.mem_filter.mpr ⟨by decide +kernel, by decide +kernel⟩) (show Cond.initialized (⟨"LilyWheelsLaw", "flies", "(LLilyWheels;III[J)I"⟩ : MethodName).cls ∈ ri_LW from List.mem_filter.mpr ⟨by decide +kernel, by decide +kernel⟩) (show Cond.codeWith (⟨"LilyWheelsLaw", "flies", "(LLilyWheels;III[J)I"⟩ : MethodName) method_13_code 6 (some .int) [(0, 12, 15, 28), (0, 12, 19, 13)] ∈ ri_LW from List.mem_filter.mpr ⟨by decide +kernel, by decide +kernel⟩) ⟨⟨by decide +kernel, by decide +kernel⟩, by decide +kernel⟩ (show decode code 894 = .ok (.invokestatic 146, 3) by decide +kernel) rfl hl.1 hI (by omega) hout (by omega) (by omega) fun H1 locs1 σ3 g3 hI1 hout1 hp => ?_
  obtain ⟨z3, hP3⟩ := hP σ3 g3 hp
  refine W.widen (k := cells + 1) (n := slots + 6) (by omega) (by omega) ?_
  refine lv_istore (lv' := [(5, .int r), (0, .ref b), (1, .ref C), (2, .ref M), (3, .ref o), (4, .int iv)]) hx hb (show decode code 897 = .ok (.istore 5, 2) by decide +kernel) hl (by decide) rfl (fun ls hl => ?_)
  refine lv_aload_n hx hb (show decode code 899 = .ok (.aload_n 2, 1) by decide +kernel) rfl (lv_at hl 3 rfl) ?_
  refine lv_aload_n hx hb (show decode code 900 = .ok (.aload_n 0, 1) by decide +kernel) rfl (lv_at hl 1 rfl) ?_
  refine lv_iload hx hb (show decode code 901 = .ok (.iload 4, 2) by decide +kernel) (lv_at hl 5 rfl) ?_
  refine lv_iconst hx hb (show decode code 903 = .ok (.iconst 1, 1) by decide +kernel) (v := Int32.ofInt 1) rfl ?_
  refine lv_iadd hx hb (show decode code 904 = .ok (.iadd, 1) by decide +kernel) ?_
  refine va_sld hx hb hX hbl hbA hI1.2 h1 (show decode code 905 = .ok (.iaload, 1) by decide +kernel) ?_
  refine lv_aload_n hx hb (show decode code 906 = .ok (.aload_n 0, 1) by decide +kernel) rfl (lv_at hl 1 rfl) ?_
  refine lv_iload hx hb (show decode code 907 = .ok (.iload 4, 2) by decide +kernel) (lv_at hl 5 rfl) ?_
  refine lv_iconst hx hb (show decode code 909 = .ok (.iconst 2, 1) by decide +kernel) (v := Int32.ofInt 2) rfl ?_
  refine lv_iadd hx hb (show decode code 910 = .ok (.iadd, 1) by decide +kernel) ?_
  refine va_sld hx hb hX hbl hbA hI1.2 h2 (show decode code 911 = .ok (.iaload, 1) by decide +kernel) ?_
  refine lv_aload_n hx hb (show decode code 912 = .ok (.aload_n 0, 1) by decide +kernel) rfl (lv_at hl 1 rfl) ?_
  refine lv_iload hx hb (show decode code 913 = .ok (.iload 4, 2) by decide +kernel) (lv_at hl 5 rfl) ?_
  refine lv_iconst hx hb (show decode code 915 = .ok (.iconst 3, 1) by decide +kernel) (v := Int32.ofInt 3) rfl ?_
  refine lv_iadd hx hb (show decode code 916 = .ok (.iadd, 1) by decide +kernel) ?_
  refine va_sld hx hb hX hbl hbA hI1.2 h3 (show decode code 917 = .ok (.iaload, 1) by decide +kernel) ?_
  exact lx_tail (pc := 918) (km := 207) (n := 4) (as := [.int (xs (iv + Int32.ofInt 1).toNatClampNeg), .int (xs (iv + Int32.ofInt 2).toNatClampNeg), .int (xs (iv + Int32.ofInt 3).toNatClampNeg)]) X hCM hMo (by omega) hP3 hI1 hout1 (rc_V (nm2 := TN 207) (b2 := TB 207) (m2 := TM 207) (rt2 := TR 207) (n := 3) (ci := 9) (T := TX11) (Nn := 13) ri_LWok rfl (show decode code 918 = .ok (.invokevirtual 148, 3) by decide +kernel) (show Cond.methodLink "LilyWheelsLaw" 148 (TN 207) ∈ ri_LW from List.mem_filter.mpr ⟨by decide +kernel, by decide +kernel⟩) (show Cond.instanceMethod (TN 207) ∈ ri_LW from List.mem_filter.mpr ⟨by decide +kernel, by decide +kernel⟩) (show Cond.selects (TN 207).cls (TN 207) (TN 207) ∈ ri_LW from List.mem_filter.mpr ⟨by decide +kernel, by decide +kernel⟩) (show Cond.initialized (TN 207).cls ∈ ri_LW from List.mem_filter.mpr ⟨by decide +kernel, by decide +kernel⟩) (show Cond.code (TN 207) (TB 207) (TM 207) (TR 207) ∈ ri_LW from List.mem_filter.mpr ⟨by decide +kernel, by decide +kernel⟩) ⟨⟨by decide +kernel, by decide +kernel⟩, by decide +kernel⟩) lx_th924 rfl rfl ⟨by decide +kernel, by decide +kernel⟩ hl (by omega) (by omega)
    (show decode code 921 = .ok (.istore 6, 2) by decide +kernel) (show decode code 923 = .ok (.aload_n 2, 1) by decide +kernel) (show decode code 927 = .ok (.iload 5, 2) by decide +kernel) (show decode code 929 = .ok (.if_icmp .eq 5, 3) by decide +kernel) (show decode code 934 = .ok (.iload 5, 2) by decide +kernel) (show decode code 936 = .ok (.ifCond .ne 15, 3) by decide +kernel) (show decode code 939 = .ok (.aload_n 3, 1) by decide +kernel) (show decode code 940 = .ok (.iconst 0, 1) by decide +kernel) (show decode code 941 = .ok (.laload, 1) by decide +kernel) (show decode code 942 = .ok (.iload 6, 2) by decide +kernel) (show decode code 944 = .ok (.i2l, 1) by decide +kernel) (show decode code 945 = .ok (.lcmp, 1) by decide +kernel) (show decode code 946 = .ok (.ifCond .eq 5, 3) by decide +kernel) (show decode code 951 = .ok (.goto 915, 3) by decide +kernel) (by omega) fun H2 locs2 ls2 σ4 hw hz hI2 hout2 hl2 => kk H2 locs2 ls2 σ4 g3 ⟨⟨hC, hCM, hMo, hz⟩, hw, hI2, hout2, hl2⟩
theorem lx_th992 : ri_cok ri_LW vwCl "LilyWheelsLaw" code 7 992 (TN 144) (TB 144) (TM 144) (TR 144) 1 (some 9) := (rc_V (nm2 := TN 144) (b2 := TB 144) (m2 := TM 144) (rt2 := TR 144) (n := 0) (ci := 9) (T := TX11) (Nn := 13) ri_LWok rfl (show decode code 992 = .ok (.invokevirtual 104, 3) by decide +kernel) (show Cond.methodLink "LilyWheelsLaw" 104 (TN 144) ∈ ri_LW from List.mem_filter.mpr ⟨by decide +kernel, by decide +kernel⟩) (show Cond.instanceMethod (TN 144) ∈ ri_LW from List.mem_filter.mpr ⟨by decide +kernel, by decide +kernel⟩) (show Cond.selects (TN 144).cls (TN 144) (TN 144) ∈ ri_LW from List.mem_filter.mpr ⟨by decide +kernel, by decide +kernel⟩) (show Cond.initialized (TN 144).cls ∈ ri_LW from List.mem_filter.mpr ⟨by decide +kernel, by decide +kernel⟩) (show Cond.code (TN 144) (TB 144) (TM 144) (TR 144) ∈ ri_LW from List.mem_filter.mpr ⟨by decide +kernel, by decide +kernel⟩) ⟨⟨by decide +kernel, by decide +kernel⟩, by decide +kernel⟩)
theorem lc_leap (X : lx_X Ks Kv Km D dT dL p l s m meth c b L xs) (S : lx_S D dT dL s b C M o iv K σ g H locs ls) (h1 : vp_in (iv + Int32.ofInt 1) L) (h2 : vp_in (iv + Int32.ofInt 2) L) (h3 : vp_in (iv + Int32.ofInt 3) L) (h4 : vp_in (iv + Int32.ofInt 4) L) (hcs : cells + 1 ≤ 601024) (hss : slots + 6 ≤ 7293034) (hk : K + 20 + 400000 ≤ 1000000)
    (kk : ∀ (H1 : Heap) (locs1 : List Loc) (ls1 : Array Slot) (σ4 : ri_S) (g4 : Nat → Int64), lx_S D dT dL s b C M o iv (K + 20) σ4 g4 H1 locs1 ls1 → W p l e room_1 s m #[Value.ref b] below meth c H1 locs1 (cells + 1) (slots + 6) Q (F0 m 1866 ls1 [])) : W p l e room_1 s m #[Value.ref b] below meth c H locs cells slots Q (F0 m 954 ls []) := by
  obtain ⟨⟨hC, hCM, hMo, hoz⟩, hσ, hI, hout, hl⟩ := S
  have hx := X.2.1.1
  have hb := X.2.1.2.1
  have hX := X.1.2.2.2.2.2.2.1
  have hbl := X.1.2.2.2.2.2.2.2.1
  have htl := X.1.2.2.2.2.2.1
  have hown := X.1.2.2.2.2.1
  have hbA : ¬ lx_A s b := Nat.not_le.mpr hbl
  refine lv_aload_n hx hb (show decode code 954 = .ok (.aload_n 1, 1) by decide +kernel) rfl (lv_at hl 1 rfl) ?_
  refine lv_aload_n hx hb (show decode code 955 = .ok (.aload_n 0, 1) by decide +kernel) rfl (lv_at hl 0 rfl) ?_
  refine lv_iload hx hb (show decode code 956 = .ok (.iload 4, 2) by decide +kernel) (lv_at hl 4 rfl) ?_
  refine lv_iconst hx hb (show decode code 958 = .ok (.iconst 1, 1) by decide +kernel) (v := Int32.ofInt 1) rfl ?_
  refine lv_iadd hx hb (show decode code 959 = .ok (.iadd, 1) by decide +kernel) ?_
  refine va_sld hx hb hX hbl hbA hI.2 h1 (show decode code 960 = .ok (.iaload, 1) by decide +kernel) ?_
  refine lv_aload_n hx hb (show decode code 961 = .ok (.aload_n 0, 1) by decide +kernel) rfl (lv_at hl 0 rfl) ?_
  refine lv_iload hx hb (show decode code 962 = .ok (.iload 4, 2) by decide +kernel) (lv_at hl 4 rfl) ?_
  refine lv_iconst hx hb (show decode code 964 = .ok (.iconst 2, 1) by decide +kernel) (v := Int32.ofInt 2) rfl ?_
  refine lv_iadd hx hb (show decode code 965 = .ok (.iadd, 1) by decide +kernel) ?_
  refine va_sld hx hb hX hbl hbA hI.2 h2 (show decode code 966 = .ok (.iaload, 1) by decide +kernel) ?_
  refine lv_aload_n hx hb (show decode code 967 = .ok (.aload_n 3, 1) by decide +kernel) rfl (lv_at hl 3 rfl) ?_
  obtain ⟨r, rm, mc, ms, Post, hM, ⟨e1, e3, e4⟩, ⟨e5, e6⟩, hP⟩ := wc_leap (Ks := Ks) (Kv := Kv) (Km := Km) (D := D) (dT := dT) (dL := dL) (g := g) (xs (iv + Int32.ofInt 1).toNatClampNeg) (xs (iv + Int32.ofInt 2).toNatClampNeg) hCM hMo hoz X.2.2.2.2.2.2.1 X.2.2.2.2.2.1 hσ hk
  refine lx_call (index := 149) (n := 4) (pc := 968) (as := [.ref C, .int (xs (iv + Int32.ofInt 1).toNatClampNeg), .int (xs (iv + Int32.ofInt 2).toNatClampNeg), .ref o]) X hM e1 ⟨e3, e4⟩ (show Cond.methodLink "LilyWheelsLaw" 149 (⟨"LilyWheelsLaw", "leap", "(LLilyWheels;II[J)I"⟩ : MethodName) ∈ ri_LW from List.mem_filter.mpr ⟨by decide +kernel, by decide +kernel⟩) (show Cond.static (⟨"LilyWheelsLaw", "leap", "(LLilyWheels;II[J)I"⟩ : MethodName) ∈ ri_LW from List.mem_filter.mpr ⟨by decide +kernel, by decide +kernel⟩) (show Cond.initialized (⟨"LilyWheelsLaw", "leap", "(LLilyWheels;II[J)I"⟩ : MethodName).cls ∈ ri_LW from List.mem_filter.mpr ⟨by decide +kernel, by decide +kernel⟩) (show Cond.codeWith (⟨"LilyWheelsLaw", "leap", "(LLilyWheels;II[J)I"⟩ : MethodName) method_14_code 5 (some .int) [(0, 10, 13, 28)] ∈ ri_LW from List.mem_filter.mpr ⟨by decide +kernel, by decide +kernel⟩) ⟨⟨by decide +kernel, by decide +kernel⟩, by decide +kernel⟩ (show decode code 968 = .ok (.invokestatic 149, 3) by decide +kernel) rfl hl.1 hI (by omega) hout (by omega) (by omega) fun H1 locs1 σ3 g3 hI1 hout1 hp => ?_
  obtain ⟨z3, hP3⟩ := hP σ3 g3 hp
  refine W.widen (k := cells + 1) (n := slots + 6) (by omega) (by omega) ?_
  refine lv_istore (lv' := [(5, .int r), (0, .ref b), (1, .ref C), (2, .ref M), (3, .ref o), (4, .int iv)]) hx hb (show decode code 971 = .ok (.istore 5, 2) by decide +kernel) hl (by decide) rfl (fun ls hl => ?_)
  refine lv_aload_n hx hb (show decode code 973 = .ok (.aload_n 2, 1) by decide +kernel) rfl (lv_at hl 3 rfl) ?_
  refine lv_aload_n hx hb (show decode code 974 = .ok (.aload_n 0, 1) by decide +kernel) rfl (lv_at hl 1 rfl) ?_
  refine lv_iload hx hb (show decode code 975 = .ok (.iload 4, 2) by decide +kernel) (lv_at hl 5 rfl) ?_
  refine lv_iconst hx hb (show decode code 977 = .ok (.iconst 1, 1) by decide +kernel) (v := Int32.ofInt 1) rfl ?_
  refine lv_iadd hx hb (show decode code 978 = .ok (.iadd, 1) by decide +kernel) ?_
  refine va_sld hx hb hX hbl hbA hI1.2 h1 (show decode code 979 = .ok (.iaload, 1) by decide +kernel) ?_
  refine lv_aload_n hx hb (show decode code 980 = .ok (.aload_n 0, 1) by decide +kernel) rfl (lv_at hl 1 rfl) ?_
  refine lv_iload hx hb (show decode code 981 = .ok (.iload 4, 2) by decide +kernel) (lv_at hl 5 rfl) ?_
  refine lv_iconst hx hb (show decode code 983 = .ok (.iconst 2, 1) by decide +kernel) (v := Int32.ofInt 2) rfl ?_
  refine lv_iadd hx hb (show decode code 984 = .ok (.iadd, 1) by decide +kernel) ?_
  refine va_sld hx hb hX hbl hbA hI1.2 h2 (show decode code 985 = .ok (.iaload, 1) by decide +kernel) ?_
  exact lx_tail (pc := 986) (km := 208) (n := 3) (as := [.int (xs (iv + Int32.ofInt 1).toNatClampNeg), .int (xs (iv + Int32.ofInt 2).toNatClampNeg)]) X hCM hMo (by omega) hP3 hI1 hout1 (rc_V (nm2 := TN 208) (b2 := TB 208) (m2 := TM 208) (rt2 := TR 208) (n := 2) (ci := 9) (T := TX11) (Nn := 13) ri_LWok rfl (show decode code 986 = .ok (.invokevirtual 151, 3) by decide +kernel) (show Cond.methodLink "LilyWheelsLaw" 151 (TN 208) ∈ ri_LW from List.mem_filter.mpr ⟨by decide +kernel, by decide +kernel⟩) (show Cond.instanceMethod (TN 208) ∈ ri_LW from List.mem_filter.mpr ⟨by decide +kernel, by decide +kernel⟩) (show Cond.selects (TN 208).cls (TN 208) (TN 208) ∈ ri_LW from List.mem_filter.mpr ⟨by decide +kernel, by decide +kernel⟩) (show Cond.initialized (TN 208).cls ∈ ri_LW from List.mem_filter.mpr ⟨by decide +kernel, by decide +kernel⟩) (show Cond.code (TN 208) (TB 208) (TM 208) (TR 208) ∈ ri_LW from List.mem_filter.mpr ⟨by decide +kernel, by decide +kernel⟩) ⟨⟨by decide +kernel, by decide +kernel⟩, by decide +kernel⟩) lx_th992 rfl rfl ⟨by decide +kernel, by decide +kernel⟩ hl (by omega) (by omega)
    (show decode code 989 = .ok (.istore 6, 2) by decide +kernel) (show decode code 991 = .ok (.aload_n 2, 1) by decide +kernel) (show decode code 995 = .ok (.iload 5, 2) by decide +kernel) (show decode code 997 = .ok (.if_icmp .eq 5, 3) by decide +kernel) (show decode code 1002 = .ok (.iload 5, 2) by decide +kernel) (show decode code 1004 = .ok (.ifCond .ne 15, 3) by decide +kernel) (show decode code 1007 = .ok (.aload_n 3, 1) by decide +kernel) (show decode code 1008 = .ok (.iconst 0, 1) by decide +kernel) (show decode code 1009 = .ok (.laload, 1) by decide +kernel) (show decode code 1010 = .ok (.iload 6, 2) by decide +kernel) (show decode code 1012 = .ok (.i2l, 1) by decide +kernel) (show decode code 1013 = .ok (.lcmp, 1) by decide +kernel) (show decode code 1014 = .ok (.ifCond .eq 5, 3) by decide +kernel) (show decode code 1019 = .ok (.goto 847, 3) by decide +kernel) (by omega) fun H2 locs2 ls2 σ4 hw hz hI2 hout2 hl2 => kk H2 locs2 ls2 σ4 g3 ⟨⟨hC, hCM, hMo, hz⟩, hw, hI2, hout2, hl2⟩
end LX
