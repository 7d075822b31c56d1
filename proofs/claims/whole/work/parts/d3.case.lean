/-! The law: cases, 1. -/
/-- a long out of two ints, as the law makes it -/
def lx_j (x y : Int32) : Int64 := (x.toInt64 <<< ((Int32.ofInt 32).toInt64 &&& 63)) ||| (y.toInt64 &&& 4294967295)
section LX
variable {Ks Kv Km : Nat → Nat} {D : va_G} {dT : Nat → ClassId} {dL : ClassId} {p : Program} {l : Launch} {e : Env} {s : State} {m : MethodId} {below : List Frame} {meth : Method} {c : Code} {b L : Nat} {xs : Nat → Int32} {H : Heap} {locs : List Loc} {cells slots : Nat} {ls : Array Slot} {σ : ri_S} {Q : State → Prop} {C M o : Nat} {K : Int} {iv : Int32} {g : Nat → Int64}
theorem lc_clearText (X : lx_X Ks Kv Km D dT dL p l s m meth c b L xs) (S : lx_S D dT dL s b C M o iv K σ g H locs ls) (h1 : vp_in (iv + Int32.ofInt 1) L) (h2 : vp_in (iv + Int32.ofInt 2) L) (h3 : vp_in (iv + Int32.ofInt 3) L) (h4 : vp_in (iv + Int32.ofInt 4) L) (hcs : cells + 1 ≤ 601024) (hss : slots + 6 ≤ 7293034) (hk : K + 20 + 400000 ≤ 1000000)
    (kk : ∀ (H1 : Heap) (locs1 : List Loc) (ls1 : Array Slot) (σ4 : ri_S) (g4 : Nat → Int64), lx_S D dT dL s b C M o iv (K + 20) σ4 g4 H1 locs1 ls1 → W p l e room_1 s m #[Value.ref b] below meth c H1 locs1 (cells + 1) (slots + 6) Q (F0 m 1866 ls1 [])) : W p l e room_1 s m #[Value.ref b] below meth c H locs cells slots Q (F0 m 212 ls []) := by
  obtain ⟨⟨hC, hCM, hMo, hoz⟩, hσ, hI, hout, hl⟩ := S
  have hx := X.2.1.1
  have hb := X.2.1.2.1
  have hX := X.1.2.2.2.2.2.2.1
  have hbl := X.1.2.2.2.2.2.2.2.1
  have htl := X.1.2.2.2.2.2.1
  have hown := X.1.2.2.2.2.1
  have hbA : ¬ lx_A s b := Nat.not_le.mpr hbl
  have hs : ∀ (z : Nat) (σ : ri_S), su_w K C M z σ → su_r Ks (K + 20) C M z 110 183 [] σ := by
    rintro z σ ⟨V, PR, PZ, X, S, A, rfl, hr⟩
    exact su_clear hCM hr hk
  obtain ⟨v, σ1, σ4, a1, a2, a3, a4, a5⟩ := hs _ _ hσ
  have hf := su_w_f hσ
  have z1 : σ1.2 = σ.2 := su_f_z a2
  have z4 : σ4.2 = σ.2 := su_f_z (su_w_f a5)
  refine lv_aload_n hx hb (show decode code 212 = .ok (.aload_n 1, 1) by decide +kernel) rfl (lv_at hl 1 rfl) ?_
  refine lx_mod0 (as := [.ref C]) (rest := []) X (rc_V (nm2 := TN 110) (b2 := TB 110) (m2 := TM 110) (rt2 := TR 110) (n := 0) (ci := 8) (T := TX10) (Nn := 6) ri_LWok rfl (show decode code 213 = .ok (.invokevirtual 107, 3) by decide +kernel) (show Cond.methodLink "LilyWheelsLaw" 107 (TN 110) ∈ ri_LW from List.mem_filter.mpr ⟨by decide +kernel, by decide +kernel⟩) (show Cond.instanceMethod (TN 110) ∈ ri_LW from List.mem_filter.mpr ⟨by decide +kernel, by decide +kernel⟩) (show Cond.selects (TN 110).cls (TN 110) (TN 110) ∈ ri_LW from List.mem_filter.mpr ⟨by decide +kernel, by decide +kernel⟩) (show Cond.initialized (TN 110).cls ∈ ri_LW from List.mem_filter.mpr ⟨by decide +kernel, by decide +kernel⟩) (show Cond.code (TN 110) (TB 110) (TM 110) (TR 110) ∈ ri_LW from List.mem_filter.mpr ⟨by decide +kernel, by decide +kernel⟩) ⟨⟨by decide +kernel, by decide +kernel⟩, by decide +kernel⟩) a1 z1 rfl (su_f_C hf) rfl ⟨by decide +kernel, by decide +kernel⟩ (by simp) hl.1 hI (by omega) (by omega) fun H1 locs1 hI1 hk1 => ?_
  have hout1 : wr_out dL o g H1 := (hk1 o (by rw [hI.1.2]; exact hoz) (wr_nd (su_f_o hf hCM hMo) hoz)).trans hout
  show W p l e room_1 s m #[Value.ref b] below meth c H1 locs1 cells slots Q (F0 m 216 ls [.int v])
  refine lv_aload_n hx hb (show decode code 216 = .ok (.aload_n 2, 1) by decide +kernel) rfl (lv_at hl 2 rfl) ?_
  refine lx_mod0 (as := [.ref M]) (rest := [.int v]) X (rc_V (nm2 := TN 183) (b2 := TB 183) (m2 := TM 183) (rt2 := TR 183) (n := 0) (ci := 9) (T := TX11) (Nn := 13) ri_LWok rfl (show decode code 217 = .ok (.invokevirtual 110, 3) by decide +kernel) (show Cond.methodLink "LilyWheelsLaw" 110 (TN 183) ∈ ri_LW from List.mem_filter.mpr ⟨by decide +kernel, by decide +kernel⟩) (show Cond.instanceMethod (TN 183) ∈ ri_LW from List.mem_filter.mpr ⟨by decide +kernel, by decide +kernel⟩) (show Cond.selects (TN 183).cls (TN 183) (TN 183) ∈ ri_LW from List.mem_filter.mpr ⟨by decide +kernel, by decide +kernel⟩) (show Cond.initialized (TN 183).cls ∈ ri_LW from List.mem_filter.mpr ⟨by decide +kernel, by decide +kernel⟩) (show Cond.code (TN 183) (TB 183) (TM 183) (TR 183) ∈ ri_LW from List.mem_filter.mpr ⟨by decide +kernel, by decide +kernel⟩) ⟨⟨by decide +kernel, by decide +kernel⟩, by decide +kernel⟩) (cal_2 a3) (by rw [z4, z1]) rfl (su_f_M a2 hCM) rfl ⟨by decide +kernel, by decide +kernel⟩ (by simp [Value.category]) hl.1 hI1 (by omega) (by omega) fun H2 locs2 hI2 hk2 => ?_
  have hout2 : wr_out dL o g H2 := (hk2 o (by rw [hI1.1.2, z1]; exact hoz) (wr_nd (su_f_o a2 hCM hMo) (by rw [z1]; exact hoz))).trans hout1
  show W p l e room_1 s m #[Value.ref b] below meth c H2 locs2 cells slots Q (F0 m 220 ls [.int v, .int v])
  refine lv_icmp_eq hx hb (show decode code 220 = .ok (.if_icmp .eq 1646, 3) by decide +kernel) (tgt := 1866) (by omega) (fun _ => ?_) (fun h => absurd rfl h)
  refine W.widen (k := cells + 1) (n := slots + 6) (by omega) (by omega) ?_
  exact kk H2 locs2 ls σ4 g ⟨⟨hC, hCM, hMo, by rw [z4]; exact hoz⟩, by rw [z4]; exact a5, hI2, hout2, hl⟩
theorem lc_errorPosition (X : lx_X Ks Kv Km D dT dL p l s m meth c b L xs) (S : lx_S D dT dL s b C M o iv K σ g H locs ls) (h1 : vp_in (iv + Int32.ofInt 1) L) (h2 : vp_in (iv + Int32.ofInt 2) L) (h3 : vp_in (iv + Int32.ofInt 3) L) (h4 : vp_in (iv + Int32.ofInt 4) L) (hcs : cells + 1 ≤ 601024) (hss : slots + 6 ≤ 7293034) (hk : K + 20 + 400000 ≤ 1000000)
    (kk : ∀ (H1 : Heap) (locs1 : List Loc) (ls1 : Array Slot) (σ4 : ri_S) (g4 : Nat → Int64), lx_S D dT dL s b C M o iv (K + 20) σ4 g4 H1 locs1 ls1 → W p l e room_1 s m #[Value.ref b] below meth c H1 locs1 (cells + 1) (slots + 6) Q (F0 m 1866 ls1 [])) : W p l e room_1 s m #[Value.ref b] below meth c H locs cells slots Q (F0 m 225 ls []) := by
  obtain ⟨⟨hC, hCM, hMo, hoz⟩, hσ, hI, hout, hl⟩ := S
  have hx := X.2.1.1
  have hb := X.2.1.2.1
  have hX := X.1.2.2.2.2.2.2.1
  have hbl := X.1.2.2.2.2.2.2.2.1
  have htl := X.1.2.2.2.2.2.1
  have hown := X.1.2.2.2.2.1
  have hKs := X.2.2.2.2.2.1
  have hbA : ¬ lx_A s b := Nat.not_le.mpr hbl
  have hs : ∀ (z : Nat) (σ : ri_S), su_w K C M z σ → su_r Ks (K + 20) C M z 111 194 [] σ := by
    rintro z σ ⟨V, PR, PZ, X, S, A, rfl, hr⟩
    exact su_error hCM hKs hr hk
  obtain ⟨v, σ1, σ4, a1, a2, a3, a4, a5⟩ := hs _ _ hσ
  have hf := su_w_f hσ
  have z1 : σ1.2 = σ.2 := su_f_z a2
  have z4 : σ4.2 = σ.2 := su_f_z (su_w_f a5)
  refine lv_aload_n hx hb (show decode code 225 = .ok (.aload_n 1, 1) by decide +kernel) rfl (lv_at hl 1 rfl) ?_
  refine lx_mod0 (as := [.ref C]) (rest := []) X (rc_V (nm2 := TN 111) (b2 := TB 111) (m2 := TM 111) (rt2 := TR 111) (n := 0) (ci := 8) (T := TX10) (Nn := 6) ri_LWok rfl (show decode code 226 = .ok (.invokevirtual 111, 3) by decide +kernel) (show Cond.methodLink "LilyWheelsLaw" 111 (TN 111) ∈ ri_LW from List.mem_filter.mpr ⟨by decide +kernel, by decide +kernel⟩) (show Cond.instanceMethod (TN 111) ∈ ri_LW from List.mem_filter.mpr ⟨by decide +kernel, by decide +kernel⟩) (show Cond.selects (TN 111).cls (TN 111) (TN 111) ∈ ri_LW from List.mem_filter.mpr ⟨by decide +kernel, by decide +kernel⟩) (show Cond.initialized (TN 111).cls ∈ ri_LW from List.mem_filter.mpr ⟨by decide +kernel, by decide +kernel⟩) (show Cond.code (TN 111) (TB 111) (TM 111) (TR 111) ∈ ri_LW from List.mem_filter.mpr ⟨by decide +kernel, by decide +kernel⟩) ⟨⟨by decide +kernel, by decide +kernel⟩, by decide +kernel⟩) a1 z1 rfl (su_f_C hf) rfl ⟨by decide +kernel, by decide +kernel⟩ (by simp) hl.1 hI (by omega) (by omega) fun H1 locs1 hI1 hk1 => ?_
  have hout1 : wr_out dL o g H1 := (hk1 o (by rw [hI.1.2]; exact hoz) (wr_nd (su_f_o hf hCM hMo) hoz)).trans hout
  show W p l e room_1 s m #[Value.ref b] below meth c H1 locs1 cells slots Q (F0 m 229 ls [.int v])
  refine lv_aload_n hx hb (show decode code 229 = .ok (.aload_n 2, 1) by decide +kernel) rfl (lv_at hl 2 rfl) ?_
  refine lx_mod0 (as := [.ref M]) (rest := [.int v]) X (rc_V (nm2 := TN 194) (b2 := TB 194) (m2 := TM 194) (rt2 := TR 194) (n := 0) (ci := 9) (T := TX11) (Nn := 13) ri_LWok rfl (show decode code 230 = .ok (.invokevirtual 114, 3) by decide +kernel) (show Cond.methodLink "LilyWheelsLaw" 114 (TN 194) ∈ ri_LW from List.mem_filter.mpr ⟨by decide +kernel, by decide +kernel⟩) (show Cond.instanceMethod (TN 194) ∈ ri_LW from List.mem_filter.mpr ⟨by decide +kernel, by decide +kernel⟩) (show Cond.selects (TN 194).cls (TN 194) (TN 194) ∈ ri_LW from List.mem_filter.mpr ⟨by decide +kernel, by decide +kernel⟩) (show Cond.initialized (TN 194).cls ∈ ri_LW from List.mem_filter.mpr ⟨by decide +kernel, by decide +kernel⟩) (show Cond.code (TN 194) (TB 194) (TM 194) (TR 194) ∈ ri_LW from List.mem_filter.mpr ⟨by decide +kernel, by decide +kernel⟩) ⟨⟨by decide +kernel, by decide +kernel⟩, by decide +kernel⟩) (cal_2 a3) (by rw [z4, z1]) rfl (su_f_M a2 hCM) rfl ⟨by decide +kernel, by decide +kernel⟩ (by simp [Value.category]) hl.1 hI1 (by omega) (by omega) fun H2 locs2 hI2 hk2 => ?_
  have hout2 : wr_out dL o g H2 := (hk2 o (by rw [hI1.1.2, z1]; exact hoz) (wr_nd (su_f_o a2 hCM hMo) (by rw [z1]; exact hoz))).trans hout1
  show W p l e room_1 s m #[Value.ref b] below meth c H2 locs2 cells slots Q (F0 m 233 ls [.int v, .int v])
  refine lv_icmp_eq hx hb (show decode code 233 = .ok (.if_icmp .eq 1633, 3) by decide +kernel) (tgt := 1866) (by omega) (fun _ => ?_) (fun h => absurd rfl h)
  refine W.widen (k := cells + 1) (n := slots + 6) (by omega) (by omega) ?_
  exact kk H2 locs2 ls σ4 g ⟨⟨hC, hCM, hMo, by rw [z4]; exact hoz⟩, by rw [z4]; exact a5, hI2, hout2, hl⟩
theorem lx_th182 : ri_cok ri_LW vwCl "LilyWheelsLaw" code 7 182 (TN 144) (TB 144) (TM 144) (TR 144) 1 (some 9) := (rc_V (nm2 := TN 144) (b2 := TB 144) (m2 := TM 144) (rt2 := TR 144) (n := 0) (ci := 9) (T := TX11) (Nn := 13) ri_LWok rfl (show decode code 182 = .ok (.invokevirtual 104, 3) by decide +kernel) (show Cond.methodLink "LilyWheelsLaw" 104 (TN 144) ∈ ri_LW from List.mem_filter.mpr ⟨by decide +kernel, by decide +kernel⟩) (show Cond.instanceMethod (TN 144) ∈ ri_LW from List.mem_filter.mpr ⟨by decide +kernel, by decide +kernel⟩) (show Cond.selects (TN 144).cls (TN 144) (TN 144) ∈ ri_LW from List.mem_filter.mpr ⟨by decide +kernel, by decide +kernel⟩) (show Cond.initialized (TN 144).cls ∈ ri_LW from List.mem_filter.mpr ⟨by decide +kernel, by decide +kernel⟩) (show Cond.code (TN 144) (TB 144) (TM 144) (TR 144) ∈ ri_LW from List.mem_filter.mpr ⟨by decide +kernel, by decide +kernel⟩) ⟨⟨by decide +kernel, by decide +kernel⟩, by decide +kernel⟩)
theorem lc_append (X : lx_X Ks Kv Km D dT dL p l s m meth c b L xs) (S : lx_S D dT dL s b C M o iv K σ g H locs ls) (h1 : vp_in (iv + Int32.ofInt 1) L) (h2 : vp_in (iv + Int32.ofInt 2) L) (h3 : vp_in (iv + Int32.ofInt 3) L) (h4 : vp_in (iv + Int32.ofInt 4) L) (hcs : cells + 1 ≤ 601024) (hss : slots + 6 ≤ 7293034) (hk : K + 20 + 400000 ≤ 1000000)
    (kk : ∀ (H1 : Heap) (locs1 : List Loc) (ls1 : Array Slot) (σ4 : ri_S) (g4 : Nat → Int64), lx_S D dT dL s b C M o iv (K + 20) σ4 g4 H1 locs1 ls1 → W p l e room_1 s m #[Value.ref b] below meth c H1 locs1 (cells + 1) (slots + 6) Q (F0 m 1866 ls1 [])) : W p l e room_1 s m #[Value.ref b] below meth c H locs cells slots Q (F0 m 156 ls []) := by
  obtain ⟨⟨hC, hCM, hMo, hoz⟩, hσ, hI, hout, hl⟩ := S
  have hx := X.2.1.1
  have hb := X.2.1.2.1
  have hX := X.1.2.2.2.2.2.2.1
  have hbl := X.1.2.2.2.2.2.2.2.1
  have htl := X.1.2.2.2.2.2.1
  have hown := X.1.2.2.2.2.1
  have hbA : ¬ lx_A s b := Nat.not_le.mpr hbl
  refine lv_aload_n hx hb (show decode code 156 = .ok (.aload_n 1, 1) by decide +kernel) rfl (lv_at hl 1 rfl) ?_
  refine lv_aload_n hx hb (show decode code 157 = .ok (.aload_n 0, 1) by decide +kernel) rfl (lv_at hl 0 rfl) ?_
  refine lv_iload hx hb (show decode code 158 = .ok (.iload 4, 2) by decide +kernel) (lv_at hl 4 rfl) ?_
  refine lv_iconst hx hb (show decode code 160 = .ok (.iconst 1, 1) by decide +kernel) (v := Int32.ofInt 1) rfl ?_
  refine lv_iadd hx hb (show decode code 161 = .ok (.iadd, 1) by decide +kernel) ?_
  refine va_sld hx hb hX hbl hbA hI.2 h1 (show decode code 162 = .ok (.iaload, 1) by decide +kernel) ?_
  refine lv_aload_n hx hb (show decode code 163 = .ok (.aload_n 3, 1) by decide +kernel) rfl (lv_at hl 3 rfl) ?_
  obtain ⟨r, rm, mc, ms, Post, hM, ⟨e1, e3, e4⟩, ⟨e5, e6⟩, hP⟩ := wc_append (Ks := Ks) (Kv := Kv) (Km := Km) (D := D) (dT := dT) (dL := dL) (g := g) (xs (iv + Int32.ofInt 1).toNatClampNeg) hCM hMo hoz X.2.2.2.2.2.2.1 X.2.2.2.2.2.1 hσ hk
  refine lx_call (index := 98) (n := 3) (pc := 164) (as := [.ref C, .int (xs (iv + Int32.ofInt 1).toNatClampNeg), .ref o]) X hM e1 ⟨e3, e4⟩ (show Cond.methodLink "LilyWheelsLaw" 98 (⟨"LilyWheelsLaw", "append", "(LLilyWheels;I[J)I"⟩ : MethodName) ∈ ri_LW from List.mem_filter.mpr ⟨by decide +kernel, by decide +kernel⟩) (show Cond.static (⟨"LilyWheelsLaw", "append", "(LLilyWheels;I[J)I"⟩ : MethodName) ∈ ri_LW from List.mem_filter.mpr ⟨by decide +kernel, by decide +kernel⟩) (show Cond.initialized (⟨"LilyWheelsLaw", "append", "(LLilyWheels;I[J)I"⟩ : MethodName).cls ∈ ri_LW from List.mem_filter.mpr ⟨by decide +kernel, by decide +kernel⟩) (show Cond.codeWith (⟨"LilyWheelsLaw", "append", "(LLilyWheels;I[J)I"⟩ : MethodName) method_3_code 4 (some .int) [(0, 9, 12, 13), (0, 9, 15, 15)] ∈ ri_LW from List.mem_filter.mpr ⟨by decide +kernel, by decide +kernel⟩) ⟨⟨by decide +kernel, by decide +kernel⟩, by decide +kernel⟩ (show decode code 164 = .ok (.invokestatic 98, 3) by decide +kernel) rfl hl.1 hI (by omega) hout (by omega) (by omega) fun H1 locs1 σ3 g3 hI1 hout1 hp => ?_
  obtain ⟨z3, hP3⟩ := hP σ3 g3 hp
  refine W.widen (k := cells + 1) (n := slots + 6) (by omega) (by omega) ?_
  refine lv_istore (lv' := [(5, .int r), (0, .ref b), (1, .ref C), (2, .ref M), (3, .ref o), (4, .int iv)]) hx hb (show decode code 167 = .ok (.istore 5, 2) by decide +kernel) hl (by decide) rfl (fun ls hl => ?_)
  refine lv_aload_n hx hb (show decode code 169 = .ok (.aload_n 2, 1) by decide +kernel) rfl (lv_at hl 3 rfl) ?_
  refine lv_aload_n hx hb (show decode code 170 = .ok (.aload_n 0, 1) by decide +kernel) rfl (lv_at hl 1 rfl) ?_
  refine lv_iload hx hb (show decode code 171 = .ok (.iload 4, 2) by decide +kernel) (lv_at hl 5 rfl) ?_
  refine lv_iconst hx hb (show decode code 173 = .ok (.iconst 1, 1) by decide +kernel) (v := Int32.ofInt 1) rfl ?_
  refine lv_iadd hx hb (show decode code 174 = .ok (.iadd, 1) by decide +kernel) ?_
  refine va_sld hx hb hX hbl hbA hI1.2 h1 (show decode code 175 = .ok (.iaload, 1) by decide +kernel) ?_
  exact lx_tail (pc := 176) (km := 182) (n := 2) (as := [.int (xs (iv + Int32.ofInt 1).toNatClampNeg)]) X hCM hMo (by omega) hP3 hI1 hout1 (rc_V (nm2 := TN 182) (b2 := TB 182) (m2 := TM 182) (rt2 := TR 182) (n := 1) (ci := 9) (T := TX11) (Nn := 13) ri_LWok rfl (show decode code 176 = .ok (.invokevirtual 103, 3) by decide +kernel) (show Cond.methodLink "LilyWheelsLaw" 103 (TN 182) ∈ ri_LW from List.mem_filter.mpr ⟨by decide +kernel, by decide +kernel⟩) (show Cond.instanceMethod (TN 182) ∈ ri_LW from List.mem_filter.mpr ⟨by decide +kernel, by decide +kernel⟩) (show Cond.selects (TN 182).cls (TN 182) (TN 182) ∈ ri_LW from List.mem_filter.mpr ⟨by decide +kernel, by decide +kernel⟩) (show Cond.initialized (TN 182).cls ∈ ri_LW from List.mem_filter.mpr ⟨by decide +kernel, by decide +kernel⟩) (show Cond.code (TN 182) (TB 182) (TM 182) (TR 182) ∈ ri_LW from List.mem_filter.mpr ⟨by decide +kernel, by decide +kernel⟩) ⟨⟨by decide +kernel, by decide +kernel⟩, by decide +kernel⟩) lx_th182 rfl rfl ⟨by decide +kernel, by decide +kernel⟩ hl (by omega) (by omega)
    (show decode code 179 = .ok (.istore 6, 2) by decide +kernel) (show decode code 181 = .ok (.aload_n 2, 1) by decide +kernel) (show decode code 185 = .ok (.iload 5, 2) by decide +kernel) (show decode code 187 = .ok (.if_icmp .eq 5, 3) by decide +kernel) (show decode code 192 = .ok (.iload 5, 2) by decide +kernel) (show decode code 194 = .ok (.ifCond .ne 15, 3) by decide +kernel) (show decode code 197 = .ok (.aload_n 3, 1) by decide +kernel) (show decode code 198 = .ok (.iconst 0, 1) by decide +kernel) (show decode code 199 = .ok (.laload, 1) by decide +kernel) (show decode code 200 = .ok (.iload 6, 2) by decide +kernel) (show decode code 202 = .ok (.i2l, 1) by decide +kernel) (show decode code 203 = .ok (.lcmp, 1) by decide +kernel) (show decode code 204 = .ok (.ifCond .eq 5, 3) by decide +kernel) (show decode code 209 = .ok (.goto 1657, 3) by decide +kernel) (by omega) fun H2 locs2 ls2 σ4 hw hz hI2 hout2 hl2 => kk H2 locs2 ls2 σ4 g3 ⟨⟨hC, hCM, hMo, hz⟩, hw, hI2, hout2, hl2⟩
theorem lx_th252 : ri_cok ri_LW vwCl "LilyWheelsLaw" code 7 252 (TN 144) (TB 144) (TM 144) (TR 144) 1 (some 9) := (rc_V (nm2 := TN 144) (b2 := TB 144) (m2 := TM 144) (rt2 := TR 144) (n := 0) (ci := 9) (T := TX11) (Nn := 13) ri_LWok rfl (show decode code 252 = .ok (.invokevirtual 104, 3) by decide +kernel) (show Cond.methodLink "LilyWheelsLaw" 104 (TN 144) ∈ ri_LW from List.mem_filter.mpr ⟨by decide +kernel, by decide +kernel⟩) (show Cond.instanceMethod (TN 144) ∈ ri_LW from List.mem_filter.mpr ⟨by decide +kernel, by decide +kernel⟩) (show Cond.selects (TN 144).cls (TN 144) (TN 144) ∈ ri_LW from List.mem_filter.mpr ⟨by decide +kernel, by decide +kernel⟩) (show Cond.initialized (TN 144).cls ∈ ri_LW from List.mem_filter.mpr ⟨by decide +kernel, by decide +kernel⟩) (show Cond.code (TN 144) (TB 144) (TM 144) (TR 144) ∈ ri_LW from List.mem_filter.mpr ⟨by decide +kernel, by decide +kernel⟩) ⟨⟨by decide +kernel, by decide +kernel⟩, by decide +kernel⟩)
theorem lc_load (X : lx_X Ks Kv Km D dT dL p l s m meth c b L xs) (S : lx_S D dT dL s b C M o iv K σ g H locs ls) (h1 : vp_in (iv + Int32.ofInt 1) L) (h2 : vp_in (iv + Int32.ofInt 2) L) (h3 : vp_in (iv + Int32.ofInt 3) L) (h4 : vp_in (iv + Int32.ofInt 4) L) (hcs : cells + 1 ≤ 601024) (hss : slots + 6 ≤ 7293034) (hk : K + 20 + 400000 ≤ 1000000)
    (kk : ∀ (H1 : Heap) (locs1 : List Loc) (ls1 : Array Slot) (σ4 : ri_S) (g4 : Nat → Int64), lx_S D dT dL s b C M o iv (K + 20) σ4 g4 H1 locs1 ls1 → W p l e room_1 s m #[Value.ref b] below meth c H1 locs1 (cells + 1) (slots + 6) Q (F0 m 1866 ls1 [])) : W p l e room_1 s m #[Value.ref b] below meth c H locs cells slots Q (F0 m 238 ls []) := by
  obtain ⟨⟨hC, hCM, hMo, hoz⟩, hσ, hI, hout, hl⟩ := S
  have hx := X.2.1.1
  have hb := X.2.1.2.1
  have hX := X.1.2.2.2.2.2.2.1
  have hbl := X.1.2.2.2.2.2.2.2.1
  have htl := X.1.2.2.2.2.2.1
  have hown := X.1.2.2.2.2.1
  have hbA : ¬ lx_A s b := Nat.not_le.mpr hbl
  refine lv_aload_n hx hb (show decode code 238 = .ok (.aload_n 1, 1) by decide +kernel) rfl (lv_at hl 1 rfl) ?_
  refine lv_aload_n hx hb (show decode code 239 = .ok (.aload_n 3, 1) by decide +kernel) rfl (lv_at hl 3 rfl) ?_
  obtain ⟨r, rm, mc, ms, Post, hM, ⟨e1, e3, e4⟩, ⟨e5, e6⟩, hP⟩ := wc_load (Ks := Ks) (Kv := Kv) (Km := Km) (D := D) (dT := dT) (dL := dL) (g := g)  hCM hMo hoz X.2.2.2.2.2.2.1 X.2.2.2.2.2.1 hσ hk
  refine lx_call (index := 115) (n := 2) (pc := 240) (as := [.ref C, .ref o]) X hM e1 ⟨e3, e4⟩ (show Cond.methodLink "LilyWheelsLaw" 115 (⟨"LilyWheelsLaw", "load", "(LLilyWheels;[J)I"⟩ : MethodName) ∈ ri_LW from List.mem_filter.mpr ⟨by decide +kernel, by decide +kernel⟩) (show Cond.static (⟨"LilyWheelsLaw", "load", "(LLilyWheels;[J)I"⟩ : MethodName) ∈ ri_LW from List.mem_filter.mpr ⟨by decide +kernel, by decide +kernel⟩) (show Cond.initialized (⟨"LilyWheelsLaw", "load", "(LLilyWheels;[J)I"⟩ : MethodName).cls ∈ ri_LW from List.mem_filter.mpr ⟨by decide +kernel, by decide +kernel⟩) (show Cond.codeWith (⟨"LilyWheelsLaw", "load", "(LLilyWheels;[J)I"⟩ : MethodName) method_4_code 3 (some .int) [(0, 8, 11, 15)] ∈ ri_LW from List.mem_filter.mpr ⟨by decide +kernel, by decide +kernel⟩) ⟨⟨by decide +kernel, by decide +kernel⟩, by decide +kernel⟩ (show decode code 240 = .ok (.invokestatic 115, 3) by decide +kernel) rfl hl.1 hI (by omega) hout (by omega) (by omega) fun H1 locs1 σ3 g3 hI1 hout1 hp => ?_
  obtain ⟨z3, hP3⟩ := hP σ3 g3 hp
  refine W.widen (k := cells + 1) (n := slots + 6) (by omega) (by omega) ?_
  refine lv_istore (lv' := [(5, .int r), (0, .ref b), (1, .ref C), (2, .ref M), (3, .ref o), (4, .int iv)]) hx hb (show decode code 243 = .ok (.istore 5, 2) by decide +kernel) hl (by decide) rfl (fun ls hl => ?_)
  refine lv_aload_n hx hb (show decode code 245 = .ok (.aload_n 2, 1) by decide +kernel) rfl (lv_at hl 3 rfl) ?_
  exact lx_tail (pc := 246) (km := 195) (n := 1) (as := []) X hCM hMo (by omega) hP3 hI1 hout1 (rc_V (nm2 := TN 195) (b2 := TB 195) (m2 := TM 195) (rt2 := TR 195) (n := 0) (ci := 9) (T := TX11) (Nn := 13) ri_LWok rfl (show decode code 246 = .ok (.invokevirtual 118, 3) by decide +kernel) (show Cond.methodLink "LilyWheelsLaw" 118 (TN 195) ∈ ri_LW from List.mem_filter.mpr ⟨by decide +kernel, by decide +kernel⟩) (show Cond.instanceMethod (TN 195) ∈ ri_LW from List.mem_filter.mpr ⟨by decide +kernel, by decide +kernel⟩) (show Cond.selects (TN 195).cls (TN 195) (TN 195) ∈ ri_LW from List.mem_filter.mpr ⟨by decide +kernel, by decide +kernel⟩) (show Cond.initialized (TN 195).cls ∈ ri_LW from List.mem_filter.mpr ⟨by decide +kernel, by decide +kernel⟩) (show Cond.code (TN 195) (TB 195) (TM 195) (TR 195) ∈ ri_LW from List.mem_filter.mpr ⟨by decide +kernel, by decide +kernel⟩) ⟨⟨by decide +kernel, by decide +kernel⟩, by decide +kernel⟩) lx_th252 rfl rfl ⟨by decide +kernel, by decide +kernel⟩ hl (by omega) (by omega)
    (show decode code 249 = .ok (.istore 6, 2) by decide +kernel) (show decode code 251 = .ok (.aload_n 2, 1) by decide +kernel) (show decode code 255 = .ok (.iload 5, 2) by decide +kernel) (show decode code 257 = .ok (.if_icmp .eq 5, 3) by decide +kernel) (show decode code 262 = .ok (.iload 5, 2) by decide +kernel) (show decode code 264 = .ok (.ifCond .ne 15, 3) by decide +kernel) (show decode code 267 = .ok (.aload_n 3, 1) by decide +kernel) (show decode code 268 = .ok (.iconst 0, 1) by decide +kernel) (show decode code 269 = .ok (.laload, 1) by decide +kernel) (show decode code 270 = .ok (.iload 6, 2) by decide +kernel) (show decode code 272 = .ok (.i2l, 1) by decide +kernel) (show decode code 273 = .ok (.lcmp, 1) by decide +kernel) (show decode code 274 = .ok (.ifCond .eq 5, 3) by decide +kernel) (show decode code 279 = .ok (.goto 1587, 3) by decide +kernel) (by omega) fun H2 locs2 ls2 σ4 hw hz hI2 hout2 hl2 => kk H2 locs2 ls2 σ4 g3 ⟨⟨hC, hCM, hMo, hz⟩, hw, hI2, hout2, hl2⟩
theorem lx_th308 : ri_cok ri_LW vwCl "LilyWheelsLaw" code 7 308 (TN 144) (TB 144) (TM 144) (TR 144) 1 (some 9) := (rc_V (nm2 := TN 144) (b2 := TB 144) (m2 := TM 144) (rt2 := TR 144) (n := 0) (ci := 9) (T := TX11) (Nn := 13) ri_LWok rfl (show decode code 308 = .ok (.invokevirtual 104, 3) by decide +kernel) (show Cond.methodLink "LilyWheelsLaw" 104 (TN 144) ∈ ri_LW from List.mem_filter.mpr ⟨by decide +kernel, by decide +kernel⟩) (show Cond.instanceMethod (TN 144) ∈ ri_LW from List.mem_filter.mpr ⟨by decide +kernel, by decide +kernel⟩) (show Cond.selects (TN 144).cls (TN 144) (TN 144) ∈ ri_LW from List.mem_filter.mpr ⟨by decide +kernel, by decide +kernel⟩) (show Cond.initialized (TN 144).cls ∈ ri_LW from List.mem_filter.mpr ⟨by decide +kernel, by decide +kernel⟩) (show Cond.code (TN 144) (TB 144) (TM 144) (TR 144) ∈ ri_LW from List.mem_filter.mpr ⟨by decide +kernel, by decide +kernel⟩) ⟨⟨by decide +kernel, by decide +kernel⟩, by decide +kernel⟩)
theorem lc_about (X : lx_X Ks Kv Km D dT dL p l s m meth c b L xs) (S : lx_S D dT dL s b C M o iv K σ g H locs ls) (h1 : vp_in (iv + Int32.ofInt 1) L) (h2 : vp_in (iv + Int32.ofInt 2) L) (h3 : vp_in (iv + Int32.ofInt 3) L) (h4 : vp_in (iv + Int32.ofInt 4) L) (hcs : cells + 1 ≤ 601024) (hss : slots + 6 ≤ 7293034) (hk : K + 20 + 400000 ≤ 1000000)
    (kk : ∀ (H1 : Heap) (locs1 : List Loc) (ls1 : Array Slot) (σ4 : ri_S) (g4 : Nat → Int64), lx_S D dT dL s b C M o iv (K + 20) σ4 g4 H1 locs1 ls1 → W p l e room_1 s m #[Value.ref b] below meth c H1 locs1 (cells + 1) (slots + 6) Q (F0 m 1866 ls1 [])) : W p l e room_1 s m #[Value.ref b] below meth c H locs cells slots Q (F0 m 282 ls []) := by
  obtain ⟨⟨hC, hCM, hMo, hoz⟩, hσ, hI, hout, hl⟩ := S
  have hx := X.2.1.1
  have hb := X.2.1.2.1
  have hX := X.1.2.2.2.2.2.2.1
  have hbl := X.1.2.2.2.2.2.2.2.1
  have htl := X.1.2.2.2.2.2.1
  have hown := X.1.2.2.2.2.1
  have hbA : ¬ lx_A s b := Nat.not_le.mpr hbl
  refine lv_aload_n hx hb (show decode code 282 = .ok (.aload_n 1, 1) by decide +kernel) rfl (lv_at hl 1 rfl) ?_
  refine lv_aload_n hx hb (show decode code 283 = .ok (.aload_n 0, 1) by decide +kernel) rfl (lv_at hl 0 rfl) ?_
  refine lv_iload hx hb (show decode code 284 = .ok (.iload 4, 2) by decide +kernel) (lv_at hl 4 rfl) ?_
  refine lv_iconst hx hb (show decode code 286 = .ok (.iconst 1, 1) by decide +kernel) (v := Int32.ofInt 1) rfl ?_
  refine lv_iadd hx hb (show decode code 287 = .ok (.iadd, 1) by decide +kernel) ?_
  refine va_sld hx hb hX hbl hbA hI.2 h1 (show decode code 288 = .ok (.iaload, 1) by decide +kernel) ?_
  refine lv_aload_n hx hb (show decode code 289 = .ok (.aload_n 3, 1) by decide +kernel) rfl (lv_at hl 3 rfl) ?_
  obtain ⟨r, rm, mc, ms, Post, hM, ⟨e1, e3, e4⟩, ⟨e5, e6⟩, hP⟩ := wc_about (Ks := Ks) (Kv := Kv) (Km := Km) (D := D) (dT := dT) (dL := dL) (g := g) (xs (iv + Int32.ofInt 1).toNatClampNeg) hCM hMo hoz X.2.2.2.2.2.2.1 X.2.2.2.2.2.1 hσ hk
  refine lx_call (index := 119) (n := 3) (pc := 290) (as := [.ref C, .int (xs (iv + Int32.ofInt 1).toNatClampNeg), .ref o]) X hM e1 ⟨e3, e4⟩ (show Cond.methodLink "LilyWheelsLaw" 119 (⟨"LilyWheelsLaw", "about", "(LLilyWheels;I[J)I"⟩ : MethodName) ∈ ri_LW from List.mem_filter.mpr ⟨by decide +kernel, by decide +kernel⟩) (show Cond.static (⟨"LilyWheelsLaw", "about", "(LLilyWheels;I[J)I"⟩ : MethodName) ∈ ri_LW from List.mem_filter.mpr ⟨by decide +kernel, by decide +kernel⟩) (show Cond.initialized (⟨"LilyWheelsLaw", "about", "(LLilyWheels;I[J)I"⟩ : MethodName).cls ∈ ri_LW from List.mem_filter.mpr ⟨by decide +kernel, by decide +kernel⟩) (show Cond.codeWith (⟨"LilyWheelsLaw", "about", "(LLilyWheels;I[J)I"⟩ : MethodName) method_5_code 4 (some .int) [(0, 9, 12, 13)] ∈ ri_LW from List.mem_filter.mpr ⟨by decide +kernel, by decide +kernel⟩) ⟨⟨by decide +kernel, by decide +kernel⟩, by decide +kernel⟩ (show decode code 290 = .ok (.invokestatic 119, 3) by decide +kernel) rfl hl.1 hI (by omega) hout (by omega) (by omega) fun H1 locs1 σ3 g3 hI1 hout1 hp => ?_
  obtain ⟨z3, hP3⟩ := hP σ3 g3 hp
  refine W.widen (k := cells + 1) (n := slots + 6) (by omega) (by omega) ?_
  refine lv_istore (lv' := [(5, .int r), (0, .ref b), (1, .ref C), (2, .ref M), (3, .ref o), (4, .int iv)]) hx hb (show decode code 293 = .ok (.istore 5, 2) by decide +kernel) hl (by decide) rfl (fun ls hl => ?_)
  refine lv_aload_n hx hb (show decode code 295 = .ok (.aload_n 2, 1) by decide +kernel) rfl (lv_at hl 3 rfl) ?_
  refine lv_aload_n hx hb (show decode code 296 = .ok (.aload_n 0, 1) by decide +kernel) rfl (lv_at hl 1 rfl) ?_
  refine lv_iload hx hb (show decode code 297 = .ok (.iload 4, 2) by decide +kernel) (lv_at hl 5 rfl) ?_
  refine lv_iconst hx hb (show decode code 299 = .ok (.iconst 1, 1) by decide +kernel) (v := Int32.ofInt 1) rfl ?_
  refine lv_iadd hx hb (show decode code 300 = .ok (.iadd, 1) by decide +kernel) ?_
  refine va_sld hx hb hX hbl hbA hI1.2 h1 (show decode code 301 = .ok (.iaload, 1) by decide +kernel) ?_
  exact lx_tail (pc := 302) (km := 197) (n := 2) (as := [.int (xs (iv + Int32.ofInt 1).toNatClampNeg)]) X hCM hMo (by omega) hP3 hI1 hout1 (rc_V (nm2 := TN 197) (b2 := TB 197) (m2 := TM 197) (rt2 := TR 197) (n := 1) (ci := 9) (T := TX11) (Nn := 13) ri_LWok rfl (show decode code 302 = .ok (.invokevirtual 121, 3) by decide +kernel) (show Cond.methodLink "LilyWheelsLaw" 121 (TN 197) ∈ ri_LW from List.mem_filter.mpr ⟨by decide +kernel, by decide +kernel⟩) (show Cond.instanceMethod (TN 197) ∈ ri_LW from List.mem_filter.mpr ⟨by decide +kernel, by decide +kernel⟩) (show Cond.selects (TN 197).cls (TN 197) (TN 197) ∈ ri_LW from List.mem_filter.mpr ⟨by decide +kernel, by decide +kernel⟩) (show Cond.initialized (TN 197).cls ∈ ri_LW from List.mem_filter.mpr ⟨by decide +kernel, by decide +kernel⟩) (show Cond.code (TN 197) (TB 197) (TM 197) (TR 197) ∈ ri_LW from List.mem_filter.mpr ⟨by decide +kernel, by decide +kernel⟩) ⟨⟨by decide +kernel, by decide +kernel⟩, by decide +kernel⟩) lx_th308 rfl rfl ⟨by decide +kernel, by decide +kernel⟩ hl (by omega) (by omega)
    (show decode code 305 = .ok (.istore 6, 2) by decide +kernel) (show decode code 307 = .ok (.aload_n 2, 1) by decide +kernel) (show decode code 311 = .ok (.iload 5, 2) by decide +kernel) (show decode code 313 = .ok (.if_icmp .eq 5, 3) by decide +kernel) (show decode code 318 = .ok (.iload 5, 2) by decide +kernel) (show decode code 320 = .ok (.ifCond .ne 15, 3) by decide +kernel) (show decode code 323 = .ok (.aload_n 3, 1) by decide +kernel) (show decode code 324 = .ok (.iconst 0, 1) by decide +kernel) (show decode code 325 = .ok (.laload, 1) by decide +kernel) (show decode code 326 = .ok (.iload 6, 2) by decide +kernel) (show decode code 328 = .ok (.i2l, 1) by decide +kernel) (show decode code 329 = .ok (.lcmp, 1) by decide +kernel) (show decode code 330 = .ok (.ifCond .eq 5, 3) by decide +kernel) (show decode code 335 = .ok (.goto 1531, 3) by decide +kernel) (by omega) fun H2 locs2 ls2 σ4 hw hz hI2 hout2 hl2 => kk H2 locs2 ls2 σ4 g3 ⟨⟨hC, hCM, hMo, hz⟩, hw, hI2, hout2, hl2⟩
theorem lx_th376 : ri_cok ri_LW vwCl "LilyWheelsLaw" code 7 376 (TN 144) (TB 144) (TM 144) (TR 144) 1 (some 9) := (rc_V (nm2 := TN 144) (b2 := TB 144) (m2 := TM 144) (rt2 := TR 144) (n := 0) (ci := 9) (T := TX11) (Nn := 13) ri_LWok rfl (show decode code 376 = .ok (.invokevirtual 104, 3) by decide +kernel) (show Cond.methodLink "LilyWheelsLaw" 104 (TN 144) ∈ ri_LW from List.mem_filter.mpr ⟨by decide +kernel, by decide +kernel⟩) (show Cond.instanceMethod (TN 144) ∈ ri_LW from List.mem_filter.mpr ⟨by decide +kernel, by decide +kernel⟩) (show Cond.selects (TN 144).cls (TN 144) (TN 144) ∈ ri_LW from List.mem_filter.mpr ⟨by decide +kernel, by decide +kernel⟩) (show Cond.initialized (TN 144).cls ∈ ri_LW from List.mem_filter.mpr ⟨by decide +kernel, by decide +kernel⟩) (show Cond.code (TN 144) (TB 144) (TM 144) (TR 144) ∈ ri_LW from List.mem_filter.mpr ⟨by decide +kernel, by decide +kernel⟩) ⟨⟨by decide +kernel, by decide +kernel⟩, by decide +kernel⟩)
theorem lc_wheelOf (X : lx_X Ks Kv Km D dT dL p l s m meth c b L xs) (S : lx_S D dT dL s b C M o iv K σ g H locs ls) (h1 : vp_in (iv + Int32.ofInt 1) L) (h2 : vp_in (iv + Int32.ofInt 2) L) (h3 : vp_in (iv + Int32.ofInt 3) L) (h4 : vp_in (iv + Int32.ofInt 4) L) (hcs : cells + 1 ≤ 601024) (hss : slots + 6 ≤ 7293034) (hk : K + 20 + 400000 ≤ 1000000)
    (kk : ∀ (H1 : Heap) (locs1 : List Loc) (ls1 : Array Slot) (σ4 : ri_S) (g4 : Nat → Int64), lx_S D dT dL s b C M o iv (K + 20) σ4 g4 H1 locs1 ls1 → W p l e room_1 s m #[Value.ref b] below meth c H1 locs1 (cells + 1) (slots + 6) Q (F0 m 1866 ls1 [])) : W p l e room_1 s m #[Value.ref b] below meth c H locs cells slots Q (F0 m 338 ls []) := by
  obtain ⟨⟨hC, hCM, hMo, hoz⟩, hσ, hI, hout, hl⟩ := S
  have hx := X.2.1.1
  have hb := X.2.1.2.1
  have hX := X.1.2.2.2.2.2.2.1
  have hbl := X.1.2.2.2.2.2.2.2.1
  have htl := X.1.2.2.2.2.2.1
  have hown := X.1.2.2.2.2.1
  have hbA : ¬ lx_A s b := Nat.not_le.mpr hbl
  refine lv_aload_n hx hb (show decode code 338 = .ok (.aload_n 1, 1) by decide +kernel) rfl (lv_at hl 1 rfl) ?_
  refine lv_aload_n hx hb (show decode code 339 = .ok (.aload_n 0, 1) by decide +kernel) rfl (lv_at hl 0 rfl) ?_
  refine lv_iload hx hb (show decode code 340 = .ok (.iload 4, 2) by decide +kernel) (lv_at hl 4 rfl) ?_
  refine lv_iconst hx hb (show decode code 342 = .ok (.iconst 1, 1) by decide +kernel) (v := Int32.ofInt 1) rfl ?_
  refine lv_iadd hx hb (show decode code 343 = .ok (.iadd, 1) by decide +kernel) ?_
  refine va_sld hx hb hX hbl hbA hI.2 h1 (show decode code 344 = .ok (.iaload, 1) by decide +kernel) ?_
  refine lv_aload_n hx hb (show decode code 345 = .ok (.aload_n 0, 1) by decide +kernel) rfl (lv_at hl 0 rfl) ?_
  refine lv_iload hx hb (show decode code 346 = .ok (.iload 4, 2) by decide +kernel) (lv_at hl 4 rfl) ?_
  refine lv_iconst hx hb (show decode code 348 = .ok (.iconst 2, 1) by decide +kernel) (v := Int32.ofInt 2) rfl ?_
  refine lv_iadd hx hb (show decode code 349 = .ok (.iadd, 1) by decide +kernel) ?_
  refine va_sld hx hb hX hbl hbA hI.2 h2 (show decode code 350 = .ok (.iaload, 1) by decide +kernel) ?_
  refine lv_aload_n hx hb (show decode code 351 = .ok (.aload_n 3, 1) by decide +kernel) rfl (lv_at hl 3 rfl) ?_
  obtain ⟨r, rm, mc, ms, Post, hM, ⟨e1, e3, e4⟩, ⟨e5, e6⟩, hP⟩ := wc_wheelOf (Ks := Ks) (Kv := Kv) (Km := Km) (D := D) (dT := dT) (dL := dL) (g := g) (xs (iv + Int32.ofInt 1).toNatClampNeg) (xs (iv + Int32.ofInt 2).toNatClampNeg) hCM hMo hoz X.2.2.2.2.2.2.1 X.2.2.2.2.2.1 hσ hk
  refine lx_call (index := 122) (n := 4) (pc := 352) (as := [.ref C, .int (xs (iv + Int32.ofInt 1).toNatClampNeg), .int (xs (iv + Int32.ofInt 2).toNatClampNeg), .ref o]) X hM e1 ⟨e3, e4⟩ (show Cond.methodLink "LilyWheelsLaw" 122 (⟨"LilyWheelsLaw", "wheelOf", "(LLilyWheels;II[J)I"⟩ : MethodName) ∈ ri_LW from List.mem_filter.mpr ⟨by decide +kernel, by decide +kernel⟩) (show Cond.static (⟨"LilyWheelsLaw", "wheelOf", "(LLilyWheels;II[J)I"⟩ : MethodName) ∈ ri_LW from List.mem_filter.mpr ⟨by decide +kernel, by decide +kernel⟩) (show Cond.initialized (⟨"LilyWheelsLaw", "wheelOf", "(LLilyWheels;II[J)I"⟩ : MethodName).cls ∈ ri_LW from List.mem_filter.mpr ⟨by decide +kernel, by decide +kernel⟩) (show Cond.codeWith (⟨"LilyWheelsLaw", "wheelOf", "(LLilyWheels;II[J)I"⟩ : MethodName) method_6_code 5 (some .int) [(0, 10, 13, 28), (0, 10, 17, 13)] ∈ ri_LW from List.mem_filter.mpr ⟨by decide +kernel, by decide +kernel⟩) ⟨⟨by decide +kernel, by decide +kernel⟩, by decide +kernel⟩ (show decode code 352 = .ok (.invokestatic 122, 3) by decide +kernel) rfl hl.1 hI (by omega) hout (by omega) (by omega) fun H1 locs1 σ3 g3 hI1 hout1 hp => ?_
  obtain ⟨z3, hP3⟩ := hP σ3 g3 hp
  refine W.widen (k := cells + 1) (n := slots + 6) (by omega) (by omega) ?_
  refine lv_istore (lv' := [(5, .int r), (0, .ref b), (1, .ref C), (2, .ref M), (3, .ref o), (4, .int iv)]) hx hb (show decode code 355 = .ok (.istore 5, 2) by decide +kernel) hl (by decide) rfl (fun ls hl => ?_)
  refine lv_aload_n hx hb (show decode code 357 = .ok (.aload_n 2, 1) by decide +kernel) rfl (lv_at hl 3 rfl) ?_
  refine lv_aload_n hx hb (show decode code 358 = .ok (.aload_n 0, 1) by decide +kernel) rfl (lv_at hl 1 rfl) ?_
  refine lv_iload hx hb (show decode code 359 = .ok (.iload 4, 2) by decide +kernel) (lv_at hl 5 rfl) ?_
  refine lv_iconst hx hb (show decode code 361 = .ok (.iconst 1, 1) by decide +kernel) (v := Int32.ofInt 1) rfl ?_
  refine lv_iadd hx hb (show decode code 362 = .ok (.iadd, 1) by decide +kernel) ?_
  refine va_sld hx hb hX hbl hbA hI1.2 h1 (show decode code 363 = .ok (.iaload, 1) by decide +kernel) ?_
  refine lv_aload_n hx hb (show decode code 364 = .ok (.aload_n 0, 1) by decide +kernel) rfl (lv_at hl 1 rfl) ?_
  refine lv_iload hx hb (show decode code 365 = .ok (.iload 4, 2) by decide +kernel) (lv_at hl 5 rfl) ?_
  refine lv_iconst hx hb (show decode code 367 = .ok (.iconst 2, 1) by decide +kernel) (v := Int32.ofInt 2) rfl ?_
  refine lv_iadd hx hb (show decode code 368 = .ok (.iadd, 1) by decide +kernel) ?_
  refine va_sld hx hb hX hbl hbA hI1.2 h2 (show decode code 369 = .ok (.iaload, 1) by decide +kernel) ?_
  exact lx_tail (pc := 370) (km := 199) (n := 3) (as := [.int (xs (iv + Int32.ofInt 1).toNatClampNeg), .int (xs (iv + Int32.ofInt 2).toNatClampNeg)]) X hCM hMo (by omega) hP3 hI1 hout1 (rc_V (nm2 := TN 199) (b2 := TB 199) (m2 := TM 199) (rt2 := TR 199) (n := 2) (ci := 9) (T := TX11) (Nn := 13) ri_LWok rfl (show decode code 370 = .ok (.invokevirtual 125, 3) by decide +kernel) (show Cond.methodLink "LilyWheelsLaw" 125 (TN 199) ∈ ri_LW from List.mem_filter.mpr ⟨by decide +kernel, by decide +kernel⟩) (show Cond.instanceMethod (TN 199) ∈ ri_LW from List.mem_filter.mpr ⟨by decide +kernel, by decide +kernel⟩) (show Cond.selects (TN 199).cls (TN 199) (TN 199) ∈ ri_LW from List.mem_filter.mpr ⟨by decide +kernel, by decide +kernel⟩) (show Cond.initialized (TN 199).cls ∈ ri_LW from List.mem_filter.mpr ⟨by decide +kernel, by decide +kernel⟩) (show Cond.code (TN 199) (TB 199) (TM 199) (TR 199) ∈ ri_LW from List.mem_filter.mpr ⟨by decide +kernel, by decide +kernel⟩) ⟨⟨by decide +kernel, by decide +kernel⟩, by decide +kernel⟩) lx_th376 rfl rfl ⟨by decide +kernel, by decide +kernel⟩ hl (by omega) (by omega)
    (show decode code 373 = .ok (.istore 6, 2) by decide +kernel) (show decode code 375 = .ok (.aload_n 2, 1) by decide +kernel) (show decode code 379 = .ok (.iload 5, 2) by decide +kernel) (show decode code 381 = .ok (.if_icmp .eq 5, 3) by decide +kernel) (show decode code 386 = .ok (.iload 5, 2) by decide +kernel) (show decode code 388 = .ok (.ifCond .ne 15, 3) by decide +kernel) (show decode code 391 = .ok (.aload_n 3, 1) by decide +kernel) (show decode code 392 = .ok (.iconst 0, 1) by decide +kernel) (show decode code 393 = .ok (.laload, 1) by decide +kernel) (show decode code 394 = .ok (.iload 6, 2) by decide +kernel) (show decode code 396 = .ok (.i2l, 1) by decide +kernel) (show decode code 397 = .ok (.lcmp, 1) by decide +kernel) (show decode code 398 = .ok (.ifCond .eq 5, 3) by decide +kernel) (show decode code 403 = .ok (.goto 1463, 3) by decide +kernel) (by omega) fun H2 locs2 ls2 σ4 hw hz hI2 hout2 hl2 => kk H2 locs2 ls2 σ4 g3 ⟨⟨hC, hCM, hMo, hz⟩, hw, hI2, hout2, hl2⟩
theorem lx_th456 : ri_cok ri_LW vwCl "LilyWheelsLaw" code 7 456 (TN 144) (TB 144) (TM 144) (TR 144) 1 (some 9) := (rc_V (nm2 := TN 144) (b2 := TB 144) (m2 := TM 144) (rt2 := TR 144) (n := 0) (ci := 9) (T := TX11) (Nn := 13) ri_LWok rfl (show decode code 456 = .ok (.invokevirtual 104, 3) by decide +kernel) (show Cond.methodLink "LilyWheelsLaw" 104 (TN 144) ∈ ri_LW from List.mem_filter.mpr ⟨by decide +kernel, by decide +kernel⟩) (show Cond.instanceMethod (TN 144) ∈ ri_LW from List.mem_filter.mpr ⟨by decide +kernel, by decide +kernel⟩) (show Cond.selects (TN 144).cls (TN 144) (TN 144) ∈ ri_LW from List.mem_filter.mpr ⟨by decide +kernel, by decide +kernel⟩) (show Cond.initialized (TN 144).cls ∈ ri_LW from List.mem_filter.mpr ⟨by decide +kernel, by decide +kernel⟩) (show Cond.code (TN 144) (TB 144) (TM 144) (TR 144) ∈ ri_LW from List.mem_filter.mpr ⟨by decide +kernel, by decide +kernel⟩) ⟨⟨by decide +kernel, by decide +kernel⟩, by decide +kernel⟩)
theorem lc_placeOf (X : lx_X Ks Kv Km D dT dL p l s m meth c b L xs) (S : lx_S D dT dL s b C M o iv K σ g H locs ls) (h1 : vp_in (iv + Int32.ofInt 1) L) (h2 : vp_in (iv + Int32.ofInt 2) L) (h3 : vp_in (iv + Int32.ofInt 3) L) (h4 : vp_in (iv + Int32.ofInt 4) L) (hcs : cells + 1 ≤ 601024) (hss : slots + 6 ≤ 7293034) (hk : K + 20 + 400000 ≤ 1000000)
    (kk : ∀ (H1 : Heap) (locs1 : List Loc) (ls1 : Array Slot) (σ4 : ri_S) (g4 : Nat → Int64), lx_S D dT dL s b C M o iv (K + 20) σ4 g4 H1 locs1 ls1 → W p l e room_1 s m #[Value.ref b] below meth c H1 locs1 (cells + 1) (slots + 6) Q (F0 m 1866 ls1 [])) : W p l e room_1 s m #[Value.ref b] below meth c H locs cells slots Q (F0 m 406 ls []) := by
  obtain ⟨⟨hC, hCM, hMo, hoz⟩, hσ, hI, hout, hl⟩ := S
  have hx := X.2.1.1
  have hb := X.2.1.2.1
  have hX := X.1.2.2.2.2.2.2.1
  have hbl := X.1.2.2.2.2.2.2.2.1
  have htl := X.1.2.2.2.2.2.1
  have hown := X.1.2.2.2.2.1
  have hbA : ¬ lx_A s b := Nat.not_le.mpr hbl
  refine lv_aload_n hx hb (show decode code 406 = .ok (.aload_n 1, 1) by decide +kernel) rfl (lv_at hl 1 rfl) ?_
  refine lv_aload_n hx hb (show decode code 407 = .ok (.aload_n 0, 1) by decide +kernel) rfl (lv_at hl 0 rfl) ?_
  refine lv_iload hx hb (show decode code 408 = .ok (.iload 4, 2) by decide +kernel) (lv_at hl 4 rfl) ?_
  refine lv_iconst hx hb (show decode code 410 = .ok (.iconst 1, 1) by decide +kernel) (v := Int32.ofInt 1) rfl ?_
  refine lv_iadd hx hb (show decode code 411 = .ok (.iadd, 1) by decide +kernel) ?_
  refine va_sld hx hb hX hbl hbA hI.2 h1 (show decode code 412 = .ok (.iaload, 1) by decide +kernel) ?_
  refine lv_aload_n hx hb (show decode code 413 = .ok (.aload_n 0, 1) by decide +kernel) rfl (lv_at hl 0 rfl) ?_
  refine lv_iload hx hb (show decode code 414 = .ok (.iload 4, 2) by decide +kernel) (lv_at hl 4 rfl) ?_
  refine lv_iconst hx hb (show decode code 416 = .ok (.iconst 2, 1) by decide +kernel) (v := Int32.ofInt 2) rfl ?_
  refine lv_iadd hx hb (show decode code 417 = .ok (.iadd, 1) by decide +kernel) ?_
  refine va_sld hx hb hX hbl hbA hI.2 h2 (show decode code 418 = .ok (.iaload, 1) by decide +kernel) ?_
  refine lv_aload_n hx hb (show decode code 419 = .ok (.aload_n 0, 1) by decide +kernel) rfl (lv_at hl 0 rfl) ?_
  refine lv_iload hx hb (show decode code 420 = .ok (.iload 4, 2) by decide +kernel) (lv_at hl 4 rfl) ?_
  refine lv_iconst hx hb (show decode code 422 = .ok (.iconst 3, 1) by decide +kernel) (v := Int32.ofInt 3) rfl ?_
  refine lv_iadd hx hb (show decode code 423 = .ok (.iadd, 1) by decide +kernel) ?_
  refine va_sld hx hb hX hbl hbA hI.2 h3 (show decode code 424 = .ok (.iaload, 1) by decide +kernel) ?_
  refine lv_aload_n hx hb (show decode code 425 = .ok (.aload_n 3, 1) by decide +kernel) rfl (lv_at hl 3 rfl) ?_
  obtain ⟨r, rm, mc, ms, Post, hM, ⟨e1, e3, e4⟩, ⟨e5, e6⟩, hP⟩ := wc_placeOf (Ks := Ks) (Kv := Kv) (Km := Km) (D := D) (dT := dT) (dL := dL) (g := g) (xs (iv + Int32.ofInt 1).toNatClampNeg) (xs (iv + Int32.ofInt 2).toNatClampNeg) (xs (iv + Int32.ofInt 3).toNatClampNeg) hCM hMo hoz X.2.2.2.2.2.2.1 X.2.2.2.2.2.1 hσ hk
  refine lx_call (index := 126) (n := 5) (pc := 426) (as := [.ref C, .int (xs (iv + Int32.ofInt 1).toNatClampNeg), .int (xs (iv + Int32.ofInt 2).toNatClampNeg), .int (xs (iv + Int32.ofInt 3).toNatClampNeg), .ref o]) X hM e1 ⟨e3, e4⟩ (show Cond.methodLink "LilyWheelsLaw" 126 (⟨"LilyWheelsLaw", "placeOf", "(LLilyWheels;III[J)I"⟩ : MethodName) ∈ ri_LW from List.mem_filter.mpr ⟨by decide +kernel, by decide +kernel⟩) (show Cond.static (⟨"LilyWheelsLaw", "placeOf", "(LLilyWheels;III[J)I"⟩ : MethodName) ∈ ri_LW from List.mem_filter.mpr ⟨by decide +kernel, by decide +kernel⟩) (show Cond.initialized (⟨"LilyWheelsLaw", "placeOf", "(LLilyWheels;III[J)I"⟩ : MethodName).cls ∈ ri_LW from List.mem_filter.mpr ⟨by decide +kernel, by decide +kernel⟩) (show Cond.codeWith (⟨"LilyWheelsLaw", "placeOf", "(LLilyWheels;III[J)I"⟩ : MethodName) method_7_code 6 (some .int) [(0, 12, 15, 28), (0, 12, 19, 13)] ∈ ri_LW from List.mem_filter.mpr ⟨by decide +kernel, by decide +kernel⟩) ⟨⟨by decide +kernel, by decide +kernel⟩, by decide +kernel⟩ (show decode code 426 = .ok (.invokestatic 126, 3) by decide +kernel) rfl hl.1 hI (by omega) hout (by omega) (by omega) fun H1 locs1 σ3 g3 hI1 hout1 hp => ?_
  obtain ⟨z3, hP3⟩ := hP σ3 g3 hp
  refine W.widen (k := cells + 1) (n := slots + 6) (by omega) (by omega) ?_
  refine lv_istore (lv' := [(5, .int r), (0, .ref b), (1, .ref C), (2, .ref M), (3, .ref o), (4, .int iv)]) hx hb (show decode code 429 = .ok (.istore 5, 2) by decide +kernel) hl (by decide) rfl (fun ls hl => ?_)
  refine lv_aload_n hx hb (show decode code 431 = .ok (.aload_n 2, 1) by decide +kernel) rfl (lv_at hl 3 rfl) ?_
  refine lv_aload_n hx hb (show decode code 432 = .ok (.aload_n 0, 1) by decide +kernel) rfl (lv_at hl 1 rfl) ?_
  refine lv_iload hx hb (show decode code 433 = .ok (.iload 4, 2) by decide +kernel) (lv_at hl 5 rfl) ?_
  refine lv_iconst hx hb (show decode code 435 = .ok (.iconst 1, 1) by decide +kernel) (v := Int32.ofInt 1) rfl ?_
  refine lv_iadd hx hb (show decode code 436 = .ok (.iadd, 1) by decide +kernel) ?_
  refine va_sld hx hb hX hbl hbA hI1.2 h1 (show decode code 437 = .ok (.iaload, 1) by decide +kernel) ?_
  refine lv_aload_n hx hb (show decode code 438 = .ok (.aload_n 0, 1) by decide +kernel) rfl (lv_at hl 1 rfl) ?_
  refine lv_iload hx hb (show decode code 439 = .ok (.iload 4, 2) by decide +kernel) (lv_at hl 5 rfl) ?_
  refine lv_iconst hx hb (show decode code 441 = .ok (.iconst 2, 1) by decide +kernel) (v := Int32.ofInt 2) rfl ?_
  refine lv_iadd hx hb (show decode code 442 = .ok (.iadd, 1) by decide +kernel) ?_
  refine va_sld hx hb hX hbl hbA hI1.2 h2 (show decode code 443 = .ok (.iaload, 1) by decide +kernel) ?_
  refine lv_aload_n hx hb (show decode code 444 = .ok (.aload_n 0, 1) by decide +kernel) rfl (lv_at hl 1 rfl) ?_
  refine lv_iload hx hb (show decode code 445 = .ok (.iload 4, 2) by decide +kernel) (lv_at hl 5 rfl) ?_
  refine lv_iconst hx hb (show decode code 447 = .ok (.iconst 3, 1) by decide +kernel) (v := Int32.ofInt 3) rfl ?_
  refine lv_iadd hx hb (show decode code 448 = .ok (.iadd, 1) by decide +kernel) ?_
  refine va_sld hx hb hX hbl hbA hI1.2 h3 (show decode code 449 = .ok (.iaload, 1) by decide +kernel) ?_
  exact lx_tail (pc := 450) (km := 200) (n := 4) (as := [.int (xs (iv + Int32.ofInt 1).toNatClampNeg), .int (xs (iv + Int32.ofInt 2).toNatClampNeg), .int (xs (iv + Int32.ofInt 3).toNatClampNeg)]) X hCM hMo (by omega) hP3 hI1 hout1 (rc_V (nm2 := TN 200) (b2 := TB 200) (m2 := TM 200) (rt2 := TR 200) (n := 3) (ci := 9) (T := TX11) (Nn := 13) ri_LWok rfl (show decode code 450 = .ok (.invokevirtual 129, 3) by decide +kernel) (show Cond.methodLink "LilyWheelsLaw" 129 (TN 200) ∈ ri_LW from List.mem_filter.mpr ⟨by decide +kernel, by decide +kernel⟩) (show Cond.instanceMethod (TN 200) ∈ ri_LW from List.mem_filter.mpr ⟨by decide +kernel, by decide +kernel⟩) (show Cond.selects (TN 200).cls (TN 200) (TN 200) ∈ ri_LW from List.mem_filter.mpr ⟨by decide +kernel, by decide +kernel⟩) (show Cond.initialized (TN 200).cls ∈ ri_LW from List.mem_filter.mpr ⟨by decide +kernel, by decide +kernel⟩) (show Cond.code (TN 200) (TB 200) (TM 200) (TR 200) ∈ ri_LW from List.mem_filter.mpr ⟨by decide +kernel, by decide +kernel⟩) ⟨⟨by decide +kernel, by decide +kernel⟩, by decide +kernel⟩) lx_th456 rfl rfl ⟨by decide +kernel, by decide +kernel⟩ hl (by omega) (by omega)
    (show decode code 453 = .ok (.istore 6, 2) by decide +kernel) (show decode code 455 = .ok (.aload_n 2, 1) by decide +kernel) (show decode code 459 = .ok (.iload 5, 2) by decide +kernel) (show decode code 461 = .ok (.if_icmp .eq 5, 3) by decide +kernel) (show decode code 466 = .ok (.iload 5, 2) by decide +kernel) (show decode code 468 = .ok (.ifCond .ne 15, 3) by decide +kernel) (show decode code 471 = .ok (.aload_n 3, 1) by decide +kernel) (show decode code 472 = .ok (.iconst 0, 1) by decide +kernel) (show decode code 473 = .ok (.laload, 1) by decide +kernel) (show decode code 474 = .ok (.iload 6, 2) by decide +kernel) (show decode code 476 = .ok (.i2l, 1) by decide +kernel) (show decode code 477 = .ok (.lcmp, 1) by decide +kernel) (show decode code 478 = .ok (.ifCond .eq 5, 3) by decide +kernel) (show decode code 483 = .ok (.goto 1383, 3) by decide +kernel) (by omega) fun H2 locs2 ls2 σ4 hw hz hI2 hout2 hl2 => kk H2 locs2 ls2 σ4 g3 ⟨⟨hC, hCM, hMo, hz⟩, hw, hI2, hout2, hl2⟩
theorem lx_th524 : ri_cok ri_LW vwCl "LilyWheelsLaw" code 7 524 (TN 144) (TB 144) (TM 144) (TR 144) 1 (some 9) := (rc_V (nm2 := TN 144) (b2 := TB 144) (m2 := TM 144) (rt2 := TR 144) (n := 0) (ci := 9) (T := TX11) (Nn := 13) ri_LWok rfl (show decode code 524 = .ok (.invokevirtual 104, 3) by decide +kernel) (show Cond.methodLink "LilyWheelsLaw" 104 (TN 144) ∈ ri_LW from List.mem_filter.mpr ⟨by decide +kernel, by decide +kernel⟩) (show Cond.instanceMethod (TN 144) ∈ ri_LW from List.mem_filter.mpr ⟨by decide +kernel, by decide +kernel⟩) (show Cond.selects (TN 144).cls (TN 144) (TN 144) ∈ ri_LW from List.mem_filter.mpr ⟨by decide +kernel, by decide +kernel⟩) (show Cond.initialized (TN 144).cls ∈ ri_LW from List.mem_filter.mpr ⟨by decide +kernel, by decide +kernel⟩) (show Cond.code (TN 144) (TB 144) (TM 144) (TR 144) ∈ ri_LW from List.mem_filter.mpr ⟨by decide +kernel, by decide +kernel⟩) ⟨⟨by decide +kernel, by decide +kernel⟩, by decide +kernel⟩)
theorem lc_frogOf (X : lx_X Ks Kv Km D dT dL p l s m meth c b L xs) (S : lx_S D dT dL s b C M o iv K σ g H locs ls) (h1 : vp_in (iv + Int32.ofInt 1) L) (h2 : vp_in (iv + Int32.ofInt 2) L) (h3 : vp_in (iv + Int32.ofInt 3) L) (h4 : vp_in (iv + Int32.ofInt 4) L) (hcs : cells + 1 ≤ 601024) (hss : slots + 6 ≤ 7293034) (hk : K + 20 + 400000 ≤ 1000000)
    (kk : ∀ (H1 : Heap) (locs1 : List Loc) (ls1 : Array Slot) (σ4 : ri_S) (g4 : Nat → Int64), lx_S D dT dL s b C M o iv (K + 20) σ4 g4 H1 locs1 ls1 → W p l e room_1 s m #[Value.ref b] below meth c H1 locs1 (cells + 1) (slots + 6) Q (F0 m 1866 ls1 [])) : W p l e room_1 s m #[Value.ref b] below meth c H locs cells slots Q (F0 m 486 ls []) := by
  obtain ⟨⟨hC, hCM, hMo, hoz⟩, hσ, hI, hout, hl⟩ := S
  have hx := X.2.1.1
  have hb := X.2.1.2.1
  have hX := X.1.2.2.2.2.2.2.1
  have hbl := X.1.2.2.2.2.2.2.2.1
  have htl := X.1.2.2.2.2.2.1
  have hown := X.1.2.2.2.2.1
  have hbA : ¬ lx_A s b := Nat.not_le.mpr hbl
  refine lv_aload_n hx hb (show decode code 486 = .ok (.aload_n 1, 1) by decide +kernel) rfl (lv_at hl 1 rfl) ?_
  refine lv_aload_n hx hb (show decode code 487 = .ok (.aload_n 0, 1) by decide +kernel) rfl (lv_at hl 0 rfl) ?_
  refine lv_iload hx hb (show decode code 488 = .ok (.iload 4, 2) by decide +kernel) (lv_at hl 4 rfl) ?_
  refine lv_iconst hx hb (show decode code 490 = .ok (.iconst 1, 1) by decide +kernel) (v := Int32.ofInt 1) rfl ?_
  refine lv_iadd hx hb (show decode code 491 = .ok (.iadd, 1) by decide +kernel) ?_
  refine va_sld hx hb hX hbl hbA hI.2 h1 (show decode code 492 = .ok (.iaload, 1) by decide +kernel) ?_
  refine lv_aload_n hx hb (show decode code 493 = .ok (.aload_n 0, 1) by decide +kernel) rfl (lv_at hl 0 rfl) ?_
  refine lv_iload hx hb (show decode code 494 = .ok (.iload 4, 2) by decide +kernel) (lv_at hl 4 rfl) ?_
  refine lv_iconst hx hb (show decode code 496 = .ok (.iconst 2, 1) by decide +kernel) (v := Int32.ofInt 2) rfl ?_
  refine lv_iadd hx hb (show decode code 497 = .ok (.iadd, 1) by decide +kernel) ?_
  refine va_sld hx hb hX hbl hbA hI.2 h2 (show decode code 498 = .ok (.iaload, 1) by decide +kernel) ?_
  refine lv_aload_n hx hb (show decode code 499 = .ok (.aload_n 3, 1) by decide +kernel) rfl (lv_at hl 3 rfl) ?_
  obtain ⟨r, rm, mc, ms, Post, hM, ⟨e1, e3, e4⟩, ⟨e5, e6⟩, hP⟩ := wc_frogOf (Ks := Ks) (Kv := Kv) (Km := Km) (D := D) (dT := dT) (dL := dL) (g := g) (xs (iv + Int32.ofInt 1).toNatClampNeg) (xs (iv + Int32.ofInt 2).toNatClampNeg) hCM hMo hoz X.2.2.2.2.2.2.1 X.2.2.2.2.2.1 hσ hk
  refine lx_call (index := 130) (n := 4) (pc := 500) (as := [.ref C, .int (xs (iv + Int32.ofInt 1).toNatClampNeg), .int (xs (iv + Int32.ofInt 2).toNatClampNeg), .ref o]) X hM e1 ⟨e3, e4⟩ (show Cond.methodLink "LilyWheelsLaw" 130 (⟨"LilyWheelsLaw", "frogOf", "(LLilyWheels;II[J)I"⟩ : MethodName) ∈ ri_LW from List.mem_filter.mpr ⟨by decide +kernel, by decide +kernel⟩) (show Cond.static (⟨"LilyWheelsLaw", "frogOf", "(LLilyWheels;II[J)I"⟩ : MethodName) ∈ ri_LW from List.mem_filter.mpr ⟨by decide +kernel, by decide +kernel⟩) (show Cond.initialized (⟨"LilyWheelsLaw", "frogOf", "(LLilyWheels;II[J)I"⟩ : MethodName).cls ∈ ri_LW from List.mem_filter.mpr ⟨by decide +kernel, by decide +kernel⟩) (show Cond.codeWith (⟨"LilyWheelsLaw", "frogOf", "(LLilyWheels;II[J)I"⟩ : MethodName) method_8_code 5 (some .int) [(0, 10, 13, 28), (0, 10, 17, 13)] ∈ ri_LW from List.mem_filter.mpr ⟨by decide +kernel, by decide +kernel⟩) ⟨⟨by decide +kernel, by decide +kernel⟩, by decide +kernel⟩ (show decode code 500 = .ok (.invokestatic 130, 3) by decide +kernel) rfl hl.1 hI (by omega) hout (by omega) (by omega) fun H1 locs1 σ3 g3 hI1 hout1 hp => ?_
  obtain ⟨z3, hP3⟩ := hP σ3 g3 hp
  refine W.widen (k := cells + 1) (n := slots + 6) (by omega) (by omega) ?_
  refine lv_istore (lv' := [(5, .int r), (0, .ref b), (1, .ref C), (2, .ref M), (3, .ref o), (4, .int iv)]) hx hb (show decode code 503 = .ok (.istore 5, 2) by decide +kernel) hl (by decide) rfl (fun ls hl => ?_)
  refine lv_aload_n hx hb (show decode code 505 = .ok (.aload_n 2, 1) by decide +kernel) rfl (lv_at hl 3 rfl) ?_
  refine lv_aload_n hx hb (show decode code 506 = .ok (.aload_n 0, 1) by decide +kernel) rfl (lv_at hl 1 rfl) ?_
  refine lv_iload hx hb (show decode code 507 = .ok (.iload 4, 2) by decide +kernel) (lv_at hl 5 rfl) ?_
  refine lv_iconst hx hb (show decode code 509 = .ok (.iconst 1, 1) by decide +kernel) (v := Int32.ofInt 1) rfl ?_
  refine lv_iadd hx hb (show decode code 510 = .ok (.iadd, 1) by decide +kernel) ?_
  refine va_sld hx hb hX hbl hbA hI1.2 h1 (show decode code 511 = .ok (.iaload, 1) by decide +kernel) ?_
  refine lv_aload_n hx hb (show decode code 512 = .ok (.aload_n 0, 1) by decide +kernel) rfl (lv_at hl 1 rfl) ?_
  refine lv_iload hx hb (show decode code 513 = .ok (.iload 4, 2) by decide +kernel) (lv_at hl 5 rfl) ?_
  refine lv_iconst hx hb (show decode code 515 = .ok (.iconst 2, 1) by decide +kernel) (v := Int32.ofInt 2) rfl ?_
  refine lv_iadd hx hb (show decode code 516 = .ok (.iadd, 1) by decide +kernel) ?_
  refine va_sld hx hb hX hbl hbA hI1.2 h2 (show decode code 517 = .ok (.iaload, 1) by decide +kernel) ?_
  exact lx_tail (pc := 518) (km := 201) (n := 3) (as := [.int (xs (iv + Int32.ofInt 1).toNatClampNeg), .int (xs (iv + Int32.ofInt 2).toNatClampNeg)]) X hCM hMo (by omega) hP3 hI1 hout1 (rc_V (nm2 := TN 201) (b2 := TB 201) (m2 := TM 201) (rt2 := TR 201) (n := 2) (ci := 9) (T := TX11) (Nn := 13) ri_LWok rfl (show decode code 518 = .ok (.invokevirtual 132, 3) by decide +kernel) (show Cond.methodLink "LilyWheelsLaw" 132 (TN 201) ∈ ri_LW from List.mem_filter.mpr ⟨by decide +kernel, by decide +kernel⟩) (show Cond.instanceMethod (TN 201) ∈ ri_LW from List.mem_filter.mpr ⟨by decide +kernel, by decide +kernel⟩) (show Cond.selects (TN 201).cls (TN 201) (TN 201) ∈ ri_LW from List.mem_filter.mpr ⟨by decide +kernel, by decide +kernel⟩) (show Cond.initialized (TN 201).cls ∈ ri_LW from List.mem_filter.mpr ⟨by decide +kernel, by decide +kernel⟩) (show Cond.code (TN 201) (TB 201) (TM 201) (TR 201) ∈ ri_LW from List.mem_filter.mpr ⟨by decide +kernel, by decide +kernel⟩) ⟨⟨by decide +kernel, by decide +kernel⟩, by decide +kernel⟩) lx_th524 rfl rfl ⟨by decide +kernel, by decide +kernel⟩ hl (by omega) (by omega)
    (show decode code 521 = .ok (.istore 6, 2) by decide +kernel) (show decode code 523 = .ok (.aload_n 2, 1) by decide +kernel) (show decode code 527 = .ok (.iload 5, 2) by decide +kernel) (show decode code 529 = .ok (.if_icmp .eq 5, 3) by decide +kernel) (show decode code 534 = .ok (.iload 5, 2) by decide +kernel) (show decode code 536 = .ok (.ifCond .ne 15, 3) by decide +kernel) (show decode code 539 = .ok (.aload_n 3, 1) by decide +kernel) (show decode code 540 = .ok (.iconst 0, 1) by decide +kernel) (show decode code 541 = .ok (.laload, 1) by decide +kernel) (show decode code 542 = .ok (.iload 6, 2) by decide +kernel) (show decode code 544 = .ok (.i2l, 1) by decide +kernel) (show decode code 545 = .ok (.lcmp, 1) by decide +kernel) (show decode code 546 = .ok (.ifCond .eq 5, 3) by decide +kernel) (show decode code 551 = .ok (.goto 1315, 3) by decide +kernel) (by omega) fun H2 locs2 ls2 σ4 hw hz hI2 hout2 hl2 => kk H2 locs2 ls2 σ4 g3 ⟨⟨hC, hCM, hMo, hz⟩, hw, hI2, hout2, hl2⟩
end LX
