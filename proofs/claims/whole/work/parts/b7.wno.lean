/-! The law's wrappers where the class throws. -/
def wr_rmx (k : Nat) (σ σ2 : ri_S) : Room := { frames := TH2 k + 9, cells := σ2.2 - σ.2 + 1, slots := 2000 * (σ2.2 - σ.2) + 6, locals := 60 * (TH2 k + 1) + 300 }
theorem wr_rmx_ok {k : Nat} {σ σ2 : ri_S} (h : TM k ≤ 40) : (TH2 k + 8 + 1 ≤ (wr_rmx k σ σ2).frames ∧ 8 + (TM k + 11) + (60 * (TH2 k + 1) + 200) ≤ (wr_rmx k σ σ2).locals) ∧ 0 + (σ2.2 - σ.2 + 1) ≤ (wr_rmx k σ σ2).cells ∧ 0 + (2000 * (σ2.2 - σ.2) + 6) ≤ (wr_rmx k σ σ2).slots := by
  have e1 : (wr_rmx k σ σ2).frames = TH2 k + 9 := rfl
  have e2 : (wr_rmx k σ σ2).locals = 60 * (TH2 k + 1) + 300 := rfl
  have e3 : (wr_rmx k σ σ2).cells = σ2.2 - σ.2 + 1 := rfl
  have e4 : (wr_rmx k σ σ2).slots = 2000 * (σ2.2 - σ.2) + 6 := rfl
  rw [e1, e2, e3, e4]
  omega
section WRE
variable {Ks Kv Km : Nat → Nat} {D : va_G} {dT : Nat → ClassId} {dL : ClassId} {l : Launch} {σ σ2 : ri_S} {C o : Nat} {g : Nat → Int64}
theorem wn_append_2 {p0 : Int32} (hl : l.stackTraces = false) (h : ev3 Ks 109 (0, ri_ent (TM 109) [.ref C, .int p0], []) σ = some (some (.int (Int32.ofNat 2)), σ2)) (hrcv : ri_rcv (some 8) [.ref C, .int p0] σ = true) (ho : σ.1 o = none) (ho2 : o < σ.2) : Met l (⟨"LilyWheelsLaw", "append", "(LLilyWheels;I[J)I"⟩ : MethodName) (Cond.codeWith (⟨"LilyWheelsLaw", "append", "(LLilyWheels;I[J)I"⟩ : MethodName) method_3_code 4 (some .int) [(0, 9, 12, 13), (0, 9, 15, 15)] :: ri_LW) (wr_rmx 109 σ σ2) (wq_Pc Ks Kv Km D dT dL [.ref C, .int p0, .ref o] σ o g) (wq_Qc D dT dL σ o 1 (fun σ3 g3 => σ3.1 = σ2.1 ∧ σ2.2 ≤ σ3.2 ∧ g3 = g)) (σ2.2 - σ.2 + 1) (2000 * (σ2.2 - σ.2) + 6) (wr_A σ o) := by
  refine wq_of rfl (Nat.le_succ _) ?_
  intro p e s m args below meth c Qc X htab hI hout ls hsz hwf hls hfin
  have l0 : ls[0]? = some (.val (.ref C)) := hls (0, _) (by simp [lv_args, Value.category])
  have l1 : ls[1]? = some (.val (.int p0)) := hls (1, _) (by simp [lv_args, Value.category])
  have l2 : ls[2]? = some (.val (.ref o)) := hls (2, _) (by simp [lv_args, Value.category])
  refine lv_aload_n X.1.1 X.1.2.1 (show decode method_3_code 0 = .ok (.aload_n 2, 1) by decide +kernel) rfl l2 ?_
  refine lv_iconst X.1.1 X.1.2.1 (show decode method_3_code 1 = .ok (.iconst 0, 1) by decide +kernel) (v := 0) rfl ?_
  refine lv_aload_n X.1.1 X.1.2.1 (show decode method_3_code 2 = .ok (.aload_n 0, 1) by decide +kernel) rfl l0 ?_
  refine lv_iload_n X.1.1 X.1.2.1 (show decode method_3_code 3 = .ok (.iload_n 1, 1) by decide +kernel) rfl l1 ?_
  have hTM : TM 109 ≤ 40 := by decide +kernel
  have hr := wr_ex (l := l) (e := e) (below := below) (k := 109) (n := 1) (f := 2) (index := 7) (pc := 4) (st := 0) (en := 9) (hp := 12) (hp2 := 13) (i := 3) (jn := 1) (v := 1) (ps := [.int p0]) (R := wr_rmx 109 σ σ2) (cells := 0) (slots := 0) (Qc := Qc) X hl (by decide) (by decide +kernel) ⟨by decide, by decide⟩ (wr_rmx_ok hTM).1.1 (wr_rmx_ok hTM).1.2
    (show Cond.methodLink "LilyWheelsLaw" 7 (TN 109) ∈ ri_LW from List.mem_filter.mpr ⟨by decide +kernel, by decide +kernel⟩) (show Cond.instanceMethod (TN 109) ∈ ri_LW from List.mem_filter.mpr ⟨by decide +kernel, by decide +kernel⟩) (show Cond.selects (TN 109).cls (TN 109) (TN 109) ∈ ri_LW from List.mem_filter.mpr ⟨by decide +kernel, by decide +kernel⟩) (show Cond.initialized (TN 109).cls ∈ ri_LW from List.mem_filter.mpr ⟨by decide +kernel, by decide +kernel⟩) (show Cond.code (TN 109) (TB 109) (TM 109) (TR 109) ∈ ri_LW from List.mem_filter.mpr ⟨by decide +kernel, by decide +kernel⟩) ⟨⟨by decide +kernel, by decide +kernel⟩, by decide +kernel⟩ (show decode method_3_code 4 = .ok (.invokevirtual 7, 3) by decide +kernel)
    h rfl hrcv rfl hsz hwf hI ho ho2 hout (wr_rmx_ok hTM).2.1 (wr_rmx_ok hTM).2.2 htab [] [(0, 9, 15, 15)] rfl (fun z hz => nomatch hz) (by decide +kernel) (Or.inl ⟨3, by decide +kernel, rfl, rfl⟩) (by decide) (show decode method_3_code 13 = .ok (.iconst 1, 1) by decide +kernel) rfl (show decode method_3_code 14 = .ok (.ireturn, 1) by decide +kernel) (fun t locs2 h1 h2 h3 => hfin t locs2 _ _ h1 h2 ⟨rfl, h3, rfl⟩)
  rw [Nat.zero_add, Nat.zero_add] at hr
  exact hr
theorem wn_append_3 {p0 : Int32} (hl : l.stackTraces = false) (h : ev3 Ks 109 (0, ri_ent (TM 109) [.ref C, .int p0], []) σ = some (some (.int (Int32.ofNat 3)), σ2)) (hrcv : ri_rcv (some 8) [.ref C, .int p0] σ = true) (ho : σ.1 o = none) (ho2 : o < σ.2) : Met l (⟨"LilyWheelsLaw", "append", "(LLilyWheels;I[J)I"⟩ : MethodName) (Cond.codeWith (⟨"LilyWheelsLaw", "append", "(LLilyWheels;I[J)I"⟩ : MethodName) method_3_code 4 (some .int) [(0, 9, 12, 13), (0, 9, 15, 15)] :: ri_LW) (wr_rmx 109 σ σ2) (wq_Pc Ks Kv Km D dT dL [.ref C, .int p0, .ref o] σ o g) (wq_Qc D dT dL σ o 2 (fun σ3 g3 => σ3.1 = σ2.1 ∧ σ2.2 ≤ σ3.2 ∧ g3 = g)) (σ2.2 - σ.2 + 1) (2000 * (σ2.2 - σ.2) + 6) (wr_A σ o) := by
  refine wq_of rfl (Nat.le_succ _) ?_
  intro p e s m args below meth c Qc X htab hI hout ls hsz hwf hls hfin
  have l0 : ls[0]? = some (.val (.ref C)) := hls (0, _) (by simp [lv_args, Value.category])
  have l1 : ls[1]? = some (.val (.int p0)) := hls (1, _) (by simp [lv_args, Value.category])
  have l2 : ls[2]? = some (.val (.ref o)) := hls (2, _) (by simp [lv_args, Value.category])
  refine lv_aload_n X.1.1 X.1.2.1 (show decode method_3_code 0 = .ok (.aload_n 2, 1) by decide +kernel) rfl l2 ?_
  refine lv_iconst X.1.1 X.1.2.1 (show decode method_3_code 1 = .ok (.iconst 0, 1) by decide +kernel) (v := 0) rfl ?_
  refine lv_aload_n X.1.1 X.1.2.1 (show decode method_3_code 2 = .ok (.aload_n 0, 1) by decide +kernel) rfl l0 ?_
  refine lv_iload_n X.1.1 X.1.2.1 (show decode method_3_code 3 = .ok (.iload_n 1, 1) by decide +kernel) rfl l1 ?_
  have hTM : TM 109 ≤ 40 := by decide +kernel
  have hr := wr_ex (l := l) (e := e) (below := below) (k := 109) (n := 1) (f := 3) (index := 7) (pc := 4) (st := 0) (en := 9) (hp := 15) (hp2 := 16) (i := 3) (jn := 2) (v := 2) (ps := [.int p0]) (R := wr_rmx 109 σ σ2) (cells := 0) (slots := 0) (Qc := Qc) X hl (by decide) (by decide +kernel) ⟨by decide, by decide⟩ (wr_rmx_ok hTM).1.1 (wr_rmx_ok hTM).1.2
    (show Cond.methodLink "LilyWheelsLaw" 7 (TN 109) ∈ ri_LW from List.mem_filter.mpr ⟨by decide +kernel, by decide +kernel⟩) (show Cond.instanceMethod (TN 109) ∈ ri_LW from List.mem_filter.mpr ⟨by decide +kernel, by decide +kernel⟩) (show Cond.selects (TN 109).cls (TN 109) (TN 109) ∈ ri_LW from List.mem_filter.mpr ⟨by decide +kernel, by decide +kernel⟩) (show Cond.initialized (TN 109).cls ∈ ri_LW from List.mem_filter.mpr ⟨by decide +kernel, by decide +kernel⟩) (show Cond.code (TN 109) (TB 109) (TM 109) (TR 109) ∈ ri_LW from List.mem_filter.mpr ⟨by decide +kernel, by decide +kernel⟩) ⟨⟨by decide +kernel, by decide +kernel⟩, by decide +kernel⟩ (show decode method_3_code 4 = .ok (.invokevirtual 7, 3) by decide +kernel)
    h rfl hrcv rfl hsz hwf hI ho ho2 hout (wr_rmx_ok hTM).2.1 (wr_rmx_ok hTM).2.2 htab [(0, 9, 12, 13)] [] rfl (fun z hz => by simp only [List.mem_cons, List.not_mem_nil, or_false] at hz; rcases hz with rfl; exact ⟨2, ⟨by omega, by omega⟩, by decide, rfl⟩) (by decide +kernel) (Or.inl ⟨3, by decide +kernel, rfl, rfl⟩) (by decide) (show decode method_3_code 16 = .ok (.iconst 2, 1) by decide +kernel) rfl (show decode method_3_code 17 = .ok (.ireturn, 1) by decide +kernel) (fun t locs2 h1 h2 h3 => hfin t locs2 _ _ h1 h2 ⟨rfl, h3, rfl⟩)
  rw [Nat.zero_add, Nat.zero_add] at hr
  exact hr
theorem wn_load_3  (hl : l.stackTraces = false) (h : ev3 Ks 112 (0, ri_ent (TM 112) [.ref C], []) σ = some (some (.int (Int32.ofNat 3)), σ2)) (hrcv : ri_rcv (some 8) [.ref C] σ = true) (ho : σ.1 o = none) (ho2 : o < σ.2) : Met l (⟨"LilyWheelsLaw", "load", "(LLilyWheels;[J)I"⟩ : MethodName) (Cond.codeWith (⟨"LilyWheelsLaw", "load", "(LLilyWheels;[J)I"⟩ : MethodName) method_4_code 3 (some .int) [(0, 8, 11, 15)] :: ri_LW) (wr_rmx 112 σ σ2) (wq_Pc Ks Kv Km D dT dL [.ref C, .ref o] σ o g) (wq_Qc D dT dL σ o 1 (fun σ3 g3 => σ3.1 = σ2.1 ∧ σ2.2 ≤ σ3.2 ∧ g3 = g)) (σ2.2 - σ.2 + 1) (2000 * (σ2.2 - σ.2) + 6) (wr_A σ o) := by
  refine wq_of rfl (Nat.le_succ _) ?_
  intro p e s m args below meth c Qc X htab hI hout ls hsz hwf hls hfin
  have l0 : ls[0]? = some (.val (.ref C)) := hls (0, _) (by simp [lv_args, Value.category])
  have l1 : ls[1]? = some (.val (.ref o)) := hls (1, _) (by simp [lv_args, Value.category])
  refine lv_aload_n X.1.1 X.1.2.1 (show decode method_4_code 0 = .ok (.aload_n 1, 1) by decide +kernel) rfl l1 ?_
  refine lv_iconst X.1.1 X.1.2.1 (show decode method_4_code 1 = .ok (.iconst 0, 1) by decide +kernel) (v := 0) rfl ?_
  refine lv_aload_n X.1.1 X.1.2.1 (show decode method_4_code 2 = .ok (.aload_n 0, 1) by decide +kernel) rfl l0 ?_
  have hTM : TM 112 ≤ 40 := by decide +kernel
  have hr := wr_ex (l := l) (e := e) (below := below) (k := 112) (n := 0) (f := 3) (index := 17) (pc := 3) (st := 0) (en := 8) (hp := 11) (hp2 := 12) (i := 2) (jn := 1) (v := 1) (ps := []) (R := wr_rmx 112 σ σ2) (cells := 0) (slots := 0) (Qc := Qc) X hl (by decide) (by decide +kernel) ⟨by decide, by decide⟩ (wr_rmx_ok hTM).1.1 (wr_rmx_ok hTM).1.2
    (show Cond.methodLink "LilyWheelsLaw" 17 (TN 112) ∈ ri_LW from List.mem_filter.mpr ⟨by decide +kernel, by decide +kernel⟩) (show Cond.instanceMethod (TN 112) ∈ ri_LW from List.mem_filter.mpr ⟨by decide +kernel, by decide +kernel⟩) (show Cond.selects (TN 112).cls (TN 112) (TN 112) ∈ ri_LW from List.mem_filter.mpr ⟨by decide +kernel, by decide +kernel⟩) (show Cond.initialized (TN 112).cls ∈ ri_LW from List.mem_filter.mpr ⟨by decide +kernel, by decide +kernel⟩) (show Cond.code (TN 112) (TB 112) (TM 112) (TR 112) ∈ ri_LW from List.mem_filter.mpr ⟨by decide +kernel, by decide +kernel⟩) ⟨⟨by decide +kernel, by decide +kernel⟩, by decide +kernel⟩ (show decode method_4_code 3 = .ok (.invokevirtual 17, 3) by decide +kernel)
    h rfl hrcv rfl hsz hwf hI ho ho2 hout (wr_rmx_ok hTM).2.1 (wr_rmx_ok hTM).2.2 htab [] [] rfl (fun z hz => nomatch hz) (by decide +kernel) (Or.inl ⟨2, by decide +kernel, rfl, rfl⟩) (by decide) (show decode method_4_code 12 = .ok (.iconst 1, 1) by decide +kernel) rfl (show decode method_4_code 13 = .ok (.ireturn, 1) by decide +kernel) (fun t locs2 h1 h2 h3 => hfin t locs2 _ _ h1 h2 ⟨rfl, h3, rfl⟩)
  rw [Nat.zero_add, Nat.zero_add] at hr
  exact hr
theorem wn_about_2 {p0 : Int32} (hl : l.stackTraces = false) (h : ev3 Ks 113 (0, ri_ent (TM 113) [.ref C, .int p0], []) σ = some (some (.int (Int32.ofNat 2)), σ2)) (hrcv : ri_rcv (some 8) [.ref C, .int p0] σ = true) (ho : σ.1 o = none) (ho2 : o < σ.2) : Met l (⟨"LilyWheelsLaw", "about", "(LLilyWheels;I[J)I"⟩ : MethodName) (Cond.codeWith (⟨"LilyWheelsLaw", "about", "(LLilyWheels;I[J)I"⟩ : MethodName) method_5_code 4 (some .int) [(0, 9, 12, 13)] :: ri_LW) (wr_rmx 113 σ σ2) (wq_Pc Ks Kv Km D dT dL [.ref C, .int p0, .ref o] σ o g) (wq_Qc D dT dL σ o 1 (fun σ3 g3 => σ3.1 = σ2.1 ∧ σ2.2 ≤ σ3.2 ∧ g3 = g)) (σ2.2 - σ.2 + 1) (2000 * (σ2.2 - σ.2) + 6) (wr_A σ o) := by
  refine wq_of rfl (Nat.le_succ _) ?_
  intro p e s m args below meth c Qc X htab hI hout ls hsz hwf hls hfin
  have l0 : ls[0]? = some (.val (.ref C)) := hls (0, _) (by simp [lv_args, Value.category])
  have l1 : ls[1]? = some (.val (.int p0)) := hls (1, _) (by simp [lv_args, Value.category])
  have l2 : ls[2]? = some (.val (.ref o)) := hls (2, _) (by simp [lv_args, Value.category])
  refine lv_aload_n X.1.1 X.1.2.1 (show decode method_5_code 0 = .ok (.aload_n 2, 1) by decide +kernel) rfl l2 ?_
  refine lv_iconst X.1.1 X.1.2.1 (show decode method_5_code 1 = .ok (.iconst 0, 1) by decide +kernel) (v := 0) rfl ?_
  refine lv_aload_n X.1.1 X.1.2.1 (show decode method_5_code 2 = .ok (.aload_n 0, 1) by decide +kernel) rfl l0 ?_
  refine lv_iload_n X.1.1 X.1.2.1 (show decode method_5_code 3 = .ok (.iload_n 1, 1) by decide +kernel) rfl l1 ?_
  have hTM : TM 113 ≤ 40 := by decide +kernel
  have hr := wr_ex (l := l) (e := e) (below := below) (k := 113) (n := 1) (f := 2) (index := 21) (pc := 4) (st := 0) (en := 9) (hp := 12) (hp2 := 13) (i := 3) (jn := 1) (v := 1) (ps := [.int p0]) (R := wr_rmx 113 σ σ2) (cells := 0) (slots := 0) (Qc := Qc) X hl (by decide) (by decide +kernel) ⟨by decide, by decide⟩ (wr_rmx_ok hTM).1.1 (wr_rmx_ok hTM).1.2
    (show Cond.methodLink "LilyWheelsLaw" 21 (TN 113) ∈ ri_LW from List.mem_filter.mpr ⟨by decide +kernel, by decide +kernel⟩) (show Cond.instanceMethod (TN 113) ∈ ri_LW from List.mem_filter.mpr ⟨by decide +kernel, by decide +kernel⟩) (show Cond.selects (TN 113).cls (TN 113) (TN 113) ∈ ri_LW from List.mem_filter.mpr ⟨by decide +kernel, by decide +kernel⟩) (show Cond.initialized (TN 113).cls ∈ ri_LW from List.mem_filter.mpr ⟨by decide +kernel, by decide +kernel⟩) (show Cond.code (TN 113) (TB 113) (TM 113) (TR 113) ∈ ri_LW from List.mem_filter.mpr ⟨by decide +kernel, by decide +kernel⟩) ⟨⟨by decide +kernel, by decide +kernel⟩, by decide +kernel⟩ (show decode method_5_code 4 = .ok (.invokevirtual 21, 3) by decide +kernel)
    h rfl hrcv rfl hsz hwf hI ho ho2 hout (wr_rmx_ok hTM).2.1 (wr_rmx_ok hTM).2.2 htab [] [] rfl (fun z hz => nomatch hz) (by decide +kernel) (Or.inl ⟨3, by decide +kernel, rfl, rfl⟩) (by decide) (show decode method_5_code 13 = .ok (.iconst 1, 1) by decide +kernel) rfl (show decode method_5_code 14 = .ok (.ireturn, 1) by decide +kernel) (fun t locs2 h1 h2 h3 => hfin t locs2 _ _ h1 h2 ⟨rfl, h3, rfl⟩)
  rw [Nat.zero_add, Nat.zero_add] at hr
  exact hr
theorem wn_wheelOf_1 {p0 : Int32} {p1 : Int32} (hl : l.stackTraces = false) (h : ev3 Ks 114 (0, ri_ent (TM 114) [.ref C, .int p0, .int p1], []) σ = some (some (.int (Int32.ofNat 1)), σ2)) (hrcv : ri_rcv (some 8) [.ref C, .int p0, .int p1] σ = true) (ho : σ.1 o = none) (ho2 : o < σ.2) : Met l (⟨"LilyWheelsLaw", "wheelOf", "(LLilyWheels;II[J)I"⟩ : MethodName) (Cond.codeWith (⟨"LilyWheelsLaw", "wheelOf", "(LLilyWheels;II[J)I"⟩ : MethodName) method_6_code 5 (some .int) [(0, 10, 13, 28), (0, 10, 17, 13)] :: ri_LW) (wr_rmx 114 σ σ2) (wq_Pc Ks Kv Km D dT dL [.ref C, .int p0, .int p1, .ref o] σ o g) (wq_Qc D dT dL σ o 1 (fun σ3 g3 => σ3.1 = σ2.1 ∧ σ2.2 ≤ σ3.2 ∧ g3 = g)) (σ2.2 - σ.2 + 1) (2000 * (σ2.2 - σ.2) + 6) (wr_A σ o) := by
  refine wq_of rfl (Nat.le_succ _) ?_
  intro p e s m args below meth c Qc X htab hI hout ls hsz hwf hls hfin
  have l0 : ls[0]? = some (.val (.ref C)) := hls (0, _) (by simp [lv_args, Value.category])
  have l1 : ls[1]? = some (.val (.int p0)) := hls (1, _) (by simp [lv_args, Value.category])
  have l2 : ls[2]? = some (.val (.int p1)) := hls (2, _) (by simp [lv_args, Value.category])
  have l3 : ls[3]? = some (.val (.ref o)) := hls (3, _) (by simp [lv_args, Value.category])
  refine lv_aload_n X.1.1 X.1.2.1 (show decode method_6_code 0 = .ok (.aload_n 3, 1) by decide +kernel) rfl l3 ?_
  refine lv_iconst X.1.1 X.1.2.1 (show decode method_6_code 1 = .ok (.iconst 0, 1) by decide +kernel) (v := 0) rfl ?_
  refine lv_aload_n X.1.1 X.1.2.1 (show decode method_6_code 2 = .ok (.aload_n 0, 1) by decide +kernel) rfl l0 ?_
  refine lv_iload_n X.1.1 X.1.2.1 (show decode method_6_code 3 = .ok (.iload_n 1, 1) by decide +kernel) rfl l1 ?_
  refine lv_iload_n X.1.1 X.1.2.1 (show decode method_6_code 4 = .ok (.iload_n 2, 1) by decide +kernel) rfl l2 ?_
  have hTM : TM 114 ≤ 40 := by decide +kernel
  have hr := wr_ex (l := l) (e := e) (below := below) (k := 114) (n := 2) (f := 1) (index := 24) (pc := 5) (st := 0) (en := 10) (hp := 13) (hp2 := 15) (i := 4) (jn := 1) (v := 1) (ps := [.int p0, .int p1]) (R := wr_rmx 114 σ σ2) (cells := 0) (slots := 0) (Qc := Qc) X hl (by decide) (by decide +kernel) ⟨by decide, by decide⟩ (wr_rmx_ok hTM).1.1 (wr_rmx_ok hTM).1.2
    (show Cond.methodLink "LilyWheelsLaw" 24 (TN 114) ∈ ri_LW from List.mem_filter.mpr ⟨by decide +kernel, by decide +kernel⟩) (show Cond.instanceMethod (TN 114) ∈ ri_LW from List.mem_filter.mpr ⟨by decide +kernel, by decide +kernel⟩) (show Cond.selects (TN 114).cls (TN 114) (TN 114) ∈ ri_LW from List.mem_filter.mpr ⟨by decide +kernel, by decide +kernel⟩) (show Cond.initialized (TN 114).cls ∈ ri_LW from List.mem_filter.mpr ⟨by decide +kernel, by decide +kernel⟩) (show Cond.code (TN 114) (TB 114) (TM 114) (TR 114) ∈ ri_LW from List.mem_filter.mpr ⟨by decide +kernel, by decide +kernel⟩) ⟨⟨by decide +kernel, by decide +kernel⟩, by decide +kernel⟩ (show decode method_6_code 5 = .ok (.invokevirtual 24, 3) by decide +kernel)
    h rfl hrcv rfl hsz hwf hI ho ho2 hout (wr_rmx_ok hTM).2.1 (wr_rmx_ok hTM).2.2 htab [] [(0, 10, 17, 13)] rfl (fun z hz => nomatch hz) (by decide +kernel) (Or.inr ⟨by decide +kernel, rfl⟩) (by decide) (show decode method_6_code 15 = .ok (.iconst 1, 1) by decide +kernel) rfl (show decode method_6_code 16 = .ok (.ireturn, 1) by decide +kernel) (fun t locs2 h1 h2 h3 => hfin t locs2 _ _ h1 h2 ⟨rfl, h3, rfl⟩)
  rw [Nat.zero_add, Nat.zero_add] at hr
  exact hr
theorem wn_wheelOf_2 {p0 : Int32} {p1 : Int32} (hl : l.stackTraces = false) (h : ev3 Ks 114 (0, ri_ent (TM 114) [.ref C, .int p0, .int p1], []) σ = some (some (.int (Int32.ofNat 2)), σ2)) (hrcv : ri_rcv (some 8) [.ref C, .int p0, .int p1] σ = true) (ho : σ.1 o = none) (ho2 : o < σ.2) : Met l (⟨"LilyWheelsLaw", "wheelOf", "(LLilyWheels;II[J)I"⟩ : MethodName) (Cond.codeWith (⟨"LilyWheelsLaw", "wheelOf", "(LLilyWheels;II[J)I"⟩ : MethodName) method_6_code 5 (some .int) [(0, 10, 13, 28), (0, 10, 17, 13)] :: ri_LW) (wr_rmx 114 σ σ2) (wq_Pc Ks Kv Km D dT dL [.ref C, .int p0, .int p1, .ref o] σ o g) (wq_Qc D dT dL σ o 2 (fun σ3 g3 => σ3.1 = σ2.1 ∧ σ2.2 ≤ σ3.2 ∧ g3 = g)) (σ2.2 - σ.2 + 1) (2000 * (σ2.2 - σ.2) + 6) (wr_A σ o) := by
  refine wq_of rfl (Nat.le_succ _) ?_
  intro p e s m args below meth c Qc X htab hI hout ls hsz hwf hls hfin
  have l0 : ls[0]? = some (.val (.ref C)) := hls (0, _) (by simp [lv_args, Value.category])
  have l1 : ls[1]? = some (.val (.int p0)) := hls (1, _) (by simp [lv_args, Value.category])
  have l2 : ls[2]? = some (.val (.int p1)) := hls (2, _) (by simp [lv_args, Value.category])
  have l3 : ls[3]? = some (.val (.ref o)) := hls (3, _) (by simp [lv_args, Value.category])
  refine lv_aload_n X.1.1 X.1.2.1 (show decode method_6_code 0 = .ok (.aload_n 3, 1) by decide +kernel) rfl l3 ?_
  refine lv_iconst X.1.1 X.1.2.1 (show decode method_6_code 1 = .ok (.iconst 0, 1) by decide +kernel) (v := 0) rfl ?_
  refine lv_aload_n X.1.1 X.1.2.1 (show decode method_6_code 2 = .ok (.aload_n 0, 1) by decide +kernel) rfl l0 ?_
  refine lv_iload_n X.1.1 X.1.2.1 (show decode method_6_code 3 = .ok (.iload_n 1, 1) by decide +kernel) rfl l1 ?_
  refine lv_iload_n X.1.1 X.1.2.1 (show decode method_6_code 4 = .ok (.iload_n 2, 1) by decide +kernel) rfl l2 ?_
  have hTM : TM 114 ≤ 40 := by decide +kernel
  have hr := wr_ex (l := l) (e := e) (below := below) (k := 114) (n := 2) (f := 2) (index := 24) (pc := 5) (st := 0) (en := 10) (hp := 17) (hp2 := 19) (i := 4) (jn := 2) (v := 2) (ps := [.int p0, .int p1]) (R := wr_rmx 114 σ σ2) (cells := 0) (slots := 0) (Qc := Qc) X hl (by decide) (by decide +kernel) ⟨by decide, by decide⟩ (wr_rmx_ok hTM).1.1 (wr_rmx_ok hTM).1.2
    (show Cond.methodLink "LilyWheelsLaw" 24 (TN 114) ∈ ri_LW from List.mem_filter.mpr ⟨by decide +kernel, by decide +kernel⟩) (show Cond.instanceMethod (TN 114) ∈ ri_LW from List.mem_filter.mpr ⟨by decide +kernel, by decide +kernel⟩) (show Cond.selects (TN 114).cls (TN 114) (TN 114) ∈ ri_LW from List.mem_filter.mpr ⟨by decide +kernel, by decide +kernel⟩) (show Cond.initialized (TN 114).cls ∈ ri_LW from List.mem_filter.mpr ⟨by decide +kernel, by decide +kernel⟩) (show Cond.code (TN 114) (TB 114) (TM 114) (TR 114) ∈ ri_LW from List.mem_filter.mpr ⟨by decide +kernel, by decide +kernel⟩) ⟨⟨by decide +kernel, by decide +kernel⟩, by decide +kernel⟩ (show decode method_6_code 5 = .ok (.invokevirtual 24, 3) by decide +kernel)
    h rfl hrcv rfl hsz hwf hI ho ho2 hout (wr_rmx_ok hTM).2.1 (wr_rmx_ok hTM).2.2 htab [(0, 10, 13, 28)] [] rfl (fun z hz => by simp only [List.mem_cons, List.not_mem_nil, or_false] at hz; rcases hz with rfl; exact ⟨1, ⟨by omega, by omega⟩, by decide, rfl⟩) (by decide +kernel) (Or.inr ⟨by decide +kernel, rfl⟩) (by decide) (show decode method_6_code 19 = .ok (.iconst 2, 1) by decide +kernel) rfl (show decode method_6_code 20 = .ok (.ireturn, 1) by decide +kernel) (fun t locs2 h1 h2 h3 => hfin t locs2 _ _ h1 h2 ⟨rfl, h3, rfl⟩)
  rw [Nat.zero_add, Nat.zero_add] at hr
  exact hr
theorem wn_placeOf_1 {p0 : Int32} {p1 : Int32} {p2 : Int32} (hl : l.stackTraces = false) (h : ev3 Ks 115 (0, ri_ent (TM 115) [.ref C, .int p0, .int p1, .int p2], []) σ = some (some (.int (Int32.ofNat 1)), σ2)) (hrcv : ri_rcv (some 8) [.ref C, .int p0, .int p1, .int p2] σ = true) (ho : σ.1 o = none) (ho2 : o < σ.2) : Met l (⟨"LilyWheelsLaw", "placeOf", "(LLilyWheels;III[J)I"⟩ : MethodName) (Cond.codeWith (⟨"LilyWheelsLaw", "placeOf", "(LLilyWheels;III[J)I"⟩ : MethodName) method_7_code 6 (some .int) [(0, 12, 15, 28), (0, 12, 19, 13)] :: ri_LW) (wr_rmx 115 σ σ2) (wq_Pc Ks Kv Km D dT dL [.ref C, .int p0, .int p1, .int p2, .ref o] σ o g) (wq_Qc D dT dL σ o 1 (fun σ3 g3 => σ3.1 = σ2.1 ∧ σ2.2 ≤ σ3.2 ∧ g3 = g)) (σ2.2 - σ.2 + 1) (2000 * (σ2.2 - σ.2) + 6) (wr_A σ o) := by
  refine wq_of rfl (Nat.le_succ _) ?_
  intro p e s m args below meth c Qc X htab hI hout ls hsz hwf hls hfin
  have l0 : ls[0]? = some (.val (.ref C)) := hls (0, _) (by simp [lv_args, Value.category])
  have l1 : ls[1]? = some (.val (.int p0)) := hls (1, _) (by simp [lv_args, Value.category])
  have l2 : ls[2]? = some (.val (.int p1)) := hls (2, _) (by simp [lv_args, Value.category])
  have l3 : ls[3]? = some (.val (.int p2)) := hls (3, _) (by simp [lv_args, Value.category])
  have l4 : ls[4]? = some (.val (.ref o)) := hls (4, _) (by simp [lv_args, Value.category])
  refine lv_aload X.1.1 X.1.2.1 (show decode method_7_code 0 = .ok (.aload 4, 2) by decide +kernel) l4 ?_
  refine lv_iconst X.1.1 X.1.2.1 (show decode method_7_code 2 = .ok (.iconst 0, 1) by decide +kernel) (v := 0) rfl ?_
  refine lv_aload_n X.1.1 X.1.2.1 (show decode method_7_code 3 = .ok (.aload_n 0, 1) by decide +kernel) rfl l0 ?_
  refine lv_iload_n X.1.1 X.1.2.1 (show decode method_7_code 4 = .ok (.iload_n 1, 1) by decide +kernel) rfl l1 ?_
  refine lv_iload_n X.1.1 X.1.2.1 (show decode method_7_code 5 = .ok (.iload_n 2, 1) by decide +kernel) rfl l2 ?_
  refine lv_iload_n X.1.1 X.1.2.1 (show decode method_7_code 6 = .ok (.iload_n 3, 1) by decide +kernel) rfl l3 ?_
  have hTM : TM 115 ≤ 40 := by decide +kernel
  have hr := wr_ex (l := l) (e := e) (below := below) (k := 115) (n := 3) (f := 1) (index := 30) (pc := 7) (st := 0) (en := 12) (hp := 15) (hp2 := 17) (i := 5) (jn := 1) (v := 1) (ps := [.int p0, .int p1, .int p2]) (R := wr_rmx 115 σ σ2) (cells := 0) (slots := 0) (Qc := Qc) X hl (by decide) (by decide +kernel) ⟨by decide, by decide⟩ (wr_rmx_ok hTM).1.1 (wr_rmx_ok hTM).1.2
    (show Cond.methodLink "LilyWheelsLaw" 30 (TN 115) ∈ ri_LW from List.mem_filter.mpr ⟨by decide +kernel, by decide +kernel⟩) (show Cond.instanceMethod (TN 115) ∈ ri_LW from List.mem_filter.mpr ⟨by decide +kernel, by decide +kernel⟩) (show Cond.selects (TN 115).cls (TN 115) (TN 115) ∈ ri_LW from List.mem_filter.mpr ⟨by decide +kernel, by decide +kernel⟩) (show Cond.initialized (TN 115).cls ∈ ri_LW from List.mem_filter.mpr ⟨by decide +kernel, by decide +kernel⟩) (show Cond.code (TN 115) (TB 115) (TM 115) (TR 115) ∈ ri_LW from List.mem_filter.mpr ⟨by decide +kernel, by decide +kernel⟩) ⟨⟨by decide +kernel, by decide +kernel⟩, by decide +kernel⟩ (show decode method_7_code 7 = .ok (.invokevirtual 30, 3) by decide +kernel)
    h rfl hrcv rfl hsz hwf hI ho ho2 hout (wr_rmx_ok hTM).2.1 (wr_rmx_ok hTM).2.2 htab [] [(0, 12, 19, 13)] rfl (fun z hz => nomatch hz) (by decide +kernel) (Or.inr ⟨by decide +kernel, rfl⟩) (by decide) (show decode method_7_code 17 = .ok (.iconst 1, 1) by decide +kernel) rfl (show decode method_7_code 18 = .ok (.ireturn, 1) by decide +kernel) (fun t locs2 h1 h2 h3 => hfin t locs2 _ _ h1 h2 ⟨rfl, h3, rfl⟩)
  rw [Nat.zero_add, Nat.zero_add] at hr
  exact hr
theorem wn_placeOf_2 {p0 : Int32} {p1 : Int32} {p2 : Int32} (hl : l.stackTraces = false) (h : ev3 Ks 115 (0, ri_ent (TM 115) [.ref C, .int p0, .int p1, .int p2], []) σ = some (some (.int (Int32.ofNat 2)), σ2)) (hrcv : ri_rcv (some 8) [.ref C, .int p0, .int p1, .int p2] σ = true) (ho : σ.1 o = none) (ho2 : o < σ.2) : Met l (⟨"LilyWheelsLaw", "placeOf", "(LLilyWheels;III[J)I"⟩ : MethodName) (Cond.codeWith (⟨"LilyWheelsLaw", "placeOf", "(LLilyWheels;III[J)I"⟩ : MethodName) method_7_code 6 (some .int) [(0, 12, 15, 28), (0, 12, 19, 13)] :: ri_LW) (wr_rmx 115 σ σ2) (wq_Pc Ks Kv Km D dT dL [.ref C, .int p0, .int p1, .int p2, .ref o] σ o g) (wq_Qc D dT dL σ o 2 (fun σ3 g3 => σ3.1 = σ2.1 ∧ σ2.2 ≤ σ3.2 ∧ g3 = g)) (σ2.2 - σ.2 + 1) (2000 * (σ2.2 - σ.2) + 6) (wr_A σ o) := by
  refine wq_of rfl (Nat.le_succ _) ?_
  intro p e s m args below meth c Qc X htab hI hout ls hsz hwf hls hfin
  have l0 : ls[0]? = some (.val (.ref C)) := hls (0, _) (by simp [lv_args, Value.category])
  have l1 : ls[1]? = some (.val (.int p0)) := hls (1, _) (by simp [lv_args, Value.category])
  have l2 : ls[2]? = some (.val (.int p1)) := hls (2, _) (by simp [lv_args, Value.category])
  have l3 : ls[3]? = some (.val (.int p2)) := hls (3, _) (by simp [lv_args, Value.category])
  have l4 : ls[4]? = some (.val (.ref o)) := hls (4, _) (by simp [lv_args, Value.category])
  refine lv_aload X.1.1 X.1.2.1 (show decode method_7_code 0 = .ok (.aload 4, 2) by decide +kernel) l4 ?_
  refine lv_iconst X.1.1 X.1.2.1 (show decode method_7_code 2 = .ok (.iconst 0, 1) by decide +kernel) (v := 0) rfl ?_
  refine lv_aload_n X.1.1 X.1.2.1 (show decode method_7_code 3 = .ok (.aload_n 0, 1) by decide +kernel) rfl l0 ?_
  refine lv_iload_n X.1.1 X.1.2.1 (show decode method_7_code 4 = .ok (.iload_n 1, 1) by decide +kernel) rfl l1 ?_
  refine lv_iload_n X.1.1 X.1.2.1 (show decode method_7_code 5 = .ok (.iload_n 2, 1) by decide +kernel) rfl l2 ?_
  refine lv_iload_n X.1.1 X.1.2.1 (show decode method_7_code 6 = .ok (.iload_n 3, 1) by decide +kernel) rfl l3 ?_
  have hTM : TM 115 ≤ 40 := by decide +kernel
  have hr := wr_ex (l := l) (e := e) (below := below) (k := 115) (n := 3) (f := 2) (index := 30) (pc := 7) (st := 0) (en := 12) (hp := 19) (hp2 := 21) (i := 5) (jn := 2) (v := 2) (ps := [.int p0, .int p1, .int p2]) (R := wr_rmx 115 σ σ2) (cells := 0) (slots := 0) (Qc := Qc) X hl (by decide) (by decide +kernel) ⟨by decide, by decide⟩ (wr_rmx_ok hTM).1.1 (wr_rmx_ok hTM).1.2
    (show Cond.methodLink "LilyWheelsLaw" 30 (TN 115) ∈ ri_LW from List.mem_filter.mpr ⟨by decide +kernel, by decide +kernel⟩) (show Cond.instanceMethod (TN 115) ∈ ri_LW from List.mem_filter.mpr ⟨by decide +kernel, by decide +kernel⟩) (show Cond.selects (TN 115).cls (TN 115) (TN 115) ∈ ri_LW from List.mem_filter.mpr ⟨by decide +kernel, by decide +kernel⟩) (show Cond.initialized (TN 115).cls ∈ ri_LW from List.mem_filter.mpr ⟨by decide +kernel, by decide +kernel⟩) (show Cond.code (TN 115) (TB 115) (TM 115) (TR 115) ∈ ri_LW from List.mem_filter.mpr ⟨by decide +kernel, by decide +kernel⟩) ⟨⟨by decide +kernel, by decide +kernel⟩, by decide +kernel⟩ (show decode method_7_code 7 = .ok (.invokevirtual 30, 3) by decide +kernel)
    h rfl hrcv rfl hsz hwf hI ho ho2 hout (wr_rmx_ok hTM).2.1 (wr_rmx_ok hTM).2.2 htab [(0, 12, 15, 28)] [] rfl (fun z hz => by simp only [List.mem_cons, List.not_mem_nil, or_false] at hz; rcases hz with rfl; exact ⟨1, ⟨by omega, by omega⟩, by decide, rfl⟩) (by decide +kernel) (Or.inr ⟨by decide +kernel, rfl⟩) (by decide) (show decode method_7_code 21 = .ok (.iconst 2, 1) by decide +kernel) rfl (show decode method_7_code 22 = .ok (.ireturn, 1) by decide +kernel) (fun t locs2 h1 h2 h3 => hfin t locs2 _ _ h1 h2 ⟨rfl, h3, rfl⟩)
  rw [Nat.zero_add, Nat.zero_add] at hr
  exact hr
theorem wn_frogOf_1 {p0 : Int32} {p1 : Int32} (hl : l.stackTraces = false) (h : ev3 Ks 116 (0, ri_ent (TM 116) [.ref C, .int p0, .int p1], []) σ = some (some (.int (Int32.ofNat 1)), σ2)) (hrcv : ri_rcv (some 8) [.ref C, .int p0, .int p1] σ = true) (ho : σ.1 o = none) (ho2 : o < σ.2) : Met l (⟨"LilyWheelsLaw", "frogOf", "(LLilyWheels;II[J)I"⟩ : MethodName) (Cond.codeWith (⟨"LilyWheelsLaw", "frogOf", "(LLilyWheels;II[J)I"⟩ : MethodName) method_8_code 5 (some .int) [(0, 10, 13, 28), (0, 10, 17, 13)] :: ri_LW) (wr_rmx 116 σ σ2) (wq_Pc Ks Kv Km D dT dL [.ref C, .int p0, .int p1, .ref o] σ o g) (wq_Qc D dT dL σ o 1 (fun σ3 g3 => σ3.1 = σ2.1 ∧ σ2.2 ≤ σ3.2 ∧ g3 = g)) (σ2.2 - σ.2 + 1) (2000 * (σ2.2 - σ.2) + 6) (wr_A σ o) := by
  refine wq_of rfl (Nat.le_succ _) ?_
  intro p e s m args below meth c Qc X htab hI hout ls hsz hwf hls hfin
  have l0 : ls[0]? = some (.val (.ref C)) := hls (0, _) (by simp [lv_args, Value.category])
  have l1 : ls[1]? = some (.val (.int p0)) := hls (1, _) (by simp [lv_args, Value.category])
  have l2 : ls[2]? = some (.val (.int p1)) := hls (2, _) (by simp [lv_args, Value.category])
  have l3 : ls[3]? = some (.val (.ref o)) := hls (3, _) (by simp [lv_args, Value.category])
  refine lv_aload_n X.1.1 X.1.2.1 (show decode method_8_code 0 = .ok (.aload_n 3, 1) by decide +kernel) rfl l3 ?_
  refine lv_iconst X.1.1 X.1.2.1 (show decode method_8_code 1 = .ok (.iconst 0, 1) by decide +kernel) (v := 0) rfl ?_
  refine lv_aload_n X.1.1 X.1.2.1 (show decode method_8_code 2 = .ok (.aload_n 0, 1) by decide +kernel) rfl l0 ?_
  refine lv_iload_n X.1.1 X.1.2.1 (show decode method_8_code 3 = .ok (.iload_n 1, 1) by decide +kernel) rfl l1 ?_
  refine lv_iload_n X.1.1 X.1.2.1 (show decode method_8_code 4 = .ok (.iload_n 2, 1) by decide +kernel) rfl l2 ?_
  have hTM : TM 116 ≤ 40 := by decide +kernel
  have hr := wr_ex (l := l) (e := e) (below := below) (k := 116) (n := 2) (f := 1) (index := 34) (pc := 5) (st := 0) (en := 10) (hp := 13) (hp2 := 15) (i := 4) (jn := 1) (v := 1) (ps := [.int p0, .int p1]) (R := wr_rmx 116 σ σ2) (cells := 0) (slots := 0) (Qc := Qc) X hl (by decide) (by decide +kernel) ⟨by decide, by decide⟩ (wr_rmx_ok hTM).1.1 (wr_rmx_ok hTM).1.2
    (show Cond.methodLink "LilyWheelsLaw" 34 (TN 116) ∈ ri_LW from List.mem_filter.mpr ⟨by decide +kernel, by decide +kernel⟩) (show Cond.instanceMethod (TN 116) ∈ ri_LW from List.mem_filter.mpr ⟨by decide +kernel, by decide +kernel⟩) (show Cond.selects (TN 116).cls (TN 116) (TN 116) ∈ ri_LW from List.mem_filter.mpr ⟨by decide +kernel, by decide +kernel⟩) (show Cond.initialized (TN 116).cls ∈ ri_LW from List.mem_filter.mpr ⟨by decide +kernel, by decide +kernel⟩) (show Cond.code (TN 116) (TB 116) (TM 116) (TR 116) ∈ ri_LW from List.mem_filter.mpr ⟨by decide +kernel, by decide +kernel⟩) ⟨⟨by decide +kernel, by decide +kernel⟩, by decide +kernel⟩ (show decode method_8_code 5 = .ok (.invokevirtual 34, 3) by decide +kernel)
    h rfl hrcv rfl hsz hwf hI ho ho2 hout (wr_rmx_ok hTM).2.1 (wr_rmx_ok hTM).2.2 htab [] [(0, 10, 17, 13)] rfl (fun z hz => nomatch hz) (by decide +kernel) (Or.inr ⟨by decide +kernel, rfl⟩) (by decide) (show decode method_8_code 15 = .ok (.iconst 1, 1) by decide +kernel) rfl (show decode method_8_code 16 = .ok (.ireturn, 1) by decide +kernel) (fun t locs2 h1 h2 h3 => hfin t locs2 _ _ h1 h2 ⟨rfl, h3, rfl⟩)
  rw [Nat.zero_add, Nat.zero_add] at hr
  exact hr
theorem wn_frogOf_2 {p0 : Int32} {p1 : Int32} (hl : l.stackTraces = false) (h : ev3 Ks 116 (0, ri_ent (TM 116) [.ref C, .int p0, .int p1], []) σ = some (some (.int (Int32.ofNat 2)), σ2)) (hrcv : ri_rcv (some 8) [.ref C, .int p0, .int p1] σ = true) (ho : σ.1 o = none) (ho2 : o < σ.2) : Met l (⟨"LilyWheelsLaw", "frogOf", "(LLilyWheels;II[J)I"⟩ : MethodName) (Cond.codeWith (⟨"LilyWheelsLaw", "frogOf", "(LLilyWheels;II[J)I"⟩ : MethodName) method_8_code 5 (some .int) [(0, 10, 13, 28), (0, 10, 17, 13)] :: ri_LW) (wr_rmx 116 σ σ2) (wq_Pc Ks Kv Km D dT dL [.ref C, .int p0, .int p1, .ref o] σ o g) (wq_Qc D dT dL σ o 2 (fun σ3 g3 => σ3.1 = σ2.1 ∧ σ2.2 ≤ σ3.2 ∧ g3 = g)) (σ2.2 - σ.2 + 1) (2000 * (σ2.2 - σ.2) + 6) (wr_A σ o) := by
  refine wq_of rfl (Nat.le_succ _) ?_
  intro p e s m args below meth c Qc X htab hI hout ls hsz hwf hls hfin
  have l0 : ls[0]? = some (.val (.ref C)) := hls (0, _) (by simp [lv_args, Value.category])
  have l1 : ls[1]? = some (.val (.int p0)) := hls (1, _) (by simp [lv_args, Value.category])
  have l2 : ls[2]? = some (.val (.int p1)) := hls (2, _) (by simp [lv_args, Value.category])
  have l3 : ls[3]? = some (.val (.ref o)) := hls (3, _) (by simp [lv_args, Value.category])
  refine lv_aload_n X.1.1 X.1.2.1 (show decode method_8_code 0 = .ok (.aload_n 3, 1) by decide +kernel) rfl l3 ?_
  refine lv_iconst X.1.1 X.1.2.1 (show decode method_8_code 1 = .ok (.iconst 0, 1) by decide +kernel) (v := 0) rfl ?_
  refine lv_aload_n X.1.1 X.1.2.1 (show decode method_8_code 2 = .ok (.aload_n 0, 1) by decide +kernel) rfl l0 ?_
  refine lv_iload_n X.1.1 X.1.2.1 (show decode method_8_code 3 = .ok (.iload_n 1, 1) by decide +kernel) rfl l1 ?_
  refine lv_iload_n X.1.1 X.1.2.1 (show decode method_8_code 4 = .ok (.iload_n 2, 1) by decide +kernel) rfl l2 ?_
  have hTM : TM 116 ≤ 40 := by decide +kernel
  have hr := wr_ex (l := l) (e := e) (below := below) (k := 116) (n := 2) (f := 2) (index := 34) (pc := 5) (st := 0) (en := 10) (hp := 17) (hp2 := 19) (i := 4) (jn := 2) (v := 2) (ps := [.int p0, .int p1]) (R := wr_rmx 116 σ σ2) (cells := 0) (slots := 0) (Qc := Qc) X hl (by decide) (by decide +kernel) ⟨by decide, by decide⟩ (wr_rmx_ok hTM).1.1 (wr_rmx_ok hTM).1.2
    (show Cond.methodLink "LilyWheelsLaw" 34 (TN 116) ∈ ri_LW from List.mem_filter.mpr ⟨by decide +kernel, by decide +kernel⟩) (show Cond.instanceMethod (TN 116) ∈ ri_LW from List.mem_filter.mpr ⟨by decide +kernel, by decide +kernel⟩) (show Cond.selects (TN 116).cls (TN 116) (TN 116) ∈ ri_LW from List.mem_filter.mpr ⟨by decide +kernel, by decide +kernel⟩) (show Cond.initialized (TN 116).cls ∈ ri_LW from List.mem_filter.mpr ⟨by decide +kernel, by decide +kernel⟩) (show Cond.code (TN 116) (TB 116) (TM 116) (TR 116) ∈ ri_LW from List.mem_filter.mpr ⟨by decide +kernel, by decide +kernel⟩) ⟨⟨by decide +kernel, by decide +kernel⟩, by decide +kernel⟩ (show decode method_8_code 5 = .ok (.invokevirtual 34, 3) by decide +kernel)
    h rfl hrcv rfl hsz hwf hI ho ho2 hout (wr_rmx_ok hTM).2.1 (wr_rmx_ok hTM).2.2 htab [(0, 10, 13, 28)] [] rfl (fun z hz => by simp only [List.mem_cons, List.not_mem_nil, or_false] at hz; rcases hz with rfl; exact ⟨1, ⟨by omega, by omega⟩, by decide, rfl⟩) (by decide +kernel) (Or.inr ⟨by decide +kernel, rfl⟩) (by decide) (show decode method_8_code 19 = .ok (.iconst 2, 1) by decide +kernel) rfl (show decode method_8_code 20 = .ok (.ireturn, 1) by decide +kernel) (fun t locs2 h1 h2 h3 => hfin t locs2 _ _ h1 h2 ⟨rfl, h3, rfl⟩)
  rw [Nat.zero_add, Nat.zero_add] at hr
  exact hr
theorem wn_lineOf_1 {p0 : Int32} {p1 : Int32} (hl : l.stackTraces = false) (h : ev3 Ks 117 (0, ri_ent (TM 117) [.ref C, .int p0, .int p1], []) σ = some (some (.int (Int32.ofNat 1)), σ2)) (hrcv : ri_rcv (some 8) [.ref C, .int p0, .int p1] σ = true) (ho : σ.1 o = none) (ho2 : o < σ.2) : Met l (⟨"LilyWheelsLaw", "lineOf", "(LLilyWheels;II[J)I"⟩ : MethodName) (Cond.codeWith (⟨"LilyWheelsLaw", "lineOf", "(LLilyWheels;II[J)I"⟩ : MethodName) method_9_code 5 (some .int) [(0, 10, 13, 28), (0, 10, 17, 13)] :: ri_LW) (wr_rmx 117 σ σ2) (wq_Pc Ks Kv Km D dT dL [.ref C, .int p0, .int p1, .ref o] σ o g) (wq_Qc D dT dL σ o 1 (fun σ3 g3 => σ3.1 = σ2.1 ∧ σ2.2 ≤ σ3.2 ∧ g3 = g)) (σ2.2 - σ.2 + 1) (2000 * (σ2.2 - σ.2) + 6) (wr_A σ o) := by
  refine wq_of rfl (Nat.le_succ _) ?_
  intro p e s m args below meth c Qc X htab hI hout ls hsz hwf hls hfin
  have l0 : ls[0]? = some (.val (.ref C)) := hls (0, _) (by simp [lv_args, Value.category])
  have l1 : ls[1]? = some (.val (.int p0)) := hls (1, _) (by simp [lv_args, Value.category])
  have l2 : ls[2]? = some (.val (.int p1)) := hls (2, _) (by simp [lv_args, Value.category])
  have l3 : ls[3]? = some (.val (.ref o)) := hls (3, _) (by simp [lv_args, Value.category])
  refine lv_aload_n X.1.1 X.1.2.1 (show decode method_9_code 0 = .ok (.aload_n 3, 1) by decide +kernel) rfl l3 ?_
  refine lv_iconst X.1.1 X.1.2.1 (show decode method_9_code 1 = .ok (.iconst 0, 1) by decide +kernel) (v := 0) rfl ?_
  refine lv_aload_n X.1.1 X.1.2.1 (show decode method_9_code 2 = .ok (.aload_n 0, 1) by decide +kernel) rfl l0 ?_
  refine lv_iload_n X.1.1 X.1.2.1 (show decode method_9_code 3 = .ok (.iload_n 1, 1) by decide +kernel) rfl l1 ?_
  refine lv_iload_n X.1.1 X.1.2.1 (show decode method_9_code 4 = .ok (.iload_n 2, 1) by decide +kernel) rfl l2 ?_
  have hTM : TM 117 ≤ 40 := by decide +kernel
  have hr := wr_ex (l := l) (e := e) (below := below) (k := 117) (n := 2) (f := 1) (index := 37) (pc := 5) (st := 0) (en := 10) (hp := 13) (hp2 := 15) (i := 4) (jn := 1) (v := 1) (ps := [.int p0, .int p1]) (R := wr_rmx 117 σ σ2) (cells := 0) (slots := 0) (Qc := Qc) X hl (by decide) (by decide +kernel) ⟨by decide, by decide⟩ (wr_rmx_ok hTM).1.1 (wr_rmx_ok hTM).1.2
    (show Cond.methodLink "LilyWheelsLaw" 37 (TN 117) ∈ ri_LW from List.mem_filter.mpr ⟨by decide +kernel, by decide +kernel⟩) (show Cond.instanceMethod (TN 117) ∈ ri_LW from List.mem_filter.mpr ⟨by decide +kernel, by decide +kernel⟩) (show Cond.selects (TN 117).cls (TN 117) (TN 117) ∈ ri_LW from List.mem_filter.mpr ⟨by decide +kernel, by decide +kernel⟩) (show Cond.initialized (TN 117).cls ∈ ri_LW from List.mem_filter.mpr ⟨by decide +kernel, by decide +kernel⟩) (show Cond.code (TN 117) (TB 117) (TM 117) (TR 117) ∈ ri_LW from List.mem_filter.mpr ⟨by decide +kernel, by decide +kernel⟩) ⟨⟨by decide +kernel, by decide +kernel⟩, by decide +kernel⟩ (show decode method_9_code 5 = .ok (.invokevirtual 37, 3) by decide +kernel)
    h rfl hrcv rfl hsz hwf hI ho ho2 hout (wr_rmx_ok hTM).2.1 (wr_rmx_ok hTM).2.2 htab [] [(0, 10, 17, 13)] rfl (fun z hz => nomatch hz) (by decide +kernel) (Or.inr ⟨by decide +kernel, rfl⟩) (by decide) (show decode method_9_code 15 = .ok (.iconst 1, 1) by decide +kernel) rfl (show decode method_9_code 16 = .ok (.ireturn, 1) by decide +kernel) (fun t locs2 h1 h2 h3 => hfin t locs2 _ _ h1 h2 ⟨rfl, h3, rfl⟩)
  rw [Nat.zero_add, Nat.zero_add] at hr
  exact hr
theorem wn_lineOf_2 {p0 : Int32} {p1 : Int32} (hl : l.stackTraces = false) (h : ev3 Ks 117 (0, ri_ent (TM 117) [.ref C, .int p0, .int p1], []) σ = some (some (.int (Int32.ofNat 2)), σ2)) (hrcv : ri_rcv (some 8) [.ref C, .int p0, .int p1] σ = true) (ho : σ.1 o = none) (ho2 : o < σ.2) : Met l (⟨"LilyWheelsLaw", "lineOf", "(LLilyWheels;II[J)I"⟩ : MethodName) (Cond.codeWith (⟨"LilyWheelsLaw", "lineOf", "(LLilyWheels;II[J)I"⟩ : MethodName) method_9_code 5 (some .int) [(0, 10, 13, 28), (0, 10, 17, 13)] :: ri_LW) (wr_rmx 117 σ σ2) (wq_Pc Ks Kv Km D dT dL [.ref C, .int p0, .int p1, .ref o] σ o g) (wq_Qc D dT dL σ o 2 (fun σ3 g3 => σ3.1 = σ2.1 ∧ σ2.2 ≤ σ3.2 ∧ g3 = g)) (σ2.2 - σ.2 + 1) (2000 * (σ2.2 - σ.2) + 6) (wr_A σ o) := by
  refine wq_of rfl (Nat.le_succ _) ?_
  intro p e s m args below meth c Qc X htab hI hout ls hsz hwf hls hfin
  have l0 : ls[0]? = some (.val (.ref C)) := hls (0, _) (by simp [lv_args, Value.category])
  have l1 : ls[1]? = some (.val (.int p0)) := hls (1, _) (by simp [lv_args, Value.category])
  have l2 : ls[2]? = some (.val (.int p1)) := hls (2, _) (by simp [lv_args, Value.category])
  have l3 : ls[3]? = some (.val (.ref o)) := hls (3, _) (by simp [lv_args, Value.category])
  refine lv_aload_n X.1.1 X.1.2.1 (show decode method_9_code 0 = .ok (.aload_n 3, 1) by decide +kernel) rfl l3 ?_
  refine lv_iconst X.1.1 X.1.2.1 (show decode method_9_code 1 = .ok (.iconst 0, 1) by decide +kernel) (v := 0) rfl ?_
  refine lv_aload_n X.1.1 X.1.2.1 (show decode method_9_code 2 = .ok (.aload_n 0, 1) by decide +kernel) rfl l0 ?_
  refine lv_iload_n X.1.1 X.1.2.1 (show decode method_9_code 3 = .ok (.iload_n 1, 1) by decide +kernel) rfl l1 ?_
  refine lv_iload_n X.1.1 X.1.2.1 (show decode method_9_code 4 = .ok (.iload_n 2, 1) by decide +kernel) rfl l2 ?_
  have hTM : TM 117 ≤ 40 := by decide +kernel
  have hr := wr_ex (l := l) (e := e) (below := below) (k := 117) (n := 2) (f := 2) (index := 37) (pc := 5) (st := 0) (en := 10) (hp := 17) (hp2 := 19) (i := 4) (jn := 2) (v := 2) (ps := [.int p0, .int p1]) (R := wr_rmx 117 σ σ2) (cells := 0) (slots := 0) (Qc := Qc) X hl (by decide) (by decide +kernel) ⟨by decide, by decide⟩ (wr_rmx_ok hTM).1.1 (wr_rmx_ok hTM).1.2
    (show Cond.methodLink "LilyWheelsLaw" 37 (TN 117) ∈ ri_LW from List.mem_filter.mpr ⟨by decide +kernel, by decide +kernel⟩) (show Cond.instanceMethod (TN 117) ∈ ri_LW from List.mem_filter.mpr ⟨by decide +kernel, by decide +kernel⟩) (show Cond.selects (TN 117).cls (TN 117) (TN 117) ∈ ri_LW from List.mem_filter.mpr ⟨by decide +kernel, by decide +kernel⟩) (show Cond.initialized (TN 117).cls ∈ ri_LW from List.mem_filter.mpr ⟨by decide +kernel, by decide +kernel⟩) (show Cond.code (TN 117) (TB 117) (TM 117) (TR 117) ∈ ri_LW from List.mem_filter.mpr ⟨by decide +kernel, by decide +kernel⟩) ⟨⟨by decide +kernel, by decide +kernel⟩, by decide +kernel⟩ (show decode method_9_code 5 = .ok (.invokevirtual 37, 3) by decide +kernel)
    h rfl hrcv rfl hsz hwf hI ho ho2 hout (wr_rmx_ok hTM).2.1 (wr_rmx_ok hTM).2.2 htab [(0, 10, 13, 28)] [] rfl (fun z hz => by simp only [List.mem_cons, List.not_mem_nil, or_false] at hz; rcases hz with rfl; exact ⟨1, ⟨by omega, by omega⟩, by decide, rfl⟩) (by decide +kernel) (Or.inr ⟨by decide +kernel, rfl⟩) (by decide) (show decode method_9_code 19 = .ok (.iconst 2, 1) by decide +kernel) rfl (show decode method_9_code 20 = .ok (.ireturn, 1) by decide +kernel) (fun t locs2 h1 h2 h3 => hfin t locs2 _ _ h1 h2 ⟨rfl, h3, rfl⟩)
  rw [Nat.zero_add, Nat.zero_add] at hr
  exact hr
theorem wn_wheel_2 {p0 : Int32} {p1 : Int32} {p2 : Int32} (hl : l.stackTraces = false) (h : ev3 Ks 118 (0, ri_ent (TM 118) [.ref C, .int p0, .int p1, .int p2], []) σ = some (some (.int (Int32.ofNat 2)), σ2)) (hrcv : ri_rcv (some 8) [.ref C, .int p0, .int p1, .int p2] σ = true) (ho : σ.1 o = none) (ho2 : o < σ.2) : Met l (⟨"LilyWheelsLaw", "wheel", "(LLilyWheels;III[J)I"⟩ : MethodName) (Cond.codeWith (⟨"LilyWheelsLaw", "wheel", "(LLilyWheels;III[J)I"⟩ : MethodName) method_10_code 6 (some .int) [(0, 12, 15, 13), (0, 12, 19, 15)] :: ri_LW) (wr_rmx 118 σ σ2) (wq_Pc Ks Kv Km D dT dL [.ref C, .int p0, .int p1, .int p2, .ref o] σ o g) (wq_Qc D dT dL σ o 1 (fun σ3 g3 => σ3.1 = σ2.1 ∧ σ2.2 ≤ σ3.2 ∧ g3 = g)) (σ2.2 - σ.2 + 1) (2000 * (σ2.2 - σ.2) + 6) (wr_A σ o) := by
  refine wq_of rfl (Nat.le_succ _) ?_
  intro p e s m args below meth c Qc X htab hI hout ls hsz hwf hls hfin
  have l0 : ls[0]? = some (.val (.ref C)) := hls (0, _) (by simp [lv_args, Value.category])
  have l1 : ls[1]? = some (.val (.int p0)) := hls (1, _) (by simp [lv_args, Value.category])
  have l2 : ls[2]? = some (.val (.int p1)) := hls (2, _) (by simp [lv_args, Value.category])
  have l3 : ls[3]? = some (.val (.int p2)) := hls (3, _) (by simp [lv_args, Value.category])
  have l4 : ls[4]? = some (.val (.ref o)) := hls (4, _) (by simp [lv_args, Value.category])
  refine lv_aload X.1.1 X.1.2.1 (show decode method_10_code 0 = .ok (.aload 4, 2) by decide +kernel) l4 ?_
  refine lv_iconst X.1.1 X.1.2.1 (show decode method_10_code 2 = .ok (.iconst 0, 1) by decide +kernel) (v := 0) rfl ?_
  refine lv_aload_n X.1.1 X.1.2.1 (show decode method_10_code 3 = .ok (.aload_n 0, 1) by decide +kernel) rfl l0 ?_
  refine lv_iload_n X.1.1 X.1.2.1 (show decode method_10_code 4 = .ok (.iload_n 1, 1) by decide +kernel) rfl l1 ?_
  refine lv_iload_n X.1.1 X.1.2.1 (show decode method_10_code 5 = .ok (.iload_n 2, 1) by decide +kernel) rfl l2 ?_
  refine lv_iload_n X.1.1 X.1.2.1 (show decode method_10_code 6 = .ok (.iload_n 3, 1) by decide +kernel) rfl l3 ?_
  have hTM : TM 118 ≤ 40 := by decide +kernel
  have hr := wr_ex (l := l) (e := e) (below := below) (k := 118) (n := 3) (f := 2) (index := 40) (pc := 7) (st := 0) (en := 12) (hp := 15) (hp2 := 17) (i := 5) (jn := 1) (v := 1) (ps := [.int p0, .int p1, .int p2]) (R := wr_rmx 118 σ σ2) (cells := 0) (slots := 0) (Qc := Qc) X hl (by decide) (by decide +kernel) ⟨by decide, by decide⟩ (wr_rmx_ok hTM).1.1 (wr_rmx_ok hTM).1.2
    (show Cond.methodLink "LilyWheelsLaw" 40 (TN 118) ∈ ri_LW from List.mem_filter.mpr ⟨by decide +kernel, by decide +kernel⟩) (show Cond.instanceMethod (TN 118) ∈ ri_LW from List.mem_filter.mpr ⟨by decide +kernel, by decide +kernel⟩) (show Cond.selects (TN 118).cls (TN 118) (TN 118) ∈ ri_LW from List.mem_filter.mpr ⟨by decide +kernel, by decide +kernel⟩) (show Cond.initialized (TN 118).cls ∈ ri_LW from List.mem_filter.mpr ⟨by decide +kernel, by decide +kernel⟩) (show Cond.code (TN 118) (TB 118) (TM 118) (TR 118) ∈ ri_LW from List.mem_filter.mpr ⟨by decide +kernel, by decide +kernel⟩) ⟨⟨by decide +kernel, by decide +kernel⟩, by decide +kernel⟩ (show decode method_10_code 7 = .ok (.invokevirtual 40, 3) by decide +kernel)
    h rfl hrcv rfl hsz hwf hI ho ho2 hout (wr_rmx_ok hTM).2.1 (wr_rmx_ok hTM).2.2 htab [] [(0, 12, 19, 15)] rfl (fun z hz => nomatch hz) (by decide +kernel) (Or.inr ⟨by decide +kernel, rfl⟩) (by decide) (show decode method_10_code 17 = .ok (.iconst 1, 1) by decide +kernel) rfl (show decode method_10_code 18 = .ok (.ireturn, 1) by decide +kernel) (fun t locs2 h1 h2 h3 => hfin t locs2 _ _ h1 h2 ⟨rfl, h3, rfl⟩)
  rw [Nat.zero_add, Nat.zero_add] at hr
  exact hr
theorem wn_wheel_3 {p0 : Int32} {p1 : Int32} {p2 : Int32} (hl : l.stackTraces = false) (h : ev3 Ks 118 (0, ri_ent (TM 118) [.ref C, .int p0, .int p1, .int p2], []) σ = some (some (.int (Int32.ofNat 3)), σ2)) (hrcv : ri_rcv (some 8) [.ref C, .int p0, .int p1, .int p2] σ = true) (ho : σ.1 o = none) (ho2 : o < σ.2) : Met l (⟨"LilyWheelsLaw", "wheel", "(LLilyWheels;III[J)I"⟩ : MethodName) (Cond.codeWith (⟨"LilyWheelsLaw", "wheel", "(LLilyWheels;III[J)I"⟩ : MethodName) method_10_code 6 (some .int) [(0, 12, 15, 13), (0, 12, 19, 15)] :: ri_LW) (wr_rmx 118 σ σ2) (wq_Pc Ks Kv Km D dT dL [.ref C, .int p0, .int p1, .int p2, .ref o] σ o g) (wq_Qc D dT dL σ o 2 (fun σ3 g3 => σ3.1 = σ2.1 ∧ σ2.2 ≤ σ3.2 ∧ g3 = g)) (σ2.2 - σ.2 + 1) (2000 * (σ2.2 - σ.2) + 6) (wr_A σ o) := by
  refine wq_of rfl (Nat.le_succ _) ?_
  intro p e s m args below meth c Qc X htab hI hout ls hsz hwf hls hfin
  have l0 : ls[0]? = some (.val (.ref C)) := hls (0, _) (by simp [lv_args, Value.category])
  have l1 : ls[1]? = some (.val (.int p0)) := hls (1, _) (by simp [lv_args, Value.category])
  have l2 : ls[2]? = some (.val (.int p1)) := hls (2, _) (by simp [lv_args, Value.category])
  have l3 : ls[3]? = some (.val (.int p2)) := hls (3, _) (by simp [lv_args, Value.category])
  have l4 : ls[4]? = some (.val (.ref o)) := hls (4, _) (by simp [lv_args, Value.category])
  refine lv_aload X.1.1 X.1.2.1 (show decode method_10_code 0 = .ok (.aload 4, 2) by decide +kernel) l4 ?_
  refine lv_iconst X.1.1 X.1.2.1 (show decode method_10_code 2 = .ok (.iconst 0, 1) by decide +kernel) (v := 0) rfl ?_
  refine lv_aload_n X.1.1 X.1.2.1 (show decode method_10_code 3 = .ok (.aload_n 0, 1) by decide +kernel) rfl l0 ?_
  refine lv_iload_n X.1.1 X.1.2.1 (show decode method_10_code 4 = .ok (.iload_n 1, 1) by decide +kernel) rfl l1 ?_
  refine lv_iload_n X.1.1 X.1.2.1 (show decode method_10_code 5 = .ok (.iload_n 2, 1) by decide +kernel) rfl l2 ?_
  refine lv_iload_n X.1.1 X.1.2.1 (show decode method_10_code 6 = .ok (.iload_n 3, 1) by decide +kernel) rfl l3 ?_
  have hTM : TM 118 ≤ 40 := by decide +kernel
  have hr := wr_ex (l := l) (e := e) (below := below) (k := 118) (n := 3) (f := 3) (index := 40) (pc := 7) (st := 0) (en := 12) (hp := 19) (hp2 := 21) (i := 5) (jn := 2) (v := 2) (ps := [.int p0, .int p1, .int p2]) (R := wr_rmx 118 σ σ2) (cells := 0) (slots := 0) (Qc := Qc) X hl (by decide) (by decide +kernel) ⟨by decide, by decide⟩ (wr_rmx_ok hTM).1.1 (wr_rmx_ok hTM).1.2
    (show Cond.methodLink "LilyWheelsLaw" 40 (TN 118) ∈ ri_LW from List.mem_filter.mpr ⟨by decide +kernel, by decide +kernel⟩) (show Cond.instanceMethod (TN 118) ∈ ri_LW from List.mem_filter.mpr ⟨by decide +kernel, by decide +kernel⟩) (show Cond.selects (TN 118).cls (TN 118) (TN 118) ∈ ri_LW from List.mem_filter.mpr ⟨by decide +kernel, by decide +kernel⟩) (show Cond.initialized (TN 118).cls ∈ ri_LW from List.mem_filter.mpr ⟨by decide +kernel, by decide +kernel⟩) (show Cond.code (TN 118) (TB 118) (TM 118) (TR 118) ∈ ri_LW from List.mem_filter.mpr ⟨by decide +kernel, by decide +kernel⟩) ⟨⟨by decide +kernel, by decide +kernel⟩, by decide +kernel⟩ (show decode method_10_code 7 = .ok (.invokevirtual 40, 3) by decide +kernel)
    h rfl hrcv rfl hsz hwf hI ho ho2 hout (wr_rmx_ok hTM).2.1 (wr_rmx_ok hTM).2.2 htab [(0, 12, 15, 13)] [] rfl (fun z hz => by simp only [List.mem_cons, List.not_mem_nil, or_false] at hz; rcases hz with rfl; exact ⟨2, ⟨by omega, by omega⟩, by decide, rfl⟩) (by decide +kernel) (Or.inr ⟨by decide +kernel, rfl⟩) (by decide) (show decode method_10_code 21 = .ok (.iconst 2, 1) by decide +kernel) rfl (show decode method_10_code 22 = .ok (.ireturn, 1) by decide +kernel) (fun t locs2 h1 h2 h3 => hfin t locs2 _ _ h1 h2 ⟨rfl, h3, rfl⟩)
  rw [Nat.zero_add, Nat.zero_add] at hr
  exact hr
theorem wn_line_1 {p0 : Int32} {p1 : Int32} {p2 : Int32} {p3 : Int32} (hl : l.stackTraces = false) (h : ev3 Ks 119 (0, ri_ent (TM 119) [.ref C, .int p0, .int p1, .int p2, .int p3], []) σ = some (some (.int (Int32.ofNat 1)), σ2)) (hrcv : ri_rcv (some 8) [.ref C, .int p0, .int p1, .int p2, .int p3] σ = true) (ho : σ.1 o = none) (ho2 : o < σ.2) : Met l (⟨"LilyWheelsLaw", "line", "(LLilyWheels;IIII[J)I"⟩ : MethodName) (Cond.codeWith (⟨"LilyWheelsLaw", "line", "(LLilyWheels;IIII[J)I"⟩ : MethodName) method_11_code 7 (some .int) [(0, 14, 17, 28), (0, 14, 21, 13), (0, 14, 25, 15)] :: ri_LW) (wr_rmx 119 σ σ2) (wq_Pc Ks Kv Km D dT dL [.ref C, .int p0, .int p1, .int p2, .int p3, .ref o] σ o g) (wq_Qc D dT dL σ o 1 (fun σ3 g3 => σ3.1 = σ2.1 ∧ σ2.2 ≤ σ3.2 ∧ g3 = g)) (σ2.2 - σ.2 + 1) (2000 * (σ2.2 - σ.2) + 6) (wr_A σ o) := by
  refine wq_of rfl (Nat.le_succ _) ?_
  intro p e s m args below meth c Qc X htab hI hout ls hsz hwf hls hfin
  have l0 : ls[0]? = some (.val (.ref C)) := hls (0, _) (by simp [lv_args, Value.category])
  have l1 : ls[1]? = some (.val (.int p0)) := hls (1, _) (by simp [lv_args, Value.category])
  have l2 : ls[2]? = some (.val (.int p1)) := hls (2, _) (by simp [lv_args, Value.category])
  have l3 : ls[3]? = some (.val (.int p2)) := hls (3, _) (by simp [lv_args, Value.category])
  have l4 : ls[4]? = some (.val (.int p3)) := hls (4, _) (by simp [lv_args, Value.category])
  have l5 : ls[5]? = some (.val (.ref o)) := hls (5, _) (by simp [lv_args, Value.category])
  refine lv_aload X.1.1 X.1.2.1 (show decode method_11_code 0 = .ok (.aload 5, 2) by decide +kernel) l5 ?_
  refine lv_iconst X.1.1 X.1.2.1 (show decode method_11_code 2 = .ok (.iconst 0, 1) by decide +kernel) (v := 0) rfl ?_
  refine lv_aload_n X.1.1 X.1.2.1 (show decode method_11_code 3 = .ok (.aload_n 0, 1) by decide +kernel) rfl l0 ?_
  refine lv_iload_n X.1.1 X.1.2.1 (show decode method_11_code 4 = .ok (.iload_n 1, 1) by decide +kernel) rfl l1 ?_
  refine lv_iload_n X.1.1 X.1.2.1 (show decode method_11_code 5 = .ok (.iload_n 2, 1) by decide +kernel) rfl l2 ?_
  refine lv_iload_n X.1.1 X.1.2.1 (show decode method_11_code 6 = .ok (.iload_n 3, 1) by decide +kernel) rfl l3 ?_
  refine lv_iload X.1.1 X.1.2.1 (show decode method_11_code 7 = .ok (.iload 4, 2) by decide +kernel) l4 ?_
  have hTM : TM 119 ≤ 40 := by decide +kernel
  have hr := wr_ex (l := l) (e := e) (below := below) (k := 119) (n := 4) (f := 1) (index := 43) (pc := 9) (st := 0) (en := 14) (hp := 17) (hp2 := 19) (i := 6) (jn := 1) (v := 1) (ps := [.int p0, .int p1, .int p2, .int p3]) (R := wr_rmx 119 σ σ2) (cells := 0) (slots := 0) (Qc := Qc) X hl (by decide) (by decide +kernel) ⟨by decide, by decide⟩ (wr_rmx_ok hTM).1.1 (wr_rmx_ok hTM).1.2
    (show Cond.methodLink "LilyWheelsLaw" 43 (TN 119) ∈ ri_LW from List.mem_filter.mpr ⟨by decide +kernel, by decide +kernel⟩) (show Cond.instanceMethod (TN 119) ∈ ri_LW from List.mem_filter.mpr ⟨by decide +kernel, by decide +kernel⟩) (show Cond.selects (TN 119).cls (TN 119) (TN 119) ∈ ri_LW from List.mem_filter.mpr ⟨by decide +kernel, by decide +kernel⟩) (show Cond.initialized (TN 119).cls ∈ ri_LW from List.mem_filter.mpr ⟨by decide +kernel, by decide +kernel⟩) (show Cond.code (TN 119) (TB 119) (TM 119) (TR 119) ∈ ri_LW from List.mem_filter.mpr ⟨by decide +kernel, by decide +kernel⟩) ⟨⟨by decide +kernel, by decide +kernel⟩, by decide +kernel⟩ (show decode method_11_code 9 = .ok (.invokevirtual 43, 3) by decide +kernel)
    h rfl hrcv rfl hsz hwf hI ho ho2 hout (wr_rmx_ok hTM).2.1 (wr_rmx_ok hTM).2.2 htab [] [(0, 14, 21, 13), (0, 14, 25, 15)] rfl (fun z hz => nomatch hz) (by decide +kernel) (Or.inr ⟨by decide +kernel, rfl⟩) (by decide) (show decode method_11_code 19 = .ok (.iconst 1, 1) by decide +kernel) rfl (show decode method_11_code 20 = .ok (.ireturn, 1) by decide +kernel) (fun t locs2 h1 h2 h3 => hfin t locs2 _ _ h1 h2 ⟨rfl, h3, rfl⟩)
  rw [Nat.zero_add, Nat.zero_add] at hr
  exact hr
theorem wn_line_2 {p0 : Int32} {p1 : Int32} {p2 : Int32} {p3 : Int32} (hl : l.stackTraces = false) (h : ev3 Ks 119 (0, ri_ent (TM 119) [.ref C, .int p0, .int p1, .int p2, .int p3], []) σ = some (some (.int (Int32.ofNat 2)), σ2)) (hrcv : ri_rcv (some 8) [.ref C, .int p0, .int p1, .int p2, .int p3] σ = true) (ho : σ.1 o = none) (ho2 : o < σ.2) : Met l (⟨"LilyWheelsLaw", "line", "(LLilyWheels;IIII[J)I"⟩ : MethodName) (Cond.codeWith (⟨"LilyWheelsLaw", "line", "(LLilyWheels;IIII[J)I"⟩ : MethodName) method_11_code 7 (some .int) [(0, 14, 17, 28), (0, 14, 21, 13), (0, 14, 25, 15)] :: ri_LW) (wr_rmx 119 σ σ2) (wq_Pc Ks Kv Km D dT dL [.ref C, .int p0, .int p1, .int p2, .int p3, .ref o] σ o g) (wq_Qc D dT dL σ o 2 (fun σ3 g3 => σ3.1 = σ2.1 ∧ σ2.2 ≤ σ3.2 ∧ g3 = g)) (σ2.2 - σ.2 + 1) (2000 * (σ2.2 - σ.2) + 6) (wr_A σ o) := by
  refine wq_of rfl (Nat.le_succ _) ?_
  intro p e s m args below meth c Qc X htab hI hout ls hsz hwf hls hfin
  have l0 : ls[0]? = some (.val (.ref C)) := hls (0, _) (by simp [lv_args, Value.category])
  have l1 : ls[1]? = some (.val (.int p0)) := hls (1, _) (by simp [lv_args, Value.category])
  have l2 : ls[2]? = some (.val (.int p1)) := hls (2, _) (by simp [lv_args, Value.category])
  have l3 : ls[3]? = some (.val (.int p2)) := hls (3, _) (by simp [lv_args, Value.category])
  have l4 : ls[4]? = some (.val (.int p3)) := hls (4, _) (by simp [lv_args, Value.category])
  have l5 : ls[5]? = some (.val (.ref o)) := hls (5, _) (by simp [lv_args, Value.category])
  refine lv_aload X.1.1 X.1.2.1 (show decode method_11_code 0 = .ok (.aload 5, 2) by decide +kernel) l5 ?_
  refine lv_iconst X.1.1 X.1.2.1 (show decode method_11_code 2 = .ok (.iconst 0, 1) by decide +kernel) (v := 0) rfl ?_
  refine lv_aload_n X.1.1 X.1.2.1 (show decode method_11_code 3 = .ok (.aload_n 0, 1) by decide +kernel) rfl l0 ?_
  refine lv_iload_n X.1.1 X.1.2.1 (show decode method_11_code 4 = .ok (.iload_n 1, 1) by decide +kernel) rfl l1 ?_
  refine lv_iload_n X.1.1 X.1.2.1 (show decode method_11_code 5 = .ok (.iload_n 2, 1) by decide +kernel) rfl l2 ?_
  refine lv_iload_n X.1.1 X.1.2.1 (show decode method_11_code 6 = .ok (.iload_n 3, 1) by decide +kernel) rfl l3 ?_
  refine lv_iload X.1.1 X.1.2.1 (show decode method_11_code 7 = .ok (.iload 4, 2) by decide +kernel) l4 ?_
  have hTM : TM 119 ≤ 40 := by decide +kernel
  have hr := wr_ex (l := l) (e := e) (below := below) (k := 119) (n := 4) (f := 2) (index := 43) (pc := 9) (st := 0) (en := 14) (hp := 21) (hp2 := 23) (i := 6) (jn := 2) (v := 2) (ps := [.int p0, .int p1, .int p2, .int p3]) (R := wr_rmx 119 σ σ2) (cells := 0) (slots := 0) (Qc := Qc) X hl (by decide) (by decide +kernel) ⟨by decide, by decide⟩ (wr_rmx_ok hTM).1.1 (wr_rmx_ok hTM).1.2
    (show Cond.methodLink "LilyWheelsLaw" 43 (TN 119) ∈ ri_LW from List.mem_filter.mpr ⟨by decide +kernel, by decide +kernel⟩) (show Cond.instanceMethod (TN 119) ∈ ri_LW from List.mem_filter.mpr ⟨by decide +kernel, by decide +kernel⟩) (show Cond.selects (TN 119).cls (TN 119) (TN 119) ∈ ri_LW from List.mem_filter.mpr ⟨by decide +kernel, by decide +kernel⟩) (show Cond.initialized (TN 119).cls ∈ ri_LW from List.mem_filter.mpr ⟨by decide +kernel, by decide +kernel⟩) (show Cond.code (TN 119) (TB 119) (TM 119) (TR 119) ∈ ri_LW from List.mem_filter.mpr ⟨by decide +kernel, by decide +kernel⟩) ⟨⟨by decide +kernel, by decide +kernel⟩, by decide +kernel⟩ (show decode method_11_code 9 = .ok (.invokevirtual 43, 3) by decide +kernel)
    h rfl hrcv rfl hsz hwf hI ho ho2 hout (wr_rmx_ok hTM).2.1 (wr_rmx_ok hTM).2.2 htab [(0, 14, 17, 28)] [(0, 14, 25, 15)] rfl (fun z hz => by simp only [List.mem_cons, List.not_mem_nil, or_false] at hz; rcases hz with rfl; exact ⟨1, ⟨by omega, by omega⟩, by decide, rfl⟩) (by decide +kernel) (Or.inr ⟨by decide +kernel, rfl⟩) (by decide) (show decode method_11_code 23 = .ok (.iconst 2, 1) by decide +kernel) rfl (show decode method_11_code 24 = .ok (.ireturn, 1) by decide +kernel) (fun t locs2 h1 h2 h3 => hfin t locs2 _ _ h1 h2 ⟨rfl, h3, rfl⟩)
  rw [Nat.zero_add, Nat.zero_add] at hr
  exact hr
theorem wn_line_3 {p0 : Int32} {p1 : Int32} {p2 : Int32} {p3 : Int32} (hl : l.stackTraces = false) (h : ev3 Ks 119 (0, ri_ent (TM 119) [.ref C, .int p0, .int p1, .int p2, .int p3], []) σ = some (some (.int (Int32.ofNat 3)), σ2)) (hrcv : ri_rcv (some 8) [.ref C, .int p0, .int p1, .int p2, .int p3] σ = true) (ho : σ.1 o = none) (ho2 : o < σ.2) : Met l (⟨"LilyWheelsLaw", "line", "(LLilyWheels;IIII[J)I"⟩ : MethodName) (Cond.codeWith (⟨"LilyWheelsLaw", "line", "(LLilyWheels;IIII[J)I"⟩ : MethodName) method_11_code 7 (some .int) [(0, 14, 17, 28), (0, 14, 21, 13), (0, 14, 25, 15)] :: ri_LW) (wr_rmx 119 σ σ2) (wq_Pc Ks Kv Km D dT dL [.ref C, .int p0, .int p1, .int p2, .int p3, .ref o] σ o g) (wq_Qc D dT dL σ o 3 (fun σ3 g3 => σ3.1 = σ2.1 ∧ σ2.2 ≤ σ3.2 ∧ g3 = g)) (σ2.2 - σ.2 + 1) (2000 * (σ2.2 - σ.2) + 6) (wr_A σ o) := by
  refine wq_of rfl (Nat.le_succ _) ?_
  intro p e s m args below meth c Qc X htab hI hout ls hsz hwf hls hfin
  have l0 : ls[0]? = some (.val (.ref C)) := hls (0, _) (by simp [lv_args, Value.category])
  have l1 : ls[1]? = some (.val (.int p0)) := hls (1, _) (by simp [lv_args, Value.category])
  have l2 : ls[2]? = some (.val (.int p1)) := hls (2, _) (by simp [lv_args, Value.category])
  have l3 : ls[3]? = some (.val (.int p2)) := hls (3, _) (by simp [lv_args, Value.category])
  have l4 : ls[4]? = some (.val (.int p3)) := hls (4, _) (by simp [lv_args, Value.category])
  have l5 : ls[5]? = some (.val (.ref o)) := hls (5, _) (by simp [lv_args, Value.category])
  refine lv_aload X.1.1 X.1.2.1 (show decode method_11_code 0 = .ok (.aload 5, 2) by decide +kernel) l5 ?_
  refine lv_iconst X.1.1 X.1.2.1 (show decode method_11_code 2 = .ok (.iconst 0, 1) by decide +kernel) (v := 0) rfl ?_
  refine lv_aload_n X.1.1 X.1.2.1 (show decode method_11_code 3 = .ok (.aload_n 0, 1) by decide +kernel) rfl l0 ?_
  refine lv_iload_n X.1.1 X.1.2.1 (show decode method_11_code 4 = .ok (.iload_n 1, 1) by decide +kernel) rfl l1 ?_
  refine lv_iload_n X.1.1 X.1.2.1 (show decode method_11_code 5 = .ok (.iload_n 2, 1) by decide +kernel) rfl l2 ?_
  refine lv_iload_n X.1.1 X.1.2.1 (show decode method_11_code 6 = .ok (.iload_n 3, 1) by decide +kernel) rfl l3 ?_
  refine lv_iload X.1.1 X.1.2.1 (show decode method_11_code 7 = .ok (.iload 4, 2) by decide +kernel) l4 ?_
  have hTM : TM 119 ≤ 40 := by decide +kernel
  have hr := wr_ex (l := l) (e := e) (below := below) (k := 119) (n := 4) (f := 3) (index := 43) (pc := 9) (st := 0) (en := 14) (hp := 25) (hp2 := 27) (i := 6) (jn := 3) (v := 3) (ps := [.int p0, .int p1, .int p2, .int p3]) (R := wr_rmx 119 σ σ2) (cells := 0) (slots := 0) (Qc := Qc) X hl (by decide) (by decide +kernel) ⟨by decide, by decide⟩ (wr_rmx_ok hTM).1.1 (wr_rmx_ok hTM).1.2
    (show Cond.methodLink "LilyWheelsLaw" 43 (TN 119) ∈ ri_LW from List.mem_filter.mpr ⟨by decide +kernel, by decide +kernel⟩) (show Cond.instanceMethod (TN 119) ∈ ri_LW from List.mem_filter.mpr ⟨by decide +kernel, by decide +kernel⟩) (show Cond.selects (TN 119).cls (TN 119) (TN 119) ∈ ri_LW from List.mem_filter.mpr ⟨by decide +kernel, by decide +kernel⟩) (show Cond.initialized (TN 119).cls ∈ ri_LW from List.mem_filter.mpr ⟨by decide +kernel, by decide +kernel⟩) (show Cond.code (TN 119) (TB 119) (TM 119) (TR 119) ∈ ri_LW from List.mem_filter.mpr ⟨by decide +kernel, by decide +kernel⟩) ⟨⟨by decide +kernel, by decide +kernel⟩, by decide +kernel⟩ (show decode method_11_code 9 = .ok (.invokevirtual 43, 3) by decide +kernel)
    h rfl hrcv rfl hsz hwf hI ho ho2 hout (wr_rmx_ok hTM).2.1 (wr_rmx_ok hTM).2.2 htab [(0, 14, 17, 28), (0, 14, 21, 13)] [] rfl (fun z hz => by
      simp only [List.mem_cons, List.not_mem_nil, or_false] at hz
      rcases hz with rfl | rfl
      · exact ⟨1, ⟨by omega, by omega⟩, by decide, rfl⟩
      · exact ⟨2, ⟨by omega, by omega⟩, by decide, rfl⟩) (by decide +kernel) (Or.inr ⟨by decide +kernel, rfl⟩) (by decide) (show decode method_11_code 27 = .ok (.iconst 3, 1) by decide +kernel) rfl (show decode method_11_code 28 = .ok (.ireturn, 1) by decide +kernel) (fun t locs2 h1 h2 h3 => hfin t locs2 _ _ h1 h2 ⟨rfl, h3, rfl⟩)
  rw [Nat.zero_add, Nat.zero_add] at hr
  exact hr
theorem wn_frog_1 {p0 : Int32} {p1 : Int32} {p2 : Int32} (hl : l.stackTraces = false) (h : ev3 Ks 120 (0, ri_ent (TM 120) [.ref C, .int p0, .int p1, .int p2], []) σ = some (some (.int (Int32.ofNat 1)), σ2)) (hrcv : ri_rcv (some 8) [.ref C, .int p0, .int p1, .int p2] σ = true) (ho : σ.1 o = none) (ho2 : o < σ.2) : Met l (⟨"LilyWheelsLaw", "frog", "(LLilyWheels;III[J)I"⟩ : MethodName) (Cond.codeWith (⟨"LilyWheelsLaw", "frog", "(LLilyWheels;III[J)I"⟩ : MethodName) method_12_code 6 (some .int) [(0, 12, 15, 28), (0, 12, 19, 13), (0, 12, 23, 15)] :: ri_LW) (wr_rmx 120 σ σ2) (wq_Pc Ks Kv Km D dT dL [.ref C, .int p0, .int p1, .int p2, .ref o] σ o g) (wq_Qc D dT dL σ o 1 (fun σ3 g3 => σ3.1 = σ2.1 ∧ σ2.2 ≤ σ3.2 ∧ g3 = g)) (σ2.2 - σ.2 + 1) (2000 * (σ2.2 - σ.2) + 6) (wr_A σ o) := by
  refine wq_of rfl (Nat.le_succ _) ?_
  intro p e s m args below meth c Qc X htab hI hout ls hsz hwf hls hfin
  have l0 : ls[0]? = some (.val (.ref C)) := hls (0, _) (by simp [lv_args, Value.category])
  have l1 : ls[1]? = some (.val (.int p0)) := hls (1, _) (by simp [lv_args, Value.category])
  have l2 : ls[2]? = some (.val (.int p1)) := hls (2, _) (by simp [lv_args, Value.category])
  have l3 : ls[3]? = some (.val (.int p2)) := hls (3, _) (by simp [lv_args, Value.category])
  have l4 : ls[4]? = some (.val (.ref o)) := hls (4, _) (by simp [lv_args, Value.category])
  refine lv_aload X.1.1 X.1.2.1 (show decode method_12_code 0 = .ok (.aload 4, 2) by decide +kernel) l4 ?_
  refine lv_iconst X.1.1 X.1.2.1 (show decode method_12_code 2 = .ok (.iconst 0, 1) by decide +kernel) (v := 0) rfl ?_
  refine lv_aload_n X.1.1 X.1.2.1 (show decode method_12_code 3 = .ok (.aload_n 0, 1) by decide +kernel) rfl l0 ?_
  refine lv_iload_n X.1.1 X.1.2.1 (show decode method_12_code 4 = .ok (.iload_n 1, 1) by decide +kernel) rfl l1 ?_
  refine lv_iload_n X.1.1 X.1.2.1 (show decode method_12_code 5 = .ok (.iload_n 2, 1) by decide +kernel) rfl l2 ?_
  refine lv_iload_n X.1.1 X.1.2.1 (show decode method_12_code 6 = .ok (.iload_n 3, 1) by decide +kernel) rfl l3 ?_
  have hTM : TM 120 ≤ 40 := by decide +kernel
  have hr := wr_ex (l := l) (e := e) (below := below) (k := 120) (n := 3) (f := 1) (index := 47) (pc := 7) (st := 0) (en := 12) (hp := 15) (hp2 := 17) (i := 5) (jn := 1) (v := 1) (ps := [.int p0, .int p1, .int p2]) (R := wr_rmx 120 σ σ2) (cells := 0) (slots := 0) (Qc := Qc) X hl (by decide) (by decide +kernel) ⟨by decide, by decide⟩ (wr_rmx_ok hTM).1.1 (wr_rmx_ok hTM).1.2
    (show Cond.methodLink "LilyWheelsLaw" 47 (TN 120) ∈ ri_LW from List.mem_filter.mpr ⟨by decide +kernel, by decide +kernel⟩) (show Cond.instanceMethod (TN 120) ∈ ri_LW from List.mem_filter.mpr ⟨by decide +kernel, by decide +kernel⟩) (show Cond.selects (TN 120).cls (TN 120) (TN 120) ∈ ri_LW from List.mem_filter.mpr ⟨by decide +kernel, by decide +kernel⟩) (show Cond.initialized (TN 120).cls ∈ ri_LW from List.mem_filter.mpr ⟨by decide +kernel, by decide +kernel⟩) (show Cond.code (TN 120) (TB 120) (TM 120) (TR 120) ∈ ri_LW from List.mem_filter.mpr ⟨by decide +kernel, by decide +kernel⟩) ⟨⟨by decide +kernel, by decide +kernel⟩, by decide +kernel⟩ (show decode method_12_code 7 = .ok (.invokevirtual 47, 3) by decide +kernel)
    h rfl hrcv rfl hsz hwf hI ho ho2 hout (wr_rmx_ok hTM).2.1 (wr_rmx_ok hTM).2.2 htab [] [(0, 12, 19, 13), (0, 12, 23, 15)] rfl (fun z hz => nomatch hz) (by decide +kernel) (Or.inr ⟨by decide +kernel, rfl⟩) (by decide) (show decode method_12_code 17 = .ok (.iconst 1, 1) by decide +kernel) rfl (show decode method_12_code 18 = .ok (.ireturn, 1) by decide +kernel) (fun t locs2 h1 h2 h3 => hfin t locs2 _ _ h1 h2 ⟨rfl, h3, rfl⟩)
  rw [Nat.zero_add, Nat.zero_add] at hr
  exact hr
theorem wn_frog_2 {p0 : Int32} {p1 : Int32} {p2 : Int32} (hl : l.stackTraces = false) (h : ev3 Ks 120 (0, ri_ent (TM 120) [.ref C, .int p0, .int p1, .int p2], []) σ = some (some (.int (Int32.ofNat 2)), σ2)) (hrcv : ri_rcv (some 8) [.ref C, .int p0, .int p1, .int p2] σ = true) (ho : σ.1 o = none) (ho2 : o < σ.2) : Met l (⟨"LilyWheelsLaw", "frog", "(LLilyWheels;III[J)I"⟩ : MethodName) (Cond.codeWith (⟨"LilyWheelsLaw", "frog", "(LLilyWheels;III[J)I"⟩ : MethodName) method_12_code 6 (some .int) [(0, 12, 15, 28), (0, 12, 19, 13), (0, 12, 23, 15)] :: ri_LW) (wr_rmx 120 σ σ2) (wq_Pc Ks Kv Km D dT dL [.ref C, .int p0, .int p1, .int p2, .ref o] σ o g) (wq_Qc D dT dL σ o 2 (fun σ3 g3 => σ3.1 = σ2.1 ∧ σ2.2 ≤ σ3.2 ∧ g3 = g)) (σ2.2 - σ.2 + 1) (2000 * (σ2.2 - σ.2) + 6) (wr_A σ o) := by
  refine wq_of rfl (Nat.le_succ _) ?_
  intro p e s m args below meth c Qc X htab hI hout ls hsz hwf hls hfin
  have l0 : ls[0]? = some (.val (.ref C)) := hls (0, _) (by simp [lv_args, Value.category])
  have l1 : ls[1]? = some (.val (.int p0)) := hls (1, _) (by simp [lv_args, Value.category])
  have l2 : ls[2]? = some (.val (.int p1)) := hls (2, _) (by simp [lv_args, Value.category])
  have l3 : ls[3]? = some (.val (.int p2)) := hls (3, _) (by simp [lv_args, Value.category])
  have l4 : ls[4]? = some (.val (.ref o)) := hls (4, _) (by simp [lv_args, Value.category])
  refine lv_aload X.1.1 X.1.2.1 (show decode method_12_code 0 = .ok (.aload 4, 2) by decide +kernel) l4 ?_
  refine lv_iconst X.1.1 X.1.2.1 (show decode method_12_code 2 = .ok (.iconst 0, 1) by decide +kernel) (v := 0) rfl ?_
  refine lv_aload_n X.1.1 X.1.2.1 (show decode method_12_code 3 = .ok (.aload_n 0, 1) by decide +kernel) rfl l0 ?_
  refine lv_iload_n X.1.1 X.1.2.1 (show decode method_12_code 4 = .ok (.iload_n 1, 1) by decide +kernel) rfl l1 ?_
  refine lv_iload_n X.1.1 X.1.2.1 (show decode method_12_code 5 = .ok (.iload_n 2, 1) by decide +kernel) rfl l2 ?_
  refine lv_iload_n X.1.1 X.1.2.1 (show decode method_12_code 6 = .ok (.iload_n 3, 1) by decide +kernel) rfl l3 ?_
  have hTM : TM 120 ≤ 40 := by decide +kernel
  have hr := wr_ex (l := l) (e := e) (below := below) (k := 120) (n := 3) (f := 2) (index := 47) (pc := 7) (st := 0) (en := 12) (hp := 19) (hp2 := 21) (i := 5) (jn := 2) (v := 2) (ps := [.int p0, .int p1, .int p2]) (R := wr_rmx 120 σ σ2) (cells := 0) (slots := 0) (Qc := Qc) X hl (by decide) (by decide +kernel) ⟨by decide, by decide⟩ (wr_rmx_ok hTM).1.1 (wr_rmx_ok hTM).1.2
    (show Cond.methodLink "LilyWheelsLaw" 47 (TN 120) ∈ ri_LW from List.mem_filter.mpr ⟨by decide +kernel, by decide +kernel⟩) (show Cond.instanceMethod (TN 120) ∈ ri_LW from List.mem_filter.mpr ⟨by decide +kernel, by decide +kernel⟩) (show Cond.selects (TN 120).cls (TN 120) (TN 120) ∈ ri_LW from List.mem_filter.mpr ⟨by decide +kernel, by decide +kernel⟩) (show Cond.initialized (TN 120).cls ∈ ri_LW from List.mem_filter.mpr ⟨by decide +kernel, by decide +kernel⟩) (show Cond.code (TN 120) (TB 120) (TM 120) (TR 120) ∈ ri_LW from List.mem_filter.mpr ⟨by decide +kernel, by decide +kernel⟩) ⟨⟨by decide +kernel, by decide +kernel⟩, by decide +kernel⟩ (show decode method_12_code 7 = .ok (.invokevirtual 47, 3) by decide +kernel)
    h rfl hrcv rfl hsz hwf hI ho ho2 hout (wr_rmx_ok hTM).2.1 (wr_rmx_ok hTM).2.2 htab [(0, 12, 15, 28)] [(0, 12, 23, 15)] rfl (fun z hz => by simp only [List.mem_cons, List.not_mem_nil, or_false] at hz; rcases hz with rfl; exact ⟨1, ⟨by omega, by omega⟩, by decide, rfl⟩) (by decide +kernel) (Or.inr ⟨by decide +kernel, rfl⟩) (by decide) (show decode method_12_code 21 = .ok (.iconst 2, 1) by decide +kernel) rfl (show decode method_12_code 22 = .ok (.ireturn, 1) by decide +kernel) (fun t locs2 h1 h2 h3 => hfin t locs2 _ _ h1 h2 ⟨rfl, h3, rfl⟩)
  rw [Nat.zero_add, Nat.zero_add] at hr
  exact hr
theorem wn_frog_3 {p0 : Int32} {p1 : Int32} {p2 : Int32} (hl : l.stackTraces = false) (h : ev3 Ks 120 (0, ri_ent (TM 120) [.ref C, .int p0, .int p1, .int p2], []) σ = some (some (.int (Int32.ofNat 3)), σ2)) (hrcv : ri_rcv (some 8) [.ref C, .int p0, .int p1, .int p2] σ = true) (ho : σ.1 o = none) (ho2 : o < σ.2) : Met l (⟨"LilyWheelsLaw", "frog", "(LLilyWheels;III[J)I"⟩ : MethodName) (Cond.codeWith (⟨"LilyWheelsLaw", "frog", "(LLilyWheels;III[J)I"⟩ : MethodName) method_12_code 6 (some .int) [(0, 12, 15, 28), (0, 12, 19, 13), (0, 12, 23, 15)] :: ri_LW) (wr_rmx 120 σ σ2) (wq_Pc Ks Kv Km D dT dL [.ref C, .int p0, .int p1, .int p2, .ref o] σ o g) (wq_Qc D dT dL σ o 3 (fun σ3 g3 => σ3.1 = σ2.1 ∧ σ2.2 ≤ σ3.2 ∧ g3 = g)) (σ2.2 - σ.2 + 1) (2000 * (σ2.2 - σ.2) + 6) (wr_A σ o) := by
  refine wq_of rfl (Nat.le_succ _) ?_
  intro p e s m args below meth c Qc X htab hI hout ls hsz hwf hls hfin
  have l0 : ls[0]? = some (.val (.ref C)) := hls (0, _) (by simp [lv_args, Value.category])
  have l1 : ls[1]? = some (.val (.int p0)) := hls (1, _) (by simp [lv_args, Value.category])
  have l2 : ls[2]? = some (.val (.int p1)) := hls (2, _) (by simp [lv_args, Value.category])
  have l3 : ls[3]? = some (.val (.int p2)) := hls (3, _) (by simp [lv_args, Value.category])
  have l4 : ls[4]? = some (.val (.ref o)) := hls (4, _) (by simp [lv_args, Value.category])
  refine lv_aload X.1.1 X.1.2.1 (show decode method_12_code 0 = .ok (.aload 4, 2) by decide +kernel) l4 ?_
  refine lv_iconst X.1.1 X.1.2.1 (show decode method_12_code 2 = .ok (.iconst 0, 1) by decide +kernel) (v := 0) rfl ?_
  refine lv_aload_n X.1.1 X.1.2.1 (show decode method_12_code 3 = .ok (.aload_n 0, 1) by decide +kernel) rfl l0 ?_
  refine lv_iload_n X.1.1 X.1.2.1 (show decode method_12_code 4 = .ok (.iload_n 1, 1) by decide +kernel) rfl l1 ?_
  refine lv_iload_n X.1.1 X.1.2.1 (show decode method_12_code 5 = .ok (.iload_n 2, 1) by decide +kernel) rfl l2 ?_
  refine lv_iload_n X.1.1 X.1.2.1 (show decode method_12_code 6 = .ok (.iload_n 3, 1) by decide +kernel) rfl l3 ?_
  have hTM : TM 120 ≤ 40 := by decide +kernel
  have hr := wr_ex (l := l) (e := e) (below := below) (k := 120) (n := 3) (f := 3) (index := 47) (pc := 7) (st := 0) (en := 12) (hp := 23) (hp2 := 25) (i := 5) (jn := 3) (v := 3) (ps := [.int p0, .int p1, .int p2]) (R := wr_rmx 120 σ σ2) (cells := 0) (slots := 0) (Qc := Qc) X hl (by decide) (by decide +kernel) ⟨by decide, by decide⟩ (wr_rmx_ok hTM).1.1 (wr_rmx_ok hTM).1.2
    (show Cond.methodLink "LilyWheelsLaw" 47 (TN 120) ∈ ri_LW from List.mem_filter.mpr ⟨by decide +kernel, by decide +kernel⟩) (show Cond.instanceMethod (TN 120) ∈ ri_LW from List.mem_filter.mpr ⟨by decide +kernel, by decide +kernel⟩) (show Cond.selects (TN 120).cls (TN 120) (TN 120) ∈ ri_LW from List.mem_filter.mpr ⟨by decide +kernel, by decide +kernel⟩) (show Cond.initialized (TN 120).cls ∈ ri_LW from List.mem_filter.mpr ⟨by decide +kernel, by decide +kernel⟩) (show Cond.code (TN 120) (TB 120) (TM 120) (TR 120) ∈ ri_LW from List.mem_filter.mpr ⟨by decide +kernel, by decide +kernel⟩) ⟨⟨by decide +kernel, by decide +kernel⟩, by decide +kernel⟩ (show decode method_12_code 7 = .ok (.invokevirtual 47, 3) by decide +kernel)
    h rfl hrcv rfl hsz hwf hI ho ho2 hout (wr_rmx_ok hTM).2.1 (wr_rmx_ok hTM).2.2 htab [(0, 12, 15, 28), (0, 12, 19, 13)] [] rfl (fun z hz => by
      simp only [List.mem_cons, List.not_mem_nil, or_false] at hz
      rcases hz with rfl | rfl
      · exact ⟨1, ⟨by omega, by omega⟩, by decide, rfl⟩
      · exact ⟨2, ⟨by omega, by omega⟩, by decide, rfl⟩) (by decide +kernel) (Or.inr ⟨by decide +kernel, rfl⟩) (by decide) (show decode method_12_code 25 = .ok (.iconst 3, 1) by decide +kernel) rfl (show decode method_12_code 26 = .ok (.ireturn, 1) by decide +kernel) (fun t locs2 h1 h2 h3 => hfin t locs2 _ _ h1 h2 ⟨rfl, h3, rfl⟩)
  rw [Nat.zero_add, Nat.zero_add] at hr
  exact hr
theorem wn_flies_1 {p0 : Int32} {p1 : Int32} {p2 : Int32} (hl : l.stackTraces = false) (h : ev3 Ks 121 (0, ri_ent (TM 121) [.ref C, .int p0, .int p1, .int p2], []) σ = some (some (.int (Int32.ofNat 1)), σ2)) (hrcv : ri_rcv (some 8) [.ref C, .int p0, .int p1, .int p2] σ = true) (ho : σ.1 o = none) (ho2 : o < σ.2) : Met l (⟨"LilyWheelsLaw", "flies", "(LLilyWheels;III[J)I"⟩ : MethodName) (Cond.codeWith (⟨"LilyWheelsLaw", "flies", "(LLilyWheels;III[J)I"⟩ : MethodName) method_13_code 6 (some .int) [(0, 12, 15, 28), (0, 12, 19, 13)] :: ri_LW) (wr_rmx 121 σ σ2) (wq_Pc Ks Kv Km D dT dL [.ref C, .int p0, .int p1, .int p2, .ref o] σ o g) (wq_Qc D dT dL σ o 1 (fun σ3 g3 => σ3.1 = σ2.1 ∧ σ2.2 ≤ σ3.2 ∧ g3 = g)) (σ2.2 - σ.2 + 1) (2000 * (σ2.2 - σ.2) + 6) (wr_A σ o) := by
  refine wq_of rfl (Nat.le_succ _) ?_
  intro p e s m args below meth c Qc X htab hI hout ls hsz hwf hls hfin
  have l0 : ls[0]? = some (.val (.ref C)) := hls (0, _) (by simp [lv_args, Value.category])
  have l1 : ls[1]? = some (.val (.int p0)) := hls (1, _) (by simp [lv_args, Value.category])
  have l2 : ls[2]? = some (.val (.int p1)) := hls (2, _) (by simp [lv_args, Value.category])
  have l3 : ls[3]? = some (.val (.int p2)) := hls (3, _) (by simp [lv_args, Value.category])
  have l4 : ls[4]? = some (.val (.ref o)) := hls (4, _) (by simp [lv_args, Value.category])
  refine lv_aload X.1.1 X.1.2.1 (show decode method_13_code 0 = .ok (.aload 4, 2) by decide +kernel) l4 ?_
  refine lv_iconst X.1.1 X.1.2.1 (show decode method_13_code 2 = .ok (.iconst 0, 1) by decide +kernel) (v := 0) rfl ?_
  refine lv_aload_n X.1.1 X.1.2.1 (show decode method_13_code 3 = .ok (.aload_n 0, 1) by decide +kernel) rfl l0 ?_
  refine lv_iload_n X.1.1 X.1.2.1 (show decode method_13_code 4 = .ok (.iload_n 1, 1) by decide +kernel) rfl l1 ?_
  refine lv_iload_n X.1.1 X.1.2.1 (show decode method_13_code 5 = .ok (.iload_n 2, 1) by decide +kernel) rfl l2 ?_
  refine lv_iload_n X.1.1 X.1.2.1 (show decode method_13_code 6 = .ok (.iload_n 3, 1) by decide +kernel) rfl l3 ?_
  have hTM : TM 121 ≤ 40 := by decide +kernel
  have hr := wr_ex (l := l) (e := e) (below := below) (k := 121) (n := 3) (f := 1) (index := 50) (pc := 7) (st := 0) (en := 12) (hp := 15) (hp2 := 17) (i := 5) (jn := 1) (v := 1) (ps := [.int p0, .int p1, .int p2]) (R := wr_rmx 121 σ σ2) (cells := 0) (slots := 0) (Qc := Qc) X hl (by decide) (by decide +kernel) ⟨by decide, by decide⟩ (wr_rmx_ok hTM).1.1 (wr_rmx_ok hTM).1.2
    (show Cond.methodLink "LilyWheelsLaw" 50 (TN 121) ∈ ri_LW from List.mem_filter.mpr ⟨by decide +kernel, by decide +kernel⟩) (show Cond.instanceMethod (TN 121) ∈ ri_LW from List.mem_filter.mpr ⟨by decide +kernel, by decide +kernel⟩) (show Cond.selects (TN 121).cls (TN 121) (TN 121) ∈ ri_LW from List.mem_filter.mpr ⟨by decide +kernel, by decide +kernel⟩) (show Cond.initialized (TN 121).cls ∈ ri_LW from List.mem_filter.mpr ⟨by decide +kernel, by decide +kernel⟩) (show Cond.code (TN 121) (TB 121) (TM 121) (TR 121) ∈ ri_LW from List.mem_filter.mpr ⟨by decide +kernel, by decide +kernel⟩) ⟨⟨by decide +kernel, by decide +kernel⟩, by decide +kernel⟩ (show decode method_13_code 7 = .ok (.invokevirtual 50, 3) by decide +kernel)
    h rfl hrcv rfl hsz hwf hI ho ho2 hout (wr_rmx_ok hTM).2.1 (wr_rmx_ok hTM).2.2 htab [] [(0, 12, 19, 13)] rfl (fun z hz => nomatch hz) (by decide +kernel) (Or.inr ⟨by decide +kernel, rfl⟩) (by decide) (show decode method_13_code 17 = .ok (.iconst 1, 1) by decide +kernel) rfl (show decode method_13_code 18 = .ok (.ireturn, 1) by decide +kernel) (fun t locs2 h1 h2 h3 => hfin t locs2 _ _ h1 h2 ⟨rfl, h3, rfl⟩)
  rw [Nat.zero_add, Nat.zero_add] at hr
  exact hr
theorem wn_flies_2 {p0 : Int32} {p1 : Int32} {p2 : Int32} (hl : l.stackTraces = false) (h : ev3 Ks 121 (0, ri_ent (TM 121) [.ref C, .int p0, .int p1, .int p2], []) σ = some (some (.int (Int32.ofNat 2)), σ2)) (hrcv : ri_rcv (some 8) [.ref C, .int p0, .int p1, .int p2] σ = true) (ho : σ.1 o = none) (ho2 : o < σ.2) : Met l (⟨"LilyWheelsLaw", "flies", "(LLilyWheels;III[J)I"⟩ : MethodName) (Cond.codeWith (⟨"LilyWheelsLaw", "flies", "(LLilyWheels;III[J)I"⟩ : MethodName) method_13_code 6 (some .int) [(0, 12, 15, 28), (0, 12, 19, 13)] :: ri_LW) (wr_rmx 121 σ σ2) (wq_Pc Ks Kv Km D dT dL [.ref C, .int p0, .int p1, .int p2, .ref o] σ o g) (wq_Qc D dT dL σ o 2 (fun σ3 g3 => σ3.1 = σ2.1 ∧ σ2.2 ≤ σ3.2 ∧ g3 = g)) (σ2.2 - σ.2 + 1) (2000 * (σ2.2 - σ.2) + 6) (wr_A σ o) := by
  refine wq_of rfl (Nat.le_succ _) ?_
  intro p e s m args below meth c Qc X htab hI hout ls hsz hwf hls hfin
  have l0 : ls[0]? = some (.val (.ref C)) := hls (0, _) (by simp [lv_args, Value.category])
  have l1 : ls[1]? = some (.val (.int p0)) := hls (1, _) (by simp [lv_args, Value.category])
  have l2 : ls[2]? = some (.val (.int p1)) := hls (2, _) (by simp [lv_args, Value.category])
  have l3 : ls[3]? = some (.val (.int p2)) := hls (3, _) (by simp [lv_args, Value.category])
  have l4 : ls[4]? = some (.val (.ref o)) := hls (4, _) (by simp [lv_args, Value.category])
  refine lv_aload X.1.1 X.1.2.1 (show decode method_13_code 0 = .ok (.aload 4, 2) by decide +kernel) l4 ?_
  refine lv_iconst X.1.1 X.1.2.1 (show decode method_13_code 2 = .ok (.iconst 0, 1) by decide +kernel) (v := 0) rfl ?_
  refine lv_aload_n X.1.1 X.1.2.1 (show decode method_13_code 3 = .ok (.aload_n 0, 1) by decide +kernel) rfl l0 ?_
  refine lv_iload_n X.1.1 X.1.2.1 (show decode method_13_code 4 = .ok (.iload_n 1, 1) by decide +kernel) rfl l1 ?_
  refine lv_iload_n X.1.1 X.1.2.1 (show decode method_13_code 5 = .ok (.iload_n 2, 1) by decide +kernel) rfl l2 ?_
  refine lv_iload_n X.1.1 X.1.2.1 (show decode method_13_code 6 = .ok (.iload_n 3, 1) by decide +kernel) rfl l3 ?_
  have hTM : TM 121 ≤ 40 := by decide +kernel
  have hr := wr_ex (l := l) (e := e) (below := below) (k := 121) (n := 3) (f := 2) (index := 50) (pc := 7) (st := 0) (en := 12) (hp := 19) (hp2 := 21) (i := 5) (jn := 2) (v := 2) (ps := [.int p0, .int p1, .int p2]) (R := wr_rmx 121 σ σ2) (cells := 0) (slots := 0) (Qc := Qc) X hl (by decide) (by decide +kernel) ⟨by decide, by decide⟩ (wr_rmx_ok hTM).1.1 (wr_rmx_ok hTM).1.2
    (show Cond.methodLink "LilyWheelsLaw" 50 (TN 121) ∈ ri_LW from List.mem_filter.mpr ⟨by decide +kernel, by decide +kernel⟩) (show Cond.instanceMethod (TN 121) ∈ ri_LW from List.mem_filter.mpr ⟨by decide +kernel, by decide +kernel⟩) (show Cond.selects (TN 121).cls (TN 121) (TN 121) ∈ ri_LW from List.mem_filter.mpr ⟨by decide +kernel, by decide +kernel⟩) (show Cond.initialized (TN 121).cls ∈ ri_LW from List.mem_filter.mpr ⟨by decide +kernel, by decide +kernel⟩) (show Cond.code (TN 121) (TB 121) (TM 121) (TR 121) ∈ ri_LW from List.mem_filter.mpr ⟨by decide +kernel, by decide +kernel⟩) ⟨⟨by decide +kernel, by decide +kernel⟩, by decide +kernel⟩ (show decode method_13_code 7 = .ok (.invokevirtual 50, 3) by decide +kernel)
    h rfl hrcv rfl hsz hwf hI ho ho2 hout (wr_rmx_ok hTM).2.1 (wr_rmx_ok hTM).2.2 htab [(0, 12, 15, 28)] [] rfl (fun z hz => by simp only [List.mem_cons, List.not_mem_nil, or_false] at hz; rcases hz with rfl; exact ⟨1, ⟨by omega, by omega⟩, by decide, rfl⟩) (by decide +kernel) (Or.inr ⟨by decide +kernel, rfl⟩) (by decide) (show decode method_13_code 21 = .ok (.iconst 2, 1) by decide +kernel) rfl (show decode method_13_code 22 = .ok (.ireturn, 1) by decide +kernel) (fun t locs2 h1 h2 h3 => hfin t locs2 _ _ h1 h2 ⟨rfl, h3, rfl⟩)
  rw [Nat.zero_add, Nat.zero_add] at hr
  exact hr
theorem wn_leap_1 {p0 : Int32} {p1 : Int32} (hl : l.stackTraces = false) (h : ev3 Ks 122 (0, ri_ent (TM 122) [.ref C, .int p0, .int p1], []) σ = some (some (.int (Int32.ofNat 1)), σ2)) (hrcv : ri_rcv (some 8) [.ref C, .int p0, .int p1] σ = true) (ho : σ.1 o = none) (ho2 : o < σ.2) : Met l (⟨"LilyWheelsLaw", "leap", "(LLilyWheels;II[J)I"⟩ : MethodName) (Cond.codeWith (⟨"LilyWheelsLaw", "leap", "(LLilyWheels;II[J)I"⟩ : MethodName) method_14_code 5 (some .int) [(0, 10, 13, 28)] :: ri_LW) (wr_rmx 122 σ σ2) (wq_Pc Ks Kv Km D dT dL [.ref C, .int p0, .int p1, .ref o] σ o g) (wq_Qc D dT dL σ o 1 (fun σ3 g3 => σ3.1 = σ2.1 ∧ σ2.2 ≤ σ3.2 ∧ g3 = g)) (σ2.2 - σ.2 + 1) (2000 * (σ2.2 - σ.2) + 6) (wr_A σ o) := by
  refine wq_of rfl (Nat.le_succ _) ?_
  intro p e s m args below meth c Qc X htab hI hout ls hsz hwf hls hfin
  have l0 : ls[0]? = some (.val (.ref C)) := hls (0, _) (by simp [lv_args, Value.category])
  have l1 : ls[1]? = some (.val (.int p0)) := hls (1, _) (by simp [lv_args, Value.category])
  have l2 : ls[2]? = some (.val (.int p1)) := hls (2, _) (by simp [lv_args, Value.category])
  have l3 : ls[3]? = some (.val (.ref o)) := hls (3, _) (by simp [lv_args, Value.category])
  refine lv_aload_n X.1.1 X.1.2.1 (show decode method_14_code 0 = .ok (.aload_n 3, 1) by decide +kernel) rfl l3 ?_
  refine lv_iconst X.1.1 X.1.2.1 (show decode method_14_code 1 = .ok (.iconst 0, 1) by decide +kernel) (v := 0) rfl ?_
  refine lv_aload_n X.1.1 X.1.2.1 (show decode method_14_code 2 = .ok (.aload_n 0, 1) by decide +kernel) rfl l0 ?_
  refine lv_iload_n X.1.1 X.1.2.1 (show decode method_14_code 3 = .ok (.iload_n 1, 1) by decide +kernel) rfl l1 ?_
  refine lv_iload_n X.1.1 X.1.2.1 (show decode method_14_code 4 = .ok (.iload_n 2, 1) by decide +kernel) rfl l2 ?_
  have hTM : TM 122 ≤ 40 := by decide +kernel
  have hr := wr_ex (l := l) (e := e) (below := below) (k := 122) (n := 2) (f := 1) (index := 53) (pc := 5) (st := 0) (en := 10) (hp := 13) (hp2 := 15) (i := 4) (jn := 1) (v := 1) (ps := [.int p0, .int p1]) (R := wr_rmx 122 σ σ2) (cells := 0) (slots := 0) (Qc := Qc) X hl (by decide) (by decide +kernel) ⟨by decide, by decide⟩ (wr_rmx_ok hTM).1.1 (wr_rmx_ok hTM).1.2
    (show Cond.methodLink "LilyWheelsLaw" 53 (TN 122) ∈ ri_LW from List.mem_filter.mpr ⟨by decide +kernel, by decide +kernel⟩) (show Cond.instanceMethod (TN 122) ∈ ri_LW from List.mem_filter.mpr ⟨by decide +kernel, by decide +kernel⟩) (show Cond.selects (TN 122).cls (TN 122) (TN 122) ∈ ri_LW from List.mem_filter.mpr ⟨by decide +kernel, by decide +kernel⟩) (show Cond.initialized (TN 122).cls ∈ ri_LW from List.mem_filter.mpr ⟨by decide +kernel, by decide +kernel⟩) (show Cond.code (TN 122) (TB 122) (TM 122) (TR 122) ∈ ri_LW from List.mem_filter.mpr ⟨by decide +kernel, by decide +kernel⟩) ⟨⟨by decide +kernel, by decide +kernel⟩, by decide +kernel⟩ (show decode method_14_code 5 = .ok (.invokevirtual 53, 3) by decide +kernel)
    h rfl hrcv rfl hsz hwf hI ho ho2 hout (wr_rmx_ok hTM).2.1 (wr_rmx_ok hTM).2.2 htab [] [] rfl (fun z hz => nomatch hz) (by decide +kernel) (Or.inr ⟨by decide +kernel, rfl⟩) (by decide) (show decode method_14_code 15 = .ok (.iconst 1, 1) by decide +kernel) rfl (show decode method_14_code 16 = .ok (.ireturn, 1) by decide +kernel) (fun t locs2 h1 h2 h3 => hfin t locs2 _ _ h1 h2 ⟨rfl, h3, rfl⟩)
  rw [Nat.zero_add, Nat.zero_add] at hr
  exact hr
theorem wn_hop_1 {p0 : Int32} {p1 : Int32} (hl : l.stackTraces = false) (h : ev3 Ks 123 (0, ri_ent (TM 123) [.ref C, .int p0, .int p1], []) σ = some (some (.int (Int32.ofNat 1)), σ2)) (hrcv : ri_rcv (some 8) [.ref C, .int p0, .int p1] σ = true) (ho : σ.1 o = none) (ho2 : o < σ.2) : Met l (⟨"LilyWheelsLaw", "hop", "(LLilyWheels;II[J)I"⟩ : MethodName) (Cond.codeWith (⟨"LilyWheelsLaw", "hop", "(LLilyWheels;II[J)I"⟩ : MethodName) method_15_code 5 (some .int) [(0, 10, 13, 28), (0, 10, 17, 13)] :: ri_LW) (wr_rmx 123 σ σ2) (wq_Pc Ks Kv Km D dT dL [.ref C, .int p0, .int p1, .ref o] σ o g) (wq_Qc D dT dL σ o 1 (fun σ3 g3 => σ3.1 = σ2.1 ∧ σ2.2 ≤ σ3.2 ∧ g3 = g)) (σ2.2 - σ.2 + 1) (2000 * (σ2.2 - σ.2) + 6) (wr_A σ o) := by
  refine wq_of rfl (Nat.le_succ _) ?_
  intro p e s m args below meth c Qc X htab hI hout ls hsz hwf hls hfin
  have l0 : ls[0]? = some (.val (.ref C)) := hls (0, _) (by simp [lv_args, Value.category])
  have l1 : ls[1]? = some (.val (.int p0)) := hls (1, _) (by simp [lv_args, Value.category])
  have l2 : ls[2]? = some (.val (.int p1)) := hls (2, _) (by simp [lv_args, Value.category])
  have l3 : ls[3]? = some (.val (.ref o)) := hls (3, _) (by simp [lv_args, Value.category])
  refine lv_aload_n X.1.1 X.1.2.1 (show decode method_15_code 0 = .ok (.aload_n 3, 1) by decide +kernel) rfl l3 ?_
  refine lv_iconst X.1.1 X.1.2.1 (show decode method_15_code 1 = .ok (.iconst 0, 1) by decide +kernel) (v := 0) rfl ?_
  refine lv_aload_n X.1.1 X.1.2.1 (show decode method_15_code 2 = .ok (.aload_n 0, 1) by decide +kernel) rfl l0 ?_
  refine lv_iload_n X.1.1 X.1.2.1 (show decode method_15_code 3 = .ok (.iload_n 1, 1) by decide +kernel) rfl l1 ?_
  refine lv_iload_n X.1.1 X.1.2.1 (show decode method_15_code 4 = .ok (.iload_n 2, 1) by decide +kernel) rfl l2 ?_
  have hTM : TM 123 ≤ 40 := by decide +kernel
  have hr := wr_ex (l := l) (e := e) (below := below) (k := 123) (n := 2) (f := 1) (index := 56) (pc := 5) (st := 0) (en := 10) (hp := 13) (hp2 := 15) (i := 4) (jn := 1) (v := 1) (ps := [.int p0, .int p1]) (R := wr_rmx 123 σ σ2) (cells := 0) (slots := 0) (Qc := Qc) X hl (by decide) (by decide +kernel) ⟨by decide, by decide⟩ (wr_rmx_ok hTM).1.1 (wr_rmx_ok hTM).1.2
    (show Cond.methodLink "LilyWheelsLaw" 56 (TN 123) ∈ ri_LW from List.mem_filter.mpr ⟨by decide +kernel, by decide +kernel⟩) (show Cond.instanceMethod (TN 123) ∈ ri_LW from List.mem_filter.mpr ⟨by decide +kernel, by decide +kernel⟩) (show Cond.selects (TN 123).cls (TN 123) (TN 123) ∈ ri_LW from List.mem_filter.mpr ⟨by decide +kernel, by decide +kernel⟩) (show Cond.initialized (TN 123).cls ∈ ri_LW from List.mem_filter.mpr ⟨by decide +kernel, by decide +kernel⟩) (show Cond.code (TN 123) (TB 123) (TM 123) (TR 123) ∈ ri_LW from List.mem_filter.mpr ⟨by decide +kernel, by decide +kernel⟩) ⟨⟨by decide +kernel, by decide +kernel⟩, by decide +kernel⟩ (show decode method_15_code 5 = .ok (.invokevirtual 56, 3) by decide +kernel)
    h rfl hrcv rfl hsz hwf hI ho ho2 hout (wr_rmx_ok hTM).2.1 (wr_rmx_ok hTM).2.2 htab [] [(0, 10, 17, 13)] rfl (fun z hz => nomatch hz) (by decide +kernel) (Or.inr ⟨by decide +kernel, rfl⟩) (by decide) (show decode method_15_code 15 = .ok (.iconst 1, 1) by decide +kernel) rfl (show decode method_15_code 16 = .ok (.ireturn, 1) by decide +kernel) (fun t locs2 h1 h2 h3 => hfin t locs2 _ _ h1 h2 ⟨rfl, h3, rfl⟩)
  rw [Nat.zero_add, Nat.zero_add] at hr
  exact hr
theorem wn_hop_2 {p0 : Int32} {p1 : Int32} (hl : l.stackTraces = false) (h : ev3 Ks 123 (0, ri_ent (TM 123) [.ref C, .int p0, .int p1], []) σ = some (some (.int (Int32.ofNat 2)), σ2)) (hrcv : ri_rcv (some 8) [.ref C, .int p0, .int p1] σ = true) (ho : σ.1 o = none) (ho2 : o < σ.2) : Met l (⟨"LilyWheelsLaw", "hop", "(LLilyWheels;II[J)I"⟩ : MethodName) (Cond.codeWith (⟨"LilyWheelsLaw", "hop", "(LLilyWheels;II[J)I"⟩ : MethodName) method_15_code 5 (some .int) [(0, 10, 13, 28), (0, 10, 17, 13)] :: ri_LW) (wr_rmx 123 σ σ2) (wq_Pc Ks Kv Km D dT dL [.ref C, .int p0, .int p1, .ref o] σ o g) (wq_Qc D dT dL σ o 2 (fun σ3 g3 => σ3.1 = σ2.1 ∧ σ2.2 ≤ σ3.2 ∧ g3 = g)) (σ2.2 - σ.2 + 1) (2000 * (σ2.2 - σ.2) + 6) (wr_A σ o) := by
  refine wq_of rfl (Nat.le_succ _) ?_
  intro p e s m args below meth c Qc X htab hI hout ls hsz hwf hls hfin
  have l0 : ls[0]? = some (.val (.ref C)) := hls (0, _) (by simp [lv_args, Value.category])
  have l1 : ls[1]? = some (.val (.int p0)) := hls (1, _) (by simp [lv_args, Value.category])
  have l2 : ls[2]? = some (.val (.int p1)) := hls (2, _) (by simp [lv_args, Value.category])
  have l3 : ls[3]? = some (.val (.ref o)) := hls (3, _) (by simp [lv_args, Value.category])
  refine lv_aload_n X.1.1 X.1.2.1 (show decode method_15_code 0 = .ok (.aload_n 3, 1) by decide +kernel) rfl l3 ?_
  refine lv_iconst X.1.1 X.1.2.1 (show decode method_15_code 1 = .ok (.iconst 0, 1) by decide +kernel) (v := 0) rfl ?_
  refine lv_aload_n X.1.1 X.1.2.1 (show decode method_15_code 2 = .ok (.aload_n 0, 1) by decide +kernel) rfl l0 ?_
  refine lv_iload_n X.1.1 X.1.2.1 (show decode method_15_code 3 = .ok (.iload_n 1, 1) by decide +kernel) rfl l1 ?_
  refine lv_iload_n X.1.1 X.1.2.1 (show decode method_15_code 4 = .ok (.iload_n 2, 1) by decide +kernel) rfl l2 ?_
  have hTM : TM 123 ≤ 40 := by decide +kernel
  have hr := wr_ex (l := l) (e := e) (below := below) (k := 123) (n := 2) (f := 2) (index := 56) (pc := 5) (st := 0) (en := 10) (hp := 17) (hp2 := 19) (i := 4) (jn := 2) (v := 2) (ps := [.int p0, .int p1]) (R := wr_rmx 123 σ σ2) (cells := 0) (slots := 0) (Qc := Qc) X hl (by decide) (by decide +kernel) ⟨by decide, by decide⟩ (wr_rmx_ok hTM).1.1 (wr_rmx_ok hTM).1.2
    (show Cond.methodLink "LilyWheelsLaw" 56 (TN 123) ∈ ri_LW from List.mem_filter.mpr ⟨by decide +kernel, by decide +kernel⟩) (show Cond.instanceMethod (TN 123) ∈ ri_LW from List.mem_filter.mpr ⟨by decide +kernel, by decide +kernel⟩) (show Cond.selects (TN 123).cls (TN 123) (TN 123) ∈ ri_LW from List.mem_filter.mpr ⟨by decide +kernel, by decide +kernel⟩) (show Cond.initialized (TN 123).cls ∈ ri_LW from List.mem_filter.mpr ⟨by decide +kernel, by decide +kernel⟩) (show Cond.code (TN 123) (TB 123) (TM 123) (TR 123) ∈ ri_LW from List.mem_filter.mpr ⟨by decide +kernel, by decide +kernel⟩) ⟨⟨by decide +kernel, by decide +kernel⟩, by decide +kernel⟩ (show decode method_15_code 5 = .ok (.invokevirtual 56, 3) by decide +kernel)
    h rfl hrcv rfl hsz hwf hI ho ho2 hout (wr_rmx_ok hTM).2.1 (wr_rmx_ok hTM).2.2 htab [(0, 10, 13, 28)] [] rfl (fun z hz => by simp only [List.mem_cons, List.not_mem_nil, or_false] at hz; rcases hz with rfl; exact ⟨1, ⟨by omega, by omega⟩, by decide, rfl⟩) (by decide +kernel) (Or.inr ⟨by decide +kernel, rfl⟩) (by decide) (show decode method_15_code 19 = .ok (.iconst 2, 1) by decide +kernel) rfl (show decode method_15_code 20 = .ok (.ireturn, 1) by decide +kernel) (fun t locs2 h1 h2 h3 => hfin t locs2 _ _ h1 h2 ⟨rfl, h3, rfl⟩)
  rw [Nat.zero_add, Nat.zero_add] at hr
  exact hr
theorem wn_turn_1 {p0 : Int32} {p1 : Int32} (hl : l.stackTraces = false) (h : ev3 Ks 124 (0, ri_ent (TM 124) [.ref C, .int p0, .int p1], []) σ = some (some (.int (Int32.ofNat 1)), σ2)) (hrcv : ri_rcv (some 8) [.ref C, .int p0, .int p1] σ = true) (ho : σ.1 o = none) (ho2 : o < σ.2) : Met l (⟨"LilyWheelsLaw", "turn", "(LLilyWheels;II[J)I"⟩ : MethodName) (Cond.codeWith (⟨"LilyWheelsLaw", "turn", "(LLilyWheels;II[J)I"⟩ : MethodName) method_16_code 5 (some .int) [(0, 10, 13, 28), (0, 10, 17, 13)] :: ri_LW) (wr_rmx 124 σ σ2) (wq_Pc Ks Kv Km D dT dL [.ref C, .int p0, .int p1, .ref o] σ o g) (wq_Qc D dT dL σ o 1 (fun σ3 g3 => σ3.1 = σ2.1 ∧ σ2.2 ≤ σ3.2 ∧ g3 = g)) (σ2.2 - σ.2 + 1) (2000 * (σ2.2 - σ.2) + 6) (wr_A σ o) := by
  refine wq_of rfl (Nat.le_succ _) ?_
  intro p e s m args below meth c Qc X htab hI hout ls hsz hwf hls hfin
  have l0 : ls[0]? = some (.val (.ref C)) := hls (0, _) (by simp [lv_args, Value.category])
  have l1 : ls[1]? = some (.val (.int p0)) := hls (1, _) (by simp [lv_args, Value.category])
  have l2 : ls[2]? = some (.val (.int p1)) := hls (2, _) (by simp [lv_args, Value.category])
  have l3 : ls[3]? = some (.val (.ref o)) := hls (3, _) (by simp [lv_args, Value.category])
  refine lv_aload_n X.1.1 X.1.2.1 (show decode method_16_code 0 = .ok (.aload_n 3, 1) by decide +kernel) rfl l3 ?_
  refine lv_iconst X.1.1 X.1.2.1 (show decode method_16_code 1 = .ok (.iconst 0, 1) by decide +kernel) (v := 0) rfl ?_
  refine lv_aload_n X.1.1 X.1.2.1 (show decode method_16_code 2 = .ok (.aload_n 0, 1) by decide +kernel) rfl l0 ?_
  refine lv_iload_n X.1.1 X.1.2.1 (show decode method_16_code 3 = .ok (.iload_n 1, 1) by decide +kernel) rfl l1 ?_
  refine lv_iload_n X.1.1 X.1.2.1 (show decode method_16_code 4 = .ok (.iload_n 2, 1) by decide +kernel) rfl l2 ?_
  have hTM : TM 124 ≤ 40 := by decide +kernel
  have hr := wr_ex (l := l) (e := e) (below := below) (k := 124) (n := 2) (f := 1) (index := 59) (pc := 5) (st := 0) (en := 10) (hp := 13) (hp2 := 15) (i := 4) (jn := 1) (v := 1) (ps := [.int p0, .int p1]) (R := wr_rmx 124 σ σ2) (cells := 0) (slots := 0) (Qc := Qc) X hl (by decide) (by decide +kernel) ⟨by decide, by decide⟩ (wr_rmx_ok hTM).1.1 (wr_rmx_ok hTM).1.2
    (show Cond.methodLink "LilyWheelsLaw" 59 (TN 124) ∈ ri_LW from List.mem_filter.mpr ⟨by decide +kernel, by decide +kernel⟩) (show Cond.instanceMethod (TN 124) ∈ ri_LW from List.mem_filter.mpr ⟨by decide +kernel, by decide +kernel⟩) (show Cond.selects (TN 124).cls (TN 124) (TN 124) ∈ ri_LW from List.mem_filter.mpr ⟨by decide +kernel, by decide +kernel⟩) (show Cond.initialized (TN 124).cls ∈ ri_LW from List.mem_filter.mpr ⟨by decide +kernel, by decide +kernel⟩) (show Cond.code (TN 124) (TB 124) (TM 124) (TR 124) ∈ ri_LW from List.mem_filter.mpr ⟨by decide +kernel, by decide +kernel⟩) ⟨⟨by decide +kernel, by decide +kernel⟩, by decide +kernel⟩ (show decode method_16_code 5 = .ok (.invokevirtual 59, 3) by decide +kernel)
    h rfl hrcv rfl hsz hwf hI ho ho2 hout (wr_rmx_ok hTM).2.1 (wr_rmx_ok hTM).2.2 htab [] [(0, 10, 17, 13)] rfl (fun z hz => nomatch hz) (by decide +kernel) (Or.inr ⟨by decide +kernel, rfl⟩) (by decide) (show decode method_16_code 15 = .ok (.iconst 1, 1) by decide +kernel) rfl (show decode method_16_code 16 = .ok (.ireturn, 1) by decide +kernel) (fun t locs2 h1 h2 h3 => hfin t locs2 _ _ h1 h2 ⟨rfl, h3, rfl⟩)
  rw [Nat.zero_add, Nat.zero_add] at hr
  exact hr
theorem wn_turn_2 {p0 : Int32} {p1 : Int32} (hl : l.stackTraces = false) (h : ev3 Ks 124 (0, ri_ent (TM 124) [.ref C, .int p0, .int p1], []) σ = some (some (.int (Int32.ofNat 2)), σ2)) (hrcv : ri_rcv (some 8) [.ref C, .int p0, .int p1] σ = true) (ho : σ.1 o = none) (ho2 : o < σ.2) : Met l (⟨"LilyWheelsLaw", "turn", "(LLilyWheels;II[J)I"⟩ : MethodName) (Cond.codeWith (⟨"LilyWheelsLaw", "turn", "(LLilyWheels;II[J)I"⟩ : MethodName) method_16_code 5 (some .int) [(0, 10, 13, 28), (0, 10, 17, 13)] :: ri_LW) (wr_rmx 124 σ σ2) (wq_Pc Ks Kv Km D dT dL [.ref C, .int p0, .int p1, .ref o] σ o g) (wq_Qc D dT dL σ o 2 (fun σ3 g3 => σ3.1 = σ2.1 ∧ σ2.2 ≤ σ3.2 ∧ g3 = g)) (σ2.2 - σ.2 + 1) (2000 * (σ2.2 - σ.2) + 6) (wr_A σ o) := by
  refine wq_of rfl (Nat.le_succ _) ?_
  intro p e s m args below meth c Qc X htab hI hout ls hsz hwf hls hfin
  have l0 : ls[0]? = some (.val (.ref C)) := hls (0, _) (by simp [lv_args, Value.category])
  have l1 : ls[1]? = some (.val (.int p0)) := hls (1, _) (by simp [lv_args, Value.category])
  have l2 : ls[2]? = some (.val (.int p1)) := hls (2, _) (by simp [lv_args, Value.category])
  have l3 : ls[3]? = some (.val (.ref o)) := hls (3, _) (by simp [lv_args, Value.category])
  refine lv_aload_n X.1.1 X.1.2.1 (show decode method_16_code 0 = .ok (.aload_n 3, 1) by decide +kernel) rfl l3 ?_
  refine lv_iconst X.1.1 X.1.2.1 (show decode method_16_code 1 = .ok (.iconst 0, 1) by decide +kernel) (v := 0) rfl ?_
  refine lv_aload_n X.1.1 X.1.2.1 (show decode method_16_code 2 = .ok (.aload_n 0, 1) by decide +kernel) rfl l0 ?_
  refine lv_iload_n X.1.1 X.1.2.1 (show decode method_16_code 3 = .ok (.iload_n 1, 1) by decide +kernel) rfl l1 ?_
  refine lv_iload_n X.1.1 X.1.2.1 (show decode method_16_code 4 = .ok (.iload_n 2, 1) by decide +kernel) rfl l2 ?_
  have hTM : TM 124 ≤ 40 := by decide +kernel
  have hr := wr_ex (l := l) (e := e) (below := below) (k := 124) (n := 2) (f := 2) (index := 59) (pc := 5) (st := 0) (en := 10) (hp := 17) (hp2 := 19) (i := 4) (jn := 2) (v := 2) (ps := [.int p0, .int p1]) (R := wr_rmx 124 σ σ2) (cells := 0) (slots := 0) (Qc := Qc) X hl (by decide) (by decide +kernel) ⟨by decide, by decide⟩ (wr_rmx_ok hTM).1.1 (wr_rmx_ok hTM).1.2
    (show Cond.methodLink "LilyWheelsLaw" 59 (TN 124) ∈ ri_LW from List.mem_filter.mpr ⟨by decide +kernel, by decide +kernel⟩) (show Cond.instanceMethod (TN 124) ∈ ri_LW from List.mem_filter.mpr ⟨by decide +kernel, by decide +kernel⟩) (show Cond.selects (TN 124).cls (TN 124) (TN 124) ∈ ri_LW from List.mem_filter.mpr ⟨by decide +kernel, by decide +kernel⟩) (show Cond.initialized (TN 124).cls ∈ ri_LW from List.mem_filter.mpr ⟨by decide +kernel, by decide +kernel⟩) (show Cond.code (TN 124) (TB 124) (TM 124) (TR 124) ∈ ri_LW from List.mem_filter.mpr ⟨by decide +kernel, by decide +kernel⟩) ⟨⟨by decide +kernel, by decide +kernel⟩, by decide +kernel⟩ (show decode method_16_code 5 = .ok (.invokevirtual 59, 3) by decide +kernel)
    h rfl hrcv rfl hsz hwf hI ho ho2 hout (wr_rmx_ok hTM).2.1 (wr_rmx_ok hTM).2.2 htab [(0, 10, 13, 28)] [] rfl (fun z hz => by simp only [List.mem_cons, List.not_mem_nil, or_false] at hz; rcases hz with rfl; exact ⟨1, ⟨by omega, by omega⟩, by decide, rfl⟩) (by decide +kernel) (Or.inr ⟨by decide +kernel, rfl⟩) (by decide) (show decode method_16_code 19 = .ok (.iconst 2, 1) by decide +kernel) rfl (show decode method_16_code 20 = .ok (.ireturn, 1) by decide +kernel) (fun t locs2 h1 h2 h3 => hfin t locs2 _ _ h1 h2 ⟨rfl, h3, rfl⟩)
  rw [Nat.zero_add, Nat.zero_add] at hr
  exact hr
theorem wn_set_2 {p0 : Int32} (hl : l.stackTraces = false) (h : ev3 Ks 125 (0, ri_ent (TM 125) [.ref C, .int p0], []) σ = some (some (.int (Int32.ofNat 2)), σ2)) (hrcv : ri_rcv (some 8) [.ref C, .int p0] σ = true) (ho : σ.1 o = none) (ho2 : o < σ.2) : Met l (⟨"LilyWheelsLaw", "set", "(LLilyWheels;I[J)I"⟩ : MethodName) (Cond.codeWith (⟨"LilyWheelsLaw", "set", "(LLilyWheels;I[J)I"⟩ : MethodName) method_17_code 4 (some .int) [(0, 9, 12, 13)] :: ri_LW) (wr_rmx 125 σ σ2) (wq_Pc Ks Kv Km D dT dL [.ref C, .int p0, .ref o] σ o g) (wq_Qc D dT dL σ o 1 (fun σ3 g3 => σ3.1 = σ2.1 ∧ σ2.2 ≤ σ3.2 ∧ g3 = g)) (σ2.2 - σ.2 + 1) (2000 * (σ2.2 - σ.2) + 6) (wr_A σ o) := by
  refine wq_of rfl (Nat.le_succ _) ?_
  intro p e s m args below meth c Qc X htab hI hout ls hsz hwf hls hfin
  have l0 : ls[0]? = some (.val (.ref C)) := hls (0, _) (by simp [lv_args, Value.category])
  have l1 : ls[1]? = some (.val (.int p0)) := hls (1, _) (by simp [lv_args, Value.category])
  have l2 : ls[2]? = some (.val (.ref o)) := hls (2, _) (by simp [lv_args, Value.category])
  refine lv_aload_n X.1.1 X.1.2.1 (show decode method_17_code 0 = .ok (.aload_n 2, 1) by decide +kernel) rfl l2 ?_
  refine lv_iconst X.1.1 X.1.2.1 (show decode method_17_code 1 = .ok (.iconst 0, 1) by decide +kernel) (v := 0) rfl ?_
  refine lv_aload_n X.1.1 X.1.2.1 (show decode method_17_code 2 = .ok (.aload_n 0, 1) by decide +kernel) rfl l0 ?_
  refine lv_iload_n X.1.1 X.1.2.1 (show decode method_17_code 3 = .ok (.iload_n 1, 1) by decide +kernel) rfl l1 ?_
  have hTM : TM 125 ≤ 40 := by decide +kernel
  have hr := wr_ex (l := l) (e := e) (below := below) (k := 125) (n := 1) (f := 2) (index := 62) (pc := 4) (st := 0) (en := 9) (hp := 12) (hp2 := 13) (i := 3) (jn := 1) (v := 1) (ps := [.int p0]) (R := wr_rmx 125 σ σ2) (cells := 0) (slots := 0) (Qc := Qc) X hl (by decide) (by decide +kernel) ⟨by decide, by decide⟩ (wr_rmx_ok hTM).1.1 (wr_rmx_ok hTM).1.2
    (show Cond.methodLink "LilyWheelsLaw" 62 (TN 125) ∈ ri_LW from List.mem_filter.mpr ⟨by decide +kernel, by decide +kernel⟩) (show Cond.instanceMethod (TN 125) ∈ ri_LW from List.mem_filter.mpr ⟨by decide +kernel, by decide +kernel⟩) (show Cond.selects (TN 125).cls (TN 125) (TN 125) ∈ ri_LW from List.mem_filter.mpr ⟨by decide +kernel, by decide +kernel⟩) (show Cond.initialized (TN 125).cls ∈ ri_LW from List.mem_filter.mpr ⟨by decide +kernel, by decide +kernel⟩) (show Cond.code (TN 125) (TB 125) (TM 125) (TR 125) ∈ ri_LW from List.mem_filter.mpr ⟨by decide +kernel, by decide +kernel⟩) ⟨⟨by decide +kernel, by decide +kernel⟩, by decide +kernel⟩ (show decode method_17_code 4 = .ok (.invokevirtual 62, 3) by decide +kernel)
    h rfl hrcv rfl hsz hwf hI ho ho2 hout (wr_rmx_ok hTM).2.1 (wr_rmx_ok hTM).2.2 htab [] [] rfl (fun z hz => nomatch hz) (by decide +kernel) (Or.inl ⟨3, by decide +kernel, rfl, rfl⟩) (by decide) (show decode method_17_code 13 = .ok (.iconst 1, 1) by decide +kernel) rfl (show decode method_17_code 14 = .ok (.ireturn, 1) by decide +kernel) (fun t locs2 h1 h2 h3 => hfin t locs2 _ _ h1 h2 ⟨rfl, h3, rfl⟩)
  rw [Nat.zero_add, Nat.zero_add] at hr
  exact hr
theorem wn_undo_3  (hl : l.stackTraces = false) (h : ev3 Ks 126 (0, ri_ent (TM 126) [.ref C], []) σ = some (some (.int (Int32.ofNat 3)), σ2)) (hrcv : ri_rcv (some 8) [.ref C] σ = true) (ho : σ.1 o = none) (ho2 : o < σ.2) : Met l (⟨"LilyWheelsLaw", "undo", "(LLilyWheels;[J)I"⟩ : MethodName) (Cond.codeWith (⟨"LilyWheelsLaw", "undo", "(LLilyWheels;[J)I"⟩ : MethodName) method_18_code 3 (some .int) [(0, 8, 11, 15)] :: ri_LW) (wr_rmx 126 σ σ2) (wq_Pc Ks Kv Km D dT dL [.ref C, .ref o] σ o g) (wq_Qc D dT dL σ o 1 (fun σ3 g3 => σ3.1 = σ2.1 ∧ σ2.2 ≤ σ3.2 ∧ g3 = g)) (σ2.2 - σ.2 + 1) (2000 * (σ2.2 - σ.2) + 6) (wr_A σ o) := by
  refine wq_of rfl (Nat.le_succ _) ?_
  intro p e s m args below meth c Qc X htab hI hout ls hsz hwf hls hfin
  have l0 : ls[0]? = some (.val (.ref C)) := hls (0, _) (by simp [lv_args, Value.category])
  have l1 : ls[1]? = some (.val (.ref o)) := hls (1, _) (by simp [lv_args, Value.category])
  refine lv_aload_n X.1.1 X.1.2.1 (show decode method_18_code 0 = .ok (.aload_n 1, 1) by decide +kernel) rfl l1 ?_
  refine lv_iconst X.1.1 X.1.2.1 (show decode method_18_code 1 = .ok (.iconst 0, 1) by decide +kernel) (v := 0) rfl ?_
  refine lv_aload_n X.1.1 X.1.2.1 (show decode method_18_code 2 = .ok (.aload_n 0, 1) by decide +kernel) rfl l0 ?_
  have hTM : TM 126 ≤ 40 := by decide +kernel
  have hr := wr_ex (l := l) (e := e) (below := below) (k := 126) (n := 0) (f := 3) (index := 65) (pc := 3) (st := 0) (en := 8) (hp := 11) (hp2 := 12) (i := 2) (jn := 1) (v := 1) (ps := []) (R := wr_rmx 126 σ σ2) (cells := 0) (slots := 0) (Qc := Qc) X hl (by decide) (by decide +kernel) ⟨by decide, by decide⟩ (wr_rmx_ok hTM).1.1 (wr_rmx_ok hTM).1.2
    (show Cond.methodLink "LilyWheelsLaw" 65 (TN 126) ∈ ri_LW from List.mem_filter.mpr ⟨by decide +kernel, by decide +kernel⟩) (show Cond.instanceMethod (TN 126) ∈ ri_LW from List.mem_filter.mpr ⟨by decide +kernel, by decide +kernel⟩) (show Cond.selects (TN 126).cls (TN 126) (TN 126) ∈ ri_LW from List.mem_filter.mpr ⟨by decide +kernel, by decide +kernel⟩) (show Cond.initialized (TN 126).cls ∈ ri_LW from List.mem_filter.mpr ⟨by decide +kernel, by decide +kernel⟩) (show Cond.code (TN 126) (TB 126) (TM 126) (TR 126) ∈ ri_LW from List.mem_filter.mpr ⟨by decide +kernel, by decide +kernel⟩) ⟨⟨by decide +kernel, by decide +kernel⟩, by decide +kernel⟩ (show decode method_18_code 3 = .ok (.invokevirtual 65, 3) by decide +kernel)
    h rfl hrcv rfl hsz hwf hI ho ho2 hout (wr_rmx_ok hTM).2.1 (wr_rmx_ok hTM).2.2 htab [] [] rfl (fun z hz => nomatch hz) (by decide +kernel) (Or.inl ⟨2, by decide +kernel, rfl, rfl⟩) (by decide) (show decode method_18_code 12 = .ok (.iconst 1, 1) by decide +kernel) rfl (show decode method_18_code 13 = .ok (.ireturn, 1) by decide +kernel) (fun t locs2 h1 h2 h3 => hfin t locs2 _ _ h1 h2 ⟨rfl, h3, rfl⟩)
  rw [Nat.zero_add, Nat.zero_add] at hr
  exact hr
theorem wn_why_1 {p0 : Int32} {p1 : Int32} (hl : l.stackTraces = false) (h : ev3 Ks 127 (0, ri_ent (TM 127) [.ref C, .int p0, .int p1], []) σ = some (some (.int (Int32.ofNat 1)), σ2)) (hrcv : ri_rcv (some 8) [.ref C, .int p0, .int p1] σ = true) (ho : σ.1 o = none) (ho2 : o < σ.2) : Met l (⟨"LilyWheelsLaw", "why", "(LLilyWheels;II[J)I"⟩ : MethodName) (Cond.codeWith (⟨"LilyWheelsLaw", "why", "(LLilyWheels;II[J)I"⟩ : MethodName) method_19_code 5 (some .int) [(0, 10, 13, 28)] :: ri_LW) (wr_rmx 127 σ σ2) (wq_Pc Ks Kv Km D dT dL [.ref C, .int p0, .int p1, .ref o] σ o g) (wq_Qc D dT dL σ o 1 (fun σ3 g3 => σ3.1 = σ2.1 ∧ σ2.2 ≤ σ3.2 ∧ g3 = g)) (σ2.2 - σ.2 + 1) (2000 * (σ2.2 - σ.2) + 6) (wr_A σ o) := by
  refine wq_of rfl (Nat.le_succ _) ?_
  intro p e s m args below meth c Qc X htab hI hout ls hsz hwf hls hfin
  have l0 : ls[0]? = some (.val (.ref C)) := hls (0, _) (by simp [lv_args, Value.category])
  have l1 : ls[1]? = some (.val (.int p0)) := hls (1, _) (by simp [lv_args, Value.category])
  have l2 : ls[2]? = some (.val (.int p1)) := hls (2, _) (by simp [lv_args, Value.category])
  have l3 : ls[3]? = some (.val (.ref o)) := hls (3, _) (by simp [lv_args, Value.category])
  refine lv_aload_n X.1.1 X.1.2.1 (show decode method_19_code 0 = .ok (.aload_n 3, 1) by decide +kernel) rfl l3 ?_
  refine lv_iconst X.1.1 X.1.2.1 (show decode method_19_code 1 = .ok (.iconst 0, 1) by decide +kernel) (v := 0) rfl ?_
  refine lv_aload_n X.1.1 X.1.2.1 (show decode method_19_code 2 = .ok (.aload_n 0, 1) by decide +kernel) rfl l0 ?_
  refine lv_iload_n X.1.1 X.1.2.1 (show decode method_19_code 3 = .ok (.iload_n 1, 1) by decide +kernel) rfl l1 ?_
  refine lv_iload_n X.1.1 X.1.2.1 (show decode method_19_code 4 = .ok (.iload_n 2, 1) by decide +kernel) rfl l2 ?_
  have hTM : TM 127 ≤ 40 := by decide +kernel
  have hr := wr_ex (l := l) (e := e) (below := below) (k := 127) (n := 2) (f := 1) (index := 68) (pc := 5) (st := 0) (en := 10) (hp := 13) (hp2 := 15) (i := 4) (jn := 1) (v := 1) (ps := [.int p0, .int p1]) (R := wr_rmx 127 σ σ2) (cells := 0) (slots := 0) (Qc := Qc) X hl (by decide) (by decide +kernel) ⟨by decide, by decide⟩ (wr_rmx_ok hTM).1.1 (wr_rmx_ok hTM).1.2
    (show Cond.methodLink "LilyWheelsLaw" 68 (TN 127) ∈ ri_LW from List.mem_filter.mpr ⟨by decide +kernel, by decide +kernel⟩) (show Cond.instanceMethod (TN 127) ∈ ri_LW from List.mem_filter.mpr ⟨by decide +kernel, by decide +kernel⟩) (show Cond.selects (TN 127).cls (TN 127) (TN 127) ∈ ri_LW from List.mem_filter.mpr ⟨by decide +kernel, by decide +kernel⟩) (show Cond.initialized (TN 127).cls ∈ ri_LW from List.mem_filter.mpr ⟨by decide +kernel, by decide +kernel⟩) (show Cond.code (TN 127) (TB 127) (TM 127) (TR 127) ∈ ri_LW from List.mem_filter.mpr ⟨by decide +kernel, by decide +kernel⟩) ⟨⟨by decide +kernel, by decide +kernel⟩, by decide +kernel⟩ (show decode method_19_code 5 = .ok (.invokevirtual 68, 3) by decide +kernel)
    h rfl hrcv rfl hsz hwf hI ho ho2 hout (wr_rmx_ok hTM).2.1 (wr_rmx_ok hTM).2.2 htab [] [] rfl (fun z hz => nomatch hz) (by decide +kernel) (Or.inr ⟨by decide +kernel, rfl⟩) (by decide) (show decode method_19_code 15 = .ok (.iconst 1, 1) by decide +kernel) rfl (show decode method_19_code 16 = .ok (.ireturn, 1) by decide +kernel) (fun t locs2 h1 h2 h3 => hfin t locs2 _ _ h1 h2 ⟨rfl, h3, rfl⟩)
  rw [Nat.zero_add, Nat.zero_add] at hr
  exact hr
theorem wn_fewest_1 {p0 : Int32} {p1 : Int32} {p2 : Int32} {p3 : Int32} (hl : l.stackTraces = false) (h : ev3 Ks 128 (0, ri_ent (TM 128) [.ref C, .int p0, .int p1, .int p2, .int p3], []) σ = some (some (.int (Int32.ofNat 1)), σ2)) (hrcv : ri_rcv (some 8) [.ref C, .int p0, .int p1, .int p2, .int p3] σ = true) (ho : σ.1 o = none) (ho2 : o < σ.2) : Met l (⟨"LilyWheelsLaw", "fewest", "(LLilyWheels;IIII[J)I"⟩ : MethodName) (Cond.codeWith (⟨"LilyWheelsLaw", "fewest", "(LLilyWheels;IIII[J)I"⟩ : MethodName) method_20_code 7 (some .int) [(0, 14, 17, 28), (0, 14, 21, 13)] :: ri_LW) (wr_rmx 128 σ σ2) (wq_Pc Ks Kv Km D dT dL [.ref C, .int p0, .int p1, .int p2, .int p3, .ref o] σ o g) (wq_Qc D dT dL σ o 1 (fun σ3 g3 => σ3.1 = σ2.1 ∧ σ2.2 ≤ σ3.2 ∧ g3 = g)) (σ2.2 - σ.2 + 1) (2000 * (σ2.2 - σ.2) + 6) (wr_A σ o) := by
  refine wq_of rfl (Nat.le_succ _) ?_
  intro p e s m args below meth c Qc X htab hI hout ls hsz hwf hls hfin
  have l0 : ls[0]? = some (.val (.ref C)) := hls (0, _) (by simp [lv_args, Value.category])
  have l1 : ls[1]? = some (.val (.int p0)) := hls (1, _) (by simp [lv_args, Value.category])
  have l2 : ls[2]? = some (.val (.int p1)) := hls (2, _) (by simp [lv_args, Value.category])
  have l3 : ls[3]? = some (.val (.int p2)) := hls (3, _) (by simp [lv_args, Value.category])
  have l4 : ls[4]? = some (.val (.int p3)) := hls (4, _) (by simp [lv_args, Value.category])
  have l5 : ls[5]? = some (.val (.ref o)) := hls (5, _) (by simp [lv_args, Value.category])
  refine lv_aload X.1.1 X.1.2.1 (show decode method_20_code 0 = .ok (.aload 5, 2) by decide +kernel) l5 ?_
  refine lv_iconst X.1.1 X.1.2.1 (show decode method_20_code 2 = .ok (.iconst 0, 1) by decide +kernel) (v := 0) rfl ?_
  refine lv_aload_n X.1.1 X.1.2.1 (show decode method_20_code 3 = .ok (.aload_n 0, 1) by decide +kernel) rfl l0 ?_
  refine lv_iload_n X.1.1 X.1.2.1 (show decode method_20_code 4 = .ok (.iload_n 1, 1) by decide +kernel) rfl l1 ?_
  refine lv_iload_n X.1.1 X.1.2.1 (show decode method_20_code 5 = .ok (.iload_n 2, 1) by decide +kernel) rfl l2 ?_
  refine lv_iload_n X.1.1 X.1.2.1 (show decode method_20_code 6 = .ok (.iload_n 3, 1) by decide +kernel) rfl l3 ?_
  refine lv_iload X.1.1 X.1.2.1 (show decode method_20_code 7 = .ok (.iload 4, 2) by decide +kernel) l4 ?_
  have hTM : TM 128 ≤ 40 := by decide +kernel
  have hr := wr_ex (l := l) (e := e) (below := below) (k := 128) (n := 4) (f := 1) (index := 71) (pc := 9) (st := 0) (en := 14) (hp := 17) (hp2 := 19) (i := 6) (jn := 1) (v := 1) (ps := [.int p0, .int p1, .int p2, .int p3]) (R := wr_rmx 128 σ σ2) (cells := 0) (slots := 0) (Qc := Qc) X hl (by decide) (by decide +kernel) ⟨by decide, by decide⟩ (wr_rmx_ok hTM).1.1 (wr_rmx_ok hTM).1.2
    (show Cond.methodLink "LilyWheelsLaw" 71 (TN 128) ∈ ri_LW from List.mem_filter.mpr ⟨by decide +kernel, by decide +kernel⟩) (show Cond.instanceMethod (TN 128) ∈ ri_LW from List.mem_filter.mpr ⟨by decide +kernel, by decide +kernel⟩) (show Cond.selects (TN 128).cls (TN 128) (TN 128) ∈ ri_LW from List.mem_filter.mpr ⟨by decide +kernel, by decide +kernel⟩) (show Cond.initialized (TN 128).cls ∈ ri_LW from List.mem_filter.mpr ⟨by decide +kernel, by decide +kernel⟩) (show Cond.code (TN 128) (TB 128) (TM 128) (TR 128) ∈ ri_LW from List.mem_filter.mpr ⟨by decide +kernel, by decide +kernel⟩) ⟨⟨by decide +kernel, by decide +kernel⟩, by decide +kernel⟩ (show decode method_20_code 9 = .ok (.invokevirtual 71, 3) by decide +kernel)
    h rfl hrcv rfl hsz hwf hI ho ho2 hout (wr_rmx_ok hTM).2.1 (wr_rmx_ok hTM).2.2 htab [] [(0, 14, 21, 13)] rfl (fun z hz => nomatch hz) (by decide +kernel) (Or.inr ⟨by decide +kernel, rfl⟩) (by decide) (show decode method_20_code 19 = .ok (.iconst 1, 1) by decide +kernel) rfl (show decode method_20_code 20 = .ok (.ireturn, 1) by decide +kernel) (fun t locs2 h1 h2 h3 => hfin t locs2 _ _ h1 h2 ⟨rfl, h3, rfl⟩)
  rw [Nat.zero_add, Nat.zero_add] at hr
  exact hr
theorem wn_fewest_2 {p0 : Int32} {p1 : Int32} {p2 : Int32} {p3 : Int32} (hl : l.stackTraces = false) (h : ev3 Ks 128 (0, ri_ent (TM 128) [.ref C, .int p0, .int p1, .int p2, .int p3], []) σ = some (some (.int (Int32.ofNat 2)), σ2)) (hrcv : ri_rcv (some 8) [.ref C, .int p0, .int p1, .int p2, .int p3] σ = true) (ho : σ.1 o = none) (ho2 : o < σ.2) : Met l (⟨"LilyWheelsLaw", "fewest", "(LLilyWheels;IIII[J)I"⟩ : MethodName) (Cond.codeWith (⟨"LilyWheelsLaw", "fewest", "(LLilyWheels;IIII[J)I"⟩ : MethodName) method_20_code 7 (some .int) [(0, 14, 17, 28), (0, 14, 21, 13)] :: ri_LW) (wr_rmx 128 σ σ2) (wq_Pc Ks Kv Km D dT dL [.ref C, .int p0, .int p1, .int p2, .int p3, .ref o] σ o g) (wq_Qc D dT dL σ o 2 (fun σ3 g3 => σ3.1 = σ2.1 ∧ σ2.2 ≤ σ3.2 ∧ g3 = g)) (σ2.2 - σ.2 + 1) (2000 * (σ2.2 - σ.2) + 6) (wr_A σ o) := by
  refine wq_of rfl (Nat.le_succ _) ?_
  intro p e s m args below meth c Qc X htab hI hout ls hsz hwf hls hfin
  have l0 : ls[0]? = some (.val (.ref C)) := hls (0, _) (by simp [lv_args, Value.category])
  have l1 : ls[1]? = some (.val (.int p0)) := hls (1, _) (by simp [lv_args, Value.category])
  have l2 : ls[2]? = some (.val (.int p1)) := hls (2, _) (by simp [lv_args, Value.category])
  have l3 : ls[3]? = some (.val (.int p2)) := hls (3, _) (by simp [lv_args, Value.category])
  have l4 : ls[4]? = some (.val (.int p3)) := hls (4, _) (by simp [lv_args, Value.category])
  have l5 : ls[5]? = some (.val (.ref o)) := hls (5, _) (by simp [lv_args, Value.category])
  refine lv_aload X.1.1 X.1.2.1 (show decode method_20_code 0 = .ok (.aload 5, 2) by decide +kernel) l5 ?_
  refine lv_iconst X.1.1 X.1.2.1 (show decode method_20_code 2 = .ok (.iconst 0, 1) by decide +kernel) (v := 0) rfl ?_
  refine lv_aload_n X.1.1 X.1.2.1 (show decode method_20_code 3 = .ok (.aload_n 0, 1) by decide +kernel) rfl l0 ?_
  refine lv_iload_n X.1.1 X.1.2.1 (show decode method_20_code 4 = .ok (.iload_n 1, 1) by decide +kernel) rfl l1 ?_
  refine lv_iload_n X.1.1 X.1.2.1 (show decode method_20_code 5 = .ok (.iload_n 2, 1) by decide +kernel) rfl l2 ?_
  refine lv_iload_n X.1.1 X.1.2.1 (show decode method_20_code 6 = .ok (.iload_n 3, 1) by decide +kernel) rfl l3 ?_
  refine lv_iload X.1.1 X.1.2.1 (show decode method_20_code 7 = .ok (.iload 4, 2) by decide +kernel) l4 ?_
  have hTM : TM 128 ≤ 40 := by decide +kernel
  have hr := wr_ex (l := l) (e := e) (below := below) (k := 128) (n := 4) (f := 2) (index := 71) (pc := 9) (st := 0) (en := 14) (hp := 21) (hp2 := 23) (i := 6) (jn := 2) (v := 2) (ps := [.int p0, .int p1, .int p2, .int p3]) (R := wr_rmx 128 σ σ2) (cells := 0) (slots := 0) (Qc := Qc) X hl (by decide) (by decide +kernel) ⟨by decide, by decide⟩ (wr_rmx_ok hTM).1.1 (wr_rmx_ok hTM).1.2
    (show Cond.methodLink "LilyWheelsLaw" 71 (TN 128) ∈ ri_LW from List.mem_filter.mpr ⟨by decide +kernel, by decide +kernel⟩) (show Cond.instanceMethod (TN 128) ∈ ri_LW from List.mem_filter.mpr ⟨by decide +kernel, by decide +kernel⟩) (show Cond.selects (TN 128).cls (TN 128) (TN 128) ∈ ri_LW from List.mem_filter.mpr ⟨by decide +kernel, by decide +kernel⟩) (show Cond.initialized (TN 128).cls ∈ ri_LW from List.mem_filter.mpr ⟨by decide +kernel, by decide +kernel⟩) (show Cond.code (TN 128) (TB 128) (TM 128) (TR 128) ∈ ri_LW from List.mem_filter.mpr ⟨by decide +kernel, by decide +kernel⟩) ⟨⟨by decide +kernel, by decide +kernel⟩, by decide +kernel⟩ (show decode method_20_code 9 = .ok (.invokevirtual 71, 3) by decide +kernel)
    h rfl hrcv rfl hsz hwf hI ho ho2 hout (wr_rmx_ok hTM).2.1 (wr_rmx_ok hTM).2.2 htab [(0, 14, 17, 28)] [] rfl (fun z hz => by simp only [List.mem_cons, List.not_mem_nil, or_false] at hz; rcases hz with rfl; exact ⟨1, ⟨by omega, by omega⟩, by decide, rfl⟩) (by decide +kernel) (Or.inr ⟨by decide +kernel, rfl⟩) (by decide) (show decode method_20_code 23 = .ok (.iconst 2, 1) by decide +kernel) rfl (show decode method_20_code 24 = .ok (.ireturn, 1) by decide +kernel) (fun t locs2 h1 h2 h3 => hfin t locs2 _ _ h1 h2 ⟨rfl, h3, rfl⟩)
  rw [Nat.zero_add, Nat.zero_add] at hr
  exact hr
theorem wn_couldBe_1 {p0 : Int32} {p1 : Int32} (hl : l.stackTraces = false) (h : ev3 Ks 129 (0, ri_ent (TM 129) [.ref C, .int p0, .int p1], []) σ = some (some (.int (Int32.ofNat 1)), σ2)) (hrcv : ri_rcv (some 8) [.ref C, .int p0, .int p1] σ = true) (ho : σ.1 o = none) (ho2 : o < σ.2) : Met l (⟨"LilyWheelsLaw", "couldBe", "(LLilyWheels;II[J)I"⟩ : MethodName) (Cond.codeWith (⟨"LilyWheelsLaw", "couldBe", "(LLilyWheels;II[J)I"⟩ : MethodName) method_21_code 5 (some .int) [(0, 10, 13, 28)] :: ri_LW) (wr_rmx 129 σ σ2) (wq_Pc Ks Kv Km D dT dL [.ref C, .int p0, .int p1, .ref o] σ o g) (wq_Qc D dT dL σ o 1 (fun σ3 g3 => σ3.1 = σ2.1 ∧ σ2.2 ≤ σ3.2 ∧ g3 = g)) (σ2.2 - σ.2 + 1) (2000 * (σ2.2 - σ.2) + 6) (wr_A σ o) := by
  refine wq_of rfl (Nat.le_succ _) ?_
  intro p e s m args below meth c Qc X htab hI hout ls hsz hwf hls hfin
  have l0 : ls[0]? = some (.val (.ref C)) := hls (0, _) (by simp [lv_args, Value.category])
  have l1 : ls[1]? = some (.val (.int p0)) := hls (1, _) (by simp [lv_args, Value.category])
  have l2 : ls[2]? = some (.val (.int p1)) := hls (2, _) (by simp [lv_args, Value.category])
  have l3 : ls[3]? = some (.val (.ref o)) := hls (3, _) (by simp [lv_args, Value.category])
  refine lv_aload_n X.1.1 X.1.2.1 (show decode method_21_code 0 = .ok (.aload_n 3, 1) by decide +kernel) rfl l3 ?_
  refine lv_iconst X.1.1 X.1.2.1 (show decode method_21_code 1 = .ok (.iconst 0, 1) by decide +kernel) (v := 0) rfl ?_
  refine lv_aload_n X.1.1 X.1.2.1 (show decode method_21_code 2 = .ok (.aload_n 0, 1) by decide +kernel) rfl l0 ?_
  refine lv_iload_n X.1.1 X.1.2.1 (show decode method_21_code 3 = .ok (.iload_n 1, 1) by decide +kernel) rfl l1 ?_
  refine lv_iload_n X.1.1 X.1.2.1 (show decode method_21_code 4 = .ok (.iload_n 2, 1) by decide +kernel) rfl l2 ?_
  have hTM : TM 129 ≤ 40 := by decide +kernel
  have hr := wr_ex (l := l) (e := e) (below := below) (k := 129) (n := 2) (f := 1) (index := 74) (pc := 5) (st := 0) (en := 10) (hp := 13) (hp2 := 15) (i := 4) (jn := 1) (v := 1) (ps := [.int p0, .int p1]) (R := wr_rmx 129 σ σ2) (cells := 0) (slots := 0) (Qc := Qc) X hl (by decide) (by decide +kernel) ⟨by decide, by decide⟩ (wr_rmx_ok hTM).1.1 (wr_rmx_ok hTM).1.2
    (show Cond.methodLink "LilyWheelsLaw" 74 (TN 129) ∈ ri_LW from List.mem_filter.mpr ⟨by decide +kernel, by decide +kernel⟩) (show Cond.instanceMethod (TN 129) ∈ ri_LW from List.mem_filter.mpr ⟨by decide +kernel, by decide +kernel⟩) (show Cond.selects (TN 129).cls (TN 129) (TN 129) ∈ ri_LW from List.mem_filter.mpr ⟨by decide +kernel, by decide +kernel⟩) (show Cond.initialized (TN 129).cls ∈ ri_LW from List.mem_filter.mpr ⟨by decide +kernel, by decide +kernel⟩) (show Cond.code (TN 129) (TB 129) (TM 129) (TR 129) ∈ ri_LW from List.mem_filter.mpr ⟨by decide +kernel, by decide +kernel⟩) ⟨⟨by decide +kernel, by decide +kernel⟩, by decide +kernel⟩ (show decode method_21_code 5 = .ok (.invokevirtual 74, 3) by decide +kernel)
    h rfl hrcv rfl hsz hwf hI ho ho2 hout (wr_rmx_ok hTM).2.1 (wr_rmx_ok hTM).2.2 htab [] [] rfl (fun z hz => nomatch hz) (by decide +kernel) (Or.inr ⟨by decide +kernel, rfl⟩) (by decide) (show decode method_21_code 15 = .ok (.iconst 1, 1) by decide +kernel) rfl (show decode method_21_code 16 = .ok (.ireturn, 1) by decide +kernel) (fun t locs2 h1 h2 h3 => hfin t locs2 _ _ h1 h2 ⟨rfl, h3, rfl⟩)
  rw [Nat.zero_add, Nat.zero_add] at hr
  exact hr
theorem wn_mostFlies_1 {p0 : Int32} {p1 : Int32} (hl : l.stackTraces = false) (h : ev3 Ks 130 (0, ri_ent (TM 130) [.ref C, .int p0, .int p1], []) σ = some (some (.int (Int32.ofNat 1)), σ2)) (hrcv : ri_rcv (some 8) [.ref C, .int p0, .int p1] σ = true) (ho : σ.1 o = none) (ho2 : o < σ.2) : Met l (⟨"LilyWheelsLaw", "mostFlies", "(LLilyWheels;II[J)I"⟩ : MethodName) (Cond.codeWith (⟨"LilyWheelsLaw", "mostFlies", "(LLilyWheels;II[J)I"⟩ : MethodName) method_22_code 5 (some .int) [(0, 10, 13, 28), (0, 10, 17, 13)] :: ri_LW) (wr_rmx 130 σ σ2) (wq_Pc Ks Kv Km D dT dL [.ref C, .int p0, .int p1, .ref o] σ o g) (wq_Qc D dT dL σ o 1 (fun σ3 g3 => σ3.1 = σ2.1 ∧ σ2.2 ≤ σ3.2 ∧ g3 = g)) (σ2.2 - σ.2 + 1) (2000 * (σ2.2 - σ.2) + 6) (wr_A σ o) := by
  refine wq_of rfl (Nat.le_succ _) ?_
  intro p e s m args below meth c Qc X htab hI hout ls hsz hwf hls hfin
  have l0 : ls[0]? = some (.val (.ref C)) := hls (0, _) (by simp [lv_args, Value.category])
  have l1 : ls[1]? = some (.val (.int p0)) := hls (1, _) (by simp [lv_args, Value.category])
  have l2 : ls[2]? = some (.val (.int p1)) := hls (2, _) (by simp [lv_args, Value.category])
  have l3 : ls[3]? = some (.val (.ref o)) := hls (3, _) (by simp [lv_args, Value.category])
  refine lv_aload_n X.1.1 X.1.2.1 (show decode method_22_code 0 = .ok (.aload_n 3, 1) by decide +kernel) rfl l3 ?_
  refine lv_iconst X.1.1 X.1.2.1 (show decode method_22_code 1 = .ok (.iconst 0, 1) by decide +kernel) (v := 0) rfl ?_
  refine lv_aload_n X.1.1 X.1.2.1 (show decode method_22_code 2 = .ok (.aload_n 0, 1) by decide +kernel) rfl l0 ?_
  refine lv_iload_n X.1.1 X.1.2.1 (show decode method_22_code 3 = .ok (.iload_n 1, 1) by decide +kernel) rfl l1 ?_
  refine lv_iload_n X.1.1 X.1.2.1 (show decode method_22_code 4 = .ok (.iload_n 2, 1) by decide +kernel) rfl l2 ?_
  have hTM : TM 130 ≤ 40 := by decide +kernel
  have hr := wr_ex (l := l) (e := e) (below := below) (k := 130) (n := 2) (f := 1) (index := 77) (pc := 5) (st := 0) (en := 10) (hp := 13) (hp2 := 15) (i := 4) (jn := 1) (v := 1) (ps := [.int p0, .int p1]) (R := wr_rmx 130 σ σ2) (cells := 0) (slots := 0) (Qc := Qc) X hl (by decide) (by decide +kernel) ⟨by decide, by decide⟩ (wr_rmx_ok hTM).1.1 (wr_rmx_ok hTM).1.2
    (show Cond.methodLink "LilyWheelsLaw" 77 (TN 130) ∈ ri_LW from List.mem_filter.mpr ⟨by decide +kernel, by decide +kernel⟩) (show Cond.instanceMethod (TN 130) ∈ ri_LW from List.mem_filter.mpr ⟨by decide +kernel, by decide +kernel⟩) (show Cond.selects (TN 130).cls (TN 130) (TN 130) ∈ ri_LW from List.mem_filter.mpr ⟨by decide +kernel, by decide +kernel⟩) (show Cond.initialized (TN 130).cls ∈ ri_LW from List.mem_filter.mpr ⟨by decide +kernel, by decide +kernel⟩) (show Cond.code (TN 130) (TB 130) (TM 130) (TR 130) ∈ ri_LW from List.mem_filter.mpr ⟨by decide +kernel, by decide +kernel⟩) ⟨⟨by decide +kernel, by decide +kernel⟩, by decide +kernel⟩ (show decode method_22_code 5 = .ok (.invokevirtual 77, 3) by decide +kernel)
    h rfl hrcv rfl hsz hwf hI ho ho2 hout (wr_rmx_ok hTM).2.1 (wr_rmx_ok hTM).2.2 htab [] [(0, 10, 17, 13)] rfl (fun z hz => nomatch hz) (by decide +kernel) (Or.inr ⟨by decide +kernel, rfl⟩) (by decide) (show decode method_22_code 15 = .ok (.iconst 1, 1) by decide +kernel) rfl (show decode method_22_code 16 = .ok (.ireturn, 1) by decide +kernel) (fun t locs2 h1 h2 h3 => hfin t locs2 _ _ h1 h2 ⟨rfl, h3, rfl⟩)
  rw [Nat.zero_add, Nat.zero_add] at hr
  exact hr
theorem wn_mostFlies_2 {p0 : Int32} {p1 : Int32} (hl : l.stackTraces = false) (h : ev3 Ks 130 (0, ri_ent (TM 130) [.ref C, .int p0, .int p1], []) σ = some (some (.int (Int32.ofNat 2)), σ2)) (hrcv : ri_rcv (some 8) [.ref C, .int p0, .int p1] σ = true) (ho : σ.1 o = none) (ho2 : o < σ.2) : Met l (⟨"LilyWheelsLaw", "mostFlies", "(LLilyWheels;II[J)I"⟩ : MethodName) (Cond.codeWith (⟨"LilyWheelsLaw", "mostFlies", "(LLilyWheels;II[J)I"⟩ : MethodName) method_22_code 5 (some .int) [(0, 10, 13, 28), (0, 10, 17, 13)] :: ri_LW) (wr_rmx 130 σ σ2) (wq_Pc Ks Kv Km D dT dL [.ref C, .int p0, .int p1, .ref o] σ o g) (wq_Qc D dT dL σ o 2 (fun σ3 g3 => σ3.1 = σ2.1 ∧ σ2.2 ≤ σ3.2 ∧ g3 = g)) (σ2.2 - σ.2 + 1) (2000 * (σ2.2 - σ.2) + 6) (wr_A σ o) := by
  refine wq_of rfl (Nat.le_succ _) ?_
  intro p e s m args below meth c Qc X htab hI hout ls hsz hwf hls hfin
  have l0 : ls[0]? = some (.val (.ref C)) := hls (0, _) (by simp [lv_args, Value.category])
  have l1 : ls[1]? = some (.val (.int p0)) := hls (1, _) (by simp [lv_args, Value.category])
  have l2 : ls[2]? = some (.val (.int p1)) := hls (2, _) (by simp [lv_args, Value.category])
  have l3 : ls[3]? = some (.val (.ref o)) := hls (3, _) (by simp [lv_args, Value.category])
  refine lv_aload_n X.1.1 X.1.2.1 (show decode method_22_code 0 = .ok (.aload_n 3, 1) by decide +kernel) rfl l3 ?_
  refine lv_iconst X.1.1 X.1.2.1 (show decode method_22_code 1 = .ok (.iconst 0, 1) by decide +kernel) (v := 0) rfl ?_
  refine lv_aload_n X.1.1 X.1.2.1 (show decode method_22_code 2 = .ok (.aload_n 0, 1) by decide +kernel) rfl l0 ?_
  refine lv_iload_n X.1.1 X.1.2.1 (show decode method_22_code 3 = .ok (.iload_n 1, 1) by decide +kernel) rfl l1 ?_
  refine lv_iload_n X.1.1 X.1.2.1 (show decode method_22_code 4 = .ok (.iload_n 2, 1) by decide +kernel) rfl l2 ?_
  have hTM : TM 130 ≤ 40 := by decide +kernel
  have hr := wr_ex (l := l) (e := e) (below := below) (k := 130) (n := 2) (f := 2) (index := 77) (pc := 5) (st := 0) (en := 10) (hp := 17) (hp2 := 19) (i := 4) (jn := 2) (v := 2) (ps := [.int p0, .int p1]) (R := wr_rmx 130 σ σ2) (cells := 0) (slots := 0) (Qc := Qc) X hl (by decide) (by decide +kernel) ⟨by decide, by decide⟩ (wr_rmx_ok hTM).1.1 (wr_rmx_ok hTM).1.2
    (show Cond.methodLink "LilyWheelsLaw" 77 (TN 130) ∈ ri_LW from List.mem_filter.mpr ⟨by decide +kernel, by decide +kernel⟩) (show Cond.instanceMethod (TN 130) ∈ ri_LW from List.mem_filter.mpr ⟨by decide +kernel, by decide +kernel⟩) (show Cond.selects (TN 130).cls (TN 130) (TN 130) ∈ ri_LW from List.mem_filter.mpr ⟨by decide +kernel, by decide +kernel⟩) (show Cond.initialized (TN 130).cls ∈ ri_LW from List.mem_filter.mpr ⟨by decide +kernel, by decide +kernel⟩) (show Cond.code (TN 130) (TB 130) (TM 130) (TR 130) ∈ ri_LW from List.mem_filter.mpr ⟨by decide +kernel, by decide +kernel⟩) ⟨⟨by decide +kernel, by decide +kernel⟩, by decide +kernel⟩ (show decode method_22_code 5 = .ok (.invokevirtual 77, 3) by decide +kernel)
    h rfl hrcv rfl hsz hwf hI ho ho2 hout (wr_rmx_ok hTM).2.1 (wr_rmx_ok hTM).2.2 htab [(0, 10, 13, 28)] [] rfl (fun z hz => by simp only [List.mem_cons, List.not_mem_nil, or_false] at hz; rcases hz with rfl; exact ⟨1, ⟨by omega, by omega⟩, by decide, rfl⟩) (by decide +kernel) (Or.inr ⟨by decide +kernel, rfl⟩) (by decide) (show decode method_22_code 19 = .ok (.iconst 2, 1) by decide +kernel) rfl (show decode method_22_code 20 = .ok (.ireturn, 1) by decide +kernel) (fun t locs2 h1 h2 h3 => hfin t locs2 _ _ h1 h2 ⟨rfl, h3, rfl⟩)
  rw [Nat.zero_add, Nat.zero_add] at hr
  exact hr
theorem wn_runScript_2 {p0 : Int32} {p1 : Int64} (hl : l.stackTraces = false) (h : ev3 Ks 131 (0, ri_ent (TM 131) [.ref C, .int p0, .long p1], []) σ = some (some (.int (Int32.ofNat 2)), σ2)) (hrcv : ri_rcv (some 8) [.ref C, .int p0, .long p1] σ = true) (ho : σ.1 o = none) (ho2 : o < σ.2) : Met l (⟨"LilyWheelsLaw", "runScript", "(LLilyWheels;IJ[J)I"⟩ : MethodName) (Cond.codeWith (⟨"LilyWheelsLaw", "runScript", "(LLilyWheels;IJ[J)I"⟩ : MethodName) method_23_code 6 (some .int) [(0, 11, 14, 13)] :: ri_LW) (wr_rmx 131 σ σ2) (wq_Pc Ks Kv Km D dT dL [.ref C, .int p0, .long p1, .ref o] σ o g) (wq_Qc D dT dL σ o 1 (fun σ3 g3 => σ3.1 = σ2.1 ∧ σ2.2 ≤ σ3.2 ∧ g3 = g)) (σ2.2 - σ.2 + 1) (2000 * (σ2.2 - σ.2) + 6) (wr_A σ o) := by
  refine wq_of rfl (Nat.le_succ _) ?_
  intro p e s m args below meth c Qc X htab hI hout ls hsz hwf hls hfin
  have l0 : ls[0]? = some (.val (.ref C)) := hls (0, _) (by simp [lv_args, Value.category])
  have l1 : ls[1]? = some (.val (.int p0)) := hls (1, _) (by simp [lv_args, Value.category])
  have l2 : ls[2]? = some (.val (.long p1)) := hls (2, _) (by simp [lv_args, Value.category])
  have l4 : ls[4]? = some (.val (.ref o)) := hls (4, _) (by simp [lv_args, Value.category])
  refine lv_aload X.1.1 X.1.2.1 (show decode method_23_code 0 = .ok (.aload 4, 2) by decide +kernel) l4 ?_
  refine lv_iconst X.1.1 X.1.2.1 (show decode method_23_code 2 = .ok (.iconst 0, 1) by decide +kernel) (v := 0) rfl ?_
  refine lv_aload_n X.1.1 X.1.2.1 (show decode method_23_code 3 = .ok (.aload_n 0, 1) by decide +kernel) rfl l0 ?_
  refine lv_iload_n X.1.1 X.1.2.1 (show decode method_23_code 4 = .ok (.iload_n 1, 1) by decide +kernel) rfl l1 ?_
  refine lv_lload_n X.1.1 X.1.2.1 (show decode method_23_code 5 = .ok (.lload_n 2, 1) by decide +kernel) rfl l2 ?_
  have hTM : TM 131 ≤ 40 := by decide +kernel
  have hr := wr_ex (l := l) (e := e) (below := below) (k := 131) (n := 2) (f := 2) (index := 80) (pc := 6) (st := 0) (en := 11) (hp := 14) (hp2 := 16) (i := 5) (jn := 1) (v := 1) (ps := [.int p0, .long p1]) (R := wr_rmx 131 σ σ2) (cells := 0) (slots := 0) (Qc := Qc) X hl (by decide) (by decide +kernel) ⟨by decide, by decide⟩ (wr_rmx_ok hTM).1.1 (wr_rmx_ok hTM).1.2
    (show Cond.methodLink "LilyWheelsLaw" 80 (TN 131) ∈ ri_LW from List.mem_filter.mpr ⟨by decide +kernel, by decide +kernel⟩) (show Cond.instanceMethod (TN 131) ∈ ri_LW from List.mem_filter.mpr ⟨by decide +kernel, by decide +kernel⟩) (show Cond.selects (TN 131).cls (TN 131) (TN 131) ∈ ri_LW from List.mem_filter.mpr ⟨by decide +kernel, by decide +kernel⟩) (show Cond.initialized (TN 131).cls ∈ ri_LW from List.mem_filter.mpr ⟨by decide +kernel, by decide +kernel⟩) (show Cond.code (TN 131) (TB 131) (TM 131) (TR 131) ∈ ri_LW from List.mem_filter.mpr ⟨by decide +kernel, by decide +kernel⟩) ⟨⟨by decide +kernel, by decide +kernel⟩, by decide +kernel⟩ (show decode method_23_code 6 = .ok (.invokevirtual 80, 3) by decide +kernel)
    h rfl hrcv rfl hsz hwf hI ho ho2 hout (wr_rmx_ok hTM).2.1 (wr_rmx_ok hTM).2.2 htab [] [] rfl (fun z hz => nomatch hz) (by decide +kernel) (Or.inr ⟨by decide +kernel, rfl⟩) (by decide) (show decode method_23_code 16 = .ok (.iconst 1, 1) by decide +kernel) rfl (show decode method_23_code 17 = .ok (.ireturn, 1) by decide +kernel) (fun t locs2 h1 h2 h3 => hfin t locs2 _ _ h1 h2 ⟨rfl, h3, rfl⟩)
  rw [Nat.zero_add, Nat.zero_add] at hr
  exact hr
theorem wn_simulate_2 {p0 : Int64} {p1 : Int32} (hl : l.stackTraces = false) (h : ev3 Ks 132 (0, ri_ent (TM 132) [.ref C, .long p0, .int p1], []) σ = some (some (.int (Int32.ofNat 2)), σ2)) (hrcv : ri_rcv (some 8) [.ref C, .long p0, .int p1] σ = true) (ho : σ.1 o = none) (ho2 : o < σ.2) : Met l (⟨"LilyWheelsLaw", "simulate", "(LLilyWheels;JI[J)I"⟩ : MethodName) (Cond.codeWith (⟨"LilyWheelsLaw", "simulate", "(LLilyWheels;JI[J)I"⟩ : MethodName) method_24_code 6 (some .int) [(0, 11, 14, 13)] :: ri_LW) (wr_rmx 132 σ σ2) (wq_Pc Ks Kv Km D dT dL [.ref C, .long p0, .int p1, .ref o] σ o g) (wq_Qc D dT dL σ o 1 (fun σ3 g3 => σ3.1 = σ2.1 ∧ σ2.2 ≤ σ3.2 ∧ g3 = g)) (σ2.2 - σ.2 + 1) (2000 * (σ2.2 - σ.2) + 6) (wr_A σ o) := by
  refine wq_of rfl (Nat.le_succ _) ?_
  intro p e s m args below meth c Qc X htab hI hout ls hsz hwf hls hfin
  have l0 : ls[0]? = some (.val (.ref C)) := hls (0, _) (by simp [lv_args, Value.category])
  have l1 : ls[1]? = some (.val (.long p0)) := hls (1, _) (by simp [lv_args, Value.category])
  have l3 : ls[3]? = some (.val (.int p1)) := hls (3, _) (by simp [lv_args, Value.category])
  have l4 : ls[4]? = some (.val (.ref o)) := hls (4, _) (by simp [lv_args, Value.category])
  refine lv_aload X.1.1 X.1.2.1 (show decode method_24_code 0 = .ok (.aload 4, 2) by decide +kernel) l4 ?_
  refine lv_iconst X.1.1 X.1.2.1 (show decode method_24_code 2 = .ok (.iconst 0, 1) by decide +kernel) (v := 0) rfl ?_
  refine lv_aload_n X.1.1 X.1.2.1 (show decode method_24_code 3 = .ok (.aload_n 0, 1) by decide +kernel) rfl l0 ?_
  refine lv_lload_n X.1.1 X.1.2.1 (show decode method_24_code 4 = .ok (.lload_n 1, 1) by decide +kernel) rfl l1 ?_
  refine lv_iload_n X.1.1 X.1.2.1 (show decode method_24_code 5 = .ok (.iload_n 3, 1) by decide +kernel) rfl l3 ?_
  have hTM : TM 132 ≤ 40 := by decide +kernel
  have hr := wr_ex (l := l) (e := e) (below := below) (k := 132) (n := 2) (f := 2) (index := 84) (pc := 6) (st := 0) (en := 11) (hp := 14) (hp2 := 16) (i := 5) (jn := 1) (v := 1) (ps := [.long p0, .int p1]) (R := wr_rmx 132 σ σ2) (cells := 0) (slots := 0) (Qc := Qc) X hl (by decide) (by decide +kernel) ⟨by decide, by decide⟩ (wr_rmx_ok hTM).1.1 (wr_rmx_ok hTM).1.2
    (show Cond.methodLink "LilyWheelsLaw" 84 (TN 132) ∈ ri_LW from List.mem_filter.mpr ⟨by decide +kernel, by decide +kernel⟩) (show Cond.instanceMethod (TN 132) ∈ ri_LW from List.mem_filter.mpr ⟨by decide +kernel, by decide +kernel⟩) (show Cond.selects (TN 132).cls (TN 132) (TN 132) ∈ ri_LW from List.mem_filter.mpr ⟨by decide +kernel, by decide +kernel⟩) (show Cond.initialized (TN 132).cls ∈ ri_LW from List.mem_filter.mpr ⟨by decide +kernel, by decide +kernel⟩) (show Cond.code (TN 132) (TB 132) (TM 132) (TR 132) ∈ ri_LW from List.mem_filter.mpr ⟨by decide +kernel, by decide +kernel⟩) ⟨⟨by decide +kernel, by decide +kernel⟩, by decide +kernel⟩ (show decode method_24_code 6 = .ok (.invokevirtual 84, 3) by decide +kernel)
    h rfl hrcv rfl hsz hwf hI ho ho2 hout (wr_rmx_ok hTM).2.1 (wr_rmx_ok hTM).2.2 htab [] [] rfl (fun z hz => nomatch hz) (by decide +kernel) (Or.inr ⟨by decide +kernel, rfl⟩) (by decide) (show decode method_24_code 16 = .ok (.iconst 1, 1) by decide +kernel) rfl (show decode method_24_code 17 = .ok (.ireturn, 1) by decide +kernel) (fun t locs2 h1 h2 h3 => hfin t locs2 _ _ h1 h2 ⟨rfl, h3, rfl⟩)
  rw [Nat.zero_add, Nat.zero_add] at hr
  exact hr
theorem wn_save_1 {p0 : Int32} (hl : l.stackTraces = false) (h : ev3 Ks 133 (0, ri_ent (TM 133) [.ref C, .int p0], []) σ = some (some (.int (Int32.ofNat 1)), σ2)) (hrcv : ri_rcv (some 8) [.ref C, .int p0] σ = true) (ho : σ.1 o = none) (ho2 : o < σ.2) : Met l (⟨"LilyWheelsLaw", "save", "(LLilyWheels;I[J)I"⟩ : MethodName) (Cond.codeWith (⟨"LilyWheelsLaw", "save", "(LLilyWheels;I[J)I"⟩ : MethodName) method_25_code 4 (some .int) [(0, 9, 12, 28)] :: ri_LW) (wr_rmx 133 σ σ2) (wq_Pc Ks Kv Km D dT dL [.ref C, .int p0, .ref o] σ o g) (wq_Qc D dT dL σ o 1 (fun σ3 g3 => σ3.1 = σ2.1 ∧ σ2.2 ≤ σ3.2 ∧ g3 = g)) (σ2.2 - σ.2 + 1) (2000 * (σ2.2 - σ.2) + 6) (wr_A σ o) := by
  refine wq_of rfl (Nat.le_succ _) ?_
  intro p e s m args below meth c Qc X htab hI hout ls hsz hwf hls hfin
  have l0 : ls[0]? = some (.val (.ref C)) := hls (0, _) (by simp [lv_args, Value.category])
  have l1 : ls[1]? = some (.val (.int p0)) := hls (1, _) (by simp [lv_args, Value.category])
  have l2 : ls[2]? = some (.val (.ref o)) := hls (2, _) (by simp [lv_args, Value.category])
  refine lv_aload_n X.1.1 X.1.2.1 (show decode method_25_code 0 = .ok (.aload_n 2, 1) by decide +kernel) rfl l2 ?_
  refine lv_iconst X.1.1 X.1.2.1 (show decode method_25_code 1 = .ok (.iconst 0, 1) by decide +kernel) (v := 0) rfl ?_
  refine lv_aload_n X.1.1 X.1.2.1 (show decode method_25_code 2 = .ok (.aload_n 0, 1) by decide +kernel) rfl l0 ?_
  refine lv_iload_n X.1.1 X.1.2.1 (show decode method_25_code 3 = .ok (.iload_n 1, 1) by decide +kernel) rfl l1 ?_
  have hTM : TM 133 ≤ 40 := by decide +kernel
  have hr := wr_ex (l := l) (e := e) (below := below) (k := 133) (n := 1) (f := 1) (index := 88) (pc := 4) (st := 0) (en := 9) (hp := 12) (hp2 := 13) (i := 3) (jn := 1) (v := 1) (ps := [.int p0]) (R := wr_rmx 133 σ σ2) (cells := 0) (slots := 0) (Qc := Qc) X hl (by decide) (by decide +kernel) ⟨by decide, by decide⟩ (wr_rmx_ok hTM).1.1 (wr_rmx_ok hTM).1.2
    (show Cond.methodLink "LilyWheelsLaw" 88 (TN 133) ∈ ri_LW from List.mem_filter.mpr ⟨by decide +kernel, by decide +kernel⟩) (show Cond.instanceMethod (TN 133) ∈ ri_LW from List.mem_filter.mpr ⟨by decide +kernel, by decide +kernel⟩) (show Cond.selects (TN 133).cls (TN 133) (TN 133) ∈ ri_LW from List.mem_filter.mpr ⟨by decide +kernel, by decide +kernel⟩) (show Cond.initialized (TN 133).cls ∈ ri_LW from List.mem_filter.mpr ⟨by decide +kernel, by decide +kernel⟩) (show Cond.code (TN 133) (TB 133) (TM 133) (TR 133) ∈ ri_LW from List.mem_filter.mpr ⟨by decide +kernel, by decide +kernel⟩) ⟨⟨by decide +kernel, by decide +kernel⟩, by decide +kernel⟩ (show decode method_25_code 4 = .ok (.invokevirtual 88, 3) by decide +kernel)
    h rfl hrcv rfl hsz hwf hI ho ho2 hout (wr_rmx_ok hTM).2.1 (wr_rmx_ok hTM).2.2 htab [] [] rfl (fun z hz => nomatch hz) (by decide +kernel) (Or.inl ⟨3, by decide +kernel, rfl, rfl⟩) (by decide) (show decode method_25_code 13 = .ok (.iconst 1, 1) by decide +kernel) rfl (show decode method_25_code 14 = .ok (.ireturn, 1) by decide +kernel) (fun t locs2 h1 h2 h3 => hfin t locs2 _ _ h1 h2 ⟨rfl, h3, rfl⟩)
  rw [Nat.zero_add, Nat.zero_add] at hr
  exact hr
theorem wn_restore_1 {p0 : Int32} (hl : l.stackTraces = false) (h : ev3 Ks 134 (0, ri_ent (TM 134) [.ref C, .int p0], []) σ = some (some (.int (Int32.ofNat 1)), σ2)) (hrcv : ri_rcv (some 8) [.ref C, .int p0] σ = true) (ho : σ.1 o = none) (ho2 : o < σ.2) : Met l (⟨"LilyWheelsLaw", "restore", "(LLilyWheels;I[J)I"⟩ : MethodName) (Cond.codeWith (⟨"LilyWheelsLaw", "restore", "(LLilyWheels;I[J)I"⟩ : MethodName) method_26_code 4 (some .int) [(0, 9, 12, 28), (0, 9, 15, 15)] :: ri_LW) (wr_rmx 134 σ σ2) (wq_Pc Ks Kv Km D dT dL [.ref C, .int p0, .ref o] σ o g) (wq_Qc D dT dL σ o 1 (fun σ3 g3 => σ3.1 = σ2.1 ∧ σ2.2 ≤ σ3.2 ∧ g3 = g)) (σ2.2 - σ.2 + 1) (2000 * (σ2.2 - σ.2) + 6) (wr_A σ o) := by
  refine wq_of rfl (Nat.le_succ _) ?_
  intro p e s m args below meth c Qc X htab hI hout ls hsz hwf hls hfin
  have l0 : ls[0]? = some (.val (.ref C)) := hls (0, _) (by simp [lv_args, Value.category])
  have l1 : ls[1]? = some (.val (.int p0)) := hls (1, _) (by simp [lv_args, Value.category])
  have l2 : ls[2]? = some (.val (.ref o)) := hls (2, _) (by simp [lv_args, Value.category])
  refine lv_aload_n X.1.1 X.1.2.1 (show decode method_26_code 0 = .ok (.aload_n 2, 1) by decide +kernel) rfl l2 ?_
  refine lv_iconst X.1.1 X.1.2.1 (show decode method_26_code 1 = .ok (.iconst 0, 1) by decide +kernel) (v := 0) rfl ?_
  refine lv_aload_n X.1.1 X.1.2.1 (show decode method_26_code 2 = .ok (.aload_n 0, 1) by decide +kernel) rfl l0 ?_
  refine lv_iload_n X.1.1 X.1.2.1 (show decode method_26_code 3 = .ok (.iload_n 1, 1) by decide +kernel) rfl l1 ?_
  have hTM : TM 134 ≤ 40 := by decide +kernel
  have hr := wr_ex (l := l) (e := e) (below := below) (k := 134) (n := 1) (f := 1) (index := 91) (pc := 4) (st := 0) (en := 9) (hp := 12) (hp2 := 13) (i := 3) (jn := 1) (v := 1) (ps := [.int p0]) (R := wr_rmx 134 σ σ2) (cells := 0) (slots := 0) (Qc := Qc) X hl (by decide) (by decide +kernel) ⟨by decide, by decide⟩ (wr_rmx_ok hTM).1.1 (wr_rmx_ok hTM).1.2
    (show Cond.methodLink "LilyWheelsLaw" 91 (TN 134) ∈ ri_LW from List.mem_filter.mpr ⟨by decide +kernel, by decide +kernel⟩) (show Cond.instanceMethod (TN 134) ∈ ri_LW from List.mem_filter.mpr ⟨by decide +kernel, by decide +kernel⟩) (show Cond.selects (TN 134).cls (TN 134) (TN 134) ∈ ri_LW from List.mem_filter.mpr ⟨by decide +kernel, by decide +kernel⟩) (show Cond.initialized (TN 134).cls ∈ ri_LW from List.mem_filter.mpr ⟨by decide +kernel, by decide +kernel⟩) (show Cond.code (TN 134) (TB 134) (TM 134) (TR 134) ∈ ri_LW from List.mem_filter.mpr ⟨by decide +kernel, by decide +kernel⟩) ⟨⟨by decide +kernel, by decide +kernel⟩, by decide +kernel⟩ (show decode method_26_code 4 = .ok (.invokevirtual 91, 3) by decide +kernel)
    h rfl hrcv rfl hsz hwf hI ho ho2 hout (wr_rmx_ok hTM).2.1 (wr_rmx_ok hTM).2.2 htab [] [(0, 9, 15, 15)] rfl (fun z hz => nomatch hz) (by decide +kernel) (Or.inl ⟨3, by decide +kernel, rfl, rfl⟩) (by decide) (show decode method_26_code 13 = .ok (.iconst 1, 1) by decide +kernel) rfl (show decode method_26_code 14 = .ok (.ireturn, 1) by decide +kernel) (fun t locs2 h1 h2 h3 => hfin t locs2 _ _ h1 h2 ⟨rfl, h3, rfl⟩)
  rw [Nat.zero_add, Nat.zero_add] at hr
  exact hr
theorem wn_restore_3 {p0 : Int32} (hl : l.stackTraces = false) (h : ev3 Ks 134 (0, ri_ent (TM 134) [.ref C, .int p0], []) σ = some (some (.int (Int32.ofNat 3)), σ2)) (hrcv : ri_rcv (some 8) [.ref C, .int p0] σ = true) (ho : σ.1 o = none) (ho2 : o < σ.2) : Met l (⟨"LilyWheelsLaw", "restore", "(LLilyWheels;I[J)I"⟩ : MethodName) (Cond.codeWith (⟨"LilyWheelsLaw", "restore", "(LLilyWheels;I[J)I"⟩ : MethodName) method_26_code 4 (some .int) [(0, 9, 12, 28), (0, 9, 15, 15)] :: ri_LW) (wr_rmx 134 σ σ2) (wq_Pc Ks Kv Km D dT dL [.ref C, .int p0, .ref o] σ o g) (wq_Qc D dT dL σ o 2 (fun σ3 g3 => σ3.1 = σ2.1 ∧ σ2.2 ≤ σ3.2 ∧ g3 = g)) (σ2.2 - σ.2 + 1) (2000 * (σ2.2 - σ.2) + 6) (wr_A σ o) := by
  refine wq_of rfl (Nat.le_succ _) ?_
  intro p e s m args below meth c Qc X htab hI hout ls hsz hwf hls hfin
  have l0 : ls[0]? = some (.val (.ref C)) := hls (0, _) (by simp [lv_args, Value.category])
  have l1 : ls[1]? = some (.val (.int p0)) := hls (1, _) (by simp [lv_args, Value.category])
  have l2 : ls[2]? = some (.val (.ref o)) := hls (2, _) (by simp [lv_args, Value.category])
  refine lv_aload_n X.1.1 X.1.2.1 (show decode method_26_code 0 = .ok (.aload_n 2, 1) by decide +kernel) rfl l2 ?_
  refine lv_iconst X.1.1 X.1.2.1 (show decode method_26_code 1 = .ok (.iconst 0, 1) by decide +kernel) (v := 0) rfl ?_
  refine lv_aload_n X.1.1 X.1.2.1 (show decode method_26_code 2 = .ok (.aload_n 0, 1) by decide +kernel) rfl l0 ?_
  refine lv_iload_n X.1.1 X.1.2.1 (show decode method_26_code 3 = .ok (.iload_n 1, 1) by decide +kernel) rfl l1 ?_
  have hTM : TM 134 ≤ 40 := by decide +kernel
  have hr := wr_ex (l := l) (e := e) (below := below) (k := 134) (n := 1) (f := 3) (index := 91) (pc := 4) (st := 0) (en := 9) (hp := 15) (hp2 := 16) (i := 3) (jn := 2) (v := 2) (ps := [.int p0]) (R := wr_rmx 134 σ σ2) (cells := 0) (slots := 0) (Qc := Qc) X hl (by decide) (by decide +kernel) ⟨by decide, by decide⟩ (wr_rmx_ok hTM).1.1 (wr_rmx_ok hTM).1.2
    (show Cond.methodLink "LilyWheelsLaw" 91 (TN 134) ∈ ri_LW from List.mem_filter.mpr ⟨by decide +kernel, by decide +kernel⟩) (show Cond.instanceMethod (TN 134) ∈ ri_LW from List.mem_filter.mpr ⟨by decide +kernel, by decide +kernel⟩) (show Cond.selects (TN 134).cls (TN 134) (TN 134) ∈ ri_LW from List.mem_filter.mpr ⟨by decide +kernel, by decide +kernel⟩) (show Cond.initialized (TN 134).cls ∈ ri_LW from List.mem_filter.mpr ⟨by decide +kernel, by decide +kernel⟩) (show Cond.code (TN 134) (TB 134) (TM 134) (TR 134) ∈ ri_LW from List.mem_filter.mpr ⟨by decide +kernel, by decide +kernel⟩) ⟨⟨by decide +kernel, by decide +kernel⟩, by decide +kernel⟩ (show decode method_26_code 4 = .ok (.invokevirtual 91, 3) by decide +kernel)
    h rfl hrcv rfl hsz hwf hI ho ho2 hout (wr_rmx_ok hTM).2.1 (wr_rmx_ok hTM).2.2 htab [(0, 9, 12, 28)] [] rfl (fun z hz => by simp only [List.mem_cons, List.not_mem_nil, or_false] at hz; rcases hz with rfl; exact ⟨1, ⟨by omega, by omega⟩, by decide, rfl⟩) (by decide +kernel) (Or.inl ⟨3, by decide +kernel, rfl, rfl⟩) (by decide) (show decode method_26_code 16 = .ok (.iconst 2, 1) by decide +kernel) rfl (show decode method_26_code 17 = .ok (.ireturn, 1) by decide +kernel) (fun t locs2 h1 h2 h3 => hfin t locs2 _ _ h1 h2 ⟨rfl, h3, rfl⟩)
  rw [Nat.zero_add, Nat.zero_add] at hr
  exact hr
end WRE
