/-! The wrappers' contracts. -/
section PRM
variable {Km : Nat → Nat} {b0 L0 C0 : Nat} {xs0 : Nat → Int32} {l : Launch} {D : va_G} {dT : Nat → ClassId}
theorem pm_309 (hl : l.stackTraces = false) {y : (gy × gy) × Nat} {i : Bool} {ps : List Value} {r0 : Int × (gy × Nat)} (hgp : p109 ps (gg y.1 i) = some r0) (ho : ob (gg y.1 i) r0.2.1 109 ps (Int32.ofInt r0.1) r0.2.2) (hfit : ri_fit (LM 309) (.ref (gi C0 i) :: ps) = true) : lm_Met (gr C0) Km b0 L0 xs0 D dT C0 LN LWd LH l 309 (.ref (gi C0 i) :: ps) y (.int (Int32.ofInt r0.1)) (gz y.1 i r0.2.1, y.2 + r0.2.2) := by
  simp only [p109] at hgp
  split at hgp
  · rename_i x0
    refine pm_of rfl rfl (ri_fit_len _ _ hfit) ?_
    intro p e s m args below meth c Qc X hrt hlk htab hI ls hsz hwf hlv hfin
    have e2 : ((gz y.1 i r0.2.1, y.2 + r0.2.2) : (gy × gy) × Nat).2 - y.2 = r0.2.2 := by
      show y.2 + r0.2.2 - y.2 = _
      omega
    rw [e2] at X ⊢
    refine lv_aload_n X.1.1 X.1.2.1 (show decode (LB 309) 0 = .ok (.aload_n 0, 1) by decide +kernel) rfl (hlv (0, .ref (gi C0 i)) (by simp [lv_args, Value.category])) ?_
    refine lv_iload_n X.1.1 X.1.2.1 (show decode (LB 309) 1 = .ok (.iload_n 1, 1) by decide +kernel) rfl (hlv (1, .int x0) (by simp [lv_args, Value.category])) ?_
    have h9 := pw_end (k := 109) (n := 1) (index := 33) (pc := 2) (i := i) (y := y.1) (Y2 := r0.2.1) (ps := [.int x0]) (v := Int32.ofInt r0.1) (t := r0.2.2) (hh := LTb 309) (H := s.heap) (locs := []) (cells := 0) (slots := 0) (ls := ls) (e := e) (below := below) (Qc := Qc) X hrt hlk hl htab (by decide) (by decide +kernel)
      ⟨⟨by show TH 109 + 8 + 1 ≤ LH 309 + 1; decide +kernel, by show TH 109 + 1 + 1 ≤ LH 309 + 1; decide +kernel⟩, by show 8 + (TM 109 + 11) + (60 * (TH 109 + 1) + 200) ≤ 60 * (LH 309 + 1); decide +kernel⟩
      (show Cond.methodLink "LilyWheelsLaw" 33 (TN 109) ∈ ri_LW from List.mem_filter.mpr ⟨by decide +kernel, by decide +kernel⟩) (show Cond.instanceMethod (TN 109) ∈ ri_LW from List.mem_filter.mpr ⟨by decide +kernel, by decide +kernel⟩) (show Cond.selects (TN 109).cls (TN 109) (TN 109) ∈ ri_LW from List.mem_filter.mpr ⟨by decide +kernel, by decide +kernel⟩) (show Cond.initialized (TN 109).cls ∈ ri_LW from List.mem_filter.mpr ⟨by decide +kernel, by decide +kernel⟩) (show Cond.code (TN 109) (TB 109) (TM 109) (TR 109) ∈ ri_LW from List.mem_filter.mpr ⟨by decide +kernel, by decide +kernel⟩) ⟨⟨by decide +kernel, by decide +kernel⟩, by decide +kernel⟩
      (by decide +kernel) (by decide +kernel) (show ∀ f ∈ ([2, 3] : List Nat), wr_H (LB 309) (LM 309) 2 (LTb 309) f from List.forall_mem_cons.mpr ⟨⟨[], [(0, 5, 10, 19)], 0, 5, 6, 2, 7, rfl, (fun _ h => nomatch h), by decide, Or.inl ⟨2, by decide +kernel, rfl, rfl⟩, by decide +kernel, by decide +kernel, by decide +kernel⟩, List.forall_mem_cons.mpr ⟨⟨[(0, 5, 6, 16)], [], 0, 5, 10, 2, 11, rfl, List.forall_mem_cons.mpr ⟨⟨2, ⟨by decide, by decide⟩, by decide, rfl⟩, (fun _ h => nomatch h)⟩, by decide, Or.inl ⟨2, by decide +kernel, rfl, rfl⟩, by decide +kernel, by decide +kernel, by decide +kernel⟩, (fun _ h => nomatch h)⟩⟩)
      rfl rfl hsz hwf hI ho (by show 0 + _ ≤ _; rw [Nat.zero_add]; exact Nat.le_refl _) (by show 0 + _ ≤ 6 * _; rw [Nat.zero_add]; exact Nat.le_refl _) (fun t2 locs2 h => hfin t2 locs2 h)
    rw [Nat.zero_add, Nat.zero_add] at h9
    exact h9
  · cases hgp
theorem pm_313 (hl : l.stackTraces = false) {y : (gy × gy) × Nat} {i : Bool} {ps : List Value} {r0 : Int × (gy × Nat)} (hgp : p113 ps (gg y.1 i) = some r0) (ho : ob (gg y.1 i) r0.2.1 113 ps (Int32.ofInt r0.1) r0.2.2) (hfit : ri_fit (LM 313) (.ref (gi C0 i) :: ps) = true) : lm_Met (gr C0) Km b0 L0 xs0 D dT C0 LN LWd LH l 313 (.ref (gi C0 i) :: ps) y (.int (Int32.ofInt r0.1)) (gz y.1 i r0.2.1, y.2 + r0.2.2) := by
  simp only [p113] at hgp
  split at hgp
  · rename_i x0
    refine pm_of rfl rfl (ri_fit_len _ _ hfit) ?_
    intro p e s m args below meth c Qc X hrt hlk htab hI ls hsz hwf hlv hfin
    have e2 : ((gz y.1 i r0.2.1, y.2 + r0.2.2) : (gy × gy) × Nat).2 - y.2 = r0.2.2 := by
      show y.2 + r0.2.2 - y.2 = _
      omega
    rw [e2] at X ⊢
    refine lv_aload_n X.1.1 X.1.2.1 (show decode (LB 313) 0 = .ok (.aload_n 0, 1) by decide +kernel) rfl (hlv (0, .ref (gi C0 i)) (by simp [lv_args, Value.category])) ?_
    refine lv_iload_n X.1.1 X.1.2.1 (show decode (LB 313) 1 = .ok (.iload_n 1, 1) by decide +kernel) rfl (hlv (1, .int x0) (by simp [lv_args, Value.category])) ?_
    have h9 := pw_end (k := 113) (n := 1) (index := 41) (pc := 2) (i := i) (y := y.1) (Y2 := r0.2.1) (ps := [.int x0]) (v := Int32.ofInt r0.1) (t := r0.2.2) (hh := LTb 313) (H := s.heap) (locs := []) (cells := 0) (slots := 0) (ls := ls) (e := e) (below := below) (Qc := Qc) X hrt hlk hl htab (by decide) (by decide +kernel)
      ⟨⟨by show TH 113 + 8 + 1 ≤ LH 313 + 1; decide +kernel, by show TH 113 + 1 + 1 ≤ LH 313 + 1; decide +kernel⟩, by show 8 + (TM 113 + 11) + (60 * (TH 113 + 1) + 200) ≤ 60 * (LH 313 + 1); decide +kernel⟩
      (show Cond.methodLink "LilyWheelsLaw" 41 (TN 113) ∈ ri_LW from List.mem_filter.mpr ⟨by decide +kernel, by decide +kernel⟩) (show Cond.instanceMethod (TN 113) ∈ ri_LW from List.mem_filter.mpr ⟨by decide +kernel, by decide +kernel⟩) (show Cond.selects (TN 113).cls (TN 113) (TN 113) ∈ ri_LW from List.mem_filter.mpr ⟨by decide +kernel, by decide +kernel⟩) (show Cond.initialized (TN 113).cls ∈ ri_LW from List.mem_filter.mpr ⟨by decide +kernel, by decide +kernel⟩) (show Cond.code (TN 113) (TB 113) (TM 113) (TR 113) ∈ ri_LW from List.mem_filter.mpr ⟨by decide +kernel, by decide +kernel⟩) ⟨⟨by decide +kernel, by decide +kernel⟩, by decide +kernel⟩
      (by decide +kernel) (by decide +kernel) (show ∀ f ∈ ([2] : List Nat), wr_H (LB 313) (LM 313) 2 (LTb 313) f from List.forall_mem_cons.mpr ⟨⟨[], [], 0, 5, 6, 2, 7, rfl, (fun _ h => nomatch h), by decide, Or.inl ⟨2, by decide +kernel, rfl, rfl⟩, by decide +kernel, by decide +kernel, by decide +kernel⟩, (fun _ h => nomatch h)⟩)
      rfl rfl hsz hwf hI ho (by show 0 + _ ≤ _; rw [Nat.zero_add]; exact Nat.le_refl _) (by show 0 + _ ≤ 6 * _; rw [Nat.zero_add]; exact Nat.le_refl _) (fun t2 locs2 h => hfin t2 locs2 h)
    rw [Nat.zero_add, Nat.zero_add] at h9
    exact h9
  · cases hgp
theorem pm_314 (hl : l.stackTraces = false) {y : (gy × gy) × Nat} {i : Bool} {ps : List Value} {r0 : Int × (gy × Nat)} (hgp : p114 ps (gg y.1 i) = some r0) (ho : ob (gg y.1 i) r0.2.1 114 ps (Int32.ofInt r0.1) r0.2.2) (hfit : ri_fit (LM 314) (.ref (gi C0 i) :: ps) = true) : lm_Met (gr C0) Km b0 L0 xs0 D dT C0 LN LWd LH l 314 (.ref (gi C0 i) :: ps) y (.int (Int32.ofInt r0.1)) (gz y.1 i r0.2.1, y.2 + r0.2.2) := by
  simp only [p114] at hgp
  split at hgp
  · rename_i x0 x1
    refine pm_of rfl rfl (ri_fit_len _ _ hfit) ?_
    intro p e s m args below meth c Qc X hrt hlk htab hI ls hsz hwf hlv hfin
    have e2 : ((gz y.1 i r0.2.1, y.2 + r0.2.2) : (gy × gy) × Nat).2 - y.2 = r0.2.2 := by
      show y.2 + r0.2.2 - y.2 = _
      omega
    rw [e2] at X ⊢
    refine lv_aload_n X.1.1 X.1.2.1 (show decode (LB 314) 0 = .ok (.aload_n 0, 1) by decide +kernel) rfl (hlv (0, .ref (gi C0 i)) (by simp [lv_args, Value.category])) ?_
    refine lv_iload_n X.1.1 X.1.2.1 (show decode (LB 314) 1 = .ok (.iload_n 1, 1) by decide +kernel) rfl (hlv (1, .int x0) (by simp [lv_args, Value.category])) ?_
    refine lv_iload_n X.1.1 X.1.2.1 (show decode (LB 314) 2 = .ok (.iload_n 2, 1) by decide +kernel) rfl (hlv (2, .int x1) (by simp [lv_args, Value.category])) ?_
    have h9 := pw_end (k := 114) (n := 2) (index := 44) (pc := 3) (i := i) (y := y.1) (Y2 := r0.2.1) (ps := [.int x0, .int x1]) (v := Int32.ofInt r0.1) (t := r0.2.2) (hh := LTb 314) (H := s.heap) (locs := []) (cells := 0) (slots := 0) (ls := ls) (e := e) (below := below) (Qc := Qc) X hrt hlk hl htab (by decide) (by decide +kernel)
      ⟨⟨by show TH 114 + 8 + 1 ≤ LH 314 + 1; decide +kernel, by show TH 114 + 1 + 1 ≤ LH 314 + 1; decide +kernel⟩, by show 8 + (TM 114 + 11) + (60 * (TH 114 + 1) + 200) ≤ 60 * (LH 314 + 1); decide +kernel⟩
      (show Cond.methodLink "LilyWheelsLaw" 44 (TN 114) ∈ ri_LW from List.mem_filter.mpr ⟨by decide +kernel, by decide +kernel⟩) (show Cond.instanceMethod (TN 114) ∈ ri_LW from List.mem_filter.mpr ⟨by decide +kernel, by decide +kernel⟩) (show Cond.selects (TN 114).cls (TN 114) (TN 114) ∈ ri_LW from List.mem_filter.mpr ⟨by decide +kernel, by decide +kernel⟩) (show Cond.initialized (TN 114).cls ∈ ri_LW from List.mem_filter.mpr ⟨by decide +kernel, by decide +kernel⟩) (show Cond.code (TN 114) (TB 114) (TM 114) (TR 114) ∈ ri_LW from List.mem_filter.mpr ⟨by decide +kernel, by decide +kernel⟩) ⟨⟨by decide +kernel, by decide +kernel⟩, by decide +kernel⟩
      (by decide +kernel) (by decide +kernel) (show ∀ f ∈ ([1, 2] : List Nat), wr_H (LB 314) (LM 314) 3 (LTb 314) f from List.forall_mem_cons.mpr ⟨⟨[], [(0, 6, 11, 16)], 0, 6, 7, 3, 8, rfl, (fun _ h => nomatch h), by decide, Or.inl ⟨3, by decide +kernel, rfl, rfl⟩, by decide +kernel, by decide +kernel, by decide +kernel⟩, List.forall_mem_cons.mpr ⟨⟨[(0, 6, 7, 13)], [], 0, 6, 11, 3, 12, rfl, List.forall_mem_cons.mpr ⟨⟨1, ⟨by decide, by decide⟩, by decide, rfl⟩, (fun _ h => nomatch h)⟩, by decide, Or.inl ⟨3, by decide +kernel, rfl, rfl⟩, by decide +kernel, by decide +kernel, by decide +kernel⟩, (fun _ h => nomatch h)⟩⟩)
      rfl rfl hsz hwf hI ho (by show 0 + _ ≤ _; rw [Nat.zero_add]; exact Nat.le_refl _) (by show 0 + _ ≤ 6 * _; rw [Nat.zero_add]; exact Nat.le_refl _) (fun t2 locs2 h => hfin t2 locs2 h)
    rw [Nat.zero_add, Nat.zero_add] at h9
    exact h9
  · cases hgp
theorem pm_315 (hl : l.stackTraces = false) {y : (gy × gy) × Nat} {i : Bool} {ps : List Value} {r0 : Int × (gy × Nat)} (hgp : p115 ps (gg y.1 i) = some r0) (ho : ob (gg y.1 i) r0.2.1 115 ps (Int32.ofInt r0.1) r0.2.2) (hfit : ri_fit (LM 315) (.ref (gi C0 i) :: ps) = true) : lm_Met (gr C0) Km b0 L0 xs0 D dT C0 LN LWd LH l 315 (.ref (gi C0 i) :: ps) y (.int (Int32.ofInt r0.1)) (gz y.1 i r0.2.1, y.2 + r0.2.2) := by
  simp only [p115] at hgp
  split at hgp
  · rename_i x0 x1 x2
    refine pm_of rfl rfl (ri_fit_len _ _ hfit) ?_
    intro p e s m args below meth c Qc X hrt hlk htab hI ls hsz hwf hlv hfin
    have e2 : ((gz y.1 i r0.2.1, y.2 + r0.2.2) : (gy × gy) × Nat).2 - y.2 = r0.2.2 := by
      show y.2 + r0.2.2 - y.2 = _
      omega
    rw [e2] at X ⊢
    refine lv_aload_n X.1.1 X.1.2.1 (show decode (LB 315) 0 = .ok (.aload_n 0, 1) by decide +kernel) rfl (hlv (0, .ref (gi C0 i)) (by simp [lv_args, Value.category])) ?_
    refine lv_iload_n X.1.1 X.1.2.1 (show decode (LB 315) 1 = .ok (.iload_n 1, 1) by decide +kernel) rfl (hlv (1, .int x0) (by simp [lv_args, Value.category])) ?_
    refine lv_iload_n X.1.1 X.1.2.1 (show decode (LB 315) 2 = .ok (.iload_n 2, 1) by decide +kernel) rfl (hlv (2, .int x1) (by simp [lv_args, Value.category])) ?_
    refine lv_iload_n X.1.1 X.1.2.1 (show decode (LB 315) 3 = .ok (.iload_n 3, 1) by decide +kernel) rfl (hlv (3, .int x2) (by simp [lv_args, Value.category])) ?_
    have h9 := pw_end (k := 115) (n := 3) (index := 54) (pc := 4) (i := i) (y := y.1) (Y2 := r0.2.1) (ps := [.int x0, .int x1, .int x2]) (v := Int32.ofInt r0.1) (t := r0.2.2) (hh := LTb 315) (H := s.heap) (locs := []) (cells := 0) (slots := 0) (ls := ls) (e := e) (below := below) (Qc := Qc) X hrt hlk hl htab (by decide) (by decide +kernel)
      ⟨⟨by show TH 115 + 8 + 1 ≤ LH 315 + 1; decide +kernel, by show TH 115 + 1 + 1 ≤ LH 315 + 1; decide +kernel⟩, by show 8 + (TM 115 + 11) + (60 * (TH 115 + 1) + 200) ≤ 60 * (LH 315 + 1); decide +kernel⟩
      (show Cond.methodLink "LilyWheelsLaw" 54 (TN 115) ∈ ri_LW from List.mem_filter.mpr ⟨by decide +kernel, by decide +kernel⟩) (show Cond.instanceMethod (TN 115) ∈ ri_LW from List.mem_filter.mpr ⟨by decide +kernel, by decide +kernel⟩) (show Cond.selects (TN 115).cls (TN 115) (TN 115) ∈ ri_LW from List.mem_filter.mpr ⟨by decide +kernel, by decide +kernel⟩) (show Cond.initialized (TN 115).cls ∈ ri_LW from List.mem_filter.mpr ⟨by decide +kernel, by decide +kernel⟩) (show Cond.code (TN 115) (TB 115) (TM 115) (TR 115) ∈ ri_LW from List.mem_filter.mpr ⟨by decide +kernel, by decide +kernel⟩) ⟨⟨by decide +kernel, by decide +kernel⟩, by decide +kernel⟩
      (by decide +kernel) (by decide +kernel) (show ∀ f ∈ ([1, 2] : List Nat), wr_H (LB 315) (LM 315) 4 (LTb 315) f from List.forall_mem_cons.mpr ⟨⟨[], [(0, 7, 13, 16)], 0, 7, 8, 4, 10, rfl, (fun _ h => nomatch h), by decide, Or.inr ⟨by decide +kernel, rfl⟩, by decide +kernel, by decide +kernel, by decide +kernel⟩, List.forall_mem_cons.mpr ⟨⟨[(0, 7, 8, 13)], [], 0, 7, 13, 4, 15, rfl, List.forall_mem_cons.mpr ⟨⟨1, ⟨by decide, by decide⟩, by decide, rfl⟩, (fun _ h => nomatch h)⟩, by decide, Or.inr ⟨by decide +kernel, rfl⟩, by decide +kernel, by decide +kernel, by decide +kernel⟩, (fun _ h => nomatch h)⟩⟩)
      rfl rfl hsz hwf hI ho (by show 0 + _ ≤ _; rw [Nat.zero_add]; exact Nat.le_refl _) (by show 0 + _ ≤ 6 * _; rw [Nat.zero_add]; exact Nat.le_refl _) (fun t2 locs2 h => hfin t2 locs2 h)
    rw [Nat.zero_add, Nat.zero_add] at h9
    exact h9
  · cases hgp
theorem pm_316 (hl : l.stackTraces = false) {y : (gy × gy) × Nat} {i : Bool} {ps : List Value} {r0 : Int × (gy × Nat)} (hgp : p116 ps (gg y.1 i) = some r0) (ho : ob (gg y.1 i) r0.2.1 116 ps (Int32.ofInt r0.1) r0.2.2) (hfit : ri_fit (LM 316) (.ref (gi C0 i) :: ps) = true) : lm_Met (gr C0) Km b0 L0 xs0 D dT C0 LN LWd LH l 316 (.ref (gi C0 i) :: ps) y (.int (Int32.ofInt r0.1)) (gz y.1 i r0.2.1, y.2 + r0.2.2) := by
  simp only [p116] at hgp
  split at hgp
  · rename_i x0 x1
    refine pm_of rfl rfl (ri_fit_len _ _ hfit) ?_
    intro p e s m args below meth c Qc X hrt hlk htab hI ls hsz hwf hlv hfin
    have e2 : ((gz y.1 i r0.2.1, y.2 + r0.2.2) : (gy × gy) × Nat).2 - y.2 = r0.2.2 := by
      show y.2 + r0.2.2 - y.2 = _
      omega
    rw [e2] at X ⊢
    refine lv_aload_n X.1.1 X.1.2.1 (show decode (LB 316) 0 = .ok (.aload_n 0, 1) by decide +kernel) rfl (hlv (0, .ref (gi C0 i)) (by simp [lv_args, Value.category])) ?_
    refine lv_iload_n X.1.1 X.1.2.1 (show decode (LB 316) 1 = .ok (.iload_n 1, 1) by decide +kernel) rfl (hlv (1, .int x0) (by simp [lv_args, Value.category])) ?_
    refine lv_iload_n X.1.1 X.1.2.1 (show decode (LB 316) 2 = .ok (.iload_n 2, 1) by decide +kernel) rfl (hlv (2, .int x1) (by simp [lv_args, Value.category])) ?_
    have h9 := pw_end (k := 116) (n := 2) (index := 48) (pc := 3) (i := i) (y := y.1) (Y2 := r0.2.1) (ps := [.int x0, .int x1]) (v := Int32.ofInt r0.1) (t := r0.2.2) (hh := LTb 316) (H := s.heap) (locs := []) (cells := 0) (slots := 0) (ls := ls) (e := e) (below := below) (Qc := Qc) X hrt hlk hl htab (by decide) (by decide +kernel)
      ⟨⟨by show TH 116 + 8 + 1 ≤ LH 316 + 1; decide +kernel, by show TH 116 + 1 + 1 ≤ LH 316 + 1; decide +kernel⟩, by show 8 + (TM 116 + 11) + (60 * (TH 116 + 1) + 200) ≤ 60 * (LH 316 + 1); decide +kernel⟩
      (show Cond.methodLink "LilyWheelsLaw" 48 (TN 116) ∈ ri_LW from List.mem_filter.mpr ⟨by decide +kernel, by decide +kernel⟩) (show Cond.instanceMethod (TN 116) ∈ ri_LW from List.mem_filter.mpr ⟨by decide +kernel, by decide +kernel⟩) (show Cond.selects (TN 116).cls (TN 116) (TN 116) ∈ ri_LW from List.mem_filter.mpr ⟨by decide +kernel, by decide +kernel⟩) (show Cond.initialized (TN 116).cls ∈ ri_LW from List.mem_filter.mpr ⟨by decide +kernel, by decide +kernel⟩) (show Cond.code (TN 116) (TB 116) (TM 116) (TR 116) ∈ ri_LW from List.mem_filter.mpr ⟨by decide +kernel, by decide +kernel⟩) ⟨⟨by decide +kernel, by decide +kernel⟩, by decide +kernel⟩
      (by decide +kernel) (by decide +kernel) (show ∀ f ∈ ([1, 2] : List Nat), wr_H (LB 316) (LM 316) 3 (LTb 316) f from List.forall_mem_cons.mpr ⟨⟨[], [(0, 6, 11, 16)], 0, 6, 7, 3, 8, rfl, (fun _ h => nomatch h), by decide, Or.inl ⟨3, by decide +kernel, rfl, rfl⟩, by decide +kernel, by decide +kernel, by decide +kernel⟩, List.forall_mem_cons.mpr ⟨⟨[(0, 6, 7, 13)], [], 0, 6, 11, 3, 12, rfl, List.forall_mem_cons.mpr ⟨⟨1, ⟨by decide, by decide⟩, by decide, rfl⟩, (fun _ h => nomatch h)⟩, by decide, Or.inl ⟨3, by decide +kernel, rfl, rfl⟩, by decide +kernel, by decide +kernel, by decide +kernel⟩, (fun _ h => nomatch h)⟩⟩)
      rfl rfl hsz hwf hI ho (by show 0 + _ ≤ _; rw [Nat.zero_add]; exact Nat.le_refl _) (by show 0 + _ ≤ 6 * _; rw [Nat.zero_add]; exact Nat.le_refl _) (fun t2 locs2 h => hfin t2 locs2 h)
    rw [Nat.zero_add, Nat.zero_add] at h9
    exact h9
  · cases hgp
theorem pm_317 (hl : l.stackTraces = false) {y : (gy × gy) × Nat} {i : Bool} {ps : List Value} {r0 : Int × (gy × Nat)} (hgp : p117 ps (gg y.1 i) = some r0) (ho : ob (gg y.1 i) r0.2.1 117 ps (Int32.ofInt r0.1) r0.2.2) (hfit : ri_fit (LM 317) (.ref (gi C0 i) :: ps) = true) : lm_Met (gr C0) Km b0 L0 xs0 D dT C0 LN LWd LH l 317 (.ref (gi C0 i) :: ps) y (.int (Int32.ofInt r0.1)) (gz y.1 i r0.2.1, y.2 + r0.2.2) := by
  simp only [p117] at hgp
  split at hgp
  · rename_i x0 x1
    refine pm_of rfl rfl (ri_fit_len _ _ hfit) ?_
    intro p e s m args below meth c Qc X hrt hlk htab hI ls hsz hwf hlv hfin
    have e2 : ((gz y.1 i r0.2.1, y.2 + r0.2.2) : (gy × gy) × Nat).2 - y.2 = r0.2.2 := by
      show y.2 + r0.2.2 - y.2 = _
      omega
    rw [e2] at X ⊢
    refine lv_aload_n X.1.1 X.1.2.1 (show decode (LB 317) 0 = .ok (.aload_n 0, 1) by decide +kernel) rfl (hlv (0, .ref (gi C0 i)) (by simp [lv_args, Value.category])) ?_
    refine lv_iload_n X.1.1 X.1.2.1 (show decode (LB 317) 1 = .ok (.iload_n 1, 1) by decide +kernel) rfl (hlv (1, .int x0) (by simp [lv_args, Value.category])) ?_
    refine lv_iload_n X.1.1 X.1.2.1 (show decode (LB 317) 2 = .ok (.iload_n 2, 1) by decide +kernel) rfl (hlv (2, .int x1) (by simp [lv_args, Value.category])) ?_
    have h9 := pw_end (k := 117) (n := 2) (index := 51) (pc := 3) (i := i) (y := y.1) (Y2 := r0.2.1) (ps := [.int x0, .int x1]) (v := Int32.ofInt r0.1) (t := r0.2.2) (hh := LTb 317) (H := s.heap) (locs := []) (cells := 0) (slots := 0) (ls := ls) (e := e) (below := below) (Qc := Qc) X hrt hlk hl htab (by decide) (by decide +kernel)
      ⟨⟨by show TH 117 + 8 + 1 ≤ LH 317 + 1; decide +kernel, by show TH 117 + 1 + 1 ≤ LH 317 + 1; decide +kernel⟩, by show 8 + (TM 117 + 11) + (60 * (TH 117 + 1) + 200) ≤ 60 * (LH 317 + 1); decide +kernel⟩
      (show Cond.methodLink "LilyWheelsLaw" 51 (TN 117) ∈ ri_LW from List.mem_filter.mpr ⟨by decide +kernel, by decide +kernel⟩) (show Cond.instanceMethod (TN 117) ∈ ri_LW from List.mem_filter.mpr ⟨by decide +kernel, by decide +kernel⟩) (show Cond.selects (TN 117).cls (TN 117) (TN 117) ∈ ri_LW from List.mem_filter.mpr ⟨by decide +kernel, by decide +kernel⟩) (show Cond.initialized (TN 117).cls ∈ ri_LW from List.mem_filter.mpr ⟨by decide +kernel, by decide +kernel⟩) (show Cond.code (TN 117) (TB 117) (TM 117) (TR 117) ∈ ri_LW from List.mem_filter.mpr ⟨by decide +kernel, by decide +kernel⟩) ⟨⟨by decide +kernel, by decide +kernel⟩, by decide +kernel⟩
      (by decide +kernel) (by decide +kernel) (show ∀ f ∈ ([1, 2] : List Nat), wr_H (LB 317) (LM 317) 3 (LTb 317) f from List.forall_mem_cons.mpr ⟨⟨[], [(0, 6, 11, 16)], 0, 6, 7, 3, 8, rfl, (fun _ h => nomatch h), by decide, Or.inl ⟨3, by decide +kernel, rfl, rfl⟩, by decide +kernel, by decide +kernel, by decide +kernel⟩, List.forall_mem_cons.mpr ⟨⟨[(0, 6, 7, 13)], [], 0, 6, 11, 3, 12, rfl, List.forall_mem_cons.mpr ⟨⟨1, ⟨by decide, by decide⟩, by decide, rfl⟩, (fun _ h => nomatch h)⟩, by decide, Or.inl ⟨3, by decide +kernel, rfl, rfl⟩, by decide +kernel, by decide +kernel, by decide +kernel⟩, (fun _ h => nomatch h)⟩⟩)
      rfl rfl hsz hwf hI ho (by show 0 + _ ≤ _; rw [Nat.zero_add]; exact Nat.le_refl _) (by show 0 + _ ≤ 6 * _; rw [Nat.zero_add]; exact Nat.le_refl _) (fun t2 locs2 h => hfin t2 locs2 h)
    rw [Nat.zero_add, Nat.zero_add] at h9
    exact h9
  · cases hgp
theorem pm_318 (hl : l.stackTraces = false) {y : (gy × gy) × Nat} {i : Bool} {ps : List Value} {r0 : Int × (gy × Nat)} (hgp : p118 ps (gg y.1 i) = some r0) (ho : ob (gg y.1 i) r0.2.1 118 ps (Int32.ofInt r0.1) r0.2.2) (hfit : ri_fit (LM 318) (.ref (gi C0 i) :: ps) = true) : lm_Met (gr C0) Km b0 L0 xs0 D dT C0 LN LWd LH l 318 (.ref (gi C0 i) :: ps) y (.int (Int32.ofInt r0.1)) (gz y.1 i r0.2.1, y.2 + r0.2.2) := by
  simp only [p118] at hgp
  split at hgp
  · rename_i x0 x1 x2
    refine pm_of rfl rfl (ri_fit_len _ _ hfit) ?_
    intro p e s m args below meth c Qc X hrt hlk htab hI ls hsz hwf hlv hfin
    have e2 : ((gz y.1 i r0.2.1, y.2 + r0.2.2) : (gy × gy) × Nat).2 - y.2 = r0.2.2 := by
      show y.2 + r0.2.2 - y.2 = _
      omega
    rw [e2] at X ⊢
    refine lv_aload_n X.1.1 X.1.2.1 (show decode (LB 318) 0 = .ok (.aload_n 0, 1) by decide +kernel) rfl (hlv (0, .ref (gi C0 i)) (by simp [lv_args, Value.category])) ?_
    refine lv_iload_n X.1.1 X.1.2.1 (show decode (LB 318) 1 = .ok (.iload_n 1, 1) by decide +kernel) rfl (hlv (1, .int x0) (by simp [lv_args, Value.category])) ?_
    refine lv_iload_n X.1.1 X.1.2.1 (show decode (LB 318) 2 = .ok (.iload_n 2, 1) by decide +kernel) rfl (hlv (2, .int x1) (by simp [lv_args, Value.category])) ?_
    refine lv_iload_n X.1.1 X.1.2.1 (show decode (LB 318) 3 = .ok (.iload_n 3, 1) by decide +kernel) rfl (hlv (3, .int x2) (by simp [lv_args, Value.category])) ?_
    have h9 := pw_end (k := 118) (n := 3) (index := 58) (pc := 4) (i := i) (y := y.1) (Y2 := r0.2.1) (ps := [.int x0, .int x1, .int x2]) (v := Int32.ofInt r0.1) (t := r0.2.2) (hh := LTb 318) (H := s.heap) (locs := []) (cells := 0) (slots := 0) (ls := ls) (e := e) (below := below) (Qc := Qc) X hrt hlk hl htab (by decide) (by decide +kernel)
      ⟨⟨by show TH 118 + 8 + 1 ≤ LH 318 + 1; decide +kernel, by show TH 118 + 1 + 1 ≤ LH 318 + 1; decide +kernel⟩, by show 8 + (TM 118 + 11) + (60 * (TH 118 + 1) + 200) ≤ 60 * (LH 318 + 1); decide +kernel⟩
      (show Cond.methodLink "LilyWheelsLaw" 58 (TN 118) ∈ ri_LW from List.mem_filter.mpr ⟨by decide +kernel, by decide +kernel⟩) (show Cond.instanceMethod (TN 118) ∈ ri_LW from List.mem_filter.mpr ⟨by decide +kernel, by decide +kernel⟩) (show Cond.selects (TN 118).cls (TN 118) (TN 118) ∈ ri_LW from List.mem_filter.mpr ⟨by decide +kernel, by decide +kernel⟩) (show Cond.initialized (TN 118).cls ∈ ri_LW from List.mem_filter.mpr ⟨by decide +kernel, by decide +kernel⟩) (show Cond.code (TN 118) (TB 118) (TM 118) (TR 118) ∈ ri_LW from List.mem_filter.mpr ⟨by decide +kernel, by decide +kernel⟩) ⟨⟨by decide +kernel, by decide +kernel⟩, by decide +kernel⟩
      (by decide +kernel) (by decide +kernel) (show ∀ f ∈ ([2, 3] : List Nat), wr_H (LB 318) (LM 318) 4 (LTb 318) f from List.forall_mem_cons.mpr ⟨⟨[], [(0, 7, 13, 19)], 0, 7, 8, 4, 10, rfl, (fun _ h => nomatch h), by decide, Or.inr ⟨by decide +kernel, rfl⟩, by decide +kernel, by decide +kernel, by decide +kernel⟩, List.forall_mem_cons.mpr ⟨⟨[(0, 7, 8, 16)], [], 0, 7, 13, 4, 15, rfl, List.forall_mem_cons.mpr ⟨⟨2, ⟨by decide, by decide⟩, by decide, rfl⟩, (fun _ h => nomatch h)⟩, by decide, Or.inr ⟨by decide +kernel, rfl⟩, by decide +kernel, by decide +kernel, by decide +kernel⟩, (fun _ h => nomatch h)⟩⟩)
      rfl rfl hsz hwf hI ho (by show 0 + _ ≤ _; rw [Nat.zero_add]; exact Nat.le_refl _) (by show 0 + _ ≤ 6 * _; rw [Nat.zero_add]; exact Nat.le_refl _) (fun t2 locs2 h => hfin t2 locs2 h)
    rw [Nat.zero_add, Nat.zero_add] at h9
    exact h9
  · cases hgp
theorem pm_319 (hl : l.stackTraces = false) {y : (gy × gy) × Nat} {i : Bool} {ps : List Value} {r0 : Int × (gy × Nat)} (hgp : p119 ps (gg y.1 i) = some r0) (ho : ob (gg y.1 i) r0.2.1 119 ps (Int32.ofInt r0.1) r0.2.2) (hfit : ri_fit (LM 319) (.ref (gi C0 i) :: ps) = true) : lm_Met (gr C0) Km b0 L0 xs0 D dT C0 LN LWd LH l 319 (.ref (gi C0 i) :: ps) y (.int (Int32.ofInt r0.1)) (gz y.1 i r0.2.1, y.2 + r0.2.2) := by
  simp only [p119] at hgp
  split at hgp
  · rename_i x0 x1 x2 x3
    refine pm_of rfl rfl (ri_fit_len _ _ hfit) ?_
    intro p e s m args below meth c Qc X hrt hlk htab hI ls hsz hwf hlv hfin
    have e2 : ((gz y.1 i r0.2.1, y.2 + r0.2.2) : (gy × gy) × Nat).2 - y.2 = r0.2.2 := by
      show y.2 + r0.2.2 - y.2 = _
      omega
    rw [e2] at X ⊢
    refine lv_aload_n X.1.1 X.1.2.1 (show decode (LB 319) 0 = .ok (.aload_n 0, 1) by decide +kernel) rfl (hlv (0, .ref (gi C0 i)) (by simp [lv_args, Value.category])) ?_
    refine lv_iload_n X.1.1 X.1.2.1 (show decode (LB 319) 1 = .ok (.iload_n 1, 1) by decide +kernel) rfl (hlv (1, .int x0) (by simp [lv_args, Value.category])) ?_
    refine lv_iload_n X.1.1 X.1.2.1 (show decode (LB 319) 2 = .ok (.iload_n 2, 1) by decide +kernel) rfl (hlv (2, .int x1) (by simp [lv_args, Value.category])) ?_
    refine lv_iload_n X.1.1 X.1.2.1 (show decode (LB 319) 3 = .ok (.iload_n 3, 1) by decide +kernel) rfl (hlv (3, .int x2) (by simp [lv_args, Value.category])) ?_
    refine lv_iload X.1.1 X.1.2.1 (show decode (LB 319) 4 = .ok (.iload 4, 2) by decide +kernel) (hlv (4, .int x3) (by simp [lv_args, Value.category])) ?_
    have h9 := pw_end (k := 119) (n := 4) (index := 7) (pc := 6) (i := i) (y := y.1) (Y2 := r0.2.1) (ps := [.int x0, .int x1, .int x2, .int x3]) (v := Int32.ofInt r0.1) (t := r0.2.2) (hh := LTb 319) (H := s.heap) (locs := []) (cells := 0) (slots := 0) (ls := ls) (e := e) (below := below) (Qc := Qc) X hrt hlk hl htab (by decide) (by decide +kernel)
      ⟨⟨by show TH 119 + 8 + 1 ≤ LH 319 + 1; decide +kernel, by show TH 119 + 1 + 1 ≤ LH 319 + 1; decide +kernel⟩, by show 8 + (TM 119 + 11) + (60 * (TH 119 + 1) + 200) ≤ 60 * (LH 319 + 1); decide +kernel⟩
      (show Cond.methodLink "LilyWheelsLaw" 7 (TN 119) ∈ ri_LW from List.mem_filter.mpr ⟨by decide +kernel, by decide +kernel⟩) (show Cond.instanceMethod (TN 119) ∈ ri_LW from List.mem_filter.mpr ⟨by decide +kernel, by decide +kernel⟩) (show Cond.selects (TN 119).cls (TN 119) (TN 119) ∈ ri_LW from List.mem_filter.mpr ⟨by decide +kernel, by decide +kernel⟩) (show Cond.initialized (TN 119).cls ∈ ri_LW from List.mem_filter.mpr ⟨by decide +kernel, by decide +kernel⟩) (show Cond.code (TN 119) (TB 119) (TM 119) (TR 119) ∈ ri_LW from List.mem_filter.mpr ⟨by decide +kernel, by decide +kernel⟩) ⟨⟨by decide +kernel, by decide +kernel⟩, by decide +kernel⟩
      (by decide +kernel) (by decide +kernel) (show ∀ f ∈ ([1, 2, 3] : List Nat), wr_H (LB 319) (LM 319) 6 (LTb 319) f from List.forall_mem_cons.mpr ⟨⟨[], [(0, 9, 15, 16), (0, 9, 20, 19)], 0, 9, 10, 5, 12, rfl, (fun _ h => nomatch h), by decide, Or.inr ⟨by decide +kernel, rfl⟩, by decide +kernel, by decide +kernel, by decide +kernel⟩, List.forall_mem_cons.mpr ⟨⟨[(0, 9, 10, 13)], [(0, 9, 20, 19)], 0, 9, 15, 5, 17, rfl, List.forall_mem_cons.mpr ⟨⟨1, ⟨by decide, by decide⟩, by decide, rfl⟩, (fun _ h => nomatch h)⟩, by decide, Or.inr ⟨by decide +kernel, rfl⟩, by decide +kernel, by decide +kernel, by decide +kernel⟩, List.forall_mem_cons.mpr ⟨⟨[(0, 9, 10, 13), (0, 9, 15, 16)], [], 0, 9, 20, 5, 22, rfl, List.forall_mem_cons.mpr ⟨⟨1, ⟨by decide, by decide⟩, by decide, rfl⟩, List.forall_mem_cons.mpr ⟨⟨2, ⟨by decide, by decide⟩, by decide, rfl⟩, (fun _ h => nomatch h)⟩⟩, by decide, Or.inr ⟨by decide +kernel, rfl⟩, by decide +kernel, by decide +kernel, by decide +kernel⟩, (fun _ h => nomatch h)⟩⟩⟩)
      rfl rfl hsz hwf hI ho (by show 0 + _ ≤ _; rw [Nat.zero_add]; exact Nat.le_refl _) (by show 0 + _ ≤ 6 * _; rw [Nat.zero_add]; exact Nat.le_refl _) (fun t2 locs2 h => hfin t2 locs2 h)
    rw [Nat.zero_add, Nat.zero_add] at h9
    exact h9
  · cases hgp
theorem pm_320 (hl : l.stackTraces = false) {y : (gy × gy) × Nat} {i : Bool} {ps : List Value} {r0 : Int × (gy × Nat)} (hgp : p120 ps (gg y.1 i) = some r0) (ho : ob (gg y.1 i) r0.2.1 120 ps (Int32.ofInt r0.1) r0.2.2) (hfit : ri_fit (LM 320) (.ref (gi C0 i) :: ps) = true) : lm_Met (gr C0) Km b0 L0 xs0 D dT C0 LN LWd LH l 320 (.ref (gi C0 i) :: ps) y (.int (Int32.ofInt r0.1)) (gz y.1 i r0.2.1, y.2 + r0.2.2) := by
  simp only [p120] at hgp
  split at hgp
  · rename_i x0 x1 x2
    refine pm_of rfl rfl (ri_fit_len _ _ hfit) ?_
    intro p e s m args below meth c Qc X hrt hlk htab hI ls hsz hwf hlv hfin
    have e2 : ((gz y.1 i r0.2.1, y.2 + r0.2.2) : (gy × gy) × Nat).2 - y.2 = r0.2.2 := by
      show y.2 + r0.2.2 - y.2 = _
      omega
    rw [e2] at X ⊢
    refine lv_aload_n X.1.1 X.1.2.1 (show decode (LB 320) 0 = .ok (.aload_n 0, 1) by decide +kernel) rfl (hlv (0, .ref (gi C0 i)) (by simp [lv_args, Value.category])) ?_
    refine lv_iload_n X.1.1 X.1.2.1 (show decode (LB 320) 1 = .ok (.iload_n 1, 1) by decide +kernel) rfl (hlv (1, .int x0) (by simp [lv_args, Value.category])) ?_
    refine lv_iload_n X.1.1 X.1.2.1 (show decode (LB 320) 2 = .ok (.iload_n 2, 1) by decide +kernel) rfl (hlv (2, .int x1) (by simp [lv_args, Value.category])) ?_
    refine lv_iload_n X.1.1 X.1.2.1 (show decode (LB 320) 3 = .ok (.iload_n 3, 1) by decide +kernel) rfl (hlv (3, .int x2) (by simp [lv_args, Value.category])) ?_
    have h9 := pw_end (k := 120) (n := 3) (index := 61) (pc := 4) (i := i) (y := y.1) (Y2 := r0.2.1) (ps := [.int x0, .int x1, .int x2]) (v := Int32.ofInt r0.1) (t := r0.2.2) (hh := LTb 320) (H := s.heap) (locs := []) (cells := 0) (slots := 0) (ls := ls) (e := e) (below := below) (Qc := Qc) X hrt hlk hl htab (by decide) (by decide +kernel)
      ⟨⟨by show TH 120 + 8 + 1 ≤ LH 320 + 1; decide +kernel, by show TH 120 + 1 + 1 ≤ LH 320 + 1; decide +kernel⟩, by show 8 + (TM 120 + 11) + (60 * (TH 120 + 1) + 200) ≤ 60 * (LH 320 + 1); decide +kernel⟩
      (show Cond.methodLink "LilyWheelsLaw" 61 (TN 120) ∈ ri_LW from List.mem_filter.mpr ⟨by decide +kernel, by decide +kernel⟩) (show Cond.instanceMethod (TN 120) ∈ ri_LW from List.mem_filter.mpr ⟨by decide +kernel, by decide +kernel⟩) (show Cond.selects (TN 120).cls (TN 120) (TN 120) ∈ ri_LW from List.mem_filter.mpr ⟨by decide +kernel, by decide +kernel⟩) (show Cond.initialized (TN 120).cls ∈ ri_LW from List.mem_filter.mpr ⟨by decide +kernel, by decide +kernel⟩) (show Cond.code (TN 120) (TB 120) (TM 120) (TR 120) ∈ ri_LW from List.mem_filter.mpr ⟨by decide +kernel, by decide +kernel⟩) ⟨⟨by decide +kernel, by decide +kernel⟩, by decide +kernel⟩
      (by decide +kernel) (by decide +kernel) (show ∀ f ∈ ([1, 2, 3] : List Nat), wr_H (LB 320) (LM 320) 4 (LTb 320) f from List.forall_mem_cons.mpr ⟨⟨[], [(0, 7, 13, 16), (0, 7, 18, 19)], 0, 7, 8, 4, 10, rfl, (fun _ h => nomatch h), by decide, Or.inr ⟨by decide +kernel, rfl⟩, by decide +kernel, by decide +kernel, by decide +kernel⟩, List.forall_mem_cons.mpr ⟨⟨[(0, 7, 8, 13)], [(0, 7, 18, 19)], 0, 7, 13, 4, 15, rfl, List.forall_mem_cons.mpr ⟨⟨1, ⟨by decide, by decide⟩, by decide, rfl⟩, (fun _ h => nomatch h)⟩, by decide, Or.inr ⟨by decide +kernel, rfl⟩, by decide +kernel, by decide +kernel, by decide +kernel⟩, List.forall_mem_cons.mpr ⟨⟨[(0, 7, 8, 13), (0, 7, 13, 16)], [], 0, 7, 18, 4, 20, rfl, List.forall_mem_cons.mpr ⟨⟨1, ⟨by decide, by decide⟩, by decide, rfl⟩, List.forall_mem_cons.mpr ⟨⟨2, ⟨by decide, by decide⟩, by decide, rfl⟩, (fun _ h => nomatch h)⟩⟩, by decide, Or.inr ⟨by decide +kernel, rfl⟩, by decide +kernel, by decide +kernel, by decide +kernel⟩, (fun _ h => nomatch h)⟩⟩⟩)
      rfl rfl hsz hwf hI ho (by show 0 + _ ≤ _; rw [Nat.zero_add]; exact Nat.le_refl _) (by show 0 + _ ≤ 6 * _; rw [Nat.zero_add]; exact Nat.le_refl _) (fun t2 locs2 h => hfin t2 locs2 h)
    rw [Nat.zero_add, Nat.zero_add] at h9
    exact h9
  · cases hgp
theorem pm_321 (hl : l.stackTraces = false) {y : (gy × gy) × Nat} {i : Bool} {ps : List Value} {r0 : Int × (gy × Nat)} (hgp : p121 ps (gg y.1 i) = some r0) (ho : ob (gg y.1 i) r0.2.1 121 ps (Int32.ofInt r0.1) r0.2.2) (hfit : ri_fit (LM 321) (.ref (gi C0 i) :: ps) = true) : lm_Met (gr C0) Km b0 L0 xs0 D dT C0 LN LWd LH l 321 (.ref (gi C0 i) :: ps) y (.int (Int32.ofInt r0.1)) (gz y.1 i r0.2.1, y.2 + r0.2.2) := by
  simp only [p121] at hgp
  split at hgp
  · rename_i x0 x1 x2
    refine pm_of rfl rfl (ri_fit_len _ _ hfit) ?_
    intro p e s m args below meth c Qc X hrt hlk htab hI ls hsz hwf hlv hfin
    have e2 : ((gz y.1 i r0.2.1, y.2 + r0.2.2) : (gy × gy) × Nat).2 - y.2 = r0.2.2 := by
      show y.2 + r0.2.2 - y.2 = _
      omega
    rw [e2] at X ⊢
    refine lv_aload_n X.1.1 X.1.2.1 (show decode (LB 321) 0 = .ok (.aload_n 0, 1) by decide +kernel) rfl (hlv (0, .ref (gi C0 i)) (by simp [lv_args, Value.category])) ?_
    refine lv_iload_n X.1.1 X.1.2.1 (show decode (LB 321) 1 = .ok (.iload_n 1, 1) by decide +kernel) rfl (hlv (1, .int x0) (by simp [lv_args, Value.category])) ?_
    refine lv_iload_n X.1.1 X.1.2.1 (show decode (LB 321) 2 = .ok (.iload_n 2, 1) by decide +kernel) rfl (hlv (2, .int x1) (by simp [lv_args, Value.category])) ?_
    refine lv_iload_n X.1.1 X.1.2.1 (show decode (LB 321) 3 = .ok (.iload_n 3, 1) by decide +kernel) rfl (hlv (3, .int x2) (by simp [lv_args, Value.category])) ?_
    have h9 := pw_end (k := 121) (n := 3) (index := 64) (pc := 4) (i := i) (y := y.1) (Y2 := r0.2.1) (ps := [.int x0, .int x1, .int x2]) (v := Int32.ofInt r0.1) (t := r0.2.2) (hh := LTb 321) (H := s.heap) (locs := []) (cells := 0) (slots := 0) (ls := ls) (e := e) (below := below) (Qc := Qc) X hrt hlk hl htab (by decide) (by decide +kernel)
      ⟨⟨by show TH 121 + 8 + 1 ≤ LH 321 + 1; decide +kernel, by show TH 121 + 1 + 1 ≤ LH 321 + 1; decide +kernel⟩, by show 8 + (TM 121 + 11) + (60 * (TH 121 + 1) + 200) ≤ 60 * (LH 321 + 1); decide +kernel⟩
      (show Cond.methodLink "LilyWheelsLaw" 64 (TN 121) ∈ ri_LW from List.mem_filter.mpr ⟨by decide +kernel, by decide +kernel⟩) (show Cond.instanceMethod (TN 121) ∈ ri_LW from List.mem_filter.mpr ⟨by decide +kernel, by decide +kernel⟩) (show Cond.selects (TN 121).cls (TN 121) (TN 121) ∈ ri_LW from List.mem_filter.mpr ⟨by decide +kernel, by decide +kernel⟩) (show Cond.initialized (TN 121).cls ∈ ri_LW from List.mem_filter.mpr ⟨by decide +kernel, by decide +kernel⟩) (show Cond.code (TN 121) (TB 121) (TM 121) (TR 121) ∈ ri_LW from List.mem_filter.mpr ⟨by decide +kernel, by decide +kernel⟩) ⟨⟨by decide +kernel, by decide +kernel⟩, by decide +kernel⟩
      (by decide +kernel) (by decide +kernel) (show ∀ f ∈ ([1, 2] : List Nat), wr_H (LB 321) (LM 321) 4 (LTb 321) f from List.forall_mem_cons.mpr ⟨⟨[], [(0, 7, 13, 16)], 0, 7, 8, 4, 10, rfl, (fun _ h => nomatch h), by decide, Or.inr ⟨by decide +kernel, rfl⟩, by decide +kernel, by decide +kernel, by decide +kernel⟩, List.forall_mem_cons.mpr ⟨⟨[(0, 7, 8, 13)], [], 0, 7, 13, 4, 15, rfl, List.forall_mem_cons.mpr ⟨⟨1, ⟨by decide, by decide⟩, by decide, rfl⟩, (fun _ h => nomatch h)⟩, by decide, Or.inr ⟨by decide +kernel, rfl⟩, by decide +kernel, by decide +kernel, by decide +kernel⟩, (fun _ h => nomatch h)⟩⟩)
      rfl rfl hsz hwf hI ho (by show 0 + _ ≤ _; rw [Nat.zero_add]; exact Nat.le_refl _) (by show 0 + _ ≤ 6 * _; rw [Nat.zero_add]; exact Nat.le_refl _) (fun t2 locs2 h => hfin t2 locs2 h)
    rw [Nat.zero_add, Nat.zero_add] at h9
    exact h9
  · cases hgp
theorem pm_322 (hl : l.stackTraces = false) {y : (gy × gy) × Nat} {i : Bool} {ps : List Value} {r0 : Int × (gy × Nat)} (hgp : p122 ps (gg y.1 i) = some r0) (ho : ob (gg y.1 i) r0.2.1 122 ps (Int32.ofInt r0.1) r0.2.2) (hfit : ri_fit (LM 322) (.ref (gi C0 i) :: ps) = true) : lm_Met (gr C0) Km b0 L0 xs0 D dT C0 LN LWd LH l 322 (.ref (gi C0 i) :: ps) y (.int (Int32.ofInt r0.1)) (gz y.1 i r0.2.1, y.2 + r0.2.2) := by
  simp only [p122] at hgp
  split at hgp
  · rename_i x0 x1
    refine pm_of rfl rfl (ri_fit_len _ _ hfit) ?_
    intro p e s m args below meth c Qc X hrt hlk htab hI ls hsz hwf hlv hfin
    have e2 : ((gz y.1 i r0.2.1, y.2 + r0.2.2) : (gy × gy) × Nat).2 - y.2 = r0.2.2 := by
      show y.2 + r0.2.2 - y.2 = _
      omega
    rw [e2] at X ⊢
    refine lv_aload_n X.1.1 X.1.2.1 (show decode (LB 322) 0 = .ok (.aload_n 0, 1) by decide +kernel) rfl (hlv (0, .ref (gi C0 i)) (by simp [lv_args, Value.category])) ?_
    refine lv_iload_n X.1.1 X.1.2.1 (show decode (LB 322) 1 = .ok (.iload_n 1, 1) by decide +kernel) rfl (hlv (1, .int x0) (by simp [lv_args, Value.category])) ?_
    refine lv_iload_n X.1.1 X.1.2.1 (show decode (LB 322) 2 = .ok (.iload_n 2, 1) by decide +kernel) rfl (hlv (2, .int x1) (by simp [lv_args, Value.category])) ?_
    have h9 := pw_end (k := 122) (n := 2) (index := 67) (pc := 3) (i := i) (y := y.1) (Y2 := r0.2.1) (ps := [.int x0, .int x1]) (v := Int32.ofInt r0.1) (t := r0.2.2) (hh := LTb 322) (H := s.heap) (locs := []) (cells := 0) (slots := 0) (ls := ls) (e := e) (below := below) (Qc := Qc) X hrt hlk hl htab (by decide) (by decide +kernel)
      ⟨⟨by show TH 122 + 8 + 1 ≤ LH 322 + 1; decide +kernel, by show TH 122 + 1 + 1 ≤ LH 322 + 1; decide +kernel⟩, by show 8 + (TM 122 + 11) + (60 * (TH 122 + 1) + 200) ≤ 60 * (LH 322 + 1); decide +kernel⟩
      (show Cond.methodLink "LilyWheelsLaw" 67 (TN 122) ∈ ri_LW from List.mem_filter.mpr ⟨by decide +kernel, by decide +kernel⟩) (show Cond.instanceMethod (TN 122) ∈ ri_LW from List.mem_filter.mpr ⟨by decide +kernel, by decide +kernel⟩) (show Cond.selects (TN 122).cls (TN 122) (TN 122) ∈ ri_LW from List.mem_filter.mpr ⟨by decide +kernel, by decide +kernel⟩) (show Cond.initialized (TN 122).cls ∈ ri_LW from List.mem_filter.mpr ⟨by decide +kernel, by decide +kernel⟩) (show Cond.code (TN 122) (TB 122) (TM 122) (TR 122) ∈ ri_LW from List.mem_filter.mpr ⟨by decide +kernel, by decide +kernel⟩) ⟨⟨by decide +kernel, by decide +kernel⟩, by decide +kernel⟩
      (by decide +kernel) (by decide +kernel) (show ∀ f ∈ ([1] : List Nat), wr_H (LB 322) (LM 322) 3 (LTb 322) f from List.forall_mem_cons.mpr ⟨⟨[], [], 0, 6, 7, 3, 8, rfl, (fun _ h => nomatch h), by decide, Or.inl ⟨3, by decide +kernel, rfl, rfl⟩, by decide +kernel, by decide +kernel, by decide +kernel⟩, (fun _ h => nomatch h)⟩)
      rfl rfl hsz hwf hI ho (by show 0 + _ ≤ _; rw [Nat.zero_add]; exact Nat.le_refl _) (by show 0 + _ ≤ 6 * _; rw [Nat.zero_add]; exact Nat.le_refl _) (fun t2 locs2 h => hfin t2 locs2 h)
    rw [Nat.zero_add, Nat.zero_add] at h9
    exact h9
  · cases hgp
theorem pm_323 (hl : l.stackTraces = false) {y : (gy × gy) × Nat} {i : Bool} {ps : List Value} {r0 : Int × (gy × Nat)} (hgp : p123 ps (gg y.1 i) = some r0) (ho : ob (gg y.1 i) r0.2.1 123 ps (Int32.ofInt r0.1) r0.2.2) (hfit : ri_fit (LM 323) (.ref (gi C0 i) :: ps) = true) : lm_Met (gr C0) Km b0 L0 xs0 D dT C0 LN LWd LH l 323 (.ref (gi C0 i) :: ps) y (.int (Int32.ofInt r0.1)) (gz y.1 i r0.2.1, y.2 + r0.2.2) := by
  simp only [p123] at hgp
  split at hgp
  · rename_i x0 x1
    refine pm_of rfl rfl (ri_fit_len _ _ hfit) ?_
    intro p e s m args below meth c Qc X hrt hlk htab hI ls hsz hwf hlv hfin
    have e2 : ((gz y.1 i r0.2.1, y.2 + r0.2.2) : (gy × gy) × Nat).2 - y.2 = r0.2.2 := by
      show y.2 + r0.2.2 - y.2 = _
      omega
    rw [e2] at X ⊢
    refine lv_aload_n X.1.1 X.1.2.1 (show decode (LB 323) 0 = .ok (.aload_n 0, 1) by decide +kernel) rfl (hlv (0, .ref (gi C0 i)) (by simp [lv_args, Value.category])) ?_
    refine lv_iload_n X.1.1 X.1.2.1 (show decode (LB 323) 1 = .ok (.iload_n 1, 1) by decide +kernel) rfl (hlv (1, .int x0) (by simp [lv_args, Value.category])) ?_
    refine lv_iload_n X.1.1 X.1.2.1 (show decode (LB 323) 2 = .ok (.iload_n 2, 1) by decide +kernel) rfl (hlv (2, .int x1) (by simp [lv_args, Value.category])) ?_
    have h9 := pw_end (k := 123) (n := 2) (index := 70) (pc := 3) (i := i) (y := y.1) (Y2 := r0.2.1) (ps := [.int x0, .int x1]) (v := Int32.ofInt r0.1) (t := r0.2.2) (hh := LTb 323) (H := s.heap) (locs := []) (cells := 0) (slots := 0) (ls := ls) (e := e) (below := below) (Qc := Qc) X hrt hlk hl htab (by decide) (by decide +kernel)
      ⟨⟨by show TH 123 + 8 + 1 ≤ LH 323 + 1; decide +kernel, by show TH 123 + 1 + 1 ≤ LH 323 + 1; decide +kernel⟩, by show 8 + (TM 123 + 11) + (60 * (TH 123 + 1) + 200) ≤ 60 * (LH 323 + 1); decide +kernel⟩
      (show Cond.methodLink "LilyWheelsLaw" 70 (TN 123) ∈ ri_LW from List.mem_filter.mpr ⟨by decide +kernel, by decide +kernel⟩) (show Cond.instanceMethod (TN 123) ∈ ri_LW from List.mem_filter.mpr ⟨by decide +kernel, by decide +kernel⟩) (show Cond.selects (TN 123).cls (TN 123) (TN 123) ∈ ri_LW from List.mem_filter.mpr ⟨by decide +kernel, by decide +kernel⟩) (show Cond.initialized (TN 123).cls ∈ ri_LW from List.mem_filter.mpr ⟨by decide +kernel, by decide +kernel⟩) (show Cond.code (TN 123) (TB 123) (TM 123) (TR 123) ∈ ri_LW from List.mem_filter.mpr ⟨by decide +kernel, by decide +kernel⟩) ⟨⟨by decide +kernel, by decide +kernel⟩, by decide +kernel⟩
      (by decide +kernel) (by decide +kernel) (show ∀ f ∈ ([1, 2] : List Nat), wr_H (LB 323) (LM 323) 3 (LTb 323) f from List.forall_mem_cons.mpr ⟨⟨[], [(0, 6, 11, 16)], 0, 6, 7, 3, 8, rfl, (fun _ h => nomatch h), by decide, Or.inl ⟨3, by decide +kernel, rfl, rfl⟩, by decide +kernel, by decide +kernel, by decide +kernel⟩, List.forall_mem_cons.mpr ⟨⟨[(0, 6, 7, 13)], [], 0, 6, 11, 3, 12, rfl, List.forall_mem_cons.mpr ⟨⟨1, ⟨by decide, by decide⟩, by decide, rfl⟩, (fun _ h => nomatch h)⟩, by decide, Or.inl ⟨3, by decide +kernel, rfl, rfl⟩, by decide +kernel, by decide +kernel, by decide +kernel⟩, (fun _ h => nomatch h)⟩⟩)
      rfl rfl hsz hwf hI ho (by show 0 + _ ≤ _; rw [Nat.zero_add]; exact Nat.le_refl _) (by show 0 + _ ≤ 6 * _; rw [Nat.zero_add]; exact Nat.le_refl _) (fun t2 locs2 h => hfin t2 locs2 h)
    rw [Nat.zero_add, Nat.zero_add] at h9
    exact h9
  · cases hgp
theorem pm_324 (hl : l.stackTraces = false) {y : (gy × gy) × Nat} {i : Bool} {ps : List Value} {r0 : Int × (gy × Nat)} (hgp : p124 ps (gg y.1 i) = some r0) (ho : ob (gg y.1 i) r0.2.1 124 ps (Int32.ofInt r0.1) r0.2.2) (hfit : ri_fit (LM 324) (.ref (gi C0 i) :: ps) = true) : lm_Met (gr C0) Km b0 L0 xs0 D dT C0 LN LWd LH l 324 (.ref (gi C0 i) :: ps) y (.int (Int32.ofInt r0.1)) (gz y.1 i r0.2.1, y.2 + r0.2.2) := by
  simp only [p124] at hgp
  split at hgp
  · rename_i x0 x1
    refine pm_of rfl rfl (ri_fit_len _ _ hfit) ?_
    intro p e s m args below meth c Qc X hrt hlk htab hI ls hsz hwf hlv hfin
    have e2 : ((gz y.1 i r0.2.1, y.2 + r0.2.2) : (gy × gy) × Nat).2 - y.2 = r0.2.2 := by
      show y.2 + r0.2.2 - y.2 = _
      omega
    rw [e2] at X ⊢
    refine lv_aload_n X.1.1 X.1.2.1 (show decode (LB 324) 0 = .ok (.aload_n 0, 1) by decide +kernel) rfl (hlv (0, .ref (gi C0 i)) (by simp [lv_args, Value.category])) ?_
    refine lv_iload_n X.1.1 X.1.2.1 (show decode (LB 324) 1 = .ok (.iload_n 1, 1) by decide +kernel) rfl (hlv (1, .int x0) (by simp [lv_args, Value.category])) ?_
    refine lv_iload_n X.1.1 X.1.2.1 (show decode (LB 324) 2 = .ok (.iload_n 2, 1) by decide +kernel) rfl (hlv (2, .int x1) (by simp [lv_args, Value.category])) ?_
    have h9 := pw_end (k := 124) (n := 2) (index := 73) (pc := 3) (i := i) (y := y.1) (Y2 := r0.2.1) (ps := [.int x0, .int x1]) (v := Int32.ofInt r0.1) (t := r0.2.2) (hh := LTb 324) (H := s.heap) (locs := []) (cells := 0) (slots := 0) (ls := ls) (e := e) (below := below) (Qc := Qc) X hrt hlk hl htab (by decide) (by decide +kernel)
      ⟨⟨by show TH 124 + 8 + 1 ≤ LH 324 + 1; decide +kernel, by show TH 124 + 1 + 1 ≤ LH 324 + 1; decide +kernel⟩, by show 8 + (TM 124 + 11) + (60 * (TH 124 + 1) + 200) ≤ 60 * (LH 324 + 1); decide +kernel⟩
      (show Cond.methodLink "LilyWheelsLaw" 73 (TN 124) ∈ ri_LW from List.mem_filter.mpr ⟨by decide +kernel, by decide +kernel⟩) (show Cond.instanceMethod (TN 124) ∈ ri_LW from List.mem_filter.mpr ⟨by decide +kernel, by decide +kernel⟩) (show Cond.selects (TN 124).cls (TN 124) (TN 124) ∈ ri_LW from List.mem_filter.mpr ⟨by decide +kernel, by decide +kernel⟩) (show Cond.initialized (TN 124).cls ∈ ri_LW from List.mem_filter.mpr ⟨by decide +kernel, by decide +kernel⟩) (show Cond.code (TN 124) (TB 124) (TM 124) (TR 124) ∈ ri_LW from List.mem_filter.mpr ⟨by decide +kernel, by decide +kernel⟩) ⟨⟨by decide +kernel, by decide +kernel⟩, by decide +kernel⟩
      (by decide +kernel) (by decide +kernel) (show ∀ f ∈ ([1, 2] : List Nat), wr_H (LB 324) (LM 324) 3 (LTb 324) f from List.forall_mem_cons.mpr ⟨⟨[], [(0, 6, 11, 16)], 0, 6, 7, 3, 8, rfl, (fun _ h => nomatch h), by decide, Or.inl ⟨3, by decide +kernel, rfl, rfl⟩, by decide +kernel, by decide +kernel, by decide +kernel⟩, List.forall_mem_cons.mpr ⟨⟨[(0, 6, 7, 13)], [], 0, 6, 11, 3, 12, rfl, List.forall_mem_cons.mpr ⟨⟨1, ⟨by decide, by decide⟩, by decide, rfl⟩, (fun _ h => nomatch h)⟩, by decide, Or.inl ⟨3, by decide +kernel, rfl, rfl⟩, by decide +kernel, by decide +kernel, by decide +kernel⟩, (fun _ h => nomatch h)⟩⟩)
      rfl rfl hsz hwf hI ho (by show 0 + _ ≤ _; rw [Nat.zero_add]; exact Nat.le_refl _) (by show 0 + _ ≤ 6 * _; rw [Nat.zero_add]; exact Nat.le_refl _) (fun t2 locs2 h => hfin t2 locs2 h)
    rw [Nat.zero_add, Nat.zero_add] at h9
    exact h9
  · cases hgp
theorem pm_325 (hl : l.stackTraces = false) {y : (gy × gy) × Nat} {i : Bool} {ps : List Value} {r0 : Int × (gy × Nat)} (hgp : p125 ps (gg y.1 i) = some r0) (ho : ob (gg y.1 i) r0.2.1 125 ps (Int32.ofInt r0.1) r0.2.2) (hfit : ri_fit (LM 325) (.ref (gi C0 i) :: ps) = true) : lm_Met (gr C0) Km b0 L0 xs0 D dT C0 LN LWd LH l 325 (.ref (gi C0 i) :: ps) y (.int (Int32.ofInt r0.1)) (gz y.1 i r0.2.1, y.2 + r0.2.2) := by
  simp only [p125] at hgp
  split at hgp
  · rename_i x0
    refine pm_of rfl rfl (ri_fit_len _ _ hfit) ?_
    intro p e s m args below meth c Qc X hrt hlk htab hI ls hsz hwf hlv hfin
    have e2 : ((gz y.1 i r0.2.1, y.2 + r0.2.2) : (gy × gy) × Nat).2 - y.2 = r0.2.2 := by
      show y.2 + r0.2.2 - y.2 = _
      omega
    rw [e2] at X ⊢
    refine lv_aload_n X.1.1 X.1.2.1 (show decode (LB 325) 0 = .ok (.aload_n 0, 1) by decide +kernel) rfl (hlv (0, .ref (gi C0 i)) (by simp [lv_args, Value.category])) ?_
    refine lv_iload_n X.1.1 X.1.2.1 (show decode (LB 325) 1 = .ok (.iload_n 1, 1) by decide +kernel) rfl (hlv (1, .int x0) (by simp [lv_args, Value.category])) ?_
    have h9 := pw_end (k := 125) (n := 1) (index := 76) (pc := 2) (i := i) (y := y.1) (Y2 := r0.2.1) (ps := [.int x0]) (v := Int32.ofInt r0.1) (t := r0.2.2) (hh := LTb 325) (H := s.heap) (locs := []) (cells := 0) (slots := 0) (ls := ls) (e := e) (below := below) (Qc := Qc) X hrt hlk hl htab (by decide) (by decide +kernel)
      ⟨⟨by show TH 125 + 8 + 1 ≤ LH 325 + 1; decide +kernel, by show TH 125 + 1 + 1 ≤ LH 325 + 1; decide +kernel⟩, by show 8 + (TM 125 + 11) + (60 * (TH 125 + 1) + 200) ≤ 60 * (LH 325 + 1); decide +kernel⟩
      (show Cond.methodLink "LilyWheelsLaw" 76 (TN 125) ∈ ri_LW from List.mem_filter.mpr ⟨by decide +kernel, by decide +kernel⟩) (show Cond.instanceMethod (TN 125) ∈ ri_LW from List.mem_filter.mpr ⟨by decide +kernel, by decide +kernel⟩) (show Cond.selects (TN 125).cls (TN 125) (TN 125) ∈ ri_LW from List.mem_filter.mpr ⟨by decide +kernel, by decide +kernel⟩) (show Cond.initialized (TN 125).cls ∈ ri_LW from List.mem_filter.mpr ⟨by decide +kernel, by decide +kernel⟩) (show Cond.code (TN 125) (TB 125) (TM 125) (TR 125) ∈ ri_LW from List.mem_filter.mpr ⟨by decide +kernel, by decide +kernel⟩) ⟨⟨by decide +kernel, by decide +kernel⟩, by decide +kernel⟩
      (by decide +kernel) (by decide +kernel) (show ∀ f ∈ ([2] : List Nat), wr_H (LB 325) (LM 325) 2 (LTb 325) f from List.forall_mem_cons.mpr ⟨⟨[], [], 0, 5, 6, 2, 7, rfl, (fun _ h => nomatch h), by decide, Or.inl ⟨2, by decide +kernel, rfl, rfl⟩, by decide +kernel, by decide +kernel, by decide +kernel⟩, (fun _ h => nomatch h)⟩)
      rfl rfl hsz hwf hI ho (by show 0 + _ ≤ _; rw [Nat.zero_add]; exact Nat.le_refl _) (by show 0 + _ ≤ 6 * _; rw [Nat.zero_add]; exact Nat.le_refl _) (fun t2 locs2 h => hfin t2 locs2 h)
    rw [Nat.zero_add, Nat.zero_add] at h9
    exact h9
  · cases hgp
theorem pm_326 (hl : l.stackTraces = false) {y : (gy × gy) × Nat} {i : Bool} {ps : List Value} {r0 : Int × (gy × Nat)} (hgp : p126 ps (gg y.1 i) = some r0) (ho : ob (gg y.1 i) r0.2.1 126 ps (Int32.ofInt r0.1) r0.2.2) (hfit : ri_fit (LM 326) (.ref (gi C0 i) :: ps) = true) : lm_Met (gr C0) Km b0 L0 xs0 D dT C0 LN LWd LH l 326 (.ref (gi C0 i) :: ps) y (.int (Int32.ofInt r0.1)) (gz y.1 i r0.2.1, y.2 + r0.2.2) := by
  simp only [p126] at hgp
  split at hgp
  · refine pm_of rfl rfl (ri_fit_len _ _ hfit) ?_
    intro p e s m args below meth c Qc X hrt hlk htab hI ls hsz hwf hlv hfin
    have e2 : ((gz y.1 i r0.2.1, y.2 + r0.2.2) : (gy × gy) × Nat).2 - y.2 = r0.2.2 := by
      show y.2 + r0.2.2 - y.2 = _
      omega
    rw [e2] at X ⊢
    refine lv_aload_n X.1.1 X.1.2.1 (show decode (LB 326) 0 = .ok (.aload_n 0, 1) by decide +kernel) rfl (hlv (0, .ref (gi C0 i)) (by simp [lv_args, Value.category])) ?_
    have h9 := pw_end (k := 126) (n := 0) (index := 79) (pc := 1) (i := i) (y := y.1) (Y2 := r0.2.1) (ps := []) (v := Int32.ofInt r0.1) (t := r0.2.2) (hh := LTb 326) (H := s.heap) (locs := []) (cells := 0) (slots := 0) (ls := ls) (e := e) (below := below) (Qc := Qc) X hrt hlk hl htab (by decide) (by decide +kernel)
      ⟨⟨by show TH 126 + 8 + 1 ≤ LH 326 + 1; decide +kernel, by show TH 126 + 1 + 1 ≤ LH 326 + 1; decide +kernel⟩, by show 8 + (TM 126 + 11) + (60 * (TH 126 + 1) + 200) ≤ 60 * (LH 326 + 1); decide +kernel⟩
      (show Cond.methodLink "LilyWheelsLaw" 79 (TN 126) ∈ ri_LW from List.mem_filter.mpr ⟨by decide +kernel, by decide +kernel⟩) (show Cond.instanceMethod (TN 126) ∈ ri_LW from List.mem_filter.mpr ⟨by decide +kernel, by decide +kernel⟩) (show Cond.selects (TN 126).cls (TN 126) (TN 126) ∈ ri_LW from List.mem_filter.mpr ⟨by decide +kernel, by decide +kernel⟩) (show Cond.initialized (TN 126).cls ∈ ri_LW from List.mem_filter.mpr ⟨by decide +kernel, by decide +kernel⟩) (show Cond.code (TN 126) (TB 126) (TM 126) (TR 126) ∈ ri_LW from List.mem_filter.mpr ⟨by decide +kernel, by decide +kernel⟩) ⟨⟨by decide +kernel, by decide +kernel⟩, by decide +kernel⟩
      (by decide +kernel) (by decide +kernel) (show ∀ f ∈ ([3] : List Nat), wr_H (LB 326) (LM 326) 1 (LTb 326) f from List.forall_mem_cons.mpr ⟨⟨[], [], 0, 4, 5, 1, 6, rfl, (fun _ h => nomatch h), by decide, Or.inl ⟨1, by decide +kernel, rfl, rfl⟩, by decide +kernel, by decide +kernel, by decide +kernel⟩, (fun _ h => nomatch h)⟩)
      rfl rfl hsz hwf hI ho (by show 0 + _ ≤ _; rw [Nat.zero_add]; exact Nat.le_refl _) (by show 0 + _ ≤ 6 * _; rw [Nat.zero_add]; exact Nat.le_refl _) (fun t2 locs2 h => hfin t2 locs2 h)
    rw [Nat.zero_add, Nat.zero_add] at h9
    exact h9
  · cases hgp
theorem pm_327 (hl : l.stackTraces = false) {y : (gy × gy) × Nat} {i : Bool} {ps : List Value} {r0 : Int × (gy × Nat)} (hgp : p127 ps (gg y.1 i) = some r0) (ho : ob (gg y.1 i) r0.2.1 127 ps (Int32.ofInt r0.1) r0.2.2) (hfit : ri_fit (LM 327) (.ref (gi C0 i) :: ps) = true) : lm_Met (gr C0) Km b0 L0 xs0 D dT C0 LN LWd LH l 327 (.ref (gi C0 i) :: ps) y (.int (Int32.ofInt r0.1)) (gz y.1 i r0.2.1, y.2 + r0.2.2) := by
  simp only [p127] at hgp
  split at hgp
  · rename_i x0 x1
    refine pm_of rfl rfl (ri_fit_len _ _ hfit) ?_
    intro p e s m args below meth c Qc X hrt hlk htab hI ls hsz hwf hlv hfin
    have e2 : ((gz y.1 i r0.2.1, y.2 + r0.2.2) : (gy × gy) × Nat).2 - y.2 = r0.2.2 := by
      show y.2 + r0.2.2 - y.2 = _
      omega
    rw [e2] at X ⊢
    refine lv_aload_n X.1.1 X.1.2.1 (show decode (LB 327) 0 = .ok (.aload_n 0, 1) by decide +kernel) rfl (hlv (0, .ref (gi C0 i)) (by simp [lv_args, Value.category])) ?_
    refine lv_iload_n X.1.1 X.1.2.1 (show decode (LB 327) 1 = .ok (.iload_n 1, 1) by decide +kernel) rfl (hlv (1, .int x0) (by simp [lv_args, Value.category])) ?_
    refine lv_iload_n X.1.1 X.1.2.1 (show decode (LB 327) 2 = .ok (.iload_n 2, 1) by decide +kernel) rfl (hlv (2, .int x1) (by simp [lv_args, Value.category])) ?_
    have h9 := pw_end (k := 127) (n := 2) (index := 82) (pc := 3) (i := i) (y := y.1) (Y2 := r0.2.1) (ps := [.int x0, .int x1]) (v := Int32.ofInt r0.1) (t := r0.2.2) (hh := LTb 327) (H := s.heap) (locs := []) (cells := 0) (slots := 0) (ls := ls) (e := e) (below := below) (Qc := Qc) X hrt hlk hl htab (by decide) (by decide +kernel)
      ⟨⟨by show TH 127 + 8 + 1 ≤ LH 327 + 1; decide +kernel, by show TH 127 + 1 + 1 ≤ LH 327 + 1; decide +kernel⟩, by show 8 + (TM 127 + 11) + (60 * (TH 127 + 1) + 200) ≤ 60 * (LH 327 + 1); decide +kernel⟩
      (show Cond.methodLink "LilyWheelsLaw" 82 (TN 127) ∈ ri_LW from List.mem_filter.mpr ⟨by decide +kernel, by decide +kernel⟩) (show Cond.instanceMethod (TN 127) ∈ ri_LW from List.mem_filter.mpr ⟨by decide +kernel, by decide +kernel⟩) (show Cond.selects (TN 127).cls (TN 127) (TN 127) ∈ ri_LW from List.mem_filter.mpr ⟨by decide +kernel, by decide +kernel⟩) (show Cond.initialized (TN 127).cls ∈ ri_LW from List.mem_filter.mpr ⟨by decide +kernel, by decide +kernel⟩) (show Cond.code (TN 127) (TB 127) (TM 127) (TR 127) ∈ ri_LW from List.mem_filter.mpr ⟨by decide +kernel, by decide +kernel⟩) ⟨⟨by decide +kernel, by decide +kernel⟩, by decide +kernel⟩
      (by decide +kernel) (by decide +kernel) (show ∀ f ∈ ([1] : List Nat), wr_H (LB 327) (LM 327) 3 (LTb 327) f from List.forall_mem_cons.mpr ⟨⟨[], [], 0, 6, 7, 3, 8, rfl, (fun _ h => nomatch h), by decide, Or.inl ⟨3, by decide +kernel, rfl, rfl⟩, by decide +kernel, by decide +kernel, by decide +kernel⟩, (fun _ h => nomatch h)⟩)
      rfl rfl hsz hwf hI ho (by show 0 + _ ≤ _; rw [Nat.zero_add]; exact Nat.le_refl _) (by show 0 + _ ≤ 6 * _; rw [Nat.zero_add]; exact Nat.le_refl _) (fun t2 locs2 h => hfin t2 locs2 h)
    rw [Nat.zero_add, Nat.zero_add] at h9
    exact h9
  · cases hgp
theorem pm_328 (hl : l.stackTraces = false) {y : (gy × gy) × Nat} {i : Bool} {ps : List Value} {r0 : Int × (gy × Nat)} (hgp : p128 ps (gg y.1 i) = some r0) (ho : ob (gg y.1 i) r0.2.1 128 ps (Int32.ofInt r0.1) r0.2.2) (hfit : ri_fit (LM 328) (.ref (gi C0 i) :: ps) = true) : lm_Met (gr C0) Km b0 L0 xs0 D dT C0 LN LWd LH l 328 (.ref (gi C0 i) :: ps) y (.int (Int32.ofInt r0.1)) (gz y.1 i r0.2.1, y.2 + r0.2.2) := by
  simp only [p128] at hgp
  split at hgp
  · rename_i x0 x1 x2 x3
    refine pm_of rfl rfl (ri_fit_len _ _ hfit) ?_
    intro p e s m args below meth c Qc X hrt hlk htab hI ls hsz hwf hlv hfin
    have e2 : ((gz y.1 i r0.2.1, y.2 + r0.2.2) : (gy × gy) × Nat).2 - y.2 = r0.2.2 := by
      show y.2 + r0.2.2 - y.2 = _
      omega
    rw [e2] at X ⊢
    refine lv_aload_n X.1.1 X.1.2.1 (show decode (LB 328) 0 = .ok (.aload_n 0, 1) by decide +kernel) rfl (hlv (0, .ref (gi C0 i)) (by simp [lv_args, Value.category])) ?_
    refine lv_iload_n X.1.1 X.1.2.1 (show decode (LB 328) 1 = .ok (.iload_n 1, 1) by decide +kernel) rfl (hlv (1, .int x0) (by simp [lv_args, Value.category])) ?_
    refine lv_iload_n X.1.1 X.1.2.1 (show decode (LB 328) 2 = .ok (.iload_n 2, 1) by decide +kernel) rfl (hlv (2, .int x1) (by simp [lv_args, Value.category])) ?_
    refine lv_iload_n X.1.1 X.1.2.1 (show decode (LB 328) 3 = .ok (.iload_n 3, 1) by decide +kernel) rfl (hlv (3, .int x2) (by simp [lv_args, Value.category])) ?_
    refine lv_iload X.1.1 X.1.2.1 (show decode (LB 328) 4 = .ok (.iload 4, 2) by decide +kernel) (hlv (4, .int x3) (by simp [lv_args, Value.category])) ?_
    have h9 := pw_end (k := 128) (n := 4) (index := 22) (pc := 6) (i := i) (y := y.1) (Y2 := r0.2.1) (ps := [.int x0, .int x1, .int x2, .int x3]) (v := Int32.ofInt r0.1) (t := r0.2.2) (hh := LTb 328) (H := s.heap) (locs := []) (cells := 0) (slots := 0) (ls := ls) (e := e) (below := below) (Qc := Qc) X hrt hlk hl htab (by decide) (by decide +kernel)
      ⟨⟨by show TH 128 + 8 + 1 ≤ LH 328 + 1; decide +kernel, by show TH 128 + 1 + 1 ≤ LH 328 + 1; decide +kernel⟩, by show 8 + (TM 128 + 11) + (60 * (TH 128 + 1) + 200) ≤ 60 * (LH 328 + 1); decide +kernel⟩
      (show Cond.methodLink "LilyWheelsLaw" 22 (TN 128) ∈ ri_LW from List.mem_filter.mpr ⟨by decide +kernel, by decide +kernel⟩) (show Cond.instanceMethod (TN 128) ∈ ri_LW from List.mem_filter.mpr ⟨by decide +kernel, by decide +kernel⟩) (show Cond.selects (TN 128).cls (TN 128) (TN 128) ∈ ri_LW from List.mem_filter.mpr ⟨by decide +kernel, by decide +kernel⟩) (show Cond.initialized (TN 128).cls ∈ ri_LW from List.mem_filter.mpr ⟨by decide +kernel, by decide +kernel⟩) (show Cond.code (TN 128) (TB 128) (TM 128) (TR 128) ∈ ri_LW from List.mem_filter.mpr ⟨by decide +kernel, by decide +kernel⟩) ⟨⟨by decide +kernel, by decide +kernel⟩, by decide +kernel⟩
      (by decide +kernel) (by decide +kernel) (show ∀ f ∈ ([1, 2] : List Nat), wr_H (LB 328) (LM 328) 6 (LTb 328) f from List.forall_mem_cons.mpr ⟨⟨[], [(0, 9, 15, 16)], 0, 9, 10, 5, 12, rfl, (fun _ h => nomatch h), by decide, Or.inr ⟨by decide +kernel, rfl⟩, by decide +kernel, by decide +kernel, by decide +kernel⟩, List.forall_mem_cons.mpr ⟨⟨[(0, 9, 10, 13)], [], 0, 9, 15, 5, 17, rfl, List.forall_mem_cons.mpr ⟨⟨1, ⟨by decide, by decide⟩, by decide, rfl⟩, (fun _ h => nomatch h)⟩, by decide, Or.inr ⟨by decide +kernel, rfl⟩, by decide +kernel, by decide +kernel, by decide +kernel⟩, (fun _ h => nomatch h)⟩⟩)
      rfl rfl hsz hwf hI ho (by show 0 + _ ≤ _; rw [Nat.zero_add]; exact Nat.le_refl _) (by show 0 + _ ≤ 6 * _; rw [Nat.zero_add]; exact Nat.le_refl _) (fun t2 locs2 h => hfin t2 locs2 h)
    rw [Nat.zero_add, Nat.zero_add] at h9
    exact h9
  · cases hgp
theorem pm_329 (hl : l.stackTraces = false) {y : (gy × gy) × Nat} {i : Bool} {ps : List Value} {r0 : Int × (gy × Nat)} (hgp : p129 ps (gg y.1 i) = some r0) (ho : ob (gg y.1 i) r0.2.1 129 ps (Int32.ofInt r0.1) r0.2.2) (hfit : ri_fit (LM 329) (.ref (gi C0 i) :: ps) = true) : lm_Met (gr C0) Km b0 L0 xs0 D dT C0 LN LWd LH l 329 (.ref (gi C0 i) :: ps) y (.int (Int32.ofInt r0.1)) (gz y.1 i r0.2.1, y.2 + r0.2.2) := by
  simp only [p129] at hgp
  split at hgp
  · rename_i x0 x1
    refine pm_of rfl rfl (ri_fit_len _ _ hfit) ?_
    intro p e s m args below meth c Qc X hrt hlk htab hI ls hsz hwf hlv hfin
    have e2 : ((gz y.1 i r0.2.1, y.2 + r0.2.2) : (gy × gy) × Nat).2 - y.2 = r0.2.2 := by
      show y.2 + r0.2.2 - y.2 = _
      omega
    rw [e2] at X ⊢
    refine lv_aload_n X.1.1 X.1.2.1 (show decode (LB 329) 0 = .ok (.aload_n 0, 1) by decide +kernel) rfl (hlv (0, .ref (gi C0 i)) (by simp [lv_args, Value.category])) ?_
    refine lv_iload_n X.1.1 X.1.2.1 (show decode (LB 329) 1 = .ok (.iload_n 1, 1) by decide +kernel) rfl (hlv (1, .int x0) (by simp [lv_args, Value.category])) ?_
    refine lv_iload_n X.1.1 X.1.2.1 (show decode (LB 329) 2 = .ok (.iload_n 2, 1) by decide +kernel) rfl (hlv (2, .int x1) (by simp [lv_args, Value.category])) ?_
    have h9 := pw_end (k := 129) (n := 2) (index := 85) (pc := 3) (i := i) (y := y.1) (Y2 := r0.2.1) (ps := [.int x0, .int x1]) (v := Int32.ofInt r0.1) (t := r0.2.2) (hh := LTb 329) (H := s.heap) (locs := []) (cells := 0) (slots := 0) (ls := ls) (e := e) (below := below) (Qc := Qc) X hrt hlk hl htab (by decide) (by decide +kernel)
      ⟨⟨by show TH 129 + 8 + 1 ≤ LH 329 + 1; decide +kernel, by show TH 129 + 1 + 1 ≤ LH 329 + 1; decide +kernel⟩, by show 8 + (TM 129 + 11) + (60 * (TH 129 + 1) + 200) ≤ 60 * (LH 329 + 1); decide +kernel⟩
      (show Cond.methodLink "LilyWheelsLaw" 85 (TN 129) ∈ ri_LW from List.mem_filter.mpr ⟨by decide +kernel, by decide +kernel⟩) (show Cond.instanceMethod (TN 129) ∈ ri_LW from List.mem_filter.mpr ⟨by decide +kernel, by decide +kernel⟩) (show Cond.selects (TN 129).cls (TN 129) (TN 129) ∈ ri_LW from List.mem_filter.mpr ⟨by decide +kernel, by decide +kernel⟩) (show Cond.initialized (TN 129).cls ∈ ri_LW from List.mem_filter.mpr ⟨by decide +kernel, by decide +kernel⟩) (show Cond.code (TN 129) (TB 129) (TM 129) (TR 129) ∈ ri_LW from List.mem_filter.mpr ⟨by decide +kernel, by decide +kernel⟩) ⟨⟨by decide +kernel, by decide +kernel⟩, by decide +kernel⟩
      (by decide +kernel) (by decide +kernel) (show ∀ f ∈ ([1] : List Nat), wr_H (LB 329) (LM 329) 3 (LTb 329) f from List.forall_mem_cons.mpr ⟨⟨[], [], 0, 6, 7, 3, 8, rfl, (fun _ h => nomatch h), by decide, Or.inl ⟨3, by decide +kernel, rfl, rfl⟩, by decide +kernel, by decide +kernel, by decide +kernel⟩, (fun _ h => nomatch h)⟩)
      rfl rfl hsz hwf hI ho (by show 0 + _ ≤ _; rw [Nat.zero_add]; exact Nat.le_refl _) (by show 0 + _ ≤ 6 * _; rw [Nat.zero_add]; exact Nat.le_refl _) (fun t2 locs2 h => hfin t2 locs2 h)
    rw [Nat.zero_add, Nat.zero_add] at h9
    exact h9
  · cases hgp
theorem pm_330 (hl : l.stackTraces = false) {y : (gy × gy) × Nat} {i : Bool} {ps : List Value} {r0 : Int × (gy × Nat)} (hgp : p130 ps (gg y.1 i) = some r0) (ho : ob (gg y.1 i) r0.2.1 130 ps (Int32.ofInt r0.1) r0.2.2) (hfit : ri_fit (LM 330) (.ref (gi C0 i) :: ps) = true) : lm_Met (gr C0) Km b0 L0 xs0 D dT C0 LN LWd LH l 330 (.ref (gi C0 i) :: ps) y (.int (Int32.ofInt r0.1)) (gz y.1 i r0.2.1, y.2 + r0.2.2) := by
  simp only [p130] at hgp
  split at hgp
  · rename_i x0 x1
    refine pm_of rfl rfl (ri_fit_len _ _ hfit) ?_
    intro p e s m args below meth c Qc X hrt hlk htab hI ls hsz hwf hlv hfin
    have e2 : ((gz y.1 i r0.2.1, y.2 + r0.2.2) : (gy × gy) × Nat).2 - y.2 = r0.2.2 := by
      show y.2 + r0.2.2 - y.2 = _
      omega
    rw [e2] at X ⊢
    refine lv_aload_n X.1.1 X.1.2.1 (show decode (LB 330) 0 = .ok (.aload_n 0, 1) by decide +kernel) rfl (hlv (0, .ref (gi C0 i)) (by simp [lv_args, Value.category])) ?_
    refine lv_iload_n X.1.1 X.1.2.1 (show decode (LB 330) 1 = .ok (.iload_n 1, 1) by decide +kernel) rfl (hlv (1, .int x0) (by simp [lv_args, Value.category])) ?_
    refine lv_iload_n X.1.1 X.1.2.1 (show decode (LB 330) 2 = .ok (.iload_n 2, 1) by decide +kernel) rfl (hlv (2, .int x1) (by simp [lv_args, Value.category])) ?_
    have h9 := pw_end (k := 130) (n := 2) (index := 88) (pc := 3) (i := i) (y := y.1) (Y2 := r0.2.1) (ps := [.int x0, .int x1]) (v := Int32.ofInt r0.1) (t := r0.2.2) (hh := LTb 330) (H := s.heap) (locs := []) (cells := 0) (slots := 0) (ls := ls) (e := e) (below := below) (Qc := Qc) X hrt hlk hl htab (by decide) (by decide +kernel)
      ⟨⟨by show TH 130 + 8 + 1 ≤ LH 330 + 1; decide +kernel, by show TH 130 + 1 + 1 ≤ LH 330 + 1; decide +kernel⟩, by show 8 + (TM 130 + 11) + (60 * (TH 130 + 1) + 200) ≤ 60 * (LH 330 + 1); decide +kernel⟩
      (show Cond.methodLink "LilyWheelsLaw" 88 (TN 130) ∈ ri_LW from List.mem_filter.mpr ⟨by decide +kernel, by decide +kernel⟩) (show Cond.instanceMethod (TN 130) ∈ ri_LW from List.mem_filter.mpr ⟨by decide +kernel, by decide +kernel⟩) (show Cond.selects (TN 130).cls (TN 130) (TN 130) ∈ ri_LW from List.mem_filter.mpr ⟨by decide +kernel, by decide +kernel⟩) (show Cond.initialized (TN 130).cls ∈ ri_LW from List.mem_filter.mpr ⟨by decide +kernel, by decide +kernel⟩) (show Cond.code (TN 130) (TB 130) (TM 130) (TR 130) ∈ ri_LW from List.mem_filter.mpr ⟨by decide +kernel, by decide +kernel⟩) ⟨⟨by decide +kernel, by decide +kernel⟩, by decide +kernel⟩
      (by decide +kernel) (by decide +kernel) (show ∀ f ∈ ([1, 2] : List Nat), wr_H (LB 330) (LM 330) 3 (LTb 330) f from List.forall_mem_cons.mpr ⟨⟨[], [(0, 6, 11, 16)], 0, 6, 7, 3, 8, rfl, (fun _ h => nomatch h), by decide, Or.inl ⟨3, by decide +kernel, rfl, rfl⟩, by decide +kernel, by decide +kernel, by decide +kernel⟩, List.forall_mem_cons.mpr ⟨⟨[(0, 6, 7, 13)], [], 0, 6, 11, 3, 12, rfl, List.forall_mem_cons.mpr ⟨⟨1, ⟨by decide, by decide⟩, by decide, rfl⟩, (fun _ h => nomatch h)⟩, by decide, Or.inl ⟨3, by decide +kernel, rfl, rfl⟩, by decide +kernel, by decide +kernel, by decide +kernel⟩, (fun _ h => nomatch h)⟩⟩)
      rfl rfl hsz hwf hI ho (by show 0 + _ ≤ _; rw [Nat.zero_add]; exact Nat.le_refl _) (by show 0 + _ ≤ 6 * _; rw [Nat.zero_add]; exact Nat.le_refl _) (fun t2 locs2 h => hfin t2 locs2 h)
    rw [Nat.zero_add, Nat.zero_add] at h9
    exact h9
  · cases hgp
theorem pm_331 (hl : l.stackTraces = false) {y : (gy × gy) × Nat} {i : Bool} {ps : List Value} {r0 : Int × (gy × Nat)} (hgp : p131 ps (gg y.1 i) = some r0) (ho : ob (gg y.1 i) r0.2.1 131 ps (Int32.ofInt r0.1) r0.2.2) (hfit : ri_fit (LM 331) (.ref (gi C0 i) :: ps) = true) : lm_Met (gr C0) Km b0 L0 xs0 D dT C0 LN LWd LH l 331 (.ref (gi C0 i) :: ps) y (.int (Int32.ofInt r0.1)) (gz y.1 i r0.2.1, y.2 + r0.2.2) := by
  simp only [p131] at hgp
  split at hgp
  · rename_i x0 x1
    refine pm_of rfl rfl (ri_fit_len _ _ hfit) ?_
    intro p e s m args below meth c Qc X hrt hlk htab hI ls hsz hwf hlv hfin
    have e2 : ((gz y.1 i r0.2.1, y.2 + r0.2.2) : (gy × gy) × Nat).2 - y.2 = r0.2.2 := by
      show y.2 + r0.2.2 - y.2 = _
      omega
    rw [e2] at X ⊢
    refine lv_aload_n X.1.1 X.1.2.1 (show decode (LB 331) 0 = .ok (.aload_n 0, 1) by decide +kernel) rfl (hlv (0, .ref (gi C0 i)) (by simp [lv_args, Value.category])) ?_
    refine lv_iload_n X.1.1 X.1.2.1 (show decode (LB 331) 1 = .ok (.iload_n 1, 1) by decide +kernel) rfl (hlv (1, .int x0) (by simp [lv_args, Value.category])) ?_
    refine lv_lload_n X.1.1 X.1.2.1 (show decode (LB 331) 2 = .ok (.lload_n 2, 1) by decide +kernel) rfl (hlv (2, .long x1) (by simp [lv_args, Value.category])) ?_
    have h9 := pw_end (k := 131) (n := 2) (index := 25) (pc := 3) (i := i) (y := y.1) (Y2 := r0.2.1) (ps := [.int x0, .long x1]) (v := Int32.ofInt r0.1) (t := r0.2.2) (hh := LTb 331) (H := s.heap) (locs := []) (cells := 0) (slots := 0) (ls := ls) (e := e) (below := below) (Qc := Qc) X hrt hlk hl htab (by decide) (by decide +kernel)
      ⟨⟨by show TH 131 + 8 + 1 ≤ LH 331 + 1; decide +kernel, by show TH 131 + 1 + 1 ≤ LH 331 + 1; decide +kernel⟩, by show 8 + (TM 131 + 11) + (60 * (TH 131 + 1) + 200) ≤ 60 * (LH 331 + 1); decide +kernel⟩
      (show Cond.methodLink "LilyWheelsLaw" 25 (TN 131) ∈ ri_LW from List.mem_filter.mpr ⟨by decide +kernel, by decide +kernel⟩) (show Cond.instanceMethod (TN 131) ∈ ri_LW from List.mem_filter.mpr ⟨by decide +kernel, by decide +kernel⟩) (show Cond.selects (TN 131).cls (TN 131) (TN 131) ∈ ri_LW from List.mem_filter.mpr ⟨by decide +kernel, by decide +kernel⟩) (show Cond.initialized (TN 131).cls ∈ ri_LW from List.mem_filter.mpr ⟨by decide +kernel, by decide +kernel⟩) (show Cond.code (TN 131) (TB 131) (TM 131) (TR 131) ∈ ri_LW from List.mem_filter.mpr ⟨by decide +kernel, by decide +kernel⟩) ⟨⟨by decide +kernel, by decide +kernel⟩, by decide +kernel⟩
      (by decide +kernel) (by decide +kernel) (show ∀ f ∈ ([2] : List Nat), wr_H (LB 331) (LM 331) 3 (LTb 331) f from List.forall_mem_cons.mpr ⟨⟨[], [], 0, 6, 7, 4, 9, rfl, (fun _ h => nomatch h), by decide, Or.inr ⟨by decide +kernel, rfl⟩, by decide +kernel, by decide +kernel, by decide +kernel⟩, (fun _ h => nomatch h)⟩)
      rfl rfl hsz hwf hI ho (by show 0 + _ ≤ _; rw [Nat.zero_add]; exact Nat.le_refl _) (by show 0 + _ ≤ 6 * _; rw [Nat.zero_add]; exact Nat.le_refl _) (fun t2 locs2 h => hfin t2 locs2 h)
    rw [Nat.zero_add, Nat.zero_add] at h9
    exact h9
  · cases hgp
theorem pm_332 (hl : l.stackTraces = false) {y : (gy × gy) × Nat} {i : Bool} {ps : List Value} {r0 : Int × (gy × Nat)} (hgp : p132 ps (gg y.1 i) = some r0) (ho : ob (gg y.1 i) r0.2.1 132 ps (Int32.ofInt r0.1) r0.2.2) (hfit : ri_fit (LM 332) (.ref (gi C0 i) :: ps) = true) : lm_Met (gr C0) Km b0 L0 xs0 D dT C0 LN LWd LH l 332 (.ref (gi C0 i) :: ps) y (.int (Int32.ofInt r0.1)) (gz y.1 i r0.2.1, y.2 + r0.2.2) := by
  simp only [p132] at hgp
  split at hgp
  · rename_i x0 x1
    refine pm_of rfl rfl (ri_fit_len _ _ hfit) ?_
    intro p e s m args below meth c Qc X hrt hlk htab hI ls hsz hwf hlv hfin
    have e2 : ((gz y.1 i r0.2.1, y.2 + r0.2.2) : (gy × gy) × Nat).2 - y.2 = r0.2.2 := by
      show y.2 + r0.2.2 - y.2 = _
      omega
    rw [e2] at X ⊢
    refine lv_aload_n X.1.1 X.1.2.1 (show decode (LB 332) 0 = .ok (.aload_n 0, 1) by decide +kernel) rfl (hlv (0, .ref (gi C0 i)) (by simp [lv_args, Value.category])) ?_
    refine lv_lload_n X.1.1 X.1.2.1 (show decode (LB 332) 1 = .ok (.lload_n 1, 1) by decide +kernel) rfl (hlv (1, .long x0) (by simp [lv_args, Value.category])) ?_
    refine lv_iload_n X.1.1 X.1.2.1 (show decode (LB 332) 2 = .ok (.iload_n 3, 1) by decide +kernel) rfl (hlv (3, .int x1) (by simp [lv_args, Value.category])) ?_
    have h9 := pw_end (k := 132) (n := 2) (index := 29) (pc := 3) (i := i) (y := y.1) (Y2 := r0.2.1) (ps := [.long x0, .int x1]) (v := Int32.ofInt r0.1) (t := r0.2.2) (hh := LTb 332) (H := s.heap) (locs := []) (cells := 0) (slots := 0) (ls := ls) (e := e) (below := below) (Qc := Qc) X hrt hlk hl htab (by decide) (by decide +kernel)
      ⟨⟨by show TH 132 + 8 + 1 ≤ LH 332 + 1; decide +kernel, by show TH 132 + 1 + 1 ≤ LH 332 + 1; decide +kernel⟩, by show 8 + (TM 132 + 11) + (60 * (TH 132 + 1) + 200) ≤ 60 * (LH 332 + 1); decide +kernel⟩
      (show Cond.methodLink "LilyWheelsLaw" 29 (TN 132) ∈ ri_LW from List.mem_filter.mpr ⟨by decide +kernel, by decide +kernel⟩) (show Cond.instanceMethod (TN 132) ∈ ri_LW from List.mem_filter.mpr ⟨by decide +kernel, by decide +kernel⟩) (show Cond.selects (TN 132).cls (TN 132) (TN 132) ∈ ri_LW from List.mem_filter.mpr ⟨by decide +kernel, by decide +kernel⟩) (show Cond.initialized (TN 132).cls ∈ ri_LW from List.mem_filter.mpr ⟨by decide +kernel, by decide +kernel⟩) (show Cond.code (TN 132) (TB 132) (TM 132) (TR 132) ∈ ri_LW from List.mem_filter.mpr ⟨by decide +kernel, by decide +kernel⟩) ⟨⟨by decide +kernel, by decide +kernel⟩, by decide +kernel⟩
      (by decide +kernel) (by decide +kernel) (show ∀ f ∈ ([2] : List Nat), wr_H (LB 332) (LM 332) 3 (LTb 332) f from List.forall_mem_cons.mpr ⟨⟨[], [], 0, 6, 7, 4, 9, rfl, (fun _ h => nomatch h), by decide, Or.inr ⟨by decide +kernel, rfl⟩, by decide +kernel, by decide +kernel, by decide +kernel⟩, (fun _ h => nomatch h)⟩)
      rfl rfl hsz hwf hI ho (by show 0 + _ ≤ _; rw [Nat.zero_add]; exact Nat.le_refl _) (by show 0 + _ ≤ 6 * _; rw [Nat.zero_add]; exact Nat.le_refl _) (fun t2 locs2 h => hfin t2 locs2 h)
    rw [Nat.zero_add, Nat.zero_add] at h9
    exact h9
  · cases hgp
theorem pm_333 (hl : l.stackTraces = false) {y : (gy × gy) × Nat} {i : Bool} {ps : List Value} {r0 : Int × (gy × Nat)} (hgp : p133 ps (gg y.1 i) = some r0) (ho : ob (gg y.1 i) r0.2.1 133 ps (Int32.ofInt r0.1) r0.2.2) (hfit : ri_fit (LM 333) (.ref (gi C0 i) :: ps) = true) : lm_Met (gr C0) Km b0 L0 xs0 D dT C0 LN LWd LH l 333 (.ref (gi C0 i) :: ps) y (.int (Int32.ofInt r0.1)) (gz y.1 i r0.2.1, y.2 + r0.2.2) := by
  simp only [p133] at hgp
  split at hgp
  · rename_i x0
    refine pm_of rfl rfl (ri_fit_len _ _ hfit) ?_
    intro p e s m args below meth c Qc X hrt hlk htab hI ls hsz hwf hlv hfin
    have e2 : ((gz y.1 i r0.2.1, y.2 + r0.2.2) : (gy × gy) × Nat).2 - y.2 = r0.2.2 := by
      show y.2 + r0.2.2 - y.2 = _
      omega
    rw [e2] at X ⊢
    refine lv_aload_n X.1.1 X.1.2.1 (show decode (LB 333) 0 = .ok (.aload_n 0, 1) by decide +kernel) rfl (hlv (0, .ref (gi C0 i)) (by simp [lv_args, Value.category])) ?_
    refine lv_iload_n X.1.1 X.1.2.1 (show decode (LB 333) 1 = .ok (.iload_n 1, 1) by decide +kernel) rfl (hlv (1, .int x0) (by simp [lv_args, Value.category])) ?_
    have h9 := pw_end (k := 133) (n := 1) (index := 91) (pc := 2) (i := i) (y := y.1) (Y2 := r0.2.1) (ps := [.int x0]) (v := Int32.ofInt r0.1) (t := r0.2.2) (hh := LTb 333) (H := s.heap) (locs := []) (cells := 0) (slots := 0) (ls := ls) (e := e) (below := below) (Qc := Qc) X hrt hlk hl htab (by decide) (by decide +kernel)
      ⟨⟨by show TH 133 + 8 + 1 ≤ LH 333 + 1; decide +kernel, by show TH 133 + 1 + 1 ≤ LH 333 + 1; decide +kernel⟩, by show 8 + (TM 133 + 11) + (60 * (TH 133 + 1) + 200) ≤ 60 * (LH 333 + 1); decide +kernel⟩
      (show Cond.methodLink "LilyWheelsLaw" 91 (TN 133) ∈ ri_LW from List.mem_filter.mpr ⟨by decide +kernel, by decide +kernel⟩) (show Cond.instanceMethod (TN 133) ∈ ri_LW from List.mem_filter.mpr ⟨by decide +kernel, by decide +kernel⟩) (show Cond.selects (TN 133).cls (TN 133) (TN 133) ∈ ri_LW from List.mem_filter.mpr ⟨by decide +kernel, by decide +kernel⟩) (show Cond.initialized (TN 133).cls ∈ ri_LW from List.mem_filter.mpr ⟨by decide +kernel, by decide +kernel⟩) (show Cond.code (TN 133) (TB 133) (TM 133) (TR 133) ∈ ri_LW from List.mem_filter.mpr ⟨by decide +kernel, by decide +kernel⟩) ⟨⟨by decide +kernel, by decide +kernel⟩, by decide +kernel⟩
      (by decide +kernel) (by decide +kernel) (show ∀ f ∈ ([1] : List Nat), wr_H (LB 333) (LM 333) 2 (LTb 333) f from List.forall_mem_cons.mpr ⟨⟨[], [], 0, 5, 6, 2, 7, rfl, (fun _ h => nomatch h), by decide, Or.inl ⟨2, by decide +kernel, rfl, rfl⟩, by decide +kernel, by decide +kernel, by decide +kernel⟩, (fun _ h => nomatch h)⟩)
      rfl rfl hsz hwf hI ho (by show 0 + _ ≤ _; rw [Nat.zero_add]; exact Nat.le_refl _) (by show 0 + _ ≤ 6 * _; rw [Nat.zero_add]; exact Nat.le_refl _) (fun t2 locs2 h => hfin t2 locs2 h)
    rw [Nat.zero_add, Nat.zero_add] at h9
    exact h9
  · cases hgp
theorem pm_334 (hl : l.stackTraces = false) {y : (gy × gy) × Nat} {i : Bool} {ps : List Value} {r0 : Int × (gy × Nat)} (hgp : p134 ps (gg y.1 i) = some r0) (ho : ob (gg y.1 i) r0.2.1 134 ps (Int32.ofInt r0.1) r0.2.2) (hfit : ri_fit (LM 334) (.ref (gi C0 i) :: ps) = true) : lm_Met (gr C0) Km b0 L0 xs0 D dT C0 LN LWd LH l 334 (.ref (gi C0 i) :: ps) y (.int (Int32.ofInt r0.1)) (gz y.1 i r0.2.1, y.2 + r0.2.2) := by
  simp only [p134] at hgp
  split at hgp
  · rename_i x0
    refine pm_of rfl rfl (ri_fit_len _ _ hfit) ?_
    intro p e s m args below meth c Qc X hrt hlk htab hI ls hsz hwf hlv hfin
    have e2 : ((gz y.1 i r0.2.1, y.2 + r0.2.2) : (gy × gy) × Nat).2 - y.2 = r0.2.2 := by
      show y.2 + r0.2.2 - y.2 = _
      omega
    rw [e2] at X ⊢
    refine lv_aload_n X.1.1 X.1.2.1 (show decode (LB 334) 0 = .ok (.aload_n 0, 1) by decide +kernel) rfl (hlv (0, .ref (gi C0 i)) (by simp [lv_args, Value.category])) ?_
    refine lv_iload_n X.1.1 X.1.2.1 (show decode (LB 334) 1 = .ok (.iload_n 1, 1) by decide +kernel) rfl (hlv (1, .int x0) (by simp [lv_args, Value.category])) ?_
    have h9 := pw_end (k := 134) (n := 1) (index := 94) (pc := 2) (i := i) (y := y.1) (Y2 := r0.2.1) (ps := [.int x0]) (v := Int32.ofInt r0.1) (t := r0.2.2) (hh := LTb 334) (H := s.heap) (locs := []) (cells := 0) (slots := 0) (ls := ls) (e := e) (below := below) (Qc := Qc) X hrt hlk hl htab (by decide) (by decide +kernel)
      ⟨⟨by show TH 134 + 8 + 1 ≤ LH 334 + 1; decide +kernel, by show TH 134 + 1 + 1 ≤ LH 334 + 1; decide +kernel⟩, by show 8 + (TM 134 + 11) + (60 * (TH 134 + 1) + 200) ≤ 60 * (LH 334 + 1); decide +kernel⟩
      (show Cond.methodLink "LilyWheelsLaw" 94 (TN 134) ∈ ri_LW from List.mem_filter.mpr ⟨by decide +kernel, by decide +kernel⟩) (show Cond.instanceMethod (TN 134) ∈ ri_LW from List.mem_filter.mpr ⟨by decide +kernel, by decide +kernel⟩) (show Cond.selects (TN 134).cls (TN 134) (TN 134) ∈ ri_LW from List.mem_filter.mpr ⟨by decide +kernel, by decide +kernel⟩) (show Cond.initialized (TN 134).cls ∈ ri_LW from List.mem_filter.mpr ⟨by decide +kernel, by decide +kernel⟩) (show Cond.code (TN 134) (TB 134) (TM 134) (TR 134) ∈ ri_LW from List.mem_filter.mpr ⟨by decide +kernel, by decide +kernel⟩) ⟨⟨by decide +kernel, by decide +kernel⟩, by decide +kernel⟩
      (by decide +kernel) (by decide +kernel) (show ∀ f ∈ ([1, 3] : List Nat), wr_H (LB 334) (LM 334) 2 (LTb 334) f from List.forall_mem_cons.mpr ⟨⟨[], [(0, 5, 10, 19)], 0, 5, 6, 2, 7, rfl, (fun _ h => nomatch h), by decide, Or.inl ⟨2, by decide +kernel, rfl, rfl⟩, by decide +kernel, by decide +kernel, by decide +kernel⟩, List.forall_mem_cons.mpr ⟨⟨[(0, 5, 6, 13)], [], 0, 5, 10, 2, 11, rfl, List.forall_mem_cons.mpr ⟨⟨1, ⟨by decide, by decide⟩, by decide, rfl⟩, (fun _ h => nomatch h)⟩, by decide, Or.inl ⟨2, by decide +kernel, rfl, rfl⟩, by decide +kernel, by decide +kernel, by decide +kernel⟩, (fun _ h => nomatch h)⟩⟩)
      rfl rfl hsz hwf hI ho (by show 0 + _ ≤ _; rw [Nat.zero_add]; exact Nat.le_refl _) (by show 0 + _ ≤ 6 * _; rw [Nat.zero_add]; exact Nat.le_refl _) (fun t2 locs2 h => hfin t2 locs2 h)
    rw [Nat.zero_add, Nat.zero_add] at h9
    exact h9
  · cases hgp
theorem lg_nat (n : Nat) : Int32.ofNat n = Int32.ofInt (n : Int) := rfl
theorem pm_300 (hL : L0 ≤ 260) {y y2 : (gy × gy) × Nat} {as : List Value} {r : Value} (h : lpr C0 b0 L0 xs0 300 as y = some (r, y2)) : y.2 ≤ y2.2 ∧ lm_Met (gr C0) Km b0 L0 xs0 D dT C0 LN LWd LH l 300 as y r y2 := by
  unfold lpr at h
  rw [if_pos (show Nat.beq 300 300 = true from rfl)] at h
  split at h
  · rename_i a x
    split at h
    · rename_i hax
      obtain ⟨rfl, hx0⟩ := hax
      cases h
      obtain ⟨k, rfl, k1, k2⟩ := na_of x
      rw [na_toInt k1 k2] at hx0 ⊢
      refine ⟨Nat.le_refl _, ?_⟩
      unfold lm_Met
      refine Met.ofW (cc := LB 300) (maxL := LM 300) (ret := LR 300) (by decide +kernel) rfl ?_
      intro p e s m args below meth c s₁ Bd hml hv
      obtain ⟨rfl, ⟨σ, hR, hHp⟩, hK, hE⟩ := hv
      have hts0 := atoms_spec (ws := LWd 300 :: ri_LW) Bd.pre
      have hts : ∀ w ∈ ri_LW, w.before _ s = true := fun w h => hts0 w (List.mem_cons_of_mem _ h)
      have hown : s.vm.findClass "LilyWheelsLaw" = some m.cls := findClass_of_methodNamed Bd.named
      have hx := Bd.exec
      have hb := Bd.bytes
      have hbX := hE.1.1
      have hbA := hE.1.2
      have hbl : a < s.heap.size := by
        obtain ⟨scr, h1, h2⟩ := hbX
        exact (Array.getElem?_eq_some_iff.mp h1).1
      have hS : va_S (lm_A C0) s.heap s.heap [] := va_S.rf
      rw [lg_entry_eq]
      have hl := lv_entry [.ref a, .int (Int32.ofInt k)] (n := LM 300) (Nat.le_of_ble_eq_true rfl)
      generalize (lg_sl [Value.ref a, Value.int (Int32.ofInt k)] ++ List.replicate (LM 300 - (lg_sl [Value.ref a, Value.int (Int32.ofInt k)]).length) Slot.unset).toArray = ls at hl ⊢
      have l0 : ls[0]? = some (.val (.ref a)) := hl.2.2 (0, _) (by simp [lv_args, Value.category])
      have l1 : ls[1]? = some (.val (.int (Int32.ofInt k))) := hl.2.2 (1, _) (by simp [lv_args, Value.category])
      rw [Nat.sub_self, Nat.mul_zero]
      have hfin : ∀ v : Int32, W p l e (headSpec (LWd 300 :: ri_LW) (lm_room (LH 300) 0)).room s m #[Value.ref a, Value.int (Int32.ofInt k)] below meth c s.heap [] 0 0 (MQ below (lm_Qc (gr C0) D dT C0 (.int (v &&& Int32.ofInt 2147483647)) y.1) #[Value.ref a, Value.int (Int32.ofInt k)] s 0 0 (lm_A C0)) (F0 m 22 ls [.int v]) := by
        intro v
        refine lv_ldc hx hb hown (hts _ (show Cond.constant "LilyWheelsLaw" 164 (Int32.ofInt 2147483647) ∈ ri_LW from List.mem_filter.mpr ⟨by decide +kernel, by decide +kernel⟩)) (show decode (LB 300) 22 = .ok (.ldc 164, 2) by decide +kernel) ?_
        refine lv_iand hx hb (show decode (LB 300) 24 = .ok (.iand, 1) by decide +kernel) ?_
        exact W.iret hx hb Bd.returns (fun t ht _ => ⟨rfl, ⟨σ, hR, by rw [ht]; exact hHp⟩, by show va_F (lm_A C0) s t; unfold va_F; rw [ht]; exact ⟨Nat.le_refl _, fun _ _ _ => rfl⟩⟩) (fun z hz => by cases hz) (show decode (LB 300) 25 = .ok (.ireturn, 1) by decide +kernel) Bd.notSynchronized
      refine lv_iload_n hx hb (show decode (LB 300) 0 = .ok (.iload_n 1, 1) by decide +kernel) rfl l1 ?_
      refine lv_aload_n hx hb (show decode (LB 300) 1 = .ok (.aload_n 0, 1) by decide +kernel) rfl l0 ?_
      refine va_slen hx hb hbX hbl hbA hS (show decode (LB 300) 2 = .ok (.arraylength, 1) by decide +kernel) ?_
      refine lv_icmp_ge hx hb (show decode (LB 300) 3 = .ok (.if_icmp .ge 9, 3) by decide +kernel) (tgt := 12) rfl (fun h1 => ?_) (fun h1 => ?_)
      · rw [lg_nat, na_le (by omega) (by omega) k1 k2] at h1
        have e : cellv L0 xs0 k = (Int32.ofInt 15519767 * (Int32.ofInt k + Int32.ofInt 3) + Int32.ofInt 11779) &&& Int32.ofInt 2147483647 := by
          unfold cellv
          rw [if_neg (by omega)]
        rw [e]
        refine lv_ldc hx hb hown (hts _ (show Cond.constant "LilyWheelsLaw" 163 (Int32.ofInt 15519767) ∈ ri_LW from List.mem_filter.mpr ⟨by decide +kernel, by decide +kernel⟩)) (show decode (LB 300) 12 = .ok (.ldc 163, 2) by decide +kernel) ?_
        refine lv_iload_n hx hb (show decode (LB 300) 14 = .ok (.iload_n 1, 1) by decide +kernel) rfl l1 ?_
        refine lv_iconst hx hb (show decode (LB 300) 15 = .ok (.iconst 3, 1) by decide +kernel) (v := Int32.ofInt 3) rfl ?_
        refine lv_iadd hx hb (show decode (LB 300) 16 = .ok (.iadd, 1) by decide +kernel) ?_
        refine lv_imul hx hb (show decode (LB 300) 17 = .ok (.imul, 1) by decide +kernel) ?_
        refine lv_sipush hx hb (show decode (LB 300) 18 = .ok (.sipush 11779, 3) by decide +kernel) (v := Int32.ofInt 11779) rfl ?_
        refine lv_iadd hx hb (show decode (LB 300) 21 = .ok (.iadd, 1) by decide +kernel) ?_
        exact hfin _
      · rw [lg_nat, na_le (by omega) (by omega) k1 k2] at h1
        have e : cellv L0 xs0 k = xs0 k.toNat &&& Int32.ofInt 2147483647 := by
          unfold cellv
          rw [if_pos (by omega)]
        have ek : (Int32.ofInt k).toNatClampNeg = k.toNat := by
          show (Int32.ofInt k).toInt.toNat = k.toNat
          rw [na_toInt k1 k2]
        have hin : vp_in (Int32.ofInt k) L0 := by
          show ¬ (Int32.ofInt k < 0 ∨ L0 ≤ (Int32.ofInt k).toNatClampNeg)
          rw [ek, na_l0, na_lt k1 k2 (by omega) (by omega)]
          omega
        rw [e, ← ek]
        refine lv_aload_n hx hb (show decode (LB 300) 6 = .ok (.aload_n 0, 1) by decide +kernel) rfl l0 ?_
        refine lv_iload_n hx hb (show decode (LB 300) 7 = .ok (.iload_n 1, 1) by decide +kernel) rfl l1 ?_
        refine va_sld hx hb hbX hbl hbA hS hin (show decode (LB 300) 8 = .ok (.iaload, 1) by decide +kernel) ?_
        refine lv_goto hx hb (show decode (LB 300) 9 = .ok (.goto 13, 3) by decide +kernel) (tgt := 22) rfl ?_
        exact hfin _
    · cases h
  · cases h
/-- every call as a step is the machine's -/
theorem lpr_ok (hl : l.stackTraces = false) (hL : L0 ≤ 260) : ∀ (k : Nat) (as : List Value) (y : (gy × gy) × Nat) (r : Value) (y2 : (gy × gy) × Nat), lip k = true → ri_fit (LM k) as = true → lpr C0 b0 L0 xs0 k as y = some (r, y2) → y.2 ≤ y2.2 ∧ lm_Met (gr C0) Km b0 L0 xs0 D dT C0 LN LWd LH l k as y r y2 := by
  intro k as y r y2 hip hfit h
  have h300 : 300 ≤ k := Nat.le_of_ble_eq_true hip
  by_cases hk : k = 300
  · subst hk
    exact pm_300 hL h
  · have hb : Nat.beq k 300 = false := by
      cases e : Nat.beq k 300 with
      | false => rfl
      | true => exact absurd (Nat.eq_of_beq_eq_true e) hk
    obtain ⟨i, ps, r0, rfl, hp, rfl, rfl⟩ := lpr_in hb h
    obtain ⟨-, ho, -, g, hg, hgp⟩ := pf_ob hp
    refine ⟨Nat.le_add_right _ _, ?_⟩
    obtain ⟨j, hj⟩ : ∃ j, k - 200 = j := ⟨_, rfl⟩
    obtain rfl : k = j + 200 := by omega
    rw [hj] at hg ho
    have key : ∀ q ∈ pfl, q.1 = j → q.2 ps (gg y.1 i) = some r0 → lm_Met (gr C0) Km b0 L0 xs0 D dT C0 LN LWd LH l (j + 200) (.ref (gi C0 i) :: ps) y (.int (Int32.ofInt r0.1)) (gz y.1 i r0.2.1, y.2 + r0.2.2) := by
      unfold pfl
      refine List.forall_mem_cons.mpr ⟨?_, List.forall_mem_cons.mpr ⟨?_, List.forall_mem_cons.mpr ⟨?_, List.forall_mem_cons.mpr ⟨?_, List.forall_mem_cons.mpr ⟨?_, List.forall_mem_cons.mpr ⟨?_, List.forall_mem_cons.mpr ⟨?_, List.forall_mem_cons.mpr ⟨?_, List.forall_mem_cons.mpr ⟨?_, List.forall_mem_cons.mpr ⟨?_, List.forall_mem_cons.mpr ⟨?_, List.forall_mem_cons.mpr ⟨?_, List.forall_mem_cons.mpr ⟨?_, List.forall_mem_cons.mpr ⟨?_, List.forall_mem_cons.mpr ⟨?_, List.forall_mem_cons.mpr ⟨?_, List.forall_mem_cons.mpr ⟨?_, List.forall_mem_cons.mpr ⟨?_, List.forall_mem_cons.mpr ⟨?_, List.forall_mem_cons.mpr ⟨?_, List.forall_mem_cons.mpr ⟨?_, List.forall_mem_cons.mpr ⟨?_, List.forall_mem_cons.mpr ⟨?_, (fun _ h => nomatch h)⟩⟩⟩⟩⟩⟩⟩⟩⟩⟩⟩⟩⟩⟩⟩⟩⟩⟩⟩⟩⟩⟩⟩
      · intro e hq
        subst e
        exact pm_309 hl hq ho hfit
      · intro e hq
        subst e
        exact pm_313 hl hq ho hfit
      · intro e hq
        subst e
        exact pm_314 hl hq ho hfit
      · intro e hq
        subst e
        exact pm_315 hl hq ho hfit
      · intro e hq
        subst e
        exact pm_316 hl hq ho hfit
      · intro e hq
        subst e
        exact pm_317 hl hq ho hfit
      · intro e hq
        subst e
        exact pm_318 hl hq ho hfit
      · intro e hq
        subst e
        exact pm_319 hl hq ho hfit
      · intro e hq
        subst e
        exact pm_320 hl hq ho hfit
      · intro e hq
        subst e
        exact pm_321 hl hq ho hfit
      · intro e hq
        subst e
        exact pm_322 hl hq ho hfit
      · intro e hq
        subst e
        exact pm_323 hl hq ho hfit
      · intro e hq
        subst e
        exact pm_324 hl hq ho hfit
      · intro e hq
        subst e
        exact pm_325 hl hq ho hfit
      · intro e hq
        subst e
        exact pm_326 hl hq ho hfit
      · intro e hq
        subst e
        exact pm_327 hl hq ho hfit
      · intro e hq
        subst e
        exact pm_328 hl hq ho hfit
      · intro e hq
        subst e
        exact pm_329 hl hq ho hfit
      · intro e hq
        subst e
        exact pm_330 hl hq ho hfit
      · intro e hq
        subst e
        exact pm_331 hl hq ho hfit
      · intro e hq
        subst e
        exact pm_332 hl hq ho hfit
      · intro e hq
        subst e
        exact pm_333 hl hq ho hfit
      · intro e hq
        subst e
        exact pm_334 hl hq ho hfit
    exact key _ hg rfl hgp
end PRM
