/-! What stands at the law's entry. -/
theorem en_arr {args : Array Value} {s : State} {ty : FieldType} (h : (Cond.arrayClass ty).before args s = true) : ∃ cA : ClassId, ArrOfT s cA ty ∧ s.vm.findClass ("[" ++ ty.toString) = some cA := by
  obtain ⟨c, k, comp, h1, h2, h3⟩ := Cond.arrayClass_spec (args := args) (first := s) (o := none) (s := s) (idx := []) h
  exact ⟨c, fun n z => ⟨fun k h => (by cases h), k, h2, comp, h3⟩, h1⟩
theorem en_arq {args : Array Value} {s : State} {C : String} (h : (Cond.arrayOver (.object C)).before args s = true) : ∃ cA : ClassId, ArrOfT s cA (.object C) ∧ va_RA s cA (.object C) := by
  obtain ⟨comp, c, k, h1, -, h2, h3, h4⟩ := Cond.arrayOver_spec (args := args) (first := s) (o := none) (s := s) (idx := []) h
  exact ⟨c, fun n z => ⟨fun k h => (by cases h), k, h2, comp, h3⟩, k, comp, h2, h3, h1, h4⟩
theorem en_K {args : Array Value} {s : State} (hts : ∀ w ∈ lw_tbl, w.before args s = true) : ∃ (D : va_G) (dT : Nat → ClassId), va_K D vwCl (ri_tys dT RX3) s := by
  have hr : ∀ w ∈ ri_LW, w.before args s = true := fun w h => hts w (List.mem_filter.mp h).1
  obtain ⟨c0, i0, h0⟩ := u_known (C := RX0) (T := TX0) (N := 6) (n := 6) hr li_X0 (hts (.instantiable RX0 6) (by decide +kernel))
  obtain ⟨c1, i1, h1⟩ := u_known (C := RX1) (T := TX1) (N := 3) (n := 3) hr li_X1 (hts (.instantiable RX1 3) (by decide +kernel))
  obtain ⟨c2, i2, h2⟩ := u_known (C := RX2) (T := TX2) (N := 3) (n := 3) hr li_X2 (hts (.instantiable RX2 3) (by decide +kernel))
  obtain ⟨c3, i3, h3⟩ := u_known (C := RX3) (T := TX3) (N := 9) (n := 9) hr li_X3 (hts (.instantiable RX3 9) (by decide +kernel))
  obtain ⟨c4, i4, h4⟩ := u_known (C := RX5) (T := TX5) (N := 10) (n := 10) hr li_X5 (hts (.instantiable RX5 10) (by decide +kernel))
  obtain ⟨c5, i5, h5⟩ := u_known (C := RX7) (T := TX7) (N := 2) (n := 2) hr li_X7 (hts (.instantiable RX7 2) (by decide +kernel))
  obtain ⟨c6, i6, h6⟩ := u_known (C := RX8) (T := TX8) (N := 2) (n := 2) hr li_X8 (hts (.instantiable RX8 2) (by decide +kernel))
  obtain ⟨c7, i7, h7⟩ := u_known (C := RX9) (T := TX9) (N := 7) (n := 7) hr li_X9 (hts (.instantiable RX9 7) (by decide +kernel))
  obtain ⟨c8, i8, h8⟩ := u_known (C := RX10) (T := TX10) (N := 6) (n := 6) hr li_X10 (hts (.instantiable RX10 6) (by decide +kernel))
  obtain ⟨a0, g0, f0⟩ := en_arr (hts (.arrayClass .int) (by decide +kernel))
  obtain ⟨a2, g2, f2⟩ := en_arq (hts (.arrayOver (.object RX3)) (by decide +kernel))
  have hK : ∀ (k : Nat) (q : vw_C), vwCl[k]? = some q → u_Kn s q.1 q.2.1 q.2.2 (([c0, c1, c2, c3, c4, c5, c6, c7, c8] : List ClassId).getD k 0) (([i0, i1, i2, i3, i4, i5, i6, i7, i8] : List (Nat → Nat)).getD k (fun _ => 0)) := by
    intro k q hq
    match k, hq with
    | 0, hq => cases hq; exact h0
    | 1, hq => cases hq; exact h1
    | 2, hq => cases hq; exact h2
    | 3, hq => cases hq; exact h3
    | 4, hq => cases hq; exact h4
    | 5, hq => cases hq; exact h5
    | 6, hq => cases hq; exact h6
    | 7, hq => cases hq; exact h7
    | 8, hq => cases hq; exact h8
    | k + 9, hq => simp [vwCl] at hq
  refine ⟨(fun k => ([c0, c1, c2, c3, c4, c5, c6, c7, c8] : List ClassId).getD k 0, fun k => ([i0, i1, i2, i3, i4, i5, i6, i7, i8] : List (Nat → Nat)).getD k (fun _ => 0)), fun k => ([a0, a0, a2] : List ClassId).getD k 0, hK, fun k q hq => ?_⟩
  match k, hq with
  | 0, hq => cases hq; exact ⟨g0, f0⟩
  | 1, hq => cases hq; exact ⟨g0, f0⟩
  | 2, hq => cases hq; exact ⟨g2, f2⟩
  | k + 3, hq => simp [ri_tys] at hq
abbrev en_T : Cond := Jvm.Cond.and given_1 narrow_1
theorem en_9 : ∀ f, f < 4 → 1 ≤ f → Cond.exactly (Term.string "LilyWheels" (nx_s f)) "java/lang/String" ∈ flatC en_T ∧ Cond.stringRef "LilyWheels" (nx_s f) (nx_t f) ∈ lw_tbl := by decide +kernel
theorem en_10 : ∀ f, f < 4 → ∀ f2, f2 < 4 → (1 ≤ f ∧ 1 ≤ f2 ∧ f ≠ f2) → Cond.not (.castable (nx_c f) (nx_c f2)) ∈ flatC en_T := by decide +kernel
theorem en_E {args : Array Value} {s : State} {b L : Nat} {xs : Nat → Int32} (hts : ∀ w ∈ lw_tbl, w.before args s = true) (hgv : en_T.before args s = true) (hX : va_X b L xs s s.heap) (hb : b < s.heap.size) : ∃ Km : Nat → Nat, nv_E Km b L xs (lm_A s.heap.size) s s.heap := by
  have hs := flat_of_before en_T hgv
  have hA : ∀ a : Nat, a < s.heap.size → ¬ lm_A s.heap.size a := fun a h => Nat.not_le.mpr h
  have hm : ∀ f : Nat, ∃ a : Nat, 1 ≤ f ∧ f ≤ 3 → vk_R "LilyWheels" (nx_s f) (nx_t f) a s := by
    intro f
    by_cases hf : 1 ≤ f ∧ f ≤ 3
    · obtain ⟨e1, e2⟩ := en_9 f (by omega) hf.1
      obtain ⟨a, c, cA, kA, q1, -⟩ := Cond.exactly_spec (args := args) (first := s) (o := none) (s := s) (idx := []) (t := Term.string "LilyWheels" (nx_s f)) (cls := "java/lang/String") (hs _ e1)
      exact ⟨a, fun _ => vk_R.of (hts _ e2) q1⟩
    · exact ⟨0, fun h => absurd h hf⟩
  obtain ⟨Km, hKm⟩ := Classical.axiomOfChoice hm
  refine ⟨Km, ⟨⟨hX, hA b hb⟩, fun w hw hc => ?_, ⟨?_, ?_⟩, fun f hf => hKm f hf, fun f f2 hf hf2 hne => va_Nc.of (hs _ (en_10 f (by omega) f2 (by omega) ⟨hf.1, hf2.1, hne⟩))⟩⟩
  · unfold nx_cast at hc
    split at hc
    · exact va_Nw.of rfl (hts _ hw)
    · exact va_Nw.of rfl (hts _ hw)
    · cases hc
  · exact vx_Zqof (hts (.laysStatic Bundle.tN "UNASSIGNED_STACK" Bundle.steD) (by decide +kernel)) (hts (.initialized Bundle.tN) (by decide +kernel)) (hs (Cond.isRef (.static Bundle.tN "UNASSIGNED_STACK" Bundle.steD)) (by decide +kernel)) hA
  · exact vx_Zqof (hts (.laysStatic Bundle.tN "SUPPRESSED_SENTINEL" Bundle.listD) (by decide +kernel)) (hts (.initialized Bundle.tN) (by decide +kernel)) (hs (Cond.isRef (.static Bundle.tN "SUPPRESSED_SENTINEL" Bundle.listD)) (by decide +kernel)) hA
