/-! The world of a throw, and the method that throws. -/
def nx_c : Nat → String := fun f => (["", "java/lang/IndexOutOfBoundsException", "java/lang/IllegalArgumentException", "java/lang/IllegalStateException"] : List String).getD f ""
def nx_i : Nat → Nat := fun f => ([0, 250, 257, 262] : List Nat).getD f 0
def nx_k : Nat → Nat := fun f => ([0, 246, 253, 258] : List Nat).getD f 0
def nx_s : Nat → Nat := fun f => ([0, 248, 255, 260] : List Nat).getD f 0
def nx_t : Nat → String := fun f => (["", "there is no such wheel, place, frog, line or save slot", "an argument is out of its range", "this cannot be done now"] : List String).getD f ""
abbrev nx_n : List String := ["java/lang/RuntimeException", "java/lang/Exception"]
def nx_cast : Cond → Bool
  | .castable _ _ => true
  | .declares _ => true
  | _ => false
theorem nx_ata1 : ∀ w ∈ vx_atS "LilyWheels" 250 "java/lang/IndexOutOfBoundsException" nx_n, w ∈ lw_tbl := by decide +kernel
theorem nx_atb1 : (vx_atS "LilyWheels" 250 "java/lang/IndexOutOfBoundsException" nx_n).all (fun w => ri_good w || nx_cast w) = true := by decide +kernel
theorem nx_at1 : ∀ w ∈ vx_atS "LilyWheels" 250 "java/lang/IndexOutOfBoundsException" nx_n, w ∈ lw_tbl ∧ (ri_good w = true ∨ nx_cast w = true) := fun w hw => ⟨nx_ata1 w hw, by simpa using List.all_eq_true.mp nx_atb1 w hw⟩
theorem nx_ata2 : ∀ w ∈ vx_atS "LilyWheels" 257 "java/lang/IllegalArgumentException" nx_n, w ∈ lw_tbl := by decide +kernel
theorem nx_atb2 : (vx_atS "LilyWheels" 257 "java/lang/IllegalArgumentException" nx_n).all (fun w => ri_good w || nx_cast w) = true := by decide +kernel
theorem nx_at2 : ∀ w ∈ vx_atS "LilyWheels" 257 "java/lang/IllegalArgumentException" nx_n, w ∈ lw_tbl ∧ (ri_good w = true ∨ nx_cast w = true) := fun w hw => ⟨nx_ata2 w hw, by simpa using List.all_eq_true.mp nx_atb2 w hw⟩
theorem nx_ata3 : ∀ w ∈ vx_atS "LilyWheels" 262 "java/lang/IllegalStateException" nx_n, w ∈ lw_tbl := by decide +kernel
theorem nx_atb3 : (vx_atS "LilyWheels" 262 "java/lang/IllegalStateException" nx_n).all (fun w => ri_good w || nx_cast w) = true := by decide +kernel
theorem nx_at3 : ∀ w ∈ vx_atS "LilyWheels" 262 "java/lang/IllegalStateException" nx_n, w ∈ lw_tbl ∧ (ri_good w = true ∨ nx_cast w = true) := fun w hw => ⟨nx_ata3 w hw, by simpa using List.all_eq_true.mp nx_atb3 w hw⟩
theorem nx_g1 : ∀ w ∈ Cond.classLink "LilyWheels" 246 "java/lang/IndexOutOfBoundsException" :: Cond.initialized "java/lang/IndexOutOfBoundsException" :: vx_atS "LilyWheels" 250 "java/lang/IndexOutOfBoundsException" nx_n, vx_ot w = true := by decide +kernel
theorem nx_g2 : ∀ w ∈ Cond.classLink "LilyWheels" 253 "java/lang/IllegalArgumentException" :: Cond.initialized "java/lang/IllegalArgumentException" :: vx_atS "LilyWheels" 257 "java/lang/IllegalArgumentException" nx_n, vx_ot w = true := by decide +kernel
theorem nx_g3 : ∀ w ∈ Cond.classLink "LilyWheels" 258 "java/lang/IllegalStateException" :: Cond.initialized "java/lang/IllegalStateException" :: vx_atS "LilyWheels" 262 "java/lang/IllegalStateException" nx_n, vx_ot w = true := by decide +kernel
theorem nx_k1 : Cond.classLink "LilyWheels" 246 "java/lang/IndexOutOfBoundsException" ∈ ri_LW := List.mem_filter.mpr ⟨by decide +kernel, by decide +kernel⟩
theorem nx_k2 : Cond.classLink "LilyWheels" 253 "java/lang/IllegalArgumentException" ∈ ri_LW := List.mem_filter.mpr ⟨by decide +kernel, by decide +kernel⟩
theorem nx_k3 : Cond.classLink "LilyWheels" 258 "java/lang/IllegalStateException" ∈ ri_LW := List.mem_filter.mpr ⟨by decide +kernel, by decide +kernel⟩
theorem nx_j1 : Cond.initialized "java/lang/IndexOutOfBoundsException" ∈ ri_LW := List.mem_filter.mpr ⟨by decide +kernel, by decide +kernel⟩
theorem nx_j2 : Cond.initialized "java/lang/IllegalArgumentException" ∈ ri_LW := List.mem_filter.mpr ⟨by decide +kernel, by decide +kernel⟩
theorem nx_j3 : Cond.initialized "java/lang/IllegalStateException" ∈ ri_LW := List.mem_filter.mpr ⟨by decide +kernel, by decide +kernel⟩
/-- what stands for a throw -/
def nt_E (Km : Nat → Nat) (A : Nat → Prop) (U : State) (H : Heap) : Prop :=
  (∀ w ∈ lw_tbl, nx_cast w = true → va_Nw w U) ∧ (vx_Zq Bundle.tN "UNASSIGNED_STACK" Bundle.steD A U H ∧ vx_Zq Bundle.tN "SUPPRESSED_SENTINEL" Bundle.listD A U H) ∧ (∀ f, 1 ≤ f ∧ f ≤ 3 → vk_R "LilyWheels" (nx_s f) (nx_t f) (Km f) U) ∧ ∀ f f2, (1 ≤ f ∧ f ≤ 3) → (1 ≤ f2 ∧ f2 ≤ 3) → f ≠ f2 → va_Nc (nx_c f) (nx_c f2) U
/-- the script, which the law reads -/
def nz_E (b0 L0 : Nat) (xs0 : Nat → Int32) (A : Nat → Prop) (U : State) (H : Heap) : Prop := va_X b0 L0 xs0 U H ∧ ¬ A b0
/-- what is known beside the picture -/
def nv_E (Km : Nat → Nat) (b0 L0 : Nat) (xs0 : Nat → Int32) (A : Nat → Prop) (U : State) (H : Heap) : Prop := nz_E b0 L0 xs0 A U H ∧ nt_E Km A U H
theorem nz_kept {b0 L0 : Nat} {xs0 : Nat → Int32} {A A2 : Nat → Prop} {s U : State} {H H1 : Heap} (h : nz_E b0 L0 xs0 A s H) (hq : ∀ a : Nat, a < H.size → ¬ A a → H1[a]? = H[a]?) (hV : s.vm.Alike U.vm) (hA : ∀ q, A2 q → A q) : nz_E b0 L0 xs0 A2 U H1 := by
  obtain ⟨hx, hn⟩ := h
  have hl : b0 < H.size := by
    obtain ⟨scr, h1, h2⟩ := hx
    exact (Array.getElem?_eq_some_iff.mp h1).1
  exact ⟨(hx.kept (hq b0 hl hn)).moved hV, fun q => hn (hA _ q)⟩
theorem nx_warm {w : Cond} {s U : State} (hc : nx_cast w = true) (hW : s.WarmedH U.vm) (h : va_Nw w s) : va_Nw w U := by
  unfold nx_cast at hc
  split at hc
  · exact va_Nw.warmC hW h
  · exact va_tabs rfl (rfl : (s.setVm U.vm).vm = U.vm) (by rw [Cond.declares_setVm hW.alike]; exact h)
  · cases hc
theorem nx_same {w : Cond} {s U : State} (hc : nx_cast w = true) (hv : s.vm = U.vm) (h : va_Nw w s) : va_Nw w U := by
  unfold nx_cast at hc
  split at hc
  · exact va_tabs rfl hv h
  · exact va_tabs rfl hv h
  · cases hc
theorem nv_exok (Km : Nat → Nat) (b0 L0 : Nat) (xs0 : Nat → Int32) : rj_exok (nv_E Km b0 L0 xs0) := by
  refine ⟨fun A A2 s U H locs h hS hW hU hA => ?_, fun A U g mk a h => ?_⟩
  · obtain ⟨h1, h3, ⟨h4, h5⟩, h6, h7⟩ := h
    subst hU
    exact ⟨nz_kept h1 hS.2.1 hW.alike hA, fun w hw hc => nx_warm hc hW (h3 w hw hc), ⟨((h4.kept hS.2.1).moved hW.alike).narrow hA, ((h5.kept hS.2.1).moved hW.alike).narrow hA⟩, fun f hf => (h6 f hf).warm hW, fun f f2 hf hf2 hn => va_Nc.moved hW.alike (h7 f f2 hf hf2 hn)⟩
  · obtain ⟨h1, h3, ⟨h4, h5⟩, h6, h7⟩ := h
    exact ⟨nz_kept (U := U.calling g mk a) h1 (fun _ _ _ => rfl) (Vm.Alike.refl U.vm) (fun _ h => h), fun w hw hc => nx_same (s := U) (U := U.calling g mk a) hc rfl (h3 w hw hc), ⟨vx_Zq.moved (u := U) (U := U.calling g mk a) (Vm.Alike.refl U.vm) h4, vx_Zq.moved (u := U) (U := U.calling g mk a) (Vm.Alike.refl U.vm) h5⟩, fun f hf => (h6 f hf).same rfl, fun f f2 hf hf2 hn => va_Nc.moved (u := U) (U := U.calling g mk a) (Vm.Alike.refl U.vm) (h7 f f2 hf hf2 hn)⟩
/-- what a throw leaves: all that was -/
def nx_XC (f : Nat) : String → State → State → Prop := fun E st t => E = nx_c f ∧ st.heap.size ≤ t.heap.size ∧ ∀ q : Nat, q < st.heap.size → t.heap[q]? = st.heap[q]?
def nx_room : Room := { frames := 6, cells := 1, slots := 6, locals := 100 }
def nx_Pc (Km : Nat → Nat) (b0 L0 : Nat) (xs0 : Nat → Int32) (f : Nat) : Array Value → State → Prop := fun a U => a = ([.int (Int32.ofNat f)] : List Value).toArray ∧ nv_E Km b0 L0 xs0 (fun _ => False) U U.heap
theorem nx_refuse {Km : Nat → Nat} {b0 L0 : Nat} {xs0 : Nat → Int32} {l : Launch} (hl : l.stackTraces = false) {f : Nat} (hf : 1 ≤ f ∧ f ≤ 3) :
    vx_Met l (TN 135) (Cond.code (TN 135) (TB 135) (TM 135) (TR 135) :: ri_LW) nx_room (nx_Pc Km b0 L0 xs0 f) (fun _ _ _ _ => False) (nx_XC f) 1 6 (fun _ => False) := by
  refine vx_ofW (cc := TB 135) (maxL := TM 135) (ret := TR 135) (by decide +kernel) rfl ?_
  intro p e s m args below meth c s₁ Bd hml hne hv
  obtain ⟨rfl, hE⟩ := hv
  have hts0 := atoms_spec (ws := Cond.code (TN 135) (TB 135) (TM 135) (TR 135) :: ri_LW) Bd.pre
  have hts : ∀ w ∈ ri_LW, w.before _ s = true := fun w h => hts0 w (List.mem_cons_of_mem _ h)
  have hown : s.vm.findClass "LilyWheels" = some m.cls := findClass_of_methodNamed Bd.named
  have hx := Bd.exec
  have hb := Bd.bytes
  have hlk := Bd.notSynchronized
  have hS : va_S (fun _ => False) s.heap s.heap [] := va_S.rf
  rw [lg_entry_eq]
  have hl0 := lv_entry [.int (Int32.ofNat f)] (n := TM 135) (Nat.le_refl _)
  generalize (lg_sl [Value.int (Int32.ofNat f)] ++ List.replicate (TM 135 - (lg_sl [Value.int (Int32.ofNat f)]).length) Slot.unset).toArray = ls at hl0 ⊢
  have l0 : ls[0]? = some (.val (.int (Int32.ofNat f))) := hl0.2.2 (0, _) (by simp [lv_args, Value.category])
  have hsz : ls.size = c.maxLocals := by rw [hml]; exact hl0.1
  have hat : ∀ w, (w ∈ lw_tbl ∧ (ri_good w = true ∨ nx_cast w = true)) → w.before ([.int (Int32.ofNat f)] : List Value).toArray s = true := by
    rintro w ⟨h1, h2 | h2⟩
    · exact hts w (List.mem_filter.mpr ⟨h1, h2⟩)
    · have h3 := hE.2.1 w h1 h2
      unfold nx_cast at h2
      split at h2
      · exact va_Nw.use rfl h3
      · exact va_Nw.use rfl h3
      · cases h2
  have hout : ∀ pc, ∀ x ∈ c.exceptionTable.toList, covers x pc = false := fun pc x hx => (hne x hx).elim
  refine lv_iload_n hx hb (show decode (TB 135) 0 = .ok (.iload_n 0, 1) by decide +kernel) rfl l0 ?_
  refine lv_iconst hx hb (show decode (TB 135) 1 = .ok (.iconst 1, 1) by decide +kernel) (v := 1) rfl ?_
  refine lv_icmp_ne hx hb (show decode (TB 135) 2 = .ok (.if_icmp .ne 13, 3) by decide +kernel) (tgt := 15) rfl (fun h1 => ?_) (fun h1 => ?_)
  · refine lv_iload_n hx hb (show decode (TB 135) 15 = .ok (.iload_n 0, 1) by decide +kernel) rfl l0 ?_
    refine lv_iconst hx hb (show decode (TB 135) 16 = .ok (.iconst 2, 1) by decide +kernel) (v := 2) rfl ?_
    refine lv_icmp_ne hx hb (show decode (TB 135) 17 = .ok (.if_icmp .ne 13, 3) by decide +kernel) (tgt := 30) rfl (fun h2 => ?_) (fun h2 => ?_)
    · refine lv_iload_n hx hb (show decode (TB 135) 30 = .ok (.iload_n 0, 1) by decide +kernel) rfl l0 ?_
      refine lv_iconst hx hb (show decode (TB 135) 31 = .ok (.iconst 3, 1) by decide +kernel) (v := 3) rfl ?_
      have hf3 : f = 3 := by
        rcases (by omega : f = 1 ∨ f = 2 ∨ f = 3) with rfl | rfl | rfl
        · exact absurd rfl h1
        · exact absurd rfl h2
        · rfl
      subst hf3
      refine lv_icmp_ne hx hb (show decode (TB 135) 32 = .ok (.if_icmp .ne 14, 3) by decide +kernel) (tgt := 46) rfl (fun h3 => absurd rfl h3) (fun h3 => ?_)
      exact vx_throwSW hx hb hl hown (by decide +kernel) (by decide +kernel) (hts _ nx_k3) (hts _ nx_j3) (hE.2.2.2.1 3 ⟨by omega, by omega⟩) (fun w hw => hat w (nx_at3 w hw)) nx_g3 hE.2.2.1.1 hE.2.2.1.2 hS hsz
        (show decode (TB 135) 35 = .ok (.new 258, 3) by decide +kernel) (show decode (TB 135) 38 = .ok (.dup, 1) by decide +kernel) (show decode (TB 135) 39 = .ok (.ldc_w 260, 3) by decide +kernel) (show decode (TB 135) 42 = .ok (.invokespecial 262, 3) by decide +kernel) (show decode (TB 135) 45 = .ok (.athrow, 1) by decide +kernel)
        (hout _) (by decide +kernel) (by decide +kernel) (by decide +kernel) (by decide +kernel) hlk (fun t _ h1 h2 => ⟨rfl, h1, h2⟩) (fun z h => nomatch h) (Nat.le_refl _) (Nat.le_refl _)
    · have hf2 : f = 2 := by
        rcases (by omega : f = 1 ∨ f = 2 ∨ f = 3) with rfl | rfl | rfl
        · exact absurd rfl h1
        · rfl
        · exact absurd h2 (by decide)
      subst hf2
      exact vx_throwS hx hb hl hown (by decide +kernel) (by decide +kernel) (hts _ nx_k2) (hts _ nx_j2) (hE.2.2.2.1 2 ⟨by omega, by omega⟩) (fun w hw => hat w (nx_at2 w hw)) nx_g2 hE.2.2.1.1 hE.2.2.1.2 hS hsz
        (show decode (TB 135) 20 = .ok (.new 253, 3) by decide +kernel) (show decode (TB 135) 23 = .ok (.dup, 1) by decide +kernel) (show decode (TB 135) 24 = .ok (.ldc 255, 2) by decide +kernel) (show decode (TB 135) 26 = .ok (.invokespecial 257, 3) by decide +kernel) (show decode (TB 135) 29 = .ok (.athrow, 1) by decide +kernel)
        (hout _) (by decide +kernel) (by decide +kernel) (by decide +kernel) (by decide +kernel) hlk (fun t _ h1 h2 => ⟨rfl, h1, h2⟩) (fun z h => nomatch h) (Nat.le_refl _) (Nat.le_refl _)
  · have hf1 : f = 1 := by
      rcases (by omega : f = 1 ∨ f = 2 ∨ f = 3) with rfl | rfl | rfl
      · rfl
      · exact absurd h1 (by decide)
      · exact absurd h1 (by decide)
    subst hf1
    exact vx_throwS hx hb hl hown (by decide +kernel) (by decide +kernel) (hts _ nx_k1) (hts _ nx_j1) (hE.2.2.2.1 1 ⟨by omega, by omega⟩) (fun w hw => hat w (nx_at1 w hw)) nx_g1 hE.2.2.1.1 hE.2.2.1.2 hS hsz
      (show decode (TB 135) 5 = .ok (.new 246, 3) by decide +kernel) (show decode (TB 135) 8 = .ok (.dup, 1) by decide +kernel) (show decode (TB 135) 9 = .ok (.ldc 248, 2) by decide +kernel) (show decode (TB 135) 11 = .ok (.invokespecial 250, 3) by decide +kernel) (show decode (TB 135) 14 = .ok (.athrow, 1) by decide +kernel)
      (hout _) (by decide +kernel) (by decide +kernel) (by decide +kernel) (by decide +kernel) hlk (fun t _ h1 h2 => ⟨rfl, h1, h2⟩) (fun z h => nomatch h) (Nat.le_refl _) (Nat.le_refl _)
