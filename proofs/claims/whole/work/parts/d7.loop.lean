/-! The law's loop. -/
theorem lx_31 (x : Int32) : 0 ≤ (x &&& Int32.ofInt 31).toInt ∧ (x &&& Int32.ofInt 31).toInt ≤ 31 := by
  have h1 : (x &&& Int32.ofInt 31).toBitVec.toNat ≤ 31 := by
    show (x.toBitVec &&& 31#32).toNat ≤ 31
    rw [BitVec.toNat_and]
    exact Nat.and_le_right
  have h2 : (x &&& Int32.ofInt 31).toInt = ((x &&& Int32.ofInt 31).toBitVec.toNat : Int) := by
    show (x &&& Int32.ofInt 31).toBitVec.toInt = _
    exact BitVec.toInt_eq_toNat_of_lt (by omega)
  omega
theorem lx_in {L k j : Nat} (h : k + j < L) (hL : L ≤ 2560) : vp_in (Int32.ofInt ((k : Nat) : Int) + Int32.ofInt ((j : Nat) : Int)) L := by
  rw [na_add]
  have h1 : (Int32.ofInt ((k : Int) + (j : Int))).toInt = (k : Int) + j := na_toInt (by omega) (by omega)
  rintro (h2 | h2)
  · have h3 := Int32.lt_iff_toInt_lt.mp h2
    rw [h1] at h3
    simp at h3
    omega
  · have h4 : (Int32.ofInt ((k : Int) + (j : Int))).toNatClampNeg = k + j := by
      show (Int32.ofInt ((k : Int) + (j : Int))).toInt.toNat = k + j
      rw [h1]
      omega
    omega
section LX
variable {Ks Kv Km : Nat → Nat} {D : va_G} {dT : Nat → ClassId} {dL : ClassId} {p : Program} {l : Launch} {e : Env} {s : State} {m : MethodId} {below : List Frame} {meth : Method} {c : Code} {b L : Nat} {xs : Nat → Int32}
theorem lx_loop (X : lx_X Ks Kv Km D dT dL p l s m meth c b L xs) {C M o : Nat} : ∀ (n k : Nat), 5 * k ≤ L + 5 → L + 5 < 5 * (k + n) → k ≤ 513 → ∀ (σ : ri_S) (g : Nat → Int64) (H : Heap) (locs : List Loc) (ls : Array Slot), lx_S D dT dL s b C M o (Int32.ofInt ((5 * k : Nat) : Int)) (2400 + 20 * (k : Int)) σ g H locs ls → W p l e room_1 s m #[Value.ref b] below meth c H locs (1000 + k) (700000 + 6 * k) (lw_Z below #[Value.ref b] s) (F0 m 23 ls []) := by
  intro n
  induction n with
  | zero => intro k h1 h2; omega
  | succ n ih =>
    intro k hk1 hk2 hk3 σ g H locs ls S
    have hx := X.2.1.1
    have hb := X.2.1.2.1
    have hr := X.1.2.2.1
    have hX := X.1.2.2.2.2.2.2.1
    have hbl := X.1.2.2.2.2.2.2.2.1
    have hlocks := X.1.2.2.2.2.2.2.2.2.1
    have hL := X.2.2.2.2.2.2.2
    have hbA : ¬ lx_A s b := Nat.not_le.mpr hbl
    have hS := S.2.2.1.2
    have hl := S.2.2.2.2
    refine lv_iload hx hb (show decode code 23 = .ok (.iload 4, 2) by decide +kernel) (lv_at hl 4 rfl) ?_
    refine lv_aload_n hx hb (show decode code 25 = .ok (.aload_n 0, 1) by decide +kernel) rfl (lv_at hl 0 rfl) ?_
    refine va_slen hx hb hX hbl hbA hS (show decode code 26 = .ok (.arraylength, 1) by decide +kernel) ?_
    refine lv_iconst hx hb (show decode code 27 = .ok (.iconst 5, 1) by decide +kernel) (v := Int32.ofInt 5) rfl ?_
    refine lv_isub hx hb (show decode code 28 = .ok (.isub, 1) by decide +kernel) ?_
    have hcmp : (Int32.ofNat L - Int32.ofInt 5 < Int32.ofInt ((5 * k : Nat) : Int)) ↔ (L : Int) - 5 < ((5 * k : Nat) : Int) := by
      rw [show Int32.ofNat L = Int32.ofInt (L : Int) from rfl, na_sub, na_lt (by omega) (by omega) (by omega) (by omega)]
    refine lv_icmp_gt hx hb (show decode code 29 = .ok (.if_icmp .gt 1843, 3) by decide +kernel) (tgt := 1872) (by omega) (fun h => ?_) (fun h => ?_)
    · refine lv_iconst hx hb (show decode code 1872 = .ok (.iconst 1, 1) by decide +kernel) (v := 1) rfl ?_
      refine va_forget (fun q hq => hS.2.2 q hq) ?_
      refine W.widen (k := 601024) (n := 7293034) (by omega) (by omega) ?_
      exact lw_ret hx hb hr hlocks (show decode code 1873 = .ok (.ireturn, 1) by decide +kernel)
    · have hgo : 5 * k + 5 ≤ L := by
        have := mt hcmp.mpr h
        omega
      have hnext : ∀ (H1 : Heap) (locs1 : List Loc) (ls1 : Array Slot) (σ4 : ri_S) (g4 : Nat → Int64), lx_S D dT dL s b C M o (Int32.ofInt ((5 * k : Nat) : Int)) (2400 + 20 * (k : Int) + 20) σ4 g4 H1 locs1 ls1 → W p l e room_1 s m #[Value.ref b] below meth c H1 locs1 (1000 + k + 1) (700000 + 6 * k + 6) (lw_Z below #[Value.ref b] s) (F0 m 1866 ls1 []) := by
        rintro H1 locs1 ls1 σ4 g4 ⟨s1, s2, s3, s4, s5⟩
        refine lv_iinc (v := Int32.ofInt ((5 * (k + 1) : Nat) : Int)) (lv' := [(4, .int (Int32.ofInt ((5 * (k + 1) : Nat) : Int))), (0, .ref b), (1, .ref C), (2, .ref M), (3, .ref o)]) hx hb (show decode code 1866 = .ok (.iinc 4 5, 3) by decide +kernel) s5 (k := 4) rfl (by rw [na_add]; exact congrArg Int32.ofInt (by omega)) (by decide) rfl (fun ls2 hl2 => ?_)
        refine lv_goto (tgt := 23) hx hb (show decode code 1869 = .ok (.goto (-1846), 3) by decide +kernel) (by omega) ?_
        have h9 := ih (k + 1) (by omega) (by omega) (by omega) σ4 g4 H1 locs1 ls2 ⟨s1, by rw [show (2400 + 20 * ((k + 1 : Nat) : Int)) = 2400 + 20 * (k : Int) + 20 by omega]; exact s2, s3, s4, lv_sub hl2 [1, 2, 3, 4, 0] rfl⟩
        exact h9
      have i0 : vp_in (Int32.ofInt ((5 * k : Nat) : Int)) L := by
        have := lx_in (L := L) (k := 5 * k) (j := 0) (by omega) hL
        rw [na_add] at this
        rw [show ((5 * k : Nat) : Int) + ((0 : Nat) : Int) = ((5 * k : Nat) : Int) by omega] at this
        exact this
      have i1 : vp_in (Int32.ofInt ((5 * k : Nat) : Int) + Int32.ofInt 1) L := lx_in (k := 5 * k) (j := 1) (by omega) hL
      have i2 : vp_in (Int32.ofInt ((5 * k : Nat) : Int) + Int32.ofInt 2) L := lx_in (k := 5 * k) (j := 2) (by omega) hL
      have i3 : vp_in (Int32.ofInt ((5 * k : Nat) : Int) + Int32.ofInt 3) L := lx_in (k := 5 * k) (j := 3) (by omega) hL
      have i4 : vp_in (Int32.ofInt ((5 * k : Nat) : Int) + Int32.ofInt 4) L := lx_in (k := 5 * k) (j := 4) (by omega) hL
      have c1 : 1000 + k + 1 ≤ 601024 := by omega
      have c2 : 700000 + 6 * k + 6 ≤ 7293034 := by omega
      have c3 : 2400 + 20 * (k : Int) + 20 + 400000 ≤ 1000000 := by omega
      refine lv_aload_n hx hb (show decode code 32 = .ok (.aload_n 0, 1) by decide +kernel) rfl (lv_at hl 0 rfl) ?_
      refine lv_iload hx hb (show decode code 33 = .ok (.iload 4, 2) by decide +kernel) (lv_at hl 4 rfl) ?_
      refine va_sld hx hb hX hbl hbA hS i0 (show decode code 35 = .ok (.iaload, 1) by decide +kernel) ?_
      refine lv_bipush hx hb (show decode code 36 = .ok (.bipush 31, 2) by decide +kernel) (v := Int32.ofInt 31) (by decide +kernel) ?_
      refine lv_iand hx hb (show decode code 38 = .ok (.iand, 1) by decide +kernel) ?_
      have h31 := lx_31 (xs (Int32.ofInt ((5 * k : Nat) : Int)).toNatClampNeg)
      generalize (xs (Int32.ofInt ((5 * k : Nat) : Int)).toNatClampNeg &&& Int32.ofInt 31) = y at h31 ⊢
      have hd := (show decode code 39 = .ok (.tableswitch 1827 0 25 #[117, 173, 186, 199, 243, 299, 367, 447, 515, 583, 663, 755, 835, 915, 983, 1051, 1119, 1175, 1219, 1287, 1379, 1447, 1515, 1615, 1715, 1771], 117) by decide +kernel)
      rcases (by omega : y.toInt = 0 ∨ y.toInt = 1 ∨ y.toInt = 2 ∨ y.toInt = 3 ∨ y.toInt = 4 ∨ y.toInt = 5 ∨ y.toInt = 6 ∨ y.toInt = 7 ∨ y.toInt = 8 ∨ y.toInt = 9 ∨ y.toInt = 10 ∨ y.toInt = 11 ∨ y.toInt = 12 ∨ y.toInt = 13 ∨ y.toInt = 14 ∨ y.toInt = 15 ∨ y.toInt = 16 ∨ y.toInt = 17 ∨ y.toInt = 18 ∨ y.toInt = 19 ∨ y.toInt = 20 ∨ y.toInt = 21 ∨ y.toInt = 22 ∨ y.toInt = 23 ∨ y.toInt = 24 ∨ y.toInt = 25 ∨ 25 < y.toInt) with h | h | h | h | h | h | h | h | h | h | h | h | h | h | h | h | h | h | h | h | h | h | h | h | h | h | h
      · exact lv_tableIn hx hb hd (by rw [h]; decide) (by rw [h]; decide) (off := 117) (by rw [h]; rfl) (tgt := 156) (by omega) (lc_append X S i1 i2 i3 i4 c1 c2 c3 hnext)
      · exact lv_tableIn hx hb hd (by rw [h]; decide) (by rw [h]; decide) (off := 173) (by rw [h]; rfl) (tgt := 212) (by omega) (lc_clearText X S i1 i2 i3 i4 c1 c2 c3 hnext)
      · exact lv_tableIn hx hb hd (by rw [h]; decide) (by rw [h]; decide) (off := 186) (by rw [h]; rfl) (tgt := 225) (by omega) (lc_errorPosition X S i1 i2 i3 i4 c1 c2 c3 hnext)
      · exact lv_tableIn hx hb hd (by rw [h]; decide) (by rw [h]; decide) (off := 199) (by rw [h]; rfl) (tgt := 238) (by omega) (lc_load X S i1 i2 i3 i4 c1 c2 c3 hnext)
      · exact lv_tableIn hx hb hd (by rw [h]; decide) (by rw [h]; decide) (off := 243) (by rw [h]; rfl) (tgt := 282) (by omega) (lc_about X S i1 i2 i3 i4 c1 c2 c3 hnext)
      · exact lv_tableIn hx hb hd (by rw [h]; decide) (by rw [h]; decide) (off := 299) (by rw [h]; rfl) (tgt := 338) (by omega) (lc_wheelOf X S i1 i2 i3 i4 c1 c2 c3 hnext)
      · exact lv_tableIn hx hb hd (by rw [h]; decide) (by rw [h]; decide) (off := 367) (by rw [h]; rfl) (tgt := 406) (by omega) (lc_placeOf X S i1 i2 i3 i4 c1 c2 c3 hnext)
      · exact lv_tableIn hx hb hd (by rw [h]; decide) (by rw [h]; decide) (off := 447) (by rw [h]; rfl) (tgt := 486) (by omega) (lc_frogOf X S i1 i2 i3 i4 c1 c2 c3 hnext)
      · exact lv_tableIn hx hb hd (by rw [h]; decide) (by rw [h]; decide) (off := 515) (by rw [h]; rfl) (tgt := 554) (by omega) (lc_lineOf X S i1 i2 i3 i4 c1 c2 c3 hnext)
      · exact lv_tableIn hx hb hd (by rw [h]; decide) (by rw [h]; decide) (off := 583) (by rw [h]; rfl) (tgt := 622) (by omega) (lc_wheel X S i1 i2 i3 i4 c1 c2 c3 hnext)
      · exact lv_tableIn hx hb hd (by rw [h]; decide) (by rw [h]; decide) (off := 663) (by rw [h]; rfl) (tgt := 702) (by omega) (lc_line X S i1 i2 i3 i4 c1 c2 c3 hnext)
      · exact lv_tableIn hx hb hd (by rw [h]; decide) (by rw [h]; decide) (off := 755) (by rw [h]; rfl) (tgt := 794) (by omega) (lc_frog X S i1 i2 i3 i4 c1 c2 c3 hnext)
      · exact lv_tableIn hx hb hd (by rw [h]; decide) (by rw [h]; decide) (off := 835) (by rw [h]; rfl) (tgt := 874) (by omega) (lc_flies X S i1 i2 i3 i4 c1 c2 c3 hnext)
      · exact lv_tableIn hx hb hd (by rw [h]; decide) (by rw [h]; decide) (off := 915) (by rw [h]; rfl) (tgt := 954) (by omega) (lc_leap X S i1 i2 i3 i4 c1 c2 c3 hnext)
      · exact lv_tableIn hx hb hd (by rw [h]; decide) (by rw [h]; decide) (off := 983) (by rw [h]; rfl) (tgt := 1022) (by omega) (lc_hop X S i1 i2 i3 i4 c1 c2 c3 hnext)
      · exact lv_tableIn hx hb hd (by rw [h]; decide) (by rw [h]; decide) (off := 1051) (by rw [h]; rfl) (tgt := 1090) (by omega) (lc_turn X S i1 i2 i3 i4 c1 c2 c3 hnext)
      · exact lv_tableIn hx hb hd (by rw [h]; decide) (by rw [h]; decide) (off := 1119) (by rw [h]; rfl) (tgt := 1158) (by omega) (lc_set X S i1 i2 i3 i4 c1 c2 c3 hnext)
      · exact lv_tableIn hx hb hd (by rw [h]; decide) (by rw [h]; decide) (off := 1175) (by rw [h]; rfl) (tgt := 1214) (by omega) (lc_undo X S i1 i2 i3 i4 c1 c2 c3 hnext)
      · exact lv_tableIn hx hb hd (by rw [h]; decide) (by rw [h]; decide) (off := 1219) (by rw [h]; rfl) (tgt := 1258) (by omega) (lc_why X S i1 i2 i3 i4 c1 c2 c3 hnext)
      · exact lv_tableIn hx hb hd (by rw [h]; decide) (by rw [h]; decide) (off := 1287) (by rw [h]; rfl) (tgt := 1326) (by omega) (lc_fewest X S i1 i2 i3 i4 c1 c2 c3 hnext)
      · exact lv_tableIn hx hb hd (by rw [h]; decide) (by rw [h]; decide) (off := 1379) (by rw [h]; rfl) (tgt := 1418) (by omega) (lc_couldBe X S i1 i2 i3 i4 c1 c2 c3 hnext)
      · exact lv_tableIn hx hb hd (by rw [h]; decide) (by rw [h]; decide) (off := 1447) (by rw [h]; rfl) (tgt := 1486) (by omega) (lc_mostFlies X S i1 i2 i3 i4 c1 c2 c3 hnext)
      · exact lv_tableIn hx hb hd (by rw [h]; decide) (by rw [h]; decide) (off := 1515) (by rw [h]; rfl) (tgt := 1554) (by omega) (lc_runScript X S i1 i2 i3 i4 c1 c2 c3 hnext)
      · exact lv_tableIn hx hb hd (by rw [h]; decide) (by rw [h]; decide) (off := 1615) (by rw [h]; rfl) (tgt := 1654) (by omega) (lc_simulate X S i1 i2 i3 i4 c1 c2 c3 hnext)
      · exact lv_tableIn hx hb hd (by rw [h]; decide) (by rw [h]; decide) (off := 1715) (by rw [h]; rfl) (tgt := 1754) (by omega) (lc_save X S i1 i2 i3 i4 c1 c2 c3 hnext)
      · exact lv_tableIn hx hb hd (by rw [h]; decide) (by rw [h]; decide) (off := 1771) (by rw [h]; rfl) (tgt := 1810) (by omega) (lc_restore X S i1 i2 i3 i4 c1 c2 c3 hnext)
      · refine lv_tableOut hx hb hd (Or.inr h) (tgt := 1866) (by omega) ?_
        obtain ⟨s1, ⟨V, PR, PZ, X2, S2, A2, e9, hr9⟩, s3, s4, s5⟩ := S
        exact W.widen (k := 1000 + k + 1) (n := 700000 + 6 * k + 6) (by omega) (by omega) (hnext H locs ls σ g ⟨s1, ⟨V, PR, PZ, X2, S2, A2, e9, lr_mono hr9 (by omega) c3⟩, s3, s4, s5⟩)
end LX
