/-! The machine goes with the plain steps. -/
section RIOK
variable {LW : List Cond} {own : String} {cc : ByteArray} {nL pc : Nat}
theorem ro_iload_n {k : Fin 4} {i : Nat} (hd : decode cc pc = .ok (.iload_n k, 1)) (hi : (k : Nat) = i) : ri_okp LW own cc nL pc (ri_iload i 1) := by
  intro p l e R s m args below meth c Q S hR L st fr2 H locs cells slots ls hf hL hc hs kk
  obtain ⟨hx, hb, hml, hown, hts⟩ := S
  unfold ri_iload at hf
  split at hf
  · rename_i x he
    cases hf
    exact lv_iload_n hx hb hd hi (hL.2.2 _ _ he) (kk ls hL)
  · cases hf
theorem ro_iload {i : Nat} (hd : decode cc pc = .ok (.iload i, 2)) : ri_okp LW own cc nL pc (ri_iload i 2) := by
  intro p l e R s m args below meth c Q S hR L st fr2 H locs cells slots ls hf hL hc hs kk
  obtain ⟨hx, hb, hml, hown, hts⟩ := S
  unfold ri_iload at hf
  split at hf
  · rename_i x he
    cases hf
    exact lv_iload hx hb hd (hL.2.2 _ _ he) (kk ls hL)
  · cases hf
theorem ro_lload_n {k : Fin 4} {i : Nat} (hd : decode cc pc = .ok (.lload_n k, 1)) (hi : (k : Nat) = i) : ri_okp LW own cc nL pc (ri_lload i 1) := by
  intro p l e R s m args below meth c Q S hR L st fr2 H locs cells slots ls hf hL hc hs kk
  obtain ⟨hx, hb, hml, hown, hts⟩ := S
  unfold ri_lload at hf
  split at hf
  · rename_i x he
    cases hf
    exact lv_lload_n hx hb hd hi (hL.2.2 _ _ he) (kk ls hL)
  · cases hf
theorem ro_lload {i : Nat} (hd : decode cc pc = .ok (.lload i, 2)) : ri_okp LW own cc nL pc (ri_lload i 2) := by
  intro p l e R s m args below meth c Q S hR L st fr2 H locs cells slots ls hf hL hc hs kk
  obtain ⟨hx, hb, hml, hown, hts⟩ := S
  unfold ri_lload at hf
  split at hf
  · rename_i x he
    cases hf
    exact lv_lload hx hb hd (hL.2.2 _ _ he) (kk ls hL)
  · cases hf
theorem ro_aload_n {k : Fin 4} {i : Nat} (hd : decode cc pc = .ok (.aload_n k, 1)) (hi : (k : Nat) = i) : ri_okp LW own cc nL pc (ri_aload i 1) := by
  intro p l e R s m args below meth c Q S hR L st fr2 H locs cells slots ls hf hL hc hs kk
  obtain ⟨hx, hb, hml, hown, hts⟩ := S
  unfold ri_aload at hf
  split at hf
  · rename_i x he
    cases hf
    exact lv_aload_n hx hb hd hi (hL.2.2 _ _ he) (kk ls hL)
  · rename_i he
    cases hf
    exact lv_aload_nN hx hb hd hi (hL.2.2 _ _ he) (kk ls hL)
  · cases hf
theorem ro_aload {i : Nat} (hd : decode cc pc = .ok (.aload i, 2)) : ri_okp LW own cc nL pc (ri_aload i 2) := by
  intro p l e R s m args below meth c Q S hR L st fr2 H locs cells slots ls hf hL hc hs kk
  obtain ⟨hx, hb, hml, hown, hts⟩ := S
  unfold ri_aload at hf
  split at hf
  · rename_i x he
    cases hf
    exact lv_aload hx hb hd (hL.2.2 _ _ he) (kk ls hL)
  · rename_i he
    cases hf
    exact lv_aloadN hx hb hd (hL.2.2 _ _ he) (kk ls hL)
  · cases hf
theorem ro_istore_n {k : Fin 4} {i : Nat} (hd : decode cc pc = .ok (.istore_n k, 1)) (hi : (k : Nat) = i) (hn : i < nL) : ri_okp LW own cc nL pc (ri_istore i 1) := by
  intro p l e R s m args below meth c Q S hR L st fr2 H locs cells slots ls hf hL hc hs kk
  obtain ⟨hx, hb, hml, hown, hts⟩ := S
  unfold ri_istore at hf
  split at hf
  · rename_i x st2 he
    cases hf
    obtain rfl : st = _ := he
    exact lv_istore_n hx hb hd hi hL.has hn rfl (fun ls2 h2 => kk ls2 (ri_Lo.set h2))
  · cases hf
theorem ro_istore {i : Nat} (hd : decode cc pc = .ok (.istore i, 2)) (hn : i < nL) : ri_okp LW own cc nL pc (ri_istore i 2) := by
  intro p l e R s m args below meth c Q S hR L st fr2 H locs cells slots ls hf hL hc hs kk
  obtain ⟨hx, hb, hml, hown, hts⟩ := S
  unfold ri_istore at hf
  split at hf
  · rename_i x st2 he
    cases hf
    obtain rfl : st = _ := he
    exact lv_istore hx hb hd hL.has hn rfl (fun ls2 h2 => kk ls2 (ri_Lo.set h2))
  · cases hf
theorem ro_astore_n {k : Fin 4} {i : Nat} (hd : decode cc pc = .ok (.astore_n k, 1)) (hi : (k : Nat) = i) (hn : i < nL) : ri_okp LW own cc nL pc (ri_astore i 1) := by
  intro p l e R s m args below meth c Q S hR L st fr2 H locs cells slots ls hf hL hc hs kk
  obtain ⟨hx, hb, hml, hown, hts⟩ := S
  unfold ri_astore at hf
  split at hf
  · rename_i x st2 he
    cases hf
    obtain rfl : st = _ := he
    exact lv_astore_n hx hb hd hi hL.has hn rfl (fun ls2 h2 => kk ls2 (ri_Lo.set h2))
  · rename_i st2 he
    cases hf
    obtain rfl : st = _ := he
    exact lv_astore_nN hx hb hd hi hL.has hn rfl (fun ls2 h2 => kk ls2 (ri_Lo.set h2))
  · cases hf
theorem ro_astore {i : Nat} (hd : decode cc pc = .ok (.astore i, 2)) (hn : i < nL) : ri_okp LW own cc nL pc (ri_astore i 2) := by
  intro p l e R s m args below meth c Q S hR L st fr2 H locs cells slots ls hf hL hc hs kk
  obtain ⟨hx, hb, hml, hown, hts⟩ := S
  unfold ri_astore at hf
  split at hf
  · rename_i x st2 he
    cases hf
    obtain rfl : st = _ := he
    exact lv_astore hx hb hd hL.has hn rfl (fun ls2 h2 => kk ls2 (ri_Lo.set h2))
  · rename_i st2 he
    cases hf
    obtain rfl : st = _ := he
    exact lv_astoreN hx hb hd hL.has hn rfl (fun ls2 h2 => kk ls2 (ri_Lo.set h2))
  · cases hf
theorem ro_lstore_n {k : Fin 4} {i : Nat} (hd : decode cc pc = .ok (.lstore_n k, 1)) (hi : (k : Nat) = i) (hn : i + 1 < nL) : ri_okp LW own cc nL pc (ri_lstore i 1) := by
  intro p l e R s m args below meth c Q S hR L st fr2 H locs cells slots ls hf hL hc hs kk
  obtain ⟨hx, hb, hml, hown, hts⟩ := S
  unfold ri_lstore at hf
  split at hf
  · rename_i x st2 he
    cases hf
    obtain rfl : st = _ := he
    exact lv_lstore_n hx hb hd hi hL.has hn rfl (fun ls2 h2 => kk ls2 (ri_Lo.set2 h2))
  · cases hf
theorem ro_lstore {i : Nat} (hd : decode cc pc = .ok (.lstore i, 2)) (hn : i + 1 < nL) : ri_okp LW own cc nL pc (ri_lstore i 2) := by
  intro p l e R s m args below meth c Q S hR L st fr2 H locs cells slots ls hf hL hc hs kk
  obtain ⟨hx, hb, hml, hown, hts⟩ := S
  unfold ri_lstore at hf
  split at hf
  · rename_i x st2 he
    cases hf
    obtain rfl : st = _ := he
    exact lv_lstore hx hb hd hL.has hn rfl (fun ls2 h2 => kk ls2 (ri_Lo.set2 h2))
  · cases hf
theorem ro_iinc {i : Nat} {n : Int} {d : Int32} (hd : decode cc pc = .ok (.iinc i n, 3)) (hv : Int32.ofInt n = d) (hn : i < nL) : ri_okp LW own cc nL pc (ri_iinc i d) := by
  intro p l e R s m args below meth c Q S hR L st fr2 H locs cells slots ls hf hL hc hs kk
  obtain ⟨hx, hb, hml, hown, hts⟩ := S
  unfold ri_iinc at hf
  split at hf
  · rename_i x he
    cases hf
    have hm : (i, Value.int x) ∈ ri_lv 0 L := (ri_lv_get L 0 _).mpr ⟨i, by simp, he⟩
    obtain ⟨k, hk⟩ := List.getElem?_of_mem hm
    exact lv_iinc hx hb hd hL.has hk (by rw [hv]) hn rfl (fun ls2 h2 => kk ls2 (ri_Lo.set h2))
  · cases hf
theorem ro_iconst {n : Int} {v : Int32} (hd : decode cc pc = .ok (.iconst n, 1)) (hv : Int32.ofInt n = v) : ri_okp LW own cc nL pc (ri_icon v 1) := by
  intro p l e R s m args below meth c Q S hR L st fr2 H locs cells slots ls hf hL hc hs kk
  obtain ⟨hx, hb, hml, hown, hts⟩ := S
  unfold ri_icon at hf
  cases hf
  exact lv_iconst hx hb hd hv (kk ls hL)
theorem ro_bipush {n : Int} {v : Int32} (hd : decode cc pc = .ok (.bipush n, 2)) (hv : (Int8.ofInt n).toInt32 = v) : ri_okp LW own cc nL pc (ri_icon v 2) := by
  intro p l e R s m args below meth c Q S hR L st fr2 H locs cells slots ls hf hL hc hs kk
  obtain ⟨hx, hb, hml, hown, hts⟩ := S
  unfold ri_icon at hf
  cases hf
  exact lv_bipush hx hb hd hv (kk ls hL)
theorem ro_sipush {n : Int} {v : Int32} (hd : decode cc pc = .ok (.sipush n, 3)) (hv : (Int16.ofInt n).toInt32 = v) : ri_okp LW own cc nL pc (ri_icon v 3) := by
  intro p l e R s m args below meth c Q S hR L st fr2 H locs cells slots ls hf hL hc hs kk
  obtain ⟨hx, hb, hml, hown, hts⟩ := S
  unfold ri_icon at hf
  cases hf
  exact lv_sipush hx hb hd hv (kk ls hL)
theorem ro_lconst {n : Fin 2} {v : Int64} (hd : decode cc pc = .ok (.lconst n, 1)) (hv : Int64.ofNat (n : Nat) = v) : ri_okp LW own cc nL pc (ri_lcon v 1) := by
  intro p l e R s m args below meth c Q S hR L st fr2 H locs cells slots ls hf hL hc hs kk
  obtain ⟨hx, hb, hml, hown, hts⟩ := S
  unfold ri_lcon at hf
  cases hf
  exact lv_lconst hx hb hd hv (kk ls hL)
theorem ro_ldc2 {index : Nat} {v : Int64} (hd : decode cc pc = .ok (.ldc2_w index, 3)) (hw : Cond.constantLong own index v ∈ LW) : ri_okp LW own cc nL pc (ri_lcon v 3) := by
  intro p l e R s m args below meth c Q S hR L st fr2 H locs cells slots ls hf hL hc hs kk
  obtain ⟨hx, hb, hml, hown, hts⟩ := S
  unfold ri_lcon at hf
  cases hf
  exact lv_ldc2 hx hb hown (hts _ hw) hd (kk ls hL)
theorem ro_null (hd : decode cc pc = .ok (.aconst_null, 1)) : ri_okp LW own cc nL pc (ri_null) := by
  intro p l e R s m args below meth c Q S hR L st fr2 H locs cells slots ls hf hL hc hs kk
  obtain ⟨hx, hb, hml, hown, hts⟩ := S
  unfold ri_null at hf
  cases hf
  exact lv_null hx hb hd (kk ls hL)
theorem ro_goto {off : Int} {t : Nat} (hd : decode cc pc = .ok (.goto off, 3)) (ht : (pc : Int) + off = (t : Int)) : ri_okp LW own cc nL pc (ri_goto t) := by
  intro p l e R s m args below meth c Q S hR L st fr2 H locs cells slots ls hf hL hc hs kk
  obtain ⟨hx, hb, hml, hown, hts⟩ := S
  unfold ri_goto at hf
  cases hf
  exact lv_goto hx hb hd ht (kk ls hL)
theorem ro_iadd (hd : decode cc pc = .ok (.iadd, 1)) : ri_okp LW own cc nL pc (ri_ib fun x y => x + y) := by
  intro p l e R s m args below meth c Q S hR L st fr2 H locs cells slots ls hf hL hc hs kk
  obtain ⟨hx, hb, hml, hown, hts⟩ := S
  unfold ri_ib at hf
  split at hf
  · rename_i y x st2 he
    cases hf
    obtain rfl : st = _ := he
    exact lv_iadd hx hb hd (kk ls hL)
  · cases hf
theorem ro_isub (hd : decode cc pc = .ok (.isub, 1)) : ri_okp LW own cc nL pc (ri_ib fun x y => x - y) := by
  intro p l e R s m args below meth c Q S hR L st fr2 H locs cells slots ls hf hL hc hs kk
  obtain ⟨hx, hb, hml, hown, hts⟩ := S
  unfold ri_ib at hf
  split at hf
  · rename_i y x st2 he
    cases hf
    obtain rfl : st = _ := he
    exact lv_isub hx hb hd (kk ls hL)
  · cases hf
theorem ro_imul (hd : decode cc pc = .ok (.imul, 1)) : ri_okp LW own cc nL pc (ri_ib fun x y => x * y) := by
  intro p l e R s m args below meth c Q S hR L st fr2 H locs cells slots ls hf hL hc hs kk
  obtain ⟨hx, hb, hml, hown, hts⟩ := S
  unfold ri_ib at hf
  split at hf
  · rename_i y x st2 he
    cases hf
    obtain rfl : st = _ := he
    exact lv_imul hx hb hd (kk ls hL)
  · cases hf
theorem ro_iand (hd : decode cc pc = .ok (.iand, 1)) : ri_okp LW own cc nL pc (ri_ib fun x y => x &&& y) := by
  intro p l e R s m args below meth c Q S hR L st fr2 H locs cells slots ls hf hL hc hs kk
  obtain ⟨hx, hb, hml, hown, hts⟩ := S
  unfold ri_ib at hf
  split at hf
  · rename_i y x st2 he
    cases hf
    obtain rfl : st = _ := he
    exact lv_iand hx hb hd (kk ls hL)
  · cases hf
theorem ro_ior (hd : decode cc pc = .ok (.ior, 1)) : ri_okp LW own cc nL pc (ri_ib fun x y => x ||| y) := by
  intro p l e R s m args below meth c Q S hR L st fr2 H locs cells slots ls hf hL hc hs kk
  obtain ⟨hx, hb, hml, hown, hts⟩ := S
  unfold ri_ib at hf
  split at hf
  · rename_i y x st2 he
    cases hf
    obtain rfl : st = _ := he
    exact lv_ior hx hb hd (kk ls hL)
  · cases hf
theorem ro_ishl (hd : decode cc pc = .ok (.ishl, 1)) : ri_okp LW own cc nL pc (ri_ib fun x y => x <<< (y &&& 31)) := by
  intro p l e R s m args below meth c Q S hR L st fr2 H locs cells slots ls hf hL hc hs kk
  obtain ⟨hx, hb, hml, hown, hts⟩ := S
  unfold ri_ib at hf
  split at hf
  · rename_i y x st2 he
    cases hf
    obtain rfl : st = _ := he
    exact lv_ishl hx hb hd (kk ls hL)
  · cases hf
theorem ro_idiv (hd : decode cc pc = .ok (.idiv, 1)) : ri_okp LW own cc nL pc (ri_idr fun x y => x / y) := by
  intro p l e R s m args below meth c Q S hR L st fr2 H locs cells slots ls hf hL hc hs kk
  obtain ⟨hx, hb, hml, hown, hts⟩ := S
  unfold ri_idr at hf
  split at hf
  · rename_i y x st2 he
    obtain rfl : st = _ := he
    split at hf
    · cases hf
    · rename_i hne
      cases hf
      exact lv_idiv hx hb hd hne (kk ls hL)
  · cases hf
theorem ro_irem (hd : decode cc pc = .ok (.irem, 1)) : ri_okp LW own cc nL pc (ri_idr fun x y => x - x / y * y) := by
  intro p l e R s m args below meth c Q S hR L st fr2 H locs cells slots ls hf hL hc hs kk
  obtain ⟨hx, hb, hml, hown, hts⟩ := S
  unfold ri_idr at hf
  split at hf
  · rename_i y x st2 he
    obtain rfl : st = _ := he
    split at hf
    · cases hf
    · rename_i hne
      cases hf
      exact lv_irem hx hb hd hne (kk ls hL)
  · cases hf
theorem ro_ladd (hd : decode cc pc = .ok (.ladd, 1)) : ri_okp LW own cc nL pc (ri_lb fun x y => x + y) := by
  intro p l e R s m args below meth c Q S hR L st fr2 H locs cells slots ls hf hL hc hs kk
  obtain ⟨hx, hb, hml, hown, hts⟩ := S
  unfold ri_lb at hf
  split at hf
  · rename_i y x st2 he
    cases hf
    obtain rfl : st = _ := he
    exact lv_ladd hx hb hd (kk ls hL)
  · cases hf
theorem ro_lsub (hd : decode cc pc = .ok (.lsub, 1)) : ri_okp LW own cc nL pc (ri_lb fun x y => x - y) := by
  intro p l e R s m args below meth c Q S hR L st fr2 H locs cells slots ls hf hL hc hs kk
  obtain ⟨hx, hb, hml, hown, hts⟩ := S
  unfold ri_lb at hf
  split at hf
  · rename_i y x st2 he
    cases hf
    obtain rfl : st = _ := he
    exact lv_lsub hx hb hd (kk ls hL)
  · cases hf
theorem ro_lmul (hd : decode cc pc = .ok (.lmul, 1)) : ri_okp LW own cc nL pc (ri_lb fun x y => x * y) := by
  intro p l e R s m args below meth c Q S hR L st fr2 H locs cells slots ls hf hL hc hs kk
  obtain ⟨hx, hb, hml, hown, hts⟩ := S
  unfold ri_lb at hf
  split at hf
  · rename_i y x st2 he
    cases hf
    obtain rfl : st = _ := he
    exact lv_lmul hx hb hd (kk ls hL)
  · cases hf
theorem ro_lor (hd : decode cc pc = .ok (.lor, 1)) : ri_okp LW own cc nL pc (ri_lb fun x y => x ||| y) := by
  intro p l e R s m args below meth c Q S hR L st fr2 H locs cells slots ls hf hL hc hs kk
  obtain ⟨hx, hb, hml, hown, hts⟩ := S
  unfold ri_lb at hf
  split at hf
  · rename_i y x st2 he
    cases hf
    obtain rfl : st = _ := he
    exact lv_lor hx hb hd (kk ls hL)
  · cases hf
theorem ro_land (hd : decode cc pc = .ok (.land, 1)) : ri_okp LW own cc nL pc (ri_lb fun x y => x &&& y) := by
  intro p l e R s m args below meth c Q S hR L st fr2 H locs cells slots ls hf hL hc hs kk
  obtain ⟨hx, hb, hml, hown, hts⟩ := S
  unfold ri_lb at hf
  split at hf
  · rename_i y x st2 he
    cases hf
    obtain rfl : st = _ := he
    exact lv_land hx hb hd (kk ls hL)
  · cases hf
theorem ro_ldiv (hd : decode cc pc = .ok (.ldiv, 1)) : ri_okp LW own cc nL pc (ri_ldr fun x y => x / y) := by
  intro p l e R s m args below meth c Q S hR L st fr2 H locs cells slots ls hf hL hc hs kk
  obtain ⟨hx, hb, hml, hown, hts⟩ := S
  unfold ri_ldr at hf
  split at hf
  · rename_i y x st2 he
    obtain rfl : st = _ := he
    split at hf
    · cases hf
    · rename_i hne
      cases hf
      exact lv_ldiv hx hb hd hne (kk ls hL)
  · cases hf
theorem ro_lrem (hd : decode cc pc = .ok (.lrem, 1)) : ri_okp LW own cc nL pc (ri_ldr fun x y => x - x / y * y) := by
  intro p l e R s m args below meth c Q S hR L st fr2 H locs cells slots ls hf hL hc hs kk
  obtain ⟨hx, hb, hml, hown, hts⟩ := S
  unfold ri_ldr at hf
  split at hf
  · rename_i y x st2 he
    obtain rfl : st = _ := he
    split at hf
    · cases hf
    · rename_i hne
      cases hf
      exact lv_lrem hx hb hd hne (kk ls hL)
  · cases hf
theorem ro_lshl (hd : decode cc pc = .ok (.lshl, 1)) : ri_okp LW own cc nL pc (ri_lsh fun x y => x <<< (y.toInt64 &&& 63)) := by
  intro p l e R s m args below meth c Q S hR L st fr2 H locs cells slots ls hf hL hc hs kk
  obtain ⟨hx, hb, hml, hown, hts⟩ := S
  unfold ri_lsh at hf
  split at hf
  · rename_i y x st2 he
    cases hf
    obtain rfl : st = _ := he
    exact lv_lshl hx hb hd rfl (kk ls hL)
  · cases hf
theorem ro_lushr (hd : decode cc pc = .ok (.lushr, 1)) : ri_okp LW own cc nL pc (ri_lsh fun x y => (x.toUInt64 >>> (y.toInt64.toUInt64 &&& Int64.toUInt64 63)).toInt64) := by
  intro p l e R s m args below meth c Q S hR L st fr2 H locs cells slots ls hf hL hc hs kk
  obtain ⟨hx, hb, hml, hown, hts⟩ := S
  unfold ri_lsh at hf
  split at hf
  · rename_i y x st2 he
    cases hf
    obtain rfl : st = _ := he
    exact lv_lushr hx hb hd rfl (kk ls hL)
  · cases hf
theorem ro_lcmp (hd : decode cc pc = .ok (.lcmp, 1)) : ri_okp LW own cc nL pc (ri_lcmp) := by
  intro p l e R s m args below meth c Q S hR L st fr2 H locs cells slots ls hf hL hc hs kk
  obtain ⟨hx, hb, hml, hown, hts⟩ := S
  unfold ri_lcmp at hf
  split at hf
  · rename_i y x st2 he
    cases hf
    obtain rfl : st = _ := he
    exact W.lcmp hx hb hd (kk ls hL)
  · cases hf
theorem ro_i2l (hd : decode cc pc = .ok (.i2l, 1)) : ri_okp LW own cc nL pc ri_i2l := by
  intro p l e R s m args below meth c Q S hR L st fr2 H locs cells slots ls hf hL hc hs kk
  obtain ⟨hx, hb, hml, hown, hts⟩ := S
  unfold ri_i2l at hf
  split at hf
  · rename_i x st2 he
    cases hf
    obtain rfl : st = _ := he
    exact lv_i2l hx hb hd rfl (kk ls hL)
  · cases hf
theorem ro_l2i (hd : decode cc pc = .ok (.l2i, 1)) : ri_okp LW own cc nL pc ri_l2i := by
  intro p l e R s m args below meth c Q S hR L st fr2 H locs cells slots ls hf hL hc hs kk
  obtain ⟨hx, hb, hml, hown, hts⟩ := S
  unfold ri_l2i at hf
  split at hf
  · rename_i x st2 he
    cases hf
    obtain rfl : st = _ := he
    exact lv_l2i hx hb hd rfl (kk ls hL)
  · cases hf
theorem ro_dup (hd : decode cc pc = .ok (.dup, 1)) : ri_okp LW own cc nL pc ri_dup := by
  intro p l e R s m args below meth c Q S hR L st fr2 H locs cells slots ls hf hL hc hs kk
  obtain ⟨hx, hb, hml, hown, hts⟩ := S
  unfold ri_dup at hf
  split at hf
  · rename_i x st2 he
    cases hf
    obtain rfl : st = _ := he
    exact lv_dup hx hb hd rfl (kk ls hL)
  · rename_i x st2 he
    cases hf
    obtain rfl : st = _ := he
    exact lv_dup hx hb hd rfl (kk ls hL)
  · cases hf
theorem ro_pop (hd : decode cc pc = .ok (.pop, 1)) : ri_okp LW own cc nL pc ri_pop := by
  intro p l e R s m args below meth c Q S hR L st fr2 H locs cells slots ls hf hL hc hs kk
  obtain ⟨hx, hb, hml, hown, hts⟩ := S
  unfold ri_pop at hf
  split at hf
  · rename_i x st2 he
    cases hf
    obtain rfl : st = _ := he
    exact lv_pop hx hb hd rfl (kk ls hL)
  · rename_i x st2 he
    cases hf
    obtain rfl : st = _ := he
    exact lv_pop hx hb hd rfl (kk ls hL)
  · cases hf
theorem ro_dup2 (hd : decode cc pc = .ok (.dup2, 1)) : ri_okp LW own cc nL pc ri_dup2 := by
  intro p l e R s m args below meth c Q S hR L st fr2 H locs cells slots ls hf hL hc hs kk
  obtain ⟨hx, hb, hml, hown, hts⟩ := S
  unfold ri_dup2 at hf
  split at hf
  · rename_i x y st2 he
    cases hf
    obtain rfl : st = _ := he
    exact lv_dup2_11 hx hb hd rfl rfl (kk ls hL)
  · cases hf
theorem ro_if_eq {off : Int} {t : Nat} (hd : decode cc pc = .ok (.ifCond .eq off, 3)) (ht : (pc : Int) + off = (t : Int)) : ri_okp LW own cc nL pc (ri_if (fun x => decide (x = 0)) t) := by
  intro p l e R s m args below meth c Q S hR L st fr2 H locs cells slots ls hf hL hc hs kk
  obtain ⟨hx, hb, hml, hown, hts⟩ := S
  unfold ri_if at hf
  split at hf
  · rename_i x st2 he
    obtain rfl : st = _ := he
    refine lv_if_eq hx hb hd ht (fun h => ?_) (fun h => ?_)
    · rw [if_pos (by simpa using h)] at hf
      cases hf
      exact kk ls hL
    · rw [if_neg (by simpa using h)] at hf
      cases hf
      exact kk ls hL
  · cases hf
theorem ro_if_ne {off : Int} {t : Nat} (hd : decode cc pc = .ok (.ifCond .ne off, 3)) (ht : (pc : Int) + off = (t : Int)) : ri_okp LW own cc nL pc (ri_if (fun x => decide (¬ x = 0)) t) := by
  intro p l e R s m args below meth c Q S hR L st fr2 H locs cells slots ls hf hL hc hs kk
  obtain ⟨hx, hb, hml, hown, hts⟩ := S
  unfold ri_if at hf
  split at hf
  · rename_i x st2 he
    obtain rfl : st = _ := he
    refine lv_if_ne hx hb hd ht (fun h => ?_) (fun h => ?_)
    · rw [if_pos (by simpa using h)] at hf
      cases hf
      exact kk ls hL
    · rw [if_neg (by simpa using h)] at hf
      cases hf
      exact kk ls hL
  · cases hf
theorem ro_if_lt {off : Int} {t : Nat} (hd : decode cc pc = .ok (.ifCond .lt off, 3)) (ht : (pc : Int) + off = (t : Int)) : ri_okp LW own cc nL pc (ri_if (fun x => decide (x < 0)) t) := by
  intro p l e R s m args below meth c Q S hR L st fr2 H locs cells slots ls hf hL hc hs kk
  obtain ⟨hx, hb, hml, hown, hts⟩ := S
  unfold ri_if at hf
  split at hf
  · rename_i x st2 he
    obtain rfl : st = _ := he
    refine lv_if_lt hx hb hd ht (fun h => ?_) (fun h => ?_)
    · rw [if_pos (by simpa using h)] at hf
      cases hf
      exact kk ls hL
    · rw [if_neg (by simpa using h)] at hf
      cases hf
      exact kk ls hL
  · cases hf
theorem ro_if_ge {off : Int} {t : Nat} (hd : decode cc pc = .ok (.ifCond .ge off, 3)) (ht : (pc : Int) + off = (t : Int)) : ri_okp LW own cc nL pc (ri_if (fun x => decide (0 ≤ x)) t) := by
  intro p l e R s m args below meth c Q S hR L st fr2 H locs cells slots ls hf hL hc hs kk
  obtain ⟨hx, hb, hml, hown, hts⟩ := S
  unfold ri_if at hf
  split at hf
  · rename_i x st2 he
    obtain rfl : st = _ := he
    refine lv_if_ge hx hb hd ht (fun h => ?_) (fun h => ?_)
    · rw [if_pos (by simpa using h)] at hf
      cases hf
      exact kk ls hL
    · rw [if_neg (by simpa using h)] at hf
      cases hf
      exact kk ls hL
  · cases hf
theorem ro_if_gt {off : Int} {t : Nat} (hd : decode cc pc = .ok (.ifCond .gt off, 3)) (ht : (pc : Int) + off = (t : Int)) : ri_okp LW own cc nL pc (ri_if (fun x => decide (0 < x)) t) := by
  intro p l e R s m args below meth c Q S hR L st fr2 H locs cells slots ls hf hL hc hs kk
  obtain ⟨hx, hb, hml, hown, hts⟩ := S
  unfold ri_if at hf
  split at hf
  · rename_i x st2 he
    obtain rfl : st = _ := he
    refine lv_if_gt hx hb hd ht (fun h => ?_) (fun h => ?_)
    · rw [if_pos (by simpa using h)] at hf
      cases hf
      exact kk ls hL
    · rw [if_neg (by simpa using h)] at hf
      cases hf
      exact kk ls hL
  · cases hf
theorem ro_if_le {off : Int} {t : Nat} (hd : decode cc pc = .ok (.ifCond .le off, 3)) (ht : (pc : Int) + off = (t : Int)) : ri_okp LW own cc nL pc (ri_if (fun x => decide (x ≤ 0)) t) := by
  intro p l e R s m args below meth c Q S hR L st fr2 H locs cells slots ls hf hL hc hs kk
  obtain ⟨hx, hb, hml, hown, hts⟩ := S
  unfold ri_if at hf
  split at hf
  · rename_i x st2 he
    obtain rfl : st = _ := he
    refine lv_if_le hx hb hd ht (fun h => ?_) (fun h => ?_)
    · rw [if_pos (by simpa using h)] at hf
      cases hf
      exact kk ls hL
    · rw [if_neg (by simpa using h)] at hf
      cases hf
      exact kk ls hL
  · cases hf
theorem ro_icmp_eq {off : Int} {t : Nat} (hd : decode cc pc = .ok (.if_icmp .eq off, 3)) (ht : (pc : Int) + off = (t : Int)) : ri_okp LW own cc nL pc (ri_icmp (fun x y => decide (x = y)) t) := by
  intro p l e R s m args below meth c Q S hR L st fr2 H locs cells slots ls hf hL hc hs kk
  obtain ⟨hx, hb, hml, hown, hts⟩ := S
  unfold ri_icmp at hf
  split at hf
  · rename_i y x st2 he
    obtain rfl : st = _ := he
    refine lv_icmp_eq hx hb hd ht (fun h => ?_) (fun h => ?_)
    · rw [if_pos (by simpa using h)] at hf
      cases hf
      exact kk ls hL
    · rw [if_neg (by simpa using h)] at hf
      cases hf
      exact kk ls hL
  · cases hf
theorem ro_icmp_ne {off : Int} {t : Nat} (hd : decode cc pc = .ok (.if_icmp .ne off, 3)) (ht : (pc : Int) + off = (t : Int)) : ri_okp LW own cc nL pc (ri_icmp (fun x y => decide (¬ x = y)) t) := by
  intro p l e R s m args below meth c Q S hR L st fr2 H locs cells slots ls hf hL hc hs kk
  obtain ⟨hx, hb, hml, hown, hts⟩ := S
  unfold ri_icmp at hf
  split at hf
  · rename_i y x st2 he
    obtain rfl : st = _ := he
    refine lv_icmp_ne hx hb hd ht (fun h => ?_) (fun h => ?_)
    · rw [if_pos (by simpa using h)] at hf
      cases hf
      exact kk ls hL
    · rw [if_neg (by simpa using h)] at hf
      cases hf
      exact kk ls hL
  · cases hf
theorem ro_icmp_lt {off : Int} {t : Nat} (hd : decode cc pc = .ok (.if_icmp .lt off, 3)) (ht : (pc : Int) + off = (t : Int)) : ri_okp LW own cc nL pc (ri_icmp (fun x y => decide (x < y)) t) := by
  intro p l e R s m args below meth c Q S hR L st fr2 H locs cells slots ls hf hL hc hs kk
  obtain ⟨hx, hb, hml, hown, hts⟩ := S
  unfold ri_icmp at hf
  split at hf
  · rename_i y x st2 he
    obtain rfl : st = _ := he
    refine lv_icmp_lt hx hb hd ht (fun h => ?_) (fun h => ?_)
    · rw [if_pos (by simpa using h)] at hf
      cases hf
      exact kk ls hL
    · rw [if_neg (by simpa using h)] at hf
      cases hf
      exact kk ls hL
  · cases hf
theorem ro_icmp_ge {off : Int} {t : Nat} (hd : decode cc pc = .ok (.if_icmp .ge off, 3)) (ht : (pc : Int) + off = (t : Int)) : ri_okp LW own cc nL pc (ri_icmp (fun x y => decide (y ≤ x)) t) := by
  intro p l e R s m args below meth c Q S hR L st fr2 H locs cells slots ls hf hL hc hs kk
  obtain ⟨hx, hb, hml, hown, hts⟩ := S
  unfold ri_icmp at hf
  split at hf
  · rename_i y x st2 he
    obtain rfl : st = _ := he
    refine lv_icmp_ge hx hb hd ht (fun h => ?_) (fun h => ?_)
    · rw [if_pos (by simpa using h)] at hf
      cases hf
      exact kk ls hL
    · rw [if_neg (by simpa using h)] at hf
      cases hf
      exact kk ls hL
  · cases hf
theorem ro_icmp_gt {off : Int} {t : Nat} (hd : decode cc pc = .ok (.if_icmp .gt off, 3)) (ht : (pc : Int) + off = (t : Int)) : ri_okp LW own cc nL pc (ri_icmp (fun x y => decide (y < x)) t) := by
  intro p l e R s m args below meth c Q S hR L st fr2 H locs cells slots ls hf hL hc hs kk
  obtain ⟨hx, hb, hml, hown, hts⟩ := S
  unfold ri_icmp at hf
  split at hf
  · rename_i y x st2 he
    obtain rfl : st = _ := he
    refine lv_icmp_gt hx hb hd ht (fun h => ?_) (fun h => ?_)
    · rw [if_pos (by simpa using h)] at hf
      cases hf
      exact kk ls hL
    · rw [if_neg (by simpa using h)] at hf
      cases hf
      exact kk ls hL
  · cases hf
theorem ro_icmp_le {off : Int} {t : Nat} (hd : decode cc pc = .ok (.if_icmp .le off, 3)) (ht : (pc : Int) + off = (t : Int)) : ri_okp LW own cc nL pc (ri_icmp (fun x y => decide (x ≤ y)) t) := by
  intro p l e R s m args below meth c Q S hR L st fr2 H locs cells slots ls hf hL hc hs kk
  obtain ⟨hx, hb, hml, hown, hts⟩ := S
  unfold ri_icmp at hf
  split at hf
  · rename_i y x st2 he
    obtain rfl : st = _ := he
    refine lv_icmp_le hx hb hd ht (fun h => ?_) (fun h => ?_)
    · rw [if_pos (by simpa using h)] at hf
      cases hf
      exact kk ls hL
    · rw [if_neg (by simpa using h)] at hf
      cases hf
      exact kk ls hL
  · cases hf
theorem ro_ifnull {off : Int} {t : Nat} (hd : decode cc pc = .ok (.ifnull off, 3)) (ht : (pc : Int) + off = (t : Int)) : ri_okp LW own cc nL pc (ri_ifnull t) := by
  intro p l e R s m args below meth c Q S hR L st fr2 H locs cells slots ls hf hL hc hs kk
  obtain ⟨hx, hb, hml, hown, hts⟩ := S
  unfold ri_ifnull at hf
  split at hf
  · rename_i st2 he
    cases hf
    obtain rfl : st = _ := he
    exact lv_ifnullN hx hb hd ht (kk ls hL)
  · rename_i x st2 he
    cases hf
    obtain rfl : st = _ := he
    exact lv_ifnull hx hb hd (kk ls hL)
  · cases hf
theorem ro_min {index : Nat} (hd : decode cc pc = .ok (.invokestatic index, 3)) (h1 : Cond.methodLink own index Lib.Math.min.name ∈ LW) (h2 : Cond.static Lib.Math.min.name ∈ LW) (h3 : Cond.initialized "java/lang/Math" ∈ LW) (h4 : Cond.code Lib.Math.min.name Lib.Math.min.code 2 (some .int) ∈ LW) : ri_okp LW own cc nL pc ri_min := by
  intro p l e R s m args below meth c Q S hR L st fr2 H locs cells slots ls hf hL hc hs kk
  obtain ⟨hx, hb, hml, hown, hts⟩ := S
  unfold ri_min at hf
  split at hf
  · rename_i y x st2 he
    obtain rfl : st = _ := he
    split at hf
    · rename_i hw
      cases hf
      have hq := ri_few_cat hw
      have hR2 := hR.2
      exact va_mmin hx hb (by rw [hml, hL.1]) hown (hts _ h1) (hts _ h2) (hts _ h3) (hts _ h4) hR.1 (by omega) hc hs hd (kk ls hL)
    · cases hf
  · cases hf
theorem ro_max {index : Nat} (hd : decode cc pc = .ok (.invokestatic index, 3)) (h1 : Cond.methodLink own index Lib.Math.max.name ∈ LW) (h2 : Cond.static Lib.Math.max.name ∈ LW) (h3 : Cond.initialized "java/lang/Math" ∈ LW) (h4 : Cond.code Lib.Math.max.name Lib.Math.max.code 2 (some .int) ∈ LW) : ri_okp LW own cc nL pc ri_max := by
  intro p l e R s m args below meth c Q S hR L st fr2 H locs cells slots ls hf hL hc hs kk
  obtain ⟨hx, hb, hml, hown, hts⟩ := S
  unfold ri_max at hf
  split at hf
  · rename_i y x st2 he
    obtain rfl : st = _ := he
    split at hf
    · rename_i hw
      cases hf
      have hq := ri_few_cat hw
      have hR2 := hR.2
      exact va_mmax hx hb (by rw [hml, hL.1]) hown (hts _ h1) (hts _ h2) (hts _ h3) (hts _ h4) hR.1 (by omega) hc hs hd (kk ls hL)
    · cases hf
  · cases hf
theorem ro_oinit {index : Nat} (hd : decode cc pc = .ok (.invokespecial index, 3)) (h1 : Cond.methodLink own index objectInit ∈ LW) (h2 : Cond.instanceMethod objectInit ∈ LW) (h3 : Cond.code objectInit ⟨#[0xb1]⟩ 1 none ∈ LW) : ri_okp LW own cc nL pc ri_oinit := by
  intro p l e R s m args below meth c Q S hR L st fr2 H locs cells slots ls hf hL hc hs kk
  obtain ⟨hx, hb, hml, hown, hts⟩ := S
  unfold ri_oinit at hf
  split at hf
  · rename_i a st2 he
    obtain rfl : st = _ := he
    split at hf
    · rename_i hw
      cases hf
      have hq := ri_few_cat hw
      have hR2 := hR.2
      exact W.objInit hx hb hown (hts _ h1) (hts _ h2) (hts _ h3) rfl (by show ls.size = _; rw [hml, hL.1]) rfl hd hR.1 (by show 2 * 0 + _ + 12 ≤ _; omega) (kk ls hL)
    · cases hf
  · cases hf
theorem ri_tab_out : ∀ (ts : List Nat) (lo x : Int32) (d : Nat), lo.toInt + ts.length ≤ 2147483647 → (x.toInt < lo.toInt ∨ lo.toInt + ts.length ≤ x.toInt) → ri_tab ts lo d x = d
  | [], lo, x, d, _, _ => rfl
  | t :: ts, lo, x, d, hb, h => by
    simp only [List.length_cons] at hb h
    have hr := fb_rng lo
    have h1 : (lo + 1).toInt = lo.toInt + 1 := fb_addI (y := 1) (by show _ ≤ lo.toInt + 1; omega) (by show lo.toInt + 1 < _; omega)
    rw [ri_tab, if_neg (fun e => by subst e; omega)]
    exact ri_tab_out ts (lo + 1) x d (by rw [h1]; omega) (by rw [h1]; omega)
theorem ri_tab_in : ∀ (ts : List Nat) (lo x : Int32) (d i t : Nat), lo.toInt + ts.length ≤ 2147483647 → x.toInt = lo.toInt + i → ts[i]? = some t → ri_tab ts lo d x = t
  | [], lo, x, d, i, t, _, _, h => by simp at h
  | t0 :: ts, lo, x, d, 0, t, hb, hx, h => by
    rw [ri_tab, if_pos (Int32.toInt_inj.mp (by rw [hx]; simp))]
    simpa using h
  | t0 :: ts, lo, x, d, i + 1, t, hb, hx, h => by
    simp only [List.length_cons] at hb
    have hr := fb_rng lo
    have h1 : (lo + 1).toInt = lo.toInt + 1 := fb_addI (y := 1) (by show _ ≤ lo.toInt + 1; omega) (by show lo.toInt + 1 < _; omega)
    rw [ri_tab, if_neg (fun e => by subst e; omega)]
    exact ri_tab_in ts (lo + 1) x d i t (by rw [h1]; omega) (by rw [h1, hx]; omega) (by simpa using h)
/-- a table that is written out: its offsets lead to the targets -/
def ri_tabok (pc : Nat) (offs : Array Int) (ts : List Nat) : Bool := offs.toList.length == ts.length && (List.range ts.length).all fun i => decide ((pc : Int) + offs.toList.getD i 0 = ((ts.getD i 0 : Nat) : Int))
theorem ro_switch {dflt lo hi : Int} {offs : Array Int} {len d : Nat} {lo2 : Int32} {ts : List Nat} (hd : decode cc pc = .ok (.tableswitch dflt lo hi offs, len)) (hlo : lo2.toInt = lo) (hb2 : lo + ts.length ≤ 2147483647) (hhi : hi = lo + ts.length - 1) (ht : (pc : Int) + dflt = (d : Int)) (hok : ri_tabok pc offs ts = true) : ri_okp LW own cc nL pc (ri_switch lo2 ts d) := by
  intro p l e R s m args below meth c Q S hR L st fr2 H locs cells slots ls hf hL hc hs kk
  obtain ⟨hx, hb, hml, hown, hts⟩ := S
  unfold ri_switch at hf
  split at hf
  · rename_i x st2 he
    obtain rfl : st = _ := he
    cases hf
    unfold ri_tabok at hok
    simp only [Bool.and_eq_true, List.all_eq_true, List.mem_range, decide_eq_true_eq, beq_iff_eq] at hok
    obtain ⟨hn, hall⟩ := hok
    by_cases h : x.toInt < lo ∨ hi < x.toInt
    · have e : ri_tab ts lo2 d x = d := ri_tab_out ts lo2 x d (by rw [hlo]; exact hb2) (by rw [hlo]; rcases h with h | h; exact Or.inl h; exact Or.inr (by omega))
      have k2 := kk ls hL
      simp only [e] at k2
      exact lv_tableOut hx hb hd h ht k2
    · have h1 : ¬ x.toInt < lo := fun q => h (Or.inl q)
      have h2 : ¬ hi < x.toInt := fun q => h (Or.inr q)
      have hi2 : (x.toInt - lo).toNat < ts.length := by omega
      have hg : ts[(x.toInt - lo).toNat]? = some (ts.getD (x.toInt - lo).toNat 0) := by rw [List.getD_eq_getElem?_getD, List.getElem?_eq_getElem hi2]; rfl
      have e : ri_tab ts lo2 d x = ts.getD (x.toInt - lo).toNat 0 := ri_tab_in ts lo2 x d (x.toInt - lo).toNat _ (by rw [hlo]; exact hb2) (by rw [hlo]; omega) hg
      have ho : offs[(x.toInt - lo).toNat]? = some (offs.toList.getD (x.toInt - lo).toNat 0) := by rw [← Array.getElem?_toList, List.getD_eq_getElem?_getD, List.getElem?_eq_getElem (by rw [hn]; exact hi2)]; rfl
      have k2 := kk ls hL
      simp only [e] at k2
      exact lv_tableIn hx hb hd h1 h2 ho (hall _ hi2) k2
  · cases hf
end RIOK
