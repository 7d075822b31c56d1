/-! The steps that make cells, and System.arraycopy. -/
section RIOK5
variable {LW : List Cond} {cl : List vw_C} {Cq : String} {Ex : (Nat → Prop) → State → Heap → Prop} {D : va_G} {dT : Nat → ClassId} {own nme : String} {cc : ByteArray} {nL pc : Nat}
theorem rh_aast {ci : Nat} {T : u_T} {N : Nat} (hc : cl[ci]? = some (Cq, T, N)) (hd : decode cc pc = .ok (.aastore, 1)) : ri_ok LW cl Cq Ex D dT own nme cc nL pc (ri_aast ci) := by
  intro p l e R s m args below meth c A Q X L st σ fr2 σ2 H locs cells slots ls ho hI hL hc2 hs2 kk
  obtain ⟨⟨hx, hb, hml, hown, hts⟩, hR, hK, hA, -, -⟩ := X
  unfold ri_aast at ho
  split at ho
  · rename_i x i a st2 he
    obtain rfl : st = _ := he
    split at ho
    · rename_i n f hg
      split at ho
      · rename_i j hj
        obtain ⟨hin, rfl⟩ := ri_ix_in hj
        split at ho
        · rename_i c3 vs hg2
          split at ho
          · rename_i hb2
            obtain rfl := Nat.eq_of_beq_eq_true hb2
            cases ho
            have hlt : i.toNatClampNeg < n := Nat.not_le.mp fun q => hin (Or.inr q)
            obtain ⟨r, hr, cellV, g1, g2, g3, -⟩ := (hI.1.1 x _ hg2).1
            have hcls := (hK.1 c3 (Cq, T, N) hc).2
            obtain ⟨kA, comp, k1, k2, k3, -⟩ := (hK.2 2 _ rfl).2
            have hcomp : comp = D.1 c3 := Option.some.inj (k3.symm.trans hcls.1)
            subst hcomp
            obtain ⟨kC, hkC, -⟩ := hcls.2
            refine ⟨Nat.le_refl _, W.aast hx hb (hI.1.1 a _ hg).1 (fun q h => by cases h) (fun h => by cases h) k1 k2 rfl hkC ⟨fun q => hin (Or.inl q), by show _ < (arrV _ _ _).slots.size; rw [arrV_size]; exact hlt⟩ g1 (fun q h => by rw [g3] at h; cases h) (by rw [g2]; exact hkC) (by rw [g2]; exact va_assign hcls) rfl rfl hd fun H1 e1 z oq => ?_⟩
            have h1 := kk H1 (locs ++ [⟨a, i.toNatClampNeg⟩]) ls (hI.put (e := .inr (.inl (n, va_up f i.toNatClampNeg (some x)))) hg ?_ z oq) hL
            rwa [Nat.sub_self, Nat.mul_zero, Nat.add_zero, Nat.add_zero] at h1
            show H1[a]? = some (vp_cell _ _)
            rw [e1]
            show some ((vp_cell _ _).setSlot _ _) = _
            rw [vp_cell_q, vp_cell_q, arrV_store]
            congr 2
            funext q
            by_cases hq : q = i.toNatClampNeg
            · subst hq
              simp [updV, va_up, va_rf]
            · simp [updV, va_up, hq]
          · cases ho
        · cases ho
      · cases ho
    · cases ho
  · cases ho
theorem rh_new {C : String} {T : u_T} {N ci index : Nat} (hin : ∀ w ∈ u_ws C T N, w ∈ LW) (ty : Nat → FieldType) (hty : ∀ k, k < N → parseFieldDescriptor (T k).2.2.1 = some (ty k)) (hc : cl[ci]? = some (C, T, N)) (h1 : Cond.classLink own index C ∈ LW) (h2 : Cond.instantiable C N ∈ LW) (h3 : Cond.initialized C ∈ LW) {fs : List Value} (hfs : ∀ j, j < N → defaultValue (ty j) = vp_V fs j) (hN : N ≤ 2000) (hd : decode cc pc = .ok (.new index, 3)) : ri_ok LW cl Cq Ex D dT own nme cc nL pc (ri_new ci fs) := by
  intro p l e R s m args below meth c A Q X L st σ fr2 σ2 H locs cells slots ls ho hI hL hc2 hs2 kk
  obtain ⟨⟨hx, hb, hml, hown, hts⟩, hR, hK, hA, -, -⟩ := X
  unfold ri_new at ho
  cases ho
  have hKn := hK.1 ci _ hc
  simp only [Nat.add_sub_cancel_left] at hc2 hs2 kk
  refine ⟨Nat.le_succ _, W.newcK hx hb hown (hts _ h1) (hts _ h2) (hts _ h3) rfl hd hc2 (by omega) hKn.2.1 hI.1.2 fun H1 kC hkC e1 z1 o1 => ?_⟩
  refine W.widen (k := cells + 1) (n := slots + 2000 * 1) (Nat.le_refl _) (by omega) ?_
  refine kk H1 locs ls (hI.add (e := .inr (.inr (ci, fs))) hA ?_ (by rw [z1, hI.1.2]) (by rw [hI.1.2]; exact o1)) hL
  rw [hI.1.2]
  exact ⟨_, hc, (u_born ty hts hin hKn hkC e1 hty).to hfs⟩
theorem rh_newi (h1 : Cond.arrayClass .int ∈ LW) (hd : decode cc pc = .ok (.newarray .int, 2)) : ri_ok LW cl Cq Ex D dT own nme cc nL pc (ri_newa 0) := by
  intro p l e R s m args below meth c A Q X L st σ fr2 σ2 H locs cells slots ls ho hI hL hc2 hs2 kk
  obtain ⟨⟨hx, hb, hml, hown, hts⟩, hR, hK, hA, -, -⟩ := X
  unfold ri_newa at ho
  split at ho
  · rename_i n st2 he
    obtain rfl : st = _ := he
    split at ho
    · cases ho
    · rename_i hn
      cases ho
      have hn0 : ¬ n < 0 := fun q => hn (Or.inl q)
      have hn1 : n.toNatClampNeg ≤ 2000 := Nat.not_lt.mp fun q => hn (Or.inr q)
      simp only [Nat.add_sub_cancel_left] at hc2 hs2 kk
      refine ⟨Nat.le_succ _, va_newaK (atype := .int) hx hb (hts _ h1) rfl hd rfl hn0 rfl (by show _ * 4 ≤ _; omega) hc2 (by omega) hI.1.2 fun H1 cA e1 z1 o1 q1 q2 => ?_⟩
      have hcA : cA = dT 0 := Option.some.inj (q2.symm.trans (hK.2 0 _ rfl).2)
      subst hcA
      refine W.widen (k := cells + 1) (n := slots + 2000 * 1) (Nat.le_refl _) (by omega) ?_
      refine kk H1 locs ls (hI.add (e := .inl (0, n.toNatClampNeg, fun _ => 0)) hA ?_ (by rw [z1, hI.1.2]) (by rw [hI.1.2]; exact o1)) hL
      rw [hI.1.2]
      show H1[σ.2]? = some (vp_cell _ _)
      rw [e1, vp_cell_i]
      rfl
  · cases ho
theorem rh_newq {index : Nat} (h1 : Cond.classLink own index Cq ∈ LW) (h2 : Cond.arrayOver (.object Cq) ∈ LW) (hd : decode cc pc = .ok (.anewarray index, 3)) : ri_ok LW cl Cq Ex D dT own nme cc nL pc ri_newq := by
  intro p l e R s m args below meth c A Q X L st σ fr2 σ2 H locs cells slots ls ho hI hL hc2 hs2 kk
  obtain ⟨⟨hx, hb, hml, hown, hts⟩, hR, hK, hA, -, -⟩ := X
  unfold ri_newq at ho
  split at ho
  · rename_i n st2 he
    obtain rfl : st = _ := he
    split at ho
    · cases ho
    · rename_i hn
      cases ho
      have hn0 : ¬ n < 0 := fun q => hn (Or.inl q)
      have hn1 : n.toNatClampNeg ≤ 2000 := Nat.not_lt.mp fun q => hn (Or.inr q)
      simp only [Nat.add_sub_cancel_left] at hc2 hs2 kk
      refine ⟨Nat.le_succ _, W.anew hx hb hown (hts _ h1) (hts _ h2) rfl hd rfl hn0 (by omega) hc2 (by omega) fun cA kA comp f1 f2 f3 f4 => ?_⟩
      obtain ⟨_, _, _, _, _, hq⟩ := (hK.2 2 _ rfl).2
      have hcA : cA = dT 2 := Option.some.inj (f1.symm.trans hq)
      subst hcA
      refine W.widen (k := cells + 1) (n := slots + 2000 * 1) (Nat.le_refl _) (by omega) ?_
      have k2 := kk (H.push ({ cls := dT 2, slots := Array.replicate n.toNatClampNeg .null, vm := .none } : Cell)) locs ls (hI.add (e := .inr (.inl (n.toNatClampNeg, fun _ => none))) hA ?_ (by rw [Array.size_push]) (fun q hq => by rw [Array.getElem?_push, if_neg (Nat.ne_of_lt hq)])) hL
      · have e : H.size = σ.2 := hI.1.2
        rw [← e] at k2
        exact k2
      · show _ = some (vp_cell _ _)
        rw [vp_cell_q]
        show (H.push _)[H.size]? = some (arrV (dT 2) n.toNatClampNeg (fun _ => .null))
        rw [Array.getElem?_push_size, ← arrV_new]
  · cases ho
theorem rh_copy {index : Nat} (g1 : Cond.methodLink own index arraycopyName ∈ LW) (g2 : Cond.native arraycopyName ∈ LW) (g3 : Cond.static arraycopyName ∈ LW) (g4 : Cond.initialized "java/lang/System" ∈ LW) (hd : decode cc pc = .ok (.invokestatic index, 3)) : ri_ok LW cl Cq Ex D dT own nme cc nL pc ri_copy := by
  intro p l e R s m args below meth c A Q X L st σ fr2 σ2 H locs cells slots ls ho hI hL hc2 hs2 kk
  obtain ⟨⟨hx, hb, hml, hown, hts⟩, hR, hK, hA, -, -⟩ := X
  unfold ri_copy at ho
  split at ho
  · rename_i n dp b sp a st2 he
    obtain rfl : st = _ := he
    split at ho
    · rename_i n0 f n1 g hg0 hg1
      split at ho
      · rename_i hq
        obtain ⟨hw, h1, h2, h3, h4, h5⟩ := hq
        cases ho
        have hq := ri_few_cat hw
        have hR2 := hR.2
        have nn : ∀ z : Int32, ¬ z < 0 → z.toInt = (z.toNatClampNeg : Int) := by
          intro z hz
          have h9 : ¬ z.toInt < (0 : Int32).toInt := fun q => hz ((fa_lt z 0).mpr q)
          have h8 : (0 : Int32).toInt = 0 := rfl
          show z.toInt = ((z.toInt.toNat : Nat) : Int)
          omega
        have e8 : nativeFrameWords "java/lang/System" "arraycopy" 5 ≤ 40 := by decide
        refine ⟨Nat.le_refl _, ?_⟩
        intro T hT XT
        obtain ⟨-, k0, hk0, cm0, hkk0⟩ := (hK.2 0 _ rfl).1 n0 (fun j => .int (f j))
        obtain ⟨-, k1, hk1, cm1, hkk1⟩ := (hK.2 0 _ rfl).1 n1 (fun j => .int (g j))
        have hc0 : H[a]? = some (vp_cell (dT 0) (n0, .inl f)) := (hI.1.1 a _ hg0).1
        have hc1 : H[b]? = some (vp_cell (dT 0) (n1, .inl g)) := (hI.1.1 b _ hg1).1
        obtain ⟨vm2, X2, step⟩ := XT.arraycopy hx hown (hts _ g1) (hts _ g2) (hts _ g3) (hts _ g4) (src := a) (dst := b) (cs := vp_cell (dT 0) (n0, .inl f)) (cd := vp_cell (dT 0) (n1, .inl g)) (srcPos := sp) (destPos := dp) (n := n) (by rw [hT]; exact hc0) (by rw [hT]; exact hc1)
          (fun _ h => by cases h) (fun _ h => by cases h) (fun h => by cases h) (fun h => by cases h) hk0 hk1 hkk0 hkk1 (by simp [refKind]) h1 h2 h3
          (by rw [nn sp h1, nn n h3]; show ¬ _ > ((arrV (dT 0) n0 (fun j => .int (f j))).slots.size : Int); rw [arrV_size]; omega)
          (by rw [nn dp h2, nn n h3]; show ¬ _ > ((arrV (dT 0) n1 (fun j => .int (g j))).slots.size : Int); rw [arrV_size]; omega)
          (fun vm1 _ i hi => by
            have e9 : (vp_cell (dT 0) (n0, .inl f)).slots.getD (sp.toNatClampNeg + i) .null = .int (f (sp.toNatClampNeg + i)) := by
              show (arrV (dT 0) n0 (fun j => .int (f j))).slots.getD _ _ = _
              rw [Array.getD_eq_getD_getElem?, arrV_read _ _ (by omega)]
              rfl
            refine ⟨?_, ?_⟩
            · rw [e9]
              rfl
            · rw [e9]
              exact trivial)
          (g := F0 m pc ls (.int n :: .int dp :: .ref b :: .int sp :: .ref a :: st2)) rfl (by show ls.size = _; rw [hml, hL.1]) (rest := st2) rfl (by rw [hb]; exact hd) hR.1 (by show 2 * 0 + _ + (nativeFrameWords "java/lang/System" "arraycopy" 5 + 11) ≤ _; omega)
        have e1 : copied (vp_cell (dT 0) (n0, .inl f)) (vp_cell (dT 0) (n1, .inl g)) sp dp n = vp_cell (dT 0) (n1, .inl (va_cpy f g sp.toNatClampNeg dp.toNatClampNeg n.toNatClampNeg)) := va_copied (fun z => .int z) (dT 0) (dT 0) f g h4
        rw [e1] at X2 step
        have hl : b < H.size := (Array.getElem?_eq_some_iff.mp hc1).1
        have hheap : ((T.setVm vm2).setCell b (vp_cell (dT 0) (n1, .inl (va_cpy f g sp.toNatClampNeg dp.toNatClampNeg n.toNatClampNeg)))).heap = H.setIfInBounds b (vp_cell (dT 0) (n1, .inl (va_cpy f g sp.toNatClampNeg dp.toNatClampNeg n.toNatClampNeg))) := by rw [← hT]; rfl
        have oq : ∀ q : Nat, q ≠ b → (H.setIfInBounds b (vp_cell (dT 0) (n1, .inl (va_cpy f g sp.toNatClampNeg dp.toNatClampNeg n.toNatClampNeg))))[q]? = H[q]? := fun q hq => by simp [Array.getElem?_setIfInBounds, Ne.symm hq]
        have hI2 := hI.put (k := 0) (e := .inl (0, n1, va_cpy f g sp.toNatClampNeg dp.toNatClampNeg n.toNatClampNeg)) hg1 (H1 := H.setIfInBounds b (vp_cell (dT 0) (n1, .inl (va_cpy f g sp.toNatClampNeg dp.toNatClampNeg n.toNatClampNeg)))) (by show (H.setIfInBounds b _)[b]? = some _; simp [Array.getElem?_setIfInBounds, hl, ri_cv]) (by simp) oq
        have k2 := fun (locs1 : List Loc) (hS1 : va_S A s.heap (H.setIfInBounds b (vp_cell (dT 0) (n1, .inl (va_cpy f g sp.toNatClampNeg dp.toNatClampNeg n.toNatClampNeg)))) locs1) => kk _ locs1 ls ⟨hI2.1, hS1⟩ hL
        simp only [Nat.sub_self, Nat.mul_zero, Nat.add_zero] at k2
        obtain ⟨t, a1, b1⟩ := k2 _ ⟨by simp; exact hI.2.1, fun q r1 r2 => by
            rw [oq q (fun e => r2 (by rw [e]; exact (hI.1.1 b _ hg1).2))]
            exact hI.2.2.1 q r1 r2, fun q hq => by
            rcases List.mem_append.mp hq with h | h
            · exact hI.2.2.2 q h
            · obtain ⟨z, -, hz⟩ := List.mem_map.mp h
              rw [← hz]
              exact (hI.1.1 b _ hg1).2⟩ _ hheap X2
        exact ⟨t, step t a1, b1⟩
      · cases ho
    · cases ho
  · cases ho
end RIOK5
