/-! A wrapper of the law whose call throws: caught, and its number returned. -/
def wr_ct (f : Nat) : Nat := ([0, 28, 13, 15] : List Nat).getD f 0
theorem wr_cl : ∀ f, (1 ≤ f ∧ f ≤ 3) → Cond.classLink "LilyWheelsLaw" (wr_ct f) (nx_c f) ∈ ri_LW := by
  intro f hf
  rcases (by omega : f = 1 ∨ f = 2 ∨ f = 3) with rfl | rfl | rfl
  · exact List.mem_filter.mpr ⟨(by decide +kernel : Cond.classLink "LilyWheelsLaw" 28 "java/lang/IndexOutOfBoundsException" ∈ lw_tbl), by decide +kernel⟩
  · exact List.mem_filter.mpr ⟨(by decide +kernel : Cond.classLink "LilyWheelsLaw" 13 "java/lang/IllegalArgumentException" ∈ lw_tbl), by decide +kernel⟩
  · exact List.mem_filter.mpr ⟨(by decide +kernel : Cond.classLink "LilyWheelsLaw" 15 "java/lang/IllegalStateException" ∈ lw_tbl), by decide +kernel⟩
theorem wr_cs : ∀ f, (1 ≤ f ∧ f ≤ 3) → Cond.castable (nx_c f) (nx_c f) ∈ lw_tbl := by
  intro f hf
  rcases (by omega : f = 1 ∨ f = 2 ∨ f = 3) with rfl | rfl | rfl
  · exact (by decide +kernel : Cond.castable "java/lang/IndexOutOfBoundsException" "java/lang/IndexOutOfBoundsException" ∈ lw_tbl)
  · exact (by decide +kernel : Cond.castable "java/lang/IllegalArgumentException" "java/lang/IllegalArgumentException" ∈ lw_tbl)
  · exact (by decide +kernel : Cond.castable "java/lang/IllegalStateException" "java/lang/IllegalStateException" ∈ lw_tbl)
section WRC
variable {Ks Kv Km : Nat → Nat} {p : Program} {l : Launch} {e : Env} {R : Room} {s : State} {m : MethodId} {args : Array Value} {below : List Frame} {meth : Method} {c : Code} {A : Nat → Prop} {H : Heap} {locs : List Loc} {cells slots pc : Nat} {ls : Array Slot} {σ σ2 : ri_S} {D : va_G} {dT : Nat → ClassId} {dL : ClassId} {cc : ByteArray} {nL : Nat}
theorem wr_cat {f st en hp : Nat} {q9 : Addr} {ce : Cell} {rest : List Value} {Q : State → Prop} (X : wr_X Ks Kv Km D dT dL cc nL p s m args meth c A) (hf : 1 ≤ f ∧ f ≤ 3) {hh : List (Nat × Nat × Nat × Nat)} (htab : c.exceptionTable.toList = tableOf hh) (pre suf : List (Nat × Nat × Nat × Nat)) (hsp : hh = pre ++ (st, en, hp, wr_ct f) :: suf)
    (hpre : ∀ z ∈ pre, ∃ f2, (1 ≤ f2 ∧ f2 ≤ 3) ∧ f ≠ f2 ∧ z.2.2.2 = wr_ct f2) (hcv : covers (⟨st, en, hp, wr_ct f⟩ : ExceptionTableEntry) pc = true) (hcell : H[q9]? = some ce) (hv : ce.vm = .none) (hcl : s.vm.findClass (nx_c f) = some ce.cls)
    (kk : W p l e R s m args below meth c H locs cells slots Q (F0 m hp ls [.ref q9])) : vx_W p l e R s m args below meth c H locs cells slots Q (F0 m pc ls rest) q9 := by
  obtain ⟨S, hK, hKL, hA, hE, hrt, hlk⟩ := X
  have hts := S.2.2.2.2
  have hct : ∀ f2, (1 ≤ f2 ∧ f2 ≤ 3) → wr_ct f2 ≠ 0 := by
    intro f2 hf2
    rcases (by omega : f2 = 1 ∨ f2 = 2 ∨ f2 = 3) with rfl | rfl | rfl <;> decide
  have hca : (Cond.castable (nx_c f) (nx_c f)).before args s = true := va_Nw.use rfl (hE.2.1 _ (wr_cs f hf) rfl)
  refine vx_catch (own := "LilyWheelsLaw") (name := nx_c f) (E := nx_c f) (ce := ce) S.2.2.2.1 (tableOf pre) (⟨st, en, hp, wr_ct f⟩ : ExceptionTableEntry) (tableOf suf) (by rw [htab, hsp]; simp [tableOf]) (fun z hz => ?_) hcv (hct f hf) (hts _ (wr_cl f hf)) hca hcell hv hcl kk
  obtain ⟨w, hw, rfl⟩ := List.mem_map.mp hz
  obtain ⟨f2, hf2, hne, he⟩ := hpre w hw
  refine Or.inr ⟨?_, nx_c f2, ?_, hE.2.2.2.2 f f2 hf hf2 hne⟩
  · show w.2.2.2 ≠ 0
    rw [he]; exact hct f2 hf2
  · show (Cond.classLink "LilyWheelsLaw" w.2.2.2 (nx_c f2)).before args s = true
    rw [he]; exact hts _ (wr_cl f2 hf2)
theorem wr_ex {k n o f index st en hp hp2 i : Nat} {jn : Int} {v : Int32} {ps : List Value} {C : Nat} {g : Nat → Int64} {Qc : Array Value → State → Outcome → State → Prop} (X : wr_X Ks Kv Km D dT dL cc nL p s m args meth c A) (hl : l.stackTraces = false) (hk : 109 ≤ k) (hown : (TN k).cls = "LilyWheels") (hf : 1 ≤ f ∧ f ≤ 3) (hfr : TH2 k + 8 + 1 ≤ R.frames) (hlo : 8 + (TM k + 11) + (60 * (TH2 k + 1) + 200) ≤ R.locals)
    (h1 : Cond.methodLink "LilyWheelsLaw" index (TN k) ∈ ri_LW) (h2 : Cond.instanceMethod (TN k) ∈ ri_LW) (h2s : Cond.selects (TN k).cls (TN k) (TN k) ∈ ri_LW) (h3 : Cond.initialized (TN k).cls ∈ ri_LW) (h4 : Cond.code (TN k) (TB k) (TM k) (TR k) ∈ ri_LW) (h5 : ri_named (TN k) n) (hd : decode cc pc = .ok (.invokevirtual index, 3))
    (hev : ev3 Ks k (0, ri_ent (TM k) (.ref C :: ps), []) σ = some (some (.int (Int32.ofNat f)), σ2)) (hfit : ri_fit (TM k) (.ref C :: ps) = true) (hrcv : ri_rcv (some 8) (.ref C :: ps) σ = true) (hn : ps.length = n) (hsz : ls.size = nL) (hwf : lv_wf ls)
    (hI : ri_I D vwCl dT A s.heap σ H locs) (ho : σ.1 o = none) (ho2 : o < σ.2) (hout : wr_out dL o g H) (hcs : cells + (σ2.2 - σ.2 + 1) ≤ R.cells) (hss : slots + (2000 * (σ2.2 - σ.2) + 6) ≤ R.slots)
    {hh : List (Nat × Nat × Nat × Nat)} (htab : c.exceptionTable.toList = tableOf hh) (pre suf : List (Nat × Nat × Nat × Nat)) (hsp : hh = pre ++ (st, en, hp, wr_ct f) :: suf) (hpre : ∀ z ∈ pre, ∃ f2, (1 ≤ f2 ∧ f2 ≤ 3) ∧ f ≠ f2 ∧ z.2.2.2 = wr_ct f2) (hcv : covers (⟨st, en, hp, wr_ct f⟩ : ExceptionTableEntry) pc = true)
    (hst : (∃ kf : Fin 4, decode cc hp = .ok (.astore_n kf, 1) ∧ (kf : Nat) = i ∧ hp2 = hp + 1) ∨ (decode cc hp = .ok (.astore i, 2) ∧ hp2 = hp + 2)) (hi : i < nL) (d2 : decode cc hp2 = .ok (.iconst jn, 1)) (hj : Int32.ofInt jn = v) (d3 : decode cc (hp2 + 1) = .ok (.ireturn, 1))
    (hfin : ∀ (t : State) (locs2 : List Loc), ri_I D vwCl dT A s.heap (σ2.1, t.heap.size) t.heap locs2 → wr_out dL o g t.heap → σ2.2 ≤ t.heap.size → Qc args s (.returned (some (.int v))) t) :
    W p l e R s m args below meth c H locs cells slots (MQ below Qc args s (cells + (σ2.2 - σ.2 + 1)) (slots + (2000 * (σ2.2 - σ.2) + 6)) A) (F0 m pc ls ((Value.ref C :: ps).reverse ++ [.int 0, .ref o])) := by
  refine wr_no X hl hk hown hf hfr hlo h1 h2 h2s h3 h4 h5 hd hev hfit hrcv hn hsz hI ho ho2 hout hcs hss fun q9 ce H1 locs1 hI1 hout1 hz hk1 hce hcv9 hcl9 => ?_
  refine wr_cat X hf htab pre suf hsp hpre hcv hce hcv9 hcl9 ?_
  obtain ⟨S, hK, hKL, hA, hE, hrt, hlk⟩ := X
  have hfin2 : ∀ ls2 : Array Slot, W p l e R s m args below meth c H1 locs1 (cells + (σ2.2 - σ.2 + 1)) (slots + (2000 * (σ2.2 - σ.2) + 6)) (MQ below Qc args s (cells + (σ2.2 - σ.2 + 1)) (slots + (2000 * (σ2.2 - σ.2) + 6)) A) (F0 m hp2 ls2 []) := by
    intro ls2
    refine lv_iconst S.1 S.2.1 d2 (v := v) hj ?_
    exact W.iret S.1 S.2.1 hrt (fun t ht2 _ => hfin t locs1 (by rw [ht2]; exact hI1) (by rw [ht2]; exact hout1) (by rw [ht2]; exact hz)) (fun z hz => hI1.2.2.2 z hz) d3
  have hlv : lv_has ls nL [] := ⟨hsz, hwf, fun q hq => by cases hq⟩
  rcases hst with ⟨kf, e1, e2, e3⟩ | ⟨e1, e3⟩
  · subst e3
    exact lv_astore_n S.1 S.2.1 e1 e2 hlv hi rfl (fun ls2 _ => hfin2 ls2)
  · subst e3
    exact lv_astore S.1 S.2.1 e1 hlv hi rfl (fun ls2 _ => hfin2 ls2)
end WRC
