/-! A wrapper of the law from its call of the class on, where the class returns. -/
section WRC
variable {Ks Kv Km : Nat → Nat} {p : Program} {l : Launch} {e : Env} {R : Room} {s : State} {m : MethodId} {args : Array Value} {below : List Frame} {meth : Method} {c : Code} {A : Nat → Prop} {H : Heap} {locs : List Loc} {cells slots pc : Nat} {ls : Array Slot} {σ σ2 : ri_S} {D : va_G} {dT : Nat → ClassId} {dL : ClassId} {cc : ByteArray} {nL : Nat}
/-- what holds in a wrapper -/
def wr_X (Ks Kv Km : Nat → Nat) (D : va_G) (dT : Nat → ClassId) (dL : ClassId) (cc : ByteArray) (nL : Nat) (p : Program) (s : State) (m : MethodId) (args : Array Value) (meth : Method) (c : Code) (A : Nat → Prop) : Prop :=
  CallFix p m c cc nL s args ri_LW "LilyWheelsLaw" ∧ va_K D vwCl (ri_tys dT RX3) s ∧ va_K D vwCl [(dL, .long)] s ∧ (∀ q, s.heap.size ≤ q → A q) ∧ nv_E Ks Kv Km A s s.heap ∧ meth.sig.returnType = some .int ∧ meth.locks = false
theorem wr_nd {o : Nat} (h1 : σ.1 o = none) (h2 : o < σ.2) : ¬ ri_dom σ o := by
  rintro (⟨x, hx⟩ | h)
  · rw [h1] at hx; cases hx
  · omega
theorem wr_ok {k n o tE : Nat} {off : Int} {as : List Value} {v : Int32} {g : Nat → Int64} {Qc : Array Value → State → Outcome → State → Prop} (X : wr_X Ks Kv Km D dT dL cc nL p s m args meth c A) (hfr : TH2 k + 1 + 1 ≤ R.frames) (hlo : 8 + (TM k + 11) + 60 * (TH2 k + 1) ≤ R.locals)
    (hc : ri_cok ri_LW vwCl "LilyWheelsLaw" cc nL pc (TN k) (TB k) (TM k) (TR k) n (some 8)) (hcall : cal2 Ks k as σ = some (some (.int v), σ2)) (hfit : ri_fit (TM k) as = true) (hrcv : ri_rcv (some 8) as σ = true) (hn : as.length = n) (hsz : ls.size = nL)
    (hI : ri_I D vwCl dT A s.heap σ H locs) (hoA : A o) (ho : σ.1 o = none) (ho2 : o < σ.2) (ho3 : σ2.1 o = none) (hout : wr_out dL o g H) (hcs : cells + (σ2.2 - σ.2) ≤ R.cells) (hss : slots + 2000 * (σ2.2 - σ.2) ≤ R.slots)
    (d1 : decode cc (pc + 3) = .ok (.i2l, 1)) (d2 : decode cc (pc + 4) = .ok (.lastore, 1)) (d3 : decode cc (pc + 5) = .ok (.goto off, 3)) (ht : ((pc + 5 : Nat) : Int) + off = (tE : Int)) (d4 : decode cc tE = .ok (.iconst 0, 1)) (d5 : decode cc (tE + 1) = .ok (.ireturn, 1))
    (hfin : ∀ (t : State) (locs2 : List Loc), ri_I D vwCl dT A s.heap σ2 t.heap locs2 → wr_out dL o (vp_updL g 0 v.toInt64) t.heap → (∀ q : Nat, q < H.size → ¬ ri_dom σ q → q ≠ o → t.heap[q]? = H[q]?) → Qc args s (.returned (some (.int 0))) t) :
    σ.2 ≤ σ2.2 ∧ W p l e R s m args below meth c H locs cells slots (MQ below Qc args s (cells + (σ2.2 - σ.2)) (slots + 2000 * (σ2.2 - σ.2)) A) (F0 m pc ls (as.reverse ++ [.int 0, .ref o])) := by
  obtain ⟨S, hK, hKL, hA, hE, hrt, hlk⟩ := X
  have hX := nv_exok Ks Kv Km
  have hG : ri_gok (TT2 Ks) := rx_gok (Ex := nv_E Ks Kv Km) D dT nv_sj
  have hM := rx_mok (Ex := nv_E Ks Kv Km) (D := D) (dT := dT) (Ks := Ks) nv_sj
  obtain ⟨hle, hmet⟩ := rj_meets (r := some (.int v)) (σ2 := σ2) (N := TN) (B := TB) (Rt := TR) hX hG hM l hfit hcall
  refine ⟨hle, ?_⟩
  have hrun := hc p l e R s m args below meth c S _ _ _ _ _ _ hmet rfl rfl hfr hlo (rj_blind hX _ _) as [.int 0, .ref o] H locs cells slots ls hn hsz (fun U hU hW => rj_pre hX hI hK hA hE _ hU hW) (ri_rcv_of (p := p) hK hI hrcv) (by simp [Value.category]) hcs hss
  refine wr_row hrun hI hA fun H1 locs1 hI1 hk1 => ?_
  have hoH : o < H.size := by rw [hI.1.2]; exact ho2
  refine lv_i2l S.1 S.2.1 d1 rfl ?_
  refine wr_last S.1 S.2.1 hKL hI1 hoA ho3 (show wr_out dL o g H1 from (hk1 o hoH (wr_nd ho ho2)).trans hout) d2 fun H2 locs2 hI2 ho4 hk2 => ?_
  refine lv_goto S.1 S.2.1 d3 ht ?_
  refine lv_iconst S.1 S.2.1 d4 (v := 0) rfl ?_
  exact W.iret S.1 S.2.1 hrt (fun t ht2 _ => hfin t locs2 (by rw [ht2]; exact hI2) (by rw [ht2]; exact ho4) (fun q h1 h2 h3 => by rw [ht2, hk2 q h3]; exact hk1 q h1 h2)) (fun z hz => hI2.2.2.2 z hz) d5
end WRC
