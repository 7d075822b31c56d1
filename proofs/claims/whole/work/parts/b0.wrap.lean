/-! The law's wrappers: a call of the class that returns, or throws, with what lies beside the picture left as it was. -/
section WRP
variable {p : Program} {l : Launch} {e : Env} {R : Room} {s : State} {m : MethodId} {args a : Array Value} {below : List Frame} {meth : Method} {c : Code} {A : Nat → Prop} {H : Heap} {locs : List Loc} {cells slots mc ms pc : Nat} {ls : Array Slot} {st0 rest : List Value} {σ σ1 : ri_S} {Q : State → Prop} {D : va_G} {dT : Nat → ClassId}
theorem wr_row {r : Option Value} (hr : va_Run p l e R s m args below meth c H locs cells slots mc ms (F0 m pc ls st0) rest (ri_Qc vwCl D dT σ r σ1 a) (ri_dom σ)) (hI : ri_I D vwCl dT A s.heap σ H locs) (hA : ∀ q, s.heap.size ≤ q → A q)
    (kk : ∀ (H1 : Heap) (locs1 : List Loc), ri_I D vwCl dT A s.heap σ1 H1 locs1 → (∀ q : Nat, q < H.size → ¬ ri_dom σ q → H1[q]? = H[q]?) → W p l e R s m args below meth c H1 locs1 (cells + mc) (slots + ms) Q (F0 m (pc + 3) ls (r.toList ++ rest))) : W p l e R s m args below meth c H locs cells slots Q (F0 m pc ls st0) := by
  intro T hT X
  obtain ⟨v, st₀, t, T2, L, h0, X2, hL, e1, e2, ⟨hv, hHp, hz, hk⟩, st⟩ := hr T hT X
  cases hv
  rw [h0] at hz hk
  have hd := ri_dom_in hI hA
  have hS := hI.2
  obtain ⟨t2, a1, b1⟩ := kk T2.heap (locs ++ L) ⟨⟨fun q x hq => by rw [e1]; exact ⟨(hHp.1 q x hq).1, hd q (hHp.1 q x hq).2⟩, by rw [e1]; exact hHp.2⟩, Nat.le_trans hS.1 (by rw [e1]; exact hz), fun q h1 h2 => by rw [e1, hk q (Nat.lt_of_lt_of_le h1 hS.1) (fun z => h2 (hd q z))]; exact hS.2.1 q h1 h2, fun q hq => by
      rcases List.mem_append.mp hq with h | h
      · exact hS.2.2 q h
      · exact hd _ (hL q h)⟩ (fun q h1 h2 => by rw [e1]; exact hk q h1 h2) T2 rfl X2
  exact ⟨t2, st t2 a1, b1⟩
theorem wr_rowx {f : Nat} (hr : vx_Run p l e R s m args below meth c H locs cells slots mc ms (F0 m pc ls st0) rest (fun _ _ _ => False) (nx_XQ D dT f σ σ1) (ri_dom σ)) (hI : ri_I D vwCl dT A s.heap σ H locs) (hA : ∀ q, s.heap.size ≤ q → A q)
    (kx : ∀ (q9 : Addr) (ce : Cell) (H1 : Heap) (locs1 : List Loc), ri_I D vwCl dT A s.heap (σ1.1, H1.size) H1 locs1 → σ1.2 ≤ H1.size → (∀ q : Nat, q < H.size → ¬ ri_dom σ q → H1[q]? = H[q]?) → H1[q9]? = some ce → ce.vm = .none → s.vm.findClass (nx_c f) = some ce.cls → vx_W p l e R s m args below meth c H1 locs1 (cells + mc) (slots + ms) Q (F0 m pc ls rest) q9) : W p l e R s m args below meth c H locs cells slots Q (F0 m pc ls st0) := by
  intro T hT X
  rcases hr T hT X with ⟨v, st₀, t, T', L, h0, X', hL, e1, e2, hv, st⟩ | ⟨q, st₀, t, T2, L, E, ce, h0, X2, hL, e1, e2, ⟨hE, hz2, hHp, hz, hk⟩, hce, hcv, hcl, st⟩
  · exact hv.elim
  · subst hE
    rw [h0] at hz hk
    have hd := ri_dom_in hI hA
    have hS := hI.2
    obtain ⟨t2, a1, b1⟩ := kx q ce T2.heap (locs ++ L) ⟨⟨fun q x hq => by rw [e1]; exact ⟨(hHp.1 q x hq).1, hd q (hHp.1 q x hq).2⟩, rfl⟩, Nat.le_trans hS.1 (by rw [e1]; exact hz), fun q h1 h2 => by rw [e1, hk q (Nat.lt_of_lt_of_le h1 hS.1) (fun z => h2 (hd q z))]; exact hS.2.1 q h1 h2, fun q hq => by
        rcases List.mem_append.mp hq with h | h
        · exact hS.2.2 q h
        · exact hd _ (hL q h)⟩ (by rw [e1]; exact hz2) (fun q h1 h2 => by rw [e1]; exact hk q h1 h2) (by rw [e1]; exact hce) hcv hcl T2 rfl X2
    exact ⟨t2, st.trans a1, b1⟩
end WRP
