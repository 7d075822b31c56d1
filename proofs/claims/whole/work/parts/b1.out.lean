/-! The long beside the picture: a wrapper's out. -/
section WRO
variable {p : Program} {l : Launch} {e : Env} {R : Room} {s : State} {m : MethodId} {args : Array Value} {below : List Frame} {meth : Method} {c : Code} {A : Nat → Prop} {H : Heap} {locs : List Loc} {cells slots pc : Nat} {ls : Array Slot} {rest : List Value} {σ : ri_S} {Q : State → Prop} {D : va_G} {dT : Nat → ClassId} {cc : ByteArray}
def wr_out (dL : ClassId) (o : Nat) (g : Nat → Int64) (H : Heap) : Prop := H[o]? = some (vp_cell dL (1, .inr (.inl g)))
theorem wr_last {dL : ClassId} {o : Nat} {g : Nat → Int64} {x : Int64} (hx : p.tables.exec = Jvm.exec) (hb : c.code = cc) (hKL : va_K D vwCl [(dL, .long)] s) (hI : ri_I D vwCl dT A s.heap σ H locs) (hoA : A o) (ho : σ.1 o = none) (hout : wr_out dL o g H) (hdg : decode cc pc = .ok (.lastore, 1))
    (kk : ∀ (H1 : Heap) (locs1 : List Loc), ri_I D vwCl dT A s.heap σ H1 locs1 → wr_out dL o (vp_updL g 0 x) H1 → (∀ q : Nat, q ≠ o → H1[q]? = H[q]?) → W p l e R s m args below meth c H1 locs1 cells slots Q (F0 m (pc + 1) ls rest)) : W p l e R s m args below meth c H locs cells slots Q (F0 m pc ls (.long x :: .int 0 :: .ref o :: rest)) := by
  refine W.last hx hb hout ((hKL.2 0 _ rfl).1 1 (fun j => .long (g j))) (fun q => by cases q) (by show ¬ ((0 : Int32) < 0 ∨ (arrV _ _ _).slots.size ≤ _); rw [arrV_size]; exact (show ¬ ((0 : Int32) < 0 ∨ 1 ≤ (0 : Int32).toNatClampNeg) by decide)) rfl rfl hdg fun H1 e1 z oq => ?_
  refine kk H1 _ ⟨⟨fun q x9 hq => ⟨va_at.kept (hI.1.1 q x9 hq).1 (oq q (fun h9 => by subst h9; rw [ho] at hq; cases hq)), (hI.1.1 q x9 hq).2⟩, by rw [z]; exact hI.1.2⟩, hI.2.put z oq hoA⟩ ?_ oq
  show H1[o]? = some (vp_cell _ _)
  rw [e1, vp_cell_l, vp_cell_l, arrV_store]
  congr 2
  funext q
  by_cases hq : q = 0
  · subst hq
    simp [updV, vp_updL]
  · simp [updV, vp_updL, hq]
end WRO
