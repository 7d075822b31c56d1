/-! Every entry of every method is the machine's. -/
section RIMK
variable {Ex : (Nat → Prop) → State → Heap → Prop} {D : va_G} {dT : Nat → ClassId}
def re_ok (Ex : (Nat → Prop) → State → Heap → Prop) (D : va_G) (dT : Nat → ClassId) (k : Nat) (q : Nat × ri_C) : Prop := ri_eok ri_LW vwCl RX3 Ex D dT TN TB TM TR k q.1 q.2 ∧ (∀ op, q.2 = .inl op → ri_gr op)
theorem re_p {k pc : Nat} {f : ri_F → Option ri_F} (h : ri_okp ri_LW (TN k).cls (TB k) (TM k) pc f) : re_ok Ex D dT k (pc, .inl (ri_pu f)) := ⟨h.ok, fun op e => by cases e; exact rg_pu f⟩
theorem re_h {k pc : Nat} {op : ri_Op} (h : ri_ok ri_LW vwCl RX3 Ex D dT (TN k).cls (TN k).name (TB k) (TM k) pc op) (g : ri_gr op) : re_ok Ex D dT k (pc, .inl op) := ⟨h, fun op e => by cases e; exact g⟩
theorem re_c {k pc k2 n : Nat} {rc : Option Nat} (h : ri_cok ri_LW vwCl (TN k).cls (TB k) (TM k) pc (TN k2) (TB k2) (TM k2) (TR k2) n rc) : re_ok Ex D dT k (pc, .inr (.inl (k2, n, rc))) := ⟨h, fun op e => by cases e⟩
theorem re_r {k pc rk : Nat} (h : ri_fin (TB k) pc rk (TR k)) : re_ok Ex D dT k (pc, .inr (.inr rk)) := ⟨h, fun op e => by cases e⟩
theorem re_n {k : Nat} : ∀ q ∈ ([] : List (Nat × ri_C)), re_ok Ex D dT k q := fun _ h => nomatch h
theorem re_a {k : Nat} {q : Nat × ri_C} {l : List (Nat × ri_C)} (h : re_ok Ex D dT k q) (t : ∀ q ∈ l, re_ok Ex D dT k q) : ∀ q2 ∈ q :: l, re_ok Ex D dT k q2 := fun q2 h2 => (List.mem_cons.mp h2).elim (fun e => by rw [e]; exact h) (t q2)
theorem re_m {k : Nat} {l1 l2 : List (Nat × ri_C)} (h : ∀ q ∈ l1, re_ok Ex D dT k q) (t : ∀ q ∈ l2, re_ok Ex D dT k q) : ∀ q2 ∈ l1 ++ l2, re_ok Ex D dT k q2 := fun q2 h2 => (List.mem_append.mp h2).elim (h q2) (t q2)
end RIMK
