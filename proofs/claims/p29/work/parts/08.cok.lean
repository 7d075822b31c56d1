/-! The calls. -/
/-- the words that stay true as the machine goes on -/
def ri_good : Cond → Bool
  | .methodLinkNest _ _ _ _ => true
  | .fieldLinkNest _ _ _ _ _ _ => true
  | .arrayOver (.object _) => true
  | w => goodWord w
theorem ri_warm {w : Cond} {args a2 : Array Value} {s U : State} (hg : ri_good w = true) (hW : s.WarmedH U.vm) (h : w.before args s = true) : w.before a2 U = true := by
  unfold ri_good at hg
  split at hg
  · exact va_Nw.use rfl (va_Nw.warmM hW (va_Nw.of rfl h))
  · exact va_Nw.use rfl (va_Nw.warmF hW (va_Nw.of rfl h))
  · exact va_AO.use (va_AO.moved hW.alike (va_AO.of h))
  · exact word_at hW (good_of_word hg) h
section RICOK
variable {LW : List Cond} {cl : List vw_C} {own : String} {cc : ByteArray} {nL pc : Nat} {nm2 : MethodName} {b2 : ByteArray} {m2 n index : Nat} {rt2 : Option FieldType}
def ri_named (nm2 : MethodName) (n : Nat) : Prop := (nm2.cls ≠ "java/lang/invoke/MethodHandle" ∧ nm2.cls ≠ "java/lang/invoke/VarHandle") ∧ (parseMethodDescriptor nm2.desc).map (fun d => d.parameters.length) = some n
theorem ri_np {nm2 : MethodName} {n : Nat} (h : ri_named nm2 n) : ∀ sig, parseMethodDescriptor nm2.desc = some sig → n = sig.parameters.length := by
  intro sig hs
  have h2 := h.2
  rw [hs] at h2
  exact (Option.some.inj h2).symm
theorem ri_pays (hLW : ∀ w ∈ LW, ri_good w = true) {args : Array Value} {s : State} (hts : ∀ w ∈ LW, w.before args s = true) {x : Cond} (hx : x ∈ LW) : ∀ w ∈ x :: LW, ∀ (a2 : Array Value) (U : State), s.WarmedH U.vm → w.before a2 U = true := by
  intro w hw a2 U hW
  have hw2 : w ∈ LW := (List.mem_cons.mp hw).elim (fun e => by rw [e]; exact hx) id
  exact ri_warm (hLW w hw2) hW (hts w hw2)
theorem rc_S (hLW : ∀ w ∈ LW, ri_good w = true) (hd : decode cc pc = .ok (.invokestatic index, 3)) (h1 : Cond.methodLink own index nm2 ∈ LW) (h2 : Cond.static nm2 ∈ LW) (h3 : Cond.initialized nm2.cls ∈ LW) (h4 : Cond.code nm2 b2 m2 rt2 ∈ LW) (h5 : ri_named nm2 n) : ri_cok LW cl own cc nL pc nm2 b2 m2 rt2 n none := by
  intro p l e R s m args below meth c S rm Pc Qc mc ms free hM hrc hrs hfr hlo hbl As rest H locs cells slots ls hn hsz hp hrv hW hc hs
  have hts := S.2.2.2.2
  exact va_runS (n := n) S hM ⟨⟨hrc, hrs, hfr, hlo, ri_pays hLW hts h4, List.mem_cons_self, hts _ h4, hts _ h3, h5.1, ri_np h5, hts _ h1⟩, hts _ h2⟩ ⟨hbl, hp⟩ rfl hn hsz rfl (by show 2 * 0 + _ ≤ 8; omega) hd ⟨hc, hs⟩
theorem rc_SN {host : String} (hLW : ∀ w ∈ LW, ri_good w = true) (hd : decode cc pc = .ok (.invokestatic index, 3)) (h1 : Cond.methodLinkNest own index nm2 host ∈ LW) (h2 : Cond.static nm2 ∈ LW) (h3 : Cond.initialized nm2.cls ∈ LW) (h4 : Cond.code nm2 b2 m2 rt2 ∈ LW) (h5 : ri_named nm2 n) : ri_cok LW cl own cc nL pc nm2 b2 m2 rt2 n none := by
  intro p l e R s m args below meth c S rm Pc Qc mc ms free hM hrc hrs hfr hlo hbl As rest H locs cells slots ls hn hsz hp hrv hW hc hs
  have hts := S.2.2.2.2
  exact va_runSN (n := n) S hM ⟨⟨⟨hrc, hrs, hfr, hlo, ri_pays hLW hts h4, List.mem_cons_self⟩, hts _ h4, hts _ h3, h5.1, ri_np h5, hts _ h1⟩, hts _ h2, trivial⟩ ⟨hbl, hp⟩ rfl hn hsz rfl (by show 2 * 0 + _ ≤ 8; omega) hd ⟨hc, hs⟩
theorem rc_V {ci Nn : Nat} {T : u_T} (hLW : ∀ w ∈ LW, ri_good w = true) (hcl : cl[ci]? = some (nm2.cls, T, Nn)) (hd : decode cc pc = .ok (.invokevirtual index, 3)) (h1 : Cond.methodLink own index nm2 ∈ LW) (h2 : Cond.instanceMethod nm2 ∈ LW) (h2s : Cond.selects nm2.cls nm2 nm2 ∈ LW) (h3 : Cond.initialized nm2.cls ∈ LW) (h4 : Cond.code nm2 b2 m2 rt2 ∈ LW) (h5 : ri_named nm2 n) : ri_cok LW cl own cc nL pc nm2 b2 m2 rt2 (n + 1) (some ci) := by
  intro p l e R s m args below meth c S rm Pc Qc mc ms free hM hrc hrs hfr hlo hbl As rest H locs cells slots ls hn hsz hp hrv hW hc hs
  have hts := S.2.2.2.2
  obtain ⟨b, bs, q, cell, rfl, hq, g1, g2, g3⟩ := hrv ci rfl
  obtain rfl : q = _ := Option.some.inj (hq.symm.trans hcl)
  exact va_runV (n := n) (As := bs) (rest := rest) S hM ⟨⟨hrc, hrs, hfr, hlo, ri_pays hLW hts h4, List.mem_cons_self, hts _ h4, hts _ h3, h5.1, ri_np h5, hts _ h1⟩, hts _ h2, hts _ h2s⟩ ⟨hbl, ⟨cell, g1, g2, g3⟩, hp⟩ rfl (by simpa using hn) hsz (by simp) (by show 2 * 0 + _ ≤ 8; omega) hd ⟨hc, hs⟩
theorem rc_VN {ci Nn : Nat} {T : u_T} {host : String} (hLW : ∀ w ∈ LW, ri_good w = true) (hcl : cl[ci]? = some (nm2.cls, T, Nn)) (hd : decode cc pc = .ok (.invokevirtual index, 3)) (h1 : Cond.methodLinkNest own index nm2 host ∈ LW) (h2 : Cond.instanceMethod nm2 ∈ LW) (h2s : Cond.selects nm2.cls nm2 nm2 ∈ LW) (h3 : Cond.initialized nm2.cls ∈ LW) (h4 : Cond.code nm2 b2 m2 rt2 ∈ LW) (h5 : ri_named nm2 n) : ri_cok LW cl own cc nL pc nm2 b2 m2 rt2 (n + 1) (some ci) := by
  intro p l e R s m args below meth c S rm Pc Qc mc ms free hM hrc hrs hfr hlo hbl As rest H locs cells slots ls hn hsz hp hrv hW hc hs
  have hts := S.2.2.2.2
  obtain ⟨b, bs, q, cell, rfl, hq, g1, g2, g3⟩ := hrv ci rfl
  obtain rfl : q = _ := Option.some.inj (hq.symm.trans hcl)
  exact va_runVN (n := n) (As := bs) (rest := rest) S hM ⟨⟨⟨hrc, hrs, hfr, hlo, ri_pays hLW hts h4, List.mem_cons_self⟩, hts _ h4, hts _ h3, h5.1, ri_np h5, hts _ h1⟩, hts _ h2, hts _ h2s⟩ ⟨hbl, ⟨cell, g1, g2, g3⟩, hp⟩ rfl (by simpa using hn) hsz (by simp) (by show 2 * 0 + _ ≤ 8; omega) hd ⟨hc, hs⟩
theorem ri_front {n : Nat} {bs : List Value} (h : bs.length = n + 1) : ∃ (a : Value) (as : List Value), bs = a :: as ∧ as.length = n := by
  cases bs with
  | nil => simp at h
  | cons a as => exact ⟨a, as, rfl, by simpa using h⟩
/-- a constructor: its receiver is a reference (the marker class 1000000 asks for that alone) -/
theorem rc_I {ci Nn : Nat} {T : u_T} (hLW : ∀ w ∈ LW, ri_good w = true) (hcl : cl[ci]? = some (nm2.cls, T, Nn)) (hd : decode cc pc = .ok (.invokespecial index, 3)) (hi : nm2.name = "<init>") (hr : rt2 = none) (h1 : Cond.methodLink own index nm2 ∈ LW) (h2 : Cond.instanceMethod nm2 ∈ LW) (h3 : Cond.initialized nm2.cls ∈ LW) (h4 : Cond.code nm2 b2 m2 rt2 ∈ LW) (h5 : ri_named nm2 n) : ri_cok LW cl own cc nL pc nm2 b2 m2 rt2 (n + 1) (some ci) := by
  intro p l e R s m args below meth c S rm Pc Qc mc ms free hM hrc hrs hfr hlo hbl As rest H locs cells slots ls hn hsz hp hrv hW hc hs
  have hts := S.2.2.2.2
  subst hr
  obtain ⟨b, bs, q, cell, rfl, hq, g1, g2, g3⟩ := hrv ci rfl
  exact va_runI (n := n) (As := bs) (rest := rest) S hM ⟨⟨hrc, hrs, hfr, hlo, ri_pays hLW hts h4, List.mem_cons_self, hts _ h4, hts _ h3, h5.1, ri_np h5, hts _ h1⟩, hi, hts _ h2⟩ ⟨hbl, hp⟩ rfl (by simpa using hn) hsz (by simp) (by show 2 * 0 + _ ≤ 8; omega) hd ⟨hc, hs⟩
theorem rc_IN {ci Nn : Nat} {T : u_T} {host : String} (hLW : ∀ w ∈ LW, ri_good w = true) (hcl : cl[ci]? = some (nm2.cls, T, Nn)) (hd : decode cc pc = .ok (.invokespecial index, 3)) (hi : nm2.name = "<init>") (hr : rt2 = none) (h1 : Cond.methodLinkNest own index nm2 host ∈ LW) (h2 : Cond.instanceMethod nm2 ∈ LW) (h3 : Cond.initialized nm2.cls ∈ LW) (h4 : Cond.code nm2 b2 m2 rt2 ∈ LW) (h5 : ri_named nm2 n) : ri_cok LW cl own cc nL pc nm2 b2 m2 rt2 (n + 1) (some ci) := by
  intro p l e R s m args below meth c S rm Pc Qc mc ms free hM hrc hrs hfr hlo hbl As rest H locs cells slots ls hn hsz hp hrv hW hc hs
  have hts := S.2.2.2.2
  subst hr
  obtain ⟨b, bs, q, cell, rfl, hq, g1, g2, g3⟩ := hrv ci rfl
  exact va_runIN (n := n) (As := bs) (rest := rest) S hM ⟨⟨⟨hrc, hrs, hfr, hlo, ri_pays hLW hts h4, List.mem_cons_self⟩, hts _ h4, hts _ h3, h5.1, ri_np h5, hts _ h1⟩, hi, hts _ h2⟩ ⟨hbl, hp⟩ rfl (by simpa using hn) hsz (by simp) (by show 2 * 0 + _ ≤ 8; omega) hd ⟨hc, hs⟩
end RICOK
