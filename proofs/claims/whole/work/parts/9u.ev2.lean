/-! The equations of the second table. -/
section RIEW
variable {Ks : Nat → Nat} {k pc : Nat} {L : ri_L} {st : List Value} {σ : ri_S}
theorem eW_p {f : ri_F → Option ri_F} {fr2 : ri_F} (h : TT2 Ks k pc = some (.inl (ri_pu f))) (h2 : f (pc, L, st) = some fr2) : ev2 Ks k (pc, L, st) σ = ev2 Ks k fr2 σ := by
  unfold ev2
  rw [ri_ev_step h]
  unfold ri_pu
  rw [h2]
  rfl
theorem eW_x {f : ri_F → Option ri_F} (h : TT2 Ks k pc = some (.inl (ri_pu f))) : ev2 Ks k (pc, L, st) σ = (f (pc, L, st)).bind fun fr2 => ev2 Ks k fr2 σ := by
  unfold ev2
  rw [ri_ev_step h]
  unfold ri_pu
  cases f (pc, L, st) <;> rfl
theorem eW_b {f : ri_F → Option ri_F} {c : Prop} {dc : Decidable c} {a b : ri_F} (h : TT2 Ks k pc = some (.inl (ri_pu f))) (h2 : f (pc, L, st) = if decide c = true then some a else some b) : ev2 Ks k (pc, L, st) σ = if c then ev2 Ks k a σ else ev2 Ks k b σ := by
  rw [eW_x h, h2]
  by_cases hc : c
  · rw [if_pos hc, if_pos (decide_eq_true hc)]; rfl
  · rw [if_neg hc, if_neg (by rw [decide_eq_false hc]; simp)]; rfl
theorem eW_tab {t : Nat} {ts : List Nat} {lo x : Int32} {d : Nat} : ev2 Ks k (ri_tab (t :: ts) lo d x, L, st) σ = if x = lo then ev2 Ks k (t, L, st) σ else ev2 Ks k (ri_tab ts (lo + 1) d x, L, st) σ := by
  unfold ri_tab
  by_cases hc : x = lo
  · rw [if_pos hc, if_pos hc]
  · rw [if_neg hc, if_neg hc]
    cases ts <;> rfl
theorem eW_tab0 {lo x : Int32} {d : Nat} : ev2 Ks k (ri_tab [] lo d x, L, st) σ = ev2 Ks k (d, L, st) σ := rfl
theorem eW_sw {lo x : Int32} {ts : List Nat} {d : Nat} (h : TT2 Ks k pc = some (.inl (ri_pu (ri_switch lo ts d)))) : ev2 Ks k (pc, L, .int x :: st) σ = ev2 Ks k (ri_tab ts lo d x, L, st) σ := eW_p h rfl
theorem eW_r {rk : Nat} {X : Option ri_R} (h : TT2 Ks k pc = some (.inr (.inr rk))) (h2 : ri_stp (some (.inr (.inr rk))) (pc, L, st) σ (fun _ _ => none) (fun _ _ => none) = X) : ev2 Ks k (pc, L, st) σ = X := by
  unfold ev2
  rw [ri_ev_fin (fr := (pc, L, st)) h, h2]
theorem eW_h {op : ri_Op} (h : TT2 Ks k pc = some (.inl op)) : ev2 Ks k (pc, L, st) σ = (op (pc, L, st) σ).bind fun q => ev2 Ks k q.1 q.2 := by
  unfold ev2
  exact ri_ev_step h
theorem eW_getf {ci j a : Nat} (h : TT2 Ks k pc = some (.inl (ri_getf ci j))) : ev2 Ks k (pc, L, .ref a :: st) σ = tv_o ci j (σ.1 a) fun v => ev2 Ks k (pc + 3, L, v :: st) σ := by
  rw [eW_h h]
  unfold ri_getf tv_o
  dsimp only
  rcases σ.1 a with _ | q | q | ⟨c2, fs⟩
  · rfl
  · rfl
  · rfl
  · dsimp only
    cases hb : Nat.beq c2 ci
    · rfl
    · cases fs[j]? <;> rfl
theorem eW_call {k2 n : Nat} {as rest : List Value} (h : TT2 Ks k pc = some (.inr (.inl (k2, n, none)))) (hH : Nat.blt (TH2 k2) (TH2 k) = true) (hs : (st.take n).reverse = as) (hd : st.drop n = rest) (hc : (ri_few rest && Nat.ble n st.length && ri_fit (TM k2) as) = true) : ev2 Ks k (pc, L, st) σ = (cal2 Ks k2 as σ).bind fun q => ev2 Ks k (pc + 3, L, q.1.toList ++ rest) q.2 := by
  unfold ev2 cal2
  rw [ri_ev_call h hH, hs, hd]
  rw [if_pos (by show (ri_few rest && Nat.ble n st.length && true && ri_fit (TM k2) as) = true; rw [Bool.and_true]; exact hc)]
theorem eW_callv {k2 n ci a : Nat} {as rest : List Value} (h : TT2 Ks k pc = some (.inr (.inl (k2, n, some ci)))) (hH : Nat.blt (TH2 k2) (TH2 k) = true) (hs : (st.take n).reverse = .ref a :: as) (hd : st.drop n = rest) (hc : (ri_few rest && Nat.ble n st.length && ri_fit (TM k2) (.ref a :: as)) = true) : ev2 Ks k (pc, L, st) σ = tv_k ci (σ.1 a) ((cal2 Ks k2 (.ref a :: as) σ).bind fun q => ev2 Ks k (pc + 3, L, q.1.toList ++ rest) q.2) := by
  unfold ev2 cal2
  rw [ri_ev_call h hH, hs, hd]
  rw [Bool.and_eq_true, Bool.and_eq_true] at hc
  rw [hc.1.1, hc.1.2, hc.2]
  exact tv_ke
end RIEW
section ROWS2
variable {Ks : Nat → Nat}
theorem TQ_90 (pc : Nat) : TT2 Ks 90 pc = ri_find (TL_90 ++ TX_90 Ks) pc := rfl
theorem F_90 (x0 : Nat) (σ : ri_S) : cal2 Ks 90 [.ref x0] σ = ev2 Ks 90 (0, [some (.ref x0), none, none, none], []) σ := rfl
theorem G_90_24 (l0 l2 l3 : Option Value) (st : List Value) (σ : ri_S) (x : Int32) : ev2 Ks 90 (24, [l0, some (.int x), l2, l3], st) σ = ev2 Ks 90 (25, [l0, some (.int x), l2, l3], .int x :: st) σ := eW_p ((TQ_90 _).trans rfl) rfl
theorem G_90_58 (l0 l1 l2 : Option Value) (st : List Value) (σ : ri_S) (x : Int32) : ev2 Ks 90 (58, [l0, l1, l2, some (.int x)], st) σ = ev2 Ks 90 (59, [l0, l1, l2, some (.int x)], .int x :: st) σ := eW_p ((TQ_90 _).trans rfl) rfl
theorem J_90_0 :
  (∀ (l1 l2 l3 : Option Value) (st : List Value) (σ : ri_S) (x : Nat), ev2 Ks 90 (0, [some (.ref x), l1, l2, l3], st) σ = ev2 Ks 90 (1, [some (.ref x), l1, l2, l3], .ref x :: st) σ) ∧
  (∀ (L : ri_L) (st : List Value) (σ : ri_S) (a : Nat), ev2 Ks 90 (1, L, .ref a :: st) σ = tv_o 6 1 (σ.1 a) fun v => ev2 Ks 90 (4, L, v :: st) σ) ∧
  (∀ (L : ri_L) (st : List Value) (σ : ri_S) (x : Int32), ev2 Ks 90 (4, L, .int x :: st) σ = if x = 0 then ev2 Ks 90 (20, L, st) σ else ev2 Ks 90 (7, L, st) σ) ∧
  (∀ (l1 l2 l3 : Option Value) (st : List Value) (σ : ri_S) (x : Nat), ev2 Ks 90 (7, [some (.ref x), l1, l2, l3], st) σ = ev2 Ks 90 (8, [some (.ref x), l1, l2, l3], .ref x :: st) σ) ∧
  (∀ (L : ri_L) (st : List Value) (σ : ri_S) (a : Nat), ev2 Ks 90 (8, L, .ref a :: st) σ = tv_o 6 0 (σ.1 a) fun v => ev2 Ks 90 (11, L, v :: st) σ) ∧
  (∀ (L : ri_L) (st : List Value) (σ : ri_S), ev2 Ks 90 (11, L, st) σ = ev2 Ks 90 (12, L, .int 0 :: st) σ) ∧
  (∀ (L : ri_L) (σ : ri_S) (a0 : Nat) (a1 : Int32), ev2 Ks 90 (12, L, [.int a1, .ref a0]) σ = (cal2 Ks 140 [.ref a0, .int a1] σ).bind fun q => ev2 Ks 90 (15, L, q.1.toList ++ []) q.2) ∧
  (∀ (L : ri_L) (st : List Value) (σ : ri_S), ev2 Ks 90 (15, L, st) σ = ev2 Ks 90 (17, L, .int 80 :: st) σ) ∧
  (∀ (L : ri_L) (st : List Value) (σ : ri_S) (x y : Int32), ev2 Ks 90 (17, L, .int y :: .int x :: st) σ = if x = y then ev2 Ks 90 (22, L, st) σ else ev2 Ks 90 (20, L, st) σ) ∧
  (∀ (L : ri_L) (st : List Value) (σ : ri_S), ev2 Ks 90 (20, L, st) σ = ev2 Ks 90 (21, L, .int 0 :: st) σ) ∧
  (∀ (L : ri_L) (σ : ri_S) (x : Int32), ev2 Ks 90 (21, L, [.int x]) σ = some (some (.int x), σ)) ∧
  (∀ (L : ri_L) (st : List Value) (σ : ri_S), ev2 Ks 90 (22, L, st) σ = ev2 Ks 90 (23, L, .int 1 :: st) σ) ∧
  (∀ (l0 l1 l2 l3 : Option Value) (st : List Value) (σ : ri_S) (x : Int32), ev2 Ks 90 (23, [l0, l1, l2, l3], .int x :: st) σ = ev2 Ks 90 (24, [ri_clr l0, some (.int x), l2, l3], st) σ) ∧
  (∀ (l1 l2 l3 : Option Value) (st : List Value) (σ : ri_S) (x : Nat), ev2 Ks 90 (25, [some (.ref x), l1, l2, l3], st) σ = ev2 Ks 90 (26, [some (.ref x), l1, l2, l3], .ref x :: st) σ) ∧
  (∀ (L : ri_L) (st : List Value) (σ : ri_S) (a : Nat), ev2 Ks 90 (26, L, .ref a :: st) σ = tv_o 6 1 (σ.1 a) fun v => ev2 Ks 90 (29, L, v :: st) σ) ∧
  (∀ (L : ri_L) (st : List Value) (σ : ri_S) (x y : Int32), ev2 Ks 90 (29, L, .int y :: .int x :: st) σ = if y ≤ x then ev2 Ks 90 (101, L, st) σ else ev2 Ks 90 (32, L, st) σ) ∧
  (∀ (l1 l2 l3 : Option Value) (st : List Value) (σ : ri_S) (x : Nat), ev2 Ks 90 (32, [some (.ref x), l1, l2, l3], st) σ = ev2 Ks 90 (33, [some (.ref x), l1, l2, l3], .ref x :: st) σ) ∧
  (∀ (L : ri_L) (st : List Value) (σ : ri_S) (a : Nat), ev2 Ks 90 (33, L, .ref a :: st) σ = tv_o 6 0 (σ.1 a) fun v => ev2 Ks 90 (36, L, v :: st) σ) ∧
  (∀ (l0 l2 l3 : Option Value) (st : List Value) (σ : ri_S) (x : Int32), ev2 Ks 90 (36, [l0, some (.int x), l2, l3], st) σ = ev2 Ks 90 (37, [l0, some (.int x), l2, l3], .int x :: st) σ) ∧
  (∀ (L : ri_L) (σ : ri_S) (a0 : Nat) (a1 : Int32), ev2 Ks 90 (37, L, [.int a1, .ref a0]) σ = (cal2 Ks 140 [.ref a0, .int a1] σ).bind fun q => ev2 Ks 90 (40, L, q.1.toList ++ []) q.2) ∧
  (∀ (L : ri_L) (σ : ri_S) (a0 : Int32), ev2 Ks 90 (40, L, [.int a0]) σ = (cal2 Ks 91 [.int a0] σ).bind fun q => ev2 Ks 90 (43, L, q.1.toList ++ []) q.2) ∧
  (∀ (l0 l1 l2 l3 : Option Value) (st : List Value) (σ : ri_S) (x : Nat), ev2 Ks 90 (43, [l0, l1, l2, l3], .ref x :: st) σ = ev2 Ks 90 (44, [l0, ri_clr l1, some (.ref x), l3], st) σ) ∧
  (∀ (l0 l1 l3 : Option Value) (st : List Value) (σ : ri_S) (x : Nat), ev2 Ks 90 (44, [l0, l1, some (.ref x), l3], st) σ = ev2 Ks 90 (45, [l0, l1, some (.ref x), l3], .ref x :: st) σ) ∧
  (∀ (L : ri_L) (σ : ri_S) (a : Nat) (st : List Value), ev2 Ks 90 (45, L, .ref a :: st) σ = (ri_sem Ks (45, L, .ref a :: st)).bind fun fr => ev2 Ks 90 fr σ) ∧
  (∀ (L : ri_L) (st : List Value) (σ : ri_S) (x : Int32), ev2 Ks 90 (48, L, .int x :: st) σ = if x = 0 then ev2 Ks 90 (53, L, st) σ else ev2 Ks 90 (51, L, st) σ) ∧
  (∀ (l0 l2 l3 : Option Value) (st : List Value) (σ : ri_S) (x : Int32), ev2 Ks 90 (51, [l0, some (.int x), l2, l3], st) σ = ev2 Ks 90 (52, [l0, some (.int x), l2, l3], .int x :: st) σ) ∧
  (∀ (L : ri_L) (σ : ri_S) (x : Int32), ev2 Ks 90 (52, L, [.int x]) σ = some (some (.int x), σ)) ∧
  (∀ (l0 l2 l3 : Option Value) (st : List Value) (σ : ri_S) (x : Int32), ev2 Ks 90 (53, [l0, some (.int x), l2, l3], st) σ = ev2 Ks 90 (56, [ri_clr l0, some (.int (x + 1)), l2, l3], st) σ) ∧
  (∀ (L : ri_L) (st : List Value) (σ : ri_S), ev2 Ks 90 (56, L, st) σ = ev2 Ks 90 (57, L, .int 0 :: st) σ) ∧
  (∀ (l0 l1 l2 l3 : Option Value) (st : List Value) (σ : ri_S) (x : Int32), ev2 Ks 90 (57, [l0, l1, l2, l3], .int x :: st) σ = ev2 Ks 90 (58, [l0, l1, ri_clr l2, some (.int x)], st) σ) ∧
  (∀ (l0 l1 l3 : Option Value) (st : List Value) (σ : ri_S) (x : Nat), ev2 Ks 90 (59, [l0, l1, some (.ref x), l3], st) σ = ev2 Ks 90 (60, [l0, l1, some (.ref x), l3], .ref x :: st) σ) ∧
  (∀ (L : ri_L) (σ : ri_S) (a : Nat) (st : List Value), ev2 Ks 90 (60, L, .ref a :: st) σ = (ri_sln Ks (60, L, .ref a :: st)).bind fun fr => ev2 Ks 90 fr σ) ∧
  (∀ (L : ri_L) (st : List Value) (σ : ri_S) (x y : Int32), ev2 Ks 90 (63, L, .int y :: .int x :: st) σ = if y ≤ x then ev2 Ks 90 (98, L, st) σ else ev2 Ks 90 (66, L, st) σ) ∧
  (∀ (l0 l2 l3 : Option Value) (st : List Value) (σ : ri_S) (x : Int32), ev2 Ks 90 (66, [l0, some (.int x), l2, l3], st) σ = ev2 Ks 90 (67, [l0, some (.int x), l2, l3], .int x :: st) σ) ∧
  (∀ (l1 l2 l3 : Option Value) (st : List Value) (σ : ri_S) (x : Nat), ev2 Ks 90 (67, [some (.ref x), l1, l2, l3], st) σ = ev2 Ks 90 (68, [some (.ref x), l1, l2, l3], .ref x :: st) σ) ∧
  (∀ (L : ri_L) (st : List Value) (σ : ri_S) (a : Nat), ev2 Ks 90 (68, L, .ref a :: st) σ = tv_o 6 1 (σ.1 a) fun v => ev2 Ks 90 (71, L, v :: st) σ) ∧
  (∀ (L : ri_L) (st : List Value) (σ : ri_S) (x y : Int32), ev2 Ks 90 (71, L, .int y :: .int x :: st) σ = if y ≤ x then ev2 Ks 90 (87, L, st) σ else ev2 Ks 90 (74, L, st) σ) ∧
  (∀ (l1 l2 l3 : Option Value) (st : List Value) (σ : ri_S) (x : Nat), ev2 Ks 90 (74, [some (.ref x), l1, l2, l3], st) σ = ev2 Ks 90 (75, [some (.ref x), l1, l2, l3], .ref x :: st) σ) ∧
  (∀ (l0 l1 l3 : Option Value) (st : List Value) (σ : ri_S) (x : Nat), ev2 Ks 90 (75, [l0, l1, some (.ref x), l3], st) σ = ev2 Ks 90 (76, [l0, l1, some (.ref x), l3], .ref x :: st) σ) ∧
  (∀ (l0 l1 l2 : Option Value) (st : List Value) (σ : ri_S) (x : Int32), ev2 Ks 90 (76, [l0, l1, l2, some (.int x)], st) σ = ev2 Ks 90 (77, [l0, l1, l2, some (.int x)], .int x :: st) σ) :=
  ⟨fun l1 l2 l3 st σ x => eW_p ((TQ_90 _).trans rfl) rfl,
   fun L st σ a => eW_getf ((TQ_90 _).trans rfl),
   fun L st σ x => eW_b ((TQ_90 _).trans rfl) rfl,
   fun l1 l2 l3 st σ x => eW_p ((TQ_90 _).trans rfl) rfl,
   fun L st σ a => eW_getf ((TQ_90 _).trans rfl),
   fun L st σ => eW_p ((TQ_90 _).trans rfl) rfl,
   fun L σ a0 a1 => eW_call ((TQ_90 _).trans rfl) rfl rfl rfl rfl,
   fun L st σ => eW_p ((TQ_90 _).trans rfl) rfl,
   fun L st σ x y => eW_b ((TQ_90 _).trans rfl) rfl,
   fun L st σ => eW_p ((TQ_90 _).trans rfl) rfl,
   fun L σ x => eW_r ((TQ_90 _).trans rfl) rfl,
   fun L st σ => eW_p ((TQ_90 _).trans rfl) rfl,
   fun l0 l1 l2 l3 st σ x => eW_p ((TQ_90 _).trans rfl) rfl,
   fun l1 l2 l3 st σ x => eW_p ((TQ_90 _).trans rfl) rfl,
   fun L st σ a => eW_getf ((TQ_90 _).trans rfl),
   fun L st σ x y => eW_b ((TQ_90 _).trans rfl) rfl,
   fun l1 l2 l3 st σ x => eW_p ((TQ_90 _).trans rfl) rfl,
   fun L st σ a => eW_getf ((TQ_90 _).trans rfl),
   fun l0 l2 l3 st σ x => eW_p ((TQ_90 _).trans rfl) rfl,
   fun L σ a0 a1 => eW_call ((TQ_90 _).trans rfl) rfl rfl rfl rfl,
   fun L σ a0 => eW_call ((TQ_90 _).trans rfl) rfl rfl rfl rfl,
   fun l0 l1 l2 l3 st σ x => eW_p ((TQ_90 _).trans rfl) rfl,
   fun l0 l1 l3 st σ x => eW_p ((TQ_90 _).trans rfl) rfl,
   fun L σ a st => eW_x ((TQ_90 _).trans rfl),
   fun L st σ x => eW_b ((TQ_90 _).trans rfl) rfl,
   fun l0 l2 l3 st σ x => eW_p ((TQ_90 _).trans rfl) rfl,
   fun L σ x => eW_r ((TQ_90 _).trans rfl) rfl,
   fun l0 l2 l3 st σ x => eW_p ((TQ_90 _).trans rfl) rfl,
   fun L st σ => eW_p ((TQ_90 _).trans rfl) rfl,
   fun l0 l1 l2 l3 st σ x => eW_p ((TQ_90 _).trans rfl) rfl,
   fun l0 l1 l3 st σ x => eW_p ((TQ_90 _).trans rfl) rfl,
   fun L σ a st => eW_x ((TQ_90 _).trans rfl),
   fun L st σ x y => eW_b ((TQ_90 _).trans rfl) rfl,
   fun l0 l2 l3 st σ x => eW_p ((TQ_90 _).trans rfl) rfl,
   fun l1 l2 l3 st σ x => eW_p ((TQ_90 _).trans rfl) rfl,
   fun L st σ a => eW_getf ((TQ_90 _).trans rfl),
   fun L st σ x y => eW_b ((TQ_90 _).trans rfl) rfl,
   fun l1 l2 l3 st σ x => eW_p ((TQ_90 _).trans rfl) rfl,
   fun l0 l1 l3 st σ x => eW_p ((TQ_90 _).trans rfl) rfl,
   fun l0 l1 l2 st σ x => eW_p ((TQ_90 _).trans rfl) rfl⟩
theorem J_90_1 :
  (∀ (L : ri_L) (σ : ri_S) (x : Int32) (a : Nat) (st : List Value), ev2 Ks 90 (77, L, .int x :: .ref a :: st) σ = (ri_sch Ks (77, L, .int x :: .ref a :: st)).bind fun fr => ev2 Ks 90 fr σ) ∧
  (∀ (l0 l2 l3 : Option Value) (st : List Value) (σ : ri_S) (x : Int32), ev2 Ks 90 (80, [l0, some (.int x), l2, l3], st) σ = ev2 Ks 90 (81, [l0, some (.int x), l2, l3], .int x :: st) σ) ∧
  (∀ (L : ri_L) (σ : ri_S) (a0 : Nat) (a1 : Int32) (a2 : Int32), ev2 Ks 90 (81, L, [.int a2, .int a1, .ref a0]) σ = tv_k 6 (σ.1 a0) ((cal2 Ks 92 [.ref a0, .int a1, .int a2] σ).bind fun q => ev2 Ks 90 (84, L, q.1.toList ++ []) q.2)) ∧
  (∀ (L : ri_L) (st : List Value) (σ : ri_S) (x : Int32), ev2 Ks 90 (84, L, .int x :: st) σ = if ¬ x = 0 then ev2 Ks 90 (89, L, st) σ else ev2 Ks 90 (87, L, st) σ) ∧
  (∀ (l0 l2 l3 : Option Value) (st : List Value) (σ : ri_S) (x : Int32), ev2 Ks 90 (87, [l0, some (.int x), l2, l3], st) σ = ev2 Ks 90 (88, [l0, some (.int x), l2, l3], .int x :: st) σ) ∧
  (∀ (L : ri_L) (σ : ri_S) (x : Int32), ev2 Ks 90 (88, L, [.int x]) σ = some (some (.int x), σ)) ∧
  (∀ (l0 l2 l3 : Option Value) (st : List Value) (σ : ri_S) (x : Int32), ev2 Ks 90 (89, [l0, some (.int x), l2, l3], st) σ = ev2 Ks 90 (92, [ri_clr l0, some (.int (x + 1)), l2, l3], st) σ) ∧
  (∀ (l0 l1 l2 : Option Value) (st : List Value) (σ : ri_S) (x : Int32), ev2 Ks 90 (92, [l0, l1, l2, some (.int x)], st) σ = ev2 Ks 90 (95, [l0, l1, ri_clr l2, some (.int (x + 1))], st) σ) ∧
  (∀ (L : ri_L) (st : List Value) (σ : ri_S), ev2 Ks 90 (95, L, st) σ = ev2 Ks 90 (58, L, st) σ) ∧
  (∀ (L : ri_L) (st : List Value) (σ : ri_S), ev2 Ks 90 (98, L, st) σ = ev2 Ks 90 (24, L, st) σ) ∧
  (∀ (L : ri_L) (st : List Value) (σ : ri_S), ev2 Ks 90 (101, L, st) σ = ev2 Ks 90 (102, L, .int (-1) :: st) σ) ∧
  (∀ (L : ri_L) (σ : ri_S) (x : Int32), ev2 Ks 90 (102, L, [.int x]) σ = some (some (.int x), σ)) :=
  ⟨fun L σ x a st => eW_x ((TQ_90 _).trans rfl),
   fun l0 l2 l3 st σ x => eW_p ((TQ_90 _).trans rfl) rfl,
   fun L σ a0 a1 a2 => eW_callv ((TQ_90 _).trans rfl) rfl rfl rfl rfl,
   fun L st σ x => eW_b ((TQ_90 _).trans rfl) rfl,
   fun l0 l2 l3 st σ x => eW_p ((TQ_90 _).trans rfl) rfl,
   fun L σ x => eW_r ((TQ_90 _).trans rfl) rfl,
   fun l0 l2 l3 st σ x => eW_p ((TQ_90 _).trans rfl) rfl,
   fun l0 l1 l2 st σ x => eW_p ((TQ_90 _).trans rfl) rfl,
   fun L st σ => eW_p ((TQ_90 _).trans rfl) rfl,
   fun L st σ => eW_p ((TQ_90 _).trans rfl) rfl,
   fun L st σ => eW_p ((TQ_90 _).trans rfl) rfl,
   fun L σ x => eW_r ((TQ_90 _).trans rfl) rfl⟩
theorem TQ_91 (pc : Nat) : TT2 Ks 91 pc = ri_find (TL_91 ++ TX_91 Ks) pc := rfl
theorem F_91 (x0 : Int32) (σ : ri_S) : cal2 Ks 91 [.int x0] σ = ev2 Ks 91 (0, [some (.int x0)], []) σ := rfl
theorem J_91 :
  (∀ (st : List Value) (σ : ri_S) (x : Int32), ev2 Ks 91 (0, [some (.int x)], st) σ = ev2 Ks 91 (1, [some (.int x)], .int x :: st) σ) ∧
  (∀ (L : ri_L) (st : List Value) (σ : ri_S) (x : Int32), ev2 Ks 91 (1, L, .int x :: st) σ = if x = 102 then ev2 Ks 91 (102, L, st) σ else if x = 103 then ev2 Ks 91 (117, L, st) σ else if x = 104 then ev2 Ks 91 (111, L, st) σ else if x = 105 then ev2 Ks 91 (117, L, st) σ else if x = 106 then ev2 Ks 91 (108, L, st) σ else if x = 107 then ev2 Ks 91 (117, L, st) σ else if x = 108 then ev2 Ks 91 (99, L, st) σ else if x = 109 then ev2 Ks 91 (117, L, st) σ else if x = 110 then ev2 Ks 91 (117, L, st) σ else if x = 111 then ev2 Ks 91 (117, L, st) σ else if x = 112 then ev2 Ks 91 (117, L, st) σ else if x = 113 then ev2 Ks 91 (117, L, st) σ else if x = 114 then ev2 Ks 91 (117, L, st) σ else if x = 115 then ev2 Ks 91 (117, L, st) σ else if x = 116 then ev2 Ks 91 (114, L, st) σ else if x = 117 then ev2 Ks 91 (117, L, st) σ else if x = 118 then ev2 Ks 91 (117, L, st) σ else if x = 119 then ev2 Ks 91 (96, L, st) σ else if x = 120 then ev2 Ks 91 (117, L, st) σ else if x = 121 then ev2 Ks 91 (105, L, st) σ else ev2 Ks 91 (117, L, st) σ) ∧
  (∀ (L : ri_L) (st : List Value) (σ : ri_S), ev2 Ks 91 (96, L, st) σ = ev2 Ks 91 (98, L, .ref (Ks 0) :: st) σ) ∧
  (∀ (L : ri_L) (σ : ri_S) (x : Nat), ev2 Ks 91 (98, L, [.ref x]) σ = some (some (.ref x), σ)) ∧
  (∀ (L : ri_L) (st : List Value) (σ : ri_S), ev2 Ks 91 (99, L, st) σ = ev2 Ks 91 (101, L, .ref (Ks 1) :: st) σ) ∧
  (∀ (L : ri_L) (σ : ri_S) (x : Nat), ev2 Ks 91 (101, L, [.ref x]) σ = some (some (.ref x), σ)) ∧
  (∀ (L : ri_L) (st : List Value) (σ : ri_S), ev2 Ks 91 (102, L, st) σ = ev2 Ks 91 (104, L, .ref (Ks 2) :: st) σ) ∧
  (∀ (L : ri_L) (σ : ri_S) (x : Nat), ev2 Ks 91 (104, L, [.ref x]) σ = some (some (.ref x), σ)) ∧
  (∀ (L : ri_L) (st : List Value) (σ : ri_S), ev2 Ks 91 (105, L, st) σ = ev2 Ks 91 (107, L, .ref (Ks 2) :: st) σ) ∧
  (∀ (L : ri_L) (σ : ri_S) (x : Nat), ev2 Ks 91 (107, L, [.ref x]) σ = some (some (.ref x), σ)) ∧
  (∀ (L : ri_L) (st : List Value) (σ : ri_S), ev2 Ks 91 (108, L, st) σ = ev2 Ks 91 (110, L, .ref (Ks 3) :: st) σ) ∧
  (∀ (L : ri_L) (σ : ri_S) (x : Nat), ev2 Ks 91 (110, L, [.ref x]) σ = some (some (.ref x), σ)) ∧
  (∀ (L : ri_L) (st : List Value) (σ : ri_S), ev2 Ks 91 (111, L, st) σ = ev2 Ks 91 (113, L, .ref (Ks 4) :: st) σ) ∧
  (∀ (L : ri_L) (σ : ri_S) (x : Nat), ev2 Ks 91 (113, L, [.ref x]) σ = some (some (.ref x), σ)) ∧
  (∀ (L : ri_L) (st : List Value) (σ : ri_S), ev2 Ks 91 (114, L, st) σ = ev2 Ks 91 (116, L, .ref (Ks 5) :: st) σ) ∧
  (∀ (L : ri_L) (σ : ri_S) (x : Nat), ev2 Ks 91 (116, L, [.ref x]) σ = some (some (.ref x), σ)) ∧
  (∀ (L : ri_L) (st : List Value) (σ : ri_S), ev2 Ks 91 (117, L, st) σ = ev2 Ks 91 (119, L, .ref (Ks 6) :: st) σ) ∧
  (∀ (L : ri_L) (σ : ri_S) (x : Nat), ev2 Ks 91 (119, L, [.ref x]) σ = some (some (.ref x), σ)) :=
  ⟨fun st σ x => eW_p ((TQ_91 _).trans rfl) rfl,
   fun L st σ x => (eW_sw (lo := 102) (ts := [102, 117, 111, 117, 108, 117, 99, 117, 117, 117, 117, 117, 117, 117, 114, 117, 117, 96, 117, 105]) (d := 117) ((TQ_91 _).trans rfl)).trans (by simp only [eW_tab, eW_tab0, show (102 : Int32) + 1 = 103 from rfl, show (103 : Int32) + 1 = 104 from rfl, show (104 : Int32) + 1 = 105 from rfl, show (105 : Int32) + 1 = 106 from rfl, show (106 : Int32) + 1 = 107 from rfl, show (107 : Int32) + 1 = 108 from rfl, show (108 : Int32) + 1 = 109 from rfl, show (109 : Int32) + 1 = 110 from rfl, show (110 : Int32) + 1 = 111 from rfl, show (111 : Int32) + 1 = 112 from rfl, show (112 : Int32) + 1 = 113 from rfl, show (113 : Int32) + 1 = 114 from rfl, show (114 : Int32) + 1 = 115 from rfl, show (115 : Int32) + 1 = 116 from rfl, show (116 : Int32) + 1 = 117 from rfl, show (117 : Int32) + 1 = 118 from rfl, show (118 : Int32) + 1 = 119 from rfl, show (119 : Int32) + 1 = 120 from rfl, show (120 : Int32) + 1 = 121 from rfl, show (121 : Int32) + 1 = 122 from rfl]),
   fun L st σ => eW_p ((TQ_91 _).trans rfl) rfl,
   fun L σ x => eW_r ((TQ_91 _).trans rfl) rfl,
   fun L st σ => eW_p ((TQ_91 _).trans rfl) rfl,
   fun L σ x => eW_r ((TQ_91 _).trans rfl) rfl,
   fun L st σ => eW_p ((TQ_91 _).trans rfl) rfl,
   fun L σ x => eW_r ((TQ_91 _).trans rfl) rfl,
   fun L st σ => eW_p ((TQ_91 _).trans rfl) rfl,
   fun L σ x => eW_r ((TQ_91 _).trans rfl) rfl,
   fun L st σ => eW_p ((TQ_91 _).trans rfl) rfl,
   fun L σ x => eW_r ((TQ_91 _).trans rfl) rfl,
   fun L st σ => eW_p ((TQ_91 _).trans rfl) rfl,
   fun L σ x => eW_r ((TQ_91 _).trans rfl) rfl,
   fun L st σ => eW_p ((TQ_91 _).trans rfl) rfl,
   fun L σ x => eW_r ((TQ_91 _).trans rfl) rfl,
   fun L st σ => eW_p ((TQ_91 _).trans rfl) rfl,
   fun L σ x => eW_r ((TQ_91 _).trans rfl) rfl⟩
theorem TQ_93 (pc : Nat) : TT2 Ks 93 pc = ri_find (TL_93 ++ TX_93 Ks) pc := rfl
theorem F_93 (x0 : Nat) (x1 : Nat) (σ : ri_S) : cal2 Ks 93 [.ref x0, .ref x1] σ = ev2 Ks 93 (0, [some (.ref x0), some (.ref x1), none, none], []) σ := rfl
theorem G_93_4 (l0 l1 l2 : Option Value) (st : List Value) (σ : ri_S) (x : Int32) : ev2 Ks 93 (4, [l0, l1, l2, some (.int x)], st) σ = ev2 Ks 93 (5, [l0, l1, l2, some (.int x)], .int x :: st) σ := eW_p ((TQ_93 _).trans rfl) rfl
theorem J_93 :
  (∀ (L : ri_L) (st : List Value) (σ : ri_S), ev2 Ks 93 (0, L, st) σ = ev2 Ks 93 (1, L, .int 0 :: st) σ) ∧
  (∀ (l0 l1 l2 l3 : Option Value) (st : List Value) (σ : ri_S) (x : Int32), ev2 Ks 93 (1, [l0, l1, l2, l3], .int x :: st) σ = ev2 Ks 93 (2, [l0, ri_clr l1, some (.int x), l3], st) σ) ∧
  (∀ (L : ri_L) (st : List Value) (σ : ri_S), ev2 Ks 93 (2, L, st) σ = ev2 Ks 93 (3, L, .int 1 :: st) σ) ∧
  (∀ (l0 l1 l2 l3 : Option Value) (st : List Value) (σ : ri_S) (x : Int32), ev2 Ks 93 (3, [l0, l1, l2, l3], .int x :: st) σ = ev2 Ks 93 (4, [l0, l1, ri_clr l2, some (.int x)], st) σ) ∧
  (∀ (l1 l2 l3 : Option Value) (st : List Value) (σ : ri_S) (x : Nat), ev2 Ks 93 (5, [some (.ref x), l1, l2, l3], st) σ = ev2 Ks 93 (6, [some (.ref x), l1, l2, l3], .ref x :: st) σ) ∧
  (∀ (L : ri_L) (st : List Value) (σ : ri_S) (a : Nat), ev2 Ks 93 (6, L, .ref a :: st) σ = tv_o 6 1 (σ.1 a) fun v => ev2 Ks 93 (9, L, v :: st) σ) ∧
  (∀ (L : ri_L) (st : List Value) (σ : ri_S) (x y : Int32), ev2 Ks 93 (9, L, .int y :: .int x :: st) σ = if y ≤ x then ev2 Ks 93 (46, L, st) σ else ev2 Ks 93 (12, L, st) σ) ∧
  (∀ (l1 l2 l3 : Option Value) (st : List Value) (σ : ri_S) (x : Nat), ev2 Ks 93 (12, [some (.ref x), l1, l2, l3], st) σ = ev2 Ks 93 (13, [some (.ref x), l1, l2, l3], .ref x :: st) σ) ∧
  (∀ (l0 l2 l3 : Option Value) (st : List Value) (σ : ri_S) (x : Nat), ev2 Ks 93 (13, [l0, some (.ref x), l2, l3], st) σ = ev2 Ks 93 (14, [l0, some (.ref x), l2, l3], .ref x :: st) σ) ∧
  (∀ (l0 l1 l2 : Option Value) (st : List Value) (σ : ri_S) (x : Int32), ev2 Ks 93 (14, [l0, l1, l2, some (.int x)], st) σ = ev2 Ks 93 (15, [l0, l1, l2, some (.int x)], .int x :: st) σ) ∧
  (∀ (L : ri_L) (σ : ri_S) (a0 : Nat) (a1 : Nat) (a2 : Int32), ev2 Ks 93 (15, L, [.int a2, .ref a1, .ref a0]) σ = tv_k 6 (σ.1 a0) ((cal2 Ks 94 [.ref a0, .ref a1, .int a2] σ).bind fun q => ev2 Ks 93 (18, L, q.1.toList ++ []) q.2)) ∧
  (∀ (L : ri_L) (st : List Value) (σ : ri_S) (x : Int32), ev2 Ks 93 (18, L, .int x :: st) σ = if ¬ x = 0 then ev2 Ks 93 (24, L, st) σ else ev2 Ks 93 (21, L, st) σ) ∧
  (∀ (l0 l1 l3 : Option Value) (st : List Value) (σ : ri_S) (x : Int32), ev2 Ks 93 (21, [l0, l1, some (.int x), l3], st) σ = ev2 Ks 93 (24, [l0, ri_clr l1, some (.int (x + 1)), l3], st) σ) ∧
  (∀ (l0 l1 l2 : Option Value) (st : List Value) (σ : ri_S) (x : Int32), ev2 Ks 93 (24, [l0, l1, l2, some (.int x)], st) σ = ev2 Ks 93 (25, [l0, l1, l2, some (.int x)], .int x :: st) σ) ∧
  (∀ (L : ri_L) (st : List Value) (σ : ri_S), ev2 Ks 93 (25, L, st) σ = ev2 Ks 93 (26, L, .int 1 :: st) σ) ∧
  (∀ (l1 l2 l3 : Option Value) (st : List Value) (σ : ri_S) (x : Nat), ev2 Ks 93 (26, [some (.ref x), l1, l2, l3], st) σ = ev2 Ks 93 (27, [some (.ref x), l1, l2, l3], .ref x :: st) σ) ∧
  (∀ (L : ri_L) (st : List Value) (σ : ri_S) (a : Nat), ev2 Ks 93 (27, L, .ref a :: st) σ = tv_o 6 0 (σ.1 a) fun v => ev2 Ks 93 (30, L, v :: st) σ) ∧
  (∀ (l0 l1 l2 : Option Value) (st : List Value) (σ : ri_S) (x : Int32), ev2 Ks 93 (30, [l0, l1, l2, some (.int x)], st) σ = ev2 Ks 93 (31, [l0, l1, l2, some (.int x)], .int x :: st) σ) ∧
  (∀ (L : ri_L) (σ : ri_S) (a0 : Nat) (a1 : Int32) (s0 s1 : Value), ev2 Ks 93 (31, L, [.int a1, .ref a0, s0, s1]) σ = (cal2 Ks 140 [.ref a0, .int a1] σ).bind fun q => ev2 Ks 93 (34, L, q.1.toList ++ [s0, s1]) q.2) ∧
  (∀ (L : ri_L) (σ : ri_S) (a0 : Int32) (s0 s1 : Value), ev2 Ks 93 (34, L, [.int a0, s0, s1]) σ = (cal2 Ks 91 [.int a0] σ).bind fun q => ev2 Ks 93 (37, L, q.1.toList ++ [s0, s1]) q.2) ∧
  (∀ (L : ri_L) (σ : ri_S) (a : Nat) (st : List Value), ev2 Ks 93 (37, L, .ref a :: st) σ = (ri_sln Ks (37, L, .ref a :: st)).bind fun fr => ev2 Ks 93 fr σ) ∧
  (∀ (L : ri_L) (st : List Value) (σ : ri_S) (x y : Int32), ev2 Ks 93 (40, L, .int y :: .int x :: st) σ = ev2 Ks 93 (41, L, .int (x + y) :: st) σ) ∧
  (∀ (L : ri_L) (st : List Value) (σ : ri_S) (x y : Int32), ev2 Ks 93 (41, L, .int y :: .int x :: st) σ = ev2 Ks 93 (42, L, .int (x + y) :: st) σ) ∧
  (∀ (l0 l1 l2 l3 : Option Value) (st : List Value) (σ : ri_S) (x : Int32), ev2 Ks 93 (42, [l0, l1, l2, l3], .int x :: st) σ = ev2 Ks 93 (43, [l0, l1, ri_clr l2, some (.int x)], st) σ) ∧
  (∀ (L : ri_L) (st : List Value) (σ : ri_S), ev2 Ks 93 (43, L, st) σ = ev2 Ks 93 (4, L, st) σ) ∧
  (∀ (l0 l1 l3 : Option Value) (st : List Value) (σ : ri_S) (x : Int32), ev2 Ks 93 (46, [l0, l1, some (.int x), l3], st) σ = ev2 Ks 93 (47, [l0, l1, some (.int x), l3], .int x :: st) σ) ∧
  (∀ (L : ri_L) (σ : ri_S) (x : Int32), ev2 Ks 93 (47, L, [.int x]) σ = some (some (.int x), σ)) :=
  ⟨fun L st σ => eW_p ((TQ_93 _).trans rfl) rfl,
   fun l0 l1 l2 l3 st σ x => eW_p ((TQ_93 _).trans rfl) rfl,
   fun L st σ => eW_p ((TQ_93 _).trans rfl) rfl,
   fun l0 l1 l2 l3 st σ x => eW_p ((TQ_93 _).trans rfl) rfl,
   fun l1 l2 l3 st σ x => eW_p ((TQ_93 _).trans rfl) rfl,
   fun L st σ a => eW_getf ((TQ_93 _).trans rfl),
   fun L st σ x y => eW_b ((TQ_93 _).trans rfl) rfl,
   fun l1 l2 l3 st σ x => eW_p ((TQ_93 _).trans rfl) rfl,
   fun l0 l2 l3 st σ x => eW_p ((TQ_93 _).trans rfl) rfl,
   fun l0 l1 l2 st σ x => eW_p ((TQ_93 _).trans rfl) rfl,
   fun L σ a0 a1 a2 => eW_callv ((TQ_93 _).trans rfl) rfl rfl rfl rfl,
   fun L st σ x => eW_b ((TQ_93 _).trans rfl) rfl,
   fun l0 l1 l3 st σ x => eW_p ((TQ_93 _).trans rfl) rfl,
   fun l0 l1 l2 st σ x => eW_p ((TQ_93 _).trans rfl) rfl,
   fun L st σ => eW_p ((TQ_93 _).trans rfl) rfl,
   fun l1 l2 l3 st σ x => eW_p ((TQ_93 _).trans rfl) rfl,
   fun L st σ a => eW_getf ((TQ_93 _).trans rfl),
   fun l0 l1 l2 st σ x => eW_p ((TQ_93 _).trans rfl) rfl,
   fun L σ a0 a1 s0 s1 => eW_call ((TQ_93 _).trans rfl) rfl rfl rfl rfl,
   fun L σ a0 s0 s1 => eW_call ((TQ_93 _).trans rfl) rfl rfl rfl rfl,
   fun L σ a st => eW_x ((TQ_93 _).trans rfl),
   fun L st σ x y => eW_p ((TQ_93 _).trans rfl) rfl,
   fun L st σ x y => eW_p ((TQ_93 _).trans rfl) rfl,
   fun l0 l1 l2 l3 st σ x => eW_p ((TQ_93 _).trans rfl) rfl,
   fun L st σ => eW_p ((TQ_93 _).trans rfl) rfl,
   fun l0 l1 l3 st σ x => eW_p ((TQ_93 _).trans rfl) rfl,
   fun L σ x => eW_r ((TQ_93 _).trans rfl) rfl⟩
theorem TQ_111 (pc : Nat) : TT2 Ks 111 pc = ri_find (TL_111 ++ []) pc := rfl
theorem F_111 (x0 : Nat) (σ : ri_S) : cal2 Ks 111 [.ref x0] σ = ev2 Ks 111 (0, [some (.ref x0)], []) σ := rfl
theorem J_111 :
  (∀ (st : List Value) (σ : ri_S) (x : Nat), ev2 Ks 111 (0, [some (.ref x)], st) σ = ev2 Ks 111 (1, [some (.ref x)], .ref x :: st) σ) ∧
  (∀ (L : ri_L) (st : List Value) (σ : ri_S) (a : Nat), ev2 Ks 111 (1, L, .ref a :: st) σ = tv_o 8 0 (σ.1 a) fun v => ev2 Ks 111 (4, L, v :: st) σ) ∧
  (∀ (L : ri_L) (σ : ri_S) (a0 : Nat), ev2 Ks 111 (4, L, [.ref a0]) σ = tv_k 6 (σ.1 a0) ((cal2 Ks 90 [.ref a0] σ).bind fun q => ev2 Ks 111 (7, L, q.1.toList ++ []) q.2)) ∧
  (∀ (L : ri_L) (σ : ri_S) (x : Int32), ev2 Ks 111 (7, L, [.int x]) σ = some (some (.int x), σ)) :=
  ⟨fun st σ x => eW_p ((TQ_111 _).trans rfl) rfl,
   fun L st σ a => eW_getf ((TQ_111 _).trans rfl),
   fun L σ a0 => eW_callv ((TQ_111 _).trans rfl) rfl rfl rfl rfl,
   fun L σ x => eW_r ((TQ_111 _).trans rfl) rfl⟩
theorem TQ_112 (pc : Nat) : TT2 Ks 112 pc = ri_find (TL_112 ++ []) pc := rfl
theorem F_112 (x0 : Nat) (σ : ri_S) : cal2 Ks 112 [.ref x0] σ = ev2 Ks 112 (0, [some (.ref x0)], []) σ := rfl
theorem J_112 :
  (∀ (st : List Value) (σ : ri_S) (x : Nat), ev2 Ks 112 (0, [some (.ref x)], st) σ = ev2 Ks 112 (1, [some (.ref x)], .ref x :: st) σ) ∧
  (∀ (L : ri_L) (st : List Value) (σ : ri_S) (a : Nat), ev2 Ks 112 (1, L, .ref a :: st) σ = tv_o 8 0 (σ.1 a) fun v => ev2 Ks 112 (4, L, v :: st) σ) ∧
  (∀ (L : ri_L) (σ : ri_S) (a0 : Nat), ev2 Ks 112 (4, L, [.ref a0]) σ = tv_k 6 (σ.1 a0) ((cal2 Ks 90 [.ref a0] σ).bind fun q => ev2 Ks 112 (7, L, q.1.toList ++ []) q.2)) ∧
  (∀ (L : ri_L) (st : List Value) (σ : ri_S), ev2 Ks 112 (7, L, st) σ = ev2 Ks 112 (8, L, .int (-1) :: st) σ) ∧
  (∀ (L : ri_L) (st : List Value) (σ : ri_S) (x y : Int32), ev2 Ks 112 (8, L, .int y :: .int x :: st) σ = if ¬ x = y then ev2 Ks 112 (15, L, st) σ else ev2 Ks 112 (11, L, st) σ) ∧
  (∀ (L : ri_L) (st : List Value) (σ : ri_S), ev2 Ks 112 (11, L, st) σ = ev2 Ks 112 (12, L, .int 0 :: st) σ) ∧
  (∀ (L : ri_L) (st : List Value) (σ : ri_S), ev2 Ks 112 (12, L, st) σ = ev2 Ks 112 (16, L, st) σ) ∧
  (∀ (L : ri_L) (st : List Value) (σ : ri_S), ev2 Ks 112 (15, L, st) σ = ev2 Ks 112 (16, L, .int 3 :: st) σ) ∧
  (∀ (L : ri_L) (σ : ri_S) (a0 : Int32), ev2 Ks 112 (16, L, [.int a0]) σ = (cal2 Ks 135 [.int a0] σ).bind fun q => ev2 Ks 112 (19, L, q.1.toList ++ []) q.2) ∧
  (∀ (st : List Value) (σ : ri_S) (x : Nat), ev2 Ks 112 (19, [some (.ref x)], st) σ = ev2 Ks 112 (20, [some (.ref x)], .ref x :: st) σ) ∧
  (∀ (L : ri_L) (st : List Value) (σ : ri_S) (a : Nat), ev2 Ks 112 (20, L, .ref a :: st) σ = tv_o 8 3 (σ.1 a) fun v => ev2 Ks 112 (23, L, v :: st) σ) ∧
  (∀ (L : ri_L) (σ : ri_S) (a0 : Nat), ev2 Ks 112 (23, L, [.ref a0]) σ = tv_k 1 (σ.1 a0) ((cal2 Ks 9 [.ref a0] σ).bind fun q => ev2 Ks 112 (26, L, q.1.toList ++ []) q.2)) ∧
  (∀ (st : List Value) (σ : ri_S) (x : Nat), ev2 Ks 112 (26, [some (.ref x)], st) σ = ev2 Ks 112 (27, [some (.ref x)], .ref x :: st) σ) ∧
  (∀ (L : ri_L) (st : List Value) (σ : ri_S) (a : Nat), ev2 Ks 112 (27, L, .ref a :: st) σ = tv_o 8 4 (σ.1 a) fun v => ev2 Ks 112 (30, L, v :: st) σ) ∧
  (∀ (L : ri_L) (σ : ri_S) (a0 : Nat), ev2 Ks 112 (30, L, [.ref a0]) σ = tv_k 5 (σ.1 a0) ((cal2 Ks 83 [.ref a0] σ).bind fun q => ev2 Ks 112 (33, L, q.1.toList ++ []) q.2)) ∧
  (∀ (st : List Value) (σ : ri_S) (x : Nat), ev2 Ks 112 (33, [some (.ref x)], st) σ = ev2 Ks 112 (34, [some (.ref x)], .ref x :: st) σ) ∧
  (∀ (L : ri_L) (st : List Value) (σ : ri_S) (a : Nat), ev2 Ks 112 (34, L, .ref a :: st) σ = tv_o 8 1 (σ.1 a) fun v => ev2 Ks 112 (37, L, v :: st) σ) ∧
  (∀ (L : ri_L) (σ : ri_S) (a0 : Nat), ev2 Ks 112 (37, L, [.ref a0]) σ = tv_k 3 (σ.1 a0) ((cal2 Ks 21 [.ref a0] σ).bind fun q => ev2 Ks 112 (40, L, q.1.toList ++ []) q.2)) ∧
  (∀ (st : List Value) (σ : ri_S) (x : Nat), ev2 Ks 112 (40, [some (.ref x)], st) σ = ev2 Ks 112 (41, [some (.ref x)], .ref x :: st) σ) ∧
  (∀ (L : ri_L) (st : List Value) (σ : ri_S) (a : Nat), ev2 Ks 112 (41, L, .ref a :: st) σ = tv_o 8 0 (σ.1 a) fun v => ev2 Ks 112 (44, L, v :: st) σ) ∧
  (∀ (st : List Value) (σ : ri_S) (x : Nat), ev2 Ks 112 (44, [some (.ref x)], st) σ = ev2 Ks 112 (45, [some (.ref x)], .ref x :: st) σ) ∧
  (∀ (L : ri_L) (st : List Value) (σ : ri_S) (a : Nat), ev2 Ks 112 (45, L, .ref a :: st) σ = tv_o 8 1 (σ.1 a) fun v => ev2 Ks 112 (48, L, v :: st) σ) ∧
  (∀ (L : ri_L) (σ : ri_S) (a0 : Nat) (a1 : Nat), ev2 Ks 112 (48, L, [.ref a1, .ref a0]) σ = tv_k 6 (σ.1 a0) ((cal2 Ks 93 [.ref a0, .ref a1] σ).bind fun q => ev2 Ks 112 (51, L, q.1.toList ++ []) q.2)) ∧
  (∀ (L : ri_L) (σ : ri_S) (x : Int32), ev2 Ks 112 (51, L, [.int x]) σ = some (some (.int x), σ)) :=
  ⟨fun st σ x => eW_p ((TQ_112 _).trans rfl) rfl,
   fun L st σ a => eW_getf ((TQ_112 _).trans rfl),
   fun L σ a0 => eW_callv ((TQ_112 _).trans rfl) rfl rfl rfl rfl,
   fun L st σ => eW_p ((TQ_112 _).trans rfl) rfl,
   fun L st σ x y => eW_b ((TQ_112 _).trans rfl) rfl,
   fun L st σ => eW_p ((TQ_112 _).trans rfl) rfl,
   fun L st σ => eW_p ((TQ_112 _).trans rfl) rfl,
   fun L st σ => eW_p ((TQ_112 _).trans rfl) rfl,
   fun L σ a0 => eW_call ((TQ_112 _).trans rfl) rfl rfl rfl rfl,
   fun st σ x => eW_p ((TQ_112 _).trans rfl) rfl,
   fun L st σ a => eW_getf ((TQ_112 _).trans rfl),
   fun L σ a0 => eW_callv ((TQ_112 _).trans rfl) rfl rfl rfl rfl,
   fun st σ x => eW_p ((TQ_112 _).trans rfl) rfl,
   fun L st σ a => eW_getf ((TQ_112 _).trans rfl),
   fun L σ a0 => eW_callv ((TQ_112 _).trans rfl) rfl rfl rfl rfl,
   fun st σ x => eW_p ((TQ_112 _).trans rfl) rfl,
   fun L st σ a => eW_getf ((TQ_112 _).trans rfl),
   fun L σ a0 => eW_callv ((TQ_112 _).trans rfl) rfl rfl rfl rfl,
   fun st σ x => eW_p ((TQ_112 _).trans rfl) rfl,
   fun L st σ a => eW_getf ((TQ_112 _).trans rfl),
   fun st σ x => eW_p ((TQ_112 _).trans rfl) rfl,
   fun L st σ a => eW_getf ((TQ_112 _).trans rfl),
   fun L σ a0 a1 => eW_callv ((TQ_112 _).trans rfl) rfl rfl rfl rfl,
   fun L σ x => eW_r ((TQ_112 _).trans rfl) rfl⟩
end ROWS2
