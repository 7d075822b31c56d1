/-! How each method reads on. -/
theorem TP_0 (pc : Nat) : TT 0 pc = ri_find TL_0 pc := rfl
theorem E_0 (x0 : Nat) (σ : ri_S) : cal 0 [.ref x0] σ = ev 0 (0, [some (.ref x0)], []) σ := rfl
theorem I_0 :
  (∀ (st : List Value) (σ : ri_S) (x : Nat), ev 0 (0, [some (.ref x)], st) σ = ev 0 (1, [some (.ref x)], .ref x :: st) σ) ∧
  (∀ (L : ri_L) (σ : ri_S) (a : Nat), ev 0 (1, L, [.ref a]) σ = ev 0 (4, L, []) σ) ∧
  (∀ (st : List Value) (σ : ri_S) (x : Nat), ev 0 (4, [some (.ref x)], st) σ = ev 0 (5, [some (.ref x)], .ref x :: st) σ) ∧
  (∀ (L : ri_L) (st : List Value) (σ : ri_S), ev 0 (5, L, st) σ = ev 0 (6, L, .int 0 :: st) σ) ∧
  (∀ (L : ri_L) (st : List Value) (σ : ri_S) (a : Nat) (x : Int32), ev 0 (6, L, .int x :: .ref a :: st) σ = tv_w 0 0 (σ.1 a) (.int x) fun fs => ev 0 (9, L, st) (ri_upd σ.1 a (.inr (.inr (0, fs))), σ.2)) ∧
  (∀ (st : List Value) (σ : ri_S) (x : Nat), ev 0 (9, [some (.ref x)], st) σ = ev 0 (10, [some (.ref x)], .ref x :: st) σ) ∧
  (∀ (L : ri_L) (st : List Value) (σ : ri_S), ev 0 (10, L, st) σ = ev 0 (11, L, .int 5 :: st) σ) ∧
  (∀ (L : ri_L) (st : List Value) (σ : ri_S) (n : Int32), ev 0 (11, L, .int n :: st) σ = if n < 0 ∨ 2000 < n.toNatClampNeg then none else ev 0 (13, L, .ref σ.2 :: st) (ri_upd σ.1 σ.2 (.inl (0, n.toNatClampNeg, fun _ => 0)), σ.2 + 1)) ∧
  (∀ (L : ri_L) (st : List Value) (σ : ri_S) (a : Nat) (x : Nat), ev 0 (13, L, .ref x :: .ref a :: st) σ = tv_w 0 1 (σ.1 a) (.ref x) fun fs => ev 0 (16, L, st) (ri_upd σ.1 a (.inr (.inr (0, fs))), σ.2)) ∧
  (∀ (st : List Value) (σ : ri_S) (x : Nat), ev 0 (16, [some (.ref x)], st) σ = ev 0 (17, [some (.ref x)], .ref x :: st) σ) ∧
  (∀ (L : ri_L) (st : List Value) (σ : ri_S), ev 0 (17, L, st) σ = ev 0 (18, L, .int 5 :: st) σ) ∧
  (∀ (L : ri_L) (st : List Value) (σ : ri_S) (n : Int32), ev 0 (18, L, .int n :: st) σ = if n < 0 ∨ 2000 < n.toNatClampNeg then none else ev 0 (20, L, .ref σ.2 :: st) (ri_upd σ.1 σ.2 (.inl (0, n.toNatClampNeg, fun _ => 0)), σ.2 + 1)) ∧
  (∀ (L : ri_L) (st : List Value) (σ : ri_S) (a : Nat) (x : Nat), ev 0 (20, L, .ref x :: .ref a :: st) σ = tv_w 0 2 (σ.1 a) (.ref x) fun fs => ev 0 (23, L, st) (ri_upd σ.1 a (.inr (.inr (0, fs))), σ.2)) ∧
  (∀ (st : List Value) (σ : ri_S) (x : Nat), ev 0 (23, [some (.ref x)], st) σ = ev 0 (24, [some (.ref x)], .ref x :: st) σ) ∧
  (∀ (L : ri_L) (st : List Value) (σ : ri_S), ev 0 (24, L, st) σ = ev 0 (25, L, .int 5 :: st) σ) ∧
  (∀ (L : ri_L) (st : List Value) (σ : ri_S) (n : Int32), ev 0 (25, L, .int n :: st) σ = if n < 0 ∨ 2000 < n.toNatClampNeg then none else ev 0 (27, L, .ref σ.2 :: st) (ri_upd σ.1 σ.2 (.inl (0, n.toNatClampNeg, fun _ => 0)), σ.2 + 1)) ∧
  (∀ (L : ri_L) (st : List Value) (σ : ri_S) (a : Nat) (x : Nat), ev 0 (27, L, .ref x :: .ref a :: st) σ = tv_w 0 3 (σ.1 a) (.ref x) fun fs => ev 0 (30, L, st) (ri_upd σ.1 a (.inr (.inr (0, fs))), σ.2)) ∧
  (∀ (st : List Value) (σ : ri_S) (x : Nat), ev 0 (30, [some (.ref x)], st) σ = ev 0 (31, [some (.ref x)], .ref x :: st) σ) ∧
  (∀ (L : ri_L) (st : List Value) (σ : ri_S), ev 0 (31, L, st) σ = ev 0 (32, L, .int 5 :: st) σ) ∧
  (∀ (L : ri_L) (st : List Value) (σ : ri_S) (n : Int32), ev 0 (32, L, .int n :: st) σ = if n < 0 ∨ 2000 < n.toNatClampNeg then none else ev 0 (34, L, .ref σ.2 :: st) (ri_upd σ.1 σ.2 (.inl (0, n.toNatClampNeg, fun _ => 0)), σ.2 + 1)) ∧
  (∀ (L : ri_L) (st : List Value) (σ : ri_S) (a : Nat) (x : Nat), ev 0 (34, L, .ref x :: .ref a :: st) σ = tv_w 0 4 (σ.1 a) (.ref x) fun fs => ev 0 (37, L, st) (ri_upd σ.1 a (.inr (.inr (0, fs))), σ.2)) ∧
  (∀ (st : List Value) (σ : ri_S) (x : Nat), ev 0 (37, [some (.ref x)], st) σ = ev 0 (38, [some (.ref x)], .ref x :: st) σ) ∧
  (∀ (L : ri_L) (st : List Value) (σ : ri_S), ev 0 (38, L, st) σ = ev 0 (39, L, .int 5 :: st) σ) ∧
  (∀ (L : ri_L) (st : List Value) (σ : ri_S) (n : Int32), ev 0 (39, L, .int n :: st) σ = if n < 0 ∨ 2000 < n.toNatClampNeg then none else ev 0 (41, L, .ref σ.2 :: st) (ri_upd σ.1 σ.2 (.inl (0, n.toNatClampNeg, fun _ => 0)), σ.2 + 1)) ∧
  (∀ (L : ri_L) (st : List Value) (σ : ri_S) (a : Nat) (x : Nat), ev 0 (41, L, .ref x :: .ref a :: st) σ = tv_w 0 5 (σ.1 a) (.ref x) fun fs => ev 0 (44, L, st) (ri_upd σ.1 a (.inr (.inr (0, fs))), σ.2)) ∧
  (∀ (L : ri_L) (σ : ri_S), ev 0 (44, L, []) σ = some (none, σ)) :=
  ⟨fun st σ x => ev_p ((TP_0 _).trans rfl) rfl,
   fun L σ a => ev_p ((TP_0 _).trans rfl) rfl,
   fun st σ x => ev_p ((TP_0 _).trans rfl) rfl,
   fun L st σ => ev_p ((TP_0 _).trans rfl) rfl,
   fun L st σ a x => ev_puti ((TP_0 _).trans rfl),
   fun st σ x => ev_p ((TP_0 _).trans rfl) rfl,
   fun L st σ => ev_p ((TP_0 _).trans rfl) rfl,
   fun L st σ n => ev_newa ((TP_0 _).trans rfl),
   fun L st σ a x => ev_putr ((TP_0 _).trans rfl),
   fun st σ x => ev_p ((TP_0 _).trans rfl) rfl,
   fun L st σ => ev_p ((TP_0 _).trans rfl) rfl,
   fun L st σ n => ev_newa ((TP_0 _).trans rfl),
   fun L st σ a x => ev_putr ((TP_0 _).trans rfl),
   fun st σ x => ev_p ((TP_0 _).trans rfl) rfl,
   fun L st σ => ev_p ((TP_0 _).trans rfl) rfl,
   fun L st σ n => ev_newa ((TP_0 _).trans rfl),
   fun L st σ a x => ev_putr ((TP_0 _).trans rfl),
   fun st σ x => ev_p ((TP_0 _).trans rfl) rfl,
   fun L st σ => ev_p ((TP_0 _).trans rfl) rfl,
   fun L st σ n => ev_newa ((TP_0 _).trans rfl),
   fun L st σ a x => ev_putr ((TP_0 _).trans rfl),
   fun st σ x => ev_p ((TP_0 _).trans rfl) rfl,
   fun L st σ => ev_p ((TP_0 _).trans rfl) rfl,
   fun L st σ n => ev_newa ((TP_0 _).trans rfl),
   fun L st σ a x => ev_putr ((TP_0 _).trans rfl),
   fun L σ => ev_r ((TP_0 _).trans rfl) rfl⟩
theorem TP_1 (pc : Nat) : TT 1 pc = ri_find TL_1 pc := rfl
theorem E_1 (x0 : Nat) (x1 : Int32) (σ : ri_S) : cal 1 [.ref x0, .int x1] σ = ev 1 (0, [some (.ref x0), some (.int x1)], []) σ := rfl
theorem I_1 :
  (∀ (l0 : Option Value) (st : List Value) (σ : ri_S) (x : Int32), ev 1 (0, [l0, some (.int x)], st) σ = ev 1 (1, [l0, some (.int x)], .int x :: st) σ) ∧
  (∀ (L : ri_L) (st : List Value) (σ : ri_S) (x : Int32), ev 1 (1, L, .int x :: st) σ = if x < 0 then ev 1 (16, L, st) σ else ev 1 (4, L, st) σ) ∧
  (∀ (l0 : Option Value) (st : List Value) (σ : ri_S) (x : Int32), ev 1 (4, [l0, some (.int x)], st) σ = ev 1 (5, [l0, some (.int x)], .int x :: st) σ) ∧
  (∀ (l1 : Option Value) (st : List Value) (σ : ri_S) (x : Nat), ev 1 (5, [some (.ref x), l1], st) σ = ev 1 (6, [some (.ref x), l1], .ref x :: st) σ) ∧
  (∀ (L : ri_L) (st : List Value) (σ : ri_S) (a : Nat), ev 1 (6, L, .ref a :: st) σ = tv_o 0 0 (σ.1 a) fun v => ev 1 (9, L, v :: st) σ) ∧
  (∀ (L : ri_L) (st : List Value) (σ : ri_S) (x y : Int32), ev 1 (9, L, .int y :: .int x :: st) σ = if y ≤ x then ev 1 (16, L, st) σ else ev 1 (12, L, st) σ) ∧
  (∀ (L : ri_L) (st : List Value) (σ : ri_S), ev 1 (12, L, st) σ = ev 1 (13, L, .int 1 :: st) σ) ∧
  (∀ (L : ri_L) (st : List Value) (σ : ri_S), ev 1 (13, L, st) σ = ev 1 (17, L, st) σ) ∧
  (∀ (L : ri_L) (st : List Value) (σ : ri_S), ev 1 (16, L, st) σ = ev 1 (17, L, .int 0 :: st) σ) ∧
  (∀ (L : ri_L) (σ : ri_S) (x : Int32), ev 1 (17, L, [.int x]) σ = tv_b x (some (some (.int x), σ))) :=
  ⟨fun l0 st σ x => ev_p ((TP_1 _).trans rfl) rfl,
   fun L st σ x => ev_b ((TP_1 _).trans rfl) rfl,
   fun l0 st σ x => ev_p ((TP_1 _).trans rfl) rfl,
   fun l1 st σ x => ev_p ((TP_1 _).trans rfl) rfl,
   fun L st σ a => ev_getf ((TP_1 _).trans rfl),
   fun L st σ x y => ev_b ((TP_1 _).trans rfl) rfl,
   fun L st σ => ev_p ((TP_1 _).trans rfl) rfl,
   fun L st σ => ev_p ((TP_1 _).trans rfl) rfl,
   fun L st σ => ev_p ((TP_1 _).trans rfl) rfl,
   fun L σ x => ev_r ((TP_1 _).trans rfl) rfl⟩
theorem TP_2 (pc : Nat) : TT 2 pc = ri_find TL_2 pc := rfl
theorem E_2 (x0 : Nat) (x1 : Int32) (x2 : Int32) (x3 : Int32) (σ : ri_S) : cal 2 [.ref x0, .int x1, .int x2, .int x3] σ = ev 2 (0, [some (.ref x0), some (.int x1), some (.int x2), some (.int x3), none], []) σ := rfl
theorem I_2 :
  (∀ (l1 l2 l3 l4 : Option Value) (st : List Value) (σ : ri_S) (x : Nat), ev 2 (0, [some (.ref x), l1, l2, l3, l4], st) σ = ev 2 (1, [some (.ref x), l1, l2, l3, l4], .ref x :: st) σ) ∧
  (∀ (L : ri_L) (st : List Value) (σ : ri_S) (a : Nat), ev 2 (1, L, .ref a :: st) σ = tv_o 0 0 (σ.1 a) fun v => ev 2 (4, L, v :: st) σ) ∧
  (∀ (l0 l1 l2 l3 l4 : Option Value) (st : List Value) (σ : ri_S) (x : Int32), ev 2 (4, [l0, l1, l2, l3, l4], .int x :: st) σ = ev 2 (6, [l0, l1, l2, ri_clr l3, some (.int x)], st) σ) ∧
  (∀ (l1 l2 l3 l4 : Option Value) (st : List Value) (σ : ri_S) (x : Nat), ev 2 (6, [some (.ref x), l1, l2, l3, l4], st) σ = ev 2 (7, [some (.ref x), l1, l2, l3, l4], .ref x :: st) σ) ∧
  (∀ (L : ri_L) (st : List Value) (σ : ri_S) (a : Nat), ev 2 (7, L, .ref a :: st) σ = tv_o 0 1 (σ.1 a) fun v => ev 2 (10, L, v :: st) σ) ∧
  (∀ (l0 l1 l2 l3 : Option Value) (st : List Value) (σ : ri_S) (x : Int32), ev 2 (10, [l0, l1, l2, l3, some (.int x)], st) σ = ev 2 (12, [l0, l1, l2, l3, some (.int x)], .int x :: st) σ) ∧
  (∀ (l0 l1 l2 l4 : Option Value) (st : List Value) (σ : ri_S) (x : Int32), ev 2 (12, [l0, l1, l2, some (.int x), l4], st) σ = ev 2 (13, [l0, l1, l2, some (.int x), l4], .int x :: st) σ) ∧
  (∀ (L : ri_L) (σ : ri_S) (a0 : Nat) (a1 : Int32) (a2 : Int32), ev 2 (13, L, [.int a2, .int a1, .ref a0]) σ = (cal 141 [.ref a0, .int a1, .int a2] σ).bind fun q => ev 2 (16, L, q.1.toList ++ []) q.2) ∧
  (∀ (l1 l2 l3 l4 : Option Value) (st : List Value) (σ : ri_S) (x : Nat), ev 2 (16, [some (.ref x), l1, l2, l3, l4], st) σ = ev 2 (17, [some (.ref x), l1, l2, l3, l4], .ref x :: st) σ) ∧
  (∀ (L : ri_L) (st : List Value) (σ : ri_S) (a : Nat), ev 2 (17, L, .ref a :: st) σ = tv_o 0 4 (σ.1 a) fun v => ev 2 (20, L, v :: st) σ) ∧
  (∀ (l0 l1 l2 l3 : Option Value) (st : List Value) (σ : ri_S) (x : Int32), ev 2 (20, [l0, l1, l2, l3, some (.int x)], st) σ = ev 2 (22, [l0, l1, l2, l3, some (.int x)], .int x :: st) σ) ∧
  (∀ (L : ri_L) (st : List Value) (σ : ri_S), ev 2 (22, L, st) σ = ev 2 (23, L, .int 0 :: st) σ) ∧
  (∀ (L : ri_L) (σ : ri_S) (a0 : Nat) (a1 : Int32) (a2 : Int32), ev 2 (23, L, [.int a2, .int a1, .ref a0]) σ = (cal 141 [.ref a0, .int a1, .int a2] σ).bind fun q => ev 2 (26, L, q.1.toList ++ []) q.2) ∧
  (∀ (l1 l2 l3 l4 : Option Value) (st : List Value) (σ : ri_S) (x : Nat), ev 2 (26, [some (.ref x), l1, l2, l3, l4], st) σ = ev 2 (27, [some (.ref x), l1, l2, l3, l4], .ref x :: st) σ) ∧
  (∀ (L : ri_L) (st : List Value) (σ : ri_S) (a : Nat), ev 2 (27, L, .ref a :: st) σ = tv_o 0 5 (σ.1 a) fun v => ev 2 (30, L, v :: st) σ) ∧
  (∀ (l0 l1 l2 l3 : Option Value) (st : List Value) (σ : ri_S) (x : Int32), ev 2 (30, [l0, l1, l2, l3, some (.int x)], st) σ = ev 2 (32, [l0, l1, l2, l3, some (.int x)], .int x :: st) σ) ∧
  (∀ (L : ri_L) (st : List Value) (σ : ri_S), ev 2 (32, L, st) σ = ev 2 (33, L, .int 0 :: st) σ) ∧
  (∀ (L : ri_L) (σ : ri_S) (a0 : Nat) (a1 : Int32) (a2 : Int32), ev 2 (33, L, [.int a2, .int a1, .ref a0]) σ = (cal 141 [.ref a0, .int a1, .int a2] σ).bind fun q => ev 2 (36, L, q.1.toList ++ []) q.2) ∧
  (∀ (l1 l2 l3 l4 : Option Value) (st : List Value) (σ : ri_S) (x : Nat), ev 2 (36, [some (.ref x), l1, l2, l3, l4], st) σ = ev 2 (37, [some (.ref x), l1, l2, l3, l4], .ref x :: st) σ) ∧
  (∀ (l0 l1 l2 l3 : Option Value) (st : List Value) (σ : ri_S) (x : Int32), ev 2 (37, [l0, l1, l2, l3, some (.int x)], st) σ = ev 2 (39, [l0, l1, l2, l3, some (.int x)], .int x :: st) σ) ∧
  (∀ (l0 l2 l3 l4 : Option Value) (st : List Value) (σ : ri_S) (x : Int32), ev 2 (39, [l0, some (.int x), l2, l3, l4], st) σ = ev 2 (40, [l0, some (.int x), l2, l3, l4], .int x :: st) σ) ∧
  (∀ (l0 l1 l3 l4 : Option Value) (st : List Value) (σ : ri_S) (x : Int32), ev 2 (40, [l0, l1, some (.int x), l3, l4], st) σ = ev 2 (41, [l0, l1, some (.int x), l3, l4], .int x :: st) σ) ∧
  (∀ (L : ri_L) (σ : ri_S) (a0 : Nat) (a1 : Int32) (a2 : Int32) (a3 : Int32), ev 2 (41, L, [.int a3, .int a2, .int a1, .ref a0]) σ = tv_k 0 (σ.1 a0) ((cal 3 [.ref a0, .int a1, .int a2, .int a3] σ).bind fun q => ev 2 (44, L, q.1.toList ++ []) q.2)) ∧
  (∀ (l1 l2 l3 l4 : Option Value) (st : List Value) (σ : ri_S) (x : Nat), ev 2 (44, [some (.ref x), l1, l2, l3, l4], st) σ = ev 2 (45, [some (.ref x), l1, l2, l3, l4], .ref x :: st) σ) ∧
  (∀ (L : ri_L) (st : List Value) (σ : ri_S) (x : Nat), ev 2 (45, L, .ref x :: st) σ = ev 2 (46, L, .ref x :: .ref x :: st) σ) ∧
  (∀ (L : ri_L) (st : List Value) (σ : ri_S) (a : Nat), ev 2 (46, L, .ref a :: st) σ = tv_o 0 0 (σ.1 a) fun v => ev 2 (49, L, v :: st) σ) ∧
  (∀ (L : ri_L) (st : List Value) (σ : ri_S), ev 2 (49, L, st) σ = ev 2 (50, L, .int 1 :: st) σ) ∧
  (∀ (L : ri_L) (st : List Value) (σ : ri_S) (x y : Int32), ev 2 (50, L, .int y :: .int x :: st) σ = ev 2 (51, L, .int (x + y) :: st) σ) ∧
  (∀ (L : ri_L) (st : List Value) (σ : ri_S) (a : Nat) (x : Int32), ev 2 (51, L, .int x :: .ref a :: st) σ = tv_w 0 0 (σ.1 a) (.int x) fun fs => ev 2 (54, L, st) (ri_upd σ.1 a (.inr (.inr (0, fs))), σ.2)) ∧
  (∀ (l0 l1 l2 l3 : Option Value) (st : List Value) (σ : ri_S) (x : Int32), ev 2 (54, [l0, l1, l2, l3, some (.int x)], st) σ = ev 2 (56, [l0, l1, l2, l3, some (.int x)], .int x :: st) σ) ∧
  (∀ (L : ri_L) (σ : ri_S) (x : Int32), ev 2 (56, L, [.int x]) σ = some (some (.int x), σ)) :=
  ⟨fun l1 l2 l3 l4 st σ x => ev_p ((TP_2 _).trans rfl) rfl,
   fun L st σ a => ev_getf ((TP_2 _).trans rfl),
   fun l0 l1 l2 l3 l4 st σ x => ev_p ((TP_2 _).trans rfl) rfl,
   fun l1 l2 l3 l4 st σ x => ev_p ((TP_2 _).trans rfl) rfl,
   fun L st σ a => ev_getf ((TP_2 _).trans rfl),
   fun l0 l1 l2 l3 st σ x => ev_p ((TP_2 _).trans rfl) rfl,
   fun l0 l1 l2 l4 st σ x => ev_p ((TP_2 _).trans rfl) rfl,
   fun L σ a0 a1 a2 => ev_call ((TP_2 _).trans rfl) rfl rfl rfl rfl,
   fun l1 l2 l3 l4 st σ x => ev_p ((TP_2 _).trans rfl) rfl,
   fun L st σ a => ev_getf ((TP_2 _).trans rfl),
   fun l0 l1 l2 l3 st σ x => ev_p ((TP_2 _).trans rfl) rfl,
   fun L st σ => ev_p ((TP_2 _).trans rfl) rfl,
   fun L σ a0 a1 a2 => ev_call ((TP_2 _).trans rfl) rfl rfl rfl rfl,
   fun l1 l2 l3 l4 st σ x => ev_p ((TP_2 _).trans rfl) rfl,
   fun L st σ a => ev_getf ((TP_2 _).trans rfl),
   fun l0 l1 l2 l3 st σ x => ev_p ((TP_2 _).trans rfl) rfl,
   fun L st σ => ev_p ((TP_2 _).trans rfl) rfl,
   fun L σ a0 a1 a2 => ev_call ((TP_2 _).trans rfl) rfl rfl rfl rfl,
   fun l1 l2 l3 l4 st σ x => ev_p ((TP_2 _).trans rfl) rfl,
   fun l0 l1 l2 l3 st σ x => ev_p ((TP_2 _).trans rfl) rfl,
   fun l0 l2 l3 l4 st σ x => ev_p ((TP_2 _).trans rfl) rfl,
   fun l0 l1 l3 l4 st σ x => ev_p ((TP_2 _).trans rfl) rfl,
   fun L σ a0 a1 a2 a3 => ev_callv ((TP_2 _).trans rfl) rfl rfl rfl rfl,
   fun l1 l2 l3 l4 st σ x => ev_p ((TP_2 _).trans rfl) rfl,
   fun L st σ x => ev_p ((TP_2 _).trans rfl) rfl,
   fun L st σ a => ev_getf ((TP_2 _).trans rfl),
   fun L st σ => ev_p ((TP_2 _).trans rfl) rfl,
   fun L st σ x y => ev_p ((TP_2 _).trans rfl) rfl,
   fun L st σ a x => ev_puti ((TP_2 _).trans rfl),
   fun l0 l1 l2 l3 st σ x => ev_p ((TP_2 _).trans rfl) rfl,
   fun L σ x => ev_r ((TP_2 _).trans rfl) rfl⟩
theorem TP_3 (pc : Nat) : TT 3 pc = ri_find TL_3 pc := rfl
theorem E_3 (x0 : Nat) (x1 : Int32) (x2 : Int32) (x3 : Int32) (σ : ri_S) : cal 3 [.ref x0, .int x1, .int x2, .int x3] σ = ev 3 (0, [some (.ref x0), some (.int x1), some (.int x2), some (.int x3)], []) σ := rfl
theorem I_3 :
  (∀ (l1 l2 l3 : Option Value) (st : List Value) (σ : ri_S) (x : Nat), ev 3 (0, [some (.ref x), l1, l2, l3], st) σ = ev 3 (1, [some (.ref x), l1, l2, l3], .ref x :: st) σ) ∧
  (∀ (L : ri_L) (st : List Value) (σ : ri_S) (a : Nat), ev 3 (1, L, .ref a :: st) σ = tv_o 0 2 (σ.1 a) fun v => ev 3 (4, L, v :: st) σ) ∧
  (∀ (l0 l2 l3 : Option Value) (st : List Value) (σ : ri_S) (x : Int32), ev 3 (4, [l0, some (.int x), l2, l3], st) σ = ev 3 (5, [l0, some (.int x), l2, l3], .int x :: st) σ) ∧
  (∀ (l0 l1 l3 : Option Value) (st : List Value) (σ : ri_S) (x : Int32), ev 3 (5, [l0, l1, some (.int x), l3], st) σ = ev 3 (6, [l0, l1, some (.int x), l3], .int x :: st) σ) ∧
  (∀ (L : ri_L) (σ : ri_S) (a0 : Nat) (a1 : Int32) (a2 : Int32), ev 3 (6, L, [.int a2, .int a1, .ref a0]) σ = (cal 141 [.ref a0, .int a1, .int a2] σ).bind fun q => ev 3 (9, L, q.1.toList ++ []) q.2) ∧
  (∀ (l1 l2 l3 : Option Value) (st : List Value) (σ : ri_S) (x : Nat), ev 3 (9, [some (.ref x), l1, l2, l3], st) σ = ev 3 (10, [some (.ref x), l1, l2, l3], .ref x :: st) σ) ∧
  (∀ (L : ri_L) (st : List Value) (σ : ri_S) (a : Nat), ev 3 (10, L, .ref a :: st) σ = tv_o 0 3 (σ.1 a) fun v => ev 3 (13, L, v :: st) σ) ∧
  (∀ (l0 l2 l3 : Option Value) (st : List Value) (σ : ri_S) (x : Int32), ev 3 (13, [l0, some (.int x), l2, l3], st) σ = ev 3 (14, [l0, some (.int x), l2, l3], .int x :: st) σ) ∧
  (∀ (l0 l1 l2 : Option Value) (st : List Value) (σ : ri_S) (x : Int32), ev 3 (14, [l0, l1, l2, some (.int x)], st) σ = ev 3 (15, [l0, l1, l2, some (.int x)], .int x :: st) σ) ∧
  (∀ (L : ri_L) (σ : ri_S) (a0 : Nat) (a1 : Int32) (a2 : Int32), ev 3 (15, L, [.int a2, .int a1, .ref a0]) σ = (cal 141 [.ref a0, .int a1, .int a2] σ).bind fun q => ev 3 (18, L, q.1.toList ++ []) q.2) ∧
  (∀ (L : ri_L) (σ : ri_S), ev 3 (18, L, []) σ = some (none, σ)) :=
  ⟨fun l1 l2 l3 st σ x => ev_p ((TP_3 _).trans rfl) rfl,
   fun L st σ a => ev_getf ((TP_3 _).trans rfl),
   fun l0 l2 l3 st σ x => ev_p ((TP_3 _).trans rfl) rfl,
   fun l0 l1 l3 st σ x => ev_p ((TP_3 _).trans rfl) rfl,
   fun L σ a0 a1 a2 => ev_call ((TP_3 _).trans rfl) rfl rfl rfl rfl,
   fun l1 l2 l3 st σ x => ev_p ((TP_3 _).trans rfl) rfl,
   fun L st σ a => ev_getf ((TP_3 _).trans rfl),
   fun l0 l2 l3 st σ x => ev_p ((TP_3 _).trans rfl) rfl,
   fun l0 l1 l2 st σ x => ev_p ((TP_3 _).trans rfl) rfl,
   fun L σ a0 a1 a2 => ev_call ((TP_3 _).trans rfl) rfl rfl rfl rfl,
   fun L σ => ev_r ((TP_3 _).trans rfl) rfl⟩
theorem TP_4 (pc : Nat) : TT 4 pc = ri_find TL_4 pc := rfl
theorem E_4 (x0 : Nat) (x1 : Int32) (x2 : Int32) (σ : ri_S) : cal 4 [.ref x0, .int x1, .int x2] σ = ev 4 (0, [some (.ref x0), some (.int x1), some (.int x2), none], []) σ := rfl
theorem H_4_2 (l0 l1 l2 : Option Value) (st : List Value) (σ : ri_S) (x : Int32) : ev 4 (2, [l0, l1, l2, some (.int x)], st) σ = ev 4 (3, [l0, l1, l2, some (.int x)], .int x :: st) σ := ev_p ((TP_4 _).trans rfl) rfl
theorem I_4 :
  (∀ (L : ri_L) (st : List Value) (σ : ri_S), ev 4 (0, L, st) σ = ev 4 (1, L, .int 0 :: st) σ) ∧
  (∀ (l0 l1 l2 l3 : Option Value) (st : List Value) (σ : ri_S) (x : Int32), ev 4 (1, [l0, l1, l2, l3], .int x :: st) σ = ev 4 (2, [l0, l1, ri_clr l2, some (.int x)], st) σ) ∧
  (∀ (l1 l2 l3 : Option Value) (st : List Value) (σ : ri_S) (x : Nat), ev 4 (3, [some (.ref x), l1, l2, l3], st) σ = ev 4 (4, [some (.ref x), l1, l2, l3], .ref x :: st) σ) ∧
  (∀ (L : ri_L) (st : List Value) (σ : ri_S) (a : Nat), ev 4 (4, L, .ref a :: st) σ = tv_o 0 0 (σ.1 a) fun v => ev 4 (7, L, v :: st) σ) ∧
  (∀ (L : ri_L) (st : List Value) (σ : ri_S) (x y : Int32), ev 4 (7, L, .int y :: .int x :: st) σ = if y ≤ x then ev 4 (42, L, st) σ else ev 4 (10, L, st) σ) ∧
  (∀ (l1 l2 l3 : Option Value) (st : List Value) (σ : ri_S) (x : Nat), ev 4 (10, [some (.ref x), l1, l2, l3], st) σ = ev 4 (11, [some (.ref x), l1, l2, l3], .ref x :: st) σ) ∧
  (∀ (L : ri_L) (st : List Value) (σ : ri_S) (a : Nat), ev 4 (11, L, .ref a :: st) σ = tv_o 0 2 (σ.1 a) fun v => ev 4 (14, L, v :: st) σ) ∧
  (∀ (l0 l1 l2 : Option Value) (st : List Value) (σ : ri_S) (x : Int32), ev 4 (14, [l0, l1, l2, some (.int x)], st) σ = ev 4 (15, [l0, l1, l2, some (.int x)], .int x :: st) σ) ∧
  (∀ (L : ri_L) (σ : ri_S) (a0 : Nat) (a1 : Int32), ev 4 (15, L, [.int a1, .ref a0]) σ = (cal 140 [.ref a0, .int a1] σ).bind fun q => ev 4 (18, L, q.1.toList ++ []) q.2) ∧
  (∀ (l0 l2 l3 : Option Value) (st : List Value) (σ : ri_S) (x : Int32), ev 4 (18, [l0, some (.int x), l2, l3], st) σ = ev 4 (19, [l0, some (.int x), l2, l3], .int x :: st) σ) ∧
  (∀ (L : ri_L) (st : List Value) (σ : ri_S) (x y : Int32), ev 4 (19, L, .int y :: .int x :: st) σ = if ¬ x = y then ev 4 (36, L, st) σ else ev 4 (22, L, st) σ) ∧
  (∀ (l1 l2 l3 : Option Value) (st : List Value) (σ : ri_S) (x : Nat), ev 4 (22, [some (.ref x), l1, l2, l3], st) σ = ev 4 (23, [some (.ref x), l1, l2, l3], .ref x :: st) σ) ∧
  (∀ (L : ri_L) (st : List Value) (σ : ri_S) (a : Nat), ev 4 (23, L, .ref a :: st) σ = tv_o 0 3 (σ.1 a) fun v => ev 4 (26, L, v :: st) σ) ∧
  (∀ (l0 l1 l2 : Option Value) (st : List Value) (σ : ri_S) (x : Int32), ev 4 (26, [l0, l1, l2, some (.int x)], st) σ = ev 4 (27, [l0, l1, l2, some (.int x)], .int x :: st) σ) ∧
  (∀ (L : ri_L) (σ : ri_S) (a0 : Nat) (a1 : Int32), ev 4 (27, L, [.int a1, .ref a0]) σ = (cal 140 [.ref a0, .int a1] σ).bind fun q => ev 4 (30, L, q.1.toList ++ []) q.2) ∧
  (∀ (l0 l1 l3 : Option Value) (st : List Value) (σ : ri_S) (x : Int32), ev 4 (30, [l0, l1, some (.int x), l3], st) σ = ev 4 (31, [l0, l1, some (.int x), l3], .int x :: st) σ) ∧
  (∀ (L : ri_L) (st : List Value) (σ : ri_S) (x y : Int32), ev 4 (31, L, .int y :: .int x :: st) σ = if ¬ x = y then ev 4 (36, L, st) σ else ev 4 (34, L, st) σ) ∧
  (∀ (l0 l1 l2 : Option Value) (st : List Value) (σ : ri_S) (x : Int32), ev 4 (34, [l0, l1, l2, some (.int x)], st) σ = ev 4 (35, [l0, l1, l2, some (.int x)], .int x :: st) σ) ∧
  (∀ (L : ri_L) (σ : ri_S) (x : Int32), ev 4 (35, L, [.int x]) σ = some (some (.int x), σ)) ∧
  (∀ (l0 l1 l2 : Option Value) (st : List Value) (σ : ri_S) (x : Int32), ev 4 (36, [l0, l1, l2, some (.int x)], st) σ = ev 4 (39, [l0, l1, ri_clr l2, some (.int (x + 1))], st) σ) ∧
  (∀ (L : ri_L) (st : List Value) (σ : ri_S), ev 4 (39, L, st) σ = ev 4 (2, L, st) σ) ∧
  (∀ (L : ri_L) (st : List Value) (σ : ri_S), ev 4 (42, L, st) σ = ev 4 (43, L, .int (-1) :: st) σ) ∧
  (∀ (L : ri_L) (σ : ri_S) (x : Int32), ev 4 (43, L, [.int x]) σ = some (some (.int x), σ)) :=
  ⟨fun L st σ => ev_p ((TP_4 _).trans rfl) rfl,
   fun l0 l1 l2 l3 st σ x => ev_p ((TP_4 _).trans rfl) rfl,
   fun l1 l2 l3 st σ x => ev_p ((TP_4 _).trans rfl) rfl,
   fun L st σ a => ev_getf ((TP_4 _).trans rfl),
   fun L st σ x y => ev_b ((TP_4 _).trans rfl) rfl,
   fun l1 l2 l3 st σ x => ev_p ((TP_4 _).trans rfl) rfl,
   fun L st σ a => ev_getf ((TP_4 _).trans rfl),
   fun l0 l1 l2 st σ x => ev_p ((TP_4 _).trans rfl) rfl,
   fun L σ a0 a1 => ev_call ((TP_4 _).trans rfl) rfl rfl rfl rfl,
   fun l0 l2 l3 st σ x => ev_p ((TP_4 _).trans rfl) rfl,
   fun L st σ x y => ev_b ((TP_4 _).trans rfl) rfl,
   fun l1 l2 l3 st σ x => ev_p ((TP_4 _).trans rfl) rfl,
   fun L st σ a => ev_getf ((TP_4 _).trans rfl),
   fun l0 l1 l2 st σ x => ev_p ((TP_4 _).trans rfl) rfl,
   fun L σ a0 a1 => ev_call ((TP_4 _).trans rfl) rfl rfl rfl rfl,
   fun l0 l1 l3 st σ x => ev_p ((TP_4 _).trans rfl) rfl,
   fun L st σ x y => ev_b ((TP_4 _).trans rfl) rfl,
   fun l0 l1 l2 st σ x => ev_p ((TP_4 _).trans rfl) rfl,
   fun L σ x => ev_r ((TP_4 _).trans rfl) rfl,
   fun l0 l1 l2 st σ x => ev_p ((TP_4 _).trans rfl) rfl,
   fun L st σ => ev_p ((TP_4 _).trans rfl) rfl,
   fun L st σ => ev_p ((TP_4 _).trans rfl) rfl,
   fun L σ x => ev_r ((TP_4 _).trans rfl) rfl⟩
theorem TP_5 (pc : Nat) : TT 5 pc = ri_find TL_5 pc := rfl
theorem E_5 (x0 : Nat) (x1 : Int32) (x2 : Int32) (σ : ri_S) : cal 5 [.ref x0, .int x1, .int x2] σ = ev 5 (0, [some (.ref x0), some (.int x1), some (.int x2), none, none], []) σ := rfl
theorem H_5_5 (l0 l1 l2 l3 : Option Value) (st : List Value) (σ : ri_S) (x : Int32) : ev 5 (5, [l0, l1, l2, l3, some (.int x)], st) σ = ev 5 (7, [l0, l1, l2, l3, some (.int x)], .int x :: st) σ := ev_p ((TP_5 _).trans rfl) rfl
theorem I_5 :
  (∀ (L : ri_L) (st : List Value) (σ : ri_S), ev 5 (0, L, st) σ = ev 5 (1, L, .int 0 :: st) σ) ∧
  (∀ (l0 l1 l2 l3 l4 : Option Value) (st : List Value) (σ : ri_S) (x : Int32), ev 5 (1, [l0, l1, l2, l3, l4], .int x :: st) σ = ev 5 (2, [l0, l1, ri_clr l2, some (.int x), l4], st) σ) ∧
  (∀ (L : ri_L) (st : List Value) (σ : ri_S), ev 5 (2, L, st) σ = ev 5 (3, L, .int 0 :: st) σ) ∧
  (∀ (l0 l1 l2 l3 l4 : Option Value) (st : List Value) (σ : ri_S) (x : Int32), ev 5 (3, [l0, l1, l2, l3, l4], .int x :: st) σ = ev 5 (5, [l0, l1, l2, ri_clr l3, some (.int x)], st) σ) ∧
  (∀ (l1 l2 l3 l4 : Option Value) (st : List Value) (σ : ri_S) (x : Nat), ev 5 (7, [some (.ref x), l1, l2, l3, l4], st) σ = ev 5 (8, [some (.ref x), l1, l2, l3, l4], .ref x :: st) σ) ∧
  (∀ (L : ri_L) (st : List Value) (σ : ri_S) (a : Nat), ev 5 (8, L, .ref a :: st) σ = tv_o 0 0 (σ.1 a) fun v => ev 5 (11, L, v :: st) σ) ∧
  (∀ (L : ri_L) (st : List Value) (σ : ri_S) (x y : Int32), ev 5 (11, L, .int y :: .int x :: st) σ = if y ≤ x then ev 5 (51, L, st) σ else ev 5 (14, L, st) σ) ∧
  (∀ (l1 l2 l3 l4 : Option Value) (st : List Value) (σ : ri_S) (x : Nat), ev 5 (14, [some (.ref x), l1, l2, l3, l4], st) σ = ev 5 (15, [some (.ref x), l1, l2, l3, l4], .ref x :: st) σ) ∧
  (∀ (L : ri_L) (st : List Value) (σ : ri_S) (a : Nat), ev 5 (15, L, .ref a :: st) σ = tv_o 0 2 (σ.1 a) fun v => ev 5 (18, L, v :: st) σ) ∧
  (∀ (l0 l1 l2 l3 : Option Value) (st : List Value) (σ : ri_S) (x : Int32), ev 5 (18, [l0, l1, l2, l3, some (.int x)], st) σ = ev 5 (20, [l0, l1, l2, l3, some (.int x)], .int x :: st) σ) ∧
  (∀ (L : ri_L) (σ : ri_S) (a0 : Nat) (a1 : Int32), ev 5 (20, L, [.int a1, .ref a0]) σ = (cal 140 [.ref a0, .int a1] σ).bind fun q => ev 5 (23, L, q.1.toList ++ []) q.2) ∧
  (∀ (l0 l2 l3 l4 : Option Value) (st : List Value) (σ : ri_S) (x : Int32), ev 5 (23, [l0, some (.int x), l2, l3, l4], st) σ = ev 5 (24, [l0, some (.int x), l2, l3, l4], .int x :: st) σ) ∧
  (∀ (L : ri_L) (st : List Value) (σ : ri_S) (x y : Int32), ev 5 (24, L, .int y :: .int x :: st) σ = if ¬ x = y then ev 5 (45, L, st) σ else ev 5 (27, L, st) σ) ∧
  (∀ (l0 l1 l2 l3 : Option Value) (st : List Value) (σ : ri_S) (x : Int32), ev 5 (27, [l0, l1, l2, l3, some (.int x)], st) σ = ev 5 (29, [l0, l1, l2, l3, some (.int x)], .int x :: st) σ) ∧
  (∀ (l0 l1 l3 l4 : Option Value) (st : List Value) (σ : ri_S) (x : Int32), ev 5 (29, [l0, l1, some (.int x), l3, l4], st) σ = ev 5 (30, [l0, l1, some (.int x), l3, l4], .int x :: st) σ) ∧
  (∀ (L : ri_L) (st : List Value) (σ : ri_S) (x y : Int32), ev 5 (30, L, .int y :: .int x :: st) σ = if x = y then ev 5 (45, L, st) σ else ev 5 (33, L, st) σ) ∧
  (∀ (l0 l1 l2 l4 : Option Value) (st : List Value) (σ : ri_S) (x : Int32), ev 5 (33, [l0, l1, l2, some (.int x), l4], st) σ = ev 5 (34, [l0, l1, l2, some (.int x), l4], .int x :: st) σ) ∧
  (∀ (l1 l2 l3 l4 : Option Value) (st : List Value) (σ : ri_S) (x : Nat), ev 5 (34, [some (.ref x), l1, l2, l3, l4], st) σ = ev 5 (35, [some (.ref x), l1, l2, l3, l4], .ref x :: st) σ) ∧
  (∀ (L : ri_L) (st : List Value) (σ : ri_S) (a : Nat), ev 5 (35, L, .ref a :: st) σ = tv_o 0 1 (σ.1 a) fun v => ev 5 (38, L, v :: st) σ) ∧
  (∀ (l0 l1 l2 l3 : Option Value) (st : List Value) (σ : ri_S) (x : Int32), ev 5 (38, [l0, l1, l2, l3, some (.int x)], st) σ = ev 5 (40, [l0, l1, l2, l3, some (.int x)], .int x :: st) σ) ∧
  (∀ (L : ri_L) (σ : ri_S) (a0 : Nat) (a1 : Int32) (s0 : Value), ev 5 (40, L, [.int a1, .ref a0, s0]) σ = (cal 140 [.ref a0, .int a1] σ).bind fun q => ev 5 (43, L, q.1.toList ++ [s0]) q.2) ∧
  (∀ (L : ri_L) (st : List Value) (σ : ri_S) (x y : Int32), ev 5 (43, L, .int y :: .int x :: st) σ = ev 5 (44, L, .int (x + y) :: st) σ) ∧
  (∀ (l0 l1 l2 l3 l4 : Option Value) (st : List Value) (σ : ri_S) (x : Int32), ev 5 (44, [l0, l1, l2, l3, l4], .int x :: st) σ = ev 5 (45, [l0, l1, ri_clr l2, some (.int x), l4], st) σ) ∧
  (∀ (l0 l1 l2 l3 : Option Value) (st : List Value) (σ : ri_S) (x : Int32), ev 5 (45, [l0, l1, l2, l3, some (.int x)], st) σ = ev 5 (48, [l0, l1, l2, ri_clr l3, some (.int (x + 1))], st) σ) ∧
  (∀ (L : ri_L) (st : List Value) (σ : ri_S), ev 5 (48, L, st) σ = ev 5 (5, L, st) σ) ∧
  (∀ (l0 l1 l2 l4 : Option Value) (st : List Value) (σ : ri_S) (x : Int32), ev 5 (51, [l0, l1, l2, some (.int x), l4], st) σ = ev 5 (52, [l0, l1, l2, some (.int x), l4], .int x :: st) σ) ∧
  (∀ (L : ri_L) (σ : ri_S) (x : Int32), ev 5 (52, L, [.int x]) σ = some (some (.int x), σ)) :=
  ⟨fun L st σ => ev_p ((TP_5 _).trans rfl) rfl,
   fun l0 l1 l2 l3 l4 st σ x => ev_p ((TP_5 _).trans rfl) rfl,
   fun L st σ => ev_p ((TP_5 _).trans rfl) rfl,
   fun l0 l1 l2 l3 l4 st σ x => ev_p ((TP_5 _).trans rfl) rfl,
   fun l1 l2 l3 l4 st σ x => ev_p ((TP_5 _).trans rfl) rfl,
   fun L st σ a => ev_getf ((TP_5 _).trans rfl),
   fun L st σ x y => ev_b ((TP_5 _).trans rfl) rfl,
   fun l1 l2 l3 l4 st σ x => ev_p ((TP_5 _).trans rfl) rfl,
   fun L st σ a => ev_getf ((TP_5 _).trans rfl),
   fun l0 l1 l2 l3 st σ x => ev_p ((TP_5 _).trans rfl) rfl,
   fun L σ a0 a1 => ev_call ((TP_5 _).trans rfl) rfl rfl rfl rfl,
   fun l0 l2 l3 l4 st σ x => ev_p ((TP_5 _).trans rfl) rfl,
   fun L st σ x y => ev_b ((TP_5 _).trans rfl) rfl,
   fun l0 l1 l2 l3 st σ x => ev_p ((TP_5 _).trans rfl) rfl,
   fun l0 l1 l3 l4 st σ x => ev_p ((TP_5 _).trans rfl) rfl,
   fun L st σ x y => ev_b ((TP_5 _).trans rfl) rfl,
   fun l0 l1 l2 l4 st σ x => ev_p ((TP_5 _).trans rfl) rfl,
   fun l1 l2 l3 l4 st σ x => ev_p ((TP_5 _).trans rfl) rfl,
   fun L st σ a => ev_getf ((TP_5 _).trans rfl),
   fun l0 l1 l2 l3 st σ x => ev_p ((TP_5 _).trans rfl) rfl,
   fun L σ a0 a1 s0 => ev_call ((TP_5 _).trans rfl) rfl rfl rfl rfl,
   fun L st σ x y => ev_p ((TP_5 _).trans rfl) rfl,
   fun l0 l1 l2 l3 l4 st σ x => ev_p ((TP_5 _).trans rfl) rfl,
   fun l0 l1 l2 l3 st σ x => ev_p ((TP_5 _).trans rfl) rfl,
   fun L st σ => ev_p ((TP_5 _).trans rfl) rfl,
   fun l0 l1 l2 l4 st σ x => ev_p ((TP_5 _).trans rfl) rfl,
   fun L σ x => ev_r ((TP_5 _).trans rfl) rfl⟩
theorem TP_6 (pc : Nat) : TT 6 pc = ri_find TL_6 pc := rfl
theorem E_6 (x0 : Nat) (x1 : Nat) (σ : ri_S) : cal 6 [.ref x0, .ref x1] σ = ev 6 (0, [some (.ref x0), some (.ref x1)], []) σ := rfl
theorem I_6 :
  (∀ (l1 : Option Value) (st : List Value) (σ : ri_S) (x : Nat), ev 6 (0, [some (.ref x), l1], st) σ = ev 6 (1, [some (.ref x), l1], .ref x :: st) σ) ∧
  (∀ (l0 : Option Value) (st : List Value) (σ : ri_S) (x : Nat), ev 6 (1, [l0, some (.ref x)], st) σ = ev 6 (2, [l0, some (.ref x)], .ref x :: st) σ) ∧
  (∀ (L : ri_L) (st : List Value) (σ : ri_S) (a : Nat), ev 6 (2, L, .ref a :: st) σ = tv_o 0 0 (σ.1 a) fun v => ev 6 (5, L, v :: st) σ) ∧
  (∀ (L : ri_L) (st : List Value) (σ : ri_S) (a : Nat) (x : Int32), ev 6 (5, L, .int x :: .ref a :: st) σ = tv_w 0 0 (σ.1 a) (.int x) fun fs => ev 6 (8, L, st) (ri_upd σ.1 a (.inr (.inr (0, fs))), σ.2)) ∧
  (∀ (l0 : Option Value) (st : List Value) (σ : ri_S) (x : Nat), ev 6 (8, [l0, some (.ref x)], st) σ = ev 6 (9, [l0, some (.ref x)], .ref x :: st) σ) ∧
  (∀ (L : ri_L) (st : List Value) (σ : ri_S) (a : Nat), ev 6 (9, L, .ref a :: st) σ = tv_o 0 1 (σ.1 a) fun v => ev 6 (12, L, v :: st) σ) ∧
  (∀ (l1 : Option Value) (st : List Value) (σ : ri_S) (x : Nat), ev 6 (12, [some (.ref x), l1], st) σ = ev 6 (13, [some (.ref x), l1], .ref x :: st) σ) ∧
  (∀ (L : ri_L) (st : List Value) (σ : ri_S) (a : Nat), ev 6 (13, L, .ref a :: st) σ = tv_o 0 1 (σ.1 a) fun v => ev 6 (16, L, v :: st) σ) ∧
  (∀ (L : ri_L) (σ : ri_S) (a0 : Nat) (a1 : Nat), ev 6 (16, L, [.ref a1, .ref a0]) σ = (cal 142 [.ref a0, .ref a1] σ).bind fun q => ev 6 (19, L, q.1.toList ++ []) q.2) ∧
  (∀ (l0 : Option Value) (st : List Value) (σ : ri_S) (x : Nat), ev 6 (19, [l0, some (.ref x)], st) σ = ev 6 (20, [l0, some (.ref x)], .ref x :: st) σ) ∧
  (∀ (L : ri_L) (st : List Value) (σ : ri_S) (a : Nat), ev 6 (20, L, .ref a :: st) σ = tv_o 0 2 (σ.1 a) fun v => ev 6 (23, L, v :: st) σ) ∧
  (∀ (l1 : Option Value) (st : List Value) (σ : ri_S) (x : Nat), ev 6 (23, [some (.ref x), l1], st) σ = ev 6 (24, [some (.ref x), l1], .ref x :: st) σ) ∧
  (∀ (L : ri_L) (st : List Value) (σ : ri_S) (a : Nat), ev 6 (24, L, .ref a :: st) σ = tv_o 0 2 (σ.1 a) fun v => ev 6 (27, L, v :: st) σ) ∧
  (∀ (L : ri_L) (σ : ri_S) (a0 : Nat) (a1 : Nat), ev 6 (27, L, [.ref a1, .ref a0]) σ = (cal 142 [.ref a0, .ref a1] σ).bind fun q => ev 6 (30, L, q.1.toList ++ []) q.2) ∧
  (∀ (l0 : Option Value) (st : List Value) (σ : ri_S) (x : Nat), ev 6 (30, [l0, some (.ref x)], st) σ = ev 6 (31, [l0, some (.ref x)], .ref x :: st) σ) ∧
  (∀ (L : ri_L) (st : List Value) (σ : ri_S) (a : Nat), ev 6 (31, L, .ref a :: st) σ = tv_o 0 3 (σ.1 a) fun v => ev 6 (34, L, v :: st) σ) ∧
  (∀ (l1 : Option Value) (st : List Value) (σ : ri_S) (x : Nat), ev 6 (34, [some (.ref x), l1], st) σ = ev 6 (35, [some (.ref x), l1], .ref x :: st) σ) ∧
  (∀ (L : ri_L) (st : List Value) (σ : ri_S) (a : Nat), ev 6 (35, L, .ref a :: st) σ = tv_o 0 3 (σ.1 a) fun v => ev 6 (38, L, v :: st) σ) ∧
  (∀ (L : ri_L) (σ : ri_S) (a0 : Nat) (a1 : Nat), ev 6 (38, L, [.ref a1, .ref a0]) σ = (cal 142 [.ref a0, .ref a1] σ).bind fun q => ev 6 (41, L, q.1.toList ++ []) q.2) ∧
  (∀ (l0 : Option Value) (st : List Value) (σ : ri_S) (x : Nat), ev 6 (41, [l0, some (.ref x)], st) σ = ev 6 (42, [l0, some (.ref x)], .ref x :: st) σ) ∧
  (∀ (L : ri_L) (st : List Value) (σ : ri_S) (a : Nat), ev 6 (42, L, .ref a :: st) σ = tv_o 0 4 (σ.1 a) fun v => ev 6 (45, L, v :: st) σ) ∧
  (∀ (l1 : Option Value) (st : List Value) (σ : ri_S) (x : Nat), ev 6 (45, [some (.ref x), l1], st) σ = ev 6 (46, [some (.ref x), l1], .ref x :: st) σ) ∧
  (∀ (L : ri_L) (st : List Value) (σ : ri_S) (a : Nat), ev 6 (46, L, .ref a :: st) σ = tv_o 0 4 (σ.1 a) fun v => ev 6 (49, L, v :: st) σ) ∧
  (∀ (L : ri_L) (σ : ri_S) (a0 : Nat) (a1 : Nat), ev 6 (49, L, [.ref a1, .ref a0]) σ = (cal 142 [.ref a0, .ref a1] σ).bind fun q => ev 6 (52, L, q.1.toList ++ []) q.2) ∧
  (∀ (l0 : Option Value) (st : List Value) (σ : ri_S) (x : Nat), ev 6 (52, [l0, some (.ref x)], st) σ = ev 6 (53, [l0, some (.ref x)], .ref x :: st) σ) ∧
  (∀ (L : ri_L) (st : List Value) (σ : ri_S) (a : Nat), ev 6 (53, L, .ref a :: st) σ = tv_o 0 5 (σ.1 a) fun v => ev 6 (56, L, v :: st) σ) ∧
  (∀ (l1 : Option Value) (st : List Value) (σ : ri_S) (x : Nat), ev 6 (56, [some (.ref x), l1], st) σ = ev 6 (57, [some (.ref x), l1], .ref x :: st) σ) ∧
  (∀ (L : ri_L) (st : List Value) (σ : ri_S) (a : Nat), ev 6 (57, L, .ref a :: st) σ = tv_o 0 5 (σ.1 a) fun v => ev 6 (60, L, v :: st) σ) ∧
  (∀ (L : ri_L) (σ : ri_S) (a0 : Nat) (a1 : Nat), ev 6 (60, L, [.ref a1, .ref a0]) σ = (cal 142 [.ref a0, .ref a1] σ).bind fun q => ev 6 (63, L, q.1.toList ++ []) q.2) ∧
  (∀ (L : ri_L) (σ : ri_S), ev 6 (63, L, []) σ = some (none, σ)) :=
  ⟨fun l1 st σ x => ev_p ((TP_6 _).trans rfl) rfl,
   fun l0 st σ x => ev_p ((TP_6 _).trans rfl) rfl,
   fun L st σ a => ev_getf ((TP_6 _).trans rfl),
   fun L st σ a x => ev_puti ((TP_6 _).trans rfl),
   fun l0 st σ x => ev_p ((TP_6 _).trans rfl) rfl,
   fun L st σ a => ev_getf ((TP_6 _).trans rfl),
   fun l1 st σ x => ev_p ((TP_6 _).trans rfl) rfl,
   fun L st σ a => ev_getf ((TP_6 _).trans rfl),
   fun L σ a0 a1 => ev_call ((TP_6 _).trans rfl) rfl rfl rfl rfl,
   fun l0 st σ x => ev_p ((TP_6 _).trans rfl) rfl,
   fun L st σ a => ev_getf ((TP_6 _).trans rfl),
   fun l1 st σ x => ev_p ((TP_6 _).trans rfl) rfl,
   fun L st σ a => ev_getf ((TP_6 _).trans rfl),
   fun L σ a0 a1 => ev_call ((TP_6 _).trans rfl) rfl rfl rfl rfl,
   fun l0 st σ x => ev_p ((TP_6 _).trans rfl) rfl,
   fun L st σ a => ev_getf ((TP_6 _).trans rfl),
   fun l1 st σ x => ev_p ((TP_6 _).trans rfl) rfl,
   fun L st σ a => ev_getf ((TP_6 _).trans rfl),
   fun L σ a0 a1 => ev_call ((TP_6 _).trans rfl) rfl rfl rfl rfl,
   fun l0 st σ x => ev_p ((TP_6 _).trans rfl) rfl,
   fun L st σ a => ev_getf ((TP_6 _).trans rfl),
   fun l1 st σ x => ev_p ((TP_6 _).trans rfl) rfl,
   fun L st σ a => ev_getf ((TP_6 _).trans rfl),
   fun L σ a0 a1 => ev_call ((TP_6 _).trans rfl) rfl rfl rfl rfl,
   fun l0 st σ x => ev_p ((TP_6 _).trans rfl) rfl,
   fun L st σ a => ev_getf ((TP_6 _).trans rfl),
   fun l1 st σ x => ev_p ((TP_6 _).trans rfl) rfl,
   fun L st σ a => ev_getf ((TP_6 _).trans rfl),
   fun L σ a0 a1 => ev_call ((TP_6 _).trans rfl) rfl rfl rfl rfl,
   fun L σ => ev_r ((TP_6 _).trans rfl) rfl⟩
theorem TP_7 (pc : Nat) : TT 7 pc = ri_find TL_7 pc := rfl
theorem E_7 (x0 : Nat) (σ : ri_S) : cal 7 [.ref x0] σ = ev 7 (0, [some (.ref x0), none], []) σ := rfl
theorem H_7_25 (l0 : Option Value) (st : List Value) (σ : ri_S) (x : Int32) : ev 7 (25, [l0, some (.int x)], st) σ = ev 7 (26, [l0, some (.int x)], .int x :: st) σ := ev_p ((TP_7 _).trans rfl) rfl
theorem I_7 :
  (∀ (l1 : Option Value) (st : List Value) (σ : ri_S) (x : Nat), ev 7 (0, [some (.ref x), l1], st) σ = ev 7 (1, [some (.ref x), l1], .ref x :: st) σ) ∧
  (∀ (L : ri_L) (σ : ri_S) (a : Nat), ev 7 (1, L, [.ref a]) σ = ev 7 (4, L, []) σ) ∧
  (∀ (l1 : Option Value) (st : List Value) (σ : ri_S) (x : Nat), ev 7 (4, [some (.ref x), l1], st) σ = ev 7 (5, [some (.ref x), l1], .ref x :: st) σ) ∧
  (∀ (L : ri_L) (st : List Value) (σ : ri_S), ev 7 (5, L, st) σ = ev 7 (7, L, .int 14 :: st) σ) ∧
  (∀ (L : ri_L) (st : List Value) (σ : ri_S) (n : Int32), ev 7 (7, L, .int n :: st) σ = if n < 0 ∨ 2000 < n.toNatClampNeg then none else ev 7 (10, L, .ref σ.2 :: st) (ri_upd σ.1 σ.2 (.inr (.inl (n.toNatClampNeg, fun _ => none))), σ.2 + 1)) ∧
  (∀ (L : ri_L) (st : List Value) (σ : ri_S) (a : Nat) (x : Nat), ev 7 (10, L, .ref x :: .ref a :: st) σ = tv_w 1 0 (σ.1 a) (.ref x) fun fs => ev 7 (13, L, st) (ri_upd σ.1 a (.inr (.inr (1, fs))), σ.2)) ∧
  (∀ (l1 : Option Value) (st : List Value) (σ : ri_S) (x : Nat), ev 7 (13, [some (.ref x), l1], st) σ = ev 7 (14, [some (.ref x), l1], .ref x :: st) σ) ∧
  (∀ (L : ri_L) (st : List Value) (σ : ri_S), ev 7 (14, L, st) σ = ev 7 (15, L, .int 0 :: st) σ) ∧
  (∀ (L : ri_L) (st : List Value) (σ : ri_S) (a : Nat) (x : Int32), ev 7 (15, L, .int x :: .ref a :: st) σ = tv_w 1 1 (σ.1 a) (.int x) fun fs => ev 7 (18, L, st) (ri_upd σ.1 a (.inr (.inr (1, fs))), σ.2)) ∧
  (∀ (l1 : Option Value) (st : List Value) (σ : ri_S) (x : Nat), ev 7 (18, [some (.ref x), l1], st) σ = ev 7 (19, [some (.ref x), l1], .ref x :: st) σ) ∧
  (∀ (L : ri_L) (st : List Value) (σ : ri_S), ev 7 (19, L, st) σ = ev 7 (20, L, .int 0 :: st) σ) ∧
  (∀ (L : ri_L) (st : List Value) (σ : ri_S) (a : Nat) (x : Int32), ev 7 (20, L, .int x :: .ref a :: st) σ = tv_w 1 2 (σ.1 a) (.int x) fun fs => ev 7 (23, L, st) (ri_upd σ.1 a (.inr (.inr (1, fs))), σ.2)) ∧
  (∀ (L : ri_L) (st : List Value) (σ : ri_S), ev 7 (23, L, st) σ = ev 7 (24, L, .int 0 :: st) σ) ∧
  (∀ (l0 l1 : Option Value) (st : List Value) (σ : ri_S) (x : Int32), ev 7 (24, [l0, l1], .int x :: st) σ = ev 7 (25, [ri_clr l0, some (.int x)], st) σ) ∧
  (∀ (L : ri_L) (st : List Value) (σ : ri_S), ev 7 (26, L, st) σ = ev 7 (28, L, .int 14 :: st) σ) ∧
  (∀ (L : ri_L) (st : List Value) (σ : ri_S) (x y : Int32), ev 7 (28, L, .int y :: .int x :: st) σ = if y ≤ x then ev 7 (50, L, st) σ else ev 7 (31, L, st) σ) ∧
  (∀ (l1 : Option Value) (st : List Value) (σ : ri_S) (x : Nat), ev 7 (31, [some (.ref x), l1], st) σ = ev 7 (32, [some (.ref x), l1], .ref x :: st) σ) ∧
  (∀ (L : ri_L) (st : List Value) (σ : ri_S) (a : Nat), ev 7 (32, L, .ref a :: st) σ = tv_o 1 0 (σ.1 a) fun v => ev 7 (35, L, v :: st) σ) ∧
  (∀ (l0 : Option Value) (st : List Value) (σ : ri_S) (x : Int32), ev 7 (35, [l0, some (.int x)], st) σ = ev 7 (36, [l0, some (.int x)], .int x :: st) σ) ∧
  (∀ (L : ri_L) (st : List Value) (σ : ri_S), ev 7 (36, L, st) σ = ev 7 (39, L, .ref σ.2 :: st) (ri_upd σ.1 σ.2 (.inr (.inr (3, [.null, .null, .null, .int 0, .int 0, .int 0, .int 0, .int 0, .int 0]))), σ.2 + 1)) ∧
  (∀ (L : ri_L) (st : List Value) (σ : ri_S) (x : Nat), ev 7 (39, L, .ref x :: st) σ = ev 7 (40, L, .ref x :: .ref x :: st) σ) ∧
  (∀ (L : ri_L) (σ : ri_S) (a0 : Nat) (s0 s1 s2 : Value), ev 7 (40, L, [.ref a0, s0, s1, s2]) σ = tv_k 3 (σ.1 a0) ((cal 20 [.ref a0] σ).bind fun q => ev 7 (43, L, q.1.toList ++ [s0, s1, s2]) q.2)) ∧
  (∀ (L : ri_L) (st : List Value) (σ : ri_S) (a x : Nat) (i : Int32), ev 7 (43, L, .ref x :: .int i :: .ref a :: st) σ = tv_q (σ.1 a) i fun n f j => tv_k 3 (σ.1 x) (ev 7 (44, L, st) (ri_upd σ.1 a (.inr (.inl (n, va_up f j (some x)))), σ.2))) ∧
  (∀ (l0 : Option Value) (st : List Value) (σ : ri_S) (x : Int32), ev 7 (44, [l0, some (.int x)], st) σ = ev 7 (47, [ri_clr l0, some (.int (x + 1))], st) σ) ∧
  (∀ (L : ri_L) (st : List Value) (σ : ri_S), ev 7 (47, L, st) σ = ev 7 (25, L, st) σ) ∧
  (∀ (L : ri_L) (σ : ri_S), ev 7 (50, L, []) σ = some (none, σ)) :=
  ⟨fun l1 st σ x => ev_p ((TP_7 _).trans rfl) rfl,
   fun L σ a => ev_p ((TP_7 _).trans rfl) rfl,
   fun l1 st σ x => ev_p ((TP_7 _).trans rfl) rfl,
   fun L st σ => ev_p ((TP_7 _).trans rfl) rfl,
   fun L st σ n => ev_newq ((TP_7 _).trans rfl),
   fun L st σ a x => ev_putr ((TP_7 _).trans rfl),
   fun l1 st σ x => ev_p ((TP_7 _).trans rfl) rfl,
   fun L st σ => ev_p ((TP_7 _).trans rfl) rfl,
   fun L st σ a x => ev_puti ((TP_7 _).trans rfl),
   fun l1 st σ x => ev_p ((TP_7 _).trans rfl) rfl,
   fun L st σ => ev_p ((TP_7 _).trans rfl) rfl,
   fun L st σ a x => ev_puti ((TP_7 _).trans rfl),
   fun L st σ => ev_p ((TP_7 _).trans rfl) rfl,
   fun l0 l1 st σ x => ev_p ((TP_7 _).trans rfl) rfl,
   fun L st σ => ev_p ((TP_7 _).trans rfl) rfl,
   fun L st σ x y => ev_b ((TP_7 _).trans rfl) rfl,
   fun l1 st σ x => ev_p ((TP_7 _).trans rfl) rfl,
   fun L st σ a => ev_getf ((TP_7 _).trans rfl),
   fun l0 st σ x => ev_p ((TP_7 _).trans rfl) rfl,
   fun L st σ => ev_new ((TP_7 _).trans rfl),
   fun L st σ x => ev_p ((TP_7 _).trans rfl) rfl,
   fun L σ a0 s0 s1 s2 => ev_callv ((TP_7 _).trans rfl) rfl rfl rfl rfl,
   fun L st σ a x i => ev_aast ((TP_7 _).trans rfl),
   fun l0 st σ x => ev_p ((TP_7 _).trans rfl) rfl,
   fun L st σ => ev_p ((TP_7 _).trans rfl) rfl,
   fun L σ => ev_r ((TP_7 _).trans rfl) rfl⟩
theorem TP_8 (pc : Nat) : TT 8 pc = ri_find TL_8 pc := rfl
theorem E_8 (x0 : Nat) (σ : ri_S) : cal 8 [.ref x0] σ = ev 8 (0, [some (.ref x0)], []) σ := rfl
theorem I_8 :
  (∀ (st : List Value) (σ : ri_S) (x : Nat), ev 8 (0, [some (.ref x)], st) σ = ev 8 (1, [some (.ref x)], .ref x :: st) σ) ∧
  (∀ (L : ri_L) (st : List Value) (σ : ri_S) (a : Nat), ev 8 (1, L, .ref a :: st) σ = tv_o 1 2 (σ.1 a) fun v => ev 8 (4, L, v :: st) σ) ∧
  (∀ (L : ri_L) (st : List Value) (σ : ri_S) (x : Int32), ev 8 (4, L, .int x :: st) σ = if ¬ x = 0 then ev 8 (11, L, st) σ else ev 8 (7, L, st) σ) ∧
  (∀ (L : ri_L) (st : List Value) (σ : ri_S), ev 8 (7, L, st) σ = ev 8 (8, L, .int 1 :: st) σ) ∧
  (∀ (L : ri_L) (st : List Value) (σ : ri_S), ev 8 (8, L, st) σ = ev 8 (12, L, st) σ) ∧
  (∀ (L : ri_L) (st : List Value) (σ : ri_S), ev 8 (11, L, st) σ = ev 8 (12, L, .int 0 :: st) σ) ∧
  (∀ (L : ri_L) (σ : ri_S) (x : Int32), ev 8 (12, L, [.int x]) σ = tv_b x (some (some (.int x), σ))) :=
  ⟨fun st σ x => ev_p ((TP_8 _).trans rfl) rfl,
   fun L st σ a => ev_getf ((TP_8 _).trans rfl),
   fun L st σ x => ev_b ((TP_8 _).trans rfl) rfl,
   fun L st σ => ev_p ((TP_8 _).trans rfl) rfl,
   fun L st σ => ev_p ((TP_8 _).trans rfl) rfl,
   fun L st σ => ev_p ((TP_8 _).trans rfl) rfl,
   fun L σ x => ev_r ((TP_8 _).trans rfl) rfl⟩
theorem TP_9 (pc : Nat) : TT 9 pc = ri_find TL_9 pc := rfl
theorem E_9 (x0 : Nat) (σ : ri_S) : cal 9 [.ref x0] σ = ev 9 (0, [some (.ref x0)], []) σ := rfl
theorem I_9 :
  (∀ (st : List Value) (σ : ri_S) (x : Nat), ev 9 (0, [some (.ref x)], st) σ = ev 9 (1, [some (.ref x)], .ref x :: st) σ) ∧
  (∀ (L : ri_L) (st : List Value) (σ : ri_S), ev 9 (1, L, st) σ = ev 9 (2, L, .int 0 :: st) σ) ∧
  (∀ (L : ri_L) (st : List Value) (σ : ri_S) (a : Nat) (x : Int32), ev 9 (2, L, .int x :: .ref a :: st) σ = tv_w 1 2 (σ.1 a) (.int x) fun fs => ev 9 (5, L, st) (ri_upd σ.1 a (.inr (.inr (1, fs))), σ.2)) ∧
  (∀ (L : ri_L) (σ : ri_S), ev 9 (5, L, []) σ = some (none, σ)) :=
  ⟨fun st σ x => ev_p ((TP_9 _).trans rfl) rfl,
   fun L st σ => ev_p ((TP_9 _).trans rfl) rfl,
   fun L st σ a x => ev_puti ((TP_9 _).trans rfl),
   fun L σ => ev_r ((TP_9 _).trans rfl) rfl⟩
theorem TP_10 (pc : Nat) : TT 10 pc = ri_find TL_10 pc := rfl
theorem E_10 (x0 : Nat) (x1 : Int32) (σ : ri_S) : cal 10 [.ref x0, .int x1] σ = ev 10 (0, [some (.ref x0), some (.int x1), none], []) σ := rfl
theorem I_10 :
  (∀ (l1 l2 : Option Value) (st : List Value) (σ : ri_S) (x : Nat), ev 10 (0, [some (.ref x), l1, l2], st) σ = ev 10 (1, [some (.ref x), l1, l2], .ref x :: st) σ) ∧
  (∀ (l1 l2 : Option Value) (st : List Value) (σ : ri_S), ev 10 (0, [some .null, l1, l2], st) σ = ev 10 (1, [some .null, l1, l2], .null :: st) σ) ∧
  (∀ (L : ri_L) (st : List Value) (σ : ri_S) (a : Nat), ev 10 (1, L, .ref a :: st) σ = tv_o 1 1 (σ.1 a) fun v => ev 10 (4, L, v :: st) σ) ∧
  (∀ (l0 l2 : Option Value) (st : List Value) (σ : ri_S) (x : Int32), ev 10 (4, [l0, some (.int x), l2], st) σ = ev 10 (5, [l0, some (.int x), l2], .int x :: st) σ) ∧
  (∀ (L : ri_L) (st : List Value) (σ : ri_S) (x y : Int32), ev 10 (5, L, .int y :: .int x :: st) σ = ev 10 (6, L, .int (x + y) :: st) σ) ∧
  (∀ (L : ri_L) (st : List Value) (σ : ri_S), ev 10 (6, L, st) σ = ev 10 (8, L, .int 14 :: st) σ) ∧
  (∀ (L : ri_L) (σ : ri_S) (a0 : Int32) (a1 : Int32), ev 10 (8, L, [.int a1, .int a0]) σ = (cal 139 [.int a0, .int a1] σ).bind fun q => ev 10 (11, L, q.1.toList ++ []) q.2) ∧
  (∀ (l0 l1 l2 : Option Value) (st : List Value) (σ : ri_S) (x : Int32), ev 10 (11, [l0, l1, l2], .int x :: st) σ = ev 10 (12, [l0, ri_clr l1, some (.int x)], st) σ) ∧
  (∀ (l0 l1 : Option Value) (st : List Value) (σ : ri_S) (x : Int32), ev 10 (12, [l0, l1, some (.int x)], st) σ = ev 10 (13, [l0, l1, some (.int x)], .int x :: st) σ) ∧
  (∀ (L : ri_L) (st : List Value) (σ : ri_S) (x : Int32), ev 10 (13, L, .int x :: st) σ = if x < 0 then ev 10 (34, L, st) σ else ev 10 (16, L, st) σ) ∧
  (∀ (l0 l1 : Option Value) (st : List Value) (σ : ri_S) (x : Int32), ev 10 (16, [l0, l1, some (.int x)], st) σ = ev 10 (17, [l0, l1, some (.int x)], .int x :: st) σ) ∧
  (∀ (l1 l2 : Option Value) (st : List Value) (σ : ri_S) (x : Nat), ev 10 (17, [some (.ref x), l1, l2], st) σ = ev 10 (18, [some (.ref x), l1, l2], .ref x :: st) σ) ∧
  (∀ (l1 l2 : Option Value) (st : List Value) (σ : ri_S), ev 10 (17, [some .null, l1, l2], st) σ = ev 10 (18, [some .null, l1, l2], .null :: st) σ) ∧
  (∀ (L : ri_L) (st : List Value) (σ : ri_S) (a : Nat), ev 10 (18, L, .ref a :: st) σ = tv_o 1 0 (σ.1 a) fun v => ev 10 (21, L, v :: st) σ) ∧
  (∀ (L : ri_L) (st : List Value) (σ : ri_S) (a : Nat), ev 10 (21, L, .ref a :: st) σ = tv_n (σ.1 a) fun n => ev 10 (22, L, .int (Int32.ofNat n) :: st) σ) ∧
  (∀ (L : ri_L) (st : List Value) (σ : ri_S) (x y : Int32), ev 10 (22, L, .int y :: .int x :: st) σ = if y ≤ x then ev 10 (34, L, st) σ else ev 10 (25, L, st) σ) ∧
  (∀ (l1 l2 : Option Value) (st : List Value) (σ : ri_S) (x : Nat), ev 10 (25, [some (.ref x), l1, l2], st) σ = ev 10 (26, [some (.ref x), l1, l2], .ref x :: st) σ) ∧
  (∀ (l1 l2 : Option Value) (st : List Value) (σ : ri_S), ev 10 (25, [some .null, l1, l2], st) σ = ev 10 (26, [some .null, l1, l2], .null :: st) σ) ∧
  (∀ (L : ri_L) (st : List Value) (σ : ri_S) (a : Nat), ev 10 (26, L, .ref a :: st) σ = tv_o 1 0 (σ.1 a) fun v => ev 10 (29, L, v :: st) σ) ∧
  (∀ (l0 l1 : Option Value) (st : List Value) (σ : ri_S) (x : Int32), ev 10 (29, [l0, l1, some (.int x)], st) σ = ev 10 (30, [l0, l1, some (.int x)], .int x :: st) σ) ∧
  (∀ (L : ri_L) (st : List Value) (σ : ri_S) (a : Nat) (i : Int32), ev 10 (30, L, .int i :: .ref a :: st) σ = tv_q (σ.1 a) i fun n f j => ev 10 (31, L, tv_v (f j) :: st) σ) ∧
  (∀ (L : ri_L) (st : List Value) (σ : ri_S), ev 10 (31, L, st) σ = ev 10 (35, L, st) σ) ∧
  (∀ (L : ri_L) (st : List Value) (σ : ri_S), ev 10 (34, L, st) σ = ev 10 (35, L, .null :: st) σ) ∧
  (∀ (L : ri_L) (σ : ri_S) (x : Nat), ev 10 (35, L, [.ref x]) σ = some (some (.ref x), σ)) ∧
  (∀ (L : ri_L) (σ : ri_S), ev 10 (35, L, [.null]) σ = some (some .null, σ)) :=
  ⟨fun l1 l2 st σ x => ev_p ((TP_10 _).trans rfl) rfl,
   fun l1 l2 st σ => ev_p ((TP_10 _).trans rfl) rfl,
   fun L st σ a => ev_getf ((TP_10 _).trans rfl),
   fun l0 l2 st σ x => ev_p ((TP_10 _).trans rfl) rfl,
   fun L st σ x y => ev_p ((TP_10 _).trans rfl) rfl,
   fun L st σ => ev_p ((TP_10 _).trans rfl) rfl,
   fun L σ a0 a1 => ev_call ((TP_10 _).trans rfl) rfl rfl rfl rfl,
   fun l0 l1 l2 st σ x => ev_p ((TP_10 _).trans rfl) rfl,
   fun l0 l1 st σ x => ev_p ((TP_10 _).trans rfl) rfl,
   fun L st σ x => ev_b ((TP_10 _).trans rfl) rfl,
   fun l0 l1 st σ x => ev_p ((TP_10 _).trans rfl) rfl,
   fun l1 l2 st σ x => ev_p ((TP_10 _).trans rfl) rfl,
   fun l1 l2 st σ => ev_p ((TP_10 _).trans rfl) rfl,
   fun L st σ a => ev_getf ((TP_10 _).trans rfl),
   fun L st σ a => ev_alen ((TP_10 _).trans rfl),
   fun L st σ x y => ev_b ((TP_10 _).trans rfl) rfl,
   fun l1 l2 st σ x => ev_p ((TP_10 _).trans rfl) rfl,
   fun l1 l2 st σ => ev_p ((TP_10 _).trans rfl) rfl,
   fun L st σ a => ev_getf ((TP_10 _).trans rfl),
   fun l0 l1 st σ x => ev_p ((TP_10 _).trans rfl) rfl,
   fun L st σ a i => ev_aald ((TP_10 _).trans rfl),
   fun L st σ => ev_p ((TP_10 _).trans rfl) rfl,
   fun L st σ => ev_p ((TP_10 _).trans rfl) rfl,
   fun L σ x => ev_r ((TP_10 _).trans rfl) rfl,
   fun L σ => ev_r ((TP_10 _).trans rfl) rfl⟩
theorem TP_11 (pc : Nat) : TT 11 pc = ri_find TL_11 pc := rfl
theorem E_11 (x0 : Nat) (x1 : Nat) (σ : ri_S) : cal 11 [.ref x0, .ref x1] σ = ev 11 (0, [some (.ref x0), some (.ref x1), none], []) σ := rfl
theorem I_11_0 :
  (∀ (l1 l2 : Option Value) (st : List Value) (σ : ri_S) (x : Nat), ev 11 (0, [some (.ref x), l1, l2], st) σ = ev 11 (1, [some (.ref x), l1, l2], .ref x :: st) σ) ∧
  (∀ (l1 l2 : Option Value) (st : List Value) (σ : ri_S), ev 11 (0, [some .null, l1, l2], st) σ = ev 11 (1, [some .null, l1, l2], .null :: st) σ) ∧
  (∀ (L : ri_L) (st : List Value) (σ : ri_S) (a : Nat), ev 11 (1, L, .ref a :: st) σ = tv_o 1 2 (σ.1 a) fun v => ev 11 (4, L, v :: st) σ) ∧
  (∀ (L : ri_L) (st : List Value) (σ : ri_S), ev 11 (4, L, st) σ = ev 11 (6, L, .int 14 :: st) σ) ∧
  (∀ (L : ri_L) (st : List Value) (σ : ri_S) (x y : Int32), ev 11 (6, L, .int y :: .int x :: st) σ = if ¬ x = y then ev 11 (34, L, st) σ else ev 11 (9, L, st) σ) ∧
  (∀ (l1 l2 : Option Value) (st : List Value) (σ : ri_S) (x : Nat), ev 11 (9, [some (.ref x), l1, l2], st) σ = ev 11 (10, [some (.ref x), l1, l2], .ref x :: st) σ) ∧
  (∀ (l1 l2 : Option Value) (st : List Value) (σ : ri_S), ev 11 (9, [some .null, l1, l2], st) σ = ev 11 (10, [some .null, l1, l2], .null :: st) σ) ∧
  (∀ (l1 l2 : Option Value) (st : List Value) (σ : ri_S) (x : Nat), ev 11 (10, [some (.ref x), l1, l2], st) σ = ev 11 (11, [some (.ref x), l1, l2], .ref x :: st) σ) ∧
  (∀ (l1 l2 : Option Value) (st : List Value) (σ : ri_S), ev 11 (10, [some .null, l1, l2], st) σ = ev 11 (11, [some .null, l1, l2], .null :: st) σ) ∧
  (∀ (L : ri_L) (st : List Value) (σ : ri_S) (a : Nat), ev 11 (11, L, .ref a :: st) σ = tv_o 1 1 (σ.1 a) fun v => ev 11 (14, L, v :: st) σ) ∧
  (∀ (L : ri_L) (st : List Value) (σ : ri_S), ev 11 (14, L, st) σ = ev 11 (15, L, .int 1 :: st) σ) ∧
  (∀ (L : ri_L) (st : List Value) (σ : ri_S) (x y : Int32), ev 11 (15, L, .int y :: .int x :: st) σ = ev 11 (16, L, .int (x + y) :: st) σ) ∧
  (∀ (L : ri_L) (st : List Value) (σ : ri_S), ev 11 (16, L, st) σ = ev 11 (18, L, .int 14 :: st) σ) ∧
  (∀ (L : ri_L) (σ : ri_S) (a0 : Int32) (a1 : Int32) (s0 : Value), ev 11 (18, L, [.int a1, .int a0, s0]) σ = (cal 139 [.int a0, .int a1] σ).bind fun q => ev 11 (21, L, q.1.toList ++ [s0]) q.2) ∧
  (∀ (L : ri_L) (st : List Value) (σ : ri_S) (a : Nat) (x : Int32), ev 11 (21, L, .int x :: .ref a :: st) σ = tv_w 1 1 (σ.1 a) (.int x) fun fs => ev 11 (24, L, st) (ri_upd σ.1 a (.inr (.inr (1, fs))), σ.2)) ∧
  (∀ (l1 l2 : Option Value) (st : List Value) (σ : ri_S) (x : Nat), ev 11 (24, [some (.ref x), l1, l2], st) σ = ev 11 (25, [some (.ref x), l1, l2], .ref x :: st) σ) ∧
  (∀ (l1 l2 : Option Value) (st : List Value) (σ : ri_S), ev 11 (24, [some .null, l1, l2], st) σ = ev 11 (25, [some .null, l1, l2], .null :: st) σ) ∧
  (∀ (L : ri_L) (st : List Value) (σ : ri_S) (x : Nat), ev 11 (25, L, .ref x :: st) σ = ev 11 (26, L, .ref x :: .ref x :: st) σ) ∧
  (∀ (L : ri_L) (st : List Value) (σ : ri_S) (a : Nat), ev 11 (26, L, .ref a :: st) σ = tv_o 1 2 (σ.1 a) fun v => ev 11 (29, L, v :: st) σ) ∧
  (∀ (L : ri_L) (st : List Value) (σ : ri_S), ev 11 (29, L, st) σ = ev 11 (30, L, .int 1 :: st) σ) ∧
  (∀ (L : ri_L) (st : List Value) (σ : ri_S) (x y : Int32), ev 11 (30, L, .int y :: .int x :: st) σ = ev 11 (31, L, .int (x - y) :: st) σ) ∧
  (∀ (L : ri_L) (st : List Value) (σ : ri_S) (a : Nat) (x : Int32), ev 11 (31, L, .int x :: .ref a :: st) σ = tv_w 1 2 (σ.1 a) (.int x) fun fs => ev 11 (34, L, st) (ri_upd σ.1 a (.inr (.inr (1, fs))), σ.2)) ∧
  (∀ (l1 l2 : Option Value) (st : List Value) (σ : ri_S) (x : Nat), ev 11 (34, [some (.ref x), l1, l2], st) σ = ev 11 (35, [some (.ref x), l1, l2], .ref x :: st) σ) ∧
  (∀ (l1 l2 : Option Value) (st : List Value) (σ : ri_S), ev 11 (34, [some .null, l1, l2], st) σ = ev 11 (35, [some .null, l1, l2], .null :: st) σ) ∧
  (∀ (l1 l2 : Option Value) (st : List Value) (σ : ri_S) (x : Nat), ev 11 (35, [some (.ref x), l1, l2], st) σ = ev 11 (36, [some (.ref x), l1, l2], .ref x :: st) σ) ∧
  (∀ (l1 l2 : Option Value) (st : List Value) (σ : ri_S), ev 11 (35, [some .null, l1, l2], st) σ = ev 11 (36, [some .null, l1, l2], .null :: st) σ) ∧
  (∀ (L : ri_L) (st : List Value) (σ : ri_S) (a : Nat), ev 11 (36, L, .ref a :: st) σ = tv_o 1 2 (σ.1 a) fun v => ev 11 (39, L, v :: st) σ) ∧
  (∀ (L : ri_L) (σ : ri_S) (a0 : Nat) (a1 : Int32), ev 11 (39, L, [.int a1, .ref a0]) σ = tv_k 1 (σ.1 a0) ((cal 10 [.ref a0, .int a1] σ).bind fun q => ev 11 (42, L, q.1.toList ++ []) q.2)) ∧
  (∀ (l0 l1 l2 : Option Value) (st : List Value) (σ : ri_S) (x : Nat), ev 11 (42, [l0, l1, l2], .ref x :: st) σ = ev 11 (43, [l0, ri_clr l1, some (.ref x)], st) σ) ∧
  (∀ (l0 l1 l2 : Option Value) (st : List Value) (σ : ri_S), ev 11 (42, [l0, l1, l2], .null :: st) σ = ev 11 (43, [l0, ri_clr l1, some .null], st) σ) ∧
  (∀ (l0 l1 : Option Value) (st : List Value) (σ : ri_S) (x : Nat), ev 11 (43, [l0, l1, some (.ref x)], st) σ = ev 11 (44, [l0, l1, some (.ref x)], .ref x :: st) σ) ∧
  (∀ (l0 l1 : Option Value) (st : List Value) (σ : ri_S), ev 11 (43, [l0, l1, some .null], st) σ = ev 11 (44, [l0, l1, some .null], .null :: st) σ) ∧
  (∀ (L : ri_L) (st : List Value) (σ : ri_S), ev 11 (44, L, .null :: st) σ = ev 11 (62, L, st) σ) ∧
  (∀ (L : ri_L) (st : List Value) (σ : ri_S) (x : Nat), ev 11 (44, L, .ref x :: st) σ = ev 11 (47, L, st) σ) ∧
  (∀ (l0 l1 : Option Value) (st : List Value) (σ : ri_S) (x : Nat), ev 11 (47, [l0, l1, some (.ref x)], st) σ = ev 11 (48, [l0, l1, some (.ref x)], .ref x :: st) σ) ∧
  (∀ (l0 l1 : Option Value) (st : List Value) (σ : ri_S), ev 11 (47, [l0, l1, some .null], st) σ = ev 11 (48, [l0, l1, some .null], .null :: st) σ) ∧
  (∀ (l0 l2 : Option Value) (st : List Value) (σ : ri_S) (x : Nat), ev 11 (48, [l0, some (.ref x), l2], st) σ = ev 11 (49, [l0, some (.ref x), l2], .ref x :: st) σ) ∧
  (∀ (l0 l2 : Option Value) (st : List Value) (σ : ri_S), ev 11 (48, [l0, some .null, l2], st) σ = ev 11 (49, [l0, some .null, l2], .null :: st) σ) ∧
  (∀ (L : ri_L) (σ : ri_S) (a0 : Nat) (a1 : Nat), ev 11 (49, L, [.ref a1, .ref a0]) σ = tv_k 3 (σ.1 a0) ((cal 22 [.ref a0, .ref a1] σ).bind fun q => ev 11 (52, L, q.1.toList ++ []) q.2)) ∧
  (∀ (l1 l2 : Option Value) (st : List Value) (σ : ri_S) (x : Nat), ev 11 (52, [some (.ref x), l1, l2], st) σ = ev 11 (53, [some (.ref x), l1, l2], .ref x :: st) σ) :=
  ⟨fun l1 l2 st σ x => ev_p ((TP_11 _).trans rfl) rfl,
   fun l1 l2 st σ => ev_p ((TP_11 _).trans rfl) rfl,
   fun L st σ a => ev_getf ((TP_11 _).trans rfl),
   fun L st σ => ev_p ((TP_11 _).trans rfl) rfl,
   fun L st σ x y => ev_b ((TP_11 _).trans rfl) rfl,
   fun l1 l2 st σ x => ev_p ((TP_11 _).trans rfl) rfl,
   fun l1 l2 st σ => ev_p ((TP_11 _).trans rfl) rfl,
   fun l1 l2 st σ x => ev_p ((TP_11 _).trans rfl) rfl,
   fun l1 l2 st σ => ev_p ((TP_11 _).trans rfl) rfl,
   fun L st σ a => ev_getf ((TP_11 _).trans rfl),
   fun L st σ => ev_p ((TP_11 _).trans rfl) rfl,
   fun L st σ x y => ev_p ((TP_11 _).trans rfl) rfl,
   fun L st σ => ev_p ((TP_11 _).trans rfl) rfl,
   fun L σ a0 a1 s0 => ev_call ((TP_11 _).trans rfl) rfl rfl rfl rfl,
   fun L st σ a x => ev_puti ((TP_11 _).trans rfl),
   fun l1 l2 st σ x => ev_p ((TP_11 _).trans rfl) rfl,
   fun l1 l2 st σ => ev_p ((TP_11 _).trans rfl) rfl,
   fun L st σ x => ev_p ((TP_11 _).trans rfl) rfl,
   fun L st σ a => ev_getf ((TP_11 _).trans rfl),
   fun L st σ => ev_p ((TP_11 _).trans rfl) rfl,
   fun L st σ x y => ev_p ((TP_11 _).trans rfl) rfl,
   fun L st σ a x => ev_puti ((TP_11 _).trans rfl),
   fun l1 l2 st σ x => ev_p ((TP_11 _).trans rfl) rfl,
   fun l1 l2 st σ => ev_p ((TP_11 _).trans rfl) rfl,
   fun l1 l2 st σ x => ev_p ((TP_11 _).trans rfl) rfl,
   fun l1 l2 st σ => ev_p ((TP_11 _).trans rfl) rfl,
   fun L st σ a => ev_getf ((TP_11 _).trans rfl),
   fun L σ a0 a1 => ev_callv ((TP_11 _).trans rfl) rfl rfl rfl rfl,
   fun l0 l1 l2 st σ x => ev_p ((TP_11 _).trans rfl) rfl,
   fun l0 l1 l2 st σ => ev_p ((TP_11 _).trans rfl) rfl,
   fun l0 l1 st σ x => ev_p ((TP_11 _).trans rfl) rfl,
   fun l0 l1 st σ => ev_p ((TP_11 _).trans rfl) rfl,
   fun L st σ => ev_p ((TP_11 _).trans rfl) rfl,
   fun L st σ x => ev_p ((TP_11 _).trans rfl) rfl,
   fun l0 l1 st σ x => ev_p ((TP_11 _).trans rfl) rfl,
   fun l0 l1 st σ => ev_p ((TP_11 _).trans rfl) rfl,
   fun l0 l2 st σ x => ev_p ((TP_11 _).trans rfl) rfl,
   fun l0 l2 st σ => ev_p ((TP_11 _).trans rfl) rfl,
   fun L σ a0 a1 => ev_callv ((TP_11 _).trans rfl) rfl rfl rfl rfl,
   fun l1 l2 st σ x => ev_p ((TP_11 _).trans rfl) rfl⟩
theorem I_11_1 :
  (∀ (l1 l2 : Option Value) (st : List Value) (σ : ri_S), ev 11 (52, [some .null, l1, l2], st) σ = ev 11 (53, [some .null, l1, l2], .null :: st) σ) ∧
  (∀ (L : ri_L) (st : List Value) (σ : ri_S) (x : Nat), ev 11 (53, L, .ref x :: st) σ = ev 11 (54, L, .ref x :: .ref x :: st) σ) ∧
  (∀ (L : ri_L) (st : List Value) (σ : ri_S) (a : Nat), ev 11 (54, L, .ref a :: st) σ = tv_o 1 2 (σ.1 a) fun v => ev 11 (57, L, v :: st) σ) ∧
  (∀ (L : ri_L) (st : List Value) (σ : ri_S), ev 11 (57, L, st) σ = ev 11 (58, L, .int 1 :: st) σ) ∧
  (∀ (L : ri_L) (st : List Value) (σ : ri_S) (x y : Int32), ev 11 (58, L, .int y :: .int x :: st) σ = ev 11 (59, L, .int (x + y) :: st) σ) ∧
  (∀ (L : ri_L) (st : List Value) (σ : ri_S) (a : Nat) (x : Int32), ev 11 (59, L, .int x :: .ref a :: st) σ = tv_w 1 2 (σ.1 a) (.int x) fun fs => ev 11 (62, L, st) (ri_upd σ.1 a (.inr (.inr (1, fs))), σ.2)) ∧
  (∀ (L : ri_L) (σ : ri_S), ev 11 (62, L, []) σ = some (none, σ)) :=
  ⟨fun l1 l2 st σ => ev_p ((TP_11 _).trans rfl) rfl,
   fun L st σ x => ev_p ((TP_11 _).trans rfl) rfl,
   fun L st σ a => ev_getf ((TP_11 _).trans rfl),
   fun L st σ => ev_p ((TP_11 _).trans rfl) rfl,
   fun L st σ x y => ev_p ((TP_11 _).trans rfl) rfl,
   fun L st σ a x => ev_puti ((TP_11 _).trans rfl),
   fun L σ => ev_r ((TP_11 _).trans rfl) rfl⟩
theorem TP_12 (pc : Nat) : TT 12 pc = ri_find TL_12 pc := rfl
theorem E_12 (x0 : Nat) (x1 : Nat) (σ : ri_S) : cal 12 [.ref x0, .ref x1] σ = ev 12 (0, [some (.ref x0), some (.ref x1), none], []) σ := rfl
theorem I_12 :
  (∀ (l1 l2 : Option Value) (st : List Value) (σ : ri_S) (x : Nat), ev 12 (0, [some (.ref x), l1, l2], st) σ = ev 12 (1, [some (.ref x), l1, l2], .ref x :: st) σ) ∧
  (∀ (l1 l2 : Option Value) (st : List Value) (σ : ri_S), ev 12 (0, [some .null, l1, l2], st) σ = ev 12 (1, [some .null, l1, l2], .null :: st) σ) ∧
  (∀ (l1 l2 : Option Value) (st : List Value) (σ : ri_S) (x : Nat), ev 12 (1, [some (.ref x), l1, l2], st) σ = ev 12 (2, [some (.ref x), l1, l2], .ref x :: st) σ) ∧
  (∀ (l1 l2 : Option Value) (st : List Value) (σ : ri_S), ev 12 (1, [some .null, l1, l2], st) σ = ev 12 (2, [some .null, l1, l2], .null :: st) σ) ∧
  (∀ (L : ri_L) (st : List Value) (σ : ri_S) (a : Nat), ev 12 (2, L, .ref a :: st) σ = tv_o 1 2 (σ.1 a) fun v => ev 12 (5, L, v :: st) σ) ∧
  (∀ (L : ri_L) (st : List Value) (σ : ri_S), ev 12 (5, L, st) σ = ev 12 (6, L, .int 1 :: st) σ) ∧
  (∀ (L : ri_L) (st : List Value) (σ : ri_S) (x y : Int32), ev 12 (6, L, .int y :: .int x :: st) σ = ev 12 (7, L, .int (x - y) :: st) σ) ∧
  (∀ (L : ri_L) (σ : ri_S) (a0 : Nat) (a1 : Int32), ev 12 (7, L, [.int a1, .ref a0]) σ = tv_k 1 (σ.1 a0) ((cal 10 [.ref a0, .int a1] σ).bind fun q => ev 12 (10, L, q.1.toList ++ []) q.2)) ∧
  (∀ (l0 l1 l2 : Option Value) (st : List Value) (σ : ri_S) (x : Nat), ev 12 (10, [l0, l1, l2], .ref x :: st) σ = ev 12 (11, [l0, ri_clr l1, some (.ref x)], st) σ) ∧
  (∀ (l0 l1 l2 : Option Value) (st : List Value) (σ : ri_S), ev 12 (10, [l0, l1, l2], .null :: st) σ = ev 12 (11, [l0, ri_clr l1, some .null], st) σ) ∧
  (∀ (l0 l1 : Option Value) (st : List Value) (σ : ri_S) (x : Nat), ev 12 (11, [l0, l1, some (.ref x)], st) σ = ev 12 (12, [l0, l1, some (.ref x)], .ref x :: st) σ) ∧
  (∀ (l0 l1 : Option Value) (st : List Value) (σ : ri_S), ev 12 (11, [l0, l1, some .null], st) σ = ev 12 (12, [l0, l1, some .null], .null :: st) σ) ∧
  (∀ (L : ri_L) (st : List Value) (σ : ri_S), ev 12 (12, L, .null :: st) σ = ev 12 (37, L, st) σ) ∧
  (∀ (L : ri_L) (st : List Value) (σ : ri_S) (x : Nat), ev 12 (12, L, .ref x :: st) σ = ev 12 (15, L, st) σ) ∧
  (∀ (l1 l2 : Option Value) (st : List Value) (σ : ri_S) (x : Nat), ev 12 (15, [some (.ref x), l1, l2], st) σ = ev 12 (16, [some (.ref x), l1, l2], .ref x :: st) σ) ∧
  (∀ (l1 l2 : Option Value) (st : List Value) (σ : ri_S), ev 12 (15, [some .null, l1, l2], st) σ = ev 12 (16, [some .null, l1, l2], .null :: st) σ) ∧
  (∀ (L : ri_L) (st : List Value) (σ : ri_S) (a : Nat), ev 12 (16, L, .ref a :: st) σ = tv_o 1 2 (σ.1 a) fun v => ev 12 (19, L, v :: st) σ) ∧
  (∀ (L : ri_L) (st : List Value) (σ : ri_S) (x : Int32), ev 12 (19, L, .int x :: st) σ = if x ≤ 0 then ev 12 (37, L, st) σ else ev 12 (22, L, st) σ) ∧
  (∀ (l0 l2 : Option Value) (st : List Value) (σ : ri_S) (x : Nat), ev 12 (22, [l0, some (.ref x), l2], st) σ = ev 12 (23, [l0, some (.ref x), l2], .ref x :: st) σ) ∧
  (∀ (l0 l2 : Option Value) (st : List Value) (σ : ri_S), ev 12 (22, [l0, some .null, l2], st) σ = ev 12 (23, [l0, some .null, l2], .null :: st) σ) ∧
  (∀ (l0 l1 : Option Value) (st : List Value) (σ : ri_S) (x : Nat), ev 12 (23, [l0, l1, some (.ref x)], st) σ = ev 12 (24, [l0, l1, some (.ref x)], .ref x :: st) σ) ∧
  (∀ (l0 l1 : Option Value) (st : List Value) (σ : ri_S), ev 12 (23, [l0, l1, some .null], st) σ = ev 12 (24, [l0, l1, some .null], .null :: st) σ) ∧
  (∀ (L : ri_L) (σ : ri_S) (a0 : Nat) (a1 : Nat), ev 12 (24, L, [.ref a1, .ref a0]) σ = tv_k 3 (σ.1 a0) ((cal 22 [.ref a0, .ref a1] σ).bind fun q => ev 12 (27, L, q.1.toList ++ []) q.2)) ∧
  (∀ (l1 l2 : Option Value) (st : List Value) (σ : ri_S) (x : Nat), ev 12 (27, [some (.ref x), l1, l2], st) σ = ev 12 (28, [some (.ref x), l1, l2], .ref x :: st) σ) ∧
  (∀ (l1 l2 : Option Value) (st : List Value) (σ : ri_S), ev 12 (27, [some .null, l1, l2], st) σ = ev 12 (28, [some .null, l1, l2], .null :: st) σ) ∧
  (∀ (L : ri_L) (st : List Value) (σ : ri_S) (x : Nat), ev 12 (28, L, .ref x :: st) σ = ev 12 (29, L, .ref x :: .ref x :: st) σ) ∧
  (∀ (L : ri_L) (st : List Value) (σ : ri_S) (a : Nat), ev 12 (29, L, .ref a :: st) σ = tv_o 1 2 (σ.1 a) fun v => ev 12 (32, L, v :: st) σ) ∧
  (∀ (L : ri_L) (st : List Value) (σ : ri_S), ev 12 (32, L, st) σ = ev 12 (33, L, .int 1 :: st) σ) ∧
  (∀ (L : ri_L) (st : List Value) (σ : ri_S) (x y : Int32), ev 12 (33, L, .int y :: .int x :: st) σ = ev 12 (34, L, .int (x - y) :: st) σ) ∧
  (∀ (L : ri_L) (st : List Value) (σ : ri_S) (a : Nat) (x : Int32), ev 12 (34, L, .int x :: .ref a :: st) σ = tv_w 1 2 (σ.1 a) (.int x) fun fs => ev 12 (37, L, st) (ri_upd σ.1 a (.inr (.inr (1, fs))), σ.2)) ∧
  (∀ (l1 l2 : Option Value) (st : List Value) (σ : ri_S) (x : Nat), ev 12 (37, [some (.ref x), l1, l2], st) σ = ev 12 (38, [some (.ref x), l1, l2], .ref x :: st) σ) ∧
  (∀ (l1 l2 : Option Value) (st : List Value) (σ : ri_S), ev 12 (37, [some .null, l1, l2], st) σ = ev 12 (38, [some .null, l1, l2], .null :: st) σ) ∧
  (∀ (L : ri_L) (st : List Value) (σ : ri_S) (a : Nat), ev 12 (38, L, .ref a :: st) σ = tv_o 1 2 (σ.1 a) fun v => ev 12 (41, L, v :: st) σ) ∧
  (∀ (L : ri_L) (σ : ri_S) (x : Int32), ev 12 (41, L, [.int x]) σ = some (some (.int x), σ)) :=
  ⟨fun l1 l2 st σ x => ev_p ((TP_12 _).trans rfl) rfl,
   fun l1 l2 st σ => ev_p ((TP_12 _).trans rfl) rfl,
   fun l1 l2 st σ x => ev_p ((TP_12 _).trans rfl) rfl,
   fun l1 l2 st σ => ev_p ((TP_12 _).trans rfl) rfl,
   fun L st σ a => ev_getf ((TP_12 _).trans rfl),
   fun L st σ => ev_p ((TP_12 _).trans rfl) rfl,
   fun L st σ x y => ev_p ((TP_12 _).trans rfl) rfl,
   fun L σ a0 a1 => ev_callv ((TP_12 _).trans rfl) rfl rfl rfl rfl,
   fun l0 l1 l2 st σ x => ev_p ((TP_12 _).trans rfl) rfl,
   fun l0 l1 l2 st σ => ev_p ((TP_12 _).trans rfl) rfl,
   fun l0 l1 st σ x => ev_p ((TP_12 _).trans rfl) rfl,
   fun l0 l1 st σ => ev_p ((TP_12 _).trans rfl) rfl,
   fun L st σ => ev_p ((TP_12 _).trans rfl) rfl,
   fun L st σ x => ev_p ((TP_12 _).trans rfl) rfl,
   fun l1 l2 st σ x => ev_p ((TP_12 _).trans rfl) rfl,
   fun l1 l2 st σ => ev_p ((TP_12 _).trans rfl) rfl,
   fun L st σ a => ev_getf ((TP_12 _).trans rfl),
   fun L st σ x => ev_b ((TP_12 _).trans rfl) rfl,
   fun l0 l2 st σ x => ev_p ((TP_12 _).trans rfl) rfl,
   fun l0 l2 st σ => ev_p ((TP_12 _).trans rfl) rfl,
   fun l0 l1 st σ x => ev_p ((TP_12 _).trans rfl) rfl,
   fun l0 l1 st σ => ev_p ((TP_12 _).trans rfl) rfl,
   fun L σ a0 a1 => ev_callv ((TP_12 _).trans rfl) rfl rfl rfl rfl,
   fun l1 l2 st σ x => ev_p ((TP_12 _).trans rfl) rfl,
   fun l1 l2 st σ => ev_p ((TP_12 _).trans rfl) rfl,
   fun L st σ x => ev_p ((TP_12 _).trans rfl) rfl,
   fun L st σ a => ev_getf ((TP_12 _).trans rfl),
   fun L st σ => ev_p ((TP_12 _).trans rfl) rfl,
   fun L st σ x y => ev_p ((TP_12 _).trans rfl) rfl,
   fun L st σ a x => ev_puti ((TP_12 _).trans rfl),
   fun l1 l2 st σ x => ev_p ((TP_12 _).trans rfl) rfl,
   fun l1 l2 st σ => ev_p ((TP_12 _).trans rfl) rfl,
   fun L st σ a => ev_getf ((TP_12 _).trans rfl),
   fun L σ x => ev_r ((TP_12 _).trans rfl) rfl⟩
theorem TP_13 (pc : Nat) : TT 13 pc = ri_find TL_13 pc := rfl
theorem E_13 (x0 : Nat) (σ : ri_S) : cal 13 [.ref x0] σ = ev 13 (0, [some (.ref x0)], []) σ := rfl
theorem I_13 :
  (∀ (st : List Value) (σ : ri_S) (x : Nat), ev 13 (0, [some (.ref x)], st) σ = ev 13 (1, [some (.ref x)], .ref x :: st) σ) ∧
  (∀ (L : ri_L) (σ : ri_S) (a : Nat), ev 13 (1, L, [.ref a]) σ = ev 13 (4, L, []) σ) ∧
  (∀ (st : List Value) (σ : ri_S) (x : Nat), ev 13 (4, [some (.ref x)], st) σ = ev 13 (5, [some (.ref x)], .ref x :: st) σ) ∧
  (∀ (L : ri_L) (st : List Value) (σ : ri_S), ev 13 (5, L, st) σ = ev 13 (6, L, .int 0 :: st) σ) ∧
  (∀ (L : ri_L) (st : List Value) (σ : ri_S) (a : Nat) (x : Int32), ev 13 (6, L, .int x :: .ref a :: st) σ = tv_w 2 0 (σ.1 a) (.int x) fun fs => ev 13 (9, L, st) (ri_upd σ.1 a (.inr (.inr (2, fs))), σ.2)) ∧
  (∀ (st : List Value) (σ : ri_S) (x : Nat), ev 13 (9, [some (.ref x)], st) σ = ev 13 (10, [some (.ref x)], .ref x :: st) σ) ∧
  (∀ (L : ri_L) (st : List Value) (σ : ri_S), ev 13 (10, L, st) σ = ev 13 (12, L, .int 8 :: st) σ) ∧
  (∀ (L : ri_L) (st : List Value) (σ : ri_S) (n : Int32), ev 13 (12, L, .int n :: st) σ = if n < 0 ∨ 2000 < n.toNatClampNeg then none else ev 13 (14, L, .ref σ.2 :: st) (ri_upd σ.1 σ.2 (.inl (0, n.toNatClampNeg, fun _ => 0)), σ.2 + 1)) ∧
  (∀ (L : ri_L) (st : List Value) (σ : ri_S) (a : Nat) (x : Nat), ev 13 (14, L, .ref x :: .ref a :: st) σ = tv_w 2 1 (σ.1 a) (.ref x) fun fs => ev 13 (17, L, st) (ri_upd σ.1 a (.inr (.inr (2, fs))), σ.2)) ∧
  (∀ (st : List Value) (σ : ri_S) (x : Nat), ev 13 (17, [some (.ref x)], st) σ = ev 13 (18, [some (.ref x)], .ref x :: st) σ) ∧
  (∀ (L : ri_L) (st : List Value) (σ : ri_S), ev 13 (18, L, st) σ = ev 13 (20, L, .int 8 :: st) σ) ∧
  (∀ (L : ri_L) (st : List Value) (σ : ri_S) (n : Int32), ev 13 (20, L, .int n :: st) σ = if n < 0 ∨ 2000 < n.toNatClampNeg then none else ev 13 (22, L, .ref σ.2 :: st) (ri_upd σ.1 σ.2 (.inl (0, n.toNatClampNeg, fun _ => 0)), σ.2 + 1)) ∧
  (∀ (L : ri_L) (st : List Value) (σ : ri_S) (a : Nat) (x : Nat), ev 13 (22, L, .ref x :: .ref a :: st) σ = tv_w 2 2 (σ.1 a) (.ref x) fun fs => ev 13 (25, L, st) (ri_upd σ.1 a (.inr (.inr (2, fs))), σ.2)) ∧
  (∀ (L : ri_L) (σ : ri_S), ev 13 (25, L, []) σ = some (none, σ)) :=
  ⟨fun st σ x => ev_p ((TP_13 _).trans rfl) rfl,
   fun L σ a => ev_p ((TP_13 _).trans rfl) rfl,
   fun st σ x => ev_p ((TP_13 _).trans rfl) rfl,
   fun L st σ => ev_p ((TP_13 _).trans rfl) rfl,
   fun L st σ a x => ev_puti ((TP_13 _).trans rfl),
   fun st σ x => ev_p ((TP_13 _).trans rfl) rfl,
   fun L st σ => ev_p ((TP_13 _).trans rfl) rfl,
   fun L st σ n => ev_newa ((TP_13 _).trans rfl),
   fun L st σ a x => ev_putr ((TP_13 _).trans rfl),
   fun st σ x => ev_p ((TP_13 _).trans rfl) rfl,
   fun L st σ => ev_p ((TP_13 _).trans rfl) rfl,
   fun L st σ n => ev_newa ((TP_13 _).trans rfl),
   fun L st σ a x => ev_putr ((TP_13 _).trans rfl),
   fun L σ => ev_r ((TP_13 _).trans rfl) rfl⟩
theorem TP_14 (pc : Nat) : TT 14 pc = ri_find TL_14 pc := rfl
theorem E_14 (x0 : Nat) (x1 : Int32) (σ : ri_S) : cal 14 [.ref x0, .int x1] σ = ev 14 (0, [some (.ref x0), some (.int x1)], []) σ := rfl
theorem I_14 :
  (∀ (l0 : Option Value) (st : List Value) (σ : ri_S) (x : Int32), ev 14 (0, [l0, some (.int x)], st) σ = ev 14 (1, [l0, some (.int x)], .int x :: st) σ) ∧
  (∀ (L : ri_L) (st : List Value) (σ : ri_S) (x : Int32), ev 14 (1, L, .int x :: st) σ = if x < 0 then ev 14 (16, L, st) σ else ev 14 (4, L, st) σ) ∧
  (∀ (l0 : Option Value) (st : List Value) (σ : ri_S) (x : Int32), ev 14 (4, [l0, some (.int x)], st) σ = ev 14 (5, [l0, some (.int x)], .int x :: st) σ) ∧
  (∀ (l1 : Option Value) (st : List Value) (σ : ri_S) (x : Nat), ev 14 (5, [some (.ref x), l1], st) σ = ev 14 (6, [some (.ref x), l1], .ref x :: st) σ) ∧
  (∀ (L : ri_L) (st : List Value) (σ : ri_S) (a : Nat), ev 14 (6, L, .ref a :: st) σ = tv_o 2 0 (σ.1 a) fun v => ev 14 (9, L, v :: st) σ) ∧
  (∀ (L : ri_L) (st : List Value) (σ : ri_S) (x y : Int32), ev 14 (9, L, .int y :: .int x :: st) σ = if y ≤ x then ev 14 (16, L, st) σ else ev 14 (12, L, st) σ) ∧
  (∀ (L : ri_L) (st : List Value) (σ : ri_S), ev 14 (12, L, st) σ = ev 14 (13, L, .int 1 :: st) σ) ∧
  (∀ (L : ri_L) (st : List Value) (σ : ri_S), ev 14 (13, L, st) σ = ev 14 (17, L, st) σ) ∧
  (∀ (L : ri_L) (st : List Value) (σ : ri_S), ev 14 (16, L, st) σ = ev 14 (17, L, .int 0 :: st) σ) ∧
  (∀ (L : ri_L) (σ : ri_S) (x : Int32), ev 14 (17, L, [.int x]) σ = tv_b x (some (some (.int x), σ))) :=
  ⟨fun l0 st σ x => ev_p ((TP_14 _).trans rfl) rfl,
   fun L st σ x => ev_b ((TP_14 _).trans rfl) rfl,
   fun l0 st σ x => ev_p ((TP_14 _).trans rfl) rfl,
   fun l1 st σ x => ev_p ((TP_14 _).trans rfl) rfl,
   fun L st σ a => ev_getf ((TP_14 _).trans rfl),
   fun L st σ x y => ev_b ((TP_14 _).trans rfl) rfl,
   fun L st σ => ev_p ((TP_14 _).trans rfl) rfl,
   fun L st σ => ev_p ((TP_14 _).trans rfl) rfl,
   fun L st σ => ev_p ((TP_14 _).trans rfl) rfl,
   fun L σ x => ev_r ((TP_14 _).trans rfl) rfl⟩
theorem TP_15 (pc : Nat) : TT 15 pc = ri_find TL_15 pc := rfl
theorem E_15 (x0 : Nat) (x1 : Int32) (x2 : Int32) (σ : ri_S) : cal 15 [.ref x0, .int x1, .int x2] σ = ev 15 (0, [some (.ref x0), some (.int x1), some (.int x2), none], []) σ := rfl
theorem I_15 :
  (∀ (l1 l2 l3 : Option Value) (st : List Value) (σ : ri_S) (x : Nat), ev 15 (0, [some (.ref x), l1, l2, l3], st) σ = ev 15 (1, [some (.ref x), l1, l2, l3], .ref x :: st) σ) ∧
  (∀ (L : ri_L) (st : List Value) (σ : ri_S) (a : Nat), ev 15 (1, L, .ref a :: st) σ = tv_o 2 0 (σ.1 a) fun v => ev 15 (4, L, v :: st) σ) ∧
  (∀ (l0 l1 l2 l3 : Option Value) (st : List Value) (σ : ri_S) (x : Int32), ev 15 (4, [l0, l1, l2, l3], .int x :: st) σ = ev 15 (5, [l0, l1, ri_clr l2, some (.int x)], st) σ) ∧
  (∀ (l1 l2 l3 : Option Value) (st : List Value) (σ : ri_S) (x : Nat), ev 15 (5, [some (.ref x), l1, l2, l3], st) σ = ev 15 (6, [some (.ref x), l1, l2, l3], .ref x :: st) σ) ∧
  (∀ (L : ri_L) (st : List Value) (σ : ri_S) (a : Nat), ev 15 (6, L, .ref a :: st) σ = tv_o 2 1 (σ.1 a) fun v => ev 15 (9, L, v :: st) σ) ∧
  (∀ (l0 l1 l2 : Option Value) (st : List Value) (σ : ri_S) (x : Int32), ev 15 (9, [l0, l1, l2, some (.int x)], st) σ = ev 15 (10, [l0, l1, l2, some (.int x)], .int x :: st) σ) ∧
  (∀ (l0 l2 l3 : Option Value) (st : List Value) (σ : ri_S) (x : Int32), ev 15 (10, [l0, some (.int x), l2, l3], st) σ = ev 15 (11, [l0, some (.int x), l2, l3], .int x :: st) σ) ∧
  (∀ (L : ri_L) (σ : ri_S) (a0 : Nat) (a1 : Int32) (a2 : Int32), ev 15 (11, L, [.int a2, .int a1, .ref a0]) σ = (cal 141 [.ref a0, .int a1, .int a2] σ).bind fun q => ev 15 (14, L, q.1.toList ++ []) q.2) ∧
  (∀ (l1 l2 l3 : Option Value) (st : List Value) (σ : ri_S) (x : Nat), ev 15 (14, [some (.ref x), l1, l2, l3], st) σ = ev 15 (15, [some (.ref x), l1, l2, l3], .ref x :: st) σ) ∧
  (∀ (L : ri_L) (st : List Value) (σ : ri_S) (a : Nat), ev 15 (15, L, .ref a :: st) σ = tv_o 2 2 (σ.1 a) fun v => ev 15 (18, L, v :: st) σ) ∧
  (∀ (l0 l1 l2 : Option Value) (st : List Value) (σ : ri_S) (x : Int32), ev 15 (18, [l0, l1, l2, some (.int x)], st) σ = ev 15 (19, [l0, l1, l2, some (.int x)], .int x :: st) σ) ∧
  (∀ (l0 l1 l3 : Option Value) (st : List Value) (σ : ri_S) (x : Int32), ev 15 (19, [l0, l1, some (.int x), l3], st) σ = ev 15 (20, [l0, l1, some (.int x), l3], .int x :: st) σ) ∧
  (∀ (L : ri_L) (σ : ri_S) (a0 : Nat) (a1 : Int32) (a2 : Int32), ev 15 (20, L, [.int a2, .int a1, .ref a0]) σ = (cal 141 [.ref a0, .int a1, .int a2] σ).bind fun q => ev 15 (23, L, q.1.toList ++ []) q.2) ∧
  (∀ (l1 l2 l3 : Option Value) (st : List Value) (σ : ri_S) (x : Nat), ev 15 (23, [some (.ref x), l1, l2, l3], st) σ = ev 15 (24, [some (.ref x), l1, l2, l3], .ref x :: st) σ) ∧
  (∀ (L : ri_L) (st : List Value) (σ : ri_S) (x : Nat), ev 15 (24, L, .ref x :: st) σ = ev 15 (25, L, .ref x :: .ref x :: st) σ) ∧
  (∀ (L : ri_L) (st : List Value) (σ : ri_S) (a : Nat), ev 15 (25, L, .ref a :: st) σ = tv_o 2 0 (σ.1 a) fun v => ev 15 (28, L, v :: st) σ) ∧
  (∀ (L : ri_L) (st : List Value) (σ : ri_S), ev 15 (28, L, st) σ = ev 15 (29, L, .int 1 :: st) σ) ∧
  (∀ (L : ri_L) (st : List Value) (σ : ri_S) (x y : Int32), ev 15 (29, L, .int y :: .int x :: st) σ = ev 15 (30, L, .int (x + y) :: st) σ) ∧
  (∀ (L : ri_L) (st : List Value) (σ : ri_S) (a : Nat) (x : Int32), ev 15 (30, L, .int x :: .ref a :: st) σ = tv_w 2 0 (σ.1 a) (.int x) fun fs => ev 15 (33, L, st) (ri_upd σ.1 a (.inr (.inr (2, fs))), σ.2)) ∧
  (∀ (l0 l1 l2 : Option Value) (st : List Value) (σ : ri_S) (x : Int32), ev 15 (33, [l0, l1, l2, some (.int x)], st) σ = ev 15 (34, [l0, l1, l2, some (.int x)], .int x :: st) σ) ∧
  (∀ (L : ri_L) (σ : ri_S) (x : Int32), ev 15 (34, L, [.int x]) σ = some (some (.int x), σ)) :=
  ⟨fun l1 l2 l3 st σ x => ev_p ((TP_15 _).trans rfl) rfl,
   fun L st σ a => ev_getf ((TP_15 _).trans rfl),
   fun l0 l1 l2 l3 st σ x => ev_p ((TP_15 _).trans rfl) rfl,
   fun l1 l2 l3 st σ x => ev_p ((TP_15 _).trans rfl) rfl,
   fun L st σ a => ev_getf ((TP_15 _).trans rfl),
   fun l0 l1 l2 st σ x => ev_p ((TP_15 _).trans rfl) rfl,
   fun l0 l2 l3 st σ x => ev_p ((TP_15 _).trans rfl) rfl,
   fun L σ a0 a1 a2 => ev_call ((TP_15 _).trans rfl) rfl rfl rfl rfl,
   fun l1 l2 l3 st σ x => ev_p ((TP_15 _).trans rfl) rfl,
   fun L st σ a => ev_getf ((TP_15 _).trans rfl),
   fun l0 l1 l2 st σ x => ev_p ((TP_15 _).trans rfl) rfl,
   fun l0 l1 l3 st σ x => ev_p ((TP_15 _).trans rfl) rfl,
   fun L σ a0 a1 a2 => ev_call ((TP_15 _).trans rfl) rfl rfl rfl rfl,
   fun l1 l2 l3 st σ x => ev_p ((TP_15 _).trans rfl) rfl,
   fun L st σ x => ev_p ((TP_15 _).trans rfl) rfl,
   fun L st σ a => ev_getf ((TP_15 _).trans rfl),
   fun L st σ => ev_p ((TP_15 _).trans rfl) rfl,
   fun L st σ x y => ev_p ((TP_15 _).trans rfl) rfl,
   fun L st σ a x => ev_puti ((TP_15 _).trans rfl),
   fun l0 l1 l2 st σ x => ev_p ((TP_15 _).trans rfl) rfl,
   fun L σ x => ev_r ((TP_15 _).trans rfl) rfl⟩
theorem TP_16 (pc : Nat) : TT 16 pc = ri_find TL_16 pc := rfl
theorem E_16 (x0 : Nat) (x1 : Int32) (x2 : Int32) (σ : ri_S) : cal 16 [.ref x0, .int x1, .int x2] σ = ev 16 (0, [some (.ref x0), some (.int x1), some (.int x2)], []) σ := rfl
theorem I_16 :
  (∀ (l1 l2 : Option Value) (st : List Value) (σ : ri_S) (x : Nat), ev 16 (0, [some (.ref x), l1, l2], st) σ = ev 16 (1, [some (.ref x), l1, l2], .ref x :: st) σ) ∧
  (∀ (L : ri_L) (st : List Value) (σ : ri_S) (a : Nat), ev 16 (1, L, .ref a :: st) σ = tv_o 2 1 (σ.1 a) fun v => ev 16 (4, L, v :: st) σ) ∧
  (∀ (l0 l2 : Option Value) (st : List Value) (σ : ri_S) (x : Int32), ev 16 (4, [l0, some (.int x), l2], st) σ = ev 16 (5, [l0, some (.int x), l2], .int x :: st) σ) ∧
  (∀ (L : ri_L) (σ : ri_S) (a0 : Nat) (a1 : Int32), ev 16 (5, L, [.int a1, .ref a0]) σ = (cal 140 [.ref a0, .int a1] σ).bind fun q => ev 16 (8, L, q.1.toList ++ []) q.2) ∧
  (∀ (l0 l1 : Option Value) (st : List Value) (σ : ri_S) (x : Int32), ev 16 (8, [l0, l1, some (.int x)], st) σ = ev 16 (9, [l0, l1, some (.int x)], .int x :: st) σ) ∧
  (∀ (L : ri_L) (st : List Value) (σ : ri_S) (x y : Int32), ev 16 (9, L, .int y :: .int x :: st) σ = if ¬ x = y then ev 16 (21, L, st) σ else ev 16 (12, L, st) σ) ∧
  (∀ (l1 l2 : Option Value) (st : List Value) (σ : ri_S) (x : Nat), ev 16 (12, [some (.ref x), l1, l2], st) σ = ev 16 (13, [some (.ref x), l1, l2], .ref x :: st) σ) ∧
  (∀ (L : ri_L) (st : List Value) (σ : ri_S) (a : Nat), ev 16 (13, L, .ref a :: st) σ = tv_o 2 2 (σ.1 a) fun v => ev 16 (16, L, v :: st) σ) ∧
  (∀ (l0 l2 : Option Value) (st : List Value) (σ : ri_S) (x : Int32), ev 16 (16, [l0, some (.int x), l2], st) σ = ev 16 (17, [l0, some (.int x), l2], .int x :: st) σ) ∧
  (∀ (L : ri_L) (σ : ri_S) (a0 : Nat) (a1 : Int32), ev 16 (17, L, [.int a1, .ref a0]) σ = (cal 140 [.ref a0, .int a1] σ).bind fun q => ev 16 (20, L, q.1.toList ++ []) q.2) ∧
  (∀ (L : ri_L) (σ : ri_S) (x : Int32), ev 16 (20, L, [.int x]) σ = some (some (.int x), σ)) ∧
  (∀ (l1 l2 : Option Value) (st : List Value) (σ : ri_S) (x : Nat), ev 16 (21, [some (.ref x), l1, l2], st) σ = ev 16 (22, [some (.ref x), l1, l2], .ref x :: st) σ) ∧
  (∀ (L : ri_L) (st : List Value) (σ : ri_S) (a : Nat), ev 16 (22, L, .ref a :: st) σ = tv_o 2 2 (σ.1 a) fun v => ev 16 (25, L, v :: st) σ) ∧
  (∀ (l0 l2 : Option Value) (st : List Value) (σ : ri_S) (x : Int32), ev 16 (25, [l0, some (.int x), l2], st) σ = ev 16 (26, [l0, some (.int x), l2], .int x :: st) σ) ∧
  (∀ (L : ri_L) (σ : ri_S) (a0 : Nat) (a1 : Int32), ev 16 (26, L, [.int a1, .ref a0]) σ = (cal 140 [.ref a0, .int a1] σ).bind fun q => ev 16 (29, L, q.1.toList ++ []) q.2) ∧
  (∀ (l0 l1 : Option Value) (st : List Value) (σ : ri_S) (x : Int32), ev 16 (29, [l0, l1, some (.int x)], st) σ = ev 16 (30, [l0, l1, some (.int x)], .int x :: st) σ) ∧
  (∀ (L : ri_L) (st : List Value) (σ : ri_S) (x y : Int32), ev 16 (30, L, .int y :: .int x :: st) σ = if ¬ x = y then ev 16 (44, L, st) σ else ev 16 (33, L, st) σ) ∧
  (∀ (l1 l2 : Option Value) (st : List Value) (σ : ri_S) (x : Nat), ev 16 (33, [some (.ref x), l1, l2], st) σ = ev 16 (34, [some (.ref x), l1, l2], .ref x :: st) σ) ∧
  (∀ (L : ri_L) (st : List Value) (σ : ri_S) (a : Nat), ev 16 (34, L, .ref a :: st) σ = tv_o 2 1 (σ.1 a) fun v => ev 16 (37, L, v :: st) σ) ∧
  (∀ (l0 l2 : Option Value) (st : List Value) (σ : ri_S) (x : Int32), ev 16 (37, [l0, some (.int x), l2], st) σ = ev 16 (38, [l0, some (.int x), l2], .int x :: st) σ) ∧
  (∀ (L : ri_L) (σ : ri_S) (a0 : Nat) (a1 : Int32), ev 16 (38, L, [.int a1, .ref a0]) σ = (cal 140 [.ref a0, .int a1] σ).bind fun q => ev 16 (41, L, q.1.toList ++ []) q.2) ∧
  (∀ (L : ri_L) (st : List Value) (σ : ri_S), ev 16 (41, L, st) σ = ev 16 (45, L, st) σ) ∧
  (∀ (L : ri_L) (st : List Value) (σ : ri_S), ev 16 (44, L, st) σ = ev 16 (45, L, .int (-1) :: st) σ) ∧
  (∀ (L : ri_L) (σ : ri_S) (x : Int32), ev 16 (45, L, [.int x]) σ = some (some (.int x), σ)) :=
  ⟨fun l1 l2 st σ x => ev_p ((TP_16 _).trans rfl) rfl,
   fun L st σ a => ev_getf ((TP_16 _).trans rfl),
   fun l0 l2 st σ x => ev_p ((TP_16 _).trans rfl) rfl,
   fun L σ a0 a1 => ev_call ((TP_16 _).trans rfl) rfl rfl rfl rfl,
   fun l0 l1 st σ x => ev_p ((TP_16 _).trans rfl) rfl,
   fun L st σ x y => ev_b ((TP_16 _).trans rfl) rfl,
   fun l1 l2 st σ x => ev_p ((TP_16 _).trans rfl) rfl,
   fun L st σ a => ev_getf ((TP_16 _).trans rfl),
   fun l0 l2 st σ x => ev_p ((TP_16 _).trans rfl) rfl,
   fun L σ a0 a1 => ev_call ((TP_16 _).trans rfl) rfl rfl rfl rfl,
   fun L σ x => ev_r ((TP_16 _).trans rfl) rfl,
   fun l1 l2 st σ x => ev_p ((TP_16 _).trans rfl) rfl,
   fun L st σ a => ev_getf ((TP_16 _).trans rfl),
   fun l0 l2 st σ x => ev_p ((TP_16 _).trans rfl) rfl,
   fun L σ a0 a1 => ev_call ((TP_16 _).trans rfl) rfl rfl rfl rfl,
   fun l0 l1 st σ x => ev_p ((TP_16 _).trans rfl) rfl,
   fun L st σ x y => ev_b ((TP_16 _).trans rfl) rfl,
   fun l1 l2 st σ x => ev_p ((TP_16 _).trans rfl) rfl,
   fun L st σ a => ev_getf ((TP_16 _).trans rfl),
   fun l0 l2 st σ x => ev_p ((TP_16 _).trans rfl) rfl,
   fun L σ a0 a1 => ev_call ((TP_16 _).trans rfl) rfl rfl rfl rfl,
   fun L st σ => ev_p ((TP_16 _).trans rfl) rfl,
   fun L st σ => ev_p ((TP_16 _).trans rfl) rfl,
   fun L σ x => ev_r ((TP_16 _).trans rfl) rfl⟩
theorem TP_17 (pc : Nat) : TT 17 pc = ri_find TL_17 pc := rfl
theorem E_17 (x0 : Nat) (x1 : Int32) (σ : ri_S) : cal 17 [.ref x0, .int x1] σ = ev 17 (0, [some (.ref x0), some (.int x1), none, none], []) σ := rfl
theorem H_17_4 (l0 l1 l2 : Option Value) (st : List Value) (σ : ri_S) (x : Int32) : ev 17 (4, [l0, l1, l2, some (.int x)], st) σ = ev 17 (5, [l0, l1, l2, some (.int x)], .int x :: st) σ := ev_p ((TP_17 _).trans rfl) rfl
theorem I_17 :
  (∀ (L : ri_L) (st : List Value) (σ : ri_S), ev 17 (0, L, st) σ = ev 17 (1, L, .int 0 :: st) σ) ∧
  (∀ (l0 l1 l2 l3 : Option Value) (st : List Value) (σ : ri_S) (x : Int32), ev 17 (1, [l0, l1, l2, l3], .int x :: st) σ = ev 17 (2, [l0, ri_clr l1, some (.int x), l3], st) σ) ∧
  (∀ (L : ri_L) (st : List Value) (σ : ri_S), ev 17 (2, L, st) σ = ev 17 (3, L, .int 0 :: st) σ) ∧
  (∀ (l0 l1 l2 l3 : Option Value) (st : List Value) (σ : ri_S) (x : Int32), ev 17 (3, [l0, l1, l2, l3], .int x :: st) σ = ev 17 (4, [l0, l1, ri_clr l2, some (.int x)], st) σ) ∧
  (∀ (l1 l2 l3 : Option Value) (st : List Value) (σ : ri_S) (x : Nat), ev 17 (5, [some (.ref x), l1, l2, l3], st) σ = ev 17 (6, [some (.ref x), l1, l2, l3], .ref x :: st) σ) ∧
  (∀ (L : ri_L) (st : List Value) (σ : ri_S) (a : Nat), ev 17 (6, L, .ref a :: st) σ = tv_o 2 0 (σ.1 a) fun v => ev 17 (9, L, v :: st) σ) ∧
  (∀ (L : ri_L) (st : List Value) (σ : ri_S) (x y : Int32), ev 17 (9, L, .int y :: .int x :: st) σ = if y ≤ x then ev 17 (31, L, st) σ else ev 17 (12, L, st) σ) ∧
  (∀ (l1 l2 l3 : Option Value) (st : List Value) (σ : ri_S) (x : Nat), ev 17 (12, [some (.ref x), l1, l2, l3], st) σ = ev 17 (13, [some (.ref x), l1, l2, l3], .ref x :: st) σ) ∧
  (∀ (l0 l1 l2 : Option Value) (st : List Value) (σ : ri_S) (x : Int32), ev 17 (13, [l0, l1, l2, some (.int x)], st) σ = ev 17 (14, [l0, l1, l2, some (.int x)], .int x :: st) σ) ∧
  (∀ (l0 l2 l3 : Option Value) (st : List Value) (σ : ri_S) (x : Int32), ev 17 (14, [l0, some (.int x), l2, l3], st) σ = ev 17 (15, [l0, some (.int x), l2, l3], .int x :: st) σ) ∧
  (∀ (L : ri_L) (σ : ri_S) (a0 : Nat) (a1 : Int32) (a2 : Int32), ev 17 (15, L, [.int a2, .int a1, .ref a0]) σ = tv_k 2 (σ.1 a0) ((cal 16 [.ref a0, .int a1, .int a2] σ).bind fun q => ev 17 (18, L, q.1.toList ++ []) q.2)) ∧
  (∀ (L : ri_L) (st : List Value) (σ : ri_S), ev 17 (18, L, st) σ = ev 17 (19, L, .int (-1) :: st) σ) ∧
  (∀ (L : ri_L) (st : List Value) (σ : ri_S) (x y : Int32), ev 17 (19, L, .int y :: .int x :: st) σ = if x = y then ev 17 (25, L, st) σ else ev 17 (22, L, st) σ) ∧
  (∀ (l0 l1 l3 : Option Value) (st : List Value) (σ : ri_S) (x : Int32), ev 17 (22, [l0, l1, some (.int x), l3], st) σ = ev 17 (25, [l0, ri_clr l1, some (.int (x + 1)), l3], st) σ) ∧
  (∀ (l0 l1 l2 : Option Value) (st : List Value) (σ : ri_S) (x : Int32), ev 17 (25, [l0, l1, l2, some (.int x)], st) σ = ev 17 (28, [l0, l1, ri_clr l2, some (.int (x + 1))], st) σ) ∧
  (∀ (L : ri_L) (st : List Value) (σ : ri_S), ev 17 (28, L, st) σ = ev 17 (4, L, st) σ) ∧
  (∀ (l0 l1 l3 : Option Value) (st : List Value) (σ : ri_S) (x : Int32), ev 17 (31, [l0, l1, some (.int x), l3], st) σ = ev 17 (32, [l0, l1, some (.int x), l3], .int x :: st) σ) ∧
  (∀ (L : ri_L) (σ : ri_S) (x : Int32), ev 17 (32, L, [.int x]) σ = some (some (.int x), σ)) :=
  ⟨fun L st σ => ev_p ((TP_17 _).trans rfl) rfl,
   fun l0 l1 l2 l3 st σ x => ev_p ((TP_17 _).trans rfl) rfl,
   fun L st σ => ev_p ((TP_17 _).trans rfl) rfl,
   fun l0 l1 l2 l3 st σ x => ev_p ((TP_17 _).trans rfl) rfl,
   fun l1 l2 l3 st σ x => ev_p ((TP_17 _).trans rfl) rfl,
   fun L st σ a => ev_getf ((TP_17 _).trans rfl),
   fun L st σ x y => ev_b ((TP_17 _).trans rfl) rfl,
   fun l1 l2 l3 st σ x => ev_p ((TP_17 _).trans rfl) rfl,
   fun l0 l1 l2 st σ x => ev_p ((TP_17 _).trans rfl) rfl,
   fun l0 l2 l3 st σ x => ev_p ((TP_17 _).trans rfl) rfl,
   fun L σ a0 a1 a2 => ev_callv ((TP_17 _).trans rfl) rfl rfl rfl rfl,
   fun L st σ => ev_p ((TP_17 _).trans rfl) rfl,
   fun L st σ x y => ev_b ((TP_17 _).trans rfl) rfl,
   fun l0 l1 l3 st σ x => ev_p ((TP_17 _).trans rfl) rfl,
   fun l0 l1 l2 st σ x => ev_p ((TP_17 _).trans rfl) rfl,
   fun L st σ => ev_p ((TP_17 _).trans rfl) rfl,
   fun l0 l1 l3 st σ x => ev_p ((TP_17 _).trans rfl) rfl,
   fun L σ x => ev_r ((TP_17 _).trans rfl) rfl⟩
theorem TP_18 (pc : Nat) : TT 18 pc = ri_find TL_18 pc := rfl
theorem E_18 (x0 : Nat) (x1 : Int32) (x2 : Int32) (σ : ri_S) : cal 18 [.ref x0, .int x1, .int x2] σ = ev 18 (0, [some (.ref x0), some (.int x1), some (.int x2), none], []) σ := rfl
theorem I_18 :
  (∀ (l0 l1 l3 : Option Value) (st : List Value) (σ : ri_S) (x : Int32), ev 18 (0, [l0, l1, some (.int x), l3], st) σ = ev 18 (1, [l0, l1, some (.int x), l3], .int x :: st) σ) ∧
  (∀ (L : ri_L) (st : List Value) (σ : ri_S), ev 18 (1, L, st) σ = ev 18 (2, L, .int 2 :: st) σ) ∧
  (∀ (L : ri_L) (st : List Value) (σ : ri_S) (x y : Int32), ev 18 (2, L, .int y :: .int x :: st) σ = if y ≤ x then ev 18 (16, L, st) σ else ev 18 (5, L, st) σ) ∧
  (∀ (l1 l2 l3 : Option Value) (st : List Value) (σ : ri_S) (x : Nat), ev 18 (5, [some (.ref x), l1, l2, l3], st) σ = ev 18 (6, [some (.ref x), l1, l2, l3], .ref x :: st) σ) ∧
  (∀ (L : ri_L) (st : List Value) (σ : ri_S) (a : Nat), ev 18 (6, L, .ref a :: st) σ = tv_o 2 1 (σ.1 a) fun v => ev 18 (9, L, v :: st) σ) ∧
  (∀ (l0 l2 l3 : Option Value) (st : List Value) (σ : ri_S) (x : Int32), ev 18 (9, [l0, some (.int x), l2, l3], st) σ = ev 18 (10, [l0, some (.int x), l2, l3], .int x :: st) σ) ∧
  (∀ (L : ri_L) (σ : ri_S) (a0 : Nat) (a1 : Int32), ev 18 (10, L, [.int a1, .ref a0]) σ = (cal 140 [.ref a0, .int a1] σ).bind fun q => ev 18 (13, L, q.1.toList ++ []) q.2) ∧
  (∀ (L : ri_L) (st : List Value) (σ : ri_S), ev 18 (13, L, st) σ = ev 18 (24, L, st) σ) ∧
  (∀ (l1 l2 l3 : Option Value) (st : List Value) (σ : ri_S) (x : Nat), ev 18 (16, [some (.ref x), l1, l2, l3], st) σ = ev 18 (17, [some (.ref x), l1, l2, l3], .ref x :: st) σ) ∧
  (∀ (L : ri_L) (st : List Value) (σ : ri_S) (a : Nat), ev 18 (17, L, .ref a :: st) σ = tv_o 2 2 (σ.1 a) fun v => ev 18 (20, L, v :: st) σ) ∧
  (∀ (l0 l2 l3 : Option Value) (st : List Value) (σ : ri_S) (x : Int32), ev 18 (20, [l0, some (.int x), l2, l3], st) σ = ev 18 (21, [l0, some (.int x), l2, l3], .int x :: st) σ) ∧
  (∀ (L : ri_L) (σ : ri_S) (a0 : Nat) (a1 : Int32), ev 18 (21, L, [.int a1, .ref a0]) σ = (cal 140 [.ref a0, .int a1] σ).bind fun q => ev 18 (24, L, q.1.toList ++ []) q.2) ∧
  (∀ (l0 l1 l2 l3 : Option Value) (st : List Value) (σ : ri_S) (x : Int32), ev 18 (24, [l0, l1, l2, l3], .int x :: st) σ = ev 18 (25, [l0, l1, ri_clr l2, some (.int x)], st) σ) ∧
  (∀ (l0 l1 l3 : Option Value) (st : List Value) (σ : ri_S) (x : Int32), ev 18 (25, [l0, l1, some (.int x), l3], st) σ = ev 18 (26, [l0, l1, some (.int x), l3], .int x :: st) σ) ∧
  (∀ (L : ri_L) (st : List Value) (σ : ri_S), ev 18 (26, L, st) σ = ev 18 (27, L, .int 2 :: st) σ) ∧
  (∀ (L : ri_L) (st : List Value) (σ : ri_S) (x y : Int32), ev 18 (27, L, .int y :: .int x :: st) σ = if y = 0 then none else ev 18 (28, L, .int (x - x / y * y) :: st) σ) ∧
  (∀ (L : ri_L) (st : List Value) (σ : ri_S) (x : Int32), ev 18 (28, L, .int x :: st) σ = if ¬ x = 0 then ev 18 (37, L, st) σ else ev 18 (31, L, st) σ) ∧
  (∀ (l0 l1 l2 : Option Value) (st : List Value) (σ : ri_S) (x : Int32), ev 18 (31, [l0, l1, l2, some (.int x)], st) σ = ev 18 (32, [l0, l1, l2, some (.int x)], .int x :: st) σ) ∧
  (∀ (L : ri_L) (st : List Value) (σ : ri_S), ev 18 (32, L, st) σ = ev 18 (33, L, .int 5 :: st) σ) ∧
  (∀ (L : ri_L) (st : List Value) (σ : ri_S) (x y : Int32), ev 18 (33, L, .int y :: .int x :: st) σ = if y = 0 then none else ev 18 (34, L, .int (x / y) :: st) σ) ∧
  (∀ (L : ri_L) (st : List Value) (σ : ri_S), ev 18 (34, L, st) σ = ev 18 (40, L, st) σ) ∧
  (∀ (l0 l1 l2 : Option Value) (st : List Value) (σ : ri_S) (x : Int32), ev 18 (37, [l0, l1, l2, some (.int x)], st) σ = ev 18 (38, [l0, l1, l2, some (.int x)], .int x :: st) σ) ∧
  (∀ (L : ri_L) (st : List Value) (σ : ri_S), ev 18 (38, L, st) σ = ev 18 (39, L, .int 5 :: st) σ) ∧
  (∀ (L : ri_L) (st : List Value) (σ : ri_S) (x y : Int32), ev 18 (39, L, .int y :: .int x :: st) σ = if y = 0 then none else ev 18 (40, L, .int (x - x / y * y) :: st) σ) ∧
  (∀ (L : ri_L) (σ : ri_S) (x : Int32), ev 18 (40, L, [.int x]) σ = some (some (.int x), σ)) :=
  ⟨fun l0 l1 l3 st σ x => ev_p ((TP_18 _).trans rfl) rfl,
   fun L st σ => ev_p ((TP_18 _).trans rfl) rfl,
   fun L st σ x y => ev_b ((TP_18 _).trans rfl) rfl,
   fun l1 l2 l3 st σ x => ev_p ((TP_18 _).trans rfl) rfl,
   fun L st σ a => ev_getf ((TP_18 _).trans rfl),
   fun l0 l2 l3 st σ x => ev_p ((TP_18 _).trans rfl) rfl,
   fun L σ a0 a1 => ev_call ((TP_18 _).trans rfl) rfl rfl rfl rfl,
   fun L st σ => ev_p ((TP_18 _).trans rfl) rfl,
   fun l1 l2 l3 st σ x => ev_p ((TP_18 _).trans rfl) rfl,
   fun L st σ a => ev_getf ((TP_18 _).trans rfl),
   fun l0 l2 l3 st σ x => ev_p ((TP_18 _).trans rfl) rfl,
   fun L σ a0 a1 => ev_call ((TP_18 _).trans rfl) rfl rfl rfl rfl,
   fun l0 l1 l2 l3 st σ x => ev_p ((TP_18 _).trans rfl) rfl,
   fun l0 l1 l3 st σ x => ev_p ((TP_18 _).trans rfl) rfl,
   fun L st σ => ev_p ((TP_18 _).trans rfl) rfl,
   fun L st σ x y => ev_d ((TP_18 _).trans rfl) rfl,
   fun L st σ x => ev_b ((TP_18 _).trans rfl) rfl,
   fun l0 l1 l2 st σ x => ev_p ((TP_18 _).trans rfl) rfl,
   fun L st σ => ev_p ((TP_18 _).trans rfl) rfl,
   fun L st σ x y => ev_d ((TP_18 _).trans rfl) rfl,
   fun L st σ => ev_p ((TP_18 _).trans rfl) rfl,
   fun l0 l1 l2 st σ x => ev_p ((TP_18 _).trans rfl) rfl,
   fun L st σ => ev_p ((TP_18 _).trans rfl) rfl,
   fun L st σ x y => ev_d ((TP_18 _).trans rfl) rfl,
   fun L σ x => ev_r ((TP_18 _).trans rfl) rfl⟩
theorem TP_19 (pc : Nat) : TT 19 pc = ri_find TL_19 pc := rfl
theorem E_19 (x0 : Nat) (x1 : Nat) (σ : ri_S) : cal 19 [.ref x0, .ref x1] σ = ev 19 (0, [some (.ref x0), some (.ref x1)], []) σ := rfl
theorem I_19 :
  (∀ (l1 : Option Value) (st : List Value) (σ : ri_S) (x : Nat), ev 19 (0, [some (.ref x), l1], st) σ = ev 19 (1, [some (.ref x), l1], .ref x :: st) σ) ∧
  (∀ (l0 : Option Value) (st : List Value) (σ : ri_S) (x : Nat), ev 19 (1, [l0, some (.ref x)], st) σ = ev 19 (2, [l0, some (.ref x)], .ref x :: st) σ) ∧
  (∀ (L : ri_L) (st : List Value) (σ : ri_S) (a : Nat), ev 19 (2, L, .ref a :: st) σ = tv_o 2 0 (σ.1 a) fun v => ev 19 (5, L, v :: st) σ) ∧
  (∀ (L : ri_L) (st : List Value) (σ : ri_S) (a : Nat) (x : Int32), ev 19 (5, L, .int x :: .ref a :: st) σ = tv_w 2 0 (σ.1 a) (.int x) fun fs => ev 19 (8, L, st) (ri_upd σ.1 a (.inr (.inr (2, fs))), σ.2)) ∧
  (∀ (l0 : Option Value) (st : List Value) (σ : ri_S) (x : Nat), ev 19 (8, [l0, some (.ref x)], st) σ = ev 19 (9, [l0, some (.ref x)], .ref x :: st) σ) ∧
  (∀ (L : ri_L) (st : List Value) (σ : ri_S) (a : Nat), ev 19 (9, L, .ref a :: st) σ = tv_o 2 1 (σ.1 a) fun v => ev 19 (12, L, v :: st) σ) ∧
  (∀ (l1 : Option Value) (st : List Value) (σ : ri_S) (x : Nat), ev 19 (12, [some (.ref x), l1], st) σ = ev 19 (13, [some (.ref x), l1], .ref x :: st) σ) ∧
  (∀ (L : ri_L) (st : List Value) (σ : ri_S) (a : Nat), ev 19 (13, L, .ref a :: st) σ = tv_o 2 1 (σ.1 a) fun v => ev 19 (16, L, v :: st) σ) ∧
  (∀ (L : ri_L) (σ : ri_S) (a0 : Nat) (a1 : Nat), ev 19 (16, L, [.ref a1, .ref a0]) σ = (cal 142 [.ref a0, .ref a1] σ).bind fun q => ev 19 (19, L, q.1.toList ++ []) q.2) ∧
  (∀ (l0 : Option Value) (st : List Value) (σ : ri_S) (x : Nat), ev 19 (19, [l0, some (.ref x)], st) σ = ev 19 (20, [l0, some (.ref x)], .ref x :: st) σ) ∧
  (∀ (L : ri_L) (st : List Value) (σ : ri_S) (a : Nat), ev 19 (20, L, .ref a :: st) σ = tv_o 2 2 (σ.1 a) fun v => ev 19 (23, L, v :: st) σ) ∧
  (∀ (l1 : Option Value) (st : List Value) (σ : ri_S) (x : Nat), ev 19 (23, [some (.ref x), l1], st) σ = ev 19 (24, [some (.ref x), l1], .ref x :: st) σ) ∧
  (∀ (L : ri_L) (st : List Value) (σ : ri_S) (a : Nat), ev 19 (24, L, .ref a :: st) σ = tv_o 2 2 (σ.1 a) fun v => ev 19 (27, L, v :: st) σ) ∧
  (∀ (L : ri_L) (σ : ri_S) (a0 : Nat) (a1 : Nat), ev 19 (27, L, [.ref a1, .ref a0]) σ = (cal 142 [.ref a0, .ref a1] σ).bind fun q => ev 19 (30, L, q.1.toList ++ []) q.2) ∧
  (∀ (L : ri_L) (σ : ri_S), ev 19 (30, L, []) σ = some (none, σ)) :=
  ⟨fun l1 st σ x => ev_p ((TP_19 _).trans rfl) rfl,
   fun l0 st σ x => ev_p ((TP_19 _).trans rfl) rfl,
   fun L st σ a => ev_getf ((TP_19 _).trans rfl),
   fun L st σ a x => ev_puti ((TP_19 _).trans rfl),
   fun l0 st σ x => ev_p ((TP_19 _).trans rfl) rfl,
   fun L st σ a => ev_getf ((TP_19 _).trans rfl),
   fun l1 st σ x => ev_p ((TP_19 _).trans rfl) rfl,
   fun L st σ a => ev_getf ((TP_19 _).trans rfl),
   fun L σ a0 a1 => ev_call ((TP_19 _).trans rfl) rfl rfl rfl rfl,
   fun l0 st σ x => ev_p ((TP_19 _).trans rfl) rfl,
   fun L st σ a => ev_getf ((TP_19 _).trans rfl),
   fun l1 st σ x => ev_p ((TP_19 _).trans rfl) rfl,
   fun L st σ a => ev_getf ((TP_19 _).trans rfl),
   fun L σ a0 a1 => ev_call ((TP_19 _).trans rfl) rfl rfl rfl rfl,
   fun L σ => ev_r ((TP_19 _).trans rfl) rfl⟩
theorem TP_20 (pc : Nat) : TT 20 pc = ri_find TL_20 pc := rfl
theorem E_20 (x0 : Nat) (σ : ri_S) : cal 20 [.ref x0] σ = ev 20 (0, [some (.ref x0)], []) σ := rfl
theorem I_20 :
  (∀ (st : List Value) (σ : ri_S) (x : Nat), ev 20 (0, [some (.ref x)], st) σ = ev 20 (1, [some (.ref x)], .ref x :: st) σ) ∧
  (∀ (L : ri_L) (σ : ri_S) (a : Nat), ev 20 (1, L, [.ref a]) σ = ev 20 (4, L, []) σ) ∧
  (∀ (st : List Value) (σ : ri_S) (x : Nat), ev 20 (4, [some (.ref x)], st) σ = ev 20 (5, [some (.ref x)], .ref x :: st) σ) ∧
  (∀ (L : ri_L) (st : List Value) (σ : ri_S), ev 20 (5, L, st) σ = ev 20 (8, L, .ref σ.2 :: st) (ri_upd σ.1 σ.2 (.inr (.inr (7, [.int 0, .null, .null, .null, .null, .null, .null]))), σ.2 + 1)) ∧
  (∀ (L : ri_L) (st : List Value) (σ : ri_S) (x : Nat), ev 20 (8, L, .ref x :: st) σ = ev 20 (9, L, .ref x :: .ref x :: st) σ) ∧
  (∀ (L : ri_L) (σ : ri_S) (a0 : Nat) (s0 s1 : Value), ev 20 (9, L, [.ref a0, s0, s1]) σ = tv_k 7 (σ.1 a0) ((cal 96 [.ref a0] σ).bind fun q => ev 20 (12, L, q.1.toList ++ [s0, s1]) q.2)) ∧
  (∀ (L : ri_L) (st : List Value) (σ : ri_S) (a : Nat) (x : Nat), ev 20 (12, L, .ref x :: .ref a :: st) σ = tv_w 3 0 (σ.1 a) (.ref x) fun fs => ev 20 (15, L, st) (ri_upd σ.1 a (.inr (.inr (3, fs))), σ.2)) ∧
  (∀ (st : List Value) (σ : ri_S) (x : Nat), ev 20 (15, [some (.ref x)], st) σ = ev 20 (16, [some (.ref x)], .ref x :: st) σ) ∧
  (∀ (L : ri_L) (st : List Value) (σ : ri_S), ev 20 (16, L, st) σ = ev 20 (19, L, .ref σ.2 :: st) (ri_upd σ.1 σ.2 (.inr (.inr (2, [.int 0, .null, .null]))), σ.2 + 1)) ∧
  (∀ (L : ri_L) (st : List Value) (σ : ri_S) (x : Nat), ev 20 (19, L, .ref x :: st) σ = ev 20 (20, L, .ref x :: .ref x :: st) σ) ∧
  (∀ (L : ri_L) (σ : ri_S) (a0 : Nat) (s0 s1 : Value), ev 20 (20, L, [.ref a0, s0, s1]) σ = tv_k 2 (σ.1 a0) ((cal 13 [.ref a0] σ).bind fun q => ev 20 (23, L, q.1.toList ++ [s0, s1]) q.2)) ∧
  (∀ (L : ri_L) (st : List Value) (σ : ri_S) (a : Nat) (x : Nat), ev 20 (23, L, .ref x :: .ref a :: st) σ = tv_w 3 1 (σ.1 a) (.ref x) fun fs => ev 20 (26, L, st) (ri_upd σ.1 a (.inr (.inr (3, fs))), σ.2)) ∧
  (∀ (st : List Value) (σ : ri_S) (x : Nat), ev 20 (26, [some (.ref x)], st) σ = ev 20 (27, [some (.ref x)], .ref x :: st) σ) ∧
  (∀ (L : ri_L) (st : List Value) (σ : ri_S), ev 20 (27, L, st) σ = ev 20 (30, L, .ref σ.2 :: st) (ri_upd σ.1 σ.2 (.inr (.inr (0, [.int 0, .null, .null, .null, .null, .null]))), σ.2 + 1)) ∧
  (∀ (L : ri_L) (st : List Value) (σ : ri_S) (x : Nat), ev 20 (30, L, .ref x :: st) σ = ev 20 (31, L, .ref x :: .ref x :: st) σ) ∧
  (∀ (L : ri_L) (σ : ri_S) (a0 : Nat) (s0 s1 : Value), ev 20 (31, L, [.ref a0, s0, s1]) σ = tv_k 0 (σ.1 a0) ((cal 0 [.ref a0] σ).bind fun q => ev 20 (34, L, q.1.toList ++ [s0, s1]) q.2)) ∧
  (∀ (L : ri_L) (st : List Value) (σ : ri_S) (a : Nat) (x : Nat), ev 20 (34, L, .ref x :: .ref a :: st) σ = tv_w 3 2 (σ.1 a) (.ref x) fun fs => ev 20 (37, L, st) (ri_upd σ.1 a (.inr (.inr (3, fs))), σ.2)) ∧
  (∀ (st : List Value) (σ : ri_S) (x : Nat), ev 20 (37, [some (.ref x)], st) σ = ev 20 (38, [some (.ref x)], .ref x :: st) σ) ∧
  (∀ (L : ri_L) (st : List Value) (σ : ri_S), ev 20 (38, L, st) σ = ev 20 (39, L, .int 0 :: st) σ) ∧
  (∀ (L : ri_L) (st : List Value) (σ : ri_S) (a : Nat) (x : Int32), ev 20 (39, L, .int x :: .ref a :: st) σ = tv_w 3 3 (σ.1 a) (.int x) fun fs => ev 20 (42, L, st) (ri_upd σ.1 a (.inr (.inr (3, fs))), σ.2)) ∧
  (∀ (st : List Value) (σ : ri_S) (x : Nat), ev 20 (42, [some (.ref x)], st) σ = ev 20 (43, [some (.ref x)], .ref x :: st) σ) ∧
  (∀ (L : ri_L) (st : List Value) (σ : ri_S), ev 20 (43, L, st) σ = ev 20 (44, L, .int 0 :: st) σ) ∧
  (∀ (L : ri_L) (st : List Value) (σ : ri_S) (a : Nat) (x : Int32), ev 20 (44, L, .int x :: .ref a :: st) σ = tv_w 3 4 (σ.1 a) (.int x) fun fs => ev 20 (47, L, st) (ri_upd σ.1 a (.inr (.inr (3, fs))), σ.2)) ∧
  (∀ (st : List Value) (σ : ri_S) (x : Nat), ev 20 (47, [some (.ref x)], st) σ = ev 20 (48, [some (.ref x)], .ref x :: st) σ) ∧
  (∀ (L : ri_L) (st : List Value) (σ : ri_S), ev 20 (48, L, st) σ = ev 20 (49, L, .int 0 :: st) σ) ∧
  (∀ (L : ri_L) (st : List Value) (σ : ri_S) (a : Nat) (x : Int32), ev 20 (49, L, .int x :: .ref a :: st) σ = tv_w 3 5 (σ.1 a) (.int x) fun fs => ev 20 (52, L, st) (ri_upd σ.1 a (.inr (.inr (3, fs))), σ.2)) ∧
  (∀ (st : List Value) (σ : ri_S) (x : Nat), ev 20 (52, [some (.ref x)], st) σ = ev 20 (53, [some (.ref x)], .ref x :: st) σ) ∧
  (∀ (L : ri_L) (st : List Value) (σ : ri_S), ev 20 (53, L, st) σ = ev 20 (54, L, .int 0 :: st) σ) ∧
  (∀ (L : ri_L) (st : List Value) (σ : ri_S) (a : Nat) (x : Int32), ev 20 (54, L, .int x :: .ref a :: st) σ = tv_w 3 6 (σ.1 a) (.int x) fun fs => ev 20 (57, L, st) (ri_upd σ.1 a (.inr (.inr (3, fs))), σ.2)) ∧
  (∀ (st : List Value) (σ : ri_S) (x : Nat), ev 20 (57, [some (.ref x)], st) σ = ev 20 (58, [some (.ref x)], .ref x :: st) σ) ∧
  (∀ (L : ri_L) (st : List Value) (σ : ri_S), ev 20 (58, L, st) σ = ev 20 (59, L, .int (-1) :: st) σ) ∧
  (∀ (L : ri_L) (st : List Value) (σ : ri_S) (a : Nat) (x : Int32), ev 20 (59, L, .int x :: .ref a :: st) σ = tv_w 3 7 (σ.1 a) (.int x) fun fs => ev 20 (62, L, st) (ri_upd σ.1 a (.inr (.inr (3, fs))), σ.2)) ∧
  (∀ (st : List Value) (σ : ri_S) (x : Nat), ev 20 (62, [some (.ref x)], st) σ = ev 20 (63, [some (.ref x)], .ref x :: st) σ) ∧
  (∀ (L : ri_L) (st : List Value) (σ : ri_S), ev 20 (63, L, st) σ = ev 20 (64, L, .int 0 :: st) σ) ∧
  (∀ (L : ri_L) (st : List Value) (σ : ri_S) (a : Nat) (x : Int32), ev 20 (64, L, .int x :: .ref a :: st) σ = tv_w 3 8 (σ.1 a) (.int x) fun fs => ev 20 (67, L, st) (ri_upd σ.1 a (.inr (.inr (3, fs))), σ.2)) ∧
  (∀ (L : ri_L) (σ : ri_S), ev 20 (67, L, []) σ = some (none, σ)) :=
  ⟨fun st σ x => ev_p ((TP_20 _).trans rfl) rfl,
   fun L σ a => ev_p ((TP_20 _).trans rfl) rfl,
   fun st σ x => ev_p ((TP_20 _).trans rfl) rfl,
   fun L st σ => ev_new ((TP_20 _).trans rfl),
   fun L st σ x => ev_p ((TP_20 _).trans rfl) rfl,
   fun L σ a0 s0 s1 => ev_callv ((TP_20 _).trans rfl) rfl rfl rfl rfl,
   fun L st σ a x => ev_putr ((TP_20 _).trans rfl),
   fun st σ x => ev_p ((TP_20 _).trans rfl) rfl,
   fun L st σ => ev_new ((TP_20 _).trans rfl),
   fun L st σ x => ev_p ((TP_20 _).trans rfl) rfl,
   fun L σ a0 s0 s1 => ev_callv ((TP_20 _).trans rfl) rfl rfl rfl rfl,
   fun L st σ a x => ev_putr ((TP_20 _).trans rfl),
   fun st σ x => ev_p ((TP_20 _).trans rfl) rfl,
   fun L st σ => ev_new ((TP_20 _).trans rfl),
   fun L st σ x => ev_p ((TP_20 _).trans rfl) rfl,
   fun L σ a0 s0 s1 => ev_callv ((TP_20 _).trans rfl) rfl rfl rfl rfl,
   fun L st σ a x => ev_putr ((TP_20 _).trans rfl),
   fun st σ x => ev_p ((TP_20 _).trans rfl) rfl,
   fun L st σ => ev_p ((TP_20 _).trans rfl) rfl,
   fun L st σ a x => ev_puti ((TP_20 _).trans rfl),
   fun st σ x => ev_p ((TP_20 _).trans rfl) rfl,
   fun L st σ => ev_p ((TP_20 _).trans rfl) rfl,
   fun L st σ a x => ev_puti ((TP_20 _).trans rfl),
   fun st σ x => ev_p ((TP_20 _).trans rfl) rfl,
   fun L st σ => ev_p ((TP_20 _).trans rfl) rfl,
   fun L st σ a x => ev_puti ((TP_20 _).trans rfl),
   fun st σ x => ev_p ((TP_20 _).trans rfl) rfl,
   fun L st σ => ev_p ((TP_20 _).trans rfl) rfl,
   fun L st σ a x => ev_puti ((TP_20 _).trans rfl),
   fun st σ x => ev_p ((TP_20 _).trans rfl) rfl,
   fun L st σ => ev_p ((TP_20 _).trans rfl) rfl,
   fun L st σ a x => ev_puti ((TP_20 _).trans rfl),
   fun st σ x => ev_p ((TP_20 _).trans rfl) rfl,
   fun L st σ => ev_p ((TP_20 _).trans rfl) rfl,
   fun L st σ a x => ev_puti ((TP_20 _).trans rfl),
   fun L σ => ev_r ((TP_20 _).trans rfl) rfl⟩
theorem TP_21 (pc : Nat) : TT 21 pc = ri_find TL_21 pc := rfl
theorem E_21 (x0 : Nat) (σ : ri_S) : cal 21 [.ref x0] σ = ev 21 (0, [some (.ref x0)], []) σ := rfl
theorem I_21 :
  (∀ (st : List Value) (σ : ri_S) (x : Nat), ev 21 (0, [some (.ref x)], st) σ = ev 21 (1, [some (.ref x)], .ref x :: st) σ) ∧
  (∀ (L : ri_L) (st : List Value) (σ : ri_S) (a : Nat), ev 21 (1, L, .ref a :: st) σ = tv_o 3 0 (σ.1 a) fun v => ev 21 (4, L, v :: st) σ) ∧
  (∀ (L : ri_L) (st : List Value) (σ : ri_S), ev 21 (4, L, st) σ = ev 21 (5, L, .int 0 :: st) σ) ∧
  (∀ (L : ri_L) (st : List Value) (σ : ri_S) (a : Nat) (x : Int32), ev 21 (5, L, .int x :: .ref a :: st) σ = tv_w 7 0 (σ.1 a) (.int x) fun fs => ev 21 (8, L, st) (ri_upd σ.1 a (.inr (.inr (7, fs))), σ.2)) ∧
  (∀ (st : List Value) (σ : ri_S) (x : Nat), ev 21 (8, [some (.ref x)], st) σ = ev 21 (9, [some (.ref x)], .ref x :: st) σ) ∧
  (∀ (L : ri_L) (st : List Value) (σ : ri_S) (a : Nat), ev 21 (9, L, .ref a :: st) σ = tv_o 3 1 (σ.1 a) fun v => ev 21 (12, L, v :: st) σ) ∧
  (∀ (L : ri_L) (st : List Value) (σ : ri_S), ev 21 (12, L, st) σ = ev 21 (13, L, .int 0 :: st) σ) ∧
  (∀ (L : ri_L) (st : List Value) (σ : ri_S) (a : Nat) (x : Int32), ev 21 (13, L, .int x :: .ref a :: st) σ = tv_w 2 0 (σ.1 a) (.int x) fun fs => ev 21 (16, L, st) (ri_upd σ.1 a (.inr (.inr (2, fs))), σ.2)) ∧
  (∀ (st : List Value) (σ : ri_S) (x : Nat), ev 21 (16, [some (.ref x)], st) σ = ev 21 (17, [some (.ref x)], .ref x :: st) σ) ∧
  (∀ (L : ri_L) (st : List Value) (σ : ri_S) (a : Nat), ev 21 (17, L, .ref a :: st) σ = tv_o 3 2 (σ.1 a) fun v => ev 21 (20, L, v :: st) σ) ∧
  (∀ (L : ri_L) (st : List Value) (σ : ri_S), ev 21 (20, L, st) σ = ev 21 (21, L, .int 0 :: st) σ) ∧
  (∀ (L : ri_L) (st : List Value) (σ : ri_S) (a : Nat) (x : Int32), ev 21 (21, L, .int x :: .ref a :: st) σ = tv_w 0 0 (σ.1 a) (.int x) fun fs => ev 21 (24, L, st) (ri_upd σ.1 a (.inr (.inr (0, fs))), σ.2)) ∧
  (∀ (st : List Value) (σ : ri_S) (x : Nat), ev 21 (24, [some (.ref x)], st) σ = ev 21 (25, [some (.ref x)], .ref x :: st) σ) ∧
  (∀ (L : ri_L) (st : List Value) (σ : ri_S), ev 21 (25, L, st) σ = ev 21 (26, L, .int 0 :: st) σ) ∧
  (∀ (L : ri_L) (st : List Value) (σ : ri_S) (a : Nat) (x : Int32), ev 21 (26, L, .int x :: .ref a :: st) σ = tv_w 3 3 (σ.1 a) (.int x) fun fs => ev 21 (29, L, st) (ri_upd σ.1 a (.inr (.inr (3, fs))), σ.2)) ∧
  (∀ (st : List Value) (σ : ri_S) (x : Nat), ev 21 (29, [some (.ref x)], st) σ = ev 21 (30, [some (.ref x)], .ref x :: st) σ) ∧
  (∀ (L : ri_L) (st : List Value) (σ : ri_S), ev 21 (30, L, st) σ = ev 21 (31, L, .int 0 :: st) σ) ∧
  (∀ (L : ri_L) (st : List Value) (σ : ri_S) (a : Nat) (x : Int32), ev 21 (31, L, .int x :: .ref a :: st) σ = tv_w 3 4 (σ.1 a) (.int x) fun fs => ev 21 (34, L, st) (ri_upd σ.1 a (.inr (.inr (3, fs))), σ.2)) ∧
  (∀ (st : List Value) (σ : ri_S) (x : Nat), ev 21 (34, [some (.ref x)], st) σ = ev 21 (35, [some (.ref x)], .ref x :: st) σ) ∧
  (∀ (L : ri_L) (st : List Value) (σ : ri_S), ev 21 (35, L, st) σ = ev 21 (36, L, .int 0 :: st) σ) ∧
  (∀ (L : ri_L) (st : List Value) (σ : ri_S) (a : Nat) (x : Int32), ev 21 (36, L, .int x :: .ref a :: st) σ = tv_w 3 5 (σ.1 a) (.int x) fun fs => ev 21 (39, L, st) (ri_upd σ.1 a (.inr (.inr (3, fs))), σ.2)) ∧
  (∀ (st : List Value) (σ : ri_S) (x : Nat), ev 21 (39, [some (.ref x)], st) σ = ev 21 (40, [some (.ref x)], .ref x :: st) σ) ∧
  (∀ (L : ri_L) (st : List Value) (σ : ri_S), ev 21 (40, L, st) σ = ev 21 (41, L, .int 0 :: st) σ) ∧
  (∀ (L : ri_L) (st : List Value) (σ : ri_S) (a : Nat) (x : Int32), ev 21 (41, L, .int x :: .ref a :: st) σ = tv_w 3 6 (σ.1 a) (.int x) fun fs => ev 21 (44, L, st) (ri_upd σ.1 a (.inr (.inr (3, fs))), σ.2)) ∧
  (∀ (st : List Value) (σ : ri_S) (x : Nat), ev 21 (44, [some (.ref x)], st) σ = ev 21 (45, [some (.ref x)], .ref x :: st) σ) ∧
  (∀ (L : ri_L) (st : List Value) (σ : ri_S), ev 21 (45, L, st) σ = ev 21 (46, L, .int (-1) :: st) σ) ∧
  (∀ (L : ri_L) (st : List Value) (σ : ri_S) (a : Nat) (x : Int32), ev 21 (46, L, .int x :: .ref a :: st) σ = tv_w 3 7 (σ.1 a) (.int x) fun fs => ev 21 (49, L, st) (ri_upd σ.1 a (.inr (.inr (3, fs))), σ.2)) ∧
  (∀ (st : List Value) (σ : ri_S) (x : Nat), ev 21 (49, [some (.ref x)], st) σ = ev 21 (50, [some (.ref x)], .ref x :: st) σ) ∧
  (∀ (L : ri_L) (st : List Value) (σ : ri_S), ev 21 (50, L, st) σ = ev 21 (51, L, .int 0 :: st) σ) ∧
  (∀ (L : ri_L) (st : List Value) (σ : ri_S) (a : Nat) (x : Int32), ev 21 (51, L, .int x :: .ref a :: st) σ = tv_w 3 8 (σ.1 a) (.int x) fun fs => ev 21 (54, L, st) (ri_upd σ.1 a (.inr (.inr (3, fs))), σ.2)) ∧
  (∀ (L : ri_L) (σ : ri_S), ev 21 (54, L, []) σ = some (none, σ)) :=
  ⟨fun st σ x => ev_p ((TP_21 _).trans rfl) rfl,
   fun L st σ a => ev_getf ((TP_21 _).trans rfl),
   fun L st σ => ev_p ((TP_21 _).trans rfl) rfl,
   fun L st σ a x => ev_puti ((TP_21 _).trans rfl),
   fun st σ x => ev_p ((TP_21 _).trans rfl) rfl,
   fun L st σ a => ev_getf ((TP_21 _).trans rfl),
   fun L st σ => ev_p ((TP_21 _).trans rfl) rfl,
   fun L st σ a x => ev_puti ((TP_21 _).trans rfl),
   fun st σ x => ev_p ((TP_21 _).trans rfl) rfl,
   fun L st σ a => ev_getf ((TP_21 _).trans rfl),
   fun L st σ => ev_p ((TP_21 _).trans rfl) rfl,
   fun L st σ a x => ev_puti ((TP_21 _).trans rfl),
   fun st σ x => ev_p ((TP_21 _).trans rfl) rfl,
   fun L st σ => ev_p ((TP_21 _).trans rfl) rfl,
   fun L st σ a x => ev_puti ((TP_21 _).trans rfl),
   fun st σ x => ev_p ((TP_21 _).trans rfl) rfl,
   fun L st σ => ev_p ((TP_21 _).trans rfl) rfl,
   fun L st σ a x => ev_puti ((TP_21 _).trans rfl),
   fun st σ x => ev_p ((TP_21 _).trans rfl) rfl,
   fun L st σ => ev_p ((TP_21 _).trans rfl) rfl,
   fun L st σ a x => ev_puti ((TP_21 _).trans rfl),
   fun st σ x => ev_p ((TP_21 _).trans rfl) rfl,
   fun L st σ => ev_p ((TP_21 _).trans rfl) rfl,
   fun L st σ a x => ev_puti ((TP_21 _).trans rfl),
   fun st σ x => ev_p ((TP_21 _).trans rfl) rfl,
   fun L st σ => ev_p ((TP_21 _).trans rfl) rfl,
   fun L st σ a x => ev_puti ((TP_21 _).trans rfl),
   fun st σ x => ev_p ((TP_21 _).trans rfl) rfl,
   fun L st σ => ev_p ((TP_21 _).trans rfl) rfl,
   fun L st σ a x => ev_puti ((TP_21 _).trans rfl),
   fun L σ => ev_r ((TP_21 _).trans rfl) rfl⟩
theorem TP_22 (pc : Nat) : TT 22 pc = ri_find TL_22 pc := rfl
theorem E_22 (x0 : Nat) (x1 : Nat) (σ : ri_S) : cal 22 [.ref x0, .ref x1] σ = ev 22 (0, [some (.ref x0), some (.ref x1)], []) σ := rfl
theorem I_22 :
  (∀ (l1 : Option Value) (st : List Value) (σ : ri_S) (x : Nat), ev 22 (0, [some (.ref x), l1], st) σ = ev 22 (1, [some (.ref x), l1], .ref x :: st) σ) ∧
  (∀ (L : ri_L) (st : List Value) (σ : ri_S) (a : Nat), ev 22 (1, L, .ref a :: st) σ = tv_o 3 0 (σ.1 a) fun v => ev 22 (4, L, v :: st) σ) ∧
  (∀ (l0 : Option Value) (st : List Value) (σ : ri_S) (x : Nat), ev 22 (4, [l0, some (.ref x)], st) σ = ev 22 (5, [l0, some (.ref x)], .ref x :: st) σ) ∧
  (∀ (L : ri_L) (st : List Value) (σ : ri_S) (a : Nat), ev 22 (5, L, .ref a :: st) σ = tv_o 3 0 (σ.1 a) fun v => ev 22 (8, L, v :: st) σ) ∧
  (∀ (L : ri_L) (σ : ri_S) (a0 : Nat) (a1 : Nat), ev 22 (8, L, [.ref a1, .ref a0]) σ = tv_k 7 (σ.1 a0) ((cal 107 [.ref a0, .ref a1] σ).bind fun q => ev 22 (11, L, q.1.toList ++ []) q.2)) ∧
  (∀ (l1 : Option Value) (st : List Value) (σ : ri_S) (x : Nat), ev 22 (11, [some (.ref x), l1], st) σ = ev 22 (12, [some (.ref x), l1], .ref x :: st) σ) ∧
  (∀ (L : ri_L) (st : List Value) (σ : ri_S) (a : Nat), ev 22 (12, L, .ref a :: st) σ = tv_o 3 1 (σ.1 a) fun v => ev 22 (15, L, v :: st) σ) ∧
  (∀ (l0 : Option Value) (st : List Value) (σ : ri_S) (x : Nat), ev 22 (15, [l0, some (.ref x)], st) σ = ev 22 (16, [l0, some (.ref x)], .ref x :: st) σ) ∧
  (∀ (L : ri_L) (st : List Value) (σ : ri_S) (a : Nat), ev 22 (16, L, .ref a :: st) σ = tv_o 3 1 (σ.1 a) fun v => ev 22 (19, L, v :: st) σ) ∧
  (∀ (L : ri_L) (σ : ri_S) (a0 : Nat) (a1 : Nat), ev 22 (19, L, [.ref a1, .ref a0]) σ = tv_k 2 (σ.1 a0) ((cal 19 [.ref a0, .ref a1] σ).bind fun q => ev 22 (22, L, q.1.toList ++ []) q.2)) ∧
  (∀ (l1 : Option Value) (st : List Value) (σ : ri_S) (x : Nat), ev 22 (22, [some (.ref x), l1], st) σ = ev 22 (23, [some (.ref x), l1], .ref x :: st) σ) ∧
  (∀ (L : ri_L) (st : List Value) (σ : ri_S) (a : Nat), ev 22 (23, L, .ref a :: st) σ = tv_o 3 2 (σ.1 a) fun v => ev 22 (26, L, v :: st) σ) ∧
  (∀ (l0 : Option Value) (st : List Value) (σ : ri_S) (x : Nat), ev 22 (26, [l0, some (.ref x)], st) σ = ev 22 (27, [l0, some (.ref x)], .ref x :: st) σ) ∧
  (∀ (L : ri_L) (st : List Value) (σ : ri_S) (a : Nat), ev 22 (27, L, .ref a :: st) σ = tv_o 3 2 (σ.1 a) fun v => ev 22 (30, L, v :: st) σ) ∧
  (∀ (L : ri_L) (σ : ri_S) (a0 : Nat) (a1 : Nat), ev 22 (30, L, [.ref a1, .ref a0]) σ = tv_k 0 (σ.1 a0) ((cal 6 [.ref a0, .ref a1] σ).bind fun q => ev 22 (33, L, q.1.toList ++ []) q.2)) ∧
  (∀ (l1 : Option Value) (st : List Value) (σ : ri_S) (x : Nat), ev 22 (33, [some (.ref x), l1], st) σ = ev 22 (34, [some (.ref x), l1], .ref x :: st) σ) ∧
  (∀ (l0 : Option Value) (st : List Value) (σ : ri_S) (x : Nat), ev 22 (34, [l0, some (.ref x)], st) σ = ev 22 (35, [l0, some (.ref x)], .ref x :: st) σ) ∧
  (∀ (L : ri_L) (st : List Value) (σ : ri_S) (a : Nat), ev 22 (35, L, .ref a :: st) σ = tv_o 3 3 (σ.1 a) fun v => ev 22 (38, L, v :: st) σ) ∧
  (∀ (L : ri_L) (st : List Value) (σ : ri_S) (a : Nat) (x : Int32), ev 22 (38, L, .int x :: .ref a :: st) σ = tv_w 3 3 (σ.1 a) (.int x) fun fs => ev 22 (41, L, st) (ri_upd σ.1 a (.inr (.inr (3, fs))), σ.2)) ∧
  (∀ (l1 : Option Value) (st : List Value) (σ : ri_S) (x : Nat), ev 22 (41, [some (.ref x), l1], st) σ = ev 22 (42, [some (.ref x), l1], .ref x :: st) σ) ∧
  (∀ (l0 : Option Value) (st : List Value) (σ : ri_S) (x : Nat), ev 22 (42, [l0, some (.ref x)], st) σ = ev 22 (43, [l0, some (.ref x)], .ref x :: st) σ) ∧
  (∀ (L : ri_L) (st : List Value) (σ : ri_S) (a : Nat), ev 22 (43, L, .ref a :: st) σ = tv_o 3 4 (σ.1 a) fun v => ev 22 (46, L, v :: st) σ) ∧
  (∀ (L : ri_L) (st : List Value) (σ : ri_S) (a : Nat) (x : Int32), ev 22 (46, L, .int x :: .ref a :: st) σ = tv_w 3 4 (σ.1 a) (.int x) fun fs => ev 22 (49, L, st) (ri_upd σ.1 a (.inr (.inr (3, fs))), σ.2)) ∧
  (∀ (l1 : Option Value) (st : List Value) (σ : ri_S) (x : Nat), ev 22 (49, [some (.ref x), l1], st) σ = ev 22 (50, [some (.ref x), l1], .ref x :: st) σ) ∧
  (∀ (l0 : Option Value) (st : List Value) (σ : ri_S) (x : Nat), ev 22 (50, [l0, some (.ref x)], st) σ = ev 22 (51, [l0, some (.ref x)], .ref x :: st) σ) ∧
  (∀ (L : ri_L) (st : List Value) (σ : ri_S) (a : Nat), ev 22 (51, L, .ref a :: st) σ = tv_o 3 5 (σ.1 a) fun v => ev 22 (54, L, v :: st) σ) ∧
  (∀ (L : ri_L) (st : List Value) (σ : ri_S) (a : Nat) (x : Int32), ev 22 (54, L, .int x :: .ref a :: st) σ = tv_w 3 5 (σ.1 a) (.int x) fun fs => ev 22 (57, L, st) (ri_upd σ.1 a (.inr (.inr (3, fs))), σ.2)) ∧
  (∀ (l1 : Option Value) (st : List Value) (σ : ri_S) (x : Nat), ev 22 (57, [some (.ref x), l1], st) σ = ev 22 (58, [some (.ref x), l1], .ref x :: st) σ) ∧
  (∀ (l0 : Option Value) (st : List Value) (σ : ri_S) (x : Nat), ev 22 (58, [l0, some (.ref x)], st) σ = ev 22 (59, [l0, some (.ref x)], .ref x :: st) σ) ∧
  (∀ (L : ri_L) (st : List Value) (σ : ri_S) (a : Nat), ev 22 (59, L, .ref a :: st) σ = tv_o 3 6 (σ.1 a) fun v => ev 22 (62, L, v :: st) σ) ∧
  (∀ (L : ri_L) (st : List Value) (σ : ri_S) (a : Nat) (x : Int32), ev 22 (62, L, .int x :: .ref a :: st) σ = tv_w 3 6 (σ.1 a) (.int x) fun fs => ev 22 (65, L, st) (ri_upd σ.1 a (.inr (.inr (3, fs))), σ.2)) ∧
  (∀ (l1 : Option Value) (st : List Value) (σ : ri_S) (x : Nat), ev 22 (65, [some (.ref x), l1], st) σ = ev 22 (66, [some (.ref x), l1], .ref x :: st) σ) ∧
  (∀ (l0 : Option Value) (st : List Value) (σ : ri_S) (x : Nat), ev 22 (66, [l0, some (.ref x)], st) σ = ev 22 (67, [l0, some (.ref x)], .ref x :: st) σ) ∧
  (∀ (L : ri_L) (st : List Value) (σ : ri_S) (a : Nat), ev 22 (67, L, .ref a :: st) σ = tv_o 3 7 (σ.1 a) fun v => ev 22 (70, L, v :: st) σ) ∧
  (∀ (L : ri_L) (st : List Value) (σ : ri_S) (a : Nat) (x : Int32), ev 22 (70, L, .int x :: .ref a :: st) σ = tv_w 3 7 (σ.1 a) (.int x) fun fs => ev 22 (73, L, st) (ri_upd σ.1 a (.inr (.inr (3, fs))), σ.2)) ∧
  (∀ (l1 : Option Value) (st : List Value) (σ : ri_S) (x : Nat), ev 22 (73, [some (.ref x), l1], st) σ = ev 22 (74, [some (.ref x), l1], .ref x :: st) σ) ∧
  (∀ (l0 : Option Value) (st : List Value) (σ : ri_S) (x : Nat), ev 22 (74, [l0, some (.ref x)], st) σ = ev 22 (75, [l0, some (.ref x)], .ref x :: st) σ) ∧
  (∀ (L : ri_L) (st : List Value) (σ : ri_S) (a : Nat), ev 22 (75, L, .ref a :: st) σ = tv_o 3 8 (σ.1 a) fun v => ev 22 (78, L, v :: st) σ) ∧
  (∀ (L : ri_L) (st : List Value) (σ : ri_S) (a : Nat) (x : Int32), ev 22 (78, L, .int x :: .ref a :: st) σ = tv_w 3 8 (σ.1 a) (.int x) fun fs => ev 22 (81, L, st) (ri_upd σ.1 a (.inr (.inr (3, fs))), σ.2)) ∧
  (∀ (L : ri_L) (σ : ri_S), ev 22 (81, L, []) σ = some (none, σ)) :=
  ⟨fun l1 st σ x => ev_p ((TP_22 _).trans rfl) rfl,
   fun L st σ a => ev_getf ((TP_22 _).trans rfl),
   fun l0 st σ x => ev_p ((TP_22 _).trans rfl) rfl,
   fun L st σ a => ev_getf ((TP_22 _).trans rfl),
   fun L σ a0 a1 => ev_callv ((TP_22 _).trans rfl) rfl rfl rfl rfl,
   fun l1 st σ x => ev_p ((TP_22 _).trans rfl) rfl,
   fun L st σ a => ev_getf ((TP_22 _).trans rfl),
   fun l0 st σ x => ev_p ((TP_22 _).trans rfl) rfl,
   fun L st σ a => ev_getf ((TP_22 _).trans rfl),
   fun L σ a0 a1 => ev_callv ((TP_22 _).trans rfl) rfl rfl rfl rfl,
   fun l1 st σ x => ev_p ((TP_22 _).trans rfl) rfl,
   fun L st σ a => ev_getf ((TP_22 _).trans rfl),
   fun l0 st σ x => ev_p ((TP_22 _).trans rfl) rfl,
   fun L st σ a => ev_getf ((TP_22 _).trans rfl),
   fun L σ a0 a1 => ev_callv ((TP_22 _).trans rfl) rfl rfl rfl rfl,
   fun l1 st σ x => ev_p ((TP_22 _).trans rfl) rfl,
   fun l0 st σ x => ev_p ((TP_22 _).trans rfl) rfl,
   fun L st σ a => ev_getf ((TP_22 _).trans rfl),
   fun L st σ a x => ev_puti ((TP_22 _).trans rfl),
   fun l1 st σ x => ev_p ((TP_22 _).trans rfl) rfl,
   fun l0 st σ x => ev_p ((TP_22 _).trans rfl) rfl,
   fun L st σ a => ev_getf ((TP_22 _).trans rfl),
   fun L st σ a x => ev_puti ((TP_22 _).trans rfl),
   fun l1 st σ x => ev_p ((TP_22 _).trans rfl) rfl,
   fun l0 st σ x => ev_p ((TP_22 _).trans rfl) rfl,
   fun L st σ a => ev_getf ((TP_22 _).trans rfl),
   fun L st σ a x => ev_puti ((TP_22 _).trans rfl),
   fun l1 st σ x => ev_p ((TP_22 _).trans rfl) rfl,
   fun l0 st σ x => ev_p ((TP_22 _).trans rfl) rfl,
   fun L st σ a => ev_getf ((TP_22 _).trans rfl),
   fun L st σ a x => ev_puti ((TP_22 _).trans rfl),
   fun l1 st σ x => ev_p ((TP_22 _).trans rfl) rfl,
   fun l0 st σ x => ev_p ((TP_22 _).trans rfl) rfl,
   fun L st σ a => ev_getf ((TP_22 _).trans rfl),
   fun L st σ a x => ev_puti ((TP_22 _).trans rfl),
   fun l1 st σ x => ev_p ((TP_22 _).trans rfl) rfl,
   fun l0 st σ x => ev_p ((TP_22 _).trans rfl) rfl,
   fun L st σ a => ev_getf ((TP_22 _).trans rfl),
   fun L st σ a x => ev_puti ((TP_22 _).trans rfl),
   fun L σ => ev_r ((TP_22 _).trans rfl) rfl⟩
theorem TP_23 (pc : Nat) : TT 23 pc = ri_find TL_23 pc := rfl
theorem E_23 (x0 : Nat) (x1 : Int32) (x2 : Int32) (x3 : Int32) (σ : ri_S) : cal 23 [.ref x0, .int x1, .int x2, .int x3] σ = ev 23 (0, [some (.ref x0), some (.int x1), some (.int x2), some (.int x3)], []) σ := rfl
theorem I_23 :
  (∀ (l0 l2 l3 : Option Value) (st : List Value) (σ : ri_S) (x : Int32), ev 23 (0, [l0, some (.int x), l2, l3], st) σ = ev 23 (1, [l0, some (.int x), l2, l3], .int x :: st) σ) ∧
  (∀ (L : ri_L) (st : List Value) (σ : ri_S), ev 23 (1, L, st) σ = ev 23 (2, L, .int 3 :: st) σ) ∧
  (∀ (L : ri_L) (st : List Value) (σ : ri_S), ev 23 (2, L, st) σ = ev 23 (3, L, .int 5 :: st) σ) ∧
  (∀ (L : ri_L) (σ : ri_S) (a0 : Int32) (a1 : Int32) (a2 : Int32), ev 23 (3, L, [.int a2, .int a1, .int a0]) σ = (cal 137 [.int a0, .int a1, .int a2] σ).bind fun q => ev 23 (6, L, q.1.toList ++ []) q.2) ∧
  (∀ (L : ri_L) (st : List Value) (σ : ri_S) (x : Int32), ev 23 (6, L, .int x :: st) σ = if x = 0 then ev 23 (29, L, st) σ else ev 23 (9, L, st) σ) ∧
  (∀ (l0 l1 l3 : Option Value) (st : List Value) (σ : ri_S) (x : Int32), ev 23 (9, [l0, l1, some (.int x), l3], st) σ = ev 23 (10, [l0, l1, some (.int x), l3], .int x :: st) σ) ∧
  (∀ (L : ri_L) (st : List Value) (σ : ri_S), ev 23 (10, L, st) σ = ev 23 (12, L, .int (-4) :: st) σ) ∧
  (∀ (L : ri_L) (st : List Value) (σ : ri_S), ev 23 (12, L, st) σ = ev 23 (13, L, .int 4 :: st) σ) ∧
  (∀ (L : ri_L) (σ : ri_S) (a0 : Int32) (a1 : Int32) (a2 : Int32), ev 23 (13, L, [.int a2, .int a1, .int a0]) σ = (cal 137 [.int a0, .int a1, .int a2] σ).bind fun q => ev 23 (16, L, q.1.toList ++ []) q.2) ∧
  (∀ (L : ri_L) (st : List Value) (σ : ri_S) (x : Int32), ev 23 (16, L, .int x :: st) σ = if x = 0 then ev 23 (29, L, st) σ else ev 23 (19, L, st) σ) ∧
  (∀ (l0 l1 l2 : Option Value) (st : List Value) (σ : ri_S) (x : Int32), ev 23 (19, [l0, l1, l2, some (.int x)], st) σ = ev 23 (20, [l0, l1, l2, some (.int x)], .int x :: st) σ) ∧
  (∀ (L : ri_L) (st : List Value) (σ : ri_S), ev 23 (20, L, st) σ = ev 23 (21, L, .int 0 :: st) σ) ∧
  (∀ (L : ri_L) (st : List Value) (σ : ri_S), ev 23 (21, L, st) σ = ev 23 (23, L, .int 30 :: st) σ) ∧
  (∀ (L : ri_L) (σ : ri_S) (a0 : Int32) (a1 : Int32) (a2 : Int32), ev 23 (23, L, [.int a2, .int a1, .int a0]) σ = (cal 137 [.int a0, .int a1, .int a2] σ).bind fun q => ev 23 (26, L, q.1.toList ++ []) q.2) ∧
  (∀ (L : ri_L) (st : List Value) (σ : ri_S) (x : Int32), ev 23 (26, L, .int x :: st) σ = if ¬ x = 0 then ev 23 (31, L, st) σ else ev 23 (29, L, st) σ) ∧
  (∀ (L : ri_L) (st : List Value) (σ : ri_S), ev 23 (29, L, st) σ = ev 23 (30, L, .int 2 :: st) σ) ∧
  (∀ (L : ri_L) (σ : ri_S) (x : Int32), ev 23 (30, L, [.int x]) σ = some (some (.int x), σ)) ∧
  (∀ (l1 l2 l3 : Option Value) (st : List Value) (σ : ri_S) (x : Nat), ev 23 (31, [some (.ref x), l1, l2, l3], st) σ = ev 23 (32, [some (.ref x), l1, l2, l3], .ref x :: st) σ) ∧
  (∀ (L : ri_L) (st : List Value) (σ : ri_S) (a : Nat), ev 23 (32, L, .ref a :: st) σ = tv_o 3 0 (σ.1 a) fun v => ev 23 (35, L, v :: st) σ) ∧
  (∀ (L : ri_L) (st : List Value) (σ : ri_S) (a : Nat), ev 23 (35, L, .ref a :: st) σ = tv_o 7 0 (σ.1 a) fun v => ev 23 (38, L, v :: st) σ) ∧
  (∀ (L : ri_L) (st : List Value) (σ : ri_S), ev 23 (38, L, st) σ = ev 23 (39, L, .int 3 :: st) σ) ∧
  (∀ (L : ri_L) (st : List Value) (σ : ri_S) (x y : Int32), ev 23 (39, L, .int y :: .int x :: st) σ = if y ≤ x then ev 23 (46, L, st) σ else ev 23 (42, L, st) σ) ∧
  (∀ (L : ri_L) (st : List Value) (σ : ri_S), ev 23 (42, L, st) σ = ev 23 (43, L, .int 0 :: st) σ) ∧
  (∀ (L : ri_L) (st : List Value) (σ : ri_S), ev 23 (43, L, st) σ = ev 23 (47, L, st) σ) ∧
  (∀ (L : ri_L) (st : List Value) (σ : ri_S), ev 23 (46, L, st) σ = ev 23 (47, L, .int 3 :: st) σ) ∧
  (∀ (L : ri_L) (σ : ri_S) (x : Int32), ev 23 (47, L, [.int x]) σ = some (some (.int x), σ)) :=
  ⟨fun l0 l2 l3 st σ x => ev_p ((TP_23 _).trans rfl) rfl,
   fun L st σ => ev_p ((TP_23 _).trans rfl) rfl,
   fun L st σ => ev_p ((TP_23 _).trans rfl) rfl,
   fun L σ a0 a1 a2 => ev_call ((TP_23 _).trans rfl) rfl rfl rfl rfl,
   fun L st σ x => ev_b ((TP_23 _).trans rfl) rfl,
   fun l0 l1 l3 st σ x => ev_p ((TP_23 _).trans rfl) rfl,
   fun L st σ => ev_p ((TP_23 _).trans rfl) rfl,
   fun L st σ => ev_p ((TP_23 _).trans rfl) rfl,
   fun L σ a0 a1 a2 => ev_call ((TP_23 _).trans rfl) rfl rfl rfl rfl,
   fun L st σ x => ev_b ((TP_23 _).trans rfl) rfl,
   fun l0 l1 l2 st σ x => ev_p ((TP_23 _).trans rfl) rfl,
   fun L st σ => ev_p ((TP_23 _).trans rfl) rfl,
   fun L st σ => ev_p ((TP_23 _).trans rfl) rfl,
   fun L σ a0 a1 a2 => ev_call ((TP_23 _).trans rfl) rfl rfl rfl rfl,
   fun L st σ x => ev_b ((TP_23 _).trans rfl) rfl,
   fun L st σ => ev_p ((TP_23 _).trans rfl) rfl,
   fun L σ x => ev_r ((TP_23 _).trans rfl) rfl,
   fun l1 l2 l3 st σ x => ev_p ((TP_23 _).trans rfl) rfl,
   fun L st σ a => ev_getf ((TP_23 _).trans rfl),
   fun L st σ a => ev_getf ((TP_23 _).trans rfl),
   fun L st σ => ev_p ((TP_23 _).trans rfl) rfl,
   fun L st σ x y => ev_b ((TP_23 _).trans rfl) rfl,
   fun L st σ => ev_p ((TP_23 _).trans rfl) rfl,
   fun L st σ => ev_p ((TP_23 _).trans rfl) rfl,
   fun L st σ => ev_p ((TP_23 _).trans rfl) rfl,
   fun L σ x => ev_r ((TP_23 _).trans rfl) rfl⟩
theorem TP_24 (pc : Nat) : TT 24 pc = ri_find TL_24 pc := rfl
theorem E_24 (x0 : Nat) (x1 : Int32) (x2 : Int32) (x3 : Int32) (x4 : Int32) (σ : ri_S) : cal 24 [.ref x0, .int x1, .int x2, .int x3, .int x4] σ = ev 24 (0, [some (.ref x0), some (.int x1), some (.int x2), some (.int x3), some (.int x4)], []) σ := rfl
theorem I_24 :
  (∀ (l1 l2 l3 l4 : Option Value) (st : List Value) (σ : ri_S) (x : Nat), ev 24 (0, [some (.ref x), l1, l2, l3, l4], st) σ = ev 24 (1, [some (.ref x), l1, l2, l3, l4], .ref x :: st) σ) ∧
  (∀ (L : ri_L) (st : List Value) (σ : ri_S) (a : Nat), ev 24 (1, L, .ref a :: st) σ = tv_o 3 0 (σ.1 a) fun v => ev 24 (4, L, v :: st) σ) ∧
  (∀ (l0 l2 l3 l4 : Option Value) (st : List Value) (σ : ri_S) (x : Int32), ev 24 (4, [l0, some (.int x), l2, l3, l4], st) σ = ev 24 (5, [l0, some (.int x), l2, l3, l4], .int x :: st) σ) ∧
  (∀ (l0 l1 l3 l4 : Option Value) (st : List Value) (σ : ri_S) (x : Int32), ev 24 (5, [l0, l1, some (.int x), l3, l4], st) σ = ev 24 (6, [l0, l1, some (.int x), l3, l4], .int x :: st) σ) ∧
  (∀ (L : ri_L) (σ : ri_S) (a0 : Nat) (a1 : Int32) (a2 : Int32), ev 24 (6, L, [.int a2, .int a1, .ref a0]) σ = tv_k 7 (σ.1 a0) ((cal 98 [.ref a0, .int a1, .int a2] σ).bind fun q => ev 24 (9, L, q.1.toList ++ []) q.2)) ∧
  (∀ (L : ri_L) (st : List Value) (σ : ri_S) (x : Int32), ev 24 (9, L, .int x :: st) σ = if x = 0 then ev 24 (25, L, st) σ else ev 24 (12, L, st) σ) ∧
  (∀ (l1 l2 l3 l4 : Option Value) (st : List Value) (σ : ri_S) (x : Nat), ev 24 (12, [some (.ref x), l1, l2, l3, l4], st) σ = ev 24 (13, [some (.ref x), l1, l2, l3, l4], .ref x :: st) σ) ∧
  (∀ (L : ri_L) (st : List Value) (σ : ri_S) (a : Nat), ev 24 (13, L, .ref a :: st) σ = tv_o 3 0 (σ.1 a) fun v => ev 24 (16, L, v :: st) σ) ∧
  (∀ (l0 l1 l2 l4 : Option Value) (st : List Value) (σ : ri_S) (x : Int32), ev 24 (16, [l0, l1, l2, some (.int x), l4], st) σ = ev 24 (17, [l0, l1, l2, some (.int x), l4], .int x :: st) σ) ∧
  (∀ (l0 l1 l2 l3 : Option Value) (st : List Value) (σ : ri_S) (x : Int32), ev 24 (17, [l0, l1, l2, l3, some (.int x)], st) σ = ev 24 (19, [l0, l1, l2, l3, some (.int x)], .int x :: st) σ) ∧
  (∀ (L : ri_L) (σ : ri_S) (a0 : Nat) (a1 : Int32) (a2 : Int32), ev 24 (19, L, [.int a2, .int a1, .ref a0]) σ = tv_k 7 (σ.1 a0) ((cal 98 [.ref a0, .int a1, .int a2] σ).bind fun q => ev 24 (22, L, q.1.toList ++ []) q.2)) ∧
  (∀ (L : ri_L) (st : List Value) (σ : ri_S) (x : Int32), ev 24 (22, L, .int x :: st) σ = if ¬ x = 0 then ev 24 (27, L, st) σ else ev 24 (25, L, st) σ) ∧
  (∀ (L : ri_L) (st : List Value) (σ : ri_S), ev 24 (25, L, st) σ = ev 24 (26, L, .int 1 :: st) σ) ∧
  (∀ (L : ri_L) (σ : ri_S) (x : Int32), ev 24 (26, L, [.int x]) σ = some (some (.int x), σ)) ∧
  (∀ (l0 l2 l3 l4 : Option Value) (st : List Value) (σ : ri_S) (x : Int32), ev 24 (27, [l0, some (.int x), l2, l3, l4], st) σ = ev 24 (28, [l0, some (.int x), l2, l3, l4], .int x :: st) σ) ∧
  (∀ (l0 l1 l2 l4 : Option Value) (st : List Value) (σ : ri_S) (x : Int32), ev 24 (28, [l0, l1, l2, some (.int x), l4], st) σ = ev 24 (29, [l0, l1, l2, some (.int x), l4], .int x :: st) σ) ∧
  (∀ (L : ri_L) (st : List Value) (σ : ri_S) (x y : Int32), ev 24 (29, L, .int y :: .int x :: st) σ = if ¬ x = y then ev 24 (34, L, st) σ else ev 24 (32, L, st) σ) ∧
  (∀ (L : ri_L) (st : List Value) (σ : ri_S), ev 24 (32, L, st) σ = ev 24 (33, L, .int 2 :: st) σ) ∧
  (∀ (L : ri_L) (σ : ri_S) (x : Int32), ev 24 (33, L, [.int x]) σ = some (some (.int x), σ)) ∧
  (∀ (l1 l2 l3 l4 : Option Value) (st : List Value) (σ : ri_S) (x : Nat), ev 24 (34, [some (.ref x), l1, l2, l3, l4], st) σ = ev 24 (35, [some (.ref x), l1, l2, l3, l4], .ref x :: st) σ) ∧
  (∀ (L : ri_L) (st : List Value) (σ : ri_S) (a : Nat), ev 24 (35, L, .ref a :: st) σ = tv_o 3 1 (σ.1 a) fun v => ev 24 (38, L, v :: st) σ) ∧
  (∀ (L : ri_L) (st : List Value) (σ : ri_S) (a : Nat), ev 24 (38, L, .ref a :: st) σ = tv_o 2 0 (σ.1 a) fun v => ev 24 (41, L, v :: st) σ) ∧
  (∀ (L : ri_L) (st : List Value) (σ : ri_S), ev 24 (41, L, st) σ = ev 24 (43, L, .int 8 :: st) σ) ∧
  (∀ (L : ri_L) (st : List Value) (σ : ri_S) (x y : Int32), ev 24 (43, L, .int y :: .int x :: st) σ = if y ≤ x then ev 24 (50, L, st) σ else ev 24 (46, L, st) σ) ∧
  (∀ (L : ri_L) (st : List Value) (σ : ri_S), ev 24 (46, L, st) σ = ev 24 (47, L, .int 0 :: st) σ) ∧
  (∀ (L : ri_L) (st : List Value) (σ : ri_S), ev 24 (47, L, st) σ = ev 24 (51, L, st) σ) ∧
  (∀ (L : ri_L) (st : List Value) (σ : ri_S), ev 24 (50, L, st) σ = ev 24 (51, L, .int 3 :: st) σ) ∧
  (∀ (L : ri_L) (σ : ri_S) (x : Int32), ev 24 (51, L, [.int x]) σ = some (some (.int x), σ)) :=
  ⟨fun l1 l2 l3 l4 st σ x => ev_p ((TP_24 _).trans rfl) rfl,
   fun L st σ a => ev_getf ((TP_24 _).trans rfl),
   fun l0 l2 l3 l4 st σ x => ev_p ((TP_24 _).trans rfl) rfl,
   fun l0 l1 l3 l4 st σ x => ev_p ((TP_24 _).trans rfl) rfl,
   fun L σ a0 a1 a2 => ev_callv ((TP_24 _).trans rfl) rfl rfl rfl rfl,
   fun L st σ x => ev_b ((TP_24 _).trans rfl) rfl,
   fun l1 l2 l3 l4 st σ x => ev_p ((TP_24 _).trans rfl) rfl,
   fun L st σ a => ev_getf ((TP_24 _).trans rfl),
   fun l0 l1 l2 l4 st σ x => ev_p ((TP_24 _).trans rfl) rfl,
   fun l0 l1 l2 l3 st σ x => ev_p ((TP_24 _).trans rfl) rfl,
   fun L σ a0 a1 a2 => ev_callv ((TP_24 _).trans rfl) rfl rfl rfl rfl,
   fun L st σ x => ev_b ((TP_24 _).trans rfl) rfl,
   fun L st σ => ev_p ((TP_24 _).trans rfl) rfl,
   fun L σ x => ev_r ((TP_24 _).trans rfl) rfl,
   fun l0 l2 l3 l4 st σ x => ev_p ((TP_24 _).trans rfl) rfl,
   fun l0 l1 l2 l4 st σ x => ev_p ((TP_24 _).trans rfl) rfl,
   fun L st σ x y => ev_b ((TP_24 _).trans rfl) rfl,
   fun L st σ => ev_p ((TP_24 _).trans rfl) rfl,
   fun L σ x => ev_r ((TP_24 _).trans rfl) rfl,
   fun l1 l2 l3 l4 st σ x => ev_p ((TP_24 _).trans rfl) rfl,
   fun L st σ a => ev_getf ((TP_24 _).trans rfl),
   fun L st σ a => ev_getf ((TP_24 _).trans rfl),
   fun L st σ => ev_p ((TP_24 _).trans rfl) rfl,
   fun L st σ x y => ev_b ((TP_24 _).trans rfl) rfl,
   fun L st σ => ev_p ((TP_24 _).trans rfl) rfl,
   fun L st σ => ev_p ((TP_24 _).trans rfl) rfl,
   fun L st σ => ev_p ((TP_24 _).trans rfl) rfl,
   fun L σ x => ev_r ((TP_24 _).trans rfl) rfl⟩
theorem TP_25 (pc : Nat) : TT 25 pc = ri_find TL_25 pc := rfl
theorem E_25 (x0 : Nat) (x1 : Int32) (x2 : Int32) (x3 : Int32) (σ : ri_S) : cal 25 [.ref x0, .int x1, .int x2, .int x3] σ = ev 25 (0, [some (.ref x0), some (.int x1), some (.int x2), some (.int x3), none], []) σ := rfl
theorem I_25_0 :
  (∀ (l1 l2 l3 l4 : Option Value) (st : List Value) (σ : ri_S) (x : Nat), ev 25 (0, [some (.ref x), l1, l2, l3, l4], st) σ = ev 25 (1, [some (.ref x), l1, l2, l3, l4], .ref x :: st) σ) ∧
  (∀ (L : ri_L) (st : List Value) (σ : ri_S) (a : Nat), ev 25 (1, L, .ref a :: st) σ = tv_o 3 0 (σ.1 a) fun v => ev 25 (4, L, v :: st) σ) ∧
  (∀ (l0 l2 l3 l4 : Option Value) (st : List Value) (σ : ri_S) (x : Int32), ev 25 (4, [l0, some (.int x), l2, l3, l4], st) σ = ev 25 (5, [l0, some (.int x), l2, l3, l4], .int x :: st) σ) ∧
  (∀ (l0 l1 l3 l4 : Option Value) (st : List Value) (σ : ri_S) (x : Int32), ev 25 (5, [l0, l1, some (.int x), l3, l4], st) σ = ev 25 (6, [l0, l1, some (.int x), l3, l4], .int x :: st) σ) ∧
  (∀ (L : ri_L) (σ : ri_S) (a0 : Nat) (a1 : Int32) (a2 : Int32), ev 25 (6, L, [.int a2, .int a1, .ref a0]) σ = tv_k 7 (σ.1 a0) ((cal 98 [.ref a0, .int a1, .int a2] σ).bind fun q => ev 25 (9, L, q.1.toList ++ []) q.2)) ∧
  (∀ (L : ri_L) (st : List Value) (σ : ri_S) (x : Int32), ev 25 (9, L, .int x :: st) σ = if ¬ x = 0 then ev 25 (14, L, st) σ else ev 25 (12, L, st) σ) ∧
  (∀ (L : ri_L) (st : List Value) (σ : ri_S), ev 25 (12, L, st) σ = ev 25 (13, L, .int 1 :: st) σ) ∧
  (∀ (L : ri_L) (σ : ri_S) (x : Int32), ev 25 (13, L, [.int x]) σ = some (some (.int x), σ)) ∧
  (∀ (l0 l1 l2 l4 : Option Value) (st : List Value) (σ : ri_S) (x : Int32), ev 25 (14, [l0, l1, l2, some (.int x), l4], st) σ = ev 25 (15, [l0, l1, l2, some (.int x), l4], .int x :: st) σ) ∧
  (∀ (L : ri_L) (st : List Value) (σ : ri_S), ev 25 (15, L, st) σ = ev 25 (16, L, .int 1 :: st) σ) ∧
  (∀ (L : ri_L) (st : List Value) (σ : ri_S), ev 25 (16, L, st) σ = ev 25 (18, L, .int 9 :: st) σ) ∧
  (∀ (L : ri_L) (σ : ri_S) (a0 : Int32) (a1 : Int32) (a2 : Int32), ev 25 (18, L, [.int a2, .int a1, .int a0]) σ = (cal 137 [.int a0, .int a1, .int a2] σ).bind fun q => ev 25 (21, L, q.1.toList ++ []) q.2) ∧
  (∀ (L : ri_L) (st : List Value) (σ : ri_S) (x : Int32), ev 25 (21, L, .int x :: st) σ = if ¬ x = 0 then ev 25 (26, L, st) σ else ev 25 (24, L, st) σ) ∧
  (∀ (L : ri_L) (st : List Value) (σ : ri_S), ev 25 (24, L, st) σ = ev 25 (25, L, .int 2 :: st) σ) ∧
  (∀ (L : ri_L) (σ : ri_S) (x : Int32), ev 25 (25, L, [.int x]) σ = some (some (.int x), σ)) ∧
  (∀ (l1 l2 l3 l4 : Option Value) (st : List Value) (σ : ri_S) (x : Nat), ev 25 (26, [some (.ref x), l1, l2, l3, l4], st) σ = ev 25 (27, [some (.ref x), l1, l2, l3, l4], .ref x :: st) σ) ∧
  (∀ (L : ri_L) (st : List Value) (σ : ri_S) (a : Nat), ev 25 (27, L, .ref a :: st) σ = tv_o 3 2 (σ.1 a) fun v => ev 25 (30, L, v :: st) σ) ∧
  (∀ (l0 l2 l3 l4 : Option Value) (st : List Value) (σ : ri_S) (x : Int32), ev 25 (30, [l0, some (.int x), l2, l3, l4], st) σ = ev 25 (31, [l0, some (.int x), l2, l3, l4], .int x :: st) σ) ∧
  (∀ (l1 l2 l3 l4 : Option Value) (st : List Value) (σ : ri_S) (x : Nat), ev 25 (31, [some (.ref x), l1, l2, l3, l4], st) σ = ev 25 (32, [some (.ref x), l1, l2, l3, l4], .ref x :: st) σ) ∧
  (∀ (L : ri_L) (st : List Value) (σ : ri_S) (a : Nat), ev 25 (32, L, .ref a :: st) σ = tv_o 3 0 (σ.1 a) fun v => ev 25 (35, L, v :: st) σ) ∧
  (∀ (l0 l2 l3 l4 : Option Value) (st : List Value) (σ : ri_S) (x : Int32), ev 25 (35, [l0, some (.int x), l2, l3, l4], st) σ = ev 25 (36, [l0, some (.int x), l2, l3, l4], .int x :: st) σ) ∧
  (∀ (l0 l1 l3 l4 : Option Value) (st : List Value) (σ : ri_S) (x : Int32), ev 25 (36, [l0, l1, some (.int x), l3, l4], st) σ = ev 25 (37, [l0, l1, some (.int x), l3, l4], .int x :: st) σ) ∧
  (∀ (L : ri_L) (σ : ri_S) (a0 : Nat) (a1 : Int32) (a2 : Int32) (s0 s1 : Value), ev 25 (37, L, [.int a2, .int a1, .ref a0, s0, s1]) σ = tv_k 7 (σ.1 a0) ((cal 100 [.ref a0, .int a1, .int a2] σ).bind fun q => ev 25 (40, L, q.1.toList ++ [s0, s1]) q.2)) ∧
  (∀ (L : ri_L) (σ : ri_S) (a0 : Nat) (a1 : Int32) (a2 : Int32), ev 25 (40, L, [.int a2, .int a1, .ref a0]) σ = tv_k 0 (σ.1 a0) ((cal 4 [.ref a0, .int a1, .int a2] σ).bind fun q => ev 25 (43, L, q.1.toList ++ []) q.2)) ∧
  (∀ (L : ri_L) (st : List Value) (σ : ri_S), ev 25 (43, L, st) σ = ev 25 (44, L, .int (-1) :: st) σ) ∧
  (∀ (L : ri_L) (st : List Value) (σ : ri_S) (x y : Int32), ev 25 (44, L, .int y :: .int x :: st) σ = if ¬ x = y then ev 25 (51, L, st) σ else ev 25 (47, L, st) σ) ∧
  (∀ (L : ri_L) (st : List Value) (σ : ri_S), ev 25 (47, L, st) σ = ev 25 (48, L, .int 1 :: st) σ) ∧
  (∀ (L : ri_L) (st : List Value) (σ : ri_S), ev 25 (48, L, st) σ = ev 25 (52, L, st) σ) ∧
  (∀ (L : ri_L) (st : List Value) (σ : ri_S), ev 25 (51, L, st) σ = ev 25 (52, L, .int 0 :: st) σ) ∧
  (∀ (l0 l1 l2 l3 l4 : Option Value) (st : List Value) (σ : ri_S) (x : Int32), ev 25 (52, [l0, l1, l2, l3, l4], .int x :: st) σ = ev 25 (54, [l0, l1, l2, ri_clr l3, some (.int x)], st) σ) ∧
  (∀ (l0 l1 l2 l3 : Option Value) (st : List Value) (σ : ri_S) (x : Int32), ev 25 (54, [l0, l1, l2, l3, some (.int x)], st) σ = ev 25 (56, [l0, l1, l2, l3, some (.int x)], .int x :: st) σ) ∧
  (∀ (L : ri_L) (st : List Value) (σ : ri_S) (x : Int32), ev 25 (56, L, .int x :: st) σ = if x = 0 then ev 25 (74, L, st) σ else ev 25 (59, L, st) σ) ∧
  (∀ (l1 l2 l3 l4 : Option Value) (st : List Value) (σ : ri_S) (x : Nat), ev 25 (59, [some (.ref x), l1, l2, l3, l4], st) σ = ev 25 (60, [some (.ref x), l1, l2, l3, l4], .ref x :: st) σ) ∧
  (∀ (L : ri_L) (st : List Value) (σ : ri_S) (a : Nat), ev 25 (60, L, .ref a :: st) σ = tv_o 3 2 (σ.1 a) fun v => ev 25 (63, L, v :: st) σ) ∧
  (∀ (L : ri_L) (st : List Value) (σ : ri_S) (a : Nat), ev 25 (63, L, .ref a :: st) σ = tv_o 0 0 (σ.1 a) fun v => ev 25 (66, L, v :: st) σ) ∧
  (∀ (L : ri_L) (st : List Value) (σ : ri_S), ev 25 (66, L, st) σ = ev 25 (67, L, .int 5 :: st) σ) ∧
  (∀ (L : ri_L) (st : List Value) (σ : ri_S) (x y : Int32), ev 25 (67, L, .int y :: .int x :: st) σ = if y ≤ x then ev 25 (74, L, st) σ else ev 25 (70, L, st) σ) ∧
  (∀ (L : ri_L) (st : List Value) (σ : ri_S), ev 25 (70, L, st) σ = ev 25 (71, L, .int 0 :: st) σ) ∧
  (∀ (L : ri_L) (st : List Value) (σ : ri_S), ev 25 (71, L, st) σ = ev 25 (75, L, st) σ) ∧
  (∀ (L : ri_L) (st : List Value) (σ : ri_S), ev 25 (74, L, st) σ = ev 25 (75, L, .int 3 :: st) σ) :=
  ⟨fun l1 l2 l3 l4 st σ x => ev_p ((TP_25 _).trans rfl) rfl,
   fun L st σ a => ev_getf ((TP_25 _).trans rfl),
   fun l0 l2 l3 l4 st σ x => ev_p ((TP_25 _).trans rfl) rfl,
   fun l0 l1 l3 l4 st σ x => ev_p ((TP_25 _).trans rfl) rfl,
   fun L σ a0 a1 a2 => ev_callv ((TP_25 _).trans rfl) rfl rfl rfl rfl,
   fun L st σ x => ev_b ((TP_25 _).trans rfl) rfl,
   fun L st σ => ev_p ((TP_25 _).trans rfl) rfl,
   fun L σ x => ev_r ((TP_25 _).trans rfl) rfl,
   fun l0 l1 l2 l4 st σ x => ev_p ((TP_25 _).trans rfl) rfl,
   fun L st σ => ev_p ((TP_25 _).trans rfl) rfl,
   fun L st σ => ev_p ((TP_25 _).trans rfl) rfl,
   fun L σ a0 a1 a2 => ev_call ((TP_25 _).trans rfl) rfl rfl rfl rfl,
   fun L st σ x => ev_b ((TP_25 _).trans rfl) rfl,
   fun L st σ => ev_p ((TP_25 _).trans rfl) rfl,
   fun L σ x => ev_r ((TP_25 _).trans rfl) rfl,
   fun l1 l2 l3 l4 st σ x => ev_p ((TP_25 _).trans rfl) rfl,
   fun L st σ a => ev_getf ((TP_25 _).trans rfl),
   fun l0 l2 l3 l4 st σ x => ev_p ((TP_25 _).trans rfl) rfl,
   fun l1 l2 l3 l4 st σ x => ev_p ((TP_25 _).trans rfl) rfl,
   fun L st σ a => ev_getf ((TP_25 _).trans rfl),
   fun l0 l2 l3 l4 st σ x => ev_p ((TP_25 _).trans rfl) rfl,
   fun l0 l1 l3 l4 st σ x => ev_p ((TP_25 _).trans rfl) rfl,
   fun L σ a0 a1 a2 s0 s1 => ev_callv ((TP_25 _).trans rfl) rfl rfl rfl rfl,
   fun L σ a0 a1 a2 => ev_callv ((TP_25 _).trans rfl) rfl rfl rfl rfl,
   fun L st σ => ev_p ((TP_25 _).trans rfl) rfl,
   fun L st σ x y => ev_b ((TP_25 _).trans rfl) rfl,
   fun L st σ => ev_p ((TP_25 _).trans rfl) rfl,
   fun L st σ => ev_p ((TP_25 _).trans rfl) rfl,
   fun L st σ => ev_p ((TP_25 _).trans rfl) rfl,
   fun l0 l1 l2 l3 l4 st σ x => ev_p ((TP_25 _).trans rfl) rfl,
   fun l0 l1 l2 l3 st σ x => ev_p ((TP_25 _).trans rfl) rfl,
   fun L st σ x => ev_b ((TP_25 _).trans rfl) rfl,
   fun l1 l2 l3 l4 st σ x => ev_p ((TP_25 _).trans rfl) rfl,
   fun L st σ a => ev_getf ((TP_25 _).trans rfl),
   fun L st σ a => ev_getf ((TP_25 _).trans rfl),
   fun L st σ => ev_p ((TP_25 _).trans rfl) rfl,
   fun L st σ x y => ev_b ((TP_25 _).trans rfl) rfl,
   fun L st σ => ev_p ((TP_25 _).trans rfl) rfl,
   fun L st σ => ev_p ((TP_25 _).trans rfl) rfl,
   fun L st σ => ev_p ((TP_25 _).trans rfl) rfl⟩
theorem I_25_1 : ∀ (L : ri_L) (σ : ri_S) (x : Int32), ev 25 (75, L, [.int x]) σ = some (some (.int x), σ) := fun L σ x => ev_r ((TP_25 _).trans rfl) rfl
theorem TP_26 (pc : Nat) : TT 26 pc = ri_find TL_26 pc := rfl
theorem E_26 (x0 : Nat) (x1 : Int32) (x2 : Int32) (x3 : Int32) (σ : ri_S) : cal 26 [.ref x0, .int x1, .int x2, .int x3] σ = ev 26 (0, [some (.ref x0), some (.int x1), some (.int x2), some (.int x3)], []) σ := rfl
theorem I_26 :
  (∀ (l1 l2 l3 : Option Value) (st : List Value) (σ : ri_S) (x : Nat), ev 26 (0, [some (.ref x), l1, l2, l3], st) σ = ev 26 (1, [some (.ref x), l1, l2, l3], .ref x :: st) σ) ∧
  (∀ (L : ri_L) (st : List Value) (σ : ri_S) (a : Nat), ev 26 (1, L, .ref a :: st) σ = tv_o 3 0 (σ.1 a) fun v => ev 26 (4, L, v :: st) σ) ∧
  (∀ (l0 l2 l3 : Option Value) (st : List Value) (σ : ri_S) (x : Int32), ev 26 (4, [l0, some (.int x), l2, l3], st) σ = ev 26 (5, [l0, some (.int x), l2, l3], .int x :: st) σ) ∧
  (∀ (l0 l1 l3 : Option Value) (st : List Value) (σ : ri_S) (x : Int32), ev 26 (5, [l0, l1, some (.int x), l3], st) σ = ev 26 (6, [l0, l1, some (.int x), l3], .int x :: st) σ) ∧
  (∀ (L : ri_L) (σ : ri_S) (a0 : Nat) (a1 : Int32) (a2 : Int32), ev 26 (6, L, [.int a2, .int a1, .ref a0]) σ = tv_k 7 (σ.1 a0) ((cal 98 [.ref a0, .int a1, .int a2] σ).bind fun q => ev 26 (9, L, q.1.toList ++ []) q.2)) ∧
  (∀ (L : ri_L) (st : List Value) (σ : ri_S) (x : Int32), ev 26 (9, L, .int x :: st) σ = if ¬ x = 0 then ev 26 (14, L, st) σ else ev 26 (12, L, st) σ) ∧
  (∀ (L : ri_L) (st : List Value) (σ : ri_S), ev 26 (12, L, st) σ = ev 26 (13, L, .int 1 :: st) σ) ∧
  (∀ (L : ri_L) (σ : ri_S) (x : Int32), ev 26 (13, L, [.int x]) σ = some (some (.int x), σ)) ∧
  (∀ (l0 l1 l2 : Option Value) (st : List Value) (σ : ri_S) (x : Int32), ev 26 (14, [l0, l1, l2, some (.int x)], st) σ = ev 26 (15, [l0, l1, l2, some (.int x)], .int x :: st) σ) ∧
  (∀ (L : ri_L) (st : List Value) (σ : ri_S), ev 26 (15, L, st) σ = ev 26 (16, L, .int 1 :: st) σ) ∧
  (∀ (L : ri_L) (st : List Value) (σ : ri_S), ev 26 (16, L, st) σ = ev 26 (18, L, .int 9 :: st) σ) ∧
  (∀ (L : ri_L) (σ : ri_S) (a0 : Int32) (a1 : Int32) (a2 : Int32), ev 26 (18, L, [.int a2, .int a1, .int a0]) σ = (cal 137 [.int a0, .int a1, .int a2] σ).bind fun q => ev 26 (21, L, q.1.toList ++ []) q.2) ∧
  (∀ (L : ri_L) (st : List Value) (σ : ri_S) (x : Int32), ev 26 (21, L, .int x :: st) σ = if x = 0 then ev 26 (28, L, st) σ else ev 26 (24, L, st) σ) ∧
  (∀ (L : ri_L) (st : List Value) (σ : ri_S), ev 26 (24, L, st) σ = ev 26 (25, L, .int 0 :: st) σ) ∧
  (∀ (L : ri_L) (st : List Value) (σ : ri_S), ev 26 (25, L, st) σ = ev 26 (29, L, st) σ) ∧
  (∀ (L : ri_L) (st : List Value) (σ : ri_S), ev 26 (28, L, st) σ = ev 26 (29, L, .int 2 :: st) σ) ∧
  (∀ (L : ri_L) (σ : ri_S) (x : Int32), ev 26 (29, L, [.int x]) σ = some (some (.int x), σ)) :=
  ⟨fun l1 l2 l3 st σ x => ev_p ((TP_26 _).trans rfl) rfl,
   fun L st σ a => ev_getf ((TP_26 _).trans rfl),
   fun l0 l2 l3 st σ x => ev_p ((TP_26 _).trans rfl) rfl,
   fun l0 l1 l3 st σ x => ev_p ((TP_26 _).trans rfl) rfl,
   fun L σ a0 a1 a2 => ev_callv ((TP_26 _).trans rfl) rfl rfl rfl rfl,
   fun L st σ x => ev_b ((TP_26 _).trans rfl) rfl,
   fun L st σ => ev_p ((TP_26 _).trans rfl) rfl,
   fun L σ x => ev_r ((TP_26 _).trans rfl) rfl,
   fun l0 l1 l2 st σ x => ev_p ((TP_26 _).trans rfl) rfl,
   fun L st σ => ev_p ((TP_26 _).trans rfl) rfl,
   fun L st σ => ev_p ((TP_26 _).trans rfl) rfl,
   fun L σ a0 a1 a2 => ev_call ((TP_26 _).trans rfl) rfl rfl rfl rfl,
   fun L st σ x => ev_b ((TP_26 _).trans rfl) rfl,
   fun L st σ => ev_p ((TP_26 _).trans rfl) rfl,
   fun L st σ => ev_p ((TP_26 _).trans rfl) rfl,
   fun L st σ => ev_p ((TP_26 _).trans rfl) rfl,
   fun L σ x => ev_r ((TP_26 _).trans rfl) rfl⟩
theorem TP_27 (pc : Nat) : TT 27 pc = ri_find TL_27 pc := rfl
theorem E_27 (x0 : Nat) (x1 : Int32) (x2 : Int32) (σ : ri_S) : cal 27 [.ref x0, .int x1, .int x2] σ = ev 27 (0, [some (.ref x0), some (.int x1), some (.int x2)], []) σ := rfl
theorem I_27 :
  (∀ (l1 l2 : Option Value) (st : List Value) (σ : ri_S) (x : Nat), ev 27 (0, [some (.ref x), l1, l2], st) σ = ev 27 (1, [some (.ref x), l1, l2], .ref x :: st) σ) ∧
  (∀ (L : ri_L) (st : List Value) (σ : ri_S) (a : Nat), ev 27 (1, L, .ref a :: st) σ = tv_o 3 2 (σ.1 a) fun v => ev 27 (4, L, v :: st) σ) ∧
  (∀ (l0 l2 : Option Value) (st : List Value) (σ : ri_S) (x : Int32), ev 27 (4, [l0, some (.int x), l2], st) σ = ev 27 (5, [l0, some (.int x), l2], .int x :: st) σ) ∧
  (∀ (L : ri_L) (σ : ri_S) (a0 : Nat) (a1 : Int32), ev 27 (5, L, [.int a1, .ref a0]) σ = tv_k 0 (σ.1 a0) ((cal 1 [.ref a0, .int a1] σ).bind fun q => ev 27 (8, L, q.1.toList ++ []) q.2)) ∧
  (∀ (L : ri_L) (st : List Value) (σ : ri_S) (x : Int32), ev 27 (8, L, .int x :: st) σ = if x = 0 then ev 27 (26, L, st) σ else ev 27 (11, L, st) σ) ∧
  (∀ (l1 l2 : Option Value) (st : List Value) (σ : ri_S) (x : Nat), ev 27 (11, [some (.ref x), l1, l2], st) σ = ev 27 (12, [some (.ref x), l1, l2], .ref x :: st) σ) ∧
  (∀ (L : ri_L) (st : List Value) (σ : ri_S) (a : Nat), ev 27 (12, L, .ref a :: st) σ = tv_o 3 1 (σ.1 a) fun v => ev 27 (15, L, v :: st) σ) ∧
  (∀ (l0 l1 : Option Value) (st : List Value) (σ : ri_S) (x : Int32), ev 27 (15, [l0, l1, some (.int x)], st) σ = ev 27 (16, [l0, l1, some (.int x)], .int x :: st) σ) ∧
  (∀ (L : ri_L) (σ : ri_S) (a0 : Nat) (a1 : Int32), ev 27 (16, L, [.int a1, .ref a0]) σ = tv_k 2 (σ.1 a0) ((cal 14 [.ref a0, .int a1] σ).bind fun q => ev 27 (19, L, q.1.toList ++ []) q.2)) ∧
  (∀ (L : ri_L) (st : List Value) (σ : ri_S) (x : Int32), ev 27 (19, L, .int x :: st) σ = if x = 0 then ev 27 (26, L, st) σ else ev 27 (22, L, st) σ) ∧
  (∀ (L : ri_L) (st : List Value) (σ : ri_S), ev 27 (22, L, st) σ = ev 27 (23, L, .int 0 :: st) σ) ∧
  (∀ (L : ri_L) (st : List Value) (σ : ri_S), ev 27 (23, L, st) σ = ev 27 (27, L, st) σ) ∧
  (∀ (L : ri_L) (st : List Value) (σ : ri_S), ev 27 (26, L, st) σ = ev 27 (27, L, .int 1 :: st) σ) ∧
  (∀ (L : ri_L) (σ : ri_S) (x : Int32), ev 27 (27, L, [.int x]) σ = some (some (.int x), σ)) :=
  ⟨fun l1 l2 st σ x => ev_p ((TP_27 _).trans rfl) rfl,
   fun L st σ a => ev_getf ((TP_27 _).trans rfl),
   fun l0 l2 st σ x => ev_p ((TP_27 _).trans rfl) rfl,
   fun L σ a0 a1 => ev_callv ((TP_27 _).trans rfl) rfl rfl rfl rfl,
   fun L st σ x => ev_b ((TP_27 _).trans rfl) rfl,
   fun l1 l2 st σ x => ev_p ((TP_27 _).trans rfl) rfl,
   fun L st σ a => ev_getf ((TP_27 _).trans rfl),
   fun l0 l1 st σ x => ev_p ((TP_27 _).trans rfl) rfl,
   fun L σ a0 a1 => ev_callv ((TP_27 _).trans rfl) rfl rfl rfl rfl,
   fun L st σ x => ev_b ((TP_27 _).trans rfl) rfl,
   fun L st σ => ev_p ((TP_27 _).trans rfl) rfl,
   fun L st σ => ev_p ((TP_27 _).trans rfl) rfl,
   fun L st σ => ev_p ((TP_27 _).trans rfl) rfl,
   fun L σ x => ev_r ((TP_27 _).trans rfl) rfl⟩
theorem TP_28 (pc : Nat) : TT 28 pc = ri_find TL_28 pc := rfl
theorem E_28 (x0 : Nat) (x1 : Int32) (x2 : Int32) (σ : ri_S) : cal 28 [.ref x0, .int x1, .int x2] σ = ev 28 (0, [some (.ref x0), some (.int x1), some (.int x2)], []) σ := rfl
theorem I_28 :
  (∀ (l1 l2 : Option Value) (st : List Value) (σ : ri_S) (x : Nat), ev 28 (0, [some (.ref x), l1, l2], st) σ = ev 28 (1, [some (.ref x), l1, l2], .ref x :: st) σ) ∧
  (∀ (L : ri_L) (st : List Value) (σ : ri_S) (a : Nat), ev 28 (1, L, .ref a :: st) σ = tv_o 3 2 (σ.1 a) fun v => ev 28 (4, L, v :: st) σ) ∧
  (∀ (l0 l2 : Option Value) (st : List Value) (σ : ri_S) (x : Int32), ev 28 (4, [l0, some (.int x), l2], st) σ = ev 28 (5, [l0, some (.int x), l2], .int x :: st) σ) ∧
  (∀ (L : ri_L) (σ : ri_S) (a0 : Nat) (a1 : Int32), ev 28 (5, L, [.int a1, .ref a0]) σ = tv_k 0 (σ.1 a0) ((cal 1 [.ref a0, .int a1] σ).bind fun q => ev 28 (8, L, q.1.toList ++ []) q.2)) ∧
  (∀ (L : ri_L) (st : List Value) (σ : ri_S) (x : Int32), ev 28 (8, L, .int x :: st) σ = if ¬ x = 0 then ev 28 (13, L, st) σ else ev 28 (11, L, st) σ) ∧
  (∀ (L : ri_L) (st : List Value) (σ : ri_S), ev 28 (11, L, st) σ = ev 28 (12, L, .int 1 :: st) σ) ∧
  (∀ (L : ri_L) (σ : ri_S) (x : Int32), ev 28 (12, L, [.int x]) σ = some (some (.int x), σ)) ∧
  (∀ (l0 l1 : Option Value) (st : List Value) (σ : ri_S) (x : Int32), ev 28 (13, [l0, l1, some (.int x)], st) σ = ev 28 (14, [l0, l1, some (.int x)], .int x :: st) σ) ∧
  (∀ (L : ri_L) (st : List Value) (σ : ri_S), ev 28 (14, L, st) σ = ev 28 (15, L, .int 1 :: st) σ) ∧
  (∀ (L : ri_L) (st : List Value) (σ : ri_S) (x y : Int32), ev 28 (15, L, .int y :: .int x :: st) σ = if x = y then ev 28 (23, L, st) σ else ev 28 (18, L, st) σ) ∧
  (∀ (l0 l1 : Option Value) (st : List Value) (σ : ri_S) (x : Int32), ev 28 (18, [l0, l1, some (.int x)], st) σ = ev 28 (19, [l0, l1, some (.int x)], .int x :: st) σ) ∧
  (∀ (L : ri_L) (st : List Value) (σ : ri_S), ev 28 (19, L, st) σ = ev 28 (20, L, .int (-1) :: st) σ) ∧
  (∀ (L : ri_L) (st : List Value) (σ : ri_S) (x y : Int32), ev 28 (20, L, .int y :: .int x :: st) σ = if ¬ x = y then ev 28 (27, L, st) σ else ev 28 (23, L, st) σ) ∧
  (∀ (L : ri_L) (st : List Value) (σ : ri_S), ev 28 (23, L, st) σ = ev 28 (24, L, .int 0 :: st) σ) ∧
  (∀ (L : ri_L) (st : List Value) (σ : ri_S), ev 28 (24, L, st) σ = ev 28 (28, L, st) σ) ∧
  (∀ (L : ri_L) (st : List Value) (σ : ri_S), ev 28 (27, L, st) σ = ev 28 (28, L, .int 2 :: st) σ) ∧
  (∀ (L : ri_L) (σ : ri_S) (x : Int32), ev 28 (28, L, [.int x]) σ = some (some (.int x), σ)) :=
  ⟨fun l1 l2 st σ x => ev_p ((TP_28 _).trans rfl) rfl,
   fun L st σ a => ev_getf ((TP_28 _).trans rfl),
   fun l0 l2 st σ x => ev_p ((TP_28 _).trans rfl) rfl,
   fun L σ a0 a1 => ev_callv ((TP_28 _).trans rfl) rfl rfl rfl rfl,
   fun L st σ x => ev_b ((TP_28 _).trans rfl) rfl,
   fun L st σ => ev_p ((TP_28 _).trans rfl) rfl,
   fun L σ x => ev_r ((TP_28 _).trans rfl) rfl,
   fun l0 l1 st σ x => ev_p ((TP_28 _).trans rfl) rfl,
   fun L st σ => ev_p ((TP_28 _).trans rfl) rfl,
   fun L st σ x y => ev_b ((TP_28 _).trans rfl) rfl,
   fun l0 l1 st σ x => ev_p ((TP_28 _).trans rfl) rfl,
   fun L st σ => ev_p ((TP_28 _).trans rfl) rfl,
   fun L st σ x y => ev_b ((TP_28 _).trans rfl) rfl,
   fun L st σ => ev_p ((TP_28 _).trans rfl) rfl,
   fun L st σ => ev_p ((TP_28 _).trans rfl) rfl,
   fun L st σ => ev_p ((TP_28 _).trans rfl) rfl,
   fun L σ x => ev_r ((TP_28 _).trans rfl) rfl⟩
theorem TP_29 (pc : Nat) : TT 29 pc = ri_find TL_29 pc := rfl
theorem E_29 (x0 : Nat) (x1 : Int32) (x2 : Int32) (σ : ri_S) : cal 29 [.ref x0, .int x1, .int x2] σ = ev 29 (0, [some (.ref x0), some (.int x1), some (.int x2)], []) σ := rfl
theorem I_29 :
  (∀ (l1 l2 : Option Value) (st : List Value) (σ : ri_S) (x : Nat), ev 29 (0, [some (.ref x), l1, l2], st) σ = ev 29 (1, [some (.ref x), l1, l2], .ref x :: st) σ) ∧
  (∀ (L : ri_L) (st : List Value) (σ : ri_S) (a : Nat), ev 29 (1, L, .ref a :: st) σ = tv_o 3 0 (σ.1 a) fun v => ev 29 (4, L, v :: st) σ) ∧
  (∀ (l0 l2 : Option Value) (st : List Value) (σ : ri_S) (x : Int32), ev 29 (4, [l0, some (.int x), l2], st) σ = ev 29 (5, [l0, some (.int x), l2], .int x :: st) σ) ∧
  (∀ (L : ri_L) (σ : ri_S) (a0 : Nat) (a1 : Int32), ev 29 (5, L, [.int a1, .ref a0]) σ = tv_k 7 (σ.1 a0) ((cal 97 [.ref a0, .int a1] σ).bind fun q => ev 29 (8, L, q.1.toList ++ []) q.2)) ∧
  (∀ (L : ri_L) (st : List Value) (σ : ri_S) (x : Int32), ev 29 (8, L, .int x :: st) σ = if ¬ x = 0 then ev 29 (13, L, st) σ else ev 29 (11, L, st) σ) ∧
  (∀ (L : ri_L) (st : List Value) (σ : ri_S), ev 29 (11, L, st) σ = ev 29 (12, L, .int 1 :: st) σ) ∧
  (∀ (L : ri_L) (σ : ri_S) (x : Int32), ev 29 (12, L, [.int x]) σ = some (some (.int x), σ)) ∧
  (∀ (l0 l1 : Option Value) (st : List Value) (σ : ri_S) (x : Int32), ev 29 (13, [l0, l1, some (.int x)], st) σ = ev 29 (14, [l0, l1, some (.int x)], .int x :: st) σ) ∧
  (∀ (L : ri_L) (st : List Value) (σ : ri_S), ev 29 (14, L, st) σ = ev 29 (16, L, .int (-4) :: st) σ) ∧
  (∀ (L : ri_L) (st : List Value) (σ : ri_S), ev 29 (16, L, st) σ = ev 29 (17, L, .int 4 :: st) σ) ∧
  (∀ (L : ri_L) (σ : ri_S) (a0 : Int32) (a1 : Int32) (a2 : Int32), ev 29 (17, L, [.int a2, .int a1, .int a0]) σ = (cal 137 [.int a0, .int a1, .int a2] σ).bind fun q => ev 29 (20, L, q.1.toList ++ []) q.2) ∧
  (∀ (L : ri_L) (st : List Value) (σ : ri_S) (x : Int32), ev 29 (20, L, .int x :: st) σ = if x = 0 then ev 29 (27, L, st) σ else ev 29 (23, L, st) σ) ∧
  (∀ (L : ri_L) (st : List Value) (σ : ri_S), ev 29 (23, L, st) σ = ev 29 (24, L, .int 0 :: st) σ) ∧
  (∀ (L : ri_L) (st : List Value) (σ : ri_S), ev 29 (24, L, st) σ = ev 29 (28, L, st) σ) ∧
  (∀ (L : ri_L) (st : List Value) (σ : ri_S), ev 29 (27, L, st) σ = ev 29 (28, L, .int 2 :: st) σ) ∧
  (∀ (L : ri_L) (σ : ri_S) (x : Int32), ev 29 (28, L, [.int x]) σ = some (some (.int x), σ)) :=
  ⟨fun l1 l2 st σ x => ev_p ((TP_29 _).trans rfl) rfl,
   fun L st σ a => ev_getf ((TP_29 _).trans rfl),
   fun l0 l2 st σ x => ev_p ((TP_29 _).trans rfl) rfl,
   fun L σ a0 a1 => ev_callv ((TP_29 _).trans rfl) rfl rfl rfl rfl,
   fun L st σ x => ev_b ((TP_29 _).trans rfl) rfl,
   fun L st σ => ev_p ((TP_29 _).trans rfl) rfl,
   fun L σ x => ev_r ((TP_29 _).trans rfl) rfl,
   fun l0 l1 st σ x => ev_p ((TP_29 _).trans rfl) rfl,
   fun L st σ => ev_p ((TP_29 _).trans rfl) rfl,
   fun L st σ => ev_p ((TP_29 _).trans rfl) rfl,
   fun L σ a0 a1 a2 => ev_call ((TP_29 _).trans rfl) rfl rfl rfl rfl,
   fun L st σ x => ev_b ((TP_29 _).trans rfl) rfl,
   fun L st σ => ev_p ((TP_29 _).trans rfl) rfl,
   fun L st σ => ev_p ((TP_29 _).trans rfl) rfl,
   fun L st σ => ev_p ((TP_29 _).trans rfl) rfl,
   fun L σ x => ev_r ((TP_29 _).trans rfl) rfl⟩
theorem TP_30 (pc : Nat) : TT 30 pc = ri_find TL_30 pc := rfl
theorem E_30 (x0 : Nat) (x1 : Int32) (x2 : Int32) (x3 : Int32) (σ : ri_S) : cal 30 [.ref x0, .int x1, .int x2, .int x3] σ = ev 30 (0, [some (.ref x0), some (.int x1), some (.int x2), some (.int x3)], []) σ := rfl
theorem I_30 :
  (∀ (l1 l2 l3 : Option Value) (st : List Value) (σ : ri_S) (x : Nat), ev 30 (0, [some (.ref x), l1, l2, l3], st) σ = ev 30 (1, [some (.ref x), l1, l2, l3], .ref x :: st) σ) ∧
  (∀ (l0 l2 l3 : Option Value) (st : List Value) (σ : ri_S) (x : Int32), ev 30 (1, [l0, some (.int x), l2, l3], st) σ = ev 30 (2, [l0, some (.int x), l2, l3], .int x :: st) σ) ∧
  (∀ (l0 l1 l3 : Option Value) (st : List Value) (σ : ri_S) (x : Int32), ev 30 (2, [l0, l1, some (.int x), l3], st) σ = ev 30 (3, [l0, l1, some (.int x), l3], .int x :: st) σ) ∧
  (∀ (l0 l1 l2 : Option Value) (st : List Value) (σ : ri_S) (x : Int32), ev 30 (3, [l0, l1, l2, some (.int x)], st) σ = ev 30 (4, [l0, l1, l2, some (.int x)], .int x :: st) σ) ∧
  (∀ (L : ri_L) (σ : ri_S) (a0 : Nat) (a1 : Int32) (a2 : Int32) (a3 : Int32), ev 30 (4, L, [.int a3, .int a2, .int a1, .ref a0]) σ = tv_k 3 (σ.1 a0) ((cal 23 [.ref a0, .int a1, .int a2, .int a3] σ).bind fun q => ev 30 (7, L, q.1.toList ++ []) q.2)) ∧
  (∀ (L : ri_L) (st : List Value) (σ : ri_S) (x : Int32), ev 30 (7, L, .int x :: st) σ = if x = 0 then ev 30 (12, L, st) σ else ev 30 (10, L, st) σ) ∧
  (∀ (L : ri_L) (st : List Value) (σ : ri_S), ev 30 (10, L, st) σ = ev 30 (11, L, .int 0 :: st) σ) ∧
  (∀ (L : ri_L) (σ : ri_S) (x : Int32), ev 30 (11, L, [.int x]) σ = tv_b x (some (some (.int x), σ))) ∧
  (∀ (l1 l2 l3 : Option Value) (st : List Value) (σ : ri_S) (x : Nat), ev 30 (12, [some (.ref x), l1, l2, l3], st) σ = ev 30 (13, [some (.ref x), l1, l2, l3], .ref x :: st) σ) ∧
  (∀ (L : ri_L) (st : List Value) (σ : ri_S) (a : Nat), ev 30 (13, L, .ref a :: st) σ = tv_o 3 0 (σ.1 a) fun v => ev 30 (16, L, v :: st) σ) ∧
  (∀ (l0 l2 l3 : Option Value) (st : List Value) (σ : ri_S) (x : Int32), ev 30 (16, [l0, some (.int x), l2, l3], st) σ = ev 30 (17, [l0, some (.int x), l2, l3], .int x :: st) σ) ∧
  (∀ (l0 l1 l3 : Option Value) (st : List Value) (σ : ri_S) (x : Int32), ev 30 (17, [l0, l1, some (.int x), l3], st) σ = ev 30 (18, [l0, l1, some (.int x), l3], .int x :: st) σ) ∧
  (∀ (l0 l1 l2 : Option Value) (st : List Value) (σ : ri_S) (x : Int32), ev 30 (18, [l0, l1, l2, some (.int x)], st) σ = ev 30 (19, [l0, l1, l2, some (.int x)], .int x :: st) σ) ∧
  (∀ (L : ri_L) (σ : ri_S) (a0 : Nat) (a1 : Int32) (a2 : Int32) (a3 : Int32), ev 30 (19, L, [.int a3, .int a2, .int a1, .ref a0]) σ = tv_k 7 (σ.1 a0) ((cal 99 [.ref a0, .int a1, .int a2, .int a3] σ).bind fun q => ev 30 (22, L, q.1.toList ++ []) q.2)) ∧
  (∀ (L : ri_L) (st : List Value) (σ : ri_S) (x : Int32), ev 30 (22, L, .int x :: st) σ = ev 30 (23, L, st) σ) ∧
  (∀ (L : ri_L) (st : List Value) (σ : ri_S), ev 30 (23, L, st) σ = ev 30 (24, L, .int 1 :: st) σ) ∧
  (∀ (L : ri_L) (σ : ri_S) (x : Int32), ev 30 (24, L, [.int x]) σ = tv_b x (some (some (.int x), σ))) :=
  ⟨fun l1 l2 l3 st σ x => ev_p ((TP_30 _).trans rfl) rfl,
   fun l0 l2 l3 st σ x => ev_p ((TP_30 _).trans rfl) rfl,
   fun l0 l1 l3 st σ x => ev_p ((TP_30 _).trans rfl) rfl,
   fun l0 l1 l2 st σ x => ev_p ((TP_30 _).trans rfl) rfl,
   fun L σ a0 a1 a2 a3 => ev_callv ((TP_30 _).trans rfl) rfl rfl rfl rfl,
   fun L st σ x => ev_b ((TP_30 _).trans rfl) rfl,
   fun L st σ => ev_p ((TP_30 _).trans rfl) rfl,
   fun L σ x => ev_r ((TP_30 _).trans rfl) rfl,
   fun l1 l2 l3 st σ x => ev_p ((TP_30 _).trans rfl) rfl,
   fun L st σ a => ev_getf ((TP_30 _).trans rfl),
   fun l0 l2 l3 st σ x => ev_p ((TP_30 _).trans rfl) rfl,
   fun l0 l1 l3 st σ x => ev_p ((TP_30 _).trans rfl) rfl,
   fun l0 l1 l2 st σ x => ev_p ((TP_30 _).trans rfl) rfl,
   fun L σ a0 a1 a2 a3 => ev_callv ((TP_30 _).trans rfl) rfl rfl rfl rfl,
   fun L st σ x => ev_p ((TP_30 _).trans rfl) rfl,
   fun L st σ => ev_p ((TP_30 _).trans rfl) rfl,
   fun L σ x => ev_r ((TP_30 _).trans rfl) rfl⟩
theorem TP_31 (pc : Nat) : TT 31 pc = ri_find TL_31 pc := rfl
theorem E_31 (x0 : Nat) (x1 : Int32) (x2 : Int32) (x3 : Int32) (x4 : Int32) (σ : ri_S) : cal 31 [.ref x0, .int x1, .int x2, .int x3, .int x4] σ = ev 31 (0, [some (.ref x0), some (.int x1), some (.int x2), some (.int x3), some (.int x4)], []) σ := rfl
theorem I_31 :
  (∀ (l1 l2 l3 l4 : Option Value) (st : List Value) (σ : ri_S) (x : Nat), ev 31 (0, [some (.ref x), l1, l2, l3, l4], st) σ = ev 31 (1, [some (.ref x), l1, l2, l3, l4], .ref x :: st) σ) ∧
  (∀ (l0 l2 l3 l4 : Option Value) (st : List Value) (σ : ri_S) (x : Int32), ev 31 (1, [l0, some (.int x), l2, l3, l4], st) σ = ev 31 (2, [l0, some (.int x), l2, l3, l4], .int x :: st) σ) ∧
  (∀ (l0 l1 l3 l4 : Option Value) (st : List Value) (σ : ri_S) (x : Int32), ev 31 (2, [l0, l1, some (.int x), l3, l4], st) σ = ev 31 (3, [l0, l1, some (.int x), l3, l4], .int x :: st) σ) ∧
  (∀ (l0 l1 l2 l4 : Option Value) (st : List Value) (σ : ri_S) (x : Int32), ev 31 (3, [l0, l1, l2, some (.int x), l4], st) σ = ev 31 (4, [l0, l1, l2, some (.int x), l4], .int x :: st) σ) ∧
  (∀ (l0 l1 l2 l3 : Option Value) (st : List Value) (σ : ri_S) (x : Int32), ev 31 (4, [l0, l1, l2, l3, some (.int x)], st) σ = ev 31 (6, [l0, l1, l2, l3, some (.int x)], .int x :: st) σ) ∧
  (∀ (L : ri_L) (σ : ri_S) (a0 : Nat) (a1 : Int32) (a2 : Int32) (a3 : Int32) (a4 : Int32), ev 31 (6, L, [.int a4, .int a3, .int a2, .int a1, .ref a0]) σ = tv_k 3 (σ.1 a0) ((cal 24 [.ref a0, .int a1, .int a2, .int a3, .int a4] σ).bind fun q => ev 31 (9, L, q.1.toList ++ []) q.2)) ∧
  (∀ (L : ri_L) (st : List Value) (σ : ri_S) (x : Int32), ev 31 (9, L, .int x :: st) σ = if x = 0 then ev 31 (14, L, st) σ else ev 31 (12, L, st) σ) ∧
  (∀ (L : ri_L) (st : List Value) (σ : ri_S), ev 31 (12, L, st) σ = ev 31 (13, L, .int 0 :: st) σ) ∧
  (∀ (L : ri_L) (σ : ri_S) (x : Int32), ev 31 (13, L, [.int x]) σ = tv_b x (some (some (.int x), σ))) ∧
  (∀ (l1 l2 l3 l4 : Option Value) (st : List Value) (σ : ri_S) (x : Nat), ev 31 (14, [some (.ref x), l1, l2, l3, l4], st) σ = ev 31 (15, [some (.ref x), l1, l2, l3, l4], .ref x :: st) σ) ∧
  (∀ (L : ri_L) (st : List Value) (σ : ri_S) (a : Nat), ev 31 (15, L, .ref a :: st) σ = tv_o 3 1 (σ.1 a) fun v => ev 31 (18, L, v :: st) σ) ∧
  (∀ (l0 l2 l3 l4 : Option Value) (st : List Value) (σ : ri_S) (x : Int32), ev 31 (18, [l0, some (.int x), l2, l3, l4], st) σ = ev 31 (19, [l0, some (.int x), l2, l3, l4], .int x :: st) σ) ∧
  (∀ (l0 l1 l3 l4 : Option Value) (st : List Value) (σ : ri_S) (x : Int32), ev 31 (19, [l0, l1, some (.int x), l3, l4], st) σ = ev 31 (20, [l0, l1, some (.int x), l3, l4], .int x :: st) σ) ∧
  (∀ (L : ri_L) (σ : ri_S) (a0 : Int32) (a1 : Int32) (s0 : Value), ev 31 (20, L, [.int a1, .int a0, s0]) σ = (cal 138 [.int a0, .int a1] σ).bind fun q => ev 31 (23, L, q.1.toList ++ [s0]) q.2) ∧
  (∀ (l0 l1 l2 l4 : Option Value) (st : List Value) (σ : ri_S) (x : Int32), ev 31 (23, [l0, l1, l2, some (.int x), l4], st) σ = ev 31 (24, [l0, l1, l2, some (.int x), l4], .int x :: st) σ) ∧
  (∀ (l0 l1 l2 l3 : Option Value) (st : List Value) (σ : ri_S) (x : Int32), ev 31 (24, [l0, l1, l2, l3, some (.int x)], st) σ = ev 31 (26, [l0, l1, l2, l3, some (.int x)], .int x :: st) σ) ∧
  (∀ (L : ri_L) (σ : ri_S) (a0 : Int32) (a1 : Int32) (s0 s1 : Value), ev 31 (26, L, [.int a1, .int a0, s0, s1]) σ = (cal 138 [.int a0, .int a1] σ).bind fun q => ev 31 (29, L, q.1.toList ++ [s0, s1]) q.2) ∧
  (∀ (L : ri_L) (σ : ri_S) (a0 : Nat) (a1 : Int32) (a2 : Int32), ev 31 (29, L, [.int a2, .int a1, .ref a0]) σ = tv_k 2 (σ.1 a0) ((cal 15 [.ref a0, .int a1, .int a2] σ).bind fun q => ev 31 (32, L, q.1.toList ++ []) q.2)) ∧
  (∀ (L : ri_L) (st : List Value) (σ : ri_S) (x : Int32), ev 31 (32, L, .int x :: st) σ = ev 31 (33, L, st) σ) ∧
  (∀ (L : ri_L) (st : List Value) (σ : ri_S), ev 31 (33, L, st) σ = ev 31 (34, L, .int 1 :: st) σ) ∧
  (∀ (L : ri_L) (σ : ri_S) (x : Int32), ev 31 (34, L, [.int x]) σ = tv_b x (some (some (.int x), σ))) :=
  ⟨fun l1 l2 l3 l4 st σ x => ev_p ((TP_31 _).trans rfl) rfl,
   fun l0 l2 l3 l4 st σ x => ev_p ((TP_31 _).trans rfl) rfl,
   fun l0 l1 l3 l4 st σ x => ev_p ((TP_31 _).trans rfl) rfl,
   fun l0 l1 l2 l4 st σ x => ev_p ((TP_31 _).trans rfl) rfl,
   fun l0 l1 l2 l3 st σ x => ev_p ((TP_31 _).trans rfl) rfl,
   fun L σ a0 a1 a2 a3 a4 => ev_callv ((TP_31 _).trans rfl) rfl rfl rfl rfl,
   fun L st σ x => ev_b ((TP_31 _).trans rfl) rfl,
   fun L st σ => ev_p ((TP_31 _).trans rfl) rfl,
   fun L σ x => ev_r ((TP_31 _).trans rfl) rfl,
   fun l1 l2 l3 l4 st σ x => ev_p ((TP_31 _).trans rfl) rfl,
   fun L st σ a => ev_getf ((TP_31 _).trans rfl),
   fun l0 l2 l3 l4 st σ x => ev_p ((TP_31 _).trans rfl) rfl,
   fun l0 l1 l3 l4 st σ x => ev_p ((TP_31 _).trans rfl) rfl,
   fun L σ a0 a1 s0 => ev_call ((TP_31 _).trans rfl) rfl rfl rfl rfl,
   fun l0 l1 l2 l4 st σ x => ev_p ((TP_31 _).trans rfl) rfl,
   fun l0 l1 l2 l3 st σ x => ev_p ((TP_31 _).trans rfl) rfl,
   fun L σ a0 a1 s0 s1 => ev_call ((TP_31 _).trans rfl) rfl rfl rfl rfl,
   fun L σ a0 a1 a2 => ev_callv ((TP_31 _).trans rfl) rfl rfl rfl rfl,
   fun L st σ x => ev_p ((TP_31 _).trans rfl) rfl,
   fun L st σ => ev_p ((TP_31 _).trans rfl) rfl,
   fun L σ x => ev_r ((TP_31 _).trans rfl) rfl⟩
theorem TP_32 (pc : Nat) : TT 32 pc = ri_find TL_32 pc := rfl
theorem E_32 (x0 : Nat) (x1 : Int32) (x2 : Int32) (x3 : Int32) (σ : ri_S) : cal 32 [.ref x0, .int x1, .int x2, .int x3] σ = ev 32 (0, [some (.ref x0), some (.int x1), some (.int x2), some (.int x3)], []) σ := rfl
theorem I_32 :
  (∀ (l1 l2 l3 : Option Value) (st : List Value) (σ : ri_S) (x : Nat), ev 32 (0, [some (.ref x), l1, l2, l3], st) σ = ev 32 (1, [some (.ref x), l1, l2, l3], .ref x :: st) σ) ∧
  (∀ (l0 l2 l3 : Option Value) (st : List Value) (σ : ri_S) (x : Int32), ev 32 (1, [l0, some (.int x), l2, l3], st) σ = ev 32 (2, [l0, some (.int x), l2, l3], .int x :: st) σ) ∧
  (∀ (l0 l1 l3 : Option Value) (st : List Value) (σ : ri_S) (x : Int32), ev 32 (2, [l0, l1, some (.int x), l3], st) σ = ev 32 (3, [l0, l1, some (.int x), l3], .int x :: st) σ) ∧
  (∀ (l0 l1 l2 : Option Value) (st : List Value) (σ : ri_S) (x : Int32), ev 32 (3, [l0, l1, l2, some (.int x)], st) σ = ev 32 (4, [l0, l1, l2, some (.int x)], .int x :: st) σ) ∧
  (∀ (L : ri_L) (σ : ri_S) (a0 : Nat) (a1 : Int32) (a2 : Int32) (a3 : Int32), ev 32 (4, L, [.int a3, .int a2, .int a1, .ref a0]) σ = tv_k 3 (σ.1 a0) ((cal 25 [.ref a0, .int a1, .int a2, .int a3] σ).bind fun q => ev 32 (7, L, q.1.toList ++ []) q.2)) ∧
  (∀ (L : ri_L) (st : List Value) (σ : ri_S) (x : Int32), ev 32 (7, L, .int x :: st) σ = if x = 0 then ev 32 (12, L, st) σ else ev 32 (10, L, st) σ) ∧
  (∀ (L : ri_L) (st : List Value) (σ : ri_S), ev 32 (10, L, st) σ = ev 32 (11, L, .int 0 :: st) σ) ∧
  (∀ (L : ri_L) (σ : ri_S) (x : Int32), ev 32 (11, L, [.int x]) σ = tv_b x (some (some (.int x), σ))) ∧
  (∀ (l1 l2 l3 : Option Value) (st : List Value) (σ : ri_S) (x : Nat), ev 32 (12, [some (.ref x), l1, l2, l3], st) σ = ev 32 (13, [some (.ref x), l1, l2, l3], .ref x :: st) σ) ∧
  (∀ (L : ri_L) (st : List Value) (σ : ri_S) (a : Nat), ev 32 (13, L, .ref a :: st) σ = tv_o 3 2 (σ.1 a) fun v => ev 32 (16, L, v :: st) σ) ∧
  (∀ (l0 l2 l3 : Option Value) (st : List Value) (σ : ri_S) (x : Int32), ev 32 (16, [l0, some (.int x), l2, l3], st) σ = ev 32 (17, [l0, some (.int x), l2, l3], .int x :: st) σ) ∧
  (∀ (l1 l2 l3 : Option Value) (st : List Value) (σ : ri_S) (x : Nat), ev 32 (17, [some (.ref x), l1, l2, l3], st) σ = ev 32 (18, [some (.ref x), l1, l2, l3], .ref x :: st) σ) ∧
  (∀ (L : ri_L) (st : List Value) (σ : ri_S) (a : Nat), ev 32 (18, L, .ref a :: st) σ = tv_o 3 0 (σ.1 a) fun v => ev 32 (21, L, v :: st) σ) ∧
  (∀ (l0 l2 l3 : Option Value) (st : List Value) (σ : ri_S) (x : Int32), ev 32 (21, [l0, some (.int x), l2, l3], st) σ = ev 32 (22, [l0, some (.int x), l2, l3], .int x :: st) σ) ∧
  (∀ (l0 l1 l3 : Option Value) (st : List Value) (σ : ri_S) (x : Int32), ev 32 (22, [l0, l1, some (.int x), l3], st) σ = ev 32 (23, [l0, l1, some (.int x), l3], .int x :: st) σ) ∧
  (∀ (L : ri_L) (σ : ri_S) (a0 : Nat) (a1 : Int32) (a2 : Int32) (s0 s1 : Value), ev 32 (23, L, [.int a2, .int a1, .ref a0, s0, s1]) σ = tv_k 7 (σ.1 a0) ((cal 100 [.ref a0, .int a1, .int a2] σ).bind fun q => ev 32 (26, L, q.1.toList ++ [s0, s1]) q.2)) ∧
  (∀ (l0 l1 l2 : Option Value) (st : List Value) (σ : ri_S) (x : Int32), ev 32 (26, [l0, l1, l2, some (.int x)], st) σ = ev 32 (27, [l0, l1, l2, some (.int x)], .int x :: st) σ) ∧
  (∀ (L : ri_L) (σ : ri_S) (a0 : Nat) (a1 : Int32) (a2 : Int32) (a3 : Int32), ev 32 (27, L, [.int a3, .int a2, .int a1, .ref a0]) σ = tv_k 0 (σ.1 a0) ((cal 2 [.ref a0, .int a1, .int a2, .int a3] σ).bind fun q => ev 32 (30, L, q.1.toList ++ []) q.2)) ∧
  (∀ (L : ri_L) (st : List Value) (σ : ri_S) (x : Int32), ev 32 (30, L, .int x :: st) σ = ev 32 (31, L, st) σ) ∧
  (∀ (L : ri_L) (st : List Value) (σ : ri_S), ev 32 (31, L, st) σ = ev 32 (32, L, .int 1 :: st) σ) ∧
  (∀ (L : ri_L) (σ : ri_S) (x : Int32), ev 32 (32, L, [.int x]) σ = tv_b x (some (some (.int x), σ))) :=
  ⟨fun l1 l2 l3 st σ x => ev_p ((TP_32 _).trans rfl) rfl,
   fun l0 l2 l3 st σ x => ev_p ((TP_32 _).trans rfl) rfl,
   fun l0 l1 l3 st σ x => ev_p ((TP_32 _).trans rfl) rfl,
   fun l0 l1 l2 st σ x => ev_p ((TP_32 _).trans rfl) rfl,
   fun L σ a0 a1 a2 a3 => ev_callv ((TP_32 _).trans rfl) rfl rfl rfl rfl,
   fun L st σ x => ev_b ((TP_32 _).trans rfl) rfl,
   fun L st σ => ev_p ((TP_32 _).trans rfl) rfl,
   fun L σ x => ev_r ((TP_32 _).trans rfl) rfl,
   fun l1 l2 l3 st σ x => ev_p ((TP_32 _).trans rfl) rfl,
   fun L st σ a => ev_getf ((TP_32 _).trans rfl),
   fun l0 l2 l3 st σ x => ev_p ((TP_32 _).trans rfl) rfl,
   fun l1 l2 l3 st σ x => ev_p ((TP_32 _).trans rfl) rfl,
   fun L st σ a => ev_getf ((TP_32 _).trans rfl),
   fun l0 l2 l3 st σ x => ev_p ((TP_32 _).trans rfl) rfl,
   fun l0 l1 l3 st σ x => ev_p ((TP_32 _).trans rfl) rfl,
   fun L σ a0 a1 a2 s0 s1 => ev_callv ((TP_32 _).trans rfl) rfl rfl rfl rfl,
   fun l0 l1 l2 st σ x => ev_p ((TP_32 _).trans rfl) rfl,
   fun L σ a0 a1 a2 a3 => ev_callv ((TP_32 _).trans rfl) rfl rfl rfl rfl,
   fun L st σ x => ev_p ((TP_32 _).trans rfl) rfl,
   fun L st σ => ev_p ((TP_32 _).trans rfl) rfl,
   fun L σ x => ev_r ((TP_32 _).trans rfl) rfl⟩
theorem TP_33 (pc : Nat) : TT 33 pc = ri_find TL_33 pc := rfl
theorem E_33 (x0 : Nat) (x1 : Int32) (x2 : Int32) (x3 : Int32) (σ : ri_S) : cal 33 [.ref x0, .int x1, .int x2, .int x3] σ = ev 33 (0, [some (.ref x0), some (.int x1), some (.int x2), some (.int x3)], []) σ := rfl
theorem I_33 :
  (∀ (l1 l2 l3 : Option Value) (st : List Value) (σ : ri_S) (x : Nat), ev 33 (0, [some (.ref x), l1, l2, l3], st) σ = ev 33 (1, [some (.ref x), l1, l2, l3], .ref x :: st) σ) ∧
  (∀ (l0 l2 l3 : Option Value) (st : List Value) (σ : ri_S) (x : Int32), ev 33 (1, [l0, some (.int x), l2, l3], st) σ = ev 33 (2, [l0, some (.int x), l2, l3], .int x :: st) σ) ∧
  (∀ (l0 l1 l3 : Option Value) (st : List Value) (σ : ri_S) (x : Int32), ev 33 (2, [l0, l1, some (.int x), l3], st) σ = ev 33 (3, [l0, l1, some (.int x), l3], .int x :: st) σ) ∧
  (∀ (l0 l1 l2 : Option Value) (st : List Value) (σ : ri_S) (x : Int32), ev 33 (3, [l0, l1, l2, some (.int x)], st) σ = ev 33 (4, [l0, l1, l2, some (.int x)], .int x :: st) σ) ∧
  (∀ (L : ri_L) (σ : ri_S) (a0 : Nat) (a1 : Int32) (a2 : Int32) (a3 : Int32), ev 33 (4, L, [.int a3, .int a2, .int a1, .ref a0]) σ = tv_k 3 (σ.1 a0) ((cal 26 [.ref a0, .int a1, .int a2, .int a3] σ).bind fun q => ev 33 (7, L, q.1.toList ++ []) q.2)) ∧
  (∀ (L : ri_L) (st : List Value) (σ : ri_S) (x : Int32), ev 33 (7, L, .int x :: st) σ = if x = 0 then ev 33 (12, L, st) σ else ev 33 (10, L, st) σ) ∧
  (∀ (L : ri_L) (st : List Value) (σ : ri_S), ev 33 (10, L, st) σ = ev 33 (11, L, .int 0 :: st) σ) ∧
  (∀ (L : ri_L) (σ : ri_S) (x : Int32), ev 33 (11, L, [.int x]) σ = tv_b x (some (some (.int x), σ))) ∧
  (∀ (l1 l2 l3 : Option Value) (st : List Value) (σ : ri_S) (x : Nat), ev 33 (12, [some (.ref x), l1, l2, l3], st) σ = ev 33 (13, [some (.ref x), l1, l2, l3], .ref x :: st) σ) ∧
  (∀ (l0 l2 l3 : Option Value) (st : List Value) (σ : ri_S) (x : Int32), ev 33 (13, [l0, some (.int x), l2, l3], st) σ = ev 33 (14, [l0, some (.int x), l2, l3], .int x :: st) σ) ∧
  (∀ (l1 l2 l3 : Option Value) (st : List Value) (σ : ri_S) (x : Nat), ev 33 (14, [some (.ref x), l1, l2, l3], st) σ = ev 33 (15, [some (.ref x), l1, l2, l3], .ref x :: st) σ) ∧
  (∀ (L : ri_L) (st : List Value) (σ : ri_S) (a : Nat), ev 33 (15, L, .ref a :: st) σ = tv_o 3 0 (σ.1 a) fun v => ev 33 (18, L, v :: st) σ) ∧
  (∀ (l0 l2 l3 : Option Value) (st : List Value) (σ : ri_S) (x : Int32), ev 33 (18, [l0, some (.int x), l2, l3], st) σ = ev 33 (19, [l0, some (.int x), l2, l3], .int x :: st) σ) ∧
  (∀ (l0 l1 l3 : Option Value) (st : List Value) (σ : ri_S) (x : Int32), ev 33 (19, [l0, l1, some (.int x), l3], st) σ = ev 33 (20, [l0, l1, some (.int x), l3], .int x :: st) σ) ∧
  (∀ (L : ri_L) (σ : ri_S) (a0 : Nat) (a1 : Int32) (a2 : Int32) (s0 s1 : Value), ev 33 (20, L, [.int a2, .int a1, .ref a0, s0, s1]) σ = tv_k 7 (σ.1 a0) ((cal 100 [.ref a0, .int a1, .int a2] σ).bind fun q => ev 33 (23, L, q.1.toList ++ [s0, s1]) q.2)) ∧
  (∀ (l0 l1 l2 : Option Value) (st : List Value) (σ : ri_S) (x : Int32), ev 33 (23, [l0, l1, l2, some (.int x)], st) σ = ev 33 (24, [l0, l1, l2, some (.int x)], .int x :: st) σ) ∧
  (∀ (L : ri_L) (σ : ri_S) (a0 : Nat) (a1 : Int32) (a2 : Int32) (a3 : Int32), ev 33 (24, L, [.int a3, .int a2, .int a1, .ref a0]) σ = tv_k 3 (σ.1 a0) ((cal 35 [.ref a0, .int a1, .int a2, .int a3] σ).bind fun q => ev 33 (27, L, q.1.toList ++ []) q.2)) ∧
  (∀ (L : ri_L) (st : List Value) (σ : ri_S) (x : Int32), ev 33 (27, L, .int x :: st) σ = ev 33 (28, L, st) σ) ∧
  (∀ (L : ri_L) (st : List Value) (σ : ri_S), ev 33 (28, L, st) σ = ev 33 (29, L, .int 1 :: st) σ) ∧
  (∀ (L : ri_L) (σ : ri_S) (x : Int32), ev 33 (29, L, [.int x]) σ = tv_b x (some (some (.int x), σ))) :=
  ⟨fun l1 l2 l3 st σ x => ev_p ((TP_33 _).trans rfl) rfl,
   fun l0 l2 l3 st σ x => ev_p ((TP_33 _).trans rfl) rfl,
   fun l0 l1 l3 st σ x => ev_p ((TP_33 _).trans rfl) rfl,
   fun l0 l1 l2 st σ x => ev_p ((TP_33 _).trans rfl) rfl,
   fun L σ a0 a1 a2 a3 => ev_callv ((TP_33 _).trans rfl) rfl rfl rfl rfl,
   fun L st σ x => ev_b ((TP_33 _).trans rfl) rfl,
   fun L st σ => ev_p ((TP_33 _).trans rfl) rfl,
   fun L σ x => ev_r ((TP_33 _).trans rfl) rfl,
   fun l1 l2 l3 st σ x => ev_p ((TP_33 _).trans rfl) rfl,
   fun l0 l2 l3 st σ x => ev_p ((TP_33 _).trans rfl) rfl,
   fun l1 l2 l3 st σ x => ev_p ((TP_33 _).trans rfl) rfl,
   fun L st σ a => ev_getf ((TP_33 _).trans rfl),
   fun l0 l2 l3 st σ x => ev_p ((TP_33 _).trans rfl) rfl,
   fun l0 l1 l3 st σ x => ev_p ((TP_33 _).trans rfl) rfl,
   fun L σ a0 a1 a2 s0 s1 => ev_callv ((TP_33 _).trans rfl) rfl rfl rfl rfl,
   fun l0 l1 l2 st σ x => ev_p ((TP_33 _).trans rfl) rfl,
   fun L σ a0 a1 a2 a3 => ev_callv ((TP_33 _).trans rfl) rfl rfl rfl rfl,
   fun L st σ x => ev_p ((TP_33 _).trans rfl) rfl,
   fun L st σ => ev_p ((TP_33 _).trans rfl) rfl,
   fun L σ x => ev_r ((TP_33 _).trans rfl) rfl⟩
theorem TP_34 (pc : Nat) : TT 34 pc = ri_find TL_34 pc := rfl
theorem E_34 (x0 : Nat) (x1 : Int32) (x2 : Int32) (σ : ri_S) : cal 34 [.ref x0, .int x1, .int x2] σ = ev 34 (0, [some (.ref x0), some (.int x1), some (.int x2)], []) σ := rfl
theorem I_34 :
  (∀ (l1 l2 : Option Value) (st : List Value) (σ : ri_S) (x : Nat), ev 34 (0, [some (.ref x), l1, l2], st) σ = ev 34 (1, [some (.ref x), l1, l2], .ref x :: st) σ) ∧
  (∀ (l0 l2 : Option Value) (st : List Value) (σ : ri_S) (x : Int32), ev 34 (1, [l0, some (.int x), l2], st) σ = ev 34 (2, [l0, some (.int x), l2], .int x :: st) σ) ∧
  (∀ (l0 l1 : Option Value) (st : List Value) (σ : ri_S) (x : Int32), ev 34 (2, [l0, l1, some (.int x)], st) σ = ev 34 (3, [l0, l1, some (.int x)], .int x :: st) σ) ∧
  (∀ (L : ri_L) (σ : ri_S) (a0 : Nat) (a1 : Int32) (a2 : Int32), ev 34 (3, L, [.int a2, .int a1, .ref a0]) σ = tv_k 3 (σ.1 a0) ((cal 29 [.ref a0, .int a1, .int a2] σ).bind fun q => ev 34 (6, L, q.1.toList ++ []) q.2)) ∧
  (∀ (L : ri_L) (st : List Value) (σ : ri_S) (x : Int32), ev 34 (6, L, .int x :: st) σ = if x = 0 then ev 34 (11, L, st) σ else ev 34 (9, L, st) σ) ∧
  (∀ (L : ri_L) (st : List Value) (σ : ri_S), ev 34 (9, L, st) σ = ev 34 (10, L, .int 0 :: st) σ) ∧
  (∀ (L : ri_L) (σ : ri_S) (x : Int32), ev 34 (10, L, [.int x]) σ = tv_b x (some (some (.int x), σ))) ∧
  (∀ (l1 l2 : Option Value) (st : List Value) (σ : ri_S) (x : Nat), ev 34 (11, [some (.ref x), l1, l2], st) σ = ev 34 (12, [some (.ref x), l1, l2], .ref x :: st) σ) ∧
  (∀ (L : ri_L) (st : List Value) (σ : ri_S) (a : Nat), ev 34 (12, L, .ref a :: st) σ = tv_o 3 0 (σ.1 a) fun v => ev 34 (15, L, v :: st) σ) ∧
  (∀ (l0 l2 : Option Value) (st : List Value) (σ : ri_S) (x : Int32), ev 34 (15, [l0, some (.int x), l2], st) σ = ev 34 (16, [l0, some (.int x), l2], .int x :: st) σ) ∧
  (∀ (l0 l1 : Option Value) (st : List Value) (σ : ri_S) (x : Int32), ev 34 (16, [l0, l1, some (.int x)], st) σ = ev 34 (17, [l0, l1, some (.int x)], .int x :: st) σ) ∧
  (∀ (L : ri_L) (σ : ri_S) (a0 : Nat) (a1 : Int32) (a2 : Int32), ev 34 (17, L, [.int a2, .int a1, .ref a0]) σ = tv_k 7 (σ.1 a0) ((cal 102 [.ref a0, .int a1, .int a2] σ).bind fun q => ev 34 (20, L, q.1.toList ++ []) q.2)) ∧
  (∀ (L : ri_L) (st : List Value) (σ : ri_S) (x : Int32), ev 34 (20, L, .int x :: st) σ = ev 34 (21, L, st) σ) ∧
  (∀ (L : ri_L) (st : List Value) (σ : ri_S), ev 34 (21, L, st) σ = ev 34 (22, L, .int 1 :: st) σ) ∧
  (∀ (L : ri_L) (σ : ri_S) (x : Int32), ev 34 (22, L, [.int x]) σ = tv_b x (some (some (.int x), σ))) :=
  ⟨fun l1 l2 st σ x => ev_p ((TP_34 _).trans rfl) rfl,
   fun l0 l2 st σ x => ev_p ((TP_34 _).trans rfl) rfl,
   fun l0 l1 st σ x => ev_p ((TP_34 _).trans rfl) rfl,
   fun L σ a0 a1 a2 => ev_callv ((TP_34 _).trans rfl) rfl rfl rfl rfl,
   fun L st σ x => ev_b ((TP_34 _).trans rfl) rfl,
   fun L st σ => ev_p ((TP_34 _).trans rfl) rfl,
   fun L σ x => ev_r ((TP_34 _).trans rfl) rfl,
   fun l1 l2 st σ x => ev_p ((TP_34 _).trans rfl) rfl,
   fun L st σ a => ev_getf ((TP_34 _).trans rfl),
   fun l0 l2 st σ x => ev_p ((TP_34 _).trans rfl) rfl,
   fun l0 l1 st σ x => ev_p ((TP_34 _).trans rfl) rfl,
   fun L σ a0 a1 a2 => ev_callv ((TP_34 _).trans rfl) rfl rfl rfl rfl,
   fun L st σ x => ev_p ((TP_34 _).trans rfl) rfl,
   fun L st σ => ev_p ((TP_34 _).trans rfl) rfl,
   fun L σ x => ev_r ((TP_34 _).trans rfl) rfl⟩
theorem TP_35 (pc : Nat) : TT 35 pc = ri_find TL_35 pc := rfl
theorem E_35 (x0 : Nat) (x1 : Int32) (x2 : Int32) (x3 : Int32) (σ : ri_S) : cal 35 [.ref x0, .int x1, .int x2, .int x3] σ = ev 35 (0, [some (.ref x0), some (.int x1), some (.int x2), some (.int x3), none, none], []) σ := rfl
theorem I_35_0 :
  (∀ (l1 l2 l3 l4 l5 : Option Value) (st : List Value) (σ : ri_S) (x : Nat), ev 35 (0, [some (.ref x), l1, l2, l3, l4, l5], st) σ = ev 35 (1, [some (.ref x), l1, l2, l3, l4, l5], .ref x :: st) σ) ∧
  (∀ (L : ri_L) (st : List Value) (σ : ri_S) (a : Nat), ev 35 (1, L, .ref a :: st) σ = tv_o 3 0 (σ.1 a) fun v => ev 35 (4, L, v :: st) σ) ∧
  (∀ (L : ri_L) (st : List Value) (σ : ri_S) (a : Nat), ev 35 (4, L, .ref a :: st) σ = tv_o 7 6 (σ.1 a) fun v => ev 35 (7, L, v :: st) σ) ∧
  (∀ (l0 l2 l3 l4 l5 : Option Value) (st : List Value) (σ : ri_S) (x : Int32), ev 35 (7, [l0, some (.int x), l2, l3, l4, l5], st) σ = ev 35 (8, [l0, some (.int x), l2, l3, l4, l5], .int x :: st) σ) ∧
  (∀ (l0 l1 l3 l4 l5 : Option Value) (st : List Value) (σ : ri_S) (x : Int32), ev 35 (8, [l0, l1, some (.int x), l3, l4, l5], st) σ = ev 35 (9, [l0, l1, some (.int x), l3, l4, l5], .int x :: st) σ) ∧
  (∀ (L : ri_L) (σ : ri_S) (a0 : Int32) (a1 : Int32) (s0 : Value), ev 35 (9, L, [.int a1, .int a0, s0]) σ = (cal 138 [.int a0, .int a1] σ).bind fun q => ev 35 (12, L, q.1.toList ++ [s0]) q.2) ∧
  (∀ (L : ri_L) (σ : ri_S) (a0 : Nat) (a1 : Int32), ev 35 (12, L, [.int a1, .ref a0]) σ = (cal 140 [.ref a0, .int a1] σ).bind fun q => ev 35 (15, L, q.1.toList ++ []) q.2) ∧
  (∀ (l0 l1 l2 l3 l4 l5 : Option Value) (st : List Value) (σ : ri_S) (x : Int32), ev 35 (15, [l0, l1, l2, l3, l4, l5], .int x :: st) σ = ev 35 (17, [l0, l1, l2, ri_clr l3, some (.int x), l5], st) σ) ∧
  (∀ (l0 l1 l2 l4 l5 : Option Value) (st : List Value) (σ : ri_S) (x : Int32), ev 35 (17, [l0, l1, l2, some (.int x), l4, l5], st) σ = ev 35 (18, [l0, l1, l2, some (.int x), l4, l5], .int x :: st) σ) ∧
  (∀ (L : ri_L) (st : List Value) (σ : ri_S), ev 35 (18, L, st) σ = ev 35 (20, L, .int 9 :: st) σ) ∧
  (∀ (l0 l1 l2 l3 l5 : Option Value) (st : List Value) (σ : ri_S) (x : Int32), ev 35 (20, [l0, l1, l2, l3, some (.int x), l5], st) σ = ev 35 (22, [l0, l1, l2, l3, some (.int x), l5], .int x :: st) σ) ∧
  (∀ (L : ri_L) (st : List Value) (σ : ri_S) (x y : Int32), ev 35 (22, L, .int y :: .int x :: st) σ = ev 35 (23, L, .int (x - y) :: st) σ) ∧
  (∀ (L : ri_L) (σ : ri_S) (x y : Int32), ev 35 (23, L, .int y :: .int x :: []) σ = ev 35 (26, L, .int (if y < x then y else x) :: []) σ) ∧
  (∀ (l0 l1 l2 l3 l4 l5 : Option Value) (st : List Value) (σ : ri_S) (x : Int32), ev 35 (26, [l0, l1, l2, l3, l4, l5], .int x :: st) σ = ev 35 (28, [l0, l1, l2, l3, ri_clr l4, some (.int x)], st) σ) ∧
  (∀ (l1 l2 l3 l4 l5 : Option Value) (st : List Value) (σ : ri_S) (x : Nat), ev 35 (28, [some (.ref x), l1, l2, l3, l4, l5], st) σ = ev 35 (29, [some (.ref x), l1, l2, l3, l4, l5], .ref x :: st) σ) ∧
  (∀ (L : ri_L) (st : List Value) (σ : ri_S) (a : Nat), ev 35 (29, L, .ref a :: st) σ = tv_o 3 0 (σ.1 a) fun v => ev 35 (32, L, v :: st) σ) ∧
  (∀ (L : ri_L) (st : List Value) (σ : ri_S) (a : Nat), ev 35 (32, L, .ref a :: st) σ = tv_o 7 6 (σ.1 a) fun v => ev 35 (35, L, v :: st) σ) ∧
  (∀ (l0 l2 l3 l4 l5 : Option Value) (st : List Value) (σ : ri_S) (x : Int32), ev 35 (35, [l0, some (.int x), l2, l3, l4, l5], st) σ = ev 35 (36, [l0, some (.int x), l2, l3, l4, l5], .int x :: st) σ) ∧
  (∀ (l0 l1 l3 l4 l5 : Option Value) (st : List Value) (σ : ri_S) (x : Int32), ev 35 (36, [l0, l1, some (.int x), l3, l4, l5], st) σ = ev 35 (37, [l0, l1, some (.int x), l3, l4, l5], .int x :: st) σ) ∧
  (∀ (L : ri_L) (σ : ri_S) (a0 : Int32) (a1 : Int32) (s0 : Value), ev 35 (37, L, [.int a1, .int a0, s0]) σ = (cal 138 [.int a0, .int a1] σ).bind fun q => ev 35 (40, L, q.1.toList ++ [s0]) q.2) ∧
  (∀ (l0 l1 l2 l3 l5 : Option Value) (st : List Value) (σ : ri_S) (x : Int32), ev 35 (40, [l0, l1, l2, l3, some (.int x), l5], st) σ = ev 35 (42, [l0, l1, l2, l3, some (.int x), l5], .int x :: st) σ) ∧
  (∀ (l0 l1 l2 l3 l4 : Option Value) (st : List Value) (σ : ri_S) (x : Int32), ev 35 (42, [l0, l1, l2, l3, l4, some (.int x)], st) σ = ev 35 (44, [l0, l1, l2, l3, l4, some (.int x)], .int x :: st) σ) ∧
  (∀ (L : ri_L) (st : List Value) (σ : ri_S) (x y : Int32), ev 35 (44, L, .int y :: .int x :: st) σ = ev 35 (45, L, .int (x + y) :: st) σ) ∧
  (∀ (L : ri_L) (σ : ri_S) (a0 : Nat) (a1 : Int32) (a2 : Int32), ev 35 (45, L, [.int a2, .int a1, .ref a0]) σ = (cal 141 [.ref a0, .int a1, .int a2] σ).bind fun q => ev 35 (48, L, q.1.toList ++ []) q.2) ∧
  (∀ (l1 l2 l3 l4 l5 : Option Value) (st : List Value) (σ : ri_S) (x : Nat), ev 35 (48, [some (.ref x), l1, l2, l3, l4, l5], st) σ = ev 35 (49, [some (.ref x), l1, l2, l3, l4, l5], .ref x :: st) σ) ∧
  (∀ (L : ri_L) (st : List Value) (σ : ri_S) (x : Nat), ev 35 (49, L, .ref x :: st) σ = ev 35 (50, L, .ref x :: .ref x :: st) σ) ∧
  (∀ (L : ri_L) (st : List Value) (σ : ri_S) (a : Nat), ev 35 (50, L, .ref a :: st) σ = tv_o 3 5 (σ.1 a) fun v => ev 35 (53, L, v :: st) σ) ∧
  (∀ (l0 l1 l2 l4 l5 : Option Value) (st : List Value) (σ : ri_S) (x : Int32), ev 35 (53, [l0, l1, l2, some (.int x), l4, l5], st) σ = ev 35 (54, [l0, l1, l2, some (.int x), l4, l5], .int x :: st) σ) ∧
  (∀ (l0 l1 l2 l3 l4 : Option Value) (st : List Value) (σ : ri_S) (x : Int32), ev 35 (54, [l0, l1, l2, l3, l4, some (.int x)], st) σ = ev 35 (56, [l0, l1, l2, l3, l4, some (.int x)], .int x :: st) σ) ∧
  (∀ (L : ri_L) (st : List Value) (σ : ri_S) (x y : Int32), ev 35 (56, L, .int y :: .int x :: st) σ = ev 35 (57, L, .int (x - y) :: st) σ) ∧
  (∀ (L : ri_L) (st : List Value) (σ : ri_S) (x y : Int32), ev 35 (57, L, .int y :: .int x :: st) σ = ev 35 (58, L, .int (x + y) :: st) σ) ∧
  (∀ (L : ri_L) (st : List Value) (σ : ri_S) (a : Nat) (x : Int32), ev 35 (58, L, .int x :: .ref a :: st) σ = tv_w 3 5 (σ.1 a) (.int x) fun fs => ev 35 (61, L, st) (ri_upd σ.1 a (.inr (.inr (3, fs))), σ.2)) ∧
  (∀ (l1 l2 l3 l4 l5 : Option Value) (st : List Value) (σ : ri_S) (x : Nat), ev 35 (61, [some (.ref x), l1, l2, l3, l4, l5], st) σ = ev 35 (62, [some (.ref x), l1, l2, l3, l4, l5], .ref x :: st) σ) ∧
  (∀ (L : ri_L) (st : List Value) (σ : ri_S) (x : Nat), ev 35 (62, L, .ref x :: st) σ = ev 35 (63, L, .ref x :: .ref x :: st) σ) ∧
  (∀ (L : ri_L) (st : List Value) (σ : ri_S) (a : Nat), ev 35 (63, L, .ref a :: st) σ = tv_o 3 6 (σ.1 a) fun v => ev 35 (66, L, v :: st) σ) ∧
  (∀ (l0 l1 l2 l4 l5 : Option Value) (st : List Value) (σ : ri_S) (x : Int32), ev 35 (66, [l0, l1, l2, some (.int x), l4, l5], st) σ = ev 35 (67, [l0, l1, l2, some (.int x), l4, l5], .int x :: st) σ) ∧
  (∀ (L : ri_L) (st : List Value) (σ : ri_S) (x y : Int32), ev 35 (67, L, .int y :: .int x :: st) σ = ev 35 (68, L, .int (x + y) :: st) σ) ∧
  (∀ (L : ri_L) (st : List Value) (σ : ri_S) (a : Nat) (x : Int32), ev 35 (68, L, .int x :: .ref a :: st) σ = tv_w 3 6 (σ.1 a) (.int x) fun fs => ev 35 (71, L, st) (ri_upd σ.1 a (.inr (.inr (3, fs))), σ.2)) ∧
  (∀ (l0 l1 l2 l3 l5 : Option Value) (st : List Value) (σ : ri_S) (x : Int32), ev 35 (71, [l0, l1, l2, l3, some (.int x), l5], st) σ = ev 35 (73, [l0, l1, l2, l3, some (.int x), l5], .int x :: st) σ) ∧
  (∀ (l0 l1 l2 l3 l4 : Option Value) (st : List Value) (σ : ri_S) (x : Int32), ev 35 (73, [l0, l1, l2, l3, l4, some (.int x)], st) σ = ev 35 (75, [l0, l1, l2, l3, l4, some (.int x)], .int x :: st) σ) :=
  ⟨fun l1 l2 l3 l4 l5 st σ x => ev_p ((TP_35 _).trans rfl) rfl,
   fun L st σ a => ev_getf ((TP_35 _).trans rfl),
   fun L st σ a => ev_getf ((TP_35 _).trans rfl),
   fun l0 l2 l3 l4 l5 st σ x => ev_p ((TP_35 _).trans rfl) rfl,
   fun l0 l1 l3 l4 l5 st σ x => ev_p ((TP_35 _).trans rfl) rfl,
   fun L σ a0 a1 s0 => ev_call ((TP_35 _).trans rfl) rfl rfl rfl rfl,
   fun L σ a0 a1 => ev_call ((TP_35 _).trans rfl) rfl rfl rfl rfl,
   fun l0 l1 l2 l3 l4 l5 st σ x => ev_p ((TP_35 _).trans rfl) rfl,
   fun l0 l1 l2 l4 l5 st σ x => ev_p ((TP_35 _).trans rfl) rfl,
   fun L st σ => ev_p ((TP_35 _).trans rfl) rfl,
   fun l0 l1 l2 l3 l5 st σ x => ev_p ((TP_35 _).trans rfl) rfl,
   fun L st σ x y => ev_p ((TP_35 _).trans rfl) rfl,
   fun L σ x y => ev_p ((TP_35 _).trans rfl) rfl,
   fun l0 l1 l2 l3 l4 l5 st σ x => ev_p ((TP_35 _).trans rfl) rfl,
   fun l1 l2 l3 l4 l5 st σ x => ev_p ((TP_35 _).trans rfl) rfl,
   fun L st σ a => ev_getf ((TP_35 _).trans rfl),
   fun L st σ a => ev_getf ((TP_35 _).trans rfl),
   fun l0 l2 l3 l4 l5 st σ x => ev_p ((TP_35 _).trans rfl) rfl,
   fun l0 l1 l3 l4 l5 st σ x => ev_p ((TP_35 _).trans rfl) rfl,
   fun L σ a0 a1 s0 => ev_call ((TP_35 _).trans rfl) rfl rfl rfl rfl,
   fun l0 l1 l2 l3 l5 st σ x => ev_p ((TP_35 _).trans rfl) rfl,
   fun l0 l1 l2 l3 l4 st σ x => ev_p ((TP_35 _).trans rfl) rfl,
   fun L st σ x y => ev_p ((TP_35 _).trans rfl) rfl,
   fun L σ a0 a1 a2 => ev_call ((TP_35 _).trans rfl) rfl rfl rfl rfl,
   fun l1 l2 l3 l4 l5 st σ x => ev_p ((TP_35 _).trans rfl) rfl,
   fun L st σ x => ev_p ((TP_35 _).trans rfl) rfl,
   fun L st σ a => ev_getf ((TP_35 _).trans rfl),
   fun l0 l1 l2 l4 l5 st σ x => ev_p ((TP_35 _).trans rfl) rfl,
   fun l0 l1 l2 l3 l4 st σ x => ev_p ((TP_35 _).trans rfl) rfl,
   fun L st σ x y => ev_p ((TP_35 _).trans rfl) rfl,
   fun L st σ x y => ev_p ((TP_35 _).trans rfl) rfl,
   fun L st σ a x => ev_puti ((TP_35 _).trans rfl),
   fun l1 l2 l3 l4 l5 st σ x => ev_p ((TP_35 _).trans rfl) rfl,
   fun L st σ x => ev_p ((TP_35 _).trans rfl) rfl,
   fun L st σ a => ev_getf ((TP_35 _).trans rfl),
   fun l0 l1 l2 l4 l5 st σ x => ev_p ((TP_35 _).trans rfl) rfl,
   fun L st σ x y => ev_p ((TP_35 _).trans rfl) rfl,
   fun L st σ a x => ev_puti ((TP_35 _).trans rfl),
   fun l0 l1 l2 l3 l5 st σ x => ev_p ((TP_35 _).trans rfl) rfl,
   fun l0 l1 l2 l3 l4 st σ x => ev_p ((TP_35 _).trans rfl) rfl⟩
theorem I_35_1 :
  (∀ (L : ri_L) (st : List Value) (σ : ri_S) (x y : Int32), ev 35 (75, L, .int y :: .int x :: st) σ = ev 35 (76, L, .int (x + y) :: st) σ) ∧
  (∀ (L : ri_L) (σ : ri_S) (x : Int32), ev 35 (76, L, [.int x]) σ = some (some (.int x), σ)) :=
  ⟨fun L st σ x y => ev_p ((TP_35 _).trans rfl) rfl,
   fun L σ x => ev_r ((TP_35 _).trans rfl) rfl⟩
theorem TP_36 (pc : Nat) : TT 36 pc = ri_find TL_36 pc := rfl
theorem E_36 (x0 : Nat) (x1 : Int32) (x2 : Int32) (σ : ri_S) : cal 36 [.ref x0, .int x1, .int x2] σ = ev 36 (0, [some (.ref x0), some (.int x1), some (.int x2)], []) σ := rfl
theorem I_36 :
  (∀ (l1 l2 : Option Value) (st : List Value) (σ : ri_S) (x : Nat), ev 36 (0, [some (.ref x), l1, l2], st) σ = ev 36 (1, [some (.ref x), l1, l2], .ref x :: st) σ) ∧
  (∀ (L : ri_L) (st : List Value) (σ : ri_S) (a : Nat), ev 36 (1, L, .ref a :: st) σ = tv_o 3 2 (σ.1 a) fun v => ev 36 (4, L, v :: st) σ) ∧
  (∀ (L : ri_L) (st : List Value) (σ : ri_S) (a : Nat), ev 36 (4, L, .ref a :: st) σ = tv_o 0 4 (σ.1 a) fun v => ev 36 (7, L, v :: st) σ) ∧
  (∀ (l0 l2 : Option Value) (st : List Value) (σ : ri_S) (x : Int32), ev 36 (7, [l0, some (.int x), l2], st) σ = ev 36 (8, [l0, some (.int x), l2], .int x :: st) σ) ∧
  (∀ (l1 l2 : Option Value) (st : List Value) (σ : ri_S) (x : Nat), ev 36 (8, [some (.ref x), l1, l2], st) σ = ev 36 (9, [some (.ref x), l1, l2], .ref x :: st) σ) ∧
  (∀ (L : ri_L) (st : List Value) (σ : ri_S) (a : Nat), ev 36 (9, L, .ref a :: st) σ = tv_o 3 2 (σ.1 a) fun v => ev 36 (12, L, v :: st) σ) ∧
  (∀ (L : ri_L) (st : List Value) (σ : ri_S) (a : Nat), ev 36 (12, L, .ref a :: st) σ = tv_o 0 4 (σ.1 a) fun v => ev 36 (15, L, v :: st) σ) ∧
  (∀ (l0 l2 : Option Value) (st : List Value) (σ : ri_S) (x : Int32), ev 36 (15, [l0, some (.int x), l2], st) σ = ev 36 (16, [l0, some (.int x), l2], .int x :: st) σ) ∧
  (∀ (L : ri_L) (σ : ri_S) (a0 : Nat) (a1 : Int32) (s0 s1 : Value), ev 36 (16, L, [.int a1, .ref a0, s0, s1]) σ = (cal 140 [.ref a0, .int a1] σ).bind fun q => ev 36 (19, L, q.1.toList ++ [s0, s1]) q.2) ∧
  (∀ (l0 l1 : Option Value) (st : List Value) (σ : ri_S) (x : Int32), ev 36 (19, [l0, l1, some (.int x)], st) σ = ev 36 (20, [l0, l1, some (.int x)], .int x :: st) σ) ∧
  (∀ (L : ri_L) (st : List Value) (σ : ri_S) (x y : Int32), ev 36 (20, L, .int y :: .int x :: st) σ = ev 36 (21, L, .int (x + y) :: st) σ) ∧
  (∀ (L : ri_L) (σ : ri_S) (a0 : Nat) (a1 : Int32) (a2 : Int32), ev 36 (21, L, [.int a2, .int a1, .ref a0]) σ = (cal 141 [.ref a0, .int a1, .int a2] σ).bind fun q => ev 36 (24, L, q.1.toList ++ []) q.2) ∧
  (∀ (l1 l2 : Option Value) (st : List Value) (σ : ri_S) (x : Nat), ev 36 (24, [some (.ref x), l1, l2], st) σ = ev 36 (25, [some (.ref x), l1, l2], .ref x :: st) σ) ∧
  (∀ (L : ri_L) (st : List Value) (σ : ri_S) (x : Nat), ev 36 (25, L, .ref x :: st) σ = ev 36 (26, L, .ref x :: .ref x :: st) σ) ∧
  (∀ (L : ri_L) (st : List Value) (σ : ri_S) (a : Nat), ev 36 (26, L, .ref a :: st) σ = tv_o 3 4 (σ.1 a) fun v => ev 36 (29, L, v :: st) σ) ∧
  (∀ (l0 l1 : Option Value) (st : List Value) (σ : ri_S) (x : Int32), ev 36 (29, [l0, l1, some (.int x)], st) σ = ev 36 (30, [l0, l1, some (.int x)], .int x :: st) σ) ∧
  (∀ (L : ri_L) (st : List Value) (σ : ri_S) (x y : Int32), ev 36 (30, L, .int y :: .int x :: st) σ = ev 36 (31, L, .int (x + y) :: st) σ) ∧
  (∀ (L : ri_L) (st : List Value) (σ : ri_S) (a : Nat) (x : Int32), ev 36 (31, L, .int x :: .ref a :: st) σ = tv_w 3 4 (σ.1 a) (.int x) fun fs => ev 36 (34, L, st) (ri_upd σ.1 a (.inr (.inr (3, fs))), σ.2)) ∧
  (∀ (L : ri_L) (σ : ri_S), ev 36 (34, L, []) σ = some (none, σ)) :=
  ⟨fun l1 l2 st σ x => ev_p ((TP_36 _).trans rfl) rfl,
   fun L st σ a => ev_getf ((TP_36 _).trans rfl),
   fun L st σ a => ev_getf ((TP_36 _).trans rfl),
   fun l0 l2 st σ x => ev_p ((TP_36 _).trans rfl) rfl,
   fun l1 l2 st σ x => ev_p ((TP_36 _).trans rfl) rfl,
   fun L st σ a => ev_getf ((TP_36 _).trans rfl),
   fun L st σ a => ev_getf ((TP_36 _).trans rfl),
   fun l0 l2 st σ x => ev_p ((TP_36 _).trans rfl) rfl,
   fun L σ a0 a1 s0 s1 => ev_call ((TP_36 _).trans rfl) rfl rfl rfl rfl,
   fun l0 l1 st σ x => ev_p ((TP_36 _).trans rfl) rfl,
   fun L st σ x y => ev_p ((TP_36 _).trans rfl) rfl,
   fun L σ a0 a1 a2 => ev_call ((TP_36 _).trans rfl) rfl rfl rfl rfl,
   fun l1 l2 st σ x => ev_p ((TP_36 _).trans rfl) rfl,
   fun L st σ x => ev_p ((TP_36 _).trans rfl) rfl,
   fun L st σ a => ev_getf ((TP_36 _).trans rfl),
   fun l0 l1 st σ x => ev_p ((TP_36 _).trans rfl) rfl,
   fun L st σ x y => ev_p ((TP_36 _).trans rfl) rfl,
   fun L st σ a x => ev_puti ((TP_36 _).trans rfl),
   fun L σ => ev_r ((TP_36 _).trans rfl) rfl⟩
theorem TP_37 (pc : Nat) : TT 37 pc = ri_find TL_37 pc := rfl
theorem E_37 (x0 : Nat) (σ : ri_S) : cal 37 [.ref x0] σ = ev 37 (0, [some (.ref x0), none, none, none], []) σ := rfl
theorem I_37_0 :
  (∀ (l1 l2 l3 : Option Value) (st : List Value) (σ : ri_S) (x : Nat), ev 37 (0, [some (.ref x), l1, l2, l3], st) σ = ev 37 (1, [some (.ref x), l1, l2, l3], .ref x :: st) σ) ∧
  (∀ (L : ri_L) (st : List Value) (σ : ri_S) (a : Nat), ev 37 (1, L, .ref a :: st) σ = tv_o 3 3 (σ.1 a) fun v => ev 37 (4, L, v :: st) σ) ∧
  (∀ (l1 l2 l3 : Option Value) (st : List Value) (σ : ri_S) (x : Nat), ev 37 (4, [some (.ref x), l1, l2, l3], st) σ = ev 37 (5, [some (.ref x), l1, l2, l3], .ref x :: st) σ) ∧
  (∀ (L : ri_L) (st : List Value) (σ : ri_S) (a : Nat), ev 37 (5, L, .ref a :: st) σ = tv_o 3 0 (σ.1 a) fun v => ev 37 (8, L, v :: st) σ) ∧
  (∀ (L : ri_L) (st : List Value) (σ : ri_S) (a : Nat), ev 37 (8, L, .ref a :: st) σ = tv_o 7 0 (σ.1 a) fun v => ev 37 (11, L, v :: st) σ) ∧
  (∀ (L : ri_L) (σ : ri_S) (a0 : Int32) (a1 : Int32), ev 37 (11, L, [.int a1, .int a0]) σ = (cal 139 [.int a0, .int a1] σ).bind fun q => ev 37 (14, L, q.1.toList ++ []) q.2) ∧
  (∀ (l0 l1 l2 l3 : Option Value) (st : List Value) (σ : ri_S) (x : Int32), ev 37 (14, [l0, l1, l2, l3], .int x :: st) σ = ev 37 (15, [ri_clr l0, some (.int x), l2, l3], st) σ) ∧
  (∀ (l1 l2 l3 : Option Value) (st : List Value) (σ : ri_S) (x : Nat), ev 37 (15, [some (.ref x), l1, l2, l3], st) σ = ev 37 (16, [some (.ref x), l1, l2, l3], .ref x :: st) σ) ∧
  (∀ (L : ri_L) (st : List Value) (σ : ri_S) (a : Nat), ev 37 (16, L, .ref a :: st) σ = tv_o 3 0 (σ.1 a) fun v => ev 37 (19, L, v :: st) σ) ∧
  (∀ (l0 l2 l3 : Option Value) (st : List Value) (σ : ri_S) (x : Int32), ev 37 (19, [l0, some (.int x), l2, l3], st) σ = ev 37 (20, [l0, some (.int x), l2, l3], .int x :: st) σ) ∧
  (∀ (l1 l2 l3 : Option Value) (st : List Value) (σ : ri_S) (x : Nat), ev 37 (20, [some (.ref x), l1, l2, l3], st) σ = ev 37 (21, [some (.ref x), l1, l2, l3], .ref x :: st) σ) ∧
  (∀ (L : ri_L) (st : List Value) (σ : ri_S) (a : Nat), ev 37 (21, L, .ref a :: st) σ = tv_o 3 3 (σ.1 a) fun v => ev 37 (24, L, v :: st) σ) ∧
  (∀ (l1 l2 l3 : Option Value) (st : List Value) (σ : ri_S) (x : Nat), ev 37 (24, [some (.ref x), l1, l2, l3], st) σ = ev 37 (25, [some (.ref x), l1, l2, l3], .ref x :: st) σ) ∧
  (∀ (L : ri_L) (st : List Value) (σ : ri_S) (a : Nat), ev 37 (25, L, .ref a :: st) σ = tv_o 3 0 (σ.1 a) fun v => ev 37 (28, L, v :: st) σ) ∧
  (∀ (L : ri_L) (st : List Value) (σ : ri_S) (a : Nat), ev 37 (28, L, .ref a :: st) σ = tv_o 7 1 (σ.1 a) fun v => ev 37 (31, L, v :: st) σ) ∧
  (∀ (l0 l2 l3 : Option Value) (st : List Value) (σ : ri_S) (x : Int32), ev 37 (31, [l0, some (.int x), l2, l3], st) σ = ev 37 (32, [l0, some (.int x), l2, l3], .int x :: st) σ) ∧
  (∀ (L : ri_L) (σ : ri_S) (a0 : Nat) (a1 : Int32) (s0 s1 s2 : Value), ev 37 (32, L, [.int a1, .ref a0, s0, s1, s2]) σ = (cal 140 [.ref a0, .int a1] σ).bind fun q => ev 37 (35, L, q.1.toList ++ [s0, s1, s2]) q.2) ∧
  (∀ (L : ri_L) (σ : ri_S) (a0 : Int32) (a1 : Int32) (s0 s1 : Value), ev 37 (35, L, [.int a1, .int a0, s0, s1]) σ = (cal 139 [.int a0, .int a1] σ).bind fun q => ev 37 (38, L, q.1.toList ++ [s0, s1]) q.2) ∧
  (∀ (L : ri_L) (σ : ri_S) (a0 : Nat) (a1 : Int32) (a2 : Int32), ev 37 (38, L, [.int a2, .int a1, .ref a0]) σ = tv_k 7 (σ.1 a0) ((cal 100 [.ref a0, .int a1, .int a2] σ).bind fun q => ev 37 (41, L, q.1.toList ++ []) q.2)) ∧
  (∀ (l0 l1 l2 l3 : Option Value) (st : List Value) (σ : ri_S) (x : Int32), ev 37 (41, [l0, l1, l2, l3], .int x :: st) σ = ev 37 (42, [l0, ri_clr l1, some (.int x), l3], st) σ) ∧
  (∀ (l1 l2 l3 : Option Value) (st : List Value) (σ : ri_S) (x : Nat), ev 37 (42, [some (.ref x), l1, l2, l3], st) σ = ev 37 (43, [some (.ref x), l1, l2, l3], .ref x :: st) σ) ∧
  (∀ (L : ri_L) (st : List Value) (σ : ri_S) (a : Nat), ev 37 (43, L, .ref a :: st) σ = tv_o 3 2 (σ.1 a) fun v => ev 37 (46, L, v :: st) σ) ∧
  (∀ (l0 l2 l3 : Option Value) (st : List Value) (σ : ri_S) (x : Int32), ev 37 (46, [l0, some (.int x), l2, l3], st) σ = ev 37 (47, [l0, some (.int x), l2, l3], .int x :: st) σ) ∧
  (∀ (l0 l1 l3 : Option Value) (st : List Value) (σ : ri_S) (x : Int32), ev 37 (47, [l0, l1, some (.int x), l3], st) σ = ev 37 (48, [l0, l1, some (.int x), l3], .int x :: st) σ) ∧
  (∀ (L : ri_L) (σ : ri_S) (a0 : Nat) (a1 : Int32) (a2 : Int32), ev 37 (48, L, [.int a2, .int a1, .ref a0]) σ = tv_k 0 (σ.1 a0) ((cal 4 [.ref a0, .int a1, .int a2] σ).bind fun q => ev 37 (51, L, q.1.toList ++ []) q.2)) ∧
  (∀ (l0 l1 l2 l3 : Option Value) (st : List Value) (σ : ri_S) (x : Int32), ev 37 (51, [l0, l1, l2, l3], .int x :: st) σ = ev 37 (52, [l0, l1, ri_clr l2, some (.int x)], st) σ) ∧
  (∀ (l0 l1 l2 : Option Value) (st : List Value) (σ : ri_S) (x : Int32), ev 37 (52, [l0, l1, l2, some (.int x)], st) σ = ev 37 (53, [l0, l1, l2, some (.int x)], .int x :: st) σ) ∧
  (∀ (L : ri_L) (st : List Value) (σ : ri_S), ev 37 (53, L, st) σ = ev 37 (54, L, .int (-1) :: st) σ) ∧
  (∀ (L : ri_L) (st : List Value) (σ : ri_S) (x y : Int32), ev 37 (54, L, .int y :: .int x :: st) σ = if ¬ x = y then ev 37 (68, L, st) σ else ev 37 (57, L, st) σ) ∧
  (∀ (l1 l2 l3 : Option Value) (st : List Value) (σ : ri_S) (x : Nat), ev 37 (57, [some (.ref x), l1, l2, l3], st) σ = ev 37 (58, [some (.ref x), l1, l2, l3], .ref x :: st) σ) ∧
  (∀ (l0 l2 l3 : Option Value) (st : List Value) (σ : ri_S) (x : Int32), ev 37 (58, [l0, some (.int x), l2, l3], st) σ = ev 37 (59, [l0, some (.int x), l2, l3], .int x :: st) σ) ∧
  (∀ (l0 l1 l3 : Option Value) (st : List Value) (σ : ri_S) (x : Int32), ev 37 (59, [l0, l1, some (.int x), l3], st) σ = ev 37 (60, [l0, l1, some (.int x), l3], .int x :: st) σ) ∧
  (∀ (L : ri_L) (st : List Value) (σ : ri_S), ev 37 (60, L, st) σ = ev 37 (61, L, .int 1 :: st) σ) ∧
  (∀ (L : ri_L) (σ : ri_S) (a0 : Nat) (a1 : Int32) (a2 : Int32) (a3 : Int32), ev 37 (61, L, [.int a3, .int a2, .int a1, .ref a0]) σ = tv_k 3 (σ.1 a0) ((cal 35 [.ref a0, .int a1, .int a2, .int a3] σ).bind fun q => ev 37 (64, L, q.1.toList ++ []) q.2)) ∧
  (∀ (L : ri_L) (st : List Value) (σ : ri_S) (x : Int32), ev 37 (64, L, .int x :: st) σ = ev 37 (65, L, st) σ) ∧
  (∀ (L : ri_L) (st : List Value) (σ : ri_S), ev 37 (65, L, st) σ = ev 37 (84, L, st) σ) ∧
  (∀ (l1 l2 l3 : Option Value) (st : List Value) (σ : ri_S) (x : Nat), ev 37 (68, [some (.ref x), l1, l2, l3], st) σ = ev 37 (69, [some (.ref x), l1, l2, l3], .ref x :: st) σ) ∧
  (∀ (L : ri_L) (st : List Value) (σ : ri_S) (x : Nat), ev 37 (69, L, .ref x :: st) σ = ev 37 (70, L, .ref x :: .ref x :: st) σ) ∧
  (∀ (L : ri_L) (st : List Value) (σ : ri_S) (a : Nat), ev 37 (70, L, .ref a :: st) σ = tv_o 3 6 (σ.1 a) fun v => ev 37 (73, L, v :: st) σ) ∧
  (∀ (L : ri_L) (st : List Value) (σ : ri_S), ev 37 (73, L, st) σ = ev 37 (74, L, .int 1 :: st) σ) :=
  ⟨fun l1 l2 l3 st σ x => ev_p ((TP_37 _).trans rfl) rfl,
   fun L st σ a => ev_getf ((TP_37 _).trans rfl),
   fun l1 l2 l3 st σ x => ev_p ((TP_37 _).trans rfl) rfl,
   fun L st σ a => ev_getf ((TP_37 _).trans rfl),
   fun L st σ a => ev_getf ((TP_37 _).trans rfl),
   fun L σ a0 a1 => ev_call ((TP_37 _).trans rfl) rfl rfl rfl rfl,
   fun l0 l1 l2 l3 st σ x => ev_p ((TP_37 _).trans rfl) rfl,
   fun l1 l2 l3 st σ x => ev_p ((TP_37 _).trans rfl) rfl,
   fun L st σ a => ev_getf ((TP_37 _).trans rfl),
   fun l0 l2 l3 st σ x => ev_p ((TP_37 _).trans rfl) rfl,
   fun l1 l2 l3 st σ x => ev_p ((TP_37 _).trans rfl) rfl,
   fun L st σ a => ev_getf ((TP_37 _).trans rfl),
   fun l1 l2 l3 st σ x => ev_p ((TP_37 _).trans rfl) rfl,
   fun L st σ a => ev_getf ((TP_37 _).trans rfl),
   fun L st σ a => ev_getf ((TP_37 _).trans rfl),
   fun l0 l2 l3 st σ x => ev_p ((TP_37 _).trans rfl) rfl,
   fun L σ a0 a1 s0 s1 s2 => ev_call ((TP_37 _).trans rfl) rfl rfl rfl rfl,
   fun L σ a0 a1 s0 s1 => ev_call ((TP_37 _).trans rfl) rfl rfl rfl rfl,
   fun L σ a0 a1 a2 => ev_callv ((TP_37 _).trans rfl) rfl rfl rfl rfl,
   fun l0 l1 l2 l3 st σ x => ev_p ((TP_37 _).trans rfl) rfl,
   fun l1 l2 l3 st σ x => ev_p ((TP_37 _).trans rfl) rfl,
   fun L st σ a => ev_getf ((TP_37 _).trans rfl),
   fun l0 l2 l3 st σ x => ev_p ((TP_37 _).trans rfl) rfl,
   fun l0 l1 l3 st σ x => ev_p ((TP_37 _).trans rfl) rfl,
   fun L σ a0 a1 a2 => ev_callv ((TP_37 _).trans rfl) rfl rfl rfl rfl,
   fun l0 l1 l2 l3 st σ x => ev_p ((TP_37 _).trans rfl) rfl,
   fun l0 l1 l2 st σ x => ev_p ((TP_37 _).trans rfl) rfl,
   fun L st σ => ev_p ((TP_37 _).trans rfl) rfl,
   fun L st σ x y => ev_b ((TP_37 _).trans rfl) rfl,
   fun l1 l2 l3 st σ x => ev_p ((TP_37 _).trans rfl) rfl,
   fun l0 l2 l3 st σ x => ev_p ((TP_37 _).trans rfl) rfl,
   fun l0 l1 l3 st σ x => ev_p ((TP_37 _).trans rfl) rfl,
   fun L st σ => ev_p ((TP_37 _).trans rfl) rfl,
   fun L σ a0 a1 a2 a3 => ev_callv ((TP_37 _).trans rfl) rfl rfl rfl rfl,
   fun L st σ x => ev_p ((TP_37 _).trans rfl) rfl,
   fun L st σ => ev_p ((TP_37 _).trans rfl) rfl,
   fun l1 l2 l3 st σ x => ev_p ((TP_37 _).trans rfl) rfl,
   fun L st σ x => ev_p ((TP_37 _).trans rfl) rfl,
   fun L st σ a => ev_getf ((TP_37 _).trans rfl),
   fun L st σ => ev_p ((TP_37 _).trans rfl) rfl⟩
theorem I_37_1 :
  (∀ (L : ri_L) (st : List Value) (σ : ri_S) (x y : Int32), ev 37 (74, L, .int y :: .int x :: st) σ = ev 37 (75, L, .int (x + y) :: st) σ) ∧
  (∀ (L : ri_L) (st : List Value) (σ : ri_S) (a : Nat) (x : Int32), ev 37 (75, L, .int x :: .ref a :: st) σ = tv_w 3 6 (σ.1 a) (.int x) fun fs => ev 37 (78, L, st) (ri_upd σ.1 a (.inr (.inr (3, fs))), σ.2)) ∧
  (∀ (l1 l2 l3 : Option Value) (st : List Value) (σ : ri_S) (x : Nat), ev 37 (78, [some (.ref x), l1, l2, l3], st) σ = ev 37 (79, [some (.ref x), l1, l2, l3], .ref x :: st) σ) ∧
  (∀ (l0 l1 l2 : Option Value) (st : List Value) (σ : ri_S) (x : Int32), ev 37 (79, [l0, l1, l2, some (.int x)], st) σ = ev 37 (80, [l0, l1, l2, some (.int x)], .int x :: st) σ) ∧
  (∀ (L : ri_L) (st : List Value) (σ : ri_S), ev 37 (80, L, st) σ = ev 37 (81, L, .int 1 :: st) σ) ∧
  (∀ (L : ri_L) (σ : ri_S) (a0 : Nat) (a1 : Int32) (a2 : Int32), ev 37 (81, L, [.int a2, .int a1, .ref a0]) σ = tv_k 3 (σ.1 a0) ((cal 36 [.ref a0, .int a1, .int a2] σ).bind fun q => ev 37 (84, L, q.1.toList ++ []) q.2)) ∧
  (∀ (L : ri_L) (σ : ri_S), ev 37 (84, L, []) σ = some (none, σ)) :=
  ⟨fun L st σ x y => ev_p ((TP_37 _).trans rfl) rfl,
   fun L st σ a x => ev_puti ((TP_37 _).trans rfl),
   fun l1 l2 l3 st σ x => ev_p ((TP_37 _).trans rfl) rfl,
   fun l0 l1 l2 st σ x => ev_p ((TP_37 _).trans rfl) rfl,
   fun L st σ => ev_p ((TP_37 _).trans rfl) rfl,
   fun L σ a0 a1 a2 => ev_callv ((TP_37 _).trans rfl) rfl rfl rfl rfl,
   fun L σ => ev_r ((TP_37 _).trans rfl) rfl⟩
theorem TP_38 (pc : Nat) : TT 38 pc = ri_find TL_38 pc := rfl
theorem E_38 (x0 : Nat) (x1 : Int32) (σ : ri_S) : cal 38 [.ref x0, .int x1] σ = ev 38 (0, [some (.ref x0), some (.int x1)], []) σ := rfl
theorem I_38 :
  (∀ (l1 : Option Value) (st : List Value) (σ : ri_S) (x : Nat), ev 38 (0, [some (.ref x), l1], st) σ = ev 38 (1, [some (.ref x), l1], .ref x :: st) σ) ∧
  (∀ (L : ri_L) (st : List Value) (σ : ri_S) (a : Nat), ev 38 (1, L, .ref a :: st) σ = tv_o 3 0 (σ.1 a) fun v => ev 38 (4, L, v :: st) σ) ∧
  (∀ (l1 : Option Value) (st : List Value) (σ : ri_S) (x : Nat), ev 38 (4, [some (.ref x), l1], st) σ = ev 38 (5, [some (.ref x), l1], .ref x :: st) σ) ∧
  (∀ (L : ri_L) (st : List Value) (σ : ri_S) (a : Nat), ev 38 (5, L, .ref a :: st) σ = tv_o 3 2 (σ.1 a) fun v => ev 38 (8, L, v :: st) σ) ∧
  (∀ (L : ri_L) (st : List Value) (σ : ri_S) (a : Nat), ev 38 (8, L, .ref a :: st) σ = tv_o 0 2 (σ.1 a) fun v => ev 38 (11, L, v :: st) σ) ∧
  (∀ (l0 : Option Value) (st : List Value) (σ : ri_S) (x : Int32), ev 38 (11, [l0, some (.int x)], st) σ = ev 38 (12, [l0, some (.int x)], .int x :: st) σ) ∧
  (∀ (L : ri_L) (σ : ri_S) (a0 : Nat) (a1 : Int32) (s0 : Value), ev 38 (12, L, [.int a1, .ref a0, s0]) σ = (cal 140 [.ref a0, .int a1] σ).bind fun q => ev 38 (15, L, q.1.toList ++ [s0]) q.2) ∧
  (∀ (l1 : Option Value) (st : List Value) (σ : ri_S) (x : Nat), ev 38 (15, [some (.ref x), l1], st) σ = ev 38 (16, [some (.ref x), l1], .ref x :: st) σ) ∧
  (∀ (L : ri_L) (st : List Value) (σ : ri_S) (a : Nat), ev 38 (16, L, .ref a :: st) σ = tv_o 3 2 (σ.1 a) fun v => ev 38 (19, L, v :: st) σ) ∧
  (∀ (L : ri_L) (st : List Value) (σ : ri_S) (a : Nat), ev 38 (19, L, .ref a :: st) σ = tv_o 0 3 (σ.1 a) fun v => ev 38 (22, L, v :: st) σ) ∧
  (∀ (l0 : Option Value) (st : List Value) (σ : ri_S) (x : Int32), ev 38 (22, [l0, some (.int x)], st) σ = ev 38 (23, [l0, some (.int x)], .int x :: st) σ) ∧
  (∀ (L : ri_L) (σ : ri_S) (a0 : Nat) (a1 : Int32) (s0 s1 : Value), ev 38 (23, L, [.int a1, .ref a0, s0, s1]) σ = (cal 140 [.ref a0, .int a1] σ).bind fun q => ev 38 (26, L, q.1.toList ++ [s0, s1]) q.2) ∧
  (∀ (L : ri_L) (σ : ri_S) (a0 : Nat) (a1 : Int32) (a2 : Int32), ev 38 (26, L, [.int a2, .int a1, .ref a0]) σ = tv_k 7 (σ.1 a0) ((cal 101 [.ref a0, .int a1, .int a2] σ).bind fun q => ev 38 (29, L, q.1.toList ++ []) q.2)) ∧
  (∀ (L : ri_L) (σ : ri_S) (x : Int32), ev 38 (29, L, [.int x]) σ = some (some (.int x), σ)) :=
  ⟨fun l1 st σ x => ev_p ((TP_38 _).trans rfl) rfl,
   fun L st σ a => ev_getf ((TP_38 _).trans rfl),
   fun l1 st σ x => ev_p ((TP_38 _).trans rfl) rfl,
   fun L st σ a => ev_getf ((TP_38 _).trans rfl),
   fun L st σ a => ev_getf ((TP_38 _).trans rfl),
   fun l0 st σ x => ev_p ((TP_38 _).trans rfl) rfl,
   fun L σ a0 a1 s0 => ev_call ((TP_38 _).trans rfl) rfl rfl rfl rfl,
   fun l1 st σ x => ev_p ((TP_38 _).trans rfl) rfl,
   fun L st σ a => ev_getf ((TP_38 _).trans rfl),
   fun L st σ a => ev_getf ((TP_38 _).trans rfl),
   fun l0 st σ x => ev_p ((TP_38 _).trans rfl) rfl,
   fun L σ a0 a1 s0 s1 => ev_call ((TP_38 _).trans rfl) rfl rfl rfl rfl,
   fun L σ a0 a1 a2 => ev_callv ((TP_38 _).trans rfl) rfl rfl rfl rfl,
   fun L σ x => ev_r ((TP_38 _).trans rfl) rfl⟩
theorem TP_39 (pc : Nat) : TT 39 pc = ri_find TL_39 pc := rfl
theorem E_39 (x0 : Nat) (x1 : Int32) (x2 : Int32) (σ : ri_S) : cal 39 [.ref x0, .int x1, .int x2] σ = ev 39 (0, [some (.ref x0), some (.int x1), some (.int x2), none], []) σ := rfl
theorem I_39 :
  (∀ (l0 l1 l3 : Option Value) (st : List Value) (σ : ri_S) (x : Int32), ev 39 (0, [l0, l1, some (.int x), l3], st) σ = ev 39 (1, [l0, l1, some (.int x), l3], .int x :: st) σ) ∧
  (∀ (L : ri_L) (st : List Value) (σ : ri_S), ev 39 (1, L, st) σ = ev 39 (2, L, .int 5 :: st) σ) ∧
  (∀ (L : ri_L) (st : List Value) (σ : ri_S) (x y : Int32), ev 39 (2, L, .int y :: .int x :: st) σ = if y = 0 then none else ev 39 (3, L, .int (x / y) :: st) σ) ∧
  (∀ (l0 l1 l2 l3 : Option Value) (st : List Value) (σ : ri_S) (x : Int32), ev 39 (3, [l0, l1, l2, l3], .int x :: st) σ = ev 39 (4, [l0, l1, ri_clr l2, some (.int x)], st) σ) ∧
  (∀ (l1 l2 l3 : Option Value) (st : List Value) (σ : ri_S) (x : Nat), ev 39 (4, [some (.ref x), l1, l2, l3], st) σ = ev 39 (5, [some (.ref x), l1, l2, l3], .ref x :: st) σ) ∧
  (∀ (L : ri_L) (st : List Value) (σ : ri_S) (a : Nat), ev 39 (5, L, .ref a :: st) σ = tv_o 3 2 (σ.1 a) fun v => ev 39 (8, L, v :: st) σ) ∧
  (∀ (l0 l1 l2 : Option Value) (st : List Value) (σ : ri_S) (x : Int32), ev 39 (8, [l0, l1, l2, some (.int x)], st) σ = ev 39 (9, [l0, l1, l2, some (.int x)], .int x :: st) σ) ∧
  (∀ (l1 l2 l3 : Option Value) (st : List Value) (σ : ri_S) (x : Nat), ev 39 (9, [some (.ref x), l1, l2, l3], st) σ = ev 39 (10, [some (.ref x), l1, l2, l3], .ref x :: st) σ) ∧
  (∀ (L : ri_L) (st : List Value) (σ : ri_S) (a : Nat), ev 39 (10, L, .ref a :: st) σ = tv_o 3 0 (σ.1 a) fun v => ev 39 (13, L, v :: st) σ) ∧
  (∀ (l0 l1 l2 : Option Value) (st : List Value) (σ : ri_S) (x : Int32), ev 39 (13, [l0, l1, l2, some (.int x)], st) σ = ev 39 (14, [l0, l1, l2, some (.int x)], .int x :: st) σ) ∧
  (∀ (l0 l1 l3 : Option Value) (st : List Value) (σ : ri_S) (x : Int32), ev 39 (14, [l0, l1, some (.int x), l3], st) σ = ev 39 (15, [l0, l1, some (.int x), l3], .int x :: st) σ) ∧
  (∀ (L : ri_L) (st : List Value) (σ : ri_S), ev 39 (15, L, st) σ = ev 39 (16, L, .int 5 :: st) σ) ∧
  (∀ (L : ri_L) (st : List Value) (σ : ri_S) (x y : Int32), ev 39 (16, L, .int y :: .int x :: st) σ = if y = 0 then none else ev 39 (17, L, .int (x - x / y * y) :: st) σ) ∧
  (∀ (L : ri_L) (σ : ri_S) (a0 : Nat) (a1 : Int32) (a2 : Int32) (s0 s1 : Value), ev 39 (17, L, [.int a2, .int a1, .ref a0, s0, s1]) σ = tv_k 7 (σ.1 a0) ((cal 100 [.ref a0, .int a1, .int a2] σ).bind fun q => ev 39 (20, L, q.1.toList ++ [s0, s1]) q.2)) ∧
  (∀ (L : ri_L) (σ : ri_S) (a0 : Nat) (a1 : Int32) (a2 : Int32), ev 39 (20, L, [.int a2, .int a1, .ref a0]) σ = tv_k 0 (σ.1 a0) ((cal 4 [.ref a0, .int a1, .int a2] σ).bind fun q => ev 39 (23, L, q.1.toList ++ []) q.2)) ∧
  (∀ (L : ri_L) (st : List Value) (σ : ri_S), ev 39 (23, L, st) σ = ev 39 (24, L, .int (-1) :: st) σ) ∧
  (∀ (L : ri_L) (st : List Value) (σ : ri_S) (x y : Int32), ev 39 (24, L, .int y :: .int x :: st) σ = if x = y then ev 39 (29, L, st) σ else ev 39 (27, L, st) σ) ∧
  (∀ (L : ri_L) (st : List Value) (σ : ri_S), ev 39 (27, L, st) σ = ev 39 (28, L, .int 2 :: st) σ) ∧
  (∀ (L : ri_L) (σ : ri_S) (x : Int32), ev 39 (28, L, [.int x]) σ = some (some (.int x), σ)) ∧
  (∀ (l1 l2 l3 : Option Value) (st : List Value) (σ : ri_S) (x : Nat), ev 39 (29, [some (.ref x), l1, l2, l3], st) σ = ev 39 (30, [some (.ref x), l1, l2, l3], .ref x :: st) σ) ∧
  (∀ (L : ri_L) (st : List Value) (σ : ri_S) (a : Nat), ev 39 (30, L, .ref a :: st) σ = tv_o 3 8 (σ.1 a) fun v => ev 39 (33, L, v :: st) σ) ∧
  (∀ (L : ri_L) (st : List Value) (σ : ri_S), ev 39 (33, L, st) σ = ev 39 (34, L, .int 1 :: st) σ) ∧
  (∀ (L : ri_L) (st : List Value) (σ : ri_S) (x y : Int32), ev 39 (34, L, .int y :: .int x :: st) σ = if ¬ x = y then ev 39 (49, L, st) σ else ev 39 (37, L, st) σ) ∧
  (∀ (l1 l2 l3 : Option Value) (st : List Value) (σ : ri_S) (x : Nat), ev 39 (37, [some (.ref x), l1, l2, l3], st) σ = ev 39 (38, [some (.ref x), l1, l2, l3], .ref x :: st) σ) ∧
  (∀ (L : ri_L) (st : List Value) (σ : ri_S) (a : Nat), ev 39 (38, L, .ref a :: st) σ = tv_o 3 7 (σ.1 a) fun v => ev 39 (41, L, v :: st) σ) ∧
  (∀ (l0 l2 l3 : Option Value) (st : List Value) (σ : ri_S) (x : Int32), ev 39 (41, [l0, some (.int x), l2, l3], st) σ = ev 39 (42, [l0, some (.int x), l2, l3], .int x :: st) σ) ∧
  (∀ (L : ri_L) (st : List Value) (σ : ri_S) (x y : Int32), ev 39 (42, L, .int y :: .int x :: st) σ = if ¬ x = y then ev 39 (49, L, st) σ else ev 39 (45, L, st) σ) ∧
  (∀ (L : ri_L) (st : List Value) (σ : ri_S), ev 39 (45, L, st) σ = ev 39 (46, L, .int 3 :: st) σ) ∧
  (∀ (L : ri_L) (st : List Value) (σ : ri_S), ev 39 (46, L, st) σ = ev 39 (50, L, st) σ) ∧
  (∀ (L : ri_L) (st : List Value) (σ : ri_S), ev 39 (49, L, st) σ = ev 39 (50, L, .int 0 :: st) σ) ∧
  (∀ (L : ri_L) (σ : ri_S) (x : Int32), ev 39 (50, L, [.int x]) σ = some (some (.int x), σ)) :=
  ⟨fun l0 l1 l3 st σ x => ev_p ((TP_39 _).trans rfl) rfl,
   fun L st σ => ev_p ((TP_39 _).trans rfl) rfl,
   fun L st σ x y => ev_d ((TP_39 _).trans rfl) rfl,
   fun l0 l1 l2 l3 st σ x => ev_p ((TP_39 _).trans rfl) rfl,
   fun l1 l2 l3 st σ x => ev_p ((TP_39 _).trans rfl) rfl,
   fun L st σ a => ev_getf ((TP_39 _).trans rfl),
   fun l0 l1 l2 st σ x => ev_p ((TP_39 _).trans rfl) rfl,
   fun l1 l2 l3 st σ x => ev_p ((TP_39 _).trans rfl) rfl,
   fun L st σ a => ev_getf ((TP_39 _).trans rfl),
   fun l0 l1 l2 st σ x => ev_p ((TP_39 _).trans rfl) rfl,
   fun l0 l1 l3 st σ x => ev_p ((TP_39 _).trans rfl) rfl,
   fun L st σ => ev_p ((TP_39 _).trans rfl) rfl,
   fun L st σ x y => ev_d ((TP_39 _).trans rfl) rfl,
   fun L σ a0 a1 a2 s0 s1 => ev_callv ((TP_39 _).trans rfl) rfl rfl rfl rfl,
   fun L σ a0 a1 a2 => ev_callv ((TP_39 _).trans rfl) rfl rfl rfl rfl,
   fun L st σ => ev_p ((TP_39 _).trans rfl) rfl,
   fun L st σ x y => ev_b ((TP_39 _).trans rfl) rfl,
   fun L st σ => ev_p ((TP_39 _).trans rfl) rfl,
   fun L σ x => ev_r ((TP_39 _).trans rfl) rfl,
   fun l1 l2 l3 st σ x => ev_p ((TP_39 _).trans rfl) rfl,
   fun L st σ a => ev_getf ((TP_39 _).trans rfl),
   fun L st σ => ev_p ((TP_39 _).trans rfl) rfl,
   fun L st σ x y => ev_b ((TP_39 _).trans rfl) rfl,
   fun l1 l2 l3 st σ x => ev_p ((TP_39 _).trans rfl) rfl,
   fun L st σ a => ev_getf ((TP_39 _).trans rfl),
   fun l0 l2 l3 st σ x => ev_p ((TP_39 _).trans rfl) rfl,
   fun L st σ x y => ev_b ((TP_39 _).trans rfl) rfl,
   fun L st σ => ev_p ((TP_39 _).trans rfl) rfl,
   fun L st σ => ev_p ((TP_39 _).trans rfl) rfl,
   fun L st σ => ev_p ((TP_39 _).trans rfl) rfl,
   fun L σ x => ev_r ((TP_39 _).trans rfl) rfl⟩
theorem TP_40 (pc : Nat) : TT 40 pc = ri_find TL_40 pc := rfl
theorem E_40 (x0 : Nat) (x1 : Int32) (x2 : Int32) (σ : ri_S) : cal 40 [.ref x0, .int x1, .int x2] σ = ev 40 (0, [some (.ref x0), some (.int x1), some (.int x2), none], []) σ := rfl
theorem I_40 :
  (∀ (l1 l2 l3 : Option Value) (st : List Value) (σ : ri_S) (x : Nat), ev 40 (0, [some (.ref x), l1, l2, l3], st) σ = ev 40 (1, [some (.ref x), l1, l2, l3], .ref x :: st) σ) ∧
  (∀ (L : ri_L) (st : List Value) (σ : ri_S) (a : Nat), ev 40 (1, L, .ref a :: st) σ = tv_o 3 1 (σ.1 a) fun v => ev 40 (4, L, v :: st) σ) ∧
  (∀ (l0 l1 l3 : Option Value) (st : List Value) (σ : ri_S) (x : Int32), ev 40 (4, [l0, l1, some (.int x), l3], st) σ = ev 40 (5, [l0, l1, some (.int x), l3], .int x :: st) σ) ∧
  (∀ (l1 l2 l3 : Option Value) (st : List Value) (σ : ri_S) (x : Nat), ev 40 (5, [some (.ref x), l1, l2, l3], st) σ = ev 40 (6, [some (.ref x), l1, l2, l3], .ref x :: st) σ) ∧
  (∀ (l0 l2 l3 : Option Value) (st : List Value) (σ : ri_S) (x : Int32), ev 40 (6, [l0, some (.int x), l2, l3], st) σ = ev 40 (7, [l0, some (.int x), l2, l3], .int x :: st) σ) ∧
  (∀ (L : ri_L) (σ : ri_S) (a0 : Nat) (a1 : Int32) (s0 s1 : Value), ev 40 (7, L, [.int a1, .ref a0, s0, s1]) σ = tv_k 3 (σ.1 a0) ((cal 38 [.ref a0, .int a1] σ).bind fun q => ev 40 (10, L, q.1.toList ++ [s0, s1]) q.2)) ∧
  (∀ (L : ri_L) (σ : ri_S) (a0 : Nat) (a1 : Int32) (a2 : Int32), ev 40 (10, L, [.int a2, .int a1, .ref a0]) σ = tv_k 2 (σ.1 a0) ((cal 16 [.ref a0, .int a1, .int a2] σ).bind fun q => ev 40 (13, L, q.1.toList ++ []) q.2)) ∧
  (∀ (l0 l1 l2 l3 : Option Value) (st : List Value) (σ : ri_S) (x : Int32), ev 40 (13, [l0, l1, l2, l3], .int x :: st) σ = ev 40 (14, [l0, l1, ri_clr l2, some (.int x)], st) σ) ∧
  (∀ (l0 l1 l2 : Option Value) (st : List Value) (σ : ri_S) (x : Int32), ev 40 (14, [l0, l1, l2, some (.int x)], st) σ = ev 40 (15, [l0, l1, l2, some (.int x)], .int x :: st) σ) ∧
  (∀ (L : ri_L) (st : List Value) (σ : ri_S), ev 40 (15, L, st) σ = ev 40 (16, L, .int (-1) :: st) σ) ∧
  (∀ (L : ri_L) (st : List Value) (σ : ri_S) (x y : Int32), ev 40 (16, L, .int y :: .int x :: st) σ = if ¬ x = y then ev 40 (23, L, st) σ else ev 40 (19, L, st) σ) ∧
  (∀ (L : ri_L) (st : List Value) (σ : ri_S), ev 40 (19, L, st) σ = ev 40 (20, L, .int 1 :: st) σ) ∧
  (∀ (L : ri_L) (st : List Value) (σ : ri_S), ev 40 (20, L, st) σ = ev 40 (29, L, st) σ) ∧
  (∀ (l1 l2 l3 : Option Value) (st : List Value) (σ : ri_S) (x : Nat), ev 40 (23, [some (.ref x), l1, l2, l3], st) σ = ev 40 (24, [some (.ref x), l1, l2, l3], .ref x :: st) σ) ∧
  (∀ (l0 l2 l3 : Option Value) (st : List Value) (σ : ri_S) (x : Int32), ev 40 (24, [l0, some (.int x), l2, l3], st) σ = ev 40 (25, [l0, some (.int x), l2, l3], .int x :: st) σ) ∧
  (∀ (l0 l1 l2 : Option Value) (st : List Value) (σ : ri_S) (x : Int32), ev 40 (25, [l0, l1, l2, some (.int x)], st) σ = ev 40 (26, [l0, l1, l2, some (.int x)], .int x :: st) σ) ∧
  (∀ (L : ri_L) (σ : ri_S) (a0 : Nat) (a1 : Int32) (a2 : Int32), ev 40 (26, L, [.int a2, .int a1, .ref a0]) σ = tv_k 3 (σ.1 a0) ((cal 39 [.ref a0, .int a1, .int a2] σ).bind fun q => ev 40 (29, L, q.1.toList ++ []) q.2)) ∧
  (∀ (L : ri_L) (σ : ri_S) (x : Int32), ev 40 (29, L, [.int x]) σ = some (some (.int x), σ)) :=
  ⟨fun l1 l2 l3 st σ x => ev_p ((TP_40 _).trans rfl) rfl,
   fun L st σ a => ev_getf ((TP_40 _).trans rfl),
   fun l0 l1 l3 st σ x => ev_p ((TP_40 _).trans rfl) rfl,
   fun l1 l2 l3 st σ x => ev_p ((TP_40 _).trans rfl) rfl,
   fun l0 l2 l3 st σ x => ev_p ((TP_40 _).trans rfl) rfl,
   fun L σ a0 a1 s0 s1 => ev_callv ((TP_40 _).trans rfl) rfl rfl rfl rfl,
   fun L σ a0 a1 a2 => ev_callv ((TP_40 _).trans rfl) rfl rfl rfl rfl,
   fun l0 l1 l2 l3 st σ x => ev_p ((TP_40 _).trans rfl) rfl,
   fun l0 l1 l2 st σ x => ev_p ((TP_40 _).trans rfl) rfl,
   fun L st σ => ev_p ((TP_40 _).trans rfl) rfl,
   fun L st σ x y => ev_b ((TP_40 _).trans rfl) rfl,
   fun L st σ => ev_p ((TP_40 _).trans rfl) rfl,
   fun L st σ => ev_p ((TP_40 _).trans rfl) rfl,
   fun l1 l2 l3 st σ x => ev_p ((TP_40 _).trans rfl) rfl,
   fun l0 l2 l3 st σ x => ev_p ((TP_40 _).trans rfl) rfl,
   fun l0 l1 l2 st σ x => ev_p ((TP_40 _).trans rfl) rfl,
   fun L σ a0 a1 a2 => ev_callv ((TP_40 _).trans rfl) rfl rfl rfl rfl,
   fun L σ x => ev_r ((TP_40 _).trans rfl) rfl⟩
theorem TP_41 (pc : Nat) : TT 41 pc = ri_find TL_41 pc := rfl
theorem E_41 (x0 : Nat) (x1 : Int32) (x2 : Int32) (σ : ri_S) : cal 41 [.ref x0, .int x1, .int x2] σ = ev 41 (0, [some (.ref x0), some (.int x1), some (.int x2), none, none], []) σ := rfl
theorem I_41_0 :
  (∀ (l1 l2 l3 l4 : Option Value) (st : List Value) (σ : ri_S) (x : Nat), ev 41 (0, [some (.ref x), l1, l2, l3, l4], st) σ = ev 41 (1, [some (.ref x), l1, l2, l3, l4], .ref x :: st) σ) ∧
  (∀ (l0 l2 l3 l4 : Option Value) (st : List Value) (σ : ri_S) (x : Int32), ev 41 (1, [l0, some (.int x), l2, l3, l4], st) σ = ev 41 (2, [l0, some (.int x), l2, l3, l4], .int x :: st) σ) ∧
  (∀ (l0 l1 l3 l4 : Option Value) (st : List Value) (σ : ri_S) (x : Int32), ev 41 (2, [l0, l1, some (.int x), l3, l4], st) σ = ev 41 (3, [l0, l1, some (.int x), l3, l4], .int x :: st) σ) ∧
  (∀ (L : ri_L) (σ : ri_S) (a0 : Nat) (a1 : Int32) (a2 : Int32), ev 41 (3, L, [.int a2, .int a1, .ref a0]) σ = tv_k 3 (σ.1 a0) ((cal 27 [.ref a0, .int a1, .int a2] σ).bind fun q => ev 41 (6, L, q.1.toList ++ []) q.2)) ∧
  (∀ (L : ri_L) (st : List Value) (σ : ri_S) (x : Int32), ev 41 (6, L, .int x :: st) σ = if x = 0 then ev 41 (11, L, st) σ else ev 41 (9, L, st) σ) ∧
  (∀ (L : ri_L) (st : List Value) (σ : ri_S), ev 41 (9, L, st) σ = ev 41 (10, L, .int (-1) :: st) σ) ∧
  (∀ (L : ri_L) (σ : ri_S) (x : Int32), ev 41 (10, L, [.int x]) σ = some (some (.int x), σ)) ∧
  (∀ (l1 l2 l3 l4 : Option Value) (st : List Value) (σ : ri_S) (x : Nat), ev 41 (11, [some (.ref x), l1, l2, l3, l4], st) σ = ev 41 (12, [some (.ref x), l1, l2, l3, l4], .ref x :: st) σ) ∧
  (∀ (l0 l2 l3 l4 : Option Value) (st : List Value) (σ : ri_S) (x : Int32), ev 41 (12, [l0, some (.int x), l2, l3, l4], st) σ = ev 41 (13, [l0, some (.int x), l2, l3, l4], .int x :: st) σ) ∧
  (∀ (l0 l1 l3 l4 : Option Value) (st : List Value) (σ : ri_S) (x : Int32), ev 41 (13, [l0, l1, some (.int x), l3, l4], st) σ = ev 41 (14, [l0, l1, some (.int x), l3, l4], .int x :: st) σ) ∧
  (∀ (L : ri_L) (σ : ri_S) (a0 : Nat) (a1 : Int32) (a2 : Int32), ev 41 (14, L, [.int a2, .int a1, .ref a0]) σ = tv_k 3 (σ.1 a0) ((cal 40 [.ref a0, .int a1, .int a2] σ).bind fun q => ev 41 (17, L, q.1.toList ++ []) q.2)) ∧
  (∀ (l0 l1 l2 l3 l4 : Option Value) (st : List Value) (σ : ri_S) (x : Int32), ev 41 (17, [l0, l1, l2, l3, l4], .int x :: st) σ = ev 41 (18, [l0, l1, ri_clr l2, some (.int x), l4], st) σ) ∧
  (∀ (l0 l1 l2 l4 : Option Value) (st : List Value) (σ : ri_S) (x : Int32), ev 41 (18, [l0, l1, l2, some (.int x), l4], st) σ = ev 41 (19, [l0, l1, l2, some (.int x), l4], .int x :: st) σ) ∧
  (∀ (L : ri_L) (st : List Value) (σ : ri_S) (x : Int32), ev 41 (19, L, .int x :: st) σ = if ¬ x = 0 then ev 41 (92, L, st) σ else ev 41 (22, L, st) σ) ∧
  (∀ (l1 l2 l3 l4 : Option Value) (st : List Value) (σ : ri_S) (x : Nat), ev 41 (22, [some (.ref x), l1, l2, l3, l4], st) σ = ev 41 (23, [some (.ref x), l1, l2, l3, l4], .ref x :: st) σ) ∧
  (∀ (L : ri_L) (st : List Value) (σ : ri_S) (a : Nat), ev 41 (23, L, .ref a :: st) σ = tv_o 3 2 (σ.1 a) fun v => ev 41 (26, L, v :: st) σ) ∧
  (∀ (L : ri_L) (st : List Value) (σ : ri_S) (a : Nat), ev 41 (26, L, .ref a :: st) σ = tv_o 0 2 (σ.1 a) fun v => ev 41 (29, L, v :: st) σ) ∧
  (∀ (l0 l2 l3 l4 : Option Value) (st : List Value) (σ : ri_S) (x : Int32), ev 41 (29, [l0, some (.int x), l2, l3, l4], st) σ = ev 41 (30, [l0, some (.int x), l2, l3, l4], .int x :: st) σ) ∧
  (∀ (L : ri_L) (σ : ri_S) (a0 : Nat) (a1 : Int32), ev 41 (30, L, [.int a1, .ref a0]) σ = (cal 140 [.ref a0, .int a1] σ).bind fun q => ev 41 (33, L, q.1.toList ++ []) q.2) ∧
  (∀ (l0 l1 l2 l3 l4 : Option Value) (st : List Value) (σ : ri_S) (x : Int32), ev 41 (33, [l0, l1, l2, l3, l4], .int x :: st) σ = ev 41 (35, [l0, l1, l2, ri_clr l3, some (.int x)], st) σ) ∧
  (∀ (l1 l2 l3 l4 : Option Value) (st : List Value) (σ : ri_S) (x : Nat), ev 41 (35, [some (.ref x), l1, l2, l3, l4], st) σ = ev 41 (36, [some (.ref x), l1, l2, l3, l4], .ref x :: st) σ) ∧
  (∀ (l0 l2 l3 l4 : Option Value) (st : List Value) (σ : ri_S) (x : Int32), ev 41 (36, [l0, some (.int x), l2, l3, l4], st) σ = ev 41 (37, [l0, some (.int x), l2, l3, l4], .int x :: st) σ) ∧
  (∀ (l1 l2 l3 l4 : Option Value) (st : List Value) (σ : ri_S) (x : Nat), ev 41 (37, [some (.ref x), l1, l2, l3, l4], st) σ = ev 41 (38, [some (.ref x), l1, l2, l3, l4], .ref x :: st) σ) ∧
  (∀ (L : ri_L) (st : List Value) (σ : ri_S) (a : Nat), ev 41 (38, L, .ref a :: st) σ = tv_o 3 1 (σ.1 a) fun v => ev 41 (41, L, v :: st) σ) ∧
  (∀ (l0 l1 l3 l4 : Option Value) (st : List Value) (σ : ri_S) (x : Int32), ev 41 (41, [l0, l1, some (.int x), l3, l4], st) σ = ev 41 (42, [l0, l1, some (.int x), l3, l4], .int x :: st) σ) ∧
  (∀ (l1 l2 l3 l4 : Option Value) (st : List Value) (σ : ri_S) (x : Nat), ev 41 (42, [some (.ref x), l1, l2, l3, l4], st) σ = ev 41 (43, [some (.ref x), l1, l2, l3, l4], .ref x :: st) σ) ∧
  (∀ (l0 l2 l3 l4 : Option Value) (st : List Value) (σ : ri_S) (x : Int32), ev 41 (43, [l0, some (.int x), l2, l3, l4], st) σ = ev 41 (44, [l0, some (.int x), l2, l3, l4], .int x :: st) σ) ∧
  (∀ (L : ri_L) (σ : ri_S) (a0 : Nat) (a1 : Int32) (s0 s1 s2 s3 : Value), ev 41 (44, L, [.int a1, .ref a0, s0, s1, s2, s3]) σ = tv_k 3 (σ.1 a0) ((cal 38 [.ref a0, .int a1] σ).bind fun q => ev 41 (47, L, q.1.toList ++ [s0, s1, s2, s3]) q.2)) ∧
  (∀ (L : ri_L) (σ : ri_S) (a0 : Nat) (a1 : Int32) (a2 : Int32) (s0 s1 : Value), ev 41 (47, L, [.int a2, .int a1, .ref a0, s0, s1]) σ = tv_k 2 (σ.1 a0) ((cal 16 [.ref a0, .int a1, .int a2] σ).bind fun q => ev 41 (50, L, q.1.toList ++ [s0, s1]) q.2)) ∧
  (∀ (L : ri_L) (σ : ri_S) (a0 : Nat) (a1 : Int32) (a2 : Int32), ev 41 (50, L, [.int a2, .int a1, .ref a0]) σ = tv_k 3 (σ.1 a0) ((cal 43 [.ref a0, .int a1, .int a2] σ).bind fun q => ev 41 (53, L, q.1.toList ++ []) q.2)) ∧
  (∀ (l1 l2 l3 l4 : Option Value) (st : List Value) (σ : ri_S) (x : Nat), ev 41 (53, [some (.ref x), l1, l2, l3, l4], st) σ = ev 41 (54, [some (.ref x), l1, l2, l3, l4], .ref x :: st) σ) ∧
  (∀ (L : ri_L) (st : List Value) (σ : ri_S) (a : Nat), ev 41 (54, L, .ref a :: st) σ = tv_o 3 2 (σ.1 a) fun v => ev 41 (57, L, v :: st) σ) ∧
  (∀ (l0 l1 l2 l3 : Option Value) (st : List Value) (σ : ri_S) (x : Int32), ev 41 (57, [l0, l1, l2, l3, some (.int x)], st) σ = ev 41 (59, [l0, l1, l2, l3, some (.int x)], .int x :: st) σ) ∧
  (∀ (L : ri_L) (st : List Value) (σ : ri_S), ev 41 (59, L, st) σ = ev 41 (60, L, .int (-1) :: st) σ) ∧
  (∀ (L : ri_L) (σ : ri_S) (a0 : Nat) (a1 : Int32) (a2 : Int32), ev 41 (60, L, [.int a2, .int a1, .ref a0]) σ = tv_k 0 (σ.1 a0) ((cal 5 [.ref a0, .int a1, .int a2] σ).bind fun q => ev 41 (63, L, q.1.toList ++ []) q.2)) ∧
  (∀ (l1 l2 l3 l4 : Option Value) (st : List Value) (σ : ri_S) (x : Nat), ev 41 (63, [some (.ref x), l1, l2, l3, l4], st) σ = ev 41 (64, [some (.ref x), l1, l2, l3, l4], .ref x :: st) σ) ∧
  (∀ (L : ri_L) (st : List Value) (σ : ri_S) (a : Nat), ev 41 (64, L, .ref a :: st) σ = tv_o 3 0 (σ.1 a) fun v => ev 41 (67, L, v :: st) σ) ∧
  (∀ (L : ri_L) (st : List Value) (σ : ri_S) (a : Nat), ev 41 (67, L, .ref a :: st) σ = tv_o 7 3 (σ.1 a) fun v => ev 41 (70, L, v :: st) σ) ∧
  (∀ (l0 l1 l2 l3 : Option Value) (st : List Value) (σ : ri_S) (x : Int32), ev 41 (70, [l0, l1, l2, l3, some (.int x)], st) σ = ev 41 (72, [l0, l1, l2, l3, some (.int x)], .int x :: st) σ) ∧
  (∀ (L : ri_L) (σ : ri_S) (a0 : Nat) (a1 : Int32) (s0 : Value), ev 41 (72, L, [.int a1, .ref a0, s0]) σ = (cal 140 [.ref a0, .int a1] σ).bind fun q => ev 41 (75, L, q.1.toList ++ [s0]) q.2) :=
  ⟨fun l1 l2 l3 l4 st σ x => ev_p ((TP_41 _).trans rfl) rfl,
   fun l0 l2 l3 l4 st σ x => ev_p ((TP_41 _).trans rfl) rfl,
   fun l0 l1 l3 l4 st σ x => ev_p ((TP_41 _).trans rfl) rfl,
   fun L σ a0 a1 a2 => ev_callv ((TP_41 _).trans rfl) rfl rfl rfl rfl,
   fun L st σ x => ev_b ((TP_41 _).trans rfl) rfl,
   fun L st σ => ev_p ((TP_41 _).trans rfl) rfl,
   fun L σ x => ev_r ((TP_41 _).trans rfl) rfl,
   fun l1 l2 l3 l4 st σ x => ev_p ((TP_41 _).trans rfl) rfl,
   fun l0 l2 l3 l4 st σ x => ev_p ((TP_41 _).trans rfl) rfl,
   fun l0 l1 l3 l4 st σ x => ev_p ((TP_41 _).trans rfl) rfl,
   fun L σ a0 a1 a2 => ev_callv ((TP_41 _).trans rfl) rfl rfl rfl rfl,
   fun l0 l1 l2 l3 l4 st σ x => ev_p ((TP_41 _).trans rfl) rfl,
   fun l0 l1 l2 l4 st σ x => ev_p ((TP_41 _).trans rfl) rfl,
   fun L st σ x => ev_b ((TP_41 _).trans rfl) rfl,
   fun l1 l2 l3 l4 st σ x => ev_p ((TP_41 _).trans rfl) rfl,
   fun L st σ a => ev_getf ((TP_41 _).trans rfl),
   fun L st σ a => ev_getf ((TP_41 _).trans rfl),
   fun l0 l2 l3 l4 st σ x => ev_p ((TP_41 _).trans rfl) rfl,
   fun L σ a0 a1 => ev_call ((TP_41 _).trans rfl) rfl rfl rfl rfl,
   fun l0 l1 l2 l3 l4 st σ x => ev_p ((TP_41 _).trans rfl) rfl,
   fun l1 l2 l3 l4 st σ x => ev_p ((TP_41 _).trans rfl) rfl,
   fun l0 l2 l3 l4 st σ x => ev_p ((TP_41 _).trans rfl) rfl,
   fun l1 l2 l3 l4 st σ x => ev_p ((TP_41 _).trans rfl) rfl,
   fun L st σ a => ev_getf ((TP_41 _).trans rfl),
   fun l0 l1 l3 l4 st σ x => ev_p ((TP_41 _).trans rfl) rfl,
   fun l1 l2 l3 l4 st σ x => ev_p ((TP_41 _).trans rfl) rfl,
   fun l0 l2 l3 l4 st σ x => ev_p ((TP_41 _).trans rfl) rfl,
   fun L σ a0 a1 s0 s1 s2 s3 => ev_callv ((TP_41 _).trans rfl) rfl rfl rfl rfl,
   fun L σ a0 a1 a2 s0 s1 => ev_callv ((TP_41 _).trans rfl) rfl rfl rfl rfl,
   fun L σ a0 a1 a2 => ev_callv ((TP_41 _).trans rfl) rfl rfl rfl rfl,
   fun l1 l2 l3 l4 st σ x => ev_p ((TP_41 _).trans rfl) rfl,
   fun L st σ a => ev_getf ((TP_41 _).trans rfl),
   fun l0 l1 l2 l3 st σ x => ev_p ((TP_41 _).trans rfl) rfl,
   fun L st σ => ev_p ((TP_41 _).trans rfl) rfl,
   fun L σ a0 a1 a2 => ev_callv ((TP_41 _).trans rfl) rfl rfl rfl rfl,
   fun l1 l2 l3 l4 st σ x => ev_p ((TP_41 _).trans rfl) rfl,
   fun L st σ a => ev_getf ((TP_41 _).trans rfl),
   fun L st σ a => ev_getf ((TP_41 _).trans rfl),
   fun l0 l1 l2 l3 st σ x => ev_p ((TP_41 _).trans rfl) rfl,
   fun L σ a0 a1 s0 => ev_call ((TP_41 _).trans rfl) rfl rfl rfl rfl⟩
theorem I_41_1 :
  (∀ (L : ri_L) (st : List Value) (σ : ri_S) (x y : Int32), ev 41 (75, L, .int y :: .int x :: st) σ = if y < x then ev 41 (87, L, st) σ else ev 41 (78, L, st) σ) ∧
  (∀ (l1 l2 l3 l4 : Option Value) (st : List Value) (σ : ri_S) (x : Nat), ev 41 (78, [some (.ref x), l1, l2, l3, l4], st) σ = ev 41 (79, [some (.ref x), l1, l2, l3, l4], .ref x :: st) σ) ∧
  (∀ (L : ri_L) (st : List Value) (σ : ri_S) (a : Nat), ev 41 (79, L, .ref a :: st) σ = tv_o 3 0 (σ.1 a) fun v => ev 41 (82, L, v :: st) σ) ∧
  (∀ (l0 l1 l2 l3 : Option Value) (st : List Value) (σ : ri_S) (x : Int32), ev 41 (82, [l0, l1, l2, l3, some (.int x)], st) σ = ev 41 (84, [l0, l1, l2, l3, some (.int x)], .int x :: st) σ) ∧
  (∀ (L : ri_L) (σ : ri_S) (a0 : Nat) (a1 : Int32), ev 41 (84, L, [.int a1, .ref a0]) σ = tv_k 7 (σ.1 a0) ((cal 103 [.ref a0, .int a1] σ).bind fun q => ev 41 (87, L, q.1.toList ++ []) q.2)) ∧
  (∀ (l1 l2 l3 l4 : Option Value) (st : List Value) (σ : ri_S) (x : Nat), ev 41 (87, [some (.ref x), l1, l2, l3, l4], st) σ = ev 41 (88, [some (.ref x), l1, l2, l3, l4], .ref x :: st) σ) ∧
  (∀ (l0 l2 l3 l4 : Option Value) (st : List Value) (σ : ri_S) (x : Int32), ev 41 (88, [l0, some (.int x), l2, l3, l4], st) σ = ev 41 (89, [l0, some (.int x), l2, l3, l4], .int x :: st) σ) ∧
  (∀ (L : ri_L) (σ : ri_S) (a0 : Nat) (a1 : Int32), ev 41 (89, L, [.int a1, .ref a0]) σ = tv_k 3 (σ.1 a0) ((cal 44 [.ref a0, .int a1] σ).bind fun q => ev 41 (92, L, q.1.toList ++ []) q.2)) ∧
  (∀ (l0 l1 l2 l4 : Option Value) (st : List Value) (σ : ri_S) (x : Int32), ev 41 (92, [l0, l1, l2, some (.int x), l4], st) σ = ev 41 (93, [l0, l1, l2, some (.int x), l4], .int x :: st) σ) ∧
  (∀ (L : ri_L) (σ : ri_S) (x : Int32), ev 41 (93, L, [.int x]) σ = some (some (.int x), σ)) :=
  ⟨fun L st σ x y => ev_b ((TP_41 _).trans rfl) rfl,
   fun l1 l2 l3 l4 st σ x => ev_p ((TP_41 _).trans rfl) rfl,
   fun L st σ a => ev_getf ((TP_41 _).trans rfl),
   fun l0 l1 l2 l3 st σ x => ev_p ((TP_41 _).trans rfl) rfl,
   fun L σ a0 a1 => ev_callv ((TP_41 _).trans rfl) rfl rfl rfl rfl,
   fun l1 l2 l3 l4 st σ x => ev_p ((TP_41 _).trans rfl) rfl,
   fun l0 l2 l3 l4 st σ x => ev_p ((TP_41 _).trans rfl) rfl,
   fun L σ a0 a1 => ev_callv ((TP_41 _).trans rfl) rfl rfl rfl rfl,
   fun l0 l1 l2 l4 st σ x => ev_p ((TP_41 _).trans rfl) rfl,
   fun L σ x => ev_r ((TP_41 _).trans rfl) rfl⟩
theorem TP_42 (pc : Nat) : TT 42 pc = ri_find TL_42 pc := rfl
theorem E_42 (x0 : Nat) (x1 : Int32) (x2 : Int32) (σ : ri_S) : cal 42 [.ref x0, .int x1, .int x2] σ = ev 42 (0, [some (.ref x0), some (.int x1), some (.int x2), none, none, none], []) σ := rfl
theorem I_42_0 :
  (∀ (l1 l2 l3 l4 l5 : Option Value) (st : List Value) (σ : ri_S) (x : Nat), ev 42 (0, [some (.ref x), l1, l2, l3, l4, l5], st) σ = ev 42 (1, [some (.ref x), l1, l2, l3, l4, l5], .ref x :: st) σ) ∧
  (∀ (l0 l2 l3 l4 l5 : Option Value) (st : List Value) (σ : ri_S) (x : Int32), ev 42 (1, [l0, some (.int x), l2, l3, l4, l5], st) σ = ev 42 (2, [l0, some (.int x), l2, l3, l4, l5], .int x :: st) σ) ∧
  (∀ (l0 l1 l3 l4 l5 : Option Value) (st : List Value) (σ : ri_S) (x : Int32), ev 42 (2, [l0, l1, some (.int x), l3, l4, l5], st) σ = ev 42 (3, [l0, l1, some (.int x), l3, l4, l5], .int x :: st) σ) ∧
  (∀ (L : ri_L) (σ : ri_S) (a0 : Nat) (a1 : Int32) (a2 : Int32), ev 42 (3, L, [.int a2, .int a1, .ref a0]) σ = tv_k 3 (σ.1 a0) ((cal 28 [.ref a0, .int a1, .int a2] σ).bind fun q => ev 42 (6, L, q.1.toList ++ []) q.2)) ∧
  (∀ (L : ri_L) (st : List Value) (σ : ri_S) (x : Int32), ev 42 (6, L, .int x :: st) σ = if x = 0 then ev 42 (11, L, st) σ else ev 42 (9, L, st) σ) ∧
  (∀ (L : ri_L) (st : List Value) (σ : ri_S), ev 42 (9, L, st) σ = ev 42 (10, L, .int (-1) :: st) σ) ∧
  (∀ (L : ri_L) (σ : ri_S) (x : Int32), ev 42 (10, L, [.int x]) σ = some (some (.int x), σ)) ∧
  (∀ (l1 l2 l3 l4 l5 : Option Value) (st : List Value) (σ : ri_S) (x : Nat), ev 42 (11, [some (.ref x), l1, l2, l3, l4, l5], st) σ = ev 42 (12, [some (.ref x), l1, l2, l3, l4, l5], .ref x :: st) σ) ∧
  (∀ (L : ri_L) (st : List Value) (σ : ri_S) (a : Nat), ev 42 (12, L, .ref a :: st) σ = tv_o 3 2 (σ.1 a) fun v => ev 42 (15, L, v :: st) σ) ∧
  (∀ (L : ri_L) (st : List Value) (σ : ri_S) (a : Nat), ev 42 (15, L, .ref a :: st) σ = tv_o 0 2 (σ.1 a) fun v => ev 42 (18, L, v :: st) σ) ∧
  (∀ (l0 l2 l3 l4 l5 : Option Value) (st : List Value) (σ : ri_S) (x : Int32), ev 42 (18, [l0, some (.int x), l2, l3, l4, l5], st) σ = ev 42 (19, [l0, some (.int x), l2, l3, l4, l5], .int x :: st) σ) ∧
  (∀ (L : ri_L) (σ : ri_S) (a0 : Nat) (a1 : Int32), ev 42 (19, L, [.int a1, .ref a0]) σ = (cal 140 [.ref a0, .int a1] σ).bind fun q => ev 42 (22, L, q.1.toList ++ []) q.2) ∧
  (∀ (l0 l1 l2 l3 l4 l5 : Option Value) (st : List Value) (σ : ri_S) (x : Int32), ev 42 (22, [l0, l1, l2, l3, l4, l5], .int x :: st) σ = ev 42 (23, [l0, l1, ri_clr l2, some (.int x), l4, l5], st) σ) ∧
  (∀ (l1 l2 l3 l4 l5 : Option Value) (st : List Value) (σ : ri_S) (x : Nat), ev 42 (23, [some (.ref x), l1, l2, l3, l4, l5], st) σ = ev 42 (24, [some (.ref x), l1, l2, l3, l4, l5], .ref x :: st) σ) ∧
  (∀ (L : ri_L) (st : List Value) (σ : ri_S) (a : Nat), ev 42 (24, L, .ref a :: st) σ = tv_o 3 0 (σ.1 a) fun v => ev 42 (27, L, v :: st) σ) ∧
  (∀ (l0 l1 l2 l4 l5 : Option Value) (st : List Value) (σ : ri_S) (x : Int32), ev 42 (27, [l0, l1, l2, some (.int x), l4, l5], st) σ = ev 42 (28, [l0, l1, l2, some (.int x), l4, l5], .int x :: st) σ) ∧
  (∀ (l1 l2 l3 l4 l5 : Option Value) (st : List Value) (σ : ri_S) (x : Nat), ev 42 (28, [some (.ref x), l1, l2, l3, l4, l5], st) σ = ev 42 (29, [some (.ref x), l1, l2, l3, l4, l5], .ref x :: st) σ) ∧
  (∀ (L : ri_L) (st : List Value) (σ : ri_S) (a : Nat), ev 42 (29, L, .ref a :: st) σ = tv_o 3 2 (σ.1 a) fun v => ev 42 (32, L, v :: st) σ) ∧
  (∀ (L : ri_L) (st : List Value) (σ : ri_S) (a : Nat), ev 42 (32, L, .ref a :: st) σ = tv_o 0 3 (σ.1 a) fun v => ev 42 (35, L, v :: st) σ) ∧
  (∀ (l0 l2 l3 l4 l5 : Option Value) (st : List Value) (σ : ri_S) (x : Int32), ev 42 (35, [l0, some (.int x), l2, l3, l4, l5], st) σ = ev 42 (36, [l0, some (.int x), l2, l3, l4, l5], .int x :: st) σ) ∧
  (∀ (L : ri_L) (σ : ri_S) (a0 : Nat) (a1 : Int32) (s0 s1 : Value), ev 42 (36, L, [.int a1, .ref a0, s0, s1]) σ = (cal 140 [.ref a0, .int a1] σ).bind fun q => ev 42 (39, L, q.1.toList ++ [s0, s1]) q.2) ∧
  (∀ (l0 l1 l3 l4 l5 : Option Value) (st : List Value) (σ : ri_S) (x : Int32), ev 42 (39, [l0, l1, some (.int x), l3, l4, l5], st) σ = ev 42 (40, [l0, l1, some (.int x), l3, l4, l5], .int x :: st) σ) ∧
  (∀ (L : ri_L) (st : List Value) (σ : ri_S) (x y : Int32), ev 42 (40, L, .int y :: .int x :: st) σ = ev 42 (41, L, .int (x + y) :: st) σ) ∧
  (∀ (L : ri_L) (σ : ri_S) (a0 : Nat) (a1 : Int32) (a2 : Int32), ev 42 (41, L, [.int a2, .int a1, .ref a0]) σ = tv_k 7 (σ.1 a0) ((cal 101 [.ref a0, .int a1, .int a2] σ).bind fun q => ev 42 (44, L, q.1.toList ++ []) q.2)) ∧
  (∀ (l0 l1 l2 l3 l4 l5 : Option Value) (st : List Value) (σ : ri_S) (x : Int32), ev 42 (44, [l0, l1, l2, l3, l4, l5], .int x :: st) σ = ev 42 (46, [l0, l1, l2, ri_clr l3, some (.int x), l5], st) σ) ∧
  (∀ (l1 l2 l3 l4 l5 : Option Value) (st : List Value) (σ : ri_S) (x : Nat), ev 42 (46, [some (.ref x), l1, l2, l3, l4, l5], st) σ = ev 42 (47, [some (.ref x), l1, l2, l3, l4, l5], .ref x :: st) σ) ∧
  (∀ (l0 l2 l3 l4 l5 : Option Value) (st : List Value) (σ : ri_S) (x : Int32), ev 42 (47, [l0, some (.int x), l2, l3, l4, l5], st) σ = ev 42 (48, [l0, some (.int x), l2, l3, l4, l5], .int x :: st) σ) ∧
  (∀ (l0 l1 l2 l3 l5 : Option Value) (st : List Value) (σ : ri_S) (x : Int32), ev 42 (48, [l0, l1, l2, l3, some (.int x), l5], st) σ = ev 42 (50, [l0, l1, l2, l3, some (.int x), l5], .int x :: st) σ) ∧
  (∀ (L : ri_L) (σ : ri_S) (a0 : Nat) (a1 : Int32) (a2 : Int32), ev 42 (50, L, [.int a2, .int a1, .ref a0]) σ = tv_k 3 (σ.1 a0) ((cal 39 [.ref a0, .int a1, .int a2] σ).bind fun q => ev 42 (53, L, q.1.toList ++ []) q.2)) ∧
  (∀ (l0 l1 l2 l3 l4 l5 : Option Value) (st : List Value) (σ : ri_S) (x : Int32), ev 42 (53, [l0, l1, l2, l3, l4, l5], .int x :: st) σ = ev 42 (55, [l0, l1, l2, l3, ri_clr l4, some (.int x)], st) σ) ∧
  (∀ (l0 l1 l2 l3 l4 : Option Value) (st : List Value) (σ : ri_S) (x : Int32), ev 42 (55, [l0, l1, l2, l3, l4, some (.int x)], st) σ = ev 42 (57, [l0, l1, l2, l3, l4, some (.int x)], .int x :: st) σ) ∧
  (∀ (L : ri_L) (st : List Value) (σ : ri_S) (x : Int32), ev 42 (57, L, .int x :: st) σ = if ¬ x = 0 then ev 42 (72, L, st) σ else ev 42 (60, L, st) σ) ∧
  (∀ (l1 l2 l3 l4 l5 : Option Value) (st : List Value) (σ : ri_S) (x : Nat), ev 42 (60, [some (.ref x), l1, l2, l3, l4, l5], st) σ = ev 42 (61, [some (.ref x), l1, l2, l3, l4, l5], .ref x :: st) σ) ∧
  (∀ (l0 l2 l3 l4 l5 : Option Value) (st : List Value) (σ : ri_S) (x : Int32), ev 42 (61, [l0, some (.int x), l2, l3, l4, l5], st) σ = ev 42 (62, [l0, some (.int x), l2, l3, l4, l5], .int x :: st) σ) ∧
  (∀ (l0 l1 l2 l3 l5 : Option Value) (st : List Value) (σ : ri_S) (x : Int32), ev 42 (62, [l0, l1, l2, l3, some (.int x), l5], st) σ = ev 42 (64, [l0, l1, l2, l3, some (.int x), l5], .int x :: st) σ) ∧
  (∀ (L : ri_L) (σ : ri_S) (a0 : Nat) (a1 : Int32) (a2 : Int32), ev 42 (64, L, [.int a2, .int a1, .ref a0]) σ = tv_k 3 (σ.1 a0) ((cal 43 [.ref a0, .int a1, .int a2] σ).bind fun q => ev 42 (67, L, q.1.toList ++ []) q.2)) ∧
  (∀ (l1 l2 l3 l4 l5 : Option Value) (st : List Value) (σ : ri_S) (x : Nat), ev 42 (67, [some (.ref x), l1, l2, l3, l4, l5], st) σ = ev 42 (68, [some (.ref x), l1, l2, l3, l4, l5], .ref x :: st) σ) ∧
  (∀ (l0 l2 l3 l4 l5 : Option Value) (st : List Value) (σ : ri_S) (x : Int32), ev 42 (68, [l0, some (.int x), l2, l3, l4, l5], st) σ = ev 42 (69, [l0, some (.int x), l2, l3, l4, l5], .int x :: st) σ) ∧
  (∀ (L : ri_L) (σ : ri_S) (a0 : Nat) (a1 : Int32), ev 42 (69, L, [.int a1, .ref a0]) σ = tv_k 3 (σ.1 a0) ((cal 44 [.ref a0, .int a1] σ).bind fun q => ev 42 (72, L, q.1.toList ++ []) q.2)) ∧
  (∀ (l0 l1 l2 l3 l4 : Option Value) (st : List Value) (σ : ri_S) (x : Int32), ev 42 (72, [l0, l1, l2, l3, l4, some (.int x)], st) σ = ev 42 (74, [l0, l1, l2, l3, l4, some (.int x)], .int x :: st) σ) :=
  ⟨fun l1 l2 l3 l4 l5 st σ x => ev_p ((TP_42 _).trans rfl) rfl,
   fun l0 l2 l3 l4 l5 st σ x => ev_p ((TP_42 _).trans rfl) rfl,
   fun l0 l1 l3 l4 l5 st σ x => ev_p ((TP_42 _).trans rfl) rfl,
   fun L σ a0 a1 a2 => ev_callv ((TP_42 _).trans rfl) rfl rfl rfl rfl,
   fun L st σ x => ev_b ((TP_42 _).trans rfl) rfl,
   fun L st σ => ev_p ((TP_42 _).trans rfl) rfl,
   fun L σ x => ev_r ((TP_42 _).trans rfl) rfl,
   fun l1 l2 l3 l4 l5 st σ x => ev_p ((TP_42 _).trans rfl) rfl,
   fun L st σ a => ev_getf ((TP_42 _).trans rfl),
   fun L st σ a => ev_getf ((TP_42 _).trans rfl),
   fun l0 l2 l3 l4 l5 st σ x => ev_p ((TP_42 _).trans rfl) rfl,
   fun L σ a0 a1 => ev_call ((TP_42 _).trans rfl) rfl rfl rfl rfl,
   fun l0 l1 l2 l3 l4 l5 st σ x => ev_p ((TP_42 _).trans rfl) rfl,
   fun l1 l2 l3 l4 l5 st σ x => ev_p ((TP_42 _).trans rfl) rfl,
   fun L st σ a => ev_getf ((TP_42 _).trans rfl),
   fun l0 l1 l2 l4 l5 st σ x => ev_p ((TP_42 _).trans rfl) rfl,
   fun l1 l2 l3 l4 l5 st σ x => ev_p ((TP_42 _).trans rfl) rfl,
   fun L st σ a => ev_getf ((TP_42 _).trans rfl),
   fun L st σ a => ev_getf ((TP_42 _).trans rfl),
   fun l0 l2 l3 l4 l5 st σ x => ev_p ((TP_42 _).trans rfl) rfl,
   fun L σ a0 a1 s0 s1 => ev_call ((TP_42 _).trans rfl) rfl rfl rfl rfl,
   fun l0 l1 l3 l4 l5 st σ x => ev_p ((TP_42 _).trans rfl) rfl,
   fun L st σ x y => ev_p ((TP_42 _).trans rfl) rfl,
   fun L σ a0 a1 a2 => ev_callv ((TP_42 _).trans rfl) rfl rfl rfl rfl,
   fun l0 l1 l2 l3 l4 l5 st σ x => ev_p ((TP_42 _).trans rfl) rfl,
   fun l1 l2 l3 l4 l5 st σ x => ev_p ((TP_42 _).trans rfl) rfl,
   fun l0 l2 l3 l4 l5 st σ x => ev_p ((TP_42 _).trans rfl) rfl,
   fun l0 l1 l2 l3 l5 st σ x => ev_p ((TP_42 _).trans rfl) rfl,
   fun L σ a0 a1 a2 => ev_callv ((TP_42 _).trans rfl) rfl rfl rfl rfl,
   fun l0 l1 l2 l3 l4 l5 st σ x => ev_p ((TP_42 _).trans rfl) rfl,
   fun l0 l1 l2 l3 l4 st σ x => ev_p ((TP_42 _).trans rfl) rfl,
   fun L st σ x => ev_b ((TP_42 _).trans rfl) rfl,
   fun l1 l2 l3 l4 l5 st σ x => ev_p ((TP_42 _).trans rfl) rfl,
   fun l0 l2 l3 l4 l5 st σ x => ev_p ((TP_42 _).trans rfl) rfl,
   fun l0 l1 l2 l3 l5 st σ x => ev_p ((TP_42 _).trans rfl) rfl,
   fun L σ a0 a1 a2 => ev_callv ((TP_42 _).trans rfl) rfl rfl rfl rfl,
   fun l1 l2 l3 l4 l5 st σ x => ev_p ((TP_42 _).trans rfl) rfl,
   fun l0 l2 l3 l4 l5 st σ x => ev_p ((TP_42 _).trans rfl) rfl,
   fun L σ a0 a1 => ev_callv ((TP_42 _).trans rfl) rfl rfl rfl rfl,
   fun l0 l1 l2 l3 l4 st σ x => ev_p ((TP_42 _).trans rfl) rfl⟩
theorem I_42_1 : ∀ (L : ri_L) (σ : ri_S) (x : Int32), ev 42 (74, L, [.int x]) σ = some (some (.int x), σ) := fun L σ x => ev_r ((TP_42 _).trans rfl) rfl
theorem TP_43 (pc : Nat) : TT 43 pc = ri_find TL_43 pc := rfl
theorem E_43 (x0 : Nat) (x1 : Int32) (x2 : Int32) (σ : ri_S) : cal 43 [.ref x0, .int x1, .int x2] σ = ev 43 (0, [some (.ref x0), some (.int x1), some (.int x2), none, none], []) σ := rfl
theorem I_43 :
  (∀ (l0 l1 l3 l4 : Option Value) (st : List Value) (σ : ri_S) (x : Int32), ev 43 (0, [l0, l1, some (.int x), l3, l4], st) σ = ev 43 (1, [l0, l1, some (.int x), l3, l4], .int x :: st) σ) ∧
  (∀ (L : ri_L) (st : List Value) (σ : ri_S), ev 43 (1, L, st) σ = ev 43 (2, L, .int 5 :: st) σ) ∧
  (∀ (L : ri_L) (st : List Value) (σ : ri_S) (x y : Int32), ev 43 (2, L, .int y :: .int x :: st) σ = if y = 0 then none else ev 43 (3, L, .int (x / y) :: st) σ) ∧
  (∀ (l0 l1 l2 l3 l4 : Option Value) (st : List Value) (σ : ri_S) (x : Int32), ev 43 (3, [l0, l1, l2, l3, l4], .int x :: st) σ = ev 43 (4, [l0, l1, ri_clr l2, some (.int x), l4], st) σ) ∧
  (∀ (l1 l2 l3 l4 : Option Value) (st : List Value) (σ : ri_S) (x : Nat), ev 43 (4, [some (.ref x), l1, l2, l3, l4], st) σ = ev 43 (5, [some (.ref x), l1, l2, l3, l4], .ref x :: st) σ) ∧
  (∀ (L : ri_L) (st : List Value) (σ : ri_S) (a : Nat), ev 43 (5, L, .ref a :: st) σ = tv_o 3 0 (σ.1 a) fun v => ev 43 (8, L, v :: st) σ) ∧
  (∀ (l0 l1 l2 l4 : Option Value) (st : List Value) (σ : ri_S) (x : Int32), ev 43 (8, [l0, l1, l2, some (.int x), l4], st) σ = ev 43 (9, [l0, l1, l2, some (.int x), l4], .int x :: st) σ) ∧
  (∀ (l0 l1 l3 l4 : Option Value) (st : List Value) (σ : ri_S) (x : Int32), ev 43 (9, [l0, l1, some (.int x), l3, l4], st) σ = ev 43 (10, [l0, l1, some (.int x), l3, l4], .int x :: st) σ) ∧
  (∀ (L : ri_L) (st : List Value) (σ : ri_S), ev 43 (10, L, st) σ = ev 43 (11, L, .int 5 :: st) σ) ∧
  (∀ (L : ri_L) (st : List Value) (σ : ri_S) (x y : Int32), ev 43 (11, L, .int y :: .int x :: st) σ = if y = 0 then none else ev 43 (12, L, .int (x - x / y * y) :: st) σ) ∧
  (∀ (L : ri_L) (σ : ri_S) (a0 : Nat) (a1 : Int32) (a2 : Int32), ev 43 (12, L, [.int a2, .int a1, .ref a0]) σ = tv_k 7 (σ.1 a0) ((cal 100 [.ref a0, .int a1, .int a2] σ).bind fun q => ev 43 (15, L, q.1.toList ++ []) q.2)) ∧
  (∀ (l0 l1 l2 l3 l4 : Option Value) (st : List Value) (σ : ri_S) (x : Int32), ev 43 (15, [l0, l1, l2, l3, l4], .int x :: st) σ = ev 43 (17, [l0, l1, l2, ri_clr l3, some (.int x)], st) σ) ∧
  (∀ (l1 l2 l3 l4 : Option Value) (st : List Value) (σ : ri_S) (x : Nat), ev 43 (17, [some (.ref x), l1, l2, l3, l4], st) σ = ev 43 (18, [some (.ref x), l1, l2, l3, l4], .ref x :: st) σ) ∧
  (∀ (L : ri_L) (st : List Value) (σ : ri_S) (a : Nat), ev 43 (18, L, .ref a :: st) σ = tv_o 3 2 (σ.1 a) fun v => ev 43 (21, L, v :: st) σ) ∧
  (∀ (l0 l2 l3 l4 : Option Value) (st : List Value) (σ : ri_S) (x : Int32), ev 43 (21, [l0, some (.int x), l2, l3, l4], st) σ = ev 43 (22, [l0, some (.int x), l2, l3, l4], .int x :: st) σ) ∧
  (∀ (l0 l1 l2 l4 : Option Value) (st : List Value) (σ : ri_S) (x : Int32), ev 43 (22, [l0, l1, l2, some (.int x), l4], st) σ = ev 43 (23, [l0, l1, l2, some (.int x), l4], .int x :: st) σ) ∧
  (∀ (l0 l1 l2 l3 : Option Value) (st : List Value) (σ : ri_S) (x : Int32), ev 43 (23, [l0, l1, l2, l3, some (.int x)], st) σ = ev 43 (25, [l0, l1, l2, l3, some (.int x)], .int x :: st) σ) ∧
  (∀ (L : ri_L) (σ : ri_S) (a0 : Nat) (a1 : Int32) (a2 : Int32) (a3 : Int32), ev 43 (25, L, [.int a3, .int a2, .int a1, .ref a0]) σ = tv_k 0 (σ.1 a0) ((cal 3 [.ref a0, .int a1, .int a2, .int a3] σ).bind fun q => ev 43 (28, L, q.1.toList ++ []) q.2)) ∧
  (∀ (l1 l2 l3 l4 : Option Value) (st : List Value) (σ : ri_S) (x : Nat), ev 43 (28, [some (.ref x), l1, l2, l3, l4], st) σ = ev 43 (29, [some (.ref x), l1, l2, l3, l4], .ref x :: st) σ) ∧
  (∀ (l0 l2 l3 l4 : Option Value) (st : List Value) (σ : ri_S) (x : Int32), ev 43 (29, [l0, some (.int x), l2, l3, l4], st) σ = ev 43 (30, [l0, some (.int x), l2, l3, l4], .int x :: st) σ) ∧
  (∀ (l1 l2 l3 l4 : Option Value) (st : List Value) (σ : ri_S) (x : Nat), ev 43 (30, [some (.ref x), l1, l2, l3, l4], st) σ = ev 43 (31, [some (.ref x), l1, l2, l3, l4], .ref x :: st) σ) ∧
  (∀ (L : ri_L) (st : List Value) (σ : ri_S) (a : Nat), ev 43 (31, L, .ref a :: st) σ = tv_o 3 0 (σ.1 a) fun v => ev 43 (34, L, v :: st) σ) ∧
  (∀ (L : ri_L) (st : List Value) (σ : ri_S) (a : Nat), ev 43 (34, L, .ref a :: st) σ = tv_o 7 6 (σ.1 a) fun v => ev 43 (37, L, v :: st) σ) ∧
  (∀ (l0 l1 l2 l4 : Option Value) (st : List Value) (σ : ri_S) (x : Int32), ev 43 (37, [l0, l1, l2, some (.int x), l4], st) σ = ev 43 (38, [l0, l1, l2, some (.int x), l4], .int x :: st) σ) ∧
  (∀ (l0 l1 l2 l3 : Option Value) (st : List Value) (σ : ri_S) (x : Int32), ev 43 (38, [l0, l1, l2, l3, some (.int x)], st) σ = ev 43 (40, [l0, l1, l2, l3, some (.int x)], .int x :: st) σ) ∧
  (∀ (L : ri_L) (σ : ri_S) (a0 : Int32) (a1 : Int32) (s0 s1 s2 : Value), ev 43 (40, L, [.int a1, .int a0, s0, s1, s2]) σ = (cal 138 [.int a0, .int a1] σ).bind fun q => ev 43 (43, L, q.1.toList ++ [s0, s1, s2]) q.2) ∧
  (∀ (L : ri_L) (σ : ri_S) (a0 : Nat) (a1 : Int32) (s0 s1 : Value), ev 43 (43, L, [.int a1, .ref a0, s0, s1]) σ = (cal 140 [.ref a0, .int a1] σ).bind fun q => ev 43 (46, L, q.1.toList ++ [s0, s1]) q.2) ∧
  (∀ (L : ri_L) (σ : ri_S) (a0 : Nat) (a1 : Int32) (a2 : Int32), ev 43 (46, L, [.int a2, .int a1, .ref a0]) σ = tv_k 3 (σ.1 a0) ((cal 36 [.ref a0, .int a1, .int a2] σ).bind fun q => ev 43 (49, L, q.1.toList ++ []) q.2)) ∧
  (∀ (l1 l2 l3 l4 : Option Value) (st : List Value) (σ : ri_S) (x : Nat), ev 43 (49, [some (.ref x), l1, l2, l3, l4], st) σ = ev 43 (50, [some (.ref x), l1, l2, l3, l4], .ref x :: st) σ) ∧
  (∀ (L : ri_L) (st : List Value) (σ : ri_S) (a : Nat), ev 43 (50, L, .ref a :: st) σ = tv_o 3 0 (σ.1 a) fun v => ev 43 (53, L, v :: st) σ) ∧
  (∀ (L : ri_L) (st : List Value) (σ : ri_S) (a : Nat), ev 43 (53, L, .ref a :: st) σ = tv_o 7 6 (σ.1 a) fun v => ev 43 (56, L, v :: st) σ) ∧
  (∀ (l0 l1 l2 l4 : Option Value) (st : List Value) (σ : ri_S) (x : Int32), ev 43 (56, [l0, l1, l2, some (.int x), l4], st) σ = ev 43 (57, [l0, l1, l2, some (.int x), l4], .int x :: st) σ) ∧
  (∀ (l0 l1 l2 l3 : Option Value) (st : List Value) (σ : ri_S) (x : Int32), ev 43 (57, [l0, l1, l2, l3, some (.int x)], st) σ = ev 43 (59, [l0, l1, l2, l3, some (.int x)], .int x :: st) σ) ∧
  (∀ (L : ri_L) (σ : ri_S) (a0 : Int32) (a1 : Int32) (s0 : Value), ev 43 (59, L, [.int a1, .int a0, s0]) σ = (cal 138 [.int a0, .int a1] σ).bind fun q => ev 43 (62, L, q.1.toList ++ [s0]) q.2) ∧
  (∀ (L : ri_L) (st : List Value) (σ : ri_S), ev 43 (62, L, st) σ = ev 43 (63, L, .int 0 :: st) σ) ∧
  (∀ (L : ri_L) (σ : ri_S) (a0 : Nat) (a1 : Int32) (a2 : Int32), ev 43 (63, L, [.int a2, .int a1, .ref a0]) σ = (cal 141 [.ref a0, .int a1, .int a2] σ).bind fun q => ev 43 (66, L, q.1.toList ++ []) q.2) ∧
  (∀ (L : ri_L) (σ : ri_S), ev 43 (66, L, []) σ = some (none, σ)) :=
  ⟨fun l0 l1 l3 l4 st σ x => ev_p ((TP_43 _).trans rfl) rfl,
   fun L st σ => ev_p ((TP_43 _).trans rfl) rfl,
   fun L st σ x y => ev_d ((TP_43 _).trans rfl) rfl,
   fun l0 l1 l2 l3 l4 st σ x => ev_p ((TP_43 _).trans rfl) rfl,
   fun l1 l2 l3 l4 st σ x => ev_p ((TP_43 _).trans rfl) rfl,
   fun L st σ a => ev_getf ((TP_43 _).trans rfl),
   fun l0 l1 l2 l4 st σ x => ev_p ((TP_43 _).trans rfl) rfl,
   fun l0 l1 l3 l4 st σ x => ev_p ((TP_43 _).trans rfl) rfl,
   fun L st σ => ev_p ((TP_43 _).trans rfl) rfl,
   fun L st σ x y => ev_d ((TP_43 _).trans rfl) rfl,
   fun L σ a0 a1 a2 => ev_callv ((TP_43 _).trans rfl) rfl rfl rfl rfl,
   fun l0 l1 l2 l3 l4 st σ x => ev_p ((TP_43 _).trans rfl) rfl,
   fun l1 l2 l3 l4 st σ x => ev_p ((TP_43 _).trans rfl) rfl,
   fun L st σ a => ev_getf ((TP_43 _).trans rfl),
   fun l0 l2 l3 l4 st σ x => ev_p ((TP_43 _).trans rfl) rfl,
   fun l0 l1 l2 l4 st σ x => ev_p ((TP_43 _).trans rfl) rfl,
   fun l0 l1 l2 l3 st σ x => ev_p ((TP_43 _).trans rfl) rfl,
   fun L σ a0 a1 a2 a3 => ev_callv ((TP_43 _).trans rfl) rfl rfl rfl rfl,
   fun l1 l2 l3 l4 st σ x => ev_p ((TP_43 _).trans rfl) rfl,
   fun l0 l2 l3 l4 st σ x => ev_p ((TP_43 _).trans rfl) rfl,
   fun l1 l2 l3 l4 st σ x => ev_p ((TP_43 _).trans rfl) rfl,
   fun L st σ a => ev_getf ((TP_43 _).trans rfl),
   fun L st σ a => ev_getf ((TP_43 _).trans rfl),
   fun l0 l1 l2 l4 st σ x => ev_p ((TP_43 _).trans rfl) rfl,
   fun l0 l1 l2 l3 st σ x => ev_p ((TP_43 _).trans rfl) rfl,
   fun L σ a0 a1 s0 s1 s2 => ev_call ((TP_43 _).trans rfl) rfl rfl rfl rfl,
   fun L σ a0 a1 s0 s1 => ev_call ((TP_43 _).trans rfl) rfl rfl rfl rfl,
   fun L σ a0 a1 a2 => ev_callv ((TP_43 _).trans rfl) rfl rfl rfl rfl,
   fun l1 l2 l3 l4 st σ x => ev_p ((TP_43 _).trans rfl) rfl,
   fun L st σ a => ev_getf ((TP_43 _).trans rfl),
   fun L st σ a => ev_getf ((TP_43 _).trans rfl),
   fun l0 l1 l2 l4 st σ x => ev_p ((TP_43 _).trans rfl) rfl,
   fun l0 l1 l2 l3 st σ x => ev_p ((TP_43 _).trans rfl) rfl,
   fun L σ a0 a1 s0 => ev_call ((TP_43 _).trans rfl) rfl rfl rfl rfl,
   fun L st σ => ev_p ((TP_43 _).trans rfl) rfl,
   fun L σ a0 a1 a2 => ev_call ((TP_43 _).trans rfl) rfl rfl rfl rfl,
   fun L σ => ev_r ((TP_43 _).trans rfl) rfl⟩
theorem TP_44 (pc : Nat) : TT 44 pc = ri_find TL_44 pc := rfl
theorem E_44 (x0 : Nat) (x1 : Int32) (σ : ri_S) : cal 44 [.ref x0, .int x1] σ = ev 44 (0, [some (.ref x0), some (.int x1)], []) σ := rfl
theorem I_44 :
  (∀ (l1 : Option Value) (st : List Value) (σ : ri_S) (x : Nat), ev 44 (0, [some (.ref x), l1], st) σ = ev 44 (1, [some (.ref x), l1], .ref x :: st) σ) ∧
  (∀ (L : ri_L) (st : List Value) (σ : ri_S) (x : Nat), ev 44 (1, L, .ref x :: st) σ = ev 44 (2, L, .ref x :: .ref x :: st) σ) ∧
  (∀ (L : ri_L) (st : List Value) (σ : ri_S) (a : Nat), ev 44 (2, L, .ref a :: st) σ = tv_o 3 3 (σ.1 a) fun v => ev 44 (5, L, v :: st) σ) ∧
  (∀ (L : ri_L) (st : List Value) (σ : ri_S), ev 44 (5, L, st) σ = ev 44 (6, L, .int 1 :: st) σ) ∧
  (∀ (L : ri_L) (st : List Value) (σ : ri_S) (x y : Int32), ev 44 (6, L, .int y :: .int x :: st) σ = ev 44 (7, L, .int (x + y) :: st) σ) ∧
  (∀ (L : ri_L) (st : List Value) (σ : ri_S) (a : Nat) (x : Int32), ev 44 (7, L, .int x :: .ref a :: st) σ = tv_w 3 3 (σ.1 a) (.int x) fun fs => ev 44 (10, L, st) (ri_upd σ.1 a (.inr (.inr (3, fs))), σ.2)) ∧
  (∀ (l1 : Option Value) (st : List Value) (σ : ri_S) (x : Nat), ev 44 (10, [some (.ref x), l1], st) σ = ev 44 (11, [some (.ref x), l1], .ref x :: st) σ) ∧
  (∀ (L : ri_L) (st : List Value) (σ : ri_S) (a : Nat), ev 44 (11, L, .ref a :: st) σ = tv_o 3 2 (σ.1 a) fun v => ev 44 (14, L, v :: st) σ) ∧
  (∀ (L : ri_L) (st : List Value) (σ : ri_S) (a : Nat), ev 44 (14, L, .ref a :: st) σ = tv_o 0 5 (σ.1 a) fun v => ev 44 (17, L, v :: st) σ) ∧
  (∀ (l0 : Option Value) (st : List Value) (σ : ri_S) (x : Int32), ev 44 (17, [l0, some (.int x)], st) σ = ev 44 (18, [l0, some (.int x)], .int x :: st) σ) ∧
  (∀ (l1 : Option Value) (st : List Value) (σ : ri_S) (x : Nat), ev 44 (18, [some (.ref x), l1], st) σ = ev 44 (19, [some (.ref x), l1], .ref x :: st) σ) ∧
  (∀ (L : ri_L) (st : List Value) (σ : ri_S) (a : Nat), ev 44 (19, L, .ref a :: st) σ = tv_o 3 2 (σ.1 a) fun v => ev 44 (22, L, v :: st) σ) ∧
  (∀ (L : ri_L) (st : List Value) (σ : ri_S) (a : Nat), ev 44 (22, L, .ref a :: st) σ = tv_o 0 5 (σ.1 a) fun v => ev 44 (25, L, v :: st) σ) ∧
  (∀ (l0 : Option Value) (st : List Value) (σ : ri_S) (x : Int32), ev 44 (25, [l0, some (.int x)], st) σ = ev 44 (26, [l0, some (.int x)], .int x :: st) σ) ∧
  (∀ (L : ri_L) (σ : ri_S) (a0 : Nat) (a1 : Int32) (s0 s1 : Value), ev 44 (26, L, [.int a1, .ref a0, s0, s1]) σ = (cal 140 [.ref a0, .int a1] σ).bind fun q => ev 44 (29, L, q.1.toList ++ [s0, s1]) q.2) ∧
  (∀ (L : ri_L) (st : List Value) (σ : ri_S), ev 44 (29, L, st) σ = ev 44 (30, L, .int 1 :: st) σ) ∧
  (∀ (L : ri_L) (st : List Value) (σ : ri_S) (x y : Int32), ev 44 (30, L, .int y :: .int x :: st) σ = ev 44 (31, L, .int (x + y) :: st) σ) ∧
  (∀ (L : ri_L) (σ : ri_S) (a0 : Nat) (a1 : Int32) (a2 : Int32), ev 44 (31, L, [.int a2, .int a1, .ref a0]) σ = (cal 141 [.ref a0, .int a1, .int a2] σ).bind fun q => ev 44 (34, L, q.1.toList ++ []) q.2) ∧
  (∀ (l1 : Option Value) (st : List Value) (σ : ri_S) (x : Nat), ev 44 (34, [some (.ref x), l1], st) σ = ev 44 (35, [some (.ref x), l1], .ref x :: st) σ) ∧
  (∀ (l0 : Option Value) (st : List Value) (σ : ri_S) (x : Int32), ev 44 (35, [l0, some (.int x)], st) σ = ev 44 (36, [l0, some (.int x)], .int x :: st) σ) ∧
  (∀ (L : ri_L) (st : List Value) (σ : ri_S) (a : Nat) (x : Int32), ev 44 (36, L, .int x :: .ref a :: st) σ = tv_w 3 7 (σ.1 a) (.int x) fun fs => ev 44 (39, L, st) (ri_upd σ.1 a (.inr (.inr (3, fs))), σ.2)) ∧
  (∀ (l1 : Option Value) (st : List Value) (σ : ri_S) (x : Nat), ev 44 (39, [some (.ref x), l1], st) σ = ev 44 (40, [some (.ref x), l1], .ref x :: st) σ) ∧
  (∀ (L : ri_L) (σ : ri_S) (a0 : Nat), ev 44 (40, L, [.ref a0]) σ = tv_k 3 (σ.1 a0) ((cal 37 [.ref a0] σ).bind fun q => ev 44 (43, L, q.1.toList ++ []) q.2)) ∧
  (∀ (L : ri_L) (σ : ri_S), ev 44 (43, L, []) σ = some (none, σ)) :=
  ⟨fun l1 st σ x => ev_p ((TP_44 _).trans rfl) rfl,
   fun L st σ x => ev_p ((TP_44 _).trans rfl) rfl,
   fun L st σ a => ev_getf ((TP_44 _).trans rfl),
   fun L st σ => ev_p ((TP_44 _).trans rfl) rfl,
   fun L st σ x y => ev_p ((TP_44 _).trans rfl) rfl,
   fun L st σ a x => ev_puti ((TP_44 _).trans rfl),
   fun l1 st σ x => ev_p ((TP_44 _).trans rfl) rfl,
   fun L st σ a => ev_getf ((TP_44 _).trans rfl),
   fun L st σ a => ev_getf ((TP_44 _).trans rfl),
   fun l0 st σ x => ev_p ((TP_44 _).trans rfl) rfl,
   fun l1 st σ x => ev_p ((TP_44 _).trans rfl) rfl,
   fun L st σ a => ev_getf ((TP_44 _).trans rfl),
   fun L st σ a => ev_getf ((TP_44 _).trans rfl),
   fun l0 st σ x => ev_p ((TP_44 _).trans rfl) rfl,
   fun L σ a0 a1 s0 s1 => ev_call ((TP_44 _).trans rfl) rfl rfl rfl rfl,
   fun L st σ => ev_p ((TP_44 _).trans rfl) rfl,
   fun L st σ x y => ev_p ((TP_44 _).trans rfl) rfl,
   fun L σ a0 a1 a2 => ev_call ((TP_44 _).trans rfl) rfl rfl rfl rfl,
   fun l1 st σ x => ev_p ((TP_44 _).trans rfl) rfl,
   fun l0 st σ x => ev_p ((TP_44 _).trans rfl) rfl,
   fun L st σ a x => ev_puti ((TP_44 _).trans rfl),
   fun l1 st σ x => ev_p ((TP_44 _).trans rfl) rfl,
   fun L σ a0 => ev_callv ((TP_44 _).trans rfl) rfl rfl rfl rfl,
   fun L σ => ev_r ((TP_44 _).trans rfl) rfl⟩
theorem TP_45 (pc : Nat) : TT 45 pc = ri_find TL_45 pc := rfl
theorem E_45 (x0 : Nat) (x1 : Int32) (σ : ri_S) : cal 45 [.ref x0, .int x1] σ = ev 45 (0, [some (.ref x0), some (.int x1), none], []) σ := rfl
theorem H_45_2 (l0 l1 : Option Value) (st : List Value) (σ : ri_S) (x : Int32) : ev 45 (2, [l0, l1, some (.int x)], st) σ = ev 45 (3, [l0, l1, some (.int x)], .int x :: st) σ := ev_p ((TP_45 _).trans rfl) rfl
theorem I_45 :
  (∀ (L : ri_L) (st : List Value) (σ : ri_S), ev 45 (0, L, st) σ = ev 45 (1, L, .int 0 :: st) σ) ∧
  (∀ (l0 l1 l2 : Option Value) (st : List Value) (σ : ri_S) (x : Int32), ev 45 (1, [l0, l1, l2], .int x :: st) σ = ev 45 (2, [l0, ri_clr l1, some (.int x)], st) σ) ∧
  (∀ (l1 l2 : Option Value) (st : List Value) (σ : ri_S) (x : Nat), ev 45 (3, [some (.ref x), l1, l2], st) σ = ev 45 (4, [some (.ref x), l1, l2], .ref x :: st) σ) ∧
  (∀ (L : ri_L) (st : List Value) (σ : ri_S) (a : Nat), ev 45 (4, L, .ref a :: st) σ = tv_o 3 1 (σ.1 a) fun v => ev 45 (7, L, v :: st) σ) ∧
  (∀ (L : ri_L) (st : List Value) (σ : ri_S) (a : Nat), ev 45 (7, L, .ref a :: st) σ = tv_o 2 0 (σ.1 a) fun v => ev 45 (10, L, v :: st) σ) ∧
  (∀ (L : ri_L) (st : List Value) (σ : ri_S) (x y : Int32), ev 45 (10, L, .int y :: .int x :: st) σ = if y ≤ x then ev 45 (30, L, st) σ else ev 45 (13, L, st) σ) ∧
  (∀ (l1 l2 : Option Value) (st : List Value) (σ : ri_S) (x : Nat), ev 45 (13, [some (.ref x), l1, l2], st) σ = ev 45 (14, [some (.ref x), l1, l2], .ref x :: st) σ) ∧
  (∀ (l0 l2 : Option Value) (st : List Value) (σ : ri_S) (x : Int32), ev 45 (14, [l0, some (.int x), l2], st) σ = ev 45 (15, [l0, some (.int x), l2], .int x :: st) σ) ∧
  (∀ (l0 l1 : Option Value) (st : List Value) (σ : ri_S) (x : Int32), ev 45 (15, [l0, l1, some (.int x)], st) σ = ev 45 (16, [l0, l1, some (.int x)], .int x :: st) σ) ∧
  (∀ (L : ri_L) (σ : ri_S) (a0 : Nat) (a1 : Int32) (a2 : Int32), ev 45 (16, L, [.int a2, .int a1, .ref a0]) σ = tv_k 3 (σ.1 a0) ((cal 40 [.ref a0, .int a1, .int a2] σ).bind fun q => ev 45 (19, L, q.1.toList ++ []) q.2)) ∧
  (∀ (L : ri_L) (st : List Value) (σ : ri_S) (x : Int32), ev 45 (19, L, .int x :: st) σ = if ¬ x = 0 then ev 45 (24, L, st) σ else ev 45 (22, L, st) σ) ∧
  (∀ (L : ri_L) (st : List Value) (σ : ri_S), ev 45 (22, L, st) σ = ev 45 (23, L, .int 1 :: st) σ) ∧
  (∀ (L : ri_L) (σ : ri_S) (x : Int32), ev 45 (23, L, [.int x]) σ = tv_b x (some (some (.int x), σ))) ∧
  (∀ (l0 l1 : Option Value) (st : List Value) (σ : ri_S) (x : Int32), ev 45 (24, [l0, l1, some (.int x)], st) σ = ev 45 (27, [l0, ri_clr l1, some (.int (x + 1))], st) σ) ∧
  (∀ (L : ri_L) (st : List Value) (σ : ri_S), ev 45 (27, L, st) σ = ev 45 (2, L, st) σ) ∧
  (∀ (L : ri_L) (st : List Value) (σ : ri_S), ev 45 (30, L, st) σ = ev 45 (31, L, .int 0 :: st) σ) ∧
  (∀ (L : ri_L) (σ : ri_S) (x : Int32), ev 45 (31, L, [.int x]) σ = tv_b x (some (some (.int x), σ))) :=
  ⟨fun L st σ => ev_p ((TP_45 _).trans rfl) rfl,
   fun l0 l1 l2 st σ x => ev_p ((TP_45 _).trans rfl) rfl,
   fun l1 l2 st σ x => ev_p ((TP_45 _).trans rfl) rfl,
   fun L st σ a => ev_getf ((TP_45 _).trans rfl),
   fun L st σ a => ev_getf ((TP_45 _).trans rfl),
   fun L st σ x y => ev_b ((TP_45 _).trans rfl) rfl,
   fun l1 l2 st σ x => ev_p ((TP_45 _).trans rfl) rfl,
   fun l0 l2 st σ x => ev_p ((TP_45 _).trans rfl) rfl,
   fun l0 l1 st σ x => ev_p ((TP_45 _).trans rfl) rfl,
   fun L σ a0 a1 a2 => ev_callv ((TP_45 _).trans rfl) rfl rfl rfl rfl,
   fun L st σ x => ev_b ((TP_45 _).trans rfl) rfl,
   fun L st σ => ev_p ((TP_45 _).trans rfl) rfl,
   fun L σ x => ev_r ((TP_45 _).trans rfl) rfl,
   fun l0 l1 st σ x => ev_p ((TP_45 _).trans rfl) rfl,
   fun L st σ => ev_p ((TP_45 _).trans rfl) rfl,
   fun L st σ => ev_p ((TP_45 _).trans rfl) rfl,
   fun L σ x => ev_r ((TP_45 _).trans rfl) rfl⟩
theorem TP_46 (pc : Nat) : TT 46 pc = ri_find TL_46 pc := rfl
theorem E_46 (x0 : Nat) (σ : ri_S) : cal 46 [.ref x0] σ = ev 46 (0, [some (.ref x0), none, none], []) σ := rfl
theorem H_46_4 (l0 l1 : Option Value) (st : List Value) (σ : ri_S) (x : Int32) : ev 46 (4, [l0, l1, some (.int x)], st) σ = ev 46 (5, [l0, l1, some (.int x)], .int x :: st) σ := ev_p ((TP_46 _).trans rfl) rfl
theorem I_46 :
  (∀ (L : ri_L) (st : List Value) (σ : ri_S), ev 46 (0, L, st) σ = ev 46 (1, L, .int 0 :: st) σ) ∧
  (∀ (l0 l1 l2 : Option Value) (st : List Value) (σ : ri_S) (x : Int32), ev 46 (1, [l0, l1, l2], .int x :: st) σ = ev 46 (2, [ri_clr l0, some (.int x), l2], st) σ) ∧
  (∀ (L : ri_L) (st : List Value) (σ : ri_S), ev 46 (2, L, st) σ = ev 46 (3, L, .int 0 :: st) σ) ∧
  (∀ (l0 l1 l2 : Option Value) (st : List Value) (σ : ri_S) (x : Int32), ev 46 (3, [l0, l1, l2], .int x :: st) σ = ev 46 (4, [l0, ri_clr l1, some (.int x)], st) σ) ∧
  (∀ (l1 l2 : Option Value) (st : List Value) (σ : ri_S) (x : Nat), ev 46 (5, [some (.ref x), l1, l2], st) σ = ev 46 (6, [some (.ref x), l1, l2], .ref x :: st) σ) ∧
  (∀ (L : ri_L) (st : List Value) (σ : ri_S) (a : Nat), ev 46 (6, L, .ref a :: st) σ = tv_o 3 2 (σ.1 a) fun v => ev 46 (9, L, v :: st) σ) ∧
  (∀ (L : ri_L) (st : List Value) (σ : ri_S) (a : Nat), ev 46 (9, L, .ref a :: st) σ = tv_o 0 0 (σ.1 a) fun v => ev 46 (12, L, v :: st) σ) ∧
  (∀ (L : ri_L) (st : List Value) (σ : ri_S) (x y : Int32), ev 46 (12, L, .int y :: .int x :: st) σ = if y ≤ x then ev 46 (32, L, st) σ else ev 46 (15, L, st) σ) ∧
  (∀ (l1 l2 : Option Value) (st : List Value) (σ : ri_S) (x : Nat), ev 46 (15, [some (.ref x), l1, l2], st) σ = ev 46 (16, [some (.ref x), l1, l2], .ref x :: st) σ) ∧
  (∀ (l0 l1 : Option Value) (st : List Value) (σ : ri_S) (x : Int32), ev 46 (16, [l0, l1, some (.int x)], st) σ = ev 46 (17, [l0, l1, some (.int x)], .int x :: st) σ) ∧
  (∀ (L : ri_L) (σ : ri_S) (a0 : Nat) (a1 : Int32), ev 46 (17, L, [.int a1, .ref a0]) σ = tv_k 3 (σ.1 a0) ((cal 45 [.ref a0, .int a1] σ).bind fun q => ev 46 (20, L, q.1.toList ++ []) q.2)) ∧
  (∀ (L : ri_L) (st : List Value) (σ : ri_S) (x : Int32), ev 46 (20, L, .int x :: st) σ = if x = 0 then ev 46 (26, L, st) σ else ev 46 (23, L, st) σ) ∧
  (∀ (l0 l2 : Option Value) (st : List Value) (σ : ri_S) (x : Int32), ev 46 (23, [l0, some (.int x), l2], st) σ = ev 46 (26, [ri_clr l0, some (.int (x + 1)), l2], st) σ) ∧
  (∀ (l0 l1 : Option Value) (st : List Value) (σ : ri_S) (x : Int32), ev 46 (26, [l0, l1, some (.int x)], st) σ = ev 46 (29, [l0, ri_clr l1, some (.int (x + 1))], st) σ) ∧
  (∀ (L : ri_L) (st : List Value) (σ : ri_S), ev 46 (29, L, st) σ = ev 46 (4, L, st) σ) ∧
  (∀ (l0 l2 : Option Value) (st : List Value) (σ : ri_S) (x : Int32), ev 46 (32, [l0, some (.int x), l2], st) σ = ev 46 (33, [l0, some (.int x), l2], .int x :: st) σ) ∧
  (∀ (L : ri_L) (σ : ri_S) (x : Int32), ev 46 (33, L, [.int x]) σ = some (some (.int x), σ)) :=
  ⟨fun L st σ => ev_p ((TP_46 _).trans rfl) rfl,
   fun l0 l1 l2 st σ x => ev_p ((TP_46 _).trans rfl) rfl,
   fun L st σ => ev_p ((TP_46 _).trans rfl) rfl,
   fun l0 l1 l2 st σ x => ev_p ((TP_46 _).trans rfl) rfl,
   fun l1 l2 st σ x => ev_p ((TP_46 _).trans rfl) rfl,
   fun L st σ a => ev_getf ((TP_46 _).trans rfl),
   fun L st σ a => ev_getf ((TP_46 _).trans rfl),
   fun L st σ x y => ev_b ((TP_46 _).trans rfl) rfl,
   fun l1 l2 st σ x => ev_p ((TP_46 _).trans rfl) rfl,
   fun l0 l1 st σ x => ev_p ((TP_46 _).trans rfl) rfl,
   fun L σ a0 a1 => ev_callv ((TP_46 _).trans rfl) rfl rfl rfl rfl,
   fun L st σ x => ev_b ((TP_46 _).trans rfl) rfl,
   fun l0 l2 st σ x => ev_p ((TP_46 _).trans rfl) rfl,
   fun l0 l1 st σ x => ev_p ((TP_46 _).trans rfl) rfl,
   fun L st σ => ev_p ((TP_46 _).trans rfl) rfl,
   fun l0 l2 st σ x => ev_p ((TP_46 _).trans rfl) rfl,
   fun L σ x => ev_r ((TP_46 _).trans rfl) rfl⟩
theorem TP_47 (pc : Nat) : TT 47 pc = ri_find TL_47 pc := rfl
theorem E_47 (x0 : Nat) (x1 : Int32) (σ : ri_S) : cal 47 [.ref x0, .int x1] σ = ev 47 (0, [some (.ref x0), some (.int x1)], []) σ := rfl
theorem I_47 :
  (∀ (l0 : Option Value) (st : List Value) (σ : ri_S) (x : Int32), ev 47 (0, [l0, some (.int x)], st) σ = ev 47 (1, [l0, some (.int x)], .int x :: st) σ) ∧
  (∀ (L : ri_L) (st : List Value) (σ : ri_S) (x : Int32), ev 47 (1, L, .int x :: st) σ = if x = 0 then ev 47 (56, L, st) σ else if x = 1 then ev 47 (64, L, st) σ else if x = 2 then ev 47 (72, L, st) σ else if x = 3 then ev 47 (80, L, st) σ else if x = 4 then ev 47 (85, L, st) σ else if x = 5 then ev 47 (93, L, st) σ else if x = 6 then ev 47 (98, L, st) σ else if x = 7 then ev 47 (103, L, st) σ else if x = 8 then ev 47 (108, L, st) σ else if x = 9 then ev 47 (113, L, st) σ else ev 47 (118, L, st) σ) ∧
  (∀ (l1 : Option Value) (st : List Value) (σ : ri_S) (x : Nat), ev 47 (56, [some (.ref x), l1], st) σ = ev 47 (57, [some (.ref x), l1], .ref x :: st) σ) ∧
  (∀ (L : ri_L) (st : List Value) (σ : ri_S) (a : Nat), ev 47 (57, L, .ref a :: st) σ = tv_o 3 0 (σ.1 a) fun v => ev 47 (60, L, v :: st) σ) ∧
  (∀ (L : ri_L) (st : List Value) (σ : ri_S) (a : Nat), ev 47 (60, L, .ref a :: st) σ = tv_o 7 0 (σ.1 a) fun v => ev 47 (63, L, v :: st) σ) ∧
  (∀ (L : ri_L) (σ : ri_S) (x : Int32), ev 47 (63, L, [.int x]) σ = some (some (.int x), σ)) ∧
  (∀ (l1 : Option Value) (st : List Value) (σ : ri_S) (x : Nat), ev 47 (64, [some (.ref x), l1], st) σ = ev 47 (65, [some (.ref x), l1], .ref x :: st) σ) ∧
  (∀ (L : ri_L) (st : List Value) (σ : ri_S) (a : Nat), ev 47 (65, L, .ref a :: st) σ = tv_o 3 1 (σ.1 a) fun v => ev 47 (68, L, v :: st) σ) ∧
  (∀ (L : ri_L) (st : List Value) (σ : ri_S) (a : Nat), ev 47 (68, L, .ref a :: st) σ = tv_o 2 0 (σ.1 a) fun v => ev 47 (71, L, v :: st) σ) ∧
  (∀ (L : ri_L) (σ : ri_S) (x : Int32), ev 47 (71, L, [.int x]) σ = some (some (.int x), σ)) ∧
  (∀ (l1 : Option Value) (st : List Value) (σ : ri_S) (x : Nat), ev 47 (72, [some (.ref x), l1], st) σ = ev 47 (73, [some (.ref x), l1], .ref x :: st) σ) ∧
  (∀ (L : ri_L) (st : List Value) (σ : ri_S) (a : Nat), ev 47 (73, L, .ref a :: st) σ = tv_o 3 2 (σ.1 a) fun v => ev 47 (76, L, v :: st) σ) ∧
  (∀ (L : ri_L) (st : List Value) (σ : ri_S) (a : Nat), ev 47 (76, L, .ref a :: st) σ = tv_o 0 0 (σ.1 a) fun v => ev 47 (79, L, v :: st) σ) ∧
  (∀ (L : ri_L) (σ : ri_S) (x : Int32), ev 47 (79, L, [.int x]) σ = some (some (.int x), σ)) ∧
  (∀ (l1 : Option Value) (st : List Value) (σ : ri_S) (x : Nat), ev 47 (80, [some (.ref x), l1], st) σ = ev 47 (81, [some (.ref x), l1], .ref x :: st) σ) ∧
  (∀ (L : ri_L) (st : List Value) (σ : ri_S) (a : Nat), ev 47 (81, L, .ref a :: st) σ = tv_o 3 3 (σ.1 a) fun v => ev 47 (84, L, v :: st) σ) ∧
  (∀ (L : ri_L) (σ : ri_S) (x : Int32), ev 47 (84, L, [.int x]) σ = some (some (.int x), σ)) ∧
  (∀ (l1 : Option Value) (st : List Value) (σ : ri_S) (x : Nat), ev 47 (85, [some (.ref x), l1], st) σ = ev 47 (86, [some (.ref x), l1], .ref x :: st) σ) ∧
  (∀ (L : ri_L) (st : List Value) (σ : ri_S) (a : Nat), ev 47 (86, L, .ref a :: st) σ = tv_o 3 0 (σ.1 a) fun v => ev 47 (89, L, v :: st) σ) ∧
  (∀ (L : ri_L) (σ : ri_S) (a0 : Nat), ev 47 (89, L, [.ref a0]) σ = tv_k 7 (σ.1 a0) ((cal 106 [.ref a0] σ).bind fun q => ev 47 (92, L, q.1.toList ++ []) q.2)) ∧
  (∀ (L : ri_L) (σ : ri_S) (x : Int32), ev 47 (92, L, [.int x]) σ = some (some (.int x), σ)) ∧
  (∀ (l1 : Option Value) (st : List Value) (σ : ri_S) (x : Nat), ev 47 (93, [some (.ref x), l1], st) σ = ev 47 (94, [some (.ref x), l1], .ref x :: st) σ) ∧
  (∀ (L : ri_L) (st : List Value) (σ : ri_S) (a : Nat), ev 47 (94, L, .ref a :: st) σ = tv_o 3 4 (σ.1 a) fun v => ev 47 (97, L, v :: st) σ) ∧
  (∀ (L : ri_L) (σ : ri_S) (x : Int32), ev 47 (97, L, [.int x]) σ = some (some (.int x), σ)) ∧
  (∀ (l1 : Option Value) (st : List Value) (σ : ri_S) (x : Nat), ev 47 (98, [some (.ref x), l1], st) σ = ev 47 (99, [some (.ref x), l1], .ref x :: st) σ) ∧
  (∀ (L : ri_L) (st : List Value) (σ : ri_S) (a : Nat), ev 47 (99, L, .ref a :: st) σ = tv_o 3 5 (σ.1 a) fun v => ev 47 (102, L, v :: st) σ) ∧
  (∀ (L : ri_L) (σ : ri_S) (x : Int32), ev 47 (102, L, [.int x]) σ = some (some (.int x), σ)) ∧
  (∀ (l1 : Option Value) (st : List Value) (σ : ri_S) (x : Nat), ev 47 (103, [some (.ref x), l1], st) σ = ev 47 (104, [some (.ref x), l1], .ref x :: st) σ) ∧
  (∀ (L : ri_L) (st : List Value) (σ : ri_S) (a : Nat), ev 47 (104, L, .ref a :: st) σ = tv_o 3 6 (σ.1 a) fun v => ev 47 (107, L, v :: st) σ) ∧
  (∀ (L : ri_L) (σ : ri_S) (x : Int32), ev 47 (107, L, [.int x]) σ = some (some (.int x), σ)) ∧
  (∀ (l1 : Option Value) (st : List Value) (σ : ri_S) (x : Nat), ev 47 (108, [some (.ref x), l1], st) σ = ev 47 (109, [some (.ref x), l1], .ref x :: st) σ) ∧
  (∀ (L : ri_L) (st : List Value) (σ : ri_S) (a : Nat), ev 47 (109, L, .ref a :: st) σ = tv_o 3 7 (σ.1 a) fun v => ev 47 (112, L, v :: st) σ) ∧
  (∀ (L : ri_L) (σ : ri_S) (x : Int32), ev 47 (112, L, [.int x]) σ = some (some (.int x), σ)) ∧
  (∀ (l1 : Option Value) (st : List Value) (σ : ri_S) (x : Nat), ev 47 (113, [some (.ref x), l1], st) σ = ev 47 (114, [some (.ref x), l1], .ref x :: st) σ) ∧
  (∀ (L : ri_L) (st : List Value) (σ : ri_S) (a : Nat), ev 47 (114, L, .ref a :: st) σ = tv_o 3 8 (σ.1 a) fun v => ev 47 (117, L, v :: st) σ) ∧
  (∀ (L : ri_L) (σ : ri_S) (x : Int32), ev 47 (117, L, [.int x]) σ = some (some (.int x), σ)) ∧
  (∀ (l1 : Option Value) (st : List Value) (σ : ri_S) (x : Nat), ev 47 (118, [some (.ref x), l1], st) σ = ev 47 (119, [some (.ref x), l1], .ref x :: st) σ) ∧
  (∀ (L : ri_L) (σ : ri_S) (a0 : Nat), ev 47 (119, L, [.ref a0]) σ = tv_k 3 (σ.1 a0) ((cal 46 [.ref a0] σ).bind fun q => ev 47 (122, L, q.1.toList ++ []) q.2)) ∧
  (∀ (L : ri_L) (σ : ri_S) (x : Int32), ev 47 (122, L, [.int x]) σ = some (some (.int x), σ)) :=
  ⟨fun l0 st σ x => ev_p ((TP_47 _).trans rfl) rfl,
   fun L st σ x => (ev_sw (lo := 0) (ts := [56, 64, 72, 80, 85, 93, 98, 103, 108, 113]) (d := 118) ((TP_47 _).trans rfl)).trans (by simp only [ev_tab, ev_tab0, show (0 : Int32) + 1 = 1 from rfl, show (1 : Int32) + 1 = 2 from rfl, show (2 : Int32) + 1 = 3 from rfl, show (3 : Int32) + 1 = 4 from rfl, show (4 : Int32) + 1 = 5 from rfl, show (5 : Int32) + 1 = 6 from rfl, show (6 : Int32) + 1 = 7 from rfl, show (7 : Int32) + 1 = 8 from rfl, show (8 : Int32) + 1 = 9 from rfl, show (9 : Int32) + 1 = 10 from rfl]),
   fun l1 st σ x => ev_p ((TP_47 _).trans rfl) rfl,
   fun L st σ a => ev_getf ((TP_47 _).trans rfl),
   fun L st σ a => ev_getf ((TP_47 _).trans rfl),
   fun L σ x => ev_r ((TP_47 _).trans rfl) rfl,
   fun l1 st σ x => ev_p ((TP_47 _).trans rfl) rfl,
   fun L st σ a => ev_getf ((TP_47 _).trans rfl),
   fun L st σ a => ev_getf ((TP_47 _).trans rfl),
   fun L σ x => ev_r ((TP_47 _).trans rfl) rfl,
   fun l1 st σ x => ev_p ((TP_47 _).trans rfl) rfl,
   fun L st σ a => ev_getf ((TP_47 _).trans rfl),
   fun L st σ a => ev_getf ((TP_47 _).trans rfl),
   fun L σ x => ev_r ((TP_47 _).trans rfl) rfl,
   fun l1 st σ x => ev_p ((TP_47 _).trans rfl) rfl,
   fun L st σ a => ev_getf ((TP_47 _).trans rfl),
   fun L σ x => ev_r ((TP_47 _).trans rfl) rfl,
   fun l1 st σ x => ev_p ((TP_47 _).trans rfl) rfl,
   fun L st σ a => ev_getf ((TP_47 _).trans rfl),
   fun L σ a0 => ev_callv ((TP_47 _).trans rfl) rfl rfl rfl rfl,
   fun L σ x => ev_r ((TP_47 _).trans rfl) rfl,
   fun l1 st σ x => ev_p ((TP_47 _).trans rfl) rfl,
   fun L st σ a => ev_getf ((TP_47 _).trans rfl),
   fun L σ x => ev_r ((TP_47 _).trans rfl) rfl,
   fun l1 st σ x => ev_p ((TP_47 _).trans rfl) rfl,
   fun L st σ a => ev_getf ((TP_47 _).trans rfl),
   fun L σ x => ev_r ((TP_47 _).trans rfl) rfl,
   fun l1 st σ x => ev_p ((TP_47 _).trans rfl) rfl,
   fun L st σ a => ev_getf ((TP_47 _).trans rfl),
   fun L σ x => ev_r ((TP_47 _).trans rfl) rfl,
   fun l1 st σ x => ev_p ((TP_47 _).trans rfl) rfl,
   fun L st σ a => ev_getf ((TP_47 _).trans rfl),
   fun L σ x => ev_r ((TP_47 _).trans rfl) rfl,
   fun l1 st σ x => ev_p ((TP_47 _).trans rfl) rfl,
   fun L st σ a => ev_getf ((TP_47 _).trans rfl),
   fun L σ x => ev_r ((TP_47 _).trans rfl) rfl,
   fun l1 st σ x => ev_p ((TP_47 _).trans rfl) rfl,
   fun L σ a0 => ev_callv ((TP_47 _).trans rfl) rfl rfl rfl rfl,
   fun L σ x => ev_r ((TP_47 _).trans rfl) rfl⟩
theorem TP_48 (pc : Nat) : TT 48 pc = ri_find TL_48 pc := rfl
theorem E_48 (x0 : Nat) (x1 : Int32) (x2 : Int32) (σ : ri_S) : cal 48 [.ref x0, .int x1, .int x2] σ = ev 48 (0, [some (.ref x0), some (.int x1), some (.int x2)], []) σ := rfl
theorem I_48_0 :
  (∀ (l0 l1 : Option Value) (st : List Value) (σ : ri_S) (x : Int32), ev 48 (0, [l0, l1, some (.int x)], st) σ = ev 48 (1, [l0, l1, some (.int x)], .int x :: st) σ) ∧
  (∀ (L : ri_L) (st : List Value) (σ : ri_S) (x : Int32), ev 48 (1, L, .int x :: st) σ = if x = 0 then ev 48 (44, L, st) σ else if x = 1 then ev 48 (56, L, st) σ else if x = 2 then ev 48 (68, L, st) σ else if x = 3 then ev 48 (80, L, st) σ else if x = 4 then ev 48 (92, L, st) σ else if x = 5 then ev 48 (102, L, st) σ else if x = 6 then ev 48 (111, L, st) σ else ev 48 (120, L, st) σ) ∧
  (∀ (l1 l2 : Option Value) (st : List Value) (σ : ri_S) (x : Nat), ev 48 (44, [some (.ref x), l1, l2], st) σ = ev 48 (45, [some (.ref x), l1, l2], .ref x :: st) σ) ∧
  (∀ (L : ri_L) (st : List Value) (σ : ri_S) (a : Nat), ev 48 (45, L, .ref a :: st) σ = tv_o 3 0 (σ.1 a) fun v => ev 48 (48, L, v :: st) σ) ∧
  (∀ (L : ri_L) (st : List Value) (σ : ri_S) (a : Nat), ev 48 (48, L, .ref a :: st) σ = tv_o 7 1 (σ.1 a) fun v => ev 48 (51, L, v :: st) σ) ∧
  (∀ (l0 l2 : Option Value) (st : List Value) (σ : ri_S) (x : Int32), ev 48 (51, [l0, some (.int x), l2], st) σ = ev 48 (52, [l0, some (.int x), l2], .int x :: st) σ) ∧
  (∀ (L : ri_L) (σ : ri_S) (a0 : Nat) (a1 : Int32), ev 48 (52, L, [.int a1, .ref a0]) σ = (cal 140 [.ref a0, .int a1] σ).bind fun q => ev 48 (55, L, q.1.toList ++ []) q.2) ∧
  (∀ (L : ri_L) (σ : ri_S) (x : Int32), ev 48 (55, L, [.int x]) σ = some (some (.int x), σ)) ∧
  (∀ (l1 l2 : Option Value) (st : List Value) (σ : ri_S) (x : Nat), ev 48 (56, [some (.ref x), l1, l2], st) σ = ev 48 (57, [some (.ref x), l1, l2], .ref x :: st) σ) ∧
  (∀ (L : ri_L) (st : List Value) (σ : ri_S) (a : Nat), ev 48 (57, L, .ref a :: st) σ = tv_o 3 0 (σ.1 a) fun v => ev 48 (60, L, v :: st) σ) ∧
  (∀ (L : ri_L) (st : List Value) (σ : ri_S) (a : Nat), ev 48 (60, L, .ref a :: st) σ = tv_o 7 2 (σ.1 a) fun v => ev 48 (63, L, v :: st) σ) ∧
  (∀ (l0 l2 : Option Value) (st : List Value) (σ : ri_S) (x : Int32), ev 48 (63, [l0, some (.int x), l2], st) σ = ev 48 (64, [l0, some (.int x), l2], .int x :: st) σ) ∧
  (∀ (L : ri_L) (σ : ri_S) (a0 : Nat) (a1 : Int32), ev 48 (64, L, [.int a1, .ref a0]) σ = (cal 140 [.ref a0, .int a1] σ).bind fun q => ev 48 (67, L, q.1.toList ++ []) q.2) ∧
  (∀ (L : ri_L) (σ : ri_S) (x : Int32), ev 48 (67, L, [.int x]) σ = some (some (.int x), σ)) ∧
  (∀ (l1 l2 : Option Value) (st : List Value) (σ : ri_S) (x : Nat), ev 48 (68, [some (.ref x), l1, l2], st) σ = ev 48 (69, [some (.ref x), l1, l2], .ref x :: st) σ) ∧
  (∀ (L : ri_L) (st : List Value) (σ : ri_S) (a : Nat), ev 48 (69, L, .ref a :: st) σ = tv_o 3 0 (σ.1 a) fun v => ev 48 (72, L, v :: st) σ) ∧
  (∀ (L : ri_L) (st : List Value) (σ : ri_S) (a : Nat), ev 48 (72, L, .ref a :: st) σ = tv_o 7 3 (σ.1 a) fun v => ev 48 (75, L, v :: st) σ) ∧
  (∀ (l0 l2 : Option Value) (st : List Value) (σ : ri_S) (x : Int32), ev 48 (75, [l0, some (.int x), l2], st) σ = ev 48 (76, [l0, some (.int x), l2], .int x :: st) σ) ∧
  (∀ (L : ri_L) (σ : ri_S) (a0 : Nat) (a1 : Int32), ev 48 (76, L, [.int a1, .ref a0]) σ = (cal 140 [.ref a0, .int a1] σ).bind fun q => ev 48 (79, L, q.1.toList ++ []) q.2) ∧
  (∀ (L : ri_L) (σ : ri_S) (x : Int32), ev 48 (79, L, [.int x]) σ = some (some (.int x), σ)) ∧
  (∀ (l1 l2 : Option Value) (st : List Value) (σ : ri_S) (x : Nat), ev 48 (80, [some (.ref x), l1, l2], st) σ = ev 48 (81, [some (.ref x), l1, l2], .ref x :: st) σ) ∧
  (∀ (L : ri_L) (st : List Value) (σ : ri_S) (a : Nat), ev 48 (81, L, .ref a :: st) σ = tv_o 3 0 (σ.1 a) fun v => ev 48 (84, L, v :: st) σ) ∧
  (∀ (L : ri_L) (st : List Value) (σ : ri_S) (a : Nat), ev 48 (84, L, .ref a :: st) σ = tv_o 7 4 (σ.1 a) fun v => ev 48 (87, L, v :: st) σ) ∧
  (∀ (l0 l2 : Option Value) (st : List Value) (σ : ri_S) (x : Int32), ev 48 (87, [l0, some (.int x), l2], st) σ = ev 48 (88, [l0, some (.int x), l2], .int x :: st) σ) ∧
  (∀ (L : ri_L) (σ : ri_S) (a0 : Nat) (a1 : Int32), ev 48 (88, L, [.int a1, .ref a0]) σ = (cal 140 [.ref a0, .int a1] σ).bind fun q => ev 48 (91, L, q.1.toList ++ []) q.2) ∧
  (∀ (L : ri_L) (σ : ri_S) (x : Int32), ev 48 (91, L, [.int x]) σ = some (some (.int x), σ)) ∧
  (∀ (l1 l2 : Option Value) (st : List Value) (σ : ri_S) (x : Nat), ev 48 (92, [some (.ref x), l1, l2], st) σ = ev 48 (93, [some (.ref x), l1, l2], .ref x :: st) σ) ∧
  (∀ (L : ri_L) (st : List Value) (σ : ri_S) (a : Nat), ev 48 (93, L, .ref a :: st) σ = tv_o 3 2 (σ.1 a) fun v => ev 48 (96, L, v :: st) σ) ∧
  (∀ (l0 l2 : Option Value) (st : List Value) (σ : ri_S) (x : Int32), ev 48 (96, [l0, some (.int x), l2], st) σ = ev 48 (97, [l0, some (.int x), l2], .int x :: st) σ) ∧
  (∀ (L : ri_L) (st : List Value) (σ : ri_S), ev 48 (97, L, st) σ = ev 48 (98, L, .int (-1) :: st) σ) ∧
  (∀ (L : ri_L) (σ : ri_S) (a0 : Nat) (a1 : Int32) (a2 : Int32), ev 48 (98, L, [.int a2, .int a1, .ref a0]) σ = tv_k 0 (σ.1 a0) ((cal 5 [.ref a0, .int a1, .int a2] σ).bind fun q => ev 48 (101, L, q.1.toList ++ []) q.2)) ∧
  (∀ (L : ri_L) (σ : ri_S) (x : Int32), ev 48 (101, L, [.int x]) σ = some (some (.int x), σ)) ∧
  (∀ (l1 l2 : Option Value) (st : List Value) (σ : ri_S) (x : Nat), ev 48 (102, [some (.ref x), l1, l2], st) σ = ev 48 (103, [some (.ref x), l1, l2], .ref x :: st) σ) ∧
  (∀ (L : ri_L) (st : List Value) (σ : ri_S) (a : Nat), ev 48 (103, L, .ref a :: st) σ = tv_o 3 0 (σ.1 a) fun v => ev 48 (106, L, v :: st) σ) ∧
  (∀ (l0 l2 : Option Value) (st : List Value) (σ : ri_S) (x : Int32), ev 48 (106, [l0, some (.int x), l2], st) σ = ev 48 (107, [l0, some (.int x), l2], .int x :: st) σ) ∧
  (∀ (L : ri_L) (σ : ri_S) (a0 : Nat) (a1 : Int32), ev 48 (107, L, [.int a1, .ref a0]) σ = tv_k 7 (σ.1 a0) ((cal 105 [.ref a0, .int a1] σ).bind fun q => ev 48 (110, L, q.1.toList ++ []) q.2)) ∧
  (∀ (L : ri_L) (σ : ri_S) (x : Int32), ev 48 (110, L, [.int x]) σ = some (some (.int x), σ)) ∧
  (∀ (l1 l2 : Option Value) (st : List Value) (σ : ri_S) (x : Nat), ev 48 (111, [some (.ref x), l1, l2], st) σ = ev 48 (112, [some (.ref x), l1, l2], .ref x :: st) σ) ∧
  (∀ (L : ri_L) (st : List Value) (σ : ri_S) (a : Nat), ev 48 (112, L, .ref a :: st) σ = tv_o 3 0 (σ.1 a) fun v => ev 48 (115, L, v :: st) σ) ∧
  (∀ (l0 l2 : Option Value) (st : List Value) (σ : ri_S) (x : Int32), ev 48 (115, [l0, some (.int x), l2], st) σ = ev 48 (116, [l0, some (.int x), l2], .int x :: st) σ) :=
  ⟨fun l0 l1 st σ x => ev_p ((TP_48 _).trans rfl) rfl,
   fun L st σ x => (ev_sw (lo := 0) (ts := [44, 56, 68, 80, 92, 102, 111]) (d := 120) ((TP_48 _).trans rfl)).trans (by simp only [ev_tab, ev_tab0, show (0 : Int32) + 1 = 1 from rfl, show (1 : Int32) + 1 = 2 from rfl, show (2 : Int32) + 1 = 3 from rfl, show (3 : Int32) + 1 = 4 from rfl, show (4 : Int32) + 1 = 5 from rfl, show (5 : Int32) + 1 = 6 from rfl, show (6 : Int32) + 1 = 7 from rfl]),
   fun l1 l2 st σ x => ev_p ((TP_48 _).trans rfl) rfl,
   fun L st σ a => ev_getf ((TP_48 _).trans rfl),
   fun L st σ a => ev_getf ((TP_48 _).trans rfl),
   fun l0 l2 st σ x => ev_p ((TP_48 _).trans rfl) rfl,
   fun L σ a0 a1 => ev_call ((TP_48 _).trans rfl) rfl rfl rfl rfl,
   fun L σ x => ev_r ((TP_48 _).trans rfl) rfl,
   fun l1 l2 st σ x => ev_p ((TP_48 _).trans rfl) rfl,
   fun L st σ a => ev_getf ((TP_48 _).trans rfl),
   fun L st σ a => ev_getf ((TP_48 _).trans rfl),
   fun l0 l2 st σ x => ev_p ((TP_48 _).trans rfl) rfl,
   fun L σ a0 a1 => ev_call ((TP_48 _).trans rfl) rfl rfl rfl rfl,
   fun L σ x => ev_r ((TP_48 _).trans rfl) rfl,
   fun l1 l2 st σ x => ev_p ((TP_48 _).trans rfl) rfl,
   fun L st σ a => ev_getf ((TP_48 _).trans rfl),
   fun L st σ a => ev_getf ((TP_48 _).trans rfl),
   fun l0 l2 st σ x => ev_p ((TP_48 _).trans rfl) rfl,
   fun L σ a0 a1 => ev_call ((TP_48 _).trans rfl) rfl rfl rfl rfl,
   fun L σ x => ev_r ((TP_48 _).trans rfl) rfl,
   fun l1 l2 st σ x => ev_p ((TP_48 _).trans rfl) rfl,
   fun L st σ a => ev_getf ((TP_48 _).trans rfl),
   fun L st σ a => ev_getf ((TP_48 _).trans rfl),
   fun l0 l2 st σ x => ev_p ((TP_48 _).trans rfl) rfl,
   fun L σ a0 a1 => ev_call ((TP_48 _).trans rfl) rfl rfl rfl rfl,
   fun L σ x => ev_r ((TP_48 _).trans rfl) rfl,
   fun l1 l2 st σ x => ev_p ((TP_48 _).trans rfl) rfl,
   fun L st σ a => ev_getf ((TP_48 _).trans rfl),
   fun l0 l2 st σ x => ev_p ((TP_48 _).trans rfl) rfl,
   fun L st σ => ev_p ((TP_48 _).trans rfl) rfl,
   fun L σ a0 a1 a2 => ev_callv ((TP_48 _).trans rfl) rfl rfl rfl rfl,
   fun L σ x => ev_r ((TP_48 _).trans rfl) rfl,
   fun l1 l2 st σ x => ev_p ((TP_48 _).trans rfl) rfl,
   fun L st σ a => ev_getf ((TP_48 _).trans rfl),
   fun l0 l2 st σ x => ev_p ((TP_48 _).trans rfl) rfl,
   fun L σ a0 a1 => ev_callv ((TP_48 _).trans rfl) rfl rfl rfl rfl,
   fun L σ x => ev_r ((TP_48 _).trans rfl) rfl,
   fun l1 l2 st σ x => ev_p ((TP_48 _).trans rfl) rfl,
   fun L st σ a => ev_getf ((TP_48 _).trans rfl),
   fun l0 l2 st σ x => ev_p ((TP_48 _).trans rfl) rfl⟩
theorem I_48_1 :
  (∀ (L : ri_L) (σ : ri_S) (a0 : Nat) (a1 : Int32), ev 48 (116, L, [.int a1, .ref a0]) σ = tv_k 7 (σ.1 a0) ((cal 104 [.ref a0, .int a1] σ).bind fun q => ev 48 (119, L, q.1.toList ++ []) q.2)) ∧
  (∀ (L : ri_L) (σ : ri_S) (x : Int32), ev 48 (119, L, [.int x]) σ = some (some (.int x), σ)) ∧
  (∀ (l1 l2 : Option Value) (st : List Value) (σ : ri_S) (x : Nat), ev 48 (120, [some (.ref x), l1, l2], st) σ = ev 48 (121, [some (.ref x), l1, l2], .ref x :: st) σ) ∧
  (∀ (L : ri_L) (st : List Value) (σ : ri_S) (a : Nat), ev 48 (121, L, .ref a :: st) σ = tv_o 3 0 (σ.1 a) fun v => ev 48 (124, L, v :: st) σ) ∧
  (∀ (L : ri_L) (st : List Value) (σ : ri_S) (a : Nat), ev 48 (124, L, .ref a :: st) σ = tv_o 7 5 (σ.1 a) fun v => ev 48 (127, L, v :: st) σ) ∧
  (∀ (l0 l2 : Option Value) (st : List Value) (σ : ri_S) (x : Int32), ev 48 (127, [l0, some (.int x), l2], st) σ = ev 48 (128, [l0, some (.int x), l2], .int x :: st) σ) ∧
  (∀ (L : ri_L) (σ : ri_S) (a0 : Nat) (a1 : Int32), ev 48 (128, L, [.int a1, .ref a0]) σ = (cal 140 [.ref a0, .int a1] σ).bind fun q => ev 48 (131, L, q.1.toList ++ []) q.2) ∧
  (∀ (L : ri_L) (σ : ri_S) (x : Int32), ev 48 (131, L, [.int x]) σ = some (some (.int x), σ)) :=
  ⟨fun L σ a0 a1 => ev_callv ((TP_48 _).trans rfl) rfl rfl rfl rfl,
   fun L σ x => ev_r ((TP_48 _).trans rfl) rfl,
   fun l1 l2 st σ x => ev_p ((TP_48 _).trans rfl) rfl,
   fun L st σ a => ev_getf ((TP_48 _).trans rfl),
   fun L st σ a => ev_getf ((TP_48 _).trans rfl),
   fun l0 l2 st σ x => ev_p ((TP_48 _).trans rfl) rfl,
   fun L σ a0 a1 => ev_call ((TP_48 _).trans rfl) rfl rfl rfl rfl,
   fun L σ x => ev_r ((TP_48 _).trans rfl) rfl⟩
theorem TP_49 (pc : Nat) : TT 49 pc = ri_find TL_49 pc := rfl
theorem E_49 (x0 : Nat) (x1 : Int32) (x2 : Int32) (x3 : Int32) (σ : ri_S) : cal 49 [.ref x0, .int x1, .int x2, .int x3] σ = ev 49 (0, [some (.ref x0), some (.int x1), some (.int x2), some (.int x3), none], []) σ := rfl
theorem I_49 :
  (∀ (l1 l2 l3 l4 : Option Value) (st : List Value) (σ : ri_S) (x : Nat), ev 49 (0, [some (.ref x), l1, l2, l3, l4], st) σ = ev 49 (1, [some (.ref x), l1, l2, l3, l4], .ref x :: st) σ) ∧
  (∀ (L : ri_L) (st : List Value) (σ : ri_S) (a : Nat), ev 49 (1, L, .ref a :: st) σ = tv_o 3 0 (σ.1 a) fun v => ev 49 (4, L, v :: st) σ) ∧
  (∀ (l0 l2 l3 l4 : Option Value) (st : List Value) (σ : ri_S) (x : Int32), ev 49 (4, [l0, some (.int x), l2, l3, l4], st) σ = ev 49 (5, [l0, some (.int x), l2, l3, l4], .int x :: st) σ) ∧
  (∀ (l0 l1 l3 l4 : Option Value) (st : List Value) (σ : ri_S) (x : Int32), ev 49 (5, [l0, l1, some (.int x), l3, l4], st) σ = ev 49 (6, [l0, l1, some (.int x), l3, l4], .int x :: st) σ) ∧
  (∀ (L : ri_L) (σ : ri_S) (a0 : Nat) (a1 : Int32) (a2 : Int32), ev 49 (6, L, [.int a2, .int a1, .ref a0]) σ = tv_k 7 (σ.1 a0) ((cal 100 [.ref a0, .int a1, .int a2] σ).bind fun q => ev 49 (9, L, q.1.toList ++ []) q.2)) ∧
  (∀ (l0 l1 l2 l3 l4 : Option Value) (st : List Value) (σ : ri_S) (x : Int32), ev 49 (9, [l0, l1, l2, l3, l4], .int x :: st) σ = ev 49 (11, [l0, l1, l2, ri_clr l3, some (.int x)], st) σ) ∧
  (∀ (l0 l1 l2 l4 : Option Value) (st : List Value) (σ : ri_S) (x : Int32), ev 49 (11, [l0, l1, l2, some (.int x), l4], st) σ = ev 49 (12, [l0, l1, l2, some (.int x), l4], .int x :: st) σ) ∧
  (∀ (L : ri_L) (st : List Value) (σ : ri_S) (x : Int32), ev 49 (12, L, .int x :: st) σ = if x = 0 then ev 49 (40, L, st) σ else if x = 1 then ev 49 (43, L, st) σ else if x = 2 then ev 49 (60, L, st) σ else ev 49 (71, L, st) σ) ∧
  (∀ (l0 l1 l2 l3 : Option Value) (st : List Value) (σ : ri_S) (x : Int32), ev 49 (40, [l0, l1, l2, l3, some (.int x)], st) σ = ev 49 (42, [l0, l1, l2, l3, some (.int x)], .int x :: st) σ) ∧
  (∀ (L : ri_L) (σ : ri_S) (x : Int32), ev 49 (42, L, [.int x]) σ = some (some (.int x), σ)) ∧
  (∀ (l1 l2 l3 l4 : Option Value) (st : List Value) (σ : ri_S) (x : Nat), ev 49 (43, [some (.ref x), l1, l2, l3, l4], st) σ = ev 49 (44, [some (.ref x), l1, l2, l3, l4], .ref x :: st) σ) ∧
  (∀ (L : ri_L) (st : List Value) (σ : ri_S) (a : Nat), ev 49 (44, L, .ref a :: st) σ = tv_o 3 0 (σ.1 a) fun v => ev 49 (47, L, v :: st) σ) ∧
  (∀ (L : ri_L) (st : List Value) (σ : ri_S) (a : Nat), ev 49 (47, L, .ref a :: st) σ = tv_o 7 6 (σ.1 a) fun v => ev 49 (50, L, v :: st) σ) ∧
  (∀ (l0 l2 l3 l4 : Option Value) (st : List Value) (σ : ri_S) (x : Int32), ev 49 (50, [l0, some (.int x), l2, l3, l4], st) σ = ev 49 (51, [l0, some (.int x), l2, l3, l4], .int x :: st) σ) ∧
  (∀ (l0 l1 l2 l3 : Option Value) (st : List Value) (σ : ri_S) (x : Int32), ev 49 (51, [l0, l1, l2, l3, some (.int x)], st) σ = ev 49 (53, [l0, l1, l2, l3, some (.int x)], .int x :: st) σ) ∧
  (∀ (L : ri_L) (σ : ri_S) (a0 : Int32) (a1 : Int32) (s0 : Value), ev 49 (53, L, [.int a1, .int a0, s0]) σ = (cal 138 [.int a0, .int a1] σ).bind fun q => ev 49 (56, L, q.1.toList ++ [s0]) q.2) ∧
  (∀ (L : ri_L) (σ : ri_S) (a0 : Nat) (a1 : Int32), ev 49 (56, L, [.int a1, .ref a0]) σ = (cal 140 [.ref a0, .int a1] σ).bind fun q => ev 49 (59, L, q.1.toList ++ []) q.2) ∧
  (∀ (L : ri_L) (σ : ri_S) (x : Int32), ev 49 (59, L, [.int x]) σ = some (some (.int x), σ)) ∧
  (∀ (l1 l2 l3 l4 : Option Value) (st : List Value) (σ : ri_S) (x : Nat), ev 49 (60, [some (.ref x), l1, l2, l3, l4], st) σ = ev 49 (61, [some (.ref x), l1, l2, l3, l4], .ref x :: st) σ) ∧
  (∀ (L : ri_L) (st : List Value) (σ : ri_S) (a : Nat), ev 49 (61, L, .ref a :: st) σ = tv_o 3 2 (σ.1 a) fun v => ev 49 (64, L, v :: st) σ) ∧
  (∀ (l0 l2 l3 l4 : Option Value) (st : List Value) (σ : ri_S) (x : Int32), ev 49 (64, [l0, some (.int x), l2, l3, l4], st) σ = ev 49 (65, [l0, some (.int x), l2, l3, l4], .int x :: st) σ) ∧
  (∀ (l0 l1 l2 l3 : Option Value) (st : List Value) (σ : ri_S) (x : Int32), ev 49 (65, [l0, l1, l2, l3, some (.int x)], st) σ = ev 49 (67, [l0, l1, l2, l3, some (.int x)], .int x :: st) σ) ∧
  (∀ (L : ri_L) (σ : ri_S) (a0 : Nat) (a1 : Int32) (a2 : Int32), ev 49 (67, L, [.int a2, .int a1, .ref a0]) σ = tv_k 0 (σ.1 a0) ((cal 4 [.ref a0, .int a1, .int a2] σ).bind fun q => ev 49 (70, L, q.1.toList ++ []) q.2)) ∧
  (∀ (L : ri_L) (σ : ri_S) (x : Int32), ev 49 (70, L, [.int x]) σ = some (some (.int x), σ)) ∧
  (∀ (l1 l2 l3 l4 : Option Value) (st : List Value) (σ : ri_S) (x : Nat), ev 49 (71, [some (.ref x), l1, l2, l3, l4], st) σ = ev 49 (72, [some (.ref x), l1, l2, l3, l4], .ref x :: st) σ) ∧
  (∀ (L : ri_L) (st : List Value) (σ : ri_S) (a : Nat), ev 49 (72, L, .ref a :: st) σ = tv_o 3 1 (σ.1 a) fun v => ev 49 (75, L, v :: st) σ) ∧
  (∀ (l0 l2 l3 l4 : Option Value) (st : List Value) (σ : ri_S) (x : Int32), ev 49 (75, [l0, some (.int x), l2, l3, l4], st) σ = ev 49 (76, [l0, some (.int x), l2, l3, l4], .int x :: st) σ) ∧
  (∀ (l0 l1 l3 l4 : Option Value) (st : List Value) (σ : ri_S) (x : Int32), ev 49 (76, [l0, l1, some (.int x), l3, l4], st) σ = ev 49 (77, [l0, l1, some (.int x), l3, l4], .int x :: st) σ) ∧
  (∀ (L : ri_L) (σ : ri_S) (a0 : Int32) (a1 : Int32) (s0 : Value), ev 49 (77, L, [.int a1, .int a0, s0]) σ = (cal 138 [.int a0, .int a1] σ).bind fun q => ev 49 (80, L, q.1.toList ++ [s0]) q.2) ∧
  (∀ (L : ri_L) (σ : ri_S) (a0 : Nat) (a1 : Int32), ev 49 (80, L, [.int a1, .ref a0]) σ = tv_k 2 (σ.1 a0) ((cal 17 [.ref a0, .int a1] σ).bind fun q => ev 49 (83, L, q.1.toList ++ []) q.2)) ∧
  (∀ (L : ri_L) (σ : ri_S) (x : Int32), ev 49 (83, L, [.int x]) σ = some (some (.int x), σ)) :=
  ⟨fun l1 l2 l3 l4 st σ x => ev_p ((TP_49 _).trans rfl) rfl,
   fun L st σ a => ev_getf ((TP_49 _).trans rfl),
   fun l0 l2 l3 l4 st σ x => ev_p ((TP_49 _).trans rfl) rfl,
   fun l0 l1 l3 l4 st σ x => ev_p ((TP_49 _).trans rfl) rfl,
   fun L σ a0 a1 a2 => ev_callv ((TP_49 _).trans rfl) rfl rfl rfl rfl,
   fun l0 l1 l2 l3 l4 st σ x => ev_p ((TP_49 _).trans rfl) rfl,
   fun l0 l1 l2 l4 st σ x => ev_p ((TP_49 _).trans rfl) rfl,
   fun L st σ x => (ev_sw (lo := 0) (ts := [40, 43, 60]) (d := 71) ((TP_49 _).trans rfl)).trans (by simp only [ev_tab, ev_tab0, show (0 : Int32) + 1 = 1 from rfl, show (1 : Int32) + 1 = 2 from rfl, show (2 : Int32) + 1 = 3 from rfl]),
   fun l0 l1 l2 l3 st σ x => ev_p ((TP_49 _).trans rfl) rfl,
   fun L σ x => ev_r ((TP_49 _).trans rfl) rfl,
   fun l1 l2 l3 l4 st σ x => ev_p ((TP_49 _).trans rfl) rfl,
   fun L st σ a => ev_getf ((TP_49 _).trans rfl),
   fun L st σ a => ev_getf ((TP_49 _).trans rfl),
   fun l0 l2 l3 l4 st σ x => ev_p ((TP_49 _).trans rfl) rfl,
   fun l0 l1 l2 l3 st σ x => ev_p ((TP_49 _).trans rfl) rfl,
   fun L σ a0 a1 s0 => ev_call ((TP_49 _).trans rfl) rfl rfl rfl rfl,
   fun L σ a0 a1 => ev_call ((TP_49 _).trans rfl) rfl rfl rfl rfl,
   fun L σ x => ev_r ((TP_49 _).trans rfl) rfl,
   fun l1 l2 l3 l4 st σ x => ev_p ((TP_49 _).trans rfl) rfl,
   fun L st σ a => ev_getf ((TP_49 _).trans rfl),
   fun l0 l2 l3 l4 st σ x => ev_p ((TP_49 _).trans rfl) rfl,
   fun l0 l1 l2 l3 st σ x => ev_p ((TP_49 _).trans rfl) rfl,
   fun L σ a0 a1 a2 => ev_callv ((TP_49 _).trans rfl) rfl rfl rfl rfl,
   fun L σ x => ev_r ((TP_49 _).trans rfl) rfl,
   fun l1 l2 l3 l4 st σ x => ev_p ((TP_49 _).trans rfl) rfl,
   fun L st σ a => ev_getf ((TP_49 _).trans rfl),
   fun l0 l2 l3 l4 st σ x => ev_p ((TP_49 _).trans rfl) rfl,
   fun l0 l1 l3 l4 st σ x => ev_p ((TP_49 _).trans rfl) rfl,
   fun L σ a0 a1 s0 => ev_call ((TP_49 _).trans rfl) rfl rfl rfl rfl,
   fun L σ a0 a1 => ev_callv ((TP_49 _).trans rfl) rfl rfl rfl rfl,
   fun L σ x => ev_r ((TP_49 _).trans rfl) rfl⟩
theorem TP_50 (pc : Nat) : TT 50 pc = ri_find TL_50 pc := rfl
theorem E_50 (x0 : Nat) (x1 : Int32) (x2 : Int32) (σ : ri_S) : cal 50 [.ref x0, .int x1, .int x2] σ = ev 50 (0, [some (.ref x0), some (.int x1), some (.int x2)], []) σ := rfl
theorem I_50 :
  (∀ (l0 l1 : Option Value) (st : List Value) (σ : ri_S) (x : Int32), ev 50 (0, [l0, l1, some (.int x)], st) σ = ev 50 (1, [l0, l1, some (.int x)], .int x :: st) σ) ∧
  (∀ (L : ri_L) (st : List Value) (σ : ri_S) (x : Int32), ev 50 (1, L, .int x :: st) σ = if x = 0 then ev 50 (36, L, st) σ else if x = 1 then ev 50 (48, L, st) σ else if x = 2 then ev 50 (60, L, st) σ else if x = 3 then ev 50 (72, L, st) σ else if x = 4 then ev 50 (80, L, st) σ else ev 50 (92, L, st) σ) ∧
  (∀ (l1 l2 : Option Value) (st : List Value) (σ : ri_S) (x : Nat), ev 50 (36, [some (.ref x), l1, l2], st) σ = ev 50 (37, [some (.ref x), l1, l2], .ref x :: st) σ) ∧
  (∀ (L : ri_L) (st : List Value) (σ : ri_S) (a : Nat), ev 50 (37, L, .ref a :: st) σ = tv_o 3 2 (σ.1 a) fun v => ev 50 (40, L, v :: st) σ) ∧
  (∀ (L : ri_L) (st : List Value) (σ : ri_S) (a : Nat), ev 50 (40, L, .ref a :: st) σ = tv_o 0 1 (σ.1 a) fun v => ev 50 (43, L, v :: st) σ) ∧
  (∀ (l0 l2 : Option Value) (st : List Value) (σ : ri_S) (x : Int32), ev 50 (43, [l0, some (.int x), l2], st) σ = ev 50 (44, [l0, some (.int x), l2], .int x :: st) σ) ∧
  (∀ (L : ri_L) (σ : ri_S) (a0 : Nat) (a1 : Int32), ev 50 (44, L, [.int a1, .ref a0]) σ = (cal 140 [.ref a0, .int a1] σ).bind fun q => ev 50 (47, L, q.1.toList ++ []) q.2) ∧
  (∀ (L : ri_L) (σ : ri_S) (x : Int32), ev 50 (47, L, [.int x]) σ = some (some (.int x), σ)) ∧
  (∀ (l1 l2 : Option Value) (st : List Value) (σ : ri_S) (x : Nat), ev 50 (48, [some (.ref x), l1, l2], st) σ = ev 50 (49, [some (.ref x), l1, l2], .ref x :: st) σ) ∧
  (∀ (L : ri_L) (st : List Value) (σ : ri_S) (a : Nat), ev 50 (49, L, .ref a :: st) σ = tv_o 3 2 (σ.1 a) fun v => ev 50 (52, L, v :: st) σ) ∧
  (∀ (L : ri_L) (st : List Value) (σ : ri_S) (a : Nat), ev 50 (52, L, .ref a :: st) σ = tv_o 0 2 (σ.1 a) fun v => ev 50 (55, L, v :: st) σ) ∧
  (∀ (l0 l2 : Option Value) (st : List Value) (σ : ri_S) (x : Int32), ev 50 (55, [l0, some (.int x), l2], st) σ = ev 50 (56, [l0, some (.int x), l2], .int x :: st) σ) ∧
  (∀ (L : ri_L) (σ : ri_S) (a0 : Nat) (a1 : Int32), ev 50 (56, L, [.int a1, .ref a0]) σ = (cal 140 [.ref a0, .int a1] σ).bind fun q => ev 50 (59, L, q.1.toList ++ []) q.2) ∧
  (∀ (L : ri_L) (σ : ri_S) (x : Int32), ev 50 (59, L, [.int x]) σ = some (some (.int x), σ)) ∧
  (∀ (l1 l2 : Option Value) (st : List Value) (σ : ri_S) (x : Nat), ev 50 (60, [some (.ref x), l1, l2], st) σ = ev 50 (61, [some (.ref x), l1, l2], .ref x :: st) σ) ∧
  (∀ (L : ri_L) (st : List Value) (σ : ri_S) (a : Nat), ev 50 (61, L, .ref a :: st) σ = tv_o 3 2 (σ.1 a) fun v => ev 50 (64, L, v :: st) σ) ∧
  (∀ (L : ri_L) (st : List Value) (σ : ri_S) (a : Nat), ev 50 (64, L, .ref a :: st) σ = tv_o 0 3 (σ.1 a) fun v => ev 50 (67, L, v :: st) σ) ∧
  (∀ (l0 l2 : Option Value) (st : List Value) (σ : ri_S) (x : Int32), ev 50 (67, [l0, some (.int x), l2], st) σ = ev 50 (68, [l0, some (.int x), l2], .int x :: st) σ) ∧
  (∀ (L : ri_L) (σ : ri_S) (a0 : Nat) (a1 : Int32), ev 50 (68, L, [.int a1, .ref a0]) σ = (cal 140 [.ref a0, .int a1] σ).bind fun q => ev 50 (71, L, q.1.toList ++ []) q.2) ∧
  (∀ (L : ri_L) (σ : ri_S) (x : Int32), ev 50 (71, L, [.int x]) σ = some (some (.int x), σ)) ∧
  (∀ (l1 l2 : Option Value) (st : List Value) (σ : ri_S) (x : Nat), ev 50 (72, [some (.ref x), l1, l2], st) σ = ev 50 (73, [some (.ref x), l1, l2], .ref x :: st) σ) ∧
  (∀ (l0 l2 : Option Value) (st : List Value) (σ : ri_S) (x : Int32), ev 50 (73, [l0, some (.int x), l2], st) σ = ev 50 (74, [l0, some (.int x), l2], .int x :: st) σ) ∧
  (∀ (L : ri_L) (σ : ri_S) (a0 : Nat) (a1 : Int32), ev 50 (74, L, [.int a1, .ref a0]) σ = tv_k 3 (σ.1 a0) ((cal 38 [.ref a0, .int a1] σ).bind fun q => ev 50 (77, L, q.1.toList ++ []) q.2)) ∧
  (∀ (L : ri_L) (st : List Value) (σ : ri_S), ev 50 (77, L, st) σ = ev 50 (78, L, .int 5 :: st) σ) ∧
  (∀ (L : ri_L) (st : List Value) (σ : ri_S) (x y : Int32), ev 50 (78, L, .int y :: .int x :: st) σ = if y = 0 then none else ev 50 (79, L, .int (x - x / y * y) :: st) σ) ∧
  (∀ (L : ri_L) (σ : ri_S) (x : Int32), ev 50 (79, L, [.int x]) σ = some (some (.int x), σ)) ∧
  (∀ (l1 l2 : Option Value) (st : List Value) (σ : ri_S) (x : Nat), ev 50 (80, [some (.ref x), l1, l2], st) σ = ev 50 (81, [some (.ref x), l1, l2], .ref x :: st) σ) ∧
  (∀ (L : ri_L) (st : List Value) (σ : ri_S) (a : Nat), ev 50 (81, L, .ref a :: st) σ = tv_o 3 2 (σ.1 a) fun v => ev 50 (84, L, v :: st) σ) ∧
  (∀ (L : ri_L) (st : List Value) (σ : ri_S) (a : Nat), ev 50 (84, L, .ref a :: st) σ = tv_o 0 4 (σ.1 a) fun v => ev 50 (87, L, v :: st) σ) ∧
  (∀ (l0 l2 : Option Value) (st : List Value) (σ : ri_S) (x : Int32), ev 50 (87, [l0, some (.int x), l2], st) σ = ev 50 (88, [l0, some (.int x), l2], .int x :: st) σ) ∧
  (∀ (L : ri_L) (σ : ri_S) (a0 : Nat) (a1 : Int32), ev 50 (88, L, [.int a1, .ref a0]) σ = (cal 140 [.ref a0, .int a1] σ).bind fun q => ev 50 (91, L, q.1.toList ++ []) q.2) ∧
  (∀ (L : ri_L) (σ : ri_S) (x : Int32), ev 50 (91, L, [.int x]) σ = some (some (.int x), σ)) ∧
  (∀ (l1 l2 : Option Value) (st : List Value) (σ : ri_S) (x : Nat), ev 50 (92, [some (.ref x), l1, l2], st) σ = ev 50 (93, [some (.ref x), l1, l2], .ref x :: st) σ) ∧
  (∀ (L : ri_L) (st : List Value) (σ : ri_S) (a : Nat), ev 50 (93, L, .ref a :: st) σ = tv_o 3 2 (σ.1 a) fun v => ev 50 (96, L, v :: st) σ) ∧
  (∀ (L : ri_L) (st : List Value) (σ : ri_S) (a : Nat), ev 50 (96, L, .ref a :: st) σ = tv_o 0 5 (σ.1 a) fun v => ev 50 (99, L, v :: st) σ) ∧
  (∀ (l0 l2 : Option Value) (st : List Value) (σ : ri_S) (x : Int32), ev 50 (99, [l0, some (.int x), l2], st) σ = ev 50 (100, [l0, some (.int x), l2], .int x :: st) σ) ∧
  (∀ (L : ri_L) (σ : ri_S) (a0 : Nat) (a1 : Int32), ev 50 (100, L, [.int a1, .ref a0]) σ = (cal 140 [.ref a0, .int a1] σ).bind fun q => ev 50 (103, L, q.1.toList ++ []) q.2) ∧
  (∀ (L : ri_L) (σ : ri_S) (x : Int32), ev 50 (103, L, [.int x]) σ = some (some (.int x), σ)) :=
  ⟨fun l0 l1 st σ x => ev_p ((TP_50 _).trans rfl) rfl,
   fun L st σ x => (ev_sw (lo := 0) (ts := [36, 48, 60, 72, 80]) (d := 92) ((TP_50 _).trans rfl)).trans (by simp only [ev_tab, ev_tab0, show (0 : Int32) + 1 = 1 from rfl, show (1 : Int32) + 1 = 2 from rfl, show (2 : Int32) + 1 = 3 from rfl, show (3 : Int32) + 1 = 4 from rfl, show (4 : Int32) + 1 = 5 from rfl]),
   fun l1 l2 st σ x => ev_p ((TP_50 _).trans rfl) rfl,
   fun L st σ a => ev_getf ((TP_50 _).trans rfl),
   fun L st σ a => ev_getf ((TP_50 _).trans rfl),
   fun l0 l2 st σ x => ev_p ((TP_50 _).trans rfl) rfl,
   fun L σ a0 a1 => ev_call ((TP_50 _).trans rfl) rfl rfl rfl rfl,
   fun L σ x => ev_r ((TP_50 _).trans rfl) rfl,
   fun l1 l2 st σ x => ev_p ((TP_50 _).trans rfl) rfl,
   fun L st σ a => ev_getf ((TP_50 _).trans rfl),
   fun L st σ a => ev_getf ((TP_50 _).trans rfl),
   fun l0 l2 st σ x => ev_p ((TP_50 _).trans rfl) rfl,
   fun L σ a0 a1 => ev_call ((TP_50 _).trans rfl) rfl rfl rfl rfl,
   fun L σ x => ev_r ((TP_50 _).trans rfl) rfl,
   fun l1 l2 st σ x => ev_p ((TP_50 _).trans rfl) rfl,
   fun L st σ a => ev_getf ((TP_50 _).trans rfl),
   fun L st σ a => ev_getf ((TP_50 _).trans rfl),
   fun l0 l2 st σ x => ev_p ((TP_50 _).trans rfl) rfl,
   fun L σ a0 a1 => ev_call ((TP_50 _).trans rfl) rfl rfl rfl rfl,
   fun L σ x => ev_r ((TP_50 _).trans rfl) rfl,
   fun l1 l2 st σ x => ev_p ((TP_50 _).trans rfl) rfl,
   fun l0 l2 st σ x => ev_p ((TP_50 _).trans rfl) rfl,
   fun L σ a0 a1 => ev_callv ((TP_50 _).trans rfl) rfl rfl rfl rfl,
   fun L st σ => ev_p ((TP_50 _).trans rfl) rfl,
   fun L st σ x y => ev_d ((TP_50 _).trans rfl) rfl,
   fun L σ x => ev_r ((TP_50 _).trans rfl) rfl,
   fun l1 l2 st σ x => ev_p ((TP_50 _).trans rfl) rfl,
   fun L st σ a => ev_getf ((TP_50 _).trans rfl),
   fun L st σ a => ev_getf ((TP_50 _).trans rfl),
   fun l0 l2 st σ x => ev_p ((TP_50 _).trans rfl) rfl,
   fun L σ a0 a1 => ev_call ((TP_50 _).trans rfl) rfl rfl rfl rfl,
   fun L σ x => ev_r ((TP_50 _).trans rfl) rfl,
   fun l1 l2 st σ x => ev_p ((TP_50 _).trans rfl) rfl,
   fun L st σ a => ev_getf ((TP_50 _).trans rfl),
   fun L st σ a => ev_getf ((TP_50 _).trans rfl),
   fun l0 l2 st σ x => ev_p ((TP_50 _).trans rfl) rfl,
   fun L σ a0 a1 => ev_call ((TP_50 _).trans rfl) rfl rfl rfl rfl,
   fun L σ x => ev_r ((TP_50 _).trans rfl) rfl⟩
theorem TP_51 (pc : Nat) : TT 51 pc = ri_find TL_51 pc := rfl
theorem E_51 (x0 : Int32) (x1 : Int64) (σ : ri_S) : cal 51 [.int x0, .long x1] σ = ev 51 (0, [some (.int x0), some (.long x1), none], []) σ := rfl
theorem I_51 :
  (∀ (l1 l2 : Option Value) (st : List Value) (σ : ri_S) (x : Int32), ev 51 (0, [some (.int x), l1, l2], st) σ = ev 51 (1, [some (.int x), l1, l2], .int x :: st) σ) ∧
  (∀ (L : ri_L) (st : List Value) (σ : ri_S), ev 51 (1, L, st) σ = ev 51 (2, L, .int 1 :: st) σ) ∧
  (∀ (L : ri_L) (st : List Value) (σ : ri_S), ev 51 (2, L, st) σ = ev 51 (3, L, .int 3 :: st) σ) ∧
  (∀ (L : ri_L) (σ : ri_S) (a0 : Int32) (a1 : Int32) (a2 : Int32), ev 51 (3, L, [.int a2, .int a1, .int a0]) σ = (cal 137 [.int a0, .int a1, .int a2] σ).bind fun q => ev 51 (6, L, q.1.toList ++ []) q.2) ∧
  (∀ (L : ri_L) (st : List Value) (σ : ri_S) (x : Int32), ev 51 (6, L, .int x :: st) σ = if x = 0 then ev 51 (15, L, st) σ else ev 51 (9, L, st) σ) ∧
  (∀ (l0 l2 : Option Value) (st : List Value) (σ : ri_S) (x : Int64), ev 51 (9, [l0, some (.long x), l2], st) σ = ev 51 (10, [l0, some (.long x), l2], .long x :: st) σ) ∧
  (∀ (L : ri_L) (st : List Value) (σ : ri_S), ev 51 (10, L, st) σ = ev 51 (11, L, .long 0 :: st) σ) ∧
  (∀ (L : ri_L) (st : List Value) (σ : ri_S) (x y : Int64), ev 51 (11, L, .long y :: .long x :: st) σ = ev 51 (12, L, .int (lg_cmp x y) :: st) σ) ∧
  (∀ (L : ri_L) (st : List Value) (σ : ri_S) (x : Int32), ev 51 (12, L, .int x :: st) σ = if 0 ≤ x then ev 51 (17, L, st) σ else ev 51 (15, L, st) σ) ∧
  (∀ (L : ri_L) (st : List Value) (σ : ri_S), ev 51 (15, L, st) σ = ev 51 (16, L, .int 2 :: st) σ) ∧
  (∀ (L : ri_L) (σ : ri_S) (x : Int32), ev 51 (16, L, [.int x]) σ = some (some (.int x), σ)) ∧
  (∀ (l0 l2 : Option Value) (st : List Value) (σ : ri_S) (x : Int64), ev 51 (17, [l0, some (.long x), l2], st) σ = ev 51 (18, [l0, some (.long x), l2], .long x :: st) σ) ∧
  (∀ (l1 l2 : Option Value) (st : List Value) (σ : ri_S) (x : Int32), ev 51 (18, [some (.int x), l1, l2], st) σ = ev 51 (19, [some (.int x), l1, l2], .int x :: st) σ) ∧
  (∀ (L : ri_L) (σ : ri_S) (a0 : Int32) (s0 : Value), ev 51 (19, L, [.int a0, s0]) σ = (cal 52 [.int a0] σ).bind fun q => ev 51 (22, L, q.1.toList ++ [s0]) q.2) ∧
  (∀ (L : ri_L) (st : List Value) (σ : ri_S) (x y : Int64), ev 51 (22, L, .long y :: .long x :: st) σ = ev 51 (23, L, .int (lg_cmp x y) :: st) σ) ∧
  (∀ (L : ri_L) (st : List Value) (σ : ri_S) (x : Int32), ev 51 (23, L, .int x :: st) σ = if 0 ≤ x then ev 51 (30, L, st) σ else ev 51 (26, L, st) σ) ∧
  (∀ (L : ri_L) (st : List Value) (σ : ri_S), ev 51 (26, L, st) σ = ev 51 (27, L, .int 0 :: st) σ) ∧
  (∀ (L : ri_L) (st : List Value) (σ : ri_S), ev 51 (27, L, st) σ = ev 51 (31, L, st) σ) ∧
  (∀ (L : ri_L) (st : List Value) (σ : ri_S), ev 51 (30, L, st) σ = ev 51 (31, L, .int 2 :: st) σ) ∧
  (∀ (L : ri_L) (σ : ri_S) (x : Int32), ev 51 (31, L, [.int x]) σ = some (some (.int x), σ)) :=
  ⟨fun l1 l2 st σ x => ev_p ((TP_51 _).trans rfl) rfl,
   fun L st σ => ev_p ((TP_51 _).trans rfl) rfl,
   fun L st σ => ev_p ((TP_51 _).trans rfl) rfl,
   fun L σ a0 a1 a2 => ev_call ((TP_51 _).trans rfl) rfl rfl rfl rfl,
   fun L st σ x => ev_b ((TP_51 _).trans rfl) rfl,
   fun l0 l2 st σ x => ev_p ((TP_51 _).trans rfl) rfl,
   fun L st σ => ev_p ((TP_51 _).trans rfl) rfl,
   fun L st σ x y => ev_p ((TP_51 _).trans rfl) rfl,
   fun L st σ x => ev_b ((TP_51 _).trans rfl) rfl,
   fun L st σ => ev_p ((TP_51 _).trans rfl) rfl,
   fun L σ x => ev_r ((TP_51 _).trans rfl) rfl,
   fun l0 l2 st σ x => ev_p ((TP_51 _).trans rfl) rfl,
   fun l1 l2 st σ x => ev_p ((TP_51 _).trans rfl) rfl,
   fun L σ a0 s0 => ev_call ((TP_51 _).trans rfl) rfl rfl rfl rfl,
   fun L st σ x y => ev_p ((TP_51 _).trans rfl) rfl,
   fun L st σ x => ev_b ((TP_51 _).trans rfl) rfl,
   fun L st σ => ev_p ((TP_51 _).trans rfl) rfl,
   fun L st σ => ev_p ((TP_51 _).trans rfl) rfl,
   fun L st σ => ev_p ((TP_51 _).trans rfl) rfl,
   fun L σ x => ev_r ((TP_51 _).trans rfl) rfl⟩
theorem TP_52 (pc : Nat) : TT 52 pc = ri_find TL_52 pc := rfl
theorem E_52 (x0 : Int32) (σ : ri_S) : cal 52 [.int x0] σ = ev 52 (0, [some (.int x0), none, none, none], []) σ := rfl
theorem H_52_4 (l0 l1 l2 : Option Value) (st : List Value) (σ : ri_S) (x : Int32) : ev 52 (4, [l0, l1, l2, some (.int x)], st) σ = ev 52 (5, [l0, l1, l2, some (.int x)], .int x :: st) σ := ev_p ((TP_52 _).trans rfl) rfl
theorem I_52 :
  (∀ (L : ri_L) (st : List Value) (σ : ri_S), ev 52 (0, L, st) σ = ev 52 (1, L, .long 1 :: st) σ) ∧
  (∀ (l0 l1 l2 l3 : Option Value) (st : List Value) (σ : ri_S) (x : Int64), ev 52 (1, [l0, l1, l2, l3], .long x :: st) σ = ev 52 (2, [ri_clr l0, some (.long x), none, l3], st) σ) ∧
  (∀ (L : ri_L) (st : List Value) (σ : ri_S), ev 52 (2, L, st) σ = ev 52 (3, L, .int 0 :: st) σ) ∧
  (∀ (l0 l1 l2 l3 : Option Value) (st : List Value) (σ : ri_S) (x : Int32), ev 52 (3, [l0, l1, l2, l3], .int x :: st) σ = ev 52 (4, [l0, l1, ri_clr l2, some (.int x)], st) σ) ∧
  (∀ (l1 l2 l3 : Option Value) (st : List Value) (σ : ri_S) (x : Int32), ev 52 (5, [some (.int x), l1, l2, l3], st) σ = ev 52 (6, [some (.int x), l1, l2, l3], .int x :: st) σ) ∧
  (∀ (L : ri_L) (st : List Value) (σ : ri_S) (x y : Int32), ev 52 (6, L, .int y :: .int x :: st) σ = if y ≤ x then ev 52 (21, L, st) σ else ev 52 (9, L, st) σ) ∧
  (∀ (l0 l2 l3 : Option Value) (st : List Value) (σ : ri_S) (x : Int64), ev 52 (9, [l0, some (.long x), l2, l3], st) σ = ev 52 (10, [l0, some (.long x), l2, l3], .long x :: st) σ) ∧
  (∀ (L : ri_L) (st : List Value) (σ : ri_S), ev 52 (10, L, st) σ = ev 52 (13, L, .long 100000 :: st) σ) ∧
  (∀ (L : ri_L) (st : List Value) (σ : ri_S) (x y : Int64), ev 52 (13, L, .long y :: .long x :: st) σ = ev 52 (14, L, .long (x * y) :: st) σ) ∧
  (∀ (l0 l1 l2 l3 : Option Value) (st : List Value) (σ : ri_S) (x : Int64), ev 52 (14, [l0, l1, l2, l3], .long x :: st) σ = ev 52 (15, [ri_clr l0, some (.long x), none, l3], st) σ) ∧
  (∀ (l0 l1 l2 : Option Value) (st : List Value) (σ : ri_S) (x : Int32), ev 52 (15, [l0, l1, l2, some (.int x)], st) σ = ev 52 (18, [l0, l1, ri_clr l2, some (.int (x + 1))], st) σ) ∧
  (∀ (L : ri_L) (st : List Value) (σ : ri_S), ev 52 (18, L, st) σ = ev 52 (4, L, st) σ) ∧
  (∀ (l0 l2 l3 : Option Value) (st : List Value) (σ : ri_S) (x : Int64), ev 52 (21, [l0, some (.long x), l2, l3], st) σ = ev 52 (22, [l0, some (.long x), l2, l3], .long x :: st) σ) ∧
  (∀ (L : ri_L) (σ : ri_S) (x : Int64), ev 52 (22, L, [.long x]) σ = some (some (.long x), σ)) :=
  ⟨fun L st σ => ev_p ((TP_52 _).trans rfl) rfl,
   fun l0 l1 l2 l3 st σ x => ev_p ((TP_52 _).trans rfl) rfl,
   fun L st σ => ev_p ((TP_52 _).trans rfl) rfl,
   fun l0 l1 l2 l3 st σ x => ev_p ((TP_52 _).trans rfl) rfl,
   fun l1 l2 l3 st σ x => ev_p ((TP_52 _).trans rfl) rfl,
   fun L st σ x y => ev_b ((TP_52 _).trans rfl) rfl,
   fun l0 l2 l3 st σ x => ev_p ((TP_52 _).trans rfl) rfl,
   fun L st σ => ev_p ((TP_52 _).trans rfl) rfl,
   fun L st σ x y => ev_p ((TP_52 _).trans rfl) rfl,
   fun l0 l1 l2 l3 st σ x => ev_p ((TP_52 _).trans rfl) rfl,
   fun l0 l1 l2 st σ x => ev_p ((TP_52 _).trans rfl) rfl,
   fun L st σ => ev_p ((TP_52 _).trans rfl) rfl,
   fun l0 l2 l3 st σ x => ev_p ((TP_52 _).trans rfl) rfl,
   fun L σ x => ev_r ((TP_52 _).trans rfl) rfl⟩
theorem TP_53 (pc : Nat) : TT 53 pc = ri_find TL_53 pc := rfl
theorem E_53 (x0 : Nat) (x1 : Int32) (x2 : Int64) (σ : ri_S) : cal 53 [.ref x0, .int x1, .long x2] σ = ev 53 (0, [some (.ref x0), some (.int x1), some (.long x2), none, none, none, none], []) σ := rfl
theorem H_53_3 (l0 l1 l2 l3 l5 l6 : Option Value) (st : List Value) (σ : ri_S) (x : Int32) : ev 53 (3, [l0, l1, l2, l3, some (.int x), l5, l6], st) σ = ev 53 (5, [l0, l1, l2, l3, some (.int x), l5, l6], .int x :: st) σ := ev_p ((TP_53 _).trans rfl) rfl
theorem I_53 :
  (∀ (L : ri_L) (st : List Value) (σ : ri_S), ev 53 (0, L, st) σ = ev 53 (1, L, .int 0 :: st) σ) ∧
  (∀ (l0 l1 l2 l3 l4 l5 l6 : Option Value) (st : List Value) (σ : ri_S) (x : Int32), ev 53 (1, [l0, l1, l2, l3, l4, l5, l6], .int x :: st) σ = ev 53 (3, [l0, l1, l2, ri_clr l3, some (.int x), l5, l6], st) σ) ∧
  (∀ (l0 l2 l3 l4 l5 l6 : Option Value) (st : List Value) (σ : ri_S) (x : Int32), ev 53 (5, [l0, some (.int x), l2, l3, l4, l5, l6], st) σ = ev 53 (6, [l0, some (.int x), l2, l3, l4, l5, l6], .int x :: st) σ) ∧
  (∀ (L : ri_L) (st : List Value) (σ : ri_S) (x y : Int32), ev 53 (6, L, .int y :: .int x :: st) σ = if y ≤ x then ev 53 (52, L, st) σ else ev 53 (9, L, st) σ) ∧
  (∀ (l0 l2 l3 l4 l5 l6 : Option Value) (st : List Value) (σ : ri_S) (x : Int32), ev 53 (9, [l0, some (.int x), l2, l3, l4, l5, l6], st) σ = ev 53 (10, [l0, some (.int x), l2, l3, l4, l5, l6], .int x :: st) σ) ∧
  (∀ (L : ri_L) (st : List Value) (σ : ri_S), ev 53 (10, L, st) σ = ev 53 (11, L, .int 1 :: st) σ) ∧
  (∀ (L : ri_L) (st : List Value) (σ : ri_S) (x y : Int32), ev 53 (11, L, .int y :: .int x :: st) σ = ev 53 (12, L, .int (x - y) :: st) σ) ∧
  (∀ (l0 l1 l2 l3 l5 l6 : Option Value) (st : List Value) (σ : ri_S) (x : Int32), ev 53 (12, [l0, l1, l2, l3, some (.int x), l5, l6], st) σ = ev 53 (14, [l0, l1, l2, l3, some (.int x), l5, l6], .int x :: st) σ) ∧
  (∀ (L : ri_L) (st : List Value) (σ : ri_S) (x y : Int32), ev 53 (14, L, .int y :: .int x :: st) σ = ev 53 (15, L, .int (x - y) :: st) σ) ∧
  (∀ (L : ri_L) (σ : ri_S) (a0 : Int32), ev 53 (15, L, [.int a0]) σ = (cal 52 [.int a0] σ).bind fun q => ev 53 (18, L, q.1.toList ++ []) q.2) ∧
  (∀ (l0 l1 l2 l3 l4 l5 l6 : Option Value) (st : List Value) (σ : ri_S) (x : Int64), ev 53 (18, [l0, l1, l2, l3, l4, l5, l6], .long x :: st) σ = ev 53 (20, [l0, l1, l2, l3, ri_clr l4, some (.long x), none], st) σ) ∧
  (∀ (l0 l1 l2 l3 l4 l6 : Option Value) (st : List Value) (σ : ri_S) (x : Int64), ev 53 (20, [l0, l1, l2, l3, l4, some (.long x), l6], st) σ = ev 53 (22, [l0, l1, l2, l3, l4, some (.long x), l6], .long x :: st) σ) ∧
  (∀ (L : ri_L) (st : List Value) (σ : ri_S), ev 53 (22, L, st) σ = ev 53 (23, L, .long 0 :: st) σ) ∧
  (∀ (L : ri_L) (st : List Value) (σ : ri_S) (x y : Int64), ev 53 (23, L, .long y :: .long x :: st) σ = ev 53 (24, L, .int (lg_cmp x y) :: st) σ) ∧
  (∀ (L : ri_L) (st : List Value) (σ : ri_S) (x : Int32), ev 53 (24, L, .int x :: st) σ = if x ≤ 0 then ev 53 (46, L, st) σ else ev 53 (27, L, st) σ) ∧
  (∀ (l1 l2 l3 l4 l5 l6 : Option Value) (st : List Value) (σ : ri_S) (x : Nat), ev 53 (27, [some (.ref x), l1, l2, l3, l4, l5, l6], st) σ = ev 53 (28, [some (.ref x), l1, l2, l3, l4, l5, l6], .ref x :: st) σ) ∧
  (∀ (l0 l1 l3 l4 l5 l6 : Option Value) (st : List Value) (σ : ri_S) (x : Int64), ev 53 (28, [l0, l1, some (.long x), l3, l4, l5, l6], st) σ = ev 53 (29, [l0, l1, some (.long x), l3, l4, l5, l6], .long x :: st) σ) ∧
  (∀ (l0 l1 l2 l3 l4 l6 : Option Value) (st : List Value) (σ : ri_S) (x : Int64), ev 53 (29, [l0, l1, l2, l3, l4, some (.long x), l6], st) σ = ev 53 (31, [l0, l1, l2, l3, l4, some (.long x), l6], .long x :: st) σ) ∧
  (∀ (L : ri_L) (st : List Value) (σ : ri_S) (x y : Int64), ev 53 (31, L, .long y :: .long x :: st) σ = if y = 0 then none else ev 53 (32, L, .long (x / y) :: st) σ) ∧
  (∀ (L : ri_L) (st : List Value) (σ : ri_S), ev 53 (32, L, st) σ = ev 53 (35, L, .long 100000 :: st) σ) ∧
  (∀ (L : ri_L) (st : List Value) (σ : ri_S) (x y : Int64), ev 53 (35, L, .long y :: .long x :: st) σ = if y = 0 then none else ev 53 (36, L, .long (x - x / y * y) :: st) σ) ∧
  (∀ (L : ri_L) (st : List Value) (σ : ri_S) (x : Int64), ev 53 (36, L, .long x :: st) σ = ev 53 (37, L, .int x.toInt32 :: st) σ) ∧
  (∀ (L : ri_L) (σ : ri_S) (a0 : Nat) (a1 : Int32), ev 53 (37, L, [.int a1, .ref a0]) σ = (cal 54 [.ref a0, .int a1] σ).bind fun q => ev 53 (40, L, q.1.toList ++ []) q.2) ∧
  (∀ (L : ri_L) (st : List Value) (σ : ri_S) (x : Int32), ev 53 (40, L, .int x :: st) σ = if ¬ x = 0 then ev 53 (46, L, st) σ else ev 53 (43, L, st) σ) ∧
  (∀ (l0 l1 l2 l3 l5 l6 : Option Value) (st : List Value) (σ : ri_S) (x : Int32), ev 53 (43, [l0, l1, l2, l3, some (.int x), l5, l6], st) σ = ev 53 (45, [l0, l1, l2, l3, some (.int x), l5, l6], .int x :: st) σ) ∧
  (∀ (L : ri_L) (σ : ri_S) (x : Int32), ev 53 (45, L, [.int x]) σ = some (some (.int x), σ)) ∧
  (∀ (l0 l1 l2 l3 l5 l6 : Option Value) (st : List Value) (σ : ri_S) (x : Int32), ev 53 (46, [l0, l1, l2, l3, some (.int x), l5, l6], st) σ = ev 53 (49, [l0, l1, l2, ri_clr l3, some (.int (x + 1)), l5, l6], st) σ) ∧
  (∀ (L : ri_L) (st : List Value) (σ : ri_S), ev 53 (49, L, st) σ = ev 53 (3, L, st) σ) ∧
  (∀ (L : ri_L) (st : List Value) (σ : ri_S), ev 53 (52, L, st) σ = ev 53 (53, L, .int (-1) :: st) σ) ∧
  (∀ (L : ri_L) (σ : ri_S) (x : Int32), ev 53 (53, L, [.int x]) σ = some (some (.int x), σ)) :=
  ⟨fun L st σ => ev_p ((TP_53 _).trans rfl) rfl,
   fun l0 l1 l2 l3 l4 l5 l6 st σ x => ev_p ((TP_53 _).trans rfl) rfl,
   fun l0 l2 l3 l4 l5 l6 st σ x => ev_p ((TP_53 _).trans rfl) rfl,
   fun L st σ x y => ev_b ((TP_53 _).trans rfl) rfl,
   fun l0 l2 l3 l4 l5 l6 st σ x => ev_p ((TP_53 _).trans rfl) rfl,
   fun L st σ => ev_p ((TP_53 _).trans rfl) rfl,
   fun L st σ x y => ev_p ((TP_53 _).trans rfl) rfl,
   fun l0 l1 l2 l3 l5 l6 st σ x => ev_p ((TP_53 _).trans rfl) rfl,
   fun L st σ x y => ev_p ((TP_53 _).trans rfl) rfl,
   fun L σ a0 => ev_call ((TP_53 _).trans rfl) rfl rfl rfl rfl,
   fun l0 l1 l2 l3 l4 l5 l6 st σ x => ev_p ((TP_53 _).trans rfl) rfl,
   fun l0 l1 l2 l3 l4 l6 st σ x => ev_p ((TP_53 _).trans rfl) rfl,
   fun L st σ => ev_p ((TP_53 _).trans rfl) rfl,
   fun L st σ x y => ev_p ((TP_53 _).trans rfl) rfl,
   fun L st σ x => ev_b ((TP_53 _).trans rfl) rfl,
   fun l1 l2 l3 l4 l5 l6 st σ x => ev_p ((TP_53 _).trans rfl) rfl,
   fun l0 l1 l3 l4 l5 l6 st σ x => ev_p ((TP_53 _).trans rfl) rfl,
   fun l0 l1 l2 l3 l4 l6 st σ x => ev_p ((TP_53 _).trans rfl) rfl,
   fun L st σ x y => ev_dl ((TP_53 _).trans rfl) rfl,
   fun L st σ => ev_p ((TP_53 _).trans rfl) rfl,
   fun L st σ x y => ev_dl ((TP_53 _).trans rfl) rfl,
   fun L st σ x => ev_p ((TP_53 _).trans rfl) rfl,
   fun L σ a0 a1 => ev_call ((TP_53 _).trans rfl) rfl rfl rfl rfl,
   fun L st σ x => ev_b ((TP_53 _).trans rfl) rfl,
   fun l0 l1 l2 l3 l5 l6 st σ x => ev_p ((TP_53 _).trans rfl) rfl,
   fun L σ x => ev_r ((TP_53 _).trans rfl) rfl,
   fun l0 l1 l2 l3 l5 l6 st σ x => ev_p ((TP_53 _).trans rfl) rfl,
   fun L st σ => ev_p ((TP_53 _).trans rfl) rfl,
   fun L st σ => ev_p ((TP_53 _).trans rfl) rfl,
   fun L σ x => ev_r ((TP_53 _).trans rfl) rfl⟩
theorem TP_54 (pc : Nat) : TT 54 pc = ri_find TL_54 pc := rfl
theorem E_54 (x0 : Nat) (x1 : Int32) (σ : ri_S) : cal 54 [.ref x0, .int x1] σ = ev 54 (0, [some (.ref x0), some (.int x1), none, none, none, none], []) σ := rfl
theorem I_54_0 :
  (∀ (l0 l2 l3 l4 l5 : Option Value) (st : List Value) (σ : ri_S) (x : Int32), ev 54 (0, [l0, some (.int x), l2, l3, l4, l5], st) σ = ev 54 (1, [l0, some (.int x), l2, l3, l4, l5], .int x :: st) σ) ∧
  (∀ (L : ri_L) (st : List Value) (σ : ri_S), ev 54 (1, L, st) σ = ev 54 (4, L, .int 1000 :: st) σ) ∧
  (∀ (L : ri_L) (st : List Value) (σ : ri_S) (x y : Int32), ev 54 (4, L, .int y :: .int x :: st) σ = if y = 0 then none else ev 54 (5, L, .int (x / y) :: st) σ) ∧
  (∀ (L : ri_L) (st : List Value) (σ : ri_S), ev 54 (5, L, st) σ = ev 54 (7, L, .int 10 :: st) σ) ∧
  (∀ (L : ri_L) (st : List Value) (σ : ri_S) (x y : Int32), ev 54 (7, L, .int y :: .int x :: st) σ = if y = 0 then none else ev 54 (8, L, .int (x - x / y * y) :: st) σ) ∧
  (∀ (l0 l1 l2 l3 l4 l5 : Option Value) (st : List Value) (σ : ri_S) (x : Int32), ev 54 (8, [l0, l1, l2, l3, l4, l5], .int x :: st) σ = ev 54 (9, [l0, ri_clr l1, some (.int x), l3, l4, l5], st) σ) ∧
  (∀ (l0 l2 l3 l4 l5 : Option Value) (st : List Value) (σ : ri_S) (x : Int32), ev 54 (9, [l0, some (.int x), l2, l3, l4, l5], st) σ = ev 54 (10, [l0, some (.int x), l2, l3, l4, l5], .int x :: st) σ) ∧
  (∀ (L : ri_L) (st : List Value) (σ : ri_S), ev 54 (10, L, st) σ = ev 54 (12, L, .int 100 :: st) σ) ∧
  (∀ (L : ri_L) (st : List Value) (σ : ri_S) (x y : Int32), ev 54 (12, L, .int y :: .int x :: st) σ = if y = 0 then none else ev 54 (13, L, .int (x / y) :: st) σ) ∧
  (∀ (L : ri_L) (st : List Value) (σ : ri_S), ev 54 (13, L, st) σ = ev 54 (15, L, .int 10 :: st) σ) ∧
  (∀ (L : ri_L) (st : List Value) (σ : ri_S) (x y : Int32), ev 54 (15, L, .int y :: .int x :: st) σ = if y = 0 then none else ev 54 (16, L, .int (x - x / y * y) :: st) σ) ∧
  (∀ (l0 l1 l2 l3 l4 l5 : Option Value) (st : List Value) (σ : ri_S) (x : Int32), ev 54 (16, [l0, l1, l2, l3, l4, l5], .int x :: st) σ = ev 54 (17, [l0, l1, ri_clr l2, some (.int x), l4, l5], st) σ) ∧
  (∀ (l0 l2 l3 l4 l5 : Option Value) (st : List Value) (σ : ri_S) (x : Int32), ev 54 (17, [l0, some (.int x), l2, l3, l4, l5], st) σ = ev 54 (18, [l0, some (.int x), l2, l3, l4, l5], .int x :: st) σ) ∧
  (∀ (L : ri_L) (st : List Value) (σ : ri_S), ev 54 (18, L, st) σ = ev 54 (20, L, .int 10 :: st) σ) ∧
  (∀ (L : ri_L) (st : List Value) (σ : ri_S) (x y : Int32), ev 54 (20, L, .int y :: .int x :: st) σ = if y = 0 then none else ev 54 (21, L, .int (x / y) :: st) σ) ∧
  (∀ (L : ri_L) (st : List Value) (σ : ri_S), ev 54 (21, L, st) σ = ev 54 (23, L, .int 10 :: st) σ) ∧
  (∀ (L : ri_L) (st : List Value) (σ : ri_S) (x y : Int32), ev 54 (23, L, .int y :: .int x :: st) σ = if y = 0 then none else ev 54 (24, L, .int (x - x / y * y) :: st) σ) ∧
  (∀ (l0 l1 l2 l3 l4 l5 : Option Value) (st : List Value) (σ : ri_S) (x : Int32), ev 54 (24, [l0, l1, l2, l3, l4, l5], .int x :: st) σ = ev 54 (26, [l0, l1, l2, ri_clr l3, some (.int x), l5], st) σ) ∧
  (∀ (l0 l2 l3 l4 l5 : Option Value) (st : List Value) (σ : ri_S) (x : Int32), ev 54 (26, [l0, some (.int x), l2, l3, l4, l5], st) σ = ev 54 (27, [l0, some (.int x), l2, l3, l4, l5], .int x :: st) σ) ∧
  (∀ (L : ri_L) (st : List Value) (σ : ri_S), ev 54 (27, L, st) σ = ev 54 (29, L, .int 10 :: st) σ) ∧
  (∀ (L : ri_L) (st : List Value) (σ : ri_S) (x y : Int32), ev 54 (29, L, .int y :: .int x :: st) σ = if y = 0 then none else ev 54 (30, L, .int (x - x / y * y) :: st) σ) ∧
  (∀ (l0 l1 l2 l3 l4 l5 : Option Value) (st : List Value) (σ : ri_S) (x : Int32), ev 54 (30, [l0, l1, l2, l3, l4, l5], .int x :: st) σ = ev 54 (32, [l0, l1, l2, l3, ri_clr l4, some (.int x)], st) σ) ∧
  (∀ (l0 l2 l3 l4 l5 : Option Value) (st : List Value) (σ : ri_S) (x : Int32), ev 54 (32, [l0, some (.int x), l2, l3, l4, l5], st) σ = ev 54 (33, [l0, some (.int x), l2, l3, l4, l5], .int x :: st) σ) ∧
  (∀ (L : ri_L) (st : List Value) (σ : ri_S), ev 54 (33, L, st) σ = ev 54 (36, L, .int 10000 :: st) σ) ∧
  (∀ (L : ri_L) (st : List Value) (σ : ri_S) (x y : Int32), ev 54 (36, L, .int y :: .int x :: st) σ = if y = 0 then none else ev 54 (37, L, .int (x / y) :: st) σ) ∧
  (∀ (L : ri_L) (st : List Value) (σ : ri_S) (x : Int32), ev 54 (37, L, .int x :: st) σ = if x = 1 then ev 54 (64, L, st) σ else if x = 2 then ev 54 (90, L, st) σ else if x = 3 then ev 54 (119, L, st) σ else ev 54 (146, L, st) σ) ∧
  (∀ (l0 l1 l2 l3 l4 : Option Value) (st : List Value) (σ : ri_S) (x : Int32), ev 54 (64, [l0, l1, l2, l3, l4, some (.int x)], st) σ = ev 54 (66, [l0, l1, l2, l3, l4, some (.int x)], .int x :: st) σ) ∧
  (∀ (L : ri_L) (st : List Value) (σ : ri_S) (x : Int32), ev 54 (66, L, .int x :: st) σ = if ¬ x = 0 then ev 54 (88, L, st) σ else ev 54 (69, L, st) σ) ∧
  (∀ (l1 l2 l3 l4 l5 : Option Value) (st : List Value) (σ : ri_S) (x : Nat), ev 54 (69, [some (.ref x), l1, l2, l3, l4, l5], st) σ = ev 54 (70, [some (.ref x), l1, l2, l3, l4, l5], .ref x :: st) σ) ∧
  (∀ (l0 l1 l3 l4 l5 : Option Value) (st : List Value) (σ : ri_S) (x : Int32), ev 54 (70, [l0, l1, some (.int x), l3, l4, l5], st) σ = ev 54 (71, [l0, l1, some (.int x), l3, l4, l5], .int x :: st) σ) ∧
  (∀ (L : ri_L) (st : List Value) (σ : ri_S), ev 54 (71, L, st) σ = ev 54 (73, L, .int 10 :: st) σ) ∧
  (∀ (l0 l1 l2 l4 l5 : Option Value) (st : List Value) (σ : ri_S) (x : Int32), ev 54 (73, [l0, l1, l2, some (.int x), l4, l5], st) σ = ev 54 (74, [l0, l1, l2, some (.int x), l4, l5], .int x :: st) σ) ∧
  (∀ (L : ri_L) (st : List Value) (σ : ri_S) (x y : Int32), ev 54 (74, L, .int y :: .int x :: st) σ = ev 54 (75, L, .int (x * y) :: st) σ) ∧
  (∀ (l0 l1 l2 l3 l5 : Option Value) (st : List Value) (σ : ri_S) (x : Int32), ev 54 (75, [l0, l1, l2, l3, some (.int x), l5], st) σ = ev 54 (77, [l0, l1, l2, l3, some (.int x), l5], .int x :: st) σ) ∧
  (∀ (L : ri_L) (st : List Value) (σ : ri_S) (x y : Int32), ev 54 (77, L, .int y :: .int x :: st) σ = ev 54 (78, L, .int (x + y) :: st) σ) ∧
  (∀ (L : ri_L) (σ : ri_S) (a0 : Nat) (a1 : Int32) (a2 : Int32), ev 54 (78, L, [.int a2, .int a1, .ref a0]) σ = tv_k 3 (σ.1 a0) ((cal 41 [.ref a0, .int a1, .int a2] σ).bind fun q => ev 54 (81, L, q.1.toList ++ []) q.2)) ∧
  (∀ (L : ri_L) (st : List Value) (σ : ri_S) (x : Int32), ev 54 (81, L, .int x :: st) σ = if ¬ x = 0 then ev 54 (88, L, st) σ else ev 54 (84, L, st) σ) ∧
  (∀ (L : ri_L) (st : List Value) (σ : ri_S), ev 54 (84, L, st) σ = ev 54 (85, L, .int 1 :: st) σ) ∧
  (∀ (L : ri_L) (st : List Value) (σ : ri_S), ev 54 (85, L, st) σ = ev 54 (89, L, st) σ) ∧
  (∀ (L : ri_L) (st : List Value) (σ : ri_S), ev 54 (88, L, st) σ = ev 54 (89, L, .int 0 :: st) σ) :=
  ⟨fun l0 l2 l3 l4 l5 st σ x => ev_p ((TP_54 _).trans rfl) rfl,
   fun L st σ => ev_p ((TP_54 _).trans rfl) rfl,
   fun L st σ x y => ev_d ((TP_54 _).trans rfl) rfl,
   fun L st σ => ev_p ((TP_54 _).trans rfl) rfl,
   fun L st σ x y => ev_d ((TP_54 _).trans rfl) rfl,
   fun l0 l1 l2 l3 l4 l5 st σ x => ev_p ((TP_54 _).trans rfl) rfl,
   fun l0 l2 l3 l4 l5 st σ x => ev_p ((TP_54 _).trans rfl) rfl,
   fun L st σ => ev_p ((TP_54 _).trans rfl) rfl,
   fun L st σ x y => ev_d ((TP_54 _).trans rfl) rfl,
   fun L st σ => ev_p ((TP_54 _).trans rfl) rfl,
   fun L st σ x y => ev_d ((TP_54 _).trans rfl) rfl,
   fun l0 l1 l2 l3 l4 l5 st σ x => ev_p ((TP_54 _).trans rfl) rfl,
   fun l0 l2 l3 l4 l5 st σ x => ev_p ((TP_54 _).trans rfl) rfl,
   fun L st σ => ev_p ((TP_54 _).trans rfl) rfl,
   fun L st σ x y => ev_d ((TP_54 _).trans rfl) rfl,
   fun L st σ => ev_p ((TP_54 _).trans rfl) rfl,
   fun L st σ x y => ev_d ((TP_54 _).trans rfl) rfl,
   fun l0 l1 l2 l3 l4 l5 st σ x => ev_p ((TP_54 _).trans rfl) rfl,
   fun l0 l2 l3 l4 l5 st σ x => ev_p ((TP_54 _).trans rfl) rfl,
   fun L st σ => ev_p ((TP_54 _).trans rfl) rfl,
   fun L st σ x y => ev_d ((TP_54 _).trans rfl) rfl,
   fun l0 l1 l2 l3 l4 l5 st σ x => ev_p ((TP_54 _).trans rfl) rfl,
   fun l0 l2 l3 l4 l5 st σ x => ev_p ((TP_54 _).trans rfl) rfl,
   fun L st σ => ev_p ((TP_54 _).trans rfl) rfl,
   fun L st σ x y => ev_d ((TP_54 _).trans rfl) rfl,
   fun L st σ x => (ev_sw (lo := 1) (ts := [64, 90, 119]) (d := 146) ((TP_54 _).trans rfl)).trans (by simp only [ev_tab, ev_tab0, show (1 : Int32) + 1 = 2 from rfl, show (2 : Int32) + 1 = 3 from rfl, show (3 : Int32) + 1 = 4 from rfl]),
   fun l0 l1 l2 l3 l4 st σ x => ev_p ((TP_54 _).trans rfl) rfl,
   fun L st σ x => ev_b ((TP_54 _).trans rfl) rfl,
   fun l1 l2 l3 l4 l5 st σ x => ev_p ((TP_54 _).trans rfl) rfl,
   fun l0 l1 l3 l4 l5 st σ x => ev_p ((TP_54 _).trans rfl) rfl,
   fun L st σ => ev_p ((TP_54 _).trans rfl) rfl,
   fun l0 l1 l2 l4 l5 st σ x => ev_p ((TP_54 _).trans rfl) rfl,
   fun L st σ x y => ev_p ((TP_54 _).trans rfl) rfl,
   fun l0 l1 l2 l3 l5 st σ x => ev_p ((TP_54 _).trans rfl) rfl,
   fun L st σ x y => ev_p ((TP_54 _).trans rfl) rfl,
   fun L σ a0 a1 a2 => ev_callv ((TP_54 _).trans rfl) rfl rfl rfl rfl,
   fun L st σ x => ev_b ((TP_54 _).trans rfl) rfl,
   fun L st σ => ev_p ((TP_54 _).trans rfl) rfl,
   fun L st σ => ev_p ((TP_54 _).trans rfl) rfl,
   fun L st σ => ev_p ((TP_54 _).trans rfl) rfl⟩
theorem I_54_1 :
  (∀ (L : ri_L) (σ : ri_S) (x : Int32), ev 54 (89, L, [.int x]) σ = tv_b x (some (some (.int x), σ))) ∧
  (∀ (l0 l1 l2 l3 l5 : Option Value) (st : List Value) (σ : ri_S) (x : Int32), ev 54 (90, [l0, l1, l2, l3, some (.int x), l5], st) σ = ev 54 (92, [l0, l1, l2, l3, some (.int x), l5], .int x :: st) σ) ∧
  (∀ (L : ri_L) (st : List Value) (σ : ri_S) (x : Int32), ev 54 (92, L, .int x :: st) σ = if ¬ x = 0 then ev 54 (117, L, st) σ else ev 54 (95, L, st) σ) ∧
  (∀ (l0 l1 l2 l3 l4 : Option Value) (st : List Value) (σ : ri_S) (x : Int32), ev 54 (95, [l0, l1, l2, l3, l4, some (.int x)], st) σ = ev 54 (97, [l0, l1, l2, l3, l4, some (.int x)], .int x :: st) σ) ∧
  (∀ (L : ri_L) (st : List Value) (σ : ri_S) (x : Int32), ev 54 (97, L, .int x :: st) σ = if ¬ x = 0 then ev 54 (117, L, st) σ else ev 54 (100, L, st) σ) ∧
  (∀ (l1 l2 l3 l4 l5 : Option Value) (st : List Value) (σ : ri_S) (x : Nat), ev 54 (100, [some (.ref x), l1, l2, l3, l4, l5], st) σ = ev 54 (101, [some (.ref x), l1, l2, l3, l4, l5], .ref x :: st) σ) ∧
  (∀ (l0 l1 l3 l4 l5 : Option Value) (st : List Value) (σ : ri_S) (x : Int32), ev 54 (101, [l0, l1, some (.int x), l3, l4, l5], st) σ = ev 54 (102, [l0, l1, some (.int x), l3, l4, l5], .int x :: st) σ) ∧
  (∀ (L : ri_L) (st : List Value) (σ : ri_S), ev 54 (102, L, st) σ = ev 54 (103, L, .int 2 :: st) σ) ∧
  (∀ (l0 l1 l2 l4 l5 : Option Value) (st : List Value) (σ : ri_S) (x : Int32), ev 54 (103, [l0, l1, l2, some (.int x), l4, l5], st) σ = ev 54 (104, [l0, l1, l2, some (.int x), l4, l5], .int x :: st) σ) ∧
  (∀ (L : ri_L) (st : List Value) (σ : ri_S) (x y : Int32), ev 54 (104, L, .int y :: .int x :: st) σ = ev 54 (105, L, .int (x * y) :: st) σ) ∧
  (∀ (L : ri_L) (st : List Value) (σ : ri_S), ev 54 (105, L, st) σ = ev 54 (106, L, .int 1 :: st) σ) ∧
  (∀ (L : ri_L) (st : List Value) (σ : ri_S) (x y : Int32), ev 54 (106, L, .int y :: .int x :: st) σ = ev 54 (107, L, .int (x - y) :: st) σ) ∧
  (∀ (L : ri_L) (σ : ri_S) (a0 : Nat) (a1 : Int32) (a2 : Int32), ev 54 (107, L, [.int a2, .int a1, .ref a0]) σ = tv_k 3 (σ.1 a0) ((cal 42 [.ref a0, .int a1, .int a2] σ).bind fun q => ev 54 (110, L, q.1.toList ++ []) q.2)) ∧
  (∀ (L : ri_L) (st : List Value) (σ : ri_S) (x : Int32), ev 54 (110, L, .int x :: st) σ = if ¬ x = 0 then ev 54 (117, L, st) σ else ev 54 (113, L, st) σ) ∧
  (∀ (L : ri_L) (st : List Value) (σ : ri_S), ev 54 (113, L, st) σ = ev 54 (114, L, .int 1 :: st) σ) ∧
  (∀ (L : ri_L) (st : List Value) (σ : ri_S), ev 54 (114, L, st) σ = ev 54 (118, L, st) σ) ∧
  (∀ (L : ri_L) (st : List Value) (σ : ri_S), ev 54 (117, L, st) σ = ev 54 (118, L, .int 0 :: st) σ) ∧
  (∀ (L : ri_L) (σ : ri_S) (x : Int32), ev 54 (118, L, [.int x]) σ = tv_b x (some (some (.int x), σ))) ∧
  (∀ (l0 l1 l2 l4 l5 : Option Value) (st : List Value) (σ : ri_S) (x : Int32), ev 54 (119, [l0, l1, l2, some (.int x), l4, l5], st) σ = ev 54 (120, [l0, l1, l2, some (.int x), l4, l5], .int x :: st) σ) ∧
  (∀ (L : ri_L) (st : List Value) (σ : ri_S) (x : Int32), ev 54 (120, L, .int x :: st) σ = if ¬ x = 0 then ev 54 (144, L, st) σ else ev 54 (123, L, st) σ) ∧
  (∀ (l0 l1 l2 l3 l5 : Option Value) (st : List Value) (σ : ri_S) (x : Int32), ev 54 (123, [l0, l1, l2, l3, some (.int x), l5], st) σ = ev 54 (125, [l0, l1, l2, l3, some (.int x), l5], .int x :: st) σ) ∧
  (∀ (L : ri_L) (st : List Value) (σ : ri_S) (x : Int32), ev 54 (125, L, .int x :: st) σ = if ¬ x = 0 then ev 54 (144, L, st) σ else ev 54 (128, L, st) σ) ∧
  (∀ (l1 l2 l3 l4 l5 : Option Value) (st : List Value) (σ : ri_S) (x : Nat), ev 54 (128, [some (.ref x), l1, l2, l3, l4, l5], st) σ = ev 54 (129, [some (.ref x), l1, l2, l3, l4, l5], .ref x :: st) σ) ∧
  (∀ (l0 l1 l3 l4 l5 : Option Value) (st : List Value) (σ : ri_S) (x : Int32), ev 54 (129, [l0, l1, some (.int x), l3, l4, l5], st) σ = ev 54 (130, [l0, l1, some (.int x), l3, l4, l5], .int x :: st) σ) ∧
  (∀ (l0 l1 l2 l3 l4 : Option Value) (st : List Value) (σ : ri_S) (x : Int32), ev 54 (130, [l0, l1, l2, l3, l4, some (.int x)], st) σ = ev 54 (132, [l0, l1, l2, l3, l4, some (.int x)], .int x :: st) σ) ∧
  (∀ (L : ri_L) (st : List Value) (σ : ri_S), ev 54 (132, L, st) σ = ev 54 (133, L, .int 4 :: st) σ) ∧
  (∀ (L : ri_L) (st : List Value) (σ : ri_S) (x y : Int32), ev 54 (133, L, .int y :: .int x :: st) σ = ev 54 (134, L, .int (x - y) :: st) σ) ∧
  (∀ (L : ri_L) (σ : ri_S) (a0 : Nat) (a1 : Int32) (a2 : Int32), ev 54 (134, L, [.int a2, .int a1, .ref a0]) σ = tv_k 3 (σ.1 a0) ((cal 34 [.ref a0, .int a1, .int a2] σ).bind fun q => ev 54 (137, L, q.1.toList ++ []) q.2)) ∧
  (∀ (L : ri_L) (st : List Value) (σ : ri_S) (x : Int32), ev 54 (137, L, .int x :: st) σ = if x = 0 then ev 54 (144, L, st) σ else ev 54 (140, L, st) σ) ∧
  (∀ (L : ri_L) (st : List Value) (σ : ri_S), ev 54 (140, L, st) σ = ev 54 (141, L, .int 1 :: st) σ) ∧
  (∀ (L : ri_L) (st : List Value) (σ : ri_S), ev 54 (141, L, st) σ = ev 54 (145, L, st) σ) ∧
  (∀ (L : ri_L) (st : List Value) (σ : ri_S), ev 54 (144, L, st) σ = ev 54 (145, L, .int 0 :: st) σ) ∧
  (∀ (L : ri_L) (σ : ri_S) (x : Int32), ev 54 (145, L, [.int x]) σ = tv_b x (some (some (.int x), σ))) ∧
  (∀ (l1 l2 l3 l4 l5 : Option Value) (st : List Value) (σ : ri_S) (x : Nat), ev 54 (146, [some (.ref x), l1, l2, l3, l4, l5], st) σ = ev 54 (147, [some (.ref x), l1, l2, l3, l4, l5], .ref x :: st) σ) ∧
  (∀ (l0 l2 l3 l4 l5 : Option Value) (st : List Value) (σ : ri_S) (x : Int32), ev 54 (147, [l0, some (.int x), l2, l3, l4, l5], st) σ = ev 54 (148, [l0, some (.int x), l2, l3, l4, l5], .int x :: st) σ) ∧
  (∀ (L : ri_L) (σ : ri_S) (a0 : Nat) (a1 : Int32), ev 54 (148, L, [.int a1, .ref a0]) σ = (cal 55 [.ref a0, .int a1] σ).bind fun q => ev 54 (151, L, q.1.toList ++ []) q.2) ∧
  (∀ (L : ri_L) (σ : ri_S) (x : Int32), ev 54 (151, L, [.int x]) σ = tv_b x (some (some (.int x), σ))) :=
  ⟨fun L σ x => ev_r ((TP_54 _).trans rfl) rfl,
   fun l0 l1 l2 l3 l5 st σ x => ev_p ((TP_54 _).trans rfl) rfl,
   fun L st σ x => ev_b ((TP_54 _).trans rfl) rfl,
   fun l0 l1 l2 l3 l4 st σ x => ev_p ((TP_54 _).trans rfl) rfl,
   fun L st σ x => ev_b ((TP_54 _).trans rfl) rfl,
   fun l1 l2 l3 l4 l5 st σ x => ev_p ((TP_54 _).trans rfl) rfl,
   fun l0 l1 l3 l4 l5 st σ x => ev_p ((TP_54 _).trans rfl) rfl,
   fun L st σ => ev_p ((TP_54 _).trans rfl) rfl,
   fun l0 l1 l2 l4 l5 st σ x => ev_p ((TP_54 _).trans rfl) rfl,
   fun L st σ x y => ev_p ((TP_54 _).trans rfl) rfl,
   fun L st σ => ev_p ((TP_54 _).trans rfl) rfl,
   fun L st σ x y => ev_p ((TP_54 _).trans rfl) rfl,
   fun L σ a0 a1 a2 => ev_callv ((TP_54 _).trans rfl) rfl rfl rfl rfl,
   fun L st σ x => ev_b ((TP_54 _).trans rfl) rfl,
   fun L st σ => ev_p ((TP_54 _).trans rfl) rfl,
   fun L st σ => ev_p ((TP_54 _).trans rfl) rfl,
   fun L st σ => ev_p ((TP_54 _).trans rfl) rfl,
   fun L σ x => ev_r ((TP_54 _).trans rfl) rfl,
   fun l0 l1 l2 l4 l5 st σ x => ev_p ((TP_54 _).trans rfl) rfl,
   fun L st σ x => ev_b ((TP_54 _).trans rfl) rfl,
   fun l0 l1 l2 l3 l5 st σ x => ev_p ((TP_54 _).trans rfl) rfl,
   fun L st σ x => ev_b ((TP_54 _).trans rfl) rfl,
   fun l1 l2 l3 l4 l5 st σ x => ev_p ((TP_54 _).trans rfl) rfl,
   fun l0 l1 l3 l4 l5 st σ x => ev_p ((TP_54 _).trans rfl) rfl,
   fun l0 l1 l2 l3 l4 st σ x => ev_p ((TP_54 _).trans rfl) rfl,
   fun L st σ => ev_p ((TP_54 _).trans rfl) rfl,
   fun L st σ x y => ev_p ((TP_54 _).trans rfl) rfl,
   fun L σ a0 a1 a2 => ev_callv ((TP_54 _).trans rfl) rfl rfl rfl rfl,
   fun L st σ x => ev_b ((TP_54 _).trans rfl) rfl,
   fun L st σ => ev_p ((TP_54 _).trans rfl) rfl,
   fun L st σ => ev_p ((TP_54 _).trans rfl) rfl,
   fun L st σ => ev_p ((TP_54 _).trans rfl) rfl,
   fun L σ x => ev_r ((TP_54 _).trans rfl) rfl,
   fun l1 l2 l3 l4 l5 st σ x => ev_p ((TP_54 _).trans rfl) rfl,
   fun l0 l2 l3 l4 l5 st σ x => ev_p ((TP_54 _).trans rfl) rfl,
   fun L σ a0 a1 => ev_call ((TP_54 _).trans rfl) rfl rfl rfl rfl,
   fun L σ x => ev_r ((TP_54 _).trans rfl) rfl⟩
theorem TP_55 (pc : Nat) : TT 55 pc = ri_find TL_55 pc := rfl
theorem E_55 (x0 : Nat) (x1 : Int32) (σ : ri_S) : cal 55 [.ref x0, .int x1] σ = ev 55 (0, [some (.ref x0), some (.int x1), none, none, none, none, none], []) σ := rfl
set_option maxRecDepth 8000 in
theorem I_55_0 :
  (∀ (l0 l2 l3 l4 l5 l6 : Option Value) (st : List Value) (σ : ri_S) (x : Int32), ev 55 (0, [l0, some (.int x), l2, l3, l4, l5, l6], st) σ = ev 55 (1, [l0, some (.int x), l2, l3, l4, l5, l6], .int x :: st) σ) ∧
  (∀ (L : ri_L) (st : List Value) (σ : ri_S), ev 55 (1, L, st) σ = ev 55 (4, L, .int 1000 :: st) σ) ∧
  (∀ (L : ri_L) (st : List Value) (σ : ri_S) (x y : Int32), ev 55 (4, L, .int y :: .int x :: st) σ = if y = 0 then none else ev 55 (5, L, .int (x / y) :: st) σ) ∧
  (∀ (L : ri_L) (st : List Value) (σ : ri_S), ev 55 (5, L, st) σ = ev 55 (7, L, .int 10 :: st) σ) ∧
  (∀ (L : ri_L) (st : List Value) (σ : ri_S) (x y : Int32), ev 55 (7, L, .int y :: .int x :: st) σ = if y = 0 then none else ev 55 (8, L, .int (x - x / y * y) :: st) σ) ∧
  (∀ (l0 l1 l2 l3 l4 l5 l6 : Option Value) (st : List Value) (σ : ri_S) (x : Int32), ev 55 (8, [l0, l1, l2, l3, l4, l5, l6], .int x :: st) σ = ev 55 (9, [l0, ri_clr l1, some (.int x), l3, l4, l5, l6], st) σ) ∧
  (∀ (l0 l2 l3 l4 l5 l6 : Option Value) (st : List Value) (σ : ri_S) (x : Int32), ev 55 (9, [l0, some (.int x), l2, l3, l4, l5, l6], st) σ = ev 55 (10, [l0, some (.int x), l2, l3, l4, l5, l6], .int x :: st) σ) ∧
  (∀ (L : ri_L) (st : List Value) (σ : ri_S), ev 55 (10, L, st) σ = ev 55 (12, L, .int 100 :: st) σ) ∧
  (∀ (L : ri_L) (st : List Value) (σ : ri_S) (x y : Int32), ev 55 (12, L, .int y :: .int x :: st) σ = if y = 0 then none else ev 55 (13, L, .int (x / y) :: st) σ) ∧
  (∀ (L : ri_L) (st : List Value) (σ : ri_S), ev 55 (13, L, st) σ = ev 55 (15, L, .int 10 :: st) σ) ∧
  (∀ (L : ri_L) (st : List Value) (σ : ri_S) (x y : Int32), ev 55 (15, L, .int y :: .int x :: st) σ = if y = 0 then none else ev 55 (16, L, .int (x - x / y * y) :: st) σ) ∧
  (∀ (l0 l1 l2 l3 l4 l5 l6 : Option Value) (st : List Value) (σ : ri_S) (x : Int32), ev 55 (16, [l0, l1, l2, l3, l4, l5, l6], .int x :: st) σ = ev 55 (17, [l0, l1, ri_clr l2, some (.int x), l4, l5, l6], st) σ) ∧
  (∀ (l0 l2 l3 l4 l5 l6 : Option Value) (st : List Value) (σ : ri_S) (x : Int32), ev 55 (17, [l0, some (.int x), l2, l3, l4, l5, l6], st) σ = ev 55 (18, [l0, some (.int x), l2, l3, l4, l5, l6], .int x :: st) σ) ∧
  (∀ (L : ri_L) (st : List Value) (σ : ri_S), ev 55 (18, L, st) σ = ev 55 (20, L, .int 10 :: st) σ) ∧
  (∀ (L : ri_L) (st : List Value) (σ : ri_S) (x y : Int32), ev 55 (20, L, .int y :: .int x :: st) σ = if y = 0 then none else ev 55 (21, L, .int (x / y) :: st) σ) ∧
  (∀ (L : ri_L) (st : List Value) (σ : ri_S), ev 55 (21, L, st) σ = ev 55 (23, L, .int 10 :: st) σ) ∧
  (∀ (L : ri_L) (st : List Value) (σ : ri_S) (x y : Int32), ev 55 (23, L, .int y :: .int x :: st) σ = if y = 0 then none else ev 55 (24, L, .int (x - x / y * y) :: st) σ) ∧
  (∀ (l0 l1 l2 l3 l4 l5 l6 : Option Value) (st : List Value) (σ : ri_S) (x : Int32), ev 55 (24, [l0, l1, l2, l3, l4, l5, l6], .int x :: st) σ = ev 55 (26, [l0, l1, l2, ri_clr l3, some (.int x), l5, l6], st) σ) ∧
  (∀ (l0 l2 l3 l4 l5 l6 : Option Value) (st : List Value) (σ : ri_S) (x : Int32), ev 55 (26, [l0, some (.int x), l2, l3, l4, l5, l6], st) σ = ev 55 (27, [l0, some (.int x), l2, l3, l4, l5, l6], .int x :: st) σ) ∧
  (∀ (L : ri_L) (st : List Value) (σ : ri_S), ev 55 (27, L, st) σ = ev 55 (29, L, .int 10 :: st) σ) ∧
  (∀ (L : ri_L) (st : List Value) (σ : ri_S) (x y : Int32), ev 55 (29, L, .int y :: .int x :: st) σ = if y = 0 then none else ev 55 (30, L, .int (x - x / y * y) :: st) σ) ∧
  (∀ (l0 l1 l2 l3 l4 l5 l6 : Option Value) (st : List Value) (σ : ri_S) (x : Int32), ev 55 (30, [l0, l1, l2, l3, l4, l5, l6], .int x :: st) σ = ev 55 (32, [l0, l1, l2, l3, ri_clr l4, some (.int x), l6], st) σ) ∧
  (∀ (L : ri_L) (st : List Value) (σ : ri_S), ev 55 (32, L, st) σ = ev 55 (34, L, .int 10 :: st) σ) ∧
  (∀ (l0 l1 l2 l3 l5 l6 : Option Value) (st : List Value) (σ : ri_S) (x : Int32), ev 55 (34, [l0, l1, l2, l3, some (.int x), l5, l6], st) σ = ev 55 (36, [l0, l1, l2, l3, some (.int x), l5, l6], .int x :: st) σ) ∧
  (∀ (L : ri_L) (st : List Value) (σ : ri_S) (x y : Int32), ev 55 (36, L, .int y :: .int x :: st) σ = ev 55 (37, L, .int (x * y) :: st) σ) ∧
  (∀ (l0 l1 l2 l3 l4 l6 : Option Value) (st : List Value) (σ : ri_S) (x : Int32), ev 55 (37, [l0, l1, l2, l3, l4, some (.int x), l6], st) σ = ev 55 (39, [l0, l1, l2, l3, l4, some (.int x), l6], .int x :: st) σ) ∧
  (∀ (L : ri_L) (st : List Value) (σ : ri_S) (x y : Int32), ev 55 (39, L, .int y :: .int x :: st) σ = ev 55 (40, L, .int (x + y) :: st) σ) ∧
  (∀ (l0 l1 l2 l3 l4 l5 l6 : Option Value) (st : List Value) (σ : ri_S) (x : Int32), ev 55 (40, [l0, l1, l2, l3, l4, l5, l6], .int x :: st) σ = ev 55 (42, [l0, l1, l2, l3, l4, ri_clr l5, some (.int x)], st) σ) ∧
  (∀ (l0 l2 l3 l4 l5 l6 : Option Value) (st : List Value) (σ : ri_S) (x : Int32), ev 55 (42, [l0, some (.int x), l2, l3, l4, l5, l6], st) σ = ev 55 (43, [l0, some (.int x), l2, l3, l4, l5, l6], .int x :: st) σ) ∧
  (∀ (L : ri_L) (st : List Value) (σ : ri_S), ev 55 (43, L, st) σ = ev 55 (46, L, .int 10000 :: st) σ) ∧
  (∀ (L : ri_L) (st : List Value) (σ : ri_S) (x y : Int32), ev 55 (46, L, .int y :: .int x :: st) σ = if y = 0 then none else ev 55 (47, L, .int (x / y) :: st) σ) ∧
  (∀ (L : ri_L) (st : List Value) (σ : ri_S) (x : Int32), ev 55 (47, L, .int x :: st) σ = if x = 4 then ev 55 (84, L, st) σ else if x = 5 then ev 55 (133, L, st) σ else if x = 6 then ev 55 (175, L, st) σ else if x = 7 then ev 55 (198, L, st) σ else if x = 8 then ev 55 (233, L, st) σ else if x = 9 then ev 55 (271, L, st) σ else ev 55 (308, L, st) σ) ∧
  (∀ (l0 l1 l2 l3 l4 l6 : Option Value) (st : List Value) (σ : ri_S) (x : Int32), ev 55 (84, [l0, l1, l2, l3, l4, some (.int x), l6], st) σ = ev 55 (86, [l0, l1, l2, l3, l4, some (.int x), l6], .int x :: st) σ) ∧
  (∀ (L : ri_L) (st : List Value) (σ : ri_S) (x : Int32), ev 55 (86, L, .int x :: st) σ = if ¬ x = 0 then ev 55 (131, L, st) σ else ev 55 (89, L, st) σ) ∧
  (∀ (l1 l2 l3 l4 l5 l6 : Option Value) (st : List Value) (σ : ri_S) (x : Nat), ev 55 (89, [some (.ref x), l1, l2, l3, l4, l5, l6], st) σ = ev 55 (90, [some (.ref x), l1, l2, l3, l4, l5, l6], .ref x :: st) σ) ∧
  (∀ (L : ri_L) (st : List Value) (σ : ri_S) (a : Nat), ev 55 (90, L, .ref a :: st) σ = tv_o 3 2 (σ.1 a) fun v => ev 55 (93, L, v :: st) σ) ∧
  (∀ (l0 l1 l3 l4 l5 l6 : Option Value) (st : List Value) (σ : ri_S) (x : Int32), ev 55 (93, [l0, l1, some (.int x), l3, l4, l5, l6], st) σ = ev 55 (94, [l0, l1, some (.int x), l3, l4, l5, l6], .int x :: st) σ) ∧
  (∀ (L : ri_L) (σ : ri_S) (a0 : Nat) (a1 : Int32), ev 55 (94, L, [.int a1, .ref a0]) σ = tv_k 0 (σ.1 a0) ((cal 1 [.ref a0, .int a1] σ).bind fun q => ev 55 (97, L, q.1.toList ++ []) q.2)) ∧
  (∀ (L : ri_L) (st : List Value) (σ : ri_S) (x : Int32), ev 55 (97, L, .int x :: st) σ = if x = 0 then ev 55 (131, L, st) σ else ev 55 (100, L, st) σ) ∧
  (∀ (l1 l2 l3 l4 l5 l6 : Option Value) (st : List Value) (σ : ri_S) (x : Nat), ev 55 (100, [some (.ref x), l1, l2, l3, l4, l5, l6], st) σ = ev 55 (101, [some (.ref x), l1, l2, l3, l4, l5, l6], .ref x :: st) σ) :=
  ⟨fun l0 l2 l3 l4 l5 l6 st σ x => ev_p ((TP_55 _).trans rfl) rfl,
   fun L st σ => ev_p ((TP_55 _).trans rfl) rfl,
   fun L st σ x y => ev_d ((TP_55 _).trans rfl) rfl,
   fun L st σ => ev_p ((TP_55 _).trans rfl) rfl,
   fun L st σ x y => ev_d ((TP_55 _).trans rfl) rfl,
   fun l0 l1 l2 l3 l4 l5 l6 st σ x => ev_p ((TP_55 _).trans rfl) rfl,
   fun l0 l2 l3 l4 l5 l6 st σ x => ev_p ((TP_55 _).trans rfl) rfl,
   fun L st σ => ev_p ((TP_55 _).trans rfl) rfl,
   fun L st σ x y => ev_d ((TP_55 _).trans rfl) rfl,
   fun L st σ => ev_p ((TP_55 _).trans rfl) rfl,
   fun L st σ x y => ev_d ((TP_55 _).trans rfl) rfl,
   fun l0 l1 l2 l3 l4 l5 l6 st σ x => ev_p ((TP_55 _).trans rfl) rfl,
   fun l0 l2 l3 l4 l5 l6 st σ x => ev_p ((TP_55 _).trans rfl) rfl,
   fun L st σ => ev_p ((TP_55 _).trans rfl) rfl,
   fun L st σ x y => ev_d ((TP_55 _).trans rfl) rfl,
   fun L st σ => ev_p ((TP_55 _).trans rfl) rfl,
   fun L st σ x y => ev_d ((TP_55 _).trans rfl) rfl,
   fun l0 l1 l2 l3 l4 l5 l6 st σ x => ev_p ((TP_55 _).trans rfl) rfl,
   fun l0 l2 l3 l4 l5 l6 st σ x => ev_p ((TP_55 _).trans rfl) rfl,
   fun L st σ => ev_p ((TP_55 _).trans rfl) rfl,
   fun L st σ x y => ev_d ((TP_55 _).trans rfl) rfl,
   fun l0 l1 l2 l3 l4 l5 l6 st σ x => ev_p ((TP_55 _).trans rfl) rfl,
   fun L st σ => ev_p ((TP_55 _).trans rfl) rfl,
   fun l0 l1 l2 l3 l5 l6 st σ x => ev_p ((TP_55 _).trans rfl) rfl,
   fun L st σ x y => ev_p ((TP_55 _).trans rfl) rfl,
   fun l0 l1 l2 l3 l4 l6 st σ x => ev_p ((TP_55 _).trans rfl) rfl,
   fun L st σ x y => ev_p ((TP_55 _).trans rfl) rfl,
   fun l0 l1 l2 l3 l4 l5 l6 st σ x => ev_p ((TP_55 _).trans rfl) rfl,
   fun l0 l2 l3 l4 l5 l6 st σ x => ev_p ((TP_55 _).trans rfl) rfl,
   fun L st σ => ev_p ((TP_55 _).trans rfl) rfl,
   fun L st σ x y => ev_d ((TP_55 _).trans rfl) rfl,
   fun L st σ x => (ev_sw (lo := 4) (ts := [84, 133, 175, 198, 233, 271]) (d := 308) ((TP_55 _).trans rfl)).trans (by simp only [ev_tab, ev_tab0, show (4 : Int32) + 1 = 5 from rfl, show (5 : Int32) + 1 = 6 from rfl, show (6 : Int32) + 1 = 7 from rfl, show (7 : Int32) + 1 = 8 from rfl, show (8 : Int32) + 1 = 9 from rfl, show (9 : Int32) + 1 = 10 from rfl]),
   fun l0 l1 l2 l3 l4 l6 st σ x => ev_p ((TP_55 _).trans rfl) rfl,
   fun L st σ x => ev_b ((TP_55 _).trans rfl) rfl,
   fun l1 l2 l3 l4 l5 l6 st σ x => ev_p ((TP_55 _).trans rfl) rfl,
   fun L st σ a => ev_getf ((TP_55 _).trans rfl),
   fun l0 l1 l3 l4 l5 l6 st σ x => ev_p ((TP_55 _).trans rfl) rfl,
   fun L σ a0 a1 => ev_callv ((TP_55 _).trans rfl) rfl rfl rfl rfl,
   fun L st σ x => ev_b ((TP_55 _).trans rfl) rfl,
   fun l1 l2 l3 l4 l5 l6 st σ x => ev_p ((TP_55 _).trans rfl) rfl⟩
set_option maxRecDepth 8000 in
theorem I_55_1 :
  (∀ (L : ri_L) (st : List Value) (σ : ri_S) (a : Nat), ev 55 (101, L, .ref a :: st) σ = tv_o 3 0 (σ.1 a) fun v => ev 55 (104, L, v :: st) σ) ∧
  (∀ (l0 l1 l2 l4 l5 l6 : Option Value) (st : List Value) (σ : ri_S) (x : Int32), ev 55 (104, [l0, l1, l2, some (.int x), l4, l5, l6], st) σ = ev 55 (105, [l0, l1, l2, some (.int x), l4, l5, l6], .int x :: st) σ) ∧
  (∀ (l0 l1 l2 l3 l5 l6 : Option Value) (st : List Value) (σ : ri_S) (x : Int32), ev 55 (105, [l0, l1, l2, l3, some (.int x), l5, l6], st) σ = ev 55 (107, [l0, l1, l2, l3, some (.int x), l5, l6], .int x :: st) σ) ∧
  (∀ (L : ri_L) (σ : ri_S) (a0 : Nat) (a1 : Int32) (a2 : Int32), ev 55 (107, L, [.int a2, .int a1, .ref a0]) σ = tv_k 7 (σ.1 a0) ((cal 98 [.ref a0, .int a1, .int a2] σ).bind fun q => ev 55 (110, L, q.1.toList ++ []) q.2)) ∧
  (∀ (L : ri_L) (st : List Value) (σ : ri_S) (x : Int32), ev 55 (110, L, .int x :: st) σ = if x = 0 then ev 55 (131, L, st) σ else ev 55 (113, L, st) σ) ∧
  (∀ (l1 l2 l3 l4 l5 l6 : Option Value) (st : List Value) (σ : ri_S) (x : Nat), ev 55 (113, [some (.ref x), l1, l2, l3, l4, l5, l6], st) σ = ev 55 (114, [some (.ref x), l1, l2, l3, l4, l5, l6], .ref x :: st) σ) ∧
  (∀ (l0 l1 l3 l4 l5 l6 : Option Value) (st : List Value) (σ : ri_S) (x : Int32), ev 55 (114, [l0, l1, some (.int x), l3, l4, l5, l6], st) σ = ev 55 (115, [l0, l1, some (.int x), l3, l4, l5, l6], .int x :: st) σ) ∧
  (∀ (L : ri_L) (σ : ri_S) (a0 : Nat) (a1 : Int32), ev 55 (115, L, [.int a1, .ref a0]) σ = tv_k 3 (σ.1 a0) ((cal 38 [.ref a0, .int a1] σ).bind fun q => ev 55 (118, L, q.1.toList ++ []) q.2)) ∧
  (∀ (l0 l1 l2 l4 l5 l6 : Option Value) (st : List Value) (σ : ri_S) (x : Int32), ev 55 (118, [l0, l1, l2, some (.int x), l4, l5, l6], st) σ = ev 55 (119, [l0, l1, l2, some (.int x), l4, l5, l6], .int x :: st) σ) ∧
  (∀ (l0 l1 l2 l3 l5 l6 : Option Value) (st : List Value) (σ : ri_S) (x : Int32), ev 55 (119, [l0, l1, l2, l3, some (.int x), l5, l6], st) σ = ev 55 (121, [l0, l1, l2, l3, some (.int x), l5, l6], .int x :: st) σ) ∧
  (∀ (L : ri_L) (σ : ri_S) (a0 : Int32) (a1 : Int32) (s0 : Value), ev 55 (121, L, [.int a1, .int a0, s0]) σ = (cal 138 [.int a0, .int a1] σ).bind fun q => ev 55 (124, L, q.1.toList ++ [s0]) q.2) ∧
  (∀ (L : ri_L) (st : List Value) (σ : ri_S) (x y : Int32), ev 55 (124, L, .int y :: .int x :: st) σ = if ¬ x = y then ev 55 (131, L, st) σ else ev 55 (127, L, st) σ) ∧
  (∀ (L : ri_L) (st : List Value) (σ : ri_S), ev 55 (127, L, st) σ = ev 55 (128, L, .int 1 :: st) σ) ∧
  (∀ (L : ri_L) (st : List Value) (σ : ri_S), ev 55 (128, L, st) σ = ev 55 (132, L, st) σ) ∧
  (∀ (L : ri_L) (st : List Value) (σ : ri_S), ev 55 (131, L, st) σ = ev 55 (132, L, .int 0 :: st) σ) ∧
  (∀ (L : ri_L) (σ : ri_S) (x : Int32), ev 55 (132, L, [.int x]) σ = tv_b x (some (some (.int x), σ))) ∧
  (∀ (l0 l1 l2 l4 l5 l6 : Option Value) (st : List Value) (σ : ri_S) (x : Int32), ev 55 (133, [l0, l1, l2, some (.int x), l4, l5, l6], st) σ = ev 55 (134, [l0, l1, l2, some (.int x), l4, l5, l6], .int x :: st) σ) ∧
  (∀ (L : ri_L) (st : List Value) (σ : ri_S) (x : Int32), ev 55 (134, L, .int x :: st) σ = if ¬ x = 0 then ev 55 (173, L, st) σ else ev 55 (137, L, st) σ) ∧
  (∀ (l0 l1 l2 l3 l5 l6 : Option Value) (st : List Value) (σ : ri_S) (x : Int32), ev 55 (137, [l0, l1, l2, l3, some (.int x), l5, l6], st) σ = ev 55 (139, [l0, l1, l2, l3, some (.int x), l5, l6], .int x :: st) σ) ∧
  (∀ (L : ri_L) (st : List Value) (σ : ri_S) (x : Int32), ev 55 (139, L, .int x :: st) σ = if ¬ x = 0 then ev 55 (173, L, st) σ else ev 55 (142, L, st) σ) ∧
  (∀ (l1 l2 l3 l4 l5 l6 : Option Value) (st : List Value) (σ : ri_S) (x : Nat), ev 55 (142, [some (.ref x), l1, l2, l3, l4, l5, l6], st) σ = ev 55 (143, [some (.ref x), l1, l2, l3, l4, l5, l6], .ref x :: st) σ) ∧
  (∀ (L : ri_L) (st : List Value) (σ : ri_S) (a : Nat), ev 55 (143, L, .ref a :: st) σ = tv_o 3 0 (σ.1 a) fun v => ev 55 (146, L, v :: st) σ) ∧
  (∀ (l0 l1 l3 l4 l5 l6 : Option Value) (st : List Value) (σ : ri_S) (x : Int32), ev 55 (146, [l0, l1, some (.int x), l3, l4, l5, l6], st) σ = ev 55 (147, [l0, l1, some (.int x), l3, l4, l5, l6], .int x :: st) σ) ∧
  (∀ (L : ri_L) (σ : ri_S) (a0 : Nat) (a1 : Int32), ev 55 (147, L, [.int a1, .ref a0]) σ = tv_k 7 (σ.1 a0) ((cal 97 [.ref a0, .int a1] σ).bind fun q => ev 55 (150, L, q.1.toList ++ []) q.2)) ∧
  (∀ (L : ri_L) (st : List Value) (σ : ri_S) (x : Int32), ev 55 (150, L, .int x :: st) σ = if x = 0 then ev 55 (173, L, st) σ else ev 55 (153, L, st) σ) ∧
  (∀ (l1 l2 l3 l4 l5 l6 : Option Value) (st : List Value) (σ : ri_S) (x : Nat), ev 55 (153, [some (.ref x), l1, l2, l3, l4, l5, l6], st) σ = ev 55 (154, [some (.ref x), l1, l2, l3, l4, l5, l6], .ref x :: st) σ) ∧
  (∀ (L : ri_L) (st : List Value) (σ : ri_S) (a : Nat), ev 55 (154, L, .ref a :: st) σ = tv_o 3 0 (σ.1 a) fun v => ev 55 (157, L, v :: st) σ) ∧
  (∀ (L : ri_L) (st : List Value) (σ : ri_S) (a : Nat), ev 55 (157, L, .ref a :: st) σ = tv_o 7 4 (σ.1 a) fun v => ev 55 (160, L, v :: st) σ) ∧
  (∀ (l0 l1 l3 l4 l5 l6 : Option Value) (st : List Value) (σ : ri_S) (x : Int32), ev 55 (160, [l0, l1, some (.int x), l3, l4, l5, l6], st) σ = ev 55 (161, [l0, l1, some (.int x), l3, l4, l5, l6], .int x :: st) σ) ∧
  (∀ (L : ri_L) (σ : ri_S) (a0 : Nat) (a1 : Int32), ev 55 (161, L, [.int a1, .ref a0]) σ = (cal 140 [.ref a0, .int a1] σ).bind fun q => ev 55 (164, L, q.1.toList ++ []) q.2) ∧
  (∀ (l0 l1 l2 l3 l4 l6 : Option Value) (st : List Value) (σ : ri_S) (x : Int32), ev 55 (164, [l0, l1, l2, l3, l4, some (.int x), l6], st) σ = ev 55 (166, [l0, l1, l2, l3, l4, some (.int x), l6], .int x :: st) σ) ∧
  (∀ (L : ri_L) (st : List Value) (σ : ri_S) (x y : Int32), ev 55 (166, L, .int y :: .int x :: st) σ = if ¬ x = y then ev 55 (173, L, st) σ else ev 55 (169, L, st) σ) ∧
  (∀ (L : ri_L) (st : List Value) (σ : ri_S), ev 55 (169, L, st) σ = ev 55 (170, L, .int 1 :: st) σ) ∧
  (∀ (L : ri_L) (st : List Value) (σ : ri_S), ev 55 (170, L, st) σ = ev 55 (174, L, st) σ) ∧
  (∀ (L : ri_L) (st : List Value) (σ : ri_S), ev 55 (173, L, st) σ = ev 55 (174, L, .int 0 :: st) σ) ∧
  (∀ (L : ri_L) (σ : ri_S) (x : Int32), ev 55 (174, L, [.int x]) σ = tv_b x (some (some (.int x), σ))) ∧
  (∀ (l0 l1 l3 l4 l5 l6 : Option Value) (st : List Value) (σ : ri_S) (x : Int32), ev 55 (175, [l0, l1, some (.int x), l3, l4, l5, l6], st) σ = ev 55 (176, [l0, l1, some (.int x), l3, l4, l5, l6], .int x :: st) σ) ∧
  (∀ (L : ri_L) (st : List Value) (σ : ri_S) (x : Int32), ev 55 (176, L, .int x :: st) σ = if ¬ x = 0 then ev 55 (196, L, st) σ else ev 55 (179, L, st) σ) ∧
  (∀ (l0 l1 l2 l4 l5 l6 : Option Value) (st : List Value) (σ : ri_S) (x : Int32), ev 55 (179, [l0, l1, l2, some (.int x), l4, l5, l6], st) σ = ev 55 (180, [l0, l1, l2, some (.int x), l4, l5, l6], .int x :: st) σ) ∧
  (∀ (L : ri_L) (st : List Value) (σ : ri_S) (x : Int32), ev 55 (180, L, .int x :: st) σ = if ¬ x = 0 then ev 55 (196, L, st) σ else ev 55 (183, L, st) σ) :=
  ⟨fun L st σ a => ev_getf ((TP_55 _).trans rfl),
   fun l0 l1 l2 l4 l5 l6 st σ x => ev_p ((TP_55 _).trans rfl) rfl,
   fun l0 l1 l2 l3 l5 l6 st σ x => ev_p ((TP_55 _).trans rfl) rfl,
   fun L σ a0 a1 a2 => ev_callv ((TP_55 _).trans rfl) rfl rfl rfl rfl,
   fun L st σ x => ev_b ((TP_55 _).trans rfl) rfl,
   fun l1 l2 l3 l4 l5 l6 st σ x => ev_p ((TP_55 _).trans rfl) rfl,
   fun l0 l1 l3 l4 l5 l6 st σ x => ev_p ((TP_55 _).trans rfl) rfl,
   fun L σ a0 a1 => ev_callv ((TP_55 _).trans rfl) rfl rfl rfl rfl,
   fun l0 l1 l2 l4 l5 l6 st σ x => ev_p ((TP_55 _).trans rfl) rfl,
   fun l0 l1 l2 l3 l5 l6 st σ x => ev_p ((TP_55 _).trans rfl) rfl,
   fun L σ a0 a1 s0 => ev_call ((TP_55 _).trans rfl) rfl rfl rfl rfl,
   fun L st σ x y => ev_b ((TP_55 _).trans rfl) rfl,
   fun L st σ => ev_p ((TP_55 _).trans rfl) rfl,
   fun L st σ => ev_p ((TP_55 _).trans rfl) rfl,
   fun L st σ => ev_p ((TP_55 _).trans rfl) rfl,
   fun L σ x => ev_r ((TP_55 _).trans rfl) rfl,
   fun l0 l1 l2 l4 l5 l6 st σ x => ev_p ((TP_55 _).trans rfl) rfl,
   fun L st σ x => ev_b ((TP_55 _).trans rfl) rfl,
   fun l0 l1 l2 l3 l5 l6 st σ x => ev_p ((TP_55 _).trans rfl) rfl,
   fun L st σ x => ev_b ((TP_55 _).trans rfl) rfl,
   fun l1 l2 l3 l4 l5 l6 st σ x => ev_p ((TP_55 _).trans rfl) rfl,
   fun L st σ a => ev_getf ((TP_55 _).trans rfl),
   fun l0 l1 l3 l4 l5 l6 st σ x => ev_p ((TP_55 _).trans rfl) rfl,
   fun L σ a0 a1 => ev_callv ((TP_55 _).trans rfl) rfl rfl rfl rfl,
   fun L st σ x => ev_b ((TP_55 _).trans rfl) rfl,
   fun l1 l2 l3 l4 l5 l6 st σ x => ev_p ((TP_55 _).trans rfl) rfl,
   fun L st σ a => ev_getf ((TP_55 _).trans rfl),
   fun L st σ a => ev_getf ((TP_55 _).trans rfl),
   fun l0 l1 l3 l4 l5 l6 st σ x => ev_p ((TP_55 _).trans rfl) rfl,
   fun L σ a0 a1 => ev_call ((TP_55 _).trans rfl) rfl rfl rfl rfl,
   fun l0 l1 l2 l3 l4 l6 st σ x => ev_p ((TP_55 _).trans rfl) rfl,
   fun L st σ x y => ev_b ((TP_55 _).trans rfl) rfl,
   fun L st σ => ev_p ((TP_55 _).trans rfl) rfl,
   fun L st σ => ev_p ((TP_55 _).trans rfl) rfl,
   fun L st σ => ev_p ((TP_55 _).trans rfl) rfl,
   fun L σ x => ev_r ((TP_55 _).trans rfl) rfl,
   fun l0 l1 l3 l4 l5 l6 st σ x => ev_p ((TP_55 _).trans rfl) rfl,
   fun L st σ x => ev_b ((TP_55 _).trans rfl) rfl,
   fun l0 l1 l2 l4 l5 l6 st σ x => ev_p ((TP_55 _).trans rfl) rfl,
   fun L st σ x => ev_b ((TP_55 _).trans rfl) rfl⟩
set_option maxRecDepth 8000 in
theorem I_55_2 :
  (∀ (l1 l2 l3 l4 l5 l6 : Option Value) (st : List Value) (σ : ri_S) (x : Nat), ev 55 (183, [some (.ref x), l1, l2, l3, l4, l5, l6], st) σ = ev 55 (184, [some (.ref x), l1, l2, l3, l4, l5, l6], .ref x :: st) σ) ∧
  (∀ (L : ri_L) (st : List Value) (σ : ri_S) (a : Nat), ev 55 (184, L, .ref a :: st) σ = tv_o 3 4 (σ.1 a) fun v => ev 55 (187, L, v :: st) σ) ∧
  (∀ (l0 l1 l2 l3 l4 l5 : Option Value) (st : List Value) (σ : ri_S) (x : Int32), ev 55 (187, [l0, l1, l2, l3, l4, l5, some (.int x)], st) σ = ev 55 (189, [l0, l1, l2, l3, l4, l5, some (.int x)], .int x :: st) σ) ∧
  (∀ (L : ri_L) (st : List Value) (σ : ri_S) (x y : Int32), ev 55 (189, L, .int y :: .int x :: st) σ = if x < y then ev 55 (196, L, st) σ else ev 55 (192, L, st) σ) ∧
  (∀ (L : ri_L) (st : List Value) (σ : ri_S), ev 55 (192, L, st) σ = ev 55 (193, L, .int 1 :: st) σ) ∧
  (∀ (L : ri_L) (st : List Value) (σ : ri_S), ev 55 (193, L, st) σ = ev 55 (197, L, st) σ) ∧
  (∀ (L : ri_L) (st : List Value) (σ : ri_S), ev 55 (196, L, st) σ = ev 55 (197, L, .int 0 :: st) σ) ∧
  (∀ (L : ri_L) (σ : ri_S) (x : Int32), ev 55 (197, L, [.int x]) σ = tv_b x (some (some (.int x), σ))) ∧
  (∀ (l0 l1 l2 l3 l5 l6 : Option Value) (st : List Value) (σ : ri_S) (x : Int32), ev 55 (198, [l0, l1, l2, l3, some (.int x), l5, l6], st) σ = ev 55 (200, [l0, l1, l2, l3, some (.int x), l5, l6], .int x :: st) σ) ∧
  (∀ (L : ri_L) (st : List Value) (σ : ri_S) (x : Int32), ev 55 (200, L, .int x :: st) σ = if ¬ x = 0 then ev 55 (231, L, st) σ else ev 55 (203, L, st) σ) ∧
  (∀ (l1 l2 l3 l4 l5 l6 : Option Value) (st : List Value) (σ : ri_S) (x : Nat), ev 55 (203, [some (.ref x), l1, l2, l3, l4, l5, l6], st) σ = ev 55 (204, [some (.ref x), l1, l2, l3, l4, l5, l6], .ref x :: st) σ) ∧
  (∀ (L : ri_L) (st : List Value) (σ : ri_S) (a : Nat), ev 55 (204, L, .ref a :: st) σ = tv_o 3 0 (σ.1 a) fun v => ev 55 (207, L, v :: st) σ) ∧
  (∀ (l0 l1 l3 l4 l5 l6 : Option Value) (st : List Value) (σ : ri_S) (x : Int32), ev 55 (207, [l0, l1, some (.int x), l3, l4, l5, l6], st) σ = ev 55 (208, [l0, l1, some (.int x), l3, l4, l5, l6], .int x :: st) σ) ∧
  (∀ (l0 l1 l2 l4 l5 l6 : Option Value) (st : List Value) (σ : ri_S) (x : Int32), ev 55 (208, [l0, l1, l2, some (.int x), l4, l5, l6], st) σ = ev 55 (209, [l0, l1, l2, some (.int x), l4, l5, l6], .int x :: st) σ) ∧
  (∀ (L : ri_L) (σ : ri_S) (a0 : Nat) (a1 : Int32) (a2 : Int32), ev 55 (209, L, [.int a2, .int a1, .ref a0]) σ = tv_k 7 (σ.1 a0) ((cal 98 [.ref a0, .int a1, .int a2] σ).bind fun q => ev 55 (212, L, q.1.toList ++ []) q.2)) ∧
  (∀ (L : ri_L) (st : List Value) (σ : ri_S) (x : Int32), ev 55 (212, L, .int x :: st) σ = if x = 0 then ev 55 (231, L, st) σ else ev 55 (215, L, st) σ) ∧
  (∀ (l1 l2 l3 l4 l5 l6 : Option Value) (st : List Value) (σ : ri_S) (x : Nat), ev 55 (215, [some (.ref x), l1, l2, l3, l4, l5, l6], st) σ = ev 55 (216, [some (.ref x), l1, l2, l3, l4, l5, l6], .ref x :: st) σ) ∧
  (∀ (l0 l1 l3 l4 l5 l6 : Option Value) (st : List Value) (σ : ri_S) (x : Int32), ev 55 (216, [l0, l1, some (.int x), l3, l4, l5, l6], st) σ = ev 55 (217, [l0, l1, some (.int x), l3, l4, l5, l6], .int x :: st) σ) ∧
  (∀ (l0 l1 l2 l4 l5 l6 : Option Value) (st : List Value) (σ : ri_S) (x : Int32), ev 55 (217, [l0, l1, l2, some (.int x), l4, l5, l6], st) σ = ev 55 (218, [l0, l1, l2, some (.int x), l4, l5, l6], .int x :: st) σ) ∧
  (∀ (L : ri_L) (st : List Value) (σ : ri_S), ev 55 (218, L, st) σ = ev 55 (219, L, .int 1 :: st) σ) ∧
  (∀ (L : ri_L) (σ : ri_S) (a0 : Nat) (a1 : Int32) (a2 : Int32) (a3 : Int32), ev 55 (219, L, [.int a3, .int a2, .int a1, .ref a0]) σ = tv_k 3 (σ.1 a0) ((cal 49 [.ref a0, .int a1, .int a2, .int a3] σ).bind fun q => ev 55 (222, L, q.1.toList ++ []) q.2)) ∧
  (∀ (l0 l1 l2 l3 l4 l6 : Option Value) (st : List Value) (σ : ri_S) (x : Int32), ev 55 (222, [l0, l1, l2, l3, l4, some (.int x), l6], st) σ = ev 55 (224, [l0, l1, l2, l3, l4, some (.int x), l6], .int x :: st) σ) ∧
  (∀ (L : ri_L) (st : List Value) (σ : ri_S) (x y : Int32), ev 55 (224, L, .int y :: .int x :: st) σ = if x < y then ev 55 (231, L, st) σ else ev 55 (227, L, st) σ) ∧
  (∀ (L : ri_L) (st : List Value) (σ : ri_S), ev 55 (227, L, st) σ = ev 55 (228, L, .int 1 :: st) σ) ∧
  (∀ (L : ri_L) (st : List Value) (σ : ri_S), ev 55 (228, L, st) σ = ev 55 (232, L, st) σ) ∧
  (∀ (L : ri_L) (st : List Value) (σ : ri_S), ev 55 (231, L, st) σ = ev 55 (232, L, .int 0 :: st) σ) ∧
  (∀ (L : ri_L) (σ : ri_S) (x : Int32), ev 55 (232, L, [.int x]) σ = tv_b x (some (some (.int x), σ))) ∧
  (∀ (l1 l2 l3 l4 l5 l6 : Option Value) (st : List Value) (σ : ri_S) (x : Nat), ev 55 (233, [some (.ref x), l1, l2, l3, l4, l5, l6], st) σ = ev 55 (234, [some (.ref x), l1, l2, l3, l4, l5, l6], .ref x :: st) σ) ∧
  (∀ (l0 l1 l3 l4 l5 l6 : Option Value) (st : List Value) (σ : ri_S) (x : Int32), ev 55 (234, [l0, l1, some (.int x), l3, l4, l5, l6], st) σ = ev 55 (235, [l0, l1, some (.int x), l3, l4, l5, l6], .int x :: st) σ) ∧
  (∀ (L : ri_L) (st : List Value) (σ : ri_S), ev 55 (235, L, st) σ = ev 55 (237, L, .int 10 :: st) σ) ∧
  (∀ (l0 l1 l2 l4 l5 l6 : Option Value) (st : List Value) (σ : ri_S) (x : Int32), ev 55 (237, [l0, l1, l2, some (.int x), l4, l5, l6], st) σ = ev 55 (238, [l0, l1, l2, some (.int x), l4, l5, l6], .int x :: st) σ) ∧
  (∀ (L : ri_L) (st : List Value) (σ : ri_S) (x y : Int32), ev 55 (238, L, .int y :: .int x :: st) σ = ev 55 (239, L, .int (x * y) :: st) σ) ∧
  (∀ (l0 l1 l2 l3 l5 l6 : Option Value) (st : List Value) (σ : ri_S) (x : Int32), ev 55 (239, [l0, l1, l2, l3, some (.int x), l5, l6], st) σ = ev 55 (241, [l0, l1, l2, l3, some (.int x), l5, l6], .int x :: st) σ) ∧
  (∀ (L : ri_L) (st : List Value) (σ : ri_S) (x y : Int32), ev 55 (241, L, .int y :: .int x :: st) σ = ev 55 (242, L, .int (x + y) :: st) σ) ∧
  (∀ (L : ri_L) (σ : ri_S) (a0 : Nat) (a1 : Int32) (a2 : Int32), ev 55 (242, L, [.int a2, .int a1, .ref a0]) σ = tv_k 3 (σ.1 a0) ((cal 27 [.ref a0, .int a1, .int a2] σ).bind fun q => ev 55 (245, L, q.1.toList ++ []) q.2)) ∧
  (∀ (L : ri_L) (st : List Value) (σ : ri_S) (x : Int32), ev 55 (245, L, .int x :: st) σ = if ¬ x = 0 then ev 55 (269, L, st) σ else ev 55 (248, L, st) σ) ∧
  (∀ (l1 l2 l3 l4 l5 l6 : Option Value) (st : List Value) (σ : ri_S) (x : Nat), ev 55 (248, [some (.ref x), l1, l2, l3, l4, l5, l6], st) σ = ev 55 (249, [some (.ref x), l1, l2, l3, l4, l5, l6], .ref x :: st) σ) ∧
  (∀ (l0 l1 l3 l4 l5 l6 : Option Value) (st : List Value) (σ : ri_S) (x : Int32), ev 55 (249, [l0, l1, some (.int x), l3, l4, l5, l6], st) σ = ev 55 (250, [l0, l1, some (.int x), l3, l4, l5, l6], .int x :: st) σ) ∧
  (∀ (L : ri_L) (st : List Value) (σ : ri_S), ev 55 (250, L, st) σ = ev 55 (252, L, .int 10 :: st) σ) ∧
  (∀ (l0 l1 l2 l4 l5 l6 : Option Value) (st : List Value) (σ : ri_S) (x : Int32), ev 55 (252, [l0, l1, l2, some (.int x), l4, l5, l6], st) σ = ev 55 (253, [l0, l1, l2, some (.int x), l4, l5, l6], .int x :: st) σ) :=
  ⟨fun l1 l2 l3 l4 l5 l6 st σ x => ev_p ((TP_55 _).trans rfl) rfl,
   fun L st σ a => ev_getf ((TP_55 _).trans rfl),
   fun l0 l1 l2 l3 l4 l5 st σ x => ev_p ((TP_55 _).trans rfl) rfl,
   fun L st σ x y => ev_b ((TP_55 _).trans rfl) rfl,
   fun L st σ => ev_p ((TP_55 _).trans rfl) rfl,
   fun L st σ => ev_p ((TP_55 _).trans rfl) rfl,
   fun L st σ => ev_p ((TP_55 _).trans rfl) rfl,
   fun L σ x => ev_r ((TP_55 _).trans rfl) rfl,
   fun l0 l1 l2 l3 l5 l6 st σ x => ev_p ((TP_55 _).trans rfl) rfl,
   fun L st σ x => ev_b ((TP_55 _).trans rfl) rfl,
   fun l1 l2 l3 l4 l5 l6 st σ x => ev_p ((TP_55 _).trans rfl) rfl,
   fun L st σ a => ev_getf ((TP_55 _).trans rfl),
   fun l0 l1 l3 l4 l5 l6 st σ x => ev_p ((TP_55 _).trans rfl) rfl,
   fun l0 l1 l2 l4 l5 l6 st σ x => ev_p ((TP_55 _).trans rfl) rfl,
   fun L σ a0 a1 a2 => ev_callv ((TP_55 _).trans rfl) rfl rfl rfl rfl,
   fun L st σ x => ev_b ((TP_55 _).trans rfl) rfl,
   fun l1 l2 l3 l4 l5 l6 st σ x => ev_p ((TP_55 _).trans rfl) rfl,
   fun l0 l1 l3 l4 l5 l6 st σ x => ev_p ((TP_55 _).trans rfl) rfl,
   fun l0 l1 l2 l4 l5 l6 st σ x => ev_p ((TP_55 _).trans rfl) rfl,
   fun L st σ => ev_p ((TP_55 _).trans rfl) rfl,
   fun L σ a0 a1 a2 a3 => ev_callv ((TP_55 _).trans rfl) rfl rfl rfl rfl,
   fun l0 l1 l2 l3 l4 l6 st σ x => ev_p ((TP_55 _).trans rfl) rfl,
   fun L st σ x y => ev_b ((TP_55 _).trans rfl) rfl,
   fun L st σ => ev_p ((TP_55 _).trans rfl) rfl,
   fun L st σ => ev_p ((TP_55 _).trans rfl) rfl,
   fun L st σ => ev_p ((TP_55 _).trans rfl) rfl,
   fun L σ x => ev_r ((TP_55 _).trans rfl) rfl,
   fun l1 l2 l3 l4 l5 l6 st σ x => ev_p ((TP_55 _).trans rfl) rfl,
   fun l0 l1 l3 l4 l5 l6 st σ x => ev_p ((TP_55 _).trans rfl) rfl,
   fun L st σ => ev_p ((TP_55 _).trans rfl) rfl,
   fun l0 l1 l2 l4 l5 l6 st σ x => ev_p ((TP_55 _).trans rfl) rfl,
   fun L st σ x y => ev_p ((TP_55 _).trans rfl) rfl,
   fun l0 l1 l2 l3 l5 l6 st σ x => ev_p ((TP_55 _).trans rfl) rfl,
   fun L st σ x y => ev_p ((TP_55 _).trans rfl) rfl,
   fun L σ a0 a1 a2 => ev_callv ((TP_55 _).trans rfl) rfl rfl rfl rfl,
   fun L st σ x => ev_b ((TP_55 _).trans rfl) rfl,
   fun l1 l2 l3 l4 l5 l6 st σ x => ev_p ((TP_55 _).trans rfl) rfl,
   fun l0 l1 l3 l4 l5 l6 st σ x => ev_p ((TP_55 _).trans rfl) rfl,
   fun L st σ => ev_p ((TP_55 _).trans rfl) rfl,
   fun l0 l1 l2 l4 l5 l6 st σ x => ev_p ((TP_55 _).trans rfl) rfl⟩
set_option maxRecDepth 8000 in
theorem I_55_3 :
  (∀ (L : ri_L) (st : List Value) (σ : ri_S) (x y : Int32), ev 55 (253, L, .int y :: .int x :: st) σ = ev 55 (254, L, .int (x * y) :: st) σ) ∧
  (∀ (l0 l1 l2 l3 l5 l6 : Option Value) (st : List Value) (σ : ri_S) (x : Int32), ev 55 (254, [l0, l1, l2, l3, some (.int x), l5, l6], st) σ = ev 55 (256, [l0, l1, l2, l3, some (.int x), l5, l6], .int x :: st) σ) ∧
  (∀ (L : ri_L) (st : List Value) (σ : ri_S) (x y : Int32), ev 55 (256, L, .int y :: .int x :: st) σ = ev 55 (257, L, .int (x + y) :: st) σ) ∧
  (∀ (L : ri_L) (σ : ri_S) (a0 : Nat) (a1 : Int32) (a2 : Int32), ev 55 (257, L, [.int a2, .int a1, .ref a0]) σ = tv_k 3 (σ.1 a0) ((cal 40 [.ref a0, .int a1, .int a2] σ).bind fun q => ev 55 (260, L, q.1.toList ++ []) q.2)) ∧
  (∀ (l0 l1 l2 l3 l4 l6 : Option Value) (st : List Value) (σ : ri_S) (x : Int32), ev 55 (260, [l0, l1, l2, l3, l4, some (.int x), l6], st) σ = ev 55 (262, [l0, l1, l2, l3, l4, some (.int x), l6], .int x :: st) σ) ∧
  (∀ (L : ri_L) (st : List Value) (σ : ri_S) (x y : Int32), ev 55 (262, L, .int y :: .int x :: st) σ = if ¬ x = y then ev 55 (269, L, st) σ else ev 55 (265, L, st) σ) ∧
  (∀ (L : ri_L) (st : List Value) (σ : ri_S), ev 55 (265, L, st) σ = ev 55 (266, L, .int 1 :: st) σ) ∧
  (∀ (L : ri_L) (st : List Value) (σ : ri_S), ev 55 (266, L, st) σ = ev 55 (270, L, st) σ) ∧
  (∀ (L : ri_L) (st : List Value) (σ : ri_S), ev 55 (269, L, st) σ = ev 55 (270, L, .int 0 :: st) σ) ∧
  (∀ (L : ri_L) (σ : ri_S) (x : Int32), ev 55 (270, L, [.int x]) σ = tv_b x (some (some (.int x), σ))) ∧
  (∀ (l0 l1 l2 l4 l5 l6 : Option Value) (st : List Value) (σ : ri_S) (x : Int32), ev 55 (271, [l0, l1, l2, some (.int x), l4, l5, l6], st) σ = ev 55 (272, [l0, l1, l2, some (.int x), l4, l5, l6], .int x :: st) σ) ∧
  (∀ (L : ri_L) (st : List Value) (σ : ri_S) (x : Int32), ev 55 (272, L, .int x :: st) σ = if ¬ x = 0 then ev 55 (306, L, st) σ else ev 55 (275, L, st) σ) ∧
  (∀ (l1 l2 l3 l4 l5 l6 : Option Value) (st : List Value) (σ : ri_S) (x : Nat), ev 55 (275, [some (.ref x), l1, l2, l3, l4, l5, l6], st) σ = ev 55 (276, [some (.ref x), l1, l2, l3, l4, l5, l6], .ref x :: st) σ) ∧
  (∀ (L : ri_L) (st : List Value) (σ : ri_S) (a : Nat), ev 55 (276, L, .ref a :: st) σ = tv_o 3 2 (σ.1 a) fun v => ev 55 (279, L, v :: st) σ) ∧
  (∀ (l0 l1 l3 l4 l5 l6 : Option Value) (st : List Value) (σ : ri_S) (x : Int32), ev 55 (279, [l0, l1, some (.int x), l3, l4, l5, l6], st) σ = ev 55 (280, [l0, l1, some (.int x), l3, l4, l5, l6], .int x :: st) σ) ∧
  (∀ (L : ri_L) (σ : ri_S) (a0 : Nat) (a1 : Int32), ev 55 (280, L, [.int a1, .ref a0]) σ = tv_k 0 (σ.1 a0) ((cal 1 [.ref a0, .int a1] σ).bind fun q => ev 55 (283, L, q.1.toList ++ []) q.2)) ∧
  (∀ (L : ri_L) (st : List Value) (σ : ri_S) (x : Int32), ev 55 (283, L, .int x :: st) σ = if x = 0 then ev 55 (306, L, st) σ else ev 55 (286, L, st) σ) ∧
  (∀ (l1 l2 l3 l4 l5 l6 : Option Value) (st : List Value) (σ : ri_S) (x : Nat), ev 55 (286, [some (.ref x), l1, l2, l3, l4, l5, l6], st) σ = ev 55 (287, [some (.ref x), l1, l2, l3, l4, l5, l6], .ref x :: st) σ) ∧
  (∀ (L : ri_L) (st : List Value) (σ : ri_S) (a : Nat), ev 55 (287, L, .ref a :: st) σ = tv_o 3 2 (σ.1 a) fun v => ev 55 (290, L, v :: st) σ) ∧
  (∀ (L : ri_L) (st : List Value) (σ : ri_S) (a : Nat), ev 55 (290, L, .ref a :: st) σ = tv_o 0 4 (σ.1 a) fun v => ev 55 (293, L, v :: st) σ) ∧
  (∀ (l0 l1 l3 l4 l5 l6 : Option Value) (st : List Value) (σ : ri_S) (x : Int32), ev 55 (293, [l0, l1, some (.int x), l3, l4, l5, l6], st) σ = ev 55 (294, [l0, l1, some (.int x), l3, l4, l5, l6], .int x :: st) σ) ∧
  (∀ (L : ri_L) (σ : ri_S) (a0 : Nat) (a1 : Int32), ev 55 (294, L, [.int a1, .ref a0]) σ = (cal 140 [.ref a0, .int a1] σ).bind fun q => ev 55 (297, L, q.1.toList ++ []) q.2) ∧
  (∀ (l0 l1 l2 l3 l4 l5 : Option Value) (st : List Value) (σ : ri_S) (x : Int32), ev 55 (297, [l0, l1, l2, l3, l4, l5, some (.int x)], st) σ = ev 55 (299, [l0, l1, l2, l3, l4, l5, some (.int x)], .int x :: st) σ) ∧
  (∀ (L : ri_L) (st : List Value) (σ : ri_S) (x y : Int32), ev 55 (299, L, .int y :: .int x :: st) σ = if x < y then ev 55 (306, L, st) σ else ev 55 (302, L, st) σ) ∧
  (∀ (L : ri_L) (st : List Value) (σ : ri_S), ev 55 (302, L, st) σ = ev 55 (303, L, .int 1 :: st) σ) ∧
  (∀ (L : ri_L) (st : List Value) (σ : ri_S), ev 55 (303, L, st) σ = ev 55 (307, L, st) σ) ∧
  (∀ (L : ri_L) (st : List Value) (σ : ri_S), ev 55 (306, L, st) σ = ev 55 (307, L, .int 0 :: st) σ) ∧
  (∀ (L : ri_L) (σ : ri_S) (x : Int32), ev 55 (307, L, [.int x]) σ = tv_b x (some (some (.int x), σ))) ∧
  (∀ (L : ri_L) (st : List Value) (σ : ri_S), ev 55 (308, L, st) σ = ev 55 (309, L, .int 0 :: st) σ) ∧
  (∀ (L : ri_L) (σ : ri_S) (x : Int32), ev 55 (309, L, [.int x]) σ = tv_b x (some (some (.int x), σ))) :=
  ⟨fun L st σ x y => ev_p ((TP_55 _).trans rfl) rfl,
   fun l0 l1 l2 l3 l5 l6 st σ x => ev_p ((TP_55 _).trans rfl) rfl,
   fun L st σ x y => ev_p ((TP_55 _).trans rfl) rfl,
   fun L σ a0 a1 a2 => ev_callv ((TP_55 _).trans rfl) rfl rfl rfl rfl,
   fun l0 l1 l2 l3 l4 l6 st σ x => ev_p ((TP_55 _).trans rfl) rfl,
   fun L st σ x y => ev_b ((TP_55 _).trans rfl) rfl,
   fun L st σ => ev_p ((TP_55 _).trans rfl) rfl,
   fun L st σ => ev_p ((TP_55 _).trans rfl) rfl,
   fun L st σ => ev_p ((TP_55 _).trans rfl) rfl,
   fun L σ x => ev_r ((TP_55 _).trans rfl) rfl,
   fun l0 l1 l2 l4 l5 l6 st σ x => ev_p ((TP_55 _).trans rfl) rfl,
   fun L st σ x => ev_b ((TP_55 _).trans rfl) rfl,
   fun l1 l2 l3 l4 l5 l6 st σ x => ev_p ((TP_55 _).trans rfl) rfl,
   fun L st σ a => ev_getf ((TP_55 _).trans rfl),
   fun l0 l1 l3 l4 l5 l6 st σ x => ev_p ((TP_55 _).trans rfl) rfl,
   fun L σ a0 a1 => ev_callv ((TP_55 _).trans rfl) rfl rfl rfl rfl,
   fun L st σ x => ev_b ((TP_55 _).trans rfl) rfl,
   fun l1 l2 l3 l4 l5 l6 st σ x => ev_p ((TP_55 _).trans rfl) rfl,
   fun L st σ a => ev_getf ((TP_55 _).trans rfl),
   fun L st σ a => ev_getf ((TP_55 _).trans rfl),
   fun l0 l1 l3 l4 l5 l6 st σ x => ev_p ((TP_55 _).trans rfl) rfl,
   fun L σ a0 a1 => ev_call ((TP_55 _).trans rfl) rfl rfl rfl rfl,
   fun l0 l1 l2 l3 l4 l5 st σ x => ev_p ((TP_55 _).trans rfl) rfl,
   fun L st σ x y => ev_b ((TP_55 _).trans rfl) rfl,
   fun L st σ => ev_p ((TP_55 _).trans rfl) rfl,
   fun L st σ => ev_p ((TP_55 _).trans rfl) rfl,
   fun L st σ => ev_p ((TP_55 _).trans rfl) rfl,
   fun L σ x => ev_r ((TP_55 _).trans rfl) rfl,
   fun L st σ => ev_p ((TP_55 _).trans rfl) rfl,
   fun L σ x => ev_r ((TP_55 _).trans rfl) rfl⟩
