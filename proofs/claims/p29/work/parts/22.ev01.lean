/-! How each method reads on. -/
theorem TP_56 (pc : Nat) : TT 56 pc = ri_find TL_56 pc := rfl
theorem E_56 (x0 : Nat) (σ : ri_S) : cal 56 [.ref x0] σ = ev 56 (0, [some (.ref x0)], []) σ := rfl
theorem I_56_0 :
  (∀ (st : List Value) (σ : ri_S) (x : Nat), ev 56 (0, [some (.ref x)], st) σ = ev 56 (1, [some (.ref x)], .ref x :: st) σ) ∧
  (∀ (L : ri_L) (σ : ri_S) (a : Nat), ev 56 (1, L, [.ref a]) σ = ev 56 (4, L, []) σ) ∧
  (∀ (st : List Value) (σ : ri_S) (x : Nat), ev 56 (4, [some (.ref x)], st) σ = ev 56 (5, [some (.ref x)], .ref x :: st) σ) ∧
  (∀ (L : ri_L) (st : List Value) (σ : ri_S), ev 56 (5, L, st) σ = ev 56 (7, L, .int 15 :: st) σ) ∧
  (∀ (L : ri_L) (st : List Value) (σ : ri_S) (n : Int32), ev 56 (7, L, .int n :: st) σ = if n < 0 ∨ 2000 < n.toNatClampNeg then none else ev 56 (9, L, .ref σ.2 :: st) (ri_upd σ.1 σ.2 (.inl (0, n.toNatClampNeg, fun _ => 0)), σ.2 + 1)) ∧
  (∀ (L : ri_L) (st : List Value) (σ : ri_S) (a : Nat) (x : Nat), ev 56 (9, L, .ref x :: .ref a :: st) σ = tv_w 4 0 (σ.1 a) (.ref x) fun fs => ev 56 (12, L, st) (ri_upd σ.1 a (.inr (.inr (4, fs))), σ.2)) ∧
  (∀ (st : List Value) (σ : ri_S) (x : Nat), ev 56 (12, [some (.ref x)], st) σ = ev 56 (13, [some (.ref x)], .ref x :: st) σ) ∧
  (∀ (L : ri_L) (st : List Value) (σ : ri_S), ev 56 (13, L, st) σ = ev 56 (15, L, .int 15 :: st) σ) ∧
  (∀ (L : ri_L) (st : List Value) (σ : ri_S) (n : Int32), ev 56 (15, L, .int n :: st) σ = if n < 0 ∨ 2000 < n.toNatClampNeg then none else ev 56 (17, L, .ref σ.2 :: st) (ri_upd σ.1 σ.2 (.inl (0, n.toNatClampNeg, fun _ => 0)), σ.2 + 1)) ∧
  (∀ (L : ri_L) (st : List Value) (σ : ri_S) (a : Nat) (x : Nat), ev 56 (17, L, .ref x :: .ref a :: st) σ = tv_w 4 1 (σ.1 a) (.ref x) fun fs => ev 56 (20, L, st) (ri_upd σ.1 a (.inr (.inr (4, fs))), σ.2)) ∧
  (∀ (st : List Value) (σ : ri_S) (x : Nat), ev 56 (20, [some (.ref x)], st) σ = ev 56 (21, [some (.ref x)], .ref x :: st) σ) ∧
  (∀ (L : ri_L) (st : List Value) (σ : ri_S), ev 56 (21, L, st) σ = ev 56 (23, L, .int 15 :: st) σ) ∧
  (∀ (L : ri_L) (st : List Value) (σ : ri_S) (n : Int32), ev 56 (23, L, .int n :: st) σ = if n < 0 ∨ 2000 < n.toNatClampNeg then none else ev 56 (25, L, .ref σ.2 :: st) (ri_upd σ.1 σ.2 (.inl (0, n.toNatClampNeg, fun _ => 0)), σ.2 + 1)) ∧
  (∀ (L : ri_L) (st : List Value) (σ : ri_S) (a : Nat) (x : Nat), ev 56 (25, L, .ref x :: .ref a :: st) σ = tv_w 4 2 (σ.1 a) (.ref x) fun fs => ev 56 (28, L, st) (ri_upd σ.1 a (.inr (.inr (4, fs))), σ.2)) ∧
  (∀ (st : List Value) (σ : ri_S) (x : Nat), ev 56 (28, [some (.ref x)], st) σ = ev 56 (29, [some (.ref x)], .ref x :: st) σ) ∧
  (∀ (L : ri_L) (st : List Value) (σ : ri_S), ev 56 (29, L, st) σ = ev 56 (32, L, .int 1875 :: st) σ) ∧
  (∀ (L : ri_L) (st : List Value) (σ : ri_S) (n : Int32), ev 56 (32, L, .int n :: st) σ = if n < 0 ∨ 2000 < n.toNatClampNeg then none else ev 56 (34, L, .ref σ.2 :: st) (ri_upd σ.1 σ.2 (.inl (0, n.toNatClampNeg, fun _ => 0)), σ.2 + 1)) ∧
  (∀ (L : ri_L) (st : List Value) (σ : ri_S) (a : Nat) (x : Nat), ev 56 (34, L, .ref x :: .ref a :: st) σ = tv_w 4 3 (σ.1 a) (.ref x) fun fs => ev 56 (37, L, st) (ri_upd σ.1 a (.inr (.inr (4, fs))), σ.2)) ∧
  (∀ (st : List Value) (σ : ri_S) (x : Nat), ev 56 (37, [some (.ref x)], st) σ = ev 56 (38, [some (.ref x)], .ref x :: st) σ) ∧
  (∀ (L : ri_L) (st : List Value) (σ : ri_S), ev 56 (38, L, st) σ = ev 56 (41, L, .int 150 :: st) σ) ∧
  (∀ (L : ri_L) (st : List Value) (σ : ri_S) (n : Int32), ev 56 (41, L, .int n :: st) σ = if n < 0 ∨ 2000 < n.toNatClampNeg then none else ev 56 (43, L, .ref σ.2 :: st) (ri_upd σ.1 σ.2 (.inl (0, n.toNatClampNeg, fun _ => 0)), σ.2 + 1)) ∧
  (∀ (L : ri_L) (st : List Value) (σ : ri_S) (a : Nat) (x : Nat), ev 56 (43, L, .ref x :: .ref a :: st) σ = tv_w 4 4 (σ.1 a) (.ref x) fun fs => ev 56 (46, L, st) (ri_upd σ.1 a (.inr (.inr (4, fs))), σ.2)) ∧
  (∀ (st : List Value) (σ : ri_S) (x : Nat), ev 56 (46, [some (.ref x)], st) σ = ev 56 (47, [some (.ref x)], .ref x :: st) σ) ∧
  (∀ (L : ri_L) (st : List Value) (σ : ri_S), ev 56 (47, L, st) σ = ev 56 (49, L, .int 15 :: st) σ) ∧
  (∀ (L : ri_L) (st : List Value) (σ : ri_S) (n : Int32), ev 56 (49, L, .int n :: st) σ = if n < 0 ∨ 2000 < n.toNatClampNeg then none else ev 56 (51, L, .ref σ.2 :: st) (ri_upd σ.1 σ.2 (.inl (0, n.toNatClampNeg, fun _ => 0)), σ.2 + 1)) ∧
  (∀ (L : ri_L) (st : List Value) (σ : ri_S) (a : Nat) (x : Nat), ev 56 (51, L, .ref x :: .ref a :: st) σ = tv_w 4 5 (σ.1 a) (.ref x) fun fs => ev 56 (54, L, st) (ri_upd σ.1 a (.inr (.inr (4, fs))), σ.2)) ∧
  (∀ (st : List Value) (σ : ri_S) (x : Nat), ev 56 (54, [some (.ref x)], st) σ = ev 56 (55, [some (.ref x)], .ref x :: st) σ) ∧
  (∀ (L : ri_L) (st : List Value) (σ : ri_S), ev 56 (55, L, st) σ = ev 56 (58, L, .int 1875 :: st) σ) ∧
  (∀ (L : ri_L) (st : List Value) (σ : ri_S) (n : Int32), ev 56 (58, L, .int n :: st) σ = if n < 0 ∨ 2000 < n.toNatClampNeg then none else ev 56 (60, L, .ref σ.2 :: st) (ri_upd σ.1 σ.2 (.inl (0, n.toNatClampNeg, fun _ => 0)), σ.2 + 1)) ∧
  (∀ (L : ri_L) (st : List Value) (σ : ri_S) (a : Nat) (x : Nat), ev 56 (60, L, .ref x :: .ref a :: st) σ = tv_w 4 6 (σ.1 a) (.ref x) fun fs => ev 56 (63, L, st) (ri_upd σ.1 a (.inr (.inr (4, fs))), σ.2)) ∧
  (∀ (st : List Value) (σ : ri_S) (x : Nat), ev 56 (63, [some (.ref x)], st) σ = ev 56 (64, [some (.ref x)], .ref x :: st) σ) ∧
  (∀ (L : ri_L) (st : List Value) (σ : ri_S), ev 56 (64, L, st) σ = ev 56 (67, L, .int 1875 :: st) σ) ∧
  (∀ (L : ri_L) (st : List Value) (σ : ri_S) (n : Int32), ev 56 (67, L, .int n :: st) σ = if n < 0 ∨ 2000 < n.toNatClampNeg then none else ev 56 (69, L, .ref σ.2 :: st) (ri_upd σ.1 σ.2 (.inl (0, n.toNatClampNeg, fun _ => 0)), σ.2 + 1)) ∧
  (∀ (L : ri_L) (st : List Value) (σ : ri_S) (a : Nat) (x : Nat), ev 56 (69, L, .ref x :: .ref a :: st) σ = tv_w 4 7 (σ.1 a) (.ref x) fun fs => ev 56 (72, L, st) (ri_upd σ.1 a (.inr (.inr (4, fs))), σ.2)) ∧
  (∀ (st : List Value) (σ : ri_S) (x : Nat), ev 56 (72, [some (.ref x)], st) σ = ev 56 (73, [some (.ref x)], .ref x :: st) σ) ∧
  (∀ (L : ri_L) (st : List Value) (σ : ri_S), ev 56 (73, L, st) σ = ev 56 (75, L, .int 15 :: st) σ) ∧
  (∀ (L : ri_L) (st : List Value) (σ : ri_S) (n : Int32), ev 56 (75, L, .int n :: st) σ = if n < 0 ∨ 2000 < n.toNatClampNeg then none else ev 56 (77, L, .ref σ.2 :: st) (ri_upd σ.1 σ.2 (.inl (0, n.toNatClampNeg, fun _ => 0)), σ.2 + 1)) ∧
  (∀ (L : ri_L) (st : List Value) (σ : ri_S) (a : Nat) (x : Nat), ev 56 (77, L, .ref x :: .ref a :: st) σ = tv_w 4 8 (σ.1 a) (.ref x) fun fs => ev 56 (80, L, st) (ri_upd σ.1 a (.inr (.inr (4, fs))), σ.2)) ∧
  (∀ (st : List Value) (σ : ri_S) (x : Nat), ev 56 (80, [some (.ref x)], st) σ = ev 56 (81, [some (.ref x)], .ref x :: st) σ) ∧
  (∀ (L : ri_L) (st : List Value) (σ : ri_S), ev 56 (81, L, st) σ = ev 56 (82, L, .int 0 :: st) σ) :=
  ⟨fun st σ x => ev_p ((TP_56 _).trans rfl) rfl,
   fun L σ a => ev_p ((TP_56 _).trans rfl) rfl,
   fun st σ x => ev_p ((TP_56 _).trans rfl) rfl,
   fun L st σ => ev_p ((TP_56 _).trans rfl) rfl,
   fun L st σ n => ev_newa ((TP_56 _).trans rfl),
   fun L st σ a x => ev_putr ((TP_56 _).trans rfl),
   fun st σ x => ev_p ((TP_56 _).trans rfl) rfl,
   fun L st σ => ev_p ((TP_56 _).trans rfl) rfl,
   fun L st σ n => ev_newa ((TP_56 _).trans rfl),
   fun L st σ a x => ev_putr ((TP_56 _).trans rfl),
   fun st σ x => ev_p ((TP_56 _).trans rfl) rfl,
   fun L st σ => ev_p ((TP_56 _).trans rfl) rfl,
   fun L st σ n => ev_newa ((TP_56 _).trans rfl),
   fun L st σ a x => ev_putr ((TP_56 _).trans rfl),
   fun st σ x => ev_p ((TP_56 _).trans rfl) rfl,
   fun L st σ => ev_p ((TP_56 _).trans rfl) rfl,
   fun L st σ n => ev_newa ((TP_56 _).trans rfl),
   fun L st σ a x => ev_putr ((TP_56 _).trans rfl),
   fun st σ x => ev_p ((TP_56 _).trans rfl) rfl,
   fun L st σ => ev_p ((TP_56 _).trans rfl) rfl,
   fun L st σ n => ev_newa ((TP_56 _).trans rfl),
   fun L st σ a x => ev_putr ((TP_56 _).trans rfl),
   fun st σ x => ev_p ((TP_56 _).trans rfl) rfl,
   fun L st σ => ev_p ((TP_56 _).trans rfl) rfl,
   fun L st σ n => ev_newa ((TP_56 _).trans rfl),
   fun L st σ a x => ev_putr ((TP_56 _).trans rfl),
   fun st σ x => ev_p ((TP_56 _).trans rfl) rfl,
   fun L st σ => ev_p ((TP_56 _).trans rfl) rfl,
   fun L st σ n => ev_newa ((TP_56 _).trans rfl),
   fun L st σ a x => ev_putr ((TP_56 _).trans rfl),
   fun st σ x => ev_p ((TP_56 _).trans rfl) rfl,
   fun L st σ => ev_p ((TP_56 _).trans rfl) rfl,
   fun L st σ n => ev_newa ((TP_56 _).trans rfl),
   fun L st σ a x => ev_putr ((TP_56 _).trans rfl),
   fun st σ x => ev_p ((TP_56 _).trans rfl) rfl,
   fun L st σ => ev_p ((TP_56 _).trans rfl) rfl,
   fun L st σ n => ev_newa ((TP_56 _).trans rfl),
   fun L st σ a x => ev_putr ((TP_56 _).trans rfl),
   fun st σ x => ev_p ((TP_56 _).trans rfl) rfl,
   fun L st σ => ev_p ((TP_56 _).trans rfl) rfl⟩
theorem I_56_1 :
  (∀ (L : ri_L) (st : List Value) (σ : ri_S) (a : Nat) (x : Int32), ev 56 (82, L, .int x :: .ref a :: st) σ = tv_w 4 9 (σ.1 a) (.int x) fun fs => ev 56 (85, L, st) (ri_upd σ.1 a (.inr (.inr (4, fs))), σ.2)) ∧
  (∀ (L : ri_L) (σ : ri_S), ev 56 (85, L, []) σ = some (none, σ)) :=
  ⟨fun L st σ a x => ev_puti ((TP_56 _).trans rfl),
   fun L σ => ev_r ((TP_56 _).trans rfl) rfl⟩
theorem TP_57 (pc : Nat) : TT 57 pc = ri_find TL_57 pc := rfl
theorem E_57 (x0 : Nat) (x1 : Nat) (x2 : Int32) (σ : ri_S) : cal 57 [.ref x0, .ref x1, .int x2] σ = ev 57 (0, [some (.ref x0), some (.ref x1), some (.int x2), none, none], []) σ := rfl
theorem H_57_19 (l0 l1 l2 l4 : Option Value) (st : List Value) (σ : ri_S) (x : Int32) : ev 57 (19, [l0, l1, l2, some (.int x), l4], st) σ = ev 57 (20, [l0, l1, l2, some (.int x), l4], .int x :: st) σ := ev_p ((TP_57 _).trans rfl) rfl
theorem H_57_45 (l0 l1 l2 l3 : Option Value) (st : List Value) (σ : ri_S) (x : Int32) : ev 57 (45, [l0, l1, l2, l3, some (.int x)], st) σ = ev 57 (47, [l0, l1, l2, l3, some (.int x)], .int x :: st) σ := ev_p ((TP_57 _).trans rfl) rfl
theorem I_57_0 :
  (∀ (l1 l2 l3 l4 : Option Value) (st : List Value) (σ : ri_S) (x : Nat), ev 57 (0, [some (.ref x), l1, l2, l3, l4], st) σ = ev 57 (1, [some (.ref x), l1, l2, l3, l4], .ref x :: st) σ) ∧
  (∀ (l0 l2 l3 l4 : Option Value) (st : List Value) (σ : ri_S) (x : Nat), ev 57 (1, [l0, some (.ref x), l2, l3, l4], st) σ = ev 57 (2, [l0, some (.ref x), l2, l3, l4], .ref x :: st) σ) ∧
  (∀ (L : ri_L) (σ : ri_S) (a0 : Nat) (a1 : Nat), ev 57 (2, L, [.ref a1, .ref a0]) σ = tv_k 4 (σ.1 a0) ((cal 60 [.ref a0, .ref a1] σ).bind fun q => ev 57 (5, L, q.1.toList ++ []) q.2)) ∧
  (∀ (l1 l2 l3 l4 : Option Value) (st : List Value) (σ : ri_S) (x : Nat), ev 57 (5, [some (.ref x), l1, l2, l3, l4], st) σ = ev 57 (6, [some (.ref x), l1, l2, l3, l4], .ref x :: st) σ) ∧
  (∀ (l0 l2 l3 l4 : Option Value) (st : List Value) (σ : ri_S) (x : Nat), ev 57 (6, [l0, some (.ref x), l2, l3, l4], st) σ = ev 57 (7, [l0, some (.ref x), l2, l3, l4], .ref x :: st) σ) ∧
  (∀ (l0 l1 l3 l4 : Option Value) (st : List Value) (σ : ri_S) (x : Int32), ev 57 (7, [l0, l1, some (.int x), l3, l4], st) σ = ev 57 (8, [l0, l1, some (.int x), l3, l4], .int x :: st) σ) ∧
  (∀ (L : ri_L) (σ : ri_S) (a0 : Nat) (a1 : Nat) (a2 : Int32), ev 57 (8, L, [.int a2, .ref a1, .ref a0]) σ = tv_k 4 (σ.1 a0) ((cal 62 [.ref a0, .ref a1, .int a2] σ).bind fun q => ev 57 (11, L, q.1.toList ++ []) q.2)) ∧
  (∀ (l1 l2 l3 l4 : Option Value) (st : List Value) (σ : ri_S) (x : Nat), ev 57 (11, [some (.ref x), l1, l2, l3, l4], st) σ = ev 57 (12, [some (.ref x), l1, l2, l3, l4], .ref x :: st) σ) ∧
  (∀ (l0 l2 l3 l4 : Option Value) (st : List Value) (σ : ri_S) (x : Nat), ev 57 (12, [l0, some (.ref x), l2, l3, l4], st) σ = ev 57 (13, [l0, some (.ref x), l2, l3, l4], .ref x :: st) σ) ∧
  (∀ (l0 l1 l3 l4 : Option Value) (st : List Value) (σ : ri_S) (x : Int32), ev 57 (13, [l0, l1, some (.int x), l3, l4], st) σ = ev 57 (14, [l0, l1, some (.int x), l3, l4], .int x :: st) σ) ∧
  (∀ (L : ri_L) (σ : ri_S) (a0 : Nat) (a1 : Nat) (a2 : Int32), ev 57 (14, L, [.int a2, .ref a1, .ref a0]) σ = tv_k 4 (σ.1 a0) ((cal 63 [.ref a0, .ref a1, .int a2] σ).bind fun q => ev 57 (17, L, q.1.toList ++ []) q.2)) ∧
  (∀ (L : ri_L) (st : List Value) (σ : ri_S), ev 57 (17, L, st) σ = ev 57 (18, L, .int 0 :: st) σ) ∧
  (∀ (l0 l1 l2 l3 l4 : Option Value) (st : List Value) (σ : ri_S) (x : Int32), ev 57 (18, [l0, l1, l2, l3, l4], .int x :: st) σ = ev 57 (19, [l0, l1, ri_clr l2, some (.int x), l4], st) σ) ∧
  (∀ (L : ri_L) (st : List Value) (σ : ri_S), ev 57 (20, L, st) σ = ev 57 (22, L, .int 125 :: st) σ) ∧
  (∀ (L : ri_L) (st : List Value) (σ : ri_S) (x y : Int32), ev 57 (22, L, .int y :: .int x :: st) σ = if y ≤ x then ev 57 (40, L, st) σ else ev 57 (25, L, st) σ) ∧
  (∀ (l1 l2 l3 l4 : Option Value) (st : List Value) (σ : ri_S) (x : Nat), ev 57 (25, [some (.ref x), l1, l2, l3, l4], st) σ = ev 57 (26, [some (.ref x), l1, l2, l3, l4], .ref x :: st) σ) ∧
  (∀ (l0 l2 l3 l4 : Option Value) (st : List Value) (σ : ri_S) (x : Nat), ev 57 (26, [l0, some (.ref x), l2, l3, l4], st) σ = ev 57 (27, [l0, some (.ref x), l2, l3, l4], .ref x :: st) σ) ∧
  (∀ (L : ri_L) (st : List Value) (σ : ri_S) (a : Nat), ev 57 (27, L, .ref a :: st) σ = tv_o 3 0 (σ.1 a) fun v => ev 57 (30, L, v :: st) σ) ∧
  (∀ (l0 l1 l2 l4 : Option Value) (st : List Value) (σ : ri_S) (x : Int32), ev 57 (30, [l0, l1, l2, some (.int x), l4], st) σ = ev 57 (31, [l0, l1, l2, some (.int x), l4], .int x :: st) σ) ∧
  (∀ (L : ri_L) (σ : ri_S) (a0 : Nat) (a1 : Nat) (a2 : Int32), ev 57 (31, L, [.int a2, .ref a1, .ref a0]) σ = tv_k 4 (σ.1 a0) ((cal 64 [.ref a0, .ref a1, .int a2] σ).bind fun q => ev 57 (34, L, q.1.toList ++ []) q.2)) ∧
  (∀ (l0 l1 l2 l4 : Option Value) (st : List Value) (σ : ri_S) (x : Int32), ev 57 (34, [l0, l1, l2, some (.int x), l4], st) σ = ev 57 (37, [l0, l1, ri_clr l2, some (.int (x + 1)), l4], st) σ) ∧
  (∀ (L : ri_L) (st : List Value) (σ : ri_S), ev 57 (37, L, st) σ = ev 57 (19, L, st) σ) ∧
  (∀ (L : ri_L) (st : List Value) (σ : ri_S), ev 57 (40, L, st) σ = ev 57 (41, L, .int 0 :: st) σ) ∧
  (∀ (l0 l1 l2 l3 l4 : Option Value) (st : List Value) (σ : ri_S) (x : Int32), ev 57 (41, [l0, l1, l2, l3, l4], .int x :: st) σ = ev 57 (42, [l0, l1, ri_clr l2, some (.int x), l4], st) σ) ∧
  (∀ (L : ri_L) (st : List Value) (σ : ri_S), ev 57 (42, L, st) σ = ev 57 (43, L, .int 0 :: st) σ) ∧
  (∀ (l0 l1 l2 l3 l4 : Option Value) (st : List Value) (σ : ri_S) (x : Int32), ev 57 (43, [l0, l1, l2, l3, l4], .int x :: st) σ = ev 57 (45, [l0, l1, l2, ri_clr l3, some (.int x)], st) σ) ∧
  (∀ (l0 l2 l3 l4 : Option Value) (st : List Value) (σ : ri_S) (x : Nat), ev 57 (47, [l0, some (.ref x), l2, l3, l4], st) σ = ev 57 (48, [l0, some (.ref x), l2, l3, l4], .ref x :: st) σ) ∧
  (∀ (L : ri_L) (st : List Value) (σ : ri_S) (a : Nat), ev 57 (48, L, .ref a :: st) σ = tv_o 3 0 (σ.1 a) fun v => ev 57 (51, L, v :: st) σ) ∧
  (∀ (L : ri_L) (st : List Value) (σ : ri_S) (a : Nat), ev 57 (51, L, .ref a :: st) σ = tv_o 7 0 (σ.1 a) fun v => ev 57 (54, L, v :: st) σ) ∧
  (∀ (L : ri_L) (st : List Value) (σ : ri_S) (x y : Int32), ev 57 (54, L, .int y :: .int x :: st) σ = if y ≤ x then ev 57 (84, L, st) σ else ev 57 (57, L, st) σ) ∧
  (∀ (l0 l1 l2 l4 : Option Value) (st : List Value) (σ : ri_S) (x : Int32), ev 57 (57, [l0, l1, l2, some (.int x), l4], st) σ = ev 57 (58, [l0, l1, l2, some (.int x), l4], .int x :: st) σ) ∧
  (∀ (l0 l2 l3 l4 : Option Value) (st : List Value) (σ : ri_S) (x : Nat), ev 57 (58, [l0, some (.ref x), l2, l3, l4], st) σ = ev 57 (59, [l0, some (.ref x), l2, l3, l4], .ref x :: st) σ) ∧
  (∀ (L : ri_L) (st : List Value) (σ : ri_S) (a : Nat), ev 57 (59, L, .ref a :: st) σ = tv_o 3 0 (σ.1 a) fun v => ev 57 (62, L, v :: st) σ) ∧
  (∀ (L : ri_L) (st : List Value) (σ : ri_S) (a : Nat), ev 57 (62, L, .ref a :: st) σ = tv_o 7 4 (σ.1 a) fun v => ev 57 (65, L, v :: st) σ) ∧
  (∀ (l0 l1 l2 l3 : Option Value) (st : List Value) (σ : ri_S) (x : Int32), ev 57 (65, [l0, l1, l2, l3, some (.int x)], st) σ = ev 57 (67, [l0, l1, l2, l3, some (.int x)], .int x :: st) σ) ∧
  (∀ (L : ri_L) (σ : ri_S) (a0 : Nat) (a1 : Int32) (s0 : Value), ev 57 (67, L, [.int a1, .ref a0, s0]) σ = (cal 140 [.ref a0, .int a1] σ).bind fun q => ev 57 (70, L, q.1.toList ++ [s0]) q.2) ∧
  (∀ (l0 l1 l2 l3 : Option Value) (st : List Value) (σ : ri_S) (x : Int32), ev 57 (70, [l0, l1, l2, l3, some (.int x)], st) σ = ev 57 (72, [l0, l1, l2, l3, some (.int x)], .int x :: st) σ) ∧
  (∀ (L : ri_L) (σ : ri_S) (a0 : Int32) (s0 s1 : Value), ev 57 (72, L, [.int a0, s0, s1]) σ = (cal 58 [.int a0] σ).bind fun q => ev 57 (75, L, q.1.toList ++ [s0, s1]) q.2) ∧
  (∀ (L : ri_L) (st : List Value) (σ : ri_S) (x y : Int32), ev 57 (75, L, .int y :: .int x :: st) σ = ev 57 (76, L, .int (x * y) :: st) σ) ∧
  (∀ (L : ri_L) (st : List Value) (σ : ri_S) (x y : Int32), ev 57 (76, L, .int y :: .int x :: st) σ = ev 57 (77, L, .int (x + y) :: st) σ) :=
  ⟨fun l1 l2 l3 l4 st σ x => ev_p ((TP_57 _).trans rfl) rfl,
   fun l0 l2 l3 l4 st σ x => ev_p ((TP_57 _).trans rfl) rfl,
   fun L σ a0 a1 => ev_callv ((TP_57 _).trans rfl) rfl rfl rfl rfl,
   fun l1 l2 l3 l4 st σ x => ev_p ((TP_57 _).trans rfl) rfl,
   fun l0 l2 l3 l4 st σ x => ev_p ((TP_57 _).trans rfl) rfl,
   fun l0 l1 l3 l4 st σ x => ev_p ((TP_57 _).trans rfl) rfl,
   fun L σ a0 a1 a2 => ev_callv ((TP_57 _).trans rfl) rfl rfl rfl rfl,
   fun l1 l2 l3 l4 st σ x => ev_p ((TP_57 _).trans rfl) rfl,
   fun l0 l2 l3 l4 st σ x => ev_p ((TP_57 _).trans rfl) rfl,
   fun l0 l1 l3 l4 st σ x => ev_p ((TP_57 _).trans rfl) rfl,
   fun L σ a0 a1 a2 => ev_callv ((TP_57 _).trans rfl) rfl rfl rfl rfl,
   fun L st σ => ev_p ((TP_57 _).trans rfl) rfl,
   fun l0 l1 l2 l3 l4 st σ x => ev_p ((TP_57 _).trans rfl) rfl,
   fun L st σ => ev_p ((TP_57 _).trans rfl) rfl,
   fun L st σ x y => ev_b ((TP_57 _).trans rfl) rfl,
   fun l1 l2 l3 l4 st σ x => ev_p ((TP_57 _).trans rfl) rfl,
   fun l0 l2 l3 l4 st σ x => ev_p ((TP_57 _).trans rfl) rfl,
   fun L st σ a => ev_getf ((TP_57 _).trans rfl),
   fun l0 l1 l2 l4 st σ x => ev_p ((TP_57 _).trans rfl) rfl,
   fun L σ a0 a1 a2 => ev_callv ((TP_57 _).trans rfl) rfl rfl rfl rfl,
   fun l0 l1 l2 l4 st σ x => ev_p ((TP_57 _).trans rfl) rfl,
   fun L st σ => ev_p ((TP_57 _).trans rfl) rfl,
   fun L st σ => ev_p ((TP_57 _).trans rfl) rfl,
   fun l0 l1 l2 l3 l4 st σ x => ev_p ((TP_57 _).trans rfl) rfl,
   fun L st σ => ev_p ((TP_57 _).trans rfl) rfl,
   fun l0 l1 l2 l3 l4 st σ x => ev_p ((TP_57 _).trans rfl) rfl,
   fun l0 l2 l3 l4 st σ x => ev_p ((TP_57 _).trans rfl) rfl,
   fun L st σ a => ev_getf ((TP_57 _).trans rfl),
   fun L st σ a => ev_getf ((TP_57 _).trans rfl),
   fun L st σ x y => ev_b ((TP_57 _).trans rfl) rfl,
   fun l0 l1 l2 l4 st σ x => ev_p ((TP_57 _).trans rfl) rfl,
   fun l0 l2 l3 l4 st σ x => ev_p ((TP_57 _).trans rfl) rfl,
   fun L st σ a => ev_getf ((TP_57 _).trans rfl),
   fun L st σ a => ev_getf ((TP_57 _).trans rfl),
   fun l0 l1 l2 l3 st σ x => ev_p ((TP_57 _).trans rfl) rfl,
   fun L σ a0 a1 s0 => ev_call ((TP_57 _).trans rfl) rfl rfl rfl rfl,
   fun l0 l1 l2 l3 st σ x => ev_p ((TP_57 _).trans rfl) rfl,
   fun L σ a0 s0 s1 => ev_call ((TP_57 _).trans rfl) rfl rfl rfl rfl,
   fun L st σ x y => ev_p ((TP_57 _).trans rfl) rfl,
   fun L st σ x y => ev_p ((TP_57 _).trans rfl) rfl⟩
theorem I_57_1 :
  (∀ (l0 l1 l2 l3 l4 : Option Value) (st : List Value) (σ : ri_S) (x : Int32), ev 57 (77, [l0, l1, l2, l3, l4], .int x :: st) σ = ev 57 (78, [l0, l1, ri_clr l2, some (.int x), l4], st) σ) ∧
  (∀ (l0 l1 l2 l3 : Option Value) (st : List Value) (σ : ri_S) (x : Int32), ev 57 (78, [l0, l1, l2, l3, some (.int x)], st) σ = ev 57 (81, [l0, l1, l2, ri_clr l3, some (.int (x + 1))], st) σ) ∧
  (∀ (L : ri_L) (st : List Value) (σ : ri_S), ev 57 (81, L, st) σ = ev 57 (45, L, st) σ) ∧
  (∀ (l1 l2 l3 l4 : Option Value) (st : List Value) (σ : ri_S) (x : Nat), ev 57 (84, [some (.ref x), l1, l2, l3, l4], st) σ = ev 57 (85, [some (.ref x), l1, l2, l3, l4], .ref x :: st) σ) ∧
  (∀ (l0 l1 l2 l4 : Option Value) (st : List Value) (σ : ri_S) (x : Int32), ev 57 (85, [l0, l1, l2, some (.int x), l4], st) σ = ev 57 (86, [l0, l1, l2, some (.int x), l4], .int x :: st) σ) ∧
  (∀ (L : ri_L) (st : List Value) (σ : ri_S), ev 57 (86, L, st) σ = ev 57 (88, L, .int 15 :: st) σ) ∧
  (∀ (L : ri_L) (st : List Value) (σ : ri_S) (x y : Int32), ev 57 (88, L, .int y :: .int x :: st) σ = ev 57 (89, L, .int (x * y) :: st) σ) ∧
  (∀ (l0 l2 l3 l4 : Option Value) (st : List Value) (σ : ri_S) (x : Nat), ev 57 (89, [l0, some (.ref x), l2, l3, l4], st) σ = ev 57 (90, [l0, some (.ref x), l2, l3, l4], .ref x :: st) σ) ∧
  (∀ (l0 l1 l3 l4 : Option Value) (st : List Value) (σ : ri_S) (x : Int32), ev 57 (90, [l0, l1, some (.int x), l3, l4], st) σ = ev 57 (91, [l0, l1, some (.int x), l3, l4], .int x :: st) σ) ∧
  (∀ (L : ri_L) (σ : ri_S) (a0 : Nat) (a1 : Int32) (s0 s1 : Value), ev 57 (91, L, [.int a1, .ref a0, s0, s1]) σ = tv_k 3 (σ.1 a0) ((cal 38 [.ref a0, .int a1] σ).bind fun q => ev 57 (94, L, q.1.toList ++ [s0, s1]) q.2)) ∧
  (∀ (L : ri_L) (st : List Value) (σ : ri_S) (x y : Int32), ev 57 (94, L, .int y :: .int x :: st) σ = ev 57 (95, L, .int (x + y) :: st) σ) ∧
  (∀ (L : ri_L) (st : List Value) (σ : ri_S) (a : Nat) (x : Int32), ev 57 (95, L, .int x :: .ref a :: st) σ = tv_w 4 9 (σ.1 a) (.int x) fun fs => ev 57 (98, L, st) (ri_upd σ.1 a (.inr (.inr (4, fs))), σ.2)) ∧
  (∀ (L : ri_L) (σ : ri_S), ev 57 (98, L, []) σ = some (none, σ)) :=
  ⟨fun l0 l1 l2 l3 l4 st σ x => ev_p ((TP_57 _).trans rfl) rfl,
   fun l0 l1 l2 l3 st σ x => ev_p ((TP_57 _).trans rfl) rfl,
   fun L st σ => ev_p ((TP_57 _).trans rfl) rfl,
   fun l1 l2 l3 l4 st σ x => ev_p ((TP_57 _).trans rfl) rfl,
   fun l0 l1 l2 l4 st σ x => ev_p ((TP_57 _).trans rfl) rfl,
   fun L st σ => ev_p ((TP_57 _).trans rfl) rfl,
   fun L st σ x y => ev_p ((TP_57 _).trans rfl) rfl,
   fun l0 l2 l3 l4 st σ x => ev_p ((TP_57 _).trans rfl) rfl,
   fun l0 l1 l3 l4 st σ x => ev_p ((TP_57 _).trans rfl) rfl,
   fun L σ a0 a1 s0 s1 => ev_callv ((TP_57 _).trans rfl) rfl rfl rfl rfl,
   fun L st σ x y => ev_p ((TP_57 _).trans rfl) rfl,
   fun L st σ a x => ev_puti ((TP_57 _).trans rfl),
   fun L σ => ev_r ((TP_57 _).trans rfl) rfl⟩
theorem TP_58 (pc : Nat) : TT 58 pc = ri_find TL_58 pc := rfl
theorem E_58 (x0 : Int32) (σ : ri_S) : cal 58 [.int x0] σ = ev 58 (0, [some (.int x0)], []) σ := rfl
theorem I_58 :
  (∀ (st : List Value) (σ : ri_S) (x : Int32), ev 58 (0, [some (.int x)], st) σ = ev 58 (1, [some (.int x)], .int x :: st) σ) ∧
  (∀ (L : ri_L) (st : List Value) (σ : ri_S) (x : Int32), ev 58 (1, L, .int x :: st) σ = if ¬ x = 0 then ev 58 (9, L, st) σ else ev 58 (4, L, st) σ) ∧
  (∀ (L : ri_L) (st : List Value) (σ : ri_S), ev 58 (4, L, st) σ = ev 58 (6, L, .int 25 :: st) σ) ∧
  (∀ (L : ri_L) (st : List Value) (σ : ri_S), ev 58 (6, L, st) σ = ev 58 (19, L, st) σ) ∧
  (∀ (st : List Value) (σ : ri_S) (x : Int32), ev 58 (9, [some (.int x)], st) σ = ev 58 (10, [some (.int x)], .int x :: st) σ) ∧
  (∀ (L : ri_L) (st : List Value) (σ : ri_S), ev 58 (10, L, st) σ = ev 58 (11, L, .int 1 :: st) σ) ∧
  (∀ (L : ri_L) (st : List Value) (σ : ri_S) (x y : Int32), ev 58 (11, L, .int y :: .int x :: st) σ = if ¬ x = y then ev 58 (18, L, st) σ else ev 58 (14, L, st) σ) ∧
  (∀ (L : ri_L) (st : List Value) (σ : ri_S), ev 58 (14, L, st) σ = ev 58 (15, L, .int 5 :: st) σ) ∧
  (∀ (L : ri_L) (st : List Value) (σ : ri_S), ev 58 (15, L, st) σ = ev 58 (19, L, st) σ) ∧
  (∀ (L : ri_L) (st : List Value) (σ : ri_S), ev 58 (18, L, st) σ = ev 58 (19, L, .int 1 :: st) σ) ∧
  (∀ (L : ri_L) (σ : ri_S) (x : Int32), ev 58 (19, L, [.int x]) σ = some (some (.int x), σ)) :=
  ⟨fun st σ x => ev_p ((TP_58 _).trans rfl) rfl,
   fun L st σ x => ev_b ((TP_58 _).trans rfl) rfl,
   fun L st σ => ev_p ((TP_58 _).trans rfl) rfl,
   fun L st σ => ev_p ((TP_58 _).trans rfl) rfl,
   fun st σ x => ev_p ((TP_58 _).trans rfl) rfl,
   fun L st σ => ev_p ((TP_58 _).trans rfl) rfl,
   fun L st σ x y => ev_b ((TP_58 _).trans rfl) rfl,
   fun L st σ => ev_p ((TP_58 _).trans rfl) rfl,
   fun L st σ => ev_p ((TP_58 _).trans rfl) rfl,
   fun L st σ => ev_p ((TP_58 _).trans rfl) rfl,
   fun L σ x => ev_r ((TP_58 _).trans rfl) rfl⟩
theorem TP_59 (pc : Nat) : TT 59 pc = ri_find TL_59 pc := rfl
theorem E_59 (x0 : Int32) (x1 : Int32) (σ : ri_S) : cal 59 [.int x0, .int x1] σ = ev 59 (0, [some (.int x0), some (.int x1)], []) σ := rfl
theorem I_59 :
  (∀ (l0 : Option Value) (st : List Value) (σ : ri_S) (x : Int32), ev 59 (0, [l0, some (.int x)], st) σ = ev 59 (1, [l0, some (.int x)], .int x :: st) σ) ∧
  (∀ (L : ri_L) (st : List Value) (σ : ri_S) (x : Int32), ev 59 (1, L, .int x :: st) σ = if ¬ x = 0 then ev 59 (11, L, st) σ else ev 59 (4, L, st) σ) ∧
  (∀ (l1 : Option Value) (st : List Value) (σ : ri_S) (x : Int32), ev 59 (4, [some (.int x), l1], st) σ = ev 59 (5, [some (.int x), l1], .int x :: st) σ) ∧
  (∀ (L : ri_L) (st : List Value) (σ : ri_S), ev 59 (5, L, st) σ = ev 59 (7, L, .int 25 :: st) σ) ∧
  (∀ (L : ri_L) (st : List Value) (σ : ri_S) (x y : Int32), ev 59 (7, L, .int y :: .int x :: st) σ = if y = 0 then none else ev 59 (8, L, .int (x / y) :: st) σ) ∧
  (∀ (L : ri_L) (st : List Value) (σ : ri_S), ev 59 (8, L, st) σ = ev 59 (27, L, st) σ) ∧
  (∀ (l0 : Option Value) (st : List Value) (σ : ri_S) (x : Int32), ev 59 (11, [l0, some (.int x)], st) σ = ev 59 (12, [l0, some (.int x)], .int x :: st) σ) ∧
  (∀ (L : ri_L) (st : List Value) (σ : ri_S), ev 59 (12, L, st) σ = ev 59 (13, L, .int 1 :: st) σ) ∧
  (∀ (L : ri_L) (st : List Value) (σ : ri_S) (x y : Int32), ev 59 (13, L, .int y :: .int x :: st) σ = if ¬ x = y then ev 59 (24, L, st) σ else ev 59 (16, L, st) σ) ∧
  (∀ (l1 : Option Value) (st : List Value) (σ : ri_S) (x : Int32), ev 59 (16, [some (.int x), l1], st) σ = ev 59 (17, [some (.int x), l1], .int x :: st) σ) ∧
  (∀ (L : ri_L) (st : List Value) (σ : ri_S), ev 59 (17, L, st) σ = ev 59 (18, L, .int 5 :: st) σ) ∧
  (∀ (L : ri_L) (st : List Value) (σ : ri_S) (x y : Int32), ev 59 (18, L, .int y :: .int x :: st) σ = if y = 0 then none else ev 59 (19, L, .int (x / y) :: st) σ) ∧
  (∀ (L : ri_L) (st : List Value) (σ : ri_S), ev 59 (19, L, st) σ = ev 59 (20, L, .int 5 :: st) σ) ∧
  (∀ (L : ri_L) (st : List Value) (σ : ri_S) (x y : Int32), ev 59 (20, L, .int y :: .int x :: st) σ = if y = 0 then none else ev 59 (21, L, .int (x - x / y * y) :: st) σ) ∧
  (∀ (L : ri_L) (st : List Value) (σ : ri_S), ev 59 (21, L, st) σ = ev 59 (27, L, st) σ) ∧
  (∀ (l1 : Option Value) (st : List Value) (σ : ri_S) (x : Int32), ev 59 (24, [some (.int x), l1], st) σ = ev 59 (25, [some (.int x), l1], .int x :: st) σ) ∧
  (∀ (L : ri_L) (st : List Value) (σ : ri_S), ev 59 (25, L, st) σ = ev 59 (26, L, .int 5 :: st) σ) ∧
  (∀ (L : ri_L) (st : List Value) (σ : ri_S) (x y : Int32), ev 59 (26, L, .int y :: .int x :: st) σ = if y = 0 then none else ev 59 (27, L, .int (x - x / y * y) :: st) σ) ∧
  (∀ (L : ri_L) (σ : ri_S) (x : Int32), ev 59 (27, L, [.int x]) σ = some (some (.int x), σ)) :=
  ⟨fun l0 st σ x => ev_p ((TP_59 _).trans rfl) rfl,
   fun L st σ x => ev_b ((TP_59 _).trans rfl) rfl,
   fun l1 st σ x => ev_p ((TP_59 _).trans rfl) rfl,
   fun L st σ => ev_p ((TP_59 _).trans rfl) rfl,
   fun L st σ x y => ev_d ((TP_59 _).trans rfl) rfl,
   fun L st σ => ev_p ((TP_59 _).trans rfl) rfl,
   fun l0 st σ x => ev_p ((TP_59 _).trans rfl) rfl,
   fun L st σ => ev_p ((TP_59 _).trans rfl) rfl,
   fun L st σ x y => ev_b ((TP_59 _).trans rfl) rfl,
   fun l1 st σ x => ev_p ((TP_59 _).trans rfl) rfl,
   fun L st σ => ev_p ((TP_59 _).trans rfl) rfl,
   fun L st σ x y => ev_d ((TP_59 _).trans rfl) rfl,
   fun L st σ => ev_p ((TP_59 _).trans rfl) rfl,
   fun L st σ x y => ev_d ((TP_59 _).trans rfl) rfl,
   fun L st σ => ev_p ((TP_59 _).trans rfl) rfl,
   fun l1 st σ x => ev_p ((TP_59 _).trans rfl) rfl,
   fun L st σ => ev_p ((TP_59 _).trans rfl) rfl,
   fun L st σ x y => ev_d ((TP_59 _).trans rfl) rfl,
   fun L σ x => ev_r ((TP_59 _).trans rfl) rfl⟩
theorem TP_60 (pc : Nat) : TT 60 pc = ri_find TL_60 pc := rfl
theorem E_60 (x0 : Nat) (x1 : Nat) (σ : ri_S) : cal 60 [.ref x0, .ref x1] σ = ev 60 (0, [some (.ref x0), some (.ref x1), none, none, none], []) σ := rfl
theorem H_60_10 (l0 l1 l3 l4 : Option Value) (st : List Value) (σ : ri_S) (x : Int32) : ev 60 (10, [l0, l1, some (.int x), l3, l4], st) σ = ev 60 (11, [l0, l1, some (.int x), l3, l4], .int x :: st) σ := ev_p ((TP_60 _).trans rfl) rfl
theorem H_60_36 (l0 l1 l2 l3 : Option Value) (st : List Value) (σ : ri_S) (x : Int32) : ev 60 (36, [l0, l1, l2, l3, some (.int x)], st) σ = ev 60 (38, [l0, l1, l2, l3, some (.int x)], .int x :: st) σ := ev_p ((TP_60 _).trans rfl) rfl
theorem H_60_100 (l0 l1 l3 l4 : Option Value) (st : List Value) (σ : ri_S) (x : Int32) : ev 60 (100, [l0, l1, some (.int x), l3, l4], st) σ = ev 60 (101, [l0, l1, some (.int x), l3, l4], .int x :: st) σ := ev_p ((TP_60 _).trans rfl) rfl
theorem I_60_0 :
  (∀ (l1 l2 l3 l4 : Option Value) (st : List Value) (σ : ri_S) (x : Nat), ev 60 (0, [some (.ref x), l1, l2, l3, l4], st) σ = ev 60 (1, [some (.ref x), l1, l2, l3, l4], .ref x :: st) σ) ∧
  (∀ (L : ri_L) (st : List Value) (σ : ri_S) (a : Nat), ev 60 (1, L, .ref a :: st) σ = tv_o 4 5 (σ.1 a) fun v => ev 60 (4, L, v :: st) σ) ∧
  (∀ (L : ri_L) (st : List Value) (σ : ri_S), ev 60 (4, L, st) σ = ev 60 (5, L, .int 0 :: st) σ) ∧
  (∀ (L : ri_L) (σ : ri_S) (a0 : Nat) (a1 : Int32), ev 60 (5, L, [.int a1, .ref a0]) σ = (cal 229 [.ref a0, .int a1] σ).bind fun q => ev 60 (8, L, q.1.toList ++ []) q.2) ∧
  (∀ (L : ri_L) (st : List Value) (σ : ri_S), ev 60 (8, L, st) σ = ev 60 (9, L, .int 0 :: st) σ) ∧
  (∀ (l0 l1 l2 l3 l4 : Option Value) (st : List Value) (σ : ri_S) (x : Int32), ev 60 (9, [l0, l1, l2, l3, l4], .int x :: st) σ = ev 60 (10, [l0, ri_clr l1, some (.int x), l3, l4], st) σ) ∧
  (∀ (l0 l2 l3 l4 : Option Value) (st : List Value) (σ : ri_S) (x : Nat), ev 60 (11, [l0, some (.ref x), l2, l3, l4], st) σ = ev 60 (12, [l0, some (.ref x), l2, l3, l4], .ref x :: st) σ) ∧
  (∀ (L : ri_L) (st : List Value) (σ : ri_S) (a : Nat), ev 60 (12, L, .ref a :: st) σ = tv_o 3 0 (σ.1 a) fun v => ev 60 (15, L, v :: st) σ) ∧
  (∀ (L : ri_L) (st : List Value) (σ : ri_S) (a : Nat), ev 60 (15, L, .ref a :: st) σ = tv_o 7 0 (σ.1 a) fun v => ev 60 (18, L, v :: st) σ) ∧
  (∀ (L : ri_L) (st : List Value) (σ : ri_S) (x y : Int32), ev 60 (18, L, .int y :: .int x :: st) σ = if y ≤ x then ev 60 (98, L, st) σ else ev 60 (21, L, st) σ) ∧
  (∀ (l0 l2 l3 l4 : Option Value) (st : List Value) (σ : ri_S) (x : Nat), ev 60 (21, [l0, some (.ref x), l2, l3, l4], st) σ = ev 60 (22, [l0, some (.ref x), l2, l3, l4], .ref x :: st) σ) ∧
  (∀ (L : ri_L) (st : List Value) (σ : ri_S) (a : Nat), ev 60 (22, L, .ref a :: st) σ = tv_o 3 0 (σ.1 a) fun v => ev 60 (25, L, v :: st) σ) ∧
  (∀ (L : ri_L) (st : List Value) (σ : ri_S) (a : Nat), ev 60 (25, L, .ref a :: st) σ = tv_o 7 1 (σ.1 a) fun v => ev 60 (28, L, v :: st) σ) ∧
  (∀ (l0 l1 l3 l4 : Option Value) (st : List Value) (σ : ri_S) (x : Int32), ev 60 (28, [l0, l1, some (.int x), l3, l4], st) σ = ev 60 (29, [l0, l1, some (.int x), l3, l4], .int x :: st) σ) ∧
  (∀ (L : ri_L) (σ : ri_S) (a0 : Nat) (a1 : Int32), ev 60 (29, L, [.int a1, .ref a0]) σ = (cal 140 [.ref a0, .int a1] σ).bind fun q => ev 60 (32, L, q.1.toList ++ []) q.2) ∧
  (∀ (l0 l1 l2 l3 l4 : Option Value) (st : List Value) (σ : ri_S) (x : Int32), ev 60 (32, [l0, l1, l2, l3, l4], .int x :: st) σ = ev 60 (33, [l0, l1, ri_clr l2, some (.int x), l4], st) σ) ∧
  (∀ (L : ri_L) (st : List Value) (σ : ri_S), ev 60 (33, L, st) σ = ev 60 (34, L, .int 0 :: st) σ) ∧
  (∀ (l0 l1 l2 l3 l4 : Option Value) (st : List Value) (σ : ri_S) (x : Int32), ev 60 (34, [l0, l1, l2, l3, l4], .int x :: st) σ = ev 60 (36, [l0, l1, l2, ri_clr l3, some (.int x)], st) σ) ∧
  (∀ (l0 l1 l2 l4 : Option Value) (st : List Value) (σ : ri_S) (x : Int32), ev 60 (38, [l0, l1, l2, some (.int x), l4], st) σ = ev 60 (39, [l0, l1, l2, some (.int x), l4], .int x :: st) σ) ∧
  (∀ (L : ri_L) (st : List Value) (σ : ri_S) (x y : Int32), ev 60 (39, L, .int y :: .int x :: st) σ = if y ≤ x then ev 60 (92, L, st) σ else ev 60 (42, L, st) σ) ∧
  (∀ (l1 l2 l3 l4 : Option Value) (st : List Value) (σ : ri_S) (x : Nat), ev 60 (42, [some (.ref x), l1, l2, l3, l4], st) σ = ev 60 (43, [some (.ref x), l1, l2, l3, l4], .ref x :: st) σ) ∧
  (∀ (l0 l1 l3 l4 : Option Value) (st : List Value) (σ : ri_S) (x : Int32), ev 60 (43, [l0, l1, some (.int x), l3, l4], st) σ = ev 60 (44, [l0, l1, some (.int x), l3, l4], .int x :: st) σ) ∧
  (∀ (l0 l1 l2 l3 : Option Value) (st : List Value) (σ : ri_S) (x : Int32), ev 60 (44, [l0, l1, l2, l3, some (.int x)], st) σ = ev 60 (46, [l0, l1, l2, l3, some (.int x)], .int x :: st) σ) ∧
  (∀ (L : ri_L) (σ : ri_S) (a0 : Int32) (a1 : Int32) (s0 : Value), ev 60 (46, L, [.int a1, .int a0, s0]) σ = (cal 138 [.int a0, .int a1] σ).bind fun q => ev 60 (49, L, q.1.toList ++ [s0]) q.2) ∧
  (∀ (l0 l1 l3 l4 : Option Value) (st : List Value) (σ : ri_S) (x : Int32), ev 60 (49, [l0, l1, some (.int x), l3, l4], st) σ = ev 60 (50, [l0, l1, some (.int x), l3, l4], .int x :: st) σ) ∧
  (∀ (l0 l1 l2 l3 : Option Value) (st : List Value) (σ : ri_S) (x : Int32), ev 60 (50, [l0, l1, l2, l3, some (.int x)], st) σ = ev 60 (52, [l0, l1, l2, l3, some (.int x)], .int x :: st) σ) ∧
  (∀ (L : ri_L) (st : List Value) (σ : ri_S), ev 60 (52, L, st) σ = ev 60 (53, L, .int 1 :: st) σ) ∧
  (∀ (L : ri_L) (st : List Value) (σ : ri_S) (x y : Int32), ev 60 (53, L, .int y :: .int x :: st) σ = ev 60 (54, L, .int (x + y) :: st) σ) ∧
  (∀ (l0 l1 l2 l4 : Option Value) (st : List Value) (σ : ri_S) (x : Int32), ev 60 (54, [l0, l1, l2, some (.int x), l4], st) σ = ev 60 (55, [l0, l1, l2, some (.int x), l4], .int x :: st) σ) ∧
  (∀ (L : ri_L) (σ : ri_S) (a0 : Int32) (a1 : Int32) (s0 s1 s2 : Value), ev 60 (55, L, [.int a1, .int a0, s0, s1, s2]) σ = (cal 139 [.int a0, .int a1] σ).bind fun q => ev 60 (58, L, q.1.toList ++ [s0, s1, s2]) q.2) ∧
  (∀ (L : ri_L) (σ : ri_S) (a0 : Int32) (a1 : Int32) (s0 s1 : Value), ev 60 (58, L, [.int a1, .int a0, s0, s1]) σ = (cal 138 [.int a0, .int a1] σ).bind fun q => ev 60 (61, L, q.1.toList ++ [s0, s1]) q.2) ∧
  (∀ (L : ri_L) (σ : ri_S) (a0 : Nat) (a1 : Int32) (a2 : Int32), ev 60 (61, L, [.int a2, .int a1, .ref a0]) σ = tv_k 4 (σ.1 a0) ((cal 61 [.ref a0, .int a1, .int a2] σ).bind fun q => ev 60 (64, L, q.1.toList ++ []) q.2)) ∧
  (∀ (l1 l2 l3 l4 : Option Value) (st : List Value) (σ : ri_S) (x : Nat), ev 60 (64, [some (.ref x), l1, l2, l3, l4], st) σ = ev 60 (65, [some (.ref x), l1, l2, l3, l4], .ref x :: st) σ) ∧
  (∀ (l0 l1 l3 l4 : Option Value) (st : List Value) (σ : ri_S) (x : Int32), ev 60 (65, [l0, l1, some (.int x), l3, l4], st) σ = ev 60 (66, [l0, l1, some (.int x), l3, l4], .int x :: st) σ) ∧
  (∀ (l0 l1 l2 l3 : Option Value) (st : List Value) (σ : ri_S) (x : Int32), ev 60 (66, [l0, l1, l2, l3, some (.int x)], st) σ = ev 60 (68, [l0, l1, l2, l3, some (.int x)], .int x :: st) σ) ∧
  (∀ (L : ri_L) (σ : ri_S) (a0 : Int32) (a1 : Int32) (s0 : Value), ev 60 (68, L, [.int a1, .int a0, s0]) σ = (cal 138 [.int a0, .int a1] σ).bind fun q => ev 60 (71, L, q.1.toList ++ [s0]) q.2) ∧
  (∀ (l0 l1 l3 l4 : Option Value) (st : List Value) (σ : ri_S) (x : Int32), ev 60 (71, [l0, l1, some (.int x), l3, l4], st) σ = ev 60 (72, [l0, l1, some (.int x), l3, l4], .int x :: st) σ) ∧
  (∀ (l0 l1 l2 l3 : Option Value) (st : List Value) (σ : ri_S) (x : Int32), ev 60 (72, [l0, l1, l2, l3, some (.int x)], st) σ = ev 60 (74, [l0, l1, l2, l3, some (.int x)], .int x :: st) σ) ∧
  (∀ (L : ri_L) (st : List Value) (σ : ri_S), ev 60 (74, L, st) σ = ev 60 (75, L, .int 1 :: st) σ) ∧
  (∀ (L : ri_L) (st : List Value) (σ : ri_S) (x y : Int32), ev 60 (75, L, .int y :: .int x :: st) σ = ev 60 (76, L, .int (x - y) :: st) σ) :=
  ⟨fun l1 l2 l3 l4 st σ x => ev_p ((TP_60 _).trans rfl) rfl,
   fun L st σ a => ev_getf ((TP_60 _).trans rfl),
   fun L st σ => ev_p ((TP_60 _).trans rfl) rfl,
   fun L σ a0 a1 => ev_call ((TP_60 _).trans rfl) rfl rfl rfl rfl,
   fun L st σ => ev_p ((TP_60 _).trans rfl) rfl,
   fun l0 l1 l2 l3 l4 st σ x => ev_p ((TP_60 _).trans rfl) rfl,
   fun l0 l2 l3 l4 st σ x => ev_p ((TP_60 _).trans rfl) rfl,
   fun L st σ a => ev_getf ((TP_60 _).trans rfl),
   fun L st σ a => ev_getf ((TP_60 _).trans rfl),
   fun L st σ x y => ev_b ((TP_60 _).trans rfl) rfl,
   fun l0 l2 l3 l4 st σ x => ev_p ((TP_60 _).trans rfl) rfl,
   fun L st σ a => ev_getf ((TP_60 _).trans rfl),
   fun L st σ a => ev_getf ((TP_60 _).trans rfl),
   fun l0 l1 l3 l4 st σ x => ev_p ((TP_60 _).trans rfl) rfl,
   fun L σ a0 a1 => ev_call ((TP_60 _).trans rfl) rfl rfl rfl rfl,
   fun l0 l1 l2 l3 l4 st σ x => ev_p ((TP_60 _).trans rfl) rfl,
   fun L st σ => ev_p ((TP_60 _).trans rfl) rfl,
   fun l0 l1 l2 l3 l4 st σ x => ev_p ((TP_60 _).trans rfl) rfl,
   fun l0 l1 l2 l4 st σ x => ev_p ((TP_60 _).trans rfl) rfl,
   fun L st σ x y => ev_b ((TP_60 _).trans rfl) rfl,
   fun l1 l2 l3 l4 st σ x => ev_p ((TP_60 _).trans rfl) rfl,
   fun l0 l1 l3 l4 st σ x => ev_p ((TP_60 _).trans rfl) rfl,
   fun l0 l1 l2 l3 st σ x => ev_p ((TP_60 _).trans rfl) rfl,
   fun L σ a0 a1 s0 => ev_call ((TP_60 _).trans rfl) rfl rfl rfl rfl,
   fun l0 l1 l3 l4 st σ x => ev_p ((TP_60 _).trans rfl) rfl,
   fun l0 l1 l2 l3 st σ x => ev_p ((TP_60 _).trans rfl) rfl,
   fun L st σ => ev_p ((TP_60 _).trans rfl) rfl,
   fun L st σ x y => ev_p ((TP_60 _).trans rfl) rfl,
   fun l0 l1 l2 l4 st σ x => ev_p ((TP_60 _).trans rfl) rfl,
   fun L σ a0 a1 s0 s1 s2 => ev_call ((TP_60 _).trans rfl) rfl rfl rfl rfl,
   fun L σ a0 a1 s0 s1 => ev_call ((TP_60 _).trans rfl) rfl rfl rfl rfl,
   fun L σ a0 a1 a2 => ev_callv ((TP_60 _).trans rfl) rfl rfl rfl rfl,
   fun l1 l2 l3 l4 st σ x => ev_p ((TP_60 _).trans rfl) rfl,
   fun l0 l1 l3 l4 st σ x => ev_p ((TP_60 _).trans rfl) rfl,
   fun l0 l1 l2 l3 st σ x => ev_p ((TP_60 _).trans rfl) rfl,
   fun L σ a0 a1 s0 => ev_call ((TP_60 _).trans rfl) rfl rfl rfl rfl,
   fun l0 l1 l3 l4 st σ x => ev_p ((TP_60 _).trans rfl) rfl,
   fun l0 l1 l2 l3 st σ x => ev_p ((TP_60 _).trans rfl) rfl,
   fun L st σ => ev_p ((TP_60 _).trans rfl) rfl,
   fun L st σ x y => ev_p ((TP_60 _).trans rfl) rfl⟩
theorem I_60_1 :
  (∀ (l0 l1 l2 l4 : Option Value) (st : List Value) (σ : ri_S) (x : Int32), ev 60 (76, [l0, l1, l2, some (.int x), l4], st) σ = ev 60 (77, [l0, l1, l2, some (.int x), l4], .int x :: st) σ) ∧
  (∀ (L : ri_L) (σ : ri_S) (a0 : Int32) (a1 : Int32) (s0 s1 s2 : Value), ev 60 (77, L, [.int a1, .int a0, s0, s1, s2]) σ = (cal 139 [.int a0, .int a1] σ).bind fun q => ev 60 (80, L, q.1.toList ++ [s0, s1, s2]) q.2) ∧
  (∀ (L : ri_L) (σ : ri_S) (a0 : Int32) (a1 : Int32) (s0 s1 : Value), ev 60 (80, L, [.int a1, .int a0, s0, s1]) σ = (cal 138 [.int a0, .int a1] σ).bind fun q => ev 60 (83, L, q.1.toList ++ [s0, s1]) q.2) ∧
  (∀ (L : ri_L) (σ : ri_S) (a0 : Nat) (a1 : Int32) (a2 : Int32), ev 60 (83, L, [.int a2, .int a1, .ref a0]) σ = tv_k 4 (σ.1 a0) ((cal 61 [.ref a0, .int a1, .int a2] σ).bind fun q => ev 60 (86, L, q.1.toList ++ []) q.2)) ∧
  (∀ (l0 l1 l2 l3 : Option Value) (st : List Value) (σ : ri_S) (x : Int32), ev 60 (86, [l0, l1, l2, l3, some (.int x)], st) σ = ev 60 (89, [l0, l1, l2, ri_clr l3, some (.int (x + 1))], st) σ) ∧
  (∀ (L : ri_L) (st : List Value) (σ : ri_S), ev 60 (89, L, st) σ = ev 60 (36, L, st) σ) ∧
  (∀ (l0 l1 l3 l4 : Option Value) (st : List Value) (σ : ri_S) (x : Int32), ev 60 (92, [l0, l1, some (.int x), l3, l4], st) σ = ev 60 (95, [l0, ri_clr l1, some (.int (x + 1)), l3, l4], st) σ) ∧
  (∀ (L : ri_L) (st : List Value) (σ : ri_S), ev 60 (95, L, st) σ = ev 60 (10, L, st) σ) ∧
  (∀ (L : ri_L) (st : List Value) (σ : ri_S), ev 60 (98, L, st) σ = ev 60 (99, L, .int 0 :: st) σ) ∧
  (∀ (l0 l1 l2 l3 l4 : Option Value) (st : List Value) (σ : ri_S) (x : Int32), ev 60 (99, [l0, l1, l2, l3, l4], .int x :: st) σ = ev 60 (100, [l0, ri_clr l1, some (.int x), l3, l4], st) σ) ∧
  (∀ (l0 l2 l3 l4 : Option Value) (st : List Value) (σ : ri_S) (x : Nat), ev 60 (101, [l0, some (.ref x), l2, l3, l4], st) σ = ev 60 (102, [l0, some (.ref x), l2, l3, l4], .ref x :: st) σ) ∧
  (∀ (L : ri_L) (st : List Value) (σ : ri_S) (a : Nat), ev 60 (102, L, .ref a :: st) σ = tv_o 3 1 (σ.1 a) fun v => ev 60 (105, L, v :: st) σ) ∧
  (∀ (L : ri_L) (st : List Value) (σ : ri_S) (a : Nat), ev 60 (105, L, .ref a :: st) σ = tv_o 2 0 (σ.1 a) fun v => ev 60 (108, L, v :: st) σ) ∧
  (∀ (L : ri_L) (st : List Value) (σ : ri_S) (x y : Int32), ev 60 (108, L, .int y :: .int x :: st) σ = if y ≤ x then ev 60 (169, L, st) σ else ev 60 (111, L, st) σ) ∧
  (∀ (l1 l2 l3 l4 : Option Value) (st : List Value) (σ : ri_S) (x : Nat), ev 60 (111, [some (.ref x), l1, l2, l3, l4], st) σ = ev 60 (112, [some (.ref x), l1, l2, l3, l4], .ref x :: st) σ) ∧
  (∀ (l0 l2 l3 l4 : Option Value) (st : List Value) (σ : ri_S) (x : Nat), ev 60 (112, [l0, some (.ref x), l2, l3, l4], st) σ = ev 60 (113, [l0, some (.ref x), l2, l3, l4], .ref x :: st) σ) ∧
  (∀ (L : ri_L) (st : List Value) (σ : ri_S) (a : Nat), ev 60 (113, L, .ref a :: st) σ = tv_o 3 1 (σ.1 a) fun v => ev 60 (116, L, v :: st) σ) ∧
  (∀ (L : ri_L) (st : List Value) (σ : ri_S) (a : Nat), ev 60 (116, L, .ref a :: st) σ = tv_o 2 1 (σ.1 a) fun v => ev 60 (119, L, v :: st) σ) ∧
  (∀ (l0 l1 l3 l4 : Option Value) (st : List Value) (σ : ri_S) (x : Int32), ev 60 (119, [l0, l1, some (.int x), l3, l4], st) σ = ev 60 (120, [l0, l1, some (.int x), l3, l4], .int x :: st) σ) ∧
  (∀ (L : ri_L) (σ : ri_S) (a0 : Nat) (a1 : Int32) (s0 : Value), ev 60 (120, L, [.int a1, .ref a0, s0]) σ = (cal 140 [.ref a0, .int a1] σ).bind fun q => ev 60 (123, L, q.1.toList ++ [s0]) q.2) ∧
  (∀ (l0 l2 l3 l4 : Option Value) (st : List Value) (σ : ri_S) (x : Nat), ev 60 (123, [l0, some (.ref x), l2, l3, l4], st) σ = ev 60 (124, [l0, some (.ref x), l2, l3, l4], .ref x :: st) σ) ∧
  (∀ (L : ri_L) (st : List Value) (σ : ri_S) (a : Nat), ev 60 (124, L, .ref a :: st) σ = tv_o 3 1 (σ.1 a) fun v => ev 60 (127, L, v :: st) σ) ∧
  (∀ (L : ri_L) (st : List Value) (σ : ri_S) (a : Nat), ev 60 (127, L, .ref a :: st) σ = tv_o 2 2 (σ.1 a) fun v => ev 60 (130, L, v :: st) σ) ∧
  (∀ (l0 l1 l3 l4 : Option Value) (st : List Value) (σ : ri_S) (x : Int32), ev 60 (130, [l0, l1, some (.int x), l3, l4], st) σ = ev 60 (131, [l0, l1, some (.int x), l3, l4], .int x :: st) σ) ∧
  (∀ (L : ri_L) (σ : ri_S) (a0 : Nat) (a1 : Int32) (s0 s1 : Value), ev 60 (131, L, [.int a1, .ref a0, s0, s1]) σ = (cal 140 [.ref a0, .int a1] σ).bind fun q => ev 60 (134, L, q.1.toList ++ [s0, s1]) q.2) ∧
  (∀ (L : ri_L) (σ : ri_S) (a0 : Nat) (a1 : Int32) (a2 : Int32), ev 60 (134, L, [.int a2, .int a1, .ref a0]) σ = tv_k 4 (σ.1 a0) ((cal 61 [.ref a0, .int a1, .int a2] σ).bind fun q => ev 60 (137, L, q.1.toList ++ []) q.2)) ∧
  (∀ (l1 l2 l3 l4 : Option Value) (st : List Value) (σ : ri_S) (x : Nat), ev 60 (137, [some (.ref x), l1, l2, l3, l4], st) σ = ev 60 (138, [some (.ref x), l1, l2, l3, l4], .ref x :: st) σ) ∧
  (∀ (l0 l2 l3 l4 : Option Value) (st : List Value) (σ : ri_S) (x : Nat), ev 60 (138, [l0, some (.ref x), l2, l3, l4], st) σ = ev 60 (139, [l0, some (.ref x), l2, l3, l4], .ref x :: st) σ) ∧
  (∀ (L : ri_L) (st : List Value) (σ : ri_S) (a : Nat), ev 60 (139, L, .ref a :: st) σ = tv_o 3 1 (σ.1 a) fun v => ev 60 (142, L, v :: st) σ) ∧
  (∀ (L : ri_L) (st : List Value) (σ : ri_S) (a : Nat), ev 60 (142, L, .ref a :: st) σ = tv_o 2 2 (σ.1 a) fun v => ev 60 (145, L, v :: st) σ) ∧
  (∀ (l0 l1 l3 l4 : Option Value) (st : List Value) (σ : ri_S) (x : Int32), ev 60 (145, [l0, l1, some (.int x), l3, l4], st) σ = ev 60 (146, [l0, l1, some (.int x), l3, l4], .int x :: st) σ) ∧
  (∀ (L : ri_L) (σ : ri_S) (a0 : Nat) (a1 : Int32) (s0 : Value), ev 60 (146, L, [.int a1, .ref a0, s0]) σ = (cal 140 [.ref a0, .int a1] σ).bind fun q => ev 60 (149, L, q.1.toList ++ [s0]) q.2) ∧
  (∀ (l0 l2 l3 l4 : Option Value) (st : List Value) (σ : ri_S) (x : Nat), ev 60 (149, [l0, some (.ref x), l2, l3, l4], st) σ = ev 60 (150, [l0, some (.ref x), l2, l3, l4], .ref x :: st) σ) ∧
  (∀ (L : ri_L) (st : List Value) (σ : ri_S) (a : Nat), ev 60 (150, L, .ref a :: st) σ = tv_o 3 1 (σ.1 a) fun v => ev 60 (153, L, v :: st) σ) ∧
  (∀ (L : ri_L) (st : List Value) (σ : ri_S) (a : Nat), ev 60 (153, L, .ref a :: st) σ = tv_o 2 1 (σ.1 a) fun v => ev 60 (156, L, v :: st) σ) ∧
  (∀ (l0 l1 l3 l4 : Option Value) (st : List Value) (σ : ri_S) (x : Int32), ev 60 (156, [l0, l1, some (.int x), l3, l4], st) σ = ev 60 (157, [l0, l1, some (.int x), l3, l4], .int x :: st) σ) ∧
  (∀ (L : ri_L) (σ : ri_S) (a0 : Nat) (a1 : Int32) (s0 s1 : Value), ev 60 (157, L, [.int a1, .ref a0, s0, s1]) σ = (cal 140 [.ref a0, .int a1] σ).bind fun q => ev 60 (160, L, q.1.toList ++ [s0, s1]) q.2) ∧
  (∀ (L : ri_L) (σ : ri_S) (a0 : Nat) (a1 : Int32) (a2 : Int32), ev 60 (160, L, [.int a2, .int a1, .ref a0]) σ = tv_k 4 (σ.1 a0) ((cal 61 [.ref a0, .int a1, .int a2] σ).bind fun q => ev 60 (163, L, q.1.toList ++ []) q.2)) ∧
  (∀ (l0 l1 l3 l4 : Option Value) (st : List Value) (σ : ri_S) (x : Int32), ev 60 (163, [l0, l1, some (.int x), l3, l4], st) σ = ev 60 (166, [l0, ri_clr l1, some (.int (x + 1)), l3, l4], st) σ) ∧
  (∀ (L : ri_L) (st : List Value) (σ : ri_S), ev 60 (166, L, st) σ = ev 60 (100, L, st) σ) :=
  ⟨fun l0 l1 l2 l4 st σ x => ev_p ((TP_60 _).trans rfl) rfl,
   fun L σ a0 a1 s0 s1 s2 => ev_call ((TP_60 _).trans rfl) rfl rfl rfl rfl,
   fun L σ a0 a1 s0 s1 => ev_call ((TP_60 _).trans rfl) rfl rfl rfl rfl,
   fun L σ a0 a1 a2 => ev_callv ((TP_60 _).trans rfl) rfl rfl rfl rfl,
   fun l0 l1 l2 l3 st σ x => ev_p ((TP_60 _).trans rfl) rfl,
   fun L st σ => ev_p ((TP_60 _).trans rfl) rfl,
   fun l0 l1 l3 l4 st σ x => ev_p ((TP_60 _).trans rfl) rfl,
   fun L st σ => ev_p ((TP_60 _).trans rfl) rfl,
   fun L st σ => ev_p ((TP_60 _).trans rfl) rfl,
   fun l0 l1 l2 l3 l4 st σ x => ev_p ((TP_60 _).trans rfl) rfl,
   fun l0 l2 l3 l4 st σ x => ev_p ((TP_60 _).trans rfl) rfl,
   fun L st σ a => ev_getf ((TP_60 _).trans rfl),
   fun L st σ a => ev_getf ((TP_60 _).trans rfl),
   fun L st σ x y => ev_b ((TP_60 _).trans rfl) rfl,
   fun l1 l2 l3 l4 st σ x => ev_p ((TP_60 _).trans rfl) rfl,
   fun l0 l2 l3 l4 st σ x => ev_p ((TP_60 _).trans rfl) rfl,
   fun L st σ a => ev_getf ((TP_60 _).trans rfl),
   fun L st σ a => ev_getf ((TP_60 _).trans rfl),
   fun l0 l1 l3 l4 st σ x => ev_p ((TP_60 _).trans rfl) rfl,
   fun L σ a0 a1 s0 => ev_call ((TP_60 _).trans rfl) rfl rfl rfl rfl,
   fun l0 l2 l3 l4 st σ x => ev_p ((TP_60 _).trans rfl) rfl,
   fun L st σ a => ev_getf ((TP_60 _).trans rfl),
   fun L st σ a => ev_getf ((TP_60 _).trans rfl),
   fun l0 l1 l3 l4 st σ x => ev_p ((TP_60 _).trans rfl) rfl,
   fun L σ a0 a1 s0 s1 => ev_call ((TP_60 _).trans rfl) rfl rfl rfl rfl,
   fun L σ a0 a1 a2 => ev_callv ((TP_60 _).trans rfl) rfl rfl rfl rfl,
   fun l1 l2 l3 l4 st σ x => ev_p ((TP_60 _).trans rfl) rfl,
   fun l0 l2 l3 l4 st σ x => ev_p ((TP_60 _).trans rfl) rfl,
   fun L st σ a => ev_getf ((TP_60 _).trans rfl),
   fun L st σ a => ev_getf ((TP_60 _).trans rfl),
   fun l0 l1 l3 l4 st σ x => ev_p ((TP_60 _).trans rfl) rfl,
   fun L σ a0 a1 s0 => ev_call ((TP_60 _).trans rfl) rfl rfl rfl rfl,
   fun l0 l2 l3 l4 st σ x => ev_p ((TP_60 _).trans rfl) rfl,
   fun L st σ a => ev_getf ((TP_60 _).trans rfl),
   fun L st σ a => ev_getf ((TP_60 _).trans rfl),
   fun l0 l1 l3 l4 st σ x => ev_p ((TP_60 _).trans rfl) rfl,
   fun L σ a0 a1 s0 s1 => ev_call ((TP_60 _).trans rfl) rfl rfl rfl rfl,
   fun L σ a0 a1 a2 => ev_callv ((TP_60 _).trans rfl) rfl rfl rfl rfl,
   fun l0 l1 l3 l4 st σ x => ev_p ((TP_60 _).trans rfl) rfl,
   fun L st σ => ev_p ((TP_60 _).trans rfl) rfl⟩
theorem I_60_2 : ∀ (L : ri_L) (σ : ri_S), ev 60 (169, L, []) σ = some (none, σ) := fun L σ => ev_r ((TP_60 _).trans rfl) rfl
theorem TP_61 (pc : Nat) : TT 61 pc = ri_find TL_61 pc := rfl
theorem E_61 (x0 : Nat) (x1 : Int32) (x2 : Int32) (σ : ri_S) : cal 61 [.ref x0, .int x1, .int x2] σ = ev 61 (0, [some (.ref x0), some (.int x1), some (.int x2), none, none], []) σ := rfl
theorem H_61_12 (l0 l1 l2 l3 : Option Value) (st : List Value) (σ : ri_S) (x : Int32) : ev 61 (12, [l0, l1, l2, l3, some (.int x)], st) σ = ev 61 (14, [l0, l1, l2, l3, some (.int x)], .int x :: st) σ := ev_p ((TP_61 _).trans rfl) rfl
theorem I_61_0 :
  (∀ (l1 l2 l3 l4 : Option Value) (st : List Value) (σ : ri_S) (x : Nat), ev 61 (0, [some (.ref x), l1, l2, l3, l4], st) σ = ev 61 (1, [some (.ref x), l1, l2, l3, l4], .ref x :: st) σ) ∧
  (∀ (L : ri_L) (st : List Value) (σ : ri_S) (a : Nat), ev 61 (1, L, .ref a :: st) σ = tv_o 4 5 (σ.1 a) fun v => ev 61 (4, L, v :: st) σ) ∧
  (∀ (l0 l2 l3 l4 : Option Value) (st : List Value) (σ : ri_S) (x : Int32), ev 61 (4, [l0, some (.int x), l2, l3, l4], st) σ = ev 61 (5, [l0, some (.int x), l2, l3, l4], .int x :: st) σ) ∧
  (∀ (L : ri_L) (σ : ri_S) (a0 : Nat) (a1 : Int32), ev 61 (5, L, [.int a1, .ref a0]) σ = (cal 140 [.ref a0, .int a1] σ).bind fun q => ev 61 (8, L, q.1.toList ++ []) q.2) ∧
  (∀ (l0 l1 l2 l3 l4 : Option Value) (st : List Value) (σ : ri_S) (x : Int32), ev 61 (8, [l0, l1, l2, l3, l4], .int x :: st) σ = ev 61 (9, [l0, l1, ri_clr l2, some (.int x), l4], st) σ) ∧
  (∀ (L : ri_L) (st : List Value) (σ : ri_S), ev 61 (9, L, st) σ = ev 61 (10, L, .int 0 :: st) σ) ∧
  (∀ (l0 l1 l2 l3 l4 : Option Value) (st : List Value) (σ : ri_S) (x : Int32), ev 61 (10, [l0, l1, l2, l3, l4], .int x :: st) σ = ev 61 (12, [l0, l1, l2, ri_clr l3, some (.int x)], st) σ) ∧
  (∀ (l0 l1 l2 l4 : Option Value) (st : List Value) (σ : ri_S) (x : Int32), ev 61 (14, [l0, l1, l2, some (.int x), l4], st) σ = ev 61 (15, [l0, l1, l2, some (.int x), l4], .int x :: st) σ) ∧
  (∀ (L : ri_L) (st : List Value) (σ : ri_S) (x y : Int32), ev 61 (15, L, .int y :: .int x :: st) σ = if y ≤ x then ev 61 (43, L, st) σ else ev 61 (18, L, st) σ) ∧
  (∀ (l1 l2 l3 l4 : Option Value) (st : List Value) (σ : ri_S) (x : Nat), ev 61 (18, [some (.ref x), l1, l2, l3, l4], st) σ = ev 61 (19, [some (.ref x), l1, l2, l3, l4], .ref x :: st) σ) ∧
  (∀ (L : ri_L) (st : List Value) (σ : ri_S) (a : Nat), ev 61 (19, L, .ref a :: st) σ = tv_o 4 4 (σ.1 a) fun v => ev 61 (22, L, v :: st) σ) ∧
  (∀ (l0 l2 l3 l4 : Option Value) (st : List Value) (σ : ri_S) (x : Int32), ev 61 (22, [l0, some (.int x), l2, l3, l4], st) σ = ev 61 (23, [l0, some (.int x), l2, l3, l4], .int x :: st) σ) ∧
  (∀ (L : ri_L) (st : List Value) (σ : ri_S), ev 61 (23, L, st) σ = ev 61 (25, L, .int 10 :: st) σ) ∧
  (∀ (L : ri_L) (st : List Value) (σ : ri_S) (x y : Int32), ev 61 (25, L, .int y :: .int x :: st) σ = ev 61 (26, L, .int (x * y) :: st) σ) ∧
  (∀ (l0 l1 l2 l3 : Option Value) (st : List Value) (σ : ri_S) (x : Int32), ev 61 (26, [l0, l1, l2, l3, some (.int x)], st) σ = ev 61 (28, [l0, l1, l2, l3, some (.int x)], .int x :: st) σ) ∧
  (∀ (L : ri_L) (st : List Value) (σ : ri_S) (x y : Int32), ev 61 (28, L, .int y :: .int x :: st) σ = ev 61 (29, L, .int (x + y) :: st) σ) ∧
  (∀ (L : ri_L) (σ : ri_S) (a0 : Nat) (a1 : Int32), ev 61 (29, L, [.int a1, .ref a0]) σ = (cal 140 [.ref a0, .int a1] σ).bind fun q => ev 61 (32, L, q.1.toList ++ []) q.2) ∧
  (∀ (l0 l1 l3 l4 : Option Value) (st : List Value) (σ : ri_S) (x : Int32), ev 61 (32, [l0, l1, some (.int x), l3, l4], st) σ = ev 61 (33, [l0, l1, some (.int x), l3, l4], .int x :: st) σ) ∧
  (∀ (L : ri_L) (st : List Value) (σ : ri_S) (x y : Int32), ev 61 (33, L, .int y :: .int x :: st) σ = if ¬ x = y then ev 61 (37, L, st) σ else ev 61 (36, L, st) σ) ∧
  (∀ (L : ri_L) (σ : ri_S), ev 61 (36, L, []) σ = some (none, σ)) ∧
  (∀ (l0 l1 l2 l3 : Option Value) (st : List Value) (σ : ri_S) (x : Int32), ev 61 (37, [l0, l1, l2, l3, some (.int x)], st) σ = ev 61 (40, [l0, l1, l2, ri_clr l3, some (.int (x + 1))], st) σ) ∧
  (∀ (L : ri_L) (st : List Value) (σ : ri_S), ev 61 (40, L, st) σ = ev 61 (12, L, st) σ) ∧
  (∀ (l0 l1 l2 l4 : Option Value) (st : List Value) (σ : ri_S) (x : Int32), ev 61 (43, [l0, l1, l2, some (.int x), l4], st) σ = ev 61 (44, [l0, l1, l2, some (.int x), l4], .int x :: st) σ) ∧
  (∀ (L : ri_L) (st : List Value) (σ : ri_S), ev 61 (44, L, st) σ = ev 61 (46, L, .int 10 :: st) σ) ∧
  (∀ (L : ri_L) (st : List Value) (σ : ri_S) (x y : Int32), ev 61 (46, L, .int y :: .int x :: st) σ = if y ≤ x then ev 61 (74, L, st) σ else ev 61 (49, L, st) σ) ∧
  (∀ (l1 l2 l3 l4 : Option Value) (st : List Value) (σ : ri_S) (x : Nat), ev 61 (49, [some (.ref x), l1, l2, l3, l4], st) σ = ev 61 (50, [some (.ref x), l1, l2, l3, l4], .ref x :: st) σ) ∧
  (∀ (L : ri_L) (st : List Value) (σ : ri_S) (a : Nat), ev 61 (50, L, .ref a :: st) σ = tv_o 4 4 (σ.1 a) fun v => ev 61 (53, L, v :: st) σ) ∧
  (∀ (l0 l2 l3 l4 : Option Value) (st : List Value) (σ : ri_S) (x : Int32), ev 61 (53, [l0, some (.int x), l2, l3, l4], st) σ = ev 61 (54, [l0, some (.int x), l2, l3, l4], .int x :: st) σ) ∧
  (∀ (L : ri_L) (st : List Value) (σ : ri_S), ev 61 (54, L, st) σ = ev 61 (56, L, .int 10 :: st) σ) ∧
  (∀ (L : ri_L) (st : List Value) (σ : ri_S) (x y : Int32), ev 61 (56, L, .int y :: .int x :: st) σ = ev 61 (57, L, .int (x * y) :: st) σ) ∧
  (∀ (l0 l1 l2 l4 : Option Value) (st : List Value) (σ : ri_S) (x : Int32), ev 61 (57, [l0, l1, l2, some (.int x), l4], st) σ = ev 61 (58, [l0, l1, l2, some (.int x), l4], .int x :: st) σ) ∧
  (∀ (L : ri_L) (st : List Value) (σ : ri_S) (x y : Int32), ev 61 (58, L, .int y :: .int x :: st) σ = ev 61 (59, L, .int (x + y) :: st) σ) ∧
  (∀ (l0 l1 l3 l4 : Option Value) (st : List Value) (σ : ri_S) (x : Int32), ev 61 (59, [l0, l1, some (.int x), l3, l4], st) σ = ev 61 (60, [l0, l1, some (.int x), l3, l4], .int x :: st) σ) ∧
  (∀ (L : ri_L) (σ : ri_S) (a0 : Nat) (a1 : Int32) (a2 : Int32), ev 61 (60, L, [.int a2, .int a1, .ref a0]) σ = (cal 141 [.ref a0, .int a1, .int a2] σ).bind fun q => ev 61 (63, L, q.1.toList ++ []) q.2) ∧
  (∀ (l1 l2 l3 l4 : Option Value) (st : List Value) (σ : ri_S) (x : Nat), ev 61 (63, [some (.ref x), l1, l2, l3, l4], st) σ = ev 61 (64, [some (.ref x), l1, l2, l3, l4], .ref x :: st) σ) ∧
  (∀ (L : ri_L) (st : List Value) (σ : ri_S) (a : Nat), ev 61 (64, L, .ref a :: st) σ = tv_o 4 5 (σ.1 a) fun v => ev 61 (67, L, v :: st) σ) ∧
  (∀ (l0 l2 l3 l4 : Option Value) (st : List Value) (σ : ri_S) (x : Int32), ev 61 (67, [l0, some (.int x), l2, l3, l4], st) σ = ev 61 (68, [l0, some (.int x), l2, l3, l4], .int x :: st) σ) ∧
  (∀ (l0 l1 l2 l4 : Option Value) (st : List Value) (σ : ri_S) (x : Int32), ev 61 (68, [l0, l1, l2, some (.int x), l4], st) σ = ev 61 (69, [l0, l1, l2, some (.int x), l4], .int x :: st) σ) ∧
  (∀ (L : ri_L) (st : List Value) (σ : ri_S), ev 61 (69, L, st) σ = ev 61 (70, L, .int 1 :: st) σ) ∧
  (∀ (L : ri_L) (st : List Value) (σ : ri_S) (x y : Int32), ev 61 (70, L, .int y :: .int x :: st) σ = ev 61 (71, L, .int (x + y) :: st) σ) :=
  ⟨fun l1 l2 l3 l4 st σ x => ev_p ((TP_61 _).trans rfl) rfl,
   fun L st σ a => ev_getf ((TP_61 _).trans rfl),
   fun l0 l2 l3 l4 st σ x => ev_p ((TP_61 _).trans rfl) rfl,
   fun L σ a0 a1 => ev_call ((TP_61 _).trans rfl) rfl rfl rfl rfl,
   fun l0 l1 l2 l3 l4 st σ x => ev_p ((TP_61 _).trans rfl) rfl,
   fun L st σ => ev_p ((TP_61 _).trans rfl) rfl,
   fun l0 l1 l2 l3 l4 st σ x => ev_p ((TP_61 _).trans rfl) rfl,
   fun l0 l1 l2 l4 st σ x => ev_p ((TP_61 _).trans rfl) rfl,
   fun L st σ x y => ev_b ((TP_61 _).trans rfl) rfl,
   fun l1 l2 l3 l4 st σ x => ev_p ((TP_61 _).trans rfl) rfl,
   fun L st σ a => ev_getf ((TP_61 _).trans rfl),
   fun l0 l2 l3 l4 st σ x => ev_p ((TP_61 _).trans rfl) rfl,
   fun L st σ => ev_p ((TP_61 _).trans rfl) rfl,
   fun L st σ x y => ev_p ((TP_61 _).trans rfl) rfl,
   fun l0 l1 l2 l3 st σ x => ev_p ((TP_61 _).trans rfl) rfl,
   fun L st σ x y => ev_p ((TP_61 _).trans rfl) rfl,
   fun L σ a0 a1 => ev_call ((TP_61 _).trans rfl) rfl rfl rfl rfl,
   fun l0 l1 l3 l4 st σ x => ev_p ((TP_61 _).trans rfl) rfl,
   fun L st σ x y => ev_b ((TP_61 _).trans rfl) rfl,
   fun L σ => ev_r ((TP_61 _).trans rfl) rfl,
   fun l0 l1 l2 l3 st σ x => ev_p ((TP_61 _).trans rfl) rfl,
   fun L st σ => ev_p ((TP_61 _).trans rfl) rfl,
   fun l0 l1 l2 l4 st σ x => ev_p ((TP_61 _).trans rfl) rfl,
   fun L st σ => ev_p ((TP_61 _).trans rfl) rfl,
   fun L st σ x y => ev_b ((TP_61 _).trans rfl) rfl,
   fun l1 l2 l3 l4 st σ x => ev_p ((TP_61 _).trans rfl) rfl,
   fun L st σ a => ev_getf ((TP_61 _).trans rfl),
   fun l0 l2 l3 l4 st σ x => ev_p ((TP_61 _).trans rfl) rfl,
   fun L st σ => ev_p ((TP_61 _).trans rfl) rfl,
   fun L st σ x y => ev_p ((TP_61 _).trans rfl) rfl,
   fun l0 l1 l2 l4 st σ x => ev_p ((TP_61 _).trans rfl) rfl,
   fun L st σ x y => ev_p ((TP_61 _).trans rfl) rfl,
   fun l0 l1 l3 l4 st σ x => ev_p ((TP_61 _).trans rfl) rfl,
   fun L σ a0 a1 a2 => ev_call ((TP_61 _).trans rfl) rfl rfl rfl rfl,
   fun l1 l2 l3 l4 st σ x => ev_p ((TP_61 _).trans rfl) rfl,
   fun L st σ a => ev_getf ((TP_61 _).trans rfl),
   fun l0 l2 l3 l4 st σ x => ev_p ((TP_61 _).trans rfl) rfl,
   fun l0 l1 l2 l4 st σ x => ev_p ((TP_61 _).trans rfl) rfl,
   fun L st σ => ev_p ((TP_61 _).trans rfl) rfl,
   fun L st σ x y => ev_p ((TP_61 _).trans rfl) rfl⟩
theorem I_61_1 :
  (∀ (L : ri_L) (σ : ri_S) (a0 : Nat) (a1 : Int32) (a2 : Int32), ev 61 (71, L, [.int a2, .int a1, .ref a0]) σ = (cal 141 [.ref a0, .int a1, .int a2] σ).bind fun q => ev 61 (74, L, q.1.toList ++ []) q.2) ∧
  (∀ (L : ri_L) (σ : ri_S), ev 61 (74, L, []) σ = some (none, σ)) :=
  ⟨fun L σ a0 a1 a2 => ev_call ((TP_61 _).trans rfl) rfl rfl rfl rfl,
   fun L σ => ev_r ((TP_61 _).trans rfl) rfl⟩
theorem TP_62 (pc : Nat) : TT 62 pc = ri_find TL_62 pc := rfl
theorem E_62 (x0 : Nat) (x1 : Nat) (x2 : Int32) (σ : ri_S) : cal 62 [.ref x0, .ref x1, .int x2] σ = ev 62 (0, [some (.ref x0), some (.ref x1), some (.int x2), none, none, none, none, none], []) σ := rfl
theorem H_62_10 (l0 l1 l2 l4 l5 l6 l7 : Option Value) (st : List Value) (σ : ri_S) (x : Int32) : ev 62 (10, [l0, l1, l2, some (.int x), l4, l5, l6, l7], st) σ = ev 62 (11, [l0, l1, l2, some (.int x), l4, l5, l6, l7], .int x :: st) σ := ev_p ((TP_62 _).trans rfl) rfl
theorem H_62_81 (l0 l1 l2 l3 l4 l5 l7 : Option Value) (st : List Value) (σ : ri_S) (x : Int32) : ev 62 (81, [l0, l1, l2, l3, l4, l5, some (.int x), l7], st) σ = ev 62 (83, [l0, l1, l2, l3, l4, l5, some (.int x), l7], .int x :: st) σ := ev_p ((TP_62 _).trans rfl) rfl
theorem H_62_156 (l0 l1 l2 l3 l4 l5 l6 : Option Value) (st : List Value) (σ : ri_S) (x : Int32) : ev 62 (156, [l0, l1, l2, l3, l4, l5, l6, some (.int x)], st) σ = ev 62 (158, [l0, l1, l2, l3, l4, l5, l6, some (.int x)], .int x :: st) σ := ev_p ((TP_62 _).trans rfl) rfl
theorem I_62_0 :
  (∀ (l1 l2 l3 l4 l5 l6 l7 : Option Value) (st : List Value) (σ : ri_S) (x : Nat), ev 62 (0, [some (.ref x), l1, l2, l3, l4, l5, l6, l7], st) σ = ev 62 (1, [some (.ref x), l1, l2, l3, l4, l5, l6, l7], .ref x :: st) σ) ∧
  (∀ (L : ri_L) (st : List Value) (σ : ri_S) (a : Nat), ev 62 (1, L, .ref a :: st) σ = tv_o 4 1 (σ.1 a) fun v => ev 62 (4, L, v :: st) σ) ∧
  (∀ (L : ri_L) (st : List Value) (σ : ri_S), ev 62 (4, L, st) σ = ev 62 (5, L, .int 0 :: st) σ) ∧
  (∀ (L : ri_L) (σ : ri_S) (a0 : Nat) (a1 : Int32), ev 62 (5, L, [.int a1, .ref a0]) σ = (cal 229 [.ref a0, .int a1] σ).bind fun q => ev 62 (8, L, q.1.toList ++ []) q.2) ∧
  (∀ (L : ri_L) (st : List Value) (σ : ri_S), ev 62 (8, L, st) σ = ev 62 (9, L, .int 0 :: st) σ) ∧
  (∀ (l0 l1 l2 l3 l4 l5 l6 l7 : Option Value) (st : List Value) (σ : ri_S) (x : Int32), ev 62 (9, [l0, l1, l2, l3, l4, l5, l6, l7], .int x :: st) σ = ev 62 (10, [l0, l1, ri_clr l2, some (.int x), l4, l5, l6, l7], st) σ) ∧
  (∀ (L : ri_L) (st : List Value) (σ : ri_S), ev 62 (11, L, st) σ = ev 62 (12, L, .int 3 :: st) σ) ∧
  (∀ (L : ri_L) (st : List Value) (σ : ri_S) (x y : Int32), ev 62 (12, L, .int y :: .int x :: st) σ = if y ≤ x then ev 62 (203, L, st) σ else ev 62 (15, L, st) σ) ∧
  (∀ (l0 l2 l3 l4 l5 l6 l7 : Option Value) (st : List Value) (σ : ri_S) (x : Nat), ev 62 (15, [l0, some (.ref x), l2, l3, l4, l5, l6, l7], st) σ = ev 62 (16, [l0, some (.ref x), l2, l3, l4, l5, l6, l7], .ref x :: st) σ) ∧
  (∀ (L : ri_L) (st : List Value) (σ : ri_S) (a : Nat), ev 62 (16, L, .ref a :: st) σ = tv_o 3 0 (σ.1 a) fun v => ev 62 (19, L, v :: st) σ) ∧
  (∀ (l0 l1 l2 l4 l5 l6 l7 : Option Value) (st : List Value) (σ : ri_S) (x : Int32), ev 62 (19, [l0, l1, l2, some (.int x), l4, l5, l6, l7], st) σ = ev 62 (20, [l0, l1, l2, some (.int x), l4, l5, l6, l7], .int x :: st) σ) ∧
  (∀ (L : ri_L) (σ : ri_S) (a0 : Nat) (a1 : Int32), ev 62 (20, L, [.int a1, .ref a0]) σ = tv_k 7 (σ.1 a0) ((cal 97 [.ref a0, .int a1] σ).bind fun q => ev 62 (23, L, q.1.toList ++ []) q.2)) ∧
  (∀ (L : ri_L) (st : List Value) (σ : ri_S) (x : Int32), ev 62 (23, L, .int x :: st) σ = if x = 0 then ev 62 (53, L, st) σ else ev 62 (26, L, st) σ) ∧
  (∀ (l0 l2 l3 l4 l5 l6 l7 : Option Value) (st : List Value) (σ : ri_S) (x : Nat), ev 62 (26, [l0, some (.ref x), l2, l3, l4, l5, l6, l7], st) σ = ev 62 (27, [l0, some (.ref x), l2, l3, l4, l5, l6, l7], .ref x :: st) σ) ∧
  (∀ (L : ri_L) (st : List Value) (σ : ri_S) (a : Nat), ev 62 (27, L, .ref a :: st) σ = tv_o 3 2 (σ.1 a) fun v => ev 62 (30, L, v :: st) σ) ∧
  (∀ (l0 l1 l2 l4 l5 l6 l7 : Option Value) (st : List Value) (σ : ri_S) (x : Int32), ev 62 (30, [l0, l1, l2, some (.int x), l4, l5, l6, l7], st) σ = ev 62 (31, [l0, l1, l2, some (.int x), l4, l5, l6, l7], .int x :: st) σ) ∧
  (∀ (l0 l1 l3 l4 l5 l6 l7 : Option Value) (st : List Value) (σ : ri_S) (x : Int32), ev 62 (31, [l0, l1, some (.int x), l3, l4, l5, l6, l7], st) σ = ev 62 (32, [l0, l1, some (.int x), l3, l4, l5, l6, l7], .int x :: st) σ) ∧
  (∀ (L : ri_L) (σ : ri_S) (a0 : Nat) (a1 : Int32) (a2 : Int32), ev 62 (32, L, [.int a2, .int a1, .ref a0]) σ = tv_k 0 (σ.1 a0) ((cal 5 [.ref a0, .int a1, .int a2] σ).bind fun q => ev 62 (35, L, q.1.toList ++ []) q.2)) ∧
  (∀ (l0 l2 l3 l4 l5 l6 l7 : Option Value) (st : List Value) (σ : ri_S) (x : Nat), ev 62 (35, [l0, some (.ref x), l2, l3, l4, l5, l6, l7], st) σ = ev 62 (36, [l0, some (.ref x), l2, l3, l4, l5, l6, l7], .ref x :: st) σ) ∧
  (∀ (L : ri_L) (st : List Value) (σ : ri_S) (a : Nat), ev 62 (36, L, .ref a :: st) σ = tv_o 3 0 (σ.1 a) fun v => ev 62 (39, L, v :: st) σ) ∧
  (∀ (L : ri_L) (st : List Value) (σ : ri_S) (a : Nat), ev 62 (39, L, .ref a :: st) σ = tv_o 7 3 (σ.1 a) fun v => ev 62 (42, L, v :: st) σ) ∧
  (∀ (l0 l1 l2 l4 l5 l6 l7 : Option Value) (st : List Value) (σ : ri_S) (x : Int32), ev 62 (42, [l0, l1, l2, some (.int x), l4, l5, l6, l7], st) σ = ev 62 (43, [l0, l1, l2, some (.int x), l4, l5, l6, l7], .int x :: st) σ) ∧
  (∀ (L : ri_L) (σ : ri_S) (a0 : Nat) (a1 : Int32) (s0 : Value), ev 62 (43, L, [.int a1, .ref a0, s0]) σ = (cal 140 [.ref a0, .int a1] σ).bind fun q => ev 62 (46, L, q.1.toList ++ [s0]) q.2) ∧
  (∀ (L : ri_L) (st : List Value) (σ : ri_S) (x y : Int32), ev 62 (46, L, .int y :: .int x :: st) σ = if y < x then ev 62 (53, L, st) σ else ev 62 (49, L, st) σ) ∧
  (∀ (L : ri_L) (st : List Value) (σ : ri_S), ev 62 (49, L, st) σ = ev 62 (50, L, .int 1 :: st) σ) ∧
  (∀ (L : ri_L) (st : List Value) (σ : ri_S), ev 62 (50, L, st) σ = ev 62 (54, L, st) σ) ∧
  (∀ (L : ri_L) (st : List Value) (σ : ri_S), ev 62 (53, L, st) σ = ev 62 (54, L, .int 0 :: st) σ) ∧
  (∀ (l0 l1 l2 l3 l4 l5 l6 l7 : Option Value) (st : List Value) (σ : ri_S) (x : Int32), ev 62 (54, [l0, l1, l2, l3, l4, l5, l6, l7], .int x :: st) σ = ev 62 (56, [l0, l1, l2, ri_clr l3, some (.int x), l5, l6, l7], st) σ) ∧
  (∀ (l0 l1 l2 l3 l5 l6 l7 : Option Value) (st : List Value) (σ : ri_S) (x : Int32), ev 62 (56, [l0, l1, l2, l3, some (.int x), l5, l6, l7], st) σ = ev 62 (58, [l0, l1, l2, l3, some (.int x), l5, l6, l7], .int x :: st) σ) ∧
  (∀ (L : ri_L) (st : List Value) (σ : ri_S) (x : Int32), ev 62 (58, L, .int x :: st) σ = if x = 0 then ev 62 (75, L, st) σ else ev 62 (61, L, st) σ) ∧
  (∀ (l0 l2 l3 l4 l5 l6 l7 : Option Value) (st : List Value) (σ : ri_S) (x : Nat), ev 62 (61, [l0, some (.ref x), l2, l3, l4, l5, l6, l7], st) σ = ev 62 (62, [l0, some (.ref x), l2, l3, l4, l5, l6, l7], .ref x :: st) σ) ∧
  (∀ (L : ri_L) (st : List Value) (σ : ri_S) (a : Nat), ev 62 (62, L, .ref a :: st) σ = tv_o 3 0 (σ.1 a) fun v => ev 62 (65, L, v :: st) σ) ∧
  (∀ (L : ri_L) (st : List Value) (σ : ri_S) (a : Nat), ev 62 (65, L, .ref a :: st) σ = tv_o 7 2 (σ.1 a) fun v => ev 62 (68, L, v :: st) σ) ∧
  (∀ (l0 l1 l2 l4 l5 l6 l7 : Option Value) (st : List Value) (σ : ri_S) (x : Int32), ev 62 (68, [l0, l1, l2, some (.int x), l4, l5, l6, l7], st) σ = ev 62 (69, [l0, l1, l2, some (.int x), l4, l5, l6, l7], .int x :: st) σ) ∧
  (∀ (L : ri_L) (σ : ri_S) (a0 : Nat) (a1 : Int32), ev 62 (69, L, [.int a1, .ref a0]) σ = (cal 140 [.ref a0, .int a1] σ).bind fun q => ev 62 (72, L, q.1.toList ++ []) q.2) ∧
  (∀ (L : ri_L) (st : List Value) (σ : ri_S), ev 62 (72, L, st) σ = ev 62 (76, L, st) σ) ∧
  (∀ (L : ri_L) (st : List Value) (σ : ri_S), ev 62 (75, L, st) σ = ev 62 (76, L, .int 0 :: st) σ) ∧
  (∀ (l0 l1 l2 l3 l4 l5 l6 l7 : Option Value) (st : List Value) (σ : ri_S) (x : Int32), ev 62 (76, [l0, l1, l2, l3, l4, l5, l6, l7], .int x :: st) σ = ev 62 (78, [l0, l1, l2, l3, ri_clr l4, some (.int x), l6, l7], st) σ) ∧
  (∀ (L : ri_L) (st : List Value) (σ : ri_S), ev 62 (78, L, st) σ = ev 62 (79, L, .int 0 :: st) σ) ∧
  (∀ (l0 l1 l2 l3 l4 l5 l6 l7 : Option Value) (st : List Value) (σ : ri_S) (x : Int32), ev 62 (79, [l0, l1, l2, l3, l4, l5, l6, l7], .int x :: st) σ = ev 62 (81, [l0, l1, l2, l3, l4, ri_clr l5, some (.int x), l7], st) σ) :=
  ⟨fun l1 l2 l3 l4 l5 l6 l7 st σ x => ev_p ((TP_62 _).trans rfl) rfl,
   fun L st σ a => ev_getf ((TP_62 _).trans rfl),
   fun L st σ => ev_p ((TP_62 _).trans rfl) rfl,
   fun L σ a0 a1 => ev_call ((TP_62 _).trans rfl) rfl rfl rfl rfl,
   fun L st σ => ev_p ((TP_62 _).trans rfl) rfl,
   fun l0 l1 l2 l3 l4 l5 l6 l7 st σ x => ev_p ((TP_62 _).trans rfl) rfl,
   fun L st σ => ev_p ((TP_62 _).trans rfl) rfl,
   fun L st σ x y => ev_b ((TP_62 _).trans rfl) rfl,
   fun l0 l2 l3 l4 l5 l6 l7 st σ x => ev_p ((TP_62 _).trans rfl) rfl,
   fun L st σ a => ev_getf ((TP_62 _).trans rfl),
   fun l0 l1 l2 l4 l5 l6 l7 st σ x => ev_p ((TP_62 _).trans rfl) rfl,
   fun L σ a0 a1 => ev_callv ((TP_62 _).trans rfl) rfl rfl rfl rfl,
   fun L st σ x => ev_b ((TP_62 _).trans rfl) rfl,
   fun l0 l2 l3 l4 l5 l6 l7 st σ x => ev_p ((TP_62 _).trans rfl) rfl,
   fun L st σ a => ev_getf ((TP_62 _).trans rfl),
   fun l0 l1 l2 l4 l5 l6 l7 st σ x => ev_p ((TP_62 _).trans rfl) rfl,
   fun l0 l1 l3 l4 l5 l6 l7 st σ x => ev_p ((TP_62 _).trans rfl) rfl,
   fun L σ a0 a1 a2 => ev_callv ((TP_62 _).trans rfl) rfl rfl rfl rfl,
   fun l0 l2 l3 l4 l5 l6 l7 st σ x => ev_p ((TP_62 _).trans rfl) rfl,
   fun L st σ a => ev_getf ((TP_62 _).trans rfl),
   fun L st σ a => ev_getf ((TP_62 _).trans rfl),
   fun l0 l1 l2 l4 l5 l6 l7 st σ x => ev_p ((TP_62 _).trans rfl) rfl,
   fun L σ a0 a1 s0 => ev_call ((TP_62 _).trans rfl) rfl rfl rfl rfl,
   fun L st σ x y => ev_b ((TP_62 _).trans rfl) rfl,
   fun L st σ => ev_p ((TP_62 _).trans rfl) rfl,
   fun L st σ => ev_p ((TP_62 _).trans rfl) rfl,
   fun L st σ => ev_p ((TP_62 _).trans rfl) rfl,
   fun l0 l1 l2 l3 l4 l5 l6 l7 st σ x => ev_p ((TP_62 _).trans rfl) rfl,
   fun l0 l1 l2 l3 l5 l6 l7 st σ x => ev_p ((TP_62 _).trans rfl) rfl,
   fun L st σ x => ev_b ((TP_62 _).trans rfl) rfl,
   fun l0 l2 l3 l4 l5 l6 l7 st σ x => ev_p ((TP_62 _).trans rfl) rfl,
   fun L st σ a => ev_getf ((TP_62 _).trans rfl),
   fun L st σ a => ev_getf ((TP_62 _).trans rfl),
   fun l0 l1 l2 l4 l5 l6 l7 st σ x => ev_p ((TP_62 _).trans rfl) rfl,
   fun L σ a0 a1 => ev_call ((TP_62 _).trans rfl) rfl rfl rfl rfl,
   fun L st σ => ev_p ((TP_62 _).trans rfl) rfl,
   fun L st σ => ev_p ((TP_62 _).trans rfl) rfl,
   fun l0 l1 l2 l3 l4 l5 l6 l7 st σ x => ev_p ((TP_62 _).trans rfl) rfl,
   fun L st σ => ev_p ((TP_62 _).trans rfl) rfl,
   fun l0 l1 l2 l3 l4 l5 l6 l7 st σ x => ev_p ((TP_62 _).trans rfl) rfl⟩
theorem I_62_1 :
  (∀ (L : ri_L) (st : List Value) (σ : ri_S), ev 62 (83, L, st) σ = ev 62 (84, L, .int 5 :: st) σ) ∧
  (∀ (L : ri_L) (st : List Value) (σ : ri_S) (x y : Int32), ev 62 (84, L, .int y :: .int x :: st) σ = if y ≤ x then ev 62 (125, L, st) σ else ev 62 (87, L, st) σ) ∧
  (∀ (l1 l2 l3 l4 l5 l6 l7 : Option Value) (st : List Value) (σ : ri_S) (x : Nat), ev 62 (87, [some (.ref x), l1, l2, l3, l4, l5, l6, l7], st) σ = ev 62 (88, [some (.ref x), l1, l2, l3, l4, l5, l6, l7], .ref x :: st) σ) ∧
  (∀ (L : ri_L) (st : List Value) (σ : ri_S) (a : Nat), ev 62 (88, L, .ref a :: st) σ = tv_o 4 0 (σ.1 a) fun v => ev 62 (91, L, v :: st) σ) ∧
  (∀ (l0 l1 l2 l4 l5 l6 l7 : Option Value) (st : List Value) (σ : ri_S) (x : Int32), ev 62 (91, [l0, l1, l2, some (.int x), l4, l5, l6, l7], st) σ = ev 62 (92, [l0, l1, l2, some (.int x), l4, l5, l6, l7], .int x :: st) σ) ∧
  (∀ (l0 l1 l2 l3 l4 l5 l7 : Option Value) (st : List Value) (σ : ri_S) (x : Int32), ev 62 (92, [l0, l1, l2, l3, l4, l5, some (.int x), l7], st) σ = ev 62 (94, [l0, l1, l2, l3, l4, l5, some (.int x), l7], .int x :: st) σ) ∧
  (∀ (L : ri_L) (σ : ri_S) (a0 : Int32) (a1 : Int32) (s0 : Value), ev 62 (94, L, [.int a1, .int a0, s0]) σ = (cal 138 [.int a0, .int a1] σ).bind fun q => ev 62 (97, L, q.1.toList ++ [s0]) q.2) ∧
  (∀ (l0 l1 l2 l3 l4 l5 l7 : Option Value) (st : List Value) (σ : ri_S) (x : Int32), ev 62 (97, [l0, l1, l2, l3, l4, l5, some (.int x), l7], st) σ = ev 62 (99, [l0, l1, l2, l3, l4, l5, some (.int x), l7], .int x :: st) σ) ∧
  (∀ (l0 l1 l2 l3 l4 l6 l7 : Option Value) (st : List Value) (σ : ri_S) (x : Int32), ev 62 (99, [l0, l1, l2, l3, l4, some (.int x), l6, l7], st) σ = ev 62 (101, [l0, l1, l2, l3, l4, some (.int x), l6, l7], .int x :: st) σ) ∧
  (∀ (L : ri_L) (st : List Value) (σ : ri_S) (x y : Int32), ev 62 (101, L, .int y :: .int x :: st) σ = ev 62 (102, L, .int (x + y) :: st) σ) ∧
  (∀ (l0 l2 l3 l4 l5 l6 l7 : Option Value) (st : List Value) (σ : ri_S) (x : Nat), ev 62 (102, [l0, some (.ref x), l2, l3, l4, l5, l6, l7], st) σ = ev 62 (103, [l0, some (.ref x), l2, l3, l4, l5, l6, l7], .ref x :: st) σ) ∧
  (∀ (L : ri_L) (st : List Value) (σ : ri_S) (a : Nat), ev 62 (103, L, .ref a :: st) σ = tv_o 3 0 (σ.1 a) fun v => ev 62 (106, L, v :: st) σ) ∧
  (∀ (L : ri_L) (st : List Value) (σ : ri_S) (a : Nat), ev 62 (106, L, .ref a :: st) σ = tv_o 7 1 (σ.1 a) fun v => ev 62 (109, L, v :: st) σ) ∧
  (∀ (l0 l1 l2 l4 l5 l6 l7 : Option Value) (st : List Value) (σ : ri_S) (x : Int32), ev 62 (109, [l0, l1, l2, some (.int x), l4, l5, l6, l7], st) σ = ev 62 (110, [l0, l1, l2, some (.int x), l4, l5, l6, l7], .int x :: st) σ) ∧
  (∀ (L : ri_L) (σ : ri_S) (a0 : Nat) (a1 : Int32) (s0 s1 s2 : Value), ev 62 (110, L, [.int a1, .ref a0, s0, s1, s2]) σ = (cal 140 [.ref a0, .int a1] σ).bind fun q => ev 62 (113, L, q.1.toList ++ [s0, s1, s2]) q.2) ∧
  (∀ (L : ri_L) (σ : ri_S) (a0 : Int32) (a1 : Int32) (s0 s1 : Value), ev 62 (113, L, [.int a1, .int a0, s0, s1]) σ = (cal 139 [.int a0, .int a1] σ).bind fun q => ev 62 (116, L, q.1.toList ++ [s0, s1]) q.2) ∧
  (∀ (L : ri_L) (σ : ri_S) (a0 : Nat) (a1 : Int32) (a2 : Int32), ev 62 (116, L, [.int a2, .int a1, .ref a0]) σ = (cal 141 [.ref a0, .int a1, .int a2] σ).bind fun q => ev 62 (119, L, q.1.toList ++ []) q.2) ∧
  (∀ (l0 l1 l2 l3 l4 l5 l7 : Option Value) (st : List Value) (σ : ri_S) (x : Int32), ev 62 (119, [l0, l1, l2, l3, l4, l5, some (.int x), l7], st) σ = ev 62 (122, [l0, l1, l2, l3, l4, ri_clr l5, some (.int (x + 1)), l7], st) σ) ∧
  (∀ (L : ri_L) (st : List Value) (σ : ri_S), ev 62 (122, L, st) σ = ev 62 (81, L, st) σ) ∧
  (∀ (l0 l2 l3 l4 l5 l6 l7 : Option Value) (st : List Value) (σ : ri_S) (x : Nat), ev 62 (125, [l0, some (.ref x), l2, l3, l4, l5, l6, l7], st) σ = ev 62 (126, [l0, some (.ref x), l2, l3, l4, l5, l6, l7], .ref x :: st) σ) ∧
  (∀ (L : ri_L) (st : List Value) (σ : ri_S) (a : Nat), ev 62 (126, L, .ref a :: st) σ = tv_o 3 0 (σ.1 a) fun v => ev 62 (129, L, v :: st) σ) ∧
  (∀ (l0 l1 l2 l4 l5 l6 l7 : Option Value) (st : List Value) (σ : ri_S) (x : Int32), ev 62 (129, [l0, l1, l2, some (.int x), l4, l5, l6, l7], st) σ = ev 62 (130, [l0, l1, l2, some (.int x), l4, l5, l6, l7], .int x :: st) σ) ∧
  (∀ (L : ri_L) (σ : ri_S) (a0 : Nat) (a1 : Int32), ev 62 (130, L, [.int a1, .ref a0]) σ = tv_k 7 (σ.1 a0) ((cal 97 [.ref a0, .int a1] σ).bind fun q => ev 62 (133, L, q.1.toList ++ []) q.2)) ∧
  (∀ (L : ri_L) (st : List Value) (σ : ri_S) (x : Int32), ev 62 (133, L, .int x :: st) σ = if x = 0 then ev 62 (150, L, st) σ else ev 62 (136, L, st) σ) ∧
  (∀ (l0 l2 l3 l4 l5 l6 l7 : Option Value) (st : List Value) (σ : ri_S) (x : Nat), ev 62 (136, [l0, some (.ref x), l2, l3, l4, l5, l6, l7], st) σ = ev 62 (137, [l0, some (.ref x), l2, l3, l4, l5, l6, l7], .ref x :: st) σ) ∧
  (∀ (L : ri_L) (st : List Value) (σ : ri_S) (a : Nat), ev 62 (137, L, .ref a :: st) σ = tv_o 3 0 (σ.1 a) fun v => ev 62 (140, L, v :: st) σ) ∧
  (∀ (L : ri_L) (st : List Value) (σ : ri_S) (a : Nat), ev 62 (140, L, .ref a :: st) σ = tv_o 7 4 (σ.1 a) fun v => ev 62 (143, L, v :: st) σ) ∧
  (∀ (l0 l1 l2 l4 l5 l6 l7 : Option Value) (st : List Value) (σ : ri_S) (x : Int32), ev 62 (143, [l0, l1, l2, some (.int x), l4, l5, l6, l7], st) σ = ev 62 (144, [l0, l1, l2, some (.int x), l4, l5, l6, l7], .int x :: st) σ) ∧
  (∀ (L : ri_L) (σ : ri_S) (a0 : Nat) (a1 : Int32), ev 62 (144, L, [.int a1, .ref a0]) σ = (cal 140 [.ref a0, .int a1] σ).bind fun q => ev 62 (147, L, q.1.toList ++ []) q.2) ∧
  (∀ (L : ri_L) (st : List Value) (σ : ri_S), ev 62 (147, L, st) σ = ev 62 (151, L, st) σ) ∧
  (∀ (L : ri_L) (st : List Value) (σ : ri_S), ev 62 (150, L, st) σ = ev 62 (151, L, .int 0 :: st) σ) ∧
  (∀ (l0 l1 l2 l3 l4 l5 l6 l7 : Option Value) (st : List Value) (σ : ri_S) (x : Int32), ev 62 (151, [l0, l1, l2, l3, l4, l5, l6, l7], .int x :: st) σ = ev 62 (153, [l0, l1, l2, l3, l4, ri_clr l5, some (.int x), l7], st) σ) ∧
  (∀ (L : ri_L) (st : List Value) (σ : ri_S), ev 62 (153, L, st) σ = ev 62 (154, L, .int 0 :: st) σ) ∧
  (∀ (l0 l1 l2 l3 l4 l5 l6 l7 : Option Value) (st : List Value) (σ : ri_S) (x : Int32), ev 62 (154, [l0, l1, l2, l3, l4, l5, l6, l7], .int x :: st) σ = ev 62 (156, [l0, l1, l2, l3, l4, l5, ri_clr l6, some (.int x)], st) σ) ∧
  (∀ (L : ri_L) (st : List Value) (σ : ri_S), ev 62 (158, L, st) σ = ev 62 (159, L, .int 5 :: st) σ) ∧
  (∀ (L : ri_L) (st : List Value) (σ : ri_S) (x y : Int32), ev 62 (159, L, .int y :: .int x :: st) σ = if y ≤ x then ev 62 (197, L, st) σ else ev 62 (162, L, st) σ) ∧
  (∀ (l1 l2 l3 l4 l5 l6 l7 : Option Value) (st : List Value) (σ : ri_S) (x : Nat), ev 62 (162, [some (.ref x), l1, l2, l3, l4, l5, l6, l7], st) σ = ev 62 (163, [some (.ref x), l1, l2, l3, l4, l5, l6, l7], .ref x :: st) σ) ∧
  (∀ (L : ri_L) (st : List Value) (σ : ri_S) (a : Nat), ev 62 (163, L, .ref a :: st) σ = tv_o 4 1 (σ.1 a) fun v => ev 62 (166, L, v :: st) σ) ∧
  (∀ (l0 l1 l2 l4 l5 l6 l7 : Option Value) (st : List Value) (σ : ri_S) (x : Int32), ev 62 (166, [l0, l1, l2, some (.int x), l4, l5, l6, l7], st) σ = ev 62 (167, [l0, l1, l2, some (.int x), l4, l5, l6, l7], .int x :: st) σ) ∧
  (∀ (l0 l1 l2 l3 l4 l5 l7 : Option Value) (st : List Value) (σ : ri_S) (x : Int32), ev 62 (167, [l0, l1, l2, l3, l4, l5, some (.int x), l7], st) σ = ev 62 (169, [l0, l1, l2, l3, l4, l5, some (.int x), l7], .int x :: st) σ) :=
  ⟨fun L st σ => ev_p ((TP_62 _).trans rfl) rfl,
   fun L st σ x y => ev_b ((TP_62 _).trans rfl) rfl,
   fun l1 l2 l3 l4 l5 l6 l7 st σ x => ev_p ((TP_62 _).trans rfl) rfl,
   fun L st σ a => ev_getf ((TP_62 _).trans rfl),
   fun l0 l1 l2 l4 l5 l6 l7 st σ x => ev_p ((TP_62 _).trans rfl) rfl,
   fun l0 l1 l2 l3 l4 l5 l7 st σ x => ev_p ((TP_62 _).trans rfl) rfl,
   fun L σ a0 a1 s0 => ev_call ((TP_62 _).trans rfl) rfl rfl rfl rfl,
   fun l0 l1 l2 l3 l4 l5 l7 st σ x => ev_p ((TP_62 _).trans rfl) rfl,
   fun l0 l1 l2 l3 l4 l6 l7 st σ x => ev_p ((TP_62 _).trans rfl) rfl,
   fun L st σ x y => ev_p ((TP_62 _).trans rfl) rfl,
   fun l0 l2 l3 l4 l5 l6 l7 st σ x => ev_p ((TP_62 _).trans rfl) rfl,
   fun L st σ a => ev_getf ((TP_62 _).trans rfl),
   fun L st σ a => ev_getf ((TP_62 _).trans rfl),
   fun l0 l1 l2 l4 l5 l6 l7 st σ x => ev_p ((TP_62 _).trans rfl) rfl,
   fun L σ a0 a1 s0 s1 s2 => ev_call ((TP_62 _).trans rfl) rfl rfl rfl rfl,
   fun L σ a0 a1 s0 s1 => ev_call ((TP_62 _).trans rfl) rfl rfl rfl rfl,
   fun L σ a0 a1 a2 => ev_call ((TP_62 _).trans rfl) rfl rfl rfl rfl,
   fun l0 l1 l2 l3 l4 l5 l7 st σ x => ev_p ((TP_62 _).trans rfl) rfl,
   fun L st σ => ev_p ((TP_62 _).trans rfl) rfl,
   fun l0 l2 l3 l4 l5 l6 l7 st σ x => ev_p ((TP_62 _).trans rfl) rfl,
   fun L st σ a => ev_getf ((TP_62 _).trans rfl),
   fun l0 l1 l2 l4 l5 l6 l7 st σ x => ev_p ((TP_62 _).trans rfl) rfl,
   fun L σ a0 a1 => ev_callv ((TP_62 _).trans rfl) rfl rfl rfl rfl,
   fun L st σ x => ev_b ((TP_62 _).trans rfl) rfl,
   fun l0 l2 l3 l4 l5 l6 l7 st σ x => ev_p ((TP_62 _).trans rfl) rfl,
   fun L st σ a => ev_getf ((TP_62 _).trans rfl),
   fun L st σ a => ev_getf ((TP_62 _).trans rfl),
   fun l0 l1 l2 l4 l5 l6 l7 st σ x => ev_p ((TP_62 _).trans rfl) rfl,
   fun L σ a0 a1 => ev_call ((TP_62 _).trans rfl) rfl rfl rfl rfl,
   fun L st σ => ev_p ((TP_62 _).trans rfl) rfl,
   fun L st σ => ev_p ((TP_62 _).trans rfl) rfl,
   fun l0 l1 l2 l3 l4 l5 l6 l7 st σ x => ev_p ((TP_62 _).trans rfl) rfl,
   fun L st σ => ev_p ((TP_62 _).trans rfl) rfl,
   fun l0 l1 l2 l3 l4 l5 l6 l7 st σ x => ev_p ((TP_62 _).trans rfl) rfl,
   fun L st σ => ev_p ((TP_62 _).trans rfl) rfl,
   fun L st σ x y => ev_b ((TP_62 _).trans rfl) rfl,
   fun l1 l2 l3 l4 l5 l6 l7 st σ x => ev_p ((TP_62 _).trans rfl) rfl,
   fun L st σ a => ev_getf ((TP_62 _).trans rfl),
   fun l0 l1 l2 l4 l5 l6 l7 st σ x => ev_p ((TP_62 _).trans rfl) rfl,
   fun l0 l1 l2 l3 l4 l5 l7 st σ x => ev_p ((TP_62 _).trans rfl) rfl⟩
theorem I_62_2 :
  (∀ (L : ri_L) (σ : ri_S) (a0 : Int32) (a1 : Int32) (s0 : Value), ev 62 (169, L, [.int a1, .int a0, s0]) σ = (cal 138 [.int a0, .int a1] σ).bind fun q => ev 62 (172, L, q.1.toList ++ [s0]) q.2) ∧
  (∀ (L : ri_L) (st : List Value) (σ : ri_S), ev 62 (172, L, st) σ = ev 62 (173, L, .int 1 :: st) σ) ∧
  (∀ (L : ri_L) (σ : ri_S) (a0 : Nat) (a1 : Int32) (a2 : Int32), ev 62 (173, L, [.int a2, .int a1, .ref a0]) σ = (cal 141 [.ref a0, .int a1, .int a2] σ).bind fun q => ev 62 (176, L, q.1.toList ++ []) q.2) ∧
  (∀ (l1 l2 l3 l4 l5 l6 l7 : Option Value) (st : List Value) (σ : ri_S) (x : Nat), ev 62 (176, [some (.ref x), l1, l2, l3, l4, l5, l6, l7], st) σ = ev 62 (177, [some (.ref x), l1, l2, l3, l4, l5, l6, l7], .ref x :: st) σ) ∧
  (∀ (L : ri_L) (st : List Value) (σ : ri_S) (a : Nat), ev 62 (177, L, .ref a :: st) σ = tv_o 4 0 (σ.1 a) fun v => ev 62 (180, L, v :: st) σ) ∧
  (∀ (l0 l1 l2 l4 l5 l6 l7 : Option Value) (st : List Value) (σ : ri_S) (x : Int32), ev 62 (180, [l0, l1, l2, some (.int x), l4, l5, l6, l7], st) σ = ev 62 (181, [l0, l1, l2, some (.int x), l4, l5, l6, l7], .int x :: st) σ) ∧
  (∀ (l0 l1 l2 l3 l4 l5 l7 : Option Value) (st : List Value) (σ : ri_S) (x : Int32), ev 62 (181, [l0, l1, l2, l3, l4, l5, some (.int x), l7], st) σ = ev 62 (183, [l0, l1, l2, l3, l4, l5, some (.int x), l7], .int x :: st) σ) ∧
  (∀ (L : ri_L) (σ : ri_S) (a0 : Int32) (a1 : Int32) (s0 : Value), ev 62 (183, L, [.int a1, .int a0, s0]) σ = (cal 138 [.int a0, .int a1] σ).bind fun q => ev 62 (186, L, q.1.toList ++ [s0]) q.2) ∧
  (∀ (L : ri_L) (σ : ri_S) (a0 : Nat) (a1 : Int32), ev 62 (186, L, [.int a1, .ref a0]) σ = (cal 140 [.ref a0, .int a1] σ).bind fun q => ev 62 (189, L, q.1.toList ++ []) q.2) ∧
  (∀ (l0 l1 l2 l3 l4 l5 l6 l7 : Option Value) (st : List Value) (σ : ri_S) (x : Int32), ev 62 (189, [l0, l1, l2, l3, l4, l5, l6, l7], .int x :: st) σ = ev 62 (191, [l0, l1, l2, l3, l4, ri_clr l5, some (.int x), l7], st) σ) ∧
  (∀ (l0 l1 l2 l3 l4 l5 l6 : Option Value) (st : List Value) (σ : ri_S) (x : Int32), ev 62 (191, [l0, l1, l2, l3, l4, l5, l6, some (.int x)], st) σ = ev 62 (194, [l0, l1, l2, l3, l4, l5, ri_clr l6, some (.int (x + 1))], st) σ) ∧
  (∀ (L : ri_L) (st : List Value) (σ : ri_S), ev 62 (194, L, st) σ = ev 62 (156, L, st) σ) ∧
  (∀ (l0 l1 l2 l4 l5 l6 l7 : Option Value) (st : List Value) (σ : ri_S) (x : Int32), ev 62 (197, [l0, l1, l2, some (.int x), l4, l5, l6, l7], st) σ = ev 62 (200, [l0, l1, ri_clr l2, some (.int (x + 1)), l4, l5, l6, l7], st) σ) ∧
  (∀ (L : ri_L) (st : List Value) (σ : ri_S), ev 62 (200, L, st) σ = ev 62 (10, L, st) σ) ∧
  (∀ (L : ri_L) (σ : ri_S), ev 62 (203, L, []) σ = some (none, σ)) :=
  ⟨fun L σ a0 a1 s0 => ev_call ((TP_62 _).trans rfl) rfl rfl rfl rfl,
   fun L st σ => ev_p ((TP_62 _).trans rfl) rfl,
   fun L σ a0 a1 a2 => ev_call ((TP_62 _).trans rfl) rfl rfl rfl rfl,
   fun l1 l2 l3 l4 l5 l6 l7 st σ x => ev_p ((TP_62 _).trans rfl) rfl,
   fun L st σ a => ev_getf ((TP_62 _).trans rfl),
   fun l0 l1 l2 l4 l5 l6 l7 st σ x => ev_p ((TP_62 _).trans rfl) rfl,
   fun l0 l1 l2 l3 l4 l5 l7 st σ x => ev_p ((TP_62 _).trans rfl) rfl,
   fun L σ a0 a1 s0 => ev_call ((TP_62 _).trans rfl) rfl rfl rfl rfl,
   fun L σ a0 a1 => ev_call ((TP_62 _).trans rfl) rfl rfl rfl rfl,
   fun l0 l1 l2 l3 l4 l5 l6 l7 st σ x => ev_p ((TP_62 _).trans rfl) rfl,
   fun l0 l1 l2 l3 l4 l5 l6 st σ x => ev_p ((TP_62 _).trans rfl) rfl,
   fun L st σ => ev_p ((TP_62 _).trans rfl) rfl,
   fun l0 l1 l2 l4 l5 l6 l7 st σ x => ev_p ((TP_62 _).trans rfl) rfl,
   fun L st σ => ev_p ((TP_62 _).trans rfl) rfl,
   fun L σ => ev_r ((TP_62 _).trans rfl) rfl⟩
theorem TP_63 (pc : Nat) : TT 63 pc = ri_find TL_63 pc := rfl
theorem E_63 (x0 : Nat) (x1 : Nat) (x2 : Int32) (σ : ri_S) : cal 63 [.ref x0, .ref x1, .int x2] σ = ev 63 (0, [some (.ref x0), some (.ref x1), some (.int x2), none, none, none], []) σ := rfl
theorem H_63_2 (l0 l1 l2 l4 l5 : Option Value) (st : List Value) (σ : ri_S) (x : Int32) : ev 63 (2, [l0, l1, l2, some (.int x), l4, l5], st) σ = ev 63 (3, [l0, l1, l2, some (.int x), l4, l5], .int x :: st) σ := ev_p ((TP_63 _).trans rfl) rfl
theorem H_63_10 (l0 l1 l2 l3 l5 : Option Value) (st : List Value) (σ : ri_S) (x : Int32) : ev 63 (10, [l0, l1, l2, l3, some (.int x), l5], st) σ = ev 63 (12, [l0, l1, l2, l3, some (.int x), l5], .int x :: st) σ := ev_p ((TP_63 _).trans rfl) rfl
theorem I_63 :
  (∀ (L : ri_L) (st : List Value) (σ : ri_S), ev 63 (0, L, st) σ = ev 63 (1, L, .int 0 :: st) σ) ∧
  (∀ (l0 l1 l2 l3 l4 l5 : Option Value) (st : List Value) (σ : ri_S) (x : Int32), ev 63 (1, [l0, l1, l2, l3, l4, l5], .int x :: st) σ = ev 63 (2, [l0, l1, ri_clr l2, some (.int x), l4, l5], st) σ) ∧
  (∀ (L : ri_L) (st : List Value) (σ : ri_S), ev 63 (3, L, st) σ = ev 63 (4, L, .int 3 :: st) σ) ∧
  (∀ (L : ri_L) (st : List Value) (σ : ri_S) (x y : Int32), ev 63 (4, L, .int y :: .int x :: st) σ = if y ≤ x then ev 63 (70, L, st) σ else ev 63 (7, L, st) σ) ∧
  (∀ (L : ri_L) (st : List Value) (σ : ri_S), ev 63 (7, L, st) σ = ev 63 (8, L, .int 0 :: st) σ) ∧
  (∀ (l0 l1 l2 l3 l4 l5 : Option Value) (st : List Value) (σ : ri_S) (x : Int32), ev 63 (8, [l0, l1, l2, l3, l4, l5], .int x :: st) σ = ev 63 (10, [l0, l1, l2, ri_clr l3, some (.int x), l5], st) σ) ∧
  (∀ (L : ri_L) (st : List Value) (σ : ri_S), ev 63 (12, L, st) σ = ev 63 (13, L, .int 5 :: st) σ) ∧
  (∀ (L : ri_L) (st : List Value) (σ : ri_S) (x y : Int32), ev 63 (13, L, .int y :: .int x :: st) σ = if y ≤ x then ev 63 (64, L, st) σ else ev 63 (16, L, st) σ) ∧
  (∀ (l0 l2 l3 l4 l5 : Option Value) (st : List Value) (σ : ri_S) (x : Nat), ev 63 (16, [l0, some (.ref x), l2, l3, l4, l5], st) σ = ev 63 (17, [l0, some (.ref x), l2, l3, l4, l5], .ref x :: st) σ) ∧
  (∀ (L : ri_L) (st : List Value) (σ : ri_S) (a : Nat), ev 63 (17, L, .ref a :: st) σ = tv_o 3 2 (σ.1 a) fun v => ev 63 (20, L, v :: st) σ) ∧
  (∀ (l0 l1 l2 l4 l5 : Option Value) (st : List Value) (σ : ri_S) (x : Int32), ev 63 (20, [l0, l1, l2, some (.int x), l4, l5], st) σ = ev 63 (21, [l0, l1, l2, some (.int x), l4, l5], .int x :: st) σ) ∧
  (∀ (l0 l1 l2 l3 l5 : Option Value) (st : List Value) (σ : ri_S) (x : Int32), ev 63 (21, [l0, l1, l2, l3, some (.int x), l5], st) σ = ev 63 (23, [l0, l1, l2, l3, some (.int x), l5], .int x :: st) σ) ∧
  (∀ (L : ri_L) (σ : ri_S) (a0 : Nat) (a1 : Int32) (a2 : Int32), ev 63 (23, L, [.int a2, .int a1, .ref a0]) σ = tv_k 0 (σ.1 a0) ((cal 4 [.ref a0, .int a1, .int a2] σ).bind fun q => ev 63 (26, L, q.1.toList ++ []) q.2)) ∧
  (∀ (l0 l1 l2 l3 l4 l5 : Option Value) (st : List Value) (σ : ri_S) (x : Int32), ev 63 (26, [l0, l1, l2, l3, l4, l5], .int x :: st) σ = ev 63 (28, [l0, l1, l2, l3, ri_clr l4, some (.int x)], st) σ) ∧
  (∀ (l1 l2 l3 l4 l5 : Option Value) (st : List Value) (σ : ri_S) (x : Nat), ev 63 (28, [some (.ref x), l1, l2, l3, l4, l5], st) σ = ev 63 (29, [some (.ref x), l1, l2, l3, l4, l5], .ref x :: st) σ) ∧
  (∀ (L : ri_L) (st : List Value) (σ : ri_S) (a : Nat), ev 63 (29, L, .ref a :: st) σ = tv_o 4 2 (σ.1 a) fun v => ev 63 (32, L, v :: st) σ) ∧
  (∀ (l0 l1 l2 l4 l5 : Option Value) (st : List Value) (σ : ri_S) (x : Int32), ev 63 (32, [l0, l1, l2, some (.int x), l4, l5], st) σ = ev 63 (33, [l0, l1, l2, some (.int x), l4, l5], .int x :: st) σ) ∧
  (∀ (l0 l1 l2 l3 l5 : Option Value) (st : List Value) (σ : ri_S) (x : Int32), ev 63 (33, [l0, l1, l2, l3, some (.int x), l5], st) σ = ev 63 (35, [l0, l1, l2, l3, some (.int x), l5], .int x :: st) σ) ∧
  (∀ (L : ri_L) (σ : ri_S) (a0 : Int32) (a1 : Int32) (s0 : Value), ev 63 (35, L, [.int a1, .int a0, s0]) σ = (cal 138 [.int a0, .int a1] σ).bind fun q => ev 63 (38, L, q.1.toList ++ [s0]) q.2) ∧
  (∀ (l0 l1 l2 l3 l4 : Option Value) (st : List Value) (σ : ri_S) (x : Int32), ev 63 (38, [l0, l1, l2, l3, l4, some (.int x)], st) σ = ev 63 (40, [l0, l1, l2, l3, l4, some (.int x)], .int x :: st) σ) ∧
  (∀ (L : ri_L) (st : List Value) (σ : ri_S), ev 63 (40, L, st) σ = ev 63 (41, L, .int (-1) :: st) σ) ∧
  (∀ (L : ri_L) (st : List Value) (σ : ri_S) (x y : Int32), ev 63 (41, L, .int y :: .int x :: st) σ = if x = y then ev 63 (50, L, st) σ else ev 63 (44, L, st) σ) ∧
  (∀ (l0 l1 l2 l3 l4 : Option Value) (st : List Value) (σ : ri_S) (x : Int32), ev 63 (44, [l0, l1, l2, l3, l4, some (.int x)], st) σ = ev 63 (46, [l0, l1, l2, l3, l4, some (.int x)], .int x :: st) σ) ∧
  (∀ (l0 l1 l3 l4 l5 : Option Value) (st : List Value) (σ : ri_S) (x : Int32), ev 63 (46, [l0, l1, some (.int x), l3, l4, l5], st) σ = ev 63 (47, [l0, l1, some (.int x), l3, l4, l5], .int x :: st) σ) ∧
  (∀ (L : ri_L) (st : List Value) (σ : ri_S) (x y : Int32), ev 63 (47, L, .int y :: .int x :: st) σ = if ¬ x = y then ev 63 (54, L, st) σ else ev 63 (50, L, st) σ) ∧
  (∀ (L : ri_L) (st : List Value) (σ : ri_S), ev 63 (50, L, st) σ = ev 63 (51, L, .int 0 :: st) σ) ∧
  (∀ (L : ri_L) (st : List Value) (σ : ri_S), ev 63 (51, L, st) σ = ev 63 (55, L, st) σ) ∧
  (∀ (L : ri_L) (st : List Value) (σ : ri_S), ev 63 (54, L, st) σ = ev 63 (55, L, .int 1 :: st) σ) ∧
  (∀ (L : ri_L) (σ : ri_S) (a0 : Nat) (a1 : Int32) (a2 : Int32), ev 63 (55, L, [.int a2, .int a1, .ref a0]) σ = (cal 141 [.ref a0, .int a1, .int a2] σ).bind fun q => ev 63 (58, L, q.1.toList ++ []) q.2) ∧
  (∀ (l0 l1 l2 l3 l5 : Option Value) (st : List Value) (σ : ri_S) (x : Int32), ev 63 (58, [l0, l1, l2, l3, some (.int x), l5], st) σ = ev 63 (61, [l0, l1, l2, ri_clr l3, some (.int (x + 1)), l5], st) σ) ∧
  (∀ (L : ri_L) (st : List Value) (σ : ri_S), ev 63 (61, L, st) σ = ev 63 (10, L, st) σ) ∧
  (∀ (l0 l1 l2 l4 l5 : Option Value) (st : List Value) (σ : ri_S) (x : Int32), ev 63 (64, [l0, l1, l2, some (.int x), l4, l5], st) σ = ev 63 (67, [l0, l1, ri_clr l2, some (.int (x + 1)), l4, l5], st) σ) ∧
  (∀ (L : ri_L) (st : List Value) (σ : ri_S), ev 63 (67, L, st) σ = ev 63 (2, L, st) σ) ∧
  (∀ (L : ri_L) (σ : ri_S), ev 63 (70, L, []) σ = some (none, σ)) :=
  ⟨fun L st σ => ev_p ((TP_63 _).trans rfl) rfl,
   fun l0 l1 l2 l3 l4 l5 st σ x => ev_p ((TP_63 _).trans rfl) rfl,
   fun L st σ => ev_p ((TP_63 _).trans rfl) rfl,
   fun L st σ x y => ev_b ((TP_63 _).trans rfl) rfl,
   fun L st σ => ev_p ((TP_63 _).trans rfl) rfl,
   fun l0 l1 l2 l3 l4 l5 st σ x => ev_p ((TP_63 _).trans rfl) rfl,
   fun L st σ => ev_p ((TP_63 _).trans rfl) rfl,
   fun L st σ x y => ev_b ((TP_63 _).trans rfl) rfl,
   fun l0 l2 l3 l4 l5 st σ x => ev_p ((TP_63 _).trans rfl) rfl,
   fun L st σ a => ev_getf ((TP_63 _).trans rfl),
   fun l0 l1 l2 l4 l5 st σ x => ev_p ((TP_63 _).trans rfl) rfl,
   fun l0 l1 l2 l3 l5 st σ x => ev_p ((TP_63 _).trans rfl) rfl,
   fun L σ a0 a1 a2 => ev_callv ((TP_63 _).trans rfl) rfl rfl rfl rfl,
   fun l0 l1 l2 l3 l4 l5 st σ x => ev_p ((TP_63 _).trans rfl) rfl,
   fun l1 l2 l3 l4 l5 st σ x => ev_p ((TP_63 _).trans rfl) rfl,
   fun L st σ a => ev_getf ((TP_63 _).trans rfl),
   fun l0 l1 l2 l4 l5 st σ x => ev_p ((TP_63 _).trans rfl) rfl,
   fun l0 l1 l2 l3 l5 st σ x => ev_p ((TP_63 _).trans rfl) rfl,
   fun L σ a0 a1 s0 => ev_call ((TP_63 _).trans rfl) rfl rfl rfl rfl,
   fun l0 l1 l2 l3 l4 st σ x => ev_p ((TP_63 _).trans rfl) rfl,
   fun L st σ => ev_p ((TP_63 _).trans rfl) rfl,
   fun L st σ x y => ev_b ((TP_63 _).trans rfl) rfl,
   fun l0 l1 l2 l3 l4 st σ x => ev_p ((TP_63 _).trans rfl) rfl,
   fun l0 l1 l3 l4 l5 st σ x => ev_p ((TP_63 _).trans rfl) rfl,
   fun L st σ x y => ev_b ((TP_63 _).trans rfl) rfl,
   fun L st σ => ev_p ((TP_63 _).trans rfl) rfl,
   fun L st σ => ev_p ((TP_63 _).trans rfl) rfl,
   fun L st σ => ev_p ((TP_63 _).trans rfl) rfl,
   fun L σ a0 a1 a2 => ev_call ((TP_63 _).trans rfl) rfl rfl rfl rfl,
   fun l0 l1 l2 l3 l5 st σ x => ev_p ((TP_63 _).trans rfl) rfl,
   fun L st σ => ev_p ((TP_63 _).trans rfl) rfl,
   fun l0 l1 l2 l4 l5 st σ x => ev_p ((TP_63 _).trans rfl) rfl,
   fun L st σ => ev_p ((TP_63 _).trans rfl) rfl,
   fun L σ => ev_r ((TP_63 _).trans rfl) rfl⟩
theorem TP_64 (pc : Nat) : TT 64 pc = ri_find TL_64 pc := rfl
theorem E_64 (x0 : Nat) (x1 : Nat) (x2 : Int32) (σ : ri_S) : cal 64 [.ref x0, .ref x1, .int x2] σ = ev 64 (0, [some (.ref x0), some (.ref x1), some (.int x2), none, none, none, none, none], []) σ := rfl
theorem H_64_9 (l0 l1 l2 l3 l5 l6 l7 : Option Value) (st : List Value) (σ : ri_S) (x : Int32) : ev 64 (9, [l0, l1, l2, l3, some (.int x), l5, l6, l7], st) σ = ev 64 (11, [l0, l1, l2, l3, some (.int x), l5, l6, l7], .int x :: st) σ := ev_p ((TP_64 _).trans rfl) rfl
theorem H_64_18 (l0 l1 l2 l3 l4 l6 l7 : Option Value) (st : List Value) (σ : ri_S) (x : Int32) : ev 64 (18, [l0, l1, l2, l3, l4, some (.int x), l6, l7], st) σ = ev 64 (20, [l0, l1, l2, l3, l4, some (.int x), l6, l7], .int x :: st) σ := ev_p ((TP_64 _).trans rfl) rfl
theorem I_64_0 :
  (∀ (l1 l2 l3 l4 l5 l6 l7 : Option Value) (st : List Value) (σ : ri_S) (x : Nat), ev 64 (0, [some (.ref x), l1, l2, l3, l4, l5, l6, l7], st) σ = ev 64 (1, [some (.ref x), l1, l2, l3, l4, l5, l6, l7], .ref x :: st) σ) ∧
  (∀ (l0 l1 l3 l4 l5 l6 l7 : Option Value) (st : List Value) (σ : ri_S) (x : Int32), ev 64 (1, [l0, l1, some (.int x), l3, l4, l5, l6, l7], st) σ = ev 64 (2, [l0, l1, some (.int x), l3, l4, l5, l6, l7], .int x :: st) σ) ∧
  (∀ (L : ri_L) (σ : ri_S) (a0 : Nat) (a1 : Int32), ev 64 (2, L, [.int a1, .ref a0]) σ = tv_k 4 (σ.1 a0) ((cal 65 [.ref a0, .int a1] σ).bind fun q => ev 64 (5, L, q.1.toList ++ []) q.2)) ∧
  (∀ (l0 l1 l2 l3 l4 l5 l6 l7 : Option Value) (st : List Value) (σ : ri_S) (x : Int32), ev 64 (5, [l0, l1, l2, l3, l4, l5, l6, l7], .int x :: st) σ = ev 64 (6, [l0, l1, ri_clr l2, some (.int x), l4, l5, l6, l7], st) σ) ∧
  (∀ (L : ri_L) (st : List Value) (σ : ri_S), ev 64 (6, L, st) σ = ev 64 (7, L, .int 0 :: st) σ) ∧
  (∀ (l0 l1 l2 l3 l4 l5 l6 l7 : Option Value) (st : List Value) (σ : ri_S) (x : Int32), ev 64 (7, [l0, l1, l2, l3, l4, l5, l6, l7], .int x :: st) σ = ev 64 (9, [l0, l1, l2, ri_clr l3, some (.int x), l5, l6, l7], st) σ) ∧
  (∀ (L : ri_L) (st : List Value) (σ : ri_S), ev 64 (11, L, st) σ = ev 64 (12, L, .int 3 :: st) σ) ∧
  (∀ (L : ri_L) (st : List Value) (σ : ri_S) (x y : Int32), ev 64 (12, L, .int y :: .int x :: st) σ = if y ≤ x then ev 64 (124, L, st) σ else ev 64 (15, L, st) σ) ∧
  (∀ (L : ri_L) (st : List Value) (σ : ri_S), ev 64 (15, L, st) σ = ev 64 (16, L, .int 0 :: st) σ) ∧
  (∀ (l0 l1 l2 l3 l4 l5 l6 l7 : Option Value) (st : List Value) (σ : ri_S) (x : Int32), ev 64 (16, [l0, l1, l2, l3, l4, l5, l6, l7], .int x :: st) σ = ev 64 (18, [l0, l1, l2, l3, ri_clr l4, some (.int x), l6, l7], st) σ) ∧
  (∀ (L : ri_L) (st : List Value) (σ : ri_S), ev 64 (20, L, st) σ = ev 64 (21, L, .int 5 :: st) σ) ∧
  (∀ (L : ri_L) (st : List Value) (σ : ri_S) (x y : Int32), ev 64 (21, L, .int y :: .int x :: st) σ = if y ≤ x then ev 64 (118, L, st) σ else ev 64 (24, L, st) σ) ∧
  (∀ (L : ri_L) (st : List Value) (σ : ri_S), ev 64 (24, L, st) σ = ev 64 (25, L, .int (-1) :: st) σ) ∧
  (∀ (l0 l1 l2 l3 l4 l5 l6 l7 : Option Value) (st : List Value) (σ : ri_S) (x : Int32), ev 64 (25, [l0, l1, l2, l3, l4, l5, l6, l7], .int x :: st) σ = ev 64 (27, [l0, l1, l2, l3, l4, ri_clr l5, some (.int x), l7], st) σ) ∧
  (∀ (l0 l1 l2 l4 l5 l6 l7 : Option Value) (st : List Value) (σ : ri_S) (x : Int32), ev 64 (27, [l0, l1, l2, some (.int x), l4, l5, l6, l7], st) σ = ev 64 (28, [l0, l1, l2, some (.int x), l4, l5, l6, l7], .int x :: st) σ) ∧
  (∀ (L : ri_L) (st : List Value) (σ : ri_S) (x : Int32), ev 64 (28, L, .int x :: st) σ = if x = 0 then ev 64 (91, L, st) σ else ev 64 (31, L, st) σ) ∧
  (∀ (l0 l2 l3 l4 l5 l6 l7 : Option Value) (st : List Value) (σ : ri_S) (x : Nat), ev 64 (31, [l0, some (.ref x), l2, l3, l4, l5, l6, l7], st) σ = ev 64 (32, [l0, some (.ref x), l2, l3, l4, l5, l6, l7], .ref x :: st) σ) ∧
  (∀ (l0 l1 l2 l3 l5 l6 l7 : Option Value) (st : List Value) (σ : ri_S) (x : Int32), ev 64 (32, [l0, l1, l2, l3, some (.int x), l5, l6, l7], st) σ = ev 64 (34, [l0, l1, l2, l3, some (.int x), l5, l6, l7], .int x :: st) σ) ∧
  (∀ (l0 l1 l2 l3 l4 l6 l7 : Option Value) (st : List Value) (σ : ri_S) (x : Int32), ev 64 (34, [l0, l1, l2, l3, l4, some (.int x), l6, l7], st) σ = ev 64 (36, [l0, l1, l2, l3, l4, some (.int x), l6, l7], .int x :: st) σ) ∧
  (∀ (L : ri_L) (σ : ri_S) (a0 : Nat) (a1 : Int32) (a2 : Int32), ev 64 (36, L, [.int a2, .int a1, .ref a0]) σ = tv_k 7 (σ.1 a0) ((cal 98 [.ref a0, .int a1, .int a2] σ).bind fun q => ev 64 (39, L, q.1.toList ++ []) q.2)) ∧
  (∀ (L : ri_L) (st : List Value) (σ : ri_S) (x : Int32), ev 64 (39, L, .int x :: st) σ = if x = 0 then ev 64 (91, L, st) σ else ev 64 (42, L, st) σ) ∧
  (∀ (l0 l1 l2 l3 l5 l6 l7 : Option Value) (st : List Value) (σ : ri_S) (x : Int32), ev 64 (42, [l0, l1, l2, l3, some (.int x), l5, l6, l7], st) σ = ev 64 (44, [l0, l1, l2, l3, some (.int x), l5, l6, l7], .int x :: st) σ) ∧
  (∀ (l0 l1 l2 l3 l4 l6 l7 : Option Value) (st : List Value) (σ : ri_S) (x : Int32), ev 64 (44, [l0, l1, l2, l3, l4, some (.int x), l6, l7], st) σ = ev 64 (46, [l0, l1, l2, l3, l4, some (.int x), l6, l7], .int x :: st) σ) ∧
  (∀ (l0 l1 l3 l4 l5 l6 l7 : Option Value) (st : List Value) (σ : ri_S) (x : Int32), ev 64 (46, [l0, l1, some (.int x), l3, l4, l5, l6, l7], st) σ = ev 64 (47, [l0, l1, some (.int x), l3, l4, l5, l6, l7], .int x :: st) σ) ∧
  (∀ (l0 l1 l2 l3 l5 l6 l7 : Option Value) (st : List Value) (σ : ri_S) (x : Int32), ev 64 (47, [l0, l1, l2, l3, some (.int x), l5, l6, l7], st) σ = ev 64 (49, [l0, l1, l2, l3, some (.int x), l5, l6, l7], .int x :: st) σ) ∧
  (∀ (L : ri_L) (σ : ri_S) (a0 : Int32) (a1 : Int32) (s0 s1 : Value), ev 64 (49, L, [.int a1, .int a0, s0, s1]) σ = (cal 59 [.int a0, .int a1] σ).bind fun q => ev 64 (52, L, q.1.toList ++ [s0, s1]) q.2) ∧
  (∀ (L : ri_L) (st : List Value) (σ : ri_S) (x y : Int32), ev 64 (52, L, .int y :: .int x :: st) σ = ev 64 (53, L, .int (x - y) :: st) σ) ∧
  (∀ (l0 l2 l3 l4 l5 l6 l7 : Option Value) (st : List Value) (σ : ri_S) (x : Nat), ev 64 (53, [l0, some (.ref x), l2, l3, l4, l5, l6, l7], st) σ = ev 64 (54, [l0, some (.ref x), l2, l3, l4, l5, l6, l7], .ref x :: st) σ) ∧
  (∀ (L : ri_L) (st : List Value) (σ : ri_S) (a : Nat), ev 64 (54, L, .ref a :: st) σ = tv_o 7 1 (σ.1 a) fun v => ev 64 (57, L, v :: st) σ) ∧
  (∀ (l0 l1 l2 l3 l5 l6 l7 : Option Value) (st : List Value) (σ : ri_S) (x : Int32), ev 64 (57, [l0, l1, l2, l3, some (.int x), l5, l6, l7], st) σ = ev 64 (59, [l0, l1, l2, l3, some (.int x), l5, l6, l7], .int x :: st) σ) ∧
  (∀ (L : ri_L) (σ : ri_S) (a0 : Nat) (a1 : Int32) (s0 s1 : Value), ev 64 (59, L, [.int a1, .ref a0, s0, s1]) σ = (cal 140 [.ref a0, .int a1] σ).bind fun q => ev 64 (62, L, q.1.toList ++ [s0, s1]) q.2) ∧
  (∀ (L : ri_L) (σ : ri_S) (a0 : Int32) (a1 : Int32) (s0 : Value), ev 64 (62, L, [.int a1, .int a0, s0]) σ = (cal 139 [.int a0, .int a1] σ).bind fun q => ev 64 (65, L, q.1.toList ++ [s0]) q.2) ∧
  (∀ (L : ri_L) (σ : ri_S) (a0 : Int32) (a1 : Int32), ev 64 (65, L, [.int a1, .int a0]) σ = (cal 138 [.int a0, .int a1] σ).bind fun q => ev 64 (68, L, q.1.toList ++ []) q.2) ∧
  (∀ (l0 l1 l2 l3 l4 l5 l6 l7 : Option Value) (st : List Value) (σ : ri_S) (x : Int32), ev 64 (68, [l0, l1, l2, l3, l4, l5, l6, l7], .int x :: st) σ = ev 64 (70, [l0, l1, l2, l3, l4, l5, ri_clr l6, some (.int x)], st) σ) ∧
  (∀ (l1 l2 l3 l4 l5 l6 l7 : Option Value) (st : List Value) (σ : ri_S) (x : Nat), ev 64 (70, [some (.ref x), l1, l2, l3, l4, l5, l6, l7], st) σ = ev 64 (71, [some (.ref x), l1, l2, l3, l4, l5, l6, l7], .ref x :: st) σ) ∧
  (∀ (L : ri_L) (st : List Value) (σ : ri_S) (a : Nat), ev 64 (71, L, .ref a :: st) σ = tv_o 4 2 (σ.1 a) fun v => ev 64 (74, L, v :: st) σ) ∧
  (∀ (l0 l1 l2 l3 l4 l5 l6 : Option Value) (st : List Value) (σ : ri_S) (x : Int32), ev 64 (74, [l0, l1, l2, l3, l4, l5, l6, some (.int x)], st) σ = ev 64 (76, [l0, l1, l2, l3, l4, l5, l6, some (.int x)], .int x :: st) σ) ∧
  (∀ (L : ri_L) (σ : ri_S) (a0 : Nat) (a1 : Int32), ev 64 (76, L, [.int a1, .ref a0]) σ = (cal 140 [.ref a0, .int a1] σ).bind fun q => ev 64 (79, L, q.1.toList ++ []) q.2) ∧
  (∀ (L : ri_L) (st : List Value) (σ : ri_S), ev 64 (79, L, st) σ = ev 64 (80, L, .int 1 :: st) σ) ∧
  (∀ (L : ri_L) (st : List Value) (σ : ri_S) (x y : Int32), ev 64 (80, L, .int y :: .int x :: st) σ = if ¬ x = y then ev 64 (87, L, st) σ else ev 64 (83, L, st) σ) :=
  ⟨fun l1 l2 l3 l4 l5 l6 l7 st σ x => ev_p ((TP_64 _).trans rfl) rfl,
   fun l0 l1 l3 l4 l5 l6 l7 st σ x => ev_p ((TP_64 _).trans rfl) rfl,
   fun L σ a0 a1 => ev_callv ((TP_64 _).trans rfl) rfl rfl rfl rfl,
   fun l0 l1 l2 l3 l4 l5 l6 l7 st σ x => ev_p ((TP_64 _).trans rfl) rfl,
   fun L st σ => ev_p ((TP_64 _).trans rfl) rfl,
   fun l0 l1 l2 l3 l4 l5 l6 l7 st σ x => ev_p ((TP_64 _).trans rfl) rfl,
   fun L st σ => ev_p ((TP_64 _).trans rfl) rfl,
   fun L st σ x y => ev_b ((TP_64 _).trans rfl) rfl,
   fun L st σ => ev_p ((TP_64 _).trans rfl) rfl,
   fun l0 l1 l2 l3 l4 l5 l6 l7 st σ x => ev_p ((TP_64 _).trans rfl) rfl,
   fun L st σ => ev_p ((TP_64 _).trans rfl) rfl,
   fun L st σ x y => ev_b ((TP_64 _).trans rfl) rfl,
   fun L st σ => ev_p ((TP_64 _).trans rfl) rfl,
   fun l0 l1 l2 l3 l4 l5 l6 l7 st σ x => ev_p ((TP_64 _).trans rfl) rfl,
   fun l0 l1 l2 l4 l5 l6 l7 st σ x => ev_p ((TP_64 _).trans rfl) rfl,
   fun L st σ x => ev_b ((TP_64 _).trans rfl) rfl,
   fun l0 l2 l3 l4 l5 l6 l7 st σ x => ev_p ((TP_64 _).trans rfl) rfl,
   fun l0 l1 l2 l3 l5 l6 l7 st σ x => ev_p ((TP_64 _).trans rfl) rfl,
   fun l0 l1 l2 l3 l4 l6 l7 st σ x => ev_p ((TP_64 _).trans rfl) rfl,
   fun L σ a0 a1 a2 => ev_callv ((TP_64 _).trans rfl) rfl rfl rfl rfl,
   fun L st σ x => ev_b ((TP_64 _).trans rfl) rfl,
   fun l0 l1 l2 l3 l5 l6 l7 st σ x => ev_p ((TP_64 _).trans rfl) rfl,
   fun l0 l1 l2 l3 l4 l6 l7 st σ x => ev_p ((TP_64 _).trans rfl) rfl,
   fun l0 l1 l3 l4 l5 l6 l7 st σ x => ev_p ((TP_64 _).trans rfl) rfl,
   fun l0 l1 l2 l3 l5 l6 l7 st σ x => ev_p ((TP_64 _).trans rfl) rfl,
   fun L σ a0 a1 s0 s1 => ev_call ((TP_64 _).trans rfl) rfl rfl rfl rfl,
   fun L st σ x y => ev_p ((TP_64 _).trans rfl) rfl,
   fun l0 l2 l3 l4 l5 l6 l7 st σ x => ev_p ((TP_64 _).trans rfl) rfl,
   fun L st σ a => ev_getf ((TP_64 _).trans rfl),
   fun l0 l1 l2 l3 l5 l6 l7 st σ x => ev_p ((TP_64 _).trans rfl) rfl,
   fun L σ a0 a1 s0 s1 => ev_call ((TP_64 _).trans rfl) rfl rfl rfl rfl,
   fun L σ a0 a1 s0 => ev_call ((TP_64 _).trans rfl) rfl rfl rfl rfl,
   fun L σ a0 a1 => ev_call ((TP_64 _).trans rfl) rfl rfl rfl rfl,
   fun l0 l1 l2 l3 l4 l5 l6 l7 st σ x => ev_p ((TP_64 _).trans rfl) rfl,
   fun l1 l2 l3 l4 l5 l6 l7 st σ x => ev_p ((TP_64 _).trans rfl) rfl,
   fun L st σ a => ev_getf ((TP_64 _).trans rfl),
   fun l0 l1 l2 l3 l4 l5 l6 st σ x => ev_p ((TP_64 _).trans rfl) rfl,
   fun L σ a0 a1 => ev_call ((TP_64 _).trans rfl) rfl rfl rfl rfl,
   fun L st σ => ev_p ((TP_64 _).trans rfl) rfl,
   fun L st σ x y => ev_b ((TP_64 _).trans rfl) rfl⟩
theorem I_64_1 :
  (∀ (L : ri_L) (st : List Value) (σ : ri_S), ev 64 (83, L, st) σ = ev 64 (84, L, .int (-1) :: st) σ) ∧
  (∀ (L : ri_L) (st : List Value) (σ : ri_S), ev 64 (84, L, st) σ = ev 64 (89, L, st) σ) ∧
  (∀ (l0 l1 l2 l3 l4 l5 l6 : Option Value) (st : List Value) (σ : ri_S) (x : Int32), ev 64 (87, [l0, l1, l2, l3, l4, l5, l6, some (.int x)], st) σ = ev 64 (89, [l0, l1, l2, l3, l4, l5, l6, some (.int x)], .int x :: st) σ) ∧
  (∀ (l0 l1 l2 l3 l4 l5 l6 l7 : Option Value) (st : List Value) (σ : ri_S) (x : Int32), ev 64 (89, [l0, l1, l2, l3, l4, l5, l6, l7], .int x :: st) σ = ev 64 (91, [l0, l1, l2, l3, l4, ri_clr l5, some (.int x), l7], st) σ) ∧
  (∀ (l1 l2 l3 l4 l5 l6 l7 : Option Value) (st : List Value) (σ : ri_S) (x : Nat), ev 64 (91, [some (.ref x), l1, l2, l3, l4, l5, l6, l7], st) σ = ev 64 (92, [some (.ref x), l1, l2, l3, l4, l5, l6, l7], .ref x :: st) σ) ∧
  (∀ (L : ri_L) (st : List Value) (σ : ri_S) (a : Nat), ev 64 (92, L, .ref a :: st) σ = tv_o 4 3 (σ.1 a) fun v => ev 64 (95, L, v :: st) σ) ∧
  (∀ (l0 l1 l3 l4 l5 l6 l7 : Option Value) (st : List Value) (σ : ri_S) (x : Int32), ev 64 (95, [l0, l1, some (.int x), l3, l4, l5, l6, l7], st) σ = ev 64 (96, [l0, l1, some (.int x), l3, l4, l5, l6, l7], .int x :: st) σ) ∧
  (∀ (L : ri_L) (st : List Value) (σ : ri_S), ev 64 (96, L, st) σ = ev 64 (98, L, .int 15 :: st) σ) ∧
  (∀ (L : ri_L) (st : List Value) (σ : ri_S) (x y : Int32), ev 64 (98, L, .int y :: .int x :: st) σ = ev 64 (99, L, .int (x * y) :: st) σ) ∧
  (∀ (l0 l1 l2 l3 l5 l6 l7 : Option Value) (st : List Value) (σ : ri_S) (x : Int32), ev 64 (99, [l0, l1, l2, l3, some (.int x), l5, l6, l7], st) σ = ev 64 (101, [l0, l1, l2, l3, some (.int x), l5, l6, l7], .int x :: st) σ) ∧
  (∀ (l0 l1 l2 l3 l4 l6 l7 : Option Value) (st : List Value) (σ : ri_S) (x : Int32), ev 64 (101, [l0, l1, l2, l3, l4, some (.int x), l6, l7], st) σ = ev 64 (103, [l0, l1, l2, l3, l4, some (.int x), l6, l7], .int x :: st) σ) ∧
  (∀ (L : ri_L) (σ : ri_S) (a0 : Int32) (a1 : Int32) (s0 s1 : Value), ev 64 (103, L, [.int a1, .int a0, s0, s1]) σ = (cal 138 [.int a0, .int a1] σ).bind fun q => ev 64 (106, L, q.1.toList ++ [s0, s1]) q.2) ∧
  (∀ (L : ri_L) (st : List Value) (σ : ri_S) (x y : Int32), ev 64 (106, L, .int y :: .int x :: st) σ = ev 64 (107, L, .int (x + y) :: st) σ) ∧
  (∀ (l0 l1 l2 l3 l4 l5 l7 : Option Value) (st : List Value) (σ : ri_S) (x : Int32), ev 64 (107, [l0, l1, l2, l3, l4, l5, some (.int x), l7], st) σ = ev 64 (109, [l0, l1, l2, l3, l4, l5, some (.int x), l7], .int x :: st) σ) ∧
  (∀ (L : ri_L) (σ : ri_S) (a0 : Nat) (a1 : Int32) (a2 : Int32), ev 64 (109, L, [.int a2, .int a1, .ref a0]) σ = (cal 141 [.ref a0, .int a1, .int a2] σ).bind fun q => ev 64 (112, L, q.1.toList ++ []) q.2) ∧
  (∀ (l0 l1 l2 l3 l4 l6 l7 : Option Value) (st : List Value) (σ : ri_S) (x : Int32), ev 64 (112, [l0, l1, l2, l3, l4, some (.int x), l6, l7], st) σ = ev 64 (115, [l0, l1, l2, l3, ri_clr l4, some (.int (x + 1)), l6, l7], st) σ) ∧
  (∀ (L : ri_L) (st : List Value) (σ : ri_S), ev 64 (115, L, st) σ = ev 64 (18, L, st) σ) ∧
  (∀ (l0 l1 l2 l3 l5 l6 l7 : Option Value) (st : List Value) (σ : ri_S) (x : Int32), ev 64 (118, [l0, l1, l2, l3, some (.int x), l5, l6, l7], st) σ = ev 64 (121, [l0, l1, l2, ri_clr l3, some (.int (x + 1)), l5, l6, l7], st) σ) ∧
  (∀ (L : ri_L) (st : List Value) (σ : ri_S), ev 64 (121, L, st) σ = ev 64 (9, L, st) σ) ∧
  (∀ (L : ri_L) (σ : ri_S), ev 64 (124, L, []) σ = some (none, σ)) :=
  ⟨fun L st σ => ev_p ((TP_64 _).trans rfl) rfl,
   fun L st σ => ev_p ((TP_64 _).trans rfl) rfl,
   fun l0 l1 l2 l3 l4 l5 l6 st σ x => ev_p ((TP_64 _).trans rfl) rfl,
   fun l0 l1 l2 l3 l4 l5 l6 l7 st σ x => ev_p ((TP_64 _).trans rfl) rfl,
   fun l1 l2 l3 l4 l5 l6 l7 st σ x => ev_p ((TP_64 _).trans rfl) rfl,
   fun L st σ a => ev_getf ((TP_64 _).trans rfl),
   fun l0 l1 l3 l4 l5 l6 l7 st σ x => ev_p ((TP_64 _).trans rfl) rfl,
   fun L st σ => ev_p ((TP_64 _).trans rfl) rfl,
   fun L st σ x y => ev_p ((TP_64 _).trans rfl) rfl,
   fun l0 l1 l2 l3 l5 l6 l7 st σ x => ev_p ((TP_64 _).trans rfl) rfl,
   fun l0 l1 l2 l3 l4 l6 l7 st σ x => ev_p ((TP_64 _).trans rfl) rfl,
   fun L σ a0 a1 s0 s1 => ev_call ((TP_64 _).trans rfl) rfl rfl rfl rfl,
   fun L st σ x y => ev_p ((TP_64 _).trans rfl) rfl,
   fun l0 l1 l2 l3 l4 l5 l7 st σ x => ev_p ((TP_64 _).trans rfl) rfl,
   fun L σ a0 a1 a2 => ev_call ((TP_64 _).trans rfl) rfl rfl rfl rfl,
   fun l0 l1 l2 l3 l4 l6 l7 st σ x => ev_p ((TP_64 _).trans rfl) rfl,
   fun L st σ => ev_p ((TP_64 _).trans rfl) rfl,
   fun l0 l1 l2 l3 l5 l6 l7 st σ x => ev_p ((TP_64 _).trans rfl) rfl,
   fun L st σ => ev_p ((TP_64 _).trans rfl) rfl,
   fun L σ => ev_r ((TP_64 _).trans rfl) rfl⟩
theorem TP_65 (pc : Nat) : TT 65 pc = ri_find TL_65 pc := rfl
theorem E_65 (x0 : Nat) (x1 : Int32) (σ : ri_S) : cal 65 [.ref x0, .int x1] σ = ev 65 (0, [some (.ref x0), some (.int x1), none], []) σ := rfl
theorem H_65_2 (l0 l1 : Option Value) (st : List Value) (σ : ri_S) (x : Int32) : ev 65 (2, [l0, l1, some (.int x)], st) σ = ev 65 (3, [l0, l1, some (.int x)], .int x :: st) σ := ev_p ((TP_65 _).trans rfl) rfl
theorem I_65 :
  (∀ (L : ri_L) (st : List Value) (σ : ri_S), ev 65 (0, L, st) σ = ev 65 (1, L, .int 0 :: st) σ) ∧
  (∀ (l0 l1 l2 : Option Value) (st : List Value) (σ : ri_S) (x : Int32), ev 65 (1, [l0, l1, l2], .int x :: st) σ = ev 65 (2, [l0, ri_clr l1, some (.int x)], st) σ) ∧
  (∀ (L : ri_L) (st : List Value) (σ : ri_S), ev 65 (3, L, st) σ = ev 65 (4, L, .int 3 :: st) σ) ∧
  (∀ (L : ri_L) (st : List Value) (σ : ri_S) (x y : Int32), ev 65 (4, L, .int y :: .int x :: st) σ = if y ≤ x then ev 65 (34, L, st) σ else ev 65 (7, L, st) σ) ∧
  (∀ (l1 l2 : Option Value) (st : List Value) (σ : ri_S) (x : Nat), ev 65 (7, [some (.ref x), l1, l2], st) σ = ev 65 (8, [some (.ref x), l1, l2], .ref x :: st) σ) ∧
  (∀ (L : ri_L) (st : List Value) (σ : ri_S) (a : Nat), ev 65 (8, L, .ref a :: st) σ = tv_o 4 1 (σ.1 a) fun v => ev 65 (11, L, v :: st) σ) ∧
  (∀ (l0 l1 : Option Value) (st : List Value) (σ : ri_S) (x : Int32), ev 65 (11, [l0, l1, some (.int x)], st) σ = ev 65 (12, [l0, l1, some (.int x)], .int x :: st) σ) ∧
  (∀ (l0 l2 : Option Value) (st : List Value) (σ : ri_S) (x : Int32), ev 65 (12, [l0, some (.int x), l2], st) σ = ev 65 (13, [l0, some (.int x), l2], .int x :: st) σ) ∧
  (∀ (l0 l1 : Option Value) (st : List Value) (σ : ri_S) (x : Int32), ev 65 (13, [l0, l1, some (.int x)], st) σ = ev 65 (14, [l0, l1, some (.int x)], .int x :: st) σ) ∧
  (∀ (L : ri_L) (σ : ri_S) (a0 : Int32) (a1 : Int32) (s0 s1 : Value), ev 65 (14, L, [.int a1, .int a0, s0, s1]) σ = (cal 59 [.int a0, .int a1] σ).bind fun q => ev 65 (17, L, q.1.toList ++ [s0, s1]) q.2) ∧
  (∀ (L : ri_L) (σ : ri_S) (a0 : Int32) (a1 : Int32) (s0 : Value), ev 65 (17, L, [.int a1, .int a0, s0]) σ = (cal 138 [.int a0, .int a1] σ).bind fun q => ev 65 (20, L, q.1.toList ++ [s0]) q.2) ∧
  (∀ (L : ri_L) (σ : ri_S) (a0 : Nat) (a1 : Int32), ev 65 (20, L, [.int a1, .ref a0]) σ = (cal 140 [.ref a0, .int a1] σ).bind fun q => ev 65 (23, L, q.1.toList ++ []) q.2) ∧
  (∀ (L : ri_L) (st : List Value) (σ : ri_S) (x : Int32), ev 65 (23, L, .int x :: st) σ = if ¬ x = 0 then ev 65 (28, L, st) σ else ev 65 (26, L, st) σ) ∧
  (∀ (L : ri_L) (st : List Value) (σ : ri_S), ev 65 (26, L, st) σ = ev 65 (27, L, .int 0 :: st) σ) ∧
  (∀ (L : ri_L) (σ : ri_S) (x : Int32), ev 65 (27, L, [.int x]) σ = tv_b x (some (some (.int x), σ))) ∧
  (∀ (l0 l1 : Option Value) (st : List Value) (σ : ri_S) (x : Int32), ev 65 (28, [l0, l1, some (.int x)], st) σ = ev 65 (31, [l0, ri_clr l1, some (.int (x + 1))], st) σ) ∧
  (∀ (L : ri_L) (st : List Value) (σ : ri_S), ev 65 (31, L, st) σ = ev 65 (2, L, st) σ) ∧
  (∀ (L : ri_L) (st : List Value) (σ : ri_S), ev 65 (34, L, st) σ = ev 65 (35, L, .int 1 :: st) σ) ∧
  (∀ (L : ri_L) (σ : ri_S) (x : Int32), ev 65 (35, L, [.int x]) σ = tv_b x (some (some (.int x), σ))) :=
  ⟨fun L st σ => ev_p ((TP_65 _).trans rfl) rfl,
   fun l0 l1 l2 st σ x => ev_p ((TP_65 _).trans rfl) rfl,
   fun L st σ => ev_p ((TP_65 _).trans rfl) rfl,
   fun L st σ x y => ev_b ((TP_65 _).trans rfl) rfl,
   fun l1 l2 st σ x => ev_p ((TP_65 _).trans rfl) rfl,
   fun L st σ a => ev_getf ((TP_65 _).trans rfl),
   fun l0 l1 st σ x => ev_p ((TP_65 _).trans rfl) rfl,
   fun l0 l2 st σ x => ev_p ((TP_65 _).trans rfl) rfl,
   fun l0 l1 st σ x => ev_p ((TP_65 _).trans rfl) rfl,
   fun L σ a0 a1 s0 s1 => ev_call ((TP_65 _).trans rfl) rfl rfl rfl rfl,
   fun L σ a0 a1 s0 => ev_call ((TP_65 _).trans rfl) rfl rfl rfl rfl,
   fun L σ a0 a1 => ev_call ((TP_65 _).trans rfl) rfl rfl rfl rfl,
   fun L st σ x => ev_b ((TP_65 _).trans rfl) rfl,
   fun L st σ => ev_p ((TP_65 _).trans rfl) rfl,
   fun L σ x => ev_r ((TP_65 _).trans rfl) rfl,
   fun l0 l1 st σ x => ev_p ((TP_65 _).trans rfl) rfl,
   fun L st σ => ev_p ((TP_65 _).trans rfl) rfl,
   fun L st σ => ev_p ((TP_65 _).trans rfl) rfl,
   fun L σ x => ev_r ((TP_65 _).trans rfl) rfl⟩
theorem TP_66 (pc : Nat) : TT 66 pc = ri_find TL_66 pc := rfl
theorem E_66 (x0 : Nat) (x1 : Int32) (x2 : Int32) (σ : ri_S) : cal 66 [.ref x0, .int x1, .int x2] σ = ev 66 (0, [some (.ref x0), some (.int x1), some (.int x2), none, none, none, none, none], []) σ := rfl
theorem I_66_0 :
  (∀ (l0 l2 l3 l4 l5 l6 l7 : Option Value) (st : List Value) (σ : ri_S) (x : Int32), ev 66 (0, [l0, some (.int x), l2, l3, l4, l5, l6, l7], st) σ = ev 66 (1, [l0, some (.int x), l2, l3, l4, l5, l6, l7], .int x :: st) σ) ∧
  (∀ (L : ri_L) (st : List Value) (σ : ri_S), ev 66 (1, L, st) σ = ev 66 (3, L, .int 15 :: st) σ) ∧
  (∀ (L : ri_L) (st : List Value) (σ : ri_S) (x y : Int32), ev 66 (3, L, .int y :: .int x :: st) σ = if y = 0 then none else ev 66 (4, L, .int (x / y) :: st) σ) ∧
  (∀ (l0 l1 l2 l3 l4 l5 l6 l7 : Option Value) (st : List Value) (σ : ri_S) (x : Int32), ev 66 (4, [l0, l1, l2, l3, l4, l5, l6, l7], .int x :: st) σ = ev 66 (5, [l0, l1, ri_clr l2, some (.int x), l4, l5, l6, l7], st) σ) ∧
  (∀ (l0 l2 l3 l4 l5 l6 l7 : Option Value) (st : List Value) (σ : ri_S) (x : Int32), ev 66 (5, [l0, some (.int x), l2, l3, l4, l5, l6, l7], st) σ = ev 66 (6, [l0, some (.int x), l2, l3, l4, l5, l6, l7], .int x :: st) σ) ∧
  (∀ (L : ri_L) (st : List Value) (σ : ri_S), ev 66 (6, L, st) σ = ev 66 (8, L, .int 15 :: st) σ) ∧
  (∀ (L : ri_L) (st : List Value) (σ : ri_S) (x y : Int32), ev 66 (8, L, .int y :: .int x :: st) σ = if y = 0 then none else ev 66 (9, L, .int (x - x / y * y) :: st) σ) ∧
  (∀ (l0 l1 l2 l3 l4 l5 l6 l7 : Option Value) (st : List Value) (σ : ri_S) (x : Int32), ev 66 (9, [l0, l1, l2, l3, l4, l5, l6, l7], .int x :: st) σ = ev 66 (11, [l0, l1, l2, ri_clr l3, some (.int x), l5, l6, l7], st) σ) ∧
  (∀ (l1 l2 l3 l4 l5 l6 l7 : Option Value) (st : List Value) (σ : ri_S) (x : Nat), ev 66 (11, [some (.ref x), l1, l2, l3, l4, l5, l6, l7], st) σ = ev 66 (12, [some (.ref x), l1, l2, l3, l4, l5, l6, l7], .ref x :: st) σ) ∧
  (∀ (L : ri_L) (st : List Value) (σ : ri_S) (a : Nat), ev 66 (12, L, .ref a :: st) σ = tv_o 4 4 (σ.1 a) fun v => ev 66 (15, L, v :: st) σ) ∧
  (∀ (l0 l1 l2 l3 l5 l6 l7 : Option Value) (st : List Value) (σ : ri_S) (x : Int32), ev 66 (15, [l0, l1, l2, l3, some (.int x), l5, l6, l7], st) σ = ev 66 (17, [l0, l1, l2, l3, some (.int x), l5, l6, l7], .int x :: st) σ) ∧
  (∀ (L : ri_L) (st : List Value) (σ : ri_S), ev 66 (17, L, st) σ = ev 66 (19, L, .int 10 :: st) σ) ∧
  (∀ (L : ri_L) (st : List Value) (σ : ri_S) (x y : Int32), ev 66 (19, L, .int y :: .int x :: st) σ = ev 66 (20, L, .int (x * y) :: st) σ) ∧
  (∀ (l0 l1 l3 l4 l5 l6 l7 : Option Value) (st : List Value) (σ : ri_S) (x : Int32), ev 66 (20, [l0, l1, some (.int x), l3, l4, l5, l6, l7], st) σ = ev 66 (21, [l0, l1, some (.int x), l3, l4, l5, l6, l7], .int x :: st) σ) ∧
  (∀ (L : ri_L) (st : List Value) (σ : ri_S) (x y : Int32), ev 66 (21, L, .int y :: .int x :: st) σ = ev 66 (22, L, .int (x + y) :: st) σ) ∧
  (∀ (L : ri_L) (σ : ri_S) (a0 : Nat) (a1 : Int32), ev 66 (22, L, [.int a1, .ref a0]) σ = (cal 140 [.ref a0, .int a1] σ).bind fun q => ev 66 (25, L, q.1.toList ++ []) q.2) ∧
  (∀ (l0 l1 l2 l3 l4 l5 l6 l7 : Option Value) (st : List Value) (σ : ri_S) (x : Int32), ev 66 (25, [l0, l1, l2, l3, l4, l5, l6, l7], .int x :: st) σ = ev 66 (27, [l0, l1, l2, l3, ri_clr l4, some (.int x), l6, l7], st) σ) ∧
  (∀ (l1 l2 l3 l4 l5 l6 l7 : Option Value) (st : List Value) (σ : ri_S) (x : Nat), ev 66 (27, [some (.ref x), l1, l2, l3, l4, l5, l6, l7], st) σ = ev 66 (28, [some (.ref x), l1, l2, l3, l4, l5, l6, l7], .ref x :: st) σ) ∧
  (∀ (L : ri_L) (st : List Value) (σ : ri_S) (a : Nat), ev 66 (28, L, .ref a :: st) σ = tv_o 4 3 (σ.1 a) fun v => ev 66 (31, L, v :: st) σ) ∧
  (∀ (l0 l1 l2 l4 l5 l6 l7 : Option Value) (st : List Value) (σ : ri_S) (x : Int32), ev 66 (31, [l0, l1, l2, some (.int x), l4, l5, l6, l7], st) σ = ev 66 (32, [l0, l1, l2, some (.int x), l4, l5, l6, l7], .int x :: st) σ) ∧
  (∀ (L : ri_L) (st : List Value) (σ : ri_S), ev 66 (32, L, st) σ = ev 66 (34, L, .int 15 :: st) σ) ∧
  (∀ (L : ri_L) (st : List Value) (σ : ri_S) (x y : Int32), ev 66 (34, L, .int y :: .int x :: st) σ = ev 66 (35, L, .int (x * y) :: st) σ) ∧
  (∀ (l0 l1 l2 l3 l4 l6 l7 : Option Value) (st : List Value) (σ : ri_S) (x : Int32), ev 66 (35, [l0, l1, l2, l3, l4, some (.int x), l6, l7], st) σ = ev 66 (37, [l0, l1, l2, l3, l4, some (.int x), l6, l7], .int x :: st) σ) ∧
  (∀ (L : ri_L) (st : List Value) (σ : ri_S) (x y : Int32), ev 66 (37, L, .int y :: .int x :: st) σ = ev 66 (38, L, .int (x + y) :: st) σ) ∧
  (∀ (L : ri_L) (σ : ri_S) (a0 : Nat) (a1 : Int32), ev 66 (38, L, [.int a1, .ref a0]) σ = (cal 140 [.ref a0, .int a1] σ).bind fun q => ev 66 (41, L, q.1.toList ++ []) q.2) ∧
  (∀ (L : ri_L) (st : List Value) (σ : ri_S), ev 66 (41, L, st) σ = ev 66 (42, L, .int (-1) :: st) σ) ∧
  (∀ (L : ri_L) (st : List Value) (σ : ri_S) (x y : Int32), ev 66 (42, L, .int y :: .int x :: st) σ = if ¬ x = y then ev 66 (47, L, st) σ else ev 66 (45, L, st) σ) ∧
  (∀ (L : ri_L) (st : List Value) (σ : ri_S), ev 66 (45, L, st) σ = ev 66 (46, L, .int (-1) :: st) σ) ∧
  (∀ (L : ri_L) (σ : ri_S) (x : Int32), ev 66 (46, L, [.int x]) σ = some (some (.int x), σ)) ∧
  (∀ (l0 l1 l2 l3 l5 l6 l7 : Option Value) (st : List Value) (σ : ri_S) (x : Int32), ev 66 (47, [l0, l1, l2, l3, some (.int x), l5, l6, l7], st) σ = ev 66 (49, [l0, l1, l2, l3, some (.int x), l5, l6, l7], .int x :: st) σ) ∧
  (∀ (L : ri_L) (st : List Value) (σ : ri_S), ev 66 (49, L, st) σ = ev 66 (50, L, .int 5 :: st) σ) ∧
  (∀ (L : ri_L) (st : List Value) (σ : ri_S) (x y : Int32), ev 66 (50, L, .int y :: .int x :: st) σ = if y = 0 then none else ev 66 (51, L, .int (x / y) :: st) σ) ∧
  (∀ (l0 l1 l2 l3 l4 l5 l6 l7 : Option Value) (st : List Value) (σ : ri_S) (x : Int32), ev 66 (51, [l0, l1, l2, l3, l4, l5, l6, l7], .int x :: st) σ = ev 66 (53, [l0, l1, l2, l3, l4, ri_clr l5, some (.int x), l7], st) σ) ∧
  (∀ (l0 l1 l2 l3 l4 l6 l7 : Option Value) (st : List Value) (σ : ri_S) (x : Int32), ev 66 (53, [l0, l1, l2, l3, l4, some (.int x), l6, l7], st) σ = ev 66 (55, [l0, l1, l2, l3, l4, some (.int x), l6, l7], .int x :: st) σ) ∧
  (∀ (L : ri_L) (st : List Value) (σ : ri_S), ev 66 (55, L, st) σ = ev 66 (56, L, .int 5 :: st) σ) ∧
  (∀ (L : ri_L) (st : List Value) (σ : ri_S) (x y : Int32), ev 66 (56, L, .int y :: .int x :: st) σ = if y = 0 then none else ev 66 (57, L, .int (x / y) :: st) σ) ∧
  (∀ (l0 l1 l2 l3 l4 l5 l7 : Option Value) (st : List Value) (σ : ri_S) (x : Int32), ev 66 (57, [l0, l1, l2, l3, l4, l5, some (.int x), l7], st) σ = ev 66 (59, [l0, l1, l2, l3, l4, l5, some (.int x), l7], .int x :: st) σ) ∧
  (∀ (L : ri_L) (st : List Value) (σ : ri_S) (x y : Int32), ev 66 (59, L, .int y :: .int x :: st) σ = if x = y then ev 66 (96, L, st) σ else ev 66 (62, L, st) σ) ∧
  (∀ (l0 l1 l2 l4 l5 l6 l7 : Option Value) (st : List Value) (σ : ri_S) (x : Int32), ev 66 (62, [l0, l1, l2, some (.int x), l4, l5, l6, l7], st) σ = ev 66 (63, [l0, l1, l2, some (.int x), l4, l5, l6, l7], .int x :: st) σ) ∧
  (∀ (l0 l1 l2 l3 l4 l5 l7 : Option Value) (st : List Value) (σ : ri_S) (x : Int32), ev 66 (63, [l0, l1, l2, l3, l4, l5, some (.int x), l7], st) σ = ev 66 (65, [l0, l1, l2, l3, l4, l5, some (.int x), l7], .int x :: st) σ) :=
  ⟨fun l0 l2 l3 l4 l5 l6 l7 st σ x => ev_p ((TP_66 _).trans rfl) rfl,
   fun L st σ => ev_p ((TP_66 _).trans rfl) rfl,
   fun L st σ x y => ev_d ((TP_66 _).trans rfl) rfl,
   fun l0 l1 l2 l3 l4 l5 l6 l7 st σ x => ev_p ((TP_66 _).trans rfl) rfl,
   fun l0 l2 l3 l4 l5 l6 l7 st σ x => ev_p ((TP_66 _).trans rfl) rfl,
   fun L st σ => ev_p ((TP_66 _).trans rfl) rfl,
   fun L st σ x y => ev_d ((TP_66 _).trans rfl) rfl,
   fun l0 l1 l2 l3 l4 l5 l6 l7 st σ x => ev_p ((TP_66 _).trans rfl) rfl,
   fun l1 l2 l3 l4 l5 l6 l7 st σ x => ev_p ((TP_66 _).trans rfl) rfl,
   fun L st σ a => ev_getf ((TP_66 _).trans rfl),
   fun l0 l1 l2 l3 l5 l6 l7 st σ x => ev_p ((TP_66 _).trans rfl) rfl,
   fun L st σ => ev_p ((TP_66 _).trans rfl) rfl,
   fun L st σ x y => ev_p ((TP_66 _).trans rfl) rfl,
   fun l0 l1 l3 l4 l5 l6 l7 st σ x => ev_p ((TP_66 _).trans rfl) rfl,
   fun L st σ x y => ev_p ((TP_66 _).trans rfl) rfl,
   fun L σ a0 a1 => ev_call ((TP_66 _).trans rfl) rfl rfl rfl rfl,
   fun l0 l1 l2 l3 l4 l5 l6 l7 st σ x => ev_p ((TP_66 _).trans rfl) rfl,
   fun l1 l2 l3 l4 l5 l6 l7 st σ x => ev_p ((TP_66 _).trans rfl) rfl,
   fun L st σ a => ev_getf ((TP_66 _).trans rfl),
   fun l0 l1 l2 l4 l5 l6 l7 st σ x => ev_p ((TP_66 _).trans rfl) rfl,
   fun L st σ => ev_p ((TP_66 _).trans rfl) rfl,
   fun L st σ x y => ev_p ((TP_66 _).trans rfl) rfl,
   fun l0 l1 l2 l3 l4 l6 l7 st σ x => ev_p ((TP_66 _).trans rfl) rfl,
   fun L st σ x y => ev_p ((TP_66 _).trans rfl) rfl,
   fun L σ a0 a1 => ev_call ((TP_66 _).trans rfl) rfl rfl rfl rfl,
   fun L st σ => ev_p ((TP_66 _).trans rfl) rfl,
   fun L st σ x y => ev_b ((TP_66 _).trans rfl) rfl,
   fun L st σ => ev_p ((TP_66 _).trans rfl) rfl,
   fun L σ x => ev_r ((TP_66 _).trans rfl) rfl,
   fun l0 l1 l2 l3 l5 l6 l7 st σ x => ev_p ((TP_66 _).trans rfl) rfl,
   fun L st σ => ev_p ((TP_66 _).trans rfl) rfl,
   fun L st σ x y => ev_d ((TP_66 _).trans rfl) rfl,
   fun l0 l1 l2 l3 l4 l5 l6 l7 st σ x => ev_p ((TP_66 _).trans rfl) rfl,
   fun l0 l1 l2 l3 l4 l6 l7 st σ x => ev_p ((TP_66 _).trans rfl) rfl,
   fun L st σ => ev_p ((TP_66 _).trans rfl) rfl,
   fun L st σ x y => ev_d ((TP_66 _).trans rfl) rfl,
   fun l0 l1 l2 l3 l4 l5 l7 st σ x => ev_p ((TP_66 _).trans rfl) rfl,
   fun L st σ x y => ev_b ((TP_66 _).trans rfl) rfl,
   fun l0 l1 l2 l4 l5 l6 l7 st σ x => ev_p ((TP_66 _).trans rfl) rfl,
   fun l0 l1 l2 l3 l4 l5 l7 st σ x => ev_p ((TP_66 _).trans rfl) rfl⟩
theorem I_66_1 :
  (∀ (L : ri_L) (σ : ri_S) (a0 : Int32) (a1 : Int32), ev 66 (65, L, [.int a1, .int a0]) σ = (cal 59 [.int a0, .int a1] σ).bind fun q => ev 66 (68, L, q.1.toList ++ []) q.2) ∧
  (∀ (l0 l1 l2 l3 l4 l5 l6 l7 : Option Value) (st : List Value) (σ : ri_S) (x : Int32), ev 66 (68, [l0, l1, l2, l3, l4, l5, l6, l7], .int x :: st) σ = ev 66 (70, [l0, l1, l2, l3, l4, l5, ri_clr l6, some (.int x)], st) σ) ∧
  (∀ (l0 l1 l2 l4 l5 l6 l7 : Option Value) (st : List Value) (σ : ri_S) (x : Int32), ev 66 (70, [l0, l1, l2, some (.int x), l4, l5, l6, l7], st) σ = ev 66 (71, [l0, l1, l2, some (.int x), l4, l5, l6, l7], .int x :: st) σ) ∧
  (∀ (l1 l2 l3 l4 l5 l6 l7 : Option Value) (st : List Value) (σ : ri_S) (x : Nat), ev 66 (71, [some (.ref x), l1, l2, l3, l4, l5, l6, l7], st) σ = ev 66 (72, [some (.ref x), l1, l2, l3, l4, l5, l6, l7], .ref x :: st) σ) ∧
  (∀ (L : ri_L) (st : List Value) (σ : ri_S) (a : Nat), ev 66 (72, L, .ref a :: st) σ = tv_o 4 0 (σ.1 a) fun v => ev 66 (75, L, v :: st) σ) ∧
  (∀ (l0 l1 l2 l3 l4 l5 l7 : Option Value) (st : List Value) (σ : ri_S) (x : Int32), ev 66 (75, [l0, l1, l2, l3, l4, l5, some (.int x), l7], st) σ = ev 66 (77, [l0, l1, l2, l3, l4, l5, some (.int x), l7], .int x :: st) σ) ∧
  (∀ (l0 l1 l2 l3 l4 l5 l6 : Option Value) (st : List Value) (σ : ri_S) (x : Int32), ev 66 (77, [l0, l1, l2, l3, l4, l5, l6, some (.int x)], st) σ = ev 66 (79, [l0, l1, l2, l3, l4, l5, l6, some (.int x)], .int x :: st) σ) ∧
  (∀ (L : ri_L) (σ : ri_S) (a0 : Int32) (a1 : Int32) (s0 s1 : Value), ev 66 (79, L, [.int a1, .int a0, s0, s1]) σ = (cal 138 [.int a0, .int a1] σ).bind fun q => ev 66 (82, L, q.1.toList ++ [s0, s1]) q.2) ∧
  (∀ (L : ri_L) (σ : ri_S) (a0 : Nat) (a1 : Int32) (s0 : Value), ev 66 (82, L, [.int a1, .ref a0, s0]) σ = (cal 140 [.ref a0, .int a1] σ).bind fun q => ev 66 (85, L, q.1.toList ++ [s0]) q.2) ∧
  (∀ (l0 l1 l2 l3 l4 l5 l6 : Option Value) (st : List Value) (σ : ri_S) (x : Int32), ev 66 (85, [l0, l1, l2, l3, l4, l5, l6, some (.int x)], st) σ = ev 66 (87, [l0, l1, l2, l3, l4, l5, l6, some (.int x)], .int x :: st) σ) ∧
  (∀ (L : ri_L) (st : List Value) (σ : ri_S) (x y : Int32), ev 66 (87, L, .int y :: .int x :: st) σ = ev 66 (88, L, .int (x - y) :: st) σ) ∧
  (∀ (l0 l1 l2 l3 l4 l5 l7 : Option Value) (st : List Value) (σ : ri_S) (x : Int32), ev 66 (88, [l0, l1, l2, l3, l4, l5, some (.int x), l7], st) σ = ev 66 (90, [l0, l1, l2, l3, l4, l5, some (.int x), l7], .int x :: st) σ) ∧
  (∀ (L : ri_L) (σ : ri_S) (a0 : Int32) (s0 s1 : Value), ev 66 (90, L, [.int a0, s0, s1]) σ = (cal 58 [.int a0] σ).bind fun q => ev 66 (93, L, q.1.toList ++ [s0, s1]) q.2) ∧
  (∀ (L : ri_L) (st : List Value) (σ : ri_S) (x y : Int32), ev 66 (93, L, .int y :: .int x :: st) σ = ev 66 (94, L, .int (x * y) :: st) σ) ∧
  (∀ (L : ri_L) (st : List Value) (σ : ri_S) (x y : Int32), ev 66 (94, L, .int y :: .int x :: st) σ = ev 66 (95, L, .int (x + y) :: st) σ) ∧
  (∀ (l0 l1 l2 l3 l4 l5 l6 l7 : Option Value) (st : List Value) (σ : ri_S) (x : Int32), ev 66 (95, [l0, l1, l2, l3, l4, l5, l6, l7], .int x :: st) σ = ev 66 (96, [l0, l1, ri_clr l2, some (.int x), l4, l5, l6, l7], st) σ) ∧
  (∀ (l0 l1 l2 l4 l5 l6 l7 : Option Value) (st : List Value) (σ : ri_S) (x : Int32), ev 66 (96, [l0, l1, l2, some (.int x), l4, l5, l6, l7], st) σ = ev 66 (97, [l0, l1, l2, some (.int x), l4, l5, l6, l7], .int x :: st) σ) ∧
  (∀ (L : ri_L) (st : List Value) (σ : ri_S), ev 66 (97, L, st) σ = ev 66 (99, L, .int 15 :: st) σ) ∧
  (∀ (L : ri_L) (st : List Value) (σ : ri_S) (x y : Int32), ev 66 (99, L, .int y :: .int x :: st) σ = ev 66 (100, L, .int (x * y) :: st) σ) ∧
  (∀ (l0 l1 l2 l3 l4 l6 l7 : Option Value) (st : List Value) (σ : ri_S) (x : Int32), ev 66 (100, [l0, l1, l2, l3, l4, some (.int x), l6, l7], st) σ = ev 66 (102, [l0, l1, l2, l3, l4, some (.int x), l6, l7], .int x :: st) σ) ∧
  (∀ (L : ri_L) (st : List Value) (σ : ri_S) (x y : Int32), ev 66 (102, L, .int y :: .int x :: st) σ = ev 66 (103, L, .int (x + y) :: st) σ) ∧
  (∀ (L : ri_L) (σ : ri_S) (x : Int32), ev 66 (103, L, [.int x]) σ = some (some (.int x), σ)) :=
  ⟨fun L σ a0 a1 => ev_call ((TP_66 _).trans rfl) rfl rfl rfl rfl,
   fun l0 l1 l2 l3 l4 l5 l6 l7 st σ x => ev_p ((TP_66 _).trans rfl) rfl,
   fun l0 l1 l2 l4 l5 l6 l7 st σ x => ev_p ((TP_66 _).trans rfl) rfl,
   fun l1 l2 l3 l4 l5 l6 l7 st σ x => ev_p ((TP_66 _).trans rfl) rfl,
   fun L st σ a => ev_getf ((TP_66 _).trans rfl),
   fun l0 l1 l2 l3 l4 l5 l7 st σ x => ev_p ((TP_66 _).trans rfl) rfl,
   fun l0 l1 l2 l3 l4 l5 l6 st σ x => ev_p ((TP_66 _).trans rfl) rfl,
   fun L σ a0 a1 s0 s1 => ev_call ((TP_66 _).trans rfl) rfl rfl rfl rfl,
   fun L σ a0 a1 s0 => ev_call ((TP_66 _).trans rfl) rfl rfl rfl rfl,
   fun l0 l1 l2 l3 l4 l5 l6 st σ x => ev_p ((TP_66 _).trans rfl) rfl,
   fun L st σ x y => ev_p ((TP_66 _).trans rfl) rfl,
   fun l0 l1 l2 l3 l4 l5 l7 st σ x => ev_p ((TP_66 _).trans rfl) rfl,
   fun L σ a0 s0 s1 => ev_call ((TP_66 _).trans rfl) rfl rfl rfl rfl,
   fun L st σ x y => ev_p ((TP_66 _).trans rfl) rfl,
   fun L st σ x y => ev_p ((TP_66 _).trans rfl) rfl,
   fun l0 l1 l2 l3 l4 l5 l6 l7 st σ x => ev_p ((TP_66 _).trans rfl) rfl,
   fun l0 l1 l2 l4 l5 l6 l7 st σ x => ev_p ((TP_66 _).trans rfl) rfl,
   fun L st σ => ev_p ((TP_66 _).trans rfl) rfl,
   fun L st σ x y => ev_p ((TP_66 _).trans rfl) rfl,
   fun l0 l1 l2 l3 l4 l6 l7 st σ x => ev_p ((TP_66 _).trans rfl) rfl,
   fun L st σ x y => ev_p ((TP_66 _).trans rfl) rfl,
   fun L σ x => ev_r ((TP_66 _).trans rfl) rfl⟩
theorem TP_67 (pc : Nat) : TT 67 pc = ri_find TL_67 pc := rfl
theorem E_67 (x0 : Nat) (x1 : Int32) (σ : ri_S) : cal 67 [.ref x0, .int x1] σ = ev 67 (0, [some (.ref x0), some (.int x1), none, none, none, none, none], []) σ := rfl
theorem H_67_36 (l0 l1 l2 l4 l5 l6 : Option Value) (st : List Value) (σ : ri_S) (x : Int32) : ev 67 (36, [l0, l1, l2, some (.int x), l4, l5, l6], st) σ = ev 67 (37, [l0, l1, l2, some (.int x), l4, l5, l6], .int x :: st) σ := ev_p ((TP_67 _).trans rfl) rfl
theorem H_67_80 (l0 l1 l2 l3 l4 l6 : Option Value) (st : List Value) (σ : ri_S) (x : Int32) : ev 67 (80, [l0, l1, l2, l3, l4, some (.int x), l6], st) σ = ev 67 (82, [l0, l1, l2, l3, l4, some (.int x), l6], .int x :: st) σ := ev_p ((TP_67 _).trans rfl) rfl
theorem I_67_0 :
  (∀ (l1 l2 l3 l4 l5 l6 : Option Value) (st : List Value) (σ : ri_S) (x : Nat), ev 67 (0, [some (.ref x), l1, l2, l3, l4, l5, l6], st) σ = ev 67 (1, [some (.ref x), l1, l2, l3, l4, l5, l6], .ref x :: st) σ) ∧
  (∀ (L : ri_L) (st : List Value) (σ : ri_S) (a : Nat), ev 67 (1, L, .ref a :: st) σ = tv_o 4 6 (σ.1 a) fun v => ev 67 (4, L, v :: st) σ) ∧
  (∀ (L : ri_L) (st : List Value) (σ : ri_S), ev 67 (4, L, st) σ = ev 67 (5, L, .int (-1) :: st) σ) ∧
  (∀ (L : ri_L) (σ : ri_S) (a0 : Nat) (a1 : Int32), ev 67 (5, L, [.int a1, .ref a0]) σ = (cal 229 [.ref a0, .int a1] σ).bind fun q => ev 67 (8, L, q.1.toList ++ []) q.2) ∧
  (∀ (l1 l2 l3 l4 l5 l6 : Option Value) (st : List Value) (σ : ri_S) (x : Nat), ev 67 (8, [some (.ref x), l1, l2, l3, l4, l5, l6], st) σ = ev 67 (9, [some (.ref x), l1, l2, l3, l4, l5, l6], .ref x :: st) σ) ∧
  (∀ (L : ri_L) (st : List Value) (σ : ri_S) (a : Nat), ev 67 (9, L, .ref a :: st) σ = tv_o 4 6 (σ.1 a) fun v => ev 67 (12, L, v :: st) σ) ∧
  (∀ (l1 l2 l3 l4 l5 l6 : Option Value) (st : List Value) (σ : ri_S) (x : Nat), ev 67 (12, [some (.ref x), l1, l2, l3, l4, l5, l6], st) σ = ev 67 (13, [some (.ref x), l1, l2, l3, l4, l5, l6], .ref x :: st) σ) ∧
  (∀ (L : ri_L) (st : List Value) (σ : ri_S) (a : Nat), ev 67 (13, L, .ref a :: st) σ = tv_o 4 9 (σ.1 a) fun v => ev 67 (16, L, v :: st) σ) ∧
  (∀ (L : ri_L) (st : List Value) (σ : ri_S), ev 67 (16, L, st) σ = ev 67 (17, L, .int 0 :: st) σ) ∧
  (∀ (L : ri_L) (σ : ri_S) (a0 : Nat) (a1 : Int32) (a2 : Int32), ev 67 (17, L, [.int a2, .int a1, .ref a0]) σ = (cal 141 [.ref a0, .int a1, .int a2] σ).bind fun q => ev 67 (20, L, q.1.toList ++ []) q.2) ∧
  (∀ (l1 l2 l3 l4 l5 l6 : Option Value) (st : List Value) (σ : ri_S) (x : Nat), ev 67 (20, [some (.ref x), l1, l2, l3, l4, l5, l6], st) σ = ev 67 (21, [some (.ref x), l1, l2, l3, l4, l5, l6], .ref x :: st) σ) ∧
  (∀ (L : ri_L) (st : List Value) (σ : ri_S) (a : Nat), ev 67 (21, L, .ref a :: st) σ = tv_o 4 7 (σ.1 a) fun v => ev 67 (24, L, v :: st) σ) ∧
  (∀ (L : ri_L) (st : List Value) (σ : ri_S), ev 67 (24, L, st) σ = ev 67 (25, L, .int 0 :: st) σ) ∧
  (∀ (l1 l2 l3 l4 l5 l6 : Option Value) (st : List Value) (σ : ri_S) (x : Nat), ev 67 (25, [some (.ref x), l1, l2, l3, l4, l5, l6], st) σ = ev 67 (26, [some (.ref x), l1, l2, l3, l4, l5, l6], .ref x :: st) σ) ∧
  (∀ (L : ri_L) (st : List Value) (σ : ri_S) (a : Nat), ev 67 (26, L, .ref a :: st) σ = tv_o 4 9 (σ.1 a) fun v => ev 67 (29, L, v :: st) σ) ∧
  (∀ (L : ri_L) (σ : ri_S) (a0 : Nat) (a1 : Int32) (a2 : Int32), ev 67 (29, L, [.int a2, .int a1, .ref a0]) σ = (cal 141 [.ref a0, .int a1, .int a2] σ).bind fun q => ev 67 (32, L, q.1.toList ++ []) q.2) ∧
  (∀ (L : ri_L) (st : List Value) (σ : ri_S), ev 67 (32, L, st) σ = ev 67 (33, L, .int 1 :: st) σ) ∧
  (∀ (l0 l1 l2 l3 l4 l5 l6 : Option Value) (st : List Value) (σ : ri_S) (x : Int32), ev 67 (33, [l0, l1, l2, l3, l4, l5, l6], .int x :: st) σ = ev 67 (34, [l0, ri_clr l1, some (.int x), l3, l4, l5, l6], st) σ) ∧
  (∀ (L : ri_L) (st : List Value) (σ : ri_S), ev 67 (34, L, st) σ = ev 67 (35, L, .int 0 :: st) σ) ∧
  (∀ (l0 l1 l2 l3 l4 l5 l6 : Option Value) (st : List Value) (σ : ri_S) (x : Int32), ev 67 (35, [l0, l1, l2, l3, l4, l5, l6], .int x :: st) σ = ev 67 (36, [l0, l1, ri_clr l2, some (.int x), l4, l5, l6], st) σ) ∧
  (∀ (l0 l1 l3 l4 l5 l6 : Option Value) (st : List Value) (σ : ri_S) (x : Int32), ev 67 (37, [l0, l1, some (.int x), l3, l4, l5, l6], st) σ = ev 67 (38, [l0, l1, some (.int x), l3, l4, l5, l6], .int x :: st) σ) ∧
  (∀ (L : ri_L) (st : List Value) (σ : ri_S) (x y : Int32), ev 67 (38, L, .int y :: .int x :: st) σ = if y ≤ x then ev 67 (171, L, st) σ else ev 67 (41, L, st) σ) ∧
  (∀ (l0 l1 l2 l4 l5 l6 : Option Value) (st : List Value) (σ : ri_S) (x : Int32), ev 67 (41, [l0, l1, l2, some (.int x), l4, l5, l6], st) σ = ev 67 (42, [l0, l1, l2, some (.int x), l4, l5, l6], .int x :: st) σ) ∧
  (∀ (L : ri_L) (st : List Value) (σ : ri_S), ev 67 (42, L, st) σ = ev 67 (45, L, .int 1875 :: st) σ) ∧
  (∀ (L : ri_L) (st : List Value) (σ : ri_S) (x y : Int32), ev 67 (45, L, .int y :: .int x :: st) σ = if y ≤ x then ev 67 (171, L, st) σ else ev 67 (48, L, st) σ) ∧
  (∀ (l1 l2 l3 l4 l5 l6 : Option Value) (st : List Value) (σ : ri_S) (x : Nat), ev 67 (48, [some (.ref x), l1, l2, l3, l4, l5, l6], st) σ = ev 67 (49, [some (.ref x), l1, l2, l3, l4, l5, l6], .ref x :: st) σ) ∧
  (∀ (L : ri_L) (st : List Value) (σ : ri_S) (a : Nat), ev 67 (49, L, .ref a :: st) σ = tv_o 4 7 (σ.1 a) fun v => ev 67 (52, L, v :: st) σ) ∧
  (∀ (l0 l1 l2 l4 l5 l6 : Option Value) (st : List Value) (σ : ri_S) (x : Int32), ev 67 (52, [l0, l1, l2, some (.int x), l4, l5, l6], st) σ = ev 67 (53, [l0, l1, l2, some (.int x), l4, l5, l6], .int x :: st) σ) ∧
  (∀ (L : ri_L) (σ : ri_S) (a0 : Nat) (a1 : Int32), ev 67 (53, L, [.int a1, .ref a0]) σ = (cal 140 [.ref a0, .int a1] σ).bind fun q => ev 67 (56, L, q.1.toList ++ []) q.2) ∧
  (∀ (l0 l1 l2 l3 l4 l5 l6 : Option Value) (st : List Value) (σ : ri_S) (x : Int32), ev 67 (56, [l0, l1, l2, l3, l4, l5, l6], .int x :: st) σ = ev 67 (58, [l0, l1, l2, ri_clr l3, some (.int x), l5, l6], st) σ) ∧
  (∀ (l0 l1 l2 l3 l5 l6 : Option Value) (st : List Value) (σ : ri_S) (x : Int32), ev 67 (58, [l0, l1, l2, l3, some (.int x), l5, l6], st) σ = ev 67 (60, [l0, l1, l2, l3, some (.int x), l5, l6], .int x :: st) σ) ∧
  (∀ (L : ri_L) (st : List Value) (σ : ri_S), ev 67 (60, L, st) σ = ev 67 (62, L, .int 15 :: st) σ) ∧
  (∀ (L : ri_L) (st : List Value) (σ : ri_S) (x y : Int32), ev 67 (62, L, .int y :: .int x :: st) σ = if y = 0 then none else ev 67 (63, L, .int (x - x / y * y) :: st) σ) ∧
  (∀ (l0 l2 l3 l4 l5 l6 : Option Value) (st : List Value) (σ : ri_S) (x : Int32), ev 67 (63, [l0, some (.int x), l2, l3, l4, l5, l6], st) σ = ev 67 (64, [l0, some (.int x), l2, l3, l4, l5, l6], .int x :: st) σ) ∧
  (∀ (L : ri_L) (st : List Value) (σ : ri_S) (x y : Int32), ev 67 (64, L, .int y :: .int x :: st) σ = if ¬ x = y then ev 67 (77, L, st) σ else ev 67 (67, L, st) σ) ∧
  (∀ (l1 l2 l3 l4 l5 l6 : Option Value) (st : List Value) (σ : ri_S) (x : Nat), ev 67 (67, [some (.ref x), l1, l2, l3, l4, l5, l6], st) σ = ev 67 (68, [some (.ref x), l1, l2, l3, l4, l5, l6], .ref x :: st) σ) ∧
  (∀ (L : ri_L) (st : List Value) (σ : ri_S) (a : Nat), ev 67 (68, L, .ref a :: st) σ = tv_o 4 6 (σ.1 a) fun v => ev 67 (71, L, v :: st) σ) ∧
  (∀ (l0 l1 l2 l3 l5 l6 : Option Value) (st : List Value) (σ : ri_S) (x : Int32), ev 67 (71, [l0, l1, l2, l3, some (.int x), l5, l6], st) σ = ev 67 (73, [l0, l1, l2, l3, some (.int x), l5, l6], .int x :: st) σ) ∧
  (∀ (L : ri_L) (σ : ri_S) (a0 : Nat) (a1 : Int32), ev 67 (73, L, [.int a1, .ref a0]) σ = (cal 140 [.ref a0, .int a1] σ).bind fun q => ev 67 (76, L, q.1.toList ++ []) q.2) ∧
  (∀ (L : ri_L) (σ : ri_S) (x : Int32), ev 67 (76, L, [.int x]) σ = some (some (.int x), σ)) :=
  ⟨fun l1 l2 l3 l4 l5 l6 st σ x => ev_p ((TP_67 _).trans rfl) rfl,
   fun L st σ a => ev_getf ((TP_67 _).trans rfl),
   fun L st σ => ev_p ((TP_67 _).trans rfl) rfl,
   fun L σ a0 a1 => ev_call ((TP_67 _).trans rfl) rfl rfl rfl rfl,
   fun l1 l2 l3 l4 l5 l6 st σ x => ev_p ((TP_67 _).trans rfl) rfl,
   fun L st σ a => ev_getf ((TP_67 _).trans rfl),
   fun l1 l2 l3 l4 l5 l6 st σ x => ev_p ((TP_67 _).trans rfl) rfl,
   fun L st σ a => ev_getf ((TP_67 _).trans rfl),
   fun L st σ => ev_p ((TP_67 _).trans rfl) rfl,
   fun L σ a0 a1 a2 => ev_call ((TP_67 _).trans rfl) rfl rfl rfl rfl,
   fun l1 l2 l3 l4 l5 l6 st σ x => ev_p ((TP_67 _).trans rfl) rfl,
   fun L st σ a => ev_getf ((TP_67 _).trans rfl),
   fun L st σ => ev_p ((TP_67 _).trans rfl) rfl,
   fun l1 l2 l3 l4 l5 l6 st σ x => ev_p ((TP_67 _).trans rfl) rfl,
   fun L st σ a => ev_getf ((TP_67 _).trans rfl),
   fun L σ a0 a1 a2 => ev_call ((TP_67 _).trans rfl) rfl rfl rfl rfl,
   fun L st σ => ev_p ((TP_67 _).trans rfl) rfl,
   fun l0 l1 l2 l3 l4 l5 l6 st σ x => ev_p ((TP_67 _).trans rfl) rfl,
   fun L st σ => ev_p ((TP_67 _).trans rfl) rfl,
   fun l0 l1 l2 l3 l4 l5 l6 st σ x => ev_p ((TP_67 _).trans rfl) rfl,
   fun l0 l1 l3 l4 l5 l6 st σ x => ev_p ((TP_67 _).trans rfl) rfl,
   fun L st σ x y => ev_b ((TP_67 _).trans rfl) rfl,
   fun l0 l1 l2 l4 l5 l6 st σ x => ev_p ((TP_67 _).trans rfl) rfl,
   fun L st σ => ev_p ((TP_67 _).trans rfl) rfl,
   fun L st σ x y => ev_b ((TP_67 _).trans rfl) rfl,
   fun l1 l2 l3 l4 l5 l6 st σ x => ev_p ((TP_67 _).trans rfl) rfl,
   fun L st σ a => ev_getf ((TP_67 _).trans rfl),
   fun l0 l1 l2 l4 l5 l6 st σ x => ev_p ((TP_67 _).trans rfl) rfl,
   fun L σ a0 a1 => ev_call ((TP_67 _).trans rfl) rfl rfl rfl rfl,
   fun l0 l1 l2 l3 l4 l5 l6 st σ x => ev_p ((TP_67 _).trans rfl) rfl,
   fun l0 l1 l2 l3 l5 l6 st σ x => ev_p ((TP_67 _).trans rfl) rfl,
   fun L st σ => ev_p ((TP_67 _).trans rfl) rfl,
   fun L st σ x y => ev_d ((TP_67 _).trans rfl) rfl,
   fun l0 l2 l3 l4 l5 l6 st σ x => ev_p ((TP_67 _).trans rfl) rfl,
   fun L st σ x y => ev_b ((TP_67 _).trans rfl) rfl,
   fun l1 l2 l3 l4 l5 l6 st σ x => ev_p ((TP_67 _).trans rfl) rfl,
   fun L st σ a => ev_getf ((TP_67 _).trans rfl),
   fun l0 l1 l2 l3 l5 l6 st σ x => ev_p ((TP_67 _).trans rfl) rfl,
   fun L σ a0 a1 => ev_call ((TP_67 _).trans rfl) rfl rfl rfl rfl,
   fun L σ x => ev_r ((TP_67 _).trans rfl) rfl⟩
theorem I_67_1 :
  (∀ (L : ri_L) (st : List Value) (σ : ri_S), ev 67 (77, L, st) σ = ev 67 (78, L, .int 0 :: st) σ) ∧
  (∀ (l0 l1 l2 l3 l4 l5 l6 : Option Value) (st : List Value) (σ : ri_S) (x : Int32), ev 67 (78, [l0, l1, l2, l3, l4, l5, l6], .int x :: st) σ = ev 67 (80, [l0, l1, l2, l3, ri_clr l4, some (.int x), l6], st) σ) ∧
  (∀ (l1 l2 l3 l4 l5 l6 : Option Value) (st : List Value) (σ : ri_S) (x : Nat), ev 67 (82, [some (.ref x), l1, l2, l3, l4, l5, l6], st) σ = ev 67 (83, [some (.ref x), l1, l2, l3, l4, l5, l6], .ref x :: st) σ) ∧
  (∀ (L : ri_L) (st : List Value) (σ : ri_S) (a : Nat), ev 67 (83, L, .ref a :: st) σ = tv_o 4 5 (σ.1 a) fun v => ev 67 (86, L, v :: st) σ) ∧
  (∀ (l0 l1 l2 l3 l5 l6 : Option Value) (st : List Value) (σ : ri_S) (x : Int32), ev 67 (86, [l0, l1, l2, l3, some (.int x), l5, l6], st) σ = ev 67 (88, [l0, l1, l2, l3, some (.int x), l5, l6], .int x :: st) σ) ∧
  (∀ (L : ri_L) (st : List Value) (σ : ri_S), ev 67 (88, L, st) σ = ev 67 (90, L, .int 15 :: st) σ) ∧
  (∀ (L : ri_L) (st : List Value) (σ : ri_S) (x y : Int32), ev 67 (90, L, .int y :: .int x :: st) σ = if y = 0 then none else ev 67 (91, L, .int (x - x / y * y) :: st) σ) ∧
  (∀ (L : ri_L) (σ : ri_S) (a0 : Nat) (a1 : Int32) (s0 : Value), ev 67 (91, L, [.int a1, .ref a0, s0]) σ = (cal 140 [.ref a0, .int a1] σ).bind fun q => ev 67 (94, L, q.1.toList ++ [s0]) q.2) ∧
  (∀ (L : ri_L) (st : List Value) (σ : ri_S) (x y : Int32), ev 67 (94, L, .int y :: .int x :: st) σ = if y ≤ x then ev 67 (165, L, st) σ else ev 67 (97, L, st) σ) ∧
  (∀ (l1 l2 l3 l4 l5 l6 : Option Value) (st : List Value) (σ : ri_S) (x : Nat), ev 67 (97, [some (.ref x), l1, l2, l3, l4, l5, l6], st) σ = ev 67 (98, [some (.ref x), l1, l2, l3, l4, l5, l6], .ref x :: st) σ) ∧
  (∀ (l0 l1 l2 l3 l5 l6 : Option Value) (st : List Value) (σ : ri_S) (x : Int32), ev 67 (98, [l0, l1, l2, l3, some (.int x), l5, l6], st) σ = ev 67 (100, [l0, l1, l2, l3, some (.int x), l5, l6], .int x :: st) σ) ∧
  (∀ (l0 l1 l2 l3 l4 l6 : Option Value) (st : List Value) (σ : ri_S) (x : Int32), ev 67 (100, [l0, l1, l2, l3, l4, some (.int x), l6], st) σ = ev 67 (102, [l0, l1, l2, l3, l4, some (.int x), l6], .int x :: st) σ) ∧
  (∀ (L : ri_L) (σ : ri_S) (a0 : Nat) (a1 : Int32) (a2 : Int32), ev 67 (102, L, [.int a2, .int a1, .ref a0]) σ = tv_k 4 (σ.1 a0) ((cal 66 [.ref a0, .int a1, .int a2] σ).bind fun q => ev 67 (105, L, q.1.toList ++ []) q.2)) ∧
  (∀ (l0 l1 l2 l3 l4 l5 l6 : Option Value) (st : List Value) (σ : ri_S) (x : Int32), ev 67 (105, [l0, l1, l2, l3, l4, l5, l6], .int x :: st) σ = ev 67 (107, [l0, l1, l2, l3, l4, ri_clr l5, some (.int x)], st) σ) ∧
  (∀ (l0 l1 l2 l3 l4 l5 : Option Value) (st : List Value) (σ : ri_S) (x : Int32), ev 67 (107, [l0, l1, l2, l3, l4, l5, some (.int x)], st) σ = ev 67 (109, [l0, l1, l2, l3, l4, l5, some (.int x)], .int x :: st) σ) ∧
  (∀ (L : ri_L) (st : List Value) (σ : ri_S), ev 67 (109, L, st) σ = ev 67 (110, L, .int (-1) :: st) σ) ∧
  (∀ (L : ri_L) (st : List Value) (σ : ri_S) (x y : Int32), ev 67 (110, L, .int y :: .int x :: st) σ = if x = y then ev 67 (159, L, st) σ else ev 67 (113, L, st) σ) ∧
  (∀ (l1 l2 l3 l4 l5 l6 : Option Value) (st : List Value) (σ : ri_S) (x : Nat), ev 67 (113, [some (.ref x), l1, l2, l3, l4, l5, l6], st) σ = ev 67 (114, [some (.ref x), l1, l2, l3, l4, l5, l6], .ref x :: st) σ) ∧
  (∀ (L : ri_L) (st : List Value) (σ : ri_S) (a : Nat), ev 67 (114, L, .ref a :: st) σ = tv_o 4 6 (σ.1 a) fun v => ev 67 (117, L, v :: st) σ) ∧
  (∀ (l0 l1 l2 l3 l4 l5 : Option Value) (st : List Value) (σ : ri_S) (x : Int32), ev 67 (117, [l0, l1, l2, l3, l4, l5, some (.int x)], st) σ = ev 67 (119, [l0, l1, l2, l3, l4, l5, some (.int x)], .int x :: st) σ) ∧
  (∀ (L : ri_L) (σ : ri_S) (a0 : Nat) (a1 : Int32), ev 67 (119, L, [.int a1, .ref a0]) σ = (cal 140 [.ref a0, .int a1] σ).bind fun q => ev 67 (122, L, q.1.toList ++ []) q.2) ∧
  (∀ (L : ri_L) (st : List Value) (σ : ri_S), ev 67 (122, L, st) σ = ev 67 (123, L, .int (-1) :: st) σ) ∧
  (∀ (L : ri_L) (st : List Value) (σ : ri_S) (x y : Int32), ev 67 (123, L, .int y :: .int x :: st) σ = if ¬ x = y then ev 67 (159, L, st) σ else ev 67 (126, L, st) σ) ∧
  (∀ (l1 l2 l3 l4 l5 l6 : Option Value) (st : List Value) (σ : ri_S) (x : Nat), ev 67 (126, [some (.ref x), l1, l2, l3, l4, l5, l6], st) σ = ev 67 (127, [some (.ref x), l1, l2, l3, l4, l5, l6], .ref x :: st) σ) ∧
  (∀ (L : ri_L) (st : List Value) (σ : ri_S) (a : Nat), ev 67 (127, L, .ref a :: st) σ = tv_o 4 6 (σ.1 a) fun v => ev 67 (130, L, v :: st) σ) ∧
  (∀ (l0 l1 l2 l3 l4 l5 : Option Value) (st : List Value) (σ : ri_S) (x : Int32), ev 67 (130, [l0, l1, l2, l3, l4, l5, some (.int x)], st) σ = ev 67 (132, [l0, l1, l2, l3, l4, l5, some (.int x)], .int x :: st) σ) ∧
  (∀ (l1 l2 l3 l4 l5 l6 : Option Value) (st : List Value) (σ : ri_S) (x : Nat), ev 67 (132, [some (.ref x), l1, l2, l3, l4, l5, l6], st) σ = ev 67 (133, [some (.ref x), l1, l2, l3, l4, l5, l6], .ref x :: st) σ) ∧
  (∀ (L : ri_L) (st : List Value) (σ : ri_S) (a : Nat), ev 67 (133, L, .ref a :: st) σ = tv_o 4 6 (σ.1 a) fun v => ev 67 (136, L, v :: st) σ) ∧
  (∀ (l0 l1 l2 l3 l5 l6 : Option Value) (st : List Value) (σ : ri_S) (x : Int32), ev 67 (136, [l0, l1, l2, l3, some (.int x), l5, l6], st) σ = ev 67 (138, [l0, l1, l2, l3, some (.int x), l5, l6], .int x :: st) σ) ∧
  (∀ (L : ri_L) (σ : ri_S) (a0 : Nat) (a1 : Int32) (s0 s1 : Value), ev 67 (138, L, [.int a1, .ref a0, s0, s1]) σ = (cal 140 [.ref a0, .int a1] σ).bind fun q => ev 67 (141, L, q.1.toList ++ [s0, s1]) q.2) ∧
  (∀ (L : ri_L) (st : List Value) (σ : ri_S), ev 67 (141, L, st) σ = ev 67 (142, L, .int 1 :: st) σ) ∧
  (∀ (L : ri_L) (st : List Value) (σ : ri_S) (x y : Int32), ev 67 (142, L, .int y :: .int x :: st) σ = ev 67 (143, L, .int (x + y) :: st) σ) ∧
  (∀ (L : ri_L) (σ : ri_S) (a0 : Nat) (a1 : Int32) (a2 : Int32), ev 67 (143, L, [.int a2, .int a1, .ref a0]) σ = (cal 141 [.ref a0, .int a1, .int a2] σ).bind fun q => ev 67 (146, L, q.1.toList ++ []) q.2) ∧
  (∀ (l1 l2 l3 l4 l5 l6 : Option Value) (st : List Value) (σ : ri_S) (x : Nat), ev 67 (146, [some (.ref x), l1, l2, l3, l4, l5, l6], st) σ = ev 67 (147, [some (.ref x), l1, l2, l3, l4, l5, l6], .ref x :: st) σ) ∧
  (∀ (L : ri_L) (st : List Value) (σ : ri_S) (a : Nat), ev 67 (147, L, .ref a :: st) σ = tv_o 4 7 (σ.1 a) fun v => ev 67 (150, L, v :: st) σ) ∧
  (∀ (l0 l1 l3 l4 l5 l6 : Option Value) (st : List Value) (σ : ri_S) (x : Int32), ev 67 (150, [l0, l1, some (.int x), l3, l4, l5, l6], st) σ = ev 67 (151, [l0, l1, some (.int x), l3, l4, l5, l6], .int x :: st) σ) ∧
  (∀ (l0 l1 l2 l3 l4 l5 : Option Value) (st : List Value) (σ : ri_S) (x : Int32), ev 67 (151, [l0, l1, l2, l3, l4, l5, some (.int x)], st) σ = ev 67 (153, [l0, l1, l2, l3, l4, l5, some (.int x)], .int x :: st) σ) ∧
  (∀ (L : ri_L) (σ : ri_S) (a0 : Nat) (a1 : Int32) (a2 : Int32), ev 67 (153, L, [.int a2, .int a1, .ref a0]) σ = (cal 141 [.ref a0, .int a1, .int a2] σ).bind fun q => ev 67 (156, L, q.1.toList ++ []) q.2) ∧
  (∀ (l0 l1 l3 l4 l5 l6 : Option Value) (st : List Value) (σ : ri_S) (x : Int32), ev 67 (156, [l0, l1, some (.int x), l3, l4, l5, l6], st) σ = ev 67 (159, [l0, ri_clr l1, some (.int (x + 1)), l3, l4, l5, l6], st) σ) ∧
  (∀ (l0 l1 l2 l3 l4 l6 : Option Value) (st : List Value) (σ : ri_S) (x : Int32), ev 67 (159, [l0, l1, l2, l3, l4, some (.int x), l6], st) σ = ev 67 (162, [l0, l1, l2, l3, ri_clr l4, some (.int (x + 1)), l6], st) σ) :=
  ⟨fun L st σ => ev_p ((TP_67 _).trans rfl) rfl,
   fun l0 l1 l2 l3 l4 l5 l6 st σ x => ev_p ((TP_67 _).trans rfl) rfl,
   fun l1 l2 l3 l4 l5 l6 st σ x => ev_p ((TP_67 _).trans rfl) rfl,
   fun L st σ a => ev_getf ((TP_67 _).trans rfl),
   fun l0 l1 l2 l3 l5 l6 st σ x => ev_p ((TP_67 _).trans rfl) rfl,
   fun L st σ => ev_p ((TP_67 _).trans rfl) rfl,
   fun L st σ x y => ev_d ((TP_67 _).trans rfl) rfl,
   fun L σ a0 a1 s0 => ev_call ((TP_67 _).trans rfl) rfl rfl rfl rfl,
   fun L st σ x y => ev_b ((TP_67 _).trans rfl) rfl,
   fun l1 l2 l3 l4 l5 l6 st σ x => ev_p ((TP_67 _).trans rfl) rfl,
   fun l0 l1 l2 l3 l5 l6 st σ x => ev_p ((TP_67 _).trans rfl) rfl,
   fun l0 l1 l2 l3 l4 l6 st σ x => ev_p ((TP_67 _).trans rfl) rfl,
   fun L σ a0 a1 a2 => ev_callv ((TP_67 _).trans rfl) rfl rfl rfl rfl,
   fun l0 l1 l2 l3 l4 l5 l6 st σ x => ev_p ((TP_67 _).trans rfl) rfl,
   fun l0 l1 l2 l3 l4 l5 st σ x => ev_p ((TP_67 _).trans rfl) rfl,
   fun L st σ => ev_p ((TP_67 _).trans rfl) rfl,
   fun L st σ x y => ev_b ((TP_67 _).trans rfl) rfl,
   fun l1 l2 l3 l4 l5 l6 st σ x => ev_p ((TP_67 _).trans rfl) rfl,
   fun L st σ a => ev_getf ((TP_67 _).trans rfl),
   fun l0 l1 l2 l3 l4 l5 st σ x => ev_p ((TP_67 _).trans rfl) rfl,
   fun L σ a0 a1 => ev_call ((TP_67 _).trans rfl) rfl rfl rfl rfl,
   fun L st σ => ev_p ((TP_67 _).trans rfl) rfl,
   fun L st σ x y => ev_b ((TP_67 _).trans rfl) rfl,
   fun l1 l2 l3 l4 l5 l6 st σ x => ev_p ((TP_67 _).trans rfl) rfl,
   fun L st σ a => ev_getf ((TP_67 _).trans rfl),
   fun l0 l1 l2 l3 l4 l5 st σ x => ev_p ((TP_67 _).trans rfl) rfl,
   fun l1 l2 l3 l4 l5 l6 st σ x => ev_p ((TP_67 _).trans rfl) rfl,
   fun L st σ a => ev_getf ((TP_67 _).trans rfl),
   fun l0 l1 l2 l3 l5 l6 st σ x => ev_p ((TP_67 _).trans rfl) rfl,
   fun L σ a0 a1 s0 s1 => ev_call ((TP_67 _).trans rfl) rfl rfl rfl rfl,
   fun L st σ => ev_p ((TP_67 _).trans rfl) rfl,
   fun L st σ x y => ev_p ((TP_67 _).trans rfl) rfl,
   fun L σ a0 a1 a2 => ev_call ((TP_67 _).trans rfl) rfl rfl rfl rfl,
   fun l1 l2 l3 l4 l5 l6 st σ x => ev_p ((TP_67 _).trans rfl) rfl,
   fun L st σ a => ev_getf ((TP_67 _).trans rfl),
   fun l0 l1 l3 l4 l5 l6 st σ x => ev_p ((TP_67 _).trans rfl) rfl,
   fun l0 l1 l2 l3 l4 l5 st σ x => ev_p ((TP_67 _).trans rfl) rfl,
   fun L σ a0 a1 a2 => ev_call ((TP_67 _).trans rfl) rfl rfl rfl rfl,
   fun l0 l1 l3 l4 l5 l6 st σ x => ev_p ((TP_67 _).trans rfl) rfl,
   fun l0 l1 l2 l3 l4 l6 st σ x => ev_p ((TP_67 _).trans rfl) rfl⟩
theorem I_67_2 :
  (∀ (L : ri_L) (st : List Value) (σ : ri_S), ev 67 (162, L, st) σ = ev 67 (80, L, st) σ) ∧
  (∀ (l0 l1 l2 l4 l5 l6 : Option Value) (st : List Value) (σ : ri_S) (x : Int32), ev 67 (165, [l0, l1, l2, some (.int x), l4, l5, l6], st) σ = ev 67 (168, [l0, l1, ri_clr l2, some (.int (x + 1)), l4, l5, l6], st) σ) ∧
  (∀ (L : ri_L) (st : List Value) (σ : ri_S), ev 67 (168, L, st) σ = ev 67 (36, L, st) σ) ∧
  (∀ (L : ri_L) (st : List Value) (σ : ri_S), ev 67 (171, L, st) σ = ev 67 (172, L, .int (-1) :: st) σ) ∧
  (∀ (L : ri_L) (σ : ri_S) (x : Int32), ev 67 (172, L, [.int x]) σ = some (some (.int x), σ)) :=
  ⟨fun L st σ => ev_p ((TP_67 _).trans rfl) rfl,
   fun l0 l1 l2 l4 l5 l6 st σ x => ev_p ((TP_67 _).trans rfl) rfl,
   fun L st σ => ev_p ((TP_67 _).trans rfl) rfl,
   fun L st σ => ev_p ((TP_67 _).trans rfl) rfl,
   fun L σ x => ev_r ((TP_67 _).trans rfl) rfl⟩
theorem TP_68 (pc : Nat) : TT 68 pc = ri_find TL_68 pc := rfl
theorem E_68 (x0 : Nat) (x1 : Int32) (σ : ri_S) : cal 68 [.ref x0, .int x1] σ = ev 68 (0, [some (.ref x0), some (.int x1), none, none, none], []) σ := rfl
theorem H_68_10 (l0 l1 l2 l4 : Option Value) (st : List Value) (σ : ri_S) (x : Int32) : ev 68 (10, [l0, l1, l2, some (.int x), l4], st) σ = ev 68 (11, [l0, l1, l2, some (.int x), l4], .int x :: st) σ := ev_p ((TP_68 _).trans rfl) rfl
theorem I_68 :
  (∀ (l1 l2 l3 l4 : Option Value) (st : List Value) (σ : ri_S) (x : Nat), ev 68 (0, [some (.ref x), l1, l2, l3, l4], st) σ = ev 68 (1, [some (.ref x), l1, l2, l3, l4], .ref x :: st) σ) ∧
  (∀ (L : ri_L) (st : List Value) (σ : ri_S), ev 68 (1, L, st) σ = ev 68 (2, L, .int (-1) :: st) σ) ∧
  (∀ (L : ri_L) (σ : ri_S) (a0 : Nat) (a1 : Int32), ev 68 (2, L, [.int a1, .ref a0]) σ = tv_k 4 (σ.1 a0) ((cal 67 [.ref a0, .int a1] σ).bind fun q => ev 68 (5, L, q.1.toList ++ []) q.2)) ∧
  (∀ (L : ri_L) (st : List Value) (σ : ri_S) (x : Int32), ev 68 (5, L, .int x :: st) σ = ev 68 (6, L, st) σ) ∧
  (∀ (L : ri_L) (st : List Value) (σ : ri_S), ev 68 (6, L, st) σ = ev 68 (7, L, .int 0 :: st) σ) ∧
  (∀ (l0 l1 l2 l3 l4 : Option Value) (st : List Value) (σ : ri_S) (x : Int32), ev 68 (7, [l0, l1, l2, l3, l4], .int x :: st) σ = ev 68 (8, [l0, ri_clr l1, some (.int x), l3, l4], st) σ) ∧
  (∀ (L : ri_L) (st : List Value) (σ : ri_S), ev 68 (8, L, st) σ = ev 68 (9, L, .int 0 :: st) σ) ∧
  (∀ (l0 l1 l2 l3 l4 : Option Value) (st : List Value) (σ : ri_S) (x : Int32), ev 68 (9, [l0, l1, l2, l3, l4], .int x :: st) σ = ev 68 (10, [l0, l1, ri_clr l2, some (.int x), l4], st) σ) ∧
  (∀ (L : ri_L) (st : List Value) (σ : ri_S), ev 68 (11, L, st) σ = ev 68 (14, L, .int 1875 :: st) σ) ∧
  (∀ (L : ri_L) (st : List Value) (σ : ri_S) (x y : Int32), ev 68 (14, L, .int y :: .int x :: st) σ = if y ≤ x then ev 68 (58, L, st) σ else ev 68 (17, L, st) σ) ∧
  (∀ (l0 l1 l2 l4 : Option Value) (st : List Value) (σ : ri_S) (x : Int32), ev 68 (17, [l0, l1, l2, some (.int x), l4], st) σ = ev 68 (18, [l0, l1, l2, some (.int x), l4], .int x :: st) σ) ∧
  (∀ (L : ri_L) (st : List Value) (σ : ri_S), ev 68 (18, L, st) σ = ev 68 (20, L, .int 15 :: st) σ) ∧
  (∀ (L : ri_L) (st : List Value) (σ : ri_S) (x y : Int32), ev 68 (20, L, .int y :: .int x :: st) σ = if y = 0 then none else ev 68 (21, L, .int (x - x / y * y) :: st) σ) ∧
  (∀ (l0 l1 l2 l3 l4 : Option Value) (st : List Value) (σ : ri_S) (x : Int32), ev 68 (21, [l0, l1, l2, l3, l4], .int x :: st) σ = ev 68 (23, [l0, l1, l2, ri_clr l3, some (.int x)], st) σ) ∧
  (∀ (l1 l2 l3 l4 : Option Value) (st : List Value) (σ : ri_S) (x : Nat), ev 68 (23, [some (.ref x), l1, l2, l3, l4], st) σ = ev 68 (24, [some (.ref x), l1, l2, l3, l4], .ref x :: st) σ) ∧
  (∀ (L : ri_L) (st : List Value) (σ : ri_S) (a : Nat), ev 68 (24, L, .ref a :: st) σ = tv_o 4 6 (σ.1 a) fun v => ev 68 (27, L, v :: st) σ) ∧
  (∀ (l0 l1 l2 l4 : Option Value) (st : List Value) (σ : ri_S) (x : Int32), ev 68 (27, [l0, l1, l2, some (.int x), l4], st) σ = ev 68 (28, [l0, l1, l2, some (.int x), l4], .int x :: st) σ) ∧
  (∀ (L : ri_L) (σ : ri_S) (a0 : Nat) (a1 : Int32), ev 68 (28, L, [.int a1, .ref a0]) σ = (cal 140 [.ref a0, .int a1] σ).bind fun q => ev 68 (31, L, q.1.toList ++ []) q.2) ∧
  (∀ (L : ri_L) (st : List Value) (σ : ri_S), ev 68 (31, L, st) σ = ev 68 (32, L, .int (-1) :: st) σ) ∧
  (∀ (L : ri_L) (st : List Value) (σ : ri_S) (x y : Int32), ev 68 (32, L, .int y :: .int x :: st) σ = if x = y then ev 68 (52, L, st) σ else ev 68 (35, L, st) σ) ∧
  (∀ (l0 l1 l2 l3 : Option Value) (st : List Value) (σ : ri_S) (x : Int32), ev 68 (35, [l0, l1, l2, l3, some (.int x)], st) σ = ev 68 (37, [l0, l1, l2, l3, some (.int x)], .int x :: st) σ) ∧
  (∀ (L : ri_L) (st : List Value) (σ : ri_S), ev 68 (37, L, st) σ = ev 68 (38, L, .int 5 :: st) σ) ∧
  (∀ (L : ri_L) (st : List Value) (σ : ri_S) (x y : Int32), ev 68 (38, L, .int y :: .int x :: st) σ = if y = 0 then none else ev 68 (39, L, .int (x / y) :: st) σ) ∧
  (∀ (l0 l2 l3 l4 : Option Value) (st : List Value) (σ : ri_S) (x : Int32), ev 68 (39, [l0, some (.int x), l2, l3, l4], st) σ = ev 68 (40, [l0, some (.int x), l2, l3, l4], .int x :: st) σ) ∧
  (∀ (L : ri_L) (st : List Value) (σ : ri_S) (x y : Int32), ev 68 (40, L, .int y :: .int x :: st) σ = if ¬ x = y then ev 68 (52, L, st) σ else ev 68 (43, L, st) σ) ∧
  (∀ (l0 l1 l3 l4 : Option Value) (st : List Value) (σ : ri_S) (x : Int32), ev 68 (43, [l0, l1, some (.int x), l3, l4], st) σ = ev 68 (44, [l0, l1, some (.int x), l3, l4], .int x :: st) σ) ∧
  (∀ (L : ri_L) (st : List Value) (σ : ri_S), ev 68 (44, L, st) σ = ev 68 (45, L, .int 1 :: st) σ) ∧
  (∀ (l0 l1 l2 l3 : Option Value) (st : List Value) (σ : ri_S) (x : Int32), ev 68 (45, [l0, l1, l2, l3, some (.int x)], st) σ = ev 68 (47, [l0, l1, l2, l3, some (.int x)], .int x :: st) σ) ∧
  (∀ (L : ri_L) (st : List Value) (σ : ri_S), ev 68 (47, L, st) σ = ev 68 (48, L, .int 5 :: st) σ) ∧
  (∀ (L : ri_L) (st : List Value) (σ : ri_S) (x y : Int32), ev 68 (48, L, .int y :: .int x :: st) σ = if y = 0 then none else ev 68 (49, L, .int (x - x / y * y) :: st) σ) ∧
  (∀ (L : ri_L) (st : List Value) (σ : ri_S) (x y : Int32), ev 68 (49, L, .int y :: .int x :: st) σ = ev 68 (50, L, .int (x <<< (y &&& 31)) :: st) σ) ∧
  (∀ (L : ri_L) (st : List Value) (σ : ri_S) (x y : Int32), ev 68 (50, L, .int y :: .int x :: st) σ = ev 68 (51, L, .int (x ||| y) :: st) σ) ∧
  (∀ (l0 l1 l2 l3 l4 : Option Value) (st : List Value) (σ : ri_S) (x : Int32), ev 68 (51, [l0, l1, l2, l3, l4], .int x :: st) σ = ev 68 (52, [l0, ri_clr l1, some (.int x), l3, l4], st) σ) ∧
  (∀ (l0 l1 l2 l4 : Option Value) (st : List Value) (σ : ri_S) (x : Int32), ev 68 (52, [l0, l1, l2, some (.int x), l4], st) σ = ev 68 (55, [l0, l1, ri_clr l2, some (.int (x + 1)), l4], st) σ) ∧
  (∀ (L : ri_L) (st : List Value) (σ : ri_S), ev 68 (55, L, st) σ = ev 68 (10, L, st) σ) ∧
  (∀ (l0 l1 l3 l4 : Option Value) (st : List Value) (σ : ri_S) (x : Int32), ev 68 (58, [l0, l1, some (.int x), l3, l4], st) σ = ev 68 (59, [l0, l1, some (.int x), l3, l4], .int x :: st) σ) ∧
  (∀ (L : ri_L) (σ : ri_S) (x : Int32), ev 68 (59, L, [.int x]) σ = some (some (.int x), σ)) :=
  ⟨fun l1 l2 l3 l4 st σ x => ev_p ((TP_68 _).trans rfl) rfl,
   fun L st σ => ev_p ((TP_68 _).trans rfl) rfl,
   fun L σ a0 a1 => ev_callv ((TP_68 _).trans rfl) rfl rfl rfl rfl,
   fun L st σ x => ev_p ((TP_68 _).trans rfl) rfl,
   fun L st σ => ev_p ((TP_68 _).trans rfl) rfl,
   fun l0 l1 l2 l3 l4 st σ x => ev_p ((TP_68 _).trans rfl) rfl,
   fun L st σ => ev_p ((TP_68 _).trans rfl) rfl,
   fun l0 l1 l2 l3 l4 st σ x => ev_p ((TP_68 _).trans rfl) rfl,
   fun L st σ => ev_p ((TP_68 _).trans rfl) rfl,
   fun L st σ x y => ev_b ((TP_68 _).trans rfl) rfl,
   fun l0 l1 l2 l4 st σ x => ev_p ((TP_68 _).trans rfl) rfl,
   fun L st σ => ev_p ((TP_68 _).trans rfl) rfl,
   fun L st σ x y => ev_d ((TP_68 _).trans rfl) rfl,
   fun l0 l1 l2 l3 l4 st σ x => ev_p ((TP_68 _).trans rfl) rfl,
   fun l1 l2 l3 l4 st σ x => ev_p ((TP_68 _).trans rfl) rfl,
   fun L st σ a => ev_getf ((TP_68 _).trans rfl),
   fun l0 l1 l2 l4 st σ x => ev_p ((TP_68 _).trans rfl) rfl,
   fun L σ a0 a1 => ev_call ((TP_68 _).trans rfl) rfl rfl rfl rfl,
   fun L st σ => ev_p ((TP_68 _).trans rfl) rfl,
   fun L st σ x y => ev_b ((TP_68 _).trans rfl) rfl,
   fun l0 l1 l2 l3 st σ x => ev_p ((TP_68 _).trans rfl) rfl,
   fun L st σ => ev_p ((TP_68 _).trans rfl) rfl,
   fun L st σ x y => ev_d ((TP_68 _).trans rfl) rfl,
   fun l0 l2 l3 l4 st σ x => ev_p ((TP_68 _).trans rfl) rfl,
   fun L st σ x y => ev_b ((TP_68 _).trans rfl) rfl,
   fun l0 l1 l3 l4 st σ x => ev_p ((TP_68 _).trans rfl) rfl,
   fun L st σ => ev_p ((TP_68 _).trans rfl) rfl,
   fun l0 l1 l2 l3 st σ x => ev_p ((TP_68 _).trans rfl) rfl,
   fun L st σ => ev_p ((TP_68 _).trans rfl) rfl,
   fun L st σ x y => ev_d ((TP_68 _).trans rfl) rfl,
   fun L st σ x y => ev_p ((TP_68 _).trans rfl) rfl,
   fun L st σ x y => ev_p ((TP_68 _).trans rfl) rfl,
   fun l0 l1 l2 l3 l4 st σ x => ev_p ((TP_68 _).trans rfl) rfl,
   fun l0 l1 l2 l4 st σ x => ev_p ((TP_68 _).trans rfl) rfl,
   fun L st σ => ev_p ((TP_68 _).trans rfl) rfl,
   fun l0 l1 l3 l4 st σ x => ev_p ((TP_68 _).trans rfl) rfl,
   fun L σ x => ev_r ((TP_68 _).trans rfl) rfl⟩
theorem TP_69 (pc : Nat) : TT 69 pc = ri_find TL_69 pc := rfl
theorem E_69 (x0 : Nat) (x1 : Int32) (σ : ri_S) : cal 69 [.ref x0, .int x1] σ = ev 69 (0, [some (.ref x0), some (.int x1), none, none], []) σ := rfl
theorem H_69_2 (l0 l1 l3 : Option Value) (st : List Value) (σ : ri_S) (x : Int32) : ev 69 (2, [l0, l1, some (.int x), l3], st) σ = ev 69 (3, [l0, l1, some (.int x), l3], .int x :: st) σ := ev_p ((TP_69 _).trans rfl) rfl
theorem H_69_42 (l0 l1 l3 : Option Value) (st : List Value) (σ : ri_S) (x : Int32) : ev 69 (42, [l0, l1, some (.int x), l3], st) σ = ev 69 (43, [l0, l1, some (.int x), l3], .int x :: st) σ := ev_p ((TP_69 _).trans rfl) rfl
theorem I_69_0 :
  (∀ (L : ri_L) (st : List Value) (σ : ri_S), ev 69 (0, L, st) σ = ev 69 (1, L, .int 0 :: st) σ) ∧
  (∀ (l0 l1 l2 l3 : Option Value) (st : List Value) (σ : ri_S) (x : Int32), ev 69 (1, [l0, l1, l2, l3], .int x :: st) σ = ev 69 (2, [l0, ri_clr l1, some (.int x), l3], st) σ) ∧
  (∀ (L : ri_L) (st : List Value) (σ : ri_S), ev 69 (3, L, st) σ = ev 69 (6, L, .int 1875 :: st) σ) ∧
  (∀ (L : ri_L) (st : List Value) (σ : ri_S) (x y : Int32), ev 69 (6, L, .int y :: .int x :: st) σ = if y ≤ x then ev 69 (38, L, st) σ else ev 69 (9, L, st) σ) ∧
  (∀ (l1 l2 l3 : Option Value) (st : List Value) (σ : ri_S) (x : Nat), ev 69 (9, [some (.ref x), l1, l2, l3], st) σ = ev 69 (10, [some (.ref x), l1, l2, l3], .ref x :: st) σ) ∧
  (∀ (L : ri_L) (st : List Value) (σ : ri_S) (a : Nat), ev 69 (10, L, .ref a :: st) σ = tv_o 4 6 (σ.1 a) fun v => ev 69 (13, L, v :: st) σ) ∧
  (∀ (l0 l1 l3 : Option Value) (st : List Value) (σ : ri_S) (x : Int32), ev 69 (13, [l0, l1, some (.int x), l3], st) σ = ev 69 (14, [l0, l1, some (.int x), l3], .int x :: st) σ) ∧
  (∀ (l0 l1 l3 : Option Value) (st : List Value) (σ : ri_S) (x : Int32), ev 69 (14, [l0, l1, some (.int x), l3], st) σ = ev 69 (15, [l0, l1, some (.int x), l3], .int x :: st) σ) ∧
  (∀ (L : ri_L) (st : List Value) (σ : ri_S), ev 69 (15, L, st) σ = ev 69 (17, L, .int 15 :: st) σ) ∧
  (∀ (L : ri_L) (st : List Value) (σ : ri_S) (x y : Int32), ev 69 (17, L, .int y :: .int x :: st) σ = if y = 0 then none else ev 69 (18, L, .int (x - x / y * y) :: st) σ) ∧
  (∀ (l0 l2 l3 : Option Value) (st : List Value) (σ : ri_S) (x : Int32), ev 69 (18, [l0, some (.int x), l2, l3], st) σ = ev 69 (19, [l0, some (.int x), l2, l3], .int x :: st) σ) ∧
  (∀ (L : ri_L) (st : List Value) (σ : ri_S) (x y : Int32), ev 69 (19, L, .int y :: .int x :: st) σ = if ¬ x = y then ev 69 (26, L, st) σ else ev 69 (22, L, st) σ) ∧
  (∀ (L : ri_L) (st : List Value) (σ : ri_S), ev 69 (22, L, st) σ = ev 69 (23, L, .int 0 :: st) σ) ∧
  (∀ (L : ri_L) (st : List Value) (σ : ri_S), ev 69 (23, L, st) σ = ev 69 (29, L, st) σ) ∧
  (∀ (L : ri_L) (st : List Value) (σ : ri_S), ev 69 (26, L, st) σ = ev 69 (29, L, .int 1875 :: st) σ) ∧
  (∀ (L : ri_L) (σ : ri_S) (a0 : Nat) (a1 : Int32) (a2 : Int32), ev 69 (29, L, [.int a2, .int a1, .ref a0]) σ = (cal 141 [.ref a0, .int a1, .int a2] σ).bind fun q => ev 69 (32, L, q.1.toList ++ []) q.2) ∧
  (∀ (l0 l1 l3 : Option Value) (st : List Value) (σ : ri_S) (x : Int32), ev 69 (32, [l0, l1, some (.int x), l3], st) σ = ev 69 (35, [l0, ri_clr l1, some (.int (x + 1)), l3], st) σ) ∧
  (∀ (L : ri_L) (st : List Value) (σ : ri_S), ev 69 (35, L, st) σ = ev 69 (2, L, st) σ) ∧
  (∀ (L : ri_L) (st : List Value) (σ : ri_S), ev 69 (38, L, st) σ = ev 69 (39, L, .int 1 :: st) σ) ∧
  (∀ (l0 l1 l2 l3 : Option Value) (st : List Value) (σ : ri_S) (x : Int32), ev 69 (39, [l0, l1, l2, l3], .int x :: st) σ = ev 69 (40, [l0, ri_clr l1, some (.int x), l3], st) σ) ∧
  (∀ (L : ri_L) (st : List Value) (σ : ri_S), ev 69 (40, L, st) σ = ev 69 (41, L, .int 0 :: st) σ) ∧
  (∀ (l0 l1 l2 l3 : Option Value) (st : List Value) (σ : ri_S) (x : Int32), ev 69 (41, [l0, l1, l2, l3], .int x :: st) σ = ev 69 (42, [l0, l1, ri_clr l2, some (.int x)], st) σ) ∧
  (∀ (L : ri_L) (st : List Value) (σ : ri_S) (x : Int32), ev 69 (43, L, .int x :: st) σ = if x = 0 then ev 69 (64, L, st) σ else ev 69 (46, L, st) σ) ∧
  (∀ (l0 l1 l2 : Option Value) (st : List Value) (σ : ri_S) (x : Int32), ev 69 (46, [l0, l1, l2, some (.int x)], st) σ = ev 69 (47, [l0, l1, l2, some (.int x)], .int x :: st) σ) ∧
  (∀ (L : ri_L) (st : List Value) (σ : ri_S), ev 69 (47, L, st) σ = ev 69 (50, L, .int 1875 :: st) σ) ∧
  (∀ (L : ri_L) (st : List Value) (σ : ri_S) (x y : Int32), ev 69 (50, L, .int y :: .int x :: st) σ = if y ≤ x then ev 69 (64, L, st) σ else ev 69 (53, L, st) σ) ∧
  (∀ (l1 l2 l3 : Option Value) (st : List Value) (σ : ri_S) (x : Nat), ev 69 (53, [some (.ref x), l1, l2, l3], st) σ = ev 69 (54, [some (.ref x), l1, l2, l3], .ref x :: st) σ) ∧
  (∀ (L : ri_L) (σ : ri_S) (a0 : Nat), ev 69 (54, L, [.ref a0]) σ = tv_k 4 (σ.1 a0) ((cal 70 [.ref a0] σ).bind fun q => ev 69 (57, L, q.1.toList ++ []) q.2)) ∧
  (∀ (l0 l1 l2 l3 : Option Value) (st : List Value) (σ : ri_S) (x : Int32), ev 69 (57, [l0, l1, l2, l3], .int x :: st) σ = ev 69 (58, [l0, ri_clr l1, some (.int x), l3], st) σ) ∧
  (∀ (l0 l1 l2 : Option Value) (st : List Value) (σ : ri_S) (x : Int32), ev 69 (58, [l0, l1, l2, some (.int x)], st) σ = ev 69 (61, [l0, l1, ri_clr l2, some (.int (x + 1))], st) σ) ∧
  (∀ (L : ri_L) (st : List Value) (σ : ri_S), ev 69 (61, L, st) σ = ev 69 (42, L, st) σ) ∧
  (∀ (l1 l2 l3 : Option Value) (st : List Value) (σ : ri_S) (x : Nat), ev 69 (64, [some (.ref x), l1, l2, l3], st) σ = ev 69 (65, [some (.ref x), l1, l2, l3], .ref x :: st) σ) ∧
  (∀ (L : ri_L) (st : List Value) (σ : ri_S) (a : Nat), ev 69 (65, L, .ref a :: st) σ = tv_o 4 6 (σ.1 a) fun v => ev 69 (68, L, v :: st) σ) ∧
  (∀ (l1 l2 l3 : Option Value) (st : List Value) (σ : ri_S) (x : Nat), ev 69 (68, [some (.ref x), l1, l2, l3], st) σ = ev 69 (69, [some (.ref x), l1, l2, l3], .ref x :: st) σ) ∧
  (∀ (L : ri_L) (st : List Value) (σ : ri_S) (a : Nat), ev 69 (69, L, .ref a :: st) σ = tv_o 4 9 (σ.1 a) fun v => ev 69 (72, L, v :: st) σ) ∧
  (∀ (L : ri_L) (σ : ri_S) (a0 : Nat) (a1 : Int32), ev 69 (72, L, [.int a1, .ref a0]) σ = (cal 140 [.ref a0, .int a1] σ).bind fun q => ev 69 (75, L, q.1.toList ++ []) q.2) ∧
  (∀ (L : ri_L) (st : List Value) (σ : ri_S), ev 69 (75, L, st) σ = ev 69 (78, L, .int 1875 :: st) σ) ∧
  (∀ (L : ri_L) (st : List Value) (σ : ri_S) (x y : Int32), ev 69 (78, L, .int y :: .int x :: st) σ = if y ≤ x then ev 69 (95, L, st) σ else ev 69 (81, L, st) σ) ∧
  (∀ (l1 l2 l3 : Option Value) (st : List Value) (σ : ri_S) (x : Nat), ev 69 (81, [some (.ref x), l1, l2, l3], st) σ = ev 69 (82, [some (.ref x), l1, l2, l3], .ref x :: st) σ) ∧
  (∀ (L : ri_L) (st : List Value) (σ : ri_S) (a : Nat), ev 69 (82, L, .ref a :: st) σ = tv_o 4 6 (σ.1 a) fun v => ev 69 (85, L, v :: st) σ) :=
  ⟨fun L st σ => ev_p ((TP_69 _).trans rfl) rfl,
   fun l0 l1 l2 l3 st σ x => ev_p ((TP_69 _).trans rfl) rfl,
   fun L st σ => ev_p ((TP_69 _).trans rfl) rfl,
   fun L st σ x y => ev_b ((TP_69 _).trans rfl) rfl,
   fun l1 l2 l3 st σ x => ev_p ((TP_69 _).trans rfl) rfl,
   fun L st σ a => ev_getf ((TP_69 _).trans rfl),
   fun l0 l1 l3 st σ x => ev_p ((TP_69 _).trans rfl) rfl,
   fun l0 l1 l3 st σ x => ev_p ((TP_69 _).trans rfl) rfl,
   fun L st σ => ev_p ((TP_69 _).trans rfl) rfl,
   fun L st σ x y => ev_d ((TP_69 _).trans rfl) rfl,
   fun l0 l2 l3 st σ x => ev_p ((TP_69 _).trans rfl) rfl,
   fun L st σ x y => ev_b ((TP_69 _).trans rfl) rfl,
   fun L st σ => ev_p ((TP_69 _).trans rfl) rfl,
   fun L st σ => ev_p ((TP_69 _).trans rfl) rfl,
   fun L st σ => ev_p ((TP_69 _).trans rfl) rfl,
   fun L σ a0 a1 a2 => ev_call ((TP_69 _).trans rfl) rfl rfl rfl rfl,
   fun l0 l1 l3 st σ x => ev_p ((TP_69 _).trans rfl) rfl,
   fun L st σ => ev_p ((TP_69 _).trans rfl) rfl,
   fun L st σ => ev_p ((TP_69 _).trans rfl) rfl,
   fun l0 l1 l2 l3 st σ x => ev_p ((TP_69 _).trans rfl) rfl,
   fun L st σ => ev_p ((TP_69 _).trans rfl) rfl,
   fun l0 l1 l2 l3 st σ x => ev_p ((TP_69 _).trans rfl) rfl,
   fun L st σ x => ev_b ((TP_69 _).trans rfl) rfl,
   fun l0 l1 l2 st σ x => ev_p ((TP_69 _).trans rfl) rfl,
   fun L st σ => ev_p ((TP_69 _).trans rfl) rfl,
   fun L st σ x y => ev_b ((TP_69 _).trans rfl) rfl,
   fun l1 l2 l3 st σ x => ev_p ((TP_69 _).trans rfl) rfl,
   fun L σ a0 => ev_callv ((TP_69 _).trans rfl) rfl rfl rfl rfl,
   fun l0 l1 l2 l3 st σ x => ev_p ((TP_69 _).trans rfl) rfl,
   fun l0 l1 l2 st σ x => ev_p ((TP_69 _).trans rfl) rfl,
   fun L st σ => ev_p ((TP_69 _).trans rfl) rfl,
   fun l1 l2 l3 st σ x => ev_p ((TP_69 _).trans rfl) rfl,
   fun L st σ a => ev_getf ((TP_69 _).trans rfl),
   fun l1 l2 l3 st σ x => ev_p ((TP_69 _).trans rfl) rfl,
   fun L st σ a => ev_getf ((TP_69 _).trans rfl),
   fun L σ a0 a1 => ev_call ((TP_69 _).trans rfl) rfl rfl rfl rfl,
   fun L st σ => ev_p ((TP_69 _).trans rfl) rfl,
   fun L st σ x y => ev_b ((TP_69 _).trans rfl) rfl,
   fun l1 l2 l3 st σ x => ev_p ((TP_69 _).trans rfl) rfl,
   fun L st σ a => ev_getf ((TP_69 _).trans rfl)⟩
theorem I_69_1 :
  (∀ (l1 l2 l3 : Option Value) (st : List Value) (σ : ri_S) (x : Nat), ev 69 (85, [some (.ref x), l1, l2, l3], st) σ = ev 69 (86, [some (.ref x), l1, l2, l3], .ref x :: st) σ) ∧
  (∀ (L : ri_L) (st : List Value) (σ : ri_S) (a : Nat), ev 69 (86, L, .ref a :: st) σ = tv_o 4 9 (σ.1 a) fun v => ev 69 (89, L, v :: st) σ) ∧
  (∀ (L : ri_L) (σ : ri_S) (a0 : Nat) (a1 : Int32), ev 69 (89, L, [.int a1, .ref a0]) σ = (cal 140 [.ref a0, .int a1] σ).bind fun q => ev 69 (92, L, q.1.toList ++ []) q.2) ∧
  (∀ (L : ri_L) (st : List Value) (σ : ri_S), ev 69 (92, L, st) σ = ev 69 (96, L, st) σ) ∧
  (∀ (L : ri_L) (st : List Value) (σ : ri_S), ev 69 (95, L, st) σ = ev 69 (96, L, .int (-1) :: st) σ) ∧
  (∀ (L : ri_L) (σ : ri_S) (x : Int32), ev 69 (96, L, [.int x]) σ = some (some (.int x), σ)) :=
  ⟨fun l1 l2 l3 st σ x => ev_p ((TP_69 _).trans rfl) rfl,
   fun L st σ a => ev_getf ((TP_69 _).trans rfl),
   fun L σ a0 a1 => ev_call ((TP_69 _).trans rfl) rfl rfl rfl rfl,
   fun L st σ => ev_p ((TP_69 _).trans rfl) rfl,
   fun L st σ => ev_p ((TP_69 _).trans rfl) rfl,
   fun L σ x => ev_r ((TP_69 _).trans rfl) rfl⟩
theorem TP_70 (pc : Nat) : TT 70 pc = ri_find TL_70 pc := rfl
theorem E_70 (x0 : Nat) (σ : ri_S) : cal 70 [.ref x0] σ = ev 70 (0, [some (.ref x0), none, none], []) σ := rfl
theorem H_70_4 (l0 l1 : Option Value) (st : List Value) (σ : ri_S) (x : Int32) : ev 70 (4, [l0, l1, some (.int x)], st) σ = ev 70 (5, [l0, l1, some (.int x)], .int x :: st) σ := ev_p ((TP_70 _).trans rfl) rfl
theorem I_70 :
  (∀ (L : ri_L) (st : List Value) (σ : ri_S), ev 70 (0, L, st) σ = ev 70 (1, L, .int 0 :: st) σ) ∧
  (∀ (l0 l1 l2 : Option Value) (st : List Value) (σ : ri_S) (x : Int32), ev 70 (1, [l0, l1, l2], .int x :: st) σ = ev 70 (2, [ri_clr l0, some (.int x), l2], st) σ) ∧
  (∀ (L : ri_L) (st : List Value) (σ : ri_S), ev 70 (2, L, st) σ = ev 70 (3, L, .int 0 :: st) σ) ∧
  (∀ (l0 l1 l2 : Option Value) (st : List Value) (σ : ri_S) (x : Int32), ev 70 (3, [l0, l1, l2], .int x :: st) σ = ev 70 (4, [l0, ri_clr l1, some (.int x)], st) σ) ∧
  (∀ (L : ri_L) (st : List Value) (σ : ri_S), ev 70 (5, L, st) σ = ev 70 (8, L, .int 1875 :: st) σ) ∧
  (∀ (L : ri_L) (st : List Value) (σ : ri_S) (x y : Int32), ev 70 (8, L, .int y :: .int x :: st) σ = if y ≤ x then ev 70 (39, L, st) σ else ev 70 (11, L, st) σ) ∧
  (∀ (l1 l2 : Option Value) (st : List Value) (σ : ri_S) (x : Nat), ev 70 (11, [some (.ref x), l1, l2], st) σ = ev 70 (12, [some (.ref x), l1, l2], .ref x :: st) σ) ∧
  (∀ (L : ri_L) (st : List Value) (σ : ri_S) (a : Nat), ev 70 (12, L, .ref a :: st) σ = tv_o 4 3 (σ.1 a) fun v => ev 70 (15, L, v :: st) σ) ∧
  (∀ (l0 l1 : Option Value) (st : List Value) (σ : ri_S) (x : Int32), ev 70 (15, [l0, l1, some (.int x)], st) σ = ev 70 (16, [l0, l1, some (.int x)], .int x :: st) σ) ∧
  (∀ (L : ri_L) (σ : ri_S) (a0 : Nat) (a1 : Int32), ev 70 (16, L, [.int a1, .ref a0]) σ = (cal 140 [.ref a0, .int a1] σ).bind fun q => ev 70 (19, L, q.1.toList ++ []) q.2) ∧
  (∀ (L : ri_L) (st : List Value) (σ : ri_S), ev 70 (19, L, st) σ = ev 70 (20, L, .int (-1) :: st) σ) ∧
  (∀ (L : ri_L) (st : List Value) (σ : ri_S) (x y : Int32), ev 70 (20, L, .int y :: .int x :: st) σ = if x = y then ev 70 (33, L, st) σ else ev 70 (23, L, st) σ) ∧
  (∀ (l1 l2 : Option Value) (st : List Value) (σ : ri_S) (x : Nat), ev 70 (23, [some (.ref x), l1, l2], st) σ = ev 70 (24, [some (.ref x), l1, l2], .ref x :: st) σ) ∧
  (∀ (l0 l1 : Option Value) (st : List Value) (σ : ri_S) (x : Int32), ev 70 (24, [l0, l1, some (.int x)], st) σ = ev 70 (25, [l0, l1, some (.int x)], .int x :: st) σ) ∧
  (∀ (L : ri_L) (σ : ri_S) (a0 : Nat) (a1 : Int32), ev 70 (25, L, [.int a1, .ref a0]) σ = tv_k 4 (σ.1 a0) ((cal 71 [.ref a0, .int a1] σ).bind fun q => ev 70 (28, L, q.1.toList ++ []) q.2)) ∧
  (∀ (L : ri_L) (st : List Value) (σ : ri_S) (x : Int32), ev 70 (28, L, .int x :: st) σ = if x = 0 then ev 70 (33, L, st) σ else ev 70 (31, L, st) σ) ∧
  (∀ (L : ri_L) (st : List Value) (σ : ri_S), ev 70 (31, L, st) σ = ev 70 (32, L, .int 1 :: st) σ) ∧
  (∀ (l0 l1 l2 : Option Value) (st : List Value) (σ : ri_S) (x : Int32), ev 70 (32, [l0, l1, l2], .int x :: st) σ = ev 70 (33, [ri_clr l0, some (.int x), l2], st) σ) ∧
  (∀ (l0 l1 : Option Value) (st : List Value) (σ : ri_S) (x : Int32), ev 70 (33, [l0, l1, some (.int x)], st) σ = ev 70 (36, [l0, ri_clr l1, some (.int (x + 1))], st) σ) ∧
  (∀ (L : ri_L) (st : List Value) (σ : ri_S), ev 70 (36, L, st) σ = ev 70 (4, L, st) σ) ∧
  (∀ (l0 l2 : Option Value) (st : List Value) (σ : ri_S) (x : Int32), ev 70 (39, [l0, some (.int x), l2], st) σ = ev 70 (40, [l0, some (.int x), l2], .int x :: st) σ) ∧
  (∀ (L : ri_L) (σ : ri_S) (x : Int32), ev 70 (40, L, [.int x]) σ = tv_b x (some (some (.int x), σ))) :=
  ⟨fun L st σ => ev_p ((TP_70 _).trans rfl) rfl,
   fun l0 l1 l2 st σ x => ev_p ((TP_70 _).trans rfl) rfl,
   fun L st σ => ev_p ((TP_70 _).trans rfl) rfl,
   fun l0 l1 l2 st σ x => ev_p ((TP_70 _).trans rfl) rfl,
   fun L st σ => ev_p ((TP_70 _).trans rfl) rfl,
   fun L st σ x y => ev_b ((TP_70 _).trans rfl) rfl,
   fun l1 l2 st σ x => ev_p ((TP_70 _).trans rfl) rfl,
   fun L st σ a => ev_getf ((TP_70 _).trans rfl),
   fun l0 l1 st σ x => ev_p ((TP_70 _).trans rfl) rfl,
   fun L σ a0 a1 => ev_call ((TP_70 _).trans rfl) rfl rfl rfl rfl,
   fun L st σ => ev_p ((TP_70 _).trans rfl) rfl,
   fun L st σ x y => ev_b ((TP_70 _).trans rfl) rfl,
   fun l1 l2 st σ x => ev_p ((TP_70 _).trans rfl) rfl,
   fun l0 l1 st σ x => ev_p ((TP_70 _).trans rfl) rfl,
   fun L σ a0 a1 => ev_callv ((TP_70 _).trans rfl) rfl rfl rfl rfl,
   fun L st σ x => ev_b ((TP_70 _).trans rfl) rfl,
   fun L st σ => ev_p ((TP_70 _).trans rfl) rfl,
   fun l0 l1 l2 st σ x => ev_p ((TP_70 _).trans rfl) rfl,
   fun l0 l1 st σ x => ev_p ((TP_70 _).trans rfl) rfl,
   fun L st σ => ev_p ((TP_70 _).trans rfl) rfl,
   fun l0 l2 st σ x => ev_p ((TP_70 _).trans rfl) rfl,
   fun L σ x => ev_r ((TP_70 _).trans rfl) rfl⟩
theorem TP_71 (pc : Nat) : TT 71 pc = ri_find TL_71 pc := rfl
theorem E_71 (x0 : Nat) (x1 : Int32) (σ : ri_S) : cal 71 [.ref x0, .int x1] σ = ev 71 (0, [some (.ref x0), some (.int x1), none, none, none], []) σ := rfl
theorem H_71_11 (l0 l1 l2 l4 : Option Value) (st : List Value) (σ : ri_S) (x : Int32) : ev 71 (11, [l0, l1, l2, some (.int x), l4], st) σ = ev 71 (12, [l0, l1, l2, some (.int x), l4], .int x :: st) σ := ev_p ((TP_71 _).trans rfl) rfl
theorem I_71_0 :
  (∀ (l1 l2 l3 l4 : Option Value) (st : List Value) (σ : ri_S) (x : Nat), ev 71 (0, [some (.ref x), l1, l2, l3, l4], st) σ = ev 71 (1, [some (.ref x), l1, l2, l3, l4], .ref x :: st) σ) ∧
  (∀ (L : ri_L) (st : List Value) (σ : ri_S) (a : Nat), ev 71 (1, L, .ref a :: st) σ = tv_o 4 6 (σ.1 a) fun v => ev 71 (4, L, v :: st) σ) ∧
  (∀ (l0 l2 l3 l4 : Option Value) (st : List Value) (σ : ri_S) (x : Int32), ev 71 (4, [l0, some (.int x), l2, l3, l4], st) σ = ev 71 (5, [l0, some (.int x), l2, l3, l4], .int x :: st) σ) ∧
  (∀ (L : ri_L) (σ : ri_S) (a0 : Nat) (a1 : Int32), ev 71 (5, L, [.int a1, .ref a0]) σ = (cal 140 [.ref a0, .int a1] σ).bind fun q => ev 71 (8, L, q.1.toList ++ []) q.2) ∧
  (∀ (l0 l1 l2 l3 l4 : Option Value) (st : List Value) (σ : ri_S) (x : Int32), ev 71 (8, [l0, l1, l2, l3, l4], .int x :: st) σ = ev 71 (9, [l0, ri_clr l1, some (.int x), l3, l4], st) σ) ∧
  (∀ (L : ri_L) (st : List Value) (σ : ri_S), ev 71 (9, L, st) σ = ev 71 (10, L, .int 0 :: st) σ) ∧
  (∀ (l0 l1 l2 l3 l4 : Option Value) (st : List Value) (σ : ri_S) (x : Int32), ev 71 (10, [l0, l1, l2, l3, l4], .int x :: st) σ = ev 71 (11, [l0, l1, ri_clr l2, some (.int x), l4], st) σ) ∧
  (∀ (l1 l2 l3 l4 : Option Value) (st : List Value) (σ : ri_S) (x : Nat), ev 71 (12, [some (.ref x), l1, l2, l3, l4], st) σ = ev 71 (13, [some (.ref x), l1, l2, l3, l4], .ref x :: st) σ) ∧
  (∀ (L : ri_L) (st : List Value) (σ : ri_S) (a : Nat), ev 71 (13, L, .ref a :: st) σ = tv_o 4 5 (σ.1 a) fun v => ev 71 (16, L, v :: st) σ) ∧
  (∀ (l0 l2 l3 l4 : Option Value) (st : List Value) (σ : ri_S) (x : Int32), ev 71 (16, [l0, some (.int x), l2, l3, l4], st) σ = ev 71 (17, [l0, some (.int x), l2, l3, l4], .int x :: st) σ) ∧
  (∀ (L : ri_L) (st : List Value) (σ : ri_S), ev 71 (17, L, st) σ = ev 71 (19, L, .int 15 :: st) σ) ∧
  (∀ (L : ri_L) (st : List Value) (σ : ri_S) (x y : Int32), ev 71 (19, L, .int y :: .int x :: st) σ = if y = 0 then none else ev 71 (20, L, .int (x - x / y * y) :: st) σ) ∧
  (∀ (L : ri_L) (σ : ri_S) (a0 : Nat) (a1 : Int32) (s0 : Value), ev 71 (20, L, [.int a1, .ref a0, s0]) σ = (cal 140 [.ref a0, .int a1] σ).bind fun q => ev 71 (23, L, q.1.toList ++ [s0]) q.2) ∧
  (∀ (L : ri_L) (st : List Value) (σ : ri_S) (x y : Int32), ev 71 (23, L, .int y :: .int x :: st) σ = if y ≤ x then ev 71 (62, L, st) σ else ev 71 (26, L, st) σ) ∧
  (∀ (l1 l2 l3 l4 : Option Value) (st : List Value) (σ : ri_S) (x : Nat), ev 71 (26, [some (.ref x), l1, l2, l3, l4], st) σ = ev 71 (27, [some (.ref x), l1, l2, l3, l4], .ref x :: st) σ) ∧
  (∀ (l0 l2 l3 l4 : Option Value) (st : List Value) (σ : ri_S) (x : Int32), ev 71 (27, [l0, some (.int x), l2, l3, l4], st) σ = ev 71 (28, [l0, some (.int x), l2, l3, l4], .int x :: st) σ) ∧
  (∀ (l0 l1 l2 l4 : Option Value) (st : List Value) (σ : ri_S) (x : Int32), ev 71 (28, [l0, l1, l2, some (.int x), l4], st) σ = ev 71 (29, [l0, l1, l2, some (.int x), l4], .int x :: st) σ) ∧
  (∀ (L : ri_L) (σ : ri_S) (a0 : Nat) (a1 : Int32) (a2 : Int32), ev 71 (29, L, [.int a2, .int a1, .ref a0]) σ = tv_k 4 (σ.1 a0) ((cal 66 [.ref a0, .int a1, .int a2] σ).bind fun q => ev 71 (32, L, q.1.toList ++ []) q.2)) ∧
  (∀ (l0 l1 l2 l3 l4 : Option Value) (st : List Value) (σ : ri_S) (x : Int32), ev 71 (32, [l0, l1, l2, l3, l4], .int x :: st) σ = ev 71 (34, [l0, l1, l2, ri_clr l3, some (.int x)], st) σ) ∧
  (∀ (l0 l1 l2 l3 : Option Value) (st : List Value) (σ : ri_S) (x : Int32), ev 71 (34, [l0, l1, l2, l3, some (.int x)], st) σ = ev 71 (36, [l0, l1, l2, l3, some (.int x)], .int x :: st) σ) ∧
  (∀ (L : ri_L) (st : List Value) (σ : ri_S), ev 71 (36, L, st) σ = ev 71 (37, L, .int (-1) :: st) σ) ∧
  (∀ (L : ri_L) (st : List Value) (σ : ri_S) (x y : Int32), ev 71 (37, L, .int y :: .int x :: st) σ = if x = y then ev 71 (56, L, st) σ else ev 71 (40, L, st) σ) ∧
  (∀ (l0 l1 l3 l4 : Option Value) (st : List Value) (σ : ri_S) (x : Int32), ev 71 (40, [l0, l1, some (.int x), l3, l4], st) σ = ev 71 (41, [l0, l1, some (.int x), l3, l4], .int x :: st) σ) ∧
  (∀ (l1 l2 l3 l4 : Option Value) (st : List Value) (σ : ri_S) (x : Nat), ev 71 (41, [some (.ref x), l1, l2, l3, l4], st) σ = ev 71 (42, [some (.ref x), l1, l2, l3, l4], .ref x :: st) σ) ∧
  (∀ (L : ri_L) (st : List Value) (σ : ri_S) (a : Nat), ev 71 (42, L, .ref a :: st) σ = tv_o 4 6 (σ.1 a) fun v => ev 71 (45, L, v :: st) σ) ∧
  (∀ (l0 l1 l2 l3 : Option Value) (st : List Value) (σ : ri_S) (x : Int32), ev 71 (45, [l0, l1, l2, l3, some (.int x)], st) σ = ev 71 (47, [l0, l1, l2, l3, some (.int x)], .int x :: st) σ) ∧
  (∀ (L : ri_L) (σ : ri_S) (a0 : Nat) (a1 : Int32) (s0 : Value), ev 71 (47, L, [.int a1, .ref a0, s0]) σ = (cal 140 [.ref a0, .int a1] σ).bind fun q => ev 71 (50, L, q.1.toList ++ [s0]) q.2) ∧
  (∀ (L : ri_L) (st : List Value) (σ : ri_S), ev 71 (50, L, st) σ = ev 71 (51, L, .int 1 :: st) σ) ∧
  (∀ (L : ri_L) (st : List Value) (σ : ri_S) (x y : Int32), ev 71 (51, L, .int y :: .int x :: st) σ = ev 71 (52, L, .int (x + y) :: st) σ) ∧
  (∀ (L : ri_L) (σ : ri_S) (x y : Int32), ev 71 (52, L, .int y :: .int x :: []) σ = ev 71 (55, L, .int (if y < x then y else x) :: []) σ) ∧
  (∀ (l0 l1 l2 l3 l4 : Option Value) (st : List Value) (σ : ri_S) (x : Int32), ev 71 (55, [l0, l1, l2, l3, l4], .int x :: st) σ = ev 71 (56, [l0, ri_clr l1, some (.int x), l3, l4], st) σ) ∧
  (∀ (l0 l1 l2 l4 : Option Value) (st : List Value) (σ : ri_S) (x : Int32), ev 71 (56, [l0, l1, l2, some (.int x), l4], st) σ = ev 71 (59, [l0, l1, ri_clr l2, some (.int (x + 1)), l4], st) σ) ∧
  (∀ (L : ri_L) (st : List Value) (σ : ri_S), ev 71 (59, L, st) σ = ev 71 (11, L, st) σ) ∧
  (∀ (l0 l1 l3 l4 : Option Value) (st : List Value) (σ : ri_S) (x : Int32), ev 71 (62, [l0, l1, some (.int x), l3, l4], st) σ = ev 71 (63, [l0, l1, some (.int x), l3, l4], .int x :: st) σ) ∧
  (∀ (l1 l2 l3 l4 : Option Value) (st : List Value) (σ : ri_S) (x : Nat), ev 71 (63, [some (.ref x), l1, l2, l3, l4], st) σ = ev 71 (64, [some (.ref x), l1, l2, l3, l4], .ref x :: st) σ) ∧
  (∀ (L : ri_L) (st : List Value) (σ : ri_S) (a : Nat), ev 71 (64, L, .ref a :: st) σ = tv_o 4 6 (σ.1 a) fun v => ev 71 (67, L, v :: st) σ) ∧
  (∀ (l0 l2 l3 l4 : Option Value) (st : List Value) (σ : ri_S) (x : Int32), ev 71 (67, [l0, some (.int x), l2, l3, l4], st) σ = ev 71 (68, [l0, some (.int x), l2, l3, l4], .int x :: st) σ) ∧
  (∀ (L : ri_L) (σ : ri_S) (a0 : Nat) (a1 : Int32) (s0 : Value), ev 71 (68, L, [.int a1, .ref a0, s0]) σ = (cal 140 [.ref a0, .int a1] σ).bind fun q => ev 71 (71, L, q.1.toList ++ [s0]) q.2) ∧
  (∀ (L : ri_L) (st : List Value) (σ : ri_S) (x y : Int32), ev 71 (71, L, .int y :: .int x :: st) σ = if y ≤ x then ev 71 (78, L, st) σ else ev 71 (74, L, st) σ) ∧
  (∀ (L : ri_L) (st : List Value) (σ : ri_S), ev 71 (74, L, st) σ = ev 71 (75, L, .int 1 :: st) σ) :=
  ⟨fun l1 l2 l3 l4 st σ x => ev_p ((TP_71 _).trans rfl) rfl,
   fun L st σ a => ev_getf ((TP_71 _).trans rfl),
   fun l0 l2 l3 l4 st σ x => ev_p ((TP_71 _).trans rfl) rfl,
   fun L σ a0 a1 => ev_call ((TP_71 _).trans rfl) rfl rfl rfl rfl,
   fun l0 l1 l2 l3 l4 st σ x => ev_p ((TP_71 _).trans rfl) rfl,
   fun L st σ => ev_p ((TP_71 _).trans rfl) rfl,
   fun l0 l1 l2 l3 l4 st σ x => ev_p ((TP_71 _).trans rfl) rfl,
   fun l1 l2 l3 l4 st σ x => ev_p ((TP_71 _).trans rfl) rfl,
   fun L st σ a => ev_getf ((TP_71 _).trans rfl),
   fun l0 l2 l3 l4 st σ x => ev_p ((TP_71 _).trans rfl) rfl,
   fun L st σ => ev_p ((TP_71 _).trans rfl) rfl,
   fun L st σ x y => ev_d ((TP_71 _).trans rfl) rfl,
   fun L σ a0 a1 s0 => ev_call ((TP_71 _).trans rfl) rfl rfl rfl rfl,
   fun L st σ x y => ev_b ((TP_71 _).trans rfl) rfl,
   fun l1 l2 l3 l4 st σ x => ev_p ((TP_71 _).trans rfl) rfl,
   fun l0 l2 l3 l4 st σ x => ev_p ((TP_71 _).trans rfl) rfl,
   fun l0 l1 l2 l4 st σ x => ev_p ((TP_71 _).trans rfl) rfl,
   fun L σ a0 a1 a2 => ev_callv ((TP_71 _).trans rfl) rfl rfl rfl rfl,
   fun l0 l1 l2 l3 l4 st σ x => ev_p ((TP_71 _).trans rfl) rfl,
   fun l0 l1 l2 l3 st σ x => ev_p ((TP_71 _).trans rfl) rfl,
   fun L st σ => ev_p ((TP_71 _).trans rfl) rfl,
   fun L st σ x y => ev_b ((TP_71 _).trans rfl) rfl,
   fun l0 l1 l3 l4 st σ x => ev_p ((TP_71 _).trans rfl) rfl,
   fun l1 l2 l3 l4 st σ x => ev_p ((TP_71 _).trans rfl) rfl,
   fun L st σ a => ev_getf ((TP_71 _).trans rfl),
   fun l0 l1 l2 l3 st σ x => ev_p ((TP_71 _).trans rfl) rfl,
   fun L σ a0 a1 s0 => ev_call ((TP_71 _).trans rfl) rfl rfl rfl rfl,
   fun L st σ => ev_p ((TP_71 _).trans rfl) rfl,
   fun L st σ x y => ev_p ((TP_71 _).trans rfl) rfl,
   fun L σ x y => ev_p ((TP_71 _).trans rfl) rfl,
   fun l0 l1 l2 l3 l4 st σ x => ev_p ((TP_71 _).trans rfl) rfl,
   fun l0 l1 l2 l4 st σ x => ev_p ((TP_71 _).trans rfl) rfl,
   fun L st σ => ev_p ((TP_71 _).trans rfl) rfl,
   fun l0 l1 l3 l4 st σ x => ev_p ((TP_71 _).trans rfl) rfl,
   fun l1 l2 l3 l4 st σ x => ev_p ((TP_71 _).trans rfl) rfl,
   fun L st σ a => ev_getf ((TP_71 _).trans rfl),
   fun l0 l2 l3 l4 st σ x => ev_p ((TP_71 _).trans rfl) rfl,
   fun L σ a0 a1 s0 => ev_call ((TP_71 _).trans rfl) rfl rfl rfl rfl,
   fun L st σ x y => ev_b ((TP_71 _).trans rfl) rfl,
   fun L st σ => ev_p ((TP_71 _).trans rfl) rfl⟩
theorem I_71_1 :
  (∀ (L : ri_L) (st : List Value) (σ : ri_S), ev 71 (75, L, st) σ = ev 71 (79, L, st) σ) ∧
  (∀ (L : ri_L) (st : List Value) (σ : ri_S), ev 71 (78, L, st) σ = ev 71 (79, L, .int 0 :: st) σ) ∧
  (∀ (l0 l1 l2 l3 l4 : Option Value) (st : List Value) (σ : ri_S) (x : Int32), ev 71 (79, [l0, l1, l2, l3, l4], .int x :: st) σ = ev 71 (80, [l0, l1, ri_clr l2, some (.int x), l4], st) σ) ∧
  (∀ (l1 l2 l3 l4 : Option Value) (st : List Value) (σ : ri_S) (x : Nat), ev 71 (80, [some (.ref x), l1, l2, l3, l4], st) σ = ev 71 (81, [some (.ref x), l1, l2, l3, l4], .ref x :: st) σ) ∧
  (∀ (L : ri_L) (st : List Value) (σ : ri_S) (a : Nat), ev 71 (81, L, .ref a :: st) σ = tv_o 4 6 (σ.1 a) fun v => ev 71 (84, L, v :: st) σ) ∧
  (∀ (l0 l2 l3 l4 : Option Value) (st : List Value) (σ : ri_S) (x : Int32), ev 71 (84, [l0, some (.int x), l2, l3, l4], st) σ = ev 71 (85, [l0, some (.int x), l2, l3, l4], .int x :: st) σ) ∧
  (∀ (l0 l1 l3 l4 : Option Value) (st : List Value) (σ : ri_S) (x : Int32), ev 71 (85, [l0, l1, some (.int x), l3, l4], st) σ = ev 71 (86, [l0, l1, some (.int x), l3, l4], .int x :: st) σ) ∧
  (∀ (L : ri_L) (σ : ri_S) (a0 : Nat) (a1 : Int32) (a2 : Int32), ev 71 (86, L, [.int a2, .int a1, .ref a0]) σ = (cal 141 [.ref a0, .int a1, .int a2] σ).bind fun q => ev 71 (89, L, q.1.toList ++ []) q.2) ∧
  (∀ (l0 l1 l2 l4 : Option Value) (st : List Value) (σ : ri_S) (x : Int32), ev 71 (89, [l0, l1, l2, some (.int x), l4], st) σ = ev 71 (90, [l0, l1, l2, some (.int x), l4], .int x :: st) σ) ∧
  (∀ (L : ri_L) (σ : ri_S) (x : Int32), ev 71 (90, L, [.int x]) σ = tv_b x (some (some (.int x), σ))) :=
  ⟨fun L st σ => ev_p ((TP_71 _).trans rfl) rfl,
   fun L st σ => ev_p ((TP_71 _).trans rfl) rfl,
   fun l0 l1 l2 l3 l4 st σ x => ev_p ((TP_71 _).trans rfl) rfl,
   fun l1 l2 l3 l4 st σ x => ev_p ((TP_71 _).trans rfl) rfl,
   fun L st σ a => ev_getf ((TP_71 _).trans rfl),
   fun l0 l2 l3 l4 st σ x => ev_p ((TP_71 _).trans rfl) rfl,
   fun l0 l1 l3 l4 st σ x => ev_p ((TP_71 _).trans rfl) rfl,
   fun L σ a0 a1 a2 => ev_call ((TP_71 _).trans rfl) rfl rfl rfl rfl,
   fun l0 l1 l2 l4 st σ x => ev_p ((TP_71 _).trans rfl) rfl,
   fun L σ x => ev_r ((TP_71 _).trans rfl) rfl⟩
theorem TP_72 (pc : Nat) : TT 72 pc = ri_find TL_72 pc := rfl
theorem E_72 (x0 : Nat) (x1 : Nat) (x2 : Int32) (σ : ri_S) : cal 72 [.ref x0, .ref x1, .int x2] σ = ev 72 (0, [some (.ref x0), some (.ref x1), some (.int x2)], []) σ := rfl
theorem I_72 :
  (∀ (l0 l2 : Option Value) (st : List Value) (σ : ri_S) (x : Nat), ev 72 (0, [l0, some (.ref x), l2], st) σ = ev 72 (1, [l0, some (.ref x), l2], .ref x :: st) σ) ∧
  (∀ (L : ri_L) (st : List Value) (σ : ri_S) (a : Nat), ev 72 (1, L, .ref a :: st) σ = tv_o 3 0 (σ.1 a) fun v => ev 72 (4, L, v :: st) σ) ∧
  (∀ (L : ri_L) (st : List Value) (σ : ri_S) (a : Nat), ev 72 (4, L, .ref a :: st) σ = tv_o 7 6 (σ.1 a) fun v => ev 72 (7, L, v :: st) σ) ∧
  (∀ (l1 l2 : Option Value) (st : List Value) (σ : ri_S) (x : Nat), ev 72 (7, [some (.ref x), l1, l2], st) σ = ev 72 (8, [some (.ref x), l1, l2], .ref x :: st) σ) ∧
  (∀ (L : ri_L) (st : List Value) (σ : ri_S) (a : Nat), ev 72 (8, L, .ref a :: st) σ = tv_o 4 8 (σ.1 a) fun v => ev 72 (11, L, v :: st) σ) ∧
  (∀ (L : ri_L) (σ : ri_S) (a0 : Nat) (a1 : Nat), ev 72 (11, L, [.ref a1, .ref a0]) σ = (cal 142 [.ref a0, .ref a1] σ).bind fun q => ev 72 (14, L, q.1.toList ++ []) q.2) ∧
  (∀ (l1 l2 : Option Value) (st : List Value) (σ : ri_S) (x : Nat), ev 72 (14, [some (.ref x), l1, l2], st) σ = ev 72 (15, [some (.ref x), l1, l2], .ref x :: st) σ) ∧
  (∀ (l1 l2 : Option Value) (st : List Value) (σ : ri_S) (x : Nat), ev 72 (15, [some (.ref x), l1, l2], st) σ = ev 72 (16, [some (.ref x), l1, l2], .ref x :: st) σ) ∧
  (∀ (L : ri_L) (st : List Value) (σ : ri_S) (a : Nat), ev 72 (16, L, .ref a :: st) σ = tv_o 4 9 (σ.1 a) fun v => ev 72 (19, L, v :: st) σ) ∧
  (∀ (l0 l1 : Option Value) (st : List Value) (σ : ri_S) (x : Int32), ev 72 (19, [l0, l1, some (.int x)], st) σ = ev 72 (20, [l0, l1, some (.int x)], .int x :: st) σ) ∧
  (∀ (L : ri_L) (σ : ri_S) (a0 : Nat) (a1 : Int32) (a2 : Int32), ev 72 (20, L, [.int a2, .int a1, .ref a0]) σ = (cal 77 [.ref a0, .int a1, .int a2] σ).bind fun q => ev 72 (23, L, q.1.toList ++ []) q.2) ∧
  (∀ (L : ri_L) (σ : ri_S) (x : Int32), ev 72 (23, L, [.int x]) σ = some (some (.int x), σ)) :=
  ⟨fun l0 l2 st σ x => ev_p ((TP_72 _).trans rfl) rfl,
   fun L st σ a => ev_getf ((TP_72 _).trans rfl),
   fun L st σ a => ev_getf ((TP_72 _).trans rfl),
   fun l1 l2 st σ x => ev_p ((TP_72 _).trans rfl) rfl,
   fun L st σ a => ev_getf ((TP_72 _).trans rfl),
   fun L σ a0 a1 => ev_call ((TP_72 _).trans rfl) rfl rfl rfl rfl,
   fun l1 l2 st σ x => ev_p ((TP_72 _).trans rfl) rfl,
   fun l1 l2 st σ x => ev_p ((TP_72 _).trans rfl) rfl,
   fun L st σ a => ev_getf ((TP_72 _).trans rfl),
   fun l0 l1 st σ x => ev_p ((TP_72 _).trans rfl) rfl,
   fun L σ a0 a1 a2 => ev_call ((TP_72 _).trans rfl) rfl rfl rfl rfl,
   fun L σ x => ev_r ((TP_72 _).trans rfl) rfl⟩
theorem TP_73 (pc : Nat) : TT 73 pc = ri_find TL_73 pc := rfl
theorem E_73 (x0 : Nat) (x1 : Int32) (x2 : Int32) (σ : ri_S) : cal 73 [.ref x0, .int x1, .int x2] σ = ev 73 (0, [some (.ref x0), some (.int x1), some (.int x2), none, none, none, none, none], []) σ := rfl
theorem H_73_11 (l0 l1 l2 l3 l5 l6 l7 : Option Value) (st : List Value) (σ : ri_S) (x : Int32) : ev 73 (11, [l0, l1, l2, l3, some (.int x), l5, l6, l7], st) σ = ev 73 (13, [l0, l1, l2, l3, some (.int x), l5, l6, l7], .int x :: st) σ := ev_p ((TP_73 _).trans rfl) rfl
theorem I_73_0 :
  (∀ (L : ri_L) (st : List Value) (σ : ri_S), ev 73 (0, L, st) σ = ev 73 (1, L, .int 0 :: st) σ) ∧
  (∀ (l0 l1 l2 l3 l4 l5 l6 l7 : Option Value) (st : List Value) (σ : ri_S) (x : Int32), ev 73 (1, [l0, l1, l2, l3, l4, l5, l6, l7], .int x :: st) σ = ev 73 (2, [l0, l1, ri_clr l2, some (.int x), l4, l5, l6, l7], st) σ) ∧
  (∀ (l0 l1 l3 l4 l5 l6 l7 : Option Value) (st : List Value) (σ : ri_S) (x : Int32), ev 73 (2, [l0, l1, some (.int x), l3, l4, l5, l6, l7], st) σ = ev 73 (3, [l0, l1, some (.int x), l3, l4, l5, l6, l7], .int x :: st) σ) ∧
  (∀ (L : ri_L) (st : List Value) (σ : ri_S) (x : Int32), ev 73 (3, L, .int x :: st) σ = if 0 < x then ev 73 (8, L, st) σ else ev 73 (6, L, st) σ) ∧
  (∀ (l0 l1 l2 l4 l5 l6 l7 : Option Value) (st : List Value) (σ : ri_S) (x : Int32), ev 73 (6, [l0, l1, l2, some (.int x), l4, l5, l6, l7], st) σ = ev 73 (7, [l0, l1, l2, some (.int x), l4, l5, l6, l7], .int x :: st) σ) ∧
  (∀ (L : ri_L) (σ : ri_S) (x : Int32), ev 73 (7, L, [.int x]) σ = some (some (.int x), σ)) ∧
  (∀ (L : ri_L) (st : List Value) (σ : ri_S), ev 73 (8, L, st) σ = ev 73 (9, L, .int 0 :: st) σ) ∧
  (∀ (l0 l1 l2 l3 l4 l5 l6 l7 : Option Value) (st : List Value) (σ : ri_S) (x : Int32), ev 73 (9, [l0, l1, l2, l3, l4, l5, l6, l7], .int x :: st) σ = ev 73 (11, [l0, l1, l2, ri_clr l3, some (.int x), l5, l6, l7], st) σ) ∧
  (∀ (l1 l2 l3 l4 l5 l6 l7 : Option Value) (st : List Value) (σ : ri_S) (x : Nat), ev 73 (13, [some (.ref x), l1, l2, l3, l4, l5, l6, l7], st) σ = ev 73 (14, [some (.ref x), l1, l2, l3, l4, l5, l6, l7], .ref x :: st) σ) ∧
  (∀ (L : ri_L) (st : List Value) (σ : ri_S) (a : Nat), ev 73 (14, L, .ref a :: st) σ = tv_o 4 5 (σ.1 a) fun v => ev 73 (17, L, v :: st) σ) ∧
  (∀ (l0 l2 l3 l4 l5 l6 l7 : Option Value) (st : List Value) (σ : ri_S) (x : Int32), ev 73 (17, [l0, some (.int x), l2, l3, l4, l5, l6, l7], st) σ = ev 73 (18, [l0, some (.int x), l2, l3, l4, l5, l6, l7], .int x :: st) σ) ∧
  (∀ (L : ri_L) (st : List Value) (σ : ri_S), ev 73 (18, L, st) σ = ev 73 (20, L, .int 15 :: st) σ) ∧
  (∀ (L : ri_L) (st : List Value) (σ : ri_S) (x y : Int32), ev 73 (20, L, .int y :: .int x :: st) σ = if y = 0 then none else ev 73 (21, L, .int (x - x / y * y) :: st) σ) ∧
  (∀ (L : ri_L) (σ : ri_S) (a0 : Nat) (a1 : Int32) (s0 : Value), ev 73 (21, L, [.int a1, .ref a0, s0]) σ = (cal 140 [.ref a0, .int a1] σ).bind fun q => ev 73 (24, L, q.1.toList ++ [s0]) q.2) ∧
  (∀ (L : ri_L) (st : List Value) (σ : ri_S) (x y : Int32), ev 73 (24, L, .int y :: .int x :: st) σ = if y ≤ x then ev 73 (108, L, st) σ else ev 73 (27, L, st) σ) ∧
  (∀ (l1 l2 l3 l4 l5 l6 l7 : Option Value) (st : List Value) (σ : ri_S) (x : Nat), ev 73 (27, [some (.ref x), l1, l2, l3, l4, l5, l6, l7], st) σ = ev 73 (28, [some (.ref x), l1, l2, l3, l4, l5, l6, l7], .ref x :: st) σ) ∧
  (∀ (l0 l2 l3 l4 l5 l6 l7 : Option Value) (st : List Value) (σ : ri_S) (x : Int32), ev 73 (28, [l0, some (.int x), l2, l3, l4, l5, l6, l7], st) σ = ev 73 (29, [l0, some (.int x), l2, l3, l4, l5, l6, l7], .int x :: st) σ) ∧
  (∀ (l0 l1 l2 l3 l5 l6 l7 : Option Value) (st : List Value) (σ : ri_S) (x : Int32), ev 73 (29, [l0, l1, l2, l3, some (.int x), l5, l6, l7], st) σ = ev 73 (31, [l0, l1, l2, l3, some (.int x), l5, l6, l7], .int x :: st) σ) ∧
  (∀ (L : ri_L) (σ : ri_S) (a0 : Nat) (a1 : Int32) (a2 : Int32), ev 73 (31, L, [.int a2, .int a1, .ref a0]) σ = tv_k 4 (σ.1 a0) ((cal 66 [.ref a0, .int a1, .int a2] σ).bind fun q => ev 73 (34, L, q.1.toList ++ []) q.2)) ∧
  (∀ (l0 l1 l2 l3 l4 l5 l6 l7 : Option Value) (st : List Value) (σ : ri_S) (x : Int32), ev 73 (34, [l0, l1, l2, l3, l4, l5, l6, l7], .int x :: st) σ = ev 73 (36, [l0, l1, l2, l3, ri_clr l4, some (.int x), l6, l7], st) σ) ∧
  (∀ (l0 l1 l2 l3 l4 l6 l7 : Option Value) (st : List Value) (σ : ri_S) (x : Int32), ev 73 (36, [l0, l1, l2, l3, l4, some (.int x), l6, l7], st) σ = ev 73 (38, [l0, l1, l2, l3, l4, some (.int x), l6, l7], .int x :: st) σ) ∧
  (∀ (L : ri_L) (st : List Value) (σ : ri_S), ev 73 (38, L, st) σ = ev 73 (39, L, .int (-1) :: st) σ) ∧
  (∀ (L : ri_L) (st : List Value) (σ : ri_S) (x y : Int32), ev 73 (39, L, .int y :: .int x :: st) σ = if x = y then ev 73 (102, L, st) σ else ev 73 (42, L, st) σ) ∧
  (∀ (l1 l2 l3 l4 l5 l6 l7 : Option Value) (st : List Value) (σ : ri_S) (x : Nat), ev 73 (42, [some (.ref x), l1, l2, l3, l4, l5, l6, l7], st) σ = ev 73 (43, [some (.ref x), l1, l2, l3, l4, l5, l6, l7], .ref x :: st) σ) ∧
  (∀ (L : ri_L) (st : List Value) (σ : ri_S) (a : Nat), ev 73 (43, L, .ref a :: st) σ = tv_o 4 3 (σ.1 a) fun v => ev 73 (46, L, v :: st) σ) ∧
  (∀ (l0 l1 l2 l3 l4 l6 l7 : Option Value) (st : List Value) (σ : ri_S) (x : Int32), ev 73 (46, [l0, l1, l2, l3, l4, some (.int x), l6, l7], st) σ = ev 73 (48, [l0, l1, l2, l3, l4, some (.int x), l6, l7], .int x :: st) σ) ∧
  (∀ (L : ri_L) (σ : ri_S) (a0 : Nat) (a1 : Int32), ev 73 (48, L, [.int a1, .ref a0]) σ = (cal 140 [.ref a0, .int a1] σ).bind fun q => ev 73 (51, L, q.1.toList ++ []) q.2) ∧
  (∀ (l0 l1 l2 l3 l4 l5 l6 l7 : Option Value) (st : List Value) (σ : ri_S) (x : Int32), ev 73 (51, [l0, l1, l2, l3, l4, l5, l6, l7], .int x :: st) σ = ev 73 (53, [l0, l1, l2, l3, l4, ri_clr l5, some (.int x), l7], st) σ) ∧
  (∀ (l1 l2 l3 l4 l5 l6 l7 : Option Value) (st : List Value) (σ : ri_S) (x : Nat), ev 73 (53, [some (.ref x), l1, l2, l3, l4, l5, l6, l7], st) σ = ev 73 (54, [some (.ref x), l1, l2, l3, l4, l5, l6, l7], .ref x :: st) σ) ∧
  (∀ (L : ri_L) (st : List Value) (σ : ri_S) (a : Nat), ev 73 (54, L, .ref a :: st) σ = tv_o 4 8 (σ.1 a) fun v => ev 73 (57, L, v :: st) σ) ∧
  (∀ (l0 l1 l2 l3 l4 l5 l7 : Option Value) (st : List Value) (σ : ri_S) (x : Int32), ev 73 (57, [l0, l1, l2, l3, l4, l5, some (.int x), l7], st) σ = ev 73 (59, [l0, l1, l2, l3, l4, l5, some (.int x), l7], .int x :: st) σ) ∧
  (∀ (L : ri_L) (σ : ri_S) (a0 : Nat) (a1 : Int32), ev 73 (59, L, [.int a1, .ref a0]) σ = (cal 140 [.ref a0, .int a1] σ).bind fun q => ev 73 (62, L, q.1.toList ++ []) q.2) ∧
  (∀ (l0 l1 l2 l3 l4 l5 l6 l7 : Option Value) (st : List Value) (σ : ri_S) (x : Int32), ev 73 (62, [l0, l1, l2, l3, l4, l5, l6, l7], .int x :: st) σ = ev 73 (64, [l0, l1, l2, l3, l4, l5, ri_clr l6, some (.int x)], st) σ) ∧
  (∀ (l1 l2 l3 l4 l5 l6 l7 : Option Value) (st : List Value) (σ : ri_S) (x : Nat), ev 73 (64, [some (.ref x), l1, l2, l3, l4, l5, l6, l7], st) σ = ev 73 (65, [some (.ref x), l1, l2, l3, l4, l5, l6, l7], .ref x :: st) σ) ∧
  (∀ (L : ri_L) (st : List Value) (σ : ri_S) (a : Nat), ev 73 (65, L, .ref a :: st) σ = tv_o 4 8 (σ.1 a) fun v => ev 73 (68, L, v :: st) σ) ∧
  (∀ (l0 l1 l2 l3 l4 l5 l7 : Option Value) (st : List Value) (σ : ri_S) (x : Int32), ev 73 (68, [l0, l1, l2, l3, l4, l5, some (.int x), l7], st) σ = ev 73 (70, [l0, l1, l2, l3, l4, l5, some (.int x), l7], .int x :: st) σ) ∧
  (∀ (L : ri_L) (st : List Value) (σ : ri_S), ev 73 (70, L, st) σ = ev 73 (71, L, .int 0 :: st) σ) ∧
  (∀ (L : ri_L) (σ : ri_S) (a0 : Nat) (a1 : Int32) (a2 : Int32), ev 73 (71, L, [.int a2, .int a1, .ref a0]) σ = (cal 141 [.ref a0, .int a1, .int a2] σ).bind fun q => ev 73 (74, L, q.1.toList ++ []) q.2) ∧
  (∀ (l0 l1 l2 l4 l5 l6 l7 : Option Value) (st : List Value) (σ : ri_S) (x : Int32), ev 73 (74, [l0, l1, l2, some (.int x), l4, l5, l6, l7], st) σ = ev 73 (75, [l0, l1, l2, some (.int x), l4, l5, l6, l7], .int x :: st) σ) ∧
  (∀ (l0 l1 l2 l3 l4 l5 l6 : Option Value) (st : List Value) (σ : ri_S) (x : Int32), ev 73 (75, [l0, l1, l2, l3, l4, l5, l6, some (.int x)], st) σ = ev 73 (77, [l0, l1, l2, l3, l4, l5, l6, some (.int x)], .int x :: st) σ) :=
  ⟨fun L st σ => ev_p ((TP_73 _).trans rfl) rfl,
   fun l0 l1 l2 l3 l4 l5 l6 l7 st σ x => ev_p ((TP_73 _).trans rfl) rfl,
   fun l0 l1 l3 l4 l5 l6 l7 st σ x => ev_p ((TP_73 _).trans rfl) rfl,
   fun L st σ x => ev_b ((TP_73 _).trans rfl) rfl,
   fun l0 l1 l2 l4 l5 l6 l7 st σ x => ev_p ((TP_73 _).trans rfl) rfl,
   fun L σ x => ev_r ((TP_73 _).trans rfl) rfl,
   fun L st σ => ev_p ((TP_73 _).trans rfl) rfl,
   fun l0 l1 l2 l3 l4 l5 l6 l7 st σ x => ev_p ((TP_73 _).trans rfl) rfl,
   fun l1 l2 l3 l4 l5 l6 l7 st σ x => ev_p ((TP_73 _).trans rfl) rfl,
   fun L st σ a => ev_getf ((TP_73 _).trans rfl),
   fun l0 l2 l3 l4 l5 l6 l7 st σ x => ev_p ((TP_73 _).trans rfl) rfl,
   fun L st σ => ev_p ((TP_73 _).trans rfl) rfl,
   fun L st σ x y => ev_d ((TP_73 _).trans rfl) rfl,
   fun L σ a0 a1 s0 => ev_call ((TP_73 _).trans rfl) rfl rfl rfl rfl,
   fun L st σ x y => ev_b ((TP_73 _).trans rfl) rfl,
   fun l1 l2 l3 l4 l5 l6 l7 st σ x => ev_p ((TP_73 _).trans rfl) rfl,
   fun l0 l2 l3 l4 l5 l6 l7 st σ x => ev_p ((TP_73 _).trans rfl) rfl,
   fun l0 l1 l2 l3 l5 l6 l7 st σ x => ev_p ((TP_73 _).trans rfl) rfl,
   fun L σ a0 a1 a2 => ev_callv ((TP_73 _).trans rfl) rfl rfl rfl rfl,
   fun l0 l1 l2 l3 l4 l5 l6 l7 st σ x => ev_p ((TP_73 _).trans rfl) rfl,
   fun l0 l1 l2 l3 l4 l6 l7 st σ x => ev_p ((TP_73 _).trans rfl) rfl,
   fun L st σ => ev_p ((TP_73 _).trans rfl) rfl,
   fun L st σ x y => ev_b ((TP_73 _).trans rfl) rfl,
   fun l1 l2 l3 l4 l5 l6 l7 st σ x => ev_p ((TP_73 _).trans rfl) rfl,
   fun L st σ a => ev_getf ((TP_73 _).trans rfl),
   fun l0 l1 l2 l3 l4 l6 l7 st σ x => ev_p ((TP_73 _).trans rfl) rfl,
   fun L σ a0 a1 => ev_call ((TP_73 _).trans rfl) rfl rfl rfl rfl,
   fun l0 l1 l2 l3 l4 l5 l6 l7 st σ x => ev_p ((TP_73 _).trans rfl) rfl,
   fun l1 l2 l3 l4 l5 l6 l7 st σ x => ev_p ((TP_73 _).trans rfl) rfl,
   fun L st σ a => ev_getf ((TP_73 _).trans rfl),
   fun l0 l1 l2 l3 l4 l5 l7 st σ x => ev_p ((TP_73 _).trans rfl) rfl,
   fun L σ a0 a1 => ev_call ((TP_73 _).trans rfl) rfl rfl rfl rfl,
   fun l0 l1 l2 l3 l4 l5 l6 l7 st σ x => ev_p ((TP_73 _).trans rfl) rfl,
   fun l1 l2 l3 l4 l5 l6 l7 st σ x => ev_p ((TP_73 _).trans rfl) rfl,
   fun L st σ a => ev_getf ((TP_73 _).trans rfl),
   fun l0 l1 l2 l3 l4 l5 l7 st σ x => ev_p ((TP_73 _).trans rfl) rfl,
   fun L st σ => ev_p ((TP_73 _).trans rfl) rfl,
   fun L σ a0 a1 a2 => ev_call ((TP_73 _).trans rfl) rfl rfl rfl rfl,
   fun l0 l1 l2 l4 l5 l6 l7 st σ x => ev_p ((TP_73 _).trans rfl) rfl,
   fun l0 l1 l2 l3 l4 l5 l6 st σ x => ev_p ((TP_73 _).trans rfl) rfl⟩
theorem I_73_1 :
  (∀ (l1 l2 l3 l4 l5 l6 l7 : Option Value) (st : List Value) (σ : ri_S) (x : Nat), ev 73 (77, [some (.ref x), l1, l2, l3, l4, l5, l6, l7], st) σ = ev 73 (78, [some (.ref x), l1, l2, l3, l4, l5, l6, l7], .ref x :: st) σ) ∧
  (∀ (l0 l1 l2 l3 l4 l6 l7 : Option Value) (st : List Value) (σ : ri_S) (x : Int32), ev 73 (78, [l0, l1, l2, l3, l4, some (.int x), l6, l7], st) σ = ev 73 (80, [l0, l1, l2, l3, l4, some (.int x), l6, l7], .int x :: st) σ) ∧
  (∀ (l0 l1 l3 l4 l5 l6 l7 : Option Value) (st : List Value) (σ : ri_S) (x : Int32), ev 73 (80, [l0, l1, some (.int x), l3, l4, l5, l6, l7], st) σ = ev 73 (81, [l0, l1, some (.int x), l3, l4, l5, l6, l7], .int x :: st) σ) ∧
  (∀ (L : ri_L) (st : List Value) (σ : ri_S), ev 73 (81, L, st) σ = ev 73 (82, L, .int 1 :: st) σ) ∧
  (∀ (L : ri_L) (st : List Value) (σ : ri_S) (x y : Int32), ev 73 (82, L, .int y :: .int x :: st) σ = ev 73 (83, L, .int (x - y) :: st) σ) ∧
  (∀ (l0 l1 l2 l3 l5 l6 l7 : Option Value) (st : List Value) (σ : ri_S) (x : Int32), ev 73 (102, [l0, l1, l2, l3, some (.int x), l5, l6, l7], st) σ = ev 73 (105, [l0, l1, l2, ri_clr l3, some (.int (x + 1)), l5, l6, l7], st) σ) ∧
  (∀ (L : ri_L) (st : List Value) (σ : ri_S), ev 73 (105, L, st) σ = ev 73 (11, L, st) σ) ∧
  (∀ (l0 l1 l2 l4 l5 l6 l7 : Option Value) (st : List Value) (σ : ri_S) (x : Int32), ev 73 (108, [l0, l1, l2, some (.int x), l4, l5, l6, l7], st) σ = ev 73 (109, [l0, l1, l2, some (.int x), l4, l5, l6, l7], .int x :: st) σ) ∧
  (∀ (L : ri_L) (σ : ri_S) (x : Int32), ev 73 (109, L, [.int x]) σ = some (some (.int x), σ)) :=
  ⟨fun l1 l2 l3 l4 l5 l6 l7 st σ x => ev_p ((TP_73 _).trans rfl) rfl,
   fun l0 l1 l2 l3 l4 l6 l7 st σ x => ev_p ((TP_73 _).trans rfl) rfl,
   fun l0 l1 l3 l4 l5 l6 l7 st σ x => ev_p ((TP_73 _).trans rfl) rfl,
   fun L st σ => ev_p ((TP_73 _).trans rfl) rfl,
   fun L st σ x y => ev_p ((TP_73 _).trans rfl) rfl,
   fun l0 l1 l2 l3 l5 l6 l7 st σ x => ev_p ((TP_73 _).trans rfl) rfl,
   fun L st σ => ev_p ((TP_73 _).trans rfl) rfl,
   fun l0 l1 l2 l4 l5 l6 l7 st σ x => ev_p ((TP_73 _).trans rfl) rfl,
   fun L σ x => ev_r ((TP_73 _).trans rfl) rfl⟩
theorem TP_74 (pc : Nat) : TT 74 pc = ri_find TL_74 pc := rfl
theorem E_74 (x0 : Nat) (x1 : Int32) (x2 : Int32) (σ : ri_S) : cal 74 [.ref x0, .int x1, .int x2] σ = ev 74 (0, [some (.ref x0), some (.int x1), some (.int x2), none, none, none, none, none], []) σ := rfl
theorem H_74_11 (l0 l1 l2 l3 l5 l6 l7 : Option Value) (st : List Value) (σ : ri_S) (x : Int32) : ev 74 (11, [l0, l1, l2, l3, some (.int x), l5, l6, l7], st) σ = ev 74 (13, [l0, l1, l2, l3, some (.int x), l5, l6, l7], .int x :: st) σ := ev_p ((TP_74 _).trans rfl) rfl
theorem I_74_0 :
  (∀ (L : ri_L) (st : List Value) (σ : ri_S), ev 74 (0, L, st) σ = ev 74 (1, L, .int 0 :: st) σ) ∧
  (∀ (l0 l1 l2 l3 l4 l5 l6 l7 : Option Value) (st : List Value) (σ : ri_S) (x : Int32), ev 74 (1, [l0, l1, l2, l3, l4, l5, l6, l7], .int x :: st) σ = ev 74 (2, [l0, l1, ri_clr l2, some (.int x), l4, l5, l6, l7], st) σ) ∧
  (∀ (l0 l1 l3 l4 l5 l6 l7 : Option Value) (st : List Value) (σ : ri_S) (x : Int32), ev 74 (2, [l0, l1, some (.int x), l3, l4, l5, l6, l7], st) σ = ev 74 (3, [l0, l1, some (.int x), l3, l4, l5, l6, l7], .int x :: st) σ) ∧
  (∀ (L : ri_L) (st : List Value) (σ : ri_S) (x : Int32), ev 74 (3, L, .int x :: st) σ = if 0 < x then ev 74 (8, L, st) σ else ev 74 (6, L, st) σ) ∧
  (∀ (l0 l1 l2 l4 l5 l6 l7 : Option Value) (st : List Value) (σ : ri_S) (x : Int32), ev 74 (6, [l0, l1, l2, some (.int x), l4, l5, l6, l7], st) σ = ev 74 (7, [l0, l1, l2, some (.int x), l4, l5, l6, l7], .int x :: st) σ) ∧
  (∀ (L : ri_L) (σ : ri_S) (x : Int32), ev 74 (7, L, [.int x]) σ = some (some (.int x), σ)) ∧
  (∀ (L : ri_L) (st : List Value) (σ : ri_S), ev 74 (8, L, st) σ = ev 74 (9, L, .int 0 :: st) σ) ∧
  (∀ (l0 l1 l2 l3 l4 l5 l6 l7 : Option Value) (st : List Value) (σ : ri_S) (x : Int32), ev 74 (9, [l0, l1, l2, l3, l4, l5, l6, l7], .int x :: st) σ = ev 74 (11, [l0, l1, l2, ri_clr l3, some (.int x), l5, l6, l7], st) σ) ∧
  (∀ (l1 l2 l3 l4 l5 l6 l7 : Option Value) (st : List Value) (σ : ri_S) (x : Nat), ev 74 (13, [some (.ref x), l1, l2, l3, l4, l5, l6, l7], st) σ = ev 74 (14, [some (.ref x), l1, l2, l3, l4, l5, l6, l7], .ref x :: st) σ) ∧
  (∀ (L : ri_L) (st : List Value) (σ : ri_S) (a : Nat), ev 74 (14, L, .ref a :: st) σ = tv_o 4 5 (σ.1 a) fun v => ev 74 (17, L, v :: st) σ) ∧
  (∀ (l0 l2 l3 l4 l5 l6 l7 : Option Value) (st : List Value) (σ : ri_S) (x : Int32), ev 74 (17, [l0, some (.int x), l2, l3, l4, l5, l6, l7], st) σ = ev 74 (18, [l0, some (.int x), l2, l3, l4, l5, l6, l7], .int x :: st) σ) ∧
  (∀ (L : ri_L) (st : List Value) (σ : ri_S), ev 74 (18, L, st) σ = ev 74 (20, L, .int 15 :: st) σ) ∧
  (∀ (L : ri_L) (st : List Value) (σ : ri_S) (x y : Int32), ev 74 (20, L, .int y :: .int x :: st) σ = if y = 0 then none else ev 74 (21, L, .int (x - x / y * y) :: st) σ) ∧
  (∀ (L : ri_L) (σ : ri_S) (a0 : Nat) (a1 : Int32) (s0 : Value), ev 74 (21, L, [.int a1, .ref a0, s0]) σ = (cal 140 [.ref a0, .int a1] σ).bind fun q => ev 74 (24, L, q.1.toList ++ [s0]) q.2) ∧
  (∀ (L : ri_L) (st : List Value) (σ : ri_S) (x y : Int32), ev 74 (24, L, .int y :: .int x :: st) σ = if y ≤ x then ev 74 (108, L, st) σ else ev 74 (27, L, st) σ) ∧
  (∀ (l1 l2 l3 l4 l5 l6 l7 : Option Value) (st : List Value) (σ : ri_S) (x : Nat), ev 74 (27, [some (.ref x), l1, l2, l3, l4, l5, l6, l7], st) σ = ev 74 (28, [some (.ref x), l1, l2, l3, l4, l5, l6, l7], .ref x :: st) σ) ∧
  (∀ (l0 l2 l3 l4 l5 l6 l7 : Option Value) (st : List Value) (σ : ri_S) (x : Int32), ev 74 (28, [l0, some (.int x), l2, l3, l4, l5, l6, l7], st) σ = ev 74 (29, [l0, some (.int x), l2, l3, l4, l5, l6, l7], .int x :: st) σ) ∧
  (∀ (l0 l1 l2 l3 l5 l6 l7 : Option Value) (st : List Value) (σ : ri_S) (x : Int32), ev 74 (29, [l0, l1, l2, l3, some (.int x), l5, l6, l7], st) σ = ev 74 (31, [l0, l1, l2, l3, some (.int x), l5, l6, l7], .int x :: st) σ) ∧
  (∀ (L : ri_L) (σ : ri_S) (a0 : Nat) (a1 : Int32) (a2 : Int32), ev 74 (31, L, [.int a2, .int a1, .ref a0]) σ = tv_k 4 (σ.1 a0) ((cal 66 [.ref a0, .int a1, .int a2] σ).bind fun q => ev 74 (34, L, q.1.toList ++ []) q.2)) ∧
  (∀ (l0 l1 l2 l3 l4 l5 l6 l7 : Option Value) (st : List Value) (σ : ri_S) (x : Int32), ev 74 (34, [l0, l1, l2, l3, l4, l5, l6, l7], .int x :: st) σ = ev 74 (36, [l0, l1, l2, l3, ri_clr l4, some (.int x), l6, l7], st) σ) ∧
  (∀ (l0 l1 l2 l3 l4 l6 l7 : Option Value) (st : List Value) (σ : ri_S) (x : Int32), ev 74 (36, [l0, l1, l2, l3, l4, some (.int x), l6, l7], st) σ = ev 74 (38, [l0, l1, l2, l3, l4, some (.int x), l6, l7], .int x :: st) σ) ∧
  (∀ (L : ri_L) (st : List Value) (σ : ri_S), ev 74 (38, L, st) σ = ev 74 (39, L, .int (-1) :: st) σ) ∧
  (∀ (L : ri_L) (st : List Value) (σ : ri_S) (x y : Int32), ev 74 (39, L, .int y :: .int x :: st) σ = if x = y then ev 74 (102, L, st) σ else ev 74 (42, L, st) σ) ∧
  (∀ (l1 l2 l3 l4 l5 l6 l7 : Option Value) (st : List Value) (σ : ri_S) (x : Nat), ev 74 (42, [some (.ref x), l1, l2, l3, l4, l5, l6, l7], st) σ = ev 74 (43, [some (.ref x), l1, l2, l3, l4, l5, l6, l7], .ref x :: st) σ) ∧
  (∀ (L : ri_L) (st : List Value) (σ : ri_S) (a : Nat), ev 74 (43, L, .ref a :: st) σ = tv_o 4 3 (σ.1 a) fun v => ev 74 (46, L, v :: st) σ) ∧
  (∀ (l0 l1 l2 l3 l4 l6 l7 : Option Value) (st : List Value) (σ : ri_S) (x : Int32), ev 74 (46, [l0, l1, l2, l3, l4, some (.int x), l6, l7], st) σ = ev 74 (48, [l0, l1, l2, l3, l4, some (.int x), l6, l7], .int x :: st) σ) ∧
  (∀ (L : ri_L) (σ : ri_S) (a0 : Nat) (a1 : Int32), ev 74 (48, L, [.int a1, .ref a0]) σ = (cal 140 [.ref a0, .int a1] σ).bind fun q => ev 74 (51, L, q.1.toList ++ []) q.2) ∧
  (∀ (l0 l1 l2 l3 l4 l5 l6 l7 : Option Value) (st : List Value) (σ : ri_S) (x : Int32), ev 74 (51, [l0, l1, l2, l3, l4, l5, l6, l7], .int x :: st) σ = ev 74 (53, [l0, l1, l2, l3, l4, ri_clr l5, some (.int x), l7], st) σ) ∧
  (∀ (l1 l2 l3 l4 l5 l6 l7 : Option Value) (st : List Value) (σ : ri_S) (x : Nat), ev 74 (53, [some (.ref x), l1, l2, l3, l4, l5, l6, l7], st) σ = ev 74 (54, [some (.ref x), l1, l2, l3, l4, l5, l6, l7], .ref x :: st) σ) ∧
  (∀ (L : ri_L) (st : List Value) (σ : ri_S) (a : Nat), ev 74 (54, L, .ref a :: st) σ = tv_o 4 8 (σ.1 a) fun v => ev 74 (57, L, v :: st) σ) ∧
  (∀ (l0 l1 l2 l3 l4 l5 l7 : Option Value) (st : List Value) (σ : ri_S) (x : Int32), ev 74 (57, [l0, l1, l2, l3, l4, l5, some (.int x), l7], st) σ = ev 74 (59, [l0, l1, l2, l3, l4, l5, some (.int x), l7], .int x :: st) σ) ∧
  (∀ (L : ri_L) (σ : ri_S) (a0 : Nat) (a1 : Int32), ev 74 (59, L, [.int a1, .ref a0]) σ = (cal 140 [.ref a0, .int a1] σ).bind fun q => ev 74 (62, L, q.1.toList ++ []) q.2) ∧
  (∀ (l0 l1 l2 l3 l4 l5 l6 l7 : Option Value) (st : List Value) (σ : ri_S) (x : Int32), ev 74 (62, [l0, l1, l2, l3, l4, l5, l6, l7], .int x :: st) σ = ev 74 (64, [l0, l1, l2, l3, l4, l5, ri_clr l6, some (.int x)], st) σ) ∧
  (∀ (l1 l2 l3 l4 l5 l6 l7 : Option Value) (st : List Value) (σ : ri_S) (x : Nat), ev 74 (64, [some (.ref x), l1, l2, l3, l4, l5, l6, l7], st) σ = ev 74 (65, [some (.ref x), l1, l2, l3, l4, l5, l6, l7], .ref x :: st) σ) ∧
  (∀ (L : ri_L) (st : List Value) (σ : ri_S) (a : Nat), ev 74 (65, L, .ref a :: st) σ = tv_o 4 8 (σ.1 a) fun v => ev 74 (68, L, v :: st) σ) ∧
  (∀ (l0 l1 l2 l3 l4 l5 l7 : Option Value) (st : List Value) (σ : ri_S) (x : Int32), ev 74 (68, [l0, l1, l2, l3, l4, l5, some (.int x), l7], st) σ = ev 74 (70, [l0, l1, l2, l3, l4, l5, some (.int x), l7], .int x :: st) σ) ∧
  (∀ (L : ri_L) (st : List Value) (σ : ri_S), ev 74 (70, L, st) σ = ev 74 (71, L, .int 0 :: st) σ) ∧
  (∀ (L : ri_L) (σ : ri_S) (a0 : Nat) (a1 : Int32) (a2 : Int32), ev 74 (71, L, [.int a2, .int a1, .ref a0]) σ = (cal 141 [.ref a0, .int a1, .int a2] σ).bind fun q => ev 74 (74, L, q.1.toList ++ []) q.2) ∧
  (∀ (l0 l1 l2 l4 l5 l6 l7 : Option Value) (st : List Value) (σ : ri_S) (x : Int32), ev 74 (74, [l0, l1, l2, some (.int x), l4, l5, l6, l7], st) σ = ev 74 (75, [l0, l1, l2, some (.int x), l4, l5, l6, l7], .int x :: st) σ) ∧
  (∀ (l0 l1 l2 l3 l4 l5 l6 : Option Value) (st : List Value) (σ : ri_S) (x : Int32), ev 74 (75, [l0, l1, l2, l3, l4, l5, l6, some (.int x)], st) σ = ev 74 (77, [l0, l1, l2, l3, l4, l5, l6, some (.int x)], .int x :: st) σ) :=
  ⟨fun L st σ => ev_p ((TP_74 _).trans rfl) rfl,
   fun l0 l1 l2 l3 l4 l5 l6 l7 st σ x => ev_p ((TP_74 _).trans rfl) rfl,
   fun l0 l1 l3 l4 l5 l6 l7 st σ x => ev_p ((TP_74 _).trans rfl) rfl,
   fun L st σ x => ev_b ((TP_74 _).trans rfl) rfl,
   fun l0 l1 l2 l4 l5 l6 l7 st σ x => ev_p ((TP_74 _).trans rfl) rfl,
   fun L σ x => ev_r ((TP_74 _).trans rfl) rfl,
   fun L st σ => ev_p ((TP_74 _).trans rfl) rfl,
   fun l0 l1 l2 l3 l4 l5 l6 l7 st σ x => ev_p ((TP_74 _).trans rfl) rfl,
   fun l1 l2 l3 l4 l5 l6 l7 st σ x => ev_p ((TP_74 _).trans rfl) rfl,
   fun L st σ a => ev_getf ((TP_74 _).trans rfl),
   fun l0 l2 l3 l4 l5 l6 l7 st σ x => ev_p ((TP_74 _).trans rfl) rfl,
   fun L st σ => ev_p ((TP_74 _).trans rfl) rfl,
   fun L st σ x y => ev_d ((TP_74 _).trans rfl) rfl,
   fun L σ a0 a1 s0 => ev_call ((TP_74 _).trans rfl) rfl rfl rfl rfl,
   fun L st σ x y => ev_b ((TP_74 _).trans rfl) rfl,
   fun l1 l2 l3 l4 l5 l6 l7 st σ x => ev_p ((TP_74 _).trans rfl) rfl,
   fun l0 l2 l3 l4 l5 l6 l7 st σ x => ev_p ((TP_74 _).trans rfl) rfl,
   fun l0 l1 l2 l3 l5 l6 l7 st σ x => ev_p ((TP_74 _).trans rfl) rfl,
   fun L σ a0 a1 a2 => ev_callv ((TP_74 _).trans rfl) rfl rfl rfl rfl,
   fun l0 l1 l2 l3 l4 l5 l6 l7 st σ x => ev_p ((TP_74 _).trans rfl) rfl,
   fun l0 l1 l2 l3 l4 l6 l7 st σ x => ev_p ((TP_74 _).trans rfl) rfl,
   fun L st σ => ev_p ((TP_74 _).trans rfl) rfl,
   fun L st σ x y => ev_b ((TP_74 _).trans rfl) rfl,
   fun l1 l2 l3 l4 l5 l6 l7 st σ x => ev_p ((TP_74 _).trans rfl) rfl,
   fun L st σ a => ev_getf ((TP_74 _).trans rfl),
   fun l0 l1 l2 l3 l4 l6 l7 st σ x => ev_p ((TP_74 _).trans rfl) rfl,
   fun L σ a0 a1 => ev_call ((TP_74 _).trans rfl) rfl rfl rfl rfl,
   fun l0 l1 l2 l3 l4 l5 l6 l7 st σ x => ev_p ((TP_74 _).trans rfl) rfl,
   fun l1 l2 l3 l4 l5 l6 l7 st σ x => ev_p ((TP_74 _).trans rfl) rfl,
   fun L st σ a => ev_getf ((TP_74 _).trans rfl),
   fun l0 l1 l2 l3 l4 l5 l7 st σ x => ev_p ((TP_74 _).trans rfl) rfl,
   fun L σ a0 a1 => ev_call ((TP_74 _).trans rfl) rfl rfl rfl rfl,
   fun l0 l1 l2 l3 l4 l5 l6 l7 st σ x => ev_p ((TP_74 _).trans rfl) rfl,
   fun l1 l2 l3 l4 l5 l6 l7 st σ x => ev_p ((TP_74 _).trans rfl) rfl,
   fun L st σ a => ev_getf ((TP_74 _).trans rfl),
   fun l0 l1 l2 l3 l4 l5 l7 st σ x => ev_p ((TP_74 _).trans rfl) rfl,
   fun L st σ => ev_p ((TP_74 _).trans rfl) rfl,
   fun L σ a0 a1 a2 => ev_call ((TP_74 _).trans rfl) rfl rfl rfl rfl,
   fun l0 l1 l2 l4 l5 l6 l7 st σ x => ev_p ((TP_74 _).trans rfl) rfl,
   fun l0 l1 l2 l3 l4 l5 l6 st σ x => ev_p ((TP_74 _).trans rfl) rfl⟩
theorem I_74_1 :
  (∀ (l1 l2 l3 l4 l5 l6 l7 : Option Value) (st : List Value) (σ : ri_S) (x : Nat), ev 74 (77, [some (.ref x), l1, l2, l3, l4, l5, l6, l7], st) σ = ev 74 (78, [some (.ref x), l1, l2, l3, l4, l5, l6, l7], .ref x :: st) σ) ∧
  (∀ (l0 l1 l2 l3 l4 l6 l7 : Option Value) (st : List Value) (σ : ri_S) (x : Int32), ev 74 (78, [l0, l1, l2, l3, l4, some (.int x), l6, l7], st) σ = ev 74 (80, [l0, l1, l2, l3, l4, some (.int x), l6, l7], .int x :: st) σ) ∧
  (∀ (l0 l1 l3 l4 l5 l6 l7 : Option Value) (st : List Value) (σ : ri_S) (x : Int32), ev 74 (80, [l0, l1, some (.int x), l3, l4, l5, l6, l7], st) σ = ev 74 (81, [l0, l1, some (.int x), l3, l4, l5, l6, l7], .int x :: st) σ) ∧
  (∀ (L : ri_L) (st : List Value) (σ : ri_S), ev 74 (81, L, st) σ = ev 74 (82, L, .int 1 :: st) σ) ∧
  (∀ (L : ri_L) (st : List Value) (σ : ri_S) (x y : Int32), ev 74 (82, L, .int y :: .int x :: st) σ = ev 74 (83, L, .int (x - y) :: st) σ) ∧
  (∀ (L : ri_L) (σ : ri_S) (a0 : Nat) (a1 : Int32) (a2 : Int32) (s0 s1 : Value), ev 74 (83, L, [.int a2, .int a1, .ref a0, s0, s1]) σ = (cal 73 [.ref a0, .int a1, .int a2] σ).bind fun q => ev 74 (86, L, q.1.toList ++ [s0, s1]) q.2) ∧
  (∀ (L : ri_L) (st : List Value) (σ : ri_S) (x y : Int32), ev 74 (86, L, .int y :: .int x :: st) σ = ev 74 (87, L, .int (x + y) :: st) σ) ∧
  (∀ (L : ri_L) (σ : ri_S) (x y : Int32), ev 74 (87, L, .int y :: .int x :: []) σ = ev 74 (90, L, .int (if x < y then y else x) :: []) σ) ∧
  (∀ (l0 l1 l2 l3 l4 l5 l6 l7 : Option Value) (st : List Value) (σ : ri_S) (x : Int32), ev 74 (90, [l0, l1, l2, l3, l4, l5, l6, l7], .int x :: st) σ = ev 74 (91, [l0, l1, ri_clr l2, some (.int x), l4, l5, l6, l7], st) σ) ∧
  (∀ (l1 l2 l3 l4 l5 l6 l7 : Option Value) (st : List Value) (σ : ri_S) (x : Nat), ev 74 (91, [some (.ref x), l1, l2, l3, l4, l5, l6, l7], st) σ = ev 74 (92, [some (.ref x), l1, l2, l3, l4, l5, l6, l7], .ref x :: st) σ) ∧
  (∀ (L : ri_L) (st : List Value) (σ : ri_S) (a : Nat), ev 74 (92, L, .ref a :: st) σ = tv_o 4 8 (σ.1 a) fun v => ev 74 (95, L, v :: st) σ) ∧
  (∀ (l0 l1 l2 l3 l4 l5 l7 : Option Value) (st : List Value) (σ : ri_S) (x : Int32), ev 74 (95, [l0, l1, l2, l3, l4, l5, some (.int x), l7], st) σ = ev 74 (97, [l0, l1, l2, l3, l4, l5, some (.int x), l7], .int x :: st) σ) ∧
  (∀ (l0 l1 l2 l3 l4 l5 l6 : Option Value) (st : List Value) (σ : ri_S) (x : Int32), ev 74 (97, [l0, l1, l2, l3, l4, l5, l6, some (.int x)], st) σ = ev 74 (99, [l0, l1, l2, l3, l4, l5, l6, some (.int x)], .int x :: st) σ) ∧
  (∀ (L : ri_L) (σ : ri_S) (a0 : Nat) (a1 : Int32) (a2 : Int32), ev 74 (99, L, [.int a2, .int a1, .ref a0]) σ = (cal 141 [.ref a0, .int a1, .int a2] σ).bind fun q => ev 74 (102, L, q.1.toList ++ []) q.2) ∧
  (∀ (l0 l1 l2 l3 l5 l6 l7 : Option Value) (st : List Value) (σ : ri_S) (x : Int32), ev 74 (102, [l0, l1, l2, l3, some (.int x), l5, l6, l7], st) σ = ev 74 (105, [l0, l1, l2, ri_clr l3, some (.int (x + 1)), l5, l6, l7], st) σ) ∧
  (∀ (L : ri_L) (st : List Value) (σ : ri_S), ev 74 (105, L, st) σ = ev 74 (11, L, st) σ) ∧
  (∀ (l0 l1 l2 l4 l5 l6 l7 : Option Value) (st : List Value) (σ : ri_S) (x : Int32), ev 74 (108, [l0, l1, l2, some (.int x), l4, l5, l6, l7], st) σ = ev 74 (109, [l0, l1, l2, some (.int x), l4, l5, l6, l7], .int x :: st) σ) ∧
  (∀ (L : ri_L) (σ : ri_S) (x : Int32), ev 74 (109, L, [.int x]) σ = some (some (.int x), σ)) :=
  ⟨fun l1 l2 l3 l4 l5 l6 l7 st σ x => ev_p ((TP_74 _).trans rfl) rfl,
   fun l0 l1 l2 l3 l4 l6 l7 st σ x => ev_p ((TP_74 _).trans rfl) rfl,
   fun l0 l1 l3 l4 l5 l6 l7 st σ x => ev_p ((TP_74 _).trans rfl) rfl,
   fun L st σ => ev_p ((TP_74 _).trans rfl) rfl,
   fun L st σ x y => ev_p ((TP_74 _).trans rfl) rfl,
   fun L σ a0 a1 a2 s0 s1 => ev_call ((TP_74 _).trans rfl) rfl rfl rfl rfl,
   fun L st σ x y => ev_p ((TP_74 _).trans rfl) rfl,
   fun L σ x y => ev_p ((TP_74 _).trans rfl) rfl,
   fun l0 l1 l2 l3 l4 l5 l6 l7 st σ x => ev_p ((TP_74 _).trans rfl) rfl,
   fun l1 l2 l3 l4 l5 l6 l7 st σ x => ev_p ((TP_74 _).trans rfl) rfl,
   fun L st σ a => ev_getf ((TP_74 _).trans rfl),
   fun l0 l1 l2 l3 l4 l5 l7 st σ x => ev_p ((TP_74 _).trans rfl) rfl,
   fun l0 l1 l2 l3 l4 l5 l6 st σ x => ev_p ((TP_74 _).trans rfl) rfl,
   fun L σ a0 a1 a2 => ev_call ((TP_74 _).trans rfl) rfl rfl rfl rfl,
   fun l0 l1 l2 l3 l5 l6 l7 st σ x => ev_p ((TP_74 _).trans rfl) rfl,
   fun L st σ => ev_p ((TP_74 _).trans rfl) rfl,
   fun l0 l1 l2 l4 l5 l6 l7 st σ x => ev_p ((TP_74 _).trans rfl) rfl,
   fun L σ x => ev_r ((TP_74 _).trans rfl) rfl⟩
theorem TP_75 (pc : Nat) : TT 75 pc = ri_find TL_75 pc := rfl
theorem E_75 (x0 : Nat) (x1 : Int32) (x2 : Int32) (σ : ri_S) : cal 75 [.ref x0, .int x1, .int x2] σ = ev 75 (0, [some (.ref x0), some (.int x1), some (.int x2), none, none, none, none, none], []) σ := rfl
theorem H_75_11 (l0 l1 l2 l3 l5 l6 l7 : Option Value) (st : List Value) (σ : ri_S) (x : Int32) : ev 75 (11, [l0, l1, l2, l3, some (.int x), l5, l6, l7], st) σ = ev 75 (13, [l0, l1, l2, l3, some (.int x), l5, l6, l7], .int x :: st) σ := ev_p ((TP_75 _).trans rfl) rfl
theorem I_75_0 :
  (∀ (L : ri_L) (st : List Value) (σ : ri_S), ev 75 (0, L, st) σ = ev 75 (1, L, .int 0 :: st) σ) ∧
  (∀ (l0 l1 l2 l3 l4 l5 l6 l7 : Option Value) (st : List Value) (σ : ri_S) (x : Int32), ev 75 (1, [l0, l1, l2, l3, l4, l5, l6, l7], .int x :: st) σ = ev 75 (2, [l0, l1, ri_clr l2, some (.int x), l4, l5, l6, l7], st) σ) ∧
  (∀ (l0 l1 l3 l4 l5 l6 l7 : Option Value) (st : List Value) (σ : ri_S) (x : Int32), ev 75 (2, [l0, l1, some (.int x), l3, l4, l5, l6, l7], st) σ = ev 75 (3, [l0, l1, some (.int x), l3, l4, l5, l6, l7], .int x :: st) σ) ∧
  (∀ (L : ri_L) (st : List Value) (σ : ri_S) (x : Int32), ev 75 (3, L, .int x :: st) σ = if 0 < x then ev 75 (8, L, st) σ else ev 75 (6, L, st) σ) ∧
  (∀ (l0 l1 l2 l4 l5 l6 l7 : Option Value) (st : List Value) (σ : ri_S) (x : Int32), ev 75 (6, [l0, l1, l2, some (.int x), l4, l5, l6, l7], st) σ = ev 75 (7, [l0, l1, l2, some (.int x), l4, l5, l6, l7], .int x :: st) σ) ∧
  (∀ (L : ri_L) (σ : ri_S) (x : Int32), ev 75 (7, L, [.int x]) σ = some (some (.int x), σ)) ∧
  (∀ (L : ri_L) (st : List Value) (σ : ri_S), ev 75 (8, L, st) σ = ev 75 (9, L, .int 0 :: st) σ) ∧
  (∀ (l0 l1 l2 l3 l4 l5 l6 l7 : Option Value) (st : List Value) (σ : ri_S) (x : Int32), ev 75 (9, [l0, l1, l2, l3, l4, l5, l6, l7], .int x :: st) σ = ev 75 (11, [l0, l1, l2, ri_clr l3, some (.int x), l5, l6, l7], st) σ) ∧
  (∀ (l1 l2 l3 l4 l5 l6 l7 : Option Value) (st : List Value) (σ : ri_S) (x : Nat), ev 75 (13, [some (.ref x), l1, l2, l3, l4, l5, l6, l7], st) σ = ev 75 (14, [some (.ref x), l1, l2, l3, l4, l5, l6, l7], .ref x :: st) σ) ∧
  (∀ (L : ri_L) (st : List Value) (σ : ri_S) (a : Nat), ev 75 (14, L, .ref a :: st) σ = tv_o 4 5 (σ.1 a) fun v => ev 75 (17, L, v :: st) σ) ∧
  (∀ (l0 l2 l3 l4 l5 l6 l7 : Option Value) (st : List Value) (σ : ri_S) (x : Int32), ev 75 (17, [l0, some (.int x), l2, l3, l4, l5, l6, l7], st) σ = ev 75 (18, [l0, some (.int x), l2, l3, l4, l5, l6, l7], .int x :: st) σ) ∧
  (∀ (L : ri_L) (st : List Value) (σ : ri_S), ev 75 (18, L, st) σ = ev 75 (20, L, .int 15 :: st) σ) ∧
  (∀ (L : ri_L) (st : List Value) (σ : ri_S) (x y : Int32), ev 75 (20, L, .int y :: .int x :: st) σ = if y = 0 then none else ev 75 (21, L, .int (x - x / y * y) :: st) σ) ∧
  (∀ (L : ri_L) (σ : ri_S) (a0 : Nat) (a1 : Int32) (s0 : Value), ev 75 (21, L, [.int a1, .ref a0, s0]) σ = (cal 140 [.ref a0, .int a1] σ).bind fun q => ev 75 (24, L, q.1.toList ++ [s0]) q.2) ∧
  (∀ (L : ri_L) (st : List Value) (σ : ri_S) (x y : Int32), ev 75 (24, L, .int y :: .int x :: st) σ = if y ≤ x then ev 75 (108, L, st) σ else ev 75 (27, L, st) σ) ∧
  (∀ (l1 l2 l3 l4 l5 l6 l7 : Option Value) (st : List Value) (σ : ri_S) (x : Nat), ev 75 (27, [some (.ref x), l1, l2, l3, l4, l5, l6, l7], st) σ = ev 75 (28, [some (.ref x), l1, l2, l3, l4, l5, l6, l7], .ref x :: st) σ) ∧
  (∀ (l0 l2 l3 l4 l5 l6 l7 : Option Value) (st : List Value) (σ : ri_S) (x : Int32), ev 75 (28, [l0, some (.int x), l2, l3, l4, l5, l6, l7], st) σ = ev 75 (29, [l0, some (.int x), l2, l3, l4, l5, l6, l7], .int x :: st) σ) ∧
  (∀ (l0 l1 l2 l3 l5 l6 l7 : Option Value) (st : List Value) (σ : ri_S) (x : Int32), ev 75 (29, [l0, l1, l2, l3, some (.int x), l5, l6, l7], st) σ = ev 75 (31, [l0, l1, l2, l3, some (.int x), l5, l6, l7], .int x :: st) σ) ∧
  (∀ (L : ri_L) (σ : ri_S) (a0 : Nat) (a1 : Int32) (a2 : Int32), ev 75 (31, L, [.int a2, .int a1, .ref a0]) σ = tv_k 4 (σ.1 a0) ((cal 66 [.ref a0, .int a1, .int a2] σ).bind fun q => ev 75 (34, L, q.1.toList ++ []) q.2)) ∧
  (∀ (l0 l1 l2 l3 l4 l5 l6 l7 : Option Value) (st : List Value) (σ : ri_S) (x : Int32), ev 75 (34, [l0, l1, l2, l3, l4, l5, l6, l7], .int x :: st) σ = ev 75 (36, [l0, l1, l2, l3, ri_clr l4, some (.int x), l6, l7], st) σ) ∧
  (∀ (l0 l1 l2 l3 l4 l6 l7 : Option Value) (st : List Value) (σ : ri_S) (x : Int32), ev 75 (36, [l0, l1, l2, l3, l4, some (.int x), l6, l7], st) σ = ev 75 (38, [l0, l1, l2, l3, l4, some (.int x), l6, l7], .int x :: st) σ) ∧
  (∀ (L : ri_L) (st : List Value) (σ : ri_S), ev 75 (38, L, st) σ = ev 75 (39, L, .int (-1) :: st) σ) ∧
  (∀ (L : ri_L) (st : List Value) (σ : ri_S) (x y : Int32), ev 75 (39, L, .int y :: .int x :: st) σ = if x = y then ev 75 (102, L, st) σ else ev 75 (42, L, st) σ) ∧
  (∀ (l1 l2 l3 l4 l5 l6 l7 : Option Value) (st : List Value) (σ : ri_S) (x : Nat), ev 75 (42, [some (.ref x), l1, l2, l3, l4, l5, l6, l7], st) σ = ev 75 (43, [some (.ref x), l1, l2, l3, l4, l5, l6, l7], .ref x :: st) σ) ∧
  (∀ (L : ri_L) (st : List Value) (σ : ri_S) (a : Nat), ev 75 (43, L, .ref a :: st) σ = tv_o 4 3 (σ.1 a) fun v => ev 75 (46, L, v :: st) σ) ∧
  (∀ (l0 l1 l2 l3 l4 l6 l7 : Option Value) (st : List Value) (σ : ri_S) (x : Int32), ev 75 (46, [l0, l1, l2, l3, l4, some (.int x), l6, l7], st) σ = ev 75 (48, [l0, l1, l2, l3, l4, some (.int x), l6, l7], .int x :: st) σ) ∧
  (∀ (L : ri_L) (σ : ri_S) (a0 : Nat) (a1 : Int32), ev 75 (48, L, [.int a1, .ref a0]) σ = (cal 140 [.ref a0, .int a1] σ).bind fun q => ev 75 (51, L, q.1.toList ++ []) q.2) ∧
  (∀ (l0 l1 l2 l3 l4 l5 l6 l7 : Option Value) (st : List Value) (σ : ri_S) (x : Int32), ev 75 (51, [l0, l1, l2, l3, l4, l5, l6, l7], .int x :: st) σ = ev 75 (53, [l0, l1, l2, l3, l4, ri_clr l5, some (.int x), l7], st) σ) ∧
  (∀ (l1 l2 l3 l4 l5 l6 l7 : Option Value) (st : List Value) (σ : ri_S) (x : Nat), ev 75 (53, [some (.ref x), l1, l2, l3, l4, l5, l6, l7], st) σ = ev 75 (54, [some (.ref x), l1, l2, l3, l4, l5, l6, l7], .ref x :: st) σ) ∧
  (∀ (L : ri_L) (st : List Value) (σ : ri_S) (a : Nat), ev 75 (54, L, .ref a :: st) σ = tv_o 4 8 (σ.1 a) fun v => ev 75 (57, L, v :: st) σ) ∧
  (∀ (l0 l1 l2 l3 l4 l5 l7 : Option Value) (st : List Value) (σ : ri_S) (x : Int32), ev 75 (57, [l0, l1, l2, l3, l4, l5, some (.int x), l7], st) σ = ev 75 (59, [l0, l1, l2, l3, l4, l5, some (.int x), l7], .int x :: st) σ) ∧
  (∀ (L : ri_L) (σ : ri_S) (a0 : Nat) (a1 : Int32), ev 75 (59, L, [.int a1, .ref a0]) σ = (cal 140 [.ref a0, .int a1] σ).bind fun q => ev 75 (62, L, q.1.toList ++ []) q.2) ∧
  (∀ (l0 l1 l2 l3 l4 l5 l6 l7 : Option Value) (st : List Value) (σ : ri_S) (x : Int32), ev 75 (62, [l0, l1, l2, l3, l4, l5, l6, l7], .int x :: st) σ = ev 75 (64, [l0, l1, l2, l3, l4, l5, ri_clr l6, some (.int x)], st) σ) ∧
  (∀ (l1 l2 l3 l4 l5 l6 l7 : Option Value) (st : List Value) (σ : ri_S) (x : Nat), ev 75 (64, [some (.ref x), l1, l2, l3, l4, l5, l6, l7], st) σ = ev 75 (65, [some (.ref x), l1, l2, l3, l4, l5, l6, l7], .ref x :: st) σ) ∧
  (∀ (L : ri_L) (st : List Value) (σ : ri_S) (a : Nat), ev 75 (65, L, .ref a :: st) σ = tv_o 4 8 (σ.1 a) fun v => ev 75 (68, L, v :: st) σ) ∧
  (∀ (l0 l1 l2 l3 l4 l5 l7 : Option Value) (st : List Value) (σ : ri_S) (x : Int32), ev 75 (68, [l0, l1, l2, l3, l4, l5, some (.int x), l7], st) σ = ev 75 (70, [l0, l1, l2, l3, l4, l5, some (.int x), l7], .int x :: st) σ) ∧
  (∀ (L : ri_L) (st : List Value) (σ : ri_S), ev 75 (70, L, st) σ = ev 75 (71, L, .int 0 :: st) σ) ∧
  (∀ (L : ri_L) (σ : ri_S) (a0 : Nat) (a1 : Int32) (a2 : Int32), ev 75 (71, L, [.int a2, .int a1, .ref a0]) σ = (cal 141 [.ref a0, .int a1, .int a2] σ).bind fun q => ev 75 (74, L, q.1.toList ++ []) q.2) ∧
  (∀ (l0 l1 l2 l4 l5 l6 l7 : Option Value) (st : List Value) (σ : ri_S) (x : Int32), ev 75 (74, [l0, l1, l2, some (.int x), l4, l5, l6, l7], st) σ = ev 75 (75, [l0, l1, l2, some (.int x), l4, l5, l6, l7], .int x :: st) σ) ∧
  (∀ (l0 l1 l2 l3 l4 l5 l6 : Option Value) (st : List Value) (σ : ri_S) (x : Int32), ev 75 (75, [l0, l1, l2, l3, l4, l5, l6, some (.int x)], st) σ = ev 75 (77, [l0, l1, l2, l3, l4, l5, l6, some (.int x)], .int x :: st) σ) :=
  ⟨fun L st σ => ev_p ((TP_75 _).trans rfl) rfl,
   fun l0 l1 l2 l3 l4 l5 l6 l7 st σ x => ev_p ((TP_75 _).trans rfl) rfl,
   fun l0 l1 l3 l4 l5 l6 l7 st σ x => ev_p ((TP_75 _).trans rfl) rfl,
   fun L st σ x => ev_b ((TP_75 _).trans rfl) rfl,
   fun l0 l1 l2 l4 l5 l6 l7 st σ x => ev_p ((TP_75 _).trans rfl) rfl,
   fun L σ x => ev_r ((TP_75 _).trans rfl) rfl,
   fun L st σ => ev_p ((TP_75 _).trans rfl) rfl,
   fun l0 l1 l2 l3 l4 l5 l6 l7 st σ x => ev_p ((TP_75 _).trans rfl) rfl,
   fun l1 l2 l3 l4 l5 l6 l7 st σ x => ev_p ((TP_75 _).trans rfl) rfl,
   fun L st σ a => ev_getf ((TP_75 _).trans rfl),
   fun l0 l2 l3 l4 l5 l6 l7 st σ x => ev_p ((TP_75 _).trans rfl) rfl,
   fun L st σ => ev_p ((TP_75 _).trans rfl) rfl,
   fun L st σ x y => ev_d ((TP_75 _).trans rfl) rfl,
   fun L σ a0 a1 s0 => ev_call ((TP_75 _).trans rfl) rfl rfl rfl rfl,
   fun L st σ x y => ev_b ((TP_75 _).trans rfl) rfl,
   fun l1 l2 l3 l4 l5 l6 l7 st σ x => ev_p ((TP_75 _).trans rfl) rfl,
   fun l0 l2 l3 l4 l5 l6 l7 st σ x => ev_p ((TP_75 _).trans rfl) rfl,
   fun l0 l1 l2 l3 l5 l6 l7 st σ x => ev_p ((TP_75 _).trans rfl) rfl,
   fun L σ a0 a1 a2 => ev_callv ((TP_75 _).trans rfl) rfl rfl rfl rfl,
   fun l0 l1 l2 l3 l4 l5 l6 l7 st σ x => ev_p ((TP_75 _).trans rfl) rfl,
   fun l0 l1 l2 l3 l4 l6 l7 st σ x => ev_p ((TP_75 _).trans rfl) rfl,
   fun L st σ => ev_p ((TP_75 _).trans rfl) rfl,
   fun L st σ x y => ev_b ((TP_75 _).trans rfl) rfl,
   fun l1 l2 l3 l4 l5 l6 l7 st σ x => ev_p ((TP_75 _).trans rfl) rfl,
   fun L st σ a => ev_getf ((TP_75 _).trans rfl),
   fun l0 l1 l2 l3 l4 l6 l7 st σ x => ev_p ((TP_75 _).trans rfl) rfl,
   fun L σ a0 a1 => ev_call ((TP_75 _).trans rfl) rfl rfl rfl rfl,
   fun l0 l1 l2 l3 l4 l5 l6 l7 st σ x => ev_p ((TP_75 _).trans rfl) rfl,
   fun l1 l2 l3 l4 l5 l6 l7 st σ x => ev_p ((TP_75 _).trans rfl) rfl,
   fun L st σ a => ev_getf ((TP_75 _).trans rfl),
   fun l0 l1 l2 l3 l4 l5 l7 st σ x => ev_p ((TP_75 _).trans rfl) rfl,
   fun L σ a0 a1 => ev_call ((TP_75 _).trans rfl) rfl rfl rfl rfl,
   fun l0 l1 l2 l3 l4 l5 l6 l7 st σ x => ev_p ((TP_75 _).trans rfl) rfl,
   fun l1 l2 l3 l4 l5 l6 l7 st σ x => ev_p ((TP_75 _).trans rfl) rfl,
   fun L st σ a => ev_getf ((TP_75 _).trans rfl),
   fun l0 l1 l2 l3 l4 l5 l7 st σ x => ev_p ((TP_75 _).trans rfl) rfl,
   fun L st σ => ev_p ((TP_75 _).trans rfl) rfl,
   fun L σ a0 a1 a2 => ev_call ((TP_75 _).trans rfl) rfl rfl rfl rfl,
   fun l0 l1 l2 l4 l5 l6 l7 st σ x => ev_p ((TP_75 _).trans rfl) rfl,
   fun l0 l1 l2 l3 l4 l5 l6 st σ x => ev_p ((TP_75 _).trans rfl) rfl⟩
theorem I_75_1 :
  (∀ (l1 l2 l3 l4 l5 l6 l7 : Option Value) (st : List Value) (σ : ri_S) (x : Nat), ev 75 (77, [some (.ref x), l1, l2, l3, l4, l5, l6, l7], st) σ = ev 75 (78, [some (.ref x), l1, l2, l3, l4, l5, l6, l7], .ref x :: st) σ) ∧
  (∀ (l0 l1 l2 l3 l4 l6 l7 : Option Value) (st : List Value) (σ : ri_S) (x : Int32), ev 75 (78, [l0, l1, l2, l3, l4, some (.int x), l6, l7], st) σ = ev 75 (80, [l0, l1, l2, l3, l4, some (.int x), l6, l7], .int x :: st) σ) ∧
  (∀ (l0 l1 l3 l4 l5 l6 l7 : Option Value) (st : List Value) (σ : ri_S) (x : Int32), ev 75 (80, [l0, l1, some (.int x), l3, l4, l5, l6, l7], st) σ = ev 75 (81, [l0, l1, some (.int x), l3, l4, l5, l6, l7], .int x :: st) σ) ∧
  (∀ (L : ri_L) (st : List Value) (σ : ri_S), ev 75 (81, L, st) σ = ev 75 (82, L, .int 1 :: st) σ) ∧
  (∀ (L : ri_L) (st : List Value) (σ : ri_S) (x y : Int32), ev 75 (82, L, .int y :: .int x :: st) σ = ev 75 (83, L, .int (x - y) :: st) σ) ∧
  (∀ (L : ri_L) (σ : ri_S) (a0 : Nat) (a1 : Int32) (a2 : Int32) (s0 s1 : Value), ev 75 (83, L, [.int a2, .int a1, .ref a0, s0, s1]) σ = (cal 74 [.ref a0, .int a1, .int a2] σ).bind fun q => ev 75 (86, L, q.1.toList ++ [s0, s1]) q.2) ∧
  (∀ (L : ri_L) (st : List Value) (σ : ri_S) (x y : Int32), ev 75 (86, L, .int y :: .int x :: st) σ = ev 75 (87, L, .int (x + y) :: st) σ) ∧
  (∀ (L : ri_L) (σ : ri_S) (x y : Int32), ev 75 (87, L, .int y :: .int x :: []) σ = ev 75 (90, L, .int (if x < y then y else x) :: []) σ) ∧
  (∀ (l0 l1 l2 l3 l4 l5 l6 l7 : Option Value) (st : List Value) (σ : ri_S) (x : Int32), ev 75 (90, [l0, l1, l2, l3, l4, l5, l6, l7], .int x :: st) σ = ev 75 (91, [l0, l1, ri_clr l2, some (.int x), l4, l5, l6, l7], st) σ) ∧
  (∀ (l1 l2 l3 l4 l5 l6 l7 : Option Value) (st : List Value) (σ : ri_S) (x : Nat), ev 75 (91, [some (.ref x), l1, l2, l3, l4, l5, l6, l7], st) σ = ev 75 (92, [some (.ref x), l1, l2, l3, l4, l5, l6, l7], .ref x :: st) σ) ∧
  (∀ (L : ri_L) (st : List Value) (σ : ri_S) (a : Nat), ev 75 (92, L, .ref a :: st) σ = tv_o 4 8 (σ.1 a) fun v => ev 75 (95, L, v :: st) σ) ∧
  (∀ (l0 l1 l2 l3 l4 l5 l7 : Option Value) (st : List Value) (σ : ri_S) (x : Int32), ev 75 (95, [l0, l1, l2, l3, l4, l5, some (.int x), l7], st) σ = ev 75 (97, [l0, l1, l2, l3, l4, l5, some (.int x), l7], .int x :: st) σ) ∧
  (∀ (l0 l1 l2 l3 l4 l5 l6 : Option Value) (st : List Value) (σ : ri_S) (x : Int32), ev 75 (97, [l0, l1, l2, l3, l4, l5, l6, some (.int x)], st) σ = ev 75 (99, [l0, l1, l2, l3, l4, l5, l6, some (.int x)], .int x :: st) σ) ∧
  (∀ (L : ri_L) (σ : ri_S) (a0 : Nat) (a1 : Int32) (a2 : Int32), ev 75 (99, L, [.int a2, .int a1, .ref a0]) σ = (cal 141 [.ref a0, .int a1, .int a2] σ).bind fun q => ev 75 (102, L, q.1.toList ++ []) q.2) ∧
  (∀ (l0 l1 l2 l3 l5 l6 l7 : Option Value) (st : List Value) (σ : ri_S) (x : Int32), ev 75 (102, [l0, l1, l2, l3, some (.int x), l5, l6, l7], st) σ = ev 75 (105, [l0, l1, l2, ri_clr l3, some (.int (x + 1)), l5, l6, l7], st) σ) ∧
  (∀ (L : ri_L) (st : List Value) (σ : ri_S), ev 75 (105, L, st) σ = ev 75 (11, L, st) σ) ∧
  (∀ (l0 l1 l2 l4 l5 l6 l7 : Option Value) (st : List Value) (σ : ri_S) (x : Int32), ev 75 (108, [l0, l1, l2, some (.int x), l4, l5, l6, l7], st) σ = ev 75 (109, [l0, l1, l2, some (.int x), l4, l5, l6, l7], .int x :: st) σ) ∧
  (∀ (L : ri_L) (σ : ri_S) (x : Int32), ev 75 (109, L, [.int x]) σ = some (some (.int x), σ)) :=
  ⟨fun l1 l2 l3 l4 l5 l6 l7 st σ x => ev_p ((TP_75 _).trans rfl) rfl,
   fun l0 l1 l2 l3 l4 l6 l7 st σ x => ev_p ((TP_75 _).trans rfl) rfl,
   fun l0 l1 l3 l4 l5 l6 l7 st σ x => ev_p ((TP_75 _).trans rfl) rfl,
   fun L st σ => ev_p ((TP_75 _).trans rfl) rfl,
   fun L st σ x y => ev_p ((TP_75 _).trans rfl) rfl,
   fun L σ a0 a1 a2 s0 s1 => ev_call ((TP_75 _).trans rfl) rfl rfl rfl rfl,
   fun L st σ x y => ev_p ((TP_75 _).trans rfl) rfl,
   fun L σ x y => ev_p ((TP_75 _).trans rfl) rfl,
   fun l0 l1 l2 l3 l4 l5 l6 l7 st σ x => ev_p ((TP_75 _).trans rfl) rfl,
   fun l1 l2 l3 l4 l5 l6 l7 st σ x => ev_p ((TP_75 _).trans rfl) rfl,
   fun L st σ a => ev_getf ((TP_75 _).trans rfl),
   fun l0 l1 l2 l3 l4 l5 l7 st σ x => ev_p ((TP_75 _).trans rfl) rfl,
   fun l0 l1 l2 l3 l4 l5 l6 st σ x => ev_p ((TP_75 _).trans rfl) rfl,
   fun L σ a0 a1 a2 => ev_call ((TP_75 _).trans rfl) rfl rfl rfl rfl,
   fun l0 l1 l2 l3 l5 l6 l7 st σ x => ev_p ((TP_75 _).trans rfl) rfl,
   fun L st σ => ev_p ((TP_75 _).trans rfl) rfl,
   fun l0 l1 l2 l4 l5 l6 l7 st σ x => ev_p ((TP_75 _).trans rfl) rfl,
   fun L σ x => ev_r ((TP_75 _).trans rfl) rfl⟩
theorem TP_76 (pc : Nat) : TT 76 pc = ri_find TL_76 pc := rfl
theorem E_76 (x0 : Nat) (x1 : Int32) (x2 : Int32) (σ : ri_S) : cal 76 [.ref x0, .int x1, .int x2] σ = ev 76 (0, [some (.ref x0), some (.int x1), some (.int x2), none, none, none, none, none], []) σ := rfl
theorem H_76_11 (l0 l1 l2 l3 l5 l6 l7 : Option Value) (st : List Value) (σ : ri_S) (x : Int32) : ev 76 (11, [l0, l1, l2, l3, some (.int x), l5, l6, l7], st) σ = ev 76 (13, [l0, l1, l2, l3, some (.int x), l5, l6, l7], .int x :: st) σ := ev_p ((TP_76 _).trans rfl) rfl
theorem I_76_0 :
  (∀ (L : ri_L) (st : List Value) (σ : ri_S), ev 76 (0, L, st) σ = ev 76 (1, L, .int 0 :: st) σ) ∧
  (∀ (l0 l1 l2 l3 l4 l5 l6 l7 : Option Value) (st : List Value) (σ : ri_S) (x : Int32), ev 76 (1, [l0, l1, l2, l3, l4, l5, l6, l7], .int x :: st) σ = ev 76 (2, [l0, l1, ri_clr l2, some (.int x), l4, l5, l6, l7], st) σ) ∧
  (∀ (l0 l1 l3 l4 l5 l6 l7 : Option Value) (st : List Value) (σ : ri_S) (x : Int32), ev 76 (2, [l0, l1, some (.int x), l3, l4, l5, l6, l7], st) σ = ev 76 (3, [l0, l1, some (.int x), l3, l4, l5, l6, l7], .int x :: st) σ) ∧
  (∀ (L : ri_L) (st : List Value) (σ : ri_S) (x : Int32), ev 76 (3, L, .int x :: st) σ = if 0 < x then ev 76 (8, L, st) σ else ev 76 (6, L, st) σ) ∧
  (∀ (l0 l1 l2 l4 l5 l6 l7 : Option Value) (st : List Value) (σ : ri_S) (x : Int32), ev 76 (6, [l0, l1, l2, some (.int x), l4, l5, l6, l7], st) σ = ev 76 (7, [l0, l1, l2, some (.int x), l4, l5, l6, l7], .int x :: st) σ) ∧
  (∀ (L : ri_L) (σ : ri_S) (x : Int32), ev 76 (7, L, [.int x]) σ = some (some (.int x), σ)) ∧
  (∀ (L : ri_L) (st : List Value) (σ : ri_S), ev 76 (8, L, st) σ = ev 76 (9, L, .int 0 :: st) σ) ∧
  (∀ (l0 l1 l2 l3 l4 l5 l6 l7 : Option Value) (st : List Value) (σ : ri_S) (x : Int32), ev 76 (9, [l0, l1, l2, l3, l4, l5, l6, l7], .int x :: st) σ = ev 76 (11, [l0, l1, l2, ri_clr l3, some (.int x), l5, l6, l7], st) σ) ∧
  (∀ (l1 l2 l3 l4 l5 l6 l7 : Option Value) (st : List Value) (σ : ri_S) (x : Nat), ev 76 (13, [some (.ref x), l1, l2, l3, l4, l5, l6, l7], st) σ = ev 76 (14, [some (.ref x), l1, l2, l3, l4, l5, l6, l7], .ref x :: st) σ) ∧
  (∀ (L : ri_L) (st : List Value) (σ : ri_S) (a : Nat), ev 76 (14, L, .ref a :: st) σ = tv_o 4 5 (σ.1 a) fun v => ev 76 (17, L, v :: st) σ) ∧
  (∀ (l0 l2 l3 l4 l5 l6 l7 : Option Value) (st : List Value) (σ : ri_S) (x : Int32), ev 76 (17, [l0, some (.int x), l2, l3, l4, l5, l6, l7], st) σ = ev 76 (18, [l0, some (.int x), l2, l3, l4, l5, l6, l7], .int x :: st) σ) ∧
  (∀ (L : ri_L) (st : List Value) (σ : ri_S), ev 76 (18, L, st) σ = ev 76 (20, L, .int 15 :: st) σ) ∧
  (∀ (L : ri_L) (st : List Value) (σ : ri_S) (x y : Int32), ev 76 (20, L, .int y :: .int x :: st) σ = if y = 0 then none else ev 76 (21, L, .int (x - x / y * y) :: st) σ) ∧
  (∀ (L : ri_L) (σ : ri_S) (a0 : Nat) (a1 : Int32) (s0 : Value), ev 76 (21, L, [.int a1, .ref a0, s0]) σ = (cal 140 [.ref a0, .int a1] σ).bind fun q => ev 76 (24, L, q.1.toList ++ [s0]) q.2) ∧
  (∀ (L : ri_L) (st : List Value) (σ : ri_S) (x y : Int32), ev 76 (24, L, .int y :: .int x :: st) σ = if y ≤ x then ev 76 (108, L, st) σ else ev 76 (27, L, st) σ) ∧
  (∀ (l1 l2 l3 l4 l5 l6 l7 : Option Value) (st : List Value) (σ : ri_S) (x : Nat), ev 76 (27, [some (.ref x), l1, l2, l3, l4, l5, l6, l7], st) σ = ev 76 (28, [some (.ref x), l1, l2, l3, l4, l5, l6, l7], .ref x :: st) σ) ∧
  (∀ (l0 l2 l3 l4 l5 l6 l7 : Option Value) (st : List Value) (σ : ri_S) (x : Int32), ev 76 (28, [l0, some (.int x), l2, l3, l4, l5, l6, l7], st) σ = ev 76 (29, [l0, some (.int x), l2, l3, l4, l5, l6, l7], .int x :: st) σ) ∧
  (∀ (l0 l1 l2 l3 l5 l6 l7 : Option Value) (st : List Value) (σ : ri_S) (x : Int32), ev 76 (29, [l0, l1, l2, l3, some (.int x), l5, l6, l7], st) σ = ev 76 (31, [l0, l1, l2, l3, some (.int x), l5, l6, l7], .int x :: st) σ) ∧
  (∀ (L : ri_L) (σ : ri_S) (a0 : Nat) (a1 : Int32) (a2 : Int32), ev 76 (31, L, [.int a2, .int a1, .ref a0]) σ = tv_k 4 (σ.1 a0) ((cal 66 [.ref a0, .int a1, .int a2] σ).bind fun q => ev 76 (34, L, q.1.toList ++ []) q.2)) ∧
  (∀ (l0 l1 l2 l3 l4 l5 l6 l7 : Option Value) (st : List Value) (σ : ri_S) (x : Int32), ev 76 (34, [l0, l1, l2, l3, l4, l5, l6, l7], .int x :: st) σ = ev 76 (36, [l0, l1, l2, l3, ri_clr l4, some (.int x), l6, l7], st) σ) ∧
  (∀ (l0 l1 l2 l3 l4 l6 l7 : Option Value) (st : List Value) (σ : ri_S) (x : Int32), ev 76 (36, [l0, l1, l2, l3, l4, some (.int x), l6, l7], st) σ = ev 76 (38, [l0, l1, l2, l3, l4, some (.int x), l6, l7], .int x :: st) σ) ∧
  (∀ (L : ri_L) (st : List Value) (σ : ri_S), ev 76 (38, L, st) σ = ev 76 (39, L, .int (-1) :: st) σ) ∧
  (∀ (L : ri_L) (st : List Value) (σ : ri_S) (x y : Int32), ev 76 (39, L, .int y :: .int x :: st) σ = if x = y then ev 76 (102, L, st) σ else ev 76 (42, L, st) σ) ∧
  (∀ (l1 l2 l3 l4 l5 l6 l7 : Option Value) (st : List Value) (σ : ri_S) (x : Nat), ev 76 (42, [some (.ref x), l1, l2, l3, l4, l5, l6, l7], st) σ = ev 76 (43, [some (.ref x), l1, l2, l3, l4, l5, l6, l7], .ref x :: st) σ) ∧
  (∀ (L : ri_L) (st : List Value) (σ : ri_S) (a : Nat), ev 76 (43, L, .ref a :: st) σ = tv_o 4 3 (σ.1 a) fun v => ev 76 (46, L, v :: st) σ) ∧
  (∀ (l0 l1 l2 l3 l4 l6 l7 : Option Value) (st : List Value) (σ : ri_S) (x : Int32), ev 76 (46, [l0, l1, l2, l3, l4, some (.int x), l6, l7], st) σ = ev 76 (48, [l0, l1, l2, l3, l4, some (.int x), l6, l7], .int x :: st) σ) ∧
  (∀ (L : ri_L) (σ : ri_S) (a0 : Nat) (a1 : Int32), ev 76 (48, L, [.int a1, .ref a0]) σ = (cal 140 [.ref a0, .int a1] σ).bind fun q => ev 76 (51, L, q.1.toList ++ []) q.2) ∧
  (∀ (l0 l1 l2 l3 l4 l5 l6 l7 : Option Value) (st : List Value) (σ : ri_S) (x : Int32), ev 76 (51, [l0, l1, l2, l3, l4, l5, l6, l7], .int x :: st) σ = ev 76 (53, [l0, l1, l2, l3, l4, ri_clr l5, some (.int x), l7], st) σ) ∧
  (∀ (l1 l2 l3 l4 l5 l6 l7 : Option Value) (st : List Value) (σ : ri_S) (x : Nat), ev 76 (53, [some (.ref x), l1, l2, l3, l4, l5, l6, l7], st) σ = ev 76 (54, [some (.ref x), l1, l2, l3, l4, l5, l6, l7], .ref x :: st) σ) ∧
  (∀ (L : ri_L) (st : List Value) (σ : ri_S) (a : Nat), ev 76 (54, L, .ref a :: st) σ = tv_o 4 8 (σ.1 a) fun v => ev 76 (57, L, v :: st) σ) ∧
  (∀ (l0 l1 l2 l3 l4 l5 l7 : Option Value) (st : List Value) (σ : ri_S) (x : Int32), ev 76 (57, [l0, l1, l2, l3, l4, l5, some (.int x), l7], st) σ = ev 76 (59, [l0, l1, l2, l3, l4, l5, some (.int x), l7], .int x :: st) σ) ∧
  (∀ (L : ri_L) (σ : ri_S) (a0 : Nat) (a1 : Int32), ev 76 (59, L, [.int a1, .ref a0]) σ = (cal 140 [.ref a0, .int a1] σ).bind fun q => ev 76 (62, L, q.1.toList ++ []) q.2) ∧
  (∀ (l0 l1 l2 l3 l4 l5 l6 l7 : Option Value) (st : List Value) (σ : ri_S) (x : Int32), ev 76 (62, [l0, l1, l2, l3, l4, l5, l6, l7], .int x :: st) σ = ev 76 (64, [l0, l1, l2, l3, l4, l5, ri_clr l6, some (.int x)], st) σ) ∧
  (∀ (l1 l2 l3 l4 l5 l6 l7 : Option Value) (st : List Value) (σ : ri_S) (x : Nat), ev 76 (64, [some (.ref x), l1, l2, l3, l4, l5, l6, l7], st) σ = ev 76 (65, [some (.ref x), l1, l2, l3, l4, l5, l6, l7], .ref x :: st) σ) ∧
  (∀ (L : ri_L) (st : List Value) (σ : ri_S) (a : Nat), ev 76 (65, L, .ref a :: st) σ = tv_o 4 8 (σ.1 a) fun v => ev 76 (68, L, v :: st) σ) ∧
  (∀ (l0 l1 l2 l3 l4 l5 l7 : Option Value) (st : List Value) (σ : ri_S) (x : Int32), ev 76 (68, [l0, l1, l2, l3, l4, l5, some (.int x), l7], st) σ = ev 76 (70, [l0, l1, l2, l3, l4, l5, some (.int x), l7], .int x :: st) σ) ∧
  (∀ (L : ri_L) (st : List Value) (σ : ri_S), ev 76 (70, L, st) σ = ev 76 (71, L, .int 0 :: st) σ) ∧
  (∀ (L : ri_L) (σ : ri_S) (a0 : Nat) (a1 : Int32) (a2 : Int32), ev 76 (71, L, [.int a2, .int a1, .ref a0]) σ = (cal 141 [.ref a0, .int a1, .int a2] σ).bind fun q => ev 76 (74, L, q.1.toList ++ []) q.2) ∧
  (∀ (l0 l1 l2 l4 l5 l6 l7 : Option Value) (st : List Value) (σ : ri_S) (x : Int32), ev 76 (74, [l0, l1, l2, some (.int x), l4, l5, l6, l7], st) σ = ev 76 (75, [l0, l1, l2, some (.int x), l4, l5, l6, l7], .int x :: st) σ) ∧
  (∀ (l0 l1 l2 l3 l4 l5 l6 : Option Value) (st : List Value) (σ : ri_S) (x : Int32), ev 76 (75, [l0, l1, l2, l3, l4, l5, l6, some (.int x)], st) σ = ev 76 (77, [l0, l1, l2, l3, l4, l5, l6, some (.int x)], .int x :: st) σ) :=
  ⟨fun L st σ => ev_p ((TP_76 _).trans rfl) rfl,
   fun l0 l1 l2 l3 l4 l5 l6 l7 st σ x => ev_p ((TP_76 _).trans rfl) rfl,
   fun l0 l1 l3 l4 l5 l6 l7 st σ x => ev_p ((TP_76 _).trans rfl) rfl,
   fun L st σ x => ev_b ((TP_76 _).trans rfl) rfl,
   fun l0 l1 l2 l4 l5 l6 l7 st σ x => ev_p ((TP_76 _).trans rfl) rfl,
   fun L σ x => ev_r ((TP_76 _).trans rfl) rfl,
   fun L st σ => ev_p ((TP_76 _).trans rfl) rfl,
   fun l0 l1 l2 l3 l4 l5 l6 l7 st σ x => ev_p ((TP_76 _).trans rfl) rfl,
   fun l1 l2 l3 l4 l5 l6 l7 st σ x => ev_p ((TP_76 _).trans rfl) rfl,
   fun L st σ a => ev_getf ((TP_76 _).trans rfl),
   fun l0 l2 l3 l4 l5 l6 l7 st σ x => ev_p ((TP_76 _).trans rfl) rfl,
   fun L st σ => ev_p ((TP_76 _).trans rfl) rfl,
   fun L st σ x y => ev_d ((TP_76 _).trans rfl) rfl,
   fun L σ a0 a1 s0 => ev_call ((TP_76 _).trans rfl) rfl rfl rfl rfl,
   fun L st σ x y => ev_b ((TP_76 _).trans rfl) rfl,
   fun l1 l2 l3 l4 l5 l6 l7 st σ x => ev_p ((TP_76 _).trans rfl) rfl,
   fun l0 l2 l3 l4 l5 l6 l7 st σ x => ev_p ((TP_76 _).trans rfl) rfl,
   fun l0 l1 l2 l3 l5 l6 l7 st σ x => ev_p ((TP_76 _).trans rfl) rfl,
   fun L σ a0 a1 a2 => ev_callv ((TP_76 _).trans rfl) rfl rfl rfl rfl,
   fun l0 l1 l2 l3 l4 l5 l6 l7 st σ x => ev_p ((TP_76 _).trans rfl) rfl,
   fun l0 l1 l2 l3 l4 l6 l7 st σ x => ev_p ((TP_76 _).trans rfl) rfl,
   fun L st σ => ev_p ((TP_76 _).trans rfl) rfl,
   fun L st σ x y => ev_b ((TP_76 _).trans rfl) rfl,
   fun l1 l2 l3 l4 l5 l6 l7 st σ x => ev_p ((TP_76 _).trans rfl) rfl,
   fun L st σ a => ev_getf ((TP_76 _).trans rfl),
   fun l0 l1 l2 l3 l4 l6 l7 st σ x => ev_p ((TP_76 _).trans rfl) rfl,
   fun L σ a0 a1 => ev_call ((TP_76 _).trans rfl) rfl rfl rfl rfl,
   fun l0 l1 l2 l3 l4 l5 l6 l7 st σ x => ev_p ((TP_76 _).trans rfl) rfl,
   fun l1 l2 l3 l4 l5 l6 l7 st σ x => ev_p ((TP_76 _).trans rfl) rfl,
   fun L st σ a => ev_getf ((TP_76 _).trans rfl),
   fun l0 l1 l2 l3 l4 l5 l7 st σ x => ev_p ((TP_76 _).trans rfl) rfl,
   fun L σ a0 a1 => ev_call ((TP_76 _).trans rfl) rfl rfl rfl rfl,
   fun l0 l1 l2 l3 l4 l5 l6 l7 st σ x => ev_p ((TP_76 _).trans rfl) rfl,
   fun l1 l2 l3 l4 l5 l6 l7 st σ x => ev_p ((TP_76 _).trans rfl) rfl,
   fun L st σ a => ev_getf ((TP_76 _).trans rfl),
   fun l0 l1 l2 l3 l4 l5 l7 st σ x => ev_p ((TP_76 _).trans rfl) rfl,
   fun L st σ => ev_p ((TP_76 _).trans rfl) rfl,
   fun L σ a0 a1 a2 => ev_call ((TP_76 _).trans rfl) rfl rfl rfl rfl,
   fun l0 l1 l2 l4 l5 l6 l7 st σ x => ev_p ((TP_76 _).trans rfl) rfl,
   fun l0 l1 l2 l3 l4 l5 l6 st σ x => ev_p ((TP_76 _).trans rfl) rfl⟩
theorem I_76_1 :
  (∀ (l1 l2 l3 l4 l5 l6 l7 : Option Value) (st : List Value) (σ : ri_S) (x : Nat), ev 76 (77, [some (.ref x), l1, l2, l3, l4, l5, l6, l7], st) σ = ev 76 (78, [some (.ref x), l1, l2, l3, l4, l5, l6, l7], .ref x :: st) σ) ∧
  (∀ (l0 l1 l2 l3 l4 l6 l7 : Option Value) (st : List Value) (σ : ri_S) (x : Int32), ev 76 (78, [l0, l1, l2, l3, l4, some (.int x), l6, l7], st) σ = ev 76 (80, [l0, l1, l2, l3, l4, some (.int x), l6, l7], .int x :: st) σ) ∧
  (∀ (l0 l1 l3 l4 l5 l6 l7 : Option Value) (st : List Value) (σ : ri_S) (x : Int32), ev 76 (80, [l0, l1, some (.int x), l3, l4, l5, l6, l7], st) σ = ev 76 (81, [l0, l1, some (.int x), l3, l4, l5, l6, l7], .int x :: st) σ) ∧
  (∀ (L : ri_L) (st : List Value) (σ : ri_S), ev 76 (81, L, st) σ = ev 76 (82, L, .int 1 :: st) σ) ∧
  (∀ (L : ri_L) (st : List Value) (σ : ri_S) (x y : Int32), ev 76 (82, L, .int y :: .int x :: st) σ = ev 76 (83, L, .int (x - y) :: st) σ) ∧
  (∀ (L : ri_L) (σ : ri_S) (a0 : Nat) (a1 : Int32) (a2 : Int32) (s0 s1 : Value), ev 76 (83, L, [.int a2, .int a1, .ref a0, s0, s1]) σ = (cal 75 [.ref a0, .int a1, .int a2] σ).bind fun q => ev 76 (86, L, q.1.toList ++ [s0, s1]) q.2) ∧
  (∀ (L : ri_L) (st : List Value) (σ : ri_S) (x y : Int32), ev 76 (86, L, .int y :: .int x :: st) σ = ev 76 (87, L, .int (x + y) :: st) σ) ∧
  (∀ (L : ri_L) (σ : ri_S) (x y : Int32), ev 76 (87, L, .int y :: .int x :: []) σ = ev 76 (90, L, .int (if x < y then y else x) :: []) σ) ∧
  (∀ (l0 l1 l2 l3 l4 l5 l6 l7 : Option Value) (st : List Value) (σ : ri_S) (x : Int32), ev 76 (90, [l0, l1, l2, l3, l4, l5, l6, l7], .int x :: st) σ = ev 76 (91, [l0, l1, ri_clr l2, some (.int x), l4, l5, l6, l7], st) σ) ∧
  (∀ (l1 l2 l3 l4 l5 l6 l7 : Option Value) (st : List Value) (σ : ri_S) (x : Nat), ev 76 (91, [some (.ref x), l1, l2, l3, l4, l5, l6, l7], st) σ = ev 76 (92, [some (.ref x), l1, l2, l3, l4, l5, l6, l7], .ref x :: st) σ) ∧
  (∀ (L : ri_L) (st : List Value) (σ : ri_S) (a : Nat), ev 76 (92, L, .ref a :: st) σ = tv_o 4 8 (σ.1 a) fun v => ev 76 (95, L, v :: st) σ) ∧
  (∀ (l0 l1 l2 l3 l4 l5 l7 : Option Value) (st : List Value) (σ : ri_S) (x : Int32), ev 76 (95, [l0, l1, l2, l3, l4, l5, some (.int x), l7], st) σ = ev 76 (97, [l0, l1, l2, l3, l4, l5, some (.int x), l7], .int x :: st) σ) ∧
  (∀ (l0 l1 l2 l3 l4 l5 l6 : Option Value) (st : List Value) (σ : ri_S) (x : Int32), ev 76 (97, [l0, l1, l2, l3, l4, l5, l6, some (.int x)], st) σ = ev 76 (99, [l0, l1, l2, l3, l4, l5, l6, some (.int x)], .int x :: st) σ) ∧
  (∀ (L : ri_L) (σ : ri_S) (a0 : Nat) (a1 : Int32) (a2 : Int32), ev 76 (99, L, [.int a2, .int a1, .ref a0]) σ = (cal 141 [.ref a0, .int a1, .int a2] σ).bind fun q => ev 76 (102, L, q.1.toList ++ []) q.2) ∧
  (∀ (l0 l1 l2 l3 l5 l6 l7 : Option Value) (st : List Value) (σ : ri_S) (x : Int32), ev 76 (102, [l0, l1, l2, l3, some (.int x), l5, l6, l7], st) σ = ev 76 (105, [l0, l1, l2, ri_clr l3, some (.int (x + 1)), l5, l6, l7], st) σ) ∧
  (∀ (L : ri_L) (st : List Value) (σ : ri_S), ev 76 (105, L, st) σ = ev 76 (11, L, st) σ) ∧
  (∀ (l0 l1 l2 l4 l5 l6 l7 : Option Value) (st : List Value) (σ : ri_S) (x : Int32), ev 76 (108, [l0, l1, l2, some (.int x), l4, l5, l6, l7], st) σ = ev 76 (109, [l0, l1, l2, some (.int x), l4, l5, l6, l7], .int x :: st) σ) ∧
  (∀ (L : ri_L) (σ : ri_S) (x : Int32), ev 76 (109, L, [.int x]) σ = some (some (.int x), σ)) :=
  ⟨fun l1 l2 l3 l4 l5 l6 l7 st σ x => ev_p ((TP_76 _).trans rfl) rfl,
   fun l0 l1 l2 l3 l4 l6 l7 st σ x => ev_p ((TP_76 _).trans rfl) rfl,
   fun l0 l1 l3 l4 l5 l6 l7 st σ x => ev_p ((TP_76 _).trans rfl) rfl,
   fun L st σ => ev_p ((TP_76 _).trans rfl) rfl,
   fun L st σ x y => ev_p ((TP_76 _).trans rfl) rfl,
   fun L σ a0 a1 a2 s0 s1 => ev_call ((TP_76 _).trans rfl) rfl rfl rfl rfl,
   fun L st σ x y => ev_p ((TP_76 _).trans rfl) rfl,
   fun L σ x y => ev_p ((TP_76 _).trans rfl) rfl,
   fun l0 l1 l2 l3 l4 l5 l6 l7 st σ x => ev_p ((TP_76 _).trans rfl) rfl,
   fun l1 l2 l3 l4 l5 l6 l7 st σ x => ev_p ((TP_76 _).trans rfl) rfl,
   fun L st σ a => ev_getf ((TP_76 _).trans rfl),
   fun l0 l1 l2 l3 l4 l5 l7 st σ x => ev_p ((TP_76 _).trans rfl) rfl,
   fun l0 l1 l2 l3 l4 l5 l6 st σ x => ev_p ((TP_76 _).trans rfl) rfl,
   fun L σ a0 a1 a2 => ev_call ((TP_76 _).trans rfl) rfl rfl rfl rfl,
   fun l0 l1 l2 l3 l5 l6 l7 st σ x => ev_p ((TP_76 _).trans rfl) rfl,
   fun L st σ => ev_p ((TP_76 _).trans rfl) rfl,
   fun l0 l1 l2 l4 l5 l6 l7 st σ x => ev_p ((TP_76 _).trans rfl) rfl,
   fun L σ x => ev_r ((TP_76 _).trans rfl) rfl⟩
theorem TP_77 (pc : Nat) : TT 77 pc = ri_find TL_77 pc := rfl
theorem E_77 (x0 : Nat) (x1 : Int32) (x2 : Int32) (σ : ri_S) : cal 77 [.ref x0, .int x1, .int x2] σ = ev 77 (0, [some (.ref x0), some (.int x1), some (.int x2), none, none, none, none, none], []) σ := rfl
theorem H_77_11 (l0 l1 l2 l3 l5 l6 l7 : Option Value) (st : List Value) (σ : ri_S) (x : Int32) : ev 77 (11, [l0, l1, l2, l3, some (.int x), l5, l6, l7], st) σ = ev 77 (13, [l0, l1, l2, l3, some (.int x), l5, l6, l7], .int x :: st) σ := ev_p ((TP_77 _).trans rfl) rfl
theorem I_77_0 :
  (∀ (L : ri_L) (st : List Value) (σ : ri_S), ev 77 (0, L, st) σ = ev 77 (1, L, .int 0 :: st) σ) ∧
  (∀ (l0 l1 l2 l3 l4 l5 l6 l7 : Option Value) (st : List Value) (σ : ri_S) (x : Int32), ev 77 (1, [l0, l1, l2, l3, l4, l5, l6, l7], .int x :: st) σ = ev 77 (2, [l0, l1, ri_clr l2, some (.int x), l4, l5, l6, l7], st) σ) ∧
  (∀ (l0 l1 l3 l4 l5 l6 l7 : Option Value) (st : List Value) (σ : ri_S) (x : Int32), ev 77 (2, [l0, l1, some (.int x), l3, l4, l5, l6, l7], st) σ = ev 77 (3, [l0, l1, some (.int x), l3, l4, l5, l6, l7], .int x :: st) σ) ∧
  (∀ (L : ri_L) (st : List Value) (σ : ri_S) (x : Int32), ev 77 (3, L, .int x :: st) σ = if 0 < x then ev 77 (8, L, st) σ else ev 77 (6, L, st) σ) ∧
  (∀ (l0 l1 l2 l4 l5 l6 l7 : Option Value) (st : List Value) (σ : ri_S) (x : Int32), ev 77 (6, [l0, l1, l2, some (.int x), l4, l5, l6, l7], st) σ = ev 77 (7, [l0, l1, l2, some (.int x), l4, l5, l6, l7], .int x :: st) σ) ∧
  (∀ (L : ri_L) (σ : ri_S) (x : Int32), ev 77 (7, L, [.int x]) σ = some (some (.int x), σ)) ∧
  (∀ (L : ri_L) (st : List Value) (σ : ri_S), ev 77 (8, L, st) σ = ev 77 (9, L, .int 0 :: st) σ) ∧
  (∀ (l0 l1 l2 l3 l4 l5 l6 l7 : Option Value) (st : List Value) (σ : ri_S) (x : Int32), ev 77 (9, [l0, l1, l2, l3, l4, l5, l6, l7], .int x :: st) σ = ev 77 (11, [l0, l1, l2, ri_clr l3, some (.int x), l5, l6, l7], st) σ) ∧
  (∀ (l1 l2 l3 l4 l5 l6 l7 : Option Value) (st : List Value) (σ : ri_S) (x : Nat), ev 77 (13, [some (.ref x), l1, l2, l3, l4, l5, l6, l7], st) σ = ev 77 (14, [some (.ref x), l1, l2, l3, l4, l5, l6, l7], .ref x :: st) σ) ∧
  (∀ (L : ri_L) (st : List Value) (σ : ri_S) (a : Nat), ev 77 (14, L, .ref a :: st) σ = tv_o 4 5 (σ.1 a) fun v => ev 77 (17, L, v :: st) σ) ∧
  (∀ (l0 l2 l3 l4 l5 l6 l7 : Option Value) (st : List Value) (σ : ri_S) (x : Int32), ev 77 (17, [l0, some (.int x), l2, l3, l4, l5, l6, l7], st) σ = ev 77 (18, [l0, some (.int x), l2, l3, l4, l5, l6, l7], .int x :: st) σ) ∧
  (∀ (L : ri_L) (st : List Value) (σ : ri_S), ev 77 (18, L, st) σ = ev 77 (20, L, .int 15 :: st) σ) ∧
  (∀ (L : ri_L) (st : List Value) (σ : ri_S) (x y : Int32), ev 77 (20, L, .int y :: .int x :: st) σ = if y = 0 then none else ev 77 (21, L, .int (x - x / y * y) :: st) σ) ∧
  (∀ (L : ri_L) (σ : ri_S) (a0 : Nat) (a1 : Int32) (s0 : Value), ev 77 (21, L, [.int a1, .ref a0, s0]) σ = (cal 140 [.ref a0, .int a1] σ).bind fun q => ev 77 (24, L, q.1.toList ++ [s0]) q.2) ∧
  (∀ (L : ri_L) (st : List Value) (σ : ri_S) (x y : Int32), ev 77 (24, L, .int y :: .int x :: st) σ = if y ≤ x then ev 77 (108, L, st) σ else ev 77 (27, L, st) σ) ∧
  (∀ (l1 l2 l3 l4 l5 l6 l7 : Option Value) (st : List Value) (σ : ri_S) (x : Nat), ev 77 (27, [some (.ref x), l1, l2, l3, l4, l5, l6, l7], st) σ = ev 77 (28, [some (.ref x), l1, l2, l3, l4, l5, l6, l7], .ref x :: st) σ) ∧
  (∀ (l0 l2 l3 l4 l5 l6 l7 : Option Value) (st : List Value) (σ : ri_S) (x : Int32), ev 77 (28, [l0, some (.int x), l2, l3, l4, l5, l6, l7], st) σ = ev 77 (29, [l0, some (.int x), l2, l3, l4, l5, l6, l7], .int x :: st) σ) ∧
  (∀ (l0 l1 l2 l3 l5 l6 l7 : Option Value) (st : List Value) (σ : ri_S) (x : Int32), ev 77 (29, [l0, l1, l2, l3, some (.int x), l5, l6, l7], st) σ = ev 77 (31, [l0, l1, l2, l3, some (.int x), l5, l6, l7], .int x :: st) σ) ∧
  (∀ (L : ri_L) (σ : ri_S) (a0 : Nat) (a1 : Int32) (a2 : Int32), ev 77 (31, L, [.int a2, .int a1, .ref a0]) σ = tv_k 4 (σ.1 a0) ((cal 66 [.ref a0, .int a1, .int a2] σ).bind fun q => ev 77 (34, L, q.1.toList ++ []) q.2)) ∧
  (∀ (l0 l1 l2 l3 l4 l5 l6 l7 : Option Value) (st : List Value) (σ : ri_S) (x : Int32), ev 77 (34, [l0, l1, l2, l3, l4, l5, l6, l7], .int x :: st) σ = ev 77 (36, [l0, l1, l2, l3, ri_clr l4, some (.int x), l6, l7], st) σ) ∧
  (∀ (l0 l1 l2 l3 l4 l6 l7 : Option Value) (st : List Value) (σ : ri_S) (x : Int32), ev 77 (36, [l0, l1, l2, l3, l4, some (.int x), l6, l7], st) σ = ev 77 (38, [l0, l1, l2, l3, l4, some (.int x), l6, l7], .int x :: st) σ) ∧
  (∀ (L : ri_L) (st : List Value) (σ : ri_S), ev 77 (38, L, st) σ = ev 77 (39, L, .int (-1) :: st) σ) ∧
  (∀ (L : ri_L) (st : List Value) (σ : ri_S) (x y : Int32), ev 77 (39, L, .int y :: .int x :: st) σ = if x = y then ev 77 (102, L, st) σ else ev 77 (42, L, st) σ) ∧
  (∀ (l1 l2 l3 l4 l5 l6 l7 : Option Value) (st : List Value) (σ : ri_S) (x : Nat), ev 77 (42, [some (.ref x), l1, l2, l3, l4, l5, l6, l7], st) σ = ev 77 (43, [some (.ref x), l1, l2, l3, l4, l5, l6, l7], .ref x :: st) σ) ∧
  (∀ (L : ri_L) (st : List Value) (σ : ri_S) (a : Nat), ev 77 (43, L, .ref a :: st) σ = tv_o 4 3 (σ.1 a) fun v => ev 77 (46, L, v :: st) σ) ∧
  (∀ (l0 l1 l2 l3 l4 l6 l7 : Option Value) (st : List Value) (σ : ri_S) (x : Int32), ev 77 (46, [l0, l1, l2, l3, l4, some (.int x), l6, l7], st) σ = ev 77 (48, [l0, l1, l2, l3, l4, some (.int x), l6, l7], .int x :: st) σ) ∧
  (∀ (L : ri_L) (σ : ri_S) (a0 : Nat) (a1 : Int32), ev 77 (48, L, [.int a1, .ref a0]) σ = (cal 140 [.ref a0, .int a1] σ).bind fun q => ev 77 (51, L, q.1.toList ++ []) q.2) ∧
  (∀ (l0 l1 l2 l3 l4 l5 l6 l7 : Option Value) (st : List Value) (σ : ri_S) (x : Int32), ev 77 (51, [l0, l1, l2, l3, l4, l5, l6, l7], .int x :: st) σ = ev 77 (53, [l0, l1, l2, l3, l4, ri_clr l5, some (.int x), l7], st) σ) ∧
  (∀ (l1 l2 l3 l4 l5 l6 l7 : Option Value) (st : List Value) (σ : ri_S) (x : Nat), ev 77 (53, [some (.ref x), l1, l2, l3, l4, l5, l6, l7], st) σ = ev 77 (54, [some (.ref x), l1, l2, l3, l4, l5, l6, l7], .ref x :: st) σ) ∧
  (∀ (L : ri_L) (st : List Value) (σ : ri_S) (a : Nat), ev 77 (54, L, .ref a :: st) σ = tv_o 4 8 (σ.1 a) fun v => ev 77 (57, L, v :: st) σ) ∧
  (∀ (l0 l1 l2 l3 l4 l5 l7 : Option Value) (st : List Value) (σ : ri_S) (x : Int32), ev 77 (57, [l0, l1, l2, l3, l4, l5, some (.int x), l7], st) σ = ev 77 (59, [l0, l1, l2, l3, l4, l5, some (.int x), l7], .int x :: st) σ) ∧
  (∀ (L : ri_L) (σ : ri_S) (a0 : Nat) (a1 : Int32), ev 77 (59, L, [.int a1, .ref a0]) σ = (cal 140 [.ref a0, .int a1] σ).bind fun q => ev 77 (62, L, q.1.toList ++ []) q.2) ∧
  (∀ (l0 l1 l2 l3 l4 l5 l6 l7 : Option Value) (st : List Value) (σ : ri_S) (x : Int32), ev 77 (62, [l0, l1, l2, l3, l4, l5, l6, l7], .int x :: st) σ = ev 77 (64, [l0, l1, l2, l3, l4, l5, ri_clr l6, some (.int x)], st) σ) ∧
  (∀ (l1 l2 l3 l4 l5 l6 l7 : Option Value) (st : List Value) (σ : ri_S) (x : Nat), ev 77 (64, [some (.ref x), l1, l2, l3, l4, l5, l6, l7], st) σ = ev 77 (65, [some (.ref x), l1, l2, l3, l4, l5, l6, l7], .ref x :: st) σ) ∧
  (∀ (L : ri_L) (st : List Value) (σ : ri_S) (a : Nat), ev 77 (65, L, .ref a :: st) σ = tv_o 4 8 (σ.1 a) fun v => ev 77 (68, L, v :: st) σ) ∧
  (∀ (l0 l1 l2 l3 l4 l5 l7 : Option Value) (st : List Value) (σ : ri_S) (x : Int32), ev 77 (68, [l0, l1, l2, l3, l4, l5, some (.int x), l7], st) σ = ev 77 (70, [l0, l1, l2, l3, l4, l5, some (.int x), l7], .int x :: st) σ) ∧
  (∀ (L : ri_L) (st : List Value) (σ : ri_S), ev 77 (70, L, st) σ = ev 77 (71, L, .int 0 :: st) σ) ∧
  (∀ (L : ri_L) (σ : ri_S) (a0 : Nat) (a1 : Int32) (a2 : Int32), ev 77 (71, L, [.int a2, .int a1, .ref a0]) σ = (cal 141 [.ref a0, .int a1, .int a2] σ).bind fun q => ev 77 (74, L, q.1.toList ++ []) q.2) ∧
  (∀ (l0 l1 l2 l4 l5 l6 l7 : Option Value) (st : List Value) (σ : ri_S) (x : Int32), ev 77 (74, [l0, l1, l2, some (.int x), l4, l5, l6, l7], st) σ = ev 77 (75, [l0, l1, l2, some (.int x), l4, l5, l6, l7], .int x :: st) σ) ∧
  (∀ (l0 l1 l2 l3 l4 l5 l6 : Option Value) (st : List Value) (σ : ri_S) (x : Int32), ev 77 (75, [l0, l1, l2, l3, l4, l5, l6, some (.int x)], st) σ = ev 77 (77, [l0, l1, l2, l3, l4, l5, l6, some (.int x)], .int x :: st) σ) :=
  ⟨fun L st σ => ev_p ((TP_77 _).trans rfl) rfl,
   fun l0 l1 l2 l3 l4 l5 l6 l7 st σ x => ev_p ((TP_77 _).trans rfl) rfl,
   fun l0 l1 l3 l4 l5 l6 l7 st σ x => ev_p ((TP_77 _).trans rfl) rfl,
   fun L st σ x => ev_b ((TP_77 _).trans rfl) rfl,
   fun l0 l1 l2 l4 l5 l6 l7 st σ x => ev_p ((TP_77 _).trans rfl) rfl,
   fun L σ x => ev_r ((TP_77 _).trans rfl) rfl,
   fun L st σ => ev_p ((TP_77 _).trans rfl) rfl,
   fun l0 l1 l2 l3 l4 l5 l6 l7 st σ x => ev_p ((TP_77 _).trans rfl) rfl,
   fun l1 l2 l3 l4 l5 l6 l7 st σ x => ev_p ((TP_77 _).trans rfl) rfl,
   fun L st σ a => ev_getf ((TP_77 _).trans rfl),
   fun l0 l2 l3 l4 l5 l6 l7 st σ x => ev_p ((TP_77 _).trans rfl) rfl,
   fun L st σ => ev_p ((TP_77 _).trans rfl) rfl,
   fun L st σ x y => ev_d ((TP_77 _).trans rfl) rfl,
   fun L σ a0 a1 s0 => ev_call ((TP_77 _).trans rfl) rfl rfl rfl rfl,
   fun L st σ x y => ev_b ((TP_77 _).trans rfl) rfl,
   fun l1 l2 l3 l4 l5 l6 l7 st σ x => ev_p ((TP_77 _).trans rfl) rfl,
   fun l0 l2 l3 l4 l5 l6 l7 st σ x => ev_p ((TP_77 _).trans rfl) rfl,
   fun l0 l1 l2 l3 l5 l6 l7 st σ x => ev_p ((TP_77 _).trans rfl) rfl,
   fun L σ a0 a1 a2 => ev_callv ((TP_77 _).trans rfl) rfl rfl rfl rfl,
   fun l0 l1 l2 l3 l4 l5 l6 l7 st σ x => ev_p ((TP_77 _).trans rfl) rfl,
   fun l0 l1 l2 l3 l4 l6 l7 st σ x => ev_p ((TP_77 _).trans rfl) rfl,
   fun L st σ => ev_p ((TP_77 _).trans rfl) rfl,
   fun L st σ x y => ev_b ((TP_77 _).trans rfl) rfl,
   fun l1 l2 l3 l4 l5 l6 l7 st σ x => ev_p ((TP_77 _).trans rfl) rfl,
   fun L st σ a => ev_getf ((TP_77 _).trans rfl),
   fun l0 l1 l2 l3 l4 l6 l7 st σ x => ev_p ((TP_77 _).trans rfl) rfl,
   fun L σ a0 a1 => ev_call ((TP_77 _).trans rfl) rfl rfl rfl rfl,
   fun l0 l1 l2 l3 l4 l5 l6 l7 st σ x => ev_p ((TP_77 _).trans rfl) rfl,
   fun l1 l2 l3 l4 l5 l6 l7 st σ x => ev_p ((TP_77 _).trans rfl) rfl,
   fun L st σ a => ev_getf ((TP_77 _).trans rfl),
   fun l0 l1 l2 l3 l4 l5 l7 st σ x => ev_p ((TP_77 _).trans rfl) rfl,
   fun L σ a0 a1 => ev_call ((TP_77 _).trans rfl) rfl rfl rfl rfl,
   fun l0 l1 l2 l3 l4 l5 l6 l7 st σ x => ev_p ((TP_77 _).trans rfl) rfl,
   fun l1 l2 l3 l4 l5 l6 l7 st σ x => ev_p ((TP_77 _).trans rfl) rfl,
   fun L st σ a => ev_getf ((TP_77 _).trans rfl),
   fun l0 l1 l2 l3 l4 l5 l7 st σ x => ev_p ((TP_77 _).trans rfl) rfl,
   fun L st σ => ev_p ((TP_77 _).trans rfl) rfl,
   fun L σ a0 a1 a2 => ev_call ((TP_77 _).trans rfl) rfl rfl rfl rfl,
   fun l0 l1 l2 l4 l5 l6 l7 st σ x => ev_p ((TP_77 _).trans rfl) rfl,
   fun l0 l1 l2 l3 l4 l5 l6 st σ x => ev_p ((TP_77 _).trans rfl) rfl⟩
theorem I_77_1 :
  (∀ (l1 l2 l3 l4 l5 l6 l7 : Option Value) (st : List Value) (σ : ri_S) (x : Nat), ev 77 (77, [some (.ref x), l1, l2, l3, l4, l5, l6, l7], st) σ = ev 77 (78, [some (.ref x), l1, l2, l3, l4, l5, l6, l7], .ref x :: st) σ) ∧
  (∀ (l0 l1 l2 l3 l4 l6 l7 : Option Value) (st : List Value) (σ : ri_S) (x : Int32), ev 77 (78, [l0, l1, l2, l3, l4, some (.int x), l6, l7], st) σ = ev 77 (80, [l0, l1, l2, l3, l4, some (.int x), l6, l7], .int x :: st) σ) ∧
  (∀ (l0 l1 l3 l4 l5 l6 l7 : Option Value) (st : List Value) (σ : ri_S) (x : Int32), ev 77 (80, [l0, l1, some (.int x), l3, l4, l5, l6, l7], st) σ = ev 77 (81, [l0, l1, some (.int x), l3, l4, l5, l6, l7], .int x :: st) σ) ∧
  (∀ (L : ri_L) (st : List Value) (σ : ri_S), ev 77 (81, L, st) σ = ev 77 (82, L, .int 1 :: st) σ) ∧
  (∀ (L : ri_L) (st : List Value) (σ : ri_S) (x y : Int32), ev 77 (82, L, .int y :: .int x :: st) σ = ev 77 (83, L, .int (x - y) :: st) σ) ∧
  (∀ (L : ri_L) (σ : ri_S) (a0 : Nat) (a1 : Int32) (a2 : Int32) (s0 s1 : Value), ev 77 (83, L, [.int a2, .int a1, .ref a0, s0, s1]) σ = (cal 76 [.ref a0, .int a1, .int a2] σ).bind fun q => ev 77 (86, L, q.1.toList ++ [s0, s1]) q.2) ∧
  (∀ (L : ri_L) (st : List Value) (σ : ri_S) (x y : Int32), ev 77 (86, L, .int y :: .int x :: st) σ = ev 77 (87, L, .int (x + y) :: st) σ) ∧
  (∀ (L : ri_L) (σ : ri_S) (x y : Int32), ev 77 (87, L, .int y :: .int x :: []) σ = ev 77 (90, L, .int (if x < y then y else x) :: []) σ) ∧
  (∀ (l0 l1 l2 l3 l4 l5 l6 l7 : Option Value) (st : List Value) (σ : ri_S) (x : Int32), ev 77 (90, [l0, l1, l2, l3, l4, l5, l6, l7], .int x :: st) σ = ev 77 (91, [l0, l1, ri_clr l2, some (.int x), l4, l5, l6, l7], st) σ) ∧
  (∀ (l1 l2 l3 l4 l5 l6 l7 : Option Value) (st : List Value) (σ : ri_S) (x : Nat), ev 77 (91, [some (.ref x), l1, l2, l3, l4, l5, l6, l7], st) σ = ev 77 (92, [some (.ref x), l1, l2, l3, l4, l5, l6, l7], .ref x :: st) σ) ∧
  (∀ (L : ri_L) (st : List Value) (σ : ri_S) (a : Nat), ev 77 (92, L, .ref a :: st) σ = tv_o 4 8 (σ.1 a) fun v => ev 77 (95, L, v :: st) σ) ∧
  (∀ (l0 l1 l2 l3 l4 l5 l7 : Option Value) (st : List Value) (σ : ri_S) (x : Int32), ev 77 (95, [l0, l1, l2, l3, l4, l5, some (.int x), l7], st) σ = ev 77 (97, [l0, l1, l2, l3, l4, l5, some (.int x), l7], .int x :: st) σ) ∧
  (∀ (l0 l1 l2 l3 l4 l5 l6 : Option Value) (st : List Value) (σ : ri_S) (x : Int32), ev 77 (97, [l0, l1, l2, l3, l4, l5, l6, some (.int x)], st) σ = ev 77 (99, [l0, l1, l2, l3, l4, l5, l6, some (.int x)], .int x :: st) σ) ∧
  (∀ (L : ri_L) (σ : ri_S) (a0 : Nat) (a1 : Int32) (a2 : Int32), ev 77 (99, L, [.int a2, .int a1, .ref a0]) σ = (cal 141 [.ref a0, .int a1, .int a2] σ).bind fun q => ev 77 (102, L, q.1.toList ++ []) q.2) ∧
  (∀ (l0 l1 l2 l3 l5 l6 l7 : Option Value) (st : List Value) (σ : ri_S) (x : Int32), ev 77 (102, [l0, l1, l2, l3, some (.int x), l5, l6, l7], st) σ = ev 77 (105, [l0, l1, l2, ri_clr l3, some (.int (x + 1)), l5, l6, l7], st) σ) ∧
  (∀ (L : ri_L) (st : List Value) (σ : ri_S), ev 77 (105, L, st) σ = ev 77 (11, L, st) σ) ∧
  (∀ (l0 l1 l2 l4 l5 l6 l7 : Option Value) (st : List Value) (σ : ri_S) (x : Int32), ev 77 (108, [l0, l1, l2, some (.int x), l4, l5, l6, l7], st) σ = ev 77 (109, [l0, l1, l2, some (.int x), l4, l5, l6, l7], .int x :: st) σ) ∧
  (∀ (L : ri_L) (σ : ri_S) (x : Int32), ev 77 (109, L, [.int x]) σ = some (some (.int x), σ)) :=
  ⟨fun l1 l2 l3 l4 l5 l6 l7 st σ x => ev_p ((TP_77 _).trans rfl) rfl,
   fun l0 l1 l2 l3 l4 l6 l7 st σ x => ev_p ((TP_77 _).trans rfl) rfl,
   fun l0 l1 l3 l4 l5 l6 l7 st σ x => ev_p ((TP_77 _).trans rfl) rfl,
   fun L st σ => ev_p ((TP_77 _).trans rfl) rfl,
   fun L st σ x y => ev_p ((TP_77 _).trans rfl) rfl,
   fun L σ a0 a1 a2 s0 s1 => ev_call ((TP_77 _).trans rfl) rfl rfl rfl rfl,
   fun L st σ x y => ev_p ((TP_77 _).trans rfl) rfl,
   fun L σ x y => ev_p ((TP_77 _).trans rfl) rfl,
   fun l0 l1 l2 l3 l4 l5 l6 l7 st σ x => ev_p ((TP_77 _).trans rfl) rfl,
   fun l1 l2 l3 l4 l5 l6 l7 st σ x => ev_p ((TP_77 _).trans rfl) rfl,
   fun L st σ a => ev_getf ((TP_77 _).trans rfl),
   fun l0 l1 l2 l3 l4 l5 l7 st σ x => ev_p ((TP_77 _).trans rfl) rfl,
   fun l0 l1 l2 l3 l4 l5 l6 st σ x => ev_p ((TP_77 _).trans rfl) rfl,
   fun L σ a0 a1 a2 => ev_call ((TP_77 _).trans rfl) rfl rfl rfl rfl,
   fun l0 l1 l2 l3 l5 l6 l7 st σ x => ev_p ((TP_77 _).trans rfl) rfl,
   fun L st σ => ev_p ((TP_77 _).trans rfl) rfl,
   fun l0 l1 l2 l4 l5 l6 l7 st σ x => ev_p ((TP_77 _).trans rfl) rfl,
   fun L σ x => ev_r ((TP_77 _).trans rfl) rfl⟩
theorem TP_78 (pc : Nat) : TT 78 pc = ri_find TL_78 pc := rfl
theorem E_78 (x0 : Nat) (x1 : Int64) (x2 : Int32) (σ : ri_S) : cal 78 [.ref x0, .long x1, .int x2] σ = ev 78 (0, [some (.ref x0), some (.long x1), none, some (.int x2), none, none, none], []) σ := rfl
theorem H_78_6 (l0 l1 l2 l3 l4 l5 : Option Value) (st : List Value) (σ : ri_S) (x : Int32) : ev 78 (6, [l0, l1, l2, l3, l4, l5, some (.int x)], st) σ = ev 78 (8, [l0, l1, l2, l3, l4, l5, some (.int x)], .int x :: st) σ := ev_p ((TP_78 _).trans rfl) rfl
theorem I_78 :
  (∀ (l0 l2 l3 l4 l5 l6 : Option Value) (st : List Value) (σ : ri_S) (x : Int64), ev 78 (0, [l0, some (.long x), l2, l3, l4, l5, l6], st) σ = ev 78 (1, [l0, some (.long x), l2, l3, l4, l5, l6], .long x :: st) σ) ∧
  (∀ (l0 l1 l2 l3 l4 l5 l6 : Option Value) (st : List Value) (σ : ri_S) (x : Int64), ev 78 (1, [l0, l1, l2, l3, l4, l5, l6], .long x :: st) σ = ev 78 (3, [l0, l1, l2, ri_clr l3, some (.long x), none, l6], st) σ) ∧
  (∀ (L : ri_L) (st : List Value) (σ : ri_S), ev 78 (3, L, st) σ = ev 78 (4, L, .int 0 :: st) σ) ∧
  (∀ (l0 l1 l2 l3 l4 l5 l6 : Option Value) (st : List Value) (σ : ri_S) (x : Int32), ev 78 (4, [l0, l1, l2, l3, l4, l5, l6], .int x :: st) σ = ev 78 (6, [l0, l1, l2, l3, l4, ri_clr l5, some (.int x)], st) σ) ∧
  (∀ (l0 l1 l2 l4 l5 l6 : Option Value) (st : List Value) (σ : ri_S) (x : Int32), ev 78 (8, [l0, l1, l2, some (.int x), l4, l5, l6], st) σ = ev 78 (9, [l0, l1, l2, some (.int x), l4, l5, l6], .int x :: st) σ) ∧
  (∀ (L : ri_L) (st : List Value) (σ : ri_S) (x y : Int32), ev 78 (9, L, .int y :: .int x :: st) σ = if y ≤ x then ev 78 (40, L, st) σ else ev 78 (12, L, st) σ) ∧
  (∀ (l0 l1 l2 l3 l5 l6 : Option Value) (st : List Value) (σ : ri_S) (x : Int64), ev 78 (12, [l0, l1, l2, l3, some (.long x), l5, l6], st) σ = ev 78 (14, [l0, l1, l2, l3, some (.long x), l5, l6], .long x :: st) σ) ∧
  (∀ (L : ri_L) (st : List Value) (σ : ri_S), ev 78 (14, L, st) σ = ev 78 (17, L, .long 6364136223846793005 :: st) σ) ∧
  (∀ (L : ri_L) (st : List Value) (σ : ri_S) (x y : Int64), ev 78 (17, L, .long y :: .long x :: st) σ = ev 78 (18, L, .long (x * y) :: st) σ) ∧
  (∀ (L : ri_L) (st : List Value) (σ : ri_S), ev 78 (18, L, st) σ = ev 78 (21, L, .long 1442695040888963407 :: st) σ) ∧
  (∀ (L : ri_L) (st : List Value) (σ : ri_S) (x y : Int64), ev 78 (21, L, .long y :: .long x :: st) σ = ev 78 (22, L, .long (x + y) :: st) σ) ∧
  (∀ (l0 l1 l2 l3 l4 l5 l6 : Option Value) (st : List Value) (σ : ri_S) (x : Int64), ev 78 (22, [l0, l1, l2, l3, l4, l5, l6], .long x :: st) σ = ev 78 (24, [l0, l1, l2, ri_clr l3, some (.long x), none, l6], st) σ) ∧
  (∀ (l1 l2 l3 l4 l5 l6 : Option Value) (st : List Value) (σ : ri_S) (x : Nat), ev 78 (24, [some (.ref x), l1, l2, l3, l4, l5, l6], st) σ = ev 78 (25, [some (.ref x), l1, l2, l3, l4, l5, l6], .ref x :: st) σ) ∧
  (∀ (l0 l1 l2 l3 l5 l6 : Option Value) (st : List Value) (σ : ri_S) (x : Int64), ev 78 (25, [l0, l1, l2, l3, some (.long x), l5, l6], st) σ = ev 78 (27, [l0, l1, l2, l3, some (.long x), l5, l6], .long x :: st) σ) ∧
  (∀ (L : ri_L) (st : List Value) (σ : ri_S), ev 78 (27, L, st) σ = ev 78 (29, L, .int 33 :: st) σ) ∧
  (∀ (L : ri_L) (st : List Value) (σ : ri_S) (x : Int64) (y : Int32), ev 78 (29, L, .int y :: .long x :: st) σ = ev 78 (30, L, .long ((x.toUInt64 >>> (y.toInt64.toUInt64 &&& Int64.toUInt64 63)).toInt64) :: st) σ) ∧
  (∀ (L : ri_L) (st : List Value) (σ : ri_S) (x : Int64), ev 78 (30, L, .long x :: st) σ = ev 78 (31, L, .int x.toInt32 :: st) σ) ∧
  (∀ (L : ri_L) (σ : ri_S) (a0 : Nat) (a1 : Int32), ev 78 (31, L, [.int a1, .ref a0]) σ = (cal 79 [.ref a0, .int a1] σ).bind fun q => ev 78 (34, L, q.1.toList ++ []) q.2) ∧
  (∀ (l0 l1 l2 l3 l4 l5 : Option Value) (st : List Value) (σ : ri_S) (x : Int32), ev 78 (34, [l0, l1, l2, l3, l4, l5, some (.int x)], st) σ = ev 78 (37, [l0, l1, l2, l3, l4, ri_clr l5, some (.int (x + 1))], st) σ) ∧
  (∀ (L : ri_L) (st : List Value) (σ : ri_S), ev 78 (37, L, st) σ = ev 78 (6, L, st) σ) ∧
  (∀ (L : ri_L) (σ : ri_S), ev 78 (40, L, []) σ = some (none, σ)) :=
  ⟨fun l0 l2 l3 l4 l5 l6 st σ x => ev_p ((TP_78 _).trans rfl) rfl,
   fun l0 l1 l2 l3 l4 l5 l6 st σ x => ev_p ((TP_78 _).trans rfl) rfl,
   fun L st σ => ev_p ((TP_78 _).trans rfl) rfl,
   fun l0 l1 l2 l3 l4 l5 l6 st σ x => ev_p ((TP_78 _).trans rfl) rfl,
   fun l0 l1 l2 l4 l5 l6 st σ x => ev_p ((TP_78 _).trans rfl) rfl,
   fun L st σ x y => ev_b ((TP_78 _).trans rfl) rfl,
   fun l0 l1 l2 l3 l5 l6 st σ x => ev_p ((TP_78 _).trans rfl) rfl,
   fun L st σ => ev_p ((TP_78 _).trans rfl) rfl,
   fun L st σ x y => ev_p ((TP_78 _).trans rfl) rfl,
   fun L st σ => ev_p ((TP_78 _).trans rfl) rfl,
   fun L st σ x y => ev_p ((TP_78 _).trans rfl) rfl,
   fun l0 l1 l2 l3 l4 l5 l6 st σ x => ev_p ((TP_78 _).trans rfl) rfl,
   fun l1 l2 l3 l4 l5 l6 st σ x => ev_p ((TP_78 _).trans rfl) rfl,
   fun l0 l1 l2 l3 l5 l6 st σ x => ev_p ((TP_78 _).trans rfl) rfl,
   fun L st σ => ev_p ((TP_78 _).trans rfl) rfl,
   fun L st σ x y => ev_p ((TP_78 _).trans rfl) rfl,
   fun L st σ x => ev_p ((TP_78 _).trans rfl) rfl,
   fun L σ a0 a1 => ev_call ((TP_78 _).trans rfl) rfl rfl rfl rfl,
   fun l0 l1 l2 l3 l4 l5 st σ x => ev_p ((TP_78 _).trans rfl) rfl,
   fun L st σ => ev_p ((TP_78 _).trans rfl) rfl,
   fun L σ => ev_r ((TP_78 _).trans rfl) rfl⟩
theorem TP_79 (pc : Nat) : TT 79 pc = ri_find TL_79 pc := rfl
theorem E_79 (x0 : Nat) (x1 : Int32) (σ : ri_S) : cal 79 [.ref x0, .int x1] σ = ev 79 (0, [some (.ref x0), some (.int x1), none, none], []) σ := rfl
set_option maxRecDepth 8000 in
theorem I_79_0 :
  (∀ (l0 l2 l3 : Option Value) (st : List Value) (σ : ri_S) (x : Int32), ev 79 (0, [l0, some (.int x), l2, l3], st) σ = ev 79 (1, [l0, some (.int x), l2, l3], .int x :: st) σ) ∧
  (∀ (L : ri_L) (st : List Value) (σ : ri_S), ev 79 (1, L, st) σ = ev 79 (3, L, .int 16 :: st) σ) ∧
  (∀ (L : ri_L) (st : List Value) (σ : ri_S) (x y : Int32), ev 79 (3, L, .int y :: .int x :: st) σ = if y = 0 then none else ev 79 (4, L, .int (x / y) :: st) σ) ∧
  (∀ (l0 l1 l2 l3 : Option Value) (st : List Value) (σ : ri_S) (x : Int32), ev 79 (4, [l0, l1, l2, l3], .int x :: st) σ = ev 79 (5, [l0, ri_clr l1, some (.int x), l3], st) σ) ∧
  (∀ (l0 l2 l3 : Option Value) (st : List Value) (σ : ri_S) (x : Int32), ev 79 (5, [l0, some (.int x), l2, l3], st) σ = ev 79 (6, [l0, some (.int x), l2, l3], .int x :: st) σ) ∧
  (∀ (L : ri_L) (st : List Value) (σ : ri_S), ev 79 (6, L, st) σ = ev 79 (8, L, .int 16 :: st) σ) ∧
  (∀ (L : ri_L) (st : List Value) (σ : ri_S) (x y : Int32), ev 79 (8, L, .int y :: .int x :: st) σ = if y = 0 then none else ev 79 (9, L, .int (x - x / y * y) :: st) σ) ∧
  (∀ (l0 l1 l2 l3 : Option Value) (st : List Value) (σ : ri_S) (x : Int32), ev 79 (9, [l0, l1, l2, l3], .int x :: st) σ = ev 79 (10, [l0, l1, ri_clr l2, some (.int x)], st) σ) ∧
  (∀ (l0 l1 l2 : Option Value) (st : List Value) (σ : ri_S) (x : Int32), ev 79 (10, [l0, l1, l2, some (.int x)], st) σ = ev 79 (11, [l0, l1, l2, some (.int x)], .int x :: st) σ) ∧
  (∀ (L : ri_L) (st : List Value) (σ : ri_S) (x : Int32), ev 79 (11, L, .int x :: st) σ = if ¬ x = 0 then ev 79 (42, L, st) σ else ev 79 (14, L, st) σ) ∧
  (∀ (l1 l2 l3 : Option Value) (st : List Value) (σ : ri_S) (x : Nat), ev 79 (14, [some (.ref x), l1, l2, l3], st) σ = ev 79 (15, [some (.ref x), l1, l2, l3], .ref x :: st) σ) ∧
  (∀ (L : ri_L) (st : List Value) (σ : ri_S), ev 79 (15, L, st) σ = ev 79 (16, L, .int 3 :: st) σ) ∧
  (∀ (l0 l1 l3 : Option Value) (st : List Value) (σ : ri_S) (x : Int32), ev 79 (16, [l0, l1, some (.int x), l3], st) σ = ev 79 (17, [l0, l1, some (.int x), l3], .int x :: st) σ) ∧
  (∀ (L : ri_L) (st : List Value) (σ : ri_S), ev 79 (17, L, st) σ = ev 79 (18, L, .int 3 :: st) σ) ∧
  (∀ (L : ri_L) (st : List Value) (σ : ri_S) (x y : Int32), ev 79 (18, L, .int y :: .int x :: st) σ = if y = 0 then none else ev 79 (19, L, .int (x - x / y * y) :: st) σ) ∧
  (∀ (L : ri_L) (st : List Value) (σ : ri_S) (x y : Int32), ev 79 (19, L, .int y :: .int x :: st) σ = ev 79 (20, L, .int (x + y) :: st) σ) ∧
  (∀ (l0 l1 l3 : Option Value) (st : List Value) (σ : ri_S) (x : Int32), ev 79 (20, [l0, l1, some (.int x), l3], st) σ = ev 79 (21, [l0, l1, some (.int x), l3], .int x :: st) σ) ∧
  (∀ (L : ri_L) (st : List Value) (σ : ri_S), ev 79 (21, L, st) σ = ev 79 (22, L, .int 4 :: st) σ) ∧
  (∀ (L : ri_L) (st : List Value) (σ : ri_S) (x y : Int32), ev 79 (22, L, .int y :: .int x :: st) σ = if y = 0 then none else ev 79 (23, L, .int (x / y) :: st) σ) ∧
  (∀ (L : ri_L) (st : List Value) (σ : ri_S), ev 79 (23, L, st) σ = ev 79 (25, L, .int 9 :: st) σ) ∧
  (∀ (L : ri_L) (st : List Value) (σ : ri_S) (x y : Int32), ev 79 (25, L, .int y :: .int x :: st) σ = if y = 0 then none else ev 79 (26, L, .int (x - x / y * y) :: st) σ) ∧
  (∀ (L : ri_L) (st : List Value) (σ : ri_S), ev 79 (26, L, st) σ = ev 79 (27, L, .int 4 :: st) σ) ∧
  (∀ (L : ri_L) (st : List Value) (σ : ri_S) (x y : Int32), ev 79 (27, L, .int y :: .int x :: st) σ = ev 79 (28, L, .int (x - y) :: st) σ) ∧
  (∀ (l0 l1 l3 : Option Value) (st : List Value) (σ : ri_S) (x : Int32), ev 79 (28, [l0, l1, some (.int x), l3], st) σ = ev 79 (29, [l0, l1, some (.int x), l3], .int x :: st) σ) ∧
  (∀ (L : ri_L) (st : List Value) (σ : ri_S), ev 79 (29, L, st) σ = ev 79 (31, L, .int 64 :: st) σ) ∧
  (∀ (L : ri_L) (st : List Value) (σ : ri_S) (x y : Int32), ev 79 (31, L, .int y :: .int x :: st) σ = if y = 0 then none else ev 79 (32, L, .int (x / y) :: st) σ) ∧
  (∀ (L : ri_L) (st : List Value) (σ : ri_S), ev 79 (32, L, st) σ = ev 79 (34, L, .int 31 :: st) σ) ∧
  (∀ (L : ri_L) (st : List Value) (σ : ri_S) (x y : Int32), ev 79 (34, L, .int y :: .int x :: st) σ = if y = 0 then none else ev 79 (35, L, .int (x - x / y * y) :: st) σ) ∧
  (∀ (L : ri_L) (σ : ri_S) (a0 : Nat) (a1 : Int32) (a2 : Int32) (a3 : Int32), ev 79 (35, L, [.int a3, .int a2, .int a1, .ref a0]) σ = tv_k 3 (σ.1 a0) ((cal 30 [.ref a0, .int a1, .int a2, .int a3] σ).bind fun q => ev 79 (38, L, q.1.toList ++ []) q.2)) ∧
  (∀ (L : ri_L) (st : List Value) (σ : ri_S) (x : Int32), ev 79 (38, L, .int x :: st) σ = ev 79 (39, L, st) σ) ∧
  (∀ (L : ri_L) (st : List Value) (σ : ri_S), ev 79 (39, L, st) σ = ev 79 (202, L, st) σ) ∧
  (∀ (l0 l1 l2 : Option Value) (st : List Value) (σ : ri_S) (x : Int32), ev 79 (42, [l0, l1, l2, some (.int x)], st) σ = ev 79 (43, [l0, l1, l2, some (.int x)], .int x :: st) σ) ∧
  (∀ (L : ri_L) (st : List Value) (σ : ri_S), ev 79 (43, L, st) σ = ev 79 (44, L, .int 2 :: st) σ) ∧
  (∀ (L : ri_L) (st : List Value) (σ : ri_S) (x y : Int32), ev 79 (44, L, .int y :: .int x :: st) σ = if y < x then ev 79 (76, L, st) σ else ev 79 (47, L, st) σ) ∧
  (∀ (l1 l2 l3 : Option Value) (st : List Value) (σ : ri_S) (x : Nat), ev 79 (47, [some (.ref x), l1, l2, l3], st) σ = ev 79 (48, [some (.ref x), l1, l2, l3], .ref x :: st) σ) ∧
  (∀ (l0 l1 l3 : Option Value) (st : List Value) (σ : ri_S) (x : Int32), ev 79 (48, [l0, l1, some (.int x), l3], st) σ = ev 79 (49, [l0, l1, some (.int x), l3], .int x :: st) σ) ∧
  (∀ (L : ri_L) (st : List Value) (σ : ri_S), ev 79 (49, L, st) σ = ev 79 (50, L, .int 3 :: st) σ) ∧
  (∀ (L : ri_L) (st : List Value) (σ : ri_S) (x y : Int32), ev 79 (50, L, .int y :: .int x :: st) σ = if y = 0 then none else ev 79 (51, L, .int (x - x / y * y) :: st) σ) ∧
  (∀ (l0 l1 l3 : Option Value) (st : List Value) (σ : ri_S) (x : Int32), ev 79 (51, [l0, l1, some (.int x), l3], st) σ = ev 79 (52, [l0, l1, some (.int x), l3], .int x :: st) σ) ∧
  (∀ (L : ri_L) (st : List Value) (σ : ri_S), ev 79 (52, L, st) σ = ev 79 (53, L, .int 4 :: st) σ) :=
  ⟨fun l0 l2 l3 st σ x => ev_p ((TP_79 _).trans rfl) rfl,
   fun L st σ => ev_p ((TP_79 _).trans rfl) rfl,
   fun L st σ x y => ev_d ((TP_79 _).trans rfl) rfl,
   fun l0 l1 l2 l3 st σ x => ev_p ((TP_79 _).trans rfl) rfl,
   fun l0 l2 l3 st σ x => ev_p ((TP_79 _).trans rfl) rfl,
   fun L st σ => ev_p ((TP_79 _).trans rfl) rfl,
   fun L st σ x y => ev_d ((TP_79 _).trans rfl) rfl,
   fun l0 l1 l2 l3 st σ x => ev_p ((TP_79 _).trans rfl) rfl,
   fun l0 l1 l2 st σ x => ev_p ((TP_79 _).trans rfl) rfl,
   fun L st σ x => ev_b ((TP_79 _).trans rfl) rfl,
   fun l1 l2 l3 st σ x => ev_p ((TP_79 _).trans rfl) rfl,
   fun L st σ => ev_p ((TP_79 _).trans rfl) rfl,
   fun l0 l1 l3 st σ x => ev_p ((TP_79 _).trans rfl) rfl,
   fun L st σ => ev_p ((TP_79 _).trans rfl) rfl,
   fun L st σ x y => ev_d ((TP_79 _).trans rfl) rfl,
   fun L st σ x y => ev_p ((TP_79 _).trans rfl) rfl,
   fun l0 l1 l3 st σ x => ev_p ((TP_79 _).trans rfl) rfl,
   fun L st σ => ev_p ((TP_79 _).trans rfl) rfl,
   fun L st σ x y => ev_d ((TP_79 _).trans rfl) rfl,
   fun L st σ => ev_p ((TP_79 _).trans rfl) rfl,
   fun L st σ x y => ev_d ((TP_79 _).trans rfl) rfl,
   fun L st σ => ev_p ((TP_79 _).trans rfl) rfl,
   fun L st σ x y => ev_p ((TP_79 _).trans rfl) rfl,
   fun l0 l1 l3 st σ x => ev_p ((TP_79 _).trans rfl) rfl,
   fun L st σ => ev_p ((TP_79 _).trans rfl) rfl,
   fun L st σ x y => ev_d ((TP_79 _).trans rfl) rfl,
   fun L st σ => ev_p ((TP_79 _).trans rfl) rfl,
   fun L st σ x y => ev_d ((TP_79 _).trans rfl) rfl,
   fun L σ a0 a1 a2 a3 => ev_callv ((TP_79 _).trans rfl) rfl rfl rfl rfl,
   fun L st σ x => ev_p ((TP_79 _).trans rfl) rfl,
   fun L st σ => ev_p ((TP_79 _).trans rfl) rfl,
   fun l0 l1 l2 st σ x => ev_p ((TP_79 _).trans rfl) rfl,
   fun L st σ => ev_p ((TP_79 _).trans rfl) rfl,
   fun L st σ x y => ev_b ((TP_79 _).trans rfl) rfl,
   fun l1 l2 l3 st σ x => ev_p ((TP_79 _).trans rfl) rfl,
   fun l0 l1 l3 st σ x => ev_p ((TP_79 _).trans rfl) rfl,
   fun L st σ => ev_p ((TP_79 _).trans rfl) rfl,
   fun L st σ x y => ev_d ((TP_79 _).trans rfl) rfl,
   fun l0 l1 l3 st σ x => ev_p ((TP_79 _).trans rfl) rfl,
   fun L st σ => ev_p ((TP_79 _).trans rfl) rfl⟩
set_option maxRecDepth 8000 in
theorem I_79_1 :
  (∀ (L : ri_L) (st : List Value) (σ : ri_S) (x y : Int32), ev 79 (53, L, .int y :: .int x :: st) σ = if y = 0 then none else ev 79 (54, L, .int (x / y) :: st) σ) ∧
  (∀ (L : ri_L) (st : List Value) (σ : ri_S), ev 79 (54, L, st) σ = ev 79 (55, L, .int 5 :: st) σ) ∧
  (∀ (L : ri_L) (st : List Value) (σ : ri_S) (x y : Int32), ev 79 (55, L, .int y :: .int x :: st) σ = if y = 0 then none else ev 79 (56, L, .int (x - x / y * y) :: st) σ) ∧
  (∀ (l0 l1 l3 : Option Value) (st : List Value) (σ : ri_S) (x : Int32), ev 79 (56, [l0, l1, some (.int x), l3], st) σ = ev 79 (57, [l0, l1, some (.int x), l3], .int x :: st) σ) ∧
  (∀ (L : ri_L) (st : List Value) (σ : ri_S), ev 79 (57, L, st) σ = ev 79 (59, L, .int 32 :: st) σ) ∧
  (∀ (L : ri_L) (st : List Value) (σ : ri_S) (x y : Int32), ev 79 (59, L, .int y :: .int x :: st) σ = if y = 0 then none else ev 79 (60, L, .int (x / y) :: st) σ) ∧
  (∀ (L : ri_L) (st : List Value) (σ : ri_S), ev 79 (60, L, st) σ = ev 79 (61, L, .int 3 :: st) σ) ∧
  (∀ (L : ri_L) (st : List Value) (σ : ri_S) (x y : Int32), ev 79 (61, L, .int y :: .int x :: st) σ = if y = 0 then none else ev 79 (62, L, .int (x - x / y * y) :: st) σ) ∧
  (∀ (l0 l1 l3 : Option Value) (st : List Value) (σ : ri_S) (x : Int32), ev 79 (62, [l0, l1, some (.int x), l3], st) σ = ev 79 (63, [l0, l1, some (.int x), l3], .int x :: st) σ) ∧
  (∀ (L : ri_L) (st : List Value) (σ : ri_S), ev 79 (63, L, st) σ = ev 79 (66, L, .int 128 :: st) σ) ∧
  (∀ (L : ri_L) (st : List Value) (σ : ri_S) (x y : Int32), ev 79 (66, L, .int y :: .int x :: st) σ = if y = 0 then none else ev 79 (67, L, .int (x / y) :: st) σ) ∧
  (∀ (L : ri_L) (st : List Value) (σ : ri_S), ev 79 (67, L, st) σ = ev 79 (68, L, .int 5 :: st) σ) ∧
  (∀ (L : ri_L) (st : List Value) (σ : ri_S) (x y : Int32), ev 79 (68, L, .int y :: .int x :: st) σ = if y = 0 then none else ev 79 (69, L, .int (x - x / y * y) :: st) σ) ∧
  (∀ (L : ri_L) (σ : ri_S) (a0 : Nat) (a1 : Int32) (a2 : Int32) (a3 : Int32) (a4 : Int32), ev 79 (69, L, [.int a4, .int a3, .int a2, .int a1, .ref a0]) σ = tv_k 3 (σ.1 a0) ((cal 31 [.ref a0, .int a1, .int a2, .int a3, .int a4] σ).bind fun q => ev 79 (72, L, q.1.toList ++ []) q.2)) ∧
  (∀ (L : ri_L) (st : List Value) (σ : ri_S) (x : Int32), ev 79 (72, L, .int x :: st) σ = ev 79 (73, L, st) σ) ∧
  (∀ (L : ri_L) (st : List Value) (σ : ri_S), ev 79 (73, L, st) σ = ev 79 (202, L, st) σ) ∧
  (∀ (l0 l1 l2 : Option Value) (st : List Value) (σ : ri_S) (x : Int32), ev 79 (76, [l0, l1, l2, some (.int x)], st) σ = ev 79 (77, [l0, l1, l2, some (.int x)], .int x :: st) σ) ∧
  (∀ (L : ri_L) (st : List Value) (σ : ri_S), ev 79 (77, L, st) σ = ev 79 (78, L, .int 3 :: st) σ) ∧
  (∀ (L : ri_L) (st : List Value) (σ : ri_S) (x y : Int32), ev 79 (78, L, .int y :: .int x :: st) σ = if ¬ x = y then ev 79 (106, L, st) σ else ev 79 (81, L, st) σ) ∧
  (∀ (l1 l2 l3 : Option Value) (st : List Value) (σ : ri_S) (x : Nat), ev 79 (81, [some (.ref x), l1, l2, l3], st) σ = ev 79 (82, [some (.ref x), l1, l2, l3], .ref x :: st) σ) ∧
  (∀ (l0 l1 l3 : Option Value) (st : List Value) (σ : ri_S) (x : Int32), ev 79 (82, [l0, l1, some (.int x), l3], st) σ = ev 79 (83, [l0, l1, some (.int x), l3], .int x :: st) σ) ∧
  (∀ (L : ri_L) (st : List Value) (σ : ri_S), ev 79 (83, L, st) σ = ev 79 (84, L, .int 3 :: st) σ) ∧
  (∀ (L : ri_L) (st : List Value) (σ : ri_S) (x y : Int32), ev 79 (84, L, .int y :: .int x :: st) σ = if y = 0 then none else ev 79 (85, L, .int (x - x / y * y) :: st) σ) ∧
  (∀ (l0 l1 l3 : Option Value) (st : List Value) (σ : ri_S) (x : Int32), ev 79 (85, [l0, l1, some (.int x), l3], st) σ = ev 79 (86, [l0, l1, some (.int x), l3], .int x :: st) σ) ∧
  (∀ (L : ri_L) (st : List Value) (σ : ri_S), ev 79 (86, L, st) σ = ev 79 (87, L, .int 4 :: st) σ) ∧
  (∀ (L : ri_L) (st : List Value) (σ : ri_S) (x y : Int32), ev 79 (87, L, .int y :: .int x :: st) σ = if y = 0 then none else ev 79 (88, L, .int (x / y) :: st) σ) ∧
  (∀ (L : ri_L) (st : List Value) (σ : ri_S), ev 79 (88, L, st) σ = ev 79 (89, L, .int 5 :: st) σ) ∧
  (∀ (L : ri_L) (st : List Value) (σ : ri_S) (x y : Int32), ev 79 (89, L, .int y :: .int x :: st) σ = if y = 0 then none else ev 79 (90, L, .int (x - x / y * y) :: st) σ) ∧
  (∀ (L : ri_L) (st : List Value) (σ : ri_S), ev 79 (90, L, st) σ = ev 79 (91, L, .int 1 :: st) σ) ∧
  (∀ (l0 l1 l3 : Option Value) (st : List Value) (σ : ri_S) (x : Int32), ev 79 (91, [l0, l1, some (.int x), l3], st) σ = ev 79 (92, [l0, l1, some (.int x), l3], .int x :: st) σ) ∧
  (∀ (L : ri_L) (st : List Value) (σ : ri_S), ev 79 (92, L, st) σ = ev 79 (94, L, .int 32 :: st) σ) ∧
  (∀ (L : ri_L) (st : List Value) (σ : ri_S) (x y : Int32), ev 79 (94, L, .int y :: .int x :: st) σ = if y = 0 then none else ev 79 (95, L, .int (x / y) :: st) σ) ∧
  (∀ (L : ri_L) (st : List Value) (σ : ri_S), ev 79 (95, L, st) σ = ev 79 (97, L, .int 9 :: st) σ) ∧
  (∀ (L : ri_L) (st : List Value) (σ : ri_S) (x y : Int32), ev 79 (97, L, .int y :: .int x :: st) σ = if y = 0 then none else ev 79 (98, L, .int (x - x / y * y) :: st) σ) ∧
  (∀ (L : ri_L) (st : List Value) (σ : ri_S) (x y : Int32), ev 79 (98, L, .int y :: .int x :: st) σ = ev 79 (99, L, .int (x + y) :: st) σ) ∧
  (∀ (L : ri_L) (σ : ri_S) (a0 : Nat) (a1 : Int32) (a2 : Int32) (a3 : Int32), ev 79 (99, L, [.int a3, .int a2, .int a1, .ref a0]) σ = tv_k 3 (σ.1 a0) ((cal 32 [.ref a0, .int a1, .int a2, .int a3] σ).bind fun q => ev 79 (102, L, q.1.toList ++ []) q.2)) ∧
  (∀ (L : ri_L) (st : List Value) (σ : ri_S) (x : Int32), ev 79 (102, L, .int x :: st) σ = ev 79 (103, L, st) σ) ∧
  (∀ (L : ri_L) (st : List Value) (σ : ri_S), ev 79 (103, L, st) σ = ev 79 (202, L, st) σ) ∧
  (∀ (l0 l1 l2 : Option Value) (st : List Value) (σ : ri_S) (x : Int32), ev 79 (106, [l0, l1, l2, some (.int x)], st) σ = ev 79 (107, [l0, l1, l2, some (.int x)], .int x :: st) σ) ∧
  (∀ (L : ri_L) (st : List Value) (σ : ri_S), ev 79 (107, L, st) σ = ev 79 (108, L, .int 4 :: st) σ) :=
  ⟨fun L st σ x y => ev_d ((TP_79 _).trans rfl) rfl,
   fun L st σ => ev_p ((TP_79 _).trans rfl) rfl,
   fun L st σ x y => ev_d ((TP_79 _).trans rfl) rfl,
   fun l0 l1 l3 st σ x => ev_p ((TP_79 _).trans rfl) rfl,
   fun L st σ => ev_p ((TP_79 _).trans rfl) rfl,
   fun L st σ x y => ev_d ((TP_79 _).trans rfl) rfl,
   fun L st σ => ev_p ((TP_79 _).trans rfl) rfl,
   fun L st σ x y => ev_d ((TP_79 _).trans rfl) rfl,
   fun l0 l1 l3 st σ x => ev_p ((TP_79 _).trans rfl) rfl,
   fun L st σ => ev_p ((TP_79 _).trans rfl) rfl,
   fun L st σ x y => ev_d ((TP_79 _).trans rfl) rfl,
   fun L st σ => ev_p ((TP_79 _).trans rfl) rfl,
   fun L st σ x y => ev_d ((TP_79 _).trans rfl) rfl,
   fun L σ a0 a1 a2 a3 a4 => ev_callv ((TP_79 _).trans rfl) rfl rfl rfl rfl,
   fun L st σ x => ev_p ((TP_79 _).trans rfl) rfl,
   fun L st σ => ev_p ((TP_79 _).trans rfl) rfl,
   fun l0 l1 l2 st σ x => ev_p ((TP_79 _).trans rfl) rfl,
   fun L st σ => ev_p ((TP_79 _).trans rfl) rfl,
   fun L st σ x y => ev_b ((TP_79 _).trans rfl) rfl,
   fun l1 l2 l3 st σ x => ev_p ((TP_79 _).trans rfl) rfl,
   fun l0 l1 l3 st σ x => ev_p ((TP_79 _).trans rfl) rfl,
   fun L st σ => ev_p ((TP_79 _).trans rfl) rfl,
   fun L st σ x y => ev_d ((TP_79 _).trans rfl) rfl,
   fun l0 l1 l3 st σ x => ev_p ((TP_79 _).trans rfl) rfl,
   fun L st σ => ev_p ((TP_79 _).trans rfl) rfl,
   fun L st σ x y => ev_d ((TP_79 _).trans rfl) rfl,
   fun L st σ => ev_p ((TP_79 _).trans rfl) rfl,
   fun L st σ x y => ev_d ((TP_79 _).trans rfl) rfl,
   fun L st σ => ev_p ((TP_79 _).trans rfl) rfl,
   fun l0 l1 l3 st σ x => ev_p ((TP_79 _).trans rfl) rfl,
   fun L st σ => ev_p ((TP_79 _).trans rfl) rfl,
   fun L st σ x y => ev_d ((TP_79 _).trans rfl) rfl,
   fun L st σ => ev_p ((TP_79 _).trans rfl) rfl,
   fun L st σ x y => ev_d ((TP_79 _).trans rfl) rfl,
   fun L st σ x y => ev_p ((TP_79 _).trans rfl) rfl,
   fun L σ a0 a1 a2 a3 => ev_callv ((TP_79 _).trans rfl) rfl rfl rfl rfl,
   fun L st σ x => ev_p ((TP_79 _).trans rfl) rfl,
   fun L st σ => ev_p ((TP_79 _).trans rfl) rfl,
   fun l0 l1 l2 st σ x => ev_p ((TP_79 _).trans rfl) rfl,
   fun L st σ => ev_p ((TP_79 _).trans rfl) rfl⟩
set_option maxRecDepth 8000 in
theorem I_79_2 :
  (∀ (L : ri_L) (st : List Value) (σ : ri_S) (x y : Int32), ev 79 (108, L, .int y :: .int x :: st) σ = if ¬ x = y then ev 79 (136, L, st) σ else ev 79 (111, L, st) σ) ∧
  (∀ (l1 l2 l3 : Option Value) (st : List Value) (σ : ri_S) (x : Nat), ev 79 (111, [some (.ref x), l1, l2, l3], st) σ = ev 79 (112, [some (.ref x), l1, l2, l3], .ref x :: st) σ) ∧
  (∀ (l0 l1 l3 : Option Value) (st : List Value) (σ : ri_S) (x : Int32), ev 79 (112, [l0, l1, some (.int x), l3], st) σ = ev 79 (113, [l0, l1, some (.int x), l3], .int x :: st) σ) ∧
  (∀ (L : ri_L) (st : List Value) (σ : ri_S), ev 79 (113, L, st) σ = ev 79 (114, L, .int 3 :: st) σ) ∧
  (∀ (L : ri_L) (st : List Value) (σ : ri_S) (x y : Int32), ev 79 (114, L, .int y :: .int x :: st) σ = if y = 0 then none else ev 79 (115, L, .int (x - x / y * y) :: st) σ) ∧
  (∀ (l0 l1 l3 : Option Value) (st : List Value) (σ : ri_S) (x : Int32), ev 79 (115, [l0, l1, some (.int x), l3], st) σ = ev 79 (116, [l0, l1, some (.int x), l3], .int x :: st) σ) ∧
  (∀ (L : ri_L) (st : List Value) (σ : ri_S), ev 79 (116, L, st) σ = ev 79 (117, L, .int 4 :: st) σ) ∧
  (∀ (L : ri_L) (st : List Value) (σ : ri_S) (x y : Int32), ev 79 (117, L, .int y :: .int x :: st) σ = if y = 0 then none else ev 79 (118, L, .int (x / y) :: st) σ) ∧
  (∀ (L : ri_L) (st : List Value) (σ : ri_S), ev 79 (118, L, st) σ = ev 79 (119, L, .int 5 :: st) σ) ∧
  (∀ (L : ri_L) (st : List Value) (σ : ri_S) (x y : Int32), ev 79 (119, L, .int y :: .int x :: st) σ = if y = 0 then none else ev 79 (120, L, .int (x - x / y * y) :: st) σ) ∧
  (∀ (L : ri_L) (st : List Value) (σ : ri_S), ev 79 (120, L, st) σ = ev 79 (121, L, .int 1 :: st) σ) ∧
  (∀ (l0 l1 l3 : Option Value) (st : List Value) (σ : ri_S) (x : Int32), ev 79 (121, [l0, l1, some (.int x), l3], st) σ = ev 79 (122, [l0, l1, some (.int x), l3], .int x :: st) σ) ∧
  (∀ (L : ri_L) (st : List Value) (σ : ri_S), ev 79 (122, L, st) σ = ev 79 (124, L, .int 32 :: st) σ) ∧
  (∀ (L : ri_L) (st : List Value) (σ : ri_S) (x y : Int32), ev 79 (124, L, .int y :: .int x :: st) σ = if y = 0 then none else ev 79 (125, L, .int (x / y) :: st) σ) ∧
  (∀ (L : ri_L) (st : List Value) (σ : ri_S), ev 79 (125, L, st) σ = ev 79 (127, L, .int 9 :: st) σ) ∧
  (∀ (L : ri_L) (st : List Value) (σ : ri_S) (x y : Int32), ev 79 (127, L, .int y :: .int x :: st) σ = if y = 0 then none else ev 79 (128, L, .int (x - x / y * y) :: st) σ) ∧
  (∀ (L : ri_L) (st : List Value) (σ : ri_S) (x y : Int32), ev 79 (128, L, .int y :: .int x :: st) σ = ev 79 (129, L, .int (x + y) :: st) σ) ∧
  (∀ (L : ri_L) (σ : ri_S) (a0 : Nat) (a1 : Int32) (a2 : Int32) (a3 : Int32), ev 79 (129, L, [.int a3, .int a2, .int a1, .ref a0]) σ = tv_k 3 (σ.1 a0) ((cal 33 [.ref a0, .int a1, .int a2, .int a3] σ).bind fun q => ev 79 (132, L, q.1.toList ++ []) q.2)) ∧
  (∀ (L : ri_L) (st : List Value) (σ : ri_S) (x : Int32), ev 79 (132, L, .int x :: st) σ = ev 79 (133, L, st) σ) ∧
  (∀ (L : ri_L) (st : List Value) (σ : ri_S), ev 79 (133, L, st) σ = ev 79 (202, L, st) σ) ∧
  (∀ (l0 l1 l2 : Option Value) (st : List Value) (σ : ri_S) (x : Int32), ev 79 (136, [l0, l1, l2, some (.int x)], st) σ = ev 79 (137, [l0, l1, l2, some (.int x)], .int x :: st) σ) ∧
  (∀ (L : ri_L) (st : List Value) (σ : ri_S), ev 79 (137, L, st) σ = ev 79 (138, L, .int 5 :: st) σ) ∧
  (∀ (L : ri_L) (st : List Value) (σ : ri_S) (x y : Int32), ev 79 (138, L, .int y :: .int x :: st) σ = if ¬ x = y then ev 79 (160, L, st) σ else ev 79 (141, L, st) σ) ∧
  (∀ (l1 l2 l3 : Option Value) (st : List Value) (σ : ri_S) (x : Nat), ev 79 (141, [some (.ref x), l1, l2, l3], st) σ = ev 79 (142, [some (.ref x), l1, l2, l3], .ref x :: st) σ) ∧
  (∀ (l0 l1 l3 : Option Value) (st : List Value) (σ : ri_S) (x : Int32), ev 79 (142, [l0, l1, some (.int x), l3], st) σ = ev 79 (143, [l0, l1, some (.int x), l3], .int x :: st) σ) ∧
  (∀ (L : ri_L) (st : List Value) (σ : ri_S), ev 79 (143, L, st) σ = ev 79 (144, L, .int 3 :: st) σ) ∧
  (∀ (L : ri_L) (st : List Value) (σ : ri_S) (x y : Int32), ev 79 (144, L, .int y :: .int x :: st) σ = if y = 0 then none else ev 79 (145, L, .int (x - x / y * y) :: st) σ) ∧
  (∀ (l0 l1 l3 : Option Value) (st : List Value) (σ : ri_S) (x : Int32), ev 79 (145, [l0, l1, some (.int x), l3], st) σ = ev 79 (146, [l0, l1, some (.int x), l3], .int x :: st) σ) ∧
  (∀ (L : ri_L) (st : List Value) (σ : ri_S), ev 79 (146, L, st) σ = ev 79 (147, L, .int 4 :: st) σ) ∧
  (∀ (L : ri_L) (st : List Value) (σ : ri_S) (x y : Int32), ev 79 (147, L, .int y :: .int x :: st) σ = if y = 0 then none else ev 79 (148, L, .int (x / y) :: st) σ) ∧
  (∀ (L : ri_L) (st : List Value) (σ : ri_S), ev 79 (148, L, st) σ = ev 79 (150, L, .int 9 :: st) σ) ∧
  (∀ (L : ri_L) (st : List Value) (σ : ri_S) (x y : Int32), ev 79 (150, L, .int y :: .int x :: st) σ = if y = 0 then none else ev 79 (151, L, .int (x - x / y * y) :: st) σ) ∧
  (∀ (L : ri_L) (st : List Value) (σ : ri_S), ev 79 (151, L, st) σ = ev 79 (152, L, .int 4 :: st) σ) ∧
  (∀ (L : ri_L) (st : List Value) (σ : ri_S) (x y : Int32), ev 79 (152, L, .int y :: .int x :: st) σ = ev 79 (153, L, .int (x - y) :: st) σ) ∧
  (∀ (L : ri_L) (σ : ri_S) (a0 : Nat) (a1 : Int32) (a2 : Int32), ev 79 (153, L, [.int a2, .int a1, .ref a0]) σ = tv_k 3 (σ.1 a0) ((cal 34 [.ref a0, .int a1, .int a2] σ).bind fun q => ev 79 (156, L, q.1.toList ++ []) q.2)) ∧
  (∀ (L : ri_L) (st : List Value) (σ : ri_S) (x : Int32), ev 79 (156, L, .int x :: st) σ = ev 79 (157, L, st) σ) ∧
  (∀ (L : ri_L) (st : List Value) (σ : ri_S), ev 79 (157, L, st) σ = ev 79 (202, L, st) σ) ∧
  (∀ (l0 l1 l2 : Option Value) (st : List Value) (σ : ri_S) (x : Int32), ev 79 (160, [l0, l1, l2, some (.int x)], st) σ = ev 79 (161, [l0, l1, l2, some (.int x)], .int x :: st) σ) ∧
  (∀ (L : ri_L) (st : List Value) (σ : ri_S), ev 79 (161, L, st) σ = ev 79 (163, L, .int 9 :: st) σ) ∧
  (∀ (L : ri_L) (st : List Value) (σ : ri_S) (x y : Int32), ev 79 (163, L, .int y :: .int x :: st) σ = if y < x then ev 79 (187, L, st) σ else ev 79 (166, L, st) σ) :=
  ⟨fun L st σ x y => ev_b ((TP_79 _).trans rfl) rfl,
   fun l1 l2 l3 st σ x => ev_p ((TP_79 _).trans rfl) rfl,
   fun l0 l1 l3 st σ x => ev_p ((TP_79 _).trans rfl) rfl,
   fun L st σ => ev_p ((TP_79 _).trans rfl) rfl,
   fun L st σ x y => ev_d ((TP_79 _).trans rfl) rfl,
   fun l0 l1 l3 st σ x => ev_p ((TP_79 _).trans rfl) rfl,
   fun L st σ => ev_p ((TP_79 _).trans rfl) rfl,
   fun L st σ x y => ev_d ((TP_79 _).trans rfl) rfl,
   fun L st σ => ev_p ((TP_79 _).trans rfl) rfl,
   fun L st σ x y => ev_d ((TP_79 _).trans rfl) rfl,
   fun L st σ => ev_p ((TP_79 _).trans rfl) rfl,
   fun l0 l1 l3 st σ x => ev_p ((TP_79 _).trans rfl) rfl,
   fun L st σ => ev_p ((TP_79 _).trans rfl) rfl,
   fun L st σ x y => ev_d ((TP_79 _).trans rfl) rfl,
   fun L st σ => ev_p ((TP_79 _).trans rfl) rfl,
   fun L st σ x y => ev_d ((TP_79 _).trans rfl) rfl,
   fun L st σ x y => ev_p ((TP_79 _).trans rfl) rfl,
   fun L σ a0 a1 a2 a3 => ev_callv ((TP_79 _).trans rfl) rfl rfl rfl rfl,
   fun L st σ x => ev_p ((TP_79 _).trans rfl) rfl,
   fun L st σ => ev_p ((TP_79 _).trans rfl) rfl,
   fun l0 l1 l2 st σ x => ev_p ((TP_79 _).trans rfl) rfl,
   fun L st σ => ev_p ((TP_79 _).trans rfl) rfl,
   fun L st σ x y => ev_b ((TP_79 _).trans rfl) rfl,
   fun l1 l2 l3 st σ x => ev_p ((TP_79 _).trans rfl) rfl,
   fun l0 l1 l3 st σ x => ev_p ((TP_79 _).trans rfl) rfl,
   fun L st σ => ev_p ((TP_79 _).trans rfl) rfl,
   fun L st σ x y => ev_d ((TP_79 _).trans rfl) rfl,
   fun l0 l1 l3 st σ x => ev_p ((TP_79 _).trans rfl) rfl,
   fun L st σ => ev_p ((TP_79 _).trans rfl) rfl,
   fun L st σ x y => ev_d ((TP_79 _).trans rfl) rfl,
   fun L st σ => ev_p ((TP_79 _).trans rfl) rfl,
   fun L st σ x y => ev_d ((TP_79 _).trans rfl) rfl,
   fun L st σ => ev_p ((TP_79 _).trans rfl) rfl,
   fun L st σ x y => ev_p ((TP_79 _).trans rfl) rfl,
   fun L σ a0 a1 a2 => ev_callv ((TP_79 _).trans rfl) rfl rfl rfl rfl,
   fun L st σ x => ev_p ((TP_79 _).trans rfl) rfl,
   fun L st σ => ev_p ((TP_79 _).trans rfl) rfl,
   fun l0 l1 l2 st σ x => ev_p ((TP_79 _).trans rfl) rfl,
   fun L st σ => ev_p ((TP_79 _).trans rfl) rfl,
   fun L st σ x y => ev_b ((TP_79 _).trans rfl) rfl⟩
set_option maxRecDepth 8000 in
theorem I_79_3 :
  (∀ (l1 l2 l3 : Option Value) (st : List Value) (σ : ri_S) (x : Nat), ev 79 (166, [some (.ref x), l1, l2, l3], st) σ = ev 79 (167, [some (.ref x), l1, l2, l3], .ref x :: st) σ) ∧
  (∀ (l0 l1 l3 : Option Value) (st : List Value) (σ : ri_S) (x : Int32), ev 79 (167, [l0, l1, some (.int x), l3], st) σ = ev 79 (168, [l0, l1, some (.int x), l3], .int x :: st) σ) ∧
  (∀ (L : ri_L) (st : List Value) (σ : ri_S), ev 79 (168, L, st) σ = ev 79 (169, L, .int 5 :: st) σ) ∧
  (∀ (L : ri_L) (st : List Value) (σ : ri_S) (x y : Int32), ev 79 (169, L, .int y :: .int x :: st) σ = if y = 0 then none else ev 79 (170, L, .int (x - x / y * y) :: st) σ) ∧
  (∀ (L : ri_L) (st : List Value) (σ : ri_S), ev 79 (170, L, st) σ = ev 79 (171, L, .int 2 :: st) σ) ∧
  (∀ (l0 l1 l3 : Option Value) (st : List Value) (σ : ri_S) (x : Int32), ev 79 (171, [l0, l1, some (.int x), l3], st) σ = ev 79 (172, [l0, l1, some (.int x), l3], .int x :: st) σ) ∧
  (∀ (L : ri_L) (st : List Value) (σ : ri_S), ev 79 (172, L, st) σ = ev 79 (174, L, .int 8 :: st) σ) ∧
  (∀ (L : ri_L) (st : List Value) (σ : ri_S) (x y : Int32), ev 79 (174, L, .int y :: .int x :: st) σ = if y = 0 then none else ev 79 (175, L, .int (x / y) :: st) σ) ∧
  (∀ (L : ri_L) (st : List Value) (σ : ri_S), ev 79 (175, L, st) σ = ev 79 (176, L, .int 2 :: st) σ) ∧
  (∀ (L : ri_L) (st : List Value) (σ : ri_S) (x y : Int32), ev 79 (176, L, .int y :: .int x :: st) σ = if y = 0 then none else ev 79 (177, L, .int (x - x / y * y) :: st) σ) ∧
  (∀ (L : ri_L) (st : List Value) (σ : ri_S) (x y : Int32), ev 79 (177, L, .int y :: .int x :: st) σ = ev 79 (178, L, .int (x * y) :: st) σ) ∧
  (∀ (L : ri_L) (st : List Value) (σ : ri_S), ev 79 (178, L, st) σ = ev 79 (179, L, .int 1 :: st) σ) ∧
  (∀ (L : ri_L) (st : List Value) (σ : ri_S) (x y : Int32), ev 79 (179, L, .int y :: .int x :: st) σ = ev 79 (180, L, .int (x - y) :: st) σ) ∧
  (∀ (L : ri_L) (σ : ri_S) (a0 : Nat) (a1 : Int32) (a2 : Int32), ev 79 (180, L, [.int a2, .int a1, .ref a0]) σ = tv_k 3 (σ.1 a0) ((cal 42 [.ref a0, .int a1, .int a2] σ).bind fun q => ev 79 (183, L, q.1.toList ++ []) q.2)) ∧
  (∀ (L : ri_L) (st : List Value) (σ : ri_S) (x : Int32), ev 79 (183, L, .int x :: st) σ = ev 79 (184, L, st) σ) ∧
  (∀ (L : ri_L) (st : List Value) (σ : ri_S), ev 79 (184, L, st) σ = ev 79 (202, L, st) σ) ∧
  (∀ (l1 l2 l3 : Option Value) (st : List Value) (σ : ri_S) (x : Nat), ev 79 (187, [some (.ref x), l1, l2, l3], st) σ = ev 79 (188, [some (.ref x), l1, l2, l3], .ref x :: st) σ) ∧
  (∀ (l0 l1 l3 : Option Value) (st : List Value) (σ : ri_S) (x : Int32), ev 79 (188, [l0, l1, some (.int x), l3], st) σ = ev 79 (189, [l0, l1, some (.int x), l3], .int x :: st) σ) ∧
  (∀ (L : ri_L) (st : List Value) (σ : ri_S), ev 79 (189, L, st) σ = ev 79 (190, L, .int 5 :: st) σ) ∧
  (∀ (L : ri_L) (st : List Value) (σ : ri_S) (x y : Int32), ev 79 (190, L, .int y :: .int x :: st) σ = if y = 0 then none else ev 79 (191, L, .int (x - x / y * y) :: st) σ) ∧
  (∀ (l0 l1 l3 : Option Value) (st : List Value) (σ : ri_S) (x : Int32), ev 79 (191, [l0, l1, some (.int x), l3], st) σ = ev 79 (192, [l0, l1, some (.int x), l3], .int x :: st) σ) ∧
  (∀ (L : ri_L) (st : List Value) (σ : ri_S), ev 79 (192, L, st) σ = ev 79 (194, L, .int 8 :: st) σ) ∧
  (∀ (L : ri_L) (st : List Value) (σ : ri_S) (x y : Int32), ev 79 (194, L, .int y :: .int x :: st) σ = if y = 0 then none else ev 79 (195, L, .int (x / y) :: st) σ) ∧
  (∀ (L : ri_L) (st : List Value) (σ : ri_S), ev 79 (195, L, st) σ = ev 79 (197, L, .int 8 :: st) σ) ∧
  (∀ (L : ri_L) (st : List Value) (σ : ri_S) (x y : Int32), ev 79 (197, L, .int y :: .int x :: st) σ = if y = 0 then none else ev 79 (198, L, .int (x - x / y * y) :: st) σ) ∧
  (∀ (L : ri_L) (σ : ri_S) (a0 : Nat) (a1 : Int32) (a2 : Int32), ev 79 (198, L, [.int a2, .int a1, .ref a0]) σ = tv_k 3 (σ.1 a0) ((cal 41 [.ref a0, .int a1, .int a2] σ).bind fun q => ev 79 (201, L, q.1.toList ++ []) q.2)) ∧
  (∀ (L : ri_L) (st : List Value) (σ : ri_S) (x : Int32), ev 79 (201, L, .int x :: st) σ = ev 79 (202, L, st) σ) ∧
  (∀ (L : ri_L) (σ : ri_S), ev 79 (202, L, []) σ = some (none, σ)) :=
  ⟨fun l1 l2 l3 st σ x => ev_p ((TP_79 _).trans rfl) rfl,
   fun l0 l1 l3 st σ x => ev_p ((TP_79 _).trans rfl) rfl,
   fun L st σ => ev_p ((TP_79 _).trans rfl) rfl,
   fun L st σ x y => ev_d ((TP_79 _).trans rfl) rfl,
   fun L st σ => ev_p ((TP_79 _).trans rfl) rfl,
   fun l0 l1 l3 st σ x => ev_p ((TP_79 _).trans rfl) rfl,
   fun L st σ => ev_p ((TP_79 _).trans rfl) rfl,
   fun L st σ x y => ev_d ((TP_79 _).trans rfl) rfl,
   fun L st σ => ev_p ((TP_79 _).trans rfl) rfl,
   fun L st σ x y => ev_d ((TP_79 _).trans rfl) rfl,
   fun L st σ x y => ev_p ((TP_79 _).trans rfl) rfl,
   fun L st σ => ev_p ((TP_79 _).trans rfl) rfl,
   fun L st σ x y => ev_p ((TP_79 _).trans rfl) rfl,
   fun L σ a0 a1 a2 => ev_callv ((TP_79 _).trans rfl) rfl rfl rfl rfl,
   fun L st σ x => ev_p ((TP_79 _).trans rfl) rfl,
   fun L st σ => ev_p ((TP_79 _).trans rfl) rfl,
   fun l1 l2 l3 st σ x => ev_p ((TP_79 _).trans rfl) rfl,
   fun l0 l1 l3 st σ x => ev_p ((TP_79 _).trans rfl) rfl,
   fun L st σ => ev_p ((TP_79 _).trans rfl) rfl,
   fun L st σ x y => ev_d ((TP_79 _).trans rfl) rfl,
   fun l0 l1 l3 st σ x => ev_p ((TP_79 _).trans rfl) rfl,
   fun L st σ => ev_p ((TP_79 _).trans rfl) rfl,
   fun L st σ x y => ev_d ((TP_79 _).trans rfl) rfl,
   fun L st σ => ev_p ((TP_79 _).trans rfl) rfl,
   fun L st σ x y => ev_d ((TP_79 _).trans rfl) rfl,
   fun L σ a0 a1 a2 => ev_callv ((TP_79 _).trans rfl) rfl rfl rfl rfl,
   fun L st σ x => ev_p ((TP_79 _).trans rfl) rfl,
   fun L σ => ev_r ((TP_79 _).trans rfl) rfl⟩
theorem TP_80 (pc : Nat) : TT 80 pc = ri_find TL_80 pc := rfl
theorem E_80 (x0 : Nat) (σ : ri_S) : cal 80 [.ref x0] σ = ev 80 (0, [some (.ref x0), none], []) σ := rfl
theorem H_80_21 (l0 : Option Value) (st : List Value) (σ : ri_S) (x : Int32) : ev 80 (21, [l0, some (.int x)], st) σ = ev 80 (22, [l0, some (.int x)], .int x :: st) σ := ev_p ((TP_80 _).trans rfl) rfl
theorem I_80 :
  (∀ (l1 : Option Value) (st : List Value) (σ : ri_S) (x : Nat), ev 80 (0, [some (.ref x), l1], st) σ = ev 80 (1, [some (.ref x), l1], .ref x :: st) σ) ∧
  (∀ (L : ri_L) (σ : ri_S) (a : Nat), ev 80 (1, L, [.ref a]) σ = ev 80 (4, L, []) σ) ∧
  (∀ (l1 : Option Value) (st : List Value) (σ : ri_S) (x : Nat), ev 80 (4, [some (.ref x), l1], st) σ = ev 80 (5, [some (.ref x), l1], .ref x :: st) σ) ∧
  (∀ (L : ri_L) (st : List Value) (σ : ri_S), ev 80 (5, L, st) σ = ev 80 (6, L, .int 2 :: st) σ) ∧
  (∀ (L : ri_L) (st : List Value) (σ : ri_S) (n : Int32), ev 80 (6, L, .int n :: st) σ = if n < 0 ∨ 2000 < n.toNatClampNeg then none else ev 80 (9, L, .ref σ.2 :: st) (ri_upd σ.1 σ.2 (.inr (.inl (n.toNatClampNeg, fun _ => none))), σ.2 + 1)) ∧
  (∀ (L : ri_L) (st : List Value) (σ : ri_S) (a : Nat) (x : Nat), ev 80 (9, L, .ref x :: .ref a :: st) σ = tv_w 5 0 (σ.1 a) (.ref x) fun fs => ev 80 (12, L, st) (ri_upd σ.1 a (.inr (.inr (5, fs))), σ.2)) ∧
  (∀ (l1 : Option Value) (st : List Value) (σ : ri_S) (x : Nat), ev 80 (12, [some (.ref x), l1], st) σ = ev 80 (13, [some (.ref x), l1], .ref x :: st) σ) ∧
  (∀ (L : ri_L) (st : List Value) (σ : ri_S), ev 80 (13, L, st) σ = ev 80 (14, L, .int 2 :: st) σ) ∧
  (∀ (L : ri_L) (st : List Value) (σ : ri_S) (n : Int32), ev 80 (14, L, .int n :: st) σ = if n < 0 ∨ 2000 < n.toNatClampNeg then none else ev 80 (16, L, .ref σ.2 :: st) (ri_upd σ.1 σ.2 (.inl (0, n.toNatClampNeg, fun _ => 0)), σ.2 + 1)) ∧
  (∀ (L : ri_L) (st : List Value) (σ : ri_S) (a : Nat) (x : Nat), ev 80 (16, L, .ref x :: .ref a :: st) σ = tv_w 5 1 (σ.1 a) (.ref x) fun fs => ev 80 (19, L, st) (ri_upd σ.1 a (.inr (.inr (5, fs))), σ.2)) ∧
  (∀ (L : ri_L) (st : List Value) (σ : ri_S), ev 80 (19, L, st) σ = ev 80 (20, L, .int 0 :: st) σ) ∧
  (∀ (l0 l1 : Option Value) (st : List Value) (σ : ri_S) (x : Int32), ev 80 (20, [l0, l1], .int x :: st) σ = ev 80 (21, [ri_clr l0, some (.int x)], st) σ) ∧
  (∀ (L : ri_L) (st : List Value) (σ : ri_S), ev 80 (22, L, st) σ = ev 80 (23, L, .int 2 :: st) σ) ∧
  (∀ (L : ri_L) (st : List Value) (σ : ri_S) (x y : Int32), ev 80 (23, L, .int y :: .int x :: st) σ = if y ≤ x then ev 80 (45, L, st) σ else ev 80 (26, L, st) σ) ∧
  (∀ (l1 : Option Value) (st : List Value) (σ : ri_S) (x : Nat), ev 80 (26, [some (.ref x), l1], st) σ = ev 80 (27, [some (.ref x), l1], .ref x :: st) σ) ∧
  (∀ (L : ri_L) (st : List Value) (σ : ri_S) (a : Nat), ev 80 (27, L, .ref a :: st) σ = tv_o 5 0 (σ.1 a) fun v => ev 80 (30, L, v :: st) σ) ∧
  (∀ (l0 : Option Value) (st : List Value) (σ : ri_S) (x : Int32), ev 80 (30, [l0, some (.int x)], st) σ = ev 80 (31, [l0, some (.int x)], .int x :: st) σ) ∧
  (∀ (L : ri_L) (st : List Value) (σ : ri_S), ev 80 (31, L, st) σ = ev 80 (34, L, .ref σ.2 :: st) (ri_upd σ.1 σ.2 (.inr (.inr (3, [.null, .null, .null, .int 0, .int 0, .int 0, .int 0, .int 0, .int 0]))), σ.2 + 1)) ∧
  (∀ (L : ri_L) (st : List Value) (σ : ri_S) (x : Nat), ev 80 (34, L, .ref x :: st) σ = ev 80 (35, L, .ref x :: .ref x :: st) σ) ∧
  (∀ (L : ri_L) (σ : ri_S) (a0 : Nat) (s0 s1 s2 : Value), ev 80 (35, L, [.ref a0, s0, s1, s2]) σ = tv_k 3 (σ.1 a0) ((cal 20 [.ref a0] σ).bind fun q => ev 80 (38, L, q.1.toList ++ [s0, s1, s2]) q.2)) ∧
  (∀ (L : ri_L) (st : List Value) (σ : ri_S) (a x : Nat) (i : Int32), ev 80 (38, L, .ref x :: .int i :: .ref a :: st) σ = tv_q (σ.1 a) i fun n f j => tv_k 3 (σ.1 x) (ev 80 (39, L, st) (ri_upd σ.1 a (.inr (.inl (n, va_up f j (some x)))), σ.2))) ∧
  (∀ (l0 : Option Value) (st : List Value) (σ : ri_S) (x : Int32), ev 80 (39, [l0, some (.int x)], st) σ = ev 80 (42, [ri_clr l0, some (.int (x + 1))], st) σ) ∧
  (∀ (L : ri_L) (st : List Value) (σ : ri_S), ev 80 (42, L, st) σ = ev 80 (21, L, st) σ) ∧
  (∀ (L : ri_L) (σ : ri_S), ev 80 (45, L, []) σ = some (none, σ)) :=
  ⟨fun l1 st σ x => ev_p ((TP_80 _).trans rfl) rfl,
   fun L σ a => ev_p ((TP_80 _).trans rfl) rfl,
   fun l1 st σ x => ev_p ((TP_80 _).trans rfl) rfl,
   fun L st σ => ev_p ((TP_80 _).trans rfl) rfl,
   fun L st σ n => ev_newq ((TP_80 _).trans rfl),
   fun L st σ a x => ev_putr ((TP_80 _).trans rfl),
   fun l1 st σ x => ev_p ((TP_80 _).trans rfl) rfl,
   fun L st σ => ev_p ((TP_80 _).trans rfl) rfl,
   fun L st σ n => ev_newa ((TP_80 _).trans rfl),
   fun L st σ a x => ev_putr ((TP_80 _).trans rfl),
   fun L st σ => ev_p ((TP_80 _).trans rfl) rfl,
   fun l0 l1 st σ x => ev_p ((TP_80 _).trans rfl) rfl,
   fun L st σ => ev_p ((TP_80 _).trans rfl) rfl,
   fun L st σ x y => ev_b ((TP_80 _).trans rfl) rfl,
   fun l1 st σ x => ev_p ((TP_80 _).trans rfl) rfl,
   fun L st σ a => ev_getf ((TP_80 _).trans rfl),
   fun l0 st σ x => ev_p ((TP_80 _).trans rfl) rfl,
   fun L st σ => ev_new ((TP_80 _).trans rfl),
   fun L st σ x => ev_p ((TP_80 _).trans rfl) rfl,
   fun L σ a0 s0 s1 s2 => ev_callv ((TP_80 _).trans rfl) rfl rfl rfl rfl,
   fun L st σ a x i => ev_aast ((TP_80 _).trans rfl),
   fun l0 st σ x => ev_p ((TP_80 _).trans rfl) rfl,
   fun L st σ => ev_p ((TP_80 _).trans rfl) rfl,
   fun L σ => ev_r ((TP_80 _).trans rfl) rfl⟩
theorem TP_81 (pc : Nat) : TT 81 pc = ri_find TL_81 pc := rfl
theorem E_81 (x0 : Nat) (x1 : Int32) (σ : ri_S) : cal 81 [.ref x0, .int x1] σ = ev 81 (0, [some (.ref x0), some (.int x1)], []) σ := rfl
theorem I_81 :
  (∀ (l0 : Option Value) (st : List Value) (σ : ri_S) (x : Int32), ev 81 (0, [l0, some (.int x)], st) σ = ev 81 (1, [l0, some (.int x)], .int x :: st) σ) ∧
  (∀ (L : ri_L) (st : List Value) (σ : ri_S) (x : Int32), ev 81 (1, L, .int x :: st) σ = if x < 0 then ev 81 (22, L, st) σ else ev 81 (4, L, st) σ) ∧
  (∀ (l0 : Option Value) (st : List Value) (σ : ri_S) (x : Int32), ev 81 (4, [l0, some (.int x)], st) σ = ev 81 (5, [l0, some (.int x)], .int x :: st) σ) ∧
  (∀ (l1 : Option Value) (st : List Value) (σ : ri_S) (x : Nat), ev 81 (5, [some (.ref x), l1], st) σ = ev 81 (6, [some (.ref x), l1], .ref x :: st) σ) ∧
  (∀ (l1 : Option Value) (st : List Value) (σ : ri_S), ev 81 (5, [some .null, l1], st) σ = ev 81 (6, [some .null, l1], .null :: st) σ) ∧
  (∀ (L : ri_L) (st : List Value) (σ : ri_S) (a : Nat), ev 81 (6, L, .ref a :: st) σ = tv_o 5 0 (σ.1 a) fun v => ev 81 (9, L, v :: st) σ) ∧
  (∀ (L : ri_L) (st : List Value) (σ : ri_S) (a : Nat), ev 81 (9, L, .ref a :: st) σ = tv_n (σ.1 a) fun n => ev 81 (10, L, .int (Int32.ofNat n) :: st) σ) ∧
  (∀ (L : ri_L) (st : List Value) (σ : ri_S) (x y : Int32), ev 81 (10, L, .int y :: .int x :: st) σ = if y ≤ x then ev 81 (22, L, st) σ else ev 81 (13, L, st) σ) ∧
  (∀ (l1 : Option Value) (st : List Value) (σ : ri_S) (x : Nat), ev 81 (13, [some (.ref x), l1], st) σ = ev 81 (14, [some (.ref x), l1], .ref x :: st) σ) ∧
  (∀ (l1 : Option Value) (st : List Value) (σ : ri_S), ev 81 (13, [some .null, l1], st) σ = ev 81 (14, [some .null, l1], .null :: st) σ) ∧
  (∀ (L : ri_L) (st : List Value) (σ : ri_S) (a : Nat), ev 81 (14, L, .ref a :: st) σ = tv_o 5 0 (σ.1 a) fun v => ev 81 (17, L, v :: st) σ) ∧
  (∀ (l0 : Option Value) (st : List Value) (σ : ri_S) (x : Int32), ev 81 (17, [l0, some (.int x)], st) σ = ev 81 (18, [l0, some (.int x)], .int x :: st) σ) ∧
  (∀ (L : ri_L) (st : List Value) (σ : ri_S) (a : Nat) (i : Int32), ev 81 (18, L, .int i :: .ref a :: st) σ = tv_q (σ.1 a) i fun n f j => ev 81 (19, L, tv_v (f j) :: st) σ) ∧
  (∀ (L : ri_L) (st : List Value) (σ : ri_S), ev 81 (19, L, st) σ = ev 81 (23, L, st) σ) ∧
  (∀ (L : ri_L) (st : List Value) (σ : ri_S), ev 81 (22, L, st) σ = ev 81 (23, L, .null :: st) σ) ∧
  (∀ (L : ri_L) (σ : ri_S) (x : Nat), ev 81 (23, L, [.ref x]) σ = some (some (.ref x), σ)) ∧
  (∀ (L : ri_L) (σ : ri_S), ev 81 (23, L, [.null]) σ = some (some .null, σ)) :=
  ⟨fun l0 st σ x => ev_p ((TP_81 _).trans rfl) rfl,
   fun L st σ x => ev_b ((TP_81 _).trans rfl) rfl,
   fun l0 st σ x => ev_p ((TP_81 _).trans rfl) rfl,
   fun l1 st σ x => ev_p ((TP_81 _).trans rfl) rfl,
   fun l1 st σ => ev_p ((TP_81 _).trans rfl) rfl,
   fun L st σ a => ev_getf ((TP_81 _).trans rfl),
   fun L st σ a => ev_alen ((TP_81 _).trans rfl),
   fun L st σ x y => ev_b ((TP_81 _).trans rfl) rfl,
   fun l1 st σ x => ev_p ((TP_81 _).trans rfl) rfl,
   fun l1 st σ => ev_p ((TP_81 _).trans rfl) rfl,
   fun L st σ a => ev_getf ((TP_81 _).trans rfl),
   fun l0 st σ x => ev_p ((TP_81 _).trans rfl) rfl,
   fun L st σ a i => ev_aald ((TP_81 _).trans rfl),
   fun L st σ => ev_p ((TP_81 _).trans rfl) rfl,
   fun L st σ => ev_p ((TP_81 _).trans rfl) rfl,
   fun L σ x => ev_r ((TP_81 _).trans rfl) rfl,
   fun L σ => ev_r ((TP_81 _).trans rfl) rfl⟩
theorem TP_82 (pc : Nat) : TT 82 pc = ri_find TL_82 pc := rfl
theorem E_82 (x0 : Nat) (x1 : Int32) (σ : ri_S) : cal 82 [.ref x0, .int x1] σ = ev 82 (0, [some (.ref x0), some (.int x1)], []) σ := rfl
theorem I_82 :
  (∀ (l1 : Option Value) (st : List Value) (σ : ri_S) (x : Nat), ev 82 (0, [some (.ref x), l1], st) σ = ev 82 (1, [some (.ref x), l1], .ref x :: st) σ) ∧
  (∀ (L : ri_L) (st : List Value) (σ : ri_S) (a : Nat), ev 82 (1, L, .ref a :: st) σ = tv_o 5 1 (σ.1 a) fun v => ev 82 (4, L, v :: st) σ) ∧
  (∀ (l0 : Option Value) (st : List Value) (σ : ri_S) (x : Int32), ev 82 (4, [l0, some (.int x)], st) σ = ev 82 (5, [l0, some (.int x)], .int x :: st) σ) ∧
  (∀ (L : ri_L) (σ : ri_S) (a0 : Nat) (a1 : Int32), ev 82 (5, L, [.int a1, .ref a0]) σ = (cal 140 [.ref a0, .int a1] σ).bind fun q => ev 82 (8, L, q.1.toList ++ []) q.2) ∧
  (∀ (L : ri_L) (st : List Value) (σ : ri_S), ev 82 (8, L, st) σ = ev 82 (9, L, .int 1 :: st) σ) ∧
  (∀ (L : ri_L) (st : List Value) (σ : ri_S) (x y : Int32), ev 82 (9, L, .int y :: .int x :: st) σ = if ¬ x = y then ev 82 (16, L, st) σ else ev 82 (12, L, st) σ) ∧
  (∀ (L : ri_L) (st : List Value) (σ : ri_S), ev 82 (12, L, st) σ = ev 82 (13, L, .int 1 :: st) σ) ∧
  (∀ (L : ri_L) (st : List Value) (σ : ri_S), ev 82 (13, L, st) σ = ev 82 (17, L, st) σ) ∧
  (∀ (L : ri_L) (st : List Value) (σ : ri_S), ev 82 (16, L, st) σ = ev 82 (17, L, .int 0 :: st) σ) ∧
  (∀ (L : ri_L) (σ : ri_S) (x : Int32), ev 82 (17, L, [.int x]) σ = tv_b x (some (some (.int x), σ))) :=
  ⟨fun l1 st σ x => ev_p ((TP_82 _).trans rfl) rfl,
   fun L st σ a => ev_getf ((TP_82 _).trans rfl),
   fun l0 st σ x => ev_p ((TP_82 _).trans rfl) rfl,
   fun L σ a0 a1 => ev_call ((TP_82 _).trans rfl) rfl rfl rfl rfl,
   fun L st σ => ev_p ((TP_82 _).trans rfl) rfl,
   fun L st σ x y => ev_b ((TP_82 _).trans rfl) rfl,
   fun L st σ => ev_p ((TP_82 _).trans rfl) rfl,
   fun L st σ => ev_p ((TP_82 _).trans rfl) rfl,
   fun L st σ => ev_p ((TP_82 _).trans rfl) rfl,
   fun L σ x => ev_r ((TP_82 _).trans rfl) rfl⟩
theorem TP_83 (pc : Nat) : TT 83 pc = ri_find TL_83 pc := rfl
theorem E_83 (x0 : Nat) (σ : ri_S) : cal 83 [.ref x0] σ = ev 83 (0, [some (.ref x0)], []) σ := rfl
theorem I_83 :
  (∀ (st : List Value) (σ : ri_S) (x : Nat), ev 83 (0, [some (.ref x)], st) σ = ev 83 (1, [some (.ref x)], .ref x :: st) σ) ∧
  (∀ (L : ri_L) (st : List Value) (σ : ri_S) (a : Nat), ev 83 (1, L, .ref a :: st) σ = tv_o 5 1 (σ.1 a) fun v => ev 83 (4, L, v :: st) σ) ∧
  (∀ (L : ri_L) (st : List Value) (σ : ri_S), ev 83 (4, L, st) σ = ev 83 (5, L, .int 0 :: st) σ) ∧
  (∀ (L : ri_L) (σ : ri_S) (a0 : Nat) (a1 : Int32), ev 83 (5, L, [.int a1, .ref a0]) σ = (cal 229 [.ref a0, .int a1] σ).bind fun q => ev 83 (8, L, q.1.toList ++ []) q.2) ∧
  (∀ (L : ri_L) (σ : ri_S), ev 83 (8, L, []) σ = some (none, σ)) :=
  ⟨fun st σ x => ev_p ((TP_83 _).trans rfl) rfl,
   fun L st σ a => ev_getf ((TP_83 _).trans rfl),
   fun L st σ => ev_p ((TP_83 _).trans rfl) rfl,
   fun L σ a0 a1 => ev_call ((TP_83 _).trans rfl) rfl rfl rfl rfl,
   fun L σ => ev_r ((TP_83 _).trans rfl) rfl⟩
theorem TP_84 (pc : Nat) : TT 84 pc = ri_find TL_84 pc := rfl
theorem E_84 (x0 : Nat) (x1 : Int32) (x2 : Nat) (σ : ri_S) : cal 84 [.ref x0, .int x1, .ref x2] σ = ev 84 (0, [some (.ref x0), some (.int x1), some (.ref x2), none], []) σ := rfl
theorem I_84 :
  (∀ (l1 l2 l3 : Option Value) (st : List Value) (σ : ri_S) (x : Nat), ev 84 (0, [some (.ref x), l1, l2, l3], st) σ = ev 84 (1, [some (.ref x), l1, l2, l3], .ref x :: st) σ) ∧
  (∀ (l1 l2 l3 : Option Value) (st : List Value) (σ : ri_S), ev 84 (0, [some .null, l1, l2, l3], st) σ = ev 84 (1, [some .null, l1, l2, l3], .null :: st) σ) ∧
  (∀ (l0 l2 l3 : Option Value) (st : List Value) (σ : ri_S) (x : Int32), ev 84 (1, [l0, some (.int x), l2, l3], st) σ = ev 84 (2, [l0, some (.int x), l2, l3], .int x :: st) σ) ∧
  (∀ (L : ri_L) (σ : ri_S) (a0 : Nat) (a1 : Int32), ev 84 (2, L, [.int a1, .ref a0]) σ = tv_k 5 (σ.1 a0) ((cal 81 [.ref a0, .int a1] σ).bind fun q => ev 84 (5, L, q.1.toList ++ []) q.2)) ∧
  (∀ (l0 l1 l2 l3 : Option Value) (st : List Value) (σ : ri_S) (x : Nat), ev 84 (5, [l0, l1, l2, l3], .ref x :: st) σ = ev 84 (6, [l0, l1, ri_clr l2, some (.ref x)], st) σ) ∧
  (∀ (l0 l1 l2 l3 : Option Value) (st : List Value) (σ : ri_S), ev 84 (5, [l0, l1, l2, l3], .null :: st) σ = ev 84 (6, [l0, l1, ri_clr l2, some .null], st) σ) ∧
  (∀ (l0 l1 l2 : Option Value) (st : List Value) (σ : ri_S) (x : Nat), ev 84 (6, [l0, l1, l2, some (.ref x)], st) σ = ev 84 (7, [l0, l1, l2, some (.ref x)], .ref x :: st) σ) ∧
  (∀ (l0 l1 l2 : Option Value) (st : List Value) (σ : ri_S), ev 84 (6, [l0, l1, l2, some .null], st) σ = ev 84 (7, [l0, l1, l2, some .null], .null :: st) σ) ∧
  (∀ (L : ri_L) (st : List Value) (σ : ri_S), ev 84 (7, L, .null :: st) σ = ev 84 (24, L, st) σ) ∧
  (∀ (L : ri_L) (st : List Value) (σ : ri_S) (x : Nat), ev 84 (7, L, .ref x :: st) σ = ev 84 (10, L, st) σ) ∧
  (∀ (l0 l1 l2 : Option Value) (st : List Value) (σ : ri_S) (x : Nat), ev 84 (10, [l0, l1, l2, some (.ref x)], st) σ = ev 84 (11, [l0, l1, l2, some (.ref x)], .ref x :: st) σ) ∧
  (∀ (l0 l1 l2 : Option Value) (st : List Value) (σ : ri_S), ev 84 (10, [l0, l1, l2, some .null], st) σ = ev 84 (11, [l0, l1, l2, some .null], .null :: st) σ) ∧
  (∀ (l0 l1 l3 : Option Value) (st : List Value) (σ : ri_S) (x : Nat), ev 84 (11, [l0, l1, some (.ref x), l3], st) σ = ev 84 (12, [l0, l1, some (.ref x), l3], .ref x :: st) σ) ∧
  (∀ (l0 l1 l3 : Option Value) (st : List Value) (σ : ri_S), ev 84 (11, [l0, l1, some .null, l3], st) σ = ev 84 (12, [l0, l1, some .null, l3], .null :: st) σ) ∧
  (∀ (L : ri_L) (σ : ri_S) (a0 : Nat) (a1 : Nat), ev 84 (12, L, [.ref a1, .ref a0]) σ = tv_k 3 (σ.1 a0) ((cal 22 [.ref a0, .ref a1] σ).bind fun q => ev 84 (15, L, q.1.toList ++ []) q.2)) ∧
  (∀ (l1 l2 l3 : Option Value) (st : List Value) (σ : ri_S) (x : Nat), ev 84 (15, [some (.ref x), l1, l2, l3], st) σ = ev 84 (16, [some (.ref x), l1, l2, l3], .ref x :: st) σ) ∧
  (∀ (l1 l2 l3 : Option Value) (st : List Value) (σ : ri_S), ev 84 (15, [some .null, l1, l2, l3], st) σ = ev 84 (16, [some .null, l1, l2, l3], .null :: st) σ) ∧
  (∀ (L : ri_L) (st : List Value) (σ : ri_S) (a : Nat), ev 84 (16, L, .ref a :: st) σ = tv_o 5 1 (σ.1 a) fun v => ev 84 (19, L, v :: st) σ) ∧
  (∀ (l0 l2 l3 : Option Value) (st : List Value) (σ : ri_S) (x : Int32), ev 84 (19, [l0, some (.int x), l2, l3], st) σ = ev 84 (20, [l0, some (.int x), l2, l3], .int x :: st) σ) ∧
  (∀ (L : ri_L) (st : List Value) (σ : ri_S), ev 84 (20, L, st) σ = ev 84 (21, L, .int 1 :: st) σ) ∧
  (∀ (L : ri_L) (σ : ri_S) (a0 : Nat) (a1 : Int32) (a2 : Int32), ev 84 (21, L, [.int a2, .int a1, .ref a0]) σ = (cal 141 [.ref a0, .int a1, .int a2] σ).bind fun q => ev 84 (24, L, q.1.toList ++ []) q.2) ∧
  (∀ (L : ri_L) (σ : ri_S), ev 84 (24, L, []) σ = some (none, σ)) :=
  ⟨fun l1 l2 l3 st σ x => ev_p ((TP_84 _).trans rfl) rfl,
   fun l1 l2 l3 st σ => ev_p ((TP_84 _).trans rfl) rfl,
   fun l0 l2 l3 st σ x => ev_p ((TP_84 _).trans rfl) rfl,
   fun L σ a0 a1 => ev_callv ((TP_84 _).trans rfl) rfl rfl rfl rfl,
   fun l0 l1 l2 l3 st σ x => ev_p ((TP_84 _).trans rfl) rfl,
   fun l0 l1 l2 l3 st σ => ev_p ((TP_84 _).trans rfl) rfl,
   fun l0 l1 l2 st σ x => ev_p ((TP_84 _).trans rfl) rfl,
   fun l0 l1 l2 st σ => ev_p ((TP_84 _).trans rfl) rfl,
   fun L st σ => ev_p ((TP_84 _).trans rfl) rfl,
   fun L st σ x => ev_p ((TP_84 _).trans rfl) rfl,
   fun l0 l1 l2 st σ x => ev_p ((TP_84 _).trans rfl) rfl,
   fun l0 l1 l2 st σ => ev_p ((TP_84 _).trans rfl) rfl,
   fun l0 l1 l3 st σ x => ev_p ((TP_84 _).trans rfl) rfl,
   fun l0 l1 l3 st σ => ev_p ((TP_84 _).trans rfl) rfl,
   fun L σ a0 a1 => ev_callv ((TP_84 _).trans rfl) rfl rfl rfl rfl,
   fun l1 l2 l3 st σ x => ev_p ((TP_84 _).trans rfl) rfl,
   fun l1 l2 l3 st σ => ev_p ((TP_84 _).trans rfl) rfl,
   fun L st σ a => ev_getf ((TP_84 _).trans rfl),
   fun l0 l2 l3 st σ x => ev_p ((TP_84 _).trans rfl) rfl,
   fun L st σ => ev_p ((TP_84 _).trans rfl) rfl,
   fun L σ a0 a1 a2 => ev_call ((TP_84 _).trans rfl) rfl rfl rfl rfl,
   fun L σ => ev_r ((TP_84 _).trans rfl) rfl⟩
theorem TP_85 (pc : Nat) : TT 85 pc = ri_find TL_85 pc := rfl
theorem E_85 (x0 : Nat) (x1 : Int32) (x2 : Nat) (σ : ri_S) : cal 85 [.ref x0, .int x1, .ref x2] σ = ev 85 (0, [some (.ref x0), some (.int x1), some (.ref x2), none], []) σ := rfl
theorem I_85 :
  (∀ (l1 l2 l3 : Option Value) (st : List Value) (σ : ri_S) (x : Nat), ev 85 (0, [some (.ref x), l1, l2, l3], st) σ = ev 85 (1, [some (.ref x), l1, l2, l3], .ref x :: st) σ) ∧
  (∀ (l1 l2 l3 : Option Value) (st : List Value) (σ : ri_S), ev 85 (0, [some .null, l1, l2, l3], st) σ = ev 85 (1, [some .null, l1, l2, l3], .null :: st) σ) ∧
  (∀ (l0 l2 l3 : Option Value) (st : List Value) (σ : ri_S) (x : Int32), ev 85 (1, [l0, some (.int x), l2, l3], st) σ = ev 85 (2, [l0, some (.int x), l2, l3], .int x :: st) σ) ∧
  (∀ (L : ri_L) (σ : ri_S) (a0 : Nat) (a1 : Int32), ev 85 (2, L, [.int a1, .ref a0]) σ = tv_k 5 (σ.1 a0) ((cal 81 [.ref a0, .int a1] σ).bind fun q => ev 85 (5, L, q.1.toList ++ []) q.2)) ∧
  (∀ (l0 l1 l2 l3 : Option Value) (st : List Value) (σ : ri_S) (x : Nat), ev 85 (5, [l0, l1, l2, l3], .ref x :: st) σ = ev 85 (6, [l0, l1, ri_clr l2, some (.ref x)], st) σ) ∧
  (∀ (l0 l1 l2 l3 : Option Value) (st : List Value) (σ : ri_S), ev 85 (5, [l0, l1, l2, l3], .null :: st) σ = ev 85 (6, [l0, l1, ri_clr l2, some .null], st) σ) ∧
  (∀ (l0 l1 l2 : Option Value) (st : List Value) (σ : ri_S) (x : Nat), ev 85 (6, [l0, l1, l2, some (.ref x)], st) σ = ev 85 (7, [l0, l1, l2, some (.ref x)], .ref x :: st) σ) ∧
  (∀ (l0 l1 l2 : Option Value) (st : List Value) (σ : ri_S), ev 85 (6, [l0, l1, l2, some .null], st) σ = ev 85 (7, [l0, l1, l2, some .null], .null :: st) σ) ∧
  (∀ (L : ri_L) (st : List Value) (σ : ri_S), ev 85 (7, L, .null :: st) σ = ev 85 (15, L, st) σ) ∧
  (∀ (L : ri_L) (st : List Value) (σ : ri_S) (x : Nat), ev 85 (7, L, .ref x :: st) σ = ev 85 (10, L, st) σ) ∧
  (∀ (l0 l1 l3 : Option Value) (st : List Value) (σ : ri_S) (x : Nat), ev 85 (10, [l0, l1, some (.ref x), l3], st) σ = ev 85 (11, [l0, l1, some (.ref x), l3], .ref x :: st) σ) ∧
  (∀ (l0 l1 l3 : Option Value) (st : List Value) (σ : ri_S), ev 85 (10, [l0, l1, some .null, l3], st) σ = ev 85 (11, [l0, l1, some .null, l3], .null :: st) σ) ∧
  (∀ (l0 l1 l2 : Option Value) (st : List Value) (σ : ri_S) (x : Nat), ev 85 (11, [l0, l1, l2, some (.ref x)], st) σ = ev 85 (12, [l0, l1, l2, some (.ref x)], .ref x :: st) σ) ∧
  (∀ (l0 l1 l2 : Option Value) (st : List Value) (σ : ri_S), ev 85 (11, [l0, l1, l2, some .null], st) σ = ev 85 (12, [l0, l1, l2, some .null], .null :: st) σ) ∧
  (∀ (L : ri_L) (σ : ri_S) (a0 : Nat) (a1 : Nat), ev 85 (12, L, [.ref a1, .ref a0]) σ = tv_k 3 (σ.1 a0) ((cal 22 [.ref a0, .ref a1] σ).bind fun q => ev 85 (15, L, q.1.toList ++ []) q.2)) ∧
  (∀ (L : ri_L) (σ : ri_S), ev 85 (15, L, []) σ = some (none, σ)) :=
  ⟨fun l1 l2 l3 st σ x => ev_p ((TP_85 _).trans rfl) rfl,
   fun l1 l2 l3 st σ => ev_p ((TP_85 _).trans rfl) rfl,
   fun l0 l2 l3 st σ x => ev_p ((TP_85 _).trans rfl) rfl,
   fun L σ a0 a1 => ev_callv ((TP_85 _).trans rfl) rfl rfl rfl rfl,
   fun l0 l1 l2 l3 st σ x => ev_p ((TP_85 _).trans rfl) rfl,
   fun l0 l1 l2 l3 st σ => ev_p ((TP_85 _).trans rfl) rfl,
   fun l0 l1 l2 st σ x => ev_p ((TP_85 _).trans rfl) rfl,
   fun l0 l1 l2 st σ => ev_p ((TP_85 _).trans rfl) rfl,
   fun L st σ => ev_p ((TP_85 _).trans rfl) rfl,
   fun L st σ x => ev_p ((TP_85 _).trans rfl) rfl,
   fun l0 l1 l3 st σ x => ev_p ((TP_85 _).trans rfl) rfl,
   fun l0 l1 l3 st σ => ev_p ((TP_85 _).trans rfl) rfl,
   fun l0 l1 l2 st σ x => ev_p ((TP_85 _).trans rfl) rfl,
   fun l0 l1 l2 st σ => ev_p ((TP_85 _).trans rfl) rfl,
   fun L σ a0 a1 => ev_callv ((TP_85 _).trans rfl) rfl rfl rfl rfl,
   fun L σ => ev_r ((TP_85 _).trans rfl) rfl⟩
theorem TP_86 (pc : Nat) : TT 86 pc = ri_find TL_86 pc := rfl
theorem E_86 (x0 : Nat) (σ : ri_S) : cal 86 [.ref x0] σ = ev 86 (0, [some (.ref x0)], []) σ := rfl
theorem I_86 :
  (∀ (st : List Value) (σ : ri_S) (x : Nat), ev 86 (0, [some (.ref x)], st) σ = ev 86 (1, [some (.ref x)], .ref x :: st) σ) ∧
  (∀ (L : ri_L) (σ : ri_S) (a : Nat), ev 86 (1, L, [.ref a]) σ = ev 86 (4, L, []) σ) ∧
  (∀ (st : List Value) (σ : ri_S) (x : Nat), ev 86 (4, [some (.ref x)], st) σ = ev 86 (5, [some (.ref x)], .ref x :: st) σ) ∧
  (∀ (L : ri_L) (st : List Value) (σ : ri_S), ev 86 (5, L, st) σ = ev 86 (7, L, .int 120 :: st) σ) ∧
  (∀ (L : ri_L) (st : List Value) (σ : ri_S) (n : Int32), ev 86 (7, L, .int n :: st) σ = if n < 0 ∨ 2000 < n.toNatClampNeg then none else ev 86 (9, L, .ref σ.2 :: st) (ri_upd σ.1 σ.2 (.inl (0, n.toNatClampNeg, fun _ => 0)), σ.2 + 1)) ∧
  (∀ (L : ri_L) (st : List Value) (σ : ri_S) (a : Nat) (x : Nat), ev 86 (9, L, .ref x :: .ref a :: st) σ = tv_w 6 0 (σ.1 a) (.ref x) fun fs => ev 86 (12, L, st) (ri_upd σ.1 a (.inr (.inr (6, fs))), σ.2)) ∧
  (∀ (st : List Value) (σ : ri_S) (x : Nat), ev 86 (12, [some (.ref x)], st) σ = ev 86 (13, [some (.ref x)], .ref x :: st) σ) ∧
  (∀ (L : ri_L) (st : List Value) (σ : ri_S), ev 86 (13, L, st) σ = ev 86 (14, L, .int 0 :: st) σ) ∧
  (∀ (L : ri_L) (st : List Value) (σ : ri_S) (a : Nat) (x : Int32), ev 86 (14, L, .int x :: .ref a :: st) σ = tv_w 6 1 (σ.1 a) (.int x) fun fs => ev 86 (17, L, st) (ri_upd σ.1 a (.inr (.inr (6, fs))), σ.2)) ∧
  (∀ (L : ri_L) (σ : ri_S), ev 86 (17, L, []) σ = some (none, σ)) :=
  ⟨fun st σ x => ev_p ((TP_86 _).trans rfl) rfl,
   fun L σ a => ev_p ((TP_86 _).trans rfl) rfl,
   fun st σ x => ev_p ((TP_86 _).trans rfl) rfl,
   fun L st σ => ev_p ((TP_86 _).trans rfl) rfl,
   fun L st σ n => ev_newa ((TP_86 _).trans rfl),
   fun L st σ a x => ev_putr ((TP_86 _).trans rfl),
   fun st σ x => ev_p ((TP_86 _).trans rfl) rfl,
   fun L st σ => ev_p ((TP_86 _).trans rfl) rfl,
   fun L st σ a x => ev_puti ((TP_86 _).trans rfl),
   fun L σ => ev_r ((TP_86 _).trans rfl) rfl⟩
theorem TP_87 (pc : Nat) : TT 87 pc = ri_find TL_87 pc := rfl
theorem E_87 (x0 : Nat) (x1 : Int32) (σ : ri_S) : cal 87 [.ref x0, .int x1] σ = ev 87 (0, [some (.ref x0), some (.int x1)], []) σ := rfl
theorem I_87 :
  (∀ (l0 : Option Value) (st : List Value) (σ : ri_S) (x : Int32), ev 87 (0, [l0, some (.int x)], st) σ = ev 87 (1, [l0, some (.int x)], .int x :: st) σ) ∧
  (∀ (L : ri_L) (st : List Value) (σ : ri_S), ev 87 (1, L, st) σ = ev 87 (2, L, .int 0 :: st) σ) ∧
  (∀ (L : ri_L) (st : List Value) (σ : ri_S), ev 87 (2, L, st) σ = ev 87 (5, L, .int 255 :: st) σ) ∧
  (∀ (L : ri_L) (σ : ri_S) (a0 : Int32) (a1 : Int32) (a2 : Int32), ev 87 (5, L, [.int a2, .int a1, .int a0]) σ = (cal 137 [.int a0, .int a1, .int a2] σ).bind fun q => ev 87 (8, L, q.1.toList ++ []) q.2) ∧
  (∀ (L : ri_L) (st : List Value) (σ : ri_S) (x : Int32), ev 87 (8, L, .int x :: st) σ = if ¬ x = 0 then ev 87 (13, L, st) σ else ev 87 (11, L, st) σ) ∧
  (∀ (L : ri_L) (st : List Value) (σ : ri_S), ev 87 (11, L, st) σ = ev 87 (12, L, .int 2 :: st) σ) ∧
  (∀ (L : ri_L) (σ : ri_S) (x : Int32), ev 87 (12, L, [.int x]) σ = some (some (.int x), σ)) ∧
  (∀ (l1 : Option Value) (st : List Value) (σ : ri_S) (x : Nat), ev 87 (13, [some (.ref x), l1], st) σ = ev 87 (14, [some (.ref x), l1], .ref x :: st) σ) ∧
  (∀ (L : ri_L) (st : List Value) (σ : ri_S) (a : Nat), ev 87 (14, L, .ref a :: st) σ = tv_o 6 1 (σ.1 a) fun v => ev 87 (17, L, v :: st) σ) ∧
  (∀ (L : ri_L) (st : List Value) (σ : ri_S), ev 87 (17, L, st) σ = ev 87 (19, L, .int 120 :: st) σ) ∧
  (∀ (L : ri_L) (st : List Value) (σ : ri_S) (x y : Int32), ev 87 (19, L, .int y :: .int x :: st) σ = if y ≤ x then ev 87 (26, L, st) σ else ev 87 (22, L, st) σ) ∧
  (∀ (L : ri_L) (st : List Value) (σ : ri_S), ev 87 (22, L, st) σ = ev 87 (23, L, .int 0 :: st) σ) ∧
  (∀ (L : ri_L) (st : List Value) (σ : ri_S), ev 87 (23, L, st) σ = ev 87 (27, L, st) σ) ∧
  (∀ (L : ri_L) (st : List Value) (σ : ri_S), ev 87 (26, L, st) σ = ev 87 (27, L, .int 3 :: st) σ) ∧
  (∀ (L : ri_L) (σ : ri_S) (x : Int32), ev 87 (27, L, [.int x]) σ = some (some (.int x), σ)) :=
  ⟨fun l0 st σ x => ev_p ((TP_87 _).trans rfl) rfl,
   fun L st σ => ev_p ((TP_87 _).trans rfl) rfl,
   fun L st σ => ev_p ((TP_87 _).trans rfl) rfl,
   fun L σ a0 a1 a2 => ev_call ((TP_87 _).trans rfl) rfl rfl rfl rfl,
   fun L st σ x => ev_b ((TP_87 _).trans rfl) rfl,
   fun L st σ => ev_p ((TP_87 _).trans rfl) rfl,
   fun L σ x => ev_r ((TP_87 _).trans rfl) rfl,
   fun l1 st σ x => ev_p ((TP_87 _).trans rfl) rfl,
   fun L st σ a => ev_getf ((TP_87 _).trans rfl),
   fun L st σ => ev_p ((TP_87 _).trans rfl) rfl,
   fun L st σ x y => ev_b ((TP_87 _).trans rfl) rfl,
   fun L st σ => ev_p ((TP_87 _).trans rfl) rfl,
   fun L st σ => ev_p ((TP_87 _).trans rfl) rfl,
   fun L st σ => ev_p ((TP_87 _).trans rfl) rfl,
   fun L σ x => ev_r ((TP_87 _).trans rfl) rfl⟩
theorem TP_88 (pc : Nat) : TT 88 pc = ri_find TL_88 pc := rfl
theorem E_88 (x0 : Nat) (x1 : Int32) (σ : ri_S) : cal 88 [.ref x0, .int x1] σ = ev 88 (0, [some (.ref x0), some (.int x1)], []) σ := rfl
theorem I_88 :
  (∀ (l1 : Option Value) (st : List Value) (σ : ri_S) (x : Nat), ev 88 (0, [some (.ref x), l1], st) σ = ev 88 (1, [some (.ref x), l1], .ref x :: st) σ) ∧
  (∀ (L : ri_L) (st : List Value) (σ : ri_S) (a : Nat), ev 88 (1, L, .ref a :: st) σ = tv_o 6 0 (σ.1 a) fun v => ev 88 (4, L, v :: st) σ) ∧
  (∀ (l1 : Option Value) (st : List Value) (σ : ri_S) (x : Nat), ev 88 (4, [some (.ref x), l1], st) σ = ev 88 (5, [some (.ref x), l1], .ref x :: st) σ) ∧
  (∀ (L : ri_L) (st : List Value) (σ : ri_S) (a : Nat), ev 88 (5, L, .ref a :: st) σ = tv_o 6 1 (σ.1 a) fun v => ev 88 (8, L, v :: st) σ) ∧
  (∀ (l0 : Option Value) (st : List Value) (σ : ri_S) (x : Int32), ev 88 (8, [l0, some (.int x)], st) σ = ev 88 (9, [l0, some (.int x)], .int x :: st) σ) ∧
  (∀ (L : ri_L) (σ : ri_S) (a0 : Nat) (a1 : Int32) (a2 : Int32), ev 88 (9, L, [.int a2, .int a1, .ref a0]) σ = (cal 141 [.ref a0, .int a1, .int a2] σ).bind fun q => ev 88 (12, L, q.1.toList ++ []) q.2) ∧
  (∀ (l1 : Option Value) (st : List Value) (σ : ri_S) (x : Nat), ev 88 (12, [some (.ref x), l1], st) σ = ev 88 (13, [some (.ref x), l1], .ref x :: st) σ) ∧
  (∀ (L : ri_L) (st : List Value) (σ : ri_S) (x : Nat), ev 88 (13, L, .ref x :: st) σ = ev 88 (14, L, .ref x :: .ref x :: st) σ) ∧
  (∀ (L : ri_L) (st : List Value) (σ : ri_S) (a : Nat), ev 88 (14, L, .ref a :: st) σ = tv_o 6 1 (σ.1 a) fun v => ev 88 (17, L, v :: st) σ) ∧
  (∀ (L : ri_L) (st : List Value) (σ : ri_S), ev 88 (17, L, st) σ = ev 88 (18, L, .int 1 :: st) σ) ∧
  (∀ (L : ri_L) (st : List Value) (σ : ri_S) (x y : Int32), ev 88 (18, L, .int y :: .int x :: st) σ = ev 88 (19, L, .int (x + y) :: st) σ) ∧
  (∀ (L : ri_L) (st : List Value) (σ : ri_S) (a : Nat) (x : Int32), ev 88 (19, L, .int x :: .ref a :: st) σ = tv_w 6 1 (σ.1 a) (.int x) fun fs => ev 88 (22, L, st) (ri_upd σ.1 a (.inr (.inr (6, fs))), σ.2)) ∧
  (∀ (l1 : Option Value) (st : List Value) (σ : ri_S) (x : Nat), ev 88 (22, [some (.ref x), l1], st) σ = ev 88 (23, [some (.ref x), l1], .ref x :: st) σ) ∧
  (∀ (L : ri_L) (st : List Value) (σ : ri_S) (a : Nat), ev 88 (23, L, .ref a :: st) σ = tv_o 6 1 (σ.1 a) fun v => ev 88 (26, L, v :: st) σ) ∧
  (∀ (L : ri_L) (σ : ri_S) (x : Int32), ev 88 (26, L, [.int x]) σ = some (some (.int x), σ)) :=
  ⟨fun l1 st σ x => ev_p ((TP_88 _).trans rfl) rfl,
   fun L st σ a => ev_getf ((TP_88 _).trans rfl),
   fun l1 st σ x => ev_p ((TP_88 _).trans rfl) rfl,
   fun L st σ a => ev_getf ((TP_88 _).trans rfl),
   fun l0 st σ x => ev_p ((TP_88 _).trans rfl) rfl,
   fun L σ a0 a1 a2 => ev_call ((TP_88 _).trans rfl) rfl rfl rfl rfl,
   fun l1 st σ x => ev_p ((TP_88 _).trans rfl) rfl,
   fun L st σ x => ev_p ((TP_88 _).trans rfl) rfl,
   fun L st σ a => ev_getf ((TP_88 _).trans rfl),
   fun L st σ => ev_p ((TP_88 _).trans rfl) rfl,
   fun L st σ x y => ev_p ((TP_88 _).trans rfl) rfl,
   fun L st σ a x => ev_puti ((TP_88 _).trans rfl),
   fun l1 st σ x => ev_p ((TP_88 _).trans rfl) rfl,
   fun L st σ a => ev_getf ((TP_88 _).trans rfl),
   fun L σ x => ev_r ((TP_88 _).trans rfl) rfl⟩
theorem TP_90 (pc : Nat) : TT 90 pc = ri_find TL_90 pc := rfl
theorem E_90 (x0 : Nat) (σ : ri_S) : cal 90 [.ref x0] σ = ev 90 (0, [some (.ref x0), none, none, none], []) σ := rfl
theorem I_90 :
  (∀ (l1 l2 l3 : Option Value) (st : List Value) (σ : ri_S) (x : Nat), ev 90 (0, [some (.ref x), l1, l2, l3], st) σ = ev 90 (1, [some (.ref x), l1, l2, l3], .ref x :: st) σ) ∧
  (∀ (L : ri_L) (st : List Value) (σ : ri_S) (a : Nat), ev 90 (1, L, .ref a :: st) σ = tv_o 6 1 (σ.1 a) fun v => ev 90 (4, L, v :: st) σ) ∧
  (∀ (L : ri_L) (st : List Value) (σ : ri_S) (x : Int32), ev 90 (4, L, .int x :: st) σ = if x = 0 then ev 90 (20, L, st) σ else ev 90 (7, L, st) σ) ∧
  (∀ (l1 l2 l3 : Option Value) (st : List Value) (σ : ri_S) (x : Nat), ev 90 (7, [some (.ref x), l1, l2, l3], st) σ = ev 90 (8, [some (.ref x), l1, l2, l3], .ref x :: st) σ) ∧
  (∀ (L : ri_L) (st : List Value) (σ : ri_S) (a : Nat), ev 90 (8, L, .ref a :: st) σ = tv_o 6 0 (σ.1 a) fun v => ev 90 (11, L, v :: st) σ) ∧
  (∀ (L : ri_L) (st : List Value) (σ : ri_S), ev 90 (11, L, st) σ = ev 90 (12, L, .int 0 :: st) σ) ∧
  (∀ (L : ri_L) (σ : ri_S) (a0 : Nat) (a1 : Int32), ev 90 (12, L, [.int a1, .ref a0]) σ = (cal 140 [.ref a0, .int a1] σ).bind fun q => ev 90 (15, L, q.1.toList ++ []) q.2) ∧
  (∀ (L : ri_L) (st : List Value) (σ : ri_S), ev 90 (15, L, st) σ = ev 90 (17, L, .int 80 :: st) σ) ∧
  (∀ (L : ri_L) (st : List Value) (σ : ri_S) (x y : Int32), ev 90 (17, L, .int y :: .int x :: st) σ = if x = y then ev 90 (22, L, st) σ else ev 90 (20, L, st) σ) ∧
  (∀ (L : ri_L) (st : List Value) (σ : ri_S), ev 90 (20, L, st) σ = ev 90 (21, L, .int 0 :: st) σ) ∧
  (∀ (L : ri_L) (σ : ri_S) (x : Int32), ev 90 (21, L, [.int x]) σ = some (some (.int x), σ)) ∧
  (∀ (L : ri_L) (st : List Value) (σ : ri_S), ev 90 (22, L, st) σ = ev 90 (23, L, .int 1 :: st) σ) ∧
  (∀ (l0 l1 l2 l3 : Option Value) (st : List Value) (σ : ri_S) (x : Int32), ev 90 (23, [l0, l1, l2, l3], .int x :: st) σ = ev 90 (24, [ri_clr l0, some (.int x), l2, l3], st) σ) ∧
  (∀ (l0 l2 l3 : Option Value) (st : List Value) (σ : ri_S) (x : Int32), ev 90 (24, [l0, some (.int x), l2, l3], st) σ = ev 90 (25, [l0, some (.int x), l2, l3], .int x :: st) σ) ∧
  (∀ (l1 l2 l3 : Option Value) (st : List Value) (σ : ri_S) (x : Nat), ev 90 (25, [some (.ref x), l1, l2, l3], st) σ = ev 90 (26, [some (.ref x), l1, l2, l3], .ref x :: st) σ) ∧
  (∀ (L : ri_L) (st : List Value) (σ : ri_S) (a : Nat), ev 90 (26, L, .ref a :: st) σ = tv_o 6 1 (σ.1 a) fun v => ev 90 (29, L, v :: st) σ) ∧
  (∀ (L : ri_L) (st : List Value) (σ : ri_S) (x y : Int32), ev 90 (29, L, .int y :: .int x :: st) σ = if y ≤ x then ev 90 (101, L, st) σ else ev 90 (32, L, st) σ) ∧
  (∀ (l1 l2 l3 : Option Value) (st : List Value) (σ : ri_S) (x : Nat), ev 90 (32, [some (.ref x), l1, l2, l3], st) σ = ev 90 (33, [some (.ref x), l1, l2, l3], .ref x :: st) σ) ∧
  (∀ (L : ri_L) (st : List Value) (σ : ri_S) (a : Nat), ev 90 (33, L, .ref a :: st) σ = tv_o 6 0 (σ.1 a) fun v => ev 90 (36, L, v :: st) σ) ∧
  (∀ (l0 l2 l3 : Option Value) (st : List Value) (σ : ri_S) (x : Int32), ev 90 (36, [l0, some (.int x), l2, l3], st) σ = ev 90 (37, [l0, some (.int x), l2, l3], .int x :: st) σ) ∧
  (∀ (L : ri_L) (σ : ri_S) (a0 : Nat) (a1 : Int32), ev 90 (37, L, [.int a1, .ref a0]) σ = (cal 140 [.ref a0, .int a1] σ).bind fun q => ev 90 (40, L, q.1.toList ++ []) q.2) ∧
  (∀ (L : ri_L) (σ : ri_S) (a0 : Int32), ev 90 (40, L, [.int a0]) σ = (cal 91 [.int a0] σ).bind fun q => ev 90 (43, L, q.1.toList ++ []) q.2) ∧
  (∀ (l0 l1 l2 l3 : Option Value) (st : List Value) (σ : ri_S) (x : Nat), ev 90 (43, [l0, l1, l2, l3], .ref x :: st) σ = ev 90 (44, [l0, ri_clr l1, some (.ref x), l3], st) σ) ∧
  (∀ (l0 l1 l3 : Option Value) (st : List Value) (σ : ri_S) (x : Nat), ev 90 (44, [l0, l1, some (.ref x), l3], st) σ = ev 90 (45, [l0, l1, some (.ref x), l3], .ref x :: st) σ) ∧
  (∀ (L : ri_L) (st : List Value) (σ : ri_S), ev 90 (101, L, st) σ = ev 90 (102, L, .int (-1) :: st) σ) ∧
  (∀ (L : ri_L) (σ : ri_S) (x : Int32), ev 90 (102, L, [.int x]) σ = some (some (.int x), σ)) :=
  ⟨fun l1 l2 l3 st σ x => ev_p ((TP_90 _).trans rfl) rfl,
   fun L st σ a => ev_getf ((TP_90 _).trans rfl),
   fun L st σ x => ev_b ((TP_90 _).trans rfl) rfl,
   fun l1 l2 l3 st σ x => ev_p ((TP_90 _).trans rfl) rfl,
   fun L st σ a => ev_getf ((TP_90 _).trans rfl),
   fun L st σ => ev_p ((TP_90 _).trans rfl) rfl,
   fun L σ a0 a1 => ev_call ((TP_90 _).trans rfl) rfl rfl rfl rfl,
   fun L st σ => ev_p ((TP_90 _).trans rfl) rfl,
   fun L st σ x y => ev_b ((TP_90 _).trans rfl) rfl,
   fun L st σ => ev_p ((TP_90 _).trans rfl) rfl,
   fun L σ x => ev_r ((TP_90 _).trans rfl) rfl,
   fun L st σ => ev_p ((TP_90 _).trans rfl) rfl,
   fun l0 l1 l2 l3 st σ x => ev_p ((TP_90 _).trans rfl) rfl,
   fun l0 l2 l3 st σ x => ev_p ((TP_90 _).trans rfl) rfl,
   fun l1 l2 l3 st σ x => ev_p ((TP_90 _).trans rfl) rfl,
   fun L st σ a => ev_getf ((TP_90 _).trans rfl),
   fun L st σ x y => ev_b ((TP_90 _).trans rfl) rfl,
   fun l1 l2 l3 st σ x => ev_p ((TP_90 _).trans rfl) rfl,
   fun L st σ a => ev_getf ((TP_90 _).trans rfl),
   fun l0 l2 l3 st σ x => ev_p ((TP_90 _).trans rfl) rfl,
   fun L σ a0 a1 => ev_call ((TP_90 _).trans rfl) rfl rfl rfl rfl,
   fun L σ a0 => ev_call ((TP_90 _).trans rfl) rfl rfl rfl rfl,
   fun l0 l1 l2 l3 st σ x => ev_p ((TP_90 _).trans rfl) rfl,
   fun l0 l1 l3 st σ x => ev_p ((TP_90 _).trans rfl) rfl,
   fun L st σ => ev_p ((TP_90 _).trans rfl) rfl,
   fun L σ x => ev_r ((TP_90 _).trans rfl) rfl⟩
theorem TP_91 (pc : Nat) : TT 91 pc = ri_find TL_91 pc := rfl
theorem E_91 (x0 : Int32) (σ : ri_S) : cal 91 [.int x0] σ = ev 91 (0, [some (.int x0)], []) σ := rfl
theorem I_91 :
  (∀ (st : List Value) (σ : ri_S) (x : Int32), ev 91 (0, [some (.int x)], st) σ = ev 91 (1, [some (.int x)], .int x :: st) σ) ∧
  (∀ (L : ri_L) (st : List Value) (σ : ri_S) (x : Int32), ev 91 (1, L, .int x :: st) σ = if x = 102 then ev 91 (102, L, st) σ else if x = 103 then ev 91 (117, L, st) σ else if x = 104 then ev 91 (111, L, st) σ else if x = 105 then ev 91 (117, L, st) σ else if x = 106 then ev 91 (108, L, st) σ else if x = 107 then ev 91 (117, L, st) σ else if x = 108 then ev 91 (99, L, st) σ else if x = 109 then ev 91 (117, L, st) σ else if x = 110 then ev 91 (117, L, st) σ else if x = 111 then ev 91 (117, L, st) σ else if x = 112 then ev 91 (117, L, st) σ else if x = 113 then ev 91 (117, L, st) σ else if x = 114 then ev 91 (117, L, st) σ else if x = 115 then ev 91 (117, L, st) σ else if x = 116 then ev 91 (114, L, st) σ else if x = 117 then ev 91 (117, L, st) σ else if x = 118 then ev 91 (117, L, st) σ else if x = 119 then ev 91 (96, L, st) σ else if x = 120 then ev 91 (117, L, st) σ else if x = 121 then ev 91 (105, L, st) σ else ev 91 (117, L, st) σ) :=
  ⟨fun st σ x => ev_p ((TP_91 _).trans rfl) rfl,
   fun L st σ x => (ev_sw (lo := 102) (ts := [102, 117, 111, 117, 108, 117, 99, 117, 117, 117, 117, 117, 117, 117, 114, 117, 117, 96, 117, 105]) (d := 117) ((TP_91 _).trans rfl)).trans (by simp only [ev_tab, ev_tab0, show (102 : Int32) + 1 = 103 from rfl, show (103 : Int32) + 1 = 104 from rfl, show (104 : Int32) + 1 = 105 from rfl, show (105 : Int32) + 1 = 106 from rfl, show (106 : Int32) + 1 = 107 from rfl, show (107 : Int32) + 1 = 108 from rfl, show (108 : Int32) + 1 = 109 from rfl, show (109 : Int32) + 1 = 110 from rfl, show (110 : Int32) + 1 = 111 from rfl, show (111 : Int32) + 1 = 112 from rfl, show (112 : Int32) + 1 = 113 from rfl, show (113 : Int32) + 1 = 114 from rfl, show (114 : Int32) + 1 = 115 from rfl, show (115 : Int32) + 1 = 116 from rfl, show (116 : Int32) + 1 = 117 from rfl, show (117 : Int32) + 1 = 118 from rfl, show (118 : Int32) + 1 = 119 from rfl, show (119 : Int32) + 1 = 120 from rfl, show (120 : Int32) + 1 = 121 from rfl, show (121 : Int32) + 1 = 122 from rfl])⟩
theorem TP_92 (pc : Nat) : TT 92 pc = ri_find TL_92 pc := rfl
theorem E_92 (x0 : Nat) (x1 : Int32) (x2 : Int32) (σ : ri_S) : cal 92 [.ref x0, .int x1, .int x2] σ = ev 92 (0, [some (.ref x0), some (.int x1), some (.int x2), none], []) σ := rfl
theorem I_92_0 :
  (∀ (l1 l2 l3 : Option Value) (st : List Value) (σ : ri_S) (x : Nat), ev 92 (0, [some (.ref x), l1, l2, l3], st) σ = ev 92 (1, [some (.ref x), l1, l2, l3], .ref x :: st) σ) ∧
  (∀ (L : ri_L) (st : List Value) (σ : ri_S) (a : Nat), ev 92 (1, L, .ref a :: st) σ = tv_o 6 0 (σ.1 a) fun v => ev 92 (4, L, v :: st) σ) ∧
  (∀ (l0 l1 l3 : Option Value) (st : List Value) (σ : ri_S) (x : Int32), ev 92 (4, [l0, l1, some (.int x), l3], st) σ = ev 92 (5, [l0, l1, some (.int x), l3], .int x :: st) σ) ∧
  (∀ (L : ri_L) (σ : ri_S) (a0 : Nat) (a1 : Int32), ev 92 (5, L, [.int a1, .ref a0]) σ = (cal 140 [.ref a0, .int a1] σ).bind fun q => ev 92 (8, L, q.1.toList ++ []) q.2) ∧
  (∀ (l0 l1 l2 l3 : Option Value) (st : List Value) (σ : ri_S) (x : Int32), ev 92 (8, [l0, l1, l2, l3], .int x :: st) σ = ev 92 (9, [l0, l1, ri_clr l2, some (.int x)], st) σ) ∧
  (∀ (l0 l2 l3 : Option Value) (st : List Value) (σ : ri_S) (x : Int32), ev 92 (9, [l0, some (.int x), l2, l3], st) σ = ev 92 (10, [l0, some (.int x), l2, l3], .int x :: st) σ) ∧
  (∀ (L : ri_L) (st : List Value) (σ : ri_S) (x : Int32), ev 92 (10, L, .int x :: st) σ = if x = 100 then ev 92 (187, L, st) σ else if x = 101 then ev 92 (214, L, st) σ else if x = 102 then ev 92 (178, L, st) σ else if x = 103 then ev 92 (214, L, st) σ else if x = 104 then ev 92 (214, L, st) σ else if x = 105 then ev 92 (214, L, st) σ else if x = 106 then ev 92 (214, L, st) σ else if x = 107 then ev 92 (205, L, st) σ else if x = 108 then ev 92 (196, L, st) σ else if x = 109 then ev 92 (214, L, st) σ else if x = 110 then ev 92 (104, L, st) σ else if x = 111 then ev 92 (113, L, st) σ else if x = 112 then ev 92 (169, L, st) σ else if x = 113 then ev 92 (214, L, st) σ else if x = 114 then ev 92 (214, L, st) σ else if x = 115 then ev 92 (214, L, st) σ else if x = 116 then ev 92 (122, L, st) σ else if x = 117 then ev 92 (131, L, st) σ else if x = 118 then ev 92 (214, L, st) σ else if x = 119 then ev 92 (160, L, st) σ else ev 92 (214, L, st) σ) ∧
  (∀ (l0 l1 l2 : Option Value) (st : List Value) (σ : ri_S) (x : Int32), ev 92 (104, [l0, l1, l2, some (.int x)], st) σ = ev 92 (105, [l0, l1, l2, some (.int x)], .int x :: st) σ) ∧
  (∀ (L : ri_L) (st : List Value) (σ : ri_S), ev 92 (105, L, st) σ = ev 92 (107, L, .int 51 :: st) σ) ∧
  (∀ (L : ri_L) (st : List Value) (σ : ri_S), ev 92 (107, L, st) σ = ev 92 (109, L, .int 53 :: st) σ) ∧
  (∀ (L : ri_L) (σ : ri_S) (a0 : Int32) (a1 : Int32) (a2 : Int32), ev 92 (109, L, [.int a2, .int a1, .int a0]) σ = (cal 137 [.int a0, .int a1, .int a2] σ).bind fun q => ev 92 (112, L, q.1.toList ++ []) q.2) ∧
  (∀ (L : ri_L) (σ : ri_S) (x : Int32), ev 92 (112, L, [.int x]) σ = tv_b x (some (some (.int x), σ))) ∧
  (∀ (l0 l1 l2 : Option Value) (st : List Value) (σ : ri_S) (x : Int32), ev 92 (113, [l0, l1, l2, some (.int x)], st) σ = ev 92 (114, [l0, l1, l2, some (.int x)], .int x :: st) σ) ∧
  (∀ (L : ri_L) (st : List Value) (σ : ri_S), ev 92 (114, L, st) σ = ev 92 (116, L, .int 48 :: st) σ) ∧
  (∀ (L : ri_L) (st : List Value) (σ : ri_S), ev 92 (116, L, st) σ = ev 92 (118, L, .int 56 :: st) σ) ∧
  (∀ (L : ri_L) (σ : ri_S) (a0 : Int32) (a1 : Int32) (a2 : Int32), ev 92 (118, L, [.int a2, .int a1, .int a0]) σ = (cal 137 [.int a0, .int a1, .int a2] σ).bind fun q => ev 92 (121, L, q.1.toList ++ []) q.2) ∧
  (∀ (L : ri_L) (σ : ri_S) (x : Int32), ev 92 (121, L, [.int x]) σ = tv_b x (some (some (.int x), σ))) ∧
  (∀ (l0 l1 l2 : Option Value) (st : List Value) (σ : ri_S) (x : Int32), ev 92 (122, [l0, l1, l2, some (.int x)], st) σ = ev 92 (123, [l0, l1, l2, some (.int x)], .int x :: st) σ) ∧
  (∀ (L : ri_L) (st : List Value) (σ : ri_S), ev 92 (123, L, st) σ = ev 92 (125, L, .int 48 :: st) σ) ∧
  (∀ (L : ri_L) (st : List Value) (σ : ri_S), ev 92 (125, L, st) σ = ev 92 (127, L, .int 51 :: st) σ) ∧
  (∀ (L : ri_L) (σ : ri_S) (a0 : Int32) (a1 : Int32) (a2 : Int32), ev 92 (127, L, [.int a2, .int a1, .int a0]) σ = (cal 137 [.int a0, .int a1, .int a2] σ).bind fun q => ev 92 (130, L, q.1.toList ++ []) q.2) ∧
  (∀ (L : ri_L) (σ : ri_S) (x : Int32), ev 92 (130, L, [.int x]) σ = tv_b x (some (some (.int x), σ))) ∧
  (∀ (l0 l1 l2 : Option Value) (st : List Value) (σ : ri_S) (x : Int32), ev 92 (131, [l0, l1, l2, some (.int x)], st) σ = ev 92 (132, [l0, l1, l2, some (.int x)], .int x :: st) σ) ∧
  (∀ (L : ri_L) (st : List Value) (σ : ri_S), ev 92 (132, L, st) σ = ev 92 (134, L, .int 48 :: st) σ) ∧
  (∀ (l1 l2 l3 : Option Value) (st : List Value) (σ : ri_S) (x : Nat), ev 92 (134, [some (.ref x), l1, l2, l3], st) σ = ev 92 (135, [some (.ref x), l1, l2, l3], .ref x :: st) σ) ∧
  (∀ (L : ri_L) (st : List Value) (σ : ri_S) (a : Nat), ev 92 (135, L, .ref a :: st) σ = tv_o 6 0 (σ.1 a) fun v => ev 92 (138, L, v :: st) σ) ∧
  (∀ (l0 l1 l3 : Option Value) (st : List Value) (σ : ri_S) (x : Int32), ev 92 (138, [l0, l1, some (.int x), l3], st) σ = ev 92 (139, [l0, l1, some (.int x), l3], .int x :: st) σ) ∧
  (∀ (L : ri_L) (st : List Value) (σ : ri_S), ev 92 (139, L, st) σ = ev 92 (140, L, .int 1 :: st) σ) ∧
  (∀ (L : ri_L) (st : List Value) (σ : ri_S) (x y : Int32), ev 92 (140, L, .int y :: .int x :: st) σ = ev 92 (141, L, .int (x - y) :: st) σ) ∧
  (∀ (L : ri_L) (σ : ri_S) (a0 : Nat) (a1 : Int32) (s0 s1 : Value), ev 92 (141, L, [.int a1, .ref a0, s0, s1]) σ = (cal 140 [.ref a0, .int a1] σ).bind fun q => ev 92 (144, L, q.1.toList ++ [s0, s1]) q.2) ∧
  (∀ (L : ri_L) (st : List Value) (σ : ri_S), ev 92 (144, L, st) σ = ev 92 (146, L, .int 51 :: st) σ) ∧
  (∀ (L : ri_L) (st : List Value) (σ : ri_S) (x y : Int32), ev 92 (146, L, .int y :: .int x :: st) σ = if ¬ x = y then ev 92 (154, L, st) σ else ev 92 (149, L, st) σ) ∧
  (∀ (L : ri_L) (st : List Value) (σ : ri_S), ev 92 (149, L, st) σ = ev 92 (151, L, .int 48 :: st) σ) ∧
  (∀ (L : ri_L) (st : List Value) (σ : ri_S), ev 92 (151, L, st) σ = ev 92 (156, L, st) σ) ∧
  (∀ (L : ri_L) (st : List Value) (σ : ri_S), ev 92 (154, L, st) σ = ev 92 (156, L, .int 57 :: st) σ) ∧
  (∀ (L : ri_L) (σ : ri_S) (a0 : Int32) (a1 : Int32) (a2 : Int32), ev 92 (156, L, [.int a2, .int a1, .int a0]) σ = (cal 137 [.int a0, .int a1, .int a2] σ).bind fun q => ev 92 (159, L, q.1.toList ++ []) q.2) ∧
  (∀ (L : ri_L) (σ : ri_S) (x : Int32), ev 92 (159, L, [.int x]) σ = tv_b x (some (some (.int x), σ))) ∧
  (∀ (l0 l1 l2 : Option Value) (st : List Value) (σ : ri_S) (x : Int32), ev 92 (160, [l0, l1, l2, some (.int x)], st) σ = ev 92 (161, [l0, l1, l2, some (.int x)], .int x :: st) σ) ∧
  (∀ (L : ri_L) (st : List Value) (σ : ri_S), ev 92 (161, L, st) σ = ev 92 (163, L, .int 48 :: st) σ) ∧
  (∀ (L : ri_L) (st : List Value) (σ : ri_S), ev 92 (163, L, st) σ = ev 92 (165, L, .int 50 :: st) σ) :=
  ⟨fun l1 l2 l3 st σ x => ev_p ((TP_92 _).trans rfl) rfl,
   fun L st σ a => ev_getf ((TP_92 _).trans rfl),
   fun l0 l1 l3 st σ x => ev_p ((TP_92 _).trans rfl) rfl,
   fun L σ a0 a1 => ev_call ((TP_92 _).trans rfl) rfl rfl rfl rfl,
   fun l0 l1 l2 l3 st σ x => ev_p ((TP_92 _).trans rfl) rfl,
   fun l0 l2 l3 st σ x => ev_p ((TP_92 _).trans rfl) rfl,
   fun L st σ x => (ev_sw (lo := 100) (ts := [187, 214, 178, 214, 214, 214, 214, 205, 196, 214, 104, 113, 169, 214, 214, 214, 122, 131, 214, 160]) (d := 214) ((TP_92 _).trans rfl)).trans (by simp only [ev_tab, ev_tab0, show (100 : Int32) + 1 = 101 from rfl, show (101 : Int32) + 1 = 102 from rfl, show (102 : Int32) + 1 = 103 from rfl, show (103 : Int32) + 1 = 104 from rfl, show (104 : Int32) + 1 = 105 from rfl, show (105 : Int32) + 1 = 106 from rfl, show (106 : Int32) + 1 = 107 from rfl, show (107 : Int32) + 1 = 108 from rfl, show (108 : Int32) + 1 = 109 from rfl, show (109 : Int32) + 1 = 110 from rfl, show (110 : Int32) + 1 = 111 from rfl, show (111 : Int32) + 1 = 112 from rfl, show (112 : Int32) + 1 = 113 from rfl, show (113 : Int32) + 1 = 114 from rfl, show (114 : Int32) + 1 = 115 from rfl, show (115 : Int32) + 1 = 116 from rfl, show (116 : Int32) + 1 = 117 from rfl, show (117 : Int32) + 1 = 118 from rfl, show (118 : Int32) + 1 = 119 from rfl, show (119 : Int32) + 1 = 120 from rfl]),
   fun l0 l1 l2 st σ x => ev_p ((TP_92 _).trans rfl) rfl,
   fun L st σ => ev_p ((TP_92 _).trans rfl) rfl,
   fun L st σ => ev_p ((TP_92 _).trans rfl) rfl,
   fun L σ a0 a1 a2 => ev_call ((TP_92 _).trans rfl) rfl rfl rfl rfl,
   fun L σ x => ev_r ((TP_92 _).trans rfl) rfl,
   fun l0 l1 l2 st σ x => ev_p ((TP_92 _).trans rfl) rfl,
   fun L st σ => ev_p ((TP_92 _).trans rfl) rfl,
   fun L st σ => ev_p ((TP_92 _).trans rfl) rfl,
   fun L σ a0 a1 a2 => ev_call ((TP_92 _).trans rfl) rfl rfl rfl rfl,
   fun L σ x => ev_r ((TP_92 _).trans rfl) rfl,
   fun l0 l1 l2 st σ x => ev_p ((TP_92 _).trans rfl) rfl,
   fun L st σ => ev_p ((TP_92 _).trans rfl) rfl,
   fun L st σ => ev_p ((TP_92 _).trans rfl) rfl,
   fun L σ a0 a1 a2 => ev_call ((TP_92 _).trans rfl) rfl rfl rfl rfl,
   fun L σ x => ev_r ((TP_92 _).trans rfl) rfl,
   fun l0 l1 l2 st σ x => ev_p ((TP_92 _).trans rfl) rfl,
   fun L st σ => ev_p ((TP_92 _).trans rfl) rfl,
   fun l1 l2 l3 st σ x => ev_p ((TP_92 _).trans rfl) rfl,
   fun L st σ a => ev_getf ((TP_92 _).trans rfl),
   fun l0 l1 l3 st σ x => ev_p ((TP_92 _).trans rfl) rfl,
   fun L st σ => ev_p ((TP_92 _).trans rfl) rfl,
   fun L st σ x y => ev_p ((TP_92 _).trans rfl) rfl,
   fun L σ a0 a1 s0 s1 => ev_call ((TP_92 _).trans rfl) rfl rfl rfl rfl,
   fun L st σ => ev_p ((TP_92 _).trans rfl) rfl,
   fun L st σ x y => ev_b ((TP_92 _).trans rfl) rfl,
   fun L st σ => ev_p ((TP_92 _).trans rfl) rfl,
   fun L st σ => ev_p ((TP_92 _).trans rfl) rfl,
   fun L st σ => ev_p ((TP_92 _).trans rfl) rfl,
   fun L σ a0 a1 a2 => ev_call ((TP_92 _).trans rfl) rfl rfl rfl rfl,
   fun L σ x => ev_r ((TP_92 _).trans rfl) rfl,
   fun l0 l1 l2 st σ x => ev_p ((TP_92 _).trans rfl) rfl,
   fun L st σ => ev_p ((TP_92 _).trans rfl) rfl,
   fun L st σ => ev_p ((TP_92 _).trans rfl) rfl⟩
theorem I_92_1 :
  (∀ (L : ri_L) (σ : ri_S) (a0 : Int32) (a1 : Int32) (a2 : Int32), ev 92 (165, L, [.int a2, .int a1, .int a0]) σ = (cal 137 [.int a0, .int a1, .int a2] σ).bind fun q => ev 92 (168, L, q.1.toList ++ []) q.2) ∧
  (∀ (L : ri_L) (σ : ri_S) (x : Int32), ev 92 (168, L, [.int x]) σ = tv_b x (some (some (.int x), σ))) ∧
  (∀ (l0 l1 l2 : Option Value) (st : List Value) (σ : ri_S) (x : Int32), ev 92 (169, [l0, l1, l2, some (.int x)], st) σ = ev 92 (170, [l0, l1, l2, some (.int x)], .int x :: st) σ) ∧
  (∀ (L : ri_L) (st : List Value) (σ : ri_S), ev 92 (170, L, st) σ = ev 92 (172, L, .int 48 :: st) σ) ∧
  (∀ (L : ri_L) (st : List Value) (σ : ri_S), ev 92 (172, L, st) σ = ev 92 (174, L, .int 52 :: st) σ) ∧
  (∀ (L : ri_L) (σ : ri_S) (a0 : Int32) (a1 : Int32) (a2 : Int32), ev 92 (174, L, [.int a2, .int a1, .int a0]) σ = (cal 137 [.int a0, .int a1, .int a2] σ).bind fun q => ev 92 (177, L, q.1.toList ++ []) q.2) ∧
  (∀ (L : ri_L) (σ : ri_S) (x : Int32), ev 92 (177, L, [.int x]) σ = tv_b x (some (some (.int x), σ))) ∧
  (∀ (l0 l1 l2 : Option Value) (st : List Value) (σ : ri_S) (x : Int32), ev 92 (178, [l0, l1, l2, some (.int x)], st) σ = ev 92 (179, [l0, l1, l2, some (.int x)], .int x :: st) σ) ∧
  (∀ (L : ri_L) (st : List Value) (σ : ri_S), ev 92 (179, L, st) σ = ev 92 (181, L, .int 48 :: st) σ) ∧
  (∀ (L : ri_L) (st : List Value) (σ : ri_S), ev 92 (181, L, st) σ = ev 92 (183, L, .int 52 :: st) σ) ∧
  (∀ (L : ri_L) (σ : ri_S) (a0 : Int32) (a1 : Int32) (a2 : Int32), ev 92 (183, L, [.int a2, .int a1, .int a0]) σ = (cal 137 [.int a0, .int a1, .int a2] σ).bind fun q => ev 92 (186, L, q.1.toList ++ []) q.2) ∧
  (∀ (L : ri_L) (σ : ri_S) (x : Int32), ev 92 (186, L, [.int x]) σ = tv_b x (some (some (.int x), σ))) ∧
  (∀ (l0 l1 l2 : Option Value) (st : List Value) (σ : ri_S) (x : Int32), ev 92 (187, [l0, l1, l2, some (.int x)], st) σ = ev 92 (188, [l0, l1, l2, some (.int x)], .int x :: st) σ) ∧
  (∀ (L : ri_L) (st : List Value) (σ : ri_S), ev 92 (188, L, st) σ = ev 92 (190, L, .int 49 :: st) σ) ∧
  (∀ (L : ri_L) (st : List Value) (σ : ri_S), ev 92 (190, L, st) σ = ev 92 (192, L, .int 57 :: st) σ) ∧
  (∀ (L : ri_L) (σ : ri_S) (a0 : Int32) (a1 : Int32) (a2 : Int32), ev 92 (192, L, [.int a2, .int a1, .int a0]) σ = (cal 137 [.int a0, .int a1, .int a2] σ).bind fun q => ev 92 (195, L, q.1.toList ++ []) q.2) ∧
  (∀ (L : ri_L) (σ : ri_S) (x : Int32), ev 92 (195, L, [.int x]) σ = tv_b x (some (some (.int x), σ))) ∧
  (∀ (l0 l1 l2 : Option Value) (st : List Value) (σ : ri_S) (x : Int32), ev 92 (196, [l0, l1, l2, some (.int x)], st) σ = ev 92 (197, [l0, l1, l2, some (.int x)], .int x :: st) σ) ∧
  (∀ (L : ri_L) (st : List Value) (σ : ri_S), ev 92 (197, L, st) σ = ev 92 (199, L, .int 48 :: st) σ) ∧
  (∀ (L : ri_L) (st : List Value) (σ : ri_S), ev 92 (199, L, st) σ = ev 92 (201, L, .int 55 :: st) σ) ∧
  (∀ (L : ri_L) (σ : ri_S) (a0 : Int32) (a1 : Int32) (a2 : Int32), ev 92 (201, L, [.int a2, .int a1, .int a0]) σ = (cal 137 [.int a0, .int a1, .int a2] σ).bind fun q => ev 92 (204, L, q.1.toList ++ []) q.2) ∧
  (∀ (L : ri_L) (σ : ri_S) (x : Int32), ev 92 (204, L, [.int x]) σ = tv_b x (some (some (.int x), σ))) ∧
  (∀ (l0 l1 l2 : Option Value) (st : List Value) (σ : ri_S) (x : Int32), ev 92 (205, [l0, l1, l2, some (.int x)], st) σ = ev 92 (206, [l0, l1, l2, some (.int x)], .int x :: st) σ) ∧
  (∀ (L : ri_L) (st : List Value) (σ : ri_S), ev 92 (206, L, st) σ = ev 92 (208, L, .int 49 :: st) σ) ∧
  (∀ (L : ri_L) (st : List Value) (σ : ri_S), ev 92 (208, L, st) σ = ev 92 (210, L, .int 52 :: st) σ) ∧
  (∀ (L : ri_L) (σ : ri_S) (a0 : Int32) (a1 : Int32) (a2 : Int32), ev 92 (210, L, [.int a2, .int a1, .int a0]) σ = (cal 137 [.int a0, .int a1, .int a2] σ).bind fun q => ev 92 (213, L, q.1.toList ++ []) q.2) ∧
  (∀ (L : ri_L) (σ : ri_S) (x : Int32), ev 92 (213, L, [.int x]) σ = tv_b x (some (some (.int x), σ))) ∧
  (∀ (l0 l1 l2 : Option Value) (st : List Value) (σ : ri_S) (x : Int32), ev 92 (214, [l0, l1, l2, some (.int x)], st) σ = ev 92 (215, [l0, l1, l2, some (.int x)], .int x :: st) σ) ∧
  (∀ (L : ri_L) (st : List Value) (σ : ri_S), ev 92 (215, L, st) σ = ev 92 (217, L, .int 43 :: st) σ) ∧
  (∀ (L : ri_L) (st : List Value) (σ : ri_S) (x y : Int32), ev 92 (217, L, .int y :: .int x :: st) σ = if x = y then ev 92 (226, L, st) σ else ev 92 (220, L, st) σ) ∧
  (∀ (l0 l1 l2 : Option Value) (st : List Value) (σ : ri_S) (x : Int32), ev 92 (220, [l0, l1, l2, some (.int x)], st) σ = ev 92 (221, [l0, l1, l2, some (.int x)], .int x :: st) σ) ∧
  (∀ (L : ri_L) (st : List Value) (σ : ri_S), ev 92 (221, L, st) σ = ev 92 (223, L, .int 45 :: st) σ) ∧
  (∀ (L : ri_L) (st : List Value) (σ : ri_S) (x y : Int32), ev 92 (223, L, .int y :: .int x :: st) σ = if ¬ x = y then ev 92 (230, L, st) σ else ev 92 (226, L, st) σ) ∧
  (∀ (L : ri_L) (st : List Value) (σ : ri_S), ev 92 (226, L, st) σ = ev 92 (227, L, .int 1 :: st) σ) ∧
  (∀ (L : ri_L) (st : List Value) (σ : ri_S), ev 92 (227, L, st) σ = ev 92 (231, L, st) σ) ∧
  (∀ (L : ri_L) (st : List Value) (σ : ri_S), ev 92 (230, L, st) σ = ev 92 (231, L, .int 0 :: st) σ) ∧
  (∀ (L : ri_L) (σ : ri_S) (x : Int32), ev 92 (231, L, [.int x]) σ = tv_b x (some (some (.int x), σ))) :=
  ⟨fun L σ a0 a1 a2 => ev_call ((TP_92 _).trans rfl) rfl rfl rfl rfl,
   fun L σ x => ev_r ((TP_92 _).trans rfl) rfl,
   fun l0 l1 l2 st σ x => ev_p ((TP_92 _).trans rfl) rfl,
   fun L st σ => ev_p ((TP_92 _).trans rfl) rfl,
   fun L st σ => ev_p ((TP_92 _).trans rfl) rfl,
   fun L σ a0 a1 a2 => ev_call ((TP_92 _).trans rfl) rfl rfl rfl rfl,
   fun L σ x => ev_r ((TP_92 _).trans rfl) rfl,
   fun l0 l1 l2 st σ x => ev_p ((TP_92 _).trans rfl) rfl,
   fun L st σ => ev_p ((TP_92 _).trans rfl) rfl,
   fun L st σ => ev_p ((TP_92 _).trans rfl) rfl,
   fun L σ a0 a1 a2 => ev_call ((TP_92 _).trans rfl) rfl rfl rfl rfl,
   fun L σ x => ev_r ((TP_92 _).trans rfl) rfl,
   fun l0 l1 l2 st σ x => ev_p ((TP_92 _).trans rfl) rfl,
   fun L st σ => ev_p ((TP_92 _).trans rfl) rfl,
   fun L st σ => ev_p ((TP_92 _).trans rfl) rfl,
   fun L σ a0 a1 a2 => ev_call ((TP_92 _).trans rfl) rfl rfl rfl rfl,
   fun L σ x => ev_r ((TP_92 _).trans rfl) rfl,
   fun l0 l1 l2 st σ x => ev_p ((TP_92 _).trans rfl) rfl,
   fun L st σ => ev_p ((TP_92 _).trans rfl) rfl,
   fun L st σ => ev_p ((TP_92 _).trans rfl) rfl,
   fun L σ a0 a1 a2 => ev_call ((TP_92 _).trans rfl) rfl rfl rfl rfl,
   fun L σ x => ev_r ((TP_92 _).trans rfl) rfl,
   fun l0 l1 l2 st σ x => ev_p ((TP_92 _).trans rfl) rfl,
   fun L st σ => ev_p ((TP_92 _).trans rfl) rfl,
   fun L st σ => ev_p ((TP_92 _).trans rfl) rfl,
   fun L σ a0 a1 a2 => ev_call ((TP_92 _).trans rfl) rfl rfl rfl rfl,
   fun L σ x => ev_r ((TP_92 _).trans rfl) rfl,
   fun l0 l1 l2 st σ x => ev_p ((TP_92 _).trans rfl) rfl,
   fun L st σ => ev_p ((TP_92 _).trans rfl) rfl,
   fun L st σ x y => ev_b ((TP_92 _).trans rfl) rfl,
   fun l0 l1 l2 st σ x => ev_p ((TP_92 _).trans rfl) rfl,
   fun L st σ => ev_p ((TP_92 _).trans rfl) rfl,
   fun L st σ x y => ev_b ((TP_92 _).trans rfl) rfl,
   fun L st σ => ev_p ((TP_92 _).trans rfl) rfl,
   fun L st σ => ev_p ((TP_92 _).trans rfl) rfl,
   fun L st σ => ev_p ((TP_92 _).trans rfl) rfl,
   fun L σ x => ev_r ((TP_92 _).trans rfl) rfl⟩
theorem TP_93 (pc : Nat) : TT 93 pc = ri_find TL_93 pc := rfl
theorem E_93 (x0 : Nat) (x1 : Nat) (σ : ri_S) : cal 93 [.ref x0, .ref x1] σ = ev 93 (0, [some (.ref x0), some (.ref x1), none, none], []) σ := rfl
theorem I_93 :
  (∀ (L : ri_L) (st : List Value) (σ : ri_S), ev 93 (0, L, st) σ = ev 93 (1, L, .int 0 :: st) σ) ∧
  (∀ (l0 l1 l2 l3 : Option Value) (st : List Value) (σ : ri_S) (x : Int32), ev 93 (1, [l0, l1, l2, l3], .int x :: st) σ = ev 93 (2, [l0, ri_clr l1, some (.int x), l3], st) σ) ∧
  (∀ (L : ri_L) (st : List Value) (σ : ri_S), ev 93 (2, L, st) σ = ev 93 (3, L, .int 1 :: st) σ) ∧
  (∀ (l0 l1 l2 l3 : Option Value) (st : List Value) (σ : ri_S) (x : Int32), ev 93 (3, [l0, l1, l2, l3], .int x :: st) σ = ev 93 (4, [l0, l1, ri_clr l2, some (.int x)], st) σ) ∧
  (∀ (l0 l1 l2 : Option Value) (st : List Value) (σ : ri_S) (x : Int32), ev 93 (4, [l0, l1, l2, some (.int x)], st) σ = ev 93 (5, [l0, l1, l2, some (.int x)], .int x :: st) σ) ∧
  (∀ (l1 l2 l3 : Option Value) (st : List Value) (σ : ri_S) (x : Nat), ev 93 (5, [some (.ref x), l1, l2, l3], st) σ = ev 93 (6, [some (.ref x), l1, l2, l3], .ref x :: st) σ) ∧
  (∀ (L : ri_L) (st : List Value) (σ : ri_S) (a : Nat), ev 93 (6, L, .ref a :: st) σ = tv_o 6 1 (σ.1 a) fun v => ev 93 (9, L, v :: st) σ) ∧
  (∀ (L : ri_L) (st : List Value) (σ : ri_S) (x y : Int32), ev 93 (9, L, .int y :: .int x :: st) σ = if y ≤ x then ev 93 (46, L, st) σ else ev 93 (12, L, st) σ) ∧
  (∀ (l1 l2 l3 : Option Value) (st : List Value) (σ : ri_S) (x : Nat), ev 93 (12, [some (.ref x), l1, l2, l3], st) σ = ev 93 (13, [some (.ref x), l1, l2, l3], .ref x :: st) σ) ∧
  (∀ (l0 l2 l3 : Option Value) (st : List Value) (σ : ri_S) (x : Nat), ev 93 (13, [l0, some (.ref x), l2, l3], st) σ = ev 93 (14, [l0, some (.ref x), l2, l3], .ref x :: st) σ) ∧
  (∀ (l0 l1 l2 : Option Value) (st : List Value) (σ : ri_S) (x : Int32), ev 93 (14, [l0, l1, l2, some (.int x)], st) σ = ev 93 (15, [l0, l1, l2, some (.int x)], .int x :: st) σ) ∧
  (∀ (L : ri_L) (σ : ri_S) (a0 : Nat) (a1 : Nat) (a2 : Int32), ev 93 (15, L, [.int a2, .ref a1, .ref a0]) σ = tv_k 6 (σ.1 a0) ((cal 94 [.ref a0, .ref a1, .int a2] σ).bind fun q => ev 93 (18, L, q.1.toList ++ []) q.2)) ∧
  (∀ (L : ri_L) (st : List Value) (σ : ri_S) (x : Int32), ev 93 (18, L, .int x :: st) σ = if ¬ x = 0 then ev 93 (24, L, st) σ else ev 93 (21, L, st) σ) ∧
  (∀ (l0 l1 l3 : Option Value) (st : List Value) (σ : ri_S) (x : Int32), ev 93 (21, [l0, l1, some (.int x), l3], st) σ = ev 93 (24, [l0, ri_clr l1, some (.int (x + 1)), l3], st) σ) ∧
  (∀ (l0 l1 l2 : Option Value) (st : List Value) (σ : ri_S) (x : Int32), ev 93 (24, [l0, l1, l2, some (.int x)], st) σ = ev 93 (25, [l0, l1, l2, some (.int x)], .int x :: st) σ) ∧
  (∀ (L : ri_L) (st : List Value) (σ : ri_S), ev 93 (25, L, st) σ = ev 93 (26, L, .int 1 :: st) σ) ∧
  (∀ (l1 l2 l3 : Option Value) (st : List Value) (σ : ri_S) (x : Nat), ev 93 (26, [some (.ref x), l1, l2, l3], st) σ = ev 93 (27, [some (.ref x), l1, l2, l3], .ref x :: st) σ) ∧
  (∀ (L : ri_L) (st : List Value) (σ : ri_S) (a : Nat), ev 93 (27, L, .ref a :: st) σ = tv_o 6 0 (σ.1 a) fun v => ev 93 (30, L, v :: st) σ) ∧
  (∀ (l0 l1 l2 : Option Value) (st : List Value) (σ : ri_S) (x : Int32), ev 93 (30, [l0, l1, l2, some (.int x)], st) σ = ev 93 (31, [l0, l1, l2, some (.int x)], .int x :: st) σ) ∧
  (∀ (L : ri_L) (σ : ri_S) (a0 : Nat) (a1 : Int32) (s0 s1 : Value), ev 93 (31, L, [.int a1, .ref a0, s0, s1]) σ = (cal 140 [.ref a0, .int a1] σ).bind fun q => ev 93 (34, L, q.1.toList ++ [s0, s1]) q.2) ∧
  (∀ (L : ri_L) (σ : ri_S) (a0 : Int32) (s0 s1 : Value), ev 93 (34, L, [.int a0, s0, s1]) σ = (cal 91 [.int a0] σ).bind fun q => ev 93 (37, L, q.1.toList ++ [s0, s1]) q.2) ∧
  (∀ (l0 l1 l3 : Option Value) (st : List Value) (σ : ri_S) (x : Int32), ev 93 (46, [l0, l1, some (.int x), l3], st) σ = ev 93 (47, [l0, l1, some (.int x), l3], .int x :: st) σ) ∧
  (∀ (L : ri_L) (σ : ri_S) (x : Int32), ev 93 (47, L, [.int x]) σ = some (some (.int x), σ)) :=
  ⟨fun L st σ => ev_p ((TP_93 _).trans rfl) rfl,
   fun l0 l1 l2 l3 st σ x => ev_p ((TP_93 _).trans rfl) rfl,
   fun L st σ => ev_p ((TP_93 _).trans rfl) rfl,
   fun l0 l1 l2 l3 st σ x => ev_p ((TP_93 _).trans rfl) rfl,
   fun l0 l1 l2 st σ x => ev_p ((TP_93 _).trans rfl) rfl,
   fun l1 l2 l3 st σ x => ev_p ((TP_93 _).trans rfl) rfl,
   fun L st σ a => ev_getf ((TP_93 _).trans rfl),
   fun L st σ x y => ev_b ((TP_93 _).trans rfl) rfl,
   fun l1 l2 l3 st σ x => ev_p ((TP_93 _).trans rfl) rfl,
   fun l0 l2 l3 st σ x => ev_p ((TP_93 _).trans rfl) rfl,
   fun l0 l1 l2 st σ x => ev_p ((TP_93 _).trans rfl) rfl,
   fun L σ a0 a1 a2 => ev_callv ((TP_93 _).trans rfl) rfl rfl rfl rfl,
   fun L st σ x => ev_b ((TP_93 _).trans rfl) rfl,
   fun l0 l1 l3 st σ x => ev_p ((TP_93 _).trans rfl) rfl,
   fun l0 l1 l2 st σ x => ev_p ((TP_93 _).trans rfl) rfl,
   fun L st σ => ev_p ((TP_93 _).trans rfl) rfl,
   fun l1 l2 l3 st σ x => ev_p ((TP_93 _).trans rfl) rfl,
   fun L st σ a => ev_getf ((TP_93 _).trans rfl),
   fun l0 l1 l2 st σ x => ev_p ((TP_93 _).trans rfl) rfl,
   fun L σ a0 a1 s0 s1 => ev_call ((TP_93 _).trans rfl) rfl rfl rfl rfl,
   fun L σ a0 s0 s1 => ev_call ((TP_93 _).trans rfl) rfl rfl rfl rfl,
   fun l0 l1 l3 st σ x => ev_p ((TP_93 _).trans rfl) rfl,
   fun L σ x => ev_r ((TP_93 _).trans rfl) rfl⟩
