/-! How each method reads on. -/
theorem TP_94 (pc : Nat) : TT 94 pc = ri_find TL_94 pc := rfl
theorem E_94 (x0 : Nat) (x1 : Nat) (x2 : Int32) (σ : ri_S) : cal 94 [.ref x0, .ref x1, .int x2] σ = ev 94 (0, [some (.ref x0), some (.ref x1), some (.int x2), none, none, none, none], []) σ := rfl
theorem I_94_0 :
  (∀ (l1 l2 l3 l4 l5 l6 : Option Value) (st : List Value) (σ : ri_S) (x : Nat), ev 94 (0, [some (.ref x), l1, l2, l3, l4, l5, l6], st) σ = ev 94 (1, [some (.ref x), l1, l2, l3, l4, l5, l6], .ref x :: st) σ) ∧
  (∀ (l0 l1 l3 l4 l5 l6 : Option Value) (st : List Value) (σ : ri_S) (x : Int32), ev 94 (1, [l0, l1, some (.int x), l3, l4, l5, l6], st) σ = ev 94 (2, [l0, l1, some (.int x), l3, l4, l5, l6], .int x :: st) σ) ∧
  (∀ (L : ri_L) (st : List Value) (σ : ri_S), ev 94 (2, L, st) σ = ev 94 (3, L, .int 1 :: st) σ) ∧
  (∀ (L : ri_L) (st : List Value) (σ : ri_S) (x y : Int32), ev 94 (3, L, .int y :: .int x :: st) σ = ev 94 (4, L, .int (x + y) :: st) σ) ∧
  (∀ (L : ri_L) (σ : ri_S) (a0 : Nat) (a1 : Int32), ev 94 (4, L, [.int a1, .ref a0]) σ = tv_k 6 (σ.1 a0) ((cal 95 [.ref a0, .int a1] σ).bind fun q => ev 94 (7, L, q.1.toList ++ []) q.2)) ∧
  (∀ (l0 l1 l2 l3 l4 l5 l6 : Option Value) (st : List Value) (σ : ri_S) (x : Int32), ev 94 (7, [l0, l1, l2, l3, l4, l5, l6], .int x :: st) σ = ev 94 (8, [l0, l1, ri_clr l2, some (.int x), l4, l5, l6], st) σ) ∧
  (∀ (l1 l2 l3 l4 l5 l6 : Option Value) (st : List Value) (σ : ri_S) (x : Nat), ev 94 (8, [some (.ref x), l1, l2, l3, l4, l5, l6], st) σ = ev 94 (9, [some (.ref x), l1, l2, l3, l4, l5, l6], .ref x :: st) σ) ∧
  (∀ (l0 l1 l3 l4 l5 l6 : Option Value) (st : List Value) (σ : ri_S) (x : Int32), ev 94 (9, [l0, l1, some (.int x), l3, l4, l5, l6], st) σ = ev 94 (10, [l0, l1, some (.int x), l3, l4, l5, l6], .int x :: st) σ) ∧
  (∀ (L : ri_L) (st : List Value) (σ : ri_S), ev 94 (10, L, st) σ = ev 94 (11, L, .int 2 :: st) σ) ∧
  (∀ (L : ri_L) (st : List Value) (σ : ri_S) (x y : Int32), ev 94 (11, L, .int y :: .int x :: st) σ = ev 94 (12, L, .int (x + y) :: st) σ) ∧
  (∀ (L : ri_L) (σ : ri_S) (a0 : Nat) (a1 : Int32), ev 94 (12, L, [.int a1, .ref a0]) σ = tv_k 6 (σ.1 a0) ((cal 95 [.ref a0, .int a1] σ).bind fun q => ev 94 (15, L, q.1.toList ++ []) q.2)) ∧
  (∀ (l0 l1 l2 l3 l4 l5 l6 : Option Value) (st : List Value) (σ : ri_S) (x : Int32), ev 94 (15, [l0, l1, l2, l3, l4, l5, l6], .int x :: st) σ = ev 94 (17, [l0, l1, l2, ri_clr l3, some (.int x), l5, l6], st) σ) ∧
  (∀ (l1 l2 l3 l4 l5 l6 : Option Value) (st : List Value) (σ : ri_S) (x : Nat), ev 94 (17, [some (.ref x), l1, l2, l3, l4, l5, l6], st) σ = ev 94 (18, [some (.ref x), l1, l2, l3, l4, l5, l6], .ref x :: st) σ) ∧
  (∀ (l0 l1 l3 l4 l5 l6 : Option Value) (st : List Value) (σ : ri_S) (x : Int32), ev 94 (18, [l0, l1, some (.int x), l3, l4, l5, l6], st) σ = ev 94 (19, [l0, l1, some (.int x), l3, l4, l5, l6], .int x :: st) σ) ∧
  (∀ (L : ri_L) (st : List Value) (σ : ri_S), ev 94 (19, L, st) σ = ev 94 (20, L, .int 3 :: st) σ) ∧
  (∀ (L : ri_L) (st : List Value) (σ : ri_S) (x y : Int32), ev 94 (20, L, .int y :: .int x :: st) σ = ev 94 (21, L, .int (x + y) :: st) σ) ∧
  (∀ (L : ri_L) (σ : ri_S) (a0 : Nat) (a1 : Int32), ev 94 (21, L, [.int a1, .ref a0]) σ = tv_k 6 (σ.1 a0) ((cal 95 [.ref a0, .int a1] σ).bind fun q => ev 94 (24, L, q.1.toList ++ []) q.2)) ∧
  (∀ (l0 l1 l2 l3 l4 l5 l6 : Option Value) (st : List Value) (σ : ri_S) (x : Int32), ev 94 (24, [l0, l1, l2, l3, l4, l5, l6], .int x :: st) σ = ev 94 (26, [l0, l1, l2, l3, ri_clr l4, some (.int x), l6], st) σ) ∧
  (∀ (l1 l2 l3 l4 l5 l6 : Option Value) (st : List Value) (σ : ri_S) (x : Nat), ev 94 (26, [some (.ref x), l1, l2, l3, l4, l5, l6], st) σ = ev 94 (27, [some (.ref x), l1, l2, l3, l4, l5, l6], .ref x :: st) σ) ∧
  (∀ (l0 l1 l3 l4 l5 l6 : Option Value) (st : List Value) (σ : ri_S) (x : Int32), ev 94 (27, [l0, l1, some (.int x), l3, l4, l5, l6], st) σ = ev 94 (28, [l0, l1, some (.int x), l3, l4, l5, l6], .int x :: st) σ) ∧
  (∀ (L : ri_L) (st : List Value) (σ : ri_S), ev 94 (28, L, st) σ = ev 94 (29, L, .int 4 :: st) σ) ∧
  (∀ (L : ri_L) (st : List Value) (σ : ri_S) (x y : Int32), ev 94 (29, L, .int y :: .int x :: st) σ = ev 94 (30, L, .int (x + y) :: st) σ) ∧
  (∀ (L : ri_L) (σ : ri_S) (a0 : Nat) (a1 : Int32), ev 94 (30, L, [.int a1, .ref a0]) σ = tv_k 6 (σ.1 a0) ((cal 95 [.ref a0, .int a1] σ).bind fun q => ev 94 (33, L, q.1.toList ++ []) q.2)) ∧
  (∀ (l0 l1 l2 l3 l4 l5 l6 : Option Value) (st : List Value) (σ : ri_S) (x : Int32), ev 94 (33, [l0, l1, l2, l3, l4, l5, l6], .int x :: st) σ = ev 94 (35, [l0, l1, l2, l3, l4, ri_clr l5, some (.int x)], st) σ) ∧
  (∀ (l1 l2 l3 l4 l5 l6 : Option Value) (st : List Value) (σ : ri_S) (x : Nat), ev 94 (35, [some (.ref x), l1, l2, l3, l4, l5, l6], st) σ = ev 94 (36, [some (.ref x), l1, l2, l3, l4, l5, l6], .ref x :: st) σ) ∧
  (∀ (L : ri_L) (st : List Value) (σ : ri_S) (a : Nat), ev 94 (36, L, .ref a :: st) σ = tv_o 6 0 (σ.1 a) fun v => ev 94 (39, L, v :: st) σ) ∧
  (∀ (l0 l1 l3 l4 l5 l6 : Option Value) (st : List Value) (σ : ri_S) (x : Int32), ev 94 (39, [l0, l1, some (.int x), l3, l4, l5, l6], st) σ = ev 94 (40, [l0, l1, some (.int x), l3, l4, l5, l6], .int x :: st) σ) ∧
  (∀ (L : ri_L) (σ : ri_S) (a0 : Nat) (a1 : Int32), ev 94 (40, L, [.int a1, .ref a0]) σ = (cal 140 [.ref a0, .int a1] σ).bind fun q => ev 94 (43, L, q.1.toList ++ []) q.2) ∧
  (∀ (L : ri_L) (st : List Value) (σ : ri_S) (x : Int32), ev 94 (43, L, .int x :: st) σ = if x = 102 then ev 94 (166, L, st) σ else if x = 103 then ev 94 (236, L, st) σ else if x = 104 then ev 94 (202, L, st) σ else if x = 105 then ev 94 (236, L, st) σ else if x = 106 then ev 94 (186, L, st) σ else if x = 107 then ev 94 (236, L, st) σ else if x = 108 then ev 94 (154, L, st) σ else if x = 109 then ev 94 (236, L, st) σ else if x = 110 then ev 94 (236, L, st) σ else if x = 111 then ev 94 (236, L, st) σ else if x = 112 then ev 94 (236, L, st) σ else if x = 113 then ev 94 (236, L, st) σ else if x = 114 then ev 94 (236, L, st) σ else if x = 115 then ev 94 (236, L, st) σ else if x = 116 then ev 94 (236, L, st) σ else if x = 117 then ev 94 (236, L, st) σ else if x = 118 then ev 94 (236, L, st) σ else if x = 119 then ev 94 (136, L, st) σ else if x = 120 then ev 94 (236, L, st) σ else if x = 121 then ev 94 (176, L, st) σ else ev 94 (236, L, st) σ) ∧
  (∀ (l0 l2 l3 l4 l5 l6 : Option Value) (st : List Value) (σ : ri_S) (x : Nat), ev 94 (136, [l0, some (.ref x), l2, l3, l4, l5, l6], st) σ = ev 94 (137, [l0, some (.ref x), l2, l3, l4, l5, l6], .ref x :: st) σ) ∧
  (∀ (l0 l1 l2 l4 l5 l6 : Option Value) (st : List Value) (σ : ri_S) (x : Int32), ev 94 (137, [l0, l1, l2, some (.int x), l4, l5, l6], st) σ = ev 94 (138, [l0, l1, l2, some (.int x), l4, l5, l6], .int x :: st) σ) ∧
  (∀ (l0 l1 l2 l3 l5 l6 : Option Value) (st : List Value) (σ : ri_S) (x : Int32), ev 94 (138, [l0, l1, l2, l3, some (.int x), l5, l6], st) σ = ev 94 (140, [l0, l1, l2, l3, some (.int x), l5, l6], .int x :: st) σ) ∧
  (∀ (L : ri_L) (st : List Value) (σ : ri_S), ev 94 (140, L, st) σ = ev 94 (141, L, .int 4 :: st) σ) ∧
  (∀ (L : ri_L) (st : List Value) (σ : ri_S) (x y : Int32), ev 94 (141, L, .int y :: .int x :: st) σ = ev 94 (142, L, .int (x - y) :: st) σ) ∧
  (∀ (L : ri_L) (st : List Value) (σ : ri_S), ev 94 (142, L, st) σ = ev 94 (144, L, .int 10 :: st) σ) ∧
  (∀ (l0 l1 l2 l3 l4 l6 : Option Value) (st : List Value) (σ : ri_S) (x : Int32), ev 94 (144, [l0, l1, l2, l3, l4, some (.int x), l6], st) σ = ev 94 (146, [l0, l1, l2, l3, l4, some (.int x), l6], .int x :: st) σ) ∧
  (∀ (L : ri_L) (st : List Value) (σ : ri_S) (x y : Int32), ev 94 (146, L, .int y :: .int x :: st) σ = ev 94 (147, L, .int (x * y) :: st) σ) ∧
  (∀ (l0 l1 l2 l3 l4 l5 : Option Value) (st : List Value) (σ : ri_S) (x : Int32), ev 94 (147, [l0, l1, l2, l3, l4, l5, some (.int x)], st) σ = ev 94 (149, [l0, l1, l2, l3, l4, l5, some (.int x)], .int x :: st) σ) ∧
  (∀ (L : ri_L) (st : List Value) (σ : ri_S) (x y : Int32), ev 94 (149, L, .int y :: .int x :: st) σ = ev 94 (150, L, .int (x + y) :: st) σ) ∧
  (∀ (L : ri_L) (σ : ri_S) (a0 : Nat) (a1 : Int32) (a2 : Int32) (a3 : Int32), ev 94 (150, L, [.int a3, .int a2, .int a1, .ref a0]) σ = tv_k 3 (σ.1 a0) ((cal 30 [.ref a0, .int a1, .int a2, .int a3] σ).bind fun q => ev 94 (153, L, q.1.toList ++ []) q.2)) :=
  ⟨fun l1 l2 l3 l4 l5 l6 st σ x => ev_p ((TP_94 _).trans rfl) rfl,
   fun l0 l1 l3 l4 l5 l6 st σ x => ev_p ((TP_94 _).trans rfl) rfl,
   fun L st σ => ev_p ((TP_94 _).trans rfl) rfl,
   fun L st σ x y => ev_p ((TP_94 _).trans rfl) rfl,
   fun L σ a0 a1 => ev_callv ((TP_94 _).trans rfl) rfl rfl rfl rfl,
   fun l0 l1 l2 l3 l4 l5 l6 st σ x => ev_p ((TP_94 _).trans rfl) rfl,
   fun l1 l2 l3 l4 l5 l6 st σ x => ev_p ((TP_94 _).trans rfl) rfl,
   fun l0 l1 l3 l4 l5 l6 st σ x => ev_p ((TP_94 _).trans rfl) rfl,
   fun L st σ => ev_p ((TP_94 _).trans rfl) rfl,
   fun L st σ x y => ev_p ((TP_94 _).trans rfl) rfl,
   fun L σ a0 a1 => ev_callv ((TP_94 _).trans rfl) rfl rfl rfl rfl,
   fun l0 l1 l2 l3 l4 l5 l6 st σ x => ev_p ((TP_94 _).trans rfl) rfl,
   fun l1 l2 l3 l4 l5 l6 st σ x => ev_p ((TP_94 _).trans rfl) rfl,
   fun l0 l1 l3 l4 l5 l6 st σ x => ev_p ((TP_94 _).trans rfl) rfl,
   fun L st σ => ev_p ((TP_94 _).trans rfl) rfl,
   fun L st σ x y => ev_p ((TP_94 _).trans rfl) rfl,
   fun L σ a0 a1 => ev_callv ((TP_94 _).trans rfl) rfl rfl rfl rfl,
   fun l0 l1 l2 l3 l4 l5 l6 st σ x => ev_p ((TP_94 _).trans rfl) rfl,
   fun l1 l2 l3 l4 l5 l6 st σ x => ev_p ((TP_94 _).trans rfl) rfl,
   fun l0 l1 l3 l4 l5 l6 st σ x => ev_p ((TP_94 _).trans rfl) rfl,
   fun L st σ => ev_p ((TP_94 _).trans rfl) rfl,
   fun L st σ x y => ev_p ((TP_94 _).trans rfl) rfl,
   fun L σ a0 a1 => ev_callv ((TP_94 _).trans rfl) rfl rfl rfl rfl,
   fun l0 l1 l2 l3 l4 l5 l6 st σ x => ev_p ((TP_94 _).trans rfl) rfl,
   fun l1 l2 l3 l4 l5 l6 st σ x => ev_p ((TP_94 _).trans rfl) rfl,
   fun L st σ a => ev_getf ((TP_94 _).trans rfl),
   fun l0 l1 l3 l4 l5 l6 st σ x => ev_p ((TP_94 _).trans rfl) rfl,
   fun L σ a0 a1 => ev_call ((TP_94 _).trans rfl) rfl rfl rfl rfl,
   fun L st σ x => (ev_sw (lo := 102) (ts := [166, 236, 202, 236, 186, 236, 154, 236, 236, 236, 236, 236, 236, 236, 236, 236, 236, 136, 236, 176]) (d := 236) ((TP_94 _).trans rfl)).trans (by simp only [ev_tab, ev_tab0, show (102 : Int32) + 1 = 103 from rfl, show (103 : Int32) + 1 = 104 from rfl, show (104 : Int32) + 1 = 105 from rfl, show (105 : Int32) + 1 = 106 from rfl, show (106 : Int32) + 1 = 107 from rfl, show (107 : Int32) + 1 = 108 from rfl, show (108 : Int32) + 1 = 109 from rfl, show (109 : Int32) + 1 = 110 from rfl, show (110 : Int32) + 1 = 111 from rfl, show (111 : Int32) + 1 = 112 from rfl, show (112 : Int32) + 1 = 113 from rfl, show (113 : Int32) + 1 = 114 from rfl, show (114 : Int32) + 1 = 115 from rfl, show (115 : Int32) + 1 = 116 from rfl, show (116 : Int32) + 1 = 117 from rfl, show (117 : Int32) + 1 = 118 from rfl, show (118 : Int32) + 1 = 119 from rfl, show (119 : Int32) + 1 = 120 from rfl, show (120 : Int32) + 1 = 121 from rfl, show (121 : Int32) + 1 = 122 from rfl]),
   fun l0 l2 l3 l4 l5 l6 st σ x => ev_p ((TP_94 _).trans rfl) rfl,
   fun l0 l1 l2 l4 l5 l6 st σ x => ev_p ((TP_94 _).trans rfl) rfl,
   fun l0 l1 l2 l3 l5 l6 st σ x => ev_p ((TP_94 _).trans rfl) rfl,
   fun L st σ => ev_p ((TP_94 _).trans rfl) rfl,
   fun L st σ x y => ev_p ((TP_94 _).trans rfl) rfl,
   fun L st σ => ev_p ((TP_94 _).trans rfl) rfl,
   fun l0 l1 l2 l3 l4 l6 st σ x => ev_p ((TP_94 _).trans rfl) rfl,
   fun L st σ x y => ev_p ((TP_94 _).trans rfl) rfl,
   fun l0 l1 l2 l3 l4 l5 st σ x => ev_p ((TP_94 _).trans rfl) rfl,
   fun L st σ x y => ev_p ((TP_94 _).trans rfl) rfl,
   fun L σ a0 a1 a2 a3 => ev_callv ((TP_94 _).trans rfl) rfl rfl rfl rfl⟩
theorem I_94_1 :
  (∀ (L : ri_L) (σ : ri_S) (x : Int32), ev 94 (153, L, [.int x]) σ = tv_b x (some (some (.int x), σ))) ∧
  (∀ (l0 l2 l3 l4 l5 l6 : Option Value) (st : List Value) (σ : ri_S) (x : Nat), ev 94 (154, [l0, some (.ref x), l2, l3, l4, l5, l6], st) σ = ev 94 (155, [l0, some (.ref x), l2, l3, l4, l5, l6], .ref x :: st) σ) ∧
  (∀ (l0 l1 l2 l4 l5 l6 : Option Value) (st : List Value) (σ : ri_S) (x : Int32), ev 94 (155, [l0, l1, l2, some (.int x), l4, l5, l6], st) σ = ev 94 (156, [l0, l1, l2, some (.int x), l4, l5, l6], .int x :: st) σ) ∧
  (∀ (l0 l1 l2 l3 l5 l6 : Option Value) (st : List Value) (σ : ri_S) (x : Int32), ev 94 (156, [l0, l1, l2, l3, some (.int x), l5, l6], st) σ = ev 94 (158, [l0, l1, l2, l3, some (.int x), l5, l6], .int x :: st) σ) ∧
  (∀ (l0 l1 l2 l3 l4 l6 : Option Value) (st : List Value) (σ : ri_S) (x : Int32), ev 94 (158, [l0, l1, l2, l3, l4, some (.int x), l6], st) σ = ev 94 (160, [l0, l1, l2, l3, l4, some (.int x), l6], .int x :: st) σ) ∧
  (∀ (l0 l1 l2 l3 l4 l5 : Option Value) (st : List Value) (σ : ri_S) (x : Int32), ev 94 (160, [l0, l1, l2, l3, l4, l5, some (.int x)], st) σ = ev 94 (162, [l0, l1, l2, l3, l4, l5, some (.int x)], .int x :: st) σ) ∧
  (∀ (L : ri_L) (σ : ri_S) (a0 : Nat) (a1 : Int32) (a2 : Int32) (a3 : Int32) (a4 : Int32), ev 94 (162, L, [.int a4, .int a3, .int a2, .int a1, .ref a0]) σ = tv_k 3 (σ.1 a0) ((cal 31 [.ref a0, .int a1, .int a2, .int a3, .int a4] σ).bind fun q => ev 94 (165, L, q.1.toList ++ []) q.2)) ∧
  (∀ (L : ri_L) (σ : ri_S) (x : Int32), ev 94 (165, L, [.int x]) σ = tv_b x (some (some (.int x), σ))) ∧
  (∀ (l0 l2 l3 l4 l5 l6 : Option Value) (st : List Value) (σ : ri_S) (x : Nat), ev 94 (166, [l0, some (.ref x), l2, l3, l4, l5, l6], st) σ = ev 94 (167, [l0, some (.ref x), l2, l3, l4, l5, l6], .ref x :: st) σ) ∧
  (∀ (l0 l1 l2 l4 l5 l6 : Option Value) (st : List Value) (σ : ri_S) (x : Int32), ev 94 (167, [l0, l1, l2, some (.int x), l4, l5, l6], st) σ = ev 94 (168, [l0, l1, l2, some (.int x), l4, l5, l6], .int x :: st) σ) ∧
  (∀ (l0 l1 l2 l3 l5 l6 : Option Value) (st : List Value) (σ : ri_S) (x : Int32), ev 94 (168, [l0, l1, l2, l3, some (.int x), l5, l6], st) σ = ev 94 (170, [l0, l1, l2, l3, some (.int x), l5, l6], .int x :: st) σ) ∧
  (∀ (l0 l1 l2 l3 l4 l6 : Option Value) (st : List Value) (σ : ri_S) (x : Int32), ev 94 (170, [l0, l1, l2, l3, l4, some (.int x), l6], st) σ = ev 94 (172, [l0, l1, l2, l3, l4, some (.int x), l6], .int x :: st) σ) ∧
  (∀ (L : ri_L) (σ : ri_S) (a0 : Nat) (a1 : Int32) (a2 : Int32) (a3 : Int32), ev 94 (172, L, [.int a3, .int a2, .int a1, .ref a0]) σ = tv_k 3 (σ.1 a0) ((cal 32 [.ref a0, .int a1, .int a2, .int a3] σ).bind fun q => ev 94 (175, L, q.1.toList ++ []) q.2)) ∧
  (∀ (L : ri_L) (σ : ri_S) (x : Int32), ev 94 (175, L, [.int x]) σ = tv_b x (some (some (.int x), σ))) ∧
  (∀ (l0 l2 l3 l4 l5 l6 : Option Value) (st : List Value) (σ : ri_S) (x : Nat), ev 94 (176, [l0, some (.ref x), l2, l3, l4, l5, l6], st) σ = ev 94 (177, [l0, some (.ref x), l2, l3, l4, l5, l6], .ref x :: st) σ) ∧
  (∀ (l0 l1 l2 l4 l5 l6 : Option Value) (st : List Value) (σ : ri_S) (x : Int32), ev 94 (177, [l0, l1, l2, some (.int x), l4, l5, l6], st) σ = ev 94 (178, [l0, l1, l2, some (.int x), l4, l5, l6], .int x :: st) σ) ∧
  (∀ (l0 l1 l2 l3 l5 l6 : Option Value) (st : List Value) (σ : ri_S) (x : Int32), ev 94 (178, [l0, l1, l2, l3, some (.int x), l5, l6], st) σ = ev 94 (180, [l0, l1, l2, l3, some (.int x), l5, l6], .int x :: st) σ) ∧
  (∀ (l0 l1 l2 l3 l4 l6 : Option Value) (st : List Value) (σ : ri_S) (x : Int32), ev 94 (180, [l0, l1, l2, l3, l4, some (.int x), l6], st) σ = ev 94 (182, [l0, l1, l2, l3, l4, some (.int x), l6], .int x :: st) σ) ∧
  (∀ (L : ri_L) (σ : ri_S) (a0 : Nat) (a1 : Int32) (a2 : Int32) (a3 : Int32), ev 94 (182, L, [.int a3, .int a2, .int a1, .ref a0]) σ = tv_k 3 (σ.1 a0) ((cal 33 [.ref a0, .int a1, .int a2, .int a3] σ).bind fun q => ev 94 (185, L, q.1.toList ++ []) q.2)) ∧
  (∀ (L : ri_L) (σ : ri_S) (x : Int32), ev 94 (185, L, [.int x]) σ = tv_b x (some (some (.int x), σ))) ∧
  (∀ (l0 l2 l3 l4 l5 l6 : Option Value) (st : List Value) (σ : ri_S) (x : Nat), ev 94 (186, [l0, some (.ref x), l2, l3, l4, l5, l6], st) σ = ev 94 (187, [l0, some (.ref x), l2, l3, l4, l5, l6], .ref x :: st) σ) ∧
  (∀ (l0 l1 l2 l4 l5 l6 : Option Value) (st : List Value) (σ : ri_S) (x : Int32), ev 94 (187, [l0, l1, l2, some (.int x), l4, l5, l6], st) σ = ev 94 (188, [l0, l1, l2, some (.int x), l4, l5, l6], .int x :: st) σ) ∧
  (∀ (l0 l1 l2 l3 l5 l6 : Option Value) (st : List Value) (σ : ri_S) (x : Int32), ev 94 (188, [l0, l1, l2, l3, some (.int x), l5, l6], st) σ = ev 94 (190, [l0, l1, l2, l3, some (.int x), l5, l6], .int x :: st) σ) ∧
  (∀ (L : ri_L) (σ : ri_S) (a0 : Nat) (a1 : Int32) (a2 : Int32), ev 94 (190, L, [.int a2, .int a1, .ref a0]) σ = tv_k 3 (σ.1 a0) ((cal 41 [.ref a0, .int a1, .int a2] σ).bind fun q => ev 94 (193, L, q.1.toList ++ []) q.2)) ∧
  (∀ (L : ri_L) (st : List Value) (σ : ri_S) (x : Int32), ev 94 (193, L, .int x :: st) σ = if ¬ x = 0 then ev 94 (200, L, st) σ else ev 94 (196, L, st) σ) ∧
  (∀ (L : ri_L) (st : List Value) (σ : ri_S), ev 94 (196, L, st) σ = ev 94 (197, L, .int 1 :: st) σ) ∧
  (∀ (L : ri_L) (st : List Value) (σ : ri_S), ev 94 (197, L, st) σ = ev 94 (201, L, st) σ) ∧
  (∀ (L : ri_L) (st : List Value) (σ : ri_S), ev 94 (200, L, st) σ = ev 94 (201, L, .int 0 :: st) σ) ∧
  (∀ (L : ri_L) (σ : ri_S) (x : Int32), ev 94 (201, L, [.int x]) σ = tv_b x (some (some (.int x), σ))) ∧
  (∀ (l0 l2 l3 l4 l5 l6 : Option Value) (st : List Value) (σ : ri_S) (x : Nat), ev 94 (202, [l0, some (.ref x), l2, l3, l4, l5, l6], st) σ = ev 94 (203, [l0, some (.ref x), l2, l3, l4, l5, l6], .ref x :: st) σ) ∧
  (∀ (l0 l1 l2 l4 l5 l6 : Option Value) (st : List Value) (σ : ri_S) (x : Int32), ev 94 (203, [l0, l1, l2, some (.int x), l4, l5, l6], st) σ = ev 94 (204, [l0, l1, l2, some (.int x), l4, l5, l6], .int x :: st) σ) ∧
  (∀ (l1 l2 l3 l4 l5 l6 : Option Value) (st : List Value) (σ : ri_S) (x : Nat), ev 94 (204, [some (.ref x), l1, l2, l3, l4, l5, l6], st) σ = ev 94 (205, [some (.ref x), l1, l2, l3, l4, l5, l6], .ref x :: st) σ) ∧
  (∀ (L : ri_L) (st : List Value) (σ : ri_S) (a : Nat), ev 94 (205, L, .ref a :: st) σ = tv_o 6 0 (σ.1 a) fun v => ev 94 (208, L, v :: st) σ) ∧
  (∀ (l0 l1 l3 l4 l5 l6 : Option Value) (st : List Value) (σ : ri_S) (x : Int32), ev 94 (208, [l0, l1, some (.int x), l3, l4, l5, l6], st) σ = ev 94 (209, [l0, l1, some (.int x), l3, l4, l5, l6], .int x :: st) σ) ∧
  (∀ (L : ri_L) (st : List Value) (σ : ri_S), ev 94 (209, L, st) σ = ev 94 (210, L, .int 2 :: st) σ) ∧
  (∀ (L : ri_L) (st : List Value) (σ : ri_S) (x y : Int32), ev 94 (210, L, .int y :: .int x :: st) σ = ev 94 (211, L, .int (x + y) :: st) σ) ∧
  (∀ (L : ri_L) (σ : ri_S) (a0 : Nat) (a1 : Int32) (s0 s1 : Value), ev 94 (211, L, [.int a1, .ref a0, s0, s1]) σ = (cal 140 [.ref a0, .int a1] σ).bind fun q => ev 94 (214, L, q.1.toList ++ [s0, s1]) q.2) ∧
  (∀ (L : ri_L) (st : List Value) (σ : ri_S), ev 94 (214, L, st) σ = ev 94 (216, L, .int 43 :: st) σ) ∧
  (∀ (L : ri_L) (st : List Value) (σ : ri_S) (x y : Int32), ev 94 (216, L, .int y :: .int x :: st) σ = if ¬ x = y then ev 94 (223, L, st) σ else ev 94 (219, L, st) σ) ∧
  (∀ (L : ri_L) (st : List Value) (σ : ri_S), ev 94 (219, L, st) σ = ev 94 (220, L, .int 1 :: st) σ) :=
  ⟨fun L σ x => ev_r ((TP_94 _).trans rfl) rfl,
   fun l0 l2 l3 l4 l5 l6 st σ x => ev_p ((TP_94 _).trans rfl) rfl,
   fun l0 l1 l2 l4 l5 l6 st σ x => ev_p ((TP_94 _).trans rfl) rfl,
   fun l0 l1 l2 l3 l5 l6 st σ x => ev_p ((TP_94 _).trans rfl) rfl,
   fun l0 l1 l2 l3 l4 l6 st σ x => ev_p ((TP_94 _).trans rfl) rfl,
   fun l0 l1 l2 l3 l4 l5 st σ x => ev_p ((TP_94 _).trans rfl) rfl,
   fun L σ a0 a1 a2 a3 a4 => ev_callv ((TP_94 _).trans rfl) rfl rfl rfl rfl,
   fun L σ x => ev_r ((TP_94 _).trans rfl) rfl,
   fun l0 l2 l3 l4 l5 l6 st σ x => ev_p ((TP_94 _).trans rfl) rfl,
   fun l0 l1 l2 l4 l5 l6 st σ x => ev_p ((TP_94 _).trans rfl) rfl,
   fun l0 l1 l2 l3 l5 l6 st σ x => ev_p ((TP_94 _).trans rfl) rfl,
   fun l0 l1 l2 l3 l4 l6 st σ x => ev_p ((TP_94 _).trans rfl) rfl,
   fun L σ a0 a1 a2 a3 => ev_callv ((TP_94 _).trans rfl) rfl rfl rfl rfl,
   fun L σ x => ev_r ((TP_94 _).trans rfl) rfl,
   fun l0 l2 l3 l4 l5 l6 st σ x => ev_p ((TP_94 _).trans rfl) rfl,
   fun l0 l1 l2 l4 l5 l6 st σ x => ev_p ((TP_94 _).trans rfl) rfl,
   fun l0 l1 l2 l3 l5 l6 st σ x => ev_p ((TP_94 _).trans rfl) rfl,
   fun l0 l1 l2 l3 l4 l6 st σ x => ev_p ((TP_94 _).trans rfl) rfl,
   fun L σ a0 a1 a2 a3 => ev_callv ((TP_94 _).trans rfl) rfl rfl rfl rfl,
   fun L σ x => ev_r ((TP_94 _).trans rfl) rfl,
   fun l0 l2 l3 l4 l5 l6 st σ x => ev_p ((TP_94 _).trans rfl) rfl,
   fun l0 l1 l2 l4 l5 l6 st σ x => ev_p ((TP_94 _).trans rfl) rfl,
   fun l0 l1 l2 l3 l5 l6 st σ x => ev_p ((TP_94 _).trans rfl) rfl,
   fun L σ a0 a1 a2 => ev_callv ((TP_94 _).trans rfl) rfl rfl rfl rfl,
   fun L st σ x => ev_b ((TP_94 _).trans rfl) rfl,
   fun L st σ => ev_p ((TP_94 _).trans rfl) rfl,
   fun L st σ => ev_p ((TP_94 _).trans rfl) rfl,
   fun L st σ => ev_p ((TP_94 _).trans rfl) rfl,
   fun L σ x => ev_r ((TP_94 _).trans rfl) rfl,
   fun l0 l2 l3 l4 l5 l6 st σ x => ev_p ((TP_94 _).trans rfl) rfl,
   fun l0 l1 l2 l4 l5 l6 st σ x => ev_p ((TP_94 _).trans rfl) rfl,
   fun l1 l2 l3 l4 l5 l6 st σ x => ev_p ((TP_94 _).trans rfl) rfl,
   fun L st σ a => ev_getf ((TP_94 _).trans rfl),
   fun l0 l1 l3 l4 l5 l6 st σ x => ev_p ((TP_94 _).trans rfl) rfl,
   fun L st σ => ev_p ((TP_94 _).trans rfl) rfl,
   fun L st σ x y => ev_p ((TP_94 _).trans rfl) rfl,
   fun L σ a0 a1 s0 s1 => ev_call ((TP_94 _).trans rfl) rfl rfl rfl rfl,
   fun L st σ => ev_p ((TP_94 _).trans rfl) rfl,
   fun L st σ x y => ev_b ((TP_94 _).trans rfl) rfl,
   fun L st σ => ev_p ((TP_94 _).trans rfl) rfl⟩
theorem I_94_2 :
  (∀ (L : ri_L) (st : List Value) (σ : ri_S), ev 94 (220, L, st) σ = ev 94 (224, L, st) σ) ∧
  (∀ (L : ri_L) (st : List Value) (σ : ri_S), ev 94 (223, L, st) σ = ev 94 (224, L, .int (-1) :: st) σ) ∧
  (∀ (L : ri_L) (σ : ri_S) (a0 : Nat) (a1 : Int32) (a2 : Int32), ev 94 (224, L, [.int a2, .int a1, .ref a0]) σ = tv_k 3 (σ.1 a0) ((cal 42 [.ref a0, .int a1, .int a2] σ).bind fun q => ev 94 (227, L, q.1.toList ++ []) q.2)) ∧
  (∀ (L : ri_L) (st : List Value) (σ : ri_S) (x : Int32), ev 94 (227, L, .int x :: st) σ = if ¬ x = 0 then ev 94 (234, L, st) σ else ev 94 (230, L, st) σ) ∧
  (∀ (L : ri_L) (st : List Value) (σ : ri_S), ev 94 (230, L, st) σ = ev 94 (231, L, .int 1 :: st) σ) ∧
  (∀ (L : ri_L) (st : List Value) (σ : ri_S), ev 94 (231, L, st) σ = ev 94 (235, L, st) σ) ∧
  (∀ (L : ri_L) (st : List Value) (σ : ri_S), ev 94 (234, L, st) σ = ev 94 (235, L, .int 0 :: st) σ) ∧
  (∀ (L : ri_L) (σ : ri_S) (x : Int32), ev 94 (235, L, [.int x]) σ = tv_b x (some (some (.int x), σ))) ∧
  (∀ (l0 l2 l3 l4 l5 l6 : Option Value) (st : List Value) (σ : ri_S) (x : Nat), ev 94 (236, [l0, some (.ref x), l2, l3, l4, l5, l6], st) σ = ev 94 (237, [l0, some (.ref x), l2, l3, l4, l5, l6], .ref x :: st) σ) ∧
  (∀ (l0 l1 l2 l4 l5 l6 : Option Value) (st : List Value) (σ : ri_S) (x : Int32), ev 94 (237, [l0, l1, l2, some (.int x), l4, l5, l6], st) σ = ev 94 (238, [l0, l1, l2, some (.int x), l4, l5, l6], .int x :: st) σ) ∧
  (∀ (l0 l1 l2 l3 l5 l6 : Option Value) (st : List Value) (σ : ri_S) (x : Int32), ev 94 (238, [l0, l1, l2, l3, some (.int x), l5, l6], st) σ = ev 94 (240, [l0, l1, l2, l3, some (.int x), l5, l6], .int x :: st) σ) ∧
  (∀ (L : ri_L) (σ : ri_S) (a0 : Nat) (a1 : Int32) (a2 : Int32), ev 94 (240, L, [.int a2, .int a1, .ref a0]) σ = tv_k 3 (σ.1 a0) ((cal 34 [.ref a0, .int a1, .int a2] σ).bind fun q => ev 94 (243, L, q.1.toList ++ []) q.2)) ∧
  (∀ (L : ri_L) (σ : ri_S) (x : Int32), ev 94 (243, L, [.int x]) σ = tv_b x (some (some (.int x), σ))) :=
  ⟨fun L st σ => ev_p ((TP_94 _).trans rfl) rfl,
   fun L st σ => ev_p ((TP_94 _).trans rfl) rfl,
   fun L σ a0 a1 a2 => ev_callv ((TP_94 _).trans rfl) rfl rfl rfl rfl,
   fun L st σ x => ev_b ((TP_94 _).trans rfl) rfl,
   fun L st σ => ev_p ((TP_94 _).trans rfl) rfl,
   fun L st σ => ev_p ((TP_94 _).trans rfl) rfl,
   fun L st σ => ev_p ((TP_94 _).trans rfl) rfl,
   fun L σ x => ev_r ((TP_94 _).trans rfl) rfl,
   fun l0 l2 l3 l4 l5 l6 st σ x => ev_p ((TP_94 _).trans rfl) rfl,
   fun l0 l1 l2 l4 l5 l6 st σ x => ev_p ((TP_94 _).trans rfl) rfl,
   fun l0 l1 l2 l3 l5 l6 st σ x => ev_p ((TP_94 _).trans rfl) rfl,
   fun L σ a0 a1 a2 => ev_callv ((TP_94 _).trans rfl) rfl rfl rfl rfl,
   fun L σ x => ev_r ((TP_94 _).trans rfl) rfl⟩
theorem TP_95 (pc : Nat) : TT 95 pc = ri_find TL_95 pc := rfl
theorem E_95 (x0 : Nat) (x1 : Int32) (σ : ri_S) : cal 95 [.ref x0, .int x1] σ = ev 95 (0, [some (.ref x0), some (.int x1)], []) σ := rfl
theorem I_95 :
  (∀ (l1 : Option Value) (st : List Value) (σ : ri_S) (x : Nat), ev 95 (0, [some (.ref x), l1], st) σ = ev 95 (1, [some (.ref x), l1], .ref x :: st) σ) ∧
  (∀ (L : ri_L) (st : List Value) (σ : ri_S) (a : Nat), ev 95 (1, L, .ref a :: st) σ = tv_o 6 0 (σ.1 a) fun v => ev 95 (4, L, v :: st) σ) ∧
  (∀ (l0 : Option Value) (st : List Value) (σ : ri_S) (x : Int32), ev 95 (4, [l0, some (.int x)], st) σ = ev 95 (5, [l0, some (.int x)], .int x :: st) σ) ∧
  (∀ (L : ri_L) (σ : ri_S) (a0 : Nat) (a1 : Int32), ev 95 (5, L, [.int a1, .ref a0]) σ = (cal 140 [.ref a0, .int a1] σ).bind fun q => ev 95 (8, L, q.1.toList ++ []) q.2) ∧
  (∀ (L : ri_L) (st : List Value) (σ : ri_S), ev 95 (8, L, st) σ = ev 95 (10, L, .int 48 :: st) σ) ∧
  (∀ (L : ri_L) (st : List Value) (σ : ri_S) (x y : Int32), ev 95 (10, L, .int y :: .int x :: st) σ = ev 95 (11, L, .int (x - y) :: st) σ) ∧
  (∀ (L : ri_L) (σ : ri_S) (x : Int32), ev 95 (11, L, [.int x]) σ = some (some (.int x), σ)) :=
  ⟨fun l1 st σ x => ev_p ((TP_95 _).trans rfl) rfl,
   fun L st σ a => ev_getf ((TP_95 _).trans rfl),
   fun l0 st σ x => ev_p ((TP_95 _).trans rfl) rfl,
   fun L σ a0 a1 => ev_call ((TP_95 _).trans rfl) rfl rfl rfl rfl,
   fun L st σ => ev_p ((TP_95 _).trans rfl) rfl,
   fun L st σ x y => ev_p ((TP_95 _).trans rfl) rfl,
   fun L σ x => ev_r ((TP_95 _).trans rfl) rfl⟩
theorem TP_96 (pc : Nat) : TT 96 pc = ri_find TL_96 pc := rfl
theorem E_96 (x0 : Nat) (σ : ri_S) : cal 96 [.ref x0] σ = ev 96 (0, [some (.ref x0)], []) σ := rfl
theorem I_96 :
  (∀ (st : List Value) (σ : ri_S) (x : Nat), ev 96 (0, [some (.ref x)], st) σ = ev 96 (1, [some (.ref x)], .ref x :: st) σ) ∧
  (∀ (L : ri_L) (σ : ri_S) (a : Nat), ev 96 (1, L, [.ref a]) σ = ev 96 (4, L, []) σ) ∧
  (∀ (st : List Value) (σ : ri_S) (x : Nat), ev 96 (4, [some (.ref x)], st) σ = ev 96 (5, [some (.ref x)], .ref x :: st) σ) ∧
  (∀ (L : ri_L) (st : List Value) (σ : ri_S), ev 96 (5, L, st) σ = ev 96 (6, L, .int 0 :: st) σ) ∧
  (∀ (L : ri_L) (st : List Value) (σ : ri_S) (a : Nat) (x : Int32), ev 96 (6, L, .int x :: .ref a :: st) σ = tv_w 7 0 (σ.1 a) (.int x) fun fs => ev 96 (9, L, st) (ri_upd σ.1 a (.inr (.inr (7, fs))), σ.2)) ∧
  (∀ (st : List Value) (σ : ri_S) (x : Nat), ev 96 (9, [some (.ref x)], st) σ = ev 96 (10, [some (.ref x)], .ref x :: st) σ) ∧
  (∀ (L : ri_L) (st : List Value) (σ : ri_S), ev 96 (10, L, st) σ = ev 96 (11, L, .int 3 :: st) σ) ∧
  (∀ (L : ri_L) (st : List Value) (σ : ri_S) (n : Int32), ev 96 (11, L, .int n :: st) σ = if n < 0 ∨ 2000 < n.toNatClampNeg then none else ev 96 (13, L, .ref σ.2 :: st) (ri_upd σ.1 σ.2 (.inl (0, n.toNatClampNeg, fun _ => 0)), σ.2 + 1)) ∧
  (∀ (L : ri_L) (st : List Value) (σ : ri_S) (a : Nat) (x : Nat), ev 96 (13, L, .ref x :: .ref a :: st) σ = tv_w 7 1 (σ.1 a) (.ref x) fun fs => ev 96 (16, L, st) (ri_upd σ.1 a (.inr (.inr (7, fs))), σ.2)) ∧
  (∀ (st : List Value) (σ : ri_S) (x : Nat), ev 96 (16, [some (.ref x)], st) σ = ev 96 (17, [some (.ref x)], .ref x :: st) σ) ∧
  (∀ (L : ri_L) (st : List Value) (σ : ri_S), ev 96 (17, L, st) σ = ev 96 (18, L, .int 3 :: st) σ) ∧
  (∀ (L : ri_L) (st : List Value) (σ : ri_S) (n : Int32), ev 96 (18, L, .int n :: st) σ = if n < 0 ∨ 2000 < n.toNatClampNeg then none else ev 96 (20, L, .ref σ.2 :: st) (ri_upd σ.1 σ.2 (.inl (0, n.toNatClampNeg, fun _ => 0)), σ.2 + 1)) ∧
  (∀ (L : ri_L) (st : List Value) (σ : ri_S) (a : Nat) (x : Nat), ev 96 (20, L, .ref x :: .ref a :: st) σ = tv_w 7 2 (σ.1 a) (.ref x) fun fs => ev 96 (23, L, st) (ri_upd σ.1 a (.inr (.inr (7, fs))), σ.2)) ∧
  (∀ (st : List Value) (σ : ri_S) (x : Nat), ev 96 (23, [some (.ref x)], st) σ = ev 96 (24, [some (.ref x)], .ref x :: st) σ) ∧
  (∀ (L : ri_L) (st : List Value) (σ : ri_S), ev 96 (24, L, st) σ = ev 96 (25, L, .int 3 :: st) σ) ∧
  (∀ (L : ri_L) (st : List Value) (σ : ri_S) (n : Int32), ev 96 (25, L, .int n :: st) σ = if n < 0 ∨ 2000 < n.toNatClampNeg then none else ev 96 (27, L, .ref σ.2 :: st) (ri_upd σ.1 σ.2 (.inl (0, n.toNatClampNeg, fun _ => 0)), σ.2 + 1)) ∧
  (∀ (L : ri_L) (st : List Value) (σ : ri_S) (a : Nat) (x : Nat), ev 96 (27, L, .ref x :: .ref a :: st) σ = tv_w 7 3 (σ.1 a) (.ref x) fun fs => ev 96 (30, L, st) (ri_upd σ.1 a (.inr (.inr (7, fs))), σ.2)) ∧
  (∀ (st : List Value) (σ : ri_S) (x : Nat), ev 96 (30, [some (.ref x)], st) σ = ev 96 (31, [some (.ref x)], .ref x :: st) σ) ∧
  (∀ (L : ri_L) (st : List Value) (σ : ri_S), ev 96 (31, L, st) σ = ev 96 (32, L, .int 3 :: st) σ) ∧
  (∀ (L : ri_L) (st : List Value) (σ : ri_S) (n : Int32), ev 96 (32, L, .int n :: st) σ = if n < 0 ∨ 2000 < n.toNatClampNeg then none else ev 96 (34, L, .ref σ.2 :: st) (ri_upd σ.1 σ.2 (.inl (0, n.toNatClampNeg, fun _ => 0)), σ.2 + 1)) ∧
  (∀ (L : ri_L) (st : List Value) (σ : ri_S) (a : Nat) (x : Nat), ev 96 (34, L, .ref x :: .ref a :: st) σ = tv_w 7 4 (σ.1 a) (.ref x) fun fs => ev 96 (37, L, st) (ri_upd σ.1 a (.inr (.inr (7, fs))), σ.2)) ∧
  (∀ (st : List Value) (σ : ri_S) (x : Nat), ev 96 (37, [some (.ref x)], st) σ = ev 96 (38, [some (.ref x)], .ref x :: st) σ) ∧
  (∀ (L : ri_L) (st : List Value) (σ : ri_S), ev 96 (38, L, st) σ = ev 96 (39, L, .int 3 :: st) σ) ∧
  (∀ (L : ri_L) (st : List Value) (σ : ri_S) (n : Int32), ev 96 (39, L, .int n :: st) σ = if n < 0 ∨ 2000 < n.toNatClampNeg then none else ev 96 (41, L, .ref σ.2 :: st) (ri_upd σ.1 σ.2 (.inl (0, n.toNatClampNeg, fun _ => 0)), σ.2 + 1)) ∧
  (∀ (L : ri_L) (st : List Value) (σ : ri_S) (a : Nat) (x : Nat), ev 96 (41, L, .ref x :: .ref a :: st) σ = tv_w 7 5 (σ.1 a) (.ref x) fun fs => ev 96 (44, L, st) (ri_upd σ.1 a (.inr (.inr (7, fs))), σ.2)) ∧
  (∀ (st : List Value) (σ : ri_S) (x : Nat), ev 96 (44, [some (.ref x)], st) σ = ev 96 (45, [some (.ref x)], .ref x :: st) σ) ∧
  (∀ (L : ri_L) (st : List Value) (σ : ri_S), ev 96 (45, L, st) σ = ev 96 (47, L, .int 15 :: st) σ) ∧
  (∀ (L : ri_L) (st : List Value) (σ : ri_S) (n : Int32), ev 96 (47, L, .int n :: st) σ = if n < 0 ∨ 2000 < n.toNatClampNeg then none else ev 96 (49, L, .ref σ.2 :: st) (ri_upd σ.1 σ.2 (.inl (0, n.toNatClampNeg, fun _ => 0)), σ.2 + 1)) ∧
  (∀ (L : ri_L) (st : List Value) (σ : ri_S) (a : Nat) (x : Nat), ev 96 (49, L, .ref x :: .ref a :: st) σ = tv_w 7 6 (σ.1 a) (.ref x) fun fs => ev 96 (52, L, st) (ri_upd σ.1 a (.inr (.inr (7, fs))), σ.2)) ∧
  (∀ (L : ri_L) (σ : ri_S), ev 96 (52, L, []) σ = some (none, σ)) :=
  ⟨fun st σ x => ev_p ((TP_96 _).trans rfl) rfl,
   fun L σ a => ev_p ((TP_96 _).trans rfl) rfl,
   fun st σ x => ev_p ((TP_96 _).trans rfl) rfl,
   fun L st σ => ev_p ((TP_96 _).trans rfl) rfl,
   fun L st σ a x => ev_puti ((TP_96 _).trans rfl),
   fun st σ x => ev_p ((TP_96 _).trans rfl) rfl,
   fun L st σ => ev_p ((TP_96 _).trans rfl) rfl,
   fun L st σ n => ev_newa ((TP_96 _).trans rfl),
   fun L st σ a x => ev_putr ((TP_96 _).trans rfl),
   fun st σ x => ev_p ((TP_96 _).trans rfl) rfl,
   fun L st σ => ev_p ((TP_96 _).trans rfl) rfl,
   fun L st σ n => ev_newa ((TP_96 _).trans rfl),
   fun L st σ a x => ev_putr ((TP_96 _).trans rfl),
   fun st σ x => ev_p ((TP_96 _).trans rfl) rfl,
   fun L st σ => ev_p ((TP_96 _).trans rfl) rfl,
   fun L st σ n => ev_newa ((TP_96 _).trans rfl),
   fun L st σ a x => ev_putr ((TP_96 _).trans rfl),
   fun st σ x => ev_p ((TP_96 _).trans rfl) rfl,
   fun L st σ => ev_p ((TP_96 _).trans rfl) rfl,
   fun L st σ n => ev_newa ((TP_96 _).trans rfl),
   fun L st σ a x => ev_putr ((TP_96 _).trans rfl),
   fun st σ x => ev_p ((TP_96 _).trans rfl) rfl,
   fun L st σ => ev_p ((TP_96 _).trans rfl) rfl,
   fun L st σ n => ev_newa ((TP_96 _).trans rfl),
   fun L st σ a x => ev_putr ((TP_96 _).trans rfl),
   fun st σ x => ev_p ((TP_96 _).trans rfl) rfl,
   fun L st σ => ev_p ((TP_96 _).trans rfl) rfl,
   fun L st σ n => ev_newa ((TP_96 _).trans rfl),
   fun L st σ a x => ev_putr ((TP_96 _).trans rfl),
   fun L σ => ev_r ((TP_96 _).trans rfl) rfl⟩
theorem TP_97 (pc : Nat) : TT 97 pc = ri_find TL_97 pc := rfl
theorem E_97 (x0 : Nat) (x1 : Int32) (σ : ri_S) : cal 97 [.ref x0, .int x1] σ = ev 97 (0, [some (.ref x0), some (.int x1)], []) σ := rfl
theorem I_97 :
  (∀ (l0 : Option Value) (st : List Value) (σ : ri_S) (x : Int32), ev 97 (0, [l0, some (.int x)], st) σ = ev 97 (1, [l0, some (.int x)], .int x :: st) σ) ∧
  (∀ (L : ri_L) (st : List Value) (σ : ri_S) (x : Int32), ev 97 (1, L, .int x :: st) σ = if x < 0 then ev 97 (16, L, st) σ else ev 97 (4, L, st) σ) ∧
  (∀ (l0 : Option Value) (st : List Value) (σ : ri_S) (x : Int32), ev 97 (4, [l0, some (.int x)], st) σ = ev 97 (5, [l0, some (.int x)], .int x :: st) σ) ∧
  (∀ (l1 : Option Value) (st : List Value) (σ : ri_S) (x : Nat), ev 97 (5, [some (.ref x), l1], st) σ = ev 97 (6, [some (.ref x), l1], .ref x :: st) σ) ∧
  (∀ (L : ri_L) (st : List Value) (σ : ri_S) (a : Nat), ev 97 (6, L, .ref a :: st) σ = tv_o 7 0 (σ.1 a) fun v => ev 97 (9, L, v :: st) σ) ∧
  (∀ (L : ri_L) (st : List Value) (σ : ri_S) (x y : Int32), ev 97 (9, L, .int y :: .int x :: st) σ = if y ≤ x then ev 97 (16, L, st) σ else ev 97 (12, L, st) σ) ∧
  (∀ (L : ri_L) (st : List Value) (σ : ri_S), ev 97 (12, L, st) σ = ev 97 (13, L, .int 1 :: st) σ) ∧
  (∀ (L : ri_L) (st : List Value) (σ : ri_S), ev 97 (13, L, st) σ = ev 97 (17, L, st) σ) ∧
  (∀ (L : ri_L) (st : List Value) (σ : ri_S), ev 97 (16, L, st) σ = ev 97 (17, L, .int 0 :: st) σ) ∧
  (∀ (L : ri_L) (σ : ri_S) (x : Int32), ev 97 (17, L, [.int x]) σ = tv_b x (some (some (.int x), σ))) :=
  ⟨fun l0 st σ x => ev_p ((TP_97 _).trans rfl) rfl,
   fun L st σ x => ev_b ((TP_97 _).trans rfl) rfl,
   fun l0 st σ x => ev_p ((TP_97 _).trans rfl) rfl,
   fun l1 st σ x => ev_p ((TP_97 _).trans rfl) rfl,
   fun L st σ a => ev_getf ((TP_97 _).trans rfl),
   fun L st σ x y => ev_b ((TP_97 _).trans rfl) rfl,
   fun L st σ => ev_p ((TP_97 _).trans rfl) rfl,
   fun L st σ => ev_p ((TP_97 _).trans rfl) rfl,
   fun L st σ => ev_p ((TP_97 _).trans rfl) rfl,
   fun L σ x => ev_r ((TP_97 _).trans rfl) rfl⟩
theorem TP_98 (pc : Nat) : TT 98 pc = ri_find TL_98 pc := rfl
theorem E_98 (x0 : Nat) (x1 : Int32) (x2 : Int32) (σ : ri_S) : cal 98 [.ref x0, .int x1, .int x2] σ = ev 98 (0, [some (.ref x0), some (.int x1), some (.int x2)], []) σ := rfl
theorem I_98 :
  (∀ (l1 l2 : Option Value) (st : List Value) (σ : ri_S) (x : Nat), ev 98 (0, [some (.ref x), l1, l2], st) σ = ev 98 (1, [some (.ref x), l1, l2], .ref x :: st) σ) ∧
  (∀ (l0 l2 : Option Value) (st : List Value) (σ : ri_S) (x : Int32), ev 98 (1, [l0, some (.int x), l2], st) σ = ev 98 (2, [l0, some (.int x), l2], .int x :: st) σ) ∧
  (∀ (L : ri_L) (σ : ri_S) (a0 : Nat) (a1 : Int32), ev 98 (2, L, [.int a1, .ref a0]) σ = tv_k 7 (σ.1 a0) ((cal 97 [.ref a0, .int a1] σ).bind fun q => ev 98 (5, L, q.1.toList ++ []) q.2)) ∧
  (∀ (L : ri_L) (st : List Value) (σ : ri_S) (x : Int32), ev 98 (5, L, .int x :: st) σ = if x = 0 then ev 98 (28, L, st) σ else ev 98 (8, L, st) σ) ∧
  (∀ (l0 l1 : Option Value) (st : List Value) (σ : ri_S) (x : Int32), ev 98 (8, [l0, l1, some (.int x)], st) σ = ev 98 (9, [l0, l1, some (.int x)], .int x :: st) σ) ∧
  (∀ (L : ri_L) (st : List Value) (σ : ri_S) (x : Int32), ev 98 (9, L, .int x :: st) σ = if x < 0 then ev 98 (28, L, st) σ else ev 98 (12, L, st) σ) ∧
  (∀ (l0 l1 : Option Value) (st : List Value) (σ : ri_S) (x : Int32), ev 98 (12, [l0, l1, some (.int x)], st) σ = ev 98 (13, [l0, l1, some (.int x)], .int x :: st) σ) ∧
  (∀ (l1 l2 : Option Value) (st : List Value) (σ : ri_S) (x : Nat), ev 98 (13, [some (.ref x), l1, l2], st) σ = ev 98 (14, [some (.ref x), l1, l2], .ref x :: st) σ) ∧
  (∀ (L : ri_L) (st : List Value) (σ : ri_S) (a : Nat), ev 98 (14, L, .ref a :: st) σ = tv_o 7 1 (σ.1 a) fun v => ev 98 (17, L, v :: st) σ) ∧
  (∀ (l0 l2 : Option Value) (st : List Value) (σ : ri_S) (x : Int32), ev 98 (17, [l0, some (.int x), l2], st) σ = ev 98 (18, [l0, some (.int x), l2], .int x :: st) σ) ∧
  (∀ (L : ri_L) (σ : ri_S) (a0 : Nat) (a1 : Int32) (s0 : Value), ev 98 (18, L, [.int a1, .ref a0, s0]) σ = (cal 140 [.ref a0, .int a1] σ).bind fun q => ev 98 (21, L, q.1.toList ++ [s0]) q.2) ∧
  (∀ (L : ri_L) (st : List Value) (σ : ri_S) (x y : Int32), ev 98 (21, L, .int y :: .int x :: st) σ = if y ≤ x then ev 98 (28, L, st) σ else ev 98 (24, L, st) σ) ∧
  (∀ (L : ri_L) (st : List Value) (σ : ri_S), ev 98 (24, L, st) σ = ev 98 (25, L, .int 1 :: st) σ) ∧
  (∀ (L : ri_L) (st : List Value) (σ : ri_S), ev 98 (25, L, st) σ = ev 98 (29, L, st) σ) ∧
  (∀ (L : ri_L) (st : List Value) (σ : ri_S), ev 98 (28, L, st) σ = ev 98 (29, L, .int 0 :: st) σ) ∧
  (∀ (L : ri_L) (σ : ri_S) (x : Int32), ev 98 (29, L, [.int x]) σ = tv_b x (some (some (.int x), σ))) :=
  ⟨fun l1 l2 st σ x => ev_p ((TP_98 _).trans rfl) rfl,
   fun l0 l2 st σ x => ev_p ((TP_98 _).trans rfl) rfl,
   fun L σ a0 a1 => ev_callv ((TP_98 _).trans rfl) rfl rfl rfl rfl,
   fun L st σ x => ev_b ((TP_98 _).trans rfl) rfl,
   fun l0 l1 st σ x => ev_p ((TP_98 _).trans rfl) rfl,
   fun L st σ x => ev_b ((TP_98 _).trans rfl) rfl,
   fun l0 l1 st σ x => ev_p ((TP_98 _).trans rfl) rfl,
   fun l1 l2 st σ x => ev_p ((TP_98 _).trans rfl) rfl,
   fun L st σ a => ev_getf ((TP_98 _).trans rfl),
   fun l0 l2 st σ x => ev_p ((TP_98 _).trans rfl) rfl,
   fun L σ a0 a1 s0 => ev_call ((TP_98 _).trans rfl) rfl rfl rfl rfl,
   fun L st σ x y => ev_b ((TP_98 _).trans rfl) rfl,
   fun L st σ => ev_p ((TP_98 _).trans rfl) rfl,
   fun L st σ => ev_p ((TP_98 _).trans rfl) rfl,
   fun L st σ => ev_p ((TP_98 _).trans rfl) rfl,
   fun L σ x => ev_r ((TP_98 _).trans rfl) rfl⟩
theorem TP_99 (pc : Nat) : TT 99 pc = ri_find TL_99 pc := rfl
theorem E_99 (x0 : Nat) (x1 : Int32) (x2 : Int32) (x3 : Int32) (σ : ri_S) : cal 99 [.ref x0, .int x1, .int x2, .int x3] σ = ev 99 (0, [some (.ref x0), some (.int x1), some (.int x2), some (.int x3), none, none], []) σ := rfl
theorem H_99_59 (l0 l1 l2 l3 l4 : Option Value) (st : List Value) (σ : ri_S) (x : Int32) : ev 99 (59, [l0, l1, l2, l3, l4, some (.int x)], st) σ = ev 99 (61, [l0, l1, l2, l3, l4, some (.int x)], .int x :: st) σ := ev_p ((TP_99 _).trans rfl) rfl
theorem I_99_0 :
  (∀ (l1 l2 l3 l4 l5 : Option Value) (st : List Value) (σ : ri_S) (x : Nat), ev 99 (0, [some (.ref x), l1, l2, l3, l4, l5], st) σ = ev 99 (1, [some (.ref x), l1, l2, l3, l4, l5], .ref x :: st) σ) ∧
  (∀ (L : ri_L) (st : List Value) (σ : ri_S) (a : Nat), ev 99 (1, L, .ref a :: st) σ = tv_o 7 0 (σ.1 a) fun v => ev 99 (4, L, v :: st) σ) ∧
  (∀ (l0 l1 l2 l3 l4 l5 : Option Value) (st : List Value) (σ : ri_S) (x : Int32), ev 99 (4, [l0, l1, l2, l3, l4, l5], .int x :: st) σ = ev 99 (6, [l0, l1, l2, ri_clr l3, some (.int x), l5], st) σ) ∧
  (∀ (l1 l2 l3 l4 l5 : Option Value) (st : List Value) (σ : ri_S) (x : Nat), ev 99 (6, [some (.ref x), l1, l2, l3, l4, l5], st) σ = ev 99 (7, [some (.ref x), l1, l2, l3, l4, l5], .ref x :: st) σ) ∧
  (∀ (L : ri_L) (st : List Value) (σ : ri_S) (a : Nat), ev 99 (7, L, .ref a :: st) σ = tv_o 7 1 (σ.1 a) fun v => ev 99 (10, L, v :: st) σ) ∧
  (∀ (l0 l1 l2 l3 l5 : Option Value) (st : List Value) (σ : ri_S) (x : Int32), ev 99 (10, [l0, l1, l2, l3, some (.int x), l5], st) σ = ev 99 (12, [l0, l1, l2, l3, some (.int x), l5], .int x :: st) σ) ∧
  (∀ (l0 l2 l3 l4 l5 : Option Value) (st : List Value) (σ : ri_S) (x : Int32), ev 99 (12, [l0, some (.int x), l2, l3, l4, l5], st) σ = ev 99 (13, [l0, some (.int x), l2, l3, l4, l5], .int x :: st) σ) ∧
  (∀ (L : ri_L) (σ : ri_S) (a0 : Nat) (a1 : Int32) (a2 : Int32), ev 99 (13, L, [.int a2, .int a1, .ref a0]) σ = (cal 141 [.ref a0, .int a1, .int a2] σ).bind fun q => ev 99 (16, L, q.1.toList ++ []) q.2) ∧
  (∀ (l1 l2 l3 l4 l5 : Option Value) (st : List Value) (σ : ri_S) (x : Nat), ev 99 (16, [some (.ref x), l1, l2, l3, l4, l5], st) σ = ev 99 (17, [some (.ref x), l1, l2, l3, l4, l5], .ref x :: st) σ) ∧
  (∀ (L : ri_L) (st : List Value) (σ : ri_S) (a : Nat), ev 99 (17, L, .ref a :: st) σ = tv_o 7 2 (σ.1 a) fun v => ev 99 (20, L, v :: st) σ) ∧
  (∀ (l0 l1 l2 l3 l5 : Option Value) (st : List Value) (σ : ri_S) (x : Int32), ev 99 (20, [l0, l1, l2, l3, some (.int x), l5], st) σ = ev 99 (22, [l0, l1, l2, l3, some (.int x), l5], .int x :: st) σ) ∧
  (∀ (l0 l1 l3 l4 l5 : Option Value) (st : List Value) (σ : ri_S) (x : Int32), ev 99 (22, [l0, l1, some (.int x), l3, l4, l5], st) σ = ev 99 (23, [l0, l1, some (.int x), l3, l4, l5], .int x :: st) σ) ∧
  (∀ (L : ri_L) (σ : ri_S) (a0 : Nat) (a1 : Int32) (a2 : Int32), ev 99 (23, L, [.int a2, .int a1, .ref a0]) σ = (cal 141 [.ref a0, .int a1, .int a2] σ).bind fun q => ev 99 (26, L, q.1.toList ++ []) q.2) ∧
  (∀ (l1 l2 l3 l4 l5 : Option Value) (st : List Value) (σ : ri_S) (x : Nat), ev 99 (26, [some (.ref x), l1, l2, l3, l4, l5], st) σ = ev 99 (27, [some (.ref x), l1, l2, l3, l4, l5], .ref x :: st) σ) ∧
  (∀ (L : ri_L) (st : List Value) (σ : ri_S) (a : Nat), ev 99 (27, L, .ref a :: st) σ = tv_o 7 3 (σ.1 a) fun v => ev 99 (30, L, v :: st) σ) ∧
  (∀ (l0 l1 l2 l3 l5 : Option Value) (st : List Value) (σ : ri_S) (x : Int32), ev 99 (30, [l0, l1, l2, l3, some (.int x), l5], st) σ = ev 99 (32, [l0, l1, l2, l3, some (.int x), l5], .int x :: st) σ) ∧
  (∀ (l0 l1 l2 l4 l5 : Option Value) (st : List Value) (σ : ri_S) (x : Int32), ev 99 (32, [l0, l1, l2, some (.int x), l4, l5], st) σ = ev 99 (33, [l0, l1, l2, some (.int x), l4, l5], .int x :: st) σ) ∧
  (∀ (L : ri_L) (σ : ri_S) (a0 : Nat) (a1 : Int32) (a2 : Int32), ev 99 (33, L, [.int a2, .int a1, .ref a0]) σ = (cal 141 [.ref a0, .int a1, .int a2] σ).bind fun q => ev 99 (36, L, q.1.toList ++ []) q.2) ∧
  (∀ (l1 l2 l3 l4 l5 : Option Value) (st : List Value) (σ : ri_S) (x : Nat), ev 99 (36, [some (.ref x), l1, l2, l3, l4, l5], st) σ = ev 99 (37, [some (.ref x), l1, l2, l3, l4, l5], .ref x :: st) σ) ∧
  (∀ (L : ri_L) (st : List Value) (σ : ri_S) (a : Nat), ev 99 (37, L, .ref a :: st) σ = tv_o 7 4 (σ.1 a) fun v => ev 99 (40, L, v :: st) σ) ∧
  (∀ (l0 l1 l2 l3 l5 : Option Value) (st : List Value) (σ : ri_S) (x : Int32), ev 99 (40, [l0, l1, l2, l3, some (.int x), l5], st) σ = ev 99 (42, [l0, l1, l2, l3, some (.int x), l5], .int x :: st) σ) ∧
  (∀ (L : ri_L) (st : List Value) (σ : ri_S), ev 99 (42, L, st) σ = ev 99 (43, L, .int 0 :: st) σ) ∧
  (∀ (L : ri_L) (σ : ri_S) (a0 : Nat) (a1 : Int32) (a2 : Int32), ev 99 (43, L, [.int a2, .int a1, .ref a0]) σ = (cal 141 [.ref a0, .int a1, .int a2] σ).bind fun q => ev 99 (46, L, q.1.toList ++ []) q.2) ∧
  (∀ (l1 l2 l3 l4 l5 : Option Value) (st : List Value) (σ : ri_S) (x : Nat), ev 99 (46, [some (.ref x), l1, l2, l3, l4, l5], st) σ = ev 99 (47, [some (.ref x), l1, l2, l3, l4, l5], .ref x :: st) σ) ∧
  (∀ (L : ri_L) (st : List Value) (σ : ri_S) (a : Nat), ev 99 (47, L, .ref a :: st) σ = tv_o 7 5 (σ.1 a) fun v => ev 99 (50, L, v :: st) σ) ∧
  (∀ (l0 l1 l2 l3 l5 : Option Value) (st : List Value) (σ : ri_S) (x : Int32), ev 99 (50, [l0, l1, l2, l3, some (.int x), l5], st) σ = ev 99 (52, [l0, l1, l2, l3, some (.int x), l5], .int x :: st) σ) ∧
  (∀ (L : ri_L) (st : List Value) (σ : ri_S), ev 99 (52, L, st) σ = ev 99 (53, L, .int 0 :: st) σ) ∧
  (∀ (L : ri_L) (σ : ri_S) (a0 : Nat) (a1 : Int32) (a2 : Int32), ev 99 (53, L, [.int a2, .int a1, .ref a0]) σ = (cal 141 [.ref a0, .int a1, .int a2] σ).bind fun q => ev 99 (56, L, q.1.toList ++ []) q.2) ∧
  (∀ (L : ri_L) (st : List Value) (σ : ri_S), ev 99 (56, L, st) σ = ev 99 (57, L, .int 0 :: st) σ) ∧
  (∀ (l0 l1 l2 l3 l4 l5 : Option Value) (st : List Value) (σ : ri_S) (x : Int32), ev 99 (57, [l0, l1, l2, l3, l4, l5], .int x :: st) σ = ev 99 (59, [l0, l1, l2, l3, ri_clr l4, some (.int x)], st) σ) ∧
  (∀ (L : ri_L) (st : List Value) (σ : ri_S), ev 99 (61, L, st) σ = ev 99 (62, L, .int 5 :: st) σ) ∧
  (∀ (L : ri_L) (st : List Value) (σ : ri_S) (x y : Int32), ev 99 (62, L, .int y :: .int x :: st) σ = if y ≤ x then ev 99 (86, L, st) σ else ev 99 (65, L, st) σ) ∧
  (∀ (l1 l2 l3 l4 l5 : Option Value) (st : List Value) (σ : ri_S) (x : Nat), ev 99 (65, [some (.ref x), l1, l2, l3, l4, l5], st) σ = ev 99 (66, [some (.ref x), l1, l2, l3, l4, l5], .ref x :: st) σ) ∧
  (∀ (L : ri_L) (st : List Value) (σ : ri_S) (a : Nat), ev 99 (66, L, .ref a :: st) σ = tv_o 7 6 (σ.1 a) fun v => ev 99 (69, L, v :: st) σ) ∧
  (∀ (l0 l1 l2 l3 l5 : Option Value) (st : List Value) (σ : ri_S) (x : Int32), ev 99 (69, [l0, l1, l2, l3, some (.int x), l5], st) σ = ev 99 (71, [l0, l1, l2, l3, some (.int x), l5], .int x :: st) σ) ∧
  (∀ (l0 l1 l2 l3 l4 : Option Value) (st : List Value) (σ : ri_S) (x : Int32), ev 99 (71, [l0, l1, l2, l3, l4, some (.int x)], st) σ = ev 99 (73, [l0, l1, l2, l3, l4, some (.int x)], .int x :: st) σ) ∧
  (∀ (L : ri_L) (σ : ri_S) (a0 : Int32) (a1 : Int32) (s0 : Value), ev 99 (73, L, [.int a1, .int a0, s0]) σ = (cal 138 [.int a0, .int a1] σ).bind fun q => ev 99 (76, L, q.1.toList ++ [s0]) q.2) ∧
  (∀ (L : ri_L) (st : List Value) (σ : ri_S), ev 99 (76, L, st) σ = ev 99 (77, L, .int 0 :: st) σ) ∧
  (∀ (L : ri_L) (σ : ri_S) (a0 : Nat) (a1 : Int32) (a2 : Int32), ev 99 (77, L, [.int a2, .int a1, .ref a0]) σ = (cal 141 [.ref a0, .int a1, .int a2] σ).bind fun q => ev 99 (80, L, q.1.toList ++ []) q.2) ∧
  (∀ (l0 l1 l2 l3 l4 : Option Value) (st : List Value) (σ : ri_S) (x : Int32), ev 99 (80, [l0, l1, l2, l3, l4, some (.int x)], st) σ = ev 99 (83, [l0, l1, l2, l3, ri_clr l4, some (.int (x + 1))], st) σ) :=
  ⟨fun l1 l2 l3 l4 l5 st σ x => ev_p ((TP_99 _).trans rfl) rfl,
   fun L st σ a => ev_getf ((TP_99 _).trans rfl),
   fun l0 l1 l2 l3 l4 l5 st σ x => ev_p ((TP_99 _).trans rfl) rfl,
   fun l1 l2 l3 l4 l5 st σ x => ev_p ((TP_99 _).trans rfl) rfl,
   fun L st σ a => ev_getf ((TP_99 _).trans rfl),
   fun l0 l1 l2 l3 l5 st σ x => ev_p ((TP_99 _).trans rfl) rfl,
   fun l0 l2 l3 l4 l5 st σ x => ev_p ((TP_99 _).trans rfl) rfl,
   fun L σ a0 a1 a2 => ev_call ((TP_99 _).trans rfl) rfl rfl rfl rfl,
   fun l1 l2 l3 l4 l5 st σ x => ev_p ((TP_99 _).trans rfl) rfl,
   fun L st σ a => ev_getf ((TP_99 _).trans rfl),
   fun l0 l1 l2 l3 l5 st σ x => ev_p ((TP_99 _).trans rfl) rfl,
   fun l0 l1 l3 l4 l5 st σ x => ev_p ((TP_99 _).trans rfl) rfl,
   fun L σ a0 a1 a2 => ev_call ((TP_99 _).trans rfl) rfl rfl rfl rfl,
   fun l1 l2 l3 l4 l5 st σ x => ev_p ((TP_99 _).trans rfl) rfl,
   fun L st σ a => ev_getf ((TP_99 _).trans rfl),
   fun l0 l1 l2 l3 l5 st σ x => ev_p ((TP_99 _).trans rfl) rfl,
   fun l0 l1 l2 l4 l5 st σ x => ev_p ((TP_99 _).trans rfl) rfl,
   fun L σ a0 a1 a2 => ev_call ((TP_99 _).trans rfl) rfl rfl rfl rfl,
   fun l1 l2 l3 l4 l5 st σ x => ev_p ((TP_99 _).trans rfl) rfl,
   fun L st σ a => ev_getf ((TP_99 _).trans rfl),
   fun l0 l1 l2 l3 l5 st σ x => ev_p ((TP_99 _).trans rfl) rfl,
   fun L st σ => ev_p ((TP_99 _).trans rfl) rfl,
   fun L σ a0 a1 a2 => ev_call ((TP_99 _).trans rfl) rfl rfl rfl rfl,
   fun l1 l2 l3 l4 l5 st σ x => ev_p ((TP_99 _).trans rfl) rfl,
   fun L st σ a => ev_getf ((TP_99 _).trans rfl),
   fun l0 l1 l2 l3 l5 st σ x => ev_p ((TP_99 _).trans rfl) rfl,
   fun L st σ => ev_p ((TP_99 _).trans rfl) rfl,
   fun L σ a0 a1 a2 => ev_call ((TP_99 _).trans rfl) rfl rfl rfl rfl,
   fun L st σ => ev_p ((TP_99 _).trans rfl) rfl,
   fun l0 l1 l2 l3 l4 l5 st σ x => ev_p ((TP_99 _).trans rfl) rfl,
   fun L st σ => ev_p ((TP_99 _).trans rfl) rfl,
   fun L st σ x y => ev_b ((TP_99 _).trans rfl) rfl,
   fun l1 l2 l3 l4 l5 st σ x => ev_p ((TP_99 _).trans rfl) rfl,
   fun L st σ a => ev_getf ((TP_99 _).trans rfl),
   fun l0 l1 l2 l3 l5 st σ x => ev_p ((TP_99 _).trans rfl) rfl,
   fun l0 l1 l2 l3 l4 st σ x => ev_p ((TP_99 _).trans rfl) rfl,
   fun L σ a0 a1 s0 => ev_call ((TP_99 _).trans rfl) rfl rfl rfl rfl,
   fun L st σ => ev_p ((TP_99 _).trans rfl) rfl,
   fun L σ a0 a1 a2 => ev_call ((TP_99 _).trans rfl) rfl rfl rfl rfl,
   fun l0 l1 l2 l3 l4 st σ x => ev_p ((TP_99 _).trans rfl) rfl⟩
theorem I_99_1 :
  (∀ (L : ri_L) (st : List Value) (σ : ri_S), ev 99 (83, L, st) σ = ev 99 (59, L, st) σ) ∧
  (∀ (l1 l2 l3 l4 l5 : Option Value) (st : List Value) (σ : ri_S) (x : Nat), ev 99 (86, [some (.ref x), l1, l2, l3, l4, l5], st) σ = ev 99 (87, [some (.ref x), l1, l2, l3, l4, l5], .ref x :: st) σ) ∧
  (∀ (L : ri_L) (st : List Value) (σ : ri_S) (x : Nat), ev 99 (87, L, .ref x :: st) σ = ev 99 (88, L, .ref x :: .ref x :: st) σ) ∧
  (∀ (L : ri_L) (st : List Value) (σ : ri_S) (a : Nat), ev 99 (88, L, .ref a :: st) σ = tv_o 7 0 (σ.1 a) fun v => ev 99 (91, L, v :: st) σ) ∧
  (∀ (L : ri_L) (st : List Value) (σ : ri_S), ev 99 (91, L, st) σ = ev 99 (92, L, .int 1 :: st) σ) ∧
  (∀ (L : ri_L) (st : List Value) (σ : ri_S) (x y : Int32), ev 99 (92, L, .int y :: .int x :: st) σ = ev 99 (93, L, .int (x + y) :: st) σ) ∧
  (∀ (L : ri_L) (st : List Value) (σ : ri_S) (a : Nat) (x : Int32), ev 99 (93, L, .int x :: .ref a :: st) σ = tv_w 7 0 (σ.1 a) (.int x) fun fs => ev 99 (96, L, st) (ri_upd σ.1 a (.inr (.inr (7, fs))), σ.2)) ∧
  (∀ (l0 l1 l2 l3 l5 : Option Value) (st : List Value) (σ : ri_S) (x : Int32), ev 99 (96, [l0, l1, l2, l3, some (.int x), l5], st) σ = ev 99 (98, [l0, l1, l2, l3, some (.int x), l5], .int x :: st) σ) ∧
  (∀ (L : ri_L) (σ : ri_S) (x : Int32), ev 99 (98, L, [.int x]) σ = some (some (.int x), σ)) :=
  ⟨fun L st σ => ev_p ((TP_99 _).trans rfl) rfl,
   fun l1 l2 l3 l4 l5 st σ x => ev_p ((TP_99 _).trans rfl) rfl,
   fun L st σ x => ev_p ((TP_99 _).trans rfl) rfl,
   fun L st σ a => ev_getf ((TP_99 _).trans rfl),
   fun L st σ => ev_p ((TP_99 _).trans rfl) rfl,
   fun L st σ x y => ev_p ((TP_99 _).trans rfl) rfl,
   fun L st σ a x => ev_puti ((TP_99 _).trans rfl),
   fun l0 l1 l2 l3 l5 st σ x => ev_p ((TP_99 _).trans rfl) rfl,
   fun L σ x => ev_r ((TP_99 _).trans rfl) rfl⟩
theorem TP_100 (pc : Nat) : TT 100 pc = ri_find TL_100 pc := rfl
theorem E_100 (x0 : Nat) (x1 : Int32) (x2 : Int32) (σ : ri_S) : cal 100 [.ref x0, .int x1, .int x2] σ = ev 100 (0, [some (.ref x0), some (.int x1), some (.int x2)], []) σ := rfl
theorem I_100 :
  (∀ (l0 l1 : Option Value) (st : List Value) (σ : ri_S) (x : Int32), ev 100 (0, [l0, l1, some (.int x)], st) σ = ev 100 (1, [l0, l1, some (.int x)], .int x :: st) σ) ∧
  (∀ (l1 l2 : Option Value) (st : List Value) (σ : ri_S) (x : Nat), ev 100 (1, [some (.ref x), l1, l2], st) σ = ev 100 (2, [some (.ref x), l1, l2], .ref x :: st) σ) ∧
  (∀ (L : ri_L) (st : List Value) (σ : ri_S) (a : Nat), ev 100 (2, L, .ref a :: st) σ = tv_o 7 4 (σ.1 a) fun v => ev 100 (5, L, v :: st) σ) ∧
  (∀ (l0 l2 : Option Value) (st : List Value) (σ : ri_S) (x : Int32), ev 100 (5, [l0, some (.int x), l2], st) σ = ev 100 (6, [l0, some (.int x), l2], .int x :: st) σ) ∧
  (∀ (L : ri_L) (σ : ri_S) (a0 : Nat) (a1 : Int32) (s0 : Value), ev 100 (6, L, [.int a1, .ref a0, s0]) σ = (cal 140 [.ref a0, .int a1] σ).bind fun q => ev 100 (9, L, q.1.toList ++ [s0]) q.2) ∧
  (∀ (L : ri_L) (st : List Value) (σ : ri_S) (x y : Int32), ev 100 (9, L, .int y :: .int x :: st) σ = ev 100 (10, L, .int (x - y) :: st) σ) ∧
  (∀ (l1 l2 : Option Value) (st : List Value) (σ : ri_S) (x : Nat), ev 100 (10, [some (.ref x), l1, l2], st) σ = ev 100 (11, [some (.ref x), l1, l2], .ref x :: st) σ) ∧
  (∀ (L : ri_L) (st : List Value) (σ : ri_S) (a : Nat), ev 100 (11, L, .ref a :: st) σ = tv_o 7 1 (σ.1 a) fun v => ev 100 (14, L, v :: st) σ) ∧
  (∀ (l0 l2 : Option Value) (st : List Value) (σ : ri_S) (x : Int32), ev 100 (14, [l0, some (.int x), l2], st) σ = ev 100 (15, [l0, some (.int x), l2], .int x :: st) σ) ∧
  (∀ (L : ri_L) (σ : ri_S) (a0 : Nat) (a1 : Int32) (s0 : Value), ev 100 (15, L, [.int a1, .ref a0, s0]) σ = (cal 140 [.ref a0, .int a1] σ).bind fun q => ev 100 (18, L, q.1.toList ++ [s0]) q.2) ∧
  (∀ (L : ri_L) (σ : ri_S) (a0 : Int32) (a1 : Int32), ev 100 (18, L, [.int a1, .int a0]) σ = (cal 139 [.int a0, .int a1] σ).bind fun q => ev 100 (21, L, q.1.toList ++ []) q.2) ∧
  (∀ (L : ri_L) (σ : ri_S) (x : Int32), ev 100 (21, L, [.int x]) σ = some (some (.int x), σ)) :=
  ⟨fun l0 l1 st σ x => ev_p ((TP_100 _).trans rfl) rfl,
   fun l1 l2 st σ x => ev_p ((TP_100 _).trans rfl) rfl,
   fun L st σ a => ev_getf ((TP_100 _).trans rfl),
   fun l0 l2 st σ x => ev_p ((TP_100 _).trans rfl) rfl,
   fun L σ a0 a1 s0 => ev_call ((TP_100 _).trans rfl) rfl rfl rfl rfl,
   fun L st σ x y => ev_p ((TP_100 _).trans rfl) rfl,
   fun l1 l2 st σ x => ev_p ((TP_100 _).trans rfl) rfl,
   fun L st σ a => ev_getf ((TP_100 _).trans rfl),
   fun l0 l2 st σ x => ev_p ((TP_100 _).trans rfl) rfl,
   fun L σ a0 a1 s0 => ev_call ((TP_100 _).trans rfl) rfl rfl rfl rfl,
   fun L σ a0 a1 => ev_call ((TP_100 _).trans rfl) rfl rfl rfl rfl,
   fun L σ x => ev_r ((TP_100 _).trans rfl) rfl⟩
theorem TP_101 (pc : Nat) : TT 101 pc = ri_find TL_101 pc := rfl
theorem E_101 (x0 : Nat) (x1 : Int32) (x2 : Int32) (σ : ri_S) : cal 101 [.ref x0, .int x1, .int x2] σ = ev 101 (0, [some (.ref x0), some (.int x1), some (.int x2)], []) σ := rfl
theorem I_101 :
  (∀ (l0 l2 : Option Value) (st : List Value) (σ : ri_S) (x : Int32), ev 101 (0, [l0, some (.int x), l2], st) σ = ev 101 (1, [l0, some (.int x), l2], .int x :: st) σ) ∧
  (∀ (l0 l1 : Option Value) (st : List Value) (σ : ri_S) (x : Int32), ev 101 (1, [l0, l1, some (.int x)], st) σ = ev 101 (2, [l0, l1, some (.int x)], .int x :: st) σ) ∧
  (∀ (l1 l2 : Option Value) (st : List Value) (σ : ri_S) (x : Nat), ev 101 (2, [some (.ref x), l1, l2], st) σ = ev 101 (3, [some (.ref x), l1, l2], .ref x :: st) σ) ∧
  (∀ (L : ri_L) (st : List Value) (σ : ri_S) (a : Nat), ev 101 (3, L, .ref a :: st) σ = tv_o 7 4 (σ.1 a) fun v => ev 101 (6, L, v :: st) σ) ∧
  (∀ (l0 l2 : Option Value) (st : List Value) (σ : ri_S) (x : Int32), ev 101 (6, [l0, some (.int x), l2], st) σ = ev 101 (7, [l0, some (.int x), l2], .int x :: st) σ) ∧
  (∀ (L : ri_L) (σ : ri_S) (a0 : Nat) (a1 : Int32) (s0 s1 : Value), ev 101 (7, L, [.int a1, .ref a0, s0, s1]) σ = (cal 140 [.ref a0, .int a1] σ).bind fun q => ev 101 (10, L, q.1.toList ++ [s0, s1]) q.2) ∧
  (∀ (L : ri_L) (st : List Value) (σ : ri_S) (x y : Int32), ev 101 (10, L, .int y :: .int x :: st) σ = ev 101 (11, L, .int (x + y) :: st) σ) ∧
  (∀ (l1 l2 : Option Value) (st : List Value) (σ : ri_S) (x : Nat), ev 101 (11, [some (.ref x), l1, l2], st) σ = ev 101 (12, [some (.ref x), l1, l2], .ref x :: st) σ) ∧
  (∀ (L : ri_L) (st : List Value) (σ : ri_S) (a : Nat), ev 101 (12, L, .ref a :: st) σ = tv_o 7 1 (σ.1 a) fun v => ev 101 (15, L, v :: st) σ) ∧
  (∀ (l0 l2 : Option Value) (st : List Value) (σ : ri_S) (x : Int32), ev 101 (15, [l0, some (.int x), l2], st) σ = ev 101 (16, [l0, some (.int x), l2], .int x :: st) σ) ∧
  (∀ (L : ri_L) (σ : ri_S) (a0 : Nat) (a1 : Int32) (s0 s1 : Value), ev 101 (16, L, [.int a1, .ref a0, s0, s1]) σ = (cal 140 [.ref a0, .int a1] σ).bind fun q => ev 101 (19, L, q.1.toList ++ [s0, s1]) q.2) ∧
  (∀ (L : ri_L) (σ : ri_S) (a0 : Int32) (a1 : Int32) (s0 : Value), ev 101 (19, L, [.int a1, .int a0, s0]) σ = (cal 139 [.int a0, .int a1] σ).bind fun q => ev 101 (22, L, q.1.toList ++ [s0]) q.2) ∧
  (∀ (L : ri_L) (σ : ri_S) (a0 : Int32) (a1 : Int32), ev 101 (22, L, [.int a1, .int a0]) σ = (cal 138 [.int a0, .int a1] σ).bind fun q => ev 101 (25, L, q.1.toList ++ []) q.2) ∧
  (∀ (L : ri_L) (σ : ri_S) (x : Int32), ev 101 (25, L, [.int x]) σ = some (some (.int x), σ)) :=
  ⟨fun l0 l2 st σ x => ev_p ((TP_101 _).trans rfl) rfl,
   fun l0 l1 st σ x => ev_p ((TP_101 _).trans rfl) rfl,
   fun l1 l2 st σ x => ev_p ((TP_101 _).trans rfl) rfl,
   fun L st σ a => ev_getf ((TP_101 _).trans rfl),
   fun l0 l2 st σ x => ev_p ((TP_101 _).trans rfl) rfl,
   fun L σ a0 a1 s0 s1 => ev_call ((TP_101 _).trans rfl) rfl rfl rfl rfl,
   fun L st σ x y => ev_p ((TP_101 _).trans rfl) rfl,
   fun l1 l2 st σ x => ev_p ((TP_101 _).trans rfl) rfl,
   fun L st σ a => ev_getf ((TP_101 _).trans rfl),
   fun l0 l2 st σ x => ev_p ((TP_101 _).trans rfl) rfl,
   fun L σ a0 a1 s0 s1 => ev_call ((TP_101 _).trans rfl) rfl rfl rfl rfl,
   fun L σ a0 a1 s0 => ev_call ((TP_101 _).trans rfl) rfl rfl rfl rfl,
   fun L σ a0 a1 => ev_call ((TP_101 _).trans rfl) rfl rfl rfl rfl,
   fun L σ x => ev_r ((TP_101 _).trans rfl) rfl⟩
theorem TP_102 (pc : Nat) : TT 102 pc = ri_find TL_102 pc := rfl
theorem E_102 (x0 : Nat) (x1 : Int32) (x2 : Int32) (σ : ri_S) : cal 102 [.ref x0, .int x1, .int x2] σ = ev 102 (0, [some (.ref x0), some (.int x1), some (.int x2)], []) σ := rfl
theorem I_102 :
  (∀ (l1 l2 : Option Value) (st : List Value) (σ : ri_S) (x : Nat), ev 102 (0, [some (.ref x), l1, l2], st) σ = ev 102 (1, [some (.ref x), l1, l2], .ref x :: st) σ) ∧
  (∀ (L : ri_L) (st : List Value) (σ : ri_S) (a : Nat), ev 102 (1, L, .ref a :: st) σ = tv_o 7 4 (σ.1 a) fun v => ev 102 (4, L, v :: st) σ) ∧
  (∀ (l0 l2 : Option Value) (st : List Value) (σ : ri_S) (x : Int32), ev 102 (4, [l0, some (.int x), l2], st) σ = ev 102 (5, [l0, some (.int x), l2], .int x :: st) σ) ∧
  (∀ (l1 l2 : Option Value) (st : List Value) (σ : ri_S) (x : Nat), ev 102 (5, [some (.ref x), l1, l2], st) σ = ev 102 (6, [some (.ref x), l1, l2], .ref x :: st) σ) ∧
  (∀ (L : ri_L) (st : List Value) (σ : ri_S) (a : Nat), ev 102 (6, L, .ref a :: st) σ = tv_o 7 4 (σ.1 a) fun v => ev 102 (9, L, v :: st) σ) ∧
  (∀ (l0 l2 : Option Value) (st : List Value) (σ : ri_S) (x : Int32), ev 102 (9, [l0, some (.int x), l2], st) σ = ev 102 (10, [l0, some (.int x), l2], .int x :: st) σ) ∧
  (∀ (L : ri_L) (σ : ri_S) (a0 : Nat) (a1 : Int32) (s0 s1 : Value), ev 102 (10, L, [.int a1, .ref a0, s0, s1]) σ = (cal 140 [.ref a0, .int a1] σ).bind fun q => ev 102 (13, L, q.1.toList ++ [s0, s1]) q.2) ∧
  (∀ (l0 l1 : Option Value) (st : List Value) (σ : ri_S) (x : Int32), ev 102 (13, [l0, l1, some (.int x)], st) σ = ev 102 (14, [l0, l1, some (.int x)], .int x :: st) σ) ∧
  (∀ (L : ri_L) (st : List Value) (σ : ri_S) (x y : Int32), ev 102 (14, L, .int y :: .int x :: st) σ = ev 102 (15, L, .int (x + y) :: st) σ) ∧
  (∀ (l1 l2 : Option Value) (st : List Value) (σ : ri_S) (x : Nat), ev 102 (15, [some (.ref x), l1, l2], st) σ = ev 102 (16, [some (.ref x), l1, l2], .ref x :: st) σ) ∧
  (∀ (L : ri_L) (st : List Value) (σ : ri_S) (a : Nat), ev 102 (16, L, .ref a :: st) σ = tv_o 7 1 (σ.1 a) fun v => ev 102 (19, L, v :: st) σ) ∧
  (∀ (l0 l2 : Option Value) (st : List Value) (σ : ri_S) (x : Int32), ev 102 (19, [l0, some (.int x), l2], st) σ = ev 102 (20, [l0, some (.int x), l2], .int x :: st) σ) ∧
  (∀ (L : ri_L) (σ : ri_S) (a0 : Nat) (a1 : Int32) (s0 s1 s2 : Value), ev 102 (20, L, [.int a1, .ref a0, s0, s1, s2]) σ = (cal 140 [.ref a0, .int a1] σ).bind fun q => ev 102 (23, L, q.1.toList ++ [s0, s1, s2]) q.2) ∧
  (∀ (L : ri_L) (σ : ri_S) (a0 : Int32) (a1 : Int32) (s0 s1 : Value), ev 102 (23, L, [.int a1, .int a0, s0, s1]) σ = (cal 139 [.int a0, .int a1] σ).bind fun q => ev 102 (26, L, q.1.toList ++ [s0, s1]) q.2) ∧
  (∀ (L : ri_L) (σ : ri_S) (a0 : Nat) (a1 : Int32) (a2 : Int32), ev 102 (26, L, [.int a2, .int a1, .ref a0]) σ = (cal 141 [.ref a0, .int a1, .int a2] σ).bind fun q => ev 102 (29, L, q.1.toList ++ []) q.2) ∧
  (∀ (l1 l2 : Option Value) (st : List Value) (σ : ri_S) (x : Nat), ev 102 (29, [some (.ref x), l1, l2], st) σ = ev 102 (30, [some (.ref x), l1, l2], .ref x :: st) σ) ∧
  (∀ (L : ri_L) (st : List Value) (σ : ri_S) (a : Nat), ev 102 (30, L, .ref a :: st) σ = tv_o 7 4 (σ.1 a) fun v => ev 102 (33, L, v :: st) σ) ∧
  (∀ (l0 l2 : Option Value) (st : List Value) (σ : ri_S) (x : Int32), ev 102 (33, [l0, some (.int x), l2], st) σ = ev 102 (34, [l0, some (.int x), l2], .int x :: st) σ) ∧
  (∀ (L : ri_L) (σ : ri_S) (a0 : Nat) (a1 : Int32), ev 102 (34, L, [.int a1, .ref a0]) σ = (cal 140 [.ref a0, .int a1] σ).bind fun q => ev 102 (37, L, q.1.toList ++ []) q.2) ∧
  (∀ (L : ri_L) (σ : ri_S) (x : Int32), ev 102 (37, L, [.int x]) σ = some (some (.int x), σ)) :=
  ⟨fun l1 l2 st σ x => ev_p ((TP_102 _).trans rfl) rfl,
   fun L st σ a => ev_getf ((TP_102 _).trans rfl),
   fun l0 l2 st σ x => ev_p ((TP_102 _).trans rfl) rfl,
   fun l1 l2 st σ x => ev_p ((TP_102 _).trans rfl) rfl,
   fun L st σ a => ev_getf ((TP_102 _).trans rfl),
   fun l0 l2 st σ x => ev_p ((TP_102 _).trans rfl) rfl,
   fun L σ a0 a1 s0 s1 => ev_call ((TP_102 _).trans rfl) rfl rfl rfl rfl,
   fun l0 l1 st σ x => ev_p ((TP_102 _).trans rfl) rfl,
   fun L st σ x y => ev_p ((TP_102 _).trans rfl) rfl,
   fun l1 l2 st σ x => ev_p ((TP_102 _).trans rfl) rfl,
   fun L st σ a => ev_getf ((TP_102 _).trans rfl),
   fun l0 l2 st σ x => ev_p ((TP_102 _).trans rfl) rfl,
   fun L σ a0 a1 s0 s1 s2 => ev_call ((TP_102 _).trans rfl) rfl rfl rfl rfl,
   fun L σ a0 a1 s0 s1 => ev_call ((TP_102 _).trans rfl) rfl rfl rfl rfl,
   fun L σ a0 a1 a2 => ev_call ((TP_102 _).trans rfl) rfl rfl rfl rfl,
   fun l1 l2 st σ x => ev_p ((TP_102 _).trans rfl) rfl,
   fun L st σ a => ev_getf ((TP_102 _).trans rfl),
   fun l0 l2 st σ x => ev_p ((TP_102 _).trans rfl) rfl,
   fun L σ a0 a1 => ev_call ((TP_102 _).trans rfl) rfl rfl rfl rfl,
   fun L σ x => ev_r ((TP_102 _).trans rfl) rfl⟩
theorem TP_103 (pc : Nat) : TT 103 pc = ri_find TL_103 pc := rfl
theorem E_103 (x0 : Nat) (x1 : Int32) (σ : ri_S) : cal 103 [.ref x0, .int x1] σ = ev 103 (0, [some (.ref x0), some (.int x1)], []) σ := rfl
theorem I_103 :
  (∀ (l1 : Option Value) (st : List Value) (σ : ri_S) (x : Nat), ev 103 (0, [some (.ref x), l1], st) σ = ev 103 (1, [some (.ref x), l1], .ref x :: st) σ) ∧
  (∀ (l0 : Option Value) (st : List Value) (σ : ri_S) (x : Int32), ev 103 (1, [l0, some (.int x)], st) σ = ev 103 (2, [l0, some (.int x)], .int x :: st) σ) ∧
  (∀ (l1 : Option Value) (st : List Value) (σ : ri_S) (x : Nat), ev 103 (2, [some (.ref x), l1], st) σ = ev 103 (3, [some (.ref x), l1], .ref x :: st) σ) ∧
  (∀ (L : ri_L) (st : List Value) (σ : ri_S) (a : Nat), ev 103 (3, L, .ref a :: st) σ = tv_o 7 2 (σ.1 a) fun v => ev 103 (6, L, v :: st) σ) ∧
  (∀ (l0 : Option Value) (st : List Value) (σ : ri_S) (x : Int32), ev 103 (6, [l0, some (.int x)], st) σ = ev 103 (7, [l0, some (.int x)], .int x :: st) σ) ∧
  (∀ (L : ri_L) (σ : ri_S) (a0 : Nat) (a1 : Int32) (s0 s1 : Value), ev 103 (7, L, [.int a1, .ref a0, s0, s1]) σ = (cal 140 [.ref a0, .int a1] σ).bind fun q => ev 103 (10, L, q.1.toList ++ [s0, s1]) q.2) ∧
  (∀ (L : ri_L) (σ : ri_S) (a0 : Nat) (a1 : Int32) (a2 : Int32), ev 103 (10, L, [.int a2, .int a1, .ref a0]) σ = tv_k 7 (σ.1 a0) ((cal 102 [.ref a0, .int a1, .int a2] σ).bind fun q => ev 103 (13, L, q.1.toList ++ []) q.2)) ∧
  (∀ (L : ri_L) (st : List Value) (σ : ri_S) (x : Int32), ev 103 (13, L, .int x :: st) σ = ev 103 (14, L, st) σ) ∧
  (∀ (l1 : Option Value) (st : List Value) (σ : ri_S) (x : Nat), ev 103 (14, [some (.ref x), l1], st) σ = ev 103 (15, [some (.ref x), l1], .ref x :: st) σ) ∧
  (∀ (L : ri_L) (st : List Value) (σ : ri_S) (a : Nat), ev 103 (15, L, .ref a :: st) σ = tv_o 7 5 (σ.1 a) fun v => ev 103 (18, L, v :: st) σ) ∧
  (∀ (l0 : Option Value) (st : List Value) (σ : ri_S) (x : Int32), ev 103 (18, [l0, some (.int x)], st) σ = ev 103 (19, [l0, some (.int x)], .int x :: st) σ) ∧
  (∀ (l1 : Option Value) (st : List Value) (σ : ri_S) (x : Nat), ev 103 (19, [some (.ref x), l1], st) σ = ev 103 (20, [some (.ref x), l1], .ref x :: st) σ) ∧
  (∀ (L : ri_L) (st : List Value) (σ : ri_S) (a : Nat), ev 103 (20, L, .ref a :: st) σ = tv_o 7 5 (σ.1 a) fun v => ev 103 (23, L, v :: st) σ) ∧
  (∀ (l0 : Option Value) (st : List Value) (σ : ri_S) (x : Int32), ev 103 (23, [l0, some (.int x)], st) σ = ev 103 (24, [l0, some (.int x)], .int x :: st) σ) ∧
  (∀ (L : ri_L) (σ : ri_S) (a0 : Nat) (a1 : Int32) (s0 s1 : Value), ev 103 (24, L, [.int a1, .ref a0, s0, s1]) σ = (cal 140 [.ref a0, .int a1] σ).bind fun q => ev 103 (27, L, q.1.toList ++ [s0, s1]) q.2) ∧
  (∀ (L : ri_L) (st : List Value) (σ : ri_S), ev 103 (27, L, st) σ = ev 103 (28, L, .int 1 :: st) σ) ∧
  (∀ (L : ri_L) (st : List Value) (σ : ri_S) (x y : Int32), ev 103 (28, L, .int y :: .int x :: st) σ = ev 103 (29, L, .int (x + y) :: st) σ) ∧
  (∀ (L : ri_L) (σ : ri_S) (a0 : Nat) (a1 : Int32) (a2 : Int32), ev 103 (29, L, [.int a2, .int a1, .ref a0]) σ = (cal 141 [.ref a0, .int a1, .int a2] σ).bind fun q => ev 103 (32, L, q.1.toList ++ []) q.2) ∧
  (∀ (L : ri_L) (σ : ri_S), ev 103 (32, L, []) σ = some (none, σ)) :=
  ⟨fun l1 st σ x => ev_p ((TP_103 _).trans rfl) rfl,
   fun l0 st σ x => ev_p ((TP_103 _).trans rfl) rfl,
   fun l1 st σ x => ev_p ((TP_103 _).trans rfl) rfl,
   fun L st σ a => ev_getf ((TP_103 _).trans rfl),
   fun l0 st σ x => ev_p ((TP_103 _).trans rfl) rfl,
   fun L σ a0 a1 s0 s1 => ev_call ((TP_103 _).trans rfl) rfl rfl rfl rfl,
   fun L σ a0 a1 a2 => ev_callv ((TP_103 _).trans rfl) rfl rfl rfl rfl,
   fun L st σ x => ev_p ((TP_103 _).trans rfl) rfl,
   fun l1 st σ x => ev_p ((TP_103 _).trans rfl) rfl,
   fun L st σ a => ev_getf ((TP_103 _).trans rfl),
   fun l0 st σ x => ev_p ((TP_103 _).trans rfl) rfl,
   fun l1 st σ x => ev_p ((TP_103 _).trans rfl) rfl,
   fun L st σ a => ev_getf ((TP_103 _).trans rfl),
   fun l0 st σ x => ev_p ((TP_103 _).trans rfl) rfl,
   fun L σ a0 a1 s0 s1 => ev_call ((TP_103 _).trans rfl) rfl rfl rfl rfl,
   fun L st σ => ev_p ((TP_103 _).trans rfl) rfl,
   fun L st σ x y => ev_p ((TP_103 _).trans rfl) rfl,
   fun L σ a0 a1 a2 => ev_call ((TP_103 _).trans rfl) rfl rfl rfl rfl,
   fun L σ => ev_r ((TP_103 _).trans rfl) rfl⟩
theorem TP_104 (pc : Nat) : TT 104 pc = ri_find TL_104 pc := rfl
theorem E_104 (x0 : Nat) (x1 : Int32) (σ : ri_S) : cal 104 [.ref x0, .int x1] σ = ev 104 (0, [some (.ref x0), some (.int x1), none, none], []) σ := rfl
theorem H_104_11 (l0 l1 l2 : Option Value) (st : List Value) (σ : ri_S) (x : Int32) : ev 104 (11, [l0, l1, l2, some (.int x)], st) σ = ev 104 (12, [l0, l1, l2, some (.int x)], .int x :: st) σ := ev_p ((TP_104 _).trans rfl) rfl
theorem I_104 :
  (∀ (l1 l2 l3 : Option Value) (st : List Value) (σ : ri_S) (x : Nat), ev 104 (0, [some (.ref x), l1, l2, l3], st) σ = ev 104 (1, [some (.ref x), l1, l2, l3], .ref x :: st) σ) ∧
  (∀ (L : ri_L) (st : List Value) (σ : ri_S) (a : Nat), ev 104 (1, L, .ref a :: st) σ = tv_o 7 1 (σ.1 a) fun v => ev 104 (4, L, v :: st) σ) ∧
  (∀ (l0 l2 l3 : Option Value) (st : List Value) (σ : ri_S) (x : Int32), ev 104 (4, [l0, some (.int x), l2, l3], st) σ = ev 104 (5, [l0, some (.int x), l2, l3], .int x :: st) σ) ∧
  (∀ (L : ri_L) (σ : ri_S) (a0 : Nat) (a1 : Int32), ev 104 (5, L, [.int a1, .ref a0]) σ = (cal 140 [.ref a0, .int a1] σ).bind fun q => ev 104 (8, L, q.1.toList ++ []) q.2) ∧
  (∀ (l0 l1 l2 l3 : Option Value) (st : List Value) (σ : ri_S) (x : Int32), ev 104 (8, [l0, l1, l2, l3], .int x :: st) σ = ev 104 (9, [l0, ri_clr l1, some (.int x), l3], st) σ) ∧
  (∀ (L : ri_L) (st : List Value) (σ : ri_S), ev 104 (9, L, st) σ = ev 104 (10, L, .int 1 :: st) σ) ∧
  (∀ (l0 l1 l2 l3 : Option Value) (st : List Value) (σ : ri_S) (x : Int32), ev 104 (10, [l0, l1, l2, l3], .int x :: st) σ = ev 104 (11, [l0, l1, ri_clr l2, some (.int x)], st) σ) ∧
  (∀ (l0 l1 l3 : Option Value) (st : List Value) (σ : ri_S) (x : Int32), ev 104 (12, [l0, l1, some (.int x), l3], st) σ = ev 104 (13, [l0, l1, some (.int x), l3], .int x :: st) σ) ∧
  (∀ (L : ri_L) (st : List Value) (σ : ri_S) (x y : Int32), ev 104 (13, L, .int y :: .int x :: st) σ = if y ≤ x then ev 104 (39, L, st) σ else ev 104 (16, L, st) σ) ∧
  (∀ (l0 l1 l2 : Option Value) (st : List Value) (σ : ri_S) (x : Int32), ev 104 (16, [l0, l1, l2, some (.int x)], st) σ = ev 104 (17, [l0, l1, l2, some (.int x)], .int x :: st) σ) ∧
  (∀ (l1 l2 l3 : Option Value) (st : List Value) (σ : ri_S) (x : Nat), ev 104 (17, [some (.ref x), l1, l2, l3], st) σ = ev 104 (18, [some (.ref x), l1, l2, l3], .ref x :: st) σ) ∧
  (∀ (L : ri_L) (st : List Value) (σ : ri_S) (a : Nat), ev 104 (18, L, .ref a :: st) σ = tv_o 7 2 (σ.1 a) fun v => ev 104 (21, L, v :: st) σ) ∧
  (∀ (l0 l2 l3 : Option Value) (st : List Value) (σ : ri_S) (x : Int32), ev 104 (21, [l0, some (.int x), l2, l3], st) σ = ev 104 (22, [l0, some (.int x), l2, l3], .int x :: st) σ) ∧
  (∀ (L : ri_L) (σ : ri_S) (a0 : Nat) (a1 : Int32) (s0 : Value), ev 104 (22, L, [.int a1, .ref a0, s0]) σ = (cal 140 [.ref a0, .int a1] σ).bind fun q => ev 104 (25, L, q.1.toList ++ [s0]) q.2) ∧
  (∀ (L : ri_L) (st : List Value) (σ : ri_S) (x y : Int32), ev 104 (25, L, .int y :: .int x :: st) σ = ev 104 (26, L, .int (x * y) :: st) σ) ∧
  (∀ (l0 l1 l3 : Option Value) (st : List Value) (σ : ri_S) (x : Int32), ev 104 (26, [l0, l1, some (.int x), l3], st) σ = ev 104 (27, [l0, l1, some (.int x), l3], .int x :: st) σ) ∧
  (∀ (L : ri_L) (σ : ri_S) (a0 : Int32) (a1 : Int32), ev 104 (27, L, [.int a1, .int a0]) σ = (cal 139 [.int a0, .int a1] σ).bind fun q => ev 104 (30, L, q.1.toList ++ []) q.2) ∧
  (∀ (L : ri_L) (st : List Value) (σ : ri_S) (x : Int32), ev 104 (30, L, .int x :: st) σ = if x = 0 then ev 104 (39, L, st) σ else ev 104 (33, L, st) σ) ∧
  (∀ (l0 l1 l2 : Option Value) (st : List Value) (σ : ri_S) (x : Int32), ev 104 (33, [l0, l1, l2, some (.int x)], st) σ = ev 104 (36, [l0, l1, ri_clr l2, some (.int (x + 1))], st) σ) ∧
  (∀ (L : ri_L) (st : List Value) (σ : ri_S), ev 104 (36, L, st) σ = ev 104 (11, L, st) σ) ∧
  (∀ (l0 l1 l2 : Option Value) (st : List Value) (σ : ri_S) (x : Int32), ev 104 (39, [l0, l1, l2, some (.int x)], st) σ = ev 104 (40, [l0, l1, l2, some (.int x)], .int x :: st) σ) ∧
  (∀ (L : ri_L) (σ : ri_S) (x : Int32), ev 104 (40, L, [.int x]) σ = some (some (.int x), σ)) :=
  ⟨fun l1 l2 l3 st σ x => ev_p ((TP_104 _).trans rfl) rfl,
   fun L st σ a => ev_getf ((TP_104 _).trans rfl),
   fun l0 l2 l3 st σ x => ev_p ((TP_104 _).trans rfl) rfl,
   fun L σ a0 a1 => ev_call ((TP_104 _).trans rfl) rfl rfl rfl rfl,
   fun l0 l1 l2 l3 st σ x => ev_p ((TP_104 _).trans rfl) rfl,
   fun L st σ => ev_p ((TP_104 _).trans rfl) rfl,
   fun l0 l1 l2 l3 st σ x => ev_p ((TP_104 _).trans rfl) rfl,
   fun l0 l1 l3 st σ x => ev_p ((TP_104 _).trans rfl) rfl,
   fun L st σ x y => ev_b ((TP_104 _).trans rfl) rfl,
   fun l0 l1 l2 st σ x => ev_p ((TP_104 _).trans rfl) rfl,
   fun l1 l2 l3 st σ x => ev_p ((TP_104 _).trans rfl) rfl,
   fun L st σ a => ev_getf ((TP_104 _).trans rfl),
   fun l0 l2 l3 st σ x => ev_p ((TP_104 _).trans rfl) rfl,
   fun L σ a0 a1 s0 => ev_call ((TP_104 _).trans rfl) rfl rfl rfl rfl,
   fun L st σ x y => ev_p ((TP_104 _).trans rfl) rfl,
   fun l0 l1 l3 st σ x => ev_p ((TP_104 _).trans rfl) rfl,
   fun L σ a0 a1 => ev_call ((TP_104 _).trans rfl) rfl rfl rfl rfl,
   fun L st σ x => ev_b ((TP_104 _).trans rfl) rfl,
   fun l0 l1 l2 st σ x => ev_p ((TP_104 _).trans rfl) rfl,
   fun L st σ => ev_p ((TP_104 _).trans rfl) rfl,
   fun l0 l1 l2 st σ x => ev_p ((TP_104 _).trans rfl) rfl,
   fun L σ x => ev_r ((TP_104 _).trans rfl) rfl⟩
theorem TP_105 (pc : Nat) : TT 105 pc = ri_find TL_105 pc := rfl
theorem E_105 (x0 : Nat) (x1 : Int32) (σ : ri_S) : cal 105 [.ref x0, .int x1] σ = ev 105 (0, [some (.ref x0), some (.int x1), none, none], []) σ := rfl
theorem H_105_4 (l0 l1 l2 : Option Value) (st : List Value) (σ : ri_S) (x : Int32) : ev 105 (4, [l0, l1, l2, some (.int x)], st) σ = ev 105 (5, [l0, l1, l2, some (.int x)], .int x :: st) σ := ev_p ((TP_105 _).trans rfl) rfl
theorem I_105 :
  (∀ (L : ri_L) (st : List Value) (σ : ri_S), ev 105 (0, L, st) σ = ev 105 (1, L, .int 0 :: st) σ) ∧
  (∀ (l0 l1 l2 l3 : Option Value) (st : List Value) (σ : ri_S) (x : Int32), ev 105 (1, [l0, l1, l2, l3], .int x :: st) σ = ev 105 (2, [l0, ri_clr l1, some (.int x), l3], st) σ) ∧
  (∀ (L : ri_L) (st : List Value) (σ : ri_S), ev 105 (2, L, st) σ = ev 105 (3, L, .int 0 :: st) σ) ∧
  (∀ (l0 l1 l2 l3 : Option Value) (st : List Value) (σ : ri_S) (x : Int32), ev 105 (3, [l0, l1, l2, l3], .int x :: st) σ = ev 105 (4, [l0, l1, ri_clr l2, some (.int x)], st) σ) ∧
  (∀ (l1 l2 l3 : Option Value) (st : List Value) (σ : ri_S) (x : Nat), ev 105 (5, [some (.ref x), l1, l2, l3], st) σ = ev 105 (6, [some (.ref x), l1, l2, l3], .ref x :: st) σ) ∧
  (∀ (L : ri_L) (st : List Value) (σ : ri_S) (a : Nat), ev 105 (6, L, .ref a :: st) σ = tv_o 7 1 (σ.1 a) fun v => ev 105 (9, L, v :: st) σ) ∧
  (∀ (l0 l2 l3 : Option Value) (st : List Value) (σ : ri_S) (x : Int32), ev 105 (9, [l0, some (.int x), l2, l3], st) σ = ev 105 (10, [l0, some (.int x), l2, l3], .int x :: st) σ) ∧
  (∀ (L : ri_L) (σ : ri_S) (a0 : Nat) (a1 : Int32) (s0 : Value), ev 105 (10, L, [.int a1, .ref a0, s0]) σ = (cal 140 [.ref a0, .int a1] σ).bind fun q => ev 105 (13, L, q.1.toList ++ [s0]) q.2) ∧
  (∀ (L : ri_L) (st : List Value) (σ : ri_S) (x y : Int32), ev 105 (13, L, .int y :: .int x :: st) σ = if y ≤ x then ev 105 (37, L, st) σ else ev 105 (16, L, st) σ) ∧
  (∀ (l0 l1 l3 : Option Value) (st : List Value) (σ : ri_S) (x : Int32), ev 105 (16, [l0, l1, some (.int x), l3], st) σ = ev 105 (17, [l0, l1, some (.int x), l3], .int x :: st) σ) ∧
  (∀ (l1 l2 l3 : Option Value) (st : List Value) (σ : ri_S) (x : Nat), ev 105 (17, [some (.ref x), l1, l2, l3], st) σ = ev 105 (18, [some (.ref x), l1, l2, l3], .ref x :: st) σ) ∧
  (∀ (L : ri_L) (st : List Value) (σ : ri_S) (a : Nat), ev 105 (18, L, .ref a :: st) σ = tv_o 7 6 (σ.1 a) fun v => ev 105 (21, L, v :: st) σ) ∧
  (∀ (l0 l2 l3 : Option Value) (st : List Value) (σ : ri_S) (x : Int32), ev 105 (21, [l0, some (.int x), l2, l3], st) σ = ev 105 (22, [l0, some (.int x), l2, l3], .int x :: st) σ) ∧
  (∀ (l0 l1 l2 : Option Value) (st : List Value) (σ : ri_S) (x : Int32), ev 105 (22, [l0, l1, l2, some (.int x)], st) σ = ev 105 (23, [l0, l1, l2, some (.int x)], .int x :: st) σ) ∧
  (∀ (L : ri_L) (σ : ri_S) (a0 : Int32) (a1 : Int32) (s0 s1 : Value), ev 105 (23, L, [.int a1, .int a0, s0, s1]) σ = (cal 138 [.int a0, .int a1] σ).bind fun q => ev 105 (26, L, q.1.toList ++ [s0, s1]) q.2) ∧
  (∀ (L : ri_L) (σ : ri_S) (a0 : Nat) (a1 : Int32) (s0 : Value), ev 105 (26, L, [.int a1, .ref a0, s0]) σ = (cal 140 [.ref a0, .int a1] σ).bind fun q => ev 105 (29, L, q.1.toList ++ [s0]) q.2) ∧
  (∀ (L : ri_L) (st : List Value) (σ : ri_S) (x y : Int32), ev 105 (29, L, .int y :: .int x :: st) σ = ev 105 (30, L, .int (x + y) :: st) σ) ∧
  (∀ (l0 l1 l2 l3 : Option Value) (st : List Value) (σ : ri_S) (x : Int32), ev 105 (30, [l0, l1, l2, l3], .int x :: st) σ = ev 105 (31, [l0, ri_clr l1, some (.int x), l3], st) σ) ∧
  (∀ (l0 l1 l2 : Option Value) (st : List Value) (σ : ri_S) (x : Int32), ev 105 (31, [l0, l1, l2, some (.int x)], st) σ = ev 105 (34, [l0, l1, ri_clr l2, some (.int (x + 1))], st) σ) ∧
  (∀ (L : ri_L) (st : List Value) (σ : ri_S), ev 105 (34, L, st) σ = ev 105 (4, L, st) σ) ∧
  (∀ (l0 l1 l3 : Option Value) (st : List Value) (σ : ri_S) (x : Int32), ev 105 (37, [l0, l1, some (.int x), l3], st) σ = ev 105 (38, [l0, l1, some (.int x), l3], .int x :: st) σ) ∧
  (∀ (L : ri_L) (σ : ri_S) (x : Int32), ev 105 (38, L, [.int x]) σ = some (some (.int x), σ)) :=
  ⟨fun L st σ => ev_p ((TP_105 _).trans rfl) rfl,
   fun l0 l1 l2 l3 st σ x => ev_p ((TP_105 _).trans rfl) rfl,
   fun L st σ => ev_p ((TP_105 _).trans rfl) rfl,
   fun l0 l1 l2 l3 st σ x => ev_p ((TP_105 _).trans rfl) rfl,
   fun l1 l2 l3 st σ x => ev_p ((TP_105 _).trans rfl) rfl,
   fun L st σ a => ev_getf ((TP_105 _).trans rfl),
   fun l0 l2 l3 st σ x => ev_p ((TP_105 _).trans rfl) rfl,
   fun L σ a0 a1 s0 => ev_call ((TP_105 _).trans rfl) rfl rfl rfl rfl,
   fun L st σ x y => ev_b ((TP_105 _).trans rfl) rfl,
   fun l0 l1 l3 st σ x => ev_p ((TP_105 _).trans rfl) rfl,
   fun l1 l2 l3 st σ x => ev_p ((TP_105 _).trans rfl) rfl,
   fun L st σ a => ev_getf ((TP_105 _).trans rfl),
   fun l0 l2 l3 st σ x => ev_p ((TP_105 _).trans rfl) rfl,
   fun l0 l1 l2 st σ x => ev_p ((TP_105 _).trans rfl) rfl,
   fun L σ a0 a1 s0 s1 => ev_call ((TP_105 _).trans rfl) rfl rfl rfl rfl,
   fun L σ a0 a1 s0 => ev_call ((TP_105 _).trans rfl) rfl rfl rfl rfl,
   fun L st σ x y => ev_p ((TP_105 _).trans rfl) rfl,
   fun l0 l1 l2 l3 st σ x => ev_p ((TP_105 _).trans rfl) rfl,
   fun l0 l1 l2 st σ x => ev_p ((TP_105 _).trans rfl) rfl,
   fun L st σ => ev_p ((TP_105 _).trans rfl) rfl,
   fun l0 l1 l3 st σ x => ev_p ((TP_105 _).trans rfl) rfl,
   fun L σ x => ev_r ((TP_105 _).trans rfl) rfl⟩
theorem TP_106 (pc : Nat) : TT 106 pc = ri_find TL_106 pc := rfl
theorem E_106 (x0 : Nat) (σ : ri_S) : cal 106 [.ref x0] σ = ev 106 (0, [some (.ref x0), none, none], []) σ := rfl
theorem H_106_4 (l0 l1 : Option Value) (st : List Value) (σ : ri_S) (x : Int32) : ev 106 (4, [l0, l1, some (.int x)], st) σ = ev 106 (5, [l0, l1, some (.int x)], .int x :: st) σ := ev_p ((TP_106 _).trans rfl) rfl
theorem I_106 :
  (∀ (L : ri_L) (st : List Value) (σ : ri_S), ev 106 (0, L, st) σ = ev 106 (1, L, .int 0 :: st) σ) ∧
  (∀ (l0 l1 l2 : Option Value) (st : List Value) (σ : ri_S) (x : Int32), ev 106 (1, [l0, l1, l2], .int x :: st) σ = ev 106 (2, [ri_clr l0, some (.int x), l2], st) σ) ∧
  (∀ (L : ri_L) (st : List Value) (σ : ri_S), ev 106 (2, L, st) σ = ev 106 (3, L, .int 0 :: st) σ) ∧
  (∀ (l0 l1 l2 : Option Value) (st : List Value) (σ : ri_S) (x : Int32), ev 106 (3, [l0, l1, l2], .int x :: st) σ = ev 106 (4, [l0, ri_clr l1, some (.int x)], st) σ) ∧
  (∀ (l1 l2 : Option Value) (st : List Value) (σ : ri_S) (x : Nat), ev 106 (5, [some (.ref x), l1, l2], st) σ = ev 106 (6, [some (.ref x), l1, l2], .ref x :: st) σ) ∧
  (∀ (L : ri_L) (st : List Value) (σ : ri_S) (a : Nat), ev 106 (6, L, .ref a :: st) σ = tv_o 7 0 (σ.1 a) fun v => ev 106 (9, L, v :: st) σ) ∧
  (∀ (L : ri_L) (st : List Value) (σ : ri_S) (x y : Int32), ev 106 (9, L, .int y :: .int x :: st) σ = if y ≤ x then ev 106 (26, L, st) σ else ev 106 (12, L, st) σ) ∧
  (∀ (l0 l2 : Option Value) (st : List Value) (σ : ri_S) (x : Int32), ev 106 (12, [l0, some (.int x), l2], st) σ = ev 106 (13, [l0, some (.int x), l2], .int x :: st) σ) ∧
  (∀ (l1 l2 : Option Value) (st : List Value) (σ : ri_S) (x : Nat), ev 106 (13, [some (.ref x), l1, l2], st) σ = ev 106 (14, [some (.ref x), l1, l2], .ref x :: st) σ) ∧
  (∀ (l0 l1 : Option Value) (st : List Value) (σ : ri_S) (x : Int32), ev 106 (14, [l0, l1, some (.int x)], st) σ = ev 106 (15, [l0, l1, some (.int x)], .int x :: st) σ) ∧
  (∀ (L : ri_L) (σ : ri_S) (a0 : Nat) (a1 : Int32) (s0 : Value), ev 106 (15, L, [.int a1, .ref a0, s0]) σ = tv_k 7 (σ.1 a0) ((cal 105 [.ref a0, .int a1] σ).bind fun q => ev 106 (18, L, q.1.toList ++ [s0]) q.2)) ∧
  (∀ (L : ri_L) (st : List Value) (σ : ri_S) (x y : Int32), ev 106 (18, L, .int y :: .int x :: st) σ = ev 106 (19, L, .int (x + y) :: st) σ) ∧
  (∀ (l0 l1 l2 : Option Value) (st : List Value) (σ : ri_S) (x : Int32), ev 106 (19, [l0, l1, l2], .int x :: st) σ = ev 106 (20, [ri_clr l0, some (.int x), l2], st) σ) ∧
  (∀ (l0 l1 : Option Value) (st : List Value) (σ : ri_S) (x : Int32), ev 106 (20, [l0, l1, some (.int x)], st) σ = ev 106 (23, [l0, ri_clr l1, some (.int (x + 1))], st) σ) ∧
  (∀ (L : ri_L) (st : List Value) (σ : ri_S), ev 106 (23, L, st) σ = ev 106 (4, L, st) σ) ∧
  (∀ (l0 l2 : Option Value) (st : List Value) (σ : ri_S) (x : Int32), ev 106 (26, [l0, some (.int x), l2], st) σ = ev 106 (27, [l0, some (.int x), l2], .int x :: st) σ) ∧
  (∀ (L : ri_L) (σ : ri_S) (x : Int32), ev 106 (27, L, [.int x]) σ = some (some (.int x), σ)) :=
  ⟨fun L st σ => ev_p ((TP_106 _).trans rfl) rfl,
   fun l0 l1 l2 st σ x => ev_p ((TP_106 _).trans rfl) rfl,
   fun L st σ => ev_p ((TP_106 _).trans rfl) rfl,
   fun l0 l1 l2 st σ x => ev_p ((TP_106 _).trans rfl) rfl,
   fun l1 l2 st σ x => ev_p ((TP_106 _).trans rfl) rfl,
   fun L st σ a => ev_getf ((TP_106 _).trans rfl),
   fun L st σ x y => ev_b ((TP_106 _).trans rfl) rfl,
   fun l0 l2 st σ x => ev_p ((TP_106 _).trans rfl) rfl,
   fun l1 l2 st σ x => ev_p ((TP_106 _).trans rfl) rfl,
   fun l0 l1 st σ x => ev_p ((TP_106 _).trans rfl) rfl,
   fun L σ a0 a1 s0 => ev_callv ((TP_106 _).trans rfl) rfl rfl rfl rfl,
   fun L st σ x y => ev_p ((TP_106 _).trans rfl) rfl,
   fun l0 l1 l2 st σ x => ev_p ((TP_106 _).trans rfl) rfl,
   fun l0 l1 st σ x => ev_p ((TP_106 _).trans rfl) rfl,
   fun L st σ => ev_p ((TP_106 _).trans rfl) rfl,
   fun l0 l2 st σ x => ev_p ((TP_106 _).trans rfl) rfl,
   fun L σ x => ev_r ((TP_106 _).trans rfl) rfl⟩
theorem TP_107 (pc : Nat) : TT 107 pc = ri_find TL_107 pc := rfl
theorem E_107 (x0 : Nat) (x1 : Nat) (σ : ri_S) : cal 107 [.ref x0, .ref x1] σ = ev 107 (0, [some (.ref x0), some (.ref x1)], []) σ := rfl
theorem I_107 :
  (∀ (l1 : Option Value) (st : List Value) (σ : ri_S) (x : Nat), ev 107 (0, [some (.ref x), l1], st) σ = ev 107 (1, [some (.ref x), l1], .ref x :: st) σ) ∧
  (∀ (l0 : Option Value) (st : List Value) (σ : ri_S) (x : Nat), ev 107 (1, [l0, some (.ref x)], st) σ = ev 107 (2, [l0, some (.ref x)], .ref x :: st) σ) ∧
  (∀ (L : ri_L) (st : List Value) (σ : ri_S) (a : Nat), ev 107 (2, L, .ref a :: st) σ = tv_o 7 0 (σ.1 a) fun v => ev 107 (5, L, v :: st) σ) ∧
  (∀ (L : ri_L) (st : List Value) (σ : ri_S) (a : Nat) (x : Int32), ev 107 (5, L, .int x :: .ref a :: st) σ = tv_w 7 0 (σ.1 a) (.int x) fun fs => ev 107 (8, L, st) (ri_upd σ.1 a (.inr (.inr (7, fs))), σ.2)) ∧
  (∀ (l0 : Option Value) (st : List Value) (σ : ri_S) (x : Nat), ev 107 (8, [l0, some (.ref x)], st) σ = ev 107 (9, [l0, some (.ref x)], .ref x :: st) σ) ∧
  (∀ (L : ri_L) (st : List Value) (σ : ri_S) (a : Nat), ev 107 (9, L, .ref a :: st) σ = tv_o 7 1 (σ.1 a) fun v => ev 107 (12, L, v :: st) σ) ∧
  (∀ (l1 : Option Value) (st : List Value) (σ : ri_S) (x : Nat), ev 107 (12, [some (.ref x), l1], st) σ = ev 107 (13, [some (.ref x), l1], .ref x :: st) σ) ∧
  (∀ (L : ri_L) (st : List Value) (σ : ri_S) (a : Nat), ev 107 (13, L, .ref a :: st) σ = tv_o 7 1 (σ.1 a) fun v => ev 107 (16, L, v :: st) σ) ∧
  (∀ (L : ri_L) (σ : ri_S) (a0 : Nat) (a1 : Nat), ev 107 (16, L, [.ref a1, .ref a0]) σ = (cal 142 [.ref a0, .ref a1] σ).bind fun q => ev 107 (19, L, q.1.toList ++ []) q.2) ∧
  (∀ (l0 : Option Value) (st : List Value) (σ : ri_S) (x : Nat), ev 107 (19, [l0, some (.ref x)], st) σ = ev 107 (20, [l0, some (.ref x)], .ref x :: st) σ) ∧
  (∀ (L : ri_L) (st : List Value) (σ : ri_S) (a : Nat), ev 107 (20, L, .ref a :: st) σ = tv_o 7 2 (σ.1 a) fun v => ev 107 (23, L, v :: st) σ) ∧
  (∀ (l1 : Option Value) (st : List Value) (σ : ri_S) (x : Nat), ev 107 (23, [some (.ref x), l1], st) σ = ev 107 (24, [some (.ref x), l1], .ref x :: st) σ) ∧
  (∀ (L : ri_L) (st : List Value) (σ : ri_S) (a : Nat), ev 107 (24, L, .ref a :: st) σ = tv_o 7 2 (σ.1 a) fun v => ev 107 (27, L, v :: st) σ) ∧
  (∀ (L : ri_L) (σ : ri_S) (a0 : Nat) (a1 : Nat), ev 107 (27, L, [.ref a1, .ref a0]) σ = (cal 142 [.ref a0, .ref a1] σ).bind fun q => ev 107 (30, L, q.1.toList ++ []) q.2) ∧
  (∀ (l0 : Option Value) (st : List Value) (σ : ri_S) (x : Nat), ev 107 (30, [l0, some (.ref x)], st) σ = ev 107 (31, [l0, some (.ref x)], .ref x :: st) σ) ∧
  (∀ (L : ri_L) (st : List Value) (σ : ri_S) (a : Nat), ev 107 (31, L, .ref a :: st) σ = tv_o 7 3 (σ.1 a) fun v => ev 107 (34, L, v :: st) σ) ∧
  (∀ (l1 : Option Value) (st : List Value) (σ : ri_S) (x : Nat), ev 107 (34, [some (.ref x), l1], st) σ = ev 107 (35, [some (.ref x), l1], .ref x :: st) σ) ∧
  (∀ (L : ri_L) (st : List Value) (σ : ri_S) (a : Nat), ev 107 (35, L, .ref a :: st) σ = tv_o 7 3 (σ.1 a) fun v => ev 107 (38, L, v :: st) σ) ∧
  (∀ (L : ri_L) (σ : ri_S) (a0 : Nat) (a1 : Nat), ev 107 (38, L, [.ref a1, .ref a0]) σ = (cal 142 [.ref a0, .ref a1] σ).bind fun q => ev 107 (41, L, q.1.toList ++ []) q.2) ∧
  (∀ (l0 : Option Value) (st : List Value) (σ : ri_S) (x : Nat), ev 107 (41, [l0, some (.ref x)], st) σ = ev 107 (42, [l0, some (.ref x)], .ref x :: st) σ) ∧
  (∀ (L : ri_L) (st : List Value) (σ : ri_S) (a : Nat), ev 107 (42, L, .ref a :: st) σ = tv_o 7 4 (σ.1 a) fun v => ev 107 (45, L, v :: st) σ) ∧
  (∀ (l1 : Option Value) (st : List Value) (σ : ri_S) (x : Nat), ev 107 (45, [some (.ref x), l1], st) σ = ev 107 (46, [some (.ref x), l1], .ref x :: st) σ) ∧
  (∀ (L : ri_L) (st : List Value) (σ : ri_S) (a : Nat), ev 107 (46, L, .ref a :: st) σ = tv_o 7 4 (σ.1 a) fun v => ev 107 (49, L, v :: st) σ) ∧
  (∀ (L : ri_L) (σ : ri_S) (a0 : Nat) (a1 : Nat), ev 107 (49, L, [.ref a1, .ref a0]) σ = (cal 142 [.ref a0, .ref a1] σ).bind fun q => ev 107 (52, L, q.1.toList ++ []) q.2) ∧
  (∀ (l0 : Option Value) (st : List Value) (σ : ri_S) (x : Nat), ev 107 (52, [l0, some (.ref x)], st) σ = ev 107 (53, [l0, some (.ref x)], .ref x :: st) σ) ∧
  (∀ (L : ri_L) (st : List Value) (σ : ri_S) (a : Nat), ev 107 (53, L, .ref a :: st) σ = tv_o 7 5 (σ.1 a) fun v => ev 107 (56, L, v :: st) σ) ∧
  (∀ (l1 : Option Value) (st : List Value) (σ : ri_S) (x : Nat), ev 107 (56, [some (.ref x), l1], st) σ = ev 107 (57, [some (.ref x), l1], .ref x :: st) σ) ∧
  (∀ (L : ri_L) (st : List Value) (σ : ri_S) (a : Nat), ev 107 (57, L, .ref a :: st) σ = tv_o 7 5 (σ.1 a) fun v => ev 107 (60, L, v :: st) σ) ∧
  (∀ (L : ri_L) (σ : ri_S) (a0 : Nat) (a1 : Nat), ev 107 (60, L, [.ref a1, .ref a0]) σ = (cal 142 [.ref a0, .ref a1] σ).bind fun q => ev 107 (63, L, q.1.toList ++ []) q.2) ∧
  (∀ (l0 : Option Value) (st : List Value) (σ : ri_S) (x : Nat), ev 107 (63, [l0, some (.ref x)], st) σ = ev 107 (64, [l0, some (.ref x)], .ref x :: st) σ) ∧
  (∀ (L : ri_L) (st : List Value) (σ : ri_S) (a : Nat), ev 107 (64, L, .ref a :: st) σ = tv_o 7 6 (σ.1 a) fun v => ev 107 (67, L, v :: st) σ) ∧
  (∀ (l1 : Option Value) (st : List Value) (σ : ri_S) (x : Nat), ev 107 (67, [some (.ref x), l1], st) σ = ev 107 (68, [some (.ref x), l1], .ref x :: st) σ) ∧
  (∀ (L : ri_L) (st : List Value) (σ : ri_S) (a : Nat), ev 107 (68, L, .ref a :: st) σ = tv_o 7 6 (σ.1 a) fun v => ev 107 (71, L, v :: st) σ) ∧
  (∀ (L : ri_L) (σ : ri_S) (a0 : Nat) (a1 : Nat), ev 107 (71, L, [.ref a1, .ref a0]) σ = (cal 142 [.ref a0, .ref a1] σ).bind fun q => ev 107 (74, L, q.1.toList ++ []) q.2) ∧
  (∀ (L : ri_L) (σ : ri_S), ev 107 (74, L, []) σ = some (none, σ)) :=
  ⟨fun l1 st σ x => ev_p ((TP_107 _).trans rfl) rfl,
   fun l0 st σ x => ev_p ((TP_107 _).trans rfl) rfl,
   fun L st σ a => ev_getf ((TP_107 _).trans rfl),
   fun L st σ a x => ev_puti ((TP_107 _).trans rfl),
   fun l0 st σ x => ev_p ((TP_107 _).trans rfl) rfl,
   fun L st σ a => ev_getf ((TP_107 _).trans rfl),
   fun l1 st σ x => ev_p ((TP_107 _).trans rfl) rfl,
   fun L st σ a => ev_getf ((TP_107 _).trans rfl),
   fun L σ a0 a1 => ev_call ((TP_107 _).trans rfl) rfl rfl rfl rfl,
   fun l0 st σ x => ev_p ((TP_107 _).trans rfl) rfl,
   fun L st σ a => ev_getf ((TP_107 _).trans rfl),
   fun l1 st σ x => ev_p ((TP_107 _).trans rfl) rfl,
   fun L st σ a => ev_getf ((TP_107 _).trans rfl),
   fun L σ a0 a1 => ev_call ((TP_107 _).trans rfl) rfl rfl rfl rfl,
   fun l0 st σ x => ev_p ((TP_107 _).trans rfl) rfl,
   fun L st σ a => ev_getf ((TP_107 _).trans rfl),
   fun l1 st σ x => ev_p ((TP_107 _).trans rfl) rfl,
   fun L st σ a => ev_getf ((TP_107 _).trans rfl),
   fun L σ a0 a1 => ev_call ((TP_107 _).trans rfl) rfl rfl rfl rfl,
   fun l0 st σ x => ev_p ((TP_107 _).trans rfl) rfl,
   fun L st σ a => ev_getf ((TP_107 _).trans rfl),
   fun l1 st σ x => ev_p ((TP_107 _).trans rfl) rfl,
   fun L st σ a => ev_getf ((TP_107 _).trans rfl),
   fun L σ a0 a1 => ev_call ((TP_107 _).trans rfl) rfl rfl rfl rfl,
   fun l0 st σ x => ev_p ((TP_107 _).trans rfl) rfl,
   fun L st σ a => ev_getf ((TP_107 _).trans rfl),
   fun l1 st σ x => ev_p ((TP_107 _).trans rfl) rfl,
   fun L st σ a => ev_getf ((TP_107 _).trans rfl),
   fun L σ a0 a1 => ev_call ((TP_107 _).trans rfl) rfl rfl rfl rfl,
   fun l0 st σ x => ev_p ((TP_107 _).trans rfl) rfl,
   fun L st σ a => ev_getf ((TP_107 _).trans rfl),
   fun l1 st σ x => ev_p ((TP_107 _).trans rfl) rfl,
   fun L st σ a => ev_getf ((TP_107 _).trans rfl),
   fun L σ a0 a1 => ev_call ((TP_107 _).trans rfl) rfl rfl rfl rfl,
   fun L σ => ev_r ((TP_107 _).trans rfl) rfl⟩
theorem TP_108 (pc : Nat) : TT 108 pc = ri_find TL_108 pc := rfl
theorem E_108 (x0 : Nat) (σ : ri_S) : cal 108 [.ref x0] σ = ev 108 (0, [some (.ref x0)], []) σ := rfl
theorem I_108 :
  (∀ (st : List Value) (σ : ri_S) (x : Nat), ev 108 (0, [some (.ref x)], st) σ = ev 108 (1, [some (.ref x)], .ref x :: st) σ) ∧
  (∀ (L : ri_L) (σ : ri_S) (a : Nat), ev 108 (1, L, [.ref a]) σ = ev 108 (4, L, []) σ) ∧
  (∀ (st : List Value) (σ : ri_S) (x : Nat), ev 108 (4, [some (.ref x)], st) σ = ev 108 (5, [some (.ref x)], .ref x :: st) σ) ∧
  (∀ (L : ri_L) (st : List Value) (σ : ri_S), ev 108 (5, L, st) σ = ev 108 (8, L, .ref σ.2 :: st) (ri_upd σ.1 σ.2 (.inr (.inr (6, [.null, .int 0]))), σ.2 + 1)) ∧
  (∀ (L : ri_L) (st : List Value) (σ : ri_S) (x : Nat), ev 108 (8, L, .ref x :: st) σ = ev 108 (9, L, .ref x :: .ref x :: st) σ) ∧
  (∀ (L : ri_L) (σ : ri_S) (a0 : Nat) (s0 s1 : Value), ev 108 (9, L, [.ref a0, s0, s1]) σ = tv_k 6 (σ.1 a0) ((cal 86 [.ref a0] σ).bind fun q => ev 108 (12, L, q.1.toList ++ [s0, s1]) q.2)) ∧
  (∀ (L : ri_L) (st : List Value) (σ : ri_S) (a : Nat) (x : Nat), ev 108 (12, L, .ref x :: .ref a :: st) σ = tv_w 8 0 (σ.1 a) (.ref x) fun fs => ev 108 (15, L, st) (ri_upd σ.1 a (.inr (.inr (8, fs))), σ.2)) ∧
  (∀ (st : List Value) (σ : ri_S) (x : Nat), ev 108 (15, [some (.ref x)], st) σ = ev 108 (16, [some (.ref x)], .ref x :: st) σ) ∧
  (∀ (L : ri_L) (st : List Value) (σ : ri_S), ev 108 (16, L, st) σ = ev 108 (19, L, .ref σ.2 :: st) (ri_upd σ.1 σ.2 (.inr (.inr (3, [.null, .null, .null, .int 0, .int 0, .int 0, .int 0, .int 0, .int 0]))), σ.2 + 1)) ∧
  (∀ (L : ri_L) (st : List Value) (σ : ri_S) (x : Nat), ev 108 (19, L, .ref x :: st) σ = ev 108 (20, L, .ref x :: .ref x :: st) σ) ∧
  (∀ (L : ri_L) (σ : ri_S) (a0 : Nat) (s0 s1 : Value), ev 108 (20, L, [.ref a0, s0, s1]) σ = tv_k 3 (σ.1 a0) ((cal 20 [.ref a0] σ).bind fun q => ev 108 (23, L, q.1.toList ++ [s0, s1]) q.2)) ∧
  (∀ (L : ri_L) (st : List Value) (σ : ri_S) (a : Nat) (x : Nat), ev 108 (23, L, .ref x :: .ref a :: st) σ = tv_w 8 1 (σ.1 a) (.ref x) fun fs => ev 108 (26, L, st) (ri_upd σ.1 a (.inr (.inr (8, fs))), σ.2)) ∧
  (∀ (st : List Value) (σ : ri_S) (x : Nat), ev 108 (26, [some (.ref x)], st) σ = ev 108 (27, [some (.ref x)], .ref x :: st) σ) ∧
  (∀ (L : ri_L) (st : List Value) (σ : ri_S), ev 108 (27, L, st) σ = ev 108 (30, L, .ref σ.2 :: st) (ri_upd σ.1 σ.2 (.inr (.inr (3, [.null, .null, .null, .int 0, .int 0, .int 0, .int 0, .int 0, .int 0]))), σ.2 + 1)) ∧
  (∀ (L : ri_L) (st : List Value) (σ : ri_S) (x : Nat), ev 108 (30, L, .ref x :: st) σ = ev 108 (31, L, .ref x :: .ref x :: st) σ) ∧
  (∀ (L : ri_L) (σ : ri_S) (a0 : Nat) (s0 s1 : Value), ev 108 (31, L, [.ref a0, s0, s1]) σ = tv_k 3 (σ.1 a0) ((cal 20 [.ref a0] σ).bind fun q => ev 108 (34, L, q.1.toList ++ [s0, s1]) q.2)) ∧
  (∀ (L : ri_L) (st : List Value) (σ : ri_S) (a : Nat) (x : Nat), ev 108 (34, L, .ref x :: .ref a :: st) σ = tv_w 8 2 (σ.1 a) (.ref x) fun fs => ev 108 (37, L, st) (ri_upd σ.1 a (.inr (.inr (8, fs))), σ.2)) ∧
  (∀ (st : List Value) (σ : ri_S) (x : Nat), ev 108 (37, [some (.ref x)], st) σ = ev 108 (38, [some (.ref x)], .ref x :: st) σ) ∧
  (∀ (L : ri_L) (st : List Value) (σ : ri_S), ev 108 (38, L, st) σ = ev 108 (41, L, .ref σ.2 :: st) (ri_upd σ.1 σ.2 (.inr (.inr (1, [.null, .int 0, .int 0]))), σ.2 + 1)) ∧
  (∀ (L : ri_L) (st : List Value) (σ : ri_S) (x : Nat), ev 108 (41, L, .ref x :: st) σ = ev 108 (42, L, .ref x :: .ref x :: st) σ) ∧
  (∀ (L : ri_L) (σ : ri_S) (a0 : Nat) (s0 s1 : Value), ev 108 (42, L, [.ref a0, s0, s1]) σ = tv_k 1 (σ.1 a0) ((cal 7 [.ref a0] σ).bind fun q => ev 108 (45, L, q.1.toList ++ [s0, s1]) q.2)) ∧
  (∀ (L : ri_L) (st : List Value) (σ : ri_S) (a : Nat) (x : Nat), ev 108 (45, L, .ref x :: .ref a :: st) σ = tv_w 8 3 (σ.1 a) (.ref x) fun fs => ev 108 (48, L, st) (ri_upd σ.1 a (.inr (.inr (8, fs))), σ.2)) ∧
  (∀ (st : List Value) (σ : ri_S) (x : Nat), ev 108 (48, [some (.ref x)], st) σ = ev 108 (49, [some (.ref x)], .ref x :: st) σ) ∧
  (∀ (L : ri_L) (st : List Value) (σ : ri_S), ev 108 (49, L, st) σ = ev 108 (52, L, .ref σ.2 :: st) (ri_upd σ.1 σ.2 (.inr (.inr (5, [.null, .null]))), σ.2 + 1)) ∧
  (∀ (L : ri_L) (st : List Value) (σ : ri_S) (x : Nat), ev 108 (52, L, .ref x :: st) σ = ev 108 (53, L, .ref x :: .ref x :: st) σ) ∧
  (∀ (L : ri_L) (σ : ri_S) (a0 : Nat) (s0 s1 : Value), ev 108 (53, L, [.ref a0, s0, s1]) σ = tv_k 5 (σ.1 a0) ((cal 80 [.ref a0] σ).bind fun q => ev 108 (56, L, q.1.toList ++ [s0, s1]) q.2)) ∧
  (∀ (L : ri_L) (st : List Value) (σ : ri_S) (a : Nat) (x : Nat), ev 108 (56, L, .ref x :: .ref a :: st) σ = tv_w 8 4 (σ.1 a) (.ref x) fun fs => ev 108 (59, L, st) (ri_upd σ.1 a (.inr (.inr (8, fs))), σ.2)) ∧
  (∀ (st : List Value) (σ : ri_S) (x : Nat), ev 108 (59, [some (.ref x)], st) σ = ev 108 (60, [some (.ref x)], .ref x :: st) σ) ∧
  (∀ (L : ri_L) (st : List Value) (σ : ri_S), ev 108 (60, L, st) σ = ev 108 (63, L, .ref σ.2 :: st) (ri_upd σ.1 σ.2 (.inr (.inr (4, [.null, .null, .null, .null, .null, .null, .null, .null, .null, .int 0]))), σ.2 + 1)) ∧
  (∀ (L : ri_L) (st : List Value) (σ : ri_S) (x : Nat), ev 108 (63, L, .ref x :: st) σ = ev 108 (64, L, .ref x :: .ref x :: st) σ) ∧
  (∀ (L : ri_L) (σ : ri_S) (a0 : Nat) (s0 s1 : Value), ev 108 (64, L, [.ref a0, s0, s1]) σ = tv_k 4 (σ.1 a0) ((cal 56 [.ref a0] σ).bind fun q => ev 108 (67, L, q.1.toList ++ [s0, s1]) q.2)) ∧
  (∀ (L : ri_L) (st : List Value) (σ : ri_S) (a : Nat) (x : Nat), ev 108 (67, L, .ref x :: .ref a :: st) σ = tv_w 8 5 (σ.1 a) (.ref x) fun fs => ev 108 (70, L, st) (ri_upd σ.1 a (.inr (.inr (8, fs))), σ.2)) ∧
  (∀ (L : ri_L) (σ : ri_S), ev 108 (70, L, []) σ = some (none, σ)) :=
  ⟨fun st σ x => ev_p ((TP_108 _).trans rfl) rfl,
   fun L σ a => ev_p ((TP_108 _).trans rfl) rfl,
   fun st σ x => ev_p ((TP_108 _).trans rfl) rfl,
   fun L st σ => ev_new ((TP_108 _).trans rfl),
   fun L st σ x => ev_p ((TP_108 _).trans rfl) rfl,
   fun L σ a0 s0 s1 => ev_callv ((TP_108 _).trans rfl) rfl rfl rfl rfl,
   fun L st σ a x => ev_putr ((TP_108 _).trans rfl),
   fun st σ x => ev_p ((TP_108 _).trans rfl) rfl,
   fun L st σ => ev_new ((TP_108 _).trans rfl),
   fun L st σ x => ev_p ((TP_108 _).trans rfl) rfl,
   fun L σ a0 s0 s1 => ev_callv ((TP_108 _).trans rfl) rfl rfl rfl rfl,
   fun L st σ a x => ev_putr ((TP_108 _).trans rfl),
   fun st σ x => ev_p ((TP_108 _).trans rfl) rfl,
   fun L st σ => ev_new ((TP_108 _).trans rfl),
   fun L st σ x => ev_p ((TP_108 _).trans rfl) rfl,
   fun L σ a0 s0 s1 => ev_callv ((TP_108 _).trans rfl) rfl rfl rfl rfl,
   fun L st σ a x => ev_putr ((TP_108 _).trans rfl),
   fun st σ x => ev_p ((TP_108 _).trans rfl) rfl,
   fun L st σ => ev_new ((TP_108 _).trans rfl),
   fun L st σ x => ev_p ((TP_108 _).trans rfl) rfl,
   fun L σ a0 s0 s1 => ev_callv ((TP_108 _).trans rfl) rfl rfl rfl rfl,
   fun L st σ a x => ev_putr ((TP_108 _).trans rfl),
   fun st σ x => ev_p ((TP_108 _).trans rfl) rfl,
   fun L st σ => ev_new ((TP_108 _).trans rfl),
   fun L st σ x => ev_p ((TP_108 _).trans rfl) rfl,
   fun L σ a0 s0 s1 => ev_callv ((TP_108 _).trans rfl) rfl rfl rfl rfl,
   fun L st σ a x => ev_putr ((TP_108 _).trans rfl),
   fun st σ x => ev_p ((TP_108 _).trans rfl) rfl,
   fun L st σ => ev_new ((TP_108 _).trans rfl),
   fun L st σ x => ev_p ((TP_108 _).trans rfl) rfl,
   fun L σ a0 s0 s1 => ev_callv ((TP_108 _).trans rfl) rfl rfl rfl rfl,
   fun L st σ a x => ev_putr ((TP_108 _).trans rfl),
   fun L σ => ev_r ((TP_108 _).trans rfl) rfl⟩
theorem TP_109 (pc : Nat) : TT 109 pc = ri_find TL_109 pc := rfl
theorem E_109 (x0 : Nat) (x1 : Int32) (σ : ri_S) : cal 109 [.ref x0, .int x1] σ = ev 109 (0, [some (.ref x0), some (.int x1)], []) σ := rfl
theorem I_109 :
  (∀ (l1 : Option Value) (st : List Value) (σ : ri_S) (x : Nat), ev 109 (0, [some (.ref x), l1], st) σ = ev 109 (1, [some (.ref x), l1], .ref x :: st) σ) ∧
  (∀ (L : ri_L) (st : List Value) (σ : ri_S) (a : Nat), ev 109 (1, L, .ref a :: st) σ = tv_o 8 0 (σ.1 a) fun v => ev 109 (4, L, v :: st) σ) ∧
  (∀ (l0 : Option Value) (st : List Value) (σ : ri_S) (x : Int32), ev 109 (4, [l0, some (.int x)], st) σ = ev 109 (5, [l0, some (.int x)], .int x :: st) σ) ∧
  (∀ (L : ri_L) (σ : ri_S) (a0 : Nat) (a1 : Int32), ev 109 (5, L, [.int a1, .ref a0]) σ = tv_k 6 (σ.1 a0) ((cal 87 [.ref a0, .int a1] σ).bind fun q => ev 109 (8, L, q.1.toList ++ []) q.2)) ∧
  (∀ (L : ri_L) (σ : ri_S) (a0 : Int32), ev 109 (8, L, [.int a0]) σ = (cal 135 [.int a0] σ).bind fun q => ev 109 (11, L, q.1.toList ++ []) q.2) ∧
  (∀ (l1 : Option Value) (st : List Value) (σ : ri_S) (x : Nat), ev 109 (11, [some (.ref x), l1], st) σ = ev 109 (12, [some (.ref x), l1], .ref x :: st) σ) ∧
  (∀ (L : ri_L) (st : List Value) (σ : ri_S) (a : Nat), ev 109 (12, L, .ref a :: st) σ = tv_o 8 0 (σ.1 a) fun v => ev 109 (15, L, v :: st) σ) ∧
  (∀ (l0 : Option Value) (st : List Value) (σ : ri_S) (x : Int32), ev 109 (15, [l0, some (.int x)], st) σ = ev 109 (16, [l0, some (.int x)], .int x :: st) σ) ∧
  (∀ (L : ri_L) (σ : ri_S) (a0 : Nat) (a1 : Int32), ev 109 (16, L, [.int a1, .ref a0]) σ = tv_k 6 (σ.1 a0) ((cal 88 [.ref a0, .int a1] σ).bind fun q => ev 109 (19, L, q.1.toList ++ []) q.2)) ∧
  (∀ (L : ri_L) (σ : ri_S) (x : Int32), ev 109 (19, L, [.int x]) σ = some (some (.int x), σ)) :=
  ⟨fun l1 st σ x => ev_p ((TP_109 _).trans rfl) rfl,
   fun L st σ a => ev_getf ((TP_109 _).trans rfl),
   fun l0 st σ x => ev_p ((TP_109 _).trans rfl) rfl,
   fun L σ a0 a1 => ev_callv ((TP_109 _).trans rfl) rfl rfl rfl rfl,
   fun L σ a0 => ev_call ((TP_109 _).trans rfl) rfl rfl rfl rfl,
   fun l1 st σ x => ev_p ((TP_109 _).trans rfl) rfl,
   fun L st σ a => ev_getf ((TP_109 _).trans rfl),
   fun l0 st σ x => ev_p ((TP_109 _).trans rfl) rfl,
   fun L σ a0 a1 => ev_callv ((TP_109 _).trans rfl) rfl rfl rfl rfl,
   fun L σ x => ev_r ((TP_109 _).trans rfl) rfl⟩
theorem TP_112 (pc : Nat) : TT 112 pc = ri_find TL_112 pc := rfl
theorem E_112 (x0 : Nat) (σ : ri_S) : cal 112 [.ref x0] σ = ev 112 (0, [some (.ref x0)], []) σ := rfl
theorem I_112 :
  (∀ (st : List Value) (σ : ri_S) (x : Nat), ev 112 (0, [some (.ref x)], st) σ = ev 112 (1, [some (.ref x)], .ref x :: st) σ) ∧
  (∀ (L : ri_L) (st : List Value) (σ : ri_S) (a : Nat), ev 112 (1, L, .ref a :: st) σ = tv_o 8 0 (σ.1 a) fun v => ev 112 (4, L, v :: st) σ) ∧
  (∀ (L : ri_L) (σ : ri_S) (a0 : Nat), ev 112 (4, L, [.ref a0]) σ = tv_k 6 (σ.1 a0) ((cal 90 [.ref a0] σ).bind fun q => ev 112 (7, L, q.1.toList ++ []) q.2)) ∧
  (∀ (L : ri_L) (st : List Value) (σ : ri_S), ev 112 (7, L, st) σ = ev 112 (8, L, .int (-1) :: st) σ) ∧
  (∀ (L : ri_L) (st : List Value) (σ : ri_S) (x y : Int32), ev 112 (8, L, .int y :: .int x :: st) σ = if ¬ x = y then ev 112 (15, L, st) σ else ev 112 (11, L, st) σ) ∧
  (∀ (L : ri_L) (st : List Value) (σ : ri_S), ev 112 (11, L, st) σ = ev 112 (12, L, .int 0 :: st) σ) ∧
  (∀ (L : ri_L) (st : List Value) (σ : ri_S), ev 112 (12, L, st) σ = ev 112 (16, L, st) σ) ∧
  (∀ (L : ri_L) (st : List Value) (σ : ri_S), ev 112 (15, L, st) σ = ev 112 (16, L, .int 3 :: st) σ) ∧
  (∀ (L : ri_L) (σ : ri_S) (a0 : Int32), ev 112 (16, L, [.int a0]) σ = (cal 135 [.int a0] σ).bind fun q => ev 112 (19, L, q.1.toList ++ []) q.2) ∧
  (∀ (st : List Value) (σ : ri_S) (x : Nat), ev 112 (19, [some (.ref x)], st) σ = ev 112 (20, [some (.ref x)], .ref x :: st) σ) ∧
  (∀ (L : ri_L) (st : List Value) (σ : ri_S) (a : Nat), ev 112 (20, L, .ref a :: st) σ = tv_o 8 3 (σ.1 a) fun v => ev 112 (23, L, v :: st) σ) ∧
  (∀ (L : ri_L) (σ : ri_S) (a0 : Nat), ev 112 (23, L, [.ref a0]) σ = tv_k 1 (σ.1 a0) ((cal 9 [.ref a0] σ).bind fun q => ev 112 (26, L, q.1.toList ++ []) q.2)) ∧
  (∀ (st : List Value) (σ : ri_S) (x : Nat), ev 112 (26, [some (.ref x)], st) σ = ev 112 (27, [some (.ref x)], .ref x :: st) σ) ∧
  (∀ (L : ri_L) (st : List Value) (σ : ri_S) (a : Nat), ev 112 (27, L, .ref a :: st) σ = tv_o 8 4 (σ.1 a) fun v => ev 112 (30, L, v :: st) σ) ∧
  (∀ (L : ri_L) (σ : ri_S) (a0 : Nat), ev 112 (30, L, [.ref a0]) σ = tv_k 5 (σ.1 a0) ((cal 83 [.ref a0] σ).bind fun q => ev 112 (33, L, q.1.toList ++ []) q.2)) ∧
  (∀ (st : List Value) (σ : ri_S) (x : Nat), ev 112 (33, [some (.ref x)], st) σ = ev 112 (34, [some (.ref x)], .ref x :: st) σ) ∧
  (∀ (L : ri_L) (st : List Value) (σ : ri_S) (a : Nat), ev 112 (34, L, .ref a :: st) σ = tv_o 8 1 (σ.1 a) fun v => ev 112 (37, L, v :: st) σ) ∧
  (∀ (L : ri_L) (σ : ri_S) (a0 : Nat), ev 112 (37, L, [.ref a0]) σ = tv_k 3 (σ.1 a0) ((cal 21 [.ref a0] σ).bind fun q => ev 112 (40, L, q.1.toList ++ []) q.2)) ∧
  (∀ (st : List Value) (σ : ri_S) (x : Nat), ev 112 (40, [some (.ref x)], st) σ = ev 112 (41, [some (.ref x)], .ref x :: st) σ) ∧
  (∀ (L : ri_L) (st : List Value) (σ : ri_S) (a : Nat), ev 112 (41, L, .ref a :: st) σ = tv_o 8 0 (σ.1 a) fun v => ev 112 (44, L, v :: st) σ) ∧
  (∀ (st : List Value) (σ : ri_S) (x : Nat), ev 112 (44, [some (.ref x)], st) σ = ev 112 (45, [some (.ref x)], .ref x :: st) σ) ∧
  (∀ (L : ri_L) (st : List Value) (σ : ri_S) (a : Nat), ev 112 (45, L, .ref a :: st) σ = tv_o 8 1 (σ.1 a) fun v => ev 112 (48, L, v :: st) σ) ∧
  (∀ (L : ri_L) (σ : ri_S) (a0 : Nat) (a1 : Nat), ev 112 (48, L, [.ref a1, .ref a0]) σ = tv_k 6 (σ.1 a0) ((cal 93 [.ref a0, .ref a1] σ).bind fun q => ev 112 (51, L, q.1.toList ++ []) q.2)) ∧
  (∀ (L : ri_L) (σ : ri_S) (x : Int32), ev 112 (51, L, [.int x]) σ = some (some (.int x), σ)) :=
  ⟨fun st σ x => ev_p ((TP_112 _).trans rfl) rfl,
   fun L st σ a => ev_getf ((TP_112 _).trans rfl),
   fun L σ a0 => ev_callv ((TP_112 _).trans rfl) rfl rfl rfl rfl,
   fun L st σ => ev_p ((TP_112 _).trans rfl) rfl,
   fun L st σ x y => ev_b ((TP_112 _).trans rfl) rfl,
   fun L st σ => ev_p ((TP_112 _).trans rfl) rfl,
   fun L st σ => ev_p ((TP_112 _).trans rfl) rfl,
   fun L st σ => ev_p ((TP_112 _).trans rfl) rfl,
   fun L σ a0 => ev_call ((TP_112 _).trans rfl) rfl rfl rfl rfl,
   fun st σ x => ev_p ((TP_112 _).trans rfl) rfl,
   fun L st σ a => ev_getf ((TP_112 _).trans rfl),
   fun L σ a0 => ev_callv ((TP_112 _).trans rfl) rfl rfl rfl rfl,
   fun st σ x => ev_p ((TP_112 _).trans rfl) rfl,
   fun L st σ a => ev_getf ((TP_112 _).trans rfl),
   fun L σ a0 => ev_callv ((TP_112 _).trans rfl) rfl rfl rfl rfl,
   fun st σ x => ev_p ((TP_112 _).trans rfl) rfl,
   fun L st σ a => ev_getf ((TP_112 _).trans rfl),
   fun L σ a0 => ev_callv ((TP_112 _).trans rfl) rfl rfl rfl rfl,
   fun st σ x => ev_p ((TP_112 _).trans rfl) rfl,
   fun L st σ a => ev_getf ((TP_112 _).trans rfl),
   fun st σ x => ev_p ((TP_112 _).trans rfl) rfl,
   fun L st σ a => ev_getf ((TP_112 _).trans rfl),
   fun L σ a0 a1 => ev_callv ((TP_112 _).trans rfl) rfl rfl rfl rfl,
   fun L σ x => ev_r ((TP_112 _).trans rfl) rfl⟩
theorem TP_113 (pc : Nat) : TT 113 pc = ri_find TL_113 pc := rfl
theorem E_113 (x0 : Nat) (x1 : Int32) (σ : ri_S) : cal 113 [.ref x0, .int x1] σ = ev 113 (0, [some (.ref x0), some (.int x1)], []) σ := rfl
theorem I_113 :
  (∀ (l0 : Option Value) (st : List Value) (σ : ri_S) (x : Int32), ev 113 (0, [l0, some (.int x)], st) σ = ev 113 (1, [l0, some (.int x)], .int x :: st) σ) ∧
  (∀ (L : ri_L) (st : List Value) (σ : ri_S), ev 113 (1, L, st) σ = ev 113 (3, L, .int 10 :: st) σ) ∧
  (∀ (L : ri_L) (σ : ri_S) (a0 : Int32) (a1 : Int32), ev 113 (3, L, [.int a1, .int a0]) σ = (cal 136 [.int a0, .int a1] σ).bind fun q => ev 113 (6, L, q.1.toList ++ []) q.2) ∧
  (∀ (L : ri_L) (σ : ri_S) (a0 : Int32), ev 113 (6, L, [.int a0]) σ = (cal 135 [.int a0] σ).bind fun q => ev 113 (9, L, q.1.toList ++ []) q.2) ∧
  (∀ (l1 : Option Value) (st : List Value) (σ : ri_S) (x : Nat), ev 113 (9, [some (.ref x), l1], st) σ = ev 113 (10, [some (.ref x), l1], .ref x :: st) σ) ∧
  (∀ (L : ri_L) (st : List Value) (σ : ri_S) (a : Nat), ev 113 (10, L, .ref a :: st) σ = tv_o 8 1 (σ.1 a) fun v => ev 113 (13, L, v :: st) σ) ∧
  (∀ (l0 : Option Value) (st : List Value) (σ : ri_S) (x : Int32), ev 113 (13, [l0, some (.int x)], st) σ = ev 113 (14, [l0, some (.int x)], .int x :: st) σ) ∧
  (∀ (L : ri_L) (σ : ri_S) (a0 : Nat) (a1 : Int32), ev 113 (14, L, [.int a1, .ref a0]) σ = tv_k 3 (σ.1 a0) ((cal 47 [.ref a0, .int a1] σ).bind fun q => ev 113 (17, L, q.1.toList ++ []) q.2)) ∧
  (∀ (L : ri_L) (σ : ri_S) (x : Int32), ev 113 (17, L, [.int x]) σ = some (some (.int x), σ)) :=
  ⟨fun l0 st σ x => ev_p ((TP_113 _).trans rfl) rfl,
   fun L st σ => ev_p ((TP_113 _).trans rfl) rfl,
   fun L σ a0 a1 => ev_call ((TP_113 _).trans rfl) rfl rfl rfl rfl,
   fun L σ a0 => ev_call ((TP_113 _).trans rfl) rfl rfl rfl rfl,
   fun l1 st σ x => ev_p ((TP_113 _).trans rfl) rfl,
   fun L st σ a => ev_getf ((TP_113 _).trans rfl),
   fun l0 st σ x => ev_p ((TP_113 _).trans rfl) rfl,
   fun L σ a0 a1 => ev_callv ((TP_113 _).trans rfl) rfl rfl rfl rfl,
   fun L σ x => ev_r ((TP_113 _).trans rfl) rfl⟩
theorem TP_114 (pc : Nat) : TT 114 pc = ri_find TL_114 pc := rfl
theorem E_114 (x0 : Nat) (x1 : Int32) (x2 : Int32) (σ : ri_S) : cal 114 [.ref x0, .int x1, .int x2] σ = ev 114 (0, [some (.ref x0), some (.int x1), some (.int x2)], []) σ := rfl
theorem I_114 :
  (∀ (l1 l2 : Option Value) (st : List Value) (σ : ri_S) (x : Nat), ev 114 (0, [some (.ref x), l1, l2], st) σ = ev 114 (1, [some (.ref x), l1, l2], .ref x :: st) σ) ∧
  (∀ (L : ri_L) (st : List Value) (σ : ri_S) (a : Nat), ev 114 (1, L, .ref a :: st) σ = tv_o 8 1 (σ.1 a) fun v => ev 114 (4, L, v :: st) σ) ∧
  (∀ (L : ri_L) (st : List Value) (σ : ri_S) (a : Nat), ev 114 (4, L, .ref a :: st) σ = tv_o 3 0 (σ.1 a) fun v => ev 114 (7, L, v :: st) σ) ∧
  (∀ (l0 l2 : Option Value) (st : List Value) (σ : ri_S) (x : Int32), ev 114 (7, [l0, some (.int x), l2], st) σ = ev 114 (8, [l0, some (.int x), l2], .int x :: st) σ) ∧
  (∀ (L : ri_L) (σ : ri_S) (a0 : Nat) (a1 : Int32), ev 114 (8, L, [.int a1, .ref a0]) σ = tv_k 7 (σ.1 a0) ((cal 97 [.ref a0, .int a1] σ).bind fun q => ev 114 (11, L, q.1.toList ++ []) q.2)) ∧
  (∀ (L : ri_L) (st : List Value) (σ : ri_S) (x : Int32), ev 114 (11, L, .int x :: st) σ = if x = 0 then ev 114 (23, L, st) σ else ev 114 (14, L, st) σ) ∧
  (∀ (l0 l1 : Option Value) (st : List Value) (σ : ri_S) (x : Int32), ev 114 (14, [l0, l1, some (.int x)], st) σ = ev 114 (15, [l0, l1, some (.int x)], .int x :: st) σ) ∧
  (∀ (L : ri_L) (st : List Value) (σ : ri_S), ev 114 (15, L, st) σ = ev 114 (17, L, .int 7 :: st) σ) ∧
  (∀ (L : ri_L) (σ : ri_S) (a0 : Int32) (a1 : Int32), ev 114 (17, L, [.int a1, .int a0]) σ = (cal 136 [.int a0, .int a1] σ).bind fun q => ev 114 (20, L, q.1.toList ++ []) q.2) ∧
  (∀ (L : ri_L) (st : List Value) (σ : ri_S), ev 114 (20, L, st) σ = ev 114 (24, L, st) σ) ∧
  (∀ (L : ri_L) (st : List Value) (σ : ri_S), ev 114 (23, L, st) σ = ev 114 (24, L, .int 1 :: st) σ) ∧
  (∀ (L : ri_L) (σ : ri_S) (a0 : Int32), ev 114 (24, L, [.int a0]) σ = (cal 135 [.int a0] σ).bind fun q => ev 114 (27, L, q.1.toList ++ []) q.2) ∧
  (∀ (l1 l2 : Option Value) (st : List Value) (σ : ri_S) (x : Nat), ev 114 (27, [some (.ref x), l1, l2], st) σ = ev 114 (28, [some (.ref x), l1, l2], .ref x :: st) σ) ∧
  (∀ (L : ri_L) (st : List Value) (σ : ri_S) (a : Nat), ev 114 (28, L, .ref a :: st) σ = tv_o 8 1 (σ.1 a) fun v => ev 114 (31, L, v :: st) σ) ∧
  (∀ (l0 l2 : Option Value) (st : List Value) (σ : ri_S) (x : Int32), ev 114 (31, [l0, some (.int x), l2], st) σ = ev 114 (32, [l0, some (.int x), l2], .int x :: st) σ) ∧
  (∀ (l0 l1 : Option Value) (st : List Value) (σ : ri_S) (x : Int32), ev 114 (32, [l0, l1, some (.int x)], st) σ = ev 114 (33, [l0, l1, some (.int x)], .int x :: st) σ) ∧
  (∀ (L : ri_L) (σ : ri_S) (a0 : Nat) (a1 : Int32) (a2 : Int32), ev 114 (33, L, [.int a2, .int a1, .ref a0]) σ = tv_k 3 (σ.1 a0) ((cal 48 [.ref a0, .int a1, .int a2] σ).bind fun q => ev 114 (36, L, q.1.toList ++ []) q.2)) ∧
  (∀ (L : ri_L) (σ : ri_S) (x : Int32), ev 114 (36, L, [.int x]) σ = some (some (.int x), σ)) :=
  ⟨fun l1 l2 st σ x => ev_p ((TP_114 _).trans rfl) rfl,
   fun L st σ a => ev_getf ((TP_114 _).trans rfl),
   fun L st σ a => ev_getf ((TP_114 _).trans rfl),
   fun l0 l2 st σ x => ev_p ((TP_114 _).trans rfl) rfl,
   fun L σ a0 a1 => ev_callv ((TP_114 _).trans rfl) rfl rfl rfl rfl,
   fun L st σ x => ev_b ((TP_114 _).trans rfl) rfl,
   fun l0 l1 st σ x => ev_p ((TP_114 _).trans rfl) rfl,
   fun L st σ => ev_p ((TP_114 _).trans rfl) rfl,
   fun L σ a0 a1 => ev_call ((TP_114 _).trans rfl) rfl rfl rfl rfl,
   fun L st σ => ev_p ((TP_114 _).trans rfl) rfl,
   fun L st σ => ev_p ((TP_114 _).trans rfl) rfl,
   fun L σ a0 => ev_call ((TP_114 _).trans rfl) rfl rfl rfl rfl,
   fun l1 l2 st σ x => ev_p ((TP_114 _).trans rfl) rfl,
   fun L st σ a => ev_getf ((TP_114 _).trans rfl),
   fun l0 l2 st σ x => ev_p ((TP_114 _).trans rfl) rfl,
   fun l0 l1 st σ x => ev_p ((TP_114 _).trans rfl) rfl,
   fun L σ a0 a1 a2 => ev_callv ((TP_114 _).trans rfl) rfl rfl rfl rfl,
   fun L σ x => ev_r ((TP_114 _).trans rfl) rfl⟩
theorem TP_115 (pc : Nat) : TT 115 pc = ri_find TL_115 pc := rfl
theorem E_115 (x0 : Nat) (x1 : Int32) (x2 : Int32) (x3 : Int32) (σ : ri_S) : cal 115 [.ref x0, .int x1, .int x2, .int x3] σ = ev 115 (0, [some (.ref x0), some (.int x1), some (.int x2), some (.int x3)], []) σ := rfl
theorem I_115 :
  (∀ (l1 l2 l3 : Option Value) (st : List Value) (σ : ri_S) (x : Nat), ev 115 (0, [some (.ref x), l1, l2, l3], st) σ = ev 115 (1, [some (.ref x), l1, l2, l3], .ref x :: st) σ) ∧
  (∀ (L : ri_L) (st : List Value) (σ : ri_S) (a : Nat), ev 115 (1, L, .ref a :: st) σ = tv_o 8 1 (σ.1 a) fun v => ev 115 (4, L, v :: st) σ) ∧
  (∀ (L : ri_L) (st : List Value) (σ : ri_S) (a : Nat), ev 115 (4, L, .ref a :: st) σ = tv_o 3 0 (σ.1 a) fun v => ev 115 (7, L, v :: st) σ) ∧
  (∀ (l0 l2 l3 : Option Value) (st : List Value) (σ : ri_S) (x : Int32), ev 115 (7, [l0, some (.int x), l2, l3], st) σ = ev 115 (8, [l0, some (.int x), l2, l3], .int x :: st) σ) ∧
  (∀ (l0 l1 l3 : Option Value) (st : List Value) (σ : ri_S) (x : Int32), ev 115 (8, [l0, l1, some (.int x), l3], st) σ = ev 115 (9, [l0, l1, some (.int x), l3], .int x :: st) σ) ∧
  (∀ (L : ri_L) (σ : ri_S) (a0 : Nat) (a1 : Int32) (a2 : Int32), ev 115 (9, L, [.int a2, .int a1, .ref a0]) σ = tv_k 7 (σ.1 a0) ((cal 98 [.ref a0, .int a1, .int a2] σ).bind fun q => ev 115 (12, L, q.1.toList ++ []) q.2)) ∧
  (∀ (L : ri_L) (st : List Value) (σ : ri_S) (x : Int32), ev 115 (12, L, .int x :: st) σ = if x = 0 then ev 115 (23, L, st) σ else ev 115 (15, L, st) σ) ∧
  (∀ (l0 l1 l2 : Option Value) (st : List Value) (σ : ri_S) (x : Int32), ev 115 (15, [l0, l1, l2, some (.int x)], st) σ = ev 115 (16, [l0, l1, l2, some (.int x)], .int x :: st) σ) ∧
  (∀ (L : ri_L) (st : List Value) (σ : ri_S), ev 115 (16, L, st) σ = ev 115 (17, L, .int 3 :: st) σ) ∧
  (∀ (L : ri_L) (σ : ri_S) (a0 : Int32) (a1 : Int32), ev 115 (17, L, [.int a1, .int a0]) σ = (cal 136 [.int a0, .int a1] σ).bind fun q => ev 115 (20, L, q.1.toList ++ []) q.2) ∧
  (∀ (L : ri_L) (st : List Value) (σ : ri_S), ev 115 (20, L, st) σ = ev 115 (24, L, st) σ) ∧
  (∀ (L : ri_L) (st : List Value) (σ : ri_S), ev 115 (23, L, st) σ = ev 115 (24, L, .int 1 :: st) σ) ∧
  (∀ (L : ri_L) (σ : ri_S) (a0 : Int32), ev 115 (24, L, [.int a0]) σ = (cal 135 [.int a0] σ).bind fun q => ev 115 (27, L, q.1.toList ++ []) q.2) ∧
  (∀ (l1 l2 l3 : Option Value) (st : List Value) (σ : ri_S) (x : Nat), ev 115 (27, [some (.ref x), l1, l2, l3], st) σ = ev 115 (28, [some (.ref x), l1, l2, l3], .ref x :: st) σ) ∧
  (∀ (L : ri_L) (st : List Value) (σ : ri_S) (a : Nat), ev 115 (28, L, .ref a :: st) σ = tv_o 8 1 (σ.1 a) fun v => ev 115 (31, L, v :: st) σ) ∧
  (∀ (l0 l2 l3 : Option Value) (st : List Value) (σ : ri_S) (x : Int32), ev 115 (31, [l0, some (.int x), l2, l3], st) σ = ev 115 (32, [l0, some (.int x), l2, l3], .int x :: st) σ) ∧
  (∀ (l0 l1 l3 : Option Value) (st : List Value) (σ : ri_S) (x : Int32), ev 115 (32, [l0, l1, some (.int x), l3], st) σ = ev 115 (33, [l0, l1, some (.int x), l3], .int x :: st) σ) ∧
  (∀ (l0 l1 l2 : Option Value) (st : List Value) (σ : ri_S) (x : Int32), ev 115 (33, [l0, l1, l2, some (.int x)], st) σ = ev 115 (34, [l0, l1, l2, some (.int x)], .int x :: st) σ) ∧
  (∀ (L : ri_L) (σ : ri_S) (a0 : Nat) (a1 : Int32) (a2 : Int32) (a3 : Int32), ev 115 (34, L, [.int a3, .int a2, .int a1, .ref a0]) σ = tv_k 3 (σ.1 a0) ((cal 49 [.ref a0, .int a1, .int a2, .int a3] σ).bind fun q => ev 115 (37, L, q.1.toList ++ []) q.2)) ∧
  (∀ (L : ri_L) (σ : ri_S) (x : Int32), ev 115 (37, L, [.int x]) σ = some (some (.int x), σ)) :=
  ⟨fun l1 l2 l3 st σ x => ev_p ((TP_115 _).trans rfl) rfl,
   fun L st σ a => ev_getf ((TP_115 _).trans rfl),
   fun L st σ a => ev_getf ((TP_115 _).trans rfl),
   fun l0 l2 l3 st σ x => ev_p ((TP_115 _).trans rfl) rfl,
   fun l0 l1 l3 st σ x => ev_p ((TP_115 _).trans rfl) rfl,
   fun L σ a0 a1 a2 => ev_callv ((TP_115 _).trans rfl) rfl rfl rfl rfl,
   fun L st σ x => ev_b ((TP_115 _).trans rfl) rfl,
   fun l0 l1 l2 st σ x => ev_p ((TP_115 _).trans rfl) rfl,
   fun L st σ => ev_p ((TP_115 _).trans rfl) rfl,
   fun L σ a0 a1 => ev_call ((TP_115 _).trans rfl) rfl rfl rfl rfl,
   fun L st σ => ev_p ((TP_115 _).trans rfl) rfl,
   fun L st σ => ev_p ((TP_115 _).trans rfl) rfl,
   fun L σ a0 => ev_call ((TP_115 _).trans rfl) rfl rfl rfl rfl,
   fun l1 l2 l3 st σ x => ev_p ((TP_115 _).trans rfl) rfl,
   fun L st σ a => ev_getf ((TP_115 _).trans rfl),
   fun l0 l2 l3 st σ x => ev_p ((TP_115 _).trans rfl) rfl,
   fun l0 l1 l3 st σ x => ev_p ((TP_115 _).trans rfl) rfl,
   fun l0 l1 l2 st σ x => ev_p ((TP_115 _).trans rfl) rfl,
   fun L σ a0 a1 a2 a3 => ev_callv ((TP_115 _).trans rfl) rfl rfl rfl rfl,
   fun L σ x => ev_r ((TP_115 _).trans rfl) rfl⟩
theorem TP_116 (pc : Nat) : TT 116 pc = ri_find TL_116 pc := rfl
theorem E_116 (x0 : Nat) (x1 : Int32) (x2 : Int32) (σ : ri_S) : cal 116 [.ref x0, .int x1, .int x2] σ = ev 116 (0, [some (.ref x0), some (.int x1), some (.int x2)], []) σ := rfl
theorem I_116 :
  (∀ (l1 l2 : Option Value) (st : List Value) (σ : ri_S) (x : Nat), ev 116 (0, [some (.ref x), l1, l2], st) σ = ev 116 (1, [some (.ref x), l1, l2], .ref x :: st) σ) ∧
  (∀ (L : ri_L) (st : List Value) (σ : ri_S) (a : Nat), ev 116 (1, L, .ref a :: st) σ = tv_o 8 1 (σ.1 a) fun v => ev 116 (4, L, v :: st) σ) ∧
  (∀ (L : ri_L) (st : List Value) (σ : ri_S) (a : Nat), ev 116 (4, L, .ref a :: st) σ = tv_o 3 2 (σ.1 a) fun v => ev 116 (7, L, v :: st) σ) ∧
  (∀ (l0 l2 : Option Value) (st : List Value) (σ : ri_S) (x : Int32), ev 116 (7, [l0, some (.int x), l2], st) σ = ev 116 (8, [l0, some (.int x), l2], .int x :: st) σ) ∧
  (∀ (L : ri_L) (σ : ri_S) (a0 : Nat) (a1 : Int32), ev 116 (8, L, [.int a1, .ref a0]) σ = tv_k 0 (σ.1 a0) ((cal 1 [.ref a0, .int a1] σ).bind fun q => ev 116 (11, L, q.1.toList ++ []) q.2)) ∧
  (∀ (L : ri_L) (st : List Value) (σ : ri_S) (x : Int32), ev 116 (11, L, .int x :: st) σ = if x = 0 then ev 116 (22, L, st) σ else ev 116 (14, L, st) σ) ∧
  (∀ (l0 l1 : Option Value) (st : List Value) (σ : ri_S) (x : Int32), ev 116 (14, [l0, l1, some (.int x)], st) σ = ev 116 (15, [l0, l1, some (.int x)], .int x :: st) σ) ∧
  (∀ (L : ri_L) (st : List Value) (σ : ri_S), ev 116 (15, L, st) σ = ev 116 (16, L, .int 5 :: st) σ) ∧
  (∀ (L : ri_L) (σ : ri_S) (a0 : Int32) (a1 : Int32), ev 116 (16, L, [.int a1, .int a0]) σ = (cal 136 [.int a0, .int a1] σ).bind fun q => ev 116 (19, L, q.1.toList ++ []) q.2) ∧
  (∀ (L : ri_L) (st : List Value) (σ : ri_S), ev 116 (19, L, st) σ = ev 116 (23, L, st) σ) ∧
  (∀ (L : ri_L) (st : List Value) (σ : ri_S), ev 116 (22, L, st) σ = ev 116 (23, L, .int 1 :: st) σ) ∧
  (∀ (L : ri_L) (σ : ri_S) (a0 : Int32), ev 116 (23, L, [.int a0]) σ = (cal 135 [.int a0] σ).bind fun q => ev 116 (26, L, q.1.toList ++ []) q.2) ∧
  (∀ (l1 l2 : Option Value) (st : List Value) (σ : ri_S) (x : Nat), ev 116 (26, [some (.ref x), l1, l2], st) σ = ev 116 (27, [some (.ref x), l1, l2], .ref x :: st) σ) ∧
  (∀ (L : ri_L) (st : List Value) (σ : ri_S) (a : Nat), ev 116 (27, L, .ref a :: st) σ = tv_o 8 1 (σ.1 a) fun v => ev 116 (30, L, v :: st) σ) ∧
  (∀ (l0 l2 : Option Value) (st : List Value) (σ : ri_S) (x : Int32), ev 116 (30, [l0, some (.int x), l2], st) σ = ev 116 (31, [l0, some (.int x), l2], .int x :: st) σ) ∧
  (∀ (l0 l1 : Option Value) (st : List Value) (σ : ri_S) (x : Int32), ev 116 (31, [l0, l1, some (.int x)], st) σ = ev 116 (32, [l0, l1, some (.int x)], .int x :: st) σ) ∧
  (∀ (L : ri_L) (σ : ri_S) (a0 : Nat) (a1 : Int32) (a2 : Int32), ev 116 (32, L, [.int a2, .int a1, .ref a0]) σ = tv_k 3 (σ.1 a0) ((cal 50 [.ref a0, .int a1, .int a2] σ).bind fun q => ev 116 (35, L, q.1.toList ++ []) q.2)) ∧
  (∀ (L : ri_L) (σ : ri_S) (x : Int32), ev 116 (35, L, [.int x]) σ = some (some (.int x), σ)) :=
  ⟨fun l1 l2 st σ x => ev_p ((TP_116 _).trans rfl) rfl,
   fun L st σ a => ev_getf ((TP_116 _).trans rfl),
   fun L st σ a => ev_getf ((TP_116 _).trans rfl),
   fun l0 l2 st σ x => ev_p ((TP_116 _).trans rfl) rfl,
   fun L σ a0 a1 => ev_callv ((TP_116 _).trans rfl) rfl rfl rfl rfl,
   fun L st σ x => ev_b ((TP_116 _).trans rfl) rfl,
   fun l0 l1 st σ x => ev_p ((TP_116 _).trans rfl) rfl,
   fun L st σ => ev_p ((TP_116 _).trans rfl) rfl,
   fun L σ a0 a1 => ev_call ((TP_116 _).trans rfl) rfl rfl rfl rfl,
   fun L st σ => ev_p ((TP_116 _).trans rfl) rfl,
   fun L st σ => ev_p ((TP_116 _).trans rfl) rfl,
   fun L σ a0 => ev_call ((TP_116 _).trans rfl) rfl rfl rfl rfl,
   fun l1 l2 st σ x => ev_p ((TP_116 _).trans rfl) rfl,
   fun L st σ a => ev_getf ((TP_116 _).trans rfl),
   fun l0 l2 st σ x => ev_p ((TP_116 _).trans rfl) rfl,
   fun l0 l1 st σ x => ev_p ((TP_116 _).trans rfl) rfl,
   fun L σ a0 a1 a2 => ev_callv ((TP_116 _).trans rfl) rfl rfl rfl rfl,
   fun L σ x => ev_r ((TP_116 _).trans rfl) rfl⟩
theorem TP_117 (pc : Nat) : TT 117 pc = ri_find TL_117 pc := rfl
theorem E_117 (x0 : Nat) (x1 : Int32) (x2 : Int32) (σ : ri_S) : cal 117 [.ref x0, .int x1, .int x2] σ = ev 117 (0, [some (.ref x0), some (.int x1), some (.int x2)], []) σ := rfl
theorem I_117 :
  (∀ (l1 l2 : Option Value) (st : List Value) (σ : ri_S) (x : Nat), ev 117 (0, [some (.ref x), l1, l2], st) σ = ev 117 (1, [some (.ref x), l1, l2], .ref x :: st) σ) ∧
  (∀ (L : ri_L) (st : List Value) (σ : ri_S) (a : Nat), ev 117 (1, L, .ref a :: st) σ = tv_o 8 1 (σ.1 a) fun v => ev 117 (4, L, v :: st) σ) ∧
  (∀ (L : ri_L) (st : List Value) (σ : ri_S) (a : Nat), ev 117 (4, L, .ref a :: st) σ = tv_o 3 1 (σ.1 a) fun v => ev 117 (7, L, v :: st) σ) ∧
  (∀ (l0 l2 : Option Value) (st : List Value) (σ : ri_S) (x : Int32), ev 117 (7, [l0, some (.int x), l2], st) σ = ev 117 (8, [l0, some (.int x), l2], .int x :: st) σ) ∧
  (∀ (L : ri_L) (σ : ri_S) (a0 : Nat) (a1 : Int32), ev 117 (8, L, [.int a1, .ref a0]) σ = tv_k 2 (σ.1 a0) ((cal 14 [.ref a0, .int a1] σ).bind fun q => ev 117 (11, L, q.1.toList ++ []) q.2)) ∧
  (∀ (L : ri_L) (st : List Value) (σ : ri_S) (x : Int32), ev 117 (11, L, .int x :: st) σ = if x = 0 then ev 117 (22, L, st) σ else ev 117 (14, L, st) σ) ∧
  (∀ (l0 l1 : Option Value) (st : List Value) (σ : ri_S) (x : Int32), ev 117 (14, [l0, l1, some (.int x)], st) σ = ev 117 (15, [l0, l1, some (.int x)], .int x :: st) σ) ∧
  (∀ (L : ri_L) (st : List Value) (σ : ri_S), ev 117 (15, L, st) σ = ev 117 (16, L, .int 3 :: st) σ) ∧
  (∀ (L : ri_L) (σ : ri_S) (a0 : Int32) (a1 : Int32), ev 117 (16, L, [.int a1, .int a0]) σ = (cal 136 [.int a0, .int a1] σ).bind fun q => ev 117 (19, L, q.1.toList ++ []) q.2) ∧
  (∀ (L : ri_L) (st : List Value) (σ : ri_S), ev 117 (19, L, st) σ = ev 117 (23, L, st) σ) ∧
  (∀ (L : ri_L) (st : List Value) (σ : ri_S), ev 117 (22, L, st) σ = ev 117 (23, L, .int 1 :: st) σ) ∧
  (∀ (L : ri_L) (σ : ri_S) (a0 : Int32), ev 117 (23, L, [.int a0]) σ = (cal 135 [.int a0] σ).bind fun q => ev 117 (26, L, q.1.toList ++ []) q.2) ∧
  (∀ (l1 l2 : Option Value) (st : List Value) (σ : ri_S) (x : Nat), ev 117 (26, [some (.ref x), l1, l2], st) σ = ev 117 (27, [some (.ref x), l1, l2], .ref x :: st) σ) ∧
  (∀ (L : ri_L) (st : List Value) (σ : ri_S) (a : Nat), ev 117 (27, L, .ref a :: st) σ = tv_o 8 1 (σ.1 a) fun v => ev 117 (30, L, v :: st) σ) ∧
  (∀ (L : ri_L) (st : List Value) (σ : ri_S) (a : Nat), ev 117 (30, L, .ref a :: st) σ = tv_o 3 1 (σ.1 a) fun v => ev 117 (33, L, v :: st) σ) ∧
  (∀ (l0 l2 : Option Value) (st : List Value) (σ : ri_S) (x : Int32), ev 117 (33, [l0, some (.int x), l2], st) σ = ev 117 (34, [l0, some (.int x), l2], .int x :: st) σ) ∧
  (∀ (l0 l1 : Option Value) (st : List Value) (σ : ri_S) (x : Int32), ev 117 (34, [l0, l1, some (.int x)], st) σ = ev 117 (35, [l0, l1, some (.int x)], .int x :: st) σ) ∧
  (∀ (L : ri_L) (σ : ri_S) (a0 : Nat) (a1 : Int32) (a2 : Int32), ev 117 (35, L, [.int a2, .int a1, .ref a0]) σ = tv_k 2 (σ.1 a0) ((cal 18 [.ref a0, .int a1, .int a2] σ).bind fun q => ev 117 (38, L, q.1.toList ++ []) q.2)) ∧
  (∀ (L : ri_L) (σ : ri_S) (x : Int32), ev 117 (38, L, [.int x]) σ = some (some (.int x), σ)) :=
  ⟨fun l1 l2 st σ x => ev_p ((TP_117 _).trans rfl) rfl,
   fun L st σ a => ev_getf ((TP_117 _).trans rfl),
   fun L st σ a => ev_getf ((TP_117 _).trans rfl),
   fun l0 l2 st σ x => ev_p ((TP_117 _).trans rfl) rfl,
   fun L σ a0 a1 => ev_callv ((TP_117 _).trans rfl) rfl rfl rfl rfl,
   fun L st σ x => ev_b ((TP_117 _).trans rfl) rfl,
   fun l0 l1 st σ x => ev_p ((TP_117 _).trans rfl) rfl,
   fun L st σ => ev_p ((TP_117 _).trans rfl) rfl,
   fun L σ a0 a1 => ev_call ((TP_117 _).trans rfl) rfl rfl rfl rfl,
   fun L st σ => ev_p ((TP_117 _).trans rfl) rfl,
   fun L st σ => ev_p ((TP_117 _).trans rfl) rfl,
   fun L σ a0 => ev_call ((TP_117 _).trans rfl) rfl rfl rfl rfl,
   fun l1 l2 st σ x => ev_p ((TP_117 _).trans rfl) rfl,
   fun L st σ a => ev_getf ((TP_117 _).trans rfl),
   fun L st σ a => ev_getf ((TP_117 _).trans rfl),
   fun l0 l2 st σ x => ev_p ((TP_117 _).trans rfl) rfl,
   fun l0 l1 st σ x => ev_p ((TP_117 _).trans rfl) rfl,
   fun L σ a0 a1 a2 => ev_callv ((TP_117 _).trans rfl) rfl rfl rfl rfl,
   fun L σ x => ev_r ((TP_117 _).trans rfl) rfl⟩
theorem TP_118 (pc : Nat) : TT 118 pc = ri_find TL_118 pc := rfl
theorem E_118 (x0 : Nat) (x1 : Int32) (x2 : Int32) (x3 : Int32) (σ : ri_S) : cal 118 [.ref x0, .int x1, .int x2, .int x3] σ = ev 118 (0, [some (.ref x0), some (.int x1), some (.int x2), some (.int x3)], []) σ := rfl
theorem I_118 :
  (∀ (l1 l2 l3 : Option Value) (st : List Value) (σ : ri_S) (x : Nat), ev 118 (0, [some (.ref x), l1, l2, l3], st) σ = ev 118 (1, [some (.ref x), l1, l2, l3], .ref x :: st) σ) ∧
  (∀ (L : ri_L) (st : List Value) (σ : ri_S) (a : Nat), ev 118 (1, L, .ref a :: st) σ = tv_o 8 1 (σ.1 a) fun v => ev 118 (4, L, v :: st) σ) ∧
  (∀ (l0 l2 l3 : Option Value) (st : List Value) (σ : ri_S) (x : Int32), ev 118 (4, [l0, some (.int x), l2, l3], st) σ = ev 118 (5, [l0, some (.int x), l2, l3], .int x :: st) σ) ∧
  (∀ (l0 l1 l3 : Option Value) (st : List Value) (σ : ri_S) (x : Int32), ev 118 (5, [l0, l1, some (.int x), l3], st) σ = ev 118 (6, [l0, l1, some (.int x), l3], .int x :: st) σ) ∧
  (∀ (l0 l1 l2 : Option Value) (st : List Value) (σ : ri_S) (x : Int32), ev 118 (6, [l0, l1, l2, some (.int x)], st) σ = ev 118 (7, [l0, l1, l2, some (.int x)], .int x :: st) σ) ∧
  (∀ (L : ri_L) (σ : ri_S) (a0 : Nat) (a1 : Int32) (a2 : Int32) (a3 : Int32), ev 118 (7, L, [.int a3, .int a2, .int a1, .ref a0]) σ = tv_k 3 (σ.1 a0) ((cal 23 [.ref a0, .int a1, .int a2, .int a3] σ).bind fun q => ev 118 (10, L, q.1.toList ++ []) q.2)) ∧
  (∀ (L : ri_L) (σ : ri_S) (a0 : Int32), ev 118 (10, L, [.int a0]) σ = (cal 135 [.int a0] σ).bind fun q => ev 118 (13, L, q.1.toList ++ []) q.2) ∧
  (∀ (l1 l2 l3 : Option Value) (st : List Value) (σ : ri_S) (x : Nat), ev 118 (13, [some (.ref x), l1, l2, l3], st) σ = ev 118 (14, [some (.ref x), l1, l2, l3], .ref x :: st) σ) ∧
  (∀ (L : ri_L) (st : List Value) (σ : ri_S) (a : Nat), ev 118 (14, L, .ref a :: st) σ = tv_o 8 3 (σ.1 a) fun v => ev 118 (17, L, v :: st) σ) ∧
  (∀ (l1 l2 l3 : Option Value) (st : List Value) (σ : ri_S) (x : Nat), ev 118 (17, [some (.ref x), l1, l2, l3], st) σ = ev 118 (18, [some (.ref x), l1, l2, l3], .ref x :: st) σ) ∧
  (∀ (L : ri_L) (st : List Value) (σ : ri_S) (a : Nat), ev 118 (18, L, .ref a :: st) σ = tv_o 8 1 (σ.1 a) fun v => ev 118 (21, L, v :: st) σ) ∧
  (∀ (L : ri_L) (σ : ri_S) (a0 : Nat) (a1 : Nat), ev 118 (21, L, [.ref a1, .ref a0]) σ = tv_k 1 (σ.1 a0) ((cal 11 [.ref a0, .ref a1] σ).bind fun q => ev 118 (24, L, q.1.toList ++ []) q.2)) ∧
  (∀ (l1 l2 l3 : Option Value) (st : List Value) (σ : ri_S) (x : Nat), ev 118 (24, [some (.ref x), l1, l2, l3], st) σ = ev 118 (25, [some (.ref x), l1, l2, l3], .ref x :: st) σ) ∧
  (∀ (L : ri_L) (st : List Value) (σ : ri_S) (a : Nat), ev 118 (25, L, .ref a :: st) σ = tv_o 8 1 (σ.1 a) fun v => ev 118 (28, L, v :: st) σ) ∧
  (∀ (L : ri_L) (st : List Value) (σ : ri_S) (a : Nat), ev 118 (28, L, .ref a :: st) σ = tv_o 3 0 (σ.1 a) fun v => ev 118 (31, L, v :: st) σ) ∧
  (∀ (l0 l2 l3 : Option Value) (st : List Value) (σ : ri_S) (x : Int32), ev 118 (31, [l0, some (.int x), l2, l3], st) σ = ev 118 (32, [l0, some (.int x), l2, l3], .int x :: st) σ) ∧
  (∀ (l0 l1 l3 : Option Value) (st : List Value) (σ : ri_S) (x : Int32), ev 118 (32, [l0, l1, some (.int x), l3], st) σ = ev 118 (33, [l0, l1, some (.int x), l3], .int x :: st) σ) ∧
  (∀ (l0 l1 l2 : Option Value) (st : List Value) (σ : ri_S) (x : Int32), ev 118 (33, [l0, l1, l2, some (.int x)], st) σ = ev 118 (34, [l0, l1, l2, some (.int x)], .int x :: st) σ) ∧
  (∀ (L : ri_L) (σ : ri_S) (a0 : Nat) (a1 : Int32) (a2 : Int32) (a3 : Int32), ev 118 (34, L, [.int a3, .int a2, .int a1, .ref a0]) σ = tv_k 7 (σ.1 a0) ((cal 99 [.ref a0, .int a1, .int a2, .int a3] σ).bind fun q => ev 118 (37, L, q.1.toList ++ []) q.2)) ∧
  (∀ (L : ri_L) (σ : ri_S) (x : Int32), ev 118 (37, L, [.int x]) σ = some (some (.int x), σ)) :=
  ⟨fun l1 l2 l3 st σ x => ev_p ((TP_118 _).trans rfl) rfl,
   fun L st σ a => ev_getf ((TP_118 _).trans rfl),
   fun l0 l2 l3 st σ x => ev_p ((TP_118 _).trans rfl) rfl,
   fun l0 l1 l3 st σ x => ev_p ((TP_118 _).trans rfl) rfl,
   fun l0 l1 l2 st σ x => ev_p ((TP_118 _).trans rfl) rfl,
   fun L σ a0 a1 a2 a3 => ev_callv ((TP_118 _).trans rfl) rfl rfl rfl rfl,
   fun L σ a0 => ev_call ((TP_118 _).trans rfl) rfl rfl rfl rfl,
   fun l1 l2 l3 st σ x => ev_p ((TP_118 _).trans rfl) rfl,
   fun L st σ a => ev_getf ((TP_118 _).trans rfl),
   fun l1 l2 l3 st σ x => ev_p ((TP_118 _).trans rfl) rfl,
   fun L st σ a => ev_getf ((TP_118 _).trans rfl),
   fun L σ a0 a1 => ev_callv ((TP_118 _).trans rfl) rfl rfl rfl rfl,
   fun l1 l2 l3 st σ x => ev_p ((TP_118 _).trans rfl) rfl,
   fun L st σ a => ev_getf ((TP_118 _).trans rfl),
   fun L st σ a => ev_getf ((TP_118 _).trans rfl),
   fun l0 l2 l3 st σ x => ev_p ((TP_118 _).trans rfl) rfl,
   fun l0 l1 l3 st σ x => ev_p ((TP_118 _).trans rfl) rfl,
   fun l0 l1 l2 st σ x => ev_p ((TP_118 _).trans rfl) rfl,
   fun L σ a0 a1 a2 a3 => ev_callv ((TP_118 _).trans rfl) rfl rfl rfl rfl,
   fun L σ x => ev_r ((TP_118 _).trans rfl) rfl⟩
theorem TP_119 (pc : Nat) : TT 119 pc = ri_find TL_119 pc := rfl
theorem E_119 (x0 : Nat) (x1 : Int32) (x2 : Int32) (x3 : Int32) (x4 : Int32) (σ : ri_S) : cal 119 [.ref x0, .int x1, .int x2, .int x3, .int x4] σ = ev 119 (0, [some (.ref x0), some (.int x1), some (.int x2), some (.int x3), some (.int x4)], []) σ := rfl
theorem I_119 :
  (∀ (l1 l2 l3 l4 : Option Value) (st : List Value) (σ : ri_S) (x : Nat), ev 119 (0, [some (.ref x), l1, l2, l3, l4], st) σ = ev 119 (1, [some (.ref x), l1, l2, l3, l4], .ref x :: st) σ) ∧
  (∀ (L : ri_L) (st : List Value) (σ : ri_S) (a : Nat), ev 119 (1, L, .ref a :: st) σ = tv_o 8 1 (σ.1 a) fun v => ev 119 (4, L, v :: st) σ) ∧
  (∀ (l0 l2 l3 l4 : Option Value) (st : List Value) (σ : ri_S) (x : Int32), ev 119 (4, [l0, some (.int x), l2, l3, l4], st) σ = ev 119 (5, [l0, some (.int x), l2, l3, l4], .int x :: st) σ) ∧
  (∀ (l0 l1 l3 l4 : Option Value) (st : List Value) (σ : ri_S) (x : Int32), ev 119 (5, [l0, l1, some (.int x), l3, l4], st) σ = ev 119 (6, [l0, l1, some (.int x), l3, l4], .int x :: st) σ) ∧
  (∀ (l0 l1 l2 l4 : Option Value) (st : List Value) (σ : ri_S) (x : Int32), ev 119 (6, [l0, l1, l2, some (.int x), l4], st) σ = ev 119 (7, [l0, l1, l2, some (.int x), l4], .int x :: st) σ) ∧
  (∀ (l0 l1 l2 l3 : Option Value) (st : List Value) (σ : ri_S) (x : Int32), ev 119 (7, [l0, l1, l2, l3, some (.int x)], st) σ = ev 119 (9, [l0, l1, l2, l3, some (.int x)], .int x :: st) σ) ∧
  (∀ (L : ri_L) (σ : ri_S) (a0 : Nat) (a1 : Int32) (a2 : Int32) (a3 : Int32) (a4 : Int32), ev 119 (9, L, [.int a4, .int a3, .int a2, .int a1, .ref a0]) σ = tv_k 3 (σ.1 a0) ((cal 24 [.ref a0, .int a1, .int a2, .int a3, .int a4] σ).bind fun q => ev 119 (12, L, q.1.toList ++ []) q.2)) ∧
  (∀ (L : ri_L) (σ : ri_S) (a0 : Int32), ev 119 (12, L, [.int a0]) σ = (cal 135 [.int a0] σ).bind fun q => ev 119 (15, L, q.1.toList ++ []) q.2) ∧
  (∀ (l1 l2 l3 l4 : Option Value) (st : List Value) (σ : ri_S) (x : Nat), ev 119 (15, [some (.ref x), l1, l2, l3, l4], st) σ = ev 119 (16, [some (.ref x), l1, l2, l3, l4], .ref x :: st) σ) ∧
  (∀ (L : ri_L) (st : List Value) (σ : ri_S) (a : Nat), ev 119 (16, L, .ref a :: st) σ = tv_o 8 3 (σ.1 a) fun v => ev 119 (19, L, v :: st) σ) ∧
  (∀ (l1 l2 l3 l4 : Option Value) (st : List Value) (σ : ri_S) (x : Nat), ev 119 (19, [some (.ref x), l1, l2, l3, l4], st) σ = ev 119 (20, [some (.ref x), l1, l2, l3, l4], .ref x :: st) σ) ∧
  (∀ (L : ri_L) (st : List Value) (σ : ri_S) (a : Nat), ev 119 (20, L, .ref a :: st) σ = tv_o 8 1 (σ.1 a) fun v => ev 119 (23, L, v :: st) σ) ∧
  (∀ (L : ri_L) (σ : ri_S) (a0 : Nat) (a1 : Nat), ev 119 (23, L, [.ref a1, .ref a0]) σ = tv_k 1 (σ.1 a0) ((cal 11 [.ref a0, .ref a1] σ).bind fun q => ev 119 (26, L, q.1.toList ++ []) q.2)) ∧
  (∀ (l1 l2 l3 l4 : Option Value) (st : List Value) (σ : ri_S) (x : Nat), ev 119 (26, [some (.ref x), l1, l2, l3, l4], st) σ = ev 119 (27, [some (.ref x), l1, l2, l3, l4], .ref x :: st) σ) ∧
  (∀ (L : ri_L) (st : List Value) (σ : ri_S) (a : Nat), ev 119 (27, L, .ref a :: st) σ = tv_o 8 1 (σ.1 a) fun v => ev 119 (30, L, v :: st) σ) ∧
  (∀ (L : ri_L) (st : List Value) (σ : ri_S) (a : Nat), ev 119 (30, L, .ref a :: st) σ = tv_o 3 1 (σ.1 a) fun v => ev 119 (33, L, v :: st) σ) ∧
  (∀ (l0 l2 l3 l4 : Option Value) (st : List Value) (σ : ri_S) (x : Int32), ev 119 (33, [l0, some (.int x), l2, l3, l4], st) σ = ev 119 (34, [l0, some (.int x), l2, l3, l4], .int x :: st) σ) ∧
  (∀ (l0 l1 l3 l4 : Option Value) (st : List Value) (σ : ri_S) (x : Int32), ev 119 (34, [l0, l1, some (.int x), l3, l4], st) σ = ev 119 (35, [l0, l1, some (.int x), l3, l4], .int x :: st) σ) ∧
  (∀ (L : ri_L) (σ : ri_S) (a0 : Int32) (a1 : Int32) (s0 : Value), ev 119 (35, L, [.int a1, .int a0, s0]) σ = (cal 138 [.int a0, .int a1] σ).bind fun q => ev 119 (38, L, q.1.toList ++ [s0]) q.2) ∧
  (∀ (l0 l1 l2 l4 : Option Value) (st : List Value) (σ : ri_S) (x : Int32), ev 119 (38, [l0, l1, l2, some (.int x), l4], st) σ = ev 119 (39, [l0, l1, l2, some (.int x), l4], .int x :: st) σ) ∧
  (∀ (l0 l1 l2 l3 : Option Value) (st : List Value) (σ : ri_S) (x : Int32), ev 119 (39, [l0, l1, l2, l3, some (.int x)], st) σ = ev 119 (41, [l0, l1, l2, l3, some (.int x)], .int x :: st) σ) ∧
  (∀ (L : ri_L) (σ : ri_S) (a0 : Int32) (a1 : Int32) (s0 s1 : Value), ev 119 (41, L, [.int a1, .int a0, s0, s1]) σ = (cal 138 [.int a0, .int a1] σ).bind fun q => ev 119 (44, L, q.1.toList ++ [s0, s1]) q.2) ∧
  (∀ (L : ri_L) (σ : ri_S) (a0 : Nat) (a1 : Int32) (a2 : Int32), ev 119 (44, L, [.int a2, .int a1, .ref a0]) σ = tv_k 2 (σ.1 a0) ((cal 15 [.ref a0, .int a1, .int a2] σ).bind fun q => ev 119 (47, L, q.1.toList ++ []) q.2)) ∧
  (∀ (L : ri_L) (σ : ri_S) (x : Int32), ev 119 (47, L, [.int x]) σ = some (some (.int x), σ)) :=
  ⟨fun l1 l2 l3 l4 st σ x => ev_p ((TP_119 _).trans rfl) rfl,
   fun L st σ a => ev_getf ((TP_119 _).trans rfl),
   fun l0 l2 l3 l4 st σ x => ev_p ((TP_119 _).trans rfl) rfl,
   fun l0 l1 l3 l4 st σ x => ev_p ((TP_119 _).trans rfl) rfl,
   fun l0 l1 l2 l4 st σ x => ev_p ((TP_119 _).trans rfl) rfl,
   fun l0 l1 l2 l3 st σ x => ev_p ((TP_119 _).trans rfl) rfl,
   fun L σ a0 a1 a2 a3 a4 => ev_callv ((TP_119 _).trans rfl) rfl rfl rfl rfl,
   fun L σ a0 => ev_call ((TP_119 _).trans rfl) rfl rfl rfl rfl,
   fun l1 l2 l3 l4 st σ x => ev_p ((TP_119 _).trans rfl) rfl,
   fun L st σ a => ev_getf ((TP_119 _).trans rfl),
   fun l1 l2 l3 l4 st σ x => ev_p ((TP_119 _).trans rfl) rfl,
   fun L st σ a => ev_getf ((TP_119 _).trans rfl),
   fun L σ a0 a1 => ev_callv ((TP_119 _).trans rfl) rfl rfl rfl rfl,
   fun l1 l2 l3 l4 st σ x => ev_p ((TP_119 _).trans rfl) rfl,
   fun L st σ a => ev_getf ((TP_119 _).trans rfl),
   fun L st σ a => ev_getf ((TP_119 _).trans rfl),
   fun l0 l2 l3 l4 st σ x => ev_p ((TP_119 _).trans rfl) rfl,
   fun l0 l1 l3 l4 st σ x => ev_p ((TP_119 _).trans rfl) rfl,
   fun L σ a0 a1 s0 => ev_call ((TP_119 _).trans rfl) rfl rfl rfl rfl,
   fun l0 l1 l2 l4 st σ x => ev_p ((TP_119 _).trans rfl) rfl,
   fun l0 l1 l2 l3 st σ x => ev_p ((TP_119 _).trans rfl) rfl,
   fun L σ a0 a1 s0 s1 => ev_call ((TP_119 _).trans rfl) rfl rfl rfl rfl,
   fun L σ a0 a1 a2 => ev_callv ((TP_119 _).trans rfl) rfl rfl rfl rfl,
   fun L σ x => ev_r ((TP_119 _).trans rfl) rfl⟩
theorem TP_120 (pc : Nat) : TT 120 pc = ri_find TL_120 pc := rfl
theorem E_120 (x0 : Nat) (x1 : Int32) (x2 : Int32) (x3 : Int32) (σ : ri_S) : cal 120 [.ref x0, .int x1, .int x2, .int x3] σ = ev 120 (0, [some (.ref x0), some (.int x1), some (.int x2), some (.int x3)], []) σ := rfl
theorem I_120 :
  (∀ (l1 l2 l3 : Option Value) (st : List Value) (σ : ri_S) (x : Nat), ev 120 (0, [some (.ref x), l1, l2, l3], st) σ = ev 120 (1, [some (.ref x), l1, l2, l3], .ref x :: st) σ) ∧
  (∀ (L : ri_L) (st : List Value) (σ : ri_S) (a : Nat), ev 120 (1, L, .ref a :: st) σ = tv_o 8 1 (σ.1 a) fun v => ev 120 (4, L, v :: st) σ) ∧
  (∀ (l0 l2 l3 : Option Value) (st : List Value) (σ : ri_S) (x : Int32), ev 120 (4, [l0, some (.int x), l2, l3], st) σ = ev 120 (5, [l0, some (.int x), l2, l3], .int x :: st) σ) ∧
  (∀ (l0 l1 l3 : Option Value) (st : List Value) (σ : ri_S) (x : Int32), ev 120 (5, [l0, l1, some (.int x), l3], st) σ = ev 120 (6, [l0, l1, some (.int x), l3], .int x :: st) σ) ∧
  (∀ (l0 l1 l2 : Option Value) (st : List Value) (σ : ri_S) (x : Int32), ev 120 (6, [l0, l1, l2, some (.int x)], st) σ = ev 120 (7, [l0, l1, l2, some (.int x)], .int x :: st) σ) ∧
  (∀ (L : ri_L) (σ : ri_S) (a0 : Nat) (a1 : Int32) (a2 : Int32) (a3 : Int32), ev 120 (7, L, [.int a3, .int a2, .int a1, .ref a0]) σ = tv_k 3 (σ.1 a0) ((cal 25 [.ref a0, .int a1, .int a2, .int a3] σ).bind fun q => ev 120 (10, L, q.1.toList ++ []) q.2)) ∧
  (∀ (L : ri_L) (σ : ri_S) (a0 : Int32), ev 120 (10, L, [.int a0]) σ = (cal 135 [.int a0] σ).bind fun q => ev 120 (13, L, q.1.toList ++ []) q.2) ∧
  (∀ (l1 l2 l3 : Option Value) (st : List Value) (σ : ri_S) (x : Nat), ev 120 (13, [some (.ref x), l1, l2, l3], st) σ = ev 120 (14, [some (.ref x), l1, l2, l3], .ref x :: st) σ) ∧
  (∀ (L : ri_L) (st : List Value) (σ : ri_S) (a : Nat), ev 120 (14, L, .ref a :: st) σ = tv_o 8 3 (σ.1 a) fun v => ev 120 (17, L, v :: st) σ) ∧
  (∀ (l1 l2 l3 : Option Value) (st : List Value) (σ : ri_S) (x : Nat), ev 120 (17, [some (.ref x), l1, l2, l3], st) σ = ev 120 (18, [some (.ref x), l1, l2, l3], .ref x :: st) σ) ∧
  (∀ (L : ri_L) (st : List Value) (σ : ri_S) (a : Nat), ev 120 (18, L, .ref a :: st) σ = tv_o 8 1 (σ.1 a) fun v => ev 120 (21, L, v :: st) σ) ∧
  (∀ (L : ri_L) (σ : ri_S) (a0 : Nat) (a1 : Nat), ev 120 (21, L, [.ref a1, .ref a0]) σ = tv_k 1 (σ.1 a0) ((cal 11 [.ref a0, .ref a1] σ).bind fun q => ev 120 (24, L, q.1.toList ++ []) q.2)) ∧
  (∀ (l1 l2 l3 : Option Value) (st : List Value) (σ : ri_S) (x : Nat), ev 120 (24, [some (.ref x), l1, l2, l3], st) σ = ev 120 (25, [some (.ref x), l1, l2, l3], .ref x :: st) σ) ∧
  (∀ (L : ri_L) (st : List Value) (σ : ri_S) (a : Nat), ev 120 (25, L, .ref a :: st) σ = tv_o 8 1 (σ.1 a) fun v => ev 120 (28, L, v :: st) σ) ∧
  (∀ (L : ri_L) (st : List Value) (σ : ri_S) (a : Nat), ev 120 (28, L, .ref a :: st) σ = tv_o 3 2 (σ.1 a) fun v => ev 120 (31, L, v :: st) σ) ∧
  (∀ (l0 l2 l3 : Option Value) (st : List Value) (σ : ri_S) (x : Int32), ev 120 (31, [l0, some (.int x), l2, l3], st) σ = ev 120 (32, [l0, some (.int x), l2, l3], .int x :: st) σ) ∧
  (∀ (l1 l2 l3 : Option Value) (st : List Value) (σ : ri_S) (x : Nat), ev 120 (32, [some (.ref x), l1, l2, l3], st) σ = ev 120 (33, [some (.ref x), l1, l2, l3], .ref x :: st) σ) ∧
  (∀ (L : ri_L) (st : List Value) (σ : ri_S) (a : Nat), ev 120 (33, L, .ref a :: st) σ = tv_o 8 1 (σ.1 a) fun v => ev 120 (36, L, v :: st) σ) ∧
  (∀ (L : ri_L) (st : List Value) (σ : ri_S) (a : Nat), ev 120 (36, L, .ref a :: st) σ = tv_o 3 0 (σ.1 a) fun v => ev 120 (39, L, v :: st) σ) ∧
  (∀ (l0 l2 l3 : Option Value) (st : List Value) (σ : ri_S) (x : Int32), ev 120 (39, [l0, some (.int x), l2, l3], st) σ = ev 120 (40, [l0, some (.int x), l2, l3], .int x :: st) σ) ∧
  (∀ (l0 l1 l3 : Option Value) (st : List Value) (σ : ri_S) (x : Int32), ev 120 (40, [l0, l1, some (.int x), l3], st) σ = ev 120 (41, [l0, l1, some (.int x), l3], .int x :: st) σ) ∧
  (∀ (L : ri_L) (σ : ri_S) (a0 : Nat) (a1 : Int32) (a2 : Int32) (s0 s1 : Value), ev 120 (41, L, [.int a2, .int a1, .ref a0, s0, s1]) σ = tv_k 7 (σ.1 a0) ((cal 100 [.ref a0, .int a1, .int a2] σ).bind fun q => ev 120 (44, L, q.1.toList ++ [s0, s1]) q.2)) ∧
  (∀ (l0 l1 l2 : Option Value) (st : List Value) (σ : ri_S) (x : Int32), ev 120 (44, [l0, l1, l2, some (.int x)], st) σ = ev 120 (45, [l0, l1, l2, some (.int x)], .int x :: st) σ) ∧
  (∀ (L : ri_L) (σ : ri_S) (a0 : Nat) (a1 : Int32) (a2 : Int32) (a3 : Int32), ev 120 (45, L, [.int a3, .int a2, .int a1, .ref a0]) σ = tv_k 0 (σ.1 a0) ((cal 2 [.ref a0, .int a1, .int a2, .int a3] σ).bind fun q => ev 120 (48, L, q.1.toList ++ []) q.2)) ∧
  (∀ (L : ri_L) (σ : ri_S) (x : Int32), ev 120 (48, L, [.int x]) σ = some (some (.int x), σ)) :=
  ⟨fun l1 l2 l3 st σ x => ev_p ((TP_120 _).trans rfl) rfl,
   fun L st σ a => ev_getf ((TP_120 _).trans rfl),
   fun l0 l2 l3 st σ x => ev_p ((TP_120 _).trans rfl) rfl,
   fun l0 l1 l3 st σ x => ev_p ((TP_120 _).trans rfl) rfl,
   fun l0 l1 l2 st σ x => ev_p ((TP_120 _).trans rfl) rfl,
   fun L σ a0 a1 a2 a3 => ev_callv ((TP_120 _).trans rfl) rfl rfl rfl rfl,
   fun L σ a0 => ev_call ((TP_120 _).trans rfl) rfl rfl rfl rfl,
   fun l1 l2 l3 st σ x => ev_p ((TP_120 _).trans rfl) rfl,
   fun L st σ a => ev_getf ((TP_120 _).trans rfl),
   fun l1 l2 l3 st σ x => ev_p ((TP_120 _).trans rfl) rfl,
   fun L st σ a => ev_getf ((TP_120 _).trans rfl),
   fun L σ a0 a1 => ev_callv ((TP_120 _).trans rfl) rfl rfl rfl rfl,
   fun l1 l2 l3 st σ x => ev_p ((TP_120 _).trans rfl) rfl,
   fun L st σ a => ev_getf ((TP_120 _).trans rfl),
   fun L st σ a => ev_getf ((TP_120 _).trans rfl),
   fun l0 l2 l3 st σ x => ev_p ((TP_120 _).trans rfl) rfl,
   fun l1 l2 l3 st σ x => ev_p ((TP_120 _).trans rfl) rfl,
   fun L st σ a => ev_getf ((TP_120 _).trans rfl),
   fun L st σ a => ev_getf ((TP_120 _).trans rfl),
   fun l0 l2 l3 st σ x => ev_p ((TP_120 _).trans rfl) rfl,
   fun l0 l1 l3 st σ x => ev_p ((TP_120 _).trans rfl) rfl,
   fun L σ a0 a1 a2 s0 s1 => ev_callv ((TP_120 _).trans rfl) rfl rfl rfl rfl,
   fun l0 l1 l2 st σ x => ev_p ((TP_120 _).trans rfl) rfl,
   fun L σ a0 a1 a2 a3 => ev_callv ((TP_120 _).trans rfl) rfl rfl rfl rfl,
   fun L σ x => ev_r ((TP_120 _).trans rfl) rfl⟩
theorem TP_121 (pc : Nat) : TT 121 pc = ri_find TL_121 pc := rfl
theorem E_121 (x0 : Nat) (x1 : Int32) (x2 : Int32) (x3 : Int32) (σ : ri_S) : cal 121 [.ref x0, .int x1, .int x2, .int x3] σ = ev 121 (0, [some (.ref x0), some (.int x1), some (.int x2), some (.int x3)], []) σ := rfl
theorem I_121 :
  (∀ (l1 l2 l3 : Option Value) (st : List Value) (σ : ri_S) (x : Nat), ev 121 (0, [some (.ref x), l1, l2, l3], st) σ = ev 121 (1, [some (.ref x), l1, l2, l3], .ref x :: st) σ) ∧
  (∀ (L : ri_L) (st : List Value) (σ : ri_S) (a : Nat), ev 121 (1, L, .ref a :: st) σ = tv_o 8 1 (σ.1 a) fun v => ev 121 (4, L, v :: st) σ) ∧
  (∀ (l0 l2 l3 : Option Value) (st : List Value) (σ : ri_S) (x : Int32), ev 121 (4, [l0, some (.int x), l2, l3], st) σ = ev 121 (5, [l0, some (.int x), l2, l3], .int x :: st) σ) ∧
  (∀ (l0 l1 l3 : Option Value) (st : List Value) (σ : ri_S) (x : Int32), ev 121 (5, [l0, l1, some (.int x), l3], st) σ = ev 121 (6, [l0, l1, some (.int x), l3], .int x :: st) σ) ∧
  (∀ (l0 l1 l2 : Option Value) (st : List Value) (σ : ri_S) (x : Int32), ev 121 (6, [l0, l1, l2, some (.int x)], st) σ = ev 121 (7, [l0, l1, l2, some (.int x)], .int x :: st) σ) ∧
  (∀ (L : ri_L) (σ : ri_S) (a0 : Nat) (a1 : Int32) (a2 : Int32) (a3 : Int32), ev 121 (7, L, [.int a3, .int a2, .int a1, .ref a0]) σ = tv_k 3 (σ.1 a0) ((cal 26 [.ref a0, .int a1, .int a2, .int a3] σ).bind fun q => ev 121 (10, L, q.1.toList ++ []) q.2)) ∧
  (∀ (L : ri_L) (σ : ri_S) (a0 : Int32), ev 121 (10, L, [.int a0]) σ = (cal 135 [.int a0] σ).bind fun q => ev 121 (13, L, q.1.toList ++ []) q.2) ∧
  (∀ (l1 l2 l3 : Option Value) (st : List Value) (σ : ri_S) (x : Nat), ev 121 (13, [some (.ref x), l1, l2, l3], st) σ = ev 121 (14, [some (.ref x), l1, l2, l3], .ref x :: st) σ) ∧
  (∀ (L : ri_L) (st : List Value) (σ : ri_S) (a : Nat), ev 121 (14, L, .ref a :: st) σ = tv_o 8 3 (σ.1 a) fun v => ev 121 (17, L, v :: st) σ) ∧
  (∀ (l1 l2 l3 : Option Value) (st : List Value) (σ : ri_S) (x : Nat), ev 121 (17, [some (.ref x), l1, l2, l3], st) σ = ev 121 (18, [some (.ref x), l1, l2, l3], .ref x :: st) σ) ∧
  (∀ (L : ri_L) (st : List Value) (σ : ri_S) (a : Nat), ev 121 (18, L, .ref a :: st) σ = tv_o 8 1 (σ.1 a) fun v => ev 121 (21, L, v :: st) σ) ∧
  (∀ (L : ri_L) (σ : ri_S) (a0 : Nat) (a1 : Nat), ev 121 (21, L, [.ref a1, .ref a0]) σ = tv_k 1 (σ.1 a0) ((cal 11 [.ref a0, .ref a1] σ).bind fun q => ev 121 (24, L, q.1.toList ++ []) q.2)) ∧
  (∀ (l1 l2 l3 : Option Value) (st : List Value) (σ : ri_S) (x : Nat), ev 121 (24, [some (.ref x), l1, l2, l3], st) σ = ev 121 (25, [some (.ref x), l1, l2, l3], .ref x :: st) σ) ∧
  (∀ (L : ri_L) (st : List Value) (σ : ri_S) (a : Nat), ev 121 (25, L, .ref a :: st) σ = tv_o 8 1 (σ.1 a) fun v => ev 121 (28, L, v :: st) σ) ∧
  (∀ (l0 l2 l3 : Option Value) (st : List Value) (σ : ri_S) (x : Int32), ev 121 (28, [l0, some (.int x), l2, l3], st) σ = ev 121 (29, [l0, some (.int x), l2, l3], .int x :: st) σ) ∧
  (∀ (l1 l2 l3 : Option Value) (st : List Value) (σ : ri_S) (x : Nat), ev 121 (29, [some (.ref x), l1, l2, l3], st) σ = ev 121 (30, [some (.ref x), l1, l2, l3], .ref x :: st) σ) ∧
  (∀ (L : ri_L) (st : List Value) (σ : ri_S) (a : Nat), ev 121 (30, L, .ref a :: st) σ = tv_o 8 1 (σ.1 a) fun v => ev 121 (33, L, v :: st) σ) ∧
  (∀ (L : ri_L) (st : List Value) (σ : ri_S) (a : Nat), ev 121 (33, L, .ref a :: st) σ = tv_o 3 0 (σ.1 a) fun v => ev 121 (36, L, v :: st) σ) ∧
  (∀ (l0 l2 l3 : Option Value) (st : List Value) (σ : ri_S) (x : Int32), ev 121 (36, [l0, some (.int x), l2, l3], st) σ = ev 121 (37, [l0, some (.int x), l2, l3], .int x :: st) σ) ∧
  (∀ (l0 l1 l3 : Option Value) (st : List Value) (σ : ri_S) (x : Int32), ev 121 (37, [l0, l1, some (.int x), l3], st) σ = ev 121 (38, [l0, l1, some (.int x), l3], .int x :: st) σ) ∧
  (∀ (L : ri_L) (σ : ri_S) (a0 : Nat) (a1 : Int32) (a2 : Int32) (s0 s1 : Value), ev 121 (38, L, [.int a2, .int a1, .ref a0, s0, s1]) σ = tv_k 7 (σ.1 a0) ((cal 100 [.ref a0, .int a1, .int a2] σ).bind fun q => ev 121 (41, L, q.1.toList ++ [s0, s1]) q.2)) ∧
  (∀ (l0 l1 l2 : Option Value) (st : List Value) (σ : ri_S) (x : Int32), ev 121 (41, [l0, l1, l2, some (.int x)], st) σ = ev 121 (42, [l0, l1, l2, some (.int x)], .int x :: st) σ) ∧
  (∀ (L : ri_L) (σ : ri_S) (a0 : Nat) (a1 : Int32) (a2 : Int32) (a3 : Int32), ev 121 (42, L, [.int a3, .int a2, .int a1, .ref a0]) σ = tv_k 3 (σ.1 a0) ((cal 35 [.ref a0, .int a1, .int a2, .int a3] σ).bind fun q => ev 121 (45, L, q.1.toList ++ []) q.2)) ∧
  (∀ (L : ri_L) (σ : ri_S) (x : Int32), ev 121 (45, L, [.int x]) σ = some (some (.int x), σ)) :=
  ⟨fun l1 l2 l3 st σ x => ev_p ((TP_121 _).trans rfl) rfl,
   fun L st σ a => ev_getf ((TP_121 _).trans rfl),
   fun l0 l2 l3 st σ x => ev_p ((TP_121 _).trans rfl) rfl,
   fun l0 l1 l3 st σ x => ev_p ((TP_121 _).trans rfl) rfl,
   fun l0 l1 l2 st σ x => ev_p ((TP_121 _).trans rfl) rfl,
   fun L σ a0 a1 a2 a3 => ev_callv ((TP_121 _).trans rfl) rfl rfl rfl rfl,
   fun L σ a0 => ev_call ((TP_121 _).trans rfl) rfl rfl rfl rfl,
   fun l1 l2 l3 st σ x => ev_p ((TP_121 _).trans rfl) rfl,
   fun L st σ a => ev_getf ((TP_121 _).trans rfl),
   fun l1 l2 l3 st σ x => ev_p ((TP_121 _).trans rfl) rfl,
   fun L st σ a => ev_getf ((TP_121 _).trans rfl),
   fun L σ a0 a1 => ev_callv ((TP_121 _).trans rfl) rfl rfl rfl rfl,
   fun l1 l2 l3 st σ x => ev_p ((TP_121 _).trans rfl) rfl,
   fun L st σ a => ev_getf ((TP_121 _).trans rfl),
   fun l0 l2 l3 st σ x => ev_p ((TP_121 _).trans rfl) rfl,
   fun l1 l2 l3 st σ x => ev_p ((TP_121 _).trans rfl) rfl,
   fun L st σ a => ev_getf ((TP_121 _).trans rfl),
   fun L st σ a => ev_getf ((TP_121 _).trans rfl),
   fun l0 l2 l3 st σ x => ev_p ((TP_121 _).trans rfl) rfl,
   fun l0 l1 l3 st σ x => ev_p ((TP_121 _).trans rfl) rfl,
   fun L σ a0 a1 a2 s0 s1 => ev_callv ((TP_121 _).trans rfl) rfl rfl rfl rfl,
   fun l0 l1 l2 st σ x => ev_p ((TP_121 _).trans rfl) rfl,
   fun L σ a0 a1 a2 a3 => ev_callv ((TP_121 _).trans rfl) rfl rfl rfl rfl,
   fun L σ x => ev_r ((TP_121 _).trans rfl) rfl⟩
theorem TP_122 (pc : Nat) : TT 122 pc = ri_find TL_122 pc := rfl
theorem E_122 (x0 : Nat) (x1 : Int32) (x2 : Int32) (σ : ri_S) : cal 122 [.ref x0, .int x1, .int x2] σ = ev 122 (0, [some (.ref x0), some (.int x1), some (.int x2)], []) σ := rfl
theorem I_122 :
  (∀ (l1 l2 : Option Value) (st : List Value) (σ : ri_S) (x : Nat), ev 122 (0, [some (.ref x), l1, l2], st) σ = ev 122 (1, [some (.ref x), l1, l2], .ref x :: st) σ) ∧
  (∀ (L : ri_L) (st : List Value) (σ : ri_S) (a : Nat), ev 122 (1, L, .ref a :: st) σ = tv_o 8 1 (σ.1 a) fun v => ev 122 (4, L, v :: st) σ) ∧
  (∀ (l0 l2 : Option Value) (st : List Value) (σ : ri_S) (x : Int32), ev 122 (4, [l0, some (.int x), l2], st) σ = ev 122 (5, [l0, some (.int x), l2], .int x :: st) σ) ∧
  (∀ (l0 l1 : Option Value) (st : List Value) (σ : ri_S) (x : Int32), ev 122 (5, [l0, l1, some (.int x)], st) σ = ev 122 (6, [l0, l1, some (.int x)], .int x :: st) σ) ∧
  (∀ (L : ri_L) (σ : ri_S) (a0 : Nat) (a1 : Int32) (a2 : Int32), ev 122 (6, L, [.int a2, .int a1, .ref a0]) σ = tv_k 3 (σ.1 a0) ((cal 27 [.ref a0, .int a1, .int a2] σ).bind fun q => ev 122 (9, L, q.1.toList ++ []) q.2)) ∧
  (∀ (L : ri_L) (σ : ri_S) (a0 : Int32), ev 122 (9, L, [.int a0]) σ = (cal 135 [.int a0] σ).bind fun q => ev 122 (12, L, q.1.toList ++ []) q.2) ∧
  (∀ (l1 l2 : Option Value) (st : List Value) (σ : ri_S) (x : Nat), ev 122 (12, [some (.ref x), l1, l2], st) σ = ev 122 (13, [some (.ref x), l1, l2], .ref x :: st) σ) ∧
  (∀ (L : ri_L) (st : List Value) (σ : ri_S) (a : Nat), ev 122 (13, L, .ref a :: st) σ = tv_o 8 3 (σ.1 a) fun v => ev 122 (16, L, v :: st) σ) ∧
  (∀ (l1 l2 : Option Value) (st : List Value) (σ : ri_S) (x : Nat), ev 122 (16, [some (.ref x), l1, l2], st) σ = ev 122 (17, [some (.ref x), l1, l2], .ref x :: st) σ) ∧
  (∀ (L : ri_L) (st : List Value) (σ : ri_S) (a : Nat), ev 122 (17, L, .ref a :: st) σ = tv_o 8 1 (σ.1 a) fun v => ev 122 (20, L, v :: st) σ) ∧
  (∀ (L : ri_L) (σ : ri_S) (a0 : Nat) (a1 : Nat), ev 122 (20, L, [.ref a1, .ref a0]) σ = tv_k 1 (σ.1 a0) ((cal 11 [.ref a0, .ref a1] σ).bind fun q => ev 122 (23, L, q.1.toList ++ []) q.2)) ∧
  (∀ (l1 l2 : Option Value) (st : List Value) (σ : ri_S) (x : Nat), ev 122 (23, [some (.ref x), l1, l2], st) σ = ev 122 (24, [some (.ref x), l1, l2], .ref x :: st) σ) ∧
  (∀ (L : ri_L) (st : List Value) (σ : ri_S) (a : Nat), ev 122 (24, L, .ref a :: st) σ = tv_o 8 1 (σ.1 a) fun v => ev 122 (27, L, v :: st) σ) ∧
  (∀ (l0 l2 : Option Value) (st : List Value) (σ : ri_S) (x : Int32), ev 122 (27, [l0, some (.int x), l2], st) σ = ev 122 (28, [l0, some (.int x), l2], .int x :: st) σ) ∧
  (∀ (l0 l1 : Option Value) (st : List Value) (σ : ri_S) (x : Int32), ev 122 (28, [l0, l1, some (.int x)], st) σ = ev 122 (29, [l0, l1, some (.int x)], .int x :: st) σ) ∧
  (∀ (L : ri_L) (σ : ri_S) (a0 : Nat) (a1 : Int32) (a2 : Int32), ev 122 (29, L, [.int a2, .int a1, .ref a0]) σ = tv_k 3 (σ.1 a0) ((cal 41 [.ref a0, .int a1, .int a2] σ).bind fun q => ev 122 (32, L, q.1.toList ++ []) q.2)) ∧
  (∀ (L : ri_L) (σ : ri_S) (x : Int32), ev 122 (32, L, [.int x]) σ = some (some (.int x), σ)) :=
  ⟨fun l1 l2 st σ x => ev_p ((TP_122 _).trans rfl) rfl,
   fun L st σ a => ev_getf ((TP_122 _).trans rfl),
   fun l0 l2 st σ x => ev_p ((TP_122 _).trans rfl) rfl,
   fun l0 l1 st σ x => ev_p ((TP_122 _).trans rfl) rfl,
   fun L σ a0 a1 a2 => ev_callv ((TP_122 _).trans rfl) rfl rfl rfl rfl,
   fun L σ a0 => ev_call ((TP_122 _).trans rfl) rfl rfl rfl rfl,
   fun l1 l2 st σ x => ev_p ((TP_122 _).trans rfl) rfl,
   fun L st σ a => ev_getf ((TP_122 _).trans rfl),
   fun l1 l2 st σ x => ev_p ((TP_122 _).trans rfl) rfl,
   fun L st σ a => ev_getf ((TP_122 _).trans rfl),
   fun L σ a0 a1 => ev_callv ((TP_122 _).trans rfl) rfl rfl rfl rfl,
   fun l1 l2 st σ x => ev_p ((TP_122 _).trans rfl) rfl,
   fun L st σ a => ev_getf ((TP_122 _).trans rfl),
   fun l0 l2 st σ x => ev_p ((TP_122 _).trans rfl) rfl,
   fun l0 l1 st σ x => ev_p ((TP_122 _).trans rfl) rfl,
   fun L σ a0 a1 a2 => ev_callv ((TP_122 _).trans rfl) rfl rfl rfl rfl,
   fun L σ x => ev_r ((TP_122 _).trans rfl) rfl⟩
theorem TP_123 (pc : Nat) : TT 123 pc = ri_find TL_123 pc := rfl
theorem E_123 (x0 : Nat) (x1 : Int32) (x2 : Int32) (σ : ri_S) : cal 123 [.ref x0, .int x1, .int x2] σ = ev 123 (0, [some (.ref x0), some (.int x1), some (.int x2)], []) σ := rfl
theorem I_123 :
  (∀ (l1 l2 : Option Value) (st : List Value) (σ : ri_S) (x : Nat), ev 123 (0, [some (.ref x), l1, l2], st) σ = ev 123 (1, [some (.ref x), l1, l2], .ref x :: st) σ) ∧
  (∀ (L : ri_L) (st : List Value) (σ : ri_S) (a : Nat), ev 123 (1, L, .ref a :: st) σ = tv_o 8 1 (σ.1 a) fun v => ev 123 (4, L, v :: st) σ) ∧
  (∀ (l0 l2 : Option Value) (st : List Value) (σ : ri_S) (x : Int32), ev 123 (4, [l0, some (.int x), l2], st) σ = ev 123 (5, [l0, some (.int x), l2], .int x :: st) σ) ∧
  (∀ (l0 l1 : Option Value) (st : List Value) (σ : ri_S) (x : Int32), ev 123 (5, [l0, l1, some (.int x)], st) σ = ev 123 (6, [l0, l1, some (.int x)], .int x :: st) σ) ∧
  (∀ (L : ri_L) (σ : ri_S) (a0 : Nat) (a1 : Int32) (a2 : Int32), ev 123 (6, L, [.int a2, .int a1, .ref a0]) σ = tv_k 3 (σ.1 a0) ((cal 28 [.ref a0, .int a1, .int a2] σ).bind fun q => ev 123 (9, L, q.1.toList ++ []) q.2)) ∧
  (∀ (L : ri_L) (σ : ri_S) (a0 : Int32), ev 123 (9, L, [.int a0]) σ = (cal 135 [.int a0] σ).bind fun q => ev 123 (12, L, q.1.toList ++ []) q.2) ∧
  (∀ (l1 l2 : Option Value) (st : List Value) (σ : ri_S) (x : Nat), ev 123 (12, [some (.ref x), l1, l2], st) σ = ev 123 (13, [some (.ref x), l1, l2], .ref x :: st) σ) ∧
  (∀ (L : ri_L) (st : List Value) (σ : ri_S) (a : Nat), ev 123 (13, L, .ref a :: st) σ = tv_o 8 3 (σ.1 a) fun v => ev 123 (16, L, v :: st) σ) ∧
  (∀ (l1 l2 : Option Value) (st : List Value) (σ : ri_S) (x : Nat), ev 123 (16, [some (.ref x), l1, l2], st) σ = ev 123 (17, [some (.ref x), l1, l2], .ref x :: st) σ) ∧
  (∀ (L : ri_L) (st : List Value) (σ : ri_S) (a : Nat), ev 123 (17, L, .ref a :: st) σ = tv_o 8 1 (σ.1 a) fun v => ev 123 (20, L, v :: st) σ) ∧
  (∀ (L : ri_L) (σ : ri_S) (a0 : Nat) (a1 : Nat), ev 123 (20, L, [.ref a1, .ref a0]) σ = tv_k 1 (σ.1 a0) ((cal 11 [.ref a0, .ref a1] σ).bind fun q => ev 123 (23, L, q.1.toList ++ []) q.2)) ∧
  (∀ (l1 l2 : Option Value) (st : List Value) (σ : ri_S) (x : Nat), ev 123 (23, [some (.ref x), l1, l2], st) σ = ev 123 (24, [some (.ref x), l1, l2], .ref x :: st) σ) ∧
  (∀ (L : ri_L) (st : List Value) (σ : ri_S) (a : Nat), ev 123 (24, L, .ref a :: st) σ = tv_o 8 1 (σ.1 a) fun v => ev 123 (27, L, v :: st) σ) ∧
  (∀ (l0 l2 : Option Value) (st : List Value) (σ : ri_S) (x : Int32), ev 123 (27, [l0, some (.int x), l2], st) σ = ev 123 (28, [l0, some (.int x), l2], .int x :: st) σ) ∧
  (∀ (l0 l1 : Option Value) (st : List Value) (σ : ri_S) (x : Int32), ev 123 (28, [l0, l1, some (.int x)], st) σ = ev 123 (29, [l0, l1, some (.int x)], .int x :: st) σ) ∧
  (∀ (L : ri_L) (σ : ri_S) (a0 : Nat) (a1 : Int32) (a2 : Int32), ev 123 (29, L, [.int a2, .int a1, .ref a0]) σ = tv_k 3 (σ.1 a0) ((cal 42 [.ref a0, .int a1, .int a2] σ).bind fun q => ev 123 (32, L, q.1.toList ++ []) q.2)) ∧
  (∀ (L : ri_L) (σ : ri_S) (x : Int32), ev 123 (32, L, [.int x]) σ = some (some (.int x), σ)) :=
  ⟨fun l1 l2 st σ x => ev_p ((TP_123 _).trans rfl) rfl,
   fun L st σ a => ev_getf ((TP_123 _).trans rfl),
   fun l0 l2 st σ x => ev_p ((TP_123 _).trans rfl) rfl,
   fun l0 l1 st σ x => ev_p ((TP_123 _).trans rfl) rfl,
   fun L σ a0 a1 a2 => ev_callv ((TP_123 _).trans rfl) rfl rfl rfl rfl,
   fun L σ a0 => ev_call ((TP_123 _).trans rfl) rfl rfl rfl rfl,
   fun l1 l2 st σ x => ev_p ((TP_123 _).trans rfl) rfl,
   fun L st σ a => ev_getf ((TP_123 _).trans rfl),
   fun l1 l2 st σ x => ev_p ((TP_123 _).trans rfl) rfl,
   fun L st σ a => ev_getf ((TP_123 _).trans rfl),
   fun L σ a0 a1 => ev_callv ((TP_123 _).trans rfl) rfl rfl rfl rfl,
   fun l1 l2 st σ x => ev_p ((TP_123 _).trans rfl) rfl,
   fun L st σ a => ev_getf ((TP_123 _).trans rfl),
   fun l0 l2 st σ x => ev_p ((TP_123 _).trans rfl) rfl,
   fun l0 l1 st σ x => ev_p ((TP_123 _).trans rfl) rfl,
   fun L σ a0 a1 a2 => ev_callv ((TP_123 _).trans rfl) rfl rfl rfl rfl,
   fun L σ x => ev_r ((TP_123 _).trans rfl) rfl⟩
theorem TP_124 (pc : Nat) : TT 124 pc = ri_find TL_124 pc := rfl
theorem E_124 (x0 : Nat) (x1 : Int32) (x2 : Int32) (σ : ri_S) : cal 124 [.ref x0, .int x1, .int x2] σ = ev 124 (0, [some (.ref x0), some (.int x1), some (.int x2)], []) σ := rfl
theorem I_124 :
  (∀ (l1 l2 : Option Value) (st : List Value) (σ : ri_S) (x : Nat), ev 124 (0, [some (.ref x), l1, l2], st) σ = ev 124 (1, [some (.ref x), l1, l2], .ref x :: st) σ) ∧
  (∀ (L : ri_L) (st : List Value) (σ : ri_S) (a : Nat), ev 124 (1, L, .ref a :: st) σ = tv_o 8 1 (σ.1 a) fun v => ev 124 (4, L, v :: st) σ) ∧
  (∀ (l0 l2 : Option Value) (st : List Value) (σ : ri_S) (x : Int32), ev 124 (4, [l0, some (.int x), l2], st) σ = ev 124 (5, [l0, some (.int x), l2], .int x :: st) σ) ∧
  (∀ (l0 l1 : Option Value) (st : List Value) (σ : ri_S) (x : Int32), ev 124 (5, [l0, l1, some (.int x)], st) σ = ev 124 (6, [l0, l1, some (.int x)], .int x :: st) σ) ∧
  (∀ (L : ri_L) (σ : ri_S) (a0 : Nat) (a1 : Int32) (a2 : Int32), ev 124 (6, L, [.int a2, .int a1, .ref a0]) σ = tv_k 3 (σ.1 a0) ((cal 29 [.ref a0, .int a1, .int a2] σ).bind fun q => ev 124 (9, L, q.1.toList ++ []) q.2)) ∧
  (∀ (L : ri_L) (σ : ri_S) (a0 : Int32), ev 124 (9, L, [.int a0]) σ = (cal 135 [.int a0] σ).bind fun q => ev 124 (12, L, q.1.toList ++ []) q.2) ∧
  (∀ (l1 l2 : Option Value) (st : List Value) (σ : ri_S) (x : Nat), ev 124 (12, [some (.ref x), l1, l2], st) σ = ev 124 (13, [some (.ref x), l1, l2], .ref x :: st) σ) ∧
  (∀ (L : ri_L) (st : List Value) (σ : ri_S) (a : Nat), ev 124 (13, L, .ref a :: st) σ = tv_o 8 3 (σ.1 a) fun v => ev 124 (16, L, v :: st) σ) ∧
  (∀ (l1 l2 : Option Value) (st : List Value) (σ : ri_S) (x : Nat), ev 124 (16, [some (.ref x), l1, l2], st) σ = ev 124 (17, [some (.ref x), l1, l2], .ref x :: st) σ) ∧
  (∀ (L : ri_L) (st : List Value) (σ : ri_S) (a : Nat), ev 124 (17, L, .ref a :: st) σ = tv_o 8 1 (σ.1 a) fun v => ev 124 (20, L, v :: st) σ) ∧
  (∀ (L : ri_L) (σ : ri_S) (a0 : Nat) (a1 : Nat), ev 124 (20, L, [.ref a1, .ref a0]) σ = tv_k 1 (σ.1 a0) ((cal 11 [.ref a0, .ref a1] σ).bind fun q => ev 124 (23, L, q.1.toList ++ []) q.2)) ∧
  (∀ (l1 l2 : Option Value) (st : List Value) (σ : ri_S) (x : Nat), ev 124 (23, [some (.ref x), l1, l2], st) σ = ev 124 (24, [some (.ref x), l1, l2], .ref x :: st) σ) ∧
  (∀ (L : ri_L) (st : List Value) (σ : ri_S) (a : Nat), ev 124 (24, L, .ref a :: st) σ = tv_o 8 1 (σ.1 a) fun v => ev 124 (27, L, v :: st) σ) ∧
  (∀ (L : ri_L) (st : List Value) (σ : ri_S) (a : Nat), ev 124 (27, L, .ref a :: st) σ = tv_o 3 0 (σ.1 a) fun v => ev 124 (30, L, v :: st) σ) ∧
  (∀ (l0 l2 : Option Value) (st : List Value) (σ : ri_S) (x : Int32), ev 124 (30, [l0, some (.int x), l2], st) σ = ev 124 (31, [l0, some (.int x), l2], .int x :: st) σ) ∧
  (∀ (l0 l1 : Option Value) (st : List Value) (σ : ri_S) (x : Int32), ev 124 (31, [l0, l1, some (.int x)], st) σ = ev 124 (32, [l0, l1, some (.int x)], .int x :: st) σ) ∧
  (∀ (L : ri_L) (σ : ri_S) (a0 : Nat) (a1 : Int32) (a2 : Int32), ev 124 (32, L, [.int a2, .int a1, .ref a0]) σ = tv_k 7 (σ.1 a0) ((cal 102 [.ref a0, .int a1, .int a2] σ).bind fun q => ev 124 (35, L, q.1.toList ++ []) q.2)) ∧
  (∀ (L : ri_L) (σ : ri_S) (x : Int32), ev 124 (35, L, [.int x]) σ = some (some (.int x), σ)) :=
  ⟨fun l1 l2 st σ x => ev_p ((TP_124 _).trans rfl) rfl,
   fun L st σ a => ev_getf ((TP_124 _).trans rfl),
   fun l0 l2 st σ x => ev_p ((TP_124 _).trans rfl) rfl,
   fun l0 l1 st σ x => ev_p ((TP_124 _).trans rfl) rfl,
   fun L σ a0 a1 a2 => ev_callv ((TP_124 _).trans rfl) rfl rfl rfl rfl,
   fun L σ a0 => ev_call ((TP_124 _).trans rfl) rfl rfl rfl rfl,
   fun l1 l2 st σ x => ev_p ((TP_124 _).trans rfl) rfl,
   fun L st σ a => ev_getf ((TP_124 _).trans rfl),
   fun l1 l2 st σ x => ev_p ((TP_124 _).trans rfl) rfl,
   fun L st σ a => ev_getf ((TP_124 _).trans rfl),
   fun L σ a0 a1 => ev_callv ((TP_124 _).trans rfl) rfl rfl rfl rfl,
   fun l1 l2 st σ x => ev_p ((TP_124 _).trans rfl) rfl,
   fun L st σ a => ev_getf ((TP_124 _).trans rfl),
   fun L st σ a => ev_getf ((TP_124 _).trans rfl),
   fun l0 l2 st σ x => ev_p ((TP_124 _).trans rfl) rfl,
   fun l0 l1 st σ x => ev_p ((TP_124 _).trans rfl) rfl,
   fun L σ a0 a1 a2 => ev_callv ((TP_124 _).trans rfl) rfl rfl rfl rfl,
   fun L σ x => ev_r ((TP_124 _).trans rfl) rfl⟩
theorem TP_125 (pc : Nat) : TT 125 pc = ri_find TL_125 pc := rfl
theorem E_125 (x0 : Nat) (x1 : Int32) (σ : ri_S) : cal 125 [.ref x0, .int x1] σ = ev 125 (0, [some (.ref x0), some (.int x1), none], []) σ := rfl
theorem I_125 :
  (∀ (l0 l2 : Option Value) (st : List Value) (σ : ri_S) (x : Int32), ev 125 (0, [l0, some (.int x), l2], st) σ = ev 125 (1, [l0, some (.int x), l2], .int x :: st) σ) ∧
  (∀ (L : ri_L) (st : List Value) (σ : ri_S), ev 125 (1, L, st) σ = ev 125 (2, L, .int 0 :: st) σ) ∧
  (∀ (L : ri_L) (st : List Value) (σ : ri_S), ev 125 (2, L, st) σ = ev 125 (3, L, .int 1 :: st) σ) ∧
  (∀ (L : ri_L) (σ : ri_S) (a0 : Int32) (a1 : Int32) (a2 : Int32), ev 125 (3, L, [.int a2, .int a1, .int a0]) σ = (cal 137 [.int a0, .int a1, .int a2] σ).bind fun q => ev 125 (6, L, q.1.toList ++ []) q.2) ∧
  (∀ (L : ri_L) (st : List Value) (σ : ri_S) (x : Int32), ev 125 (6, L, .int x :: st) σ = if x = 0 then ev 125 (13, L, st) σ else ev 125 (9, L, st) σ) ∧
  (∀ (L : ri_L) (st : List Value) (σ : ri_S), ev 125 (9, L, st) σ = ev 125 (10, L, .int 0 :: st) σ) ∧
  (∀ (L : ri_L) (st : List Value) (σ : ri_S), ev 125 (10, L, st) σ = ev 125 (14, L, st) σ) ∧
  (∀ (L : ri_L) (st : List Value) (σ : ri_S), ev 125 (13, L, st) σ = ev 125 (14, L, .int 2 :: st) σ) ∧
  (∀ (L : ri_L) (σ : ri_S) (a0 : Int32), ev 125 (14, L, [.int a0]) σ = (cal 135 [.int a0] σ).bind fun q => ev 125 (17, L, q.1.toList ++ []) q.2) ∧
  (∀ (l1 l2 : Option Value) (st : List Value) (σ : ri_S) (x : Nat), ev 125 (17, [some (.ref x), l1, l2], st) σ = ev 125 (18, [some (.ref x), l1, l2], .ref x :: st) σ) ∧
  (∀ (L : ri_L) (st : List Value) (σ : ri_S) (a : Nat), ev 125 (18, L, .ref a :: st) σ = tv_o 8 3 (σ.1 a) fun v => ev 125 (21, L, v :: st) σ) ∧
  (∀ (l1 l2 : Option Value) (st : List Value) (σ : ri_S) (x : Nat), ev 125 (21, [some (.ref x), l1, l2], st) σ = ev 125 (22, [some (.ref x), l1, l2], .ref x :: st) σ) ∧
  (∀ (L : ri_L) (st : List Value) (σ : ri_S) (a : Nat), ev 125 (22, L, .ref a :: st) σ = tv_o 8 1 (σ.1 a) fun v => ev 125 (25, L, v :: st) σ) ∧
  (∀ (L : ri_L) (σ : ri_S) (a0 : Nat) (a1 : Nat), ev 125 (25, L, [.ref a1, .ref a0]) σ = tv_k 1 (σ.1 a0) ((cal 11 [.ref a0, .ref a1] σ).bind fun q => ev 125 (28, L, q.1.toList ++ []) q.2)) ∧
  (∀ (l1 l2 : Option Value) (st : List Value) (σ : ri_S) (x : Nat), ev 125 (28, [some (.ref x), l1, l2], st) σ = ev 125 (29, [some (.ref x), l1, l2], .ref x :: st) σ) ∧
  (∀ (L : ri_L) (st : List Value) (σ : ri_S) (a : Nat), ev 125 (29, L, .ref a :: st) σ = tv_o 8 1 (σ.1 a) fun v => ev 125 (32, L, v :: st) σ) ∧
  (∀ (L : ri_L) (st : List Value) (σ : ri_S) (a : Nat), ev 125 (32, L, .ref a :: st) σ = tv_o 3 8 (σ.1 a) fun v => ev 125 (35, L, v :: st) σ) ∧
  (∀ (l0 l1 l2 : Option Value) (st : List Value) (σ : ri_S) (x : Int32), ev 125 (35, [l0, l1, l2], .int x :: st) σ = ev 125 (36, [l0, ri_clr l1, some (.int x)], st) σ) ∧
  (∀ (l1 l2 : Option Value) (st : List Value) (σ : ri_S) (x : Nat), ev 125 (36, [some (.ref x), l1, l2], st) σ = ev 125 (37, [some (.ref x), l1, l2], .ref x :: st) σ) ∧
  (∀ (L : ri_L) (st : List Value) (σ : ri_S) (a : Nat), ev 125 (37, L, .ref a :: st) σ = tv_o 8 1 (σ.1 a) fun v => ev 125 (40, L, v :: st) σ) ∧
  (∀ (l0 l2 : Option Value) (st : List Value) (σ : ri_S) (x : Int32), ev 125 (40, [l0, some (.int x), l2], st) σ = ev 125 (41, [l0, some (.int x), l2], .int x :: st) σ) ∧
  (∀ (L : ri_L) (st : List Value) (σ : ri_S) (a : Nat) (x : Int32), ev 125 (41, L, .int x :: .ref a :: st) σ = tv_w 3 8 (σ.1 a) (.int x) fun fs => ev 125 (44, L, st) (ri_upd σ.1 a (.inr (.inr (3, fs))), σ.2)) ∧
  (∀ (l0 l1 : Option Value) (st : List Value) (σ : ri_S) (x : Int32), ev 125 (44, [l0, l1, some (.int x)], st) σ = ev 125 (45, [l0, l1, some (.int x)], .int x :: st) σ) ∧
  (∀ (L : ri_L) (σ : ri_S) (x : Int32), ev 125 (45, L, [.int x]) σ = some (some (.int x), σ)) :=
  ⟨fun l0 l2 st σ x => ev_p ((TP_125 _).trans rfl) rfl,
   fun L st σ => ev_p ((TP_125 _).trans rfl) rfl,
   fun L st σ => ev_p ((TP_125 _).trans rfl) rfl,
   fun L σ a0 a1 a2 => ev_call ((TP_125 _).trans rfl) rfl rfl rfl rfl,
   fun L st σ x => ev_b ((TP_125 _).trans rfl) rfl,
   fun L st σ => ev_p ((TP_125 _).trans rfl) rfl,
   fun L st σ => ev_p ((TP_125 _).trans rfl) rfl,
   fun L st σ => ev_p ((TP_125 _).trans rfl) rfl,
   fun L σ a0 => ev_call ((TP_125 _).trans rfl) rfl rfl rfl rfl,
   fun l1 l2 st σ x => ev_p ((TP_125 _).trans rfl) rfl,
   fun L st σ a => ev_getf ((TP_125 _).trans rfl),
   fun l1 l2 st σ x => ev_p ((TP_125 _).trans rfl) rfl,
   fun L st σ a => ev_getf ((TP_125 _).trans rfl),
   fun L σ a0 a1 => ev_callv ((TP_125 _).trans rfl) rfl rfl rfl rfl,
   fun l1 l2 st σ x => ev_p ((TP_125 _).trans rfl) rfl,
   fun L st σ a => ev_getf ((TP_125 _).trans rfl),
   fun L st σ a => ev_getf ((TP_125 _).trans rfl),
   fun l0 l1 l2 st σ x => ev_p ((TP_125 _).trans rfl) rfl,
   fun l1 l2 st σ x => ev_p ((TP_125 _).trans rfl) rfl,
   fun L st σ a => ev_getf ((TP_125 _).trans rfl),
   fun l0 l2 st σ x => ev_p ((TP_125 _).trans rfl) rfl,
   fun L st σ a x => ev_puti ((TP_125 _).trans rfl),
   fun l0 l1 st σ x => ev_p ((TP_125 _).trans rfl) rfl,
   fun L σ x => ev_r ((TP_125 _).trans rfl) rfl⟩
theorem TP_126 (pc : Nat) : TT 126 pc = ri_find TL_126 pc := rfl
theorem E_126 (x0 : Nat) (σ : ri_S) : cal 126 [.ref x0] σ = ev 126 (0, [some (.ref x0)], []) σ := rfl
theorem I_126 :
  (∀ (st : List Value) (σ : ri_S) (x : Nat), ev 126 (0, [some (.ref x)], st) σ = ev 126 (1, [some (.ref x)], .ref x :: st) σ) ∧
  (∀ (L : ri_L) (st : List Value) (σ : ri_S) (a : Nat), ev 126 (1, L, .ref a :: st) σ = tv_o 8 3 (σ.1 a) fun v => ev 126 (4, L, v :: st) σ) ∧
  (∀ (L : ri_L) (σ : ri_S) (a0 : Nat), ev 126 (4, L, [.ref a0]) σ = tv_k 1 (σ.1 a0) ((cal 8 [.ref a0] σ).bind fun q => ev 126 (7, L, q.1.toList ++ []) q.2)) ∧
  (∀ (L : ri_L) (st : List Value) (σ : ri_S) (x : Int32), ev 126 (7, L, .int x :: st) σ = if x = 0 then ev 126 (14, L, st) σ else ev 126 (10, L, st) σ) ∧
  (∀ (L : ri_L) (st : List Value) (σ : ri_S), ev 126 (10, L, st) σ = ev 126 (11, L, .int 3 :: st) σ) ∧
  (∀ (L : ri_L) (st : List Value) (σ : ri_S), ev 126 (11, L, st) σ = ev 126 (15, L, st) σ) ∧
  (∀ (L : ri_L) (st : List Value) (σ : ri_S), ev 126 (14, L, st) σ = ev 126 (15, L, .int 0 :: st) σ) ∧
  (∀ (L : ri_L) (σ : ri_S) (a0 : Int32), ev 126 (15, L, [.int a0]) σ = (cal 135 [.int a0] σ).bind fun q => ev 126 (18, L, q.1.toList ++ []) q.2) ∧
  (∀ (st : List Value) (σ : ri_S) (x : Nat), ev 126 (18, [some (.ref x)], st) σ = ev 126 (19, [some (.ref x)], .ref x :: st) σ) ∧
  (∀ (L : ri_L) (st : List Value) (σ : ri_S) (a : Nat), ev 126 (19, L, .ref a :: st) σ = tv_o 8 3 (σ.1 a) fun v => ev 126 (22, L, v :: st) σ) ∧
  (∀ (st : List Value) (σ : ri_S) (x : Nat), ev 126 (22, [some (.ref x)], st) σ = ev 126 (23, [some (.ref x)], .ref x :: st) σ) ∧
  (∀ (L : ri_L) (st : List Value) (σ : ri_S) (a : Nat), ev 126 (23, L, .ref a :: st) σ = tv_o 8 1 (σ.1 a) fun v => ev 126 (26, L, v :: st) σ) ∧
  (∀ (L : ri_L) (σ : ri_S) (a0 : Nat) (a1 : Nat), ev 126 (26, L, [.ref a1, .ref a0]) σ = tv_k 1 (σ.1 a0) ((cal 12 [.ref a0, .ref a1] σ).bind fun q => ev 126 (29, L, q.1.toList ++ []) q.2)) ∧
  (∀ (L : ri_L) (σ : ri_S) (x : Int32), ev 126 (29, L, [.int x]) σ = some (some (.int x), σ)) :=
  ⟨fun st σ x => ev_p ((TP_126 _).trans rfl) rfl,
   fun L st σ a => ev_getf ((TP_126 _).trans rfl),
   fun L σ a0 => ev_callv ((TP_126 _).trans rfl) rfl rfl rfl rfl,
   fun L st σ x => ev_b ((TP_126 _).trans rfl) rfl,
   fun L st σ => ev_p ((TP_126 _).trans rfl) rfl,
   fun L st σ => ev_p ((TP_126 _).trans rfl) rfl,
   fun L st σ => ev_p ((TP_126 _).trans rfl) rfl,
   fun L σ a0 => ev_call ((TP_126 _).trans rfl) rfl rfl rfl rfl,
   fun st σ x => ev_p ((TP_126 _).trans rfl) rfl,
   fun L st σ a => ev_getf ((TP_126 _).trans rfl),
   fun st σ x => ev_p ((TP_126 _).trans rfl) rfl,
   fun L st σ a => ev_getf ((TP_126 _).trans rfl),
   fun L σ a0 a1 => ev_callv ((TP_126 _).trans rfl) rfl rfl rfl rfl,
   fun L σ x => ev_r ((TP_126 _).trans rfl) rfl⟩
theorem TP_127 (pc : Nat) : TT 127 pc = ri_find TL_127 pc := rfl
theorem E_127 (x0 : Nat) (x1 : Int32) (x2 : Int32) (σ : ri_S) : cal 127 [.ref x0, .int x1, .int x2] σ = ev 127 (0, [some (.ref x0), some (.int x1), some (.int x2)], []) σ := rfl
theorem I_127 :
  (∀ (l1 l2 : Option Value) (st : List Value) (σ : ri_S) (x : Nat), ev 127 (0, [some (.ref x), l1, l2], st) σ = ev 127 (1, [some (.ref x), l1, l2], .ref x :: st) σ) ∧
  (∀ (L : ri_L) (st : List Value) (σ : ri_S) (a : Nat), ev 127 (1, L, .ref a :: st) σ = tv_o 8 1 (σ.1 a) fun v => ev 127 (4, L, v :: st) σ) ∧
  (∀ (l0 l2 : Option Value) (st : List Value) (σ : ri_S) (x : Int32), ev 127 (4, [l0, some (.int x), l2], st) σ = ev 127 (5, [l0, some (.int x), l2], .int x :: st) σ) ∧
  (∀ (l0 l1 : Option Value) (st : List Value) (σ : ri_S) (x : Int32), ev 127 (5, [l0, l1, some (.int x)], st) σ = ev 127 (6, [l0, l1, some (.int x)], .int x :: st) σ) ∧
  (∀ (L : ri_L) (σ : ri_S) (a0 : Nat) (a1 : Int32) (a2 : Int32), ev 127 (6, L, [.int a2, .int a1, .ref a0]) σ = tv_k 3 (σ.1 a0) ((cal 27 [.ref a0, .int a1, .int a2] σ).bind fun q => ev 127 (9, L, q.1.toList ++ []) q.2)) ∧
  (∀ (L : ri_L) (σ : ri_S) (a0 : Int32), ev 127 (9, L, [.int a0]) σ = (cal 135 [.int a0] σ).bind fun q => ev 127 (12, L, q.1.toList ++ []) q.2) ∧
  (∀ (l1 l2 : Option Value) (st : List Value) (σ : ri_S) (x : Nat), ev 127 (12, [some (.ref x), l1, l2], st) σ = ev 127 (13, [some (.ref x), l1, l2], .ref x :: st) σ) ∧
  (∀ (L : ri_L) (st : List Value) (σ : ri_S) (a : Nat), ev 127 (13, L, .ref a :: st) σ = tv_o 8 1 (σ.1 a) fun v => ev 127 (16, L, v :: st) σ) ∧
  (∀ (l0 l2 : Option Value) (st : List Value) (σ : ri_S) (x : Int32), ev 127 (16, [l0, some (.int x), l2], st) σ = ev 127 (17, [l0, some (.int x), l2], .int x :: st) σ) ∧
  (∀ (l0 l1 : Option Value) (st : List Value) (σ : ri_S) (x : Int32), ev 127 (17, [l0, l1, some (.int x)], st) σ = ev 127 (18, [l0, l1, some (.int x)], .int x :: st) σ) ∧
  (∀ (L : ri_L) (σ : ri_S) (a0 : Nat) (a1 : Int32) (a2 : Int32), ev 127 (18, L, [.int a2, .int a1, .ref a0]) σ = tv_k 3 (σ.1 a0) ((cal 40 [.ref a0, .int a1, .int a2] σ).bind fun q => ev 127 (21, L, q.1.toList ++ []) q.2)) ∧
  (∀ (L : ri_L) (σ : ri_S) (x : Int32), ev 127 (21, L, [.int x]) σ = some (some (.int x), σ)) :=
  ⟨fun l1 l2 st σ x => ev_p ((TP_127 _).trans rfl) rfl,
   fun L st σ a => ev_getf ((TP_127 _).trans rfl),
   fun l0 l2 st σ x => ev_p ((TP_127 _).trans rfl) rfl,
   fun l0 l1 st σ x => ev_p ((TP_127 _).trans rfl) rfl,
   fun L σ a0 a1 a2 => ev_callv ((TP_127 _).trans rfl) rfl rfl rfl rfl,
   fun L σ a0 => ev_call ((TP_127 _).trans rfl) rfl rfl rfl rfl,
   fun l1 l2 st σ x => ev_p ((TP_127 _).trans rfl) rfl,
   fun L st σ a => ev_getf ((TP_127 _).trans rfl),
   fun l0 l2 st σ x => ev_p ((TP_127 _).trans rfl) rfl,
   fun l0 l1 st σ x => ev_p ((TP_127 _).trans rfl) rfl,
   fun L σ a0 a1 a2 => ev_callv ((TP_127 _).trans rfl) rfl rfl rfl rfl,
   fun L σ x => ev_r ((TP_127 _).trans rfl) rfl⟩
theorem TP_128 (pc : Nat) : TT 128 pc = ri_find TL_128 pc := rfl
theorem E_128 (x0 : Nat) (x1 : Int32) (x2 : Int32) (x3 : Int32) (x4 : Int32) (σ : ri_S) : cal 128 [.ref x0, .int x1, .int x2, .int x3, .int x4] σ = ev 128 (0, [some (.ref x0), some (.int x1), some (.int x2), some (.int x3), some (.int x4)], []) σ := rfl
theorem I_128_0 :
  (∀ (l1 l2 l3 l4 : Option Value) (st : List Value) (σ : ri_S) (x : Nat), ev 128 (0, [some (.ref x), l1, l2, l3, l4], st) σ = ev 128 (1, [some (.ref x), l1, l2, l3, l4], .ref x :: st) σ) ∧
  (∀ (L : ri_L) (st : List Value) (σ : ri_S) (a : Nat), ev 128 (1, L, .ref a :: st) σ = tv_o 8 1 (σ.1 a) fun v => ev 128 (4, L, v :: st) σ) ∧
  (∀ (L : ri_L) (st : List Value) (σ : ri_S) (a : Nat), ev 128 (4, L, .ref a :: st) σ = tv_o 3 2 (σ.1 a) fun v => ev 128 (7, L, v :: st) σ) ∧
  (∀ (l0 l2 l3 l4 : Option Value) (st : List Value) (σ : ri_S) (x : Int32), ev 128 (7, [l0, some (.int x), l2, l3, l4], st) σ = ev 128 (8, [l0, some (.int x), l2, l3, l4], .int x :: st) σ) ∧
  (∀ (L : ri_L) (σ : ri_S) (a0 : Nat) (a1 : Int32), ev 128 (8, L, [.int a1, .ref a0]) σ = tv_k 0 (σ.1 a0) ((cal 1 [.ref a0, .int a1] σ).bind fun q => ev 128 (11, L, q.1.toList ++ []) q.2)) ∧
  (∀ (L : ri_L) (st : List Value) (σ : ri_S) (x : Int32), ev 128 (11, L, .int x :: st) σ = if x = 0 then ev 128 (38, L, st) σ else ev 128 (14, L, st) σ) ∧
  (∀ (l1 l2 l3 l4 : Option Value) (st : List Value) (σ : ri_S) (x : Nat), ev 128 (14, [some (.ref x), l1, l2, l3, l4], st) σ = ev 128 (15, [some (.ref x), l1, l2, l3, l4], .ref x :: st) σ) ∧
  (∀ (L : ri_L) (st : List Value) (σ : ri_S) (a : Nat), ev 128 (15, L, .ref a :: st) σ = tv_o 8 1 (σ.1 a) fun v => ev 128 (18, L, v :: st) σ) ∧
  (∀ (L : ri_L) (st : List Value) (σ : ri_S) (a : Nat), ev 128 (18, L, .ref a :: st) σ = tv_o 3 0 (σ.1 a) fun v => ev 128 (21, L, v :: st) σ) ∧
  (∀ (l0 l1 l3 l4 : Option Value) (st : List Value) (σ : ri_S) (x : Int32), ev 128 (21, [l0, l1, some (.int x), l3, l4], st) σ = ev 128 (22, [l0, l1, some (.int x), l3, l4], .int x :: st) σ) ∧
  (∀ (l0 l1 l2 l4 : Option Value) (st : List Value) (σ : ri_S) (x : Int32), ev 128 (22, [l0, l1, l2, some (.int x), l4], st) σ = ev 128 (23, [l0, l1, l2, some (.int x), l4], .int x :: st) σ) ∧
  (∀ (L : ri_L) (σ : ri_S) (a0 : Nat) (a1 : Int32) (a2 : Int32), ev 128 (23, L, [.int a2, .int a1, .ref a0]) σ = tv_k 7 (σ.1 a0) ((cal 98 [.ref a0, .int a1, .int a2] σ).bind fun q => ev 128 (26, L, q.1.toList ++ []) q.2)) ∧
  (∀ (L : ri_L) (st : List Value) (σ : ri_S) (x : Int32), ev 128 (26, L, .int x :: st) σ = if x = 0 then ev 128 (38, L, st) σ else ev 128 (29, L, st) σ) ∧
  (∀ (l0 l1 l2 l3 : Option Value) (st : List Value) (σ : ri_S) (x : Int32), ev 128 (29, [l0, l1, l2, l3, some (.int x)], st) σ = ev 128 (31, [l0, l1, l2, l3, some (.int x)], .int x :: st) σ) ∧
  (∀ (L : ri_L) (st : List Value) (σ : ri_S), ev 128 (31, L, st) σ = ev 128 (32, L, .int 1 :: st) σ) ∧
  (∀ (L : ri_L) (σ : ri_S) (a0 : Int32) (a1 : Int32), ev 128 (32, L, [.int a1, .int a0]) σ = (cal 136 [.int a0, .int a1] σ).bind fun q => ev 128 (35, L, q.1.toList ++ []) q.2) ∧
  (∀ (L : ri_L) (st : List Value) (σ : ri_S), ev 128 (35, L, st) σ = ev 128 (39, L, st) σ) ∧
  (∀ (L : ri_L) (st : List Value) (σ : ri_S), ev 128 (38, L, st) σ = ev 128 (39, L, .int 1 :: st) σ) ∧
  (∀ (L : ri_L) (σ : ri_S) (a0 : Int32), ev 128 (39, L, [.int a0]) σ = (cal 135 [.int a0] σ).bind fun q => ev 128 (42, L, q.1.toList ++ []) q.2) ∧
  (∀ (l1 l2 l3 l4 : Option Value) (st : List Value) (σ : ri_S) (x : Nat), ev 128 (42, [some (.ref x), l1, l2, l3, l4], st) σ = ev 128 (43, [some (.ref x), l1, l2, l3, l4], .ref x :: st) σ) ∧
  (∀ (L : ri_L) (st : List Value) (σ : ri_S) (a : Nat), ev 128 (43, L, .ref a :: st) σ = tv_o 8 5 (σ.1 a) fun v => ev 128 (46, L, v :: st) σ) ∧
  (∀ (l1 l2 l3 l4 : Option Value) (st : List Value) (σ : ri_S) (x : Nat), ev 128 (46, [some (.ref x), l1, l2, l3, l4], st) σ = ev 128 (47, [some (.ref x), l1, l2, l3, l4], .ref x :: st) σ) ∧
  (∀ (L : ri_L) (st : List Value) (σ : ri_S) (a : Nat), ev 128 (47, L, .ref a :: st) σ = tv_o 8 1 (σ.1 a) fun v => ev 128 (50, L, v :: st) σ) ∧
  (∀ (l0 l2 l3 l4 : Option Value) (st : List Value) (σ : ri_S) (x : Int32), ev 128 (50, [l0, some (.int x), l2, l3, l4], st) σ = ev 128 (51, [l0, some (.int x), l2, l3, l4], .int x :: st) σ) ∧
  (∀ (L : ri_L) (σ : ri_S) (a0 : Nat) (a1 : Nat) (a2 : Int32), ev 128 (51, L, [.int a2, .ref a1, .ref a0]) σ = tv_k 4 (σ.1 a0) ((cal 57 [.ref a0, .ref a1, .int a2] σ).bind fun q => ev 128 (54, L, q.1.toList ++ []) q.2)) ∧
  (∀ (l0 l1 l2 l3 : Option Value) (st : List Value) (σ : ri_S) (x : Int32), ev 128 (54, [l0, l1, l2, l3, some (.int x)], st) σ = ev 128 (56, [l0, l1, l2, l3, some (.int x)], .int x :: st) σ) ∧
  (∀ (L : ri_L) (st : List Value) (σ : ri_S) (x : Int32), ev 128 (56, L, .int x :: st) σ = if ¬ x = 0 then ev 128 (74, L, st) σ else ev 128 (59, L, st) σ) ∧
  (∀ (l1 l2 l3 l4 : Option Value) (st : List Value) (σ : ri_S) (x : Nat), ev 128 (59, [some (.ref x), l1, l2, l3, l4], st) σ = ev 128 (60, [some (.ref x), l1, l2, l3, l4], .ref x :: st) σ) ∧
  (∀ (L : ri_L) (st : List Value) (σ : ri_S) (a : Nat), ev 128 (60, L, .ref a :: st) σ = tv_o 8 5 (σ.1 a) fun v => ev 128 (63, L, v :: st) σ) ∧
  (∀ (l0 l1 l3 l4 : Option Value) (st : List Value) (σ : ri_S) (x : Int32), ev 128 (63, [l0, l1, some (.int x), l3, l4], st) σ = ev 128 (64, [l0, l1, some (.int x), l3, l4], .int x :: st) σ) ∧
  (∀ (l0 l1 l2 l4 : Option Value) (st : List Value) (σ : ri_S) (x : Int32), ev 128 (64, [l0, l1, l2, some (.int x), l4], st) σ = ev 128 (65, [l0, l1, l2, some (.int x), l4], .int x :: st) σ) ∧
  (∀ (L : ri_L) (σ : ri_S) (a0 : Int32) (a1 : Int32) (s0 : Value), ev 128 (65, L, [.int a1, .int a0, s0]) σ = (cal 138 [.int a0, .int a1] σ).bind fun q => ev 128 (68, L, q.1.toList ++ [s0]) q.2) ∧
  (∀ (L : ri_L) (σ : ri_S) (a0 : Nat) (a1 : Int32), ev 128 (68, L, [.int a1, .ref a0]) σ = tv_k 4 (σ.1 a0) ((cal 67 [.ref a0, .int a1] σ).bind fun q => ev 128 (71, L, q.1.toList ++ []) q.2)) ∧
  (∀ (L : ri_L) (st : List Value) (σ : ri_S), ev 128 (71, L, st) σ = ev 128 (86, L, st) σ) ∧
  (∀ (l1 l2 l3 l4 : Option Value) (st : List Value) (σ : ri_S) (x : Nat), ev 128 (74, [some (.ref x), l1, l2, l3, l4], st) σ = ev 128 (75, [some (.ref x), l1, l2, l3, l4], .ref x :: st) σ) ∧
  (∀ (L : ri_L) (st : List Value) (σ : ri_S) (a : Nat), ev 128 (75, L, .ref a :: st) σ = tv_o 8 5 (σ.1 a) fun v => ev 128 (78, L, v :: st) σ) ∧
  (∀ (l0 l1 l3 l4 : Option Value) (st : List Value) (σ : ri_S) (x : Int32), ev 128 (78, [l0, l1, some (.int x), l3, l4], st) σ = ev 128 (79, [l0, l1, some (.int x), l3, l4], .int x :: st) σ) ∧
  (∀ (l0 l1 l2 l4 : Option Value) (st : List Value) (σ : ri_S) (x : Int32), ev 128 (79, [l0, l1, l2, some (.int x), l4], st) σ = ev 128 (80, [l0, l1, l2, some (.int x), l4], .int x :: st) σ) ∧
  (∀ (L : ri_L) (σ : ri_S) (a0 : Int32) (a1 : Int32) (s0 : Value), ev 128 (80, L, [.int a1, .int a0, s0]) σ = (cal 138 [.int a0, .int a1] σ).bind fun q => ev 128 (83, L, q.1.toList ++ [s0]) q.2) ∧
  (∀ (L : ri_L) (σ : ri_S) (a0 : Nat) (a1 : Int32), ev 128 (83, L, [.int a1, .ref a0]) σ = tv_k 4 (σ.1 a0) ((cal 69 [.ref a0, .int a1] σ).bind fun q => ev 128 (86, L, q.1.toList ++ []) q.2)) :=
  ⟨fun l1 l2 l3 l4 st σ x => ev_p ((TP_128 _).trans rfl) rfl,
   fun L st σ a => ev_getf ((TP_128 _).trans rfl),
   fun L st σ a => ev_getf ((TP_128 _).trans rfl),
   fun l0 l2 l3 l4 st σ x => ev_p ((TP_128 _).trans rfl) rfl,
   fun L σ a0 a1 => ev_callv ((TP_128 _).trans rfl) rfl rfl rfl rfl,
   fun L st σ x => ev_b ((TP_128 _).trans rfl) rfl,
   fun l1 l2 l3 l4 st σ x => ev_p ((TP_128 _).trans rfl) rfl,
   fun L st σ a => ev_getf ((TP_128 _).trans rfl),
   fun L st σ a => ev_getf ((TP_128 _).trans rfl),
   fun l0 l1 l3 l4 st σ x => ev_p ((TP_128 _).trans rfl) rfl,
   fun l0 l1 l2 l4 st σ x => ev_p ((TP_128 _).trans rfl) rfl,
   fun L σ a0 a1 a2 => ev_callv ((TP_128 _).trans rfl) rfl rfl rfl rfl,
   fun L st σ x => ev_b ((TP_128 _).trans rfl) rfl,
   fun l0 l1 l2 l3 st σ x => ev_p ((TP_128 _).trans rfl) rfl,
   fun L st σ => ev_p ((TP_128 _).trans rfl) rfl,
   fun L σ a0 a1 => ev_call ((TP_128 _).trans rfl) rfl rfl rfl rfl,
   fun L st σ => ev_p ((TP_128 _).trans rfl) rfl,
   fun L st σ => ev_p ((TP_128 _).trans rfl) rfl,
   fun L σ a0 => ev_call ((TP_128 _).trans rfl) rfl rfl rfl rfl,
   fun l1 l2 l3 l4 st σ x => ev_p ((TP_128 _).trans rfl) rfl,
   fun L st σ a => ev_getf ((TP_128 _).trans rfl),
   fun l1 l2 l3 l4 st σ x => ev_p ((TP_128 _).trans rfl) rfl,
   fun L st σ a => ev_getf ((TP_128 _).trans rfl),
   fun l0 l2 l3 l4 st σ x => ev_p ((TP_128 _).trans rfl) rfl,
   fun L σ a0 a1 a2 => ev_callv ((TP_128 _).trans rfl) rfl rfl rfl rfl,
   fun l0 l1 l2 l3 st σ x => ev_p ((TP_128 _).trans rfl) rfl,
   fun L st σ x => ev_b ((TP_128 _).trans rfl) rfl,
   fun l1 l2 l3 l4 st σ x => ev_p ((TP_128 _).trans rfl) rfl,
   fun L st σ a => ev_getf ((TP_128 _).trans rfl),
   fun l0 l1 l3 l4 st σ x => ev_p ((TP_128 _).trans rfl) rfl,
   fun l0 l1 l2 l4 st σ x => ev_p ((TP_128 _).trans rfl) rfl,
   fun L σ a0 a1 s0 => ev_call ((TP_128 _).trans rfl) rfl rfl rfl rfl,
   fun L σ a0 a1 => ev_callv ((TP_128 _).trans rfl) rfl rfl rfl rfl,
   fun L st σ => ev_p ((TP_128 _).trans rfl) rfl,
   fun l1 l2 l3 l4 st σ x => ev_p ((TP_128 _).trans rfl) rfl,
   fun L st σ a => ev_getf ((TP_128 _).trans rfl),
   fun l0 l1 l3 l4 st σ x => ev_p ((TP_128 _).trans rfl) rfl,
   fun l0 l1 l2 l4 st σ x => ev_p ((TP_128 _).trans rfl) rfl,
   fun L σ a0 a1 s0 => ev_call ((TP_128 _).trans rfl) rfl rfl rfl rfl,
   fun L σ a0 a1 => ev_callv ((TP_128 _).trans rfl) rfl rfl rfl rfl⟩
theorem I_128_1 : ∀ (L : ri_L) (σ : ri_S) (x : Int32), ev 128 (86, L, [.int x]) σ = some (some (.int x), σ) := fun L σ x => ev_r ((TP_128 _).trans rfl) rfl
theorem TP_129 (pc : Nat) : TT 129 pc = ri_find TL_129 pc := rfl
theorem E_129 (x0 : Nat) (x1 : Int32) (x2 : Int32) (σ : ri_S) : cal 129 [.ref x0, .int x1, .int x2] σ = ev 129 (0, [some (.ref x0), some (.int x1), some (.int x2)], []) σ := rfl
theorem I_129 :
  (∀ (l1 l2 : Option Value) (st : List Value) (σ : ri_S) (x : Nat), ev 129 (0, [some (.ref x), l1, l2], st) σ = ev 129 (1, [some (.ref x), l1, l2], .ref x :: st) σ) ∧
  (∀ (L : ri_L) (st : List Value) (σ : ri_S) (a : Nat), ev 129 (1, L, .ref a :: st) σ = tv_o 8 1 (σ.1 a) fun v => ev 129 (4, L, v :: st) σ) ∧
  (∀ (L : ri_L) (st : List Value) (σ : ri_S) (a : Nat), ev 129 (4, L, .ref a :: st) σ = tv_o 3 2 (σ.1 a) fun v => ev 129 (7, L, v :: st) σ) ∧
  (∀ (l0 l2 : Option Value) (st : List Value) (σ : ri_S) (x : Int32), ev 129 (7, [l0, some (.int x), l2], st) σ = ev 129 (8, [l0, some (.int x), l2], .int x :: st) σ) ∧
  (∀ (L : ri_L) (σ : ri_S) (a0 : Nat) (a1 : Int32), ev 129 (8, L, [.int a1, .ref a0]) σ = tv_k 0 (σ.1 a0) ((cal 1 [.ref a0, .int a1] σ).bind fun q => ev 129 (11, L, q.1.toList ++ []) q.2)) ∧
  (∀ (L : ri_L) (st : List Value) (σ : ri_S) (x : Int32), ev 129 (11, L, .int x :: st) σ = if x = 0 then ev 129 (32, L, st) σ else ev 129 (14, L, st) σ) ∧
  (∀ (l1 l2 : Option Value) (st : List Value) (σ : ri_S) (x : Nat), ev 129 (14, [some (.ref x), l1, l2], st) σ = ev 129 (15, [some (.ref x), l1, l2], .ref x :: st) σ) ∧
  (∀ (L : ri_L) (st : List Value) (σ : ri_S) (a : Nat), ev 129 (15, L, .ref a :: st) σ = tv_o 8 1 (σ.1 a) fun v => ev 129 (18, L, v :: st) σ) ∧
  (∀ (L : ri_L) (st : List Value) (σ : ri_S) (a : Nat), ev 129 (18, L, .ref a :: st) σ = tv_o 3 0 (σ.1 a) fun v => ev 129 (21, L, v :: st) σ) ∧
  (∀ (l0 l1 : Option Value) (st : List Value) (σ : ri_S) (x : Int32), ev 129 (21, [l0, l1, some (.int x)], st) σ = ev 129 (22, [l0, l1, some (.int x)], .int x :: st) σ) ∧
  (∀ (L : ri_L) (σ : ri_S) (a0 : Nat) (a1 : Int32), ev 129 (22, L, [.int a1, .ref a0]) σ = tv_k 7 (σ.1 a0) ((cal 97 [.ref a0, .int a1] σ).bind fun q => ev 129 (25, L, q.1.toList ++ []) q.2)) ∧
  (∀ (L : ri_L) (st : List Value) (σ : ri_S) (x : Int32), ev 129 (25, L, .int x :: st) σ = if x = 0 then ev 129 (32, L, st) σ else ev 129 (28, L, st) σ) ∧
  (∀ (L : ri_L) (st : List Value) (σ : ri_S), ev 129 (28, L, st) σ = ev 129 (29, L, .int 0 :: st) σ) ∧
  (∀ (L : ri_L) (st : List Value) (σ : ri_S), ev 129 (29, L, st) σ = ev 129 (33, L, st) σ) ∧
  (∀ (L : ri_L) (st : List Value) (σ : ri_S), ev 129 (32, L, st) σ = ev 129 (33, L, .int 1 :: st) σ) ∧
  (∀ (L : ri_L) (σ : ri_S) (a0 : Int32), ev 129 (33, L, [.int a0]) σ = (cal 135 [.int a0] σ).bind fun q => ev 129 (36, L, q.1.toList ++ []) q.2) ∧
  (∀ (l1 l2 : Option Value) (st : List Value) (σ : ri_S) (x : Nat), ev 129 (36, [some (.ref x), l1, l2], st) σ = ev 129 (37, [some (.ref x), l1, l2], .ref x :: st) σ) ∧
  (∀ (L : ri_L) (st : List Value) (σ : ri_S) (a : Nat), ev 129 (37, L, .ref a :: st) σ = tv_o 8 5 (σ.1 a) fun v => ev 129 (40, L, v :: st) σ) ∧
  (∀ (l1 l2 : Option Value) (st : List Value) (σ : ri_S) (x : Nat), ev 129 (40, [some (.ref x), l1, l2], st) σ = ev 129 (41, [some (.ref x), l1, l2], .ref x :: st) σ) ∧
  (∀ (L : ri_L) (st : List Value) (σ : ri_S) (a : Nat), ev 129 (41, L, .ref a :: st) σ = tv_o 8 1 (σ.1 a) fun v => ev 129 (44, L, v :: st) σ) ∧
  (∀ (l0 l2 : Option Value) (st : List Value) (σ : ri_S) (x : Int32), ev 129 (44, [l0, some (.int x), l2], st) σ = ev 129 (45, [l0, some (.int x), l2], .int x :: st) σ) ∧
  (∀ (L : ri_L) (σ : ri_S) (a0 : Nat) (a1 : Nat) (a2 : Int32), ev 129 (45, L, [.int a2, .ref a1, .ref a0]) σ = tv_k 4 (σ.1 a0) ((cal 57 [.ref a0, .ref a1, .int a2] σ).bind fun q => ev 129 (48, L, q.1.toList ++ []) q.2)) ∧
  (∀ (l1 l2 : Option Value) (st : List Value) (σ : ri_S) (x : Nat), ev 129 (48, [some (.ref x), l1, l2], st) σ = ev 129 (49, [some (.ref x), l1, l2], .ref x :: st) σ) ∧
  (∀ (L : ri_L) (st : List Value) (σ : ri_S) (a : Nat), ev 129 (49, L, .ref a :: st) σ = tv_o 8 5 (σ.1 a) fun v => ev 129 (52, L, v :: st) σ) ∧
  (∀ (l0 l1 : Option Value) (st : List Value) (σ : ri_S) (x : Int32), ev 129 (52, [l0, l1, some (.int x)], st) σ = ev 129 (53, [l0, l1, some (.int x)], .int x :: st) σ) ∧
  (∀ (L : ri_L) (σ : ri_S) (a0 : Nat) (a1 : Int32), ev 129 (53, L, [.int a1, .ref a0]) σ = tv_k 4 (σ.1 a0) ((cal 68 [.ref a0, .int a1] σ).bind fun q => ev 129 (56, L, q.1.toList ++ []) q.2)) ∧
  (∀ (L : ri_L) (σ : ri_S) (x : Int32), ev 129 (56, L, [.int x]) σ = some (some (.int x), σ)) :=
  ⟨fun l1 l2 st σ x => ev_p ((TP_129 _).trans rfl) rfl,
   fun L st σ a => ev_getf ((TP_129 _).trans rfl),
   fun L st σ a => ev_getf ((TP_129 _).trans rfl),
   fun l0 l2 st σ x => ev_p ((TP_129 _).trans rfl) rfl,
   fun L σ a0 a1 => ev_callv ((TP_129 _).trans rfl) rfl rfl rfl rfl,
   fun L st σ x => ev_b ((TP_129 _).trans rfl) rfl,
   fun l1 l2 st σ x => ev_p ((TP_129 _).trans rfl) rfl,
   fun L st σ a => ev_getf ((TP_129 _).trans rfl),
   fun L st σ a => ev_getf ((TP_129 _).trans rfl),
   fun l0 l1 st σ x => ev_p ((TP_129 _).trans rfl) rfl,
   fun L σ a0 a1 => ev_callv ((TP_129 _).trans rfl) rfl rfl rfl rfl,
   fun L st σ x => ev_b ((TP_129 _).trans rfl) rfl,
   fun L st σ => ev_p ((TP_129 _).trans rfl) rfl,
   fun L st σ => ev_p ((TP_129 _).trans rfl) rfl,
   fun L st σ => ev_p ((TP_129 _).trans rfl) rfl,
   fun L σ a0 => ev_call ((TP_129 _).trans rfl) rfl rfl rfl rfl,
   fun l1 l2 st σ x => ev_p ((TP_129 _).trans rfl) rfl,
   fun L st σ a => ev_getf ((TP_129 _).trans rfl),
   fun l1 l2 st σ x => ev_p ((TP_129 _).trans rfl) rfl,
   fun L st σ a => ev_getf ((TP_129 _).trans rfl),
   fun l0 l2 st σ x => ev_p ((TP_129 _).trans rfl) rfl,
   fun L σ a0 a1 a2 => ev_callv ((TP_129 _).trans rfl) rfl rfl rfl rfl,
   fun l1 l2 st σ x => ev_p ((TP_129 _).trans rfl) rfl,
   fun L st σ a => ev_getf ((TP_129 _).trans rfl),
   fun l0 l1 st σ x => ev_p ((TP_129 _).trans rfl) rfl,
   fun L σ a0 a1 => ev_callv ((TP_129 _).trans rfl) rfl rfl rfl rfl,
   fun L σ x => ev_r ((TP_129 _).trans rfl) rfl⟩
theorem TP_130 (pc : Nat) : TT 130 pc = ri_find TL_130 pc := rfl
theorem E_130 (x0 : Nat) (x1 : Int32) (x2 : Int32) (σ : ri_S) : cal 130 [.ref x0, .int x1, .int x2] σ = ev 130 (0, [some (.ref x0), some (.int x1), some (.int x2)], []) σ := rfl
theorem I_130 :
  (∀ (l1 l2 : Option Value) (st : List Value) (σ : ri_S) (x : Nat), ev 130 (0, [some (.ref x), l1, l2], st) σ = ev 130 (1, [some (.ref x), l1, l2], .ref x :: st) σ) ∧
  (∀ (L : ri_L) (st : List Value) (σ : ri_S) (a : Nat), ev 130 (1, L, .ref a :: st) σ = tv_o 8 1 (σ.1 a) fun v => ev 130 (4, L, v :: st) σ) ∧
  (∀ (L : ri_L) (st : List Value) (σ : ri_S) (a : Nat), ev 130 (4, L, .ref a :: st) σ = tv_o 3 2 (σ.1 a) fun v => ev 130 (7, L, v :: st) σ) ∧
  (∀ (l0 l2 : Option Value) (st : List Value) (σ : ri_S) (x : Int32), ev 130 (7, [l0, some (.int x), l2], st) σ = ev 130 (8, [l0, some (.int x), l2], .int x :: st) σ) ∧
  (∀ (L : ri_L) (σ : ri_S) (a0 : Nat) (a1 : Int32), ev 130 (8, L, [.int a1, .ref a0]) σ = tv_k 0 (σ.1 a0) ((cal 1 [.ref a0, .int a1] σ).bind fun q => ev 130 (11, L, q.1.toList ++ []) q.2)) ∧
  (∀ (L : ri_L) (st : List Value) (σ : ri_S) (x : Int32), ev 130 (11, L, .int x :: st) σ = if ¬ x = 0 then ev 130 (18, L, st) σ else ev 130 (14, L, st) σ) ∧
  (∀ (L : ri_L) (st : List Value) (σ : ri_S), ev 130 (14, L, st) σ = ev 130 (15, L, .int 1 :: st) σ) ∧
  (∀ (L : ri_L) (st : List Value) (σ : ri_S), ev 130 (15, L, st) σ = ev 130 (32, L, st) σ) ∧
  (∀ (l0 l1 : Option Value) (st : List Value) (σ : ri_S) (x : Int32), ev 130 (18, [l0, l1, some (.int x)], st) σ = ev 130 (19, [l0, l1, some (.int x)], .int x :: st) σ) ∧
  (∀ (L : ri_L) (st : List Value) (σ : ri_S), ev 130 (19, L, st) σ = ev 130 (20, L, .int 1 :: st) σ) ∧
  (∀ (L : ri_L) (st : List Value) (σ : ri_S), ev 130 (20, L, st) σ = ev 130 (21, L, .int 4 :: st) σ) ∧
  (∀ (L : ri_L) (σ : ri_S) (a0 : Int32) (a1 : Int32) (a2 : Int32), ev 130 (21, L, [.int a2, .int a1, .int a0]) σ = (cal 137 [.int a0, .int a1, .int a2] σ).bind fun q => ev 130 (24, L, q.1.toList ++ []) q.2) ∧
  (∀ (L : ri_L) (st : List Value) (σ : ri_S) (x : Int32), ev 130 (24, L, .int x :: st) σ = if x = 0 then ev 130 (31, L, st) σ else ev 130 (27, L, st) σ) ∧
  (∀ (L : ri_L) (st : List Value) (σ : ri_S), ev 130 (27, L, st) σ = ev 130 (28, L, .int 0 :: st) σ) ∧
  (∀ (L : ri_L) (st : List Value) (σ : ri_S), ev 130 (28, L, st) σ = ev 130 (32, L, st) σ) ∧
  (∀ (L : ri_L) (st : List Value) (σ : ri_S), ev 130 (31, L, st) σ = ev 130 (32, L, .int 2 :: st) σ) ∧
  (∀ (L : ri_L) (σ : ri_S) (a0 : Int32), ev 130 (32, L, [.int a0]) σ = (cal 135 [.int a0] σ).bind fun q => ev 130 (35, L, q.1.toList ++ []) q.2) ∧
  (∀ (l1 l2 : Option Value) (st : List Value) (σ : ri_S) (x : Nat), ev 130 (35, [some (.ref x), l1, l2], st) σ = ev 130 (36, [some (.ref x), l1, l2], .ref x :: st) σ) ∧
  (∀ (L : ri_L) (st : List Value) (σ : ri_S) (a : Nat), ev 130 (36, L, .ref a :: st) σ = tv_o 8 5 (σ.1 a) fun v => ev 130 (39, L, v :: st) σ) ∧
  (∀ (l1 l2 : Option Value) (st : List Value) (σ : ri_S) (x : Nat), ev 130 (39, [some (.ref x), l1, l2], st) σ = ev 130 (40, [some (.ref x), l1, l2], .ref x :: st) σ) ∧
  (∀ (L : ri_L) (st : List Value) (σ : ri_S) (a : Nat), ev 130 (40, L, .ref a :: st) σ = tv_o 8 1 (σ.1 a) fun v => ev 130 (43, L, v :: st) σ) ∧
  (∀ (l0 l2 : Option Value) (st : List Value) (σ : ri_S) (x : Int32), ev 130 (43, [l0, some (.int x), l2], st) σ = ev 130 (44, [l0, some (.int x), l2], .int x :: st) σ) ∧
  (∀ (L : ri_L) (σ : ri_S) (a0 : Nat) (a1 : Nat) (a2 : Int32), ev 130 (44, L, [.int a2, .ref a1, .ref a0]) σ = tv_k 4 (σ.1 a0) ((cal 57 [.ref a0, .ref a1, .int a2] σ).bind fun q => ev 130 (47, L, q.1.toList ++ []) q.2)) ∧
  (∀ (l1 l2 : Option Value) (st : List Value) (σ : ri_S) (x : Nat), ev 130 (47, [some (.ref x), l1, l2], st) σ = ev 130 (48, [some (.ref x), l1, l2], .ref x :: st) σ) ∧
  (∀ (L : ri_L) (st : List Value) (σ : ri_S) (a : Nat), ev 130 (48, L, .ref a :: st) σ = tv_o 8 5 (σ.1 a) fun v => ev 130 (51, L, v :: st) σ) ∧
  (∀ (l1 l2 : Option Value) (st : List Value) (σ : ri_S) (x : Nat), ev 130 (51, [some (.ref x), l1, l2], st) σ = ev 130 (52, [some (.ref x), l1, l2], .ref x :: st) σ) ∧
  (∀ (L : ri_L) (st : List Value) (σ : ri_S) (a : Nat), ev 130 (52, L, .ref a :: st) σ = tv_o 8 1 (σ.1 a) fun v => ev 130 (55, L, v :: st) σ) ∧
  (∀ (l0 l1 : Option Value) (st : List Value) (σ : ri_S) (x : Int32), ev 130 (55, [l0, l1, some (.int x)], st) σ = ev 130 (56, [l0, l1, some (.int x)], .int x :: st) σ) ∧
  (∀ (L : ri_L) (σ : ri_S) (a0 : Nat) (a1 : Nat) (a2 : Int32), ev 130 (56, L, [.int a2, .ref a1, .ref a0]) σ = tv_k 4 (σ.1 a0) ((cal 72 [.ref a0, .ref a1, .int a2] σ).bind fun q => ev 130 (59, L, q.1.toList ++ []) q.2)) ∧
  (∀ (L : ri_L) (σ : ri_S) (x : Int32), ev 130 (59, L, [.int x]) σ = some (some (.int x), σ)) :=
  ⟨fun l1 l2 st σ x => ev_p ((TP_130 _).trans rfl) rfl,
   fun L st σ a => ev_getf ((TP_130 _).trans rfl),
   fun L st σ a => ev_getf ((TP_130 _).trans rfl),
   fun l0 l2 st σ x => ev_p ((TP_130 _).trans rfl) rfl,
   fun L σ a0 a1 => ev_callv ((TP_130 _).trans rfl) rfl rfl rfl rfl,
   fun L st σ x => ev_b ((TP_130 _).trans rfl) rfl,
   fun L st σ => ev_p ((TP_130 _).trans rfl) rfl,
   fun L st σ => ev_p ((TP_130 _).trans rfl) rfl,
   fun l0 l1 st σ x => ev_p ((TP_130 _).trans rfl) rfl,
   fun L st σ => ev_p ((TP_130 _).trans rfl) rfl,
   fun L st σ => ev_p ((TP_130 _).trans rfl) rfl,
   fun L σ a0 a1 a2 => ev_call ((TP_130 _).trans rfl) rfl rfl rfl rfl,
   fun L st σ x => ev_b ((TP_130 _).trans rfl) rfl,
   fun L st σ => ev_p ((TP_130 _).trans rfl) rfl,
   fun L st σ => ev_p ((TP_130 _).trans rfl) rfl,
   fun L st σ => ev_p ((TP_130 _).trans rfl) rfl,
   fun L σ a0 => ev_call ((TP_130 _).trans rfl) rfl rfl rfl rfl,
   fun l1 l2 st σ x => ev_p ((TP_130 _).trans rfl) rfl,
   fun L st σ a => ev_getf ((TP_130 _).trans rfl),
   fun l1 l2 st σ x => ev_p ((TP_130 _).trans rfl) rfl,
   fun L st σ a => ev_getf ((TP_130 _).trans rfl),
   fun l0 l2 st σ x => ev_p ((TP_130 _).trans rfl) rfl,
   fun L σ a0 a1 a2 => ev_callv ((TP_130 _).trans rfl) rfl rfl rfl rfl,
   fun l1 l2 st σ x => ev_p ((TP_130 _).trans rfl) rfl,
   fun L st σ a => ev_getf ((TP_130 _).trans rfl),
   fun l1 l2 st σ x => ev_p ((TP_130 _).trans rfl) rfl,
   fun L st σ a => ev_getf ((TP_130 _).trans rfl),
   fun l0 l1 st σ x => ev_p ((TP_130 _).trans rfl) rfl,
   fun L σ a0 a1 a2 => ev_callv ((TP_130 _).trans rfl) rfl rfl rfl rfl,
   fun L σ x => ev_r ((TP_130 _).trans rfl) rfl⟩
theorem TP_131 (pc : Nat) : TT 131 pc = ri_find TL_131 pc := rfl
theorem E_131 (x0 : Nat) (x1 : Int32) (x2 : Int64) (σ : ri_S) : cal 131 [.ref x0, .int x1, .long x2] σ = ev 131 (0, [some (.ref x0), some (.int x1), some (.long x2), none], []) σ := rfl
theorem I_131 :
  (∀ (l0 l2 l3 : Option Value) (st : List Value) (σ : ri_S) (x : Int32), ev 131 (0, [l0, some (.int x), l2, l3], st) σ = ev 131 (1, [l0, some (.int x), l2, l3], .int x :: st) σ) ∧
  (∀ (l0 l1 l3 : Option Value) (st : List Value) (σ : ri_S) (x : Int64), ev 131 (1, [l0, l1, some (.long x), l3], st) σ = ev 131 (2, [l0, l1, some (.long x), l3], .long x :: st) σ) ∧
  (∀ (L : ri_L) (σ : ri_S) (a0 : Int32) (a1 : Int64), ev 131 (2, L, [.long a1, .int a0]) σ = (cal 51 [.int a0, .long a1] σ).bind fun q => ev 131 (5, L, q.1.toList ++ []) q.2) ∧
  (∀ (L : ri_L) (σ : ri_S) (a0 : Int32), ev 131 (5, L, [.int a0]) σ = (cal 135 [.int a0] σ).bind fun q => ev 131 (8, L, q.1.toList ++ []) q.2) ∧
  (∀ (l1 l2 l3 : Option Value) (st : List Value) (σ : ri_S) (x : Nat), ev 131 (8, [some (.ref x), l1, l2, l3], st) σ = ev 131 (9, [some (.ref x), l1, l2, l3], .ref x :: st) σ) ∧
  (∀ (L : ri_L) (st : List Value) (σ : ri_S) (a : Nat), ev 131 (9, L, .ref a :: st) σ = tv_o 8 2 (σ.1 a) fun v => ev 131 (12, L, v :: st) σ) ∧
  (∀ (l1 l2 l3 : Option Value) (st : List Value) (σ : ri_S) (x : Nat), ev 131 (12, [some (.ref x), l1, l2, l3], st) σ = ev 131 (13, [some (.ref x), l1, l2, l3], .ref x :: st) σ) ∧
  (∀ (L : ri_L) (st : List Value) (σ : ri_S) (a : Nat), ev 131 (13, L, .ref a :: st) σ = tv_o 8 1 (σ.1 a) fun v => ev 131 (16, L, v :: st) σ) ∧
  (∀ (L : ri_L) (σ : ri_S) (a0 : Nat) (a1 : Nat), ev 131 (16, L, [.ref a1, .ref a0]) σ = tv_k 3 (σ.1 a0) ((cal 22 [.ref a0, .ref a1] σ).bind fun q => ev 131 (19, L, q.1.toList ++ []) q.2)) ∧
  (∀ (l1 l2 l3 : Option Value) (st : List Value) (σ : ri_S) (x : Nat), ev 131 (19, [some (.ref x), l1, l2, l3], st) σ = ev 131 (20, [some (.ref x), l1, l2, l3], .ref x :: st) σ) ∧
  (∀ (L : ri_L) (st : List Value) (σ : ri_S) (a : Nat), ev 131 (20, L, .ref a :: st) σ = tv_o 8 2 (σ.1 a) fun v => ev 131 (23, L, v :: st) σ) ∧
  (∀ (l0 l2 l3 : Option Value) (st : List Value) (σ : ri_S) (x : Int32), ev 131 (23, [l0, some (.int x), l2, l3], st) σ = ev 131 (24, [l0, some (.int x), l2, l3], .int x :: st) σ) ∧
  (∀ (l0 l1 l3 : Option Value) (st : List Value) (σ : ri_S) (x : Int64), ev 131 (24, [l0, l1, some (.long x), l3], st) σ = ev 131 (25, [l0, l1, some (.long x), l3], .long x :: st) σ) ∧
  (∀ (L : ri_L) (σ : ri_S) (a0 : Nat) (a1 : Int32) (a2 : Int64), ev 131 (25, L, [.long a2, .int a1, .ref a0]) σ = (cal 53 [.ref a0, .int a1, .long a2] σ).bind fun q => ev 131 (28, L, q.1.toList ++ []) q.2) ∧
  (∀ (L : ri_L) (σ : ri_S) (x : Int32), ev 131 (28, L, [.int x]) σ = some (some (.int x), σ)) :=
  ⟨fun l0 l2 l3 st σ x => ev_p ((TP_131 _).trans rfl) rfl,
   fun l0 l1 l3 st σ x => ev_p ((TP_131 _).trans rfl) rfl,
   fun L σ a0 a1 => ev_call ((TP_131 _).trans rfl) rfl rfl rfl rfl,
   fun L σ a0 => ev_call ((TP_131 _).trans rfl) rfl rfl rfl rfl,
   fun l1 l2 l3 st σ x => ev_p ((TP_131 _).trans rfl) rfl,
   fun L st σ a => ev_getf ((TP_131 _).trans rfl),
   fun l1 l2 l3 st σ x => ev_p ((TP_131 _).trans rfl) rfl,
   fun L st σ a => ev_getf ((TP_131 _).trans rfl),
   fun L σ a0 a1 => ev_callv ((TP_131 _).trans rfl) rfl rfl rfl rfl,
   fun l1 l2 l3 st σ x => ev_p ((TP_131 _).trans rfl) rfl,
   fun L st σ a => ev_getf ((TP_131 _).trans rfl),
   fun l0 l2 l3 st σ x => ev_p ((TP_131 _).trans rfl) rfl,
   fun l0 l1 l3 st σ x => ev_p ((TP_131 _).trans rfl) rfl,
   fun L σ a0 a1 a2 => ev_call ((TP_131 _).trans rfl) rfl rfl rfl rfl,
   fun L σ x => ev_r ((TP_131 _).trans rfl) rfl⟩
theorem TP_132 (pc : Nat) : TT 132 pc = ri_find TL_132 pc := rfl
theorem E_132 (x0 : Nat) (x1 : Int64) (x2 : Int32) (σ : ri_S) : cal 132 [.ref x0, .long x1, .int x2] σ = ev 132 (0, [some (.ref x0), some (.long x1), none, some (.int x2)], []) σ := rfl
theorem I_132 :
  (∀ (l0 l1 l2 : Option Value) (st : List Value) (σ : ri_S) (x : Int32), ev 132 (0, [l0, l1, l2, some (.int x)], st) σ = ev 132 (1, [l0, l1, l2, some (.int x)], .int x :: st) σ) ∧
  (∀ (L : ri_L) (st : List Value) (σ : ri_S), ev 132 (1, L, st) σ = ev 132 (2, L, .int 1 :: st) σ) ∧
  (∀ (L : ri_L) (st : List Value) (σ : ri_S), ev 132 (2, L, st) σ = ev 132 (4, L, .int 60 :: st) σ) ∧
  (∀ (L : ri_L) (σ : ri_S) (a0 : Int32) (a1 : Int32) (a2 : Int32), ev 132 (4, L, [.int a2, .int a1, .int a0]) σ = (cal 137 [.int a0, .int a1, .int a2] σ).bind fun q => ev 132 (7, L, q.1.toList ++ []) q.2) ∧
  (∀ (L : ri_L) (st : List Value) (σ : ri_S) (x : Int32), ev 132 (7, L, .int x :: st) σ = if x = 0 then ev 132 (14, L, st) σ else ev 132 (10, L, st) σ) ∧
  (∀ (L : ri_L) (st : List Value) (σ : ri_S), ev 132 (10, L, st) σ = ev 132 (11, L, .int 0 :: st) σ) ∧
  (∀ (L : ri_L) (st : List Value) (σ : ri_S), ev 132 (11, L, st) σ = ev 132 (15, L, st) σ) ∧
  (∀ (L : ri_L) (st : List Value) (σ : ri_S), ev 132 (14, L, st) σ = ev 132 (15, L, .int 2 :: st) σ) ∧
  (∀ (L : ri_L) (σ : ri_S) (a0 : Int32), ev 132 (15, L, [.int a0]) σ = (cal 135 [.int a0] σ).bind fun q => ev 132 (18, L, q.1.toList ++ []) q.2) ∧
  (∀ (l1 l2 l3 : Option Value) (st : List Value) (σ : ri_S) (x : Nat), ev 132 (18, [some (.ref x), l1, l2, l3], st) σ = ev 132 (19, [some (.ref x), l1, l2, l3], .ref x :: st) σ) ∧
  (∀ (L : ri_L) (st : List Value) (σ : ri_S) (a : Nat), ev 132 (19, L, .ref a :: st) σ = tv_o 8 2 (σ.1 a) fun v => ev 132 (22, L, v :: st) σ) ∧
  (∀ (l1 l2 l3 : Option Value) (st : List Value) (σ : ri_S) (x : Nat), ev 132 (22, [some (.ref x), l1, l2, l3], st) σ = ev 132 (23, [some (.ref x), l1, l2, l3], .ref x :: st) σ) ∧
  (∀ (L : ri_L) (st : List Value) (σ : ri_S) (a : Nat), ev 132 (23, L, .ref a :: st) σ = tv_o 8 1 (σ.1 a) fun v => ev 132 (26, L, v :: st) σ) ∧
  (∀ (L : ri_L) (σ : ri_S) (a0 : Nat) (a1 : Nat), ev 132 (26, L, [.ref a1, .ref a0]) σ = tv_k 3 (σ.1 a0) ((cal 22 [.ref a0, .ref a1] σ).bind fun q => ev 132 (29, L, q.1.toList ++ []) q.2)) ∧
  (∀ (l1 l2 l3 : Option Value) (st : List Value) (σ : ri_S) (x : Nat), ev 132 (29, [some (.ref x), l1, l2, l3], st) σ = ev 132 (30, [some (.ref x), l1, l2, l3], .ref x :: st) σ) ∧
  (∀ (L : ri_L) (st : List Value) (σ : ri_S) (a : Nat), ev 132 (30, L, .ref a :: st) σ = tv_o 8 2 (σ.1 a) fun v => ev 132 (33, L, v :: st) σ) ∧
  (∀ (l0 l2 l3 : Option Value) (st : List Value) (σ : ri_S) (x : Int64), ev 132 (33, [l0, some (.long x), l2, l3], st) σ = ev 132 (34, [l0, some (.long x), l2, l3], .long x :: st) σ) ∧
  (∀ (l0 l1 l2 : Option Value) (st : List Value) (σ : ri_S) (x : Int32), ev 132 (34, [l0, l1, l2, some (.int x)], st) σ = ev 132 (35, [l0, l1, l2, some (.int x)], .int x :: st) σ) ∧
  (∀ (L : ri_L) (σ : ri_S) (a0 : Nat) (a1 : Int64) (a2 : Int32), ev 132 (35, L, [.int a2, .long a1, .ref a0]) σ = (cal 78 [.ref a0, .long a1, .int a2] σ).bind fun q => ev 132 (38, L, q.1.toList ++ []) q.2) ∧
  (∀ (L : ri_L) (st : List Value) (σ : ri_S), ev 132 (38, L, st) σ = ev 132 (41, L, .int 1000 :: st) σ) ∧
  (∀ (l1 l2 l3 : Option Value) (st : List Value) (σ : ri_S) (x : Nat), ev 132 (41, [some (.ref x), l1, l2, l3], st) σ = ev 132 (42, [some (.ref x), l1, l2, l3], .ref x :: st) σ) ∧
  (∀ (L : ri_L) (st : List Value) (σ : ri_S) (a : Nat), ev 132 (42, L, .ref a :: st) σ = tv_o 8 2 (σ.1 a) fun v => ev 132 (45, L, v :: st) σ) ∧
  (∀ (L : ri_L) (st : List Value) (σ : ri_S) (a : Nat), ev 132 (45, L, .ref a :: st) σ = tv_o 3 3 (σ.1 a) fun v => ev 132 (48, L, v :: st) σ) ∧
  (∀ (l1 l2 l3 : Option Value) (st : List Value) (σ : ri_S) (x : Nat), ev 132 (48, [some (.ref x), l1, l2, l3], st) σ = ev 132 (49, [some (.ref x), l1, l2, l3], .ref x :: st) σ) ∧
  (∀ (L : ri_L) (st : List Value) (σ : ri_S) (a : Nat), ev 132 (49, L, .ref a :: st) σ = tv_o 8 1 (σ.1 a) fun v => ev 132 (52, L, v :: st) σ) ∧
  (∀ (L : ri_L) (st : List Value) (σ : ri_S) (a : Nat), ev 132 (52, L, .ref a :: st) σ = tv_o 3 3 (σ.1 a) fun v => ev 132 (55, L, v :: st) σ) ∧
  (∀ (L : ri_L) (st : List Value) (σ : ri_S) (x y : Int32), ev 132 (55, L, .int y :: .int x :: st) σ = ev 132 (56, L, .int (x - y) :: st) σ) ∧
  (∀ (L : ri_L) (st : List Value) (σ : ri_S) (x y : Int32), ev 132 (56, L, .int y :: .int x :: st) σ = ev 132 (57, L, .int (x * y) :: st) σ) ∧
  (∀ (L : ri_L) (st : List Value) (σ : ri_S), ev 132 (57, L, st) σ = ev 132 (60, L, .int 999 :: st) σ) ∧
  (∀ (l1 l2 l3 : Option Value) (st : List Value) (σ : ri_S) (x : Nat), ev 132 (60, [some (.ref x), l1, l2, l3], st) σ = ev 132 (61, [some (.ref x), l1, l2, l3], .ref x :: st) σ) ∧
  (∀ (L : ri_L) (st : List Value) (σ : ri_S) (a : Nat), ev 132 (61, L, .ref a :: st) σ = tv_o 8 2 (σ.1 a) fun v => ev 132 (64, L, v :: st) σ) ∧
  (∀ (L : ri_L) (st : List Value) (σ : ri_S) (a : Nat), ev 132 (64, L, .ref a :: st) σ = tv_o 3 4 (σ.1 a) fun v => ev 132 (67, L, v :: st) σ) ∧
  (∀ (l1 l2 l3 : Option Value) (st : List Value) (σ : ri_S) (x : Nat), ev 132 (67, [some (.ref x), l1, l2, l3], st) σ = ev 132 (68, [some (.ref x), l1, l2, l3], .ref x :: st) σ) ∧
  (∀ (L : ri_L) (st : List Value) (σ : ri_S) (a : Nat), ev 132 (68, L, .ref a :: st) σ = tv_o 8 1 (σ.1 a) fun v => ev 132 (71, L, v :: st) σ) ∧
  (∀ (L : ri_L) (st : List Value) (σ : ri_S) (a : Nat), ev 132 (71, L, .ref a :: st) σ = tv_o 3 4 (σ.1 a) fun v => ev 132 (74, L, v :: st) σ) ∧
  (∀ (L : ri_L) (st : List Value) (σ : ri_S) (x y : Int32), ev 132 (74, L, .int y :: .int x :: st) σ = ev 132 (75, L, .int (x - y) :: st) σ) ∧
  (∀ (L : ri_L) (σ : ri_S) (x y : Int32) (s0 : Value), ev 132 (75, L, .int y :: .int x :: [s0]) σ = ev 132 (78, L, .int (if y < x then y else x) :: [s0]) σ) ∧
  (∀ (L : ri_L) (st : List Value) (σ : ri_S) (x y : Int32), ev 132 (78, L, .int y :: .int x :: st) σ = ev 132 (79, L, .int (x + y) :: st) σ) ∧
  (∀ (L : ri_L) (σ : ri_S) (x : Int32), ev 132 (79, L, [.int x]) σ = some (some (.int x), σ)) :=
  ⟨fun l0 l1 l2 st σ x => ev_p ((TP_132 _).trans rfl) rfl,
   fun L st σ => ev_p ((TP_132 _).trans rfl) rfl,
   fun L st σ => ev_p ((TP_132 _).trans rfl) rfl,
   fun L σ a0 a1 a2 => ev_call ((TP_132 _).trans rfl) rfl rfl rfl rfl,
   fun L st σ x => ev_b ((TP_132 _).trans rfl) rfl,
   fun L st σ => ev_p ((TP_132 _).trans rfl) rfl,
   fun L st σ => ev_p ((TP_132 _).trans rfl) rfl,
   fun L st σ => ev_p ((TP_132 _).trans rfl) rfl,
   fun L σ a0 => ev_call ((TP_132 _).trans rfl) rfl rfl rfl rfl,
   fun l1 l2 l3 st σ x => ev_p ((TP_132 _).trans rfl) rfl,
   fun L st σ a => ev_getf ((TP_132 _).trans rfl),
   fun l1 l2 l3 st σ x => ev_p ((TP_132 _).trans rfl) rfl,
   fun L st σ a => ev_getf ((TP_132 _).trans rfl),
   fun L σ a0 a1 => ev_callv ((TP_132 _).trans rfl) rfl rfl rfl rfl,
   fun l1 l2 l3 st σ x => ev_p ((TP_132 _).trans rfl) rfl,
   fun L st σ a => ev_getf ((TP_132 _).trans rfl),
   fun l0 l2 l3 st σ x => ev_p ((TP_132 _).trans rfl) rfl,
   fun l0 l1 l2 st σ x => ev_p ((TP_132 _).trans rfl) rfl,
   fun L σ a0 a1 a2 => ev_call ((TP_132 _).trans rfl) rfl rfl rfl rfl,
   fun L st σ => ev_p ((TP_132 _).trans rfl) rfl,
   fun l1 l2 l3 st σ x => ev_p ((TP_132 _).trans rfl) rfl,
   fun L st σ a => ev_getf ((TP_132 _).trans rfl),
   fun L st σ a => ev_getf ((TP_132 _).trans rfl),
   fun l1 l2 l3 st σ x => ev_p ((TP_132 _).trans rfl) rfl,
   fun L st σ a => ev_getf ((TP_132 _).trans rfl),
   fun L st σ a => ev_getf ((TP_132 _).trans rfl),
   fun L st σ x y => ev_p ((TP_132 _).trans rfl) rfl,
   fun L st σ x y => ev_p ((TP_132 _).trans rfl) rfl,
   fun L st σ => ev_p ((TP_132 _).trans rfl) rfl,
   fun l1 l2 l3 st σ x => ev_p ((TP_132 _).trans rfl) rfl,
   fun L st σ a => ev_getf ((TP_132 _).trans rfl),
   fun L st σ a => ev_getf ((TP_132 _).trans rfl),
   fun l1 l2 l3 st σ x => ev_p ((TP_132 _).trans rfl) rfl,
   fun L st σ a => ev_getf ((TP_132 _).trans rfl),
   fun L st σ a => ev_getf ((TP_132 _).trans rfl),
   fun L st σ x y => ev_p ((TP_132 _).trans rfl) rfl,
   fun L σ x y s0 => ev_p ((TP_132 _).trans rfl) rfl,
   fun L st σ x y => ev_p ((TP_132 _).trans rfl) rfl,
   fun L σ x => ev_r ((TP_132 _).trans rfl) rfl⟩
theorem TP_133 (pc : Nat) : TT 133 pc = ri_find TL_133 pc := rfl
theorem E_133 (x0 : Nat) (x1 : Int32) (σ : ri_S) : cal 133 [.ref x0, .int x1] σ = ev 133 (0, [some (.ref x0), some (.int x1)], []) σ := rfl
theorem I_133 :
  (∀ (l0 : Option Value) (st : List Value) (σ : ri_S) (x : Int32), ev 133 (0, [l0, some (.int x)], st) σ = ev 133 (1, [l0, some (.int x)], .int x :: st) σ) ∧
  (∀ (L : ri_L) (st : List Value) (σ : ri_S), ev 133 (1, L, st) σ = ev 133 (2, L, .int 0 :: st) σ) ∧
  (∀ (L : ri_L) (st : List Value) (σ : ri_S), ev 133 (2, L, st) σ = ev 133 (3, L, .int 1 :: st) σ) ∧
  (∀ (L : ri_L) (σ : ri_S) (a0 : Int32) (a1 : Int32) (a2 : Int32), ev 133 (3, L, [.int a2, .int a1, .int a0]) σ = (cal 137 [.int a0, .int a1, .int a2] σ).bind fun q => ev 133 (6, L, q.1.toList ++ []) q.2) ∧
  (∀ (L : ri_L) (st : List Value) (σ : ri_S) (x : Int32), ev 133 (6, L, .int x :: st) σ = if x = 0 then ev 133 (13, L, st) σ else ev 133 (9, L, st) σ) ∧
  (∀ (L : ri_L) (st : List Value) (σ : ri_S), ev 133 (9, L, st) σ = ev 133 (10, L, .int 0 :: st) σ) ∧
  (∀ (L : ri_L) (st : List Value) (σ : ri_S), ev 133 (10, L, st) σ = ev 133 (14, L, st) σ) ∧
  (∀ (L : ri_L) (st : List Value) (σ : ri_S), ev 133 (13, L, st) σ = ev 133 (14, L, .int 1 :: st) σ) ∧
  (∀ (L : ri_L) (σ : ri_S) (a0 : Int32), ev 133 (14, L, [.int a0]) σ = (cal 135 [.int a0] σ).bind fun q => ev 133 (17, L, q.1.toList ++ []) q.2) ∧
  (∀ (l1 : Option Value) (st : List Value) (σ : ri_S) (x : Nat), ev 133 (17, [some (.ref x), l1], st) σ = ev 133 (18, [some (.ref x), l1], .ref x :: st) σ) ∧
  (∀ (L : ri_L) (st : List Value) (σ : ri_S) (a : Nat), ev 133 (18, L, .ref a :: st) σ = tv_o 8 4 (σ.1 a) fun v => ev 133 (21, L, v :: st) σ) ∧
  (∀ (l0 : Option Value) (st : List Value) (σ : ri_S) (x : Int32), ev 133 (21, [l0, some (.int x)], st) σ = ev 133 (22, [l0, some (.int x)], .int x :: st) σ) ∧
  (∀ (l1 : Option Value) (st : List Value) (σ : ri_S) (x : Nat), ev 133 (22, [some (.ref x), l1], st) σ = ev 133 (23, [some (.ref x), l1], .ref x :: st) σ) ∧
  (∀ (L : ri_L) (st : List Value) (σ : ri_S) (a : Nat), ev 133 (23, L, .ref a :: st) σ = tv_o 8 1 (σ.1 a) fun v => ev 133 (26, L, v :: st) σ) ∧
  (∀ (L : ri_L) (σ : ri_S) (a0 : Nat) (a1 : Int32) (a2 : Nat), ev 133 (26, L, [.ref a2, .int a1, .ref a0]) σ = tv_k 5 (σ.1 a0) ((cal 84 [.ref a0, .int a1, .ref a2] σ).bind fun q => ev 133 (29, L, q.1.toList ++ []) q.2)) ∧
  (∀ (l1 : Option Value) (st : List Value) (σ : ri_S) (x : Nat), ev 133 (29, [some (.ref x), l1], st) σ = ev 133 (30, [some (.ref x), l1], .ref x :: st) σ) ∧
  (∀ (L : ri_L) (st : List Value) (σ : ri_S) (a : Nat), ev 133 (30, L, .ref a :: st) σ = tv_o 8 1 (σ.1 a) fun v => ev 133 (33, L, v :: st) σ) ∧
  (∀ (L : ri_L) (st : List Value) (σ : ri_S) (a : Nat), ev 133 (33, L, .ref a :: st) σ = tv_o 3 3 (σ.1 a) fun v => ev 133 (36, L, v :: st) σ) ∧
  (∀ (L : ri_L) (σ : ri_S) (x : Int32), ev 133 (36, L, [.int x]) σ = some (some (.int x), σ)) :=
  ⟨fun l0 st σ x => ev_p ((TP_133 _).trans rfl) rfl,
   fun L st σ => ev_p ((TP_133 _).trans rfl) rfl,
   fun L st σ => ev_p ((TP_133 _).trans rfl) rfl,
   fun L σ a0 a1 a2 => ev_call ((TP_133 _).trans rfl) rfl rfl rfl rfl,
   fun L st σ x => ev_b ((TP_133 _).trans rfl) rfl,
   fun L st σ => ev_p ((TP_133 _).trans rfl) rfl,
   fun L st σ => ev_p ((TP_133 _).trans rfl) rfl,
   fun L st σ => ev_p ((TP_133 _).trans rfl) rfl,
   fun L σ a0 => ev_call ((TP_133 _).trans rfl) rfl rfl rfl rfl,
   fun l1 st σ x => ev_p ((TP_133 _).trans rfl) rfl,
   fun L st σ a => ev_getf ((TP_133 _).trans rfl),
   fun l0 st σ x => ev_p ((TP_133 _).trans rfl) rfl,
   fun l1 st σ x => ev_p ((TP_133 _).trans rfl) rfl,
   fun L st σ a => ev_getf ((TP_133 _).trans rfl),
   fun L σ a0 a1 a2 => ev_callv ((TP_133 _).trans rfl) rfl rfl rfl rfl,
   fun l1 st σ x => ev_p ((TP_133 _).trans rfl) rfl,
   fun L st σ a => ev_getf ((TP_133 _).trans rfl),
   fun L st σ a => ev_getf ((TP_133 _).trans rfl),
   fun L σ x => ev_r ((TP_133 _).trans rfl) rfl⟩
theorem TP_134 (pc : Nat) : TT 134 pc = ri_find TL_134 pc := rfl
theorem E_134 (x0 : Nat) (x1 : Int32) (σ : ri_S) : cal 134 [.ref x0, .int x1] σ = ev 134 (0, [some (.ref x0), some (.int x1)], []) σ := rfl
theorem I_134 :
  (∀ (l0 : Option Value) (st : List Value) (σ : ri_S) (x : Int32), ev 134 (0, [l0, some (.int x)], st) σ = ev 134 (1, [l0, some (.int x)], .int x :: st) σ) ∧
  (∀ (L : ri_L) (st : List Value) (σ : ri_S), ev 134 (1, L, st) σ = ev 134 (2, L, .int 0 :: st) σ) ∧
  (∀ (L : ri_L) (st : List Value) (σ : ri_S), ev 134 (2, L, st) σ = ev 134 (3, L, .int 1 :: st) σ) ∧
  (∀ (L : ri_L) (σ : ri_S) (a0 : Int32) (a1 : Int32) (a2 : Int32), ev 134 (3, L, [.int a2, .int a1, .int a0]) σ = (cal 137 [.int a0, .int a1, .int a2] σ).bind fun q => ev 134 (6, L, q.1.toList ++ []) q.2) ∧
  (∀ (L : ri_L) (st : List Value) (σ : ri_S) (x : Int32), ev 134 (6, L, .int x :: st) σ = if ¬ x = 0 then ev 134 (13, L, st) σ else ev 134 (9, L, st) σ) ∧
  (∀ (L : ri_L) (st : List Value) (σ : ri_S), ev 134 (9, L, st) σ = ev 134 (10, L, .int 1 :: st) σ) ∧
  (∀ (L : ri_L) (st : List Value) (σ : ri_S), ev 134 (10, L, st) σ = ev 134 (29, L, st) σ) ∧
  (∀ (l1 : Option Value) (st : List Value) (σ : ri_S) (x : Nat), ev 134 (13, [some (.ref x), l1], st) σ = ev 134 (14, [some (.ref x), l1], .ref x :: st) σ) ∧
  (∀ (L : ri_L) (st : List Value) (σ : ri_S) (a : Nat), ev 134 (14, L, .ref a :: st) σ = tv_o 8 4 (σ.1 a) fun v => ev 134 (17, L, v :: st) σ) ∧
  (∀ (l0 : Option Value) (st : List Value) (σ : ri_S) (x : Int32), ev 134 (17, [l0, some (.int x)], st) σ = ev 134 (18, [l0, some (.int x)], .int x :: st) σ) ∧
  (∀ (L : ri_L) (σ : ri_S) (a0 : Nat) (a1 : Int32), ev 134 (18, L, [.int a1, .ref a0]) σ = tv_k 5 (σ.1 a0) ((cal 82 [.ref a0, .int a1] σ).bind fun q => ev 134 (21, L, q.1.toList ++ []) q.2)) ∧
  (∀ (L : ri_L) (st : List Value) (σ : ri_S) (x : Int32), ev 134 (21, L, .int x :: st) σ = if x = 0 then ev 134 (28, L, st) σ else ev 134 (24, L, st) σ) ∧
  (∀ (L : ri_L) (st : List Value) (σ : ri_S), ev 134 (24, L, st) σ = ev 134 (25, L, .int 0 :: st) σ) ∧
  (∀ (L : ri_L) (st : List Value) (σ : ri_S), ev 134 (25, L, st) σ = ev 134 (29, L, st) σ) ∧
  (∀ (L : ri_L) (st : List Value) (σ : ri_S), ev 134 (28, L, st) σ = ev 134 (29, L, .int 3 :: st) σ) ∧
  (∀ (L : ri_L) (σ : ri_S) (a0 : Int32), ev 134 (29, L, [.int a0]) σ = (cal 135 [.int a0] σ).bind fun q => ev 134 (32, L, q.1.toList ++ []) q.2) ∧
  (∀ (l1 : Option Value) (st : List Value) (σ : ri_S) (x : Nat), ev 134 (32, [some (.ref x), l1], st) σ = ev 134 (33, [some (.ref x), l1], .ref x :: st) σ) ∧
  (∀ (L : ri_L) (st : List Value) (σ : ri_S) (a : Nat), ev 134 (33, L, .ref a :: st) σ = tv_o 8 3 (σ.1 a) fun v => ev 134 (36, L, v :: st) σ) ∧
  (∀ (L : ri_L) (σ : ri_S) (a0 : Nat), ev 134 (36, L, [.ref a0]) σ = tv_k 1 (σ.1 a0) ((cal 9 [.ref a0] σ).bind fun q => ev 134 (39, L, q.1.toList ++ []) q.2)) ∧
  (∀ (l1 : Option Value) (st : List Value) (σ : ri_S) (x : Nat), ev 134 (39, [some (.ref x), l1], st) σ = ev 134 (40, [some (.ref x), l1], .ref x :: st) σ) ∧
  (∀ (L : ri_L) (st : List Value) (σ : ri_S) (a : Nat), ev 134 (40, L, .ref a :: st) σ = tv_o 8 4 (σ.1 a) fun v => ev 134 (43, L, v :: st) σ) ∧
  (∀ (l0 : Option Value) (st : List Value) (σ : ri_S) (x : Int32), ev 134 (43, [l0, some (.int x)], st) σ = ev 134 (44, [l0, some (.int x)], .int x :: st) σ) ∧
  (∀ (l1 : Option Value) (st : List Value) (σ : ri_S) (x : Nat), ev 134 (44, [some (.ref x), l1], st) σ = ev 134 (45, [some (.ref x), l1], .ref x :: st) σ) ∧
  (∀ (L : ri_L) (st : List Value) (σ : ri_S) (a : Nat), ev 134 (45, L, .ref a :: st) σ = tv_o 8 1 (σ.1 a) fun v => ev 134 (48, L, v :: st) σ) ∧
  (∀ (L : ri_L) (σ : ri_S) (a0 : Nat) (a1 : Int32) (a2 : Nat), ev 134 (48, L, [.ref a2, .int a1, .ref a0]) σ = tv_k 5 (σ.1 a0) ((cal 85 [.ref a0, .int a1, .ref a2] σ).bind fun q => ev 134 (51, L, q.1.toList ++ []) q.2)) ∧
  (∀ (l1 : Option Value) (st : List Value) (σ : ri_S) (x : Nat), ev 134 (51, [some (.ref x), l1], st) σ = ev 134 (52, [some (.ref x), l1], .ref x :: st) σ) ∧
  (∀ (L : ri_L) (st : List Value) (σ : ri_S) (a : Nat), ev 134 (52, L, .ref a :: st) σ = tv_o 8 1 (σ.1 a) fun v => ev 134 (55, L, v :: st) σ) ∧
  (∀ (L : ri_L) (st : List Value) (σ : ri_S) (a : Nat), ev 134 (55, L, .ref a :: st) σ = tv_o 3 3 (σ.1 a) fun v => ev 134 (58, L, v :: st) σ) ∧
  (∀ (L : ri_L) (σ : ri_S) (x : Int32), ev 134 (58, L, [.int x]) σ = some (some (.int x), σ)) :=
  ⟨fun l0 st σ x => ev_p ((TP_134 _).trans rfl) rfl,
   fun L st σ => ev_p ((TP_134 _).trans rfl) rfl,
   fun L st σ => ev_p ((TP_134 _).trans rfl) rfl,
   fun L σ a0 a1 a2 => ev_call ((TP_134 _).trans rfl) rfl rfl rfl rfl,
   fun L st σ x => ev_b ((TP_134 _).trans rfl) rfl,
   fun L st σ => ev_p ((TP_134 _).trans rfl) rfl,
   fun L st σ => ev_p ((TP_134 _).trans rfl) rfl,
   fun l1 st σ x => ev_p ((TP_134 _).trans rfl) rfl,
   fun L st σ a => ev_getf ((TP_134 _).trans rfl),
   fun l0 st σ x => ev_p ((TP_134 _).trans rfl) rfl,
   fun L σ a0 a1 => ev_callv ((TP_134 _).trans rfl) rfl rfl rfl rfl,
   fun L st σ x => ev_b ((TP_134 _).trans rfl) rfl,
   fun L st σ => ev_p ((TP_134 _).trans rfl) rfl,
   fun L st σ => ev_p ((TP_134 _).trans rfl) rfl,
   fun L st σ => ev_p ((TP_134 _).trans rfl) rfl,
   fun L σ a0 => ev_call ((TP_134 _).trans rfl) rfl rfl rfl rfl,
   fun l1 st σ x => ev_p ((TP_134 _).trans rfl) rfl,
   fun L st σ a => ev_getf ((TP_134 _).trans rfl),
   fun L σ a0 => ev_callv ((TP_134 _).trans rfl) rfl rfl rfl rfl,
   fun l1 st σ x => ev_p ((TP_134 _).trans rfl) rfl,
   fun L st σ a => ev_getf ((TP_134 _).trans rfl),
   fun l0 st σ x => ev_p ((TP_134 _).trans rfl) rfl,
   fun l1 st σ x => ev_p ((TP_134 _).trans rfl) rfl,
   fun L st σ a => ev_getf ((TP_134 _).trans rfl),
   fun L σ a0 a1 a2 => ev_callv ((TP_134 _).trans rfl) rfl rfl rfl rfl,
   fun l1 st σ x => ev_p ((TP_134 _).trans rfl) rfl,
   fun L st σ a => ev_getf ((TP_134 _).trans rfl),
   fun L st σ a => ev_getf ((TP_134 _).trans rfl),
   fun L σ x => ev_r ((TP_134 _).trans rfl) rfl⟩
theorem TP_135 (pc : Nat) : TT 135 pc = ri_find TL_135 pc := rfl
theorem E_135 (x0 : Int32) (σ : ri_S) : cal 135 [.int x0] σ = ev 135 (0, [some (.int x0)], []) σ := rfl
theorem I_135 :
  (∀ (st : List Value) (σ : ri_S) (x : Int32), ev 135 (0, [some (.int x)], st) σ = ev 135 (1, [some (.int x)], .int x :: st) σ) ∧
  (∀ (L : ri_L) (st : List Value) (σ : ri_S), ev 135 (1, L, st) σ = ev 135 (2, L, .int 1 :: st) σ) ∧
  (∀ (L : ri_L) (st : List Value) (σ : ri_S) (x y : Int32), ev 135 (2, L, .int y :: .int x :: st) σ = if ¬ x = y then ev 135 (15, L, st) σ else ev 135 (5, L, st) σ) ∧
  (∀ (st : List Value) (σ : ri_S) (x : Int32), ev 135 (15, [some (.int x)], st) σ = ev 135 (16, [some (.int x)], .int x :: st) σ) ∧
  (∀ (L : ri_L) (st : List Value) (σ : ri_S), ev 135 (16, L, st) σ = ev 135 (17, L, .int 2 :: st) σ) ∧
  (∀ (L : ri_L) (st : List Value) (σ : ri_S) (x y : Int32), ev 135 (17, L, .int y :: .int x :: st) σ = if ¬ x = y then ev 135 (30, L, st) σ else ev 135 (20, L, st) σ) ∧
  (∀ (st : List Value) (σ : ri_S) (x : Int32), ev 135 (30, [some (.int x)], st) σ = ev 135 (31, [some (.int x)], .int x :: st) σ) ∧
  (∀ (L : ri_L) (st : List Value) (σ : ri_S), ev 135 (31, L, st) σ = ev 135 (32, L, .int 3 :: st) σ) ∧
  (∀ (L : ri_L) (st : List Value) (σ : ri_S) (x y : Int32), ev 135 (32, L, .int y :: .int x :: st) σ = if ¬ x = y then ev 135 (46, L, st) σ else ev 135 (35, L, st) σ) ∧
  (∀ (L : ri_L) (σ : ri_S), ev 135 (46, L, []) σ = some (none, σ)) :=
  ⟨fun st σ x => ev_p ((TP_135 _).trans rfl) rfl,
   fun L st σ => ev_p ((TP_135 _).trans rfl) rfl,
   fun L st σ x y => ev_b ((TP_135 _).trans rfl) rfl,
   fun st σ x => ev_p ((TP_135 _).trans rfl) rfl,
   fun L st σ => ev_p ((TP_135 _).trans rfl) rfl,
   fun L st σ x y => ev_b ((TP_135 _).trans rfl) rfl,
   fun st σ x => ev_p ((TP_135 _).trans rfl) rfl,
   fun L st σ => ev_p ((TP_135 _).trans rfl) rfl,
   fun L st σ x y => ev_b ((TP_135 _).trans rfl) rfl,
   fun L σ => ev_r ((TP_135 _).trans rfl) rfl⟩
theorem TP_136 (pc : Nat) : TT 136 pc = ri_find TL_136 pc := rfl
theorem E_136 (x0 : Int32) (x1 : Int32) (σ : ri_S) : cal 136 [.int x0, .int x1] σ = ev 136 (0, [some (.int x0), some (.int x1)], []) σ := rfl
theorem I_136 :
  (∀ (l1 : Option Value) (st : List Value) (σ : ri_S) (x : Int32), ev 136 (0, [some (.int x), l1], st) σ = ev 136 (1, [some (.int x), l1], .int x :: st) σ) ∧
  (∀ (L : ri_L) (st : List Value) (σ : ri_S), ev 136 (1, L, st) σ = ev 136 (2, L, .int 0 :: st) σ) ∧
  (∀ (l0 : Option Value) (st : List Value) (σ : ri_S) (x : Int32), ev 136 (2, [l0, some (.int x)], st) σ = ev 136 (3, [l0, some (.int x)], .int x :: st) σ) ∧
  (∀ (L : ri_L) (σ : ri_S) (a0 : Int32) (a1 : Int32) (a2 : Int32), ev 136 (3, L, [.int a2, .int a1, .int a0]) σ = (cal 137 [.int a0, .int a1, .int a2] σ).bind fun q => ev 136 (6, L, q.1.toList ++ []) q.2) ∧
  (∀ (L : ri_L) (st : List Value) (σ : ri_S) (x : Int32), ev 136 (6, L, .int x :: st) σ = if x = 0 then ev 136 (13, L, st) σ else ev 136 (9, L, st) σ) ∧
  (∀ (L : ri_L) (st : List Value) (σ : ri_S), ev 136 (9, L, st) σ = ev 136 (10, L, .int 0 :: st) σ) ∧
  (∀ (L : ri_L) (st : List Value) (σ : ri_S), ev 136 (10, L, st) σ = ev 136 (14, L, st) σ) ∧
  (∀ (L : ri_L) (st : List Value) (σ : ri_S), ev 136 (13, L, st) σ = ev 136 (14, L, .int 2 :: st) σ) ∧
  (∀ (L : ri_L) (σ : ri_S) (x : Int32), ev 136 (14, L, [.int x]) σ = some (some (.int x), σ)) :=
  ⟨fun l1 st σ x => ev_p ((TP_136 _).trans rfl) rfl,
   fun L st σ => ev_p ((TP_136 _).trans rfl) rfl,
   fun l0 st σ x => ev_p ((TP_136 _).trans rfl) rfl,
   fun L σ a0 a1 a2 => ev_call ((TP_136 _).trans rfl) rfl rfl rfl rfl,
   fun L st σ x => ev_b ((TP_136 _).trans rfl) rfl,
   fun L st σ => ev_p ((TP_136 _).trans rfl) rfl,
   fun L st σ => ev_p ((TP_136 _).trans rfl) rfl,
   fun L st σ => ev_p ((TP_136 _).trans rfl) rfl,
   fun L σ x => ev_r ((TP_136 _).trans rfl) rfl⟩
theorem TP_137 (pc : Nat) : TT 137 pc = ri_find TL_137 pc := rfl
theorem E_137 (x0 : Int32) (x1 : Int32) (x2 : Int32) (σ : ri_S) : cal 137 [.int x0, .int x1, .int x2] σ = ev 137 (0, [some (.int x0), some (.int x1), some (.int x2)], []) σ := rfl
theorem I_137 :
  (∀ (l1 l2 : Option Value) (st : List Value) (σ : ri_S) (x : Int32), ev 137 (0, [some (.int x), l1, l2], st) σ = ev 137 (1, [some (.int x), l1, l2], .int x :: st) σ) ∧
  (∀ (l0 l2 : Option Value) (st : List Value) (σ : ri_S) (x : Int32), ev 137 (1, [l0, some (.int x), l2], st) σ = ev 137 (2, [l0, some (.int x), l2], .int x :: st) σ) ∧
  (∀ (L : ri_L) (st : List Value) (σ : ri_S) (x y : Int32), ev 137 (2, L, .int y :: .int x :: st) σ = if x < y then ev 137 (14, L, st) σ else ev 137 (5, L, st) σ) ∧
  (∀ (l1 l2 : Option Value) (st : List Value) (σ : ri_S) (x : Int32), ev 137 (5, [some (.int x), l1, l2], st) σ = ev 137 (6, [some (.int x), l1, l2], .int x :: st) σ) ∧
  (∀ (l0 l1 : Option Value) (st : List Value) (σ : ri_S) (x : Int32), ev 137 (6, [l0, l1, some (.int x)], st) σ = ev 137 (7, [l0, l1, some (.int x)], .int x :: st) σ) ∧
  (∀ (L : ri_L) (st : List Value) (σ : ri_S) (x y : Int32), ev 137 (7, L, .int y :: .int x :: st) σ = if y < x then ev 137 (14, L, st) σ else ev 137 (10, L, st) σ) ∧
  (∀ (L : ri_L) (st : List Value) (σ : ri_S), ev 137 (10, L, st) σ = ev 137 (11, L, .int 1 :: st) σ) ∧
  (∀ (L : ri_L) (st : List Value) (σ : ri_S), ev 137 (11, L, st) σ = ev 137 (15, L, st) σ) ∧
  (∀ (L : ri_L) (st : List Value) (σ : ri_S), ev 137 (14, L, st) σ = ev 137 (15, L, .int 0 :: st) σ) ∧
  (∀ (L : ri_L) (σ : ri_S) (x : Int32), ev 137 (15, L, [.int x]) σ = tv_b x (some (some (.int x), σ))) :=
  ⟨fun l1 l2 st σ x => ev_p ((TP_137 _).trans rfl) rfl,
   fun l0 l2 st σ x => ev_p ((TP_137 _).trans rfl) rfl,
   fun L st σ x y => ev_b ((TP_137 _).trans rfl) rfl,
   fun l1 l2 st σ x => ev_p ((TP_137 _).trans rfl) rfl,
   fun l0 l1 st σ x => ev_p ((TP_137 _).trans rfl) rfl,
   fun L st σ x y => ev_b ((TP_137 _).trans rfl) rfl,
   fun L st σ => ev_p ((TP_137 _).trans rfl) rfl,
   fun L st σ => ev_p ((TP_137 _).trans rfl) rfl,
   fun L st σ => ev_p ((TP_137 _).trans rfl) rfl,
   fun L σ x => ev_r ((TP_137 _).trans rfl) rfl⟩
theorem TP_138 (pc : Nat) : TT 138 pc = ri_find TL_138 pc := rfl
theorem E_138 (x0 : Int32) (x1 : Int32) (σ : ri_S) : cal 138 [.int x0, .int x1] σ = ev 138 (0, [some (.int x0), some (.int x1)], []) σ := rfl
theorem I_138 :
  (∀ (l1 : Option Value) (st : List Value) (σ : ri_S) (x : Int32), ev 138 (0, [some (.int x), l1], st) σ = ev 138 (1, [some (.int x), l1], .int x :: st) σ) ∧
  (∀ (L : ri_L) (st : List Value) (σ : ri_S), ev 138 (1, L, st) σ = ev 138 (2, L, .int 5 :: st) σ) ∧
  (∀ (L : ri_L) (st : List Value) (σ : ri_S) (x y : Int32), ev 138 (2, L, .int y :: .int x :: st) σ = ev 138 (3, L, .int (x * y) :: st) σ) ∧
  (∀ (l0 : Option Value) (st : List Value) (σ : ri_S) (x : Int32), ev 138 (3, [l0, some (.int x)], st) σ = ev 138 (4, [l0, some (.int x)], .int x :: st) σ) ∧
  (∀ (L : ri_L) (st : List Value) (σ : ri_S) (x y : Int32), ev 138 (4, L, .int y :: .int x :: st) σ = ev 138 (5, L, .int (x + y) :: st) σ) ∧
  (∀ (L : ri_L) (σ : ri_S) (x : Int32), ev 138 (5, L, [.int x]) σ = some (some (.int x), σ)) :=
  ⟨fun l1 st σ x => ev_p ((TP_138 _).trans rfl) rfl,
   fun L st σ => ev_p ((TP_138 _).trans rfl) rfl,
   fun L st σ x y => ev_p ((TP_138 _).trans rfl) rfl,
   fun l0 st σ x => ev_p ((TP_138 _).trans rfl) rfl,
   fun L st σ x y => ev_p ((TP_138 _).trans rfl) rfl,
   fun L σ x => ev_r ((TP_138 _).trans rfl) rfl⟩
theorem TP_139 (pc : Nat) : TT 139 pc = ri_find TL_139 pc := rfl
theorem E_139 (x0 : Int32) (x1 : Int32) (σ : ri_S) : cal 139 [.int x0, .int x1] σ = ev 139 (0, [some (.int x0), some (.int x1)], []) σ := rfl
theorem I_139 :
  (∀ (l0 : Option Value) (st : List Value) (σ : ri_S) (x : Int32), ev 139 (0, [l0, some (.int x)], st) σ = ev 139 (1, [l0, some (.int x)], .int x :: st) σ) ∧
  (∀ (L : ri_L) (st : List Value) (σ : ri_S) (x : Int32), ev 139 (1, L, .int x :: st) σ = if x ≤ 0 then ev 139 (14, L, st) σ else ev 139 (4, L, st) σ) ∧
  (∀ (l1 : Option Value) (st : List Value) (σ : ri_S) (x : Int32), ev 139 (4, [some (.int x), l1], st) σ = ev 139 (5, [some (.int x), l1], .int x :: st) σ) ∧
  (∀ (l0 : Option Value) (st : List Value) (σ : ri_S) (x : Int32), ev 139 (5, [l0, some (.int x)], st) σ = ev 139 (6, [l0, some (.int x)], .int x :: st) σ) ∧
  (∀ (L : ri_L) (st : List Value) (σ : ri_S) (x y : Int32), ev 139 (6, L, .int y :: .int x :: st) σ = if y = 0 then none else ev 139 (7, L, .int (x - x / y * y) :: st) σ) ∧
  (∀ (l0 : Option Value) (st : List Value) (σ : ri_S) (x : Int32), ev 139 (7, [l0, some (.int x)], st) σ = ev 139 (8, [l0, some (.int x)], .int x :: st) σ) ∧
  (∀ (L : ri_L) (st : List Value) (σ : ri_S) (x y : Int32), ev 139 (8, L, .int y :: .int x :: st) σ = ev 139 (9, L, .int (x + y) :: st) σ) ∧
  (∀ (l0 : Option Value) (st : List Value) (σ : ri_S) (x : Int32), ev 139 (9, [l0, some (.int x)], st) σ = ev 139 (10, [l0, some (.int x)], .int x :: st) σ) ∧
  (∀ (L : ri_L) (st : List Value) (σ : ri_S) (x y : Int32), ev 139 (10, L, .int y :: .int x :: st) σ = if y = 0 then none else ev 139 (11, L, .int (x - x / y * y) :: st) σ) ∧
  (∀ (L : ri_L) (st : List Value) (σ : ri_S), ev 139 (11, L, st) σ = ev 139 (15, L, st) σ) ∧
  (∀ (L : ri_L) (st : List Value) (σ : ri_S), ev 139 (14, L, st) σ = ev 139 (15, L, .int 0 :: st) σ) ∧
  (∀ (L : ri_L) (σ : ri_S) (x : Int32), ev 139 (15, L, [.int x]) σ = some (some (.int x), σ)) :=
  ⟨fun l0 st σ x => ev_p ((TP_139 _).trans rfl) rfl,
   fun L st σ x => ev_b ((TP_139 _).trans rfl) rfl,
   fun l1 st σ x => ev_p ((TP_139 _).trans rfl) rfl,
   fun l0 st σ x => ev_p ((TP_139 _).trans rfl) rfl,
   fun L st σ x y => ev_d ((TP_139 _).trans rfl) rfl,
   fun l0 st σ x => ev_p ((TP_139 _).trans rfl) rfl,
   fun L st σ x y => ev_p ((TP_139 _).trans rfl) rfl,
   fun l0 st σ x => ev_p ((TP_139 _).trans rfl) rfl,
   fun L st σ x y => ev_d ((TP_139 _).trans rfl) rfl,
   fun L st σ => ev_p ((TP_139 _).trans rfl) rfl,
   fun L st σ => ev_p ((TP_139 _).trans rfl) rfl,
   fun L σ x => ev_r ((TP_139 _).trans rfl) rfl⟩
theorem TP_140 (pc : Nat) : TT 140 pc = ri_find TL_140 pc := rfl
theorem E_140 (x0 : Nat) (x1 : Int32) (σ : ri_S) : cal 140 [.ref x0, .int x1] σ = ev 140 (0, [some (.ref x0), some (.int x1)], []) σ := rfl
theorem I_140 :
  (∀ (l0 : Option Value) (st : List Value) (σ : ri_S) (x : Int32), ev 140 (0, [l0, some (.int x)], st) σ = ev 140 (1, [l0, some (.int x)], .int x :: st) σ) ∧
  (∀ (L : ri_L) (st : List Value) (σ : ri_S) (x : Int32), ev 140 (1, L, .int x :: st) σ = if x < 0 then ev 140 (16, L, st) σ else ev 140 (4, L, st) σ) ∧
  (∀ (l0 : Option Value) (st : List Value) (σ : ri_S) (x : Int32), ev 140 (4, [l0, some (.int x)], st) σ = ev 140 (5, [l0, some (.int x)], .int x :: st) σ) ∧
  (∀ (l1 : Option Value) (st : List Value) (σ : ri_S) (x : Nat), ev 140 (5, [some (.ref x), l1], st) σ = ev 140 (6, [some (.ref x), l1], .ref x :: st) σ) ∧
  (∀ (L : ri_L) (st : List Value) (σ : ri_S) (a : Nat), ev 140 (6, L, .ref a :: st) σ = tv_n (σ.1 a) fun n => ev 140 (7, L, .int (Int32.ofNat n) :: st) σ) ∧
  (∀ (L : ri_L) (st : List Value) (σ : ri_S) (x y : Int32), ev 140 (7, L, .int y :: .int x :: st) σ = if y ≤ x then ev 140 (16, L, st) σ else ev 140 (10, L, st) σ) ∧
  (∀ (l1 : Option Value) (st : List Value) (σ : ri_S) (x : Nat), ev 140 (10, [some (.ref x), l1], st) σ = ev 140 (11, [some (.ref x), l1], .ref x :: st) σ) ∧
  (∀ (l0 : Option Value) (st : List Value) (σ : ri_S) (x : Int32), ev 140 (11, [l0, some (.int x)], st) σ = ev 140 (12, [l0, some (.int x)], .int x :: st) σ) ∧
  (∀ (L : ri_L) (st : List Value) (σ : ri_S) (a : Nat) (i : Int32), ev 140 (12, L, .int i :: .ref a :: st) σ = tv_r 0 (σ.1 a) i fun n f j => ev 140 (13, L, .int (f j) :: st) σ) ∧
  (∀ (L : ri_L) (st : List Value) (σ : ri_S), ev 140 (13, L, st) σ = ev 140 (17, L, st) σ) ∧
  (∀ (L : ri_L) (st : List Value) (σ : ri_S), ev 140 (16, L, st) σ = ev 140 (17, L, .int 0 :: st) σ) ∧
  (∀ (L : ri_L) (σ : ri_S) (x : Int32), ev 140 (17, L, [.int x]) σ = some (some (.int x), σ)) :=
  ⟨fun l0 st σ x => ev_p ((TP_140 _).trans rfl) rfl,
   fun L st σ x => ev_b ((TP_140 _).trans rfl) rfl,
   fun l0 st σ x => ev_p ((TP_140 _).trans rfl) rfl,
   fun l1 st σ x => ev_p ((TP_140 _).trans rfl) rfl,
   fun L st σ a => ev_alen ((TP_140 _).trans rfl),
   fun L st σ x y => ev_b ((TP_140 _).trans rfl) rfl,
   fun l1 st σ x => ev_p ((TP_140 _).trans rfl) rfl,
   fun l0 st σ x => ev_p ((TP_140 _).trans rfl) rfl,
   fun L st σ a i => ev_iald ((TP_140 _).trans rfl),
   fun L st σ => ev_p ((TP_140 _).trans rfl) rfl,
   fun L st σ => ev_p ((TP_140 _).trans rfl) rfl,
   fun L σ x => ev_r ((TP_140 _).trans rfl) rfl⟩
theorem TP_141 (pc : Nat) : TT 141 pc = ri_find TL_141 pc := rfl
theorem E_141 (x0 : Nat) (x1 : Int32) (x2 : Int32) (σ : ri_S) : cal 141 [.ref x0, .int x1, .int x2] σ = ev 141 (0, [some (.ref x0), some (.int x1), some (.int x2)], []) σ := rfl
theorem I_141 :
  (∀ (l0 l2 : Option Value) (st : List Value) (σ : ri_S) (x : Int32), ev 141 (0, [l0, some (.int x), l2], st) σ = ev 141 (1, [l0, some (.int x), l2], .int x :: st) σ) ∧
  (∀ (L : ri_L) (st : List Value) (σ : ri_S) (x : Int32), ev 141 (1, L, .int x :: st) σ = if x < 0 then ev 141 (14, L, st) σ else ev 141 (4, L, st) σ) ∧
  (∀ (l0 l2 : Option Value) (st : List Value) (σ : ri_S) (x : Int32), ev 141 (4, [l0, some (.int x), l2], st) σ = ev 141 (5, [l0, some (.int x), l2], .int x :: st) σ) ∧
  (∀ (l1 l2 : Option Value) (st : List Value) (σ : ri_S) (x : Nat), ev 141 (5, [some (.ref x), l1, l2], st) σ = ev 141 (6, [some (.ref x), l1, l2], .ref x :: st) σ) ∧
  (∀ (L : ri_L) (st : List Value) (σ : ri_S) (a : Nat), ev 141 (6, L, .ref a :: st) σ = tv_n (σ.1 a) fun n => ev 141 (7, L, .int (Int32.ofNat n) :: st) σ) ∧
  (∀ (L : ri_L) (st : List Value) (σ : ri_S) (x y : Int32), ev 141 (7, L, .int y :: .int x :: st) σ = if y ≤ x then ev 141 (14, L, st) σ else ev 141 (10, L, st) σ) ∧
  (∀ (l1 l2 : Option Value) (st : List Value) (σ : ri_S) (x : Nat), ev 141 (10, [some (.ref x), l1, l2], st) σ = ev 141 (11, [some (.ref x), l1, l2], .ref x :: st) σ) ∧
  (∀ (l0 l2 : Option Value) (st : List Value) (σ : ri_S) (x : Int32), ev 141 (11, [l0, some (.int x), l2], st) σ = ev 141 (12, [l0, some (.int x), l2], .int x :: st) σ) ∧
  (∀ (l0 l1 : Option Value) (st : List Value) (σ : ri_S) (x : Int32), ev 141 (12, [l0, l1, some (.int x)], st) σ = ev 141 (13, [l0, l1, some (.int x)], .int x :: st) σ) ∧
  (∀ (L : ri_L) (st : List Value) (σ : ri_S) (a : Nat) (i x : Int32), ev 141 (13, L, .int x :: .int i :: .ref a :: st) σ = tv_r 0 (σ.1 a) i fun n f j => ev 141 (14, L, st) (ri_upd σ.1 a (.inl (0, n, upd f j x)), σ.2)) ∧
  (∀ (L : ri_L) (σ : ri_S), ev 141 (14, L, []) σ = some (none, σ)) :=
  ⟨fun l0 l2 st σ x => ev_p ((TP_141 _).trans rfl) rfl,
   fun L st σ x => ev_b ((TP_141 _).trans rfl) rfl,
   fun l0 l2 st σ x => ev_p ((TP_141 _).trans rfl) rfl,
   fun l1 l2 st σ x => ev_p ((TP_141 _).trans rfl) rfl,
   fun L st σ a => ev_alen ((TP_141 _).trans rfl),
   fun L st σ x y => ev_b ((TP_141 _).trans rfl) rfl,
   fun l1 l2 st σ x => ev_p ((TP_141 _).trans rfl) rfl,
   fun l0 l2 st σ x => ev_p ((TP_141 _).trans rfl) rfl,
   fun l0 l1 st σ x => ev_p ((TP_141 _).trans rfl) rfl,
   fun L st σ a i x => ev_iast ((TP_141 _).trans rfl),
   fun L σ => ev_r ((TP_141 _).trans rfl) rfl⟩
theorem TP_142 (pc : Nat) : TT 142 pc = ri_find TL_142 pc := rfl
theorem E_142 (x0 : Nat) (x1 : Nat) (σ : ri_S) : cal 142 [.ref x0, .ref x1] σ = ev 142 (0, [some (.ref x0), some (.ref x1)], []) σ := rfl
theorem I_142 :
  (∀ (l1 : Option Value) (st : List Value) (σ : ri_S) (x : Nat), ev 142 (0, [some (.ref x), l1], st) σ = ev 142 (1, [some (.ref x), l1], .ref x :: st) σ) ∧
  (∀ (L : ri_L) (st : List Value) (σ : ri_S), ev 142 (1, L, st) σ = ev 142 (2, L, .int 0 :: st) σ) ∧
  (∀ (l0 : Option Value) (st : List Value) (σ : ri_S) (x : Nat), ev 142 (2, [l0, some (.ref x)], st) σ = ev 142 (3, [l0, some (.ref x)], .ref x :: st) σ) ∧
  (∀ (L : ri_L) (st : List Value) (σ : ri_S), ev 142 (3, L, st) σ = ev 142 (4, L, .int 0 :: st) σ) ∧
  (∀ (l1 : Option Value) (st : List Value) (σ : ri_S) (x : Nat), ev 142 (4, [some (.ref x), l1], st) σ = ev 142 (5, [some (.ref x), l1], .ref x :: st) σ) ∧
  (∀ (L : ri_L) (st : List Value) (σ : ri_S) (a : Nat), ev 142 (5, L, .ref a :: st) σ = tv_n (σ.1 a) fun n => ev 142 (6, L, .int (Int32.ofNat n) :: st) σ) ∧
  (∀ (l0 : Option Value) (st : List Value) (σ : ri_S) (x : Nat), ev 142 (6, [l0, some (.ref x)], st) σ = ev 142 (7, [l0, some (.ref x)], .ref x :: st) σ) ∧
  (∀ (L : ri_L) (st : List Value) (σ : ri_S) (a : Nat), ev 142 (7, L, .ref a :: st) σ = tv_n (σ.1 a) fun n => ev 142 (8, L, .int (Int32.ofNat n) :: st) σ) ∧
  (∀ (L : ri_L) (σ : ri_S) (x y : Int32) (s0 s1 s2 s3 : Value), ev 142 (8, L, .int y :: .int x :: [s0, s1, s2, s3]) σ = ev 142 (11, L, .int (if y < x then y else x) :: [s0, s1, s2, s3]) σ) ∧
  (∀ (L : ri_L) (σ : ri_S) (n dp sp : Int32) (a b : Nat), ev 142 (11, L, [.int n, .int dp, .ref b, .int sp, .ref a]) σ = tv_c (σ.1 a) (σ.1 b) sp dp n fun n1 f => ev 142 (14, L, []) (ri_upd σ.1 b (.inl (0, n1, f)), σ.2)) ∧
  (∀ (L : ri_L) (σ : ri_S), ev 142 (14, L, []) σ = some (none, σ)) :=
  ⟨fun l1 st σ x => ev_p ((TP_142 _).trans rfl) rfl,
   fun L st σ => ev_p ((TP_142 _).trans rfl) rfl,
   fun l0 st σ x => ev_p ((TP_142 _).trans rfl) rfl,
   fun L st σ => ev_p ((TP_142 _).trans rfl) rfl,
   fun l1 st σ x => ev_p ((TP_142 _).trans rfl) rfl,
   fun L st σ a => ev_alen ((TP_142 _).trans rfl),
   fun l0 st σ x => ev_p ((TP_142 _).trans rfl) rfl,
   fun L st σ a => ev_alen ((TP_142 _).trans rfl),
   fun L σ x y s0 s1 s2 s3 => ev_p ((TP_142 _).trans rfl) rfl,
   fun L σ n dp sp a b => ev_copy ((TP_142 _).trans rfl),
   fun L σ => ev_r ((TP_142 _).trans rfl) rfl⟩
theorem TP_229 (pc : Nat) : TT 229 pc = ri_find TL_229 pc := rfl
theorem E_229 (x0 : Nat) (x1 : Int32) (σ : ri_S) : cal 229 [.ref x0, .int x1] σ = ev 229 (0, [some (.ref x0), some (.int x1), none, none], []) σ := rfl
theorem H_229_5 (l0 l1 l3 : Option Value) (st : List Value) (σ : ri_S) (x : Int32) : ev 229 (5, [l0, l1, some (.int x), l3], st) σ = ev 229 (6, [l0, l1, some (.int x), l3], .int x :: st) σ := ev_p ((TP_229 _).trans rfl) rfl
theorem I_229 :
  (∀ (L : ri_L) (st : List Value) (σ : ri_S), ev 229 (0, L, st) σ = ev 229 (1, L, .int 0 :: st) σ) ∧
  (∀ (l0 l1 l2 l3 : Option Value) (st : List Value) (σ : ri_S) (x : Int32), ev 229 (1, [l0, l1, l2, l3], .int x :: st) σ = ev 229 (2, [l0, ri_clr l1, some (.int x), l3], st) σ) ∧
  (∀ (l1 l2 l3 : Option Value) (st : List Value) (σ : ri_S) (x : Nat), ev 229 (2, [some (.ref x), l1, l2, l3], st) σ = ev 229 (3, [some (.ref x), l1, l2, l3], .ref x :: st) σ) ∧
  (∀ (L : ri_L) (st : List Value) (σ : ri_S) (a : Nat), ev 229 (3, L, .ref a :: st) σ = tv_n (σ.1 a) fun n => ev 229 (4, L, .int (Int32.ofNat n) :: st) σ) ∧
  (∀ (l0 l1 l2 l3 : Option Value) (st : List Value) (σ : ri_S) (x : Int32), ev 229 (4, [l0, l1, l2, l3], .int x :: st) σ = ev 229 (5, [l0, l1, ri_clr l2, some (.int x)], st) σ) ∧
  (∀ (l0 l1 l2 : Option Value) (st : List Value) (σ : ri_S) (x : Int32), ev 229 (6, [l0, l1, l2, some (.int x)], st) σ = ev 229 (7, [l0, l1, l2, some (.int x)], .int x :: st) σ) ∧
  (∀ (L : ri_L) (st : List Value) (σ : ri_S) (x y : Int32), ev 229 (7, L, .int y :: .int x :: st) σ = if y ≤ x then ev 229 (20, L, st) σ else ev 229 (10, L, st) σ) ∧
  (∀ (l1 l2 l3 : Option Value) (st : List Value) (σ : ri_S) (x : Nat), ev 229 (10, [some (.ref x), l1, l2, l3], st) σ = ev 229 (11, [some (.ref x), l1, l2, l3], .ref x :: st) σ) ∧
  (∀ (l0 l1 l3 : Option Value) (st : List Value) (σ : ri_S) (x : Int32), ev 229 (11, [l0, l1, some (.int x), l3], st) σ = ev 229 (12, [l0, l1, some (.int x), l3], .int x :: st) σ) ∧
  (∀ (l0 l2 l3 : Option Value) (st : List Value) (σ : ri_S) (x : Int32), ev 229 (12, [l0, some (.int x), l2, l3], st) σ = ev 229 (13, [l0, some (.int x), l2, l3], .int x :: st) σ) ∧
  (∀ (L : ri_L) (st : List Value) (σ : ri_S) (a : Nat) (i x : Int32), ev 229 (13, L, .int x :: .int i :: .ref a :: st) σ = tv_r 0 (σ.1 a) i fun n f j => ev 229 (14, L, st) (ri_upd σ.1 a (.inl (0, n, upd f j x)), σ.2)) ∧
  (∀ (l0 l1 l3 : Option Value) (st : List Value) (σ : ri_S) (x : Int32), ev 229 (14, [l0, l1, some (.int x), l3], st) σ = ev 229 (17, [l0, ri_clr l1, some (.int (x + 1)), l3], st) σ) ∧
  (∀ (L : ri_L) (st : List Value) (σ : ri_S), ev 229 (17, L, st) σ = ev 229 (5, L, st) σ) ∧
  (∀ (L : ri_L) (σ : ri_S), ev 229 (20, L, []) σ = some (none, σ)) :=
  ⟨fun L st σ => ev_p ((TP_229 _).trans rfl) rfl,
   fun l0 l1 l2 l3 st σ x => ev_p ((TP_229 _).trans rfl) rfl,
   fun l1 l2 l3 st σ x => ev_p ((TP_229 _).trans rfl) rfl,
   fun L st σ a => ev_alen ((TP_229 _).trans rfl),
   fun l0 l1 l2 l3 st σ x => ev_p ((TP_229 _).trans rfl) rfl,
   fun l0 l1 l2 st σ x => ev_p ((TP_229 _).trans rfl) rfl,
   fun L st σ x y => ev_b ((TP_229 _).trans rfl) rfl,
   fun l1 l2 l3 st σ x => ev_p ((TP_229 _).trans rfl) rfl,
   fun l0 l1 l3 st σ x => ev_p ((TP_229 _).trans rfl) rfl,
   fun l0 l2 l3 st σ x => ev_p ((TP_229 _).trans rfl) rfl,
   fun L st σ a i x => ev_iast ((TP_229 _).trans rfl),
   fun l0 l1 l3 st σ x => ev_p ((TP_229 _).trans rfl) rfl,
   fun L st σ => ev_p ((TP_229 _).trans rfl) rfl,
   fun L σ => ev_r ((TP_229 _).trans rfl) rfl⟩
