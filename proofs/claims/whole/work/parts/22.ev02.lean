/-! How each method reads on. -/
theorem TP_94 (pc : Nat) : TT 94 pc = ri_find TL_94 pc := rfl
theorem E_94 (x0 : Nat) (x1 : Nat) (x2 : Int32) (σ : ri_S) : cal 94 [.ref x0, .ref x1, .int x2] σ = ev 94 (0, [some (.ref x0), some (.ref x1), some (.int x2), none, none, none, none], []) σ := rfl
theorem I_94_0 :
  (∀ (l1 l2 l3 l4 l5 l6 : Option Value) (st : List Value) (σ : ri_S) (x : Nat), ev 94 (0, [some (.ref x), l1, l2, l3, l4, l5, l6], st) σ = ev 94 (1, [some (.ref x), l1, l2, l3, l4, l5, l6], .ref x :: st) σ) ∧
  (∀ (l0 l1 l3 l4 l5 l6 : Option Value) (st : List Value) (σ : ri_S) (x : Int32), ev 94 (1, [l0, l1, some (.int x), l3, l4, l5, l6], st) σ = ev 94 (2, [l0, l1, some (.int x), l3, l4, l5, l6], .int x :: st) σ) ∧
  (∀ (L : ri_L) (st : List Value) (σ : ri_S), ev 94 (2, L, st) σ = ev 94 (3, L, .int 1 :: st) σ) ∧
  (∀ (L : ri_L) (st : List Value) (σ : ri_S) (x y : Int32), ev 94 (3, L, .int y :: .int x :: st) σ = ev 94 (4, L, .int (x + y) :: st) σ) ∧
  (∀ (L : ri_L) (σ : ri_S) (a0 : Nat) (a1 : Int32), ev 94 (4, L, [.int a1, .ref a0]) σ = tv_k 6 (σ.1 a0) ((cal 95 [.ref a0, .int a1] σ).bind fun q => ev 94 (7, L, q.1.toList ++ []) q.2)) ∧
  (∀ (l0 l1 l2 l3 l4 l5 l6 : Option Value) (st : List Value) (σ : ri_S) (x : Int32), ev 94 (7, [l0, l1, l2, l3, l4, l5, l6], .int x :: st) σ = ev 94 (8, [l0, l1, ri_clr l2, some (.int x), l4, l5, l6], st) σ) ∧
  (∀ (l1 l2 l3 l4 l5 l6 : Option Value) (st : List Value) (σ : ri_S) (x : Nat), ev 94 (8, [some (.ref x), l1, l2, l3, l4, l5, l6], st) σ = ev 94 (9, [some (.ref x), l1, l2, l3, l4, l5, l6], .ref x :: st) σ) ∧
  (∀ (l0 l1 l3 l4 l5 l6 : Option Value) (st : List Value) (σ : ri_S) (x : Int32), ev 94 (9, [l0, l1, some (.int x), l3, l4, l5, l6], st) σ = ev 94 (10, [l0, l1, some (.int x), l3, l4, l5, l6], .int x :: st) σ) ∧
  (∀ (L : ri_L) (st : List Value) (σ : ri_S), ev 94 (10, L, st) σ = ev 94 (11, L, .int 2 :: st) σ) ∧
  (∀ (L : ri_L) (st : List Value) (σ : ri_S) (x y : Int32), ev 94 (11, L, .int y :: .int x :: st) σ = ev 94 (12, L, .int (x + y) :: st) σ) ∧
  (∀ (L : ri_L) (σ : ri_S) (a0 : Nat) (a1 : Int32), ev 94 (12, L, [.int a1, .ref a0]) σ = tv_k 6 (σ.1 a0) ((cal 95 [.ref a0, .int a1] σ).bind fun q => ev 94 (15, L, q.1.toList ++ []) q.2)) ∧
  (∀ (l0 l1 l2 l3 l4 l5 l6 : Option Value) (st : List Value) (σ : ri_S) (x : Int32), ev 94 (15, [l0, l1, l2, l3, l4, l5, l6], .int x :: st) σ = ev 94 (17, [l0, l1, l2, ri_clr l3, some (.int x), l5, l6], st) σ) ∧
  (∀ (l1 l2 l3 l4 l5 l6 : Option Value) (st : List Value) (σ : ri_S) (x : Nat), ev 94 (17, [some (.ref x), l1, l2, l3, l4, l5, l6], st) σ = ev 94 (18, [some (.ref x), l1, l2, l3, l4, l5, l6], .ref x :: st) σ) ∧
  (∀ (l0 l1 l3 l4 l5 l6 : Option Value) (st : List Value) (σ : ri_S) (x : Int32), ev 94 (18, [l0, l1, some (.int x), l3, l4, l5, l6], st) σ = ev 94 (19, [l0, l1, some (.int x), l3, l4, l5, l6], .int x :: st) σ) ∧
  (∀ (L : ri_L) (st : List Value) (σ : ri_S), ev 94 (19, L, st) σ = ev 94 (20, L, .int 3 :: st) σ) ∧
  (∀ (L : ri_L) (st : List Value) (σ : ri_S) (x y : Int32), ev 94 (20, L, .int y :: .int x :: st) σ = ev 94 (21, L, .int (x + y) :: st) σ) ∧
  (∀ (L : ri_L) (σ : ri_S) (a0 : Nat) (a1 : Int32), ev 94 (21, L, [.int a1, .ref a0]) σ = tv_k 6 (σ.1 a0) ((cal 95 [.ref a0, .int a1] σ).bind fun q => ev 94 (24, L, q.1.toList ++ []) q.2)) ∧
  (∀ (l0 l1 l2 l3 l4 l5 l6 : Option Value) (st : List Value) (σ : ri_S) (x : Int32), ev 94 (24, [l0, l1, l2, l3, l4, l5, l6], .int x :: st) σ = ev 94 (26, [l0, l1, l2, l3, ri_clr l4, some (.int x), l6], st) σ) ∧
  (∀ (l1 l2 l3 l4 l5 l6 : Option Value) (st : List Value) (σ : ri_S) (x : Nat), ev 94 (26, [some (.ref x), l1, l2, l3, l4, l5, l6], st) σ = ev 94 (27, [some (.ref x), l1, l2, l3, l4, l5, l6], .ref x :: st) σ) ∧
  (∀ (l0 l1 l3 l4 l5 l6 : Option Value) (st : List Value) (σ : ri_S) (x : Int32), ev 94 (27, [l0, l1, some (.int x), l3, l4, l5, l6], st) σ = ev 94 (28, [l0, l1, some (.int x), l3, l4, l5, l6], .int x :: st) σ) ∧
  (∀ (L : ri_L) (st : List Value) (σ : ri_S), ev 94 (28, L, st) σ = ev 94 (29, L, .int 4 :: st) σ) ∧
  (∀ (L : ri_L) (st : List Value) (σ : ri_S) (x y : Int32), ev 94 (29, L, .int y :: .int x :: st) σ = ev 94 (30, L, .int (x + y) :: st) σ) ∧
  (∀ (L : ri_L) (σ : ri_S) (a0 : Nat) (a1 : Int32), ev 94 (30, L, [.int a1, .ref a0]) σ = tv_k 6 (σ.1 a0) ((cal 95 [.ref a0, .int a1] σ).bind fun q => ev 94 (33, L, q.1.toList ++ []) q.2)) ∧
  (∀ (l0 l1 l2 l3 l4 l5 l6 : Option Value) (st : List Value) (σ : ri_S) (x : Int32), ev 94 (33, [l0, l1, l2, l3, l4, l5, l6], .int x :: st) σ = ev 94 (35, [l0, l1, l2, l3, l4, ri_clr l5, some (.int x)], st) σ) ∧
  (∀ (l1 l2 l3 l4 l5 l6 : Option Value) (st : List Value) (σ : ri_S) (x : Nat), ev 94 (35, [some (.ref x), l1, l2, l3, l4, l5, l6], st) σ = ev 94 (36, [some (.ref x), l1, l2, l3, l4, l5, l6], .ref x :: st) σ) ∧
  (∀ (L : ri_L) (st : List Value) (σ : ri_S) (a : Nat), ev 94 (36, L, .ref a :: st) σ = tv_o 6 0 (σ.1 a) fun v => ev 94 (39, L, v :: st) σ) ∧
  (∀ (l0 l1 l3 l4 l5 l6 : Option Value) (st : List Value) (σ : ri_S) (x : Int32), ev 94 (39, [l0, l1, some (.int x), l3, l4, l5, l6], st) σ = ev 94 (40, [l0, l1, some (.int x), l3, l4, l5, l6], .int x :: st) σ) ∧
  (∀ (L : ri_L) (σ : ri_S) (a0 : Nat) (a1 : Int32), ev 94 (40, L, [.int a1, .ref a0]) σ = (cal 140 [.ref a0, .int a1] σ).bind fun q => ev 94 (43, L, q.1.toList ++ []) q.2) ∧
  (∀ (L : ri_L) (st : List Value) (σ : ri_S) (x : Int32), ev 94 (43, L, .int x :: st) σ = if x = 102 then ev 94 (166, L, st) σ else if x = 103 then ev 94 (236, L, st) σ else if x = 104 then ev 94 (202, L, st) σ else if x = 105 then ev 94 (236, L, st) σ else if x = 106 then ev 94 (186, L, st) σ else if x = 107 then ev 94 (236, L, st) σ else if x = 108 then ev 94 (154, L, st) σ else if x = 109 then ev 94 (236, L, st) σ else if x = 110 then ev 94 (236, L, st) σ else if x = 111 then ev 94 (236, L, st) σ else if x = 112 then ev 94 (236, L, st) σ else if x = 113 then ev 94 (236, L, st) σ else if x = 114 then ev 94 (236, L, st) σ else if x = 115 then ev 94 (236, L, st) σ else if x = 116 then ev 94 (236, L, st) σ else if x = 117 then ev 94 (236, L, st) σ else if x = 118 then ev 94 (236, L, st) σ else if x = 119 then ev 94 (136, L, st) σ else if x = 120 then ev 94 (236, L, st) σ else if x = 121 then ev 94 (176, L, st) σ else ev 94 (236, L, st) σ) ∧
  (∀ (l0 l2 l3 l4 l5 l6 : Option Value) (st : List Value) (σ : ri_S) (x : Nat), ev 94 (136, [l0, some (.ref x), l2, l3, l4, l5, l6], st) σ = ev 94 (137, [l0, some (.ref x), l2, l3, l4, l5, l6], .ref x :: st) σ) ∧
  (∀ (l0 l1 l2 l4 l5 l6 : Option Value) (st : List Value) (σ : ri_S) (x : Int32), ev 94 (137, [l0, l1, l2, some (.int x), l4, l5, l6], st) σ = ev 94 (138, [l0, l1, l2, some (.int x), l4, l5, l6], .int x :: st) σ) ∧
  (∀ (l0 l1 l2 l3 l5 l6 : Option Value) (st : List Value) (σ : ri_S) (x : Int32), ev 94 (138, [l0, l1, l2, l3, some (.int x), l5, l6], st) σ = ev 94 (140, [l0, l1, l2, l3, some (.int x), l5, l6], .int x :: st) σ) ∧
  (∀ (L : ri_L) (st : List Value) (σ : ri_S), ev 94 (140, L, st) σ = ev 94 (141, L, .int 4 :: st) σ) ∧
  (∀ (L : ri_L) (st : List Value) (σ : ri_S) (x y : Int32), ev 94 (141, L, .int y :: .int x :: st) σ = ev 94 (142, L, .int (x - y) :: st) σ) ∧
  (∀ (L : ri_L) (st : List Value) (σ : ri_S), ev 94 (142, L, st) σ = ev 94 (144, L, .int 10 :: st) σ) ∧
  (∀ (l0 l1 l2 l3 l4 l6 : Option Value) (st : List Value) (σ : ri_S) (x : Int32), ev 94 (144, [l0, l1, l2, l3, l4, some (.int x), l6], st) σ = ev 94 (146, [l0, l1, l2, l3, l4, some (.int x), l6], .int x :: st) σ) ∧
  (∀ (L : ri_L) (st : List Value) (σ : ri_S) (x y : Int32), ev 94 (146, L, .int y :: .int x :: st) σ = ev 94 (147, L, .int (x * y) :: st) σ) ∧
  (∀ (l0 l1 l2 l3 l4 l5 : Option Value) (st : List Value) (σ : ri_S) (x : Int32), ev 94 (147, [l0, l1, l2, l3, l4, l5, some (.int x)], st) σ = ev 94 (149, [l0, l1, l2, l3, l4, l5, some (.int x)], .int x :: st) σ) ∧
  (∀ (L : ri_L) (st : List Value) (σ : ri_S) (x y : Int32), ev 94 (149, L, .int y :: .int x :: st) σ = ev 94 (150, L, .int (x + y) :: st) σ) ∧
  (∀ (L : ri_L) (σ : ri_S) (a0 : Nat) (a1 : Int32) (a2 : Int32) (a3 : Int32), ev 94 (150, L, [.int a3, .int a2, .int a1, .ref a0]) σ = tv_k 3 (σ.1 a0) ((cal 30 [.ref a0, .int a1, .int a2, .int a3] σ).bind fun q => ev 94 (153, L, q.1.toList ++ []) q.2)) :=
  ⟨fun l1 l2 l3 l4 l5 l6 st σ x => ev_p ((TP_94 _).trans rfl) rfl,
   fun l0 l1 l3 l4 l5 l6 st σ x => ev_p ((TP_94 _).trans rfl) rfl,
   fun L st σ => ev_p ((TP_94 _).trans rfl) rfl,
   fun L st σ x y => ev_p ((TP_94 _).trans rfl) rfl,
   fun L σ a0 a1 => ev_callv ((TP_94 _).trans rfl) rfl rfl rfl rfl,
   fun l0 l1 l2 l3 l4 l5 l6 st σ x => ev_p ((TP_94 _).trans rfl) rfl,
   fun l1 l2 l3 l4 l5 l6 st σ x => ev_p ((TP_94 _).trans rfl) rfl,
   fun l0 l1 l3 l4 l5 l6 st σ x => ev_p ((TP_94 _).trans rfl) rfl,
   fun L st σ => ev_p ((TP_94 _).trans rfl) rfl,
   fun L st σ x y => ev_p ((TP_94 _).trans rfl) rfl,
   fun L σ a0 a1 => ev_callv ((TP_94 _).trans rfl) rfl rfl rfl rfl,
   fun l0 l1 l2 l3 l4 l5 l6 st σ x => ev_p ((TP_94 _).trans rfl) rfl,
   fun l1 l2 l3 l4 l5 l6 st σ x => ev_p ((TP_94 _).trans rfl) rfl,
   fun l0 l1 l3 l4 l5 l6 st σ x => ev_p ((TP_94 _).trans rfl) rfl,
   fun L st σ => ev_p ((TP_94 _).trans rfl) rfl,
   fun L st σ x y => ev_p ((TP_94 _).trans rfl) rfl,
   fun L σ a0 a1 => ev_callv ((TP_94 _).trans rfl) rfl rfl rfl rfl,
   fun l0 l1 l2 l3 l4 l5 l6 st σ x => ev_p ((TP_94 _).trans rfl) rfl,
   fun l1 l2 l3 l4 l5 l6 st σ x => ev_p ((TP_94 _).trans rfl) rfl,
   fun l0 l1 l3 l4 l5 l6 st σ x => ev_p ((TP_94 _).trans rfl) rfl,
   fun L st σ => ev_p ((TP_94 _).trans rfl) rfl,
   fun L st σ x y => ev_p ((TP_94 _).trans rfl) rfl,
   fun L σ a0 a1 => ev_callv ((TP_94 _).trans rfl) rfl rfl rfl rfl,
   fun l0 l1 l2 l3 l4 l5 l6 st σ x => ev_p ((TP_94 _).trans rfl) rfl,
   fun l1 l2 l3 l4 l5 l6 st σ x => ev_p ((TP_94 _).trans rfl) rfl,
   fun L st σ a => ev_getf ((TP_94 _).trans rfl),
   fun l0 l1 l3 l4 l5 l6 st σ x => ev_p ((TP_94 _).trans rfl) rfl,
   fun L σ a0 a1 => ev_call ((TP_94 _).trans rfl) rfl rfl rfl rfl,
   fun L st σ x => (ev_sw (lo := 102) (ts := [166, 236, 202, 236, 186, 236, 154, 236, 236, 236, 236, 236, 236, 236, 236, 236, 236, 136, 236, 176]) (d := 236) ((TP_94 _).trans rfl)).trans (by simp only [ev_tab, ev_tab0, show (102 : Int32) + 1 = 103 from rfl, show (103 : Int32) + 1 = 104 from rfl, show (104 : Int32) + 1 = 105 from rfl, show (105 : Int32) + 1 = 106 from rfl, show (106 : Int32) + 1 = 107 from rfl, show (107 : Int32) + 1 = 108 from rfl, show (108 : Int32) + 1 = 109 from rfl, show (109 : Int32) + 1 = 110 from rfl, show (110 : Int32) + 1 = 111 from rfl, show (111 : Int32) + 1 = 112 from rfl, show (112 : Int32) + 1 = 113 from rfl, show (113 : Int32) + 1 = 114 from rfl, show (114 : Int32) + 1 = 115 from rfl, show (115 : Int32) + 1 = 116 from rfl, show (116 : Int32) + 1 = 117 from rfl, show (117 : Int32) + 1 = 118 from rfl, show (118 : Int32) + 1 = 119 from rfl, show (119 : Int32) + 1 = 120 from rfl, show (120 : Int32) + 1 = 121 from rfl, show (121 : Int32) + 1 = 122 from rfl]),
   fun l0 l2 l3 l4 l5 l6 st σ x => ev_p ((TP_94 _).trans rfl) rfl,
   fun l0 l1 l2 l4 l5 l6 st σ x => ev_p ((TP_94 _).trans rfl) rfl,
   fun l0 l1 l2 l3 l5 l6 st σ x => ev_p ((TP_94 _).trans rfl) rfl,
   fun L st σ => ev_p ((TP_94 _).trans rfl) rfl,
   fun L st σ x y => ev_p ((TP_94 _).trans rfl) rfl,
   fun L st σ => ev_p ((TP_94 _).trans rfl) rfl,
   fun l0 l1 l2 l3 l4 l6 st σ x => ev_p ((TP_94 _).trans rfl) rfl,
   fun L st σ x y => ev_p ((TP_94 _).trans rfl) rfl,
   fun l0 l1 l2 l3 l4 l5 st σ x => ev_p ((TP_94 _).trans rfl) rfl,
   fun L st σ x y => ev_p ((TP_94 _).trans rfl) rfl,
   fun L σ a0 a1 a2 a3 => ev_callv ((TP_94 _).trans rfl) rfl rfl rfl rfl⟩
theorem I_94_1 :
  (∀ (L : ri_L) (σ : ri_S) (x : Int32), ev 94 (153, L, [.int x]) σ = tv_b x (some (some (.int x), σ))) ∧
  (∀ (l0 l2 l3 l4 l5 l6 : Option Value) (st : List Value) (σ : ri_S) (x : Nat), ev 94 (154, [l0, some (.ref x), l2, l3, l4, l5, l6], st) σ = ev 94 (155, [l0, some (.ref x), l2, l3, l4, l5, l6], .ref x :: st) σ) ∧
  (∀ (l0 l1 l2 l4 l5 l6 : Option Value) (st : List Value) (σ : ri_S) (x : Int32), ev 94 (155, [l0, l1, l2, some (.int x), l4, l5, l6], st) σ = ev 94 (156, [l0, l1, l2, some (.int x), l4, l5, l6], .int x :: st) σ) ∧
  (∀ (l0 l1 l2 l3 l5 l6 : Option Value) (st : List Value) (σ : ri_S) (x : Int32), ev 94 (156, [l0, l1, l2, l3, some (.int x), l5, l6], st) σ = ev 94 (158, [l0, l1, l2, l3, some (.int x), l5, l6], .int x :: st) σ) ∧
  (∀ (l0 l1 l2 l3 l4 l6 : Option Value) (st : List Value) (σ : ri_S) (x : Int32), ev 94 (158, [l0, l1, l2, l3, l4, some (.int x), l6], st) σ = ev 94 (160, [l0, l1, l2, l3, l4, some (.int x), l6], .int x :: st) σ) ∧
  (∀ (l0 l1 l2 l3 l4 l5 : Option Value) (st : List Value) (σ : ri_S) (x : Int32), ev 94 (160, [l0, l1, l2, l3, l4, l5, some (.int x)], st) σ = ev 94 (162, [l0, l1, l2, l3, l4, l5, some (.int x)], .int x :: st) σ) ∧
  (∀ (L : ri_L) (σ : ri_S) (a0 : Nat) (a1 : Int32) (a2 : Int32) (a3 : Int32) (a4 : Int32), ev 94 (162, L, [.int a4, .int a3, .int a2, .int a1, .ref a0]) σ = tv_k 3 (σ.1 a0) ((cal 31 [.ref a0, .int a1, .int a2, .int a3, .int a4] σ).bind fun q => ev 94 (165, L, q.1.toList ++ []) q.2)) ∧
  (∀ (L : ri_L) (σ : ri_S) (x : Int32), ev 94 (165, L, [.int x]) σ = tv_b x (some (some (.int x), σ))) ∧
  (∀ (l0 l2 l3 l4 l5 l6 : Option Value) (st : List Value) (σ : ri_S) (x : Nat), ev 94 (166, [l0, some (.ref x), l2, l3, l4, l5, l6], st) σ = ev 94 (167, [l0, some (.ref x), l2, l3, l4, l5, l6], .ref x :: st) σ) ∧
  (∀ (l0 l1 l2 l4 l5 l6 : Option Value) (st : List Value) (σ : ri_S) (x : Int32), ev 94 (167, [l0, l1, l2, some (.int x), l4, l5, l6], st) σ = ev 94 (168, [l0, l1, l2, some (.int x), l4, l5, l6], .int x :: st) σ) ∧
  (∀ (l0 l1 l2 l3 l5 l6 : Option Value) (st : List Value) (σ : ri_S) (x : Int32), ev 94 (168, [l0, l1, l2, l3, some (.int x), l5, l6], st) σ = ev 94 (170, [l0, l1, l2, l3, some (.int x), l5, l6], .int x :: st) σ) ∧
  (∀ (l0 l1 l2 l3 l4 l6 : Option Value) (st : List Value) (σ : ri_S) (x : Int32), ev 94 (170, [l0, l1, l2, l3, l4, some (.int x), l6], st) σ = ev 94 (172, [l0, l1, l2, l3, l4, some (.int x), l6], .int x :: st) σ) ∧
  (∀ (L : ri_L) (σ : ri_S) (a0 : Nat) (a1 : Int32) (a2 : Int32) (a3 : Int32), ev 94 (172, L, [.int a3, .int a2, .int a1, .ref a0]) σ = tv_k 3 (σ.1 a0) ((cal 32 [.ref a0, .int a1, .int a2, .int a3] σ).bind fun q => ev 94 (175, L, q.1.toList ++ []) q.2)) ∧
  (∀ (L : ri_L) (σ : ri_S) (x : Int32), ev 94 (175, L, [.int x]) σ = tv_b x (some (some (.int x), σ))) ∧
  (∀ (l0 l2 l3 l4 l5 l6 : Option Value) (st : List Value) (σ : ri_S) (x : Nat), ev 94 (176, [l0, some (.ref x), l2, l3, l4, l5, l6], st) σ = ev 94 (177, [l0, some (.ref x), l2, l3, l4, l5, l6], .ref x :: st) σ) ∧
  (∀ (l0 l1 l2 l4 l5 l6 : Option Value) (st : List Value) (σ : ri_S) (x : Int32), ev 94 (177, [l0, l1, l2, some (.int x), l4, l5, l6], st) σ = ev 94 (178, [l0, l1, l2, some (.int x), l4, l5, l6], .int x :: st) σ) ∧
  (∀ (l0 l1 l2 l3 l5 l6 : Option Value) (st : List Value) (σ : ri_S) (x : Int32), ev 94 (178, [l0, l1, l2, l3, some (.int x), l5, l6], st) σ = ev 94 (180, [l0, l1, l2, l3, some (.int x), l5, l6], .int x :: st) σ) ∧
  (∀ (l0 l1 l2 l3 l4 l6 : Option Value) (st : List Value) (σ : ri_S) (x : Int32), ev 94 (180, [l0, l1, l2, l3, l4, some (.int x), l6], st) σ = ev 94 (182, [l0, l1, l2, l3, l4, some (.int x), l6], .int x :: st) σ) ∧
  (∀ (L : ri_L) (σ : ri_S) (a0 : Nat) (a1 : Int32) (a2 : Int32) (a3 : Int32), ev 94 (182, L, [.int a3, .int a2, .int a1, .ref a0]) σ = tv_k 3 (σ.1 a0) ((cal 33 [.ref a0, .int a1, .int a2, .int a3] σ).bind fun q => ev 94 (185, L, q.1.toList ++ []) q.2)) ∧
  (∀ (L : ri_L) (σ : ri_S) (x : Int32), ev 94 (185, L, [.int x]) σ = tv_b x (some (some (.int x), σ))) ∧
  (∀ (l0 l2 l3 l4 l5 l6 : Option Value) (st : List Value) (σ : ri_S) (x : Nat), ev 94 (186, [l0, some (.ref x), l2, l3, l4, l5, l6], st) σ = ev 94 (187, [l0, some (.ref x), l2, l3, l4, l5, l6], .ref x :: st) σ) ∧
  (∀ (l0 l1 l2 l4 l5 l6 : Option Value) (st : List Value) (σ : ri_S) (x : Int32), ev 94 (187, [l0, l1, l2, some (.int x), l4, l5, l6], st) σ = ev 94 (188, [l0, l1, l2, some (.int x), l4, l5, l6], .int x :: st) σ) ∧
  (∀ (l0 l1 l2 l3 l5 l6 : Option Value) (st : List Value) (σ : ri_S) (x : Int32), ev 94 (188, [l0, l1, l2, l3, some (.int x), l5, l6], st) σ = ev 94 (190, [l0, l1, l2, l3, some (.int x), l5, l6], .int x :: st) σ) ∧
  (∀ (L : ri_L) (σ : ri_S) (a0 : Nat) (a1 : Int32) (a2 : Int32), ev 94 (190, L, [.int a2, .int a1, .ref a0]) σ = tv_k 3 (σ.1 a0) ((cal 41 [.ref a0, .int a1, .int a2] σ).bind fun q => ev 94 (193, L, q.1.toList ++ []) q.2)) ∧
  (∀ (L : ri_L) (st : List Value) (σ : ri_S) (x : Int32), ev 94 (193, L, .int x :: st) σ = if ¬ x = 0 then ev 94 (200, L, st) σ else ev 94 (196, L, st) σ) ∧
  (∀ (L : ri_L) (st : List Value) (σ : ri_S), ev 94 (196, L, st) σ = ev 94 (197, L, .int 1 :: st) σ) ∧
  (∀ (L : ri_L) (st : List Value) (σ : ri_S), ev 94 (197, L, st) σ = ev 94 (201, L, st) σ) ∧
  (∀ (L : ri_L) (st : List Value) (σ : ri_S), ev 94 (200, L, st) σ = ev 94 (201, L, .int 0 :: st) σ) ∧
  (∀ (L : ri_L) (σ : ri_S) (x : Int32), ev 94 (201, L, [.int x]) σ = tv_b x (some (some (.int x), σ))) ∧
  (∀ (l0 l2 l3 l4 l5 l6 : Option Value) (st : List Value) (σ : ri_S) (x : Nat), ev 94 (202, [l0, some (.ref x), l2, l3, l4, l5, l6], st) σ = ev 94 (203, [l0, some (.ref x), l2, l3, l4, l5, l6], .ref x :: st) σ) ∧
  (∀ (l0 l1 l2 l4 l5 l6 : Option Value) (st : List Value) (σ : ri_S) (x : Int32), ev 94 (203, [l0, l1, l2, some (.int x), l4, l5, l6], st) σ = ev 94 (204, [l0, l1, l2, some (.int x), l4, l5, l6], .int x :: st) σ) ∧
  (∀ (l1 l2 l3 l4 l5 l6 : Option Value) (st : List Value) (σ : ri_S) (x : Nat), ev 94 (204, [some (.ref x), l1, l2, l3, l4, l5, l6], st) σ = ev 94 (205, [some (.ref x), l1, l2, l3, l4, l5, l6], .ref x :: st) σ) ∧
  (∀ (L : ri_L) (st : List Value) (σ : ri_S) (a : Nat), ev 94 (205, L, .ref a :: st) σ = tv_o 6 0 (σ.1 a) fun v => ev 94 (208, L, v :: st) σ) ∧
  (∀ (l0 l1 l3 l4 l5 l6 : Option Value) (st : List Value) (σ : ri_S) (x : Int32), ev 94 (208, [l0, l1, some (.int x), l3, l4, l5, l6], st) σ = ev 94 (209, [l0, l1, some (.int x), l3, l4, l5, l6], .int x :: st) σ) ∧
  (∀ (L : ri_L) (st : List Value) (σ : ri_S), ev 94 (209, L, st) σ = ev 94 (210, L, .int 2 :: st) σ) ∧
  (∀ (L : ri_L) (st : List Value) (σ : ri_S) (x y : Int32), ev 94 (210, L, .int y :: .int x :: st) σ = ev 94 (211, L, .int (x + y) :: st) σ) ∧
  (∀ (L : ri_L) (σ : ri_S) (a0 : Nat) (a1 : Int32) (s0 s1 : Value), ev 94 (211, L, [.int a1, .ref a0, s0, s1]) σ = (cal 140 [.ref a0, .int a1] σ).bind fun q => ev 94 (214, L, q.1.toList ++ [s0, s1]) q.2) ∧
  (∀ (L : ri_L) (st : List Value) (σ : ri_S), ev 94 (214, L, st) σ = ev 94 (216, L, .int 43 :: st) σ) ∧
  (∀ (L : ri_L) (st : List Value) (σ : ri_S) (x y : Int32), ev 94 (216, L, .int y :: .int x :: st) σ = if ¬ x = y then ev 94 (223, L, st) σ else ev 94 (219, L, st) σ) ∧
  (∀ (L : ri_L) (st : List Value) (σ : ri_S), ev 94 (219, L, st) σ = ev 94 (220, L, .int 1 :: st) σ) :=
  ⟨fun L σ x => ev_r ((TP_94 _).trans rfl) rfl,
   fun l0 l2 l3 l4 l5 l6 st σ x => ev_p ((TP_94 _).trans rfl) rfl,
   fun l0 l1 l2 l4 l5 l6 st σ x => ev_p ((TP_94 _).trans rfl) rfl,
   fun l0 l1 l2 l3 l5 l6 st σ x => ev_p ((TP_94 _).trans rfl) rfl,
   fun l0 l1 l2 l3 l4 l6 st σ x => ev_p ((TP_94 _).trans rfl) rfl,
   fun l0 l1 l2 l3 l4 l5 st σ x => ev_p ((TP_94 _).trans rfl) rfl,
   fun L σ a0 a1 a2 a3 a4 => ev_callv ((TP_94 _).trans rfl) rfl rfl rfl rfl,
   fun L σ x => ev_r ((TP_94 _).trans rfl) rfl,
   fun l0 l2 l3 l4 l5 l6 st σ x => ev_p ((TP_94 _).trans rfl) rfl,
   fun l0 l1 l2 l4 l5 l6 st σ x => ev_p ((TP_94 _).trans rfl) rfl,
   fun l0 l1 l2 l3 l5 l6 st σ x => ev_p ((TP_94 _).trans rfl) rfl,
   fun l0 l1 l2 l3 l4 l6 st σ x => ev_p ((TP_94 _).trans rfl) rfl,
   fun L σ a0 a1 a2 a3 => ev_callv ((TP_94 _).trans rfl) rfl rfl rfl rfl,
   fun L σ x => ev_r ((TP_94 _).trans rfl) rfl,
   fun l0 l2 l3 l4 l5 l6 st σ x => ev_p ((TP_94 _).trans rfl) rfl,
   fun l0 l1 l2 l4 l5 l6 st σ x => ev_p ((TP_94 _).trans rfl) rfl,
   fun l0 l1 l2 l3 l5 l6 st σ x => ev_p ((TP_94 _).trans rfl) rfl,
   fun l0 l1 l2 l3 l4 l6 st σ x => ev_p ((TP_94 _).trans rfl) rfl,
   fun L σ a0 a1 a2 a3 => ev_callv ((TP_94 _).trans rfl) rfl rfl rfl rfl,
   fun L σ x => ev_r ((TP_94 _).trans rfl) rfl,
   fun l0 l2 l3 l4 l5 l6 st σ x => ev_p ((TP_94 _).trans rfl) rfl,
   fun l0 l1 l2 l4 l5 l6 st σ x => ev_p ((TP_94 _).trans rfl) rfl,
   fun l0 l1 l2 l3 l5 l6 st σ x => ev_p ((TP_94 _).trans rfl) rfl,
   fun L σ a0 a1 a2 => ev_callv ((TP_94 _).trans rfl) rfl rfl rfl rfl,
   fun L st σ x => ev_b ((TP_94 _).trans rfl) rfl,
   fun L st σ => ev_p ((TP_94 _).trans rfl) rfl,
   fun L st σ => ev_p ((TP_94 _).trans rfl) rfl,
   fun L st σ => ev_p ((TP_94 _).trans rfl) rfl,
   fun L σ x => ev_r ((TP_94 _).trans rfl) rfl,
   fun l0 l2 l3 l4 l5 l6 st σ x => ev_p ((TP_94 _).trans rfl) rfl,
   fun l0 l1 l2 l4 l5 l6 st σ x => ev_p ((TP_94 _).trans rfl) rfl,
   fun l1 l2 l3 l4 l5 l6 st σ x => ev_p ((TP_94 _).trans rfl) rfl,
   fun L st σ a => ev_getf ((TP_94 _).trans rfl),
   fun l0 l1 l3 l4 l5 l6 st σ x => ev_p ((TP_94 _).trans rfl) rfl,
   fun L st σ => ev_p ((TP_94 _).trans rfl) rfl,
   fun L st σ x y => ev_p ((TP_94 _).trans rfl) rfl,
   fun L σ a0 a1 s0 s1 => ev_call ((TP_94 _).trans rfl) rfl rfl rfl rfl,
   fun L st σ => ev_p ((TP_94 _).trans rfl) rfl,
   fun L st σ x y => ev_b ((TP_94 _).trans rfl) rfl,
   fun L st σ => ev_p ((TP_94 _).trans rfl) rfl⟩
theorem I_94_2 :
  (∀ (L : ri_L) (st : List Value) (σ : ri_S), ev 94 (220, L, st) σ = ev 94 (224, L, st) σ) ∧
  (∀ (L : ri_L) (st : List Value) (σ : ri_S), ev 94 (223, L, st) σ = ev 94 (224, L, .int (-1) :: st) σ) ∧
  (∀ (L : ri_L) (σ : ri_S) (a0 : Nat) (a1 : Int32) (a2 : Int32), ev 94 (224, L, [.int a2, .int a1, .ref a0]) σ = tv_k 3 (σ.1 a0) ((cal 42 [.ref a0, .int a1, .int a2] σ).bind fun q => ev 94 (227, L, q.1.toList ++ []) q.2)) ∧
  (∀ (L : ri_L) (st : List Value) (σ : ri_S) (x : Int32), ev 94 (227, L, .int x :: st) σ = if ¬ x = 0 then ev 94 (234, L, st) σ else ev 94 (230, L, st) σ) ∧
  (∀ (L : ri_L) (st : List Value) (σ : ri_S), ev 94 (230, L, st) σ = ev 94 (231, L, .int 1 :: st) σ) ∧
  (∀ (L : ri_L) (st : List Value) (σ : ri_S), ev 94 (231, L, st) σ = ev 94 (235, L, st) σ) ∧
  (∀ (L : ri_L) (st : List Value) (σ : ri_S), ev 94 (234, L, st) σ = ev 94 (235, L, .int 0 :: st) σ) ∧
  (∀ (L : ri_L) (σ : ri_S) (x : Int32), ev 94 (235, L, [.int x]) σ = tv_b x (some (some (.int x), σ))) ∧
  (∀ (l0 l2 l3 l4 l5 l6 : Option Value) (st : List Value) (σ : ri_S) (x : Nat), ev 94 (236, [l0, some (.ref x), l2, l3, l4, l5, l6], st) σ = ev 94 (237, [l0, some (.ref x), l2, l3, l4, l5, l6], .ref x :: st) σ) ∧
  (∀ (l0 l1 l2 l4 l5 l6 : Option Value) (st : List Value) (σ : ri_S) (x : Int32), ev 94 (237, [l0, l1, l2, some (.int x), l4, l5, l6], st) σ = ev 94 (238, [l0, l1, l2, some (.int x), l4, l5, l6], .int x :: st) σ) ∧
  (∀ (l0 l1 l2 l3 l5 l6 : Option Value) (st : List Value) (σ : ri_S) (x : Int32), ev 94 (238, [l0, l1, l2, l3, some (.int x), l5, l6], st) σ = ev 94 (240, [l0, l1, l2, l3, some (.int x), l5, l6], .int x :: st) σ) ∧
  (∀ (L : ri_L) (σ : ri_S) (a0 : Nat) (a1 : Int32) (a2 : Int32), ev 94 (240, L, [.int a2, .int a1, .ref a0]) σ = tv_k 3 (σ.1 a0) ((cal 34 [.ref a0, .int a1, .int a2] σ).bind fun q => ev 94 (243, L, q.1.toList ++ []) q.2)) ∧
  (∀ (L : ri_L) (σ : ri_S) (x : Int32), ev 94 (243, L, [.int x]) σ = tv_b x (some (some (.int x), σ))) :=
  ⟨fun L st σ => ev_p ((TP_94 _).trans rfl) rfl,
   fun L st σ => ev_p ((TP_94 _).trans rfl) rfl,
   fun L σ a0 a1 a2 => ev_callv ((TP_94 _).trans rfl) rfl rfl rfl rfl,
   fun L st σ x => ev_b ((TP_94 _).trans rfl) rfl,
   fun L st σ => ev_p ((TP_94 _).trans rfl) rfl,
   fun L st σ => ev_p ((TP_94 _).trans rfl) rfl,
   fun L st σ => ev_p ((TP_94 _).trans rfl) rfl,
   fun L σ x => ev_r ((TP_94 _).trans rfl) rfl,
   fun l0 l2 l3 l4 l5 l6 st σ x => ev_p ((TP_94 _).trans rfl) rfl,
   fun l0 l1 l2 l4 l5 l6 st σ x => ev_p ((TP_94 _).trans rfl) rfl,
   fun l0 l1 l2 l3 l5 l6 st σ x => ev_p ((TP_94 _).trans rfl) rfl,
   fun L σ a0 a1 a2 => ev_callv ((TP_94 _).trans rfl) rfl rfl rfl rfl,
   fun L σ x => ev_r ((TP_94 _).trans rfl) rfl⟩
theorem TP_95 (pc : Nat) : TT 95 pc = ri_find TL_95 pc := rfl
theorem E_95 (x0 : Nat) (x1 : Int32) (σ : ri_S) : cal 95 [.ref x0, .int x1] σ = ev 95 (0, [some (.ref x0), some (.int x1)], []) σ := rfl
theorem I_95 :
  (∀ (l1 : Option Value) (st : List Value) (σ : ri_S) (x : Nat), ev 95 (0, [some (.ref x), l1], st) σ = ev 95 (1, [some (.ref x), l1], .ref x :: st) σ) ∧
  (∀ (L : ri_L) (st : List Value) (σ : ri_S) (a : Nat), ev 95 (1, L, .ref a :: st) σ = tv_o 6 0 (σ.1 a) fun v => ev 95 (4, L, v :: st) σ) ∧
  (∀ (l0 : Option Value) (st : List Value) (σ : ri_S) (x : Int32), ev 95 (4, [l0, some (.int x)], st) σ = ev 95 (5, [l0, some (.int x)], .int x :: st) σ) ∧
  (∀ (L : ri_L) (σ : ri_S) (a0 : Nat) (a1 : Int32), ev 95 (5, L, [.int a1, .ref a0]) σ = (cal 140 [.ref a0, .int a1] σ).bind fun q => ev 95 (8, L, q.1.toList ++ []) q.2) ∧
  (∀ (L : ri_L) (st : List Value) (σ : ri_S), ev 95 (8, L, st) σ = ev 95 (10, L, .int 48 :: st) σ) ∧
  (∀ (L : ri_L) (st : List Value) (σ : ri_S) (x y : Int32), ev 95 (10, L, .int y :: .int x :: st) σ = ev 95 (11, L, .int (x - y) :: st) σ) ∧
  (∀ (L : ri_L) (σ : ri_S) (x : Int32), ev 95 (11, L, [.int x]) σ = some (some (.int x), σ)) :=
  ⟨fun l1 st σ x => ev_p ((TP_95 _).trans rfl) rfl,
   fun L st σ a => ev_getf ((TP_95 _).trans rfl),
   fun l0 st σ x => ev_p ((TP_95 _).trans rfl) rfl,
   fun L σ a0 a1 => ev_call ((TP_95 _).trans rfl) rfl rfl rfl rfl,
   fun L st σ => ev_p ((TP_95 _).trans rfl) rfl,
   fun L st σ x y => ev_p ((TP_95 _).trans rfl) rfl,
   fun L σ x => ev_r ((TP_95 _).trans rfl) rfl⟩
theorem TP_96 (pc : Nat) : TT 96 pc = ri_find TL_96 pc := rfl
theorem E_96 (x0 : Nat) (σ : ri_S) : cal 96 [.ref x0] σ = ev 96 (0, [some (.ref x0)], []) σ := rfl
theorem I_96 :
  (∀ (st : List Value) (σ : ri_S) (x : Nat), ev 96 (0, [some (.ref x)], st) σ = ev 96 (1, [some (.ref x)], .ref x :: st) σ) ∧
  (∀ (L : ri_L) (σ : ri_S) (a : Nat), ev 96 (1, L, [.ref a]) σ = ev 96 (4, L, []) σ) ∧
  (∀ (st : List Value) (σ : ri_S) (x : Nat), ev 96 (4, [some (.ref x)], st) σ = ev 96 (5, [some (.ref x)], .ref x :: st) σ) ∧
  (∀ (L : ri_L) (st : List Value) (σ : ri_S), ev 96 (5, L, st) σ = ev 96 (6, L, .int 0 :: st) σ) ∧
  (∀ (L : ri_L) (st : List Value) (σ : ri_S) (a : Nat) (x : Int32), ev 96 (6, L, .int x :: .ref a :: st) σ = tv_w 7 0 (σ.1 a) (.int x) fun fs => ev 96 (9, L, st) (ri_upd σ.1 a (.inr (.inr (7, fs))), σ.2)) ∧
  (∀ (st : List Value) (σ : ri_S) (x : Nat), ev 96 (9, [some (.ref x)], st) σ = ev 96 (10, [some (.ref x)], .ref x :: st) σ) ∧
  (∀ (L : ri_L) (st : List Value) (σ : ri_S), ev 96 (10, L, st) σ = ev 96 (11, L, .int 3 :: st) σ) ∧
  (∀ (L : ri_L) (st : List Value) (σ : ri_S) (n : Int32), ev 96 (11, L, .int n :: st) σ = if n < 0 ∨ 2000 < n.toNatClampNeg then none else ev 96 (13, L, .ref σ.2 :: st) (ri_upd σ.1 σ.2 (.inl (0, n.toNatClampNeg, fun _ => 0)), σ.2 + 1)) ∧
  (∀ (L : ri_L) (st : List Value) (σ : ri_S) (a : Nat) (x : Nat), ev 96 (13, L, .ref x :: .ref a :: st) σ = tv_w 7 1 (σ.1 a) (.ref x) fun fs => ev 96 (16, L, st) (ri_upd σ.1 a (.inr (.inr (7, fs))), σ.2)) ∧
  (∀ (st : List Value) (σ : ri_S) (x : Nat), ev 96 (16, [some (.ref x)], st) σ = ev 96 (17, [some (.ref x)], .ref x :: st) σ) ∧
  (∀ (L : ri_L) (st : List Value) (σ : ri_S), ev 96 (17, L, st) σ = ev 96 (18, L, .int 3 :: st) σ) ∧
  (∀ (L : ri_L) (st : List Value) (σ : ri_S) (n : Int32), ev 96 (18, L, .int n :: st) σ = if n < 0 ∨ 2000 < n.toNatClampNeg then none else ev 96 (20, L, .ref σ.2 :: st) (ri_upd σ.1 σ.2 (.inl (0, n.toNatClampNeg, fun _ => 0)), σ.2 + 1)) ∧
  (∀ (L : ri_L) (st : List Value) (σ : ri_S) (a : Nat) (x : Nat), ev 96 (20, L, .ref x :: .ref a :: st) σ = tv_w 7 2 (σ.1 a) (.ref x) fun fs => ev 96 (23, L, st) (ri_upd σ.1 a (.inr (.inr (7, fs))), σ.2)) ∧
  (∀ (st : List Value) (σ : ri_S) (x : Nat), ev 96 (23, [some (.ref x)], st) σ = ev 96 (24, [some (.ref x)], .ref x :: st) σ) ∧
  (∀ (L : ri_L) (st : List Value) (σ : ri_S), ev 96 (24, L, st) σ = ev 96 (25, L, .int 3 :: st) σ) ∧
  (∀ (L : ri_L) (st : List Value) (σ : ri_S) (n : Int32), ev 96 (25, L, .int n :: st) σ = if n < 0 ∨ 2000 < n.toNatClampNeg then none else ev 96 (27, L, .ref σ.2 :: st) (ri_upd σ.1 σ.2 (.inl (0, n.toNatClampNeg, fun _ => 0)), σ.2 + 1)) ∧
  (∀ (L : ri_L) (st : List Value) (σ : ri_S) (a : Nat) (x : Nat), ev 96 (27, L, .ref x :: .ref a :: st) σ = tv_w 7 3 (σ.1 a) (.ref x) fun fs => ev 96 (30, L, st) (ri_upd σ.1 a (.inr (.inr (7, fs))), σ.2)) ∧
  (∀ (st : List Value) (σ : ri_S) (x : Nat), ev 96 (30, [some (.ref x)], st) σ = ev 96 (31, [some (.ref x)], .ref x :: st) σ) ∧
  (∀ (L : ri_L) (st : List Value) (σ : ri_S), ev 96 (31, L, st) σ = ev 96 (32, L, .int 3 :: st) σ) ∧
  (∀ (L : ri_L) (st : List Value) (σ : ri_S) (n : Int32), ev 96 (32, L, .int n :: st) σ = if n < 0 ∨ 2000 < n.toNatClampNeg then none else ev 96 (34, L, .ref σ.2 :: st) (ri_upd σ.1 σ.2 (.inl (0, n.toNatClampNeg, fun _ => 0)), σ.2 + 1)) ∧
  (∀ (L : ri_L) (st : List Value) (σ : ri_S) (a : Nat) (x : Nat), ev 96 (34, L, .ref x :: .ref a :: st) σ = tv_w 7 4 (σ.1 a) (.ref x) fun fs => ev 96 (37, L, st) (ri_upd σ.1 a (.inr (.inr (7, fs))), σ.2)) ∧
  (∀ (st : List Value) (σ : ri_S) (x : Nat), ev 96 (37, [some (.ref x)], st) σ = ev 96 (38, [some (.ref x)], .ref x :: st) σ) ∧
  (∀ (L : ri_L) (st : List Value) (σ : ri_S), ev 96 (38, L, st) σ = ev 96 (39, L, .int 3 :: st) σ) ∧
  (∀ (L : ri_L) (st : List Value) (σ : ri_S) (n : Int32), ev 96 (39, L, .int n :: st) σ = if n < 0 ∨ 2000 < n.toNatClampNeg then none else ev 96 (41, L, .ref σ.2 :: st) (ri_upd σ.1 σ.2 (.inl (0, n.toNatClampNeg, fun _ => 0)), σ.2 + 1)) ∧
  (∀ (L : ri_L) (st : List Value) (σ : ri_S) (a : Nat) (x : Nat), ev 96 (41, L, .ref x :: .ref a :: st) σ = tv_w 7 5 (σ.1 a) (.ref x) fun fs => ev 96 (44, L, st) (ri_upd σ.1 a (.inr (.inr (7, fs))), σ.2)) ∧
  (∀ (st : List Value) (σ : ri_S) (x : Nat), ev 96 (44, [some (.ref x)], st) σ = ev 96 (45, [some (.ref x)], .ref x :: st) σ) ∧
  (∀ (L : ri_L) (st : List Value) (σ : ri_S), ev 96 (45, L, st) σ = ev 96 (47, L, .int 15 :: st) σ) ∧
  (∀ (L : ri_L) (st : List Value) (σ : ri_S) (n : Int32), ev 96 (47, L, .int n :: st) σ = if n < 0 ∨ 2000 < n.toNatClampNeg then none else ev 96 (49, L, .ref σ.2 :: st) (ri_upd σ.1 σ.2 (.inl (0, n.toNatClampNeg, fun _ => 0)), σ.2 + 1)) ∧
  (∀ (L : ri_L) (st : List Value) (σ : ri_S) (a : Nat) (x : Nat), ev 96 (49, L, .ref x :: .ref a :: st) σ = tv_w 7 6 (σ.1 a) (.ref x) fun fs => ev 96 (52, L, st) (ri_upd σ.1 a (.inr (.inr (7, fs))), σ.2)) ∧
  (∀ (L : ri_L) (σ : ri_S), ev 96 (52, L, []) σ = some (none, σ)) :=
  ⟨fun st σ x => ev_p ((TP_96 _).trans rfl) rfl,
   fun L σ a => ev_p ((TP_96 _).trans rfl) rfl,
   fun st σ x => ev_p ((TP_96 _).trans rfl) rfl,
   fun L st σ => ev_p ((TP_96 _).trans rfl) rfl,
   fun L st σ a x => ev_puti ((TP_96 _).trans rfl),
   fun st σ x => ev_p ((TP_96 _).trans rfl) rfl,
   fun L st σ => ev_p ((TP_96 _).trans rfl) rfl,
   fun L st σ n => ev_newa ((TP_96 _).trans rfl),
   fun L st σ a x => ev_putr ((TP_96 _).trans rfl),
   fun st σ x => ev_p ((TP_96 _).trans rfl) rfl,
   fun L st σ => ev_p ((TP_96 _).trans rfl) rfl,
   fun L st σ n => ev_newa ((TP_96 _).trans rfl),
   fun L st σ a x => ev_putr ((TP_96 _).trans rfl),
   fun st σ x => ev_p ((TP_96 _).trans rfl) rfl,
   fun L st σ => ev_p ((TP_96 _).trans rfl) rfl,
   fun L st σ n => ev_newa ((TP_96 _).trans rfl),
   fun L st σ a x => ev_putr ((TP_96 _).trans rfl),
   fun st σ x => ev_p ((TP_96 _).trans rfl) rfl,
   fun L st σ => ev_p ((TP_96 _).trans rfl) rfl,
   fun L st σ n => ev_newa ((TP_96 _).trans rfl),
   fun L st σ a x => ev_putr ((TP_96 _).trans rfl),
   fun st σ x => ev_p ((TP_96 _).trans rfl) rfl,
   fun L st σ => ev_p ((TP_96 _).trans rfl) rfl,
   fun L st σ n => ev_newa ((TP_96 _).trans rfl),
   fun L st σ a x => ev_putr ((TP_96 _).trans rfl),
   fun st σ x => ev_p ((TP_96 _).trans rfl) rfl,
   fun L st σ => ev_p ((TP_96 _).trans rfl) rfl,
   fun L st σ n => ev_newa ((TP_96 _).trans rfl),
   fun L st σ a x => ev_putr ((TP_96 _).trans rfl),
   fun L σ => ev_r ((TP_96 _).trans rfl) rfl⟩
theorem TP_97 (pc : Nat) : TT 97 pc = ri_find TL_97 pc := rfl
theorem E_97 (x0 : Nat) (x1 : Int32) (σ : ri_S) : cal 97 [.ref x0, .int x1] σ = ev 97 (0, [some (.ref x0), some (.int x1)], []) σ := rfl
theorem I_97 :
  (∀ (l0 : Option Value) (st : List Value) (σ : ri_S) (x : Int32), ev 97 (0, [l0, some (.int x)], st) σ = ev 97 (1, [l0, some (.int x)], .int x :: st) σ) ∧
  (∀ (L : ri_L) (st : List Value) (σ : ri_S) (x : Int32), ev 97 (1, L, .int x :: st) σ = if x < 0 then ev 97 (16, L, st) σ else ev 97 (4, L, st) σ) ∧
  (∀ (l0 : Option Value) (st : List Value) (σ : ri_S) (x : Int32), ev 97 (4, [l0, some (.int x)], st) σ = ev 97 (5, [l0, some (.int x)], .int x :: st) σ) ∧
  (∀ (l1 : Option Value) (st : List Value) (σ : ri_S) (x : Nat), ev 97 (5, [some (.ref x), l1], st) σ = ev 97 (6, [some (.ref x), l1], .ref x :: st) σ) ∧
  (∀ (L : ri_L) (st : List Value) (σ : ri_S) (a : Nat), ev 97 (6, L, .ref a :: st) σ = tv_o 7 0 (σ.1 a) fun v => ev 97 (9, L, v :: st) σ) ∧
  (∀ (L : ri_L) (st : List Value) (σ : ri_S) (x y : Int32), ev 97 (9, L, .int y :: .int x :: st) σ = if y ≤ x then ev 97 (16, L, st) σ else ev 97 (12, L, st) σ) ∧
  (∀ (L : ri_L) (st : List Value) (σ : ri_S), ev 97 (12, L, st) σ = ev 97 (13, L, .int 1 :: st) σ) ∧
  (∀ (L : ri_L) (st : List Value) (σ : ri_S), ev 97 (13, L, st) σ = ev 97 (17, L, st) σ) ∧
  (∀ (L : ri_L) (st : List Value) (σ : ri_S), ev 97 (16, L, st) σ = ev 97 (17, L, .int 0 :: st) σ) ∧
  (∀ (L : ri_L) (σ : ri_S) (x : Int32), ev 97 (17, L, [.int x]) σ = tv_b x (some (some (.int x), σ))) :=
  ⟨fun l0 st σ x => ev_p ((TP_97 _).trans rfl) rfl,
   fun L st σ x => ev_b ((TP_97 _).trans rfl) rfl,
   fun l0 st σ x => ev_p ((TP_97 _).trans rfl) rfl,
   fun l1 st σ x => ev_p ((TP_97 _).trans rfl) rfl,
   fun L st σ a => ev_getf ((TP_97 _).trans rfl),
   fun L st σ x y => ev_b ((TP_97 _).trans rfl) rfl,
   fun L st σ => ev_p ((TP_97 _).trans rfl) rfl,
   fun L st σ => ev_p ((TP_97 _).trans rfl) rfl,
   fun L st σ => ev_p ((TP_97 _).trans rfl) rfl,
   fun L σ x => ev_r ((TP_97 _).trans rfl) rfl⟩
theorem TP_98 (pc : Nat) : TT 98 pc = ri_find TL_98 pc := rfl
theorem E_98 (x0 : Nat) (x1 : Int32) (x2 : Int32) (σ : ri_S) : cal 98 [.ref x0, .int x1, .int x2] σ = ev 98 (0, [some (.ref x0), some (.int x1), some (.int x2)], []) σ := rfl
theorem I_98 :
  (∀ (l1 l2 : Option Value) (st : List Value) (σ : ri_S) (x : Nat), ev 98 (0, [some (.ref x), l1, l2], st) σ = ev 98 (1, [some (.ref x), l1, l2], .ref x :: st) σ) ∧
  (∀ (l0 l2 : Option Value) (st : List Value) (σ : ri_S) (x : Int32), ev 98 (1, [l0, some (.int x), l2], st) σ = ev 98 (2, [l0, some (.int x), l2], .int x :: st) σ) ∧
  (∀ (L : ri_L) (σ : ri_S) (a0 : Nat) (a1 : Int32), ev 98 (2, L, [.int a1, .ref a0]) σ = tv_k 7 (σ.1 a0) ((cal 97 [.ref a0, .int a1] σ).bind fun q => ev 98 (5, L, q.1.toList ++ []) q.2)) ∧
  (∀ (L : ri_L) (st : List Value) (σ : ri_S) (x : Int32), ev 98 (5, L, .int x :: st) σ = if x = 0 then ev 98 (28, L, st) σ else ev 98 (8, L, st) σ) ∧
  (∀ (l0 l1 : Option Value) (st : List Value) (σ : ri_S) (x : Int32), ev 98 (8, [l0, l1, some (.int x)], st) σ = ev 98 (9, [l0, l1, some (.int x)], .int x :: st) σ) ∧
  (∀ (L : ri_L) (st : List Value) (σ : ri_S) (x : Int32), ev 98 (9, L, .int x :: st) σ = if x < 0 then ev 98 (28, L, st) σ else ev 98 (12, L, st) σ) ∧
  (∀ (l0 l1 : Option Value) (st : List Value) (σ : ri_S) (x : Int32), ev 98 (12, [l0, l1, some (.int x)], st) σ = ev 98 (13, [l0, l1, some (.int x)], .int x :: st) σ) ∧
  (∀ (l1 l2 : Option Value) (st : List Value) (σ : ri_S) (x : Nat), ev 98 (13, [some (.ref x), l1, l2], st) σ = ev 98 (14, [some (.ref x), l1, l2], .ref x :: st) σ) ∧
  (∀ (L : ri_L) (st : List Value) (σ : ri_S) (a : Nat), ev 98 (14, L, .ref a :: st) σ = tv_o 7 1 (σ.1 a) fun v => ev 98 (17, L, v :: st) σ) ∧
  (∀ (l0 l2 : Option Value) (st : List Value) (σ : ri_S) (x : Int32), ev 98 (17, [l0, some (.int x), l2], st) σ = ev 98 (18, [l0, some (.int x), l2], .int x :: st) σ) ∧
  (∀ (L : ri_L) (σ : ri_S) (a0 : Nat) (a1 : Int32) (s0 : Value), ev 98 (18, L, [.int a1, .ref a0, s0]) σ = (cal 140 [.ref a0, .int a1] σ).bind fun q => ev 98 (21, L, q.1.toList ++ [s0]) q.2) ∧
  (∀ (L : ri_L) (st : List Value) (σ : ri_S) (x y : Int32), ev 98 (21, L, .int y :: .int x :: st) σ = if y ≤ x then ev 98 (28, L, st) σ else ev 98 (24, L, st) σ) ∧
  (∀ (L : ri_L) (st : List Value) (σ : ri_S), ev 98 (24, L, st) σ = ev 98 (25, L, .int 1 :: st) σ) ∧
  (∀ (L : ri_L) (st : List Value) (σ : ri_S), ev 98 (25, L, st) σ = ev 98 (29, L, st) σ) ∧
  (∀ (L : ri_L) (st : List Value) (σ : ri_S), ev 98 (28, L, st) σ = ev 98 (29, L, .int 0 :: st) σ) ∧
  (∀ (L : ri_L) (σ : ri_S) (x : Int32), ev 98 (29, L, [.int x]) σ = tv_b x (some (some (.int x), σ))) :=
  ⟨fun l1 l2 st σ x => ev_p ((TP_98 _).trans rfl) rfl,
   fun l0 l2 st σ x => ev_p ((TP_98 _).trans rfl) rfl,
   fun L σ a0 a1 => ev_callv ((TP_98 _).trans rfl) rfl rfl rfl rfl,
   fun L st σ x => ev_b ((TP_98 _).trans rfl) rfl,
   fun l0 l1 st σ x => ev_p ((TP_98 _).trans rfl) rfl,
   fun L st σ x => ev_b ((TP_98 _).trans rfl) rfl,
   fun l0 l1 st σ x => ev_p ((TP_98 _).trans rfl) rfl,
   fun l1 l2 st σ x => ev_p ((TP_98 _).trans rfl) rfl,
   fun L st σ a => ev_getf ((TP_98 _).trans rfl),
   fun l0 l2 st σ x => ev_p ((TP_98 _).trans rfl) rfl,
   fun L σ a0 a1 s0 => ev_call ((TP_98 _).trans rfl) rfl rfl rfl rfl,
   fun L st σ x y => ev_b ((TP_98 _).trans rfl) rfl,
   fun L st σ => ev_p ((TP_98 _).trans rfl) rfl,
   fun L st σ => ev_p ((TP_98 _).trans rfl) rfl,
   fun L st σ => ev_p ((TP_98 _).trans rfl) rfl,
   fun L σ x => ev_r ((TP_98 _).trans rfl) rfl⟩
theorem TP_99 (pc : Nat) : TT 99 pc = ri_find TL_99 pc := rfl
theorem E_99 (x0 : Nat) (x1 : Int32) (x2 : Int32) (x3 : Int32) (σ : ri_S) : cal 99 [.ref x0, .int x1, .int x2, .int x3] σ = ev 99 (0, [some (.ref x0), some (.int x1), some (.int x2), some (.int x3), none, none], []) σ := rfl
theorem H_99_59 (l0 l1 l2 l3 l4 : Option Value) (st : List Value) (σ : ri_S) (x : Int32) : ev 99 (59, [l0, l1, l2, l3, l4, some (.int x)], st) σ = ev 99 (61, [l0, l1, l2, l3, l4, some (.int x)], .int x :: st) σ := ev_p ((TP_99 _).trans rfl) rfl
theorem I_99_0 :
  (∀ (l1 l2 l3 l4 l5 : Option Value) (st : List Value) (σ : ri_S) (x : Nat), ev 99 (0, [some (.ref x), l1, l2, l3, l4, l5], st) σ = ev 99 (1, [some (.ref x), l1, l2, l3, l4, l5], .ref x :: st) σ) ∧
  (∀ (L : ri_L) (st : List Value) (σ : ri_S) (a : Nat), ev 99 (1, L, .ref a :: st) σ = tv_o 7 0 (σ.1 a) fun v => ev 99 (4, L, v :: st) σ) ∧
  (∀ (l0 l1 l2 l3 l4 l5 : Option Value) (st : List Value) (σ : ri_S) (x : Int32), ev 99 (4, [l0, l1, l2, l3, l4, l5], .int x :: st) σ = ev 99 (6, [l0, l1, l2, ri_clr l3, some (.int x), l5], st) σ) ∧
  (∀ (l1 l2 l3 l4 l5 : Option Value) (st : List Value) (σ : ri_S) (x : Nat), ev 99 (6, [some (.ref x), l1, l2, l3, l4, l5], st) σ = ev 99 (7, [some (.ref x), l1, l2, l3, l4, l5], .ref x :: st) σ) ∧
  (∀ (L : ri_L) (st : List Value) (σ : ri_S) (a : Nat), ev 99 (7, L, .ref a :: st) σ = tv_o 7 1 (σ.1 a) fun v => ev 99 (10, L, v :: st) σ) ∧
  (∀ (l0 l1 l2 l3 l5 : Option Value) (st : List Value) (σ : ri_S) (x : Int32), ev 99 (10, [l0, l1, l2, l3, some (.int x), l5], st) σ = ev 99 (12, [l0, l1, l2, l3, some (.int x), l5], .int x :: st) σ) ∧
  (∀ (l0 l2 l3 l4 l5 : Option Value) (st : List Value) (σ : ri_S) (x : Int32), ev 99 (12, [l0, some (.int x), l2, l3, l4, l5], st) σ = ev 99 (13, [l0, some (.int x), l2, l3, l4, l5], .int x :: st) σ) ∧
  (∀ (L : ri_L) (σ : ri_S) (a0 : Nat) (a1 : Int32) (a2 : Int32), ev 99 (13, L, [.int a2, .int a1, .ref a0]) σ = (cal 141 [.ref a0, .int a1, .int a2] σ).bind fun q => ev 99 (16, L, q.1.toList ++ []) q.2) ∧
  (∀ (l1 l2 l3 l4 l5 : Option Value) (st : List Value) (σ : ri_S) (x : Nat), ev 99 (16, [some (.ref x), l1, l2, l3, l4, l5], st) σ = ev 99 (17, [some (.ref x), l1, l2, l3, l4, l5], .ref x :: st) σ) ∧
  (∀ (L : ri_L) (st : List Value) (σ : ri_S) (a : Nat), ev 99 (17, L, .ref a :: st) σ = tv_o 7 2 (σ.1 a) fun v => ev 99 (20, L, v :: st) σ) ∧
  (∀ (l0 l1 l2 l3 l5 : Option Value) (st : List Value) (σ : ri_S) (x : Int32), ev 99 (20, [l0, l1, l2, l3, some (.int x), l5], st) σ = ev 99 (22, [l0, l1, l2, l3, some (.int x), l5], .int x :: st) σ) ∧
  (∀ (l0 l1 l3 l4 l5 : Option Value) (st : List Value) (σ : ri_S) (x : Int32), ev 99 (22, [l0, l1, some (.int x), l3, l4, l5], st) σ = ev 99 (23, [l0, l1, some (.int x), l3, l4, l5], .int x :: st) σ) ∧
  (∀ (L : ri_L) (σ : ri_S) (a0 : Nat) (a1 : Int32) (a2 : Int32), ev 99 (23, L, [.int a2, .int a1, .ref a0]) σ = (cal 141 [.ref a0, .int a1, .int a2] σ).bind fun q => ev 99 (26, L, q.1.toList ++ []) q.2) ∧
  (∀ (l1 l2 l3 l4 l5 : Option Value) (st : List Value) (σ : ri_S) (x : Nat), ev 99 (26, [some (.ref x), l1, l2, l3, l4, l5], st) σ = ev 99 (27, [some (.ref x), l1, l2, l3, l4, l5], .ref x :: st) σ) ∧
  (∀ (L : ri_L) (st : List Value) (σ : ri_S) (a : Nat), ev 99 (27, L, .ref a :: st) σ = tv_o 7 3 (σ.1 a) fun v => ev 99 (30, L, v :: st) σ) ∧
  (∀ (l0 l1 l2 l3 l5 : Option Value) (st : List Value) (σ : ri_S) (x : Int32), ev 99 (30, [l0, l1, l2, l3, some (.int x), l5], st) σ = ev 99 (32, [l0, l1, l2, l3, some (.int x), l5], .int x :: st) σ) ∧
  (∀ (l0 l1 l2 l4 l5 : Option Value) (st : List Value) (σ : ri_S) (x : Int32), ev 99 (32, [l0, l1, l2, some (.int x), l4, l5], st) σ = ev 99 (33, [l0, l1, l2, some (.int x), l4, l5], .int x :: st) σ) ∧
  (∀ (L : ri_L) (σ : ri_S) (a0 : Nat) (a1 : Int32) (a2 : Int32), ev 99 (33, L, [.int a2, .int a1, .ref a0]) σ = (cal 141 [.ref a0, .int a1, .int a2] σ).bind fun q => ev 99 (36, L, q.1.toList ++ []) q.2) ∧
  (∀ (l1 l2 l3 l4 l5 : Option Value) (st : List Value) (σ : ri_S) (x : Nat), ev 99 (36, [some (.ref x), l1, l2, l3, l4, l5], st) σ = ev 99 (37, [some (.ref x), l1, l2, l3, l4, l5], .ref x :: st) σ) ∧
  (∀ (L : ri_L) (st : List Value) (σ : ri_S) (a : Nat), ev 99 (37, L, .ref a :: st) σ = tv_o 7 4 (σ.1 a) fun v => ev 99 (40, L, v :: st) σ) ∧
  (∀ (l0 l1 l2 l3 l5 : Option Value) (st : List Value) (σ : ri_S) (x : Int32), ev 99 (40, [l0, l1, l2, l3, some (.int x), l5], st) σ = ev 99 (42, [l0, l1, l2, l3, some (.int x), l5], .int x :: st) σ) ∧
  (∀ (L : ri_L) (st : List Value) (σ : ri_S), ev 99 (42, L, st) σ = ev 99 (43, L, .int 0 :: st) σ) ∧
  (∀ (L : ri_L) (σ : ri_S) (a0 : Nat) (a1 : Int32) (a2 : Int32), ev 99 (43, L, [.int a2, .int a1, .ref a0]) σ = (cal 141 [.ref a0, .int a1, .int a2] σ).bind fun q => ev 99 (46, L, q.1.toList ++ []) q.2) ∧
  (∀ (l1 l2 l3 l4 l5 : Option Value) (st : List Value) (σ : ri_S) (x : Nat), ev 99 (46, [some (.ref x), l1, l2, l3, l4, l5], st) σ = ev 99 (47, [some (.ref x), l1, l2, l3, l4, l5], .ref x :: st) σ) ∧
  (∀ (L : ri_L) (st : List Value) (σ : ri_S) (a : Nat), ev 99 (47, L, .ref a :: st) σ = tv_o 7 5 (σ.1 a) fun v => ev 99 (50, L, v :: st) σ) ∧
  (∀ (l0 l1 l2 l3 l5 : Option Value) (st : List Value) (σ : ri_S) (x : Int32), ev 99 (50, [l0, l1, l2, l3, some (.int x), l5], st) σ = ev 99 (52, [l0, l1, l2, l3, some (.int x), l5], .int x :: st) σ) ∧
  (∀ (L : ri_L) (st : List Value) (σ : ri_S), ev 99 (52, L, st) σ = ev 99 (53, L, .int 0 :: st) σ) ∧
  (∀ (L : ri_L) (σ : ri_S) (a0 : Nat) (a1 : Int32) (a2 : Int32), ev 99 (53, L, [.int a2, .int a1, .ref a0]) σ = (cal 141 [.ref a0, .int a1, .int a2] σ).bind fun q => ev 99 (56, L, q.1.toList ++ []) q.2) ∧
  (∀ (L : ri_L) (st : List Value) (σ : ri_S), ev 99 (56, L, st) σ = ev 99 (57, L, .int 0 :: st) σ) ∧
  (∀ (l0 l1 l2 l3 l4 l5 : Option Value) (st : List Value) (σ : ri_S) (x : Int32), ev 99 (57, [l0, l1, l2, l3, l4, l5], .int x :: st) σ = ev 99 (59, [l0, l1, l2, l3, ri_clr l4, some (.int x)], st) σ) ∧
  (∀ (L : ri_L) (st : List Value) (σ : ri_S), ev 99 (61, L, st) σ = ev 99 (62, L, .int 5 :: st) σ) ∧
  (∀ (L : ri_L) (st : List Value) (σ : ri_S) (x y : Int32), ev 99 (62, L, .int y :: .int x :: st) σ = if y ≤ x then ev 99 (86, L, st) σ else ev 99 (65, L, st) σ) ∧
  (∀ (l1 l2 l3 l4 l5 : Option Value) (st : List Value) (σ : ri_S) (x : Nat), ev 99 (65, [some (.ref x), l1, l2, l3, l4, l5], st) σ = ev 99 (66, [some (.ref x), l1, l2, l3, l4, l5], .ref x :: st) σ) ∧
  (∀ (L : ri_L) (st : List Value) (σ : ri_S) (a : Nat), ev 99 (66, L, .ref a :: st) σ = tv_o 7 6 (σ.1 a) fun v => ev 99 (69, L, v :: st) σ) ∧
  (∀ (l0 l1 l2 l3 l5 : Option Value) (st : List Value) (σ : ri_S) (x : Int32), ev 99 (69, [l0, l1, l2, l3, some (.int x), l5], st) σ = ev 99 (71, [l0, l1, l2, l3, some (.int x), l5], .int x :: st) σ) ∧
  (∀ (l0 l1 l2 l3 l4 : Option Value) (st : List Value) (σ : ri_S) (x : Int32), ev 99 (71, [l0, l1, l2, l3, l4, some (.int x)], st) σ = ev 99 (73, [l0, l1, l2, l3, l4, some (.int x)], .int x :: st) σ) ∧
  (∀ (L : ri_L) (σ : ri_S) (a0 : Int32) (a1 : Int32) (s0 : Value), ev 99 (73, L, [.int a1, .int a0, s0]) σ = (cal 138 [.int a0, .int a1] σ).bind fun q => ev 99 (76, L, q.1.toList ++ [s0]) q.2) ∧
  (∀ (L : ri_L) (st : List Value) (σ : ri_S), ev 99 (76, L, st) σ = ev 99 (77, L, .int 0 :: st) σ) ∧
  (∀ (L : ri_L) (σ : ri_S) (a0 : Nat) (a1 : Int32) (a2 : Int32), ev 99 (77, L, [.int a2, .int a1, .ref a0]) σ = (cal 141 [.ref a0, .int a1, .int a2] σ).bind fun q => ev 99 (80, L, q.1.toList ++ []) q.2) ∧
  (∀ (l0 l1 l2 l3 l4 : Option Value) (st : List Value) (σ : ri_S) (x : Int32), ev 99 (80, [l0, l1, l2, l3, l4, some (.int x)], st) σ = ev 99 (83, [l0, l1, l2, l3, ri_clr l4, some (.int (x + 1))], st) σ) :=
  ⟨fun l1 l2 l3 l4 l5 st σ x => ev_p ((TP_99 _).trans rfl) rfl,
   fun L st σ a => ev_getf ((TP_99 _).trans rfl),
   fun l0 l1 l2 l3 l4 l5 st σ x => ev_p ((TP_99 _).trans rfl) rfl,
   fun l1 l2 l3 l4 l5 st σ x => ev_p ((TP_99 _).trans rfl) rfl,
   fun L st σ a => ev_getf ((TP_99 _).trans rfl),
   fun l0 l1 l2 l3 l5 st σ x => ev_p ((TP_99 _).trans rfl) rfl,
   fun l0 l2 l3 l4 l5 st σ x => ev_p ((TP_99 _).trans rfl) rfl,
   fun L σ a0 a1 a2 => ev_call ((TP_99 _).trans rfl) rfl rfl rfl rfl,
   fun l1 l2 l3 l4 l5 st σ x => ev_p ((TP_99 _).trans rfl) rfl,
   fun L st σ a => ev_getf ((TP_99 _).trans rfl),
   fun l0 l1 l2 l3 l5 st σ x => ev_p ((TP_99 _).trans rfl) rfl,
   fun l0 l1 l3 l4 l5 st σ x => ev_p ((TP_99 _).trans rfl) rfl,
   fun L σ a0 a1 a2 => ev_call ((TP_99 _).trans rfl) rfl rfl rfl rfl,
   fun l1 l2 l3 l4 l5 st σ x => ev_p ((TP_99 _).trans rfl) rfl,
   fun L st σ a => ev_getf ((TP_99 _).trans rfl),
   fun l0 l1 l2 l3 l5 st σ x => ev_p ((TP_99 _).trans rfl) rfl,
   fun l0 l1 l2 l4 l5 st σ x => ev_p ((TP_99 _).trans rfl) rfl,
   fun L σ a0 a1 a2 => ev_call ((TP_99 _).trans rfl) rfl rfl rfl rfl,
   fun l1 l2 l3 l4 l5 st σ x => ev_p ((TP_99 _).trans rfl) rfl,
   fun L st σ a => ev_getf ((TP_99 _).trans rfl),
   fun l0 l1 l2 l3 l5 st σ x => ev_p ((TP_99 _).trans rfl) rfl,
   fun L st σ => ev_p ((TP_99 _).trans rfl) rfl,
   fun L σ a0 a1 a2 => ev_call ((TP_99 _).trans rfl) rfl rfl rfl rfl,
   fun l1 l2 l3 l4 l5 st σ x => ev_p ((TP_99 _).trans rfl) rfl,
   fun L st σ a => ev_getf ((TP_99 _).trans rfl),
   fun l0 l1 l2 l3 l5 st σ x => ev_p ((TP_99 _).trans rfl) rfl,
   fun L st σ => ev_p ((TP_99 _).trans rfl) rfl,
   fun L σ a0 a1 a2 => ev_call ((TP_99 _).trans rfl) rfl rfl rfl rfl,
   fun L st σ => ev_p ((TP_99 _).trans rfl) rfl,
   fun l0 l1 l2 l3 l4 l5 st σ x => ev_p ((TP_99 _).trans rfl) rfl,
   fun L st σ => ev_p ((TP_99 _).trans rfl) rfl,
   fun L st σ x y => ev_b ((TP_99 _).trans rfl) rfl,
   fun l1 l2 l3 l4 l5 st σ x => ev_p ((TP_99 _).trans rfl) rfl,
   fun L st σ a => ev_getf ((TP_99 _).trans rfl),
   fun l0 l1 l2 l3 l5 st σ x => ev_p ((TP_99 _).trans rfl) rfl,
   fun l0 l1 l2 l3 l4 st σ x => ev_p ((TP_99 _).trans rfl) rfl,
   fun L σ a0 a1 s0 => ev_call ((TP_99 _).trans rfl) rfl rfl rfl rfl,
   fun L st σ => ev_p ((TP_99 _).trans rfl) rfl,
   fun L σ a0 a1 a2 => ev_call ((TP_99 _).trans rfl) rfl rfl rfl rfl,
   fun l0 l1 l2 l3 l4 st σ x => ev_p ((TP_99 _).trans rfl) rfl⟩
theorem I_99_1 :
  (∀ (L : ri_L) (st : List Value) (σ : ri_S), ev 99 (83, L, st) σ = ev 99 (59, L, st) σ) ∧
  (∀ (l1 l2 l3 l4 l5 : Option Value) (st : List Value) (σ : ri_S) (x : Nat), ev 99 (86, [some (.ref x), l1, l2, l3, l4, l5], st) σ = ev 99 (87, [some (.ref x), l1, l2, l3, l4, l5], .ref x :: st) σ) ∧
  (∀ (L : ri_L) (st : List Value) (σ : ri_S) (x : Nat), ev 99 (87, L, .ref x :: st) σ = ev 99 (88, L, .ref x :: .ref x :: st) σ) ∧
  (∀ (L : ri_L) (st : List Value) (σ : ri_S) (a : Nat), ev 99 (88, L, .ref a :: st) σ = tv_o 7 0 (σ.1 a) fun v => ev 99 (91, L, v :: st) σ) ∧
  (∀ (L : ri_L) (st : List Value) (σ : ri_S), ev 99 (91, L, st) σ = ev 99 (92, L, .int 1 :: st) σ) ∧
  (∀ (L : ri_L) (st : List Value) (σ : ri_S) (x y : Int32), ev 99 (92, L, .int y :: .int x :: st) σ = ev 99 (93, L, .int (x + y) :: st) σ) ∧
  (∀ (L : ri_L) (st : List Value) (σ : ri_S) (a : Nat) (x : Int32), ev 99 (93, L, .int x :: .ref a :: st) σ = tv_w 7 0 (σ.1 a) (.int x) fun fs => ev 99 (96, L, st) (ri_upd σ.1 a (.inr (.inr (7, fs))), σ.2)) ∧
  (∀ (l0 l1 l2 l3 l5 : Option Value) (st : List Value) (σ : ri_S) (x : Int32), ev 99 (96, [l0, l1, l2, l3, some (.int x), l5], st) σ = ev 99 (98, [l0, l1, l2, l3, some (.int x), l5], .int x :: st) σ) ∧
  (∀ (L : ri_L) (σ : ri_S) (x : Int32), ev 99 (98, L, [.int x]) σ = some (some (.int x), σ)) :=
  ⟨fun L st σ => ev_p ((TP_99 _).trans rfl) rfl,
   fun l1 l2 l3 l4 l5 st σ x => ev_p ((TP_99 _).trans rfl) rfl,
   fun L st σ x => ev_p ((TP_99 _).trans rfl) rfl,
   fun L st σ a => ev_getf ((TP_99 _).trans rfl),
   fun L st σ => ev_p ((TP_99 _).trans rfl) rfl,
   fun L st σ x y => ev_p ((TP_99 _).trans rfl) rfl,
   fun L st σ a x => ev_puti ((TP_99 _).trans rfl),
   fun l0 l1 l2 l3 l5 st σ x => ev_p ((TP_99 _).trans rfl) rfl,
   fun L σ x => ev_r ((TP_99 _).trans rfl) rfl⟩
theorem TP_100 (pc : Nat) : TT 100 pc = ri_find TL_100 pc := rfl
theorem E_100 (x0 : Nat) (x1 : Int32) (x2 : Int32) (σ : ri_S) : cal 100 [.ref x0, .int x1, .int x2] σ = ev 100 (0, [some (.ref x0), some (.int x1), some (.int x2)], []) σ := rfl
theorem I_100 :
  (∀ (l0 l1 : Option Value) (st : List Value) (σ : ri_S) (x : Int32), ev 100 (0, [l0, l1, some (.int x)], st) σ = ev 100 (1, [l0, l1, some (.int x)], .int x :: st) σ) ∧
  (∀ (l1 l2 : Option Value) (st : List Value) (σ : ri_S) (x : Nat), ev 100 (1, [some (.ref x), l1, l2], st) σ = ev 100 (2, [some (.ref x), l1, l2], .ref x :: st) σ) ∧
  (∀ (L : ri_L) (st : List Value) (σ : ri_S) (a : Nat), ev 100 (2, L, .ref a :: st) σ = tv_o 7 4 (σ.1 a) fun v => ev 100 (5, L, v :: st) σ) ∧
  (∀ (l0 l2 : Option Value) (st : List Value) (σ : ri_S) (x : Int32), ev 100 (5, [l0, some (.int x), l2], st) σ = ev 100 (6, [l0, some (.int x), l2], .int x :: st) σ) ∧
  (∀ (L : ri_L) (σ : ri_S) (a0 : Nat) (a1 : Int32) (s0 : Value), ev 100 (6, L, [.int a1, .ref a0, s0]) σ = (cal 140 [.ref a0, .int a1] σ).bind fun q => ev 100 (9, L, q.1.toList ++ [s0]) q.2) ∧
  (∀ (L : ri_L) (st : List Value) (σ : ri_S) (x y : Int32), ev 100 (9, L, .int y :: .int x :: st) σ = ev 100 (10, L, .int (x - y) :: st) σ) ∧
  (∀ (l1 l2 : Option Value) (st : List Value) (σ : ri_S) (x : Nat), ev 100 (10, [some (.ref x), l1, l2], st) σ = ev 100 (11, [some (.ref x), l1, l2], .ref x :: st) σ) ∧
  (∀ (L : ri_L) (st : List Value) (σ : ri_S) (a : Nat), ev 100 (11, L, .ref a :: st) σ = tv_o 7 1 (σ.1 a) fun v => ev 100 (14, L, v :: st) σ) ∧
  (∀ (l0 l2 : Option Value) (st : List Value) (σ : ri_S) (x : Int32), ev 100 (14, [l0, some (.int x), l2], st) σ = ev 100 (15, [l0, some (.int x), l2], .int x :: st) σ) ∧
  (∀ (L : ri_L) (σ : ri_S) (a0 : Nat) (a1 : Int32) (s0 : Value), ev 100 (15, L, [.int a1, .ref a0, s0]) σ = (cal 140 [.ref a0, .int a1] σ).bind fun q => ev 100 (18, L, q.1.toList ++ [s0]) q.2) ∧
  (∀ (L : ri_L) (σ : ri_S) (a0 : Int32) (a1 : Int32), ev 100 (18, L, [.int a1, .int a0]) σ = (cal 139 [.int a0, .int a1] σ).bind fun q => ev 100 (21, L, q.1.toList ++ []) q.2) ∧
  (∀ (L : ri_L) (σ : ri_S) (x : Int32), ev 100 (21, L, [.int x]) σ = some (some (.int x), σ)) :=
  ⟨fun l0 l1 st σ x => ev_p ((TP_100 _).trans rfl) rfl,
   fun l1 l2 st σ x => ev_p ((TP_100 _).trans rfl) rfl,
   fun L st σ a => ev_getf ((TP_100 _).trans rfl),
   fun l0 l2 st σ x => ev_p ((TP_100 _).trans rfl) rfl,
   fun L σ a0 a1 s0 => ev_call ((TP_100 _).trans rfl) rfl rfl rfl rfl,
   fun L st σ x y => ev_p ((TP_100 _).trans rfl) rfl,
   fun l1 l2 st σ x => ev_p ((TP_100 _).trans rfl) rfl,
   fun L st σ a => ev_getf ((TP_100 _).trans rfl),
   fun l0 l2 st σ x => ev_p ((TP_100 _).trans rfl) rfl,
   fun L σ a0 a1 s0 => ev_call ((TP_100 _).trans rfl) rfl rfl rfl rfl,
   fun L σ a0 a1 => ev_call ((TP_100 _).trans rfl) rfl rfl rfl rfl,
   fun L σ x => ev_r ((TP_100 _).trans rfl) rfl⟩
theorem TP_101 (pc : Nat) : TT 101 pc = ri_find TL_101 pc := rfl
theorem E_101 (x0 : Nat) (x1 : Int32) (x2 : Int32) (σ : ri_S) : cal 101 [.ref x0, .int x1, .int x2] σ = ev 101 (0, [some (.ref x0), some (.int x1), some (.int x2)], []) σ := rfl
theorem I_101 :
  (∀ (l0 l2 : Option Value) (st : List Value) (σ : ri_S) (x : Int32), ev 101 (0, [l0, some (.int x), l2], st) σ = ev 101 (1, [l0, some (.int x), l2], .int x :: st) σ) ∧
  (∀ (l0 l1 : Option Value) (st : List Value) (σ : ri_S) (x : Int32), ev 101 (1, [l0, l1, some (.int x)], st) σ = ev 101 (2, [l0, l1, some (.int x)], .int x :: st) σ) ∧
  (∀ (l1 l2 : Option Value) (st : List Value) (σ : ri_S) (x : Nat), ev 101 (2, [some (.ref x), l1, l2], st) σ = ev 101 (3, [some (.ref x), l1, l2], .ref x :: st) σ) ∧
  (∀ (L : ri_L) (st : List Value) (σ : ri_S) (a : Nat), ev 101 (3, L, .ref a :: st) σ = tv_o 7 4 (σ.1 a) fun v => ev 101 (6, L, v :: st) σ) ∧
  (∀ (l0 l2 : Option Value) (st : List Value) (σ : ri_S) (x : Int32), ev 101 (6, [l0, some (.int x), l2], st) σ = ev 101 (7, [l0, some (.int x), l2], .int x :: st) σ) ∧
  (∀ (L : ri_L) (σ : ri_S) (a0 : Nat) (a1 : Int32) (s0 s1 : Value), ev 101 (7, L, [.int a1, .ref a0, s0, s1]) σ = (cal 140 [.ref a0, .int a1] σ).bind fun q => ev 101 (10, L, q.1.toList ++ [s0, s1]) q.2) ∧
  (∀ (L : ri_L) (st : List Value) (σ : ri_S) (x y : Int32), ev 101 (10, L, .int y :: .int x :: st) σ = ev 101 (11, L, .int (x + y) :: st) σ) ∧
  (∀ (l1 l2 : Option Value) (st : List Value) (σ : ri_S) (x : Nat), ev 101 (11, [some (.ref x), l1, l2], st) σ = ev 101 (12, [some (.ref x), l1, l2], .ref x :: st) σ) ∧
  (∀ (L : ri_L) (st : List Value) (σ : ri_S) (a : Nat), ev 101 (12, L, .ref a :: st) σ = tv_o 7 1 (σ.1 a) fun v => ev 101 (15, L, v :: st) σ) ∧
  (∀ (l0 l2 : Option Value) (st : List Value) (σ : ri_S) (x : Int32), ev 101 (15, [l0, some (.int x), l2], st) σ = ev 101 (16, [l0, some (.int x), l2], .int x :: st) σ) ∧
  (∀ (L : ri_L) (σ : ri_S) (a0 : Nat) (a1 : Int32) (s0 s1 : Value), ev 101 (16, L, [.int a1, .ref a0, s0, s1]) σ = (cal 140 [.ref a0, .int a1] σ).bind fun q => ev 101 (19, L, q.1.toList ++ [s0, s1]) q.2) ∧
  (∀ (L : ri_L) (σ : ri_S) (a0 : Int32) (a1 : Int32) (s0 : Value), ev 101 (19, L, [.int a1, .int a0, s0]) σ = (cal 139 [.int a0, .int a1] σ).bind fun q => ev 101 (22, L, q.1.toList ++ [s0]) q.2) ∧
  (∀ (L : ri_L) (σ : ri_S) (a0 : Int32) (a1 : Int32), ev 101 (22, L, [.int a1, .int a0]) σ = (cal 138 [.int a0, .int a1] σ).bind fun q => ev 101 (25, L, q.1.toList ++ []) q.2) ∧
  (∀ (L : ri_L) (σ : ri_S) (x : Int32), ev 101 (25, L, [.int x]) σ = some (some (.int x), σ)) :=
  ⟨fun l0 l2 st σ x => ev_p ((TP_101 _).trans rfl) rfl,
   fun l0 l1 st σ x => ev_p ((TP_101 _).trans rfl) rfl,
   fun l1 l2 st σ x => ev_p ((TP_101 _).trans rfl) rfl,
   fun L st σ a => ev_getf ((TP_101 _).trans rfl),
   fun l0 l2 st σ x => ev_p ((TP_101 _).trans rfl) rfl,
   fun L σ a0 a1 s0 s1 => ev_call ((TP_101 _).trans rfl) rfl rfl rfl rfl,
   fun L st σ x y => ev_p ((TP_101 _).trans rfl) rfl,
   fun l1 l2 st σ x => ev_p ((TP_101 _).trans rfl) rfl,
   fun L st σ a => ev_getf ((TP_101 _).trans rfl),
   fun l0 l2 st σ x => ev_p ((TP_101 _).trans rfl) rfl,
   fun L σ a0 a1 s0 s1 => ev_call ((TP_101 _).trans rfl) rfl rfl rfl rfl,
   fun L σ a0 a1 s0 => ev_call ((TP_101 _).trans rfl) rfl rfl rfl rfl,
   fun L σ a0 a1 => ev_call ((TP_101 _).trans rfl) rfl rfl rfl rfl,
   fun L σ x => ev_r ((TP_101 _).trans rfl) rfl⟩
theorem TP_102 (pc : Nat) : TT 102 pc = ri_find TL_102 pc := rfl
theorem E_102 (x0 : Nat) (x1 : Int32) (x2 : Int32) (σ : ri_S) : cal 102 [.ref x0, .int x1, .int x2] σ = ev 102 (0, [some (.ref x0), some (.int x1), some (.int x2)], []) σ := rfl
theorem I_102 :
  (∀ (l1 l2 : Option Value) (st : List Value) (σ : ri_S) (x : Nat), ev 102 (0, [some (.ref x), l1, l2], st) σ = ev 102 (1, [some (.ref x), l1, l2], .ref x :: st) σ) ∧
  (∀ (L : ri_L) (st : List Value) (σ : ri_S) (a : Nat), ev 102 (1, L, .ref a :: st) σ = tv_o 7 4 (σ.1 a) fun v => ev 102 (4, L, v :: st) σ) ∧
  (∀ (l0 l2 : Option Value) (st : List Value) (σ : ri_S) (x : Int32), ev 102 (4, [l0, some (.int x), l2], st) σ = ev 102 (5, [l0, some (.int x), l2], .int x :: st) σ) ∧
  (∀ (l1 l2 : Option Value) (st : List Value) (σ : ri_S) (x : Nat), ev 102 (5, [some (.ref x), l1, l2], st) σ = ev 102 (6, [some (.ref x), l1, l2], .ref x :: st) σ) ∧
  (∀ (L : ri_L) (st : List Value) (σ : ri_S) (a : Nat), ev 102 (6, L, .ref a :: st) σ = tv_o 7 4 (σ.1 a) fun v => ev 102 (9, L, v :: st) σ) ∧
  (∀ (l0 l2 : Option Value) (st : List Value) (σ : ri_S) (x : Int32), ev 102 (9, [l0, some (.int x), l2], st) σ = ev 102 (10, [l0, some (.int x), l2], .int x :: st) σ) ∧
  (∀ (L : ri_L) (σ : ri_S) (a0 : Nat) (a1 : Int32) (s0 s1 : Value), ev 102 (10, L, [.int a1, .ref a0, s0, s1]) σ = (cal 140 [.ref a0, .int a1] σ).bind fun q => ev 102 (13, L, q.1.toList ++ [s0, s1]) q.2) ∧
  (∀ (l0 l1 : Option Value) (st : List Value) (σ : ri_S) (x : Int32), ev 102 (13, [l0, l1, some (.int x)], st) σ = ev 102 (14, [l0, l1, some (.int x)], .int x :: st) σ) ∧
  (∀ (L : ri_L) (st : List Value) (σ : ri_S) (x y : Int32), ev 102 (14, L, .int y :: .int x :: st) σ = ev 102 (15, L, .int (x + y) :: st) σ) ∧
  (∀ (l1 l2 : Option Value) (st : List Value) (σ : ri_S) (x : Nat), ev 102 (15, [some (.ref x), l1, l2], st) σ = ev 102 (16, [some (.ref x), l1, l2], .ref x :: st) σ) ∧
  (∀ (L : ri_L) (st : List Value) (σ : ri_S) (a : Nat), ev 102 (16, L, .ref a :: st) σ = tv_o 7 1 (σ.1 a) fun v => ev 102 (19, L, v :: st) σ) ∧
  (∀ (l0 l2 : Option Value) (st : List Value) (σ : ri_S) (x : Int32), ev 102 (19, [l0, some (.int x), l2], st) σ = ev 102 (20, [l0, some (.int x), l2], .int x :: st) σ) ∧
  (∀ (L : ri_L) (σ : ri_S) (a0 : Nat) (a1 : Int32) (s0 s1 s2 : Value), ev 102 (20, L, [.int a1, .ref a0, s0, s1, s2]) σ = (cal 140 [.ref a0, .int a1] σ).bind fun q => ev 102 (23, L, q.1.toList ++ [s0, s1, s2]) q.2) ∧
  (∀ (L : ri_L) (σ : ri_S) (a0 : Int32) (a1 : Int32) (s0 s1 : Value), ev 102 (23, L, [.int a1, .int a0, s0, s1]) σ = (cal 139 [.int a0, .int a1] σ).bind fun q => ev 102 (26, L, q.1.toList ++ [s0, s1]) q.2) ∧
  (∀ (L : ri_L) (σ : ri_S) (a0 : Nat) (a1 : Int32) (a2 : Int32), ev 102 (26, L, [.int a2, .int a1, .ref a0]) σ = (cal 141 [.ref a0, .int a1, .int a2] σ).bind fun q => ev 102 (29, L, q.1.toList ++ []) q.2) ∧
  (∀ (l1 l2 : Option Value) (st : List Value) (σ : ri_S) (x : Nat), ev 102 (29, [some (.ref x), l1, l2], st) σ = ev 102 (30, [some (.ref x), l1, l2], .ref x :: st) σ) ∧
  (∀ (L : ri_L) (st : List Value) (σ : ri_S) (a : Nat), ev 102 (30, L, .ref a :: st) σ = tv_o 7 4 (σ.1 a) fun v => ev 102 (33, L, v :: st) σ) ∧
  (∀ (l0 l2 : Option Value) (st : List Value) (σ : ri_S) (x : Int32), ev 102 (33, [l0, some (.int x), l2], st) σ = ev 102 (34, [l0, some (.int x), l2], .int x :: st) σ) ∧
  (∀ (L : ri_L) (σ : ri_S) (a0 : Nat) (a1 : Int32), ev 102 (34, L, [.int a1, .ref a0]) σ = (cal 140 [.ref a0, .int a1] σ).bind fun q => ev 102 (37, L, q.1.toList ++ []) q.2) ∧
  (∀ (L : ri_L) (σ : ri_S) (x : Int32), ev 102 (37, L, [.int x]) σ = some (some (.int x), σ)) :=
  ⟨fun l1 l2 st σ x => ev_p ((TP_102 _).trans rfl) rfl,
   fun L st σ a => ev_getf ((TP_102 _).trans rfl),
   fun l0 l2 st σ x => ev_p ((TP_102 _).trans rfl) rfl,
   fun l1 l2 st σ x => ev_p ((TP_102 _).trans rfl) rfl,
   fun L st σ a => ev_getf ((TP_102 _).trans rfl),
   fun l0 l2 st σ x => ev_p ((TP_102 _).trans rfl) rfl,
   fun L σ a0 a1 s0 s1 => ev_call ((TP_102 _).trans rfl) rfl rfl rfl rfl,
   fun l0 l1 st σ x => ev_p ((TP_102 _).trans rfl) rfl,
   fun L st σ x y => ev_p ((TP_102 _).trans rfl) rfl,
   fun l1 l2 st σ x => ev_p ((TP_102 _).trans rfl) rfl,
   fun L st σ a => ev_getf ((TP_102 _).trans rfl),
   fun l0 l2 st σ x => ev_p ((TP_102 _).trans rfl) rfl,
   fun L σ a0 a1 s0 s1 s2 => ev_call ((TP_102 _).trans rfl) rfl rfl rfl rfl,
   fun L σ a0 a1 s0 s1 => ev_call ((TP_102 _).trans rfl) rfl rfl rfl rfl,
   fun L σ a0 a1 a2 => ev_call ((TP_102 _).trans rfl) rfl rfl rfl rfl,
   fun l1 l2 st σ x => ev_p ((TP_102 _).trans rfl) rfl,
   fun L st σ a => ev_getf ((TP_102 _).trans rfl),
   fun l0 l2 st σ x => ev_p ((TP_102 _).trans rfl) rfl,
   fun L σ a0 a1 => ev_call ((TP_102 _).trans rfl) rfl rfl rfl rfl,
   fun L σ x => ev_r ((TP_102 _).trans rfl) rfl⟩
theorem TP_103 (pc : Nat) : TT 103 pc = ri_find TL_103 pc := rfl
theorem E_103 (x0 : Nat) (x1 : Int32) (σ : ri_S) : cal 103 [.ref x0, .int x1] σ = ev 103 (0, [some (.ref x0), some (.int x1)], []) σ := rfl
theorem I_103 :
  (∀ (l1 : Option Value) (st : List Value) (σ : ri_S) (x : Nat), ev 103 (0, [some (.ref x), l1], st) σ = ev 103 (1, [some (.ref x), l1], .ref x :: st) σ) ∧
  (∀ (l0 : Option Value) (st : List Value) (σ : ri_S) (x : Int32), ev 103 (1, [l0, some (.int x)], st) σ = ev 103 (2, [l0, some (.int x)], .int x :: st) σ) ∧
  (∀ (l1 : Option Value) (st : List Value) (σ : ri_S) (x : Nat), ev 103 (2, [some (.ref x), l1], st) σ = ev 103 (3, [some (.ref x), l1], .ref x :: st) σ) ∧
  (∀ (L : ri_L) (st : List Value) (σ : ri_S) (a : Nat), ev 103 (3, L, .ref a :: st) σ = tv_o 7 2 (σ.1 a) fun v => ev 103 (6, L, v :: st) σ) ∧
  (∀ (l0 : Option Value) (st : List Value) (σ : ri_S) (x : Int32), ev 103 (6, [l0, some (.int x)], st) σ = ev 103 (7, [l0, some (.int x)], .int x :: st) σ) ∧
  (∀ (L : ri_L) (σ : ri_S) (a0 : Nat) (a1 : Int32) (s0 s1 : Value), ev 103 (7, L, [.int a1, .ref a0, s0, s1]) σ = (cal 140 [.ref a0, .int a1] σ).bind fun q => ev 103 (10, L, q.1.toList ++ [s0, s1]) q.2) ∧
  (∀ (L : ri_L) (σ : ri_S) (a0 : Nat) (a1 : Int32) (a2 : Int32), ev 103 (10, L, [.int a2, .int a1, .ref a0]) σ = tv_k 7 (σ.1 a0) ((cal 102 [.ref a0, .int a1, .int a2] σ).bind fun q => ev 103 (13, L, q.1.toList ++ []) q.2)) ∧
  (∀ (L : ri_L) (st : List Value) (σ : ri_S) (x : Int32), ev 103 (13, L, .int x :: st) σ = ev 103 (14, L, st) σ) ∧
  (∀ (l1 : Option Value) (st : List Value) (σ : ri_S) (x : Nat), ev 103 (14, [some (.ref x), l1], st) σ = ev 103 (15, [some (.ref x), l1], .ref x :: st) σ) ∧
  (∀ (L : ri_L) (st : List Value) (σ : ri_S) (a : Nat), ev 103 (15, L, .ref a :: st) σ = tv_o 7 5 (σ.1 a) fun v => ev 103 (18, L, v :: st) σ) ∧
  (∀ (l0 : Option Value) (st : List Value) (σ : ri_S) (x : Int32), ev 103 (18, [l0, some (.int x)], st) σ = ev 103 (19, [l0, some (.int x)], .int x :: st) σ) ∧
  (∀ (l1 : Option Value) (st : List Value) (σ : ri_S) (x : Nat), ev 103 (19, [some (.ref x), l1], st) σ = ev 103 (20, [some (.ref x), l1], .ref x :: st) σ) ∧
  (∀ (L : ri_L) (st : List Value) (σ : ri_S) (a : Nat), ev 103 (20, L, .ref a :: st) σ = tv_o 7 5 (σ.1 a) fun v => ev 103 (23, L, v :: st) σ) ∧
  (∀ (l0 : Option Value) (st : List Value) (σ : ri_S) (x : Int32), ev 103 (23, [l0, some (.int x)], st) σ = ev 103 (24, [l0, some (.int x)], .int x :: st) σ) ∧
  (∀ (L : ri_L) (σ : ri_S) (a0 : Nat) (a1 : Int32) (s0 s1 : Value), ev 103 (24, L, [.int a1, .ref a0, s0, s1]) σ = (cal 140 [.ref a0, .int a1] σ).bind fun q => ev 103 (27, L, q.1.toList ++ [s0, s1]) q.2) ∧
  (∀ (L : ri_L) (st : List Value) (σ : ri_S), ev 103 (27, L, st) σ = ev 103 (28, L, .int 1 :: st) σ) ∧
  (∀ (L : ri_L) (st : List Value) (σ : ri_S) (x y : Int32), ev 103 (28, L, .int y :: .int x :: st) σ = ev 103 (29, L, .int (x + y) :: st) σ) ∧
  (∀ (L : ri_L) (σ : ri_S) (a0 : Nat) (a1 : Int32) (a2 : Int32), ev 103 (29, L, [.int a2, .int a1, .ref a0]) σ = (cal 141 [.ref a0, .int a1, .int a2] σ).bind fun q => ev 103 (32, L, q.1.toList ++ []) q.2) ∧
  (∀ (L : ri_L) (σ : ri_S), ev 103 (32, L, []) σ = some (none, σ)) :=
  ⟨fun l1 st σ x => ev_p ((TP_103 _).trans rfl) rfl,
   fun l0 st σ x => ev_p ((TP_103 _).trans rfl) rfl,
   fun l1 st σ x => ev_p ((TP_103 _).trans rfl) rfl,
   fun L st σ a => ev_getf ((TP_103 _).trans rfl),
   fun l0 st σ x => ev_p ((TP_103 _).trans rfl) rfl,
   fun L σ a0 a1 s0 s1 => ev_call ((TP_103 _).trans rfl) rfl rfl rfl rfl,
   fun L σ a0 a1 a2 => ev_callv ((TP_103 _).trans rfl) rfl rfl rfl rfl,
   fun L st σ x => ev_p ((TP_103 _).trans rfl) rfl,
   fun l1 st σ x => ev_p ((TP_103 _).trans rfl) rfl,
   fun L st σ a => ev_getf ((TP_103 _).trans rfl),
   fun l0 st σ x => ev_p ((TP_103 _).trans rfl) rfl,
   fun l1 st σ x => ev_p ((TP_103 _).trans rfl) rfl,
   fun L st σ a => ev_getf ((TP_103 _).trans rfl),
   fun l0 st σ x => ev_p ((TP_103 _).trans rfl) rfl,
   fun L σ a0 a1 s0 s1 => ev_call ((TP_103 _).trans rfl) rfl rfl rfl rfl,
   fun L st σ => ev_p ((TP_103 _).trans rfl) rfl,
   fun L st σ x y => ev_p ((TP_103 _).trans rfl) rfl,
   fun L σ a0 a1 a2 => ev_call ((TP_103 _).trans rfl) rfl rfl rfl rfl,
   fun L σ => ev_r ((TP_103 _).trans rfl) rfl⟩
theorem TP_104 (pc : Nat) : TT 104 pc = ri_find TL_104 pc := rfl
theorem E_104 (x0 : Nat) (x1 : Int32) (σ : ri_S) : cal 104 [.ref x0, .int x1] σ = ev 104 (0, [some (.ref x0), some (.int x1), none, none], []) σ := rfl
theorem H_104_11 (l0 l1 l2 : Option Value) (st : List Value) (σ : ri_S) (x : Int32) : ev 104 (11, [l0, l1, l2, some (.int x)], st) σ = ev 104 (12, [l0, l1, l2, some (.int x)], .int x :: st) σ := ev_p ((TP_104 _).trans rfl) rfl
theorem I_104 :
  (∀ (l1 l2 l3 : Option Value) (st : List Value) (σ : ri_S) (x : Nat), ev 104 (0, [some (.ref x), l1, l2, l3], st) σ = ev 104 (1, [some (.ref x), l1, l2, l3], .ref x :: st) σ) ∧
  (∀ (L : ri_L) (st : List Value) (σ : ri_S) (a : Nat), ev 104 (1, L, .ref a :: st) σ = tv_o 7 1 (σ.1 a) fun v => ev 104 (4, L, v :: st) σ) ∧
  (∀ (l0 l2 l3 : Option Value) (st : List Value) (σ : ri_S) (x : Int32), ev 104 (4, [l0, some (.int x), l2, l3], st) σ = ev 104 (5, [l0, some (.int x), l2, l3], .int x :: st) σ) ∧
  (∀ (L : ri_L) (σ : ri_S) (a0 : Nat) (a1 : Int32), ev 104 (5, L, [.int a1, .ref a0]) σ = (cal 140 [.ref a0, .int a1] σ).bind fun q => ev 104 (8, L, q.1.toList ++ []) q.2) ∧
  (∀ (l0 l1 l2 l3 : Option Value) (st : List Value) (σ : ri_S) (x : Int32), ev 104 (8, [l0, l1, l2, l3], .int x :: st) σ = ev 104 (9, [l0, ri_clr l1, some (.int x), l3], st) σ) ∧
  (∀ (L : ri_L) (st : List Value) (σ : ri_S), ev 104 (9, L, st) σ = ev 104 (10, L, .int 1 :: st) σ) ∧
  (∀ (l0 l1 l2 l3 : Option Value) (st : List Value) (σ : ri_S) (x : Int32), ev 104 (10, [l0, l1, l2, l3], .int x :: st) σ = ev 104 (11, [l0, l1, ri_clr l2, some (.int x)], st) σ) ∧
  (∀ (l0 l1 l3 : Option Value) (st : List Value) (σ : ri_S) (x : Int32), ev 104 (12, [l0, l1, some (.int x), l3], st) σ = ev 104 (13, [l0, l1, some (.int x), l3], .int x :: st) σ) ∧
  (∀ (L : ri_L) (st : List Value) (σ : ri_S) (x y : Int32), ev 104 (13, L, .int y :: .int x :: st) σ = if y ≤ x then ev 104 (39, L, st) σ else ev 104 (16, L, st) σ) ∧
  (∀ (l0 l1 l2 : Option Value) (st : List Value) (σ : ri_S) (x : Int32), ev 104 (16, [l0, l1, l2, some (.int x)], st) σ = ev 104 (17, [l0, l1, l2, some (.int x)], .int x :: st) σ) ∧
  (∀ (l1 l2 l3 : Option Value) (st : List Value) (σ : ri_S) (x : Nat), ev 104 (17, [some (.ref x), l1, l2, l3], st) σ = ev 104 (18, [some (.ref x), l1, l2, l3], .ref x :: st) σ) ∧
  (∀ (L : ri_L) (st : List Value) (σ : ri_S) (a : Nat), ev 104 (18, L, .ref a :: st) σ = tv_o 7 2 (σ.1 a) fun v => ev 104 (21, L, v :: st) σ) ∧
  (∀ (l0 l2 l3 : Option Value) (st : List Value) (σ : ri_S) (x : Int32), ev 104 (21, [l0, some (.int x), l2, l3], st) σ = ev 104 (22, [l0, some (.int x), l2, l3], .int x :: st) σ) ∧
  (∀ (L : ri_L) (σ : ri_S) (a0 : Nat) (a1 : Int32) (s0 : Value), ev 104 (22, L, [.int a1, .ref a0, s0]) σ = (cal 140 [.ref a0, .int a1] σ).bind fun q => ev 104 (25, L, q.1.toList ++ [s0]) q.2) ∧
  (∀ (L : ri_L) (st : List Value) (σ : ri_S) (x y : Int32), ev 104 (25, L, .int y :: .int x :: st) σ = ev 104 (26, L, .int (x * y) :: st) σ) ∧
  (∀ (l0 l1 l3 : Option Value) (st : List Value) (σ : ri_S) (x : Int32), ev 104 (26, [l0, l1, some (.int x), l3], st) σ = ev 104 (27, [l0, l1, some (.int x), l3], .int x :: st) σ) ∧
  (∀ (L : ri_L) (σ : ri_S) (a0 : Int32) (a1 : Int32), ev 104 (27, L, [.int a1, .int a0]) σ = (cal 139 [.int a0, .int a1] σ).bind fun q => ev 104 (30, L, q.1.toList ++ []) q.2) ∧
  (∀ (L : ri_L) (st : List Value) (σ : ri_S) (x : Int32), ev 104 (30, L, .int x :: st) σ = if x = 0 then ev 104 (39, L, st) σ else ev 104 (33, L, st) σ) ∧
  (∀ (l0 l1 l2 : Option Value) (st : List Value) (σ : ri_S) (x : Int32), ev 104 (33, [l0, l1, l2, some (.int x)], st) σ = ev 104 (36, [l0, l1, ri_clr l2, some (.int (x + 1))], st) σ) ∧
  (∀ (L : ri_L) (st : List Value) (σ : ri_S), ev 104 (36, L, st) σ = ev 104 (11, L, st) σ) ∧
  (∀ (l0 l1 l2 : Option Value) (st : List Value) (σ : ri_S) (x : Int32), ev 104 (39, [l0, l1, l2, some (.int x)], st) σ = ev 104 (40, [l0, l1, l2, some (.int x)], .int x :: st) σ) ∧
  (∀ (L : ri_L) (σ : ri_S) (x : Int32), ev 104 (40, L, [.int x]) σ = some (some (.int x), σ)) :=
  ⟨fun l1 l2 l3 st σ x => ev_p ((TP_104 _).trans rfl) rfl,
   fun L st σ a => ev_getf ((TP_104 _).trans rfl),
   fun l0 l2 l3 st σ x => ev_p ((TP_104 _).trans rfl) rfl,
   fun L σ a0 a1 => ev_call ((TP_104 _).trans rfl) rfl rfl rfl rfl,
   fun l0 l1 l2 l3 st σ x => ev_p ((TP_104 _).trans rfl) rfl,
   fun L st σ => ev_p ((TP_104 _).trans rfl) rfl,
   fun l0 l1 l2 l3 st σ x => ev_p ((TP_104 _).trans rfl) rfl,
   fun l0 l1 l3 st σ x => ev_p ((TP_104 _).trans rfl) rfl,
   fun L st σ x y => ev_b ((TP_104 _).trans rfl) rfl,
   fun l0 l1 l2 st σ x => ev_p ((TP_104 _).trans rfl) rfl,
   fun l1 l2 l3 st σ x => ev_p ((TP_104 _).trans rfl) rfl,
   fun L st σ a => ev_getf ((TP_104 _).trans rfl),
   fun l0 l2 l3 st σ x => ev_p ((TP_104 _).trans rfl) rfl,
   fun L σ a0 a1 s0 => ev_call ((TP_104 _).trans rfl) rfl rfl rfl rfl,
   fun L st σ x y => ev_p ((TP_104 _).trans rfl) rfl,
   fun l0 l1 l3 st σ x => ev_p ((TP_104 _).trans rfl) rfl,
   fun L σ a0 a1 => ev_call ((TP_104 _).trans rfl) rfl rfl rfl rfl,
   fun L st σ x => ev_b ((TP_104 _).trans rfl) rfl,
   fun l0 l1 l2 st σ x => ev_p ((TP_104 _).trans rfl) rfl,
   fun L st σ => ev_p ((TP_104 _).trans rfl) rfl,
   fun l0 l1 l2 st σ x => ev_p ((TP_104 _).trans rfl) rfl,
   fun L σ x => ev_r ((TP_104 _).trans rfl) rfl⟩
theorem TP_105 (pc : Nat) : TT 105 pc = ri_find TL_105 pc := rfl
theorem E_105 (x0 : Nat) (x1 : Int32) (σ : ri_S) : cal 105 [.ref x0, .int x1] σ = ev 105 (0, [some (.ref x0), some (.int x1), none, none], []) σ := rfl
theorem H_105_4 (l0 l1 l2 : Option Value) (st : List Value) (σ : ri_S) (x : Int32) : ev 105 (4, [l0, l1, l2, some (.int x)], st) σ = ev 105 (5, [l0, l1, l2, some (.int x)], .int x :: st) σ := ev_p ((TP_105 _).trans rfl) rfl
theorem I_105 :
  (∀ (L : ri_L) (st : List Value) (σ : ri_S), ev 105 (0, L, st) σ = ev 105 (1, L, .int 0 :: st) σ) ∧
  (∀ (l0 l1 l2 l3 : Option Value) (st : List Value) (σ : ri_S) (x : Int32), ev 105 (1, [l0, l1, l2, l3], .int x :: st) σ = ev 105 (2, [l0, ri_clr l1, some (.int x), l3], st) σ) ∧
  (∀ (L : ri_L) (st : List Value) (σ : ri_S), ev 105 (2, L, st) σ = ev 105 (3, L, .int 0 :: st) σ) ∧
  (∀ (l0 l1 l2 l3 : Option Value) (st : List Value) (σ : ri_S) (x : Int32), ev 105 (3, [l0, l1, l2, l3], .int x :: st) σ = ev 105 (4, [l0, l1, ri_clr l2, some (.int x)], st) σ) ∧
  (∀ (l1 l2 l3 : Option Value) (st : List Value) (σ : ri_S) (x : Nat), ev 105 (5, [some (.ref x), l1, l2, l3], st) σ = ev 105 (6, [some (.ref x), l1, l2, l3], .ref x :: st) σ) ∧
  (∀ (L : ri_L) (st : List Value) (σ : ri_S) (a : Nat), ev 105 (6, L, .ref a :: st) σ = tv_o 7 1 (σ.1 a) fun v => ev 105 (9, L, v :: st) σ) ∧
  (∀ (l0 l2 l3 : Option Value) (st : List Value) (σ : ri_S) (x : Int32), ev 105 (9, [l0, some (.int x), l2, l3], st) σ = ev 105 (10, [l0, some (.int x), l2, l3], .int x :: st) σ) ∧
  (∀ (L : ri_L) (σ : ri_S) (a0 : Nat) (a1 : Int32) (s0 : Value), ev 105 (10, L, [.int a1, .ref a0, s0]) σ = (cal 140 [.ref a0, .int a1] σ).bind fun q => ev 105 (13, L, q.1.toList ++ [s0]) q.2) ∧
  (∀ (L : ri_L) (st : List Value) (σ : ri_S) (x y : Int32), ev 105 (13, L, .int y :: .int x :: st) σ = if y ≤ x then ev 105 (37, L, st) σ else ev 105 (16, L, st) σ) ∧
  (∀ (l0 l1 l3 : Option Value) (st : List Value) (σ : ri_S) (x : Int32), ev 105 (16, [l0, l1, some (.int x), l3], st) σ = ev 105 (17, [l0, l1, some (.int x), l3], .int x :: st) σ) ∧
  (∀ (l1 l2 l3 : Option Value) (st : List Value) (σ : ri_S) (x : Nat), ev 105 (17, [some (.ref x), l1, l2, l3], st) σ = ev 105 (18, [some (.ref x), l1, l2, l3], .ref x :: st) σ) ∧
  (∀ (L : ri_L) (st : List Value) (σ : ri_S) (a : Nat), ev 105 (18, L, .ref a :: st) σ = tv_o 7 6 (σ.1 a) fun v => ev 105 (21, L, v :: st) σ) ∧
  (∀ (l0 l2 l3 : Option Value) (st : List Value) (σ : ri_S) (x : Int32), ev 105 (21, [l0, some (.int x), l2, l3], st) σ = ev 105 (22, [l0, some (.int x), l2, l3], .int x :: st) σ) ∧
  (∀ (l0 l1 l2 : Option Value) (st : List Value) (σ : ri_S) (x : Int32), ev 105 (22, [l0, l1, l2, some (.int x)], st) σ = ev 105 (23, [l0, l1, l2, some (.int x)], .int x :: st) σ) ∧
  (∀ (L : ri_L) (σ : ri_S) (a0 : Int32) (a1 : Int32) (s0 s1 : Value), ev 105 (23, L, [.int a1, .int a0, s0, s1]) σ = (cal 138 [.int a0, .int a1] σ).bind fun q => ev 105 (26, L, q.1.toList ++ [s0, s1]) q.2) ∧
  (∀ (L : ri_L) (σ : ri_S) (a0 : Nat) (a1 : Int32) (s0 : Value), ev 105 (26, L, [.int a1, .ref a0, s0]) σ = (cal 140 [.ref a0, .int a1] σ).bind fun q => ev 105 (29, L, q.1.toList ++ [s0]) q.2) ∧
  (∀ (L : ri_L) (st : List Value) (σ : ri_S) (x y : Int32), ev 105 (29, L, .int y :: .int x :: st) σ = ev 105 (30, L, .int (x + y) :: st) σ) ∧
  (∀ (l0 l1 l2 l3 : Option Value) (st : List Value) (σ : ri_S) (x : Int32), ev 105 (30, [l0, l1, l2, l3], .int x :: st) σ = ev 105 (31, [l0, ri_clr l1, some (.int x), l3], st) σ) ∧
  (∀ (l0 l1 l2 : Option Value) (st : List Value) (σ : ri_S) (x : Int32), ev 105 (31, [l0, l1, l2, some (.int x)], st) σ = ev 105 (34, [l0, l1, ri_clr l2, some (.int (x + 1))], st) σ) ∧
  (∀ (L : ri_L) (st : List Value) (σ : ri_S), ev 105 (34, L, st) σ = ev 105 (4, L, st) σ) ∧
  (∀ (l0 l1 l3 : Option Value) (st : List Value) (σ : ri_S) (x : Int32), ev 105 (37, [l0, l1, some (.int x), l3], st) σ = ev 105 (38, [l0, l1, some (.int x), l3], .int x :: st) σ) ∧
  (∀ (L : ri_L) (σ : ri_S) (x : Int32), ev 105 (38, L, [.int x]) σ = some (some (.int x), σ)) :=
  ⟨fun L st σ => ev_p ((TP_105 _).trans rfl) rfl,
   fun l0 l1 l2 l3 st σ x => ev_p ((TP_105 _).trans rfl) rfl,
   fun L st σ => ev_p ((TP_105 _).trans rfl) rfl,
   fun l0 l1 l2 l3 st σ x => ev_p ((TP_105 _).trans rfl) rfl,
   fun l1 l2 l3 st σ x => ev_p ((TP_105 _).trans rfl) rfl,
   fun L st σ a => ev_getf ((TP_105 _).trans rfl),
   fun l0 l2 l3 st σ x => ev_p ((TP_105 _).trans rfl) rfl,
   fun L σ a0 a1 s0 => ev_call ((TP_105 _).trans rfl) rfl rfl rfl rfl,
   fun L st σ x y => ev_b ((TP_105 _).trans rfl) rfl,
   fun l0 l1 l3 st σ x => ev_p ((TP_105 _).trans rfl) rfl,
   fun l1 l2 l3 st σ x => ev_p ((TP_105 _).trans rfl) rfl,
   fun L st σ a => ev_getf ((TP_105 _).trans rfl),
   fun l0 l2 l3 st σ x => ev_p ((TP_105 _).trans rfl) rfl,
   fun l0 l1 l2 st σ x => ev_p ((TP_105 _).trans rfl) rfl,
   fun L σ a0 a1 s0 s1 => ev_call ((TP_105 _).trans rfl) rfl rfl rfl rfl,
   fun L σ a0 a1 s0 => ev_call ((TP_105 _).trans rfl) rfl rfl rfl rfl,
   fun L st σ x y => ev_p ((TP_105 _).trans rfl) rfl,
   fun l0 l1 l2 l3 st σ x => ev_p ((TP_105 _).trans rfl) rfl,
   fun l0 l1 l2 st σ x => ev_p ((TP_105 _).trans rfl) rfl,
   fun L st σ => ev_p ((TP_105 _).trans rfl) rfl,
   fun l0 l1 l3 st σ x => ev_p ((TP_105 _).trans rfl) rfl,
   fun L σ x => ev_r ((TP_105 _).trans rfl) rfl⟩
theorem TP_106 (pc : Nat) : TT 106 pc = ri_find TL_106 pc := rfl
theorem E_106 (x0 : Nat) (σ : ri_S) : cal 106 [.ref x0] σ = ev 106 (0, [some (.ref x0), none, none], []) σ := rfl
theorem H_106_4 (l0 l1 : Option Value) (st : List Value) (σ : ri_S) (x : Int32) : ev 106 (4, [l0, l1, some (.int x)], st) σ = ev 106 (5, [l0, l1, some (.int x)], .int x :: st) σ := ev_p ((TP_106 _).trans rfl) rfl
theorem I_106 :
  (∀ (L : ri_L) (st : List Value) (σ : ri_S), ev 106 (0, L, st) σ = ev 106 (1, L, .int 0 :: st) σ) ∧
  (∀ (l0 l1 l2 : Option Value) (st : List Value) (σ : ri_S) (x : Int32), ev 106 (1, [l0, l1, l2], .int x :: st) σ = ev 106 (2, [ri_clr l0, some (.int x), l2], st) σ) ∧
  (∀ (L : ri_L) (st : List Value) (σ : ri_S), ev 106 (2, L, st) σ = ev 106 (3, L, .int 0 :: st) σ) ∧
  (∀ (l0 l1 l2 : Option Value) (st : List Value) (σ : ri_S) (x : Int32), ev 106 (3, [l0, l1, l2], .int x :: st) σ = ev 106 (4, [l0, ri_clr l1, some (.int x)], st) σ) ∧
  (∀ (l1 l2 : Option Value) (st : List Value) (σ : ri_S) (x : Nat), ev 106 (5, [some (.ref x), l1, l2], st) σ = ev 106 (6, [some (.ref x), l1, l2], .ref x :: st) σ) ∧
  (∀ (L : ri_L) (st : List Value) (σ : ri_S) (a : Nat), ev 106 (6, L, .ref a :: st) σ = tv_o 7 0 (σ.1 a) fun v => ev 106 (9, L, v :: st) σ) ∧
  (∀ (L : ri_L) (st : List Value) (σ : ri_S) (x y : Int32), ev 106 (9, L, .int y :: .int x :: st) σ = if y ≤ x then ev 106 (26, L, st) σ else ev 106 (12, L, st) σ) ∧
  (∀ (l0 l2 : Option Value) (st : List Value) (σ : ri_S) (x : Int32), ev 106 (12, [l0, some (.int x), l2], st) σ = ev 106 (13, [l0, some (.int x), l2], .int x :: st) σ) ∧
  (∀ (l1 l2 : Option Value) (st : List Value) (σ : ri_S) (x : Nat), ev 106 (13, [some (.ref x), l1, l2], st) σ = ev 106 (14, [some (.ref x), l1, l2], .ref x :: st) σ) ∧
  (∀ (l0 l1 : Option Value) (st : List Value) (σ : ri_S) (x : Int32), ev 106 (14, [l0, l1, some (.int x)], st) σ = ev 106 (15, [l0, l1, some (.int x)], .int x :: st) σ) ∧
  (∀ (L : ri_L) (σ : ri_S) (a0 : Nat) (a1 : Int32) (s0 : Value), ev 106 (15, L, [.int a1, .ref a0, s0]) σ = tv_k 7 (σ.1 a0) ((cal 105 [.ref a0, .int a1] σ).bind fun q => ev 106 (18, L, q.1.toList ++ [s0]) q.2)) ∧
  (∀ (L : ri_L) (st : List Value) (σ : ri_S) (x y : Int32), ev 106 (18, L, .int y :: .int x :: st) σ = ev 106 (19, L, .int (x + y) :: st) σ) ∧
  (∀ (l0 l1 l2 : Option Value) (st : List Value) (σ : ri_S) (x : Int32), ev 106 (19, [l0, l1, l2], .int x :: st) σ = ev 106 (20, [ri_clr l0, some (.int x), l2], st) σ) ∧
  (∀ (l0 l1 : Option Value) (st : List Value) (σ : ri_S) (x : Int32), ev 106 (20, [l0, l1, some (.int x)], st) σ = ev 106 (23, [l0, ri_clr l1, some (.int (x + 1))], st) σ) ∧
  (∀ (L : ri_L) (st : List Value) (σ : ri_S), ev 106 (23, L, st) σ = ev 106 (4, L, st) σ) ∧
  (∀ (l0 l2 : Option Value) (st : List Value) (σ : ri_S) (x : Int32), ev 106 (26, [l0, some (.int x), l2], st) σ = ev 106 (27, [l0, some (.int x), l2], .int x :: st) σ) ∧
  (∀ (L : ri_L) (σ : ri_S) (x : Int32), ev 106 (27, L, [.int x]) σ = some (some (.int x), σ)) :=
  ⟨fun L st σ => ev_p ((TP_106 _).trans rfl) rfl,
   fun l0 l1 l2 st σ x => ev_p ((TP_106 _).trans rfl) rfl,
   fun L st σ => ev_p ((TP_106 _).trans rfl) rfl,
   fun l0 l1 l2 st σ x => ev_p ((TP_106 _).trans rfl) rfl,
   fun l1 l2 st σ x => ev_p ((TP_106 _).trans rfl) rfl,
   fun L st σ a => ev_getf ((TP_106 _).trans rfl),
   fun L st σ x y => ev_b ((TP_106 _).trans rfl) rfl,
   fun l0 l2 st σ x => ev_p ((TP_106 _).trans rfl) rfl,
   fun l1 l2 st σ x => ev_p ((TP_106 _).trans rfl) rfl,
   fun l0 l1 st σ x => ev_p ((TP_106 _).trans rfl) rfl,
   fun L σ a0 a1 s0 => ev_callv ((TP_106 _).trans rfl) rfl rfl rfl rfl,
   fun L st σ x y => ev_p ((TP_106 _).trans rfl) rfl,
   fun l0 l1 l2 st σ x => ev_p ((TP_106 _).trans rfl) rfl,
   fun l0 l1 st σ x => ev_p ((TP_106 _).trans rfl) rfl,
   fun L st σ => ev_p ((TP_106 _).trans rfl) rfl,
   fun l0 l2 st σ x => ev_p ((TP_106 _).trans rfl) rfl,
   fun L σ x => ev_r ((TP_106 _).trans rfl) rfl⟩
theorem TP_107 (pc : Nat) : TT 107 pc = ri_find TL_107 pc := rfl
theorem E_107 (x0 : Nat) (x1 : Nat) (σ : ri_S) : cal 107 [.ref x0, .ref x1] σ = ev 107 (0, [some (.ref x0), some (.ref x1)], []) σ := rfl
theorem I_107 :
  (∀ (l1 : Option Value) (st : List Value) (σ : ri_S) (x : Nat), ev 107 (0, [some (.ref x), l1], st) σ = ev 107 (1, [some (.ref x), l1], .ref x :: st) σ) ∧
  (∀ (l0 : Option Value) (st : List Value) (σ : ri_S) (x : Nat), ev 107 (1, [l0, some (.ref x)], st) σ = ev 107 (2, [l0, some (.ref x)], .ref x :: st) σ) ∧
  (∀ (L : ri_L) (st : List Value) (σ : ri_S) (a : Nat), ev 107 (2, L, .ref a :: st) σ = tv_o 7 0 (σ.1 a) fun v => ev 107 (5, L, v :: st) σ) ∧
  (∀ (L : ri_L) (st : List Value) (σ : ri_S) (a : Nat) (x : Int32), ev 107 (5, L, .int x :: .ref a :: st) σ = tv_w 7 0 (σ.1 a) (.int x) fun fs => ev 107 (8, L, st) (ri_upd σ.1 a (.inr (.inr (7, fs))), σ.2)) ∧
  (∀ (l0 : Option Value) (st : List Value) (σ : ri_S) (x : Nat), ev 107 (8, [l0, some (.ref x)], st) σ = ev 107 (9, [l0, some (.ref x)], .ref x :: st) σ) ∧
  (∀ (L : ri_L) (st : List Value) (σ : ri_S) (a : Nat), ev 107 (9, L, .ref a :: st) σ = tv_o 7 1 (σ.1 a) fun v => ev 107 (12, L, v :: st) σ) ∧
  (∀ (l1 : Option Value) (st : List Value) (σ : ri_S) (x : Nat), ev 107 (12, [some (.ref x), l1], st) σ = ev 107 (13, [some (.ref x), l1], .ref x :: st) σ) ∧
  (∀ (L : ri_L) (st : List Value) (σ : ri_S) (a : Nat), ev 107 (13, L, .ref a :: st) σ = tv_o 7 1 (σ.1 a) fun v => ev 107 (16, L, v :: st) σ) ∧
  (∀ (L : ri_L) (σ : ri_S) (a0 : Nat) (a1 : Nat), ev 107 (16, L, [.ref a1, .ref a0]) σ = (cal 142 [.ref a0, .ref a1] σ).bind fun q => ev 107 (19, L, q.1.toList ++ []) q.2) ∧
  (∀ (l0 : Option Value) (st : List Value) (σ : ri_S) (x : Nat), ev 107 (19, [l0, some (.ref x)], st) σ = ev 107 (20, [l0, some (.ref x)], .ref x :: st) σ) ∧
  (∀ (L : ri_L) (st : List Value) (σ : ri_S) (a : Nat), ev 107 (20, L, .ref a :: st) σ = tv_o 7 2 (σ.1 a) fun v => ev 107 (23, L, v :: st) σ) ∧
  (∀ (l1 : Option Value) (st : List Value) (σ : ri_S) (x : Nat), ev 107 (23, [some (.ref x), l1], st) σ = ev 107 (24, [some (.ref x), l1], .ref x :: st) σ) ∧
  (∀ (L : ri_L) (st : List Value) (σ : ri_S) (a : Nat), ev 107 (24, L, .ref a :: st) σ = tv_o 7 2 (σ.1 a) fun v => ev 107 (27, L, v :: st) σ) ∧
  (∀ (L : ri_L) (σ : ri_S) (a0 : Nat) (a1 : Nat), ev 107 (27, L, [.ref a1, .ref a0]) σ = (cal 142 [.ref a0, .ref a1] σ).bind fun q => ev 107 (30, L, q.1.toList ++ []) q.2) ∧
  (∀ (l0 : Option Value) (st : List Value) (σ : ri_S) (x : Nat), ev 107 (30, [l0, some (.ref x)], st) σ = ev 107 (31, [l0, some (.ref x)], .ref x :: st) σ) ∧
  (∀ (L : ri_L) (st : List Value) (σ : ri_S) (a : Nat), ev 107 (31, L, .ref a :: st) σ = tv_o 7 3 (σ.1 a) fun v => ev 107 (34, L, v :: st) σ) ∧
  (∀ (l1 : Option Value) (st : List Value) (σ : ri_S) (x : Nat), ev 107 (34, [some (.ref x), l1], st) σ = ev 107 (35, [some (.ref x), l1], .ref x :: st) σ) ∧
  (∀ (L : ri_L) (st : List Value) (σ : ri_S) (a : Nat), ev 107 (35, L, .ref a :: st) σ = tv_o 7 3 (σ.1 a) fun v => ev 107 (38, L, v :: st) σ) ∧
  (∀ (L : ri_L) (σ : ri_S) (a0 : Nat) (a1 : Nat), ev 107 (38, L, [.ref a1, .ref a0]) σ = (cal 142 [.ref a0, .ref a1] σ).bind fun q => ev 107 (41, L, q.1.toList ++ []) q.2) ∧
  (∀ (l0 : Option Value) (st : List Value) (σ : ri_S) (x : Nat), ev 107 (41, [l0, some (.ref x)], st) σ = ev 107 (42, [l0, some (.ref x)], .ref x :: st) σ) ∧
  (∀ (L : ri_L) (st : List Value) (σ : ri_S) (a : Nat), ev 107 (42, L, .ref a :: st) σ = tv_o 7 4 (σ.1 a) fun v => ev 107 (45, L, v :: st) σ) ∧
  (∀ (l1 : Option Value) (st : List Value) (σ : ri_S) (x : Nat), ev 107 (45, [some (.ref x), l1], st) σ = ev 107 (46, [some (.ref x), l1], .ref x :: st) σ) ∧
  (∀ (L : ri_L) (st : List Value) (σ : ri_S) (a : Nat), ev 107 (46, L, .ref a :: st) σ = tv_o 7 4 (σ.1 a) fun v => ev 107 (49, L, v :: st) σ) ∧
  (∀ (L : ri_L) (σ : ri_S) (a0 : Nat) (a1 : Nat), ev 107 (49, L, [.ref a1, .ref a0]) σ = (cal 142 [.ref a0, .ref a1] σ).bind fun q => ev 107 (52, L, q.1.toList ++ []) q.2) ∧
  (∀ (l0 : Option Value) (st : List Value) (σ : ri_S) (x : Nat), ev 107 (52, [l0, some (.ref x)], st) σ = ev 107 (53, [l0, some (.ref x)], .ref x :: st) σ) ∧
  (∀ (L : ri_L) (st : List Value) (σ : ri_S) (a : Nat), ev 107 (53, L, .ref a :: st) σ = tv_o 7 5 (σ.1 a) fun v => ev 107 (56, L, v :: st) σ) ∧
  (∀ (l1 : Option Value) (st : List Value) (σ : ri_S) (x : Nat), ev 107 (56, [some (.ref x), l1], st) σ = ev 107 (57, [some (.ref x), l1], .ref x :: st) σ) ∧
  (∀ (L : ri_L) (st : List Value) (σ : ri_S) (a : Nat), ev 107 (57, L, .ref a :: st) σ = tv_o 7 5 (σ.1 a) fun v => ev 107 (60, L, v :: st) σ) ∧
  (∀ (L : ri_L) (σ : ri_S) (a0 : Nat) (a1 : Nat), ev 107 (60, L, [.ref a1, .ref a0]) σ = (cal 142 [.ref a0, .ref a1] σ).bind fun q => ev 107 (63, L, q.1.toList ++ []) q.2) ∧
  (∀ (l0 : Option Value) (st : List Value) (σ : ri_S) (x : Nat), ev 107 (63, [l0, some (.ref x)], st) σ = ev 107 (64, [l0, some (.ref x)], .ref x :: st) σ) ∧
  (∀ (L : ri_L) (st : List Value) (σ : ri_S) (a : Nat), ev 107 (64, L, .ref a :: st) σ = tv_o 7 6 (σ.1 a) fun v => ev 107 (67, L, v :: st) σ) ∧
  (∀ (l1 : Option Value) (st : List Value) (σ : ri_S) (x : Nat), ev 107 (67, [some (.ref x), l1], st) σ = ev 107 (68, [some (.ref x), l1], .ref x :: st) σ) ∧
  (∀ (L : ri_L) (st : List Value) (σ : ri_S) (a : Nat), ev 107 (68, L, .ref a :: st) σ = tv_o 7 6 (σ.1 a) fun v => ev 107 (71, L, v :: st) σ) ∧
  (∀ (L : ri_L) (σ : ri_S) (a0 : Nat) (a1 : Nat), ev 107 (71, L, [.ref a1, .ref a0]) σ = (cal 142 [.ref a0, .ref a1] σ).bind fun q => ev 107 (74, L, q.1.toList ++ []) q.2) ∧
  (∀ (L : ri_L) (σ : ri_S), ev 107 (74, L, []) σ = some (none, σ)) :=
  ⟨fun l1 st σ x => ev_p ((TP_107 _).trans rfl) rfl,
   fun l0 st σ x => ev_p ((TP_107 _).trans rfl) rfl,
   fun L st σ a => ev_getf ((TP_107 _).trans rfl),
   fun L st σ a x => ev_puti ((TP_107 _).trans rfl),
   fun l0 st σ x => ev_p ((TP_107 _).trans rfl) rfl,
   fun L st σ a => ev_getf ((TP_107 _).trans rfl),
   fun l1 st σ x => ev_p ((TP_107 _).trans rfl) rfl,
   fun L st σ a => ev_getf ((TP_107 _).trans rfl),
   fun L σ a0 a1 => ev_call ((TP_107 _).trans rfl) rfl rfl rfl rfl,
   fun l0 st σ x => ev_p ((TP_107 _).trans rfl) rfl,
   fun L st σ a => ev_getf ((TP_107 _).trans rfl),
   fun l1 st σ x => ev_p ((TP_107 _).trans rfl) rfl,
   fun L st σ a => ev_getf ((TP_107 _).trans rfl),
   fun L σ a0 a1 => ev_call ((TP_107 _).trans rfl) rfl rfl rfl rfl,
   fun l0 st σ x => ev_p ((TP_107 _).trans rfl) rfl,
   fun L st σ a => ev_getf ((TP_107 _).trans rfl),
   fun l1 st σ x => ev_p ((TP_107 _).trans rfl) rfl,
   fun L st σ a => ev_getf ((TP_107 _).trans rfl),
   fun L σ a0 a1 => ev_call ((TP_107 _).trans rfl) rfl rfl rfl rfl,
   fun l0 st σ x => ev_p ((TP_107 _).trans rfl) rfl,
   fun L st σ a => ev_getf ((TP_107 _).trans rfl),
   fun l1 st σ x => ev_p ((TP_107 _).trans rfl) rfl,
   fun L st σ a => ev_getf ((TP_107 _).trans rfl),
   fun L σ a0 a1 => ev_call ((TP_107 _).trans rfl) rfl rfl rfl rfl,
   fun l0 st σ x => ev_p ((TP_107 _).trans rfl) rfl,
   fun L st σ a => ev_getf ((TP_107 _).trans rfl),
   fun l1 st σ x => ev_p ((TP_107 _).trans rfl) rfl,
   fun L st σ a => ev_getf ((TP_107 _).trans rfl),
   fun L σ a0 a1 => ev_call ((TP_107 _).trans rfl) rfl rfl rfl rfl,
   fun l0 st σ x => ev_p ((TP_107 _).trans rfl) rfl,
   fun L st σ a => ev_getf ((TP_107 _).trans rfl),
   fun l1 st σ x => ev_p ((TP_107 _).trans rfl) rfl,
   fun L st σ a => ev_getf ((TP_107 _).trans rfl),
   fun L σ a0 a1 => ev_call ((TP_107 _).trans rfl) rfl rfl rfl rfl,
   fun L σ => ev_r ((TP_107 _).trans rfl) rfl⟩
theorem TP_108 (pc : Nat) : TT 108 pc = ri_find TL_108 pc := rfl
theorem E_108 (x0 : Nat) (σ : ri_S) : cal 108 [.ref x0] σ = ev 108 (0, [some (.ref x0)], []) σ := rfl
theorem I_108 :
  (∀ (st : List Value) (σ : ri_S) (x : Nat), ev 108 (0, [some (.ref x)], st) σ = ev 108 (1, [some (.ref x)], .ref x :: st) σ) ∧
  (∀ (L : ri_L) (σ : ri_S) (a : Nat), ev 108 (1, L, [.ref a]) σ = ev 108 (4, L, []) σ) ∧
  (∀ (st : List Value) (σ : ri_S) (x : Nat), ev 108 (4, [some (.ref x)], st) σ = ev 108 (5, [some (.ref x)], .ref x :: st) σ) ∧
  (∀ (L : ri_L) (st : List Value) (σ : ri_S), ev 108 (5, L, st) σ = ev 108 (8, L, .ref σ.2 :: st) (ri_upd σ.1 σ.2 (.inr (.inr (6, [.null, .int 0]))), σ.2 + 1)) ∧
  (∀ (L : ri_L) (st : List Value) (σ : ri_S) (x : Nat), ev 108 (8, L, .ref x :: st) σ = ev 108 (9, L, .ref x :: .ref x :: st) σ) ∧
  (∀ (L : ri_L) (σ : ri_S) (a0 : Nat) (s0 s1 : Value), ev 108 (9, L, [.ref a0, s0, s1]) σ = tv_k 6 (σ.1 a0) ((cal 86 [.ref a0] σ).bind fun q => ev 108 (12, L, q.1.toList ++ [s0, s1]) q.2)) ∧
  (∀ (L : ri_L) (st : List Value) (σ : ri_S) (a : Nat) (x : Nat), ev 108 (12, L, .ref x :: .ref a :: st) σ = tv_w 8 0 (σ.1 a) (.ref x) fun fs => ev 108 (15, L, st) (ri_upd σ.1 a (.inr (.inr (8, fs))), σ.2)) ∧
  (∀ (st : List Value) (σ : ri_S) (x : Nat), ev 108 (15, [some (.ref x)], st) σ = ev 108 (16, [some (.ref x)], .ref x :: st) σ) ∧
  (∀ (L : ri_L) (st : List Value) (σ : ri_S), ev 108 (16, L, st) σ = ev 108 (19, L, .ref σ.2 :: st) (ri_upd σ.1 σ.2 (.inr (.inr (3, [.null, .null, .null, .int 0, .int 0, .int 0, .int 0, .int 0, .int 0]))), σ.2 + 1)) ∧
  (∀ (L : ri_L) (st : List Value) (σ : ri_S) (x : Nat), ev 108 (19, L, .ref x :: st) σ = ev 108 (20, L, .ref x :: .ref x :: st) σ) ∧
  (∀ (L : ri_L) (σ : ri_S) (a0 : Nat) (s0 s1 : Value), ev 108 (20, L, [.ref a0, s0, s1]) σ = tv_k 3 (σ.1 a0) ((cal 20 [.ref a0] σ).bind fun q => ev 108 (23, L, q.1.toList ++ [s0, s1]) q.2)) ∧
  (∀ (L : ri_L) (st : List Value) (σ : ri_S) (a : Nat) (x : Nat), ev 108 (23, L, .ref x :: .ref a :: st) σ = tv_w 8 1 (σ.1 a) (.ref x) fun fs => ev 108 (26, L, st) (ri_upd σ.1 a (.inr (.inr (8, fs))), σ.2)) ∧
  (∀ (st : List Value) (σ : ri_S) (x : Nat), ev 108 (26, [some (.ref x)], st) σ = ev 108 (27, [some (.ref x)], .ref x :: st) σ) ∧
  (∀ (L : ri_L) (st : List Value) (σ : ri_S), ev 108 (27, L, st) σ = ev 108 (30, L, .ref σ.2 :: st) (ri_upd σ.1 σ.2 (.inr (.inr (3, [.null, .null, .null, .int 0, .int 0, .int 0, .int 0, .int 0, .int 0]))), σ.2 + 1)) ∧
  (∀ (L : ri_L) (st : List Value) (σ : ri_S) (x : Nat), ev 108 (30, L, .ref x :: st) σ = ev 108 (31, L, .ref x :: .ref x :: st) σ) ∧
  (∀ (L : ri_L) (σ : ri_S) (a0 : Nat) (s0 s1 : Value), ev 108 (31, L, [.ref a0, s0, s1]) σ = tv_k 3 (σ.1 a0) ((cal 20 [.ref a0] σ).bind fun q => ev 108 (34, L, q.1.toList ++ [s0, s1]) q.2)) ∧
  (∀ (L : ri_L) (st : List Value) (σ : ri_S) (a : Nat) (x : Nat), ev 108 (34, L, .ref x :: .ref a :: st) σ = tv_w 8 2 (σ.1 a) (.ref x) fun fs => ev 108 (37, L, st) (ri_upd σ.1 a (.inr (.inr (8, fs))), σ.2)) ∧
  (∀ (st : List Value) (σ : ri_S) (x : Nat), ev 108 (37, [some (.ref x)], st) σ = ev 108 (38, [some (.ref x)], .ref x :: st) σ) ∧
  (∀ (L : ri_L) (st : List Value) (σ : ri_S), ev 108 (38, L, st) σ = ev 108 (41, L, .ref σ.2 :: st) (ri_upd σ.1 σ.2 (.inr (.inr (1, [.null, .int 0, .int 0]))), σ.2 + 1)) ∧
  (∀ (L : ri_L) (st : List Value) (σ : ri_S) (x : Nat), ev 108 (41, L, .ref x :: st) σ = ev 108 (42, L, .ref x :: .ref x :: st) σ) ∧
  (∀ (L : ri_L) (σ : ri_S) (a0 : Nat) (s0 s1 : Value), ev 108 (42, L, [.ref a0, s0, s1]) σ = tv_k 1 (σ.1 a0) ((cal 7 [.ref a0] σ).bind fun q => ev 108 (45, L, q.1.toList ++ [s0, s1]) q.2)) ∧
  (∀ (L : ri_L) (st : List Value) (σ : ri_S) (a : Nat) (x : Nat), ev 108 (45, L, .ref x :: .ref a :: st) σ = tv_w 8 3 (σ.1 a) (.ref x) fun fs => ev 108 (48, L, st) (ri_upd σ.1 a (.inr (.inr (8, fs))), σ.2)) ∧
  (∀ (st : List Value) (σ : ri_S) (x : Nat), ev 108 (48, [some (.ref x)], st) σ = ev 108 (49, [some (.ref x)], .ref x :: st) σ) ∧
  (∀ (L : ri_L) (st : List Value) (σ : ri_S), ev 108 (49, L, st) σ = ev 108 (52, L, .ref σ.2 :: st) (ri_upd σ.1 σ.2 (.inr (.inr (5, [.null, .null]))), σ.2 + 1)) ∧
  (∀ (L : ri_L) (st : List Value) (σ : ri_S) (x : Nat), ev 108 (52, L, .ref x :: st) σ = ev 108 (53, L, .ref x :: .ref x :: st) σ) ∧
  (∀ (L : ri_L) (σ : ri_S) (a0 : Nat) (s0 s1 : Value), ev 108 (53, L, [.ref a0, s0, s1]) σ = tv_k 5 (σ.1 a0) ((cal 80 [.ref a0] σ).bind fun q => ev 108 (56, L, q.1.toList ++ [s0, s1]) q.2)) ∧
  (∀ (L : ri_L) (st : List Value) (σ : ri_S) (a : Nat) (x : Nat), ev 108 (56, L, .ref x :: .ref a :: st) σ = tv_w 8 4 (σ.1 a) (.ref x) fun fs => ev 108 (59, L, st) (ri_upd σ.1 a (.inr (.inr (8, fs))), σ.2)) ∧
  (∀ (st : List Value) (σ : ri_S) (x : Nat), ev 108 (59, [some (.ref x)], st) σ = ev 108 (60, [some (.ref x)], .ref x :: st) σ) ∧
  (∀ (L : ri_L) (st : List Value) (σ : ri_S), ev 108 (60, L, st) σ = ev 108 (63, L, .ref σ.2 :: st) (ri_upd σ.1 σ.2 (.inr (.inr (4, [.null, .null, .null, .null, .null, .null, .null, .null, .null, .int 0]))), σ.2 + 1)) ∧
  (∀ (L : ri_L) (st : List Value) (σ : ri_S) (x : Nat), ev 108 (63, L, .ref x :: st) σ = ev 108 (64, L, .ref x :: .ref x :: st) σ) ∧
  (∀ (L : ri_L) (σ : ri_S) (a0 : Nat) (s0 s1 : Value), ev 108 (64, L, [.ref a0, s0, s1]) σ = tv_k 4 (σ.1 a0) ((cal 56 [.ref a0] σ).bind fun q => ev 108 (67, L, q.1.toList ++ [s0, s1]) q.2)) ∧
  (∀ (L : ri_L) (st : List Value) (σ : ri_S) (a : Nat) (x : Nat), ev 108 (67, L, .ref x :: .ref a :: st) σ = tv_w 8 5 (σ.1 a) (.ref x) fun fs => ev 108 (70, L, st) (ri_upd σ.1 a (.inr (.inr (8, fs))), σ.2)) ∧
  (∀ (L : ri_L) (σ : ri_S), ev 108 (70, L, []) σ = some (none, σ)) :=
  ⟨fun st σ x => ev_p ((TP_108 _).trans rfl) rfl,
   fun L σ a => ev_p ((TP_108 _).trans rfl) rfl,
   fun st σ x => ev_p ((TP_108 _).trans rfl) rfl,
   fun L st σ => ev_new ((TP_108 _).trans rfl),
   fun L st σ x => ev_p ((TP_108 _).trans rfl) rfl,
   fun L σ a0 s0 s1 => ev_callv ((TP_108 _).trans rfl) rfl rfl rfl rfl,
   fun L st σ a x => ev_putr ((TP_108 _).trans rfl),
   fun st σ x => ev_p ((TP_108 _).trans rfl) rfl,
   fun L st σ => ev_new ((TP_108 _).trans rfl),
   fun L st σ x => ev_p ((TP_108 _).trans rfl) rfl,
   fun L σ a0 s0 s1 => ev_callv ((TP_108 _).trans rfl) rfl rfl rfl rfl,
   fun L st σ a x => ev_putr ((TP_108 _).trans rfl),
   fun st σ x => ev_p ((TP_108 _).trans rfl) rfl,
   fun L st σ => ev_new ((TP_108 _).trans rfl),
   fun L st σ x => ev_p ((TP_108 _).trans rfl) rfl,
   fun L σ a0 s0 s1 => ev_callv ((TP_108 _).trans rfl) rfl rfl rfl rfl,
   fun L st σ a x => ev_putr ((TP_108 _).trans rfl),
   fun st σ x => ev_p ((TP_108 _).trans rfl) rfl,
   fun L st σ => ev_new ((TP_108 _).trans rfl),
   fun L st σ x => ev_p ((TP_108 _).trans rfl) rfl,
   fun L σ a0 s0 s1 => ev_callv ((TP_108 _).trans rfl) rfl rfl rfl rfl,
   fun L st σ a x => ev_putr ((TP_108 _).trans rfl),
   fun st σ x => ev_p ((TP_108 _).trans rfl) rfl,
   fun L st σ => ev_new ((TP_108 _).trans rfl),
   fun L st σ x => ev_p ((TP_108 _).trans rfl) rfl,
   fun L σ a0 s0 s1 => ev_callv ((TP_108 _).trans rfl) rfl rfl rfl rfl,
   fun L st σ a x => ev_putr ((TP_108 _).trans rfl),
   fun st σ x => ev_p ((TP_108 _).trans rfl) rfl,
   fun L st σ => ev_new ((TP_108 _).trans rfl),
   fun L st σ x => ev_p ((TP_108 _).trans rfl) rfl,
   fun L σ a0 s0 s1 => ev_callv ((TP_108 _).trans rfl) rfl rfl rfl rfl,
   fun L st σ a x => ev_putr ((TP_108 _).trans rfl),
   fun L σ => ev_r ((TP_108 _).trans rfl) rfl⟩
theorem TP_109 (pc : Nat) : TT 109 pc = ri_find TL_109 pc := rfl
theorem E_109 (x0 : Nat) (x1 : Int32) (σ : ri_S) : cal 109 [.ref x0, .int x1] σ = ev 109 (0, [some (.ref x0), some (.int x1)], []) σ := rfl
theorem I_109 :
  (∀ (l1 : Option Value) (st : List Value) (σ : ri_S) (x : Nat), ev 109 (0, [some (.ref x), l1], st) σ = ev 109 (1, [some (.ref x), l1], .ref x :: st) σ) ∧
  (∀ (L : ri_L) (st : List Value) (σ : ri_S) (a : Nat), ev 109 (1, L, .ref a :: st) σ = tv_o 8 0 (σ.1 a) fun v => ev 109 (4, L, v :: st) σ) ∧
  (∀ (l0 : Option Value) (st : List Value) (σ : ri_S) (x : Int32), ev 109 (4, [l0, some (.int x)], st) σ = ev 109 (5, [l0, some (.int x)], .int x :: st) σ) ∧
  (∀ (L : ri_L) (σ : ri_S) (a0 : Nat) (a1 : Int32), ev 109 (5, L, [.int a1, .ref a0]) σ = tv_k 6 (σ.1 a0) ((cal 87 [.ref a0, .int a1] σ).bind fun q => ev 109 (8, L, q.1.toList ++ []) q.2)) ∧
  (∀ (L : ri_L) (σ : ri_S) (a0 : Int32), ev 109 (8, L, [.int a0]) σ = (cal 135 [.int a0] σ).bind fun q => ev 109 (11, L, q.1.toList ++ []) q.2) ∧
  (∀ (l1 : Option Value) (st : List Value) (σ : ri_S) (x : Nat), ev 109 (11, [some (.ref x), l1], st) σ = ev 109 (12, [some (.ref x), l1], .ref x :: st) σ) ∧
  (∀ (L : ri_L) (st : List Value) (σ : ri_S) (a : Nat), ev 109 (12, L, .ref a :: st) σ = tv_o 8 0 (σ.1 a) fun v => ev 109 (15, L, v :: st) σ) ∧
  (∀ (l0 : Option Value) (st : List Value) (σ : ri_S) (x : Int32), ev 109 (15, [l0, some (.int x)], st) σ = ev 109 (16, [l0, some (.int x)], .int x :: st) σ) ∧
  (∀ (L : ri_L) (σ : ri_S) (a0 : Nat) (a1 : Int32), ev 109 (16, L, [.int a1, .ref a0]) σ = tv_k 6 (σ.1 a0) ((cal 88 [.ref a0, .int a1] σ).bind fun q => ev 109 (19, L, q.1.toList ++ []) q.2)) ∧
  (∀ (L : ri_L) (σ : ri_S) (x : Int32), ev 109 (19, L, [.int x]) σ = some (some (.int x), σ)) :=
  ⟨fun l1 st σ x => ev_p ((TP_109 _).trans rfl) rfl,
   fun L st σ a => ev_getf ((TP_109 _).trans rfl),
   fun l0 st σ x => ev_p ((TP_109 _).trans rfl) rfl,
   fun L σ a0 a1 => ev_callv ((TP_109 _).trans rfl) rfl rfl rfl rfl,
   fun L σ a0 => ev_call ((TP_109 _).trans rfl) rfl rfl rfl rfl,
   fun l1 st σ x => ev_p ((TP_109 _).trans rfl) rfl,
   fun L st σ a => ev_getf ((TP_109 _).trans rfl),
   fun l0 st σ x => ev_p ((TP_109 _).trans rfl) rfl,
   fun L σ a0 a1 => ev_callv ((TP_109 _).trans rfl) rfl rfl rfl rfl,
   fun L σ x => ev_r ((TP_109 _).trans rfl) rfl⟩
theorem TP_110 (pc : Nat) : TT 110 pc = ri_find TL_110 pc := rfl
theorem E_110 (x0 : Nat) (σ : ri_S) : cal 110 [.ref x0] σ = ev 110 (0, [some (.ref x0)], []) σ := rfl
theorem I_110 :
  (∀ (st : List Value) (σ : ri_S) (x : Nat), ev 110 (0, [some (.ref x)], st) σ = ev 110 (1, [some (.ref x)], .ref x :: st) σ) ∧
  (∀ (L : ri_L) (st : List Value) (σ : ri_S) (a : Nat), ev 110 (1, L, .ref a :: st) σ = tv_o 8 0 (σ.1 a) fun v => ev 110 (4, L, v :: st) σ) ∧
  (∀ (L : ri_L) (σ : ri_S) (a0 : Nat), ev 110 (4, L, [.ref a0]) σ = tv_k 6 (σ.1 a0) ((cal 89 [.ref a0] σ).bind fun q => ev 110 (7, L, q.1.toList ++ []) q.2)) ∧
  (∀ (L : ri_L) (σ : ri_S) (x : Int32), ev 110 (7, L, [.int x]) σ = some (some (.int x), σ)) :=
  ⟨fun st σ x => ev_p ((TP_110 _).trans rfl) rfl,
   fun L st σ a => ev_getf ((TP_110 _).trans rfl),
   fun L σ a0 => ev_callv ((TP_110 _).trans rfl) rfl rfl rfl rfl,
   fun L σ x => ev_r ((TP_110 _).trans rfl) rfl⟩
theorem TP_111 (pc : Nat) : TT 111 pc = ri_find TL_111 pc := rfl
theorem E_111 (x0 : Nat) (σ : ri_S) : cal 111 [.ref x0] σ = ev 111 (0, [some (.ref x0)], []) σ := rfl
theorem I_111 :
  (∀ (st : List Value) (σ : ri_S) (x : Nat), ev 111 (0, [some (.ref x)], st) σ = ev 111 (1, [some (.ref x)], .ref x :: st) σ) ∧
  (∀ (L : ri_L) (st : List Value) (σ : ri_S) (a : Nat), ev 111 (1, L, .ref a :: st) σ = tv_o 8 0 (σ.1 a) fun v => ev 111 (4, L, v :: st) σ) ∧
  (∀ (L : ri_L) (σ : ri_S) (a0 : Nat), ev 111 (4, L, [.ref a0]) σ = tv_k 6 (σ.1 a0) ((cal 90 [.ref a0] σ).bind fun q => ev 111 (7, L, q.1.toList ++ []) q.2)) ∧
  (∀ (L : ri_L) (σ : ri_S) (x : Int32), ev 111 (7, L, [.int x]) σ = some (some (.int x), σ)) :=
  ⟨fun st σ x => ev_p ((TP_111 _).trans rfl) rfl,
   fun L st σ a => ev_getf ((TP_111 _).trans rfl),
   fun L σ a0 => ev_callv ((TP_111 _).trans rfl) rfl rfl rfl rfl,
   fun L σ x => ev_r ((TP_111 _).trans rfl) rfl⟩
theorem TP_112 (pc : Nat) : TT 112 pc = ri_find TL_112 pc := rfl
theorem E_112 (x0 : Nat) (σ : ri_S) : cal 112 [.ref x0] σ = ev 112 (0, [some (.ref x0)], []) σ := rfl
theorem I_112 :
  (∀ (st : List Value) (σ : ri_S) (x : Nat), ev 112 (0, [some (.ref x)], st) σ = ev 112 (1, [some (.ref x)], .ref x :: st) σ) ∧
  (∀ (L : ri_L) (st : List Value) (σ : ri_S) (a : Nat), ev 112 (1, L, .ref a :: st) σ = tv_o 8 0 (σ.1 a) fun v => ev 112 (4, L, v :: st) σ) ∧
  (∀ (L : ri_L) (σ : ri_S) (a0 : Nat), ev 112 (4, L, [.ref a0]) σ = tv_k 6 (σ.1 a0) ((cal 90 [.ref a0] σ).bind fun q => ev 112 (7, L, q.1.toList ++ []) q.2)) ∧
  (∀ (L : ri_L) (st : List Value) (σ : ri_S), ev 112 (7, L, st) σ = ev 112 (8, L, .int (-1) :: st) σ) ∧
  (∀ (L : ri_L) (st : List Value) (σ : ri_S) (x y : Int32), ev 112 (8, L, .int y :: .int x :: st) σ = if ¬ x = y then ev 112 (15, L, st) σ else ev 112 (11, L, st) σ) ∧
  (∀ (L : ri_L) (st : List Value) (σ : ri_S), ev 112 (11, L, st) σ = ev 112 (12, L, .int 0 :: st) σ) ∧
  (∀ (L : ri_L) (st : List Value) (σ : ri_S), ev 112 (12, L, st) σ = ev 112 (16, L, st) σ) ∧
  (∀ (L : ri_L) (st : List Value) (σ : ri_S), ev 112 (15, L, st) σ = ev 112 (16, L, .int 3 :: st) σ) ∧
  (∀ (L : ri_L) (σ : ri_S) (a0 : Int32), ev 112 (16, L, [.int a0]) σ = (cal 135 [.int a0] σ).bind fun q => ev 112 (19, L, q.1.toList ++ []) q.2) ∧
  (∀ (st : List Value) (σ : ri_S) (x : Nat), ev 112 (19, [some (.ref x)], st) σ = ev 112 (20, [some (.ref x)], .ref x :: st) σ) ∧
  (∀ (L : ri_L) (st : List Value) (σ : ri_S) (a : Nat), ev 112 (20, L, .ref a :: st) σ = tv_o 8 3 (σ.1 a) fun v => ev 112 (23, L, v :: st) σ) ∧
  (∀ (L : ri_L) (σ : ri_S) (a0 : Nat), ev 112 (23, L, [.ref a0]) σ = tv_k 1 (σ.1 a0) ((cal 9 [.ref a0] σ).bind fun q => ev 112 (26, L, q.1.toList ++ []) q.2)) ∧
  (∀ (st : List Value) (σ : ri_S) (x : Nat), ev 112 (26, [some (.ref x)], st) σ = ev 112 (27, [some (.ref x)], .ref x :: st) σ) ∧
  (∀ (L : ri_L) (st : List Value) (σ : ri_S) (a : Nat), ev 112 (27, L, .ref a :: st) σ = tv_o 8 4 (σ.1 a) fun v => ev 112 (30, L, v :: st) σ) ∧
  (∀ (L : ri_L) (σ : ri_S) (a0 : Nat), ev 112 (30, L, [.ref a0]) σ = tv_k 5 (σ.1 a0) ((cal 83 [.ref a0] σ).bind fun q => ev 112 (33, L, q.1.toList ++ []) q.2)) ∧
  (∀ (st : List Value) (σ : ri_S) (x : Nat), ev 112 (33, [some (.ref x)], st) σ = ev 112 (34, [some (.ref x)], .ref x :: st) σ) ∧
  (∀ (L : ri_L) (st : List Value) (σ : ri_S) (a : Nat), ev 112 (34, L, .ref a :: st) σ = tv_o 8 1 (σ.1 a) fun v => ev 112 (37, L, v :: st) σ) ∧
  (∀ (L : ri_L) (σ : ri_S) (a0 : Nat), ev 112 (37, L, [.ref a0]) σ = tv_k 3 (σ.1 a0) ((cal 21 [.ref a0] σ).bind fun q => ev 112 (40, L, q.1.toList ++ []) q.2)) ∧
  (∀ (st : List Value) (σ : ri_S) (x : Nat), ev 112 (40, [some (.ref x)], st) σ = ev 112 (41, [some (.ref x)], .ref x :: st) σ) ∧
  (∀ (L : ri_L) (st : List Value) (σ : ri_S) (a : Nat), ev 112 (41, L, .ref a :: st) σ = tv_o 8 0 (σ.1 a) fun v => ev 112 (44, L, v :: st) σ) ∧
  (∀ (st : List Value) (σ : ri_S) (x : Nat), ev 112 (44, [some (.ref x)], st) σ = ev 112 (45, [some (.ref x)], .ref x :: st) σ) ∧
  (∀ (L : ri_L) (st : List Value) (σ : ri_S) (a : Nat), ev 112 (45, L, .ref a :: st) σ = tv_o 8 1 (σ.1 a) fun v => ev 112 (48, L, v :: st) σ) ∧
  (∀ (L : ri_L) (σ : ri_S) (a0 : Nat) (a1 : Nat), ev 112 (48, L, [.ref a1, .ref a0]) σ = tv_k 6 (σ.1 a0) ((cal 93 [.ref a0, .ref a1] σ).bind fun q => ev 112 (51, L, q.1.toList ++ []) q.2)) ∧
  (∀ (L : ri_L) (σ : ri_S) (x : Int32), ev 112 (51, L, [.int x]) σ = some (some (.int x), σ)) :=
  ⟨fun st σ x => ev_p ((TP_112 _).trans rfl) rfl,
   fun L st σ a => ev_getf ((TP_112 _).trans rfl),
   fun L σ a0 => ev_callv ((TP_112 _).trans rfl) rfl rfl rfl rfl,
   fun L st σ => ev_p ((TP_112 _).trans rfl) rfl,
   fun L st σ x y => ev_b ((TP_112 _).trans rfl) rfl,
   fun L st σ => ev_p ((TP_112 _).trans rfl) rfl,
   fun L st σ => ev_p ((TP_112 _).trans rfl) rfl,
   fun L st σ => ev_p ((TP_112 _).trans rfl) rfl,
   fun L σ a0 => ev_call ((TP_112 _).trans rfl) rfl rfl rfl rfl,
   fun st σ x => ev_p ((TP_112 _).trans rfl) rfl,
   fun L st σ a => ev_getf ((TP_112 _).trans rfl),
   fun L σ a0 => ev_callv ((TP_112 _).trans rfl) rfl rfl rfl rfl,
   fun st σ x => ev_p ((TP_112 _).trans rfl) rfl,
   fun L st σ a => ev_getf ((TP_112 _).trans rfl),
   fun L σ a0 => ev_callv ((TP_112 _).trans rfl) rfl rfl rfl rfl,
   fun st σ x => ev_p ((TP_112 _).trans rfl) rfl,
   fun L st σ a => ev_getf ((TP_112 _).trans rfl),
   fun L σ a0 => ev_callv ((TP_112 _).trans rfl) rfl rfl rfl rfl,
   fun st σ x => ev_p ((TP_112 _).trans rfl) rfl,
   fun L st σ a => ev_getf ((TP_112 _).trans rfl),
   fun st σ x => ev_p ((TP_112 _).trans rfl) rfl,
   fun L st σ a => ev_getf ((TP_112 _).trans rfl),
   fun L σ a0 a1 => ev_callv ((TP_112 _).trans rfl) rfl rfl rfl rfl,
   fun L σ x => ev_r ((TP_112 _).trans rfl) rfl⟩
theorem TP_113 (pc : Nat) : TT 113 pc = ri_find TL_113 pc := rfl
theorem E_113 (x0 : Nat) (x1 : Int32) (σ : ri_S) : cal 113 [.ref x0, .int x1] σ = ev 113 (0, [some (.ref x0), some (.int x1)], []) σ := rfl
theorem I_113 :
  (∀ (l0 : Option Value) (st : List Value) (σ : ri_S) (x : Int32), ev 113 (0, [l0, some (.int x)], st) σ = ev 113 (1, [l0, some (.int x)], .int x :: st) σ) ∧
  (∀ (L : ri_L) (st : List Value) (σ : ri_S), ev 113 (1, L, st) σ = ev 113 (3, L, .int 10 :: st) σ) ∧
  (∀ (L : ri_L) (σ : ri_S) (a0 : Int32) (a1 : Int32), ev 113 (3, L, [.int a1, .int a0]) σ = (cal 136 [.int a0, .int a1] σ).bind fun q => ev 113 (6, L, q.1.toList ++ []) q.2) ∧
  (∀ (L : ri_L) (σ : ri_S) (a0 : Int32), ev 113 (6, L, [.int a0]) σ = (cal 135 [.int a0] σ).bind fun q => ev 113 (9, L, q.1.toList ++ []) q.2) ∧
  (∀ (l1 : Option Value) (st : List Value) (σ : ri_S) (x : Nat), ev 113 (9, [some (.ref x), l1], st) σ = ev 113 (10, [some (.ref x), l1], .ref x :: st) σ) ∧
  (∀ (L : ri_L) (st : List Value) (σ : ri_S) (a : Nat), ev 113 (10, L, .ref a :: st) σ = tv_o 8 1 (σ.1 a) fun v => ev 113 (13, L, v :: st) σ) ∧
  (∀ (l0 : Option Value) (st : List Value) (σ : ri_S) (x : Int32), ev 113 (13, [l0, some (.int x)], st) σ = ev 113 (14, [l0, some (.int x)], .int x :: st) σ) ∧
  (∀ (L : ri_L) (σ : ri_S) (a0 : Nat) (a1 : Int32), ev 113 (14, L, [.int a1, .ref a0]) σ = tv_k 3 (σ.1 a0) ((cal 47 [.ref a0, .int a1] σ).bind fun q => ev 113 (17, L, q.1.toList ++ []) q.2)) ∧
  (∀ (L : ri_L) (σ : ri_S) (x : Int32), ev 113 (17, L, [.int x]) σ = some (some (.int x), σ)) :=
  ⟨fun l0 st σ x => ev_p ((TP_113 _).trans rfl) rfl,
   fun L st σ => ev_p ((TP_113 _).trans rfl) rfl,
   fun L σ a0 a1 => ev_call ((TP_113 _).trans rfl) rfl rfl rfl rfl,
   fun L σ a0 => ev_call ((TP_113 _).trans rfl) rfl rfl rfl rfl,
   fun l1 st σ x => ev_p ((TP_113 _).trans rfl) rfl,
   fun L st σ a => ev_getf ((TP_113 _).trans rfl),
   fun l0 st σ x => ev_p ((TP_113 _).trans rfl) rfl,
   fun L σ a0 a1 => ev_callv ((TP_113 _).trans rfl) rfl rfl rfl rfl,
   fun L σ x => ev_r ((TP_113 _).trans rfl) rfl⟩
theorem TP_114 (pc : Nat) : TT 114 pc = ri_find TL_114 pc := rfl
theorem E_114 (x0 : Nat) (x1 : Int32) (x2 : Int32) (σ : ri_S) : cal 114 [.ref x0, .int x1, .int x2] σ = ev 114 (0, [some (.ref x0), some (.int x1), some (.int x2)], []) σ := rfl
theorem I_114 :
  (∀ (l1 l2 : Option Value) (st : List Value) (σ : ri_S) (x : Nat), ev 114 (0, [some (.ref x), l1, l2], st) σ = ev 114 (1, [some (.ref x), l1, l2], .ref x :: st) σ) ∧
  (∀ (L : ri_L) (st : List Value) (σ : ri_S) (a : Nat), ev 114 (1, L, .ref a :: st) σ = tv_o 8 1 (σ.1 a) fun v => ev 114 (4, L, v :: st) σ) ∧
  (∀ (L : ri_L) (st : List Value) (σ : ri_S) (a : Nat), ev 114 (4, L, .ref a :: st) σ = tv_o 3 0 (σ.1 a) fun v => ev 114 (7, L, v :: st) σ) ∧
  (∀ (l0 l2 : Option Value) (st : List Value) (σ : ri_S) (x : Int32), ev 114 (7, [l0, some (.int x), l2], st) σ = ev 114 (8, [l0, some (.int x), l2], .int x :: st) σ) ∧
  (∀ (L : ri_L) (σ : ri_S) (a0 : Nat) (a1 : Int32), ev 114 (8, L, [.int a1, .ref a0]) σ = tv_k 7 (σ.1 a0) ((cal 97 [.ref a0, .int a1] σ).bind fun q => ev 114 (11, L, q.1.toList ++ []) q.2)) ∧
  (∀ (L : ri_L) (st : List Value) (σ : ri_S) (x : Int32), ev 114 (11, L, .int x :: st) σ = if x = 0 then ev 114 (23, L, st) σ else ev 114 (14, L, st) σ) ∧
  (∀ (l0 l1 : Option Value) (st : List Value) (σ : ri_S) (x : Int32), ev 114 (14, [l0, l1, some (.int x)], st) σ = ev 114 (15, [l0, l1, some (.int x)], .int x :: st) σ) ∧
  (∀ (L : ri_L) (st : List Value) (σ : ri_S), ev 114 (15, L, st) σ = ev 114 (17, L, .int 7 :: st) σ) ∧
  (∀ (L : ri_L) (σ : ri_S) (a0 : Int32) (a1 : Int32), ev 114 (17, L, [.int a1, .int a0]) σ = (cal 136 [.int a0, .int a1] σ).bind fun q => ev 114 (20, L, q.1.toList ++ []) q.2) ∧
  (∀ (L : ri_L) (st : List Value) (σ : ri_S), ev 114 (20, L, st) σ = ev 114 (24, L, st) σ) ∧
  (∀ (L : ri_L) (st : List Value) (σ : ri_S), ev 114 (23, L, st) σ = ev 114 (24, L, .int 1 :: st) σ) ∧
  (∀ (L : ri_L) (σ : ri_S) (a0 : Int32), ev 114 (24, L, [.int a0]) σ = (cal 135 [.int a0] σ).bind fun q => ev 114 (27, L, q.1.toList ++ []) q.2) ∧
  (∀ (l1 l2 : Option Value) (st : List Value) (σ : ri_S) (x : Nat), ev 114 (27, [some (.ref x), l1, l2], st) σ = ev 114 (28, [some (.ref x), l1, l2], .ref x :: st) σ) ∧
  (∀ (L : ri_L) (st : List Value) (σ : ri_S) (a : Nat), ev 114 (28, L, .ref a :: st) σ = tv_o 8 1 (σ.1 a) fun v => ev 114 (31, L, v :: st) σ) ∧
  (∀ (l0 l2 : Option Value) (st : List Value) (σ : ri_S) (x : Int32), ev 114 (31, [l0, some (.int x), l2], st) σ = ev 114 (32, [l0, some (.int x), l2], .int x :: st) σ) ∧
  (∀ (l0 l1 : Option Value) (st : List Value) (σ : ri_S) (x : Int32), ev 114 (32, [l0, l1, some (.int x)], st) σ = ev 114 (33, [l0, l1, some (.int x)], .int x :: st) σ) ∧
  (∀ (L : ri_L) (σ : ri_S) (a0 : Nat) (a1 : Int32) (a2 : Int32), ev 114 (33, L, [.int a2, .int a1, .ref a0]) σ = tv_k 3 (σ.1 a0) ((cal 48 [.ref a0, .int a1, .int a2] σ).bind fun q => ev 114 (36, L, q.1.toList ++ []) q.2)) ∧
  (∀ (L : ri_L) (σ : ri_S) (x : Int32), ev 114 (36, L, [.int x]) σ = some (some (.int x), σ)) :=
  ⟨fun l1 l2 st σ x => ev_p ((TP_114 _).trans rfl) rfl,
   fun L st σ a => ev_getf ((TP_114 _).trans rfl),
   fun L st σ a => ev_getf ((TP_114 _).trans rfl),
   fun l0 l2 st σ x => ev_p ((TP_114 _).trans rfl) rfl,
   fun L σ a0 a1 => ev_callv ((TP_114 _).trans rfl) rfl rfl rfl rfl,
   fun L st σ x => ev_b ((TP_114 _).trans rfl) rfl,
   fun l0 l1 st σ x => ev_p ((TP_114 _).trans rfl) rfl,
   fun L st σ => ev_p ((TP_114 _).trans rfl) rfl,
   fun L σ a0 a1 => ev_call ((TP_114 _).trans rfl) rfl rfl rfl rfl,
   fun L st σ => ev_p ((TP_114 _).trans rfl) rfl,
   fun L st σ => ev_p ((TP_114 _).trans rfl) rfl,
   fun L σ a0 => ev_call ((TP_114 _).trans rfl) rfl rfl rfl rfl,
   fun l1 l2 st σ x => ev_p ((TP_114 _).trans rfl) rfl,
   fun L st σ a => ev_getf ((TP_114 _).trans rfl),
   fun l0 l2 st σ x => ev_p ((TP_114 _).trans rfl) rfl,
   fun l0 l1 st σ x => ev_p ((TP_114 _).trans rfl) rfl,
   fun L σ a0 a1 a2 => ev_callv ((TP_114 _).trans rfl) rfl rfl rfl rfl,
   fun L σ x => ev_r ((TP_114 _).trans rfl) rfl⟩
theorem TP_115 (pc : Nat) : TT 115 pc = ri_find TL_115 pc := rfl
theorem E_115 (x0 : Nat) (x1 : Int32) (x2 : Int32) (x3 : Int32) (σ : ri_S) : cal 115 [.ref x0, .int x1, .int x2, .int x3] σ = ev 115 (0, [some (.ref x0), some (.int x1), some (.int x2), some (.int x3)], []) σ := rfl
theorem I_115 :
  (∀ (l1 l2 l3 : Option Value) (st : List Value) (σ : ri_S) (x : Nat), ev 115 (0, [some (.ref x), l1, l2, l3], st) σ = ev 115 (1, [some (.ref x), l1, l2, l3], .ref x :: st) σ) ∧
  (∀ (L : ri_L) (st : List Value) (σ : ri_S) (a : Nat), ev 115 (1, L, .ref a :: st) σ = tv_o 8 1 (σ.1 a) fun v => ev 115 (4, L, v :: st) σ) ∧
  (∀ (L : ri_L) (st : List Value) (σ : ri_S) (a : Nat), ev 115 (4, L, .ref a :: st) σ = tv_o 3 0 (σ.1 a) fun v => ev 115 (7, L, v :: st) σ) ∧
  (∀ (l0 l2 l3 : Option Value) (st : List Value) (σ : ri_S) (x : Int32), ev 115 (7, [l0, some (.int x), l2, l3], st) σ = ev 115 (8, [l0, some (.int x), l2, l3], .int x :: st) σ) ∧
  (∀ (l0 l1 l3 : Option Value) (st : List Value) (σ : ri_S) (x : Int32), ev 115 (8, [l0, l1, some (.int x), l3], st) σ = ev 115 (9, [l0, l1, some (.int x), l3], .int x :: st) σ) ∧
  (∀ (L : ri_L) (σ : ri_S) (a0 : Nat) (a1 : Int32) (a2 : Int32), ev 115 (9, L, [.int a2, .int a1, .ref a0]) σ = tv_k 7 (σ.1 a0) ((cal 98 [.ref a0, .int a1, .int a2] σ).bind fun q => ev 115 (12, L, q.1.toList ++ []) q.2)) ∧
  (∀ (L : ri_L) (st : List Value) (σ : ri_S) (x : Int32), ev 115 (12, L, .int x :: st) σ = if x = 0 then ev 115 (23, L, st) σ else ev 115 (15, L, st) σ) ∧
  (∀ (l0 l1 l2 : Option Value) (st : List Value) (σ : ri_S) (x : Int32), ev 115 (15, [l0, l1, l2, some (.int x)], st) σ = ev 115 (16, [l0, l1, l2, some (.int x)], .int x :: st) σ) ∧
  (∀ (L : ri_L) (st : List Value) (σ : ri_S), ev 115 (16, L, st) σ = ev 115 (17, L, .int 3 :: st) σ) ∧
  (∀ (L : ri_L) (σ : ri_S) (a0 : Int32) (a1 : Int32), ev 115 (17, L, [.int a1, .int a0]) σ = (cal 136 [.int a0, .int a1] σ).bind fun q => ev 115 (20, L, q.1.toList ++ []) q.2) ∧
  (∀ (L : ri_L) (st : List Value) (σ : ri_S), ev 115 (20, L, st) σ = ev 115 (24, L, st) σ) ∧
  (∀ (L : ri_L) (st : List Value) (σ : ri_S), ev 115 (23, L, st) σ = ev 115 (24, L, .int 1 :: st) σ) ∧
  (∀ (L : ri_L) (σ : ri_S) (a0 : Int32), ev 115 (24, L, [.int a0]) σ = (cal 135 [.int a0] σ).bind fun q => ev 115 (27, L, q.1.toList ++ []) q.2) ∧
  (∀ (l1 l2 l3 : Option Value) (st : List Value) (σ : ri_S) (x : Nat), ev 115 (27, [some (.ref x), l1, l2, l3], st) σ = ev 115 (28, [some (.ref x), l1, l2, l3], .ref x :: st) σ) ∧
  (∀ (L : ri_L) (st : List Value) (σ : ri_S) (a : Nat), ev 115 (28, L, .ref a :: st) σ = tv_o 8 1 (σ.1 a) fun v => ev 115 (31, L, v :: st) σ) ∧
  (∀ (l0 l2 l3 : Option Value) (st : List Value) (σ : ri_S) (x : Int32), ev 115 (31, [l0, some (.int x), l2, l3], st) σ = ev 115 (32, [l0, some (.int x), l2, l3], .int x :: st) σ) ∧
  (∀ (l0 l1 l3 : Option Value) (st : List Value) (σ : ri_S) (x : Int32), ev 115 (32, [l0, l1, some (.int x), l3], st) σ = ev 115 (33, [l0, l1, some (.int x), l3], .int x :: st) σ) ∧
  (∀ (l0 l1 l2 : Option Value) (st : List Value) (σ : ri_S) (x : Int32), ev 115 (33, [l0, l1, l2, some (.int x)], st) σ = ev 115 (34, [l0, l1, l2, some (.int x)], .int x :: st) σ) ∧
  (∀ (L : ri_L) (σ : ri_S) (a0 : Nat) (a1 : Int32) (a2 : Int32) (a3 : Int32), ev 115 (34, L, [.int a3, .int a2, .int a1, .ref a0]) σ = tv_k 3 (σ.1 a0) ((cal 49 [.ref a0, .int a1, .int a2, .int a3] σ).bind fun q => ev 115 (37, L, q.1.toList ++ []) q.2)) ∧
  (∀ (L : ri_L) (σ : ri_S) (x : Int32), ev 115 (37, L, [.int x]) σ = some (some (.int x), σ)) :=
  ⟨fun l1 l2 l3 st σ x => ev_p ((TP_115 _).trans rfl) rfl,
   fun L st σ a => ev_getf ((TP_115 _).trans rfl),
   fun L st σ a => ev_getf ((TP_115 _).trans rfl),
   fun l0 l2 l3 st σ x => ev_p ((TP_115 _).trans rfl) rfl,
   fun l0 l1 l3 st σ x => ev_p ((TP_115 _).trans rfl) rfl,
   fun L σ a0 a1 a2 => ev_callv ((TP_115 _).trans rfl) rfl rfl rfl rfl,
   fun L st σ x => ev_b ((TP_115 _).trans rfl) rfl,
   fun l0 l1 l2 st σ x => ev_p ((TP_115 _).trans rfl) rfl,
   fun L st σ => ev_p ((TP_115 _).trans rfl) rfl,
   fun L σ a0 a1 => ev_call ((TP_115 _).trans rfl) rfl rfl rfl rfl,
   fun L st σ => ev_p ((TP_115 _).trans rfl) rfl,
   fun L st σ => ev_p ((TP_115 _).trans rfl) rfl,
   fun L σ a0 => ev_call ((TP_115 _).trans rfl) rfl rfl rfl rfl,
   fun l1 l2 l3 st σ x => ev_p ((TP_115 _).trans rfl) rfl,
   fun L st σ a => ev_getf ((TP_115 _).trans rfl),
   fun l0 l2 l3 st σ x => ev_p ((TP_115 _).trans rfl) rfl,
   fun l0 l1 l3 st σ x => ev_p ((TP_115 _).trans rfl) rfl,
   fun l0 l1 l2 st σ x => ev_p ((TP_115 _).trans rfl) rfl,
   fun L σ a0 a1 a2 a3 => ev_callv ((TP_115 _).trans rfl) rfl rfl rfl rfl,
   fun L σ x => ev_r ((TP_115 _).trans rfl) rfl⟩
theorem TP_116 (pc : Nat) : TT 116 pc = ri_find TL_116 pc := rfl
theorem E_116 (x0 : Nat) (x1 : Int32) (x2 : Int32) (σ : ri_S) : cal 116 [.ref x0, .int x1, .int x2] σ = ev 116 (0, [some (.ref x0), some (.int x1), some (.int x2)], []) σ := rfl
theorem I_116 :
  (∀ (l1 l2 : Option Value) (st : List Value) (σ : ri_S) (x : Nat), ev 116 (0, [some (.ref x), l1, l2], st) σ = ev 116 (1, [some (.ref x), l1, l2], .ref x :: st) σ) ∧
  (∀ (L : ri_L) (st : List Value) (σ : ri_S) (a : Nat), ev 116 (1, L, .ref a :: st) σ = tv_o 8 1 (σ.1 a) fun v => ev 116 (4, L, v :: st) σ) ∧
  (∀ (L : ri_L) (st : List Value) (σ : ri_S) (a : Nat), ev 116 (4, L, .ref a :: st) σ = tv_o 3 2 (σ.1 a) fun v => ev 116 (7, L, v :: st) σ) ∧
  (∀ (l0 l2 : Option Value) (st : List Value) (σ : ri_S) (x : Int32), ev 116 (7, [l0, some (.int x), l2], st) σ = ev 116 (8, [l0, some (.int x), l2], .int x :: st) σ) ∧
  (∀ (L : ri_L) (σ : ri_S) (a0 : Nat) (a1 : Int32), ev 116 (8, L, [.int a1, .ref a0]) σ = tv_k 0 (σ.1 a0) ((cal 1 [.ref a0, .int a1] σ).bind fun q => ev 116 (11, L, q.1.toList ++ []) q.2)) ∧
  (∀ (L : ri_L) (st : List Value) (σ : ri_S) (x : Int32), ev 116 (11, L, .int x :: st) σ = if x = 0 then ev 116 (22, L, st) σ else ev 116 (14, L, st) σ) ∧
  (∀ (l0 l1 : Option Value) (st : List Value) (σ : ri_S) (x : Int32), ev 116 (14, [l0, l1, some (.int x)], st) σ = ev 116 (15, [l0, l1, some (.int x)], .int x :: st) σ) ∧
  (∀ (L : ri_L) (st : List Value) (σ : ri_S), ev 116 (15, L, st) σ = ev 116 (16, L, .int 5 :: st) σ) ∧
  (∀ (L : ri_L) (σ : ri_S) (a0 : Int32) (a1 : Int32), ev 116 (16, L, [.int a1, .int a0]) σ = (cal 136 [.int a0, .int a1] σ).bind fun q => ev 116 (19, L, q.1.toList ++ []) q.2) ∧
  (∀ (L : ri_L) (st : List Value) (σ : ri_S), ev 116 (19, L, st) σ = ev 116 (23, L, st) σ) ∧
  (∀ (L : ri_L) (st : List Value) (σ : ri_S), ev 116 (22, L, st) σ = ev 116 (23, L, .int 1 :: st) σ) ∧
  (∀ (L : ri_L) (σ : ri_S) (a0 : Int32), ev 116 (23, L, [.int a0]) σ = (cal 135 [.int a0] σ).bind fun q => ev 116 (26, L, q.1.toList ++ []) q.2) ∧
  (∀ (l1 l2 : Option Value) (st : List Value) (σ : ri_S) (x : Nat), ev 116 (26, [some (.ref x), l1, l2], st) σ = ev 116 (27, [some (.ref x), l1, l2], .ref x :: st) σ) ∧
  (∀ (L : ri_L) (st : List Value) (σ : ri_S) (a : Nat), ev 116 (27, L, .ref a :: st) σ = tv_o 8 1 (σ.1 a) fun v => ev 116 (30, L, v :: st) σ) ∧
  (∀ (l0 l2 : Option Value) (st : List Value) (σ : ri_S) (x : Int32), ev 116 (30, [l0, some (.int x), l2], st) σ = ev 116 (31, [l0, some (.int x), l2], .int x :: st) σ) ∧
  (∀ (l0 l1 : Option Value) (st : List Value) (σ : ri_S) (x : Int32), ev 116 (31, [l0, l1, some (.int x)], st) σ = ev 116 (32, [l0, l1, some (.int x)], .int x :: st) σ) ∧
  (∀ (L : ri_L) (σ : ri_S) (a0 : Nat) (a1 : Int32) (a2 : Int32), ev 116 (32, L, [.int a2, .int a1, .ref a0]) σ = tv_k 3 (σ.1 a0) ((cal 50 [.ref a0, .int a1, .int a2] σ).bind fun q => ev 116 (35, L, q.1.toList ++ []) q.2)) ∧
  (∀ (L : ri_L) (σ : ri_S) (x : Int32), ev 116 (35, L, [.int x]) σ = some (some (.int x), σ)) :=
  ⟨fun l1 l2 st σ x => ev_p ((TP_116 _).trans rfl) rfl,
   fun L st σ a => ev_getf ((TP_116 _).trans rfl),
   fun L st σ a => ev_getf ((TP_116 _).trans rfl),
   fun l0 l2 st σ x => ev_p ((TP_116 _).trans rfl) rfl,
   fun L σ a0 a1 => ev_callv ((TP_116 _).trans rfl) rfl rfl rfl rfl,
   fun L st σ x => ev_b ((TP_116 _).trans rfl) rfl,
   fun l0 l1 st σ x => ev_p ((TP_116 _).trans rfl) rfl,
   fun L st σ => ev_p ((TP_116 _).trans rfl) rfl,
   fun L σ a0 a1 => ev_call ((TP_116 _).trans rfl) rfl rfl rfl rfl,
   fun L st σ => ev_p ((TP_116 _).trans rfl) rfl,
   fun L st σ => ev_p ((TP_116 _).trans rfl) rfl,
   fun L σ a0 => ev_call ((TP_116 _).trans rfl) rfl rfl rfl rfl,
   fun l1 l2 st σ x => ev_p ((TP_116 _).trans rfl) rfl,
   fun L st σ a => ev_getf ((TP_116 _).trans rfl),
   fun l0 l2 st σ x => ev_p ((TP_116 _).trans rfl) rfl,
   fun l0 l1 st σ x => ev_p ((TP_116 _).trans rfl) rfl,
   fun L σ a0 a1 a2 => ev_callv ((TP_116 _).trans rfl) rfl rfl rfl rfl,
   fun L σ x => ev_r ((TP_116 _).trans rfl) rfl⟩
theorem TP_117 (pc : Nat) : TT 117 pc = ri_find TL_117 pc := rfl
theorem E_117 (x0 : Nat) (x1 : Int32) (x2 : Int32) (σ : ri_S) : cal 117 [.ref x0, .int x1, .int x2] σ = ev 117 (0, [some (.ref x0), some (.int x1), some (.int x2)], []) σ := rfl
theorem I_117 :
  (∀ (l1 l2 : Option Value) (st : List Value) (σ : ri_S) (x : Nat), ev 117 (0, [some (.ref x), l1, l2], st) σ = ev 117 (1, [some (.ref x), l1, l2], .ref x :: st) σ) ∧
  (∀ (L : ri_L) (st : List Value) (σ : ri_S) (a : Nat), ev 117 (1, L, .ref a :: st) σ = tv_o 8 1 (σ.1 a) fun v => ev 117 (4, L, v :: st) σ) ∧
  (∀ (L : ri_L) (st : List Value) (σ : ri_S) (a : Nat), ev 117 (4, L, .ref a :: st) σ = tv_o 3 1 (σ.1 a) fun v => ev 117 (7, L, v :: st) σ) ∧
  (∀ (l0 l2 : Option Value) (st : List Value) (σ : ri_S) (x : Int32), ev 117 (7, [l0, some (.int x), l2], st) σ = ev 117 (8, [l0, some (.int x), l2], .int x :: st) σ) ∧
  (∀ (L : ri_L) (σ : ri_S) (a0 : Nat) (a1 : Int32), ev 117 (8, L, [.int a1, .ref a0]) σ = tv_k 2 (σ.1 a0) ((cal 14 [.ref a0, .int a1] σ).bind fun q => ev 117 (11, L, q.1.toList ++ []) q.2)) ∧
  (∀ (L : ri_L) (st : List Value) (σ : ri_S) (x : Int32), ev 117 (11, L, .int x :: st) σ = if x = 0 then ev 117 (22, L, st) σ else ev 117 (14, L, st) σ) ∧
  (∀ (l0 l1 : Option Value) (st : List Value) (σ : ri_S) (x : Int32), ev 117 (14, [l0, l1, some (.int x)], st) σ = ev 117 (15, [l0, l1, some (.int x)], .int x :: st) σ) ∧
  (∀ (L : ri_L) (st : List Value) (σ : ri_S), ev 117 (15, L, st) σ = ev 117 (16, L, .int 3 :: st) σ) ∧
  (∀ (L : ri_L) (σ : ri_S) (a0 : Int32) (a1 : Int32), ev 117 (16, L, [.int a1, .int a0]) σ = (cal 136 [.int a0, .int a1] σ).bind fun q => ev 117 (19, L, q.1.toList ++ []) q.2) ∧
  (∀ (L : ri_L) (st : List Value) (σ : ri_S), ev 117 (19, L, st) σ = ev 117 (23, L, st) σ) ∧
  (∀ (L : ri_L) (st : List Value) (σ : ri_S), ev 117 (22, L, st) σ = ev 117 (23, L, .int 1 :: st) σ) ∧
  (∀ (L : ri_L) (σ : ri_S) (a0 : Int32), ev 117 (23, L, [.int a0]) σ = (cal 135 [.int a0] σ).bind fun q => ev 117 (26, L, q.1.toList ++ []) q.2) ∧
  (∀ (l1 l2 : Option Value) (st : List Value) (σ : ri_S) (x : Nat), ev 117 (26, [some (.ref x), l1, l2], st) σ = ev 117 (27, [some (.ref x), l1, l2], .ref x :: st) σ) ∧
  (∀ (L : ri_L) (st : List Value) (σ : ri_S) (a : Nat), ev 117 (27, L, .ref a :: st) σ = tv_o 8 1 (σ.1 a) fun v => ev 117 (30, L, v :: st) σ) ∧
  (∀ (L : ri_L) (st : List Value) (σ : ri_S) (a : Nat), ev 117 (30, L, .ref a :: st) σ = tv_o 3 1 (σ.1 a) fun v => ev 117 (33, L, v :: st) σ) ∧
  (∀ (l0 l2 : Option Value) (st : List Value) (σ : ri_S) (x : Int32), ev 117 (33, [l0, some (.int x), l2], st) σ = ev 117 (34, [l0, some (.int x), l2], .int x :: st) σ) ∧
  (∀ (l0 l1 : Option Value) (st : List Value) (σ : ri_S) (x : Int32), ev 117 (34, [l0, l1, some (.int x)], st) σ = ev 117 (35, [l0, l1, some (.int x)], .int x :: st) σ) ∧
  (∀ (L : ri_L) (σ : ri_S) (a0 : Nat) (a1 : Int32) (a2 : Int32), ev 117 (35, L, [.int a2, .int a1, .ref a0]) σ = tv_k 2 (σ.1 a0) ((cal 18 [.ref a0, .int a1, .int a2] σ).bind fun q => ev 117 (38, L, q.1.toList ++ []) q.2)) ∧
  (∀ (L : ri_L) (σ : ri_S) (x : Int32), ev 117 (38, L, [.int x]) σ = some (some (.int x), σ)) :=
  ⟨fun l1 l2 st σ x => ev_p ((TP_117 _).trans rfl) rfl,
   fun L st σ a => ev_getf ((TP_117 _).trans rfl),
   fun L st σ a => ev_getf ((TP_117 _).trans rfl),
   fun l0 l2 st σ x => ev_p ((TP_117 _).trans rfl) rfl,
   fun L σ a0 a1 => ev_callv ((TP_117 _).trans rfl) rfl rfl rfl rfl,
   fun L st σ x => ev_b ((TP_117 _).trans rfl) rfl,
   fun l0 l1 st σ x => ev_p ((TP_117 _).trans rfl) rfl,
   fun L st σ => ev_p ((TP_117 _).trans rfl) rfl,
   fun L σ a0 a1 => ev_call ((TP_117 _).trans rfl) rfl rfl rfl rfl,
   fun L st σ => ev_p ((TP_117 _).trans rfl) rfl,
   fun L st σ => ev_p ((TP_117 _).trans rfl) rfl,
   fun L σ a0 => ev_call ((TP_117 _).trans rfl) rfl rfl rfl rfl,
   fun l1 l2 st σ x => ev_p ((TP_117 _).trans rfl) rfl,
   fun L st σ a => ev_getf ((TP_117 _).trans rfl),
   fun L st σ a => ev_getf ((TP_117 _).trans rfl),
   fun l0 l2 st σ x => ev_p ((TP_117 _).trans rfl) rfl,
   fun l0 l1 st σ x => ev_p ((TP_117 _).trans rfl) rfl,
   fun L σ a0 a1 a2 => ev_callv ((TP_117 _).trans rfl) rfl rfl rfl rfl,
   fun L σ x => ev_r ((TP_117 _).trans rfl) rfl⟩
theorem TP_118 (pc : Nat) : TT 118 pc = ri_find TL_118 pc := rfl
theorem E_118 (x0 : Nat) (x1 : Int32) (x2 : Int32) (x3 : Int32) (σ : ri_S) : cal 118 [.ref x0, .int x1, .int x2, .int x3] σ = ev 118 (0, [some (.ref x0), some (.int x1), some (.int x2), some (.int x3)], []) σ := rfl
theorem I_118 :
  (∀ (l1 l2 l3 : Option Value) (st : List Value) (σ : ri_S) (x : Nat), ev 118 (0, [some (.ref x), l1, l2, l3], st) σ = ev 118 (1, [some (.ref x), l1, l2, l3], .ref x :: st) σ) ∧
  (∀ (L : ri_L) (st : List Value) (σ : ri_S) (a : Nat), ev 118 (1, L, .ref a :: st) σ = tv_o 8 1 (σ.1 a) fun v => ev 118 (4, L, v :: st) σ) ∧
  (∀ (l0 l2 l3 : Option Value) (st : List Value) (σ : ri_S) (x : Int32), ev 118 (4, [l0, some (.int x), l2, l3], st) σ = ev 118 (5, [l0, some (.int x), l2, l3], .int x :: st) σ) ∧
  (∀ (l0 l1 l3 : Option Value) (st : List Value) (σ : ri_S) (x : Int32), ev 118 (5, [l0, l1, some (.int x), l3], st) σ = ev 118 (6, [l0, l1, some (.int x), l3], .int x :: st) σ) ∧
  (∀ (l0 l1 l2 : Option Value) (st : List Value) (σ : ri_S) (x : Int32), ev 118 (6, [l0, l1, l2, some (.int x)], st) σ = ev 118 (7, [l0, l1, l2, some (.int x)], .int x :: st) σ) ∧
  (∀ (L : ri_L) (σ : ri_S) (a0 : Nat) (a1 : Int32) (a2 : Int32) (a3 : Int32), ev 118 (7, L, [.int a3, .int a2, .int a1, .ref a0]) σ = tv_k 3 (σ.1 a0) ((cal 23 [.ref a0, .int a1, .int a2, .int a3] σ).bind fun q => ev 118 (10, L, q.1.toList ++ []) q.2)) ∧
  (∀ (L : ri_L) (σ : ri_S) (a0 : Int32), ev 118 (10, L, [.int a0]) σ = (cal 135 [.int a0] σ).bind fun q => ev 118 (13, L, q.1.toList ++ []) q.2) ∧
  (∀ (l1 l2 l3 : Option Value) (st : List Value) (σ : ri_S) (x : Nat), ev 118 (13, [some (.ref x), l1, l2, l3], st) σ = ev 118 (14, [some (.ref x), l1, l2, l3], .ref x :: st) σ) ∧
  (∀ (L : ri_L) (st : List Value) (σ : ri_S) (a : Nat), ev 118 (14, L, .ref a :: st) σ = tv_o 8 3 (σ.1 a) fun v => ev 118 (17, L, v :: st) σ) ∧
  (∀ (l1 l2 l3 : Option Value) (st : List Value) (σ : ri_S) (x : Nat), ev 118 (17, [some (.ref x), l1, l2, l3], st) σ = ev 118 (18, [some (.ref x), l1, l2, l3], .ref x :: st) σ) ∧
  (∀ (L : ri_L) (st : List Value) (σ : ri_S) (a : Nat), ev 118 (18, L, .ref a :: st) σ = tv_o 8 1 (σ.1 a) fun v => ev 118 (21, L, v :: st) σ) ∧
  (∀ (L : ri_L) (σ : ri_S) (a0 : Nat) (a1 : Nat), ev 118 (21, L, [.ref a1, .ref a0]) σ = tv_k 1 (σ.1 a0) ((cal 11 [.ref a0, .ref a1] σ).bind fun q => ev 118 (24, L, q.1.toList ++ []) q.2)) ∧
  (∀ (l1 l2 l3 : Option Value) (st : List Value) (σ : ri_S) (x : Nat), ev 118 (24, [some (.ref x), l1, l2, l3], st) σ = ev 118 (25, [some (.ref x), l1, l2, l3], .ref x :: st) σ) ∧
  (∀ (L : ri_L) (st : List Value) (σ : ri_S) (a : Nat), ev 118 (25, L, .ref a :: st) σ = tv_o 8 1 (σ.1 a) fun v => ev 118 (28, L, v :: st) σ) ∧
  (∀ (L : ri_L) (st : List Value) (σ : ri_S) (a : Nat), ev 118 (28, L, .ref a :: st) σ = tv_o 3 0 (σ.1 a) fun v => ev 118 (31, L, v :: st) σ) ∧
  (∀ (l0 l2 l3 : Option Value) (st : List Value) (σ : ri_S) (x : Int32), ev 118 (31, [l0, some (.int x), l2, l3], st) σ = ev 118 (32, [l0, some (.int x), l2, l3], .int x :: st) σ) ∧
  (∀ (l0 l1 l3 : Option Value) (st : List Value) (σ : ri_S) (x : Int32), ev 118 (32, [l0, l1, some (.int x), l3], st) σ = ev 118 (33, [l0, l1, some (.int x), l3], .int x :: st) σ) ∧
  (∀ (l0 l1 l2 : Option Value) (st : List Value) (σ : ri_S) (x : Int32), ev 118 (33, [l0, l1, l2, some (.int x)], st) σ = ev 118 (34, [l0, l1, l2, some (.int x)], .int x :: st) σ) ∧
  (∀ (L : ri_L) (σ : ri_S) (a0 : Nat) (a1 : Int32) (a2 : Int32) (a3 : Int32), ev 118 (34, L, [.int a3, .int a2, .int a1, .ref a0]) σ = tv_k 7 (σ.1 a0) ((cal 99 [.ref a0, .int a1, .int a2, .int a3] σ).bind fun q => ev 118 (37, L, q.1.toList ++ []) q.2)) ∧
  (∀ (L : ri_L) (σ : ri_S) (x : Int32), ev 118 (37, L, [.int x]) σ = some (some (.int x), σ)) :=
  ⟨fun l1 l2 l3 st σ x => ev_p ((TP_118 _).trans rfl) rfl,
   fun L st σ a => ev_getf ((TP_118 _).trans rfl),
   fun l0 l2 l3 st σ x => ev_p ((TP_118 _).trans rfl) rfl,
   fun l0 l1 l3 st σ x => ev_p ((TP_118 _).trans rfl) rfl,
   fun l0 l1 l2 st σ x => ev_p ((TP_118 _).trans rfl) rfl,
   fun L σ a0 a1 a2 a3 => ev_callv ((TP_118 _).trans rfl) rfl rfl rfl rfl,
   fun L σ a0 => ev_call ((TP_118 _).trans rfl) rfl rfl rfl rfl,
   fun l1 l2 l3 st σ x => ev_p ((TP_118 _).trans rfl) rfl,
   fun L st σ a => ev_getf ((TP_118 _).trans rfl),
   fun l1 l2 l3 st σ x => ev_p ((TP_118 _).trans rfl) rfl,
   fun L st σ a => ev_getf ((TP_118 _).trans rfl),
   fun L σ a0 a1 => ev_callv ((TP_118 _).trans rfl) rfl rfl rfl rfl,
   fun l1 l2 l3 st σ x => ev_p ((TP_118 _).trans rfl) rfl,
   fun L st σ a => ev_getf ((TP_118 _).trans rfl),
   fun L st σ a => ev_getf ((TP_118 _).trans rfl),
   fun l0 l2 l3 st σ x => ev_p ((TP_118 _).trans rfl) rfl,
   fun l0 l1 l3 st σ x => ev_p ((TP_118 _).trans rfl) rfl,
   fun l0 l1 l2 st σ x => ev_p ((TP_118 _).trans rfl) rfl,
   fun L σ a0 a1 a2 a3 => ev_callv ((TP_118 _).trans rfl) rfl rfl rfl rfl,
   fun L σ x => ev_r ((TP_118 _).trans rfl) rfl⟩
theorem TP_119 (pc : Nat) : TT 119 pc = ri_find TL_119 pc := rfl
theorem E_119 (x0 : Nat) (x1 : Int32) (x2 : Int32) (x3 : Int32) (x4 : Int32) (σ : ri_S) : cal 119 [.ref x0, .int x1, .int x2, .int x3, .int x4] σ = ev 119 (0, [some (.ref x0), some (.int x1), some (.int x2), some (.int x3), some (.int x4)], []) σ := rfl
theorem I_119 :
  (∀ (l1 l2 l3 l4 : Option Value) (st : List Value) (σ : ri_S) (x : Nat), ev 119 (0, [some (.ref x), l1, l2, l3, l4], st) σ = ev 119 (1, [some (.ref x), l1, l2, l3, l4], .ref x :: st) σ) ∧
  (∀ (L : ri_L) (st : List Value) (σ : ri_S) (a : Nat), ev 119 (1, L, .ref a :: st) σ = tv_o 8 1 (σ.1 a) fun v => ev 119 (4, L, v :: st) σ) ∧
  (∀ (l0 l2 l3 l4 : Option Value) (st : List Value) (σ : ri_S) (x : Int32), ev 119 (4, [l0, some (.int x), l2, l3, l4], st) σ = ev 119 (5, [l0, some (.int x), l2, l3, l4], .int x :: st) σ) ∧
  (∀ (l0 l1 l3 l4 : Option Value) (st : List Value) (σ : ri_S) (x : Int32), ev 119 (5, [l0, l1, some (.int x), l3, l4], st) σ = ev 119 (6, [l0, l1, some (.int x), l3, l4], .int x :: st) σ) ∧
  (∀ (l0 l1 l2 l4 : Option Value) (st : List Value) (σ : ri_S) (x : Int32), ev 119 (6, [l0, l1, l2, some (.int x), l4], st) σ = ev 119 (7, [l0, l1, l2, some (.int x), l4], .int x :: st) σ) ∧
  (∀ (l0 l1 l2 l3 : Option Value) (st : List Value) (σ : ri_S) (x : Int32), ev 119 (7, [l0, l1, l2, l3, some (.int x)], st) σ = ev 119 (9, [l0, l1, l2, l3, some (.int x)], .int x :: st) σ) ∧
  (∀ (L : ri_L) (σ : ri_S) (a0 : Nat) (a1 : Int32) (a2 : Int32) (a3 : Int32) (a4 : Int32), ev 119 (9, L, [.int a4, .int a3, .int a2, .int a1, .ref a0]) σ = tv_k 3 (σ.1 a0) ((cal 24 [.ref a0, .int a1, .int a2, .int a3, .int a4] σ).bind fun q => ev 119 (12, L, q.1.toList ++ []) q.2)) ∧
  (∀ (L : ri_L) (σ : ri_S) (a0 : Int32), ev 119 (12, L, [.int a0]) σ = (cal 135 [.int a0] σ).bind fun q => ev 119 (15, L, q.1.toList ++ []) q.2) ∧
  (∀ (l1 l2 l3 l4 : Option Value) (st : List Value) (σ : ri_S) (x : Nat), ev 119 (15, [some (.ref x), l1, l2, l3, l4], st) σ = ev 119 (16, [some (.ref x), l1, l2, l3, l4], .ref x :: st) σ) ∧
  (∀ (L : ri_L) (st : List Value) (σ : ri_S) (a : Nat), ev 119 (16, L, .ref a :: st) σ = tv_o 8 3 (σ.1 a) fun v => ev 119 (19, L, v :: st) σ) ∧
  (∀ (l1 l2 l3 l4 : Option Value) (st : List Value) (σ : ri_S) (x : Nat), ev 119 (19, [some (.ref x), l1, l2, l3, l4], st) σ = ev 119 (20, [some (.ref x), l1, l2, l3, l4], .ref x :: st) σ) ∧
  (∀ (L : ri_L) (st : List Value) (σ : ri_S) (a : Nat), ev 119 (20, L, .ref a :: st) σ = tv_o 8 1 (σ.1 a) fun v => ev 119 (23, L, v :: st) σ) ∧
  (∀ (L : ri_L) (σ : ri_S) (a0 : Nat) (a1 : Nat), ev 119 (23, L, [.ref a1, .ref a0]) σ = tv_k 1 (σ.1 a0) ((cal 11 [.ref a0, .ref a1] σ).bind fun q => ev 119 (26, L, q.1.toList ++ []) q.2)) ∧
  (∀ (l1 l2 l3 l4 : Option Value) (st : List Value) (σ : ri_S) (x : Nat), ev 119 (26, [some (.ref x), l1, l2, l3, l4], st) σ = ev 119 (27, [some (.ref x), l1, l2, l3, l4], .ref x :: st) σ) ∧
  (∀ (L : ri_L) (st : List Value) (σ : ri_S) (a : Nat), ev 119 (27, L, .ref a :: st) σ = tv_o 8 1 (σ.1 a) fun v => ev 119 (30, L, v :: st) σ) ∧
  (∀ (L : ri_L) (st : List Value) (σ : ri_S) (a : Nat), ev 119 (30, L, .ref a :: st) σ = tv_o 3 1 (σ.1 a) fun v => ev 119 (33, L, v :: st) σ) ∧
  (∀ (l0 l2 l3 l4 : Option Value) (st : List Value) (σ : ri_S) (x : Int32), ev 119 (33, [l0, some (.int x), l2, l3, l4], st) σ = ev 119 (34, [l0, some (.int x), l2, l3, l4], .int x :: st) σ) ∧
  (∀ (l0 l1 l3 l4 : Option Value) (st : List Value) (σ : ri_S) (x : Int32), ev 119 (34, [l0, l1, some (.int x), l3, l4], st) σ = ev 119 (35, [l0, l1, some (.int x), l3, l4], .int x :: st) σ) ∧
  (∀ (L : ri_L) (σ : ri_S) (a0 : Int32) (a1 : Int32) (s0 : Value), ev 119 (35, L, [.int a1, .int a0, s0]) σ = (cal 138 [.int a0, .int a1] σ).bind fun q => ev 119 (38, L, q.1.toList ++ [s0]) q.2) ∧
  (∀ (l0 l1 l2 l4 : Option Value) (st : List Value) (σ : ri_S) (x : Int32), ev 119 (38, [l0, l1, l2, some (.int x), l4], st) σ = ev 119 (39, [l0, l1, l2, some (.int x), l4], .int x :: st) σ) ∧
  (∀ (l0 l1 l2 l3 : Option Value) (st : List Value) (σ : ri_S) (x : Int32), ev 119 (39, [l0, l1, l2, l3, some (.int x)], st) σ = ev 119 (41, [l0, l1, l2, l3, some (.int x)], .int x :: st) σ) ∧
  (∀ (L : ri_L) (σ : ri_S) (a0 : Int32) (a1 : Int32) (s0 s1 : Value), ev 119 (41, L, [.int a1, .int a0, s0, s1]) σ = (cal 138 [.int a0, .int a1] σ).bind fun q => ev 119 (44, L, q.1.toList ++ [s0, s1]) q.2) ∧
  (∀ (L : ri_L) (σ : ri_S) (a0 : Nat) (a1 : Int32) (a2 : Int32), ev 119 (44, L, [.int a2, .int a1, .ref a0]) σ = tv_k 2 (σ.1 a0) ((cal 15 [.ref a0, .int a1, .int a2] σ).bind fun q => ev 119 (47, L, q.1.toList ++ []) q.2)) ∧
  (∀ (L : ri_L) (σ : ri_S) (x : Int32), ev 119 (47, L, [.int x]) σ = some (some (.int x), σ)) :=
  ⟨fun l1 l2 l3 l4 st σ x => ev_p ((TP_119 _).trans rfl) rfl,
   fun L st σ a => ev_getf ((TP_119 _).trans rfl),
   fun l0 l2 l3 l4 st σ x => ev_p ((TP_119 _).trans rfl) rfl,
   fun l0 l1 l3 l4 st σ x => ev_p ((TP_119 _).trans rfl) rfl,
   fun l0 l1 l2 l4 st σ x => ev_p ((TP_119 _).trans rfl) rfl,
   fun l0 l1 l2 l3 st σ x => ev_p ((TP_119 _).trans rfl) rfl,
   fun L σ a0 a1 a2 a3 a4 => ev_callv ((TP_119 _).trans rfl) rfl rfl rfl rfl,
   fun L σ a0 => ev_call ((TP_119 _).trans rfl) rfl rfl rfl rfl,
   fun l1 l2 l3 l4 st σ x => ev_p ((TP_119 _).trans rfl) rfl,
   fun L st σ a => ev_getf ((TP_119 _).trans rfl),
   fun l1 l2 l3 l4 st σ x => ev_p ((TP_119 _).trans rfl) rfl,
   fun L st σ a => ev_getf ((TP_119 _).trans rfl),
   fun L σ a0 a1 => ev_callv ((TP_119 _).trans rfl) rfl rfl rfl rfl,
   fun l1 l2 l3 l4 st σ x => ev_p ((TP_119 _).trans rfl) rfl,
   fun L st σ a => ev_getf ((TP_119 _).trans rfl),
   fun L st σ a => ev_getf ((TP_119 _).trans rfl),
   fun l0 l2 l3 l4 st σ x => ev_p ((TP_119 _).trans rfl) rfl,
   fun l0 l1 l3 l4 st σ x => ev_p ((TP_119 _).trans rfl) rfl,
   fun L σ a0 a1 s0 => ev_call ((TP_119 _).trans rfl) rfl rfl rfl rfl,
   fun l0 l1 l2 l4 st σ x => ev_p ((TP_119 _).trans rfl) rfl,
   fun l0 l1 l2 l3 st σ x => ev_p ((TP_119 _).trans rfl) rfl,
   fun L σ a0 a1 s0 s1 => ev_call ((TP_119 _).trans rfl) rfl rfl rfl rfl,
   fun L σ a0 a1 a2 => ev_callv ((TP_119 _).trans rfl) rfl rfl rfl rfl,
   fun L σ x => ev_r ((TP_119 _).trans rfl) rfl⟩
theorem TP_120 (pc : Nat) : TT 120 pc = ri_find TL_120 pc := rfl
theorem E_120 (x0 : Nat) (x1 : Int32) (x2 : Int32) (x3 : Int32) (σ : ri_S) : cal 120 [.ref x0, .int x1, .int x2, .int x3] σ = ev 120 (0, [some (.ref x0), some (.int x1), some (.int x2), some (.int x3)], []) σ := rfl
theorem I_120 :
  (∀ (l1 l2 l3 : Option Value) (st : List Value) (σ : ri_S) (x : Nat), ev 120 (0, [some (.ref x), l1, l2, l3], st) σ = ev 120 (1, [some (.ref x), l1, l2, l3], .ref x :: st) σ) ∧
  (∀ (L : ri_L) (st : List Value) (σ : ri_S) (a : Nat), ev 120 (1, L, .ref a :: st) σ = tv_o 8 1 (σ.1 a) fun v => ev 120 (4, L, v :: st) σ) ∧
  (∀ (l0 l2 l3 : Option Value) (st : List Value) (σ : ri_S) (x : Int32), ev 120 (4, [l0, some (.int x), l2, l3], st) σ = ev 120 (5, [l0, some (.int x), l2, l3], .int x :: st) σ) ∧
  (∀ (l0 l1 l3 : Option Value) (st : List Value) (σ : ri_S) (x : Int32), ev 120 (5, [l0, l1, some (.int x), l3], st) σ = ev 120 (6, [l0, l1, some (.int x), l3], .int x :: st) σ) ∧
  (∀ (l0 l1 l2 : Option Value) (st : List Value) (σ : ri_S) (x : Int32), ev 120 (6, [l0, l1, l2, some (.int x)], st) σ = ev 120 (7, [l0, l1, l2, some (.int x)], .int x :: st) σ) ∧
  (∀ (L : ri_L) (σ : ri_S) (a0 : Nat) (a1 : Int32) (a2 : Int32) (a3 : Int32), ev 120 (7, L, [.int a3, .int a2, .int a1, .ref a0]) σ = tv_k 3 (σ.1 a0) ((cal 25 [.ref a0, .int a1, .int a2, .int a3] σ).bind fun q => ev 120 (10, L, q.1.toList ++ []) q.2)) ∧
  (∀ (L : ri_L) (σ : ri_S) (a0 : Int32), ev 120 (10, L, [.int a0]) σ = (cal 135 [.int a0] σ).bind fun q => ev 120 (13, L, q.1.toList ++ []) q.2) ∧
  (∀ (l1 l2 l3 : Option Value) (st : List Value) (σ : ri_S) (x : Nat), ev 120 (13, [some (.ref x), l1, l2, l3], st) σ = ev 120 (14, [some (.ref x), l1, l2, l3], .ref x :: st) σ) ∧
  (∀ (L : ri_L) (st : List Value) (σ : ri_S) (a : Nat), ev 120 (14, L, .ref a :: st) σ = tv_o 8 3 (σ.1 a) fun v => ev 120 (17, L, v :: st) σ) ∧
  (∀ (l1 l2 l3 : Option Value) (st : List Value) (σ : ri_S) (x : Nat), ev 120 (17, [some (.ref x), l1, l2, l3], st) σ = ev 120 (18, [some (.ref x), l1, l2, l3], .ref x :: st) σ) ∧
  (∀ (L : ri_L) (st : List Value) (σ : ri_S) (a : Nat), ev 120 (18, L, .ref a :: st) σ = tv_o 8 1 (σ.1 a) fun v => ev 120 (21, L, v :: st) σ) ∧
  (∀ (L : ri_L) (σ : ri_S) (a0 : Nat) (a1 : Nat), ev 120 (21, L, [.ref a1, .ref a0]) σ = tv_k 1 (σ.1 a0) ((cal 11 [.ref a0, .ref a1] σ).bind fun q => ev 120 (24, L, q.1.toList ++ []) q.2)) ∧
  (∀ (l1 l2 l3 : Option Value) (st : List Value) (σ : ri_S) (x : Nat), ev 120 (24, [some (.ref x), l1, l2, l3], st) σ = ev 120 (25, [some (.ref x), l1, l2, l3], .ref x :: st) σ) ∧
  (∀ (L : ri_L) (st : List Value) (σ : ri_S) (a : Nat), ev 120 (25, L, .ref a :: st) σ = tv_o 8 1 (σ.1 a) fun v => ev 120 (28, L, v :: st) σ) ∧
  (∀ (L : ri_L) (st : List Value) (σ : ri_S) (a : Nat), ev 120 (28, L, .ref a :: st) σ = tv_o 3 2 (σ.1 a) fun v => ev 120 (31, L, v :: st) σ) ∧
  (∀ (l0 l2 l3 : Option Value) (st : List Value) (σ : ri_S) (x : Int32), ev 120 (31, [l0, some (.int x), l2, l3], st) σ = ev 120 (32, [l0, some (.int x), l2, l3], .int x :: st) σ) ∧
  (∀ (l1 l2 l3 : Option Value) (st : List Value) (σ : ri_S) (x : Nat), ev 120 (32, [some (.ref x), l1, l2, l3], st) σ = ev 120 (33, [some (.ref x), l1, l2, l3], .ref x :: st) σ) ∧
  (∀ (L : ri_L) (st : List Value) (σ : ri_S) (a : Nat), ev 120 (33, L, .ref a :: st) σ = tv_o 8 1 (σ.1 a) fun v => ev 120 (36, L, v :: st) σ) ∧
  (∀ (L : ri_L) (st : List Value) (σ : ri_S) (a : Nat), ev 120 (36, L, .ref a :: st) σ = tv_o 3 0 (σ.1 a) fun v => ev 120 (39, L, v :: st) σ) ∧
  (∀ (l0 l2 l3 : Option Value) (st : List Value) (σ : ri_S) (x : Int32), ev 120 (39, [l0, some (.int x), l2, l3], st) σ = ev 120 (40, [l0, some (.int x), l2, l3], .int x :: st) σ) ∧
  (∀ (l0 l1 l3 : Option Value) (st : List Value) (σ : ri_S) (x : Int32), ev 120 (40, [l0, l1, some (.int x), l3], st) σ = ev 120 (41, [l0, l1, some (.int x), l3], .int x :: st) σ) ∧
  (∀ (L : ri_L) (σ : ri_S) (a0 : Nat) (a1 : Int32) (a2 : Int32) (s0 s1 : Value), ev 120 (41, L, [.int a2, .int a1, .ref a0, s0, s1]) σ = tv_k 7 (σ.1 a0) ((cal 100 [.ref a0, .int a1, .int a2] σ).bind fun q => ev 120 (44, L, q.1.toList ++ [s0, s1]) q.2)) ∧
  (∀ (l0 l1 l2 : Option Value) (st : List Value) (σ : ri_S) (x : Int32), ev 120 (44, [l0, l1, l2, some (.int x)], st) σ = ev 120 (45, [l0, l1, l2, some (.int x)], .int x :: st) σ) ∧
  (∀ (L : ri_L) (σ : ri_S) (a0 : Nat) (a1 : Int32) (a2 : Int32) (a3 : Int32), ev 120 (45, L, [.int a3, .int a2, .int a1, .ref a0]) σ = tv_k 0 (σ.1 a0) ((cal 2 [.ref a0, .int a1, .int a2, .int a3] σ).bind fun q => ev 120 (48, L, q.1.toList ++ []) q.2)) ∧
  (∀ (L : ri_L) (σ : ri_S) (x : Int32), ev 120 (48, L, [.int x]) σ = some (some (.int x), σ)) :=
  ⟨fun l1 l2 l3 st σ x => ev_p ((TP_120 _).trans rfl) rfl,
   fun L st σ a => ev_getf ((TP_120 _).trans rfl),
   fun l0 l2 l3 st σ x => ev_p ((TP_120 _).trans rfl) rfl,
   fun l0 l1 l3 st σ x => ev_p ((TP_120 _).trans rfl) rfl,
   fun l0 l1 l2 st σ x => ev_p ((TP_120 _).trans rfl) rfl,
   fun L σ a0 a1 a2 a3 => ev_callv ((TP_120 _).trans rfl) rfl rfl rfl rfl,
   fun L σ a0 => ev_call ((TP_120 _).trans rfl) rfl rfl rfl rfl,
   fun l1 l2 l3 st σ x => ev_p ((TP_120 _).trans rfl) rfl,
   fun L st σ a => ev_getf ((TP_120 _).trans rfl),
   fun l1 l2 l3 st σ x => ev_p ((TP_120 _).trans rfl) rfl,
   fun L st σ a => ev_getf ((TP_120 _).trans rfl),
   fun L σ a0 a1 => ev_callv ((TP_120 _).trans rfl) rfl rfl rfl rfl,
   fun l1 l2 l3 st σ x => ev_p ((TP_120 _).trans rfl) rfl,
   fun L st σ a => ev_getf ((TP_120 _).trans rfl),
   fun L st σ a => ev_getf ((TP_120 _).trans rfl),
   fun l0 l2 l3 st σ x => ev_p ((TP_120 _).trans rfl) rfl,
   fun l1 l2 l3 st σ x => ev_p ((TP_120 _).trans rfl) rfl,
   fun L st σ a => ev_getf ((TP_120 _).trans rfl),
   fun L st σ a => ev_getf ((TP_120 _).trans rfl),
   fun l0 l2 l3 st σ x => ev_p ((TP_120 _).trans rfl) rfl,
   fun l0 l1 l3 st σ x => ev_p ((TP_120 _).trans rfl) rfl,
   fun L σ a0 a1 a2 s0 s1 => ev_callv ((TP_120 _).trans rfl) rfl rfl rfl rfl,
   fun l0 l1 l2 st σ x => ev_p ((TP_120 _).trans rfl) rfl,
   fun L σ a0 a1 a2 a3 => ev_callv ((TP_120 _).trans rfl) rfl rfl rfl rfl,
   fun L σ x => ev_r ((TP_120 _).trans rfl) rfl⟩
theorem TP_121 (pc : Nat) : TT 121 pc = ri_find TL_121 pc := rfl
theorem E_121 (x0 : Nat) (x1 : Int32) (x2 : Int32) (x3 : Int32) (σ : ri_S) : cal 121 [.ref x0, .int x1, .int x2, .int x3] σ = ev 121 (0, [some (.ref x0), some (.int x1), some (.int x2), some (.int x3)], []) σ := rfl
theorem I_121 :
  (∀ (l1 l2 l3 : Option Value) (st : List Value) (σ : ri_S) (x : Nat), ev 121 (0, [some (.ref x), l1, l2, l3], st) σ = ev 121 (1, [some (.ref x), l1, l2, l3], .ref x :: st) σ) ∧
  (∀ (L : ri_L) (st : List Value) (σ : ri_S) (a : Nat), ev 121 (1, L, .ref a :: st) σ = tv_o 8 1 (σ.1 a) fun v => ev 121 (4, L, v :: st) σ) ∧
  (∀ (l0 l2 l3 : Option Value) (st : List Value) (σ : ri_S) (x : Int32), ev 121 (4, [l0, some (.int x), l2, l3], st) σ = ev 121 (5, [l0, some (.int x), l2, l3], .int x :: st) σ) ∧
  (∀ (l0 l1 l3 : Option Value) (st : List Value) (σ : ri_S) (x : Int32), ev 121 (5, [l0, l1, some (.int x), l3], st) σ = ev 121 (6, [l0, l1, some (.int x), l3], .int x :: st) σ) ∧
  (∀ (l0 l1 l2 : Option Value) (st : List Value) (σ : ri_S) (x : Int32), ev 121 (6, [l0, l1, l2, some (.int x)], st) σ = ev 121 (7, [l0, l1, l2, some (.int x)], .int x :: st) σ) ∧
  (∀ (L : ri_L) (σ : ri_S) (a0 : Nat) (a1 : Int32) (a2 : Int32) (a3 : Int32), ev 121 (7, L, [.int a3, .int a2, .int a1, .ref a0]) σ = tv_k 3 (σ.1 a0) ((cal 26 [.ref a0, .int a1, .int a2, .int a3] σ).bind fun q => ev 121 (10, L, q.1.toList ++ []) q.2)) ∧
  (∀ (L : ri_L) (σ : ri_S) (a0 : Int32), ev 121 (10, L, [.int a0]) σ = (cal 135 [.int a0] σ).bind fun q => ev 121 (13, L, q.1.toList ++ []) q.2) ∧
  (∀ (l1 l2 l3 : Option Value) (st : List Value) (σ : ri_S) (x : Nat), ev 121 (13, [some (.ref x), l1, l2, l3], st) σ = ev 121 (14, [some (.ref x), l1, l2, l3], .ref x :: st) σ) ∧
  (∀ (L : ri_L) (st : List Value) (σ : ri_S) (a : Nat), ev 121 (14, L, .ref a :: st) σ = tv_o 8 3 (σ.1 a) fun v => ev 121 (17, L, v :: st) σ) ∧
  (∀ (l1 l2 l3 : Option Value) (st : List Value) (σ : ri_S) (x : Nat), ev 121 (17, [some (.ref x), l1, l2, l3], st) σ = ev 121 (18, [some (.ref x), l1, l2, l3], .ref x :: st) σ) ∧
  (∀ (L : ri_L) (st : List Value) (σ : ri_S) (a : Nat), ev 121 (18, L, .ref a :: st) σ = tv_o 8 1 (σ.1 a) fun v => ev 121 (21, L, v :: st) σ) ∧
  (∀ (L : ri_L) (σ : ri_S) (a0 : Nat) (a1 : Nat), ev 121 (21, L, [.ref a1, .ref a0]) σ = tv_k 1 (σ.1 a0) ((cal 11 [.ref a0, .ref a1] σ).bind fun q => ev 121 (24, L, q.1.toList ++ []) q.2)) ∧
  (∀ (l1 l2 l3 : Option Value) (st : List Value) (σ : ri_S) (x : Nat), ev 121 (24, [some (.ref x), l1, l2, l3], st) σ = ev 121 (25, [some (.ref x), l1, l2, l3], .ref x :: st) σ) ∧
  (∀ (L : ri_L) (st : List Value) (σ : ri_S) (a : Nat), ev 121 (25, L, .ref a :: st) σ = tv_o 8 1 (σ.1 a) fun v => ev 121 (28, L, v :: st) σ) ∧
  (∀ (l0 l2 l3 : Option Value) (st : List Value) (σ : ri_S) (x : Int32), ev 121 (28, [l0, some (.int x), l2, l3], st) σ = ev 121 (29, [l0, some (.int x), l2, l3], .int x :: st) σ) ∧
  (∀ (l1 l2 l3 : Option Value) (st : List Value) (σ : ri_S) (x : Nat), ev 121 (29, [some (.ref x), l1, l2, l3], st) σ = ev 121 (30, [some (.ref x), l1, l2, l3], .ref x :: st) σ) ∧
  (∀ (L : ri_L) (st : List Value) (σ : ri_S) (a : Nat), ev 121 (30, L, .ref a :: st) σ = tv_o 8 1 (σ.1 a) fun v => ev 121 (33, L, v :: st) σ) ∧
  (∀ (L : ri_L) (st : List Value) (σ : ri_S) (a : Nat), ev 121 (33, L, .ref a :: st) σ = tv_o 3 0 (σ.1 a) fun v => ev 121 (36, L, v :: st) σ) ∧
  (∀ (l0 l2 l3 : Option Value) (st : List Value) (σ : ri_S) (x : Int32), ev 121 (36, [l0, some (.int x), l2, l3], st) σ = ev 121 (37, [l0, some (.int x), l2, l3], .int x :: st) σ) ∧
  (∀ (l0 l1 l3 : Option Value) (st : List Value) (σ : ri_S) (x : Int32), ev 121 (37, [l0, l1, some (.int x), l3], st) σ = ev 121 (38, [l0, l1, some (.int x), l3], .int x :: st) σ) ∧
  (∀ (L : ri_L) (σ : ri_S) (a0 : Nat) (a1 : Int32) (a2 : Int32) (s0 s1 : Value), ev 121 (38, L, [.int a2, .int a1, .ref a0, s0, s1]) σ = tv_k 7 (σ.1 a0) ((cal 100 [.ref a0, .int a1, .int a2] σ).bind fun q => ev 121 (41, L, q.1.toList ++ [s0, s1]) q.2)) ∧
  (∀ (l0 l1 l2 : Option Value) (st : List Value) (σ : ri_S) (x : Int32), ev 121 (41, [l0, l1, l2, some (.int x)], st) σ = ev 121 (42, [l0, l1, l2, some (.int x)], .int x :: st) σ) ∧
  (∀ (L : ri_L) (σ : ri_S) (a0 : Nat) (a1 : Int32) (a2 : Int32) (a3 : Int32), ev 121 (42, L, [.int a3, .int a2, .int a1, .ref a0]) σ = tv_k 3 (σ.1 a0) ((cal 35 [.ref a0, .int a1, .int a2, .int a3] σ).bind fun q => ev 121 (45, L, q.1.toList ++ []) q.2)) ∧
  (∀ (L : ri_L) (σ : ri_S) (x : Int32), ev 121 (45, L, [.int x]) σ = some (some (.int x), σ)) :=
  ⟨fun l1 l2 l3 st σ x => ev_p ((TP_121 _).trans rfl) rfl,
   fun L st σ a => ev_getf ((TP_121 _).trans rfl),
   fun l0 l2 l3 st σ x => ev_p ((TP_121 _).trans rfl) rfl,
   fun l0 l1 l3 st σ x => ev_p ((TP_121 _).trans rfl) rfl,
   fun l0 l1 l2 st σ x => ev_p ((TP_121 _).trans rfl) rfl,
   fun L σ a0 a1 a2 a3 => ev_callv ((TP_121 _).trans rfl) rfl rfl rfl rfl,
   fun L σ a0 => ev_call ((TP_121 _).trans rfl) rfl rfl rfl rfl,
   fun l1 l2 l3 st σ x => ev_p ((TP_121 _).trans rfl) rfl,
   fun L st σ a => ev_getf ((TP_121 _).trans rfl),
   fun l1 l2 l3 st σ x => ev_p ((TP_121 _).trans rfl) rfl,
   fun L st σ a => ev_getf ((TP_121 _).trans rfl),
   fun L σ a0 a1 => ev_callv ((TP_121 _).trans rfl) rfl rfl rfl rfl,
   fun l1 l2 l3 st σ x => ev_p ((TP_121 _).trans rfl) rfl,
   fun L st σ a => ev_getf ((TP_121 _).trans rfl),
   fun l0 l2 l3 st σ x => ev_p ((TP_121 _).trans rfl) rfl,
   fun l1 l2 l3 st σ x => ev_p ((TP_121 _).trans rfl) rfl,
   fun L st σ a => ev_getf ((TP_121 _).trans rfl),
   fun L st σ a => ev_getf ((TP_121 _).trans rfl),
   fun l0 l2 l3 st σ x => ev_p ((TP_121 _).trans rfl) rfl,
   fun l0 l1 l3 st σ x => ev_p ((TP_121 _).trans rfl) rfl,
   fun L σ a0 a1 a2 s0 s1 => ev_callv ((TP_121 _).trans rfl) rfl rfl rfl rfl,
   fun l0 l1 l2 st σ x => ev_p ((TP_121 _).trans rfl) rfl,
   fun L σ a0 a1 a2 a3 => ev_callv ((TP_121 _).trans rfl) rfl rfl rfl rfl,
   fun L σ x => ev_r ((TP_121 _).trans rfl) rfl⟩
theorem TP_122 (pc : Nat) : TT 122 pc = ri_find TL_122 pc := rfl
theorem E_122 (x0 : Nat) (x1 : Int32) (x2 : Int32) (σ : ri_S) : cal 122 [.ref x0, .int x1, .int x2] σ = ev 122 (0, [some (.ref x0), some (.int x1), some (.int x2)], []) σ := rfl
theorem I_122 :
  (∀ (l1 l2 : Option Value) (st : List Value) (σ : ri_S) (x : Nat), ev 122 (0, [some (.ref x), l1, l2], st) σ = ev 122 (1, [some (.ref x), l1, l2], .ref x :: st) σ) ∧
  (∀ (L : ri_L) (st : List Value) (σ : ri_S) (a : Nat), ev 122 (1, L, .ref a :: st) σ = tv_o 8 1 (σ.1 a) fun v => ev 122 (4, L, v :: st) σ) ∧
  (∀ (l0 l2 : Option Value) (st : List Value) (σ : ri_S) (x : Int32), ev 122 (4, [l0, some (.int x), l2], st) σ = ev 122 (5, [l0, some (.int x), l2], .int x :: st) σ) ∧
  (∀ (l0 l1 : Option Value) (st : List Value) (σ : ri_S) (x : Int32), ev 122 (5, [l0, l1, some (.int x)], st) σ = ev 122 (6, [l0, l1, some (.int x)], .int x :: st) σ) ∧
  (∀ (L : ri_L) (σ : ri_S) (a0 : Nat) (a1 : Int32) (a2 : Int32), ev 122 (6, L, [.int a2, .int a1, .ref a0]) σ = tv_k 3 (σ.1 a0) ((cal 27 [.ref a0, .int a1, .int a2] σ).bind fun q => ev 122 (9, L, q.1.toList ++ []) q.2)) ∧
  (∀ (L : ri_L) (σ : ri_S) (a0 : Int32), ev 122 (9, L, [.int a0]) σ = (cal 135 [.int a0] σ).bind fun q => ev 122 (12, L, q.1.toList ++ []) q.2) ∧
  (∀ (l1 l2 : Option Value) (st : List Value) (σ : ri_S) (x : Nat), ev 122 (12, [some (.ref x), l1, l2], st) σ = ev 122 (13, [some (.ref x), l1, l2], .ref x :: st) σ) ∧
  (∀ (L : ri_L) (st : List Value) (σ : ri_S) (a : Nat), ev 122 (13, L, .ref a :: st) σ = tv_o 8 3 (σ.1 a) fun v => ev 122 (16, L, v :: st) σ) ∧
  (∀ (l1 l2 : Option Value) (st : List Value) (σ : ri_S) (x : Nat), ev 122 (16, [some (.ref x), l1, l2], st) σ = ev 122 (17, [some (.ref x), l1, l2], .ref x :: st) σ) ∧
  (∀ (L : ri_L) (st : List Value) (σ : ri_S) (a : Nat), ev 122 (17, L, .ref a :: st) σ = tv_o 8 1 (σ.1 a) fun v => ev 122 (20, L, v :: st) σ) ∧
  (∀ (L : ri_L) (σ : ri_S) (a0 : Nat) (a1 : Nat), ev 122 (20, L, [.ref a1, .ref a0]) σ = tv_k 1 (σ.1 a0) ((cal 11 [.ref a0, .ref a1] σ).bind fun q => ev 122 (23, L, q.1.toList ++ []) q.2)) ∧
  (∀ (l1 l2 : Option Value) (st : List Value) (σ : ri_S) (x : Nat), ev 122 (23, [some (.ref x), l1, l2], st) σ = ev 122 (24, [some (.ref x), l1, l2], .ref x :: st) σ) ∧
  (∀ (L : ri_L) (st : List Value) (σ : ri_S) (a : Nat), ev 122 (24, L, .ref a :: st) σ = tv_o 8 1 (σ.1 a) fun v => ev 122 (27, L, v :: st) σ) ∧
  (∀ (l0 l2 : Option Value) (st : List Value) (σ : ri_S) (x : Int32), ev 122 (27, [l0, some (.int x), l2], st) σ = ev 122 (28, [l0, some (.int x), l2], .int x :: st) σ) ∧
  (∀ (l0 l1 : Option Value) (st : List Value) (σ : ri_S) (x : Int32), ev 122 (28, [l0, l1, some (.int x)], st) σ = ev 122 (29, [l0, l1, some (.int x)], .int x :: st) σ) ∧
  (∀ (L : ri_L) (σ : ri_S) (a0 : Nat) (a1 : Int32) (a2 : Int32), ev 122 (29, L, [.int a2, .int a1, .ref a0]) σ = tv_k 3 (σ.1 a0) ((cal 41 [.ref a0, .int a1, .int a2] σ).bind fun q => ev 122 (32, L, q.1.toList ++ []) q.2)) ∧
  (∀ (L : ri_L) (σ : ri_S) (x : Int32), ev 122 (32, L, [.int x]) σ = some (some (.int x), σ)) :=
  ⟨fun l1 l2 st σ x => ev_p ((TP_122 _).trans rfl) rfl,
   fun L st σ a => ev_getf ((TP_122 _).trans rfl),
   fun l0 l2 st σ x => ev_p ((TP_122 _).trans rfl) rfl,
   fun l0 l1 st σ x => ev_p ((TP_122 _).trans rfl) rfl,
   fun L σ a0 a1 a2 => ev_callv ((TP_122 _).trans rfl) rfl rfl rfl rfl,
   fun L σ a0 => ev_call ((TP_122 _).trans rfl) rfl rfl rfl rfl,
   fun l1 l2 st σ x => ev_p ((TP_122 _).trans rfl) rfl,
   fun L st σ a => ev_getf ((TP_122 _).trans rfl),
   fun l1 l2 st σ x => ev_p ((TP_122 _).trans rfl) rfl,
   fun L st σ a => ev_getf ((TP_122 _).trans rfl),
   fun L σ a0 a1 => ev_callv ((TP_122 _).trans rfl) rfl rfl rfl rfl,
   fun l1 l2 st σ x => ev_p ((TP_122 _).trans rfl) rfl,
   fun L st σ a => ev_getf ((TP_122 _).trans rfl),
   fun l0 l2 st σ x => ev_p ((TP_122 _).trans rfl) rfl,
   fun l0 l1 st σ x => ev_p ((TP_122 _).trans rfl) rfl,
   fun L σ a0 a1 a2 => ev_callv ((TP_122 _).trans rfl) rfl rfl rfl rfl,
   fun L σ x => ev_r ((TP_122 _).trans rfl) rfl⟩
theorem TP_123 (pc : Nat) : TT 123 pc = ri_find TL_123 pc := rfl
theorem E_123 (x0 : Nat) (x1 : Int32) (x2 : Int32) (σ : ri_S) : cal 123 [.ref x0, .int x1, .int x2] σ = ev 123 (0, [some (.ref x0), some (.int x1), some (.int x2)], []) σ := rfl
theorem I_123 :
  (∀ (l1 l2 : Option Value) (st : List Value) (σ : ri_S) (x : Nat), ev 123 (0, [some (.ref x), l1, l2], st) σ = ev 123 (1, [some (.ref x), l1, l2], .ref x :: st) σ) ∧
  (∀ (L : ri_L) (st : List Value) (σ : ri_S) (a : Nat), ev 123 (1, L, .ref a :: st) σ = tv_o 8 1 (σ.1 a) fun v => ev 123 (4, L, v :: st) σ) ∧
  (∀ (l0 l2 : Option Value) (st : List Value) (σ : ri_S) (x : Int32), ev 123 (4, [l0, some (.int x), l2], st) σ = ev 123 (5, [l0, some (.int x), l2], .int x :: st) σ) ∧
  (∀ (l0 l1 : Option Value) (st : List Value) (σ : ri_S) (x : Int32), ev 123 (5, [l0, l1, some (.int x)], st) σ = ev 123 (6, [l0, l1, some (.int x)], .int x :: st) σ) ∧
  (∀ (L : ri_L) (σ : ri_S) (a0 : Nat) (a1 : Int32) (a2 : Int32), ev 123 (6, L, [.int a2, .int a1, .ref a0]) σ = tv_k 3 (σ.1 a0) ((cal 28 [.ref a0, .int a1, .int a2] σ).bind fun q => ev 123 (9, L, q.1.toList ++ []) q.2)) ∧
  (∀ (L : ri_L) (σ : ri_S) (a0 : Int32), ev 123 (9, L, [.int a0]) σ = (cal 135 [.int a0] σ).bind fun q => ev 123 (12, L, q.1.toList ++ []) q.2) ∧
  (∀ (l1 l2 : Option Value) (st : List Value) (σ : ri_S) (x : Nat), ev 123 (12, [some (.ref x), l1, l2], st) σ = ev 123 (13, [some (.ref x), l1, l2], .ref x :: st) σ) ∧
  (∀ (L : ri_L) (st : List Value) (σ : ri_S) (a : Nat), ev 123 (13, L, .ref a :: st) σ = tv_o 8 3 (σ.1 a) fun v => ev 123 (16, L, v :: st) σ) ∧
  (∀ (l1 l2 : Option Value) (st : List Value) (σ : ri_S) (x : Nat), ev 123 (16, [some (.ref x), l1, l2], st) σ = ev 123 (17, [some (.ref x), l1, l2], .ref x :: st) σ) ∧
  (∀ (L : ri_L) (st : List Value) (σ : ri_S) (a : Nat), ev 123 (17, L, .ref a :: st) σ = tv_o 8 1 (σ.1 a) fun v => ev 123 (20, L, v :: st) σ) ∧
  (∀ (L : ri_L) (σ : ri_S) (a0 : Nat) (a1 : Nat), ev 123 (20, L, [.ref a1, .ref a0]) σ = tv_k 1 (σ.1 a0) ((cal 11 [.ref a0, .ref a1] σ).bind fun q => ev 123 (23, L, q.1.toList ++ []) q.2)) ∧
  (∀ (l1 l2 : Option Value) (st : List Value) (σ : ri_S) (x : Nat), ev 123 (23, [some (.ref x), l1, l2], st) σ = ev 123 (24, [some (.ref x), l1, l2], .ref x :: st) σ) ∧
  (∀ (L : ri_L) (st : List Value) (σ : ri_S) (a : Nat), ev 123 (24, L, .ref a :: st) σ = tv_o 8 1 (σ.1 a) fun v => ev 123 (27, L, v :: st) σ) ∧
  (∀ (l0 l2 : Option Value) (st : List Value) (σ : ri_S) (x : Int32), ev 123 (27, [l0, some (.int x), l2], st) σ = ev 123 (28, [l0, some (.int x), l2], .int x :: st) σ) ∧
  (∀ (l0 l1 : Option Value) (st : List Value) (σ : ri_S) (x : Int32), ev 123 (28, [l0, l1, some (.int x)], st) σ = ev 123 (29, [l0, l1, some (.int x)], .int x :: st) σ) ∧
  (∀ (L : ri_L) (σ : ri_S) (a0 : Nat) (a1 : Int32) (a2 : Int32), ev 123 (29, L, [.int a2, .int a1, .ref a0]) σ = tv_k 3 (σ.1 a0) ((cal 42 [.ref a0, .int a1, .int a2] σ).bind fun q => ev 123 (32, L, q.1.toList ++ []) q.2)) ∧
  (∀ (L : ri_L) (σ : ri_S) (x : Int32), ev 123 (32, L, [.int x]) σ = some (some (.int x), σ)) :=
  ⟨fun l1 l2 st σ x => ev_p ((TP_123 _).trans rfl) rfl,
   fun L st σ a => ev_getf ((TP_123 _).trans rfl),
   fun l0 l2 st σ x => ev_p ((TP_123 _).trans rfl) rfl,
   fun l0 l1 st σ x => ev_p ((TP_123 _).trans rfl) rfl,
   fun L σ a0 a1 a2 => ev_callv ((TP_123 _).trans rfl) rfl rfl rfl rfl,
   fun L σ a0 => ev_call ((TP_123 _).trans rfl) rfl rfl rfl rfl,
   fun l1 l2 st σ x => ev_p ((TP_123 _).trans rfl) rfl,
   fun L st σ a => ev_getf ((TP_123 _).trans rfl),
   fun l1 l2 st σ x => ev_p ((TP_123 _).trans rfl) rfl,
   fun L st σ a => ev_getf ((TP_123 _).trans rfl),
   fun L σ a0 a1 => ev_callv ((TP_123 _).trans rfl) rfl rfl rfl rfl,
   fun l1 l2 st σ x => ev_p ((TP_123 _).trans rfl) rfl,
   fun L st σ a => ev_getf ((TP_123 _).trans rfl),
   fun l0 l2 st σ x => ev_p ((TP_123 _).trans rfl) rfl,
   fun l0 l1 st σ x => ev_p ((TP_123 _).trans rfl) rfl,
   fun L σ a0 a1 a2 => ev_callv ((TP_123 _).trans rfl) rfl rfl rfl rfl,
   fun L σ x => ev_r ((TP_123 _).trans rfl) rfl⟩
theorem TP_124 (pc : Nat) : TT 124 pc = ri_find TL_124 pc := rfl
theorem E_124 (x0 : Nat) (x1 : Int32) (x2 : Int32) (σ : ri_S) : cal 124 [.ref x0, .int x1, .int x2] σ = ev 124 (0, [some (.ref x0), some (.int x1), some (.int x2)], []) σ := rfl
theorem I_124 :
  (∀ (l1 l2 : Option Value) (st : List Value) (σ : ri_S) (x : Nat), ev 124 (0, [some (.ref x), l1, l2], st) σ = ev 124 (1, [some (.ref x), l1, l2], .ref x :: st) σ) ∧
  (∀ (L : ri_L) (st : List Value) (σ : ri_S) (a : Nat), ev 124 (1, L, .ref a :: st) σ = tv_o 8 1 (σ.1 a) fun v => ev 124 (4, L, v :: st) σ) ∧
  (∀ (l0 l2 : Option Value) (st : List Value) (σ : ri_S) (x : Int32), ev 124 (4, [l0, some (.int x), l2], st) σ = ev 124 (5, [l0, some (.int x), l2], .int x :: st) σ) ∧
  (∀ (l0 l1 : Option Value) (st : List Value) (σ : ri_S) (x : Int32), ev 124 (5, [l0, l1, some (.int x)], st) σ = ev 124 (6, [l0, l1, some (.int x)], .int x :: st) σ) ∧
  (∀ (L : ri_L) (σ : ri_S) (a0 : Nat) (a1 : Int32) (a2 : Int32), ev 124 (6, L, [.int a2, .int a1, .ref a0]) σ = tv_k 3 (σ.1 a0) ((cal 29 [.ref a0, .int a1, .int a2] σ).bind fun q => ev 124 (9, L, q.1.toList ++ []) q.2)) ∧
  (∀ (L : ri_L) (σ : ri_S) (a0 : Int32), ev 124 (9, L, [.int a0]) σ = (cal 135 [.int a0] σ).bind fun q => ev 124 (12, L, q.1.toList ++ []) q.2) ∧
  (∀ (l1 l2 : Option Value) (st : List Value) (σ : ri_S) (x : Nat), ev 124 (12, [some (.ref x), l1, l2], st) σ = ev 124 (13, [some (.ref x), l1, l2], .ref x :: st) σ) ∧
  (∀ (L : ri_L) (st : List Value) (σ : ri_S) (a : Nat), ev 124 (13, L, .ref a :: st) σ = tv_o 8 3 (σ.1 a) fun v => ev 124 (16, L, v :: st) σ) ∧
  (∀ (l1 l2 : Option Value) (st : List Value) (σ : ri_S) (x : Nat), ev 124 (16, [some (.ref x), l1, l2], st) σ = ev 124 (17, [some (.ref x), l1, l2], .ref x :: st) σ) ∧
  (∀ (L : ri_L) (st : List Value) (σ : ri_S) (a : Nat), ev 124 (17, L, .ref a :: st) σ = tv_o 8 1 (σ.1 a) fun v => ev 124 (20, L, v :: st) σ) ∧
  (∀ (L : ri_L) (σ : ri_S) (a0 : Nat) (a1 : Nat), ev 124 (20, L, [.ref a1, .ref a0]) σ = tv_k 1 (σ.1 a0) ((cal 11 [.ref a0, .ref a1] σ).bind fun q => ev 124 (23, L, q.1.toList ++ []) q.2)) ∧
  (∀ (l1 l2 : Option Value) (st : List Value) (σ : ri_S) (x : Nat), ev 124 (23, [some (.ref x), l1, l2], st) σ = ev 124 (24, [some (.ref x), l1, l2], .ref x :: st) σ) ∧
  (∀ (L : ri_L) (st : List Value) (σ : ri_S) (a : Nat), ev 124 (24, L, .ref a :: st) σ = tv_o 8 1 (σ.1 a) fun v => ev 124 (27, L, v :: st) σ) ∧
  (∀ (L : ri_L) (st : List Value) (σ : ri_S) (a : Nat), ev 124 (27, L, .ref a :: st) σ = tv_o 3 0 (σ.1 a) fun v => ev 124 (30, L, v :: st) σ) ∧
  (∀ (l0 l2 : Option Value) (st : List Value) (σ : ri_S) (x : Int32), ev 124 (30, [l0, some (.int x), l2], st) σ = ev 124 (31, [l0, some (.int x), l2], .int x :: st) σ) ∧
  (∀ (l0 l1 : Option Value) (st : List Value) (σ : ri_S) (x : Int32), ev 124 (31, [l0, l1, some (.int x)], st) σ = ev 124 (32, [l0, l1, some (.int x)], .int x :: st) σ) ∧
  (∀ (L : ri_L) (σ : ri_S) (a0 : Nat) (a1 : Int32) (a2 : Int32), ev 124 (32, L, [.int a2, .int a1, .ref a0]) σ = tv_k 7 (σ.1 a0) ((cal 102 [.ref a0, .int a1, .int a2] σ).bind fun q => ev 124 (35, L, q.1.toList ++ []) q.2)) ∧
  (∀ (L : ri_L) (σ : ri_S) (x : Int32), ev 124 (35, L, [.int x]) σ = some (some (.int x), σ)) :=
  ⟨fun l1 l2 st σ x => ev_p ((TP_124 _).trans rfl) rfl,
   fun L st σ a => ev_getf ((TP_124 _).trans rfl),
   fun l0 l2 st σ x => ev_p ((TP_124 _).trans rfl) rfl,
   fun l0 l1 st σ x => ev_p ((TP_124 _).trans rfl) rfl,
   fun L σ a0 a1 a2 => ev_callv ((TP_124 _).trans rfl) rfl rfl rfl rfl,
   fun L σ a0 => ev_call ((TP_124 _).trans rfl) rfl rfl rfl rfl,
   fun l1 l2 st σ x => ev_p ((TP_124 _).trans rfl) rfl,
   fun L st σ a => ev_getf ((TP_124 _).trans rfl),
   fun l1 l2 st σ x => ev_p ((TP_124 _).trans rfl) rfl,
   fun L st σ a => ev_getf ((TP_124 _).trans rfl),
   fun L σ a0 a1 => ev_callv ((TP_124 _).trans rfl) rfl rfl rfl rfl,
   fun l1 l2 st σ x => ev_p ((TP_124 _).trans rfl) rfl,
   fun L st σ a => ev_getf ((TP_124 _).trans rfl),
   fun L st σ a => ev_getf ((TP_124 _).trans rfl),
   fun l0 l2 st σ x => ev_p ((TP_124 _).trans rfl) rfl,
   fun l0 l1 st σ x => ev_p ((TP_124 _).trans rfl) rfl,
   fun L σ a0 a1 a2 => ev_callv ((TP_124 _).trans rfl) rfl rfl rfl rfl,
   fun L σ x => ev_r ((TP_124 _).trans rfl) rfl⟩
theorem TP_125 (pc : Nat) : TT 125 pc = ri_find TL_125 pc := rfl
theorem E_125 (x0 : Nat) (x1 : Int32) (σ : ri_S) : cal 125 [.ref x0, .int x1] σ = ev 125 (0, [some (.ref x0), some (.int x1), none], []) σ := rfl
theorem I_125 :
  (∀ (l0 l2 : Option Value) (st : List Value) (σ : ri_S) (x : Int32), ev 125 (0, [l0, some (.int x), l2], st) σ = ev 125 (1, [l0, some (.int x), l2], .int x :: st) σ) ∧
  (∀ (L : ri_L) (st : List Value) (σ : ri_S), ev 125 (1, L, st) σ = ev 125 (2, L, .int 0 :: st) σ) ∧
  (∀ (L : ri_L) (st : List Value) (σ : ri_S), ev 125 (2, L, st) σ = ev 125 (3, L, .int 1 :: st) σ) ∧
  (∀ (L : ri_L) (σ : ri_S) (a0 : Int32) (a1 : Int32) (a2 : Int32), ev 125 (3, L, [.int a2, .int a1, .int a0]) σ = (cal 137 [.int a0, .int a1, .int a2] σ).bind fun q => ev 125 (6, L, q.1.toList ++ []) q.2) ∧
  (∀ (L : ri_L) (st : List Value) (σ : ri_S) (x : Int32), ev 125 (6, L, .int x :: st) σ = if x = 0 then ev 125 (13, L, st) σ else ev 125 (9, L, st) σ) ∧
  (∀ (L : ri_L) (st : List Value) (σ : ri_S), ev 125 (9, L, st) σ = ev 125 (10, L, .int 0 :: st) σ) ∧
  (∀ (L : ri_L) (st : List Value) (σ : ri_S), ev 125 (10, L, st) σ = ev 125 (14, L, st) σ) ∧
  (∀ (L : ri_L) (st : List Value) (σ : ri_S), ev 125 (13, L, st) σ = ev 125 (14, L, .int 2 :: st) σ) ∧
  (∀ (L : ri_L) (σ : ri_S) (a0 : Int32), ev 125 (14, L, [.int a0]) σ = (cal 135 [.int a0] σ).bind fun q => ev 125 (17, L, q.1.toList ++ []) q.2) ∧
  (∀ (l1 l2 : Option Value) (st : List Value) (σ : ri_S) (x : Nat), ev 125 (17, [some (.ref x), l1, l2], st) σ = ev 125 (18, [some (.ref x), l1, l2], .ref x :: st) σ) ∧
  (∀ (L : ri_L) (st : List Value) (σ : ri_S) (a : Nat), ev 125 (18, L, .ref a :: st) σ = tv_o 8 3 (σ.1 a) fun v => ev 125 (21, L, v :: st) σ) ∧
  (∀ (l1 l2 : Option Value) (st : List Value) (σ : ri_S) (x : Nat), ev 125 (21, [some (.ref x), l1, l2], st) σ = ev 125 (22, [some (.ref x), l1, l2], .ref x :: st) σ) ∧
  (∀ (L : ri_L) (st : List Value) (σ : ri_S) (a : Nat), ev 125 (22, L, .ref a :: st) σ = tv_o 8 1 (σ.1 a) fun v => ev 125 (25, L, v :: st) σ) ∧
  (∀ (L : ri_L) (σ : ri_S) (a0 : Nat) (a1 : Nat), ev 125 (25, L, [.ref a1, .ref a0]) σ = tv_k 1 (σ.1 a0) ((cal 11 [.ref a0, .ref a1] σ).bind fun q => ev 125 (28, L, q.1.toList ++ []) q.2)) ∧
  (∀ (l1 l2 : Option Value) (st : List Value) (σ : ri_S) (x : Nat), ev 125 (28, [some (.ref x), l1, l2], st) σ = ev 125 (29, [some (.ref x), l1, l2], .ref x :: st) σ) ∧
  (∀ (L : ri_L) (st : List Value) (σ : ri_S) (a : Nat), ev 125 (29, L, .ref a :: st) σ = tv_o 8 1 (σ.1 a) fun v => ev 125 (32, L, v :: st) σ) ∧
  (∀ (L : ri_L) (st : List Value) (σ : ri_S) (a : Nat), ev 125 (32, L, .ref a :: st) σ = tv_o 3 8 (σ.1 a) fun v => ev 125 (35, L, v :: st) σ) ∧
  (∀ (l0 l1 l2 : Option Value) (st : List Value) (σ : ri_S) (x : Int32), ev 125 (35, [l0, l1, l2], .int x :: st) σ = ev 125 (36, [l0, ri_clr l1, some (.int x)], st) σ) ∧
  (∀ (l1 l2 : Option Value) (st : List Value) (σ : ri_S) (x : Nat), ev 125 (36, [some (.ref x), l1, l2], st) σ = ev 125 (37, [some (.ref x), l1, l2], .ref x :: st) σ) ∧
  (∀ (L : ri_L) (st : List Value) (σ : ri_S) (a : Nat), ev 125 (37, L, .ref a :: st) σ = tv_o 8 1 (σ.1 a) fun v => ev 125 (40, L, v :: st) σ) ∧
  (∀ (l0 l2 : Option Value) (st : List Value) (σ : ri_S) (x : Int32), ev 125 (40, [l0, some (.int x), l2], st) σ = ev 125 (41, [l0, some (.int x), l2], .int x :: st) σ) ∧
  (∀ (L : ri_L) (st : List Value) (σ : ri_S) (a : Nat) (x : Int32), ev 125 (41, L, .int x :: .ref a :: st) σ = tv_w 3 8 (σ.1 a) (.int x) fun fs => ev 125 (44, L, st) (ri_upd σ.1 a (.inr (.inr (3, fs))), σ.2)) ∧
  (∀ (l0 l1 : Option Value) (st : List Value) (σ : ri_S) (x : Int32), ev 125 (44, [l0, l1, some (.int x)], st) σ = ev 125 (45, [l0, l1, some (.int x)], .int x :: st) σ) ∧
  (∀ (L : ri_L) (σ : ri_S) (x : Int32), ev 125 (45, L, [.int x]) σ = some (some (.int x), σ)) :=
  ⟨fun l0 l2 st σ x => ev_p ((TP_125 _).trans rfl) rfl,
   fun L st σ => ev_p ((TP_125 _).trans rfl) rfl,
   fun L st σ => ev_p ((TP_125 _).trans rfl) rfl,
   fun L σ a0 a1 a2 => ev_call ((TP_125 _).trans rfl) rfl rfl rfl rfl,
   fun L st σ x => ev_b ((TP_125 _).trans rfl) rfl,
   fun L st σ => ev_p ((TP_125 _).trans rfl) rfl,
   fun L st σ => ev_p ((TP_125 _).trans rfl) rfl,
   fun L st σ => ev_p ((TP_125 _).trans rfl) rfl,
   fun L σ a0 => ev_call ((TP_125 _).trans rfl) rfl rfl rfl rfl,
   fun l1 l2 st σ x => ev_p ((TP_125 _).trans rfl) rfl,
   fun L st σ a => ev_getf ((TP_125 _).trans rfl),
   fun l1 l2 st σ x => ev_p ((TP_125 _).trans rfl) rfl,
   fun L st σ a => ev_getf ((TP_125 _).trans rfl),
   fun L σ a0 a1 => ev_callv ((TP_125 _).trans rfl) rfl rfl rfl rfl,
   fun l1 l2 st σ x => ev_p ((TP_125 _).trans rfl) rfl,
   fun L st σ a => ev_getf ((TP_125 _).trans rfl),
   fun L st σ a => ev_getf ((TP_125 _).trans rfl),
   fun l0 l1 l2 st σ x => ev_p ((TP_125 _).trans rfl) rfl,
   fun l1 l2 st σ x => ev_p ((TP_125 _).trans rfl) rfl,
   fun L st σ a => ev_getf ((TP_125 _).trans rfl),
   fun l0 l2 st σ x => ev_p ((TP_125 _).trans rfl) rfl,
   fun L st σ a x => ev_puti ((TP_125 _).trans rfl),
   fun l0 l1 st σ x => ev_p ((TP_125 _).trans rfl) rfl,
   fun L σ x => ev_r ((TP_125 _).trans rfl) rfl⟩
theorem TP_126 (pc : Nat) : TT 126 pc = ri_find TL_126 pc := rfl
theorem E_126 (x0 : Nat) (σ : ri_S) : cal 126 [.ref x0] σ = ev 126 (0, [some (.ref x0)], []) σ := rfl
theorem I_126 :
  (∀ (st : List Value) (σ : ri_S) (x : Nat), ev 126 (0, [some (.ref x)], st) σ = ev 126 (1, [some (.ref x)], .ref x :: st) σ) ∧
  (∀ (L : ri_L) (st : List Value) (σ : ri_S) (a : Nat), ev 126 (1, L, .ref a :: st) σ = tv_o 8 3 (σ.1 a) fun v => ev 126 (4, L, v :: st) σ) ∧
  (∀ (L : ri_L) (σ : ri_S) (a0 : Nat), ev 126 (4, L, [.ref a0]) σ = tv_k 1 (σ.1 a0) ((cal 8 [.ref a0] σ).bind fun q => ev 126 (7, L, q.1.toList ++ []) q.2)) ∧
  (∀ (L : ri_L) (st : List Value) (σ : ri_S) (x : Int32), ev 126 (7, L, .int x :: st) σ = if x = 0 then ev 126 (14, L, st) σ else ev 126 (10, L, st) σ) ∧
  (∀ (L : ri_L) (st : List Value) (σ : ri_S), ev 126 (10, L, st) σ = ev 126 (11, L, .int 3 :: st) σ) ∧
  (∀ (L : ri_L) (st : List Value) (σ : ri_S), ev 126 (11, L, st) σ = ev 126 (15, L, st) σ) ∧
  (∀ (L : ri_L) (st : List Value) (σ : ri_S), ev 126 (14, L, st) σ = ev 126 (15, L, .int 0 :: st) σ) ∧
  (∀ (L : ri_L) (σ : ri_S) (a0 : Int32), ev 126 (15, L, [.int a0]) σ = (cal 135 [.int a0] σ).bind fun q => ev 126 (18, L, q.1.toList ++ []) q.2) ∧
  (∀ (st : List Value) (σ : ri_S) (x : Nat), ev 126 (18, [some (.ref x)], st) σ = ev 126 (19, [some (.ref x)], .ref x :: st) σ) ∧
  (∀ (L : ri_L) (st : List Value) (σ : ri_S) (a : Nat), ev 126 (19, L, .ref a :: st) σ = tv_o 8 3 (σ.1 a) fun v => ev 126 (22, L, v :: st) σ) ∧
  (∀ (st : List Value) (σ : ri_S) (x : Nat), ev 126 (22, [some (.ref x)], st) σ = ev 126 (23, [some (.ref x)], .ref x :: st) σ) ∧
  (∀ (L : ri_L) (st : List Value) (σ : ri_S) (a : Nat), ev 126 (23, L, .ref a :: st) σ = tv_o 8 1 (σ.1 a) fun v => ev 126 (26, L, v :: st) σ) ∧
  (∀ (L : ri_L) (σ : ri_S) (a0 : Nat) (a1 : Nat), ev 126 (26, L, [.ref a1, .ref a0]) σ = tv_k 1 (σ.1 a0) ((cal 12 [.ref a0, .ref a1] σ).bind fun q => ev 126 (29, L, q.1.toList ++ []) q.2)) ∧
  (∀ (L : ri_L) (σ : ri_S) (x : Int32), ev 126 (29, L, [.int x]) σ = some (some (.int x), σ)) :=
  ⟨fun st σ x => ev_p ((TP_126 _).trans rfl) rfl,
   fun L st σ a => ev_getf ((TP_126 _).trans rfl),
   fun L σ a0 => ev_callv ((TP_126 _).trans rfl) rfl rfl rfl rfl,
   fun L st σ x => ev_b ((TP_126 _).trans rfl) rfl,
   fun L st σ => ev_p ((TP_126 _).trans rfl) rfl,
   fun L st σ => ev_p ((TP_126 _).trans rfl) rfl,
   fun L st σ => ev_p ((TP_126 _).trans rfl) rfl,
   fun L σ a0 => ev_call ((TP_126 _).trans rfl) rfl rfl rfl rfl,
   fun st σ x => ev_p ((TP_126 _).trans rfl) rfl,
   fun L st σ a => ev_getf ((TP_126 _).trans rfl),
   fun st σ x => ev_p ((TP_126 _).trans rfl) rfl,
   fun L st σ a => ev_getf ((TP_126 _).trans rfl),
   fun L σ a0 a1 => ev_callv ((TP_126 _).trans rfl) rfl rfl rfl rfl,
   fun L σ x => ev_r ((TP_126 _).trans rfl) rfl⟩
theorem TP_127 (pc : Nat) : TT 127 pc = ri_find TL_127 pc := rfl
theorem E_127 (x0 : Nat) (x1 : Int32) (x2 : Int32) (σ : ri_S) : cal 127 [.ref x0, .int x1, .int x2] σ = ev 127 (0, [some (.ref x0), some (.int x1), some (.int x2)], []) σ := rfl
theorem I_127 :
  (∀ (l1 l2 : Option Value) (st : List Value) (σ : ri_S) (x : Nat), ev 127 (0, [some (.ref x), l1, l2], st) σ = ev 127 (1, [some (.ref x), l1, l2], .ref x :: st) σ) ∧
  (∀ (L : ri_L) (st : List Value) (σ : ri_S) (a : Nat), ev 127 (1, L, .ref a :: st) σ = tv_o 8 1 (σ.1 a) fun v => ev 127 (4, L, v :: st) σ) ∧
  (∀ (l0 l2 : Option Value) (st : List Value) (σ : ri_S) (x : Int32), ev 127 (4, [l0, some (.int x), l2], st) σ = ev 127 (5, [l0, some (.int x), l2], .int x :: st) σ) ∧
  (∀ (l0 l1 : Option Value) (st : List Value) (σ : ri_S) (x : Int32), ev 127 (5, [l0, l1, some (.int x)], st) σ = ev 127 (6, [l0, l1, some (.int x)], .int x :: st) σ) ∧
  (∀ (L : ri_L) (σ : ri_S) (a0 : Nat) (a1 : Int32) (a2 : Int32), ev 127 (6, L, [.int a2, .int a1, .ref a0]) σ = tv_k 3 (σ.1 a0) ((cal 27 [.ref a0, .int a1, .int a2] σ).bind fun q => ev 127 (9, L, q.1.toList ++ []) q.2)) ∧
  (∀ (L : ri_L) (σ : ri_S) (a0 : Int32), ev 127 (9, L, [.int a0]) σ = (cal 135 [.int a0] σ).bind fun q => ev 127 (12, L, q.1.toList ++ []) q.2) ∧
  (∀ (l1 l2 : Option Value) (st : List Value) (σ : ri_S) (x : Nat), ev 127 (12, [some (.ref x), l1, l2], st) σ = ev 127 (13, [some (.ref x), l1, l2], .ref x :: st) σ) ∧
  (∀ (L : ri_L) (st : List Value) (σ : ri_S) (a : Nat), ev 127 (13, L, .ref a :: st) σ = tv_o 8 1 (σ.1 a) fun v => ev 127 (16, L, v :: st) σ) ∧
  (∀ (l0 l2 : Option Value) (st : List Value) (σ : ri_S) (x : Int32), ev 127 (16, [l0, some (.int x), l2], st) σ = ev 127 (17, [l0, some (.int x), l2], .int x :: st) σ) ∧
  (∀ (l0 l1 : Option Value) (st : List Value) (σ : ri_S) (x : Int32), ev 127 (17, [l0, l1, some (.int x)], st) σ = ev 127 (18, [l0, l1, some (.int x)], .int x :: st) σ) ∧
  (∀ (L : ri_L) (σ : ri_S) (a0 : Nat) (a1 : Int32) (a2 : Int32), ev 127 (18, L, [.int a2, .int a1, .ref a0]) σ = tv_k 3 (σ.1 a0) ((cal 40 [.ref a0, .int a1, .int a2] σ).bind fun q => ev 127 (21, L, q.1.toList ++ []) q.2)) ∧
  (∀ (L : ri_L) (σ : ri_S) (x : Int32), ev 127 (21, L, [.int x]) σ = some (some (.int x), σ)) :=
  ⟨fun l1 l2 st σ x => ev_p ((TP_127 _).trans rfl) rfl,
   fun L st σ a => ev_getf ((TP_127 _).trans rfl),
   fun l0 l2 st σ x => ev_p ((TP_127 _).trans rfl) rfl,
   fun l0 l1 st σ x => ev_p ((TP_127 _).trans rfl) rfl,
   fun L σ a0 a1 a2 => ev_callv ((TP_127 _).trans rfl) rfl rfl rfl rfl,
   fun L σ a0 => ev_call ((TP_127 _).trans rfl) rfl rfl rfl rfl,
   fun l1 l2 st σ x => ev_p ((TP_127 _).trans rfl) rfl,
   fun L st σ a => ev_getf ((TP_127 _).trans rfl),
   fun l0 l2 st σ x => ev_p ((TP_127 _).trans rfl) rfl,
   fun l0 l1 st σ x => ev_p ((TP_127 _).trans rfl) rfl,
   fun L σ a0 a1 a2 => ev_callv ((TP_127 _).trans rfl) rfl rfl rfl rfl,
   fun L σ x => ev_r ((TP_127 _).trans rfl) rfl⟩
theorem TP_128 (pc : Nat) : TT 128 pc = ri_find TL_128 pc := rfl
theorem E_128 (x0 : Nat) (x1 : Int32) (x2 : Int32) (x3 : Int32) (x4 : Int32) (σ : ri_S) : cal 128 [.ref x0, .int x1, .int x2, .int x3, .int x4] σ = ev 128 (0, [some (.ref x0), some (.int x1), some (.int x2), some (.int x3), some (.int x4)], []) σ := rfl
theorem I_128_0 :
  (∀ (l1 l2 l3 l4 : Option Value) (st : List Value) (σ : ri_S) (x : Nat), ev 128 (0, [some (.ref x), l1, l2, l3, l4], st) σ = ev 128 (1, [some (.ref x), l1, l2, l3, l4], .ref x :: st) σ) ∧
  (∀ (L : ri_L) (st : List Value) (σ : ri_S) (a : Nat), ev 128 (1, L, .ref a :: st) σ = tv_o 8 1 (σ.1 a) fun v => ev 128 (4, L, v :: st) σ) ∧
  (∀ (L : ri_L) (st : List Value) (σ : ri_S) (a : Nat), ev 128 (4, L, .ref a :: st) σ = tv_o 3 2 (σ.1 a) fun v => ev 128 (7, L, v :: st) σ) ∧
  (∀ (l0 l2 l3 l4 : Option Value) (st : List Value) (σ : ri_S) (x : Int32), ev 128 (7, [l0, some (.int x), l2, l3, l4], st) σ = ev 128 (8, [l0, some (.int x), l2, l3, l4], .int x :: st) σ) ∧
  (∀ (L : ri_L) (σ : ri_S) (a0 : Nat) (a1 : Int32), ev 128 (8, L, [.int a1, .ref a0]) σ = tv_k 0 (σ.1 a0) ((cal 1 [.ref a0, .int a1] σ).bind fun q => ev 128 (11, L, q.1.toList ++ []) q.2)) ∧
  (∀ (L : ri_L) (st : List Value) (σ : ri_S) (x : Int32), ev 128 (11, L, .int x :: st) σ = if x = 0 then ev 128 (38, L, st) σ else ev 128 (14, L, st) σ) ∧
  (∀ (l1 l2 l3 l4 : Option Value) (st : List Value) (σ : ri_S) (x : Nat), ev 128 (14, [some (.ref x), l1, l2, l3, l4], st) σ = ev 128 (15, [some (.ref x), l1, l2, l3, l4], .ref x :: st) σ) ∧
  (∀ (L : ri_L) (st : List Value) (σ : ri_S) (a : Nat), ev 128 (15, L, .ref a :: st) σ = tv_o 8 1 (σ.1 a) fun v => ev 128 (18, L, v :: st) σ) ∧
  (∀ (L : ri_L) (st : List Value) (σ : ri_S) (a : Nat), ev 128 (18, L, .ref a :: st) σ = tv_o 3 0 (σ.1 a) fun v => ev 128 (21, L, v :: st) σ) ∧
  (∀ (l0 l1 l3 l4 : Option Value) (st : List Value) (σ : ri_S) (x : Int32), ev 128 (21, [l0, l1, some (.int x), l3, l4], st) σ = ev 128 (22, [l0, l1, some (.int x), l3, l4], .int x :: st) σ) ∧
  (∀ (l0 l1 l2 l4 : Option Value) (st : List Value) (σ : ri_S) (x : Int32), ev 128 (22, [l0, l1, l2, some (.int x), l4], st) σ = ev 128 (23, [l0, l1, l2, some (.int x), l4], .int x :: st) σ) ∧
  (∀ (L : ri_L) (σ : ri_S) (a0 : Nat) (a1 : Int32) (a2 : Int32), ev 128 (23, L, [.int a2, .int a1, .ref a0]) σ = tv_k 7 (σ.1 a0) ((cal 98 [.ref a0, .int a1, .int a2] σ).bind fun q => ev 128 (26, L, q.1.toList ++ []) q.2)) ∧
  (∀ (L : ri_L) (st : List Value) (σ : ri_S) (x : Int32), ev 128 (26, L, .int x :: st) σ = if x = 0 then ev 128 (38, L, st) σ else ev 128 (29, L, st) σ) ∧
  (∀ (l0 l1 l2 l3 : Option Value) (st : List Value) (σ : ri_S) (x : Int32), ev 128 (29, [l0, l1, l2, l3, some (.int x)], st) σ = ev 128 (31, [l0, l1, l2, l3, some (.int x)], .int x :: st) σ) ∧
  (∀ (L : ri_L) (st : List Value) (σ : ri_S), ev 128 (31, L, st) σ = ev 128 (32, L, .int 1 :: st) σ) ∧
  (∀ (L : ri_L) (σ : ri_S) (a0 : Int32) (a1 : Int32), ev 128 (32, L, [.int a1, .int a0]) σ = (cal 136 [.int a0, .int a1] σ).bind fun q => ev 128 (35, L, q.1.toList ++ []) q.2) ∧
  (∀ (L : ri_L) (st : List Value) (σ : ri_S), ev 128 (35, L, st) σ = ev 128 (39, L, st) σ) ∧
  (∀ (L : ri_L) (st : List Value) (σ : ri_S), ev 128 (38, L, st) σ = ev 128 (39, L, .int 1 :: st) σ) ∧
  (∀ (L : ri_L) (σ : ri_S) (a0 : Int32), ev 128 (39, L, [.int a0]) σ = (cal 135 [.int a0] σ).bind fun q => ev 128 (42, L, q.1.toList ++ []) q.2) ∧
  (∀ (l1 l2 l3 l4 : Option Value) (st : List Value) (σ : ri_S) (x : Nat), ev 128 (42, [some (.ref x), l1, l2, l3, l4], st) σ = ev 128 (43, [some (.ref x), l1, l2, l3, l4], .ref x :: st) σ) ∧
  (∀ (L : ri_L) (st : List Value) (σ : ri_S) (a : Nat), ev 128 (43, L, .ref a :: st) σ = tv_o 8 5 (σ.1 a) fun v => ev 128 (46, L, v :: st) σ) ∧
  (∀ (l1 l2 l3 l4 : Option Value) (st : List Value) (σ : ri_S) (x : Nat), ev 128 (46, [some (.ref x), l1, l2, l3, l4], st) σ = ev 128 (47, [some (.ref x), l1, l2, l3, l4], .ref x :: st) σ) ∧
  (∀ (L : ri_L) (st : List Value) (σ : ri_S) (a : Nat), ev 128 (47, L, .ref a :: st) σ = tv_o 8 1 (σ.1 a) fun v => ev 128 (50, L, v :: st) σ) ∧
  (∀ (l0 l2 l3 l4 : Option Value) (st : List Value) (σ : ri_S) (x : Int32), ev 128 (50, [l0, some (.int x), l2, l3, l4], st) σ = ev 128 (51, [l0, some (.int x), l2, l3, l4], .int x :: st) σ) ∧
  (∀ (L : ri_L) (σ : ri_S) (a0 : Nat) (a1 : Nat) (a2 : Int32), ev 128 (51, L, [.int a2, .ref a1, .ref a0]) σ = tv_k 4 (σ.1 a0) ((cal 57 [.ref a0, .ref a1, .int a2] σ).bind fun q => ev 128 (54, L, q.1.toList ++ []) q.2)) ∧
  (∀ (l0 l1 l2 l3 : Option Value) (st : List Value) (σ : ri_S) (x : Int32), ev 128 (54, [l0, l1, l2, l3, some (.int x)], st) σ = ev 128 (56, [l0, l1, l2, l3, some (.int x)], .int x :: st) σ) ∧
  (∀ (L : ri_L) (st : List Value) (σ : ri_S) (x : Int32), ev 128 (56, L, .int x :: st) σ = if ¬ x = 0 then ev 128 (74, L, st) σ else ev 128 (59, L, st) σ) ∧
  (∀ (l1 l2 l3 l4 : Option Value) (st : List Value) (σ : ri_S) (x : Nat), ev 128 (59, [some (.ref x), l1, l2, l3, l4], st) σ = ev 128 (60, [some (.ref x), l1, l2, l3, l4], .ref x :: st) σ) ∧
  (∀ (L : ri_L) (st : List Value) (σ : ri_S) (a : Nat), ev 128 (60, L, .ref a :: st) σ = tv_o 8 5 (σ.1 a) fun v => ev 128 (63, L, v :: st) σ) ∧
  (∀ (l0 l1 l3 l4 : Option Value) (st : List Value) (σ : ri_S) (x : Int32), ev 128 (63, [l0, l1, some (.int x), l3, l4], st) σ = ev 128 (64, [l0, l1, some (.int x), l3, l4], .int x :: st) σ) ∧
  (∀ (l0 l1 l2 l4 : Option Value) (st : List Value) (σ : ri_S) (x : Int32), ev 128 (64, [l0, l1, l2, some (.int x), l4], st) σ = ev 128 (65, [l0, l1, l2, some (.int x), l4], .int x :: st) σ) ∧
  (∀ (L : ri_L) (σ : ri_S) (a0 : Int32) (a1 : Int32) (s0 : Value), ev 128 (65, L, [.int a1, .int a0, s0]) σ = (cal 138 [.int a0, .int a1] σ).bind fun q => ev 128 (68, L, q.1.toList ++ [s0]) q.2) ∧
  (∀ (L : ri_L) (σ : ri_S) (a0 : Nat) (a1 : Int32), ev 128 (68, L, [.int a1, .ref a0]) σ = tv_k 4 (σ.1 a0) ((cal 67 [.ref a0, .int a1] σ).bind fun q => ev 128 (71, L, q.1.toList ++ []) q.2)) ∧
  (∀ (L : ri_L) (st : List Value) (σ : ri_S), ev 128 (71, L, st) σ = ev 128 (86, L, st) σ) ∧
  (∀ (l1 l2 l3 l4 : Option Value) (st : List Value) (σ : ri_S) (x : Nat), ev 128 (74, [some (.ref x), l1, l2, l3, l4], st) σ = ev 128 (75, [some (.ref x), l1, l2, l3, l4], .ref x :: st) σ) ∧
  (∀ (L : ri_L) (st : List Value) (σ : ri_S) (a : Nat), ev 128 (75, L, .ref a :: st) σ = tv_o 8 5 (σ.1 a) fun v => ev 128 (78, L, v :: st) σ) ∧
  (∀ (l0 l1 l3 l4 : Option Value) (st : List Value) (σ : ri_S) (x : Int32), ev 128 (78, [l0, l1, some (.int x), l3, l4], st) σ = ev 128 (79, [l0, l1, some (.int x), l3, l4], .int x :: st) σ) ∧
  (∀ (l0 l1 l2 l4 : Option Value) (st : List Value) (σ : ri_S) (x : Int32), ev 128 (79, [l0, l1, l2, some (.int x), l4], st) σ = ev 128 (80, [l0, l1, l2, some (.int x), l4], .int x :: st) σ) ∧
  (∀ (L : ri_L) (σ : ri_S) (a0 : Int32) (a1 : Int32) (s0 : Value), ev 128 (80, L, [.int a1, .int a0, s0]) σ = (cal 138 [.int a0, .int a1] σ).bind fun q => ev 128 (83, L, q.1.toList ++ [s0]) q.2) ∧
  (∀ (L : ri_L) (σ : ri_S) (a0 : Nat) (a1 : Int32), ev 128 (83, L, [.int a1, .ref a0]) σ = tv_k 4 (σ.1 a0) ((cal 69 [.ref a0, .int a1] σ).bind fun q => ev 128 (86, L, q.1.toList ++ []) q.2)) :=
  ⟨fun l1 l2 l3 l4 st σ x => ev_p ((TP_128 _).trans rfl) rfl,
   fun L st σ a => ev_getf ((TP_128 _).trans rfl),
   fun L st σ a => ev_getf ((TP_128 _).trans rfl),
   fun l0 l2 l3 l4 st σ x => ev_p ((TP_128 _).trans rfl) rfl,
   fun L σ a0 a1 => ev_callv ((TP_128 _).trans rfl) rfl rfl rfl rfl,
   fun L st σ x => ev_b ((TP_128 _).trans rfl) rfl,
   fun l1 l2 l3 l4 st σ x => ev_p ((TP_128 _).trans rfl) rfl,
   fun L st σ a => ev_getf ((TP_128 _).trans rfl),
   fun L st σ a => ev_getf ((TP_128 _).trans rfl),
   fun l0 l1 l3 l4 st σ x => ev_p ((TP_128 _).trans rfl) rfl,
   fun l0 l1 l2 l4 st σ x => ev_p ((TP_128 _).trans rfl) rfl,
   fun L σ a0 a1 a2 => ev_callv ((TP_128 _).trans rfl) rfl rfl rfl rfl,
   fun L st σ x => ev_b ((TP_128 _).trans rfl) rfl,
   fun l0 l1 l2 l3 st σ x => ev_p ((TP_128 _).trans rfl) rfl,
   fun L st σ => ev_p ((TP_128 _).trans rfl) rfl,
   fun L σ a0 a1 => ev_call ((TP_128 _).trans rfl) rfl rfl rfl rfl,
   fun L st σ => ev_p ((TP_128 _).trans rfl) rfl,
   fun L st σ => ev_p ((TP_128 _).trans rfl) rfl,
   fun L σ a0 => ev_call ((TP_128 _).trans rfl) rfl rfl rfl rfl,
   fun l1 l2 l3 l4 st σ x => ev_p ((TP_128 _).trans rfl) rfl,
   fun L st σ a => ev_getf ((TP_128 _).trans rfl),
   fun l1 l2 l3 l4 st σ x => ev_p ((TP_128 _).trans rfl) rfl,
   fun L st σ a => ev_getf ((TP_128 _).trans rfl),
   fun l0 l2 l3 l4 st σ x => ev_p ((TP_128 _).trans rfl) rfl,
   fun L σ a0 a1 a2 => ev_callv ((TP_128 _).trans rfl) rfl rfl rfl rfl,
   fun l0 l1 l2 l3 st σ x => ev_p ((TP_128 _).trans rfl) rfl,
   fun L st σ x => ev_b ((TP_128 _).trans rfl) rfl,
   fun l1 l2 l3 l4 st σ x => ev_p ((TP_128 _).trans rfl) rfl,
   fun L st σ a => ev_getf ((TP_128 _).trans rfl),
   fun l0 l1 l3 l4 st σ x => ev_p ((TP_128 _).trans rfl) rfl,
   fun l0 l1 l2 l4 st σ x => ev_p ((TP_128 _).trans rfl) rfl,
   fun L σ a0 a1 s0 => ev_call ((TP_128 _).trans rfl) rfl rfl rfl rfl,
   fun L σ a0 a1 => ev_callv ((TP_128 _).trans rfl) rfl rfl rfl rfl,
   fun L st σ => ev_p ((TP_128 _).trans rfl) rfl,
   fun l1 l2 l3 l4 st σ x => ev_p ((TP_128 _).trans rfl) rfl,
   fun L st σ a => ev_getf ((TP_128 _).trans rfl),
   fun l0 l1 l3 l4 st σ x => ev_p ((TP_128 _).trans rfl) rfl,
   fun l0 l1 l2 l4 st σ x => ev_p ((TP_128 _).trans rfl) rfl,
   fun L σ a0 a1 s0 => ev_call ((TP_128 _).trans rfl) rfl rfl rfl rfl,
   fun L σ a0 a1 => ev_callv ((TP_128 _).trans rfl) rfl rfl rfl rfl⟩
theorem I_128_1 : ∀ (L : ri_L) (σ : ri_S) (x : Int32), ev 128 (86, L, [.int x]) σ = some (some (.int x), σ) := fun L σ x => ev_r ((TP_128 _).trans rfl) rfl
theorem TP_129 (pc : Nat) : TT 129 pc = ri_find TL_129 pc := rfl
theorem E_129 (x0 : Nat) (x1 : Int32) (x2 : Int32) (σ : ri_S) : cal 129 [.ref x0, .int x1, .int x2] σ = ev 129 (0, [some (.ref x0), some (.int x1), some (.int x2)], []) σ := rfl
theorem I_129 :
  (∀ (l1 l2 : Option Value) (st : List Value) (σ : ri_S) (x : Nat), ev 129 (0, [some (.ref x), l1, l2], st) σ = ev 129 (1, [some (.ref x), l1, l2], .ref x :: st) σ) ∧
  (∀ (L : ri_L) (st : List Value) (σ : ri_S) (a : Nat), ev 129 (1, L, .ref a :: st) σ = tv_o 8 1 (σ.1 a) fun v => ev 129 (4, L, v :: st) σ) ∧
  (∀ (L : ri_L) (st : List Value) (σ : ri_S) (a : Nat), ev 129 (4, L, .ref a :: st) σ = tv_o 3 2 (σ.1 a) fun v => ev 129 (7, L, v :: st) σ) ∧
  (∀ (l0 l2 : Option Value) (st : List Value) (σ : ri_S) (x : Int32), ev 129 (7, [l0, some (.int x), l2], st) σ = ev 129 (8, [l0, some (.int x), l2], .int x :: st) σ) ∧
  (∀ (L : ri_L) (σ : ri_S) (a0 : Nat) (a1 : Int32), ev 129 (8, L, [.int a1, .ref a0]) σ = tv_k 0 (σ.1 a0) ((cal 1 [.ref a0, .int a1] σ).bind fun q => ev 129 (11, L, q.1.toList ++ []) q.2)) ∧
  (∀ (L : ri_L) (st : List Value) (σ : ri_S) (x : Int32), ev 129 (11, L, .int x :: st) σ = if x = 0 then ev 129 (32, L, st) σ else ev 129 (14, L, st) σ) ∧
  (∀ (l1 l2 : Option Value) (st : List Value) (σ : ri_S) (x : Nat), ev 129 (14, [some (.ref x), l1, l2], st) σ = ev 129 (15, [some (.ref x), l1, l2], .ref x :: st) σ) ∧
  (∀ (L : ri_L) (st : List Value) (σ : ri_S) (a : Nat), ev 129 (15, L, .ref a :: st) σ = tv_o 8 1 (σ.1 a) fun v => ev 129 (18, L, v :: st) σ) ∧
  (∀ (L : ri_L) (st : List Value) (σ : ri_S) (a : Nat), ev 129 (18, L, .ref a :: st) σ = tv_o 3 0 (σ.1 a) fun v => ev 129 (21, L, v :: st) σ) ∧
  (∀ (l0 l1 : Option Value) (st : List Value) (σ : ri_S) (x : Int32), ev 129 (21, [l0, l1, some (.int x)], st) σ = ev 129 (22, [l0, l1, some (.int x)], .int x :: st) σ) ∧
  (∀ (L : ri_L) (σ : ri_S) (a0 : Nat) (a1 : Int32), ev 129 (22, L, [.int a1, .ref a0]) σ = tv_k 7 (σ.1 a0) ((cal 97 [.ref a0, .int a1] σ).bind fun q => ev 129 (25, L, q.1.toList ++ []) q.2)) ∧
  (∀ (L : ri_L) (st : List Value) (σ : ri_S) (x : Int32), ev 129 (25, L, .int x :: st) σ = if x = 0 then ev 129 (32, L, st) σ else ev 129 (28, L, st) σ) ∧
  (∀ (L : ri_L) (st : List Value) (σ : ri_S), ev 129 (28, L, st) σ = ev 129 (29, L, .int 0 :: st) σ) ∧
  (∀ (L : ri_L) (st : List Value) (σ : ri_S), ev 129 (29, L, st) σ = ev 129 (33, L, st) σ) ∧
  (∀ (L : ri_L) (st : List Value) (σ : ri_S), ev 129 (32, L, st) σ = ev 129 (33, L, .int 1 :: st) σ) ∧
  (∀ (L : ri_L) (σ : ri_S) (a0 : Int32), ev 129 (33, L, [.int a0]) σ = (cal 135 [.int a0] σ).bind fun q => ev 129 (36, L, q.1.toList ++ []) q.2) ∧
  (∀ (l1 l2 : Option Value) (st : List Value) (σ : ri_S) (x : Nat), ev 129 (36, [some (.ref x), l1, l2], st) σ = ev 129 (37, [some (.ref x), l1, l2], .ref x :: st) σ) ∧
  (∀ (L : ri_L) (st : List Value) (σ : ri_S) (a : Nat), ev 129 (37, L, .ref a :: st) σ = tv_o 8 5 (σ.1 a) fun v => ev 129 (40, L, v :: st) σ) ∧
  (∀ (l1 l2 : Option Value) (st : List Value) (σ : ri_S) (x : Nat), ev 129 (40, [some (.ref x), l1, l2], st) σ = ev 129 (41, [some (.ref x), l1, l2], .ref x :: st) σ) ∧
  (∀ (L : ri_L) (st : List Value) (σ : ri_S) (a : Nat), ev 129 (41, L, .ref a :: st) σ = tv_o 8 1 (σ.1 a) fun v => ev 129 (44, L, v :: st) σ) ∧
  (∀ (l0 l2 : Option Value) (st : List Value) (σ : ri_S) (x : Int32), ev 129 (44, [l0, some (.int x), l2], st) σ = ev 129 (45, [l0, some (.int x), l2], .int x :: st) σ) ∧
  (∀ (L : ri_L) (σ : ri_S) (a0 : Nat) (a1 : Nat) (a2 : Int32), ev 129 (45, L, [.int a2, .ref a1, .ref a0]) σ = tv_k 4 (σ.1 a0) ((cal 57 [.ref a0, .ref a1, .int a2] σ).bind fun q => ev 129 (48, L, q.1.toList ++ []) q.2)) ∧
  (∀ (l1 l2 : Option Value) (st : List Value) (σ : ri_S) (x : Nat), ev 129 (48, [some (.ref x), l1, l2], st) σ = ev 129 (49, [some (.ref x), l1, l2], .ref x :: st) σ) ∧
  (∀ (L : ri_L) (st : List Value) (σ : ri_S) (a : Nat), ev 129 (49, L, .ref a :: st) σ = tv_o 8 5 (σ.1 a) fun v => ev 129 (52, L, v :: st) σ) ∧
  (∀ (l0 l1 : Option Value) (st : List Value) (σ : ri_S) (x : Int32), ev 129 (52, [l0, l1, some (.int x)], st) σ = ev 129 (53, [l0, l1, some (.int x)], .int x :: st) σ) ∧
  (∀ (L : ri_L) (σ : ri_S) (a0 : Nat) (a1 : Int32), ev 129 (53, L, [.int a1, .ref a0]) σ = tv_k 4 (σ.1 a0) ((cal 68 [.ref a0, .int a1] σ).bind fun q => ev 129 (56, L, q.1.toList ++ []) q.2)) ∧
  (∀ (L : ri_L) (σ : ri_S) (x : Int32), ev 129 (56, L, [.int x]) σ = some (some (.int x), σ)) :=
  ⟨fun l1 l2 st σ x => ev_p ((TP_129 _).trans rfl) rfl,
   fun L st σ a => ev_getf ((TP_129 _).trans rfl),
   fun L st σ a => ev_getf ((TP_129 _).trans rfl),
   fun l0 l2 st σ x => ev_p ((TP_129 _).trans rfl) rfl,
   fun L σ a0 a1 => ev_callv ((TP_129 _).trans rfl) rfl rfl rfl rfl,
   fun L st σ x => ev_b ((TP_129 _).trans rfl) rfl,
   fun l1 l2 st σ x => ev_p ((TP_129 _).trans rfl) rfl,
   fun L st σ a => ev_getf ((TP_129 _).trans rfl),
   fun L st σ a => ev_getf ((TP_129 _).trans rfl),
   fun l0 l1 st σ x => ev_p ((TP_129 _).trans rfl) rfl,
   fun L σ a0 a1 => ev_callv ((TP_129 _).trans rfl) rfl rfl rfl rfl,
   fun L st σ x => ev_b ((TP_129 _).trans rfl) rfl,
   fun L st σ => ev_p ((TP_129 _).trans rfl) rfl,
   fun L st σ => ev_p ((TP_129 _).trans rfl) rfl,
   fun L st σ => ev_p ((TP_129 _).trans rfl) rfl,
   fun L σ a0 => ev_call ((TP_129 _).trans rfl) rfl rfl rfl rfl,
   fun l1 l2 st σ x => ev_p ((TP_129 _).trans rfl) rfl,
   fun L st σ a => ev_getf ((TP_129 _).trans rfl),
   fun l1 l2 st σ x => ev_p ((TP_129 _).trans rfl) rfl,
   fun L st σ a => ev_getf ((TP_129 _).trans rfl),
   fun l0 l2 st σ x => ev_p ((TP_129 _).trans rfl) rfl,
   fun L σ a0 a1 a2 => ev_callv ((TP_129 _).trans rfl) rfl rfl rfl rfl,
   fun l1 l2 st σ x => ev_p ((TP_129 _).trans rfl) rfl,
   fun L st σ a => ev_getf ((TP_129 _).trans rfl),
   fun l0 l1 st σ x => ev_p ((TP_129 _).trans rfl) rfl,
   fun L σ a0 a1 => ev_callv ((TP_129 _).trans rfl) rfl rfl rfl rfl,
   fun L σ x => ev_r ((TP_129 _).trans rfl) rfl⟩
theorem TP_130 (pc : Nat) : TT 130 pc = ri_find TL_130 pc := rfl
theorem E_130 (x0 : Nat) (x1 : Int32) (x2 : Int32) (σ : ri_S) : cal 130 [.ref x0, .int x1, .int x2] σ = ev 130 (0, [some (.ref x0), some (.int x1), some (.int x2)], []) σ := rfl
theorem I_130 :
  (∀ (l1 l2 : Option Value) (st : List Value) (σ : ri_S) (x : Nat), ev 130 (0, [some (.ref x), l1, l2], st) σ = ev 130 (1, [some (.ref x), l1, l2], .ref x :: st) σ) ∧
  (∀ (L : ri_L) (st : List Value) (σ : ri_S) (a : Nat), ev 130 (1, L, .ref a :: st) σ = tv_o 8 1 (σ.1 a) fun v => ev 130 (4, L, v :: st) σ) ∧
  (∀ (L : ri_L) (st : List Value) (σ : ri_S) (a : Nat), ev 130 (4, L, .ref a :: st) σ = tv_o 3 2 (σ.1 a) fun v => ev 130 (7, L, v :: st) σ) ∧
  (∀ (l0 l2 : Option Value) (st : List Value) (σ : ri_S) (x : Int32), ev 130 (7, [l0, some (.int x), l2], st) σ = ev 130 (8, [l0, some (.int x), l2], .int x :: st) σ) ∧
  (∀ (L : ri_L) (σ : ri_S) (a0 : Nat) (a1 : Int32), ev 130 (8, L, [.int a1, .ref a0]) σ = tv_k 0 (σ.1 a0) ((cal 1 [.ref a0, .int a1] σ).bind fun q => ev 130 (11, L, q.1.toList ++ []) q.2)) ∧
  (∀ (L : ri_L) (st : List Value) (σ : ri_S) (x : Int32), ev 130 (11, L, .int x :: st) σ = if ¬ x = 0 then ev 130 (18, L, st) σ else ev 130 (14, L, st) σ) ∧
  (∀ (L : ri_L) (st : List Value) (σ : ri_S), ev 130 (14, L, st) σ = ev 130 (15, L, .int 1 :: st) σ) ∧
  (∀ (L : ri_L) (st : List Value) (σ : ri_S), ev 130 (15, L, st) σ = ev 130 (32, L, st) σ) ∧
  (∀ (l0 l1 : Option Value) (st : List Value) (σ : ri_S) (x : Int32), ev 130 (18, [l0, l1, some (.int x)], st) σ = ev 130 (19, [l0, l1, some (.int x)], .int x :: st) σ) ∧
  (∀ (L : ri_L) (st : List Value) (σ : ri_S), ev 130 (19, L, st) σ = ev 130 (20, L, .int 1 :: st) σ) ∧
  (∀ (L : ri_L) (st : List Value) (σ : ri_S), ev 130 (20, L, st) σ = ev 130 (21, L, .int 4 :: st) σ) ∧
  (∀ (L : ri_L) (σ : ri_S) (a0 : Int32) (a1 : Int32) (a2 : Int32), ev 130 (21, L, [.int a2, .int a1, .int a0]) σ = (cal 137 [.int a0, .int a1, .int a2] σ).bind fun q => ev 130 (24, L, q.1.toList ++ []) q.2) ∧
  (∀ (L : ri_L) (st : List Value) (σ : ri_S) (x : Int32), ev 130 (24, L, .int x :: st) σ = if x = 0 then ev 130 (31, L, st) σ else ev 130 (27, L, st) σ) ∧
  (∀ (L : ri_L) (st : List Value) (σ : ri_S), ev 130 (27, L, st) σ = ev 130 (28, L, .int 0 :: st) σ) ∧
  (∀ (L : ri_L) (st : List Value) (σ : ri_S), ev 130 (28, L, st) σ = ev 130 (32, L, st) σ) ∧
  (∀ (L : ri_L) (st : List Value) (σ : ri_S), ev 130 (31, L, st) σ = ev 130 (32, L, .int 2 :: st) σ) ∧
  (∀ (L : ri_L) (σ : ri_S) (a0 : Int32), ev 130 (32, L, [.int a0]) σ = (cal 135 [.int a0] σ).bind fun q => ev 130 (35, L, q.1.toList ++ []) q.2) ∧
  (∀ (l1 l2 : Option Value) (st : List Value) (σ : ri_S) (x : Nat), ev 130 (35, [some (.ref x), l1, l2], st) σ = ev 130 (36, [some (.ref x), l1, l2], .ref x :: st) σ) ∧
  (∀ (L : ri_L) (st : List Value) (σ : ri_S) (a : Nat), ev 130 (36, L, .ref a :: st) σ = tv_o 8 5 (σ.1 a) fun v => ev 130 (39, L, v :: st) σ) ∧
  (∀ (l1 l2 : Option Value) (st : List Value) (σ : ri_S) (x : Nat), ev 130 (39, [some (.ref x), l1, l2], st) σ = ev 130 (40, [some (.ref x), l1, l2], .ref x :: st) σ) ∧
  (∀ (L : ri_L) (st : List Value) (σ : ri_S) (a : Nat), ev 130 (40, L, .ref a :: st) σ = tv_o 8 1 (σ.1 a) fun v => ev 130 (43, L, v :: st) σ) ∧
  (∀ (l0 l2 : Option Value) (st : List Value) (σ : ri_S) (x : Int32), ev 130 (43, [l0, some (.int x), l2], st) σ = ev 130 (44, [l0, some (.int x), l2], .int x :: st) σ) ∧
  (∀ (L : ri_L) (σ : ri_S) (a0 : Nat) (a1 : Nat) (a2 : Int32), ev 130 (44, L, [.int a2, .ref a1, .ref a0]) σ = tv_k 4 (σ.1 a0) ((cal 57 [.ref a0, .ref a1, .int a2] σ).bind fun q => ev 130 (47, L, q.1.toList ++ []) q.2)) ∧
  (∀ (l1 l2 : Option Value) (st : List Value) (σ : ri_S) (x : Nat), ev 130 (47, [some (.ref x), l1, l2], st) σ = ev 130 (48, [some (.ref x), l1, l2], .ref x :: st) σ) ∧
  (∀ (L : ri_L) (st : List Value) (σ : ri_S) (a : Nat), ev 130 (48, L, .ref a :: st) σ = tv_o 8 5 (σ.1 a) fun v => ev 130 (51, L, v :: st) σ) ∧
  (∀ (l1 l2 : Option Value) (st : List Value) (σ : ri_S) (x : Nat), ev 130 (51, [some (.ref x), l1, l2], st) σ = ev 130 (52, [some (.ref x), l1, l2], .ref x :: st) σ) ∧
  (∀ (L : ri_L) (st : List Value) (σ : ri_S) (a : Nat), ev 130 (52, L, .ref a :: st) σ = tv_o 8 1 (σ.1 a) fun v => ev 130 (55, L, v :: st) σ) ∧
  (∀ (l0 l1 : Option Value) (st : List Value) (σ : ri_S) (x : Int32), ev 130 (55, [l0, l1, some (.int x)], st) σ = ev 130 (56, [l0, l1, some (.int x)], .int x :: st) σ) ∧
  (∀ (L : ri_L) (σ : ri_S) (a0 : Nat) (a1 : Nat) (a2 : Int32), ev 130 (56, L, [.int a2, .ref a1, .ref a0]) σ = tv_k 4 (σ.1 a0) ((cal 72 [.ref a0, .ref a1, .int a2] σ).bind fun q => ev 130 (59, L, q.1.toList ++ []) q.2)) ∧
  (∀ (L : ri_L) (σ : ri_S) (x : Int32), ev 130 (59, L, [.int x]) σ = some (some (.int x), σ)) :=
  ⟨fun l1 l2 st σ x => ev_p ((TP_130 _).trans rfl) rfl,
   fun L st σ a => ev_getf ((TP_130 _).trans rfl),
   fun L st σ a => ev_getf ((TP_130 _).trans rfl),
   fun l0 l2 st σ x => ev_p ((TP_130 _).trans rfl) rfl,
   fun L σ a0 a1 => ev_callv ((TP_130 _).trans rfl) rfl rfl rfl rfl,
   fun L st σ x => ev_b ((TP_130 _).trans rfl) rfl,
   fun L st σ => ev_p ((TP_130 _).trans rfl) rfl,
   fun L st σ => ev_p ((TP_130 _).trans rfl) rfl,
   fun l0 l1 st σ x => ev_p ((TP_130 _).trans rfl) rfl,
   fun L st σ => ev_p ((TP_130 _).trans rfl) rfl,
   fun L st σ => ev_p ((TP_130 _).trans rfl) rfl,
   fun L σ a0 a1 a2 => ev_call ((TP_130 _).trans rfl) rfl rfl rfl rfl,
   fun L st σ x => ev_b ((TP_130 _).trans rfl) rfl,
   fun L st σ => ev_p ((TP_130 _).trans rfl) rfl,
   fun L st σ => ev_p ((TP_130 _).trans rfl) rfl,
   fun L st σ => ev_p ((TP_130 _).trans rfl) rfl,
   fun L σ a0 => ev_call ((TP_130 _).trans rfl) rfl rfl rfl rfl,
   fun l1 l2 st σ x => ev_p ((TP_130 _).trans rfl) rfl,
   fun L st σ a => ev_getf ((TP_130 _).trans rfl),
   fun l1 l2 st σ x => ev_p ((TP_130 _).trans rfl) rfl,
   fun L st σ a => ev_getf ((TP_130 _).trans rfl),
   fun l0 l2 st σ x => ev_p ((TP_130 _).trans rfl) rfl,
   fun L σ a0 a1 a2 => ev_callv ((TP_130 _).trans rfl) rfl rfl rfl rfl,
   fun l1 l2 st σ x => ev_p ((TP_130 _).trans rfl) rfl,
   fun L st σ a => ev_getf ((TP_130 _).trans rfl),
   fun l1 l2 st σ x => ev_p ((TP_130 _).trans rfl) rfl,
   fun L st σ a => ev_getf ((TP_130 _).trans rfl),
   fun l0 l1 st σ x => ev_p ((TP_130 _).trans rfl) rfl,
   fun L σ a0 a1 a2 => ev_callv ((TP_130 _).trans rfl) rfl rfl rfl rfl,
   fun L σ x => ev_r ((TP_130 _).trans rfl) rfl⟩
theorem TP_131 (pc : Nat) : TT 131 pc = ri_find TL_131 pc := rfl
theorem E_131 (x0 : Nat) (x1 : Int32) (x2 : Int64) (σ : ri_S) : cal 131 [.ref x0, .int x1, .long x2] σ = ev 131 (0, [some (.ref x0), some (.int x1), some (.long x2), none], []) σ := rfl
theorem I_131 :
  (∀ (l0 l2 l3 : Option Value) (st : List Value) (σ : ri_S) (x : Int32), ev 131 (0, [l0, some (.int x), l2, l3], st) σ = ev 131 (1, [l0, some (.int x), l2, l3], .int x :: st) σ) ∧
  (∀ (l0 l1 l3 : Option Value) (st : List Value) (σ : ri_S) (x : Int64), ev 131 (1, [l0, l1, some (.long x), l3], st) σ = ev 131 (2, [l0, l1, some (.long x), l3], .long x :: st) σ) ∧
  (∀ (L : ri_L) (σ : ri_S) (a0 : Int32) (a1 : Int64), ev 131 (2, L, [.long a1, .int a0]) σ = (cal 51 [.int a0, .long a1] σ).bind fun q => ev 131 (5, L, q.1.toList ++ []) q.2) ∧
  (∀ (L : ri_L) (σ : ri_S) (a0 : Int32), ev 131 (5, L, [.int a0]) σ = (cal 135 [.int a0] σ).bind fun q => ev 131 (8, L, q.1.toList ++ []) q.2) ∧
  (∀ (l1 l2 l3 : Option Value) (st : List Value) (σ : ri_S) (x : Nat), ev 131 (8, [some (.ref x), l1, l2, l3], st) σ = ev 131 (9, [some (.ref x), l1, l2, l3], .ref x :: st) σ) ∧
  (∀ (L : ri_L) (st : List Value) (σ : ri_S) (a : Nat), ev 131 (9, L, .ref a :: st) σ = tv_o 8 2 (σ.1 a) fun v => ev 131 (12, L, v :: st) σ) ∧
  (∀ (l1 l2 l3 : Option Value) (st : List Value) (σ : ri_S) (x : Nat), ev 131 (12, [some (.ref x), l1, l2, l3], st) σ = ev 131 (13, [some (.ref x), l1, l2, l3], .ref x :: st) σ) ∧
  (∀ (L : ri_L) (st : List Value) (σ : ri_S) (a : Nat), ev 131 (13, L, .ref a :: st) σ = tv_o 8 1 (σ.1 a) fun v => ev 131 (16, L, v :: st) σ) ∧
  (∀ (L : ri_L) (σ : ri_S) (a0 : Nat) (a1 : Nat), ev 131 (16, L, [.ref a1, .ref a0]) σ = tv_k 3 (σ.1 a0) ((cal 22 [.ref a0, .ref a1] σ).bind fun q => ev 131 (19, L, q.1.toList ++ []) q.2)) ∧
  (∀ (l1 l2 l3 : Option Value) (st : List Value) (σ : ri_S) (x : Nat), ev 131 (19, [some (.ref x), l1, l2, l3], st) σ = ev 131 (20, [some (.ref x), l1, l2, l3], .ref x :: st) σ) ∧
  (∀ (L : ri_L) (st : List Value) (σ : ri_S) (a : Nat), ev 131 (20, L, .ref a :: st) σ = tv_o 8 2 (σ.1 a) fun v => ev 131 (23, L, v :: st) σ) ∧
  (∀ (l0 l2 l3 : Option Value) (st : List Value) (σ : ri_S) (x : Int32), ev 131 (23, [l0, some (.int x), l2, l3], st) σ = ev 131 (24, [l0, some (.int x), l2, l3], .int x :: st) σ) ∧
  (∀ (l0 l1 l3 : Option Value) (st : List Value) (σ : ri_S) (x : Int64), ev 131 (24, [l0, l1, some (.long x), l3], st) σ = ev 131 (25, [l0, l1, some (.long x), l3], .long x :: st) σ) ∧
  (∀ (L : ri_L) (σ : ri_S) (a0 : Nat) (a1 : Int32) (a2 : Int64), ev 131 (25, L, [.long a2, .int a1, .ref a0]) σ = (cal 53 [.ref a0, .int a1, .long a2] σ).bind fun q => ev 131 (28, L, q.1.toList ++ []) q.2) ∧
  (∀ (L : ri_L) (σ : ri_S) (x : Int32), ev 131 (28, L, [.int x]) σ = some (some (.int x), σ)) :=
  ⟨fun l0 l2 l3 st σ x => ev_p ((TP_131 _).trans rfl) rfl,
   fun l0 l1 l3 st σ x => ev_p ((TP_131 _).trans rfl) rfl,
   fun L σ a0 a1 => ev_call ((TP_131 _).trans rfl) rfl rfl rfl rfl,
   fun L σ a0 => ev_call ((TP_131 _).trans rfl) rfl rfl rfl rfl,
   fun l1 l2 l3 st σ x => ev_p ((TP_131 _).trans rfl) rfl,
   fun L st σ a => ev_getf ((TP_131 _).trans rfl),
   fun l1 l2 l3 st σ x => ev_p ((TP_131 _).trans rfl) rfl,
   fun L st σ a => ev_getf ((TP_131 _).trans rfl),
   fun L σ a0 a1 => ev_callv ((TP_131 _).trans rfl) rfl rfl rfl rfl,
   fun l1 l2 l3 st σ x => ev_p ((TP_131 _).trans rfl) rfl,
   fun L st σ a => ev_getf ((TP_131 _).trans rfl),
   fun l0 l2 l3 st σ x => ev_p ((TP_131 _).trans rfl) rfl,
   fun l0 l1 l3 st σ x => ev_p ((TP_131 _).trans rfl) rfl,
   fun L σ a0 a1 a2 => ev_call ((TP_131 _).trans rfl) rfl rfl rfl rfl,
   fun L σ x => ev_r ((TP_131 _).trans rfl) rfl⟩
theorem TP_132 (pc : Nat) : TT 132 pc = ri_find TL_132 pc := rfl
theorem E_132 (x0 : Nat) (x1 : Int64) (x2 : Int32) (σ : ri_S) : cal 132 [.ref x0, .long x1, .int x2] σ = ev 132 (0, [some (.ref x0), some (.long x1), none, some (.int x2)], []) σ := rfl
theorem I_132 :
  (∀ (l0 l1 l2 : Option Value) (st : List Value) (σ : ri_S) (x : Int32), ev 132 (0, [l0, l1, l2, some (.int x)], st) σ = ev 132 (1, [l0, l1, l2, some (.int x)], .int x :: st) σ) ∧
  (∀ (L : ri_L) (st : List Value) (σ : ri_S), ev 132 (1, L, st) σ = ev 132 (2, L, .int 1 :: st) σ) ∧
  (∀ (L : ri_L) (st : List Value) (σ : ri_S), ev 132 (2, L, st) σ = ev 132 (4, L, .int 60 :: st) σ) ∧
  (∀ (L : ri_L) (σ : ri_S) (a0 : Int32) (a1 : Int32) (a2 : Int32), ev 132 (4, L, [.int a2, .int a1, .int a0]) σ = (cal 137 [.int a0, .int a1, .int a2] σ).bind fun q => ev 132 (7, L, q.1.toList ++ []) q.2) ∧
  (∀ (L : ri_L) (st : List Value) (σ : ri_S) (x : Int32), ev 132 (7, L, .int x :: st) σ = if x = 0 then ev 132 (14, L, st) σ else ev 132 (10, L, st) σ) ∧
  (∀ (L : ri_L) (st : List Value) (σ : ri_S), ev 132 (10, L, st) σ = ev 132 (11, L, .int 0 :: st) σ) ∧
  (∀ (L : ri_L) (st : List Value) (σ : ri_S), ev 132 (11, L, st) σ = ev 132 (15, L, st) σ) ∧
  (∀ (L : ri_L) (st : List Value) (σ : ri_S), ev 132 (14, L, st) σ = ev 132 (15, L, .int 2 :: st) σ) ∧
  (∀ (L : ri_L) (σ : ri_S) (a0 : Int32), ev 132 (15, L, [.int a0]) σ = (cal 135 [.int a0] σ).bind fun q => ev 132 (18, L, q.1.toList ++ []) q.2) ∧
  (∀ (l1 l2 l3 : Option Value) (st : List Value) (σ : ri_S) (x : Nat), ev 132 (18, [some (.ref x), l1, l2, l3], st) σ = ev 132 (19, [some (.ref x), l1, l2, l3], .ref x :: st) σ) ∧
  (∀ (L : ri_L) (st : List Value) (σ : ri_S) (a : Nat), ev 132 (19, L, .ref a :: st) σ = tv_o 8 2 (σ.1 a) fun v => ev 132 (22, L, v :: st) σ) ∧
  (∀ (l1 l2 l3 : Option Value) (st : List Value) (σ : ri_S) (x : Nat), ev 132 (22, [some (.ref x), l1, l2, l3], st) σ = ev 132 (23, [some (.ref x), l1, l2, l3], .ref x :: st) σ) ∧
  (∀ (L : ri_L) (st : List Value) (σ : ri_S) (a : Nat), ev 132 (23, L, .ref a :: st) σ = tv_o 8 1 (σ.1 a) fun v => ev 132 (26, L, v :: st) σ) ∧
  (∀ (L : ri_L) (σ : ri_S) (a0 : Nat) (a1 : Nat), ev 132 (26, L, [.ref a1, .ref a0]) σ = tv_k 3 (σ.1 a0) ((cal 22 [.ref a0, .ref a1] σ).bind fun q => ev 132 (29, L, q.1.toList ++ []) q.2)) ∧
  (∀ (l1 l2 l3 : Option Value) (st : List Value) (σ : ri_S) (x : Nat), ev 132 (29, [some (.ref x), l1, l2, l3], st) σ = ev 132 (30, [some (.ref x), l1, l2, l3], .ref x :: st) σ) ∧
  (∀ (L : ri_L) (st : List Value) (σ : ri_S) (a : Nat), ev 132 (30, L, .ref a :: st) σ = tv_o 8 2 (σ.1 a) fun v => ev 132 (33, L, v :: st) σ) ∧
  (∀ (l0 l2 l3 : Option Value) (st : List Value) (σ : ri_S) (x : Int64), ev 132 (33, [l0, some (.long x), l2, l3], st) σ = ev 132 (34, [l0, some (.long x), l2, l3], .long x :: st) σ) ∧
  (∀ (l0 l1 l2 : Option Value) (st : List Value) (σ : ri_S) (x : Int32), ev 132 (34, [l0, l1, l2, some (.int x)], st) σ = ev 132 (35, [l0, l1, l2, some (.int x)], .int x :: st) σ) ∧
  (∀ (L : ri_L) (σ : ri_S) (a0 : Nat) (a1 : Int64) (a2 : Int32), ev 132 (35, L, [.int a2, .long a1, .ref a0]) σ = (cal 78 [.ref a0, .long a1, .int a2] σ).bind fun q => ev 132 (38, L, q.1.toList ++ []) q.2) ∧
  (∀ (L : ri_L) (st : List Value) (σ : ri_S), ev 132 (38, L, st) σ = ev 132 (41, L, .int 1000 :: st) σ) ∧
  (∀ (l1 l2 l3 : Option Value) (st : List Value) (σ : ri_S) (x : Nat), ev 132 (41, [some (.ref x), l1, l2, l3], st) σ = ev 132 (42, [some (.ref x), l1, l2, l3], .ref x :: st) σ) ∧
  (∀ (L : ri_L) (st : List Value) (σ : ri_S) (a : Nat), ev 132 (42, L, .ref a :: st) σ = tv_o 8 2 (σ.1 a) fun v => ev 132 (45, L, v :: st) σ) ∧
  (∀ (L : ri_L) (st : List Value) (σ : ri_S) (a : Nat), ev 132 (45, L, .ref a :: st) σ = tv_o 3 3 (σ.1 a) fun v => ev 132 (48, L, v :: st) σ) ∧
  (∀ (l1 l2 l3 : Option Value) (st : List Value) (σ : ri_S) (x : Nat), ev 132 (48, [some (.ref x), l1, l2, l3], st) σ = ev 132 (49, [some (.ref x), l1, l2, l3], .ref x :: st) σ) ∧
  (∀ (L : ri_L) (st : List Value) (σ : ri_S) (a : Nat), ev 132 (49, L, .ref a :: st) σ = tv_o 8 1 (σ.1 a) fun v => ev 132 (52, L, v :: st) σ) ∧
  (∀ (L : ri_L) (st : List Value) (σ : ri_S) (a : Nat), ev 132 (52, L, .ref a :: st) σ = tv_o 3 3 (σ.1 a) fun v => ev 132 (55, L, v :: st) σ) ∧
  (∀ (L : ri_L) (st : List Value) (σ : ri_S) (x y : Int32), ev 132 (55, L, .int y :: .int x :: st) σ = ev 132 (56, L, .int (x - y) :: st) σ) ∧
  (∀ (L : ri_L) (st : List Value) (σ : ri_S) (x y : Int32), ev 132 (56, L, .int y :: .int x :: st) σ = ev 132 (57, L, .int (x * y) :: st) σ) ∧
  (∀ (L : ri_L) (st : List Value) (σ : ri_S), ev 132 (57, L, st) σ = ev 132 (60, L, .int 999 :: st) σ) ∧
  (∀ (l1 l2 l3 : Option Value) (st : List Value) (σ : ri_S) (x : Nat), ev 132 (60, [some (.ref x), l1, l2, l3], st) σ = ev 132 (61, [some (.ref x), l1, l2, l3], .ref x :: st) σ) ∧
  (∀ (L : ri_L) (st : List Value) (σ : ri_S) (a : Nat), ev 132 (61, L, .ref a :: st) σ = tv_o 8 2 (σ.1 a) fun v => ev 132 (64, L, v :: st) σ) ∧
  (∀ (L : ri_L) (st : List Value) (σ : ri_S) (a : Nat), ev 132 (64, L, .ref a :: st) σ = tv_o 3 4 (σ.1 a) fun v => ev 132 (67, L, v :: st) σ) ∧
  (∀ (l1 l2 l3 : Option Value) (st : List Value) (σ : ri_S) (x : Nat), ev 132 (67, [some (.ref x), l1, l2, l3], st) σ = ev 132 (68, [some (.ref x), l1, l2, l3], .ref x :: st) σ) ∧
  (∀ (L : ri_L) (st : List Value) (σ : ri_S) (a : Nat), ev 132 (68, L, .ref a :: st) σ = tv_o 8 1 (σ.1 a) fun v => ev 132 (71, L, v :: st) σ) ∧
  (∀ (L : ri_L) (st : List Value) (σ : ri_S) (a : Nat), ev 132 (71, L, .ref a :: st) σ = tv_o 3 4 (σ.1 a) fun v => ev 132 (74, L, v :: st) σ) ∧
  (∀ (L : ri_L) (st : List Value) (σ : ri_S) (x y : Int32), ev 132 (74, L, .int y :: .int x :: st) σ = ev 132 (75, L, .int (x - y) :: st) σ) ∧
  (∀ (L : ri_L) (σ : ri_S) (x y : Int32) (s0 : Value), ev 132 (75, L, .int y :: .int x :: [s0]) σ = ev 132 (78, L, .int (if y < x then y else x) :: [s0]) σ) ∧
  (∀ (L : ri_L) (st : List Value) (σ : ri_S) (x y : Int32), ev 132 (78, L, .int y :: .int x :: st) σ = ev 132 (79, L, .int (x + y) :: st) σ) ∧
  (∀ (L : ri_L) (σ : ri_S) (x : Int32), ev 132 (79, L, [.int x]) σ = some (some (.int x), σ)) :=
  ⟨fun l0 l1 l2 st σ x => ev_p ((TP_132 _).trans rfl) rfl,
   fun L st σ => ev_p ((TP_132 _).trans rfl) rfl,
   fun L st σ => ev_p ((TP_132 _).trans rfl) rfl,
   fun L σ a0 a1 a2 => ev_call ((TP_132 _).trans rfl) rfl rfl rfl rfl,
   fun L st σ x => ev_b ((TP_132 _).trans rfl) rfl,
   fun L st σ => ev_p ((TP_132 _).trans rfl) rfl,
   fun L st σ => ev_p ((TP_132 _).trans rfl) rfl,
   fun L st σ => ev_p ((TP_132 _).trans rfl) rfl,
   fun L σ a0 => ev_call ((TP_132 _).trans rfl) rfl rfl rfl rfl,
   fun l1 l2 l3 st σ x => ev_p ((TP_132 _).trans rfl) rfl,
   fun L st σ a => ev_getf ((TP_132 _).trans rfl),
   fun l1 l2 l3 st σ x => ev_p ((TP_132 _).trans rfl) rfl,
   fun L st σ a => ev_getf ((TP_132 _).trans rfl),
   fun L σ a0 a1 => ev_callv ((TP_132 _).trans rfl) rfl rfl rfl rfl,
   fun l1 l2 l3 st σ x => ev_p ((TP_132 _).trans rfl) rfl,
   fun L st σ a => ev_getf ((TP_132 _).trans rfl),
   fun l0 l2 l3 st σ x => ev_p ((TP_132 _).trans rfl) rfl,
   fun l0 l1 l2 st σ x => ev_p ((TP_132 _).trans rfl) rfl,
   fun L σ a0 a1 a2 => ev_call ((TP_132 _).trans rfl) rfl rfl rfl rfl,
   fun L st σ => ev_p ((TP_132 _).trans rfl) rfl,
   fun l1 l2 l3 st σ x => ev_p ((TP_132 _).trans rfl) rfl,
   fun L st σ a => ev_getf ((TP_132 _).trans rfl),
   fun L st σ a => ev_getf ((TP_132 _).trans rfl),
   fun l1 l2 l3 st σ x => ev_p ((TP_132 _).trans rfl) rfl,
   fun L st σ a => ev_getf ((TP_132 _).trans rfl),
   fun L st σ a => ev_getf ((TP_132 _).trans rfl),
   fun L st σ x y => ev_p ((TP_132 _).trans rfl) rfl,
   fun L st σ x y => ev_p ((TP_132 _).trans rfl) rfl,
   fun L st σ => ev_p ((TP_132 _).trans rfl) rfl,
   fun l1 l2 l3 st σ x => ev_p ((TP_132 _).trans rfl) rfl,
   fun L st σ a => ev_getf ((TP_132 _).trans rfl),
   fun L st σ a => ev_getf ((TP_132 _).trans rfl),
   fun l1 l2 l3 st σ x => ev_p ((TP_132 _).trans rfl) rfl,
   fun L st σ a => ev_getf ((TP_132 _).trans rfl),
   fun L st σ a => ev_getf ((TP_132 _).trans rfl),
   fun L st σ x y => ev_p ((TP_132 _).trans rfl) rfl,
   fun L σ x y s0 => ev_p ((TP_132 _).trans rfl) rfl,
   fun L st σ x y => ev_p ((TP_132 _).trans rfl) rfl,
   fun L σ x => ev_r ((TP_132 _).trans rfl) rfl⟩
theorem TP_133 (pc : Nat) : TT 133 pc = ri_find TL_133 pc := rfl
theorem E_133 (x0 : Nat) (x1 : Int32) (σ : ri_S) : cal 133 [.ref x0, .int x1] σ = ev 133 (0, [some (.ref x0), some (.int x1)], []) σ := rfl
theorem I_133 :
  (∀ (l0 : Option Value) (st : List Value) (σ : ri_S) (x : Int32), ev 133 (0, [l0, some (.int x)], st) σ = ev 133 (1, [l0, some (.int x)], .int x :: st) σ) ∧
  (∀ (L : ri_L) (st : List Value) (σ : ri_S), ev 133 (1, L, st) σ = ev 133 (2, L, .int 0 :: st) σ) ∧
  (∀ (L : ri_L) (st : List Value) (σ : ri_S), ev 133 (2, L, st) σ = ev 133 (3, L, .int 1 :: st) σ) ∧
  (∀ (L : ri_L) (σ : ri_S) (a0 : Int32) (a1 : Int32) (a2 : Int32), ev 133 (3, L, [.int a2, .int a1, .int a0]) σ = (cal 137 [.int a0, .int a1, .int a2] σ).bind fun q => ev 133 (6, L, q.1.toList ++ []) q.2) ∧
  (∀ (L : ri_L) (st : List Value) (σ : ri_S) (x : Int32), ev 133 (6, L, .int x :: st) σ = if x = 0 then ev 133 (13, L, st) σ else ev 133 (9, L, st) σ) ∧
  (∀ (L : ri_L) (st : List Value) (σ : ri_S), ev 133 (9, L, st) σ = ev 133 (10, L, .int 0 :: st) σ) ∧
  (∀ (L : ri_L) (st : List Value) (σ : ri_S), ev 133 (10, L, st) σ = ev 133 (14, L, st) σ) ∧
  (∀ (L : ri_L) (st : List Value) (σ : ri_S), ev 133 (13, L, st) σ = ev 133 (14, L, .int 1 :: st) σ) ∧
  (∀ (L : ri_L) (σ : ri_S) (a0 : Int32), ev 133 (14, L, [.int a0]) σ = (cal 135 [.int a0] σ).bind fun q => ev 133 (17, L, q.1.toList ++ []) q.2) ∧
  (∀ (l1 : Option Value) (st : List Value) (σ : ri_S) (x : Nat), ev 133 (17, [some (.ref x), l1], st) σ = ev 133 (18, [some (.ref x), l1], .ref x :: st) σ) ∧
  (∀ (L : ri_L) (st : List Value) (σ : ri_S) (a : Nat), ev 133 (18, L, .ref a :: st) σ = tv_o 8 4 (σ.1 a) fun v => ev 133 (21, L, v :: st) σ) ∧
  (∀ (l0 : Option Value) (st : List Value) (σ : ri_S) (x : Int32), ev 133 (21, [l0, some (.int x)], st) σ = ev 133 (22, [l0, some (.int x)], .int x :: st) σ) ∧
  (∀ (l1 : Option Value) (st : List Value) (σ : ri_S) (x : Nat), ev 133 (22, [some (.ref x), l1], st) σ = ev 133 (23, [some (.ref x), l1], .ref x :: st) σ) ∧
  (∀ (L : ri_L) (st : List Value) (σ : ri_S) (a : Nat), ev 133 (23, L, .ref a :: st) σ = tv_o 8 1 (σ.1 a) fun v => ev 133 (26, L, v :: st) σ) ∧
  (∀ (L : ri_L) (σ : ri_S) (a0 : Nat) (a1 : Int32) (a2 : Nat), ev 133 (26, L, [.ref a2, .int a1, .ref a0]) σ = tv_k 5 (σ.1 a0) ((cal 84 [.ref a0, .int a1, .ref a2] σ).bind fun q => ev 133 (29, L, q.1.toList ++ []) q.2)) ∧
  (∀ (l1 : Option Value) (st : List Value) (σ : ri_S) (x : Nat), ev 133 (29, [some (.ref x), l1], st) σ = ev 133 (30, [some (.ref x), l1], .ref x :: st) σ) ∧
  (∀ (L : ri_L) (st : List Value) (σ : ri_S) (a : Nat), ev 133 (30, L, .ref a :: st) σ = tv_o 8 1 (σ.1 a) fun v => ev 133 (33, L, v :: st) σ) ∧
  (∀ (L : ri_L) (st : List Value) (σ : ri_S) (a : Nat), ev 133 (33, L, .ref a :: st) σ = tv_o 3 3 (σ.1 a) fun v => ev 133 (36, L, v :: st) σ) ∧
  (∀ (L : ri_L) (σ : ri_S) (x : Int32), ev 133 (36, L, [.int x]) σ = some (some (.int x), σ)) :=
  ⟨fun l0 st σ x => ev_p ((TP_133 _).trans rfl) rfl,
   fun L st σ => ev_p ((TP_133 _).trans rfl) rfl,
   fun L st σ => ev_p ((TP_133 _).trans rfl) rfl,
   fun L σ a0 a1 a2 => ev_call ((TP_133 _).trans rfl) rfl rfl rfl rfl,
   fun L st σ x => ev_b ((TP_133 _).trans rfl) rfl,
   fun L st σ => ev_p ((TP_133 _).trans rfl) rfl,
   fun L st σ => ev_p ((TP_133 _).trans rfl) rfl,
   fun L st σ => ev_p ((TP_133 _).trans rfl) rfl,
   fun L σ a0 => ev_call ((TP_133 _).trans rfl) rfl rfl rfl rfl,
   fun l1 st σ x => ev_p ((TP_133 _).trans rfl) rfl,
   fun L st σ a => ev_getf ((TP_133 _).trans rfl),
   fun l0 st σ x => ev_p ((TP_133 _).trans rfl) rfl,
   fun l1 st σ x => ev_p ((TP_133 _).trans rfl) rfl,
   fun L st σ a => ev_getf ((TP_133 _).trans rfl),
   fun L σ a0 a1 a2 => ev_callv ((TP_133 _).trans rfl) rfl rfl rfl rfl,
   fun l1 st σ x => ev_p ((TP_133 _).trans rfl) rfl,
   fun L st σ a => ev_getf ((TP_133 _).trans rfl),
   fun L st σ a => ev_getf ((TP_133 _).trans rfl),
   fun L σ x => ev_r ((TP_133 _).trans rfl) rfl⟩
theorem TP_134 (pc : Nat) : TT 134 pc = ri_find TL_134 pc := rfl
theorem E_134 (x0 : Nat) (x1 : Int32) (σ : ri_S) : cal 134 [.ref x0, .int x1] σ = ev 134 (0, [some (.ref x0), some (.int x1)], []) σ := rfl
theorem I_134 :
  (∀ (l0 : Option Value) (st : List Value) (σ : ri_S) (x : Int32), ev 134 (0, [l0, some (.int x)], st) σ = ev 134 (1, [l0, some (.int x)], .int x :: st) σ) ∧
  (∀ (L : ri_L) (st : List Value) (σ : ri_S), ev 134 (1, L, st) σ = ev 134 (2, L, .int 0 :: st) σ) ∧
  (∀ (L : ri_L) (st : List Value) (σ : ri_S), ev 134 (2, L, st) σ = ev 134 (3, L, .int 1 :: st) σ) ∧
  (∀ (L : ri_L) (σ : ri_S) (a0 : Int32) (a1 : Int32) (a2 : Int32), ev 134 (3, L, [.int a2, .int a1, .int a0]) σ = (cal 137 [.int a0, .int a1, .int a2] σ).bind fun q => ev 134 (6, L, q.1.toList ++ []) q.2) ∧
  (∀ (L : ri_L) (st : List Value) (σ : ri_S) (x : Int32), ev 134 (6, L, .int x :: st) σ = if ¬ x = 0 then ev 134 (13, L, st) σ else ev 134 (9, L, st) σ) ∧
  (∀ (L : ri_L) (st : List Value) (σ : ri_S), ev 134 (9, L, st) σ = ev 134 (10, L, .int 1 :: st) σ) ∧
  (∀ (L : ri_L) (st : List Value) (σ : ri_S), ev 134 (10, L, st) σ = ev 134 (29, L, st) σ) ∧
  (∀ (l1 : Option Value) (st : List Value) (σ : ri_S) (x : Nat), ev 134 (13, [some (.ref x), l1], st) σ = ev 134 (14, [some (.ref x), l1], .ref x :: st) σ) ∧
  (∀ (L : ri_L) (st : List Value) (σ : ri_S) (a : Nat), ev 134 (14, L, .ref a :: st) σ = tv_o 8 4 (σ.1 a) fun v => ev 134 (17, L, v :: st) σ) ∧
  (∀ (l0 : Option Value) (st : List Value) (σ : ri_S) (x : Int32), ev 134 (17, [l0, some (.int x)], st) σ = ev 134 (18, [l0, some (.int x)], .int x :: st) σ) ∧
  (∀ (L : ri_L) (σ : ri_S) (a0 : Nat) (a1 : Int32), ev 134 (18, L, [.int a1, .ref a0]) σ = tv_k 5 (σ.1 a0) ((cal 82 [.ref a0, .int a1] σ).bind fun q => ev 134 (21, L, q.1.toList ++ []) q.2)) ∧
  (∀ (L : ri_L) (st : List Value) (σ : ri_S) (x : Int32), ev 134 (21, L, .int x :: st) σ = if x = 0 then ev 134 (28, L, st) σ else ev 134 (24, L, st) σ) ∧
  (∀ (L : ri_L) (st : List Value) (σ : ri_S), ev 134 (24, L, st) σ = ev 134 (25, L, .int 0 :: st) σ) ∧
  (∀ (L : ri_L) (st : List Value) (σ : ri_S), ev 134 (25, L, st) σ = ev 134 (29, L, st) σ) ∧
  (∀ (L : ri_L) (st : List Value) (σ : ri_S), ev 134 (28, L, st) σ = ev 134 (29, L, .int 3 :: st) σ) ∧
  (∀ (L : ri_L) (σ : ri_S) (a0 : Int32), ev 134 (29, L, [.int a0]) σ = (cal 135 [.int a0] σ).bind fun q => ev 134 (32, L, q.1.toList ++ []) q.2) ∧
  (∀ (l1 : Option Value) (st : List Value) (σ : ri_S) (x : Nat), ev 134 (32, [some (.ref x), l1], st) σ = ev 134 (33, [some (.ref x), l1], .ref x :: st) σ) ∧
  (∀ (L : ri_L) (st : List Value) (σ : ri_S) (a : Nat), ev 134 (33, L, .ref a :: st) σ = tv_o 8 3 (σ.1 a) fun v => ev 134 (36, L, v :: st) σ) ∧
  (∀ (L : ri_L) (σ : ri_S) (a0 : Nat), ev 134 (36, L, [.ref a0]) σ = tv_k 1 (σ.1 a0) ((cal 9 [.ref a0] σ).bind fun q => ev 134 (39, L, q.1.toList ++ []) q.2)) ∧
  (∀ (l1 : Option Value) (st : List Value) (σ : ri_S) (x : Nat), ev 134 (39, [some (.ref x), l1], st) σ = ev 134 (40, [some (.ref x), l1], .ref x :: st) σ) ∧
  (∀ (L : ri_L) (st : List Value) (σ : ri_S) (a : Nat), ev 134 (40, L, .ref a :: st) σ = tv_o 8 4 (σ.1 a) fun v => ev 134 (43, L, v :: st) σ) ∧
  (∀ (l0 : Option Value) (st : List Value) (σ : ri_S) (x : Int32), ev 134 (43, [l0, some (.int x)], st) σ = ev 134 (44, [l0, some (.int x)], .int x :: st) σ) ∧
  (∀ (l1 : Option Value) (st : List Value) (σ : ri_S) (x : Nat), ev 134 (44, [some (.ref x), l1], st) σ = ev 134 (45, [some (.ref x), l1], .ref x :: st) σ) ∧
  (∀ (L : ri_L) (st : List Value) (σ : ri_S) (a : Nat), ev 134 (45, L, .ref a :: st) σ = tv_o 8 1 (σ.1 a) fun v => ev 134 (48, L, v :: st) σ) ∧
  (∀ (L : ri_L) (σ : ri_S) (a0 : Nat) (a1 : Int32) (a2 : Nat), ev 134 (48, L, [.ref a2, .int a1, .ref a0]) σ = tv_k 5 (σ.1 a0) ((cal 85 [.ref a0, .int a1, .ref a2] σ).bind fun q => ev 134 (51, L, q.1.toList ++ []) q.2)) ∧
  (∀ (l1 : Option Value) (st : List Value) (σ : ri_S) (x : Nat), ev 134 (51, [some (.ref x), l1], st) σ = ev 134 (52, [some (.ref x), l1], .ref x :: st) σ) ∧
  (∀ (L : ri_L) (st : List Value) (σ : ri_S) (a : Nat), ev 134 (52, L, .ref a :: st) σ = tv_o 8 1 (σ.1 a) fun v => ev 134 (55, L, v :: st) σ) ∧
  (∀ (L : ri_L) (st : List Value) (σ : ri_S) (a : Nat), ev 134 (55, L, .ref a :: st) σ = tv_o 3 3 (σ.1 a) fun v => ev 134 (58, L, v :: st) σ) ∧
  (∀ (L : ri_L) (σ : ri_S) (x : Int32), ev 134 (58, L, [.int x]) σ = some (some (.int x), σ)) :=
  ⟨fun l0 st σ x => ev_p ((TP_134 _).trans rfl) rfl,
   fun L st σ => ev_p ((TP_134 _).trans rfl) rfl,
   fun L st σ => ev_p ((TP_134 _).trans rfl) rfl,
   fun L σ a0 a1 a2 => ev_call ((TP_134 _).trans rfl) rfl rfl rfl rfl,
   fun L st σ x => ev_b ((TP_134 _).trans rfl) rfl,
   fun L st σ => ev_p ((TP_134 _).trans rfl) rfl,
   fun L st σ => ev_p ((TP_134 _).trans rfl) rfl,
   fun l1 st σ x => ev_p ((TP_134 _).trans rfl) rfl,
   fun L st σ a => ev_getf ((TP_134 _).trans rfl),
   fun l0 st σ x => ev_p ((TP_134 _).trans rfl) rfl,
   fun L σ a0 a1 => ev_callv ((TP_134 _).trans rfl) rfl rfl rfl rfl,
   fun L st σ x => ev_b ((TP_134 _).trans rfl) rfl,
   fun L st σ => ev_p ((TP_134 _).trans rfl) rfl,
   fun L st σ => ev_p ((TP_134 _).trans rfl) rfl,
   fun L st σ => ev_p ((TP_134 _).trans rfl) rfl,
   fun L σ a0 => ev_call ((TP_134 _).trans rfl) rfl rfl rfl rfl,
   fun l1 st σ x => ev_p ((TP_134 _).trans rfl) rfl,
   fun L st σ a => ev_getf ((TP_134 _).trans rfl),
   fun L σ a0 => ev_callv ((TP_134 _).trans rfl) rfl rfl rfl rfl,
   fun l1 st σ x => ev_p ((TP_134 _).trans rfl) rfl,
   fun L st σ a => ev_getf ((TP_134 _).trans rfl),
   fun l0 st σ x => ev_p ((TP_134 _).trans rfl) rfl,
   fun l1 st σ x => ev_p ((TP_134 _).trans rfl) rfl,
   fun L st σ a => ev_getf ((TP_134 _).trans rfl),
   fun L σ a0 a1 a2 => ev_callv ((TP_134 _).trans rfl) rfl rfl rfl rfl,
   fun l1 st σ x => ev_p ((TP_134 _).trans rfl) rfl,
   fun L st σ a => ev_getf ((TP_134 _).trans rfl),
   fun L st σ a => ev_getf ((TP_134 _).trans rfl),
   fun L σ x => ev_r ((TP_134 _).trans rfl) rfl⟩
theorem TP_135 (pc : Nat) : TT 135 pc = ri_find TL_135 pc := rfl
theorem E_135 (x0 : Int32) (σ : ri_S) : cal 135 [.int x0] σ = ev 135 (0, [some (.int x0)], []) σ := rfl
theorem I_135 :
  (∀ (st : List Value) (σ : ri_S) (x : Int32), ev 135 (0, [some (.int x)], st) σ = ev 135 (1, [some (.int x)], .int x :: st) σ) ∧
  (∀ (L : ri_L) (st : List Value) (σ : ri_S), ev 135 (1, L, st) σ = ev 135 (2, L, .int 1 :: st) σ) ∧
  (∀ (L : ri_L) (st : List Value) (σ : ri_S) (x y : Int32), ev 135 (2, L, .int y :: .int x :: st) σ = if ¬ x = y then ev 135 (15, L, st) σ else ev 135 (5, L, st) σ) ∧
  (∀ (st : List Value) (σ : ri_S) (x : Int32), ev 135 (15, [some (.int x)], st) σ = ev 135 (16, [some (.int x)], .int x :: st) σ) ∧
  (∀ (L : ri_L) (st : List Value) (σ : ri_S), ev 135 (16, L, st) σ = ev 135 (17, L, .int 2 :: st) σ) ∧
  (∀ (L : ri_L) (st : List Value) (σ : ri_S) (x y : Int32), ev 135 (17, L, .int y :: .int x :: st) σ = if ¬ x = y then ev 135 (30, L, st) σ else ev 135 (20, L, st) σ) ∧
  (∀ (st : List Value) (σ : ri_S) (x : Int32), ev 135 (30, [some (.int x)], st) σ = ev 135 (31, [some (.int x)], .int x :: st) σ) ∧
  (∀ (L : ri_L) (st : List Value) (σ : ri_S), ev 135 (31, L, st) σ = ev 135 (32, L, .int 3 :: st) σ) ∧
  (∀ (L : ri_L) (st : List Value) (σ : ri_S) (x y : Int32), ev 135 (32, L, .int y :: .int x :: st) σ = if ¬ x = y then ev 135 (46, L, st) σ else ev 135 (35, L, st) σ) ∧
  (∀ (L : ri_L) (σ : ri_S), ev 135 (46, L, []) σ = some (none, σ)) :=
  ⟨fun st σ x => ev_p ((TP_135 _).trans rfl) rfl,
   fun L st σ => ev_p ((TP_135 _).trans rfl) rfl,
   fun L st σ x y => ev_b ((TP_135 _).trans rfl) rfl,
   fun st σ x => ev_p ((TP_135 _).trans rfl) rfl,
   fun L st σ => ev_p ((TP_135 _).trans rfl) rfl,
   fun L st σ x y => ev_b ((TP_135 _).trans rfl) rfl,
   fun st σ x => ev_p ((TP_135 _).trans rfl) rfl,
   fun L st σ => ev_p ((TP_135 _).trans rfl) rfl,
   fun L st σ x y => ev_b ((TP_135 _).trans rfl) rfl,
   fun L σ => ev_r ((TP_135 _).trans rfl) rfl⟩
theorem TP_136 (pc : Nat) : TT 136 pc = ri_find TL_136 pc := rfl
theorem E_136 (x0 : Int32) (x1 : Int32) (σ : ri_S) : cal 136 [.int x0, .int x1] σ = ev 136 (0, [some (.int x0), some (.int x1)], []) σ := rfl
theorem I_136 :
  (∀ (l1 : Option Value) (st : List Value) (σ : ri_S) (x : Int32), ev 136 (0, [some (.int x), l1], st) σ = ev 136 (1, [some (.int x), l1], .int x :: st) σ) ∧
  (∀ (L : ri_L) (st : List Value) (σ : ri_S), ev 136 (1, L, st) σ = ev 136 (2, L, .int 0 :: st) σ) ∧
  (∀ (l0 : Option Value) (st : List Value) (σ : ri_S) (x : Int32), ev 136 (2, [l0, some (.int x)], st) σ = ev 136 (3, [l0, some (.int x)], .int x :: st) σ) ∧
  (∀ (L : ri_L) (σ : ri_S) (a0 : Int32) (a1 : Int32) (a2 : Int32), ev 136 (3, L, [.int a2, .int a1, .int a0]) σ = (cal 137 [.int a0, .int a1, .int a2] σ).bind fun q => ev 136 (6, L, q.1.toList ++ []) q.2) ∧
  (∀ (L : ri_L) (st : List Value) (σ : ri_S) (x : Int32), ev 136 (6, L, .int x :: st) σ = if x = 0 then ev 136 (13, L, st) σ else ev 136 (9, L, st) σ) ∧
  (∀ (L : ri_L) (st : List Value) (σ : ri_S), ev 136 (9, L, st) σ = ev 136 (10, L, .int 0 :: st) σ) ∧
  (∀ (L : ri_L) (st : List Value) (σ : ri_S), ev 136 (10, L, st) σ = ev 136 (14, L, st) σ) ∧
  (∀ (L : ri_L) (st : List Value) (σ : ri_S), ev 136 (13, L, st) σ = ev 136 (14, L, .int 2 :: st) σ) ∧
  (∀ (L : ri_L) (σ : ri_S) (x : Int32), ev 136 (14, L, [.int x]) σ = some (some (.int x), σ)) :=
  ⟨fun l1 st σ x => ev_p ((TP_136 _).trans rfl) rfl,
   fun L st σ => ev_p ((TP_136 _).trans rfl) rfl,
   fun l0 st σ x => ev_p ((TP_136 _).trans rfl) rfl,
   fun L σ a0 a1 a2 => ev_call ((TP_136 _).trans rfl) rfl rfl rfl rfl,
   fun L st σ x => ev_b ((TP_136 _).trans rfl) rfl,
   fun L st σ => ev_p ((TP_136 _).trans rfl) rfl,
   fun L st σ => ev_p ((TP_136 _).trans rfl) rfl,
   fun L st σ => ev_p ((TP_136 _).trans rfl) rfl,
   fun L σ x => ev_r ((TP_136 _).trans rfl) rfl⟩
theorem TP_137 (pc : Nat) : TT 137 pc = ri_find TL_137 pc := rfl
theorem E_137 (x0 : Int32) (x1 : Int32) (x2 : Int32) (σ : ri_S) : cal 137 [.int x0, .int x1, .int x2] σ = ev 137 (0, [some (.int x0), some (.int x1), some (.int x2)], []) σ := rfl
theorem I_137 :
  (∀ (l1 l2 : Option Value) (st : List Value) (σ : ri_S) (x : Int32), ev 137 (0, [some (.int x), l1, l2], st) σ = ev 137 (1, [some (.int x), l1, l2], .int x :: st) σ) ∧
  (∀ (l0 l2 : Option Value) (st : List Value) (σ : ri_S) (x : Int32), ev 137 (1, [l0, some (.int x), l2], st) σ = ev 137 (2, [l0, some (.int x), l2], .int x :: st) σ) ∧
  (∀ (L : ri_L) (st : List Value) (σ : ri_S) (x y : Int32), ev 137 (2, L, .int y :: .int x :: st) σ = if x < y then ev 137 (14, L, st) σ else ev 137 (5, L, st) σ) ∧
  (∀ (l1 l2 : Option Value) (st : List Value) (σ : ri_S) (x : Int32), ev 137 (5, [some (.int x), l1, l2], st) σ = ev 137 (6, [some (.int x), l1, l2], .int x :: st) σ) ∧
  (∀ (l0 l1 : Option Value) (st : List Value) (σ : ri_S) (x : Int32), ev 137 (6, [l0, l1, some (.int x)], st) σ = ev 137 (7, [l0, l1, some (.int x)], .int x :: st) σ) ∧
  (∀ (L : ri_L) (st : List Value) (σ : ri_S) (x y : Int32), ev 137 (7, L, .int y :: .int x :: st) σ = if y < x then ev 137 (14, L, st) σ else ev 137 (10, L, st) σ) ∧
  (∀ (L : ri_L) (st : List Value) (σ : ri_S), ev 137 (10, L, st) σ = ev 137 (11, L, .int 1 :: st) σ) ∧
  (∀ (L : ri_L) (st : List Value) (σ : ri_S), ev 137 (11, L, st) σ = ev 137 (15, L, st) σ) ∧
  (∀ (L : ri_L) (st : List Value) (σ : ri_S), ev 137 (14, L, st) σ = ev 137 (15, L, .int 0 :: st) σ) ∧
  (∀ (L : ri_L) (σ : ri_S) (x : Int32), ev 137 (15, L, [.int x]) σ = tv_b x (some (some (.int x), σ))) :=
  ⟨fun l1 l2 st σ x => ev_p ((TP_137 _).trans rfl) rfl,
   fun l0 l2 st σ x => ev_p ((TP_137 _).trans rfl) rfl,
   fun L st σ x y => ev_b ((TP_137 _).trans rfl) rfl,
   fun l1 l2 st σ x => ev_p ((TP_137 _).trans rfl) rfl,
   fun l0 l1 st σ x => ev_p ((TP_137 _).trans rfl) rfl,
   fun L st σ x y => ev_b ((TP_137 _).trans rfl) rfl,
   fun L st σ => ev_p ((TP_137 _).trans rfl) rfl,
   fun L st σ => ev_p ((TP_137 _).trans rfl) rfl,
   fun L st σ => ev_p ((TP_137 _).trans rfl) rfl,
   fun L σ x => ev_r ((TP_137 _).trans rfl) rfl⟩
theorem TP_138 (pc : Nat) : TT 138 pc = ri_find TL_138 pc := rfl
theorem E_138 (x0 : Int32) (x1 : Int32) (σ : ri_S) : cal 138 [.int x0, .int x1] σ = ev 138 (0, [some (.int x0), some (.int x1)], []) σ := rfl
theorem I_138 :
  (∀ (l1 : Option Value) (st : List Value) (σ : ri_S) (x : Int32), ev 138 (0, [some (.int x), l1], st) σ = ev 138 (1, [some (.int x), l1], .int x :: st) σ) ∧
  (∀ (L : ri_L) (st : List Value) (σ : ri_S), ev 138 (1, L, st) σ = ev 138 (2, L, .int 5 :: st) σ) ∧
  (∀ (L : ri_L) (st : List Value) (σ : ri_S) (x y : Int32), ev 138 (2, L, .int y :: .int x :: st) σ = ev 138 (3, L, .int (x * y) :: st) σ) ∧
  (∀ (l0 : Option Value) (st : List Value) (σ : ri_S) (x : Int32), ev 138 (3, [l0, some (.int x)], st) σ = ev 138 (4, [l0, some (.int x)], .int x :: st) σ) ∧
  (∀ (L : ri_L) (st : List Value) (σ : ri_S) (x y : Int32), ev 138 (4, L, .int y :: .int x :: st) σ = ev 138 (5, L, .int (x + y) :: st) σ) ∧
  (∀ (L : ri_L) (σ : ri_S) (x : Int32), ev 138 (5, L, [.int x]) σ = some (some (.int x), σ)) :=
  ⟨fun l1 st σ x => ev_p ((TP_138 _).trans rfl) rfl,
   fun L st σ => ev_p ((TP_138 _).trans rfl) rfl,
   fun L st σ x y => ev_p ((TP_138 _).trans rfl) rfl,
   fun l0 st σ x => ev_p ((TP_138 _).trans rfl) rfl,
   fun L st σ x y => ev_p ((TP_138 _).trans rfl) rfl,
   fun L σ x => ev_r ((TP_138 _).trans rfl) rfl⟩
theorem TP_139 (pc : Nat) : TT 139 pc = ri_find TL_139 pc := rfl
theorem E_139 (x0 : Int32) (x1 : Int32) (σ : ri_S) : cal 139 [.int x0, .int x1] σ = ev 139 (0, [some (.int x0), some (.int x1)], []) σ := rfl
theorem I_139 :
  (∀ (l0 : Option Value) (st : List Value) (σ : ri_S) (x : Int32), ev 139 (0, [l0, some (.int x)], st) σ = ev 139 (1, [l0, some (.int x)], .int x :: st) σ) ∧
  (∀ (L : ri_L) (st : List Value) (σ : ri_S) (x : Int32), ev 139 (1, L, .int x :: st) σ = if x ≤ 0 then ev 139 (14, L, st) σ else ev 139 (4, L, st) σ) ∧
  (∀ (l1 : Option Value) (st : List Value) (σ : ri_S) (x : Int32), ev 139 (4, [some (.int x), l1], st) σ = ev 139 (5, [some (.int x), l1], .int x :: st) σ) ∧
  (∀ (l0 : Option Value) (st : List Value) (σ : ri_S) (x : Int32), ev 139 (5, [l0, some (.int x)], st) σ = ev 139 (6, [l0, some (.int x)], .int x :: st) σ) ∧
  (∀ (L : ri_L) (st : List Value) (σ : ri_S) (x y : Int32), ev 139 (6, L, .int y :: .int x :: st) σ = if y = 0 then none else ev 139 (7, L, .int (x - x / y * y) :: st) σ) ∧
  (∀ (l0 : Option Value) (st : List Value) (σ : ri_S) (x : Int32), ev 139 (7, [l0, some (.int x)], st) σ = ev 139 (8, [l0, some (.int x)], .int x :: st) σ) ∧
  (∀ (L : ri_L) (st : List Value) (σ : ri_S) (x y : Int32), ev 139 (8, L, .int y :: .int x :: st) σ = ev 139 (9, L, .int (x + y) :: st) σ) ∧
  (∀ (l0 : Option Value) (st : List Value) (σ : ri_S) (x : Int32), ev 139 (9, [l0, some (.int x)], st) σ = ev 139 (10, [l0, some (.int x)], .int x :: st) σ) ∧
  (∀ (L : ri_L) (st : List Value) (σ : ri_S) (x y : Int32), ev 139 (10, L, .int y :: .int x :: st) σ = if y = 0 then none else ev 139 (11, L, .int (x - x / y * y) :: st) σ) ∧
  (∀ (L : ri_L) (st : List Value) (σ : ri_S), ev 139 (11, L, st) σ = ev 139 (15, L, st) σ) ∧
  (∀ (L : ri_L) (st : List Value) (σ : ri_S), ev 139 (14, L, st) σ = ev 139 (15, L, .int 0 :: st) σ) ∧
  (∀ (L : ri_L) (σ : ri_S) (x : Int32), ev 139 (15, L, [.int x]) σ = some (some (.int x), σ)) :=
  ⟨fun l0 st σ x => ev_p ((TP_139 _).trans rfl) rfl,
   fun L st σ x => ev_b ((TP_139 _).trans rfl) rfl,
   fun l1 st σ x => ev_p ((TP_139 _).trans rfl) rfl,
   fun l0 st σ x => ev_p ((TP_139 _).trans rfl) rfl,
   fun L st σ x y => ev_d ((TP_139 _).trans rfl) rfl,
   fun l0 st σ x => ev_p ((TP_139 _).trans rfl) rfl,
   fun L st σ x y => ev_p ((TP_139 _).trans rfl) rfl,
   fun l0 st σ x => ev_p ((TP_139 _).trans rfl) rfl,
   fun L st σ x y => ev_d ((TP_139 _).trans rfl) rfl,
   fun L st σ => ev_p ((TP_139 _).trans rfl) rfl,
   fun L st σ => ev_p ((TP_139 _).trans rfl) rfl,
   fun L σ x => ev_r ((TP_139 _).trans rfl) rfl⟩
theorem TP_140 (pc : Nat) : TT 140 pc = ri_find TL_140 pc := rfl
theorem E_140 (x0 : Nat) (x1 : Int32) (σ : ri_S) : cal 140 [.ref x0, .int x1] σ = ev 140 (0, [some (.ref x0), some (.int x1)], []) σ := rfl
theorem I_140 :
  (∀ (l0 : Option Value) (st : List Value) (σ : ri_S) (x : Int32), ev 140 (0, [l0, some (.int x)], st) σ = ev 140 (1, [l0, some (.int x)], .int x :: st) σ) ∧
  (∀ (L : ri_L) (st : List Value) (σ : ri_S) (x : Int32), ev 140 (1, L, .int x :: st) σ = if x < 0 then ev 140 (16, L, st) σ else ev 140 (4, L, st) σ) ∧
  (∀ (l0 : Option Value) (st : List Value) (σ : ri_S) (x : Int32), ev 140 (4, [l0, some (.int x)], st) σ = ev 140 (5, [l0, some (.int x)], .int x :: st) σ) ∧
  (∀ (l1 : Option Value) (st : List Value) (σ : ri_S) (x : Nat), ev 140 (5, [some (.ref x), l1], st) σ = ev 140 (6, [some (.ref x), l1], .ref x :: st) σ) ∧
  (∀ (L : ri_L) (st : List Value) (σ : ri_S) (a : Nat), ev 140 (6, L, .ref a :: st) σ = tv_n (σ.1 a) fun n => ev 140 (7, L, .int (Int32.ofNat n) :: st) σ) ∧
  (∀ (L : ri_L) (st : List Value) (σ : ri_S) (x y : Int32), ev 140 (7, L, .int y :: .int x :: st) σ = if y ≤ x then ev 140 (16, L, st) σ else ev 140 (10, L, st) σ) ∧
  (∀ (l1 : Option Value) (st : List Value) (σ : ri_S) (x : Nat), ev 140 (10, [some (.ref x), l1], st) σ = ev 140 (11, [some (.ref x), l1], .ref x :: st) σ) ∧
  (∀ (l0 : Option Value) (st : List Value) (σ : ri_S) (x : Int32), ev 140 (11, [l0, some (.int x)], st) σ = ev 140 (12, [l0, some (.int x)], .int x :: st) σ) ∧
  (∀ (L : ri_L) (st : List Value) (σ : ri_S) (a : Nat) (i : Int32), ev 140 (12, L, .int i :: .ref a :: st) σ = tv_r 0 (σ.1 a) i fun n f j => ev 140 (13, L, .int (f j) :: st) σ) ∧
  (∀ (L : ri_L) (st : List Value) (σ : ri_S), ev 140 (13, L, st) σ = ev 140 (17, L, st) σ) ∧
  (∀ (L : ri_L) (st : List Value) (σ : ri_S), ev 140 (16, L, st) σ = ev 140 (17, L, .int 0 :: st) σ) ∧
  (∀ (L : ri_L) (σ : ri_S) (x : Int32), ev 140 (17, L, [.int x]) σ = some (some (.int x), σ)) :=
  ⟨fun l0 st σ x => ev_p ((TP_140 _).trans rfl) rfl,
   fun L st σ x => ev_b ((TP_140 _).trans rfl) rfl,
   fun l0 st σ x => ev_p ((TP_140 _).trans rfl) rfl,
   fun l1 st σ x => ev_p ((TP_140 _).trans rfl) rfl,
   fun L st σ a => ev_alen ((TP_140 _).trans rfl),
   fun L st σ x y => ev_b ((TP_140 _).trans rfl) rfl,
   fun l1 st σ x => ev_p ((TP_140 _).trans rfl) rfl,
   fun l0 st σ x => ev_p ((TP_140 _).trans rfl) rfl,
   fun L st σ a i => ev_iald ((TP_140 _).trans rfl),
   fun L st σ => ev_p ((TP_140 _).trans rfl) rfl,
   fun L st σ => ev_p ((TP_140 _).trans rfl) rfl,
   fun L σ x => ev_r ((TP_140 _).trans rfl) rfl⟩
theorem TP_141 (pc : Nat) : TT 141 pc = ri_find TL_141 pc := rfl
theorem E_141 (x0 : Nat) (x1 : Int32) (x2 : Int32) (σ : ri_S) : cal 141 [.ref x0, .int x1, .int x2] σ = ev 141 (0, [some (.ref x0), some (.int x1), some (.int x2)], []) σ := rfl
theorem I_141 :
  (∀ (l0 l2 : Option Value) (st : List Value) (σ : ri_S) (x : Int32), ev 141 (0, [l0, some (.int x), l2], st) σ = ev 141 (1, [l0, some (.int x), l2], .int x :: st) σ) ∧
  (∀ (L : ri_L) (st : List Value) (σ : ri_S) (x : Int32), ev 141 (1, L, .int x :: st) σ = if x < 0 then ev 141 (14, L, st) σ else ev 141 (4, L, st) σ) ∧
  (∀ (l0 l2 : Option Value) (st : List Value) (σ : ri_S) (x : Int32), ev 141 (4, [l0, some (.int x), l2], st) σ = ev 141 (5, [l0, some (.int x), l2], .int x :: st) σ) ∧
  (∀ (l1 l2 : Option Value) (st : List Value) (σ : ri_S) (x : Nat), ev 141 (5, [some (.ref x), l1, l2], st) σ = ev 141 (6, [some (.ref x), l1, l2], .ref x :: st) σ) ∧
  (∀ (L : ri_L) (st : List Value) (σ : ri_S) (a : Nat), ev 141 (6, L, .ref a :: st) σ = tv_n (σ.1 a) fun n => ev 141 (7, L, .int (Int32.ofNat n) :: st) σ) ∧
  (∀ (L : ri_L) (st : List Value) (σ : ri_S) (x y : Int32), ev 141 (7, L, .int y :: .int x :: st) σ = if y ≤ x then ev 141 (14, L, st) σ else ev 141 (10, L, st) σ) ∧
  (∀ (l1 l2 : Option Value) (st : List Value) (σ : ri_S) (x : Nat), ev 141 (10, [some (.ref x), l1, l2], st) σ = ev 141 (11, [some (.ref x), l1, l2], .ref x :: st) σ) ∧
  (∀ (l0 l2 : Option Value) (st : List Value) (σ : ri_S) (x : Int32), ev 141 (11, [l0, some (.int x), l2], st) σ = ev 141 (12, [l0, some (.int x), l2], .int x :: st) σ) ∧
  (∀ (l0 l1 : Option Value) (st : List Value) (σ : ri_S) (x : Int32), ev 141 (12, [l0, l1, some (.int x)], st) σ = ev 141 (13, [l0, l1, some (.int x)], .int x :: st) σ) ∧
  (∀ (L : ri_L) (st : List Value) (σ : ri_S) (a : Nat) (i x : Int32), ev 141 (13, L, .int x :: .int i :: .ref a :: st) σ = tv_r 0 (σ.1 a) i fun n f j => ev 141 (14, L, st) (ri_upd σ.1 a (.inl (0, n, upd f j x)), σ.2)) ∧
  (∀ (L : ri_L) (σ : ri_S), ev 141 (14, L, []) σ = some (none, σ)) :=
  ⟨fun l0 l2 st σ x => ev_p ((TP_141 _).trans rfl) rfl,
   fun L st σ x => ev_b ((TP_141 _).trans rfl) rfl,
   fun l0 l2 st σ x => ev_p ((TP_141 _).trans rfl) rfl,
   fun l1 l2 st σ x => ev_p ((TP_141 _).trans rfl) rfl,
   fun L st σ a => ev_alen ((TP_141 _).trans rfl),
   fun L st σ x y => ev_b ((TP_141 _).trans rfl) rfl,
   fun l1 l2 st σ x => ev_p ((TP_141 _).trans rfl) rfl,
   fun l0 l2 st σ x => ev_p ((TP_141 _).trans rfl) rfl,
   fun l0 l1 st σ x => ev_p ((TP_141 _).trans rfl) rfl,
   fun L st σ a i x => ev_iast ((TP_141 _).trans rfl),
   fun L σ => ev_r ((TP_141 _).trans rfl) rfl⟩
theorem TP_142 (pc : Nat) : TT 142 pc = ri_find TL_142 pc := rfl
theorem E_142 (x0 : Nat) (x1 : Nat) (σ : ri_S) : cal 142 [.ref x0, .ref x1] σ = ev 142 (0, [some (.ref x0), some (.ref x1)], []) σ := rfl
theorem I_142 :
  (∀ (l1 : Option Value) (st : List Value) (σ : ri_S) (x : Nat), ev 142 (0, [some (.ref x), l1], st) σ = ev 142 (1, [some (.ref x), l1], .ref x :: st) σ) ∧
  (∀ (L : ri_L) (st : List Value) (σ : ri_S), ev 142 (1, L, st) σ = ev 142 (2, L, .int 0 :: st) σ) ∧
  (∀ (l0 : Option Value) (st : List Value) (σ : ri_S) (x : Nat), ev 142 (2, [l0, some (.ref x)], st) σ = ev 142 (3, [l0, some (.ref x)], .ref x :: st) σ) ∧
  (∀ (L : ri_L) (st : List Value) (σ : ri_S), ev 142 (3, L, st) σ = ev 142 (4, L, .int 0 :: st) σ) ∧
  (∀ (l1 : Option Value) (st : List Value) (σ : ri_S) (x : Nat), ev 142 (4, [some (.ref x), l1], st) σ = ev 142 (5, [some (.ref x), l1], .ref x :: st) σ) ∧
  (∀ (L : ri_L) (st : List Value) (σ : ri_S) (a : Nat), ev 142 (5, L, .ref a :: st) σ = tv_n (σ.1 a) fun n => ev 142 (6, L, .int (Int32.ofNat n) :: st) σ) ∧
  (∀ (l0 : Option Value) (st : List Value) (σ : ri_S) (x : Nat), ev 142 (6, [l0, some (.ref x)], st) σ = ev 142 (7, [l0, some (.ref x)], .ref x :: st) σ) ∧
  (∀ (L : ri_L) (st : List Value) (σ : ri_S) (a : Nat), ev 142 (7, L, .ref a :: st) σ = tv_n (σ.1 a) fun n => ev 142 (8, L, .int (Int32.ofNat n) :: st) σ) ∧
  (∀ (L : ri_L) (σ : ri_S) (x y : Int32) (s0 s1 s2 s3 : Value), ev 142 (8, L, .int y :: .int x :: [s0, s1, s2, s3]) σ = ev 142 (11, L, .int (if y < x then y else x) :: [s0, s1, s2, s3]) σ) ∧
  (∀ (L : ri_L) (σ : ri_S) (n dp sp : Int32) (a b : Nat), ev 142 (11, L, [.int n, .int dp, .ref b, .int sp, .ref a]) σ = tv_c (σ.1 a) (σ.1 b) sp dp n fun n1 f => ev 142 (14, L, []) (ri_upd σ.1 b (.inl (0, n1, f)), σ.2)) ∧
  (∀ (L : ri_L) (σ : ri_S), ev 142 (14, L, []) σ = some (none, σ)) :=
  ⟨fun l1 st σ x => ev_p ((TP_142 _).trans rfl) rfl,
   fun L st σ => ev_p ((TP_142 _).trans rfl) rfl,
   fun l0 st σ x => ev_p ((TP_142 _).trans rfl) rfl,
   fun L st σ => ev_p ((TP_142 _).trans rfl) rfl,
   fun l1 st σ x => ev_p ((TP_142 _).trans rfl) rfl,
   fun L st σ a => ev_alen ((TP_142 _).trans rfl),
   fun l0 st σ x => ev_p ((TP_142 _).trans rfl) rfl,
   fun L st σ a => ev_alen ((TP_142 _).trans rfl),
   fun L σ x y s0 s1 s2 s3 => ev_p ((TP_142 _).trans rfl) rfl,
   fun L σ n dp sp a b => ev_copy ((TP_142 _).trans rfl),
   fun L σ => ev_r ((TP_142 _).trans rfl) rfl⟩
theorem TP_143 (pc : Nat) : TT 143 pc = ri_find TL_143 pc := rfl
theorem E_143 (x0 : Nat) (σ : ri_S) : cal 143 [.ref x0] σ = ev 143 (0, [some (.ref x0)], []) σ := rfl
theorem I_143 :
  (∀ (st : List Value) (σ : ri_S) (x : Nat), ev 143 (0, [some (.ref x)], st) σ = ev 143 (1, [some (.ref x)], .ref x :: st) σ) ∧
  (∀ (L : ri_L) (σ : ri_S) (a : Nat), ev 143 (1, L, [.ref a]) σ = ev 143 (4, L, []) σ) ∧
  (∀ (st : List Value) (σ : ri_S) (x : Nat), ev 143 (4, [some (.ref x)], st) σ = ev 143 (5, [some (.ref x)], .ref x :: st) σ) ∧
  (∀ (L : ri_L) (st : List Value) (σ : ri_S), ev 143 (5, L, st) σ = ev 143 (7, L, .int 120 :: st) σ) ∧
  (∀ (L : ri_L) (st : List Value) (σ : ri_S) (n : Int32), ev 143 (7, L, .int n :: st) σ = if n < 0 ∨ 2000 < n.toNatClampNeg then none else ev 143 (9, L, .ref σ.2 :: st) (ri_upd σ.1 σ.2 (.inl (0, n.toNatClampNeg, fun _ => 0)), σ.2 + 1)) ∧
  (∀ (L : ri_L) (st : List Value) (σ : ri_S) (a : Nat) (x : Nat), ev 143 (9, L, .ref x :: .ref a :: st) σ = tv_w 9 1 (σ.1 a) (.ref x) fun fs => ev 143 (12, L, st) (ri_upd σ.1 a (.inr (.inr (9, fs))), σ.2)) ∧
  (∀ (st : List Value) (σ : ri_S) (x : Nat), ev 143 (12, [some (.ref x)], st) σ = ev 143 (13, [some (.ref x)], .ref x :: st) σ) ∧
  (∀ (L : ri_L) (st : List Value) (σ : ri_S), ev 143 (13, L, st) σ = ev 143 (15, L, .int 96 :: st) σ) ∧
  (∀ (L : ri_L) (st : List Value) (σ : ri_S) (n : Int32), ev 143 (15, L, .int n :: st) σ = if n < 0 ∨ 2000 < n.toNatClampNeg then none else ev 143 (17, L, .ref σ.2 :: st) (ri_upd σ.1 σ.2 (.inl (0, n.toNatClampNeg, fun _ => 0)), σ.2 + 1)) ∧
  (∀ (L : ri_L) (st : List Value) (σ : ri_S) (a : Nat) (x : Nat), ev 143 (17, L, .ref x :: .ref a :: st) σ = tv_w 9 3 (σ.1 a) (.ref x) fun fs => ev 143 (20, L, st) (ri_upd σ.1 a (.inr (.inr (9, fs))), σ.2)) ∧
  (∀ (st : List Value) (σ : ri_S) (x : Nat), ev 143 (20, [some (.ref x)], st) σ = ev 143 (21, [some (.ref x)], .ref x :: st) σ) ∧
  (∀ (L : ri_L) (st : List Value) (σ : ri_S), ev 143 (21, L, st) σ = ev 143 (23, L, .int 96 :: st) σ) ∧
  (∀ (L : ri_L) (st : List Value) (σ : ri_S) (n : Int32), ev 143 (23, L, .int n :: st) σ = if n < 0 ∨ 2000 < n.toNatClampNeg then none else ev 143 (25, L, .ref σ.2 :: st) (ri_upd σ.1 σ.2 (.inl (0, n.toNatClampNeg, fun _ => 0)), σ.2 + 1)) ∧
  (∀ (L : ri_L) (st : List Value) (σ : ri_S) (a : Nat) (x : Nat), ev 143 (25, L, .ref x :: .ref a :: st) σ = tv_w 9 4 (σ.1 a) (.ref x) fun fs => ev 143 (28, L, st) (ri_upd σ.1 a (.inr (.inr (9, fs))), σ.2)) ∧
  (∀ (st : List Value) (σ : ri_S) (x : Nat), ev 143 (28, [some (.ref x)], st) σ = ev 143 (29, [some (.ref x)], .ref x :: st) σ) ∧
  (∀ (L : ri_L) (st : List Value) (σ : ri_S), ev 143 (29, L, st) σ = ev 143 (32, L, .int 1344 :: st) σ) ∧
  (∀ (L : ri_L) (st : List Value) (σ : ri_S) (n : Int32), ev 143 (32, L, .int n :: st) σ = if n < 0 ∨ 2000 < n.toNatClampNeg then none else ev 143 (34, L, .ref σ.2 :: st) (ri_upd σ.1 σ.2 (.inl (0, n.toNatClampNeg, fun _ => 0)), σ.2 + 1)) ∧
  (∀ (L : ri_L) (st : List Value) (σ : ri_S) (a : Nat) (x : Nat), ev 143 (34, L, .ref x :: .ref a :: st) σ = tv_w 9 5 (σ.1 a) (.ref x) fun fs => ev 143 (37, L, st) (ri_upd σ.1 a (.inr (.inr (9, fs))), σ.2)) ∧
  (∀ (st : List Value) (σ : ri_S) (x : Nat), ev 143 (37, [some (.ref x)], st) σ = ev 143 (38, [some (.ref x)], .ref x :: st) σ) ∧
  (∀ (L : ri_L) (st : List Value) (σ : ri_S), ev 143 (38, L, st) σ = ev 143 (41, L, .int 192 :: st) σ) ∧
  (∀ (L : ri_L) (st : List Value) (σ : ri_S) (n : Int32), ev 143 (41, L, .int n :: st) σ = if n < 0 ∨ 2000 < n.toNatClampNeg then none else ev 143 (43, L, .ref σ.2 :: st) (ri_upd σ.1 σ.2 (.inl (0, n.toNatClampNeg, fun _ => 0)), σ.2 + 1)) ∧
  (∀ (L : ri_L) (st : List Value) (σ : ri_S) (a : Nat) (x : Nat), ev 143 (43, L, .ref x :: .ref a :: st) σ = tv_w 9 7 (σ.1 a) (.ref x) fun fs => ev 143 (46, L, st) (ri_upd σ.1 a (.inr (.inr (9, fs))), σ.2)) ∧
  (∀ (st : List Value) (σ : ri_S) (x : Nat), ev 143 (46, [some (.ref x)], st) σ = ev 143 (47, [some (.ref x)], .ref x :: st) σ) ∧
  (∀ (L : ri_L) (st : List Value) (σ : ri_S), ev 143 (47, L, st) σ = ev 143 (48, L, .int 2 :: st) σ) ∧
  (∀ (L : ri_L) (st : List Value) (σ : ri_S) (n : Int32), ev 143 (48, L, .int n :: st) σ = if n < 0 ∨ 2000 < n.toNatClampNeg then none else ev 143 (50, L, .ref σ.2 :: st) (ri_upd σ.1 σ.2 (.inl (1, n.toNatClampNeg, fun _ => 0)), σ.2 + 1)) ∧
  (∀ (L : ri_L) (st : List Value) (σ : ri_S) (a : Nat) (x : Nat), ev 143 (50, L, .ref x :: .ref a :: st) σ = tv_w 9 8 (σ.1 a) (.ref x) fun fs => ev 143 (53, L, st) (ri_upd σ.1 a (.inr (.inr (9, fs))), σ.2)) ∧
  (∀ (st : List Value) (σ : ri_S) (x : Nat), ev 143 (53, [some (.ref x)], st) σ = ev 143 (54, [some (.ref x)], .ref x :: st) σ) ∧
  (∀ (L : ri_L) (st : List Value) (σ : ri_S), ev 143 (54, L, st) σ = ev 143 (57, L, .int 1875 :: st) σ) ∧
  (∀ (L : ri_L) (st : List Value) (σ : ri_S) (n : Int32), ev 143 (57, L, .int n :: st) σ = if n < 0 ∨ 2000 < n.toNatClampNeg then none else ev 143 (59, L, .ref σ.2 :: st) (ri_upd σ.1 σ.2 (.inl (0, n.toNatClampNeg, fun _ => 0)), σ.2 + 1)) ∧
  (∀ (L : ri_L) (st : List Value) (σ : ri_S) (a : Nat) (x : Nat), ev 143 (59, L, .ref x :: .ref a :: st) σ = tv_w 9 9 (σ.1 a) (.ref x) fun fs => ev 143 (62, L, st) (ri_upd σ.1 a (.inr (.inr (9, fs))), σ.2)) ∧
  (∀ (st : List Value) (σ : ri_S) (x : Nat), ev 143 (62, [some (.ref x)], st) σ = ev 143 (63, [some (.ref x)], .ref x :: st) σ) ∧
  (∀ (L : ri_L) (st : List Value) (σ : ri_S), ev 143 (63, L, st) σ = ev 143 (66, L, .int 1875 :: st) σ) ∧
  (∀ (L : ri_L) (st : List Value) (σ : ri_S) (n : Int32), ev 143 (66, L, .int n :: st) σ = if n < 0 ∨ 2000 < n.toNatClampNeg then none else ev 143 (68, L, .ref σ.2 :: st) (ri_upd σ.1 σ.2 (.inl (0, n.toNatClampNeg, fun _ => 0)), σ.2 + 1)) ∧
  (∀ (L : ri_L) (st : List Value) (σ : ri_S) (a : Nat) (x : Nat), ev 143 (68, L, .ref x :: .ref a :: st) σ = tv_w 9 10 (σ.1 a) (.ref x) fun fs => ev 143 (71, L, st) (ri_upd σ.1 a (.inr (.inr (9, fs))), σ.2)) ∧
  (∀ (st : List Value) (σ : ri_S) (x : Nat), ev 143 (71, [some (.ref x)], st) σ = ev 143 (72, [some (.ref x)], .ref x :: st) σ) ∧
  (∀ (L : ri_L) (st : List Value) (σ : ri_S) (a : Nat), ev 143 (72, L, .ref a :: st) σ = tv_o 9 3 (σ.1 a) fun v => ev 143 (75, L, v :: st) σ) ∧
  (∀ (L : ri_L) (σ : ri_S) (a0 : Nat), ev 143 (75, L, [.ref a0]) σ = (cal 148 [.ref a0] σ).bind fun q => ev 143 (78, L, q.1.toList ++ []) q.2) ∧
  (∀ (L : ri_L) (σ : ri_S), ev 143 (78, L, []) σ = some (none, σ)) :=
  ⟨fun st σ x => ev_p ((TP_143 _).trans rfl) rfl,
   fun L σ a => ev_p ((TP_143 _).trans rfl) rfl,
   fun st σ x => ev_p ((TP_143 _).trans rfl) rfl,
   fun L st σ => ev_p ((TP_143 _).trans rfl) rfl,
   fun L st σ n => ev_newa ((TP_143 _).trans rfl),
   fun L st σ a x => ev_putr ((TP_143 _).trans rfl),
   fun st σ x => ev_p ((TP_143 _).trans rfl) rfl,
   fun L st σ => ev_p ((TP_143 _).trans rfl) rfl,
   fun L st σ n => ev_newa ((TP_143 _).trans rfl),
   fun L st σ a x => ev_putr ((TP_143 _).trans rfl),
   fun st σ x => ev_p ((TP_143 _).trans rfl) rfl,
   fun L st σ => ev_p ((TP_143 _).trans rfl) rfl,
   fun L st σ n => ev_newa ((TP_143 _).trans rfl),
   fun L st σ a x => ev_putr ((TP_143 _).trans rfl),
   fun st σ x => ev_p ((TP_143 _).trans rfl) rfl,
   fun L st σ => ev_p ((TP_143 _).trans rfl) rfl,
   fun L st σ n => ev_newa ((TP_143 _).trans rfl),
   fun L st σ a x => ev_putr ((TP_143 _).trans rfl),
   fun st σ x => ev_p ((TP_143 _).trans rfl) rfl,
   fun L st σ => ev_p ((TP_143 _).trans rfl) rfl,
   fun L st σ n => ev_newa ((TP_143 _).trans rfl),
   fun L st σ a x => ev_putr ((TP_143 _).trans rfl),
   fun st σ x => ev_p ((TP_143 _).trans rfl) rfl,
   fun L st σ => ev_p ((TP_143 _).trans rfl) rfl,
   fun L st σ n => ev_newa ((TP_143 _).trans rfl),
   fun L st σ a x => ev_putr ((TP_143 _).trans rfl),
   fun st σ x => ev_p ((TP_143 _).trans rfl) rfl,
   fun L st σ => ev_p ((TP_143 _).trans rfl) rfl,
   fun L st σ n => ev_newa ((TP_143 _).trans rfl),
   fun L st σ a x => ev_putr ((TP_143 _).trans rfl),
   fun st σ x => ev_p ((TP_143 _).trans rfl) rfl,
   fun L st σ => ev_p ((TP_143 _).trans rfl) rfl,
   fun L st σ n => ev_newa ((TP_143 _).trans rfl),
   fun L st σ a x => ev_putr ((TP_143 _).trans rfl),
   fun st σ x => ev_p ((TP_143 _).trans rfl) rfl,
   fun L st σ a => ev_getf ((TP_143 _).trans rfl),
   fun L σ a0 => ev_call ((TP_143 _).trans rfl) rfl rfl rfl rfl,
   fun L σ => ev_r ((TP_143 _).trans rfl) rfl⟩
theorem TP_144 (pc : Nat) : TT 144 pc = ri_find TL_144 pc := rfl
theorem E_144 (x0 : Nat) (σ : ri_S) : cal 144 [.ref x0] σ = ev 144 (0, [some (.ref x0)], []) σ := rfl
theorem I_144 :
  (∀ (st : List Value) (σ : ri_S) (x : Nat), ev 144 (0, [some (.ref x)], st) σ = ev 144 (1, [some (.ref x)], .ref x :: st) σ) ∧
  (∀ (L : ri_L) (st : List Value) (σ : ri_S) (a : Nat), ev 144 (1, L, .ref a :: st) σ = tv_o 9 0 (σ.1 a) fun v => ev 144 (4, L, v :: st) σ) ∧
  (∀ (L : ri_L) (σ : ri_S) (x : Int32), ev 144 (4, L, [.int x]) σ = some (some (.int x), σ)) :=
  ⟨fun st σ x => ev_p ((TP_144 _).trans rfl) rfl,
   fun L st σ a => ev_getf ((TP_144 _).trans rfl),
   fun L σ x => ev_r ((TP_144 _).trans rfl) rfl⟩
theorem TP_145 (pc : Nat) : TT 145 pc = ri_find TL_145 pc := rfl
theorem E_145 (x0 : Nat) (x1 : Int32) (σ : ri_S) : cal 145 [.ref x0, .int x1] σ = ev 145 (0, [some (.ref x0), some (.int x1)], []) σ := rfl
theorem I_145 :
  (∀ (l1 : Option Value) (st : List Value) (σ : ri_S) (x : Nat), ev 145 (0, [some (.ref x), l1], st) σ = ev 145 (1, [some (.ref x), l1], .ref x :: st) σ) ∧
  (∀ (l0 : Option Value) (st : List Value) (σ : ri_S) (x : Int32), ev 145 (1, [l0, some (.int x)], st) σ = ev 145 (2, [l0, some (.int x)], .int x :: st) σ) ∧
  (∀ (L : ri_L) (st : List Value) (σ : ri_S) (a : Nat) (x : Int32), ev 145 (2, L, .int x :: .ref a :: st) σ = tv_w 9 0 (σ.1 a) (.int x) fun fs => ev 145 (5, L, st) (ri_upd σ.1 a (.inr (.inr (9, fs))), σ.2)) ∧
  (∀ (l0 : Option Value) (st : List Value) (σ : ri_S) (x : Int32), ev 145 (5, [l0, some (.int x)], st) σ = ev 145 (6, [l0, some (.int x)], .int x :: st) σ) ∧
  (∀ (L : ri_L) (st : List Value) (σ : ri_S) (x : Int32), ev 145 (6, L, .int x :: st) σ = if x ≤ 0 then ev 145 (13, L, st) σ else ev 145 (9, L, st) σ) ∧
  (∀ (L : ri_L) (st : List Value) (σ : ri_S), ev 145 (9, L, st) σ = ev 145 (10, L, .int 1 :: st) σ) ∧
  (∀ (L : ri_L) (st : List Value) (σ : ri_S), ev 145 (10, L, st) σ = ev 145 (14, L, st) σ) ∧
  (∀ (L : ri_L) (st : List Value) (σ : ri_S), ev 145 (13, L, st) σ = ev 145 (14, L, .int 0 :: st) σ) ∧
  (∀ (L : ri_L) (σ : ri_S) (x : Int32), ev 145 (14, L, [.int x]) σ = tv_b x (some (some (.int x), σ))) :=
  ⟨fun l1 st σ x => ev_p ((TP_145 _).trans rfl) rfl,
   fun l0 st σ x => ev_p ((TP_145 _).trans rfl) rfl,
   fun L st σ a x => ev_puti ((TP_145 _).trans rfl),
   fun l0 st σ x => ev_p ((TP_145 _).trans rfl) rfl,
   fun L st σ x => ev_b ((TP_145 _).trans rfl) rfl,
   fun L st σ => ev_p ((TP_145 _).trans rfl) rfl,
   fun L st σ => ev_p ((TP_145 _).trans rfl) rfl,
   fun L st σ => ev_p ((TP_145 _).trans rfl) rfl,
   fun L σ x => ev_r ((TP_145 _).trans rfl) rfl⟩
theorem TP_146 (pc : Nat) : TT 146 pc = ri_find TL_146 pc := rfl
theorem E_146 (x0 : Int64) (x1 : Int64) (x2 : Int64) (σ : ri_S) : cal 146 [.long x0, .long x1, .long x2] σ = ev 146 (0, [some (.long x0), none, some (.long x1), none, some (.long x2), none], []) σ := rfl
theorem I_146 :
  (∀ (l1 l2 l3 l4 l5 : Option Value) (st : List Value) (σ : ri_S) (x : Int64), ev 146 (0, [some (.long x), l1, l2, l3, l4, l5], st) σ = ev 146 (1, [some (.long x), l1, l2, l3, l4, l5], .long x :: st) σ) ∧
  (∀ (l0 l1 l3 l4 l5 : Option Value) (st : List Value) (σ : ri_S) (x : Int64), ev 146 (1, [l0, l1, some (.long x), l3, l4, l5], st) σ = ev 146 (2, [l0, l1, some (.long x), l3, l4, l5], .long x :: st) σ) ∧
  (∀ (L : ri_L) (st : List Value) (σ : ri_S) (x y : Int64), ev 146 (2, L, .long y :: .long x :: st) σ = ev 146 (3, L, .int (lg_cmp x y) :: st) σ) ∧
  (∀ (L : ri_L) (st : List Value) (σ : ri_S) (x : Int32), ev 146 (3, L, .int x :: st) σ = if x < 0 then ev 146 (17, L, st) σ else ev 146 (6, L, st) σ) ∧
  (∀ (l1 l2 l3 l4 l5 : Option Value) (st : List Value) (σ : ri_S) (x : Int64), ev 146 (6, [some (.long x), l1, l2, l3, l4, l5], st) σ = ev 146 (7, [some (.long x), l1, l2, l3, l4, l5], .long x :: st) σ) ∧
  (∀ (l0 l1 l2 l3 l5 : Option Value) (st : List Value) (σ : ri_S) (x : Int64), ev 146 (7, [l0, l1, l2, l3, some (.long x), l5], st) σ = ev 146 (9, [l0, l1, l2, l3, some (.long x), l5], .long x :: st) σ) ∧
  (∀ (L : ri_L) (st : List Value) (σ : ri_S) (x y : Int64), ev 146 (9, L, .long y :: .long x :: st) σ = ev 146 (10, L, .int (lg_cmp x y) :: st) σ) ∧
  (∀ (L : ri_L) (st : List Value) (σ : ri_S) (x : Int32), ev 146 (10, L, .int x :: st) σ = if 0 < x then ev 146 (17, L, st) σ else ev 146 (13, L, st) σ) ∧
  (∀ (L : ri_L) (st : List Value) (σ : ri_S), ev 146 (13, L, st) σ = ev 146 (14, L, .int 1 :: st) σ) ∧
  (∀ (L : ri_L) (st : List Value) (σ : ri_S), ev 146 (14, L, st) σ = ev 146 (18, L, st) σ) ∧
  (∀ (L : ri_L) (st : List Value) (σ : ri_S), ev 146 (17, L, st) σ = ev 146 (18, L, .int 0 :: st) σ) ∧
  (∀ (L : ri_L) (σ : ri_S) (x : Int32), ev 146 (18, L, [.int x]) σ = tv_b x (some (some (.int x), σ))) :=
  ⟨fun l1 l2 l3 l4 l5 st σ x => ev_p ((TP_146 _).trans rfl) rfl,
   fun l0 l1 l3 l4 l5 st σ x => ev_p ((TP_146 _).trans rfl) rfl,
   fun L st σ x y => ev_p ((TP_146 _).trans rfl) rfl,
   fun L st σ x => ev_b ((TP_146 _).trans rfl) rfl,
   fun l1 l2 l3 l4 l5 st σ x => ev_p ((TP_146 _).trans rfl) rfl,
   fun l0 l1 l2 l3 l5 st σ x => ev_p ((TP_146 _).trans rfl) rfl,
   fun L st σ x y => ev_p ((TP_146 _).trans rfl) rfl,
   fun L st σ x => ev_b ((TP_146 _).trans rfl) rfl,
   fun L st σ => ev_p ((TP_146 _).trans rfl) rfl,
   fun L st σ => ev_p ((TP_146 _).trans rfl) rfl,
   fun L st σ => ev_p ((TP_146 _).trans rfl) rfl,
   fun L σ x => ev_r ((TP_146 _).trans rfl) rfl⟩
theorem TP_147 (pc : Nat) : TT 147 pc = ri_find TL_147 pc := rfl
theorem E_147 (x0 : Nat) (x1 : Int32) (x2 : Nat) (x3 : Int32) (σ : ri_S) : cal 147 [.ref x0, .int x1, .ref x2, .int x3] σ = ev 147 (0, [some (.ref x0), some (.int x1), some (.ref x2), some (.int x3), none], []) σ := rfl
theorem H_147_3 (l0 l1 l2 l3 : Option Value) (st : List Value) (σ : ri_S) (x : Int32) : ev 147 (3, [l0, l1, l2, l3, some (.int x)], st) σ = ev 147 (5, [l0, l1, l2, l3, some (.int x)], .int x :: st) σ := ev_p ((TP_147 _).trans rfl) rfl
theorem I_147 :
  (∀ (L : ri_L) (st : List Value) (σ : ri_S), ev 147 (0, L, st) σ = ev 147 (1, L, .int 0 :: st) σ) ∧
  (∀ (l0 l1 l2 l3 l4 : Option Value) (st : List Value) (σ : ri_S) (x : Int32), ev 147 (1, [l0, l1, l2, l3, l4], .int x :: st) σ = ev 147 (3, [l0, l1, l2, ri_clr l3, some (.int x)], st) σ) ∧
  (∀ (L : ri_L) (st : List Value) (σ : ri_S), ev 147 (5, L, st) σ = ev 147 (7, L, .int 96 :: st) σ) ∧
  (∀ (L : ri_L) (st : List Value) (σ : ri_S) (x y : Int32), ev 147 (7, L, .int y :: .int x :: st) σ = if y ≤ x then ev 147 (28, L, st) σ else ev 147 (10, L, st) σ) ∧
  (∀ (l0 l1 l3 l4 : Option Value) (st : List Value) (σ : ri_S) (x : Nat), ev 147 (10, [l0, l1, some (.ref x), l3, l4], st) σ = ev 147 (11, [l0, l1, some (.ref x), l3, l4], .ref x :: st) σ) ∧
  (∀ (l0 l1 l2 l4 : Option Value) (st : List Value) (σ : ri_S) (x : Int32), ev 147 (11, [l0, l1, l2, some (.int x), l4], st) σ = ev 147 (12, [l0, l1, l2, some (.int x), l4], .int x :: st) σ) ∧
  (∀ (l0 l1 l2 l3 : Option Value) (st : List Value) (σ : ri_S) (x : Int32), ev 147 (12, [l0, l1, l2, l3, some (.int x)], st) σ = ev 147 (14, [l0, l1, l2, l3, some (.int x)], .int x :: st) σ) ∧
  (∀ (L : ri_L) (st : List Value) (σ : ri_S) (x y : Int32), ev 147 (14, L, .int y :: .int x :: st) σ = ev 147 (15, L, .int (x + y) :: st) σ) ∧
  (∀ (l1 l2 l3 l4 : Option Value) (st : List Value) (σ : ri_S) (x : Nat), ev 147 (15, [some (.ref x), l1, l2, l3, l4], st) σ = ev 147 (16, [some (.ref x), l1, l2, l3, l4], .ref x :: st) σ) ∧
  (∀ (l0 l2 l3 l4 : Option Value) (st : List Value) (σ : ri_S) (x : Int32), ev 147 (16, [l0, some (.int x), l2, l3, l4], st) σ = ev 147 (17, [l0, some (.int x), l2, l3, l4], .int x :: st) σ) ∧
  (∀ (l0 l1 l2 l3 : Option Value) (st : List Value) (σ : ri_S) (x : Int32), ev 147 (17, [l0, l1, l2, l3, some (.int x)], st) σ = ev 147 (19, [l0, l1, l2, l3, some (.int x)], .int x :: st) σ) ∧
  (∀ (L : ri_L) (st : List Value) (σ : ri_S) (x y : Int32), ev 147 (19, L, .int y :: .int x :: st) σ = ev 147 (20, L, .int (x + y) :: st) σ) ∧
  (∀ (L : ri_L) (st : List Value) (σ : ri_S) (a : Nat) (i : Int32), ev 147 (20, L, .int i :: .ref a :: st) σ = tv_r 0 (σ.1 a) i fun n f j => ev 147 (21, L, .int (f j) :: st) σ) ∧
  (∀ (L : ri_L) (st : List Value) (σ : ri_S) (a : Nat) (i x : Int32), ev 147 (21, L, .int x :: .int i :: .ref a :: st) σ = tv_r 0 (σ.1 a) i fun n f j => ev 147 (22, L, st) (ri_upd σ.1 a (.inl (0, n, upd f j x)), σ.2)) ∧
  (∀ (l0 l1 l2 l3 : Option Value) (st : List Value) (σ : ri_S) (x : Int32), ev 147 (22, [l0, l1, l2, l3, some (.int x)], st) σ = ev 147 (25, [l0, l1, l2, ri_clr l3, some (.int (x + 1))], st) σ) ∧
  (∀ (L : ri_L) (st : List Value) (σ : ri_S), ev 147 (25, L, st) σ = ev 147 (3, L, st) σ) ∧
  (∀ (L : ri_L) (σ : ri_S), ev 147 (28, L, []) σ = some (none, σ)) :=
  ⟨fun L st σ => ev_p ((TP_147 _).trans rfl) rfl,
   fun l0 l1 l2 l3 l4 st σ x => ev_p ((TP_147 _).trans rfl) rfl,
   fun L st σ => ev_p ((TP_147 _).trans rfl) rfl,
   fun L st σ x y => ev_b ((TP_147 _).trans rfl) rfl,
   fun l0 l1 l3 l4 st σ x => ev_p ((TP_147 _).trans rfl) rfl,
   fun l0 l1 l2 l4 st σ x => ev_p ((TP_147 _).trans rfl) rfl,
   fun l0 l1 l2 l3 st σ x => ev_p ((TP_147 _).trans rfl) rfl,
   fun L st σ x y => ev_p ((TP_147 _).trans rfl) rfl,
   fun l1 l2 l3 l4 st σ x => ev_p ((TP_147 _).trans rfl) rfl,
   fun l0 l2 l3 l4 st σ x => ev_p ((TP_147 _).trans rfl) rfl,
   fun l0 l1 l2 l3 st σ x => ev_p ((TP_147 _).trans rfl) rfl,
   fun L st σ x y => ev_p ((TP_147 _).trans rfl) rfl,
   fun L st σ a i => ev_iald ((TP_147 _).trans rfl),
   fun L st σ a i x => ev_iast ((TP_147 _).trans rfl),
   fun l0 l1 l2 l3 st σ x => ev_p ((TP_147 _).trans rfl) rfl,
   fun L st σ => ev_p ((TP_147 _).trans rfl) rfl,
   fun L σ => ev_r ((TP_147 _).trans rfl) rfl⟩
theorem TP_148 (pc : Nat) : TT 148 pc = ri_find TL_148 pc := rfl
theorem E_148 (x0 : Nat) (σ : ri_S) : cal 148 [.ref x0] σ = ev 148 (0, [some (.ref x0), none], []) σ := rfl
theorem H_148_2 (l0 : Option Value) (st : List Value) (σ : ri_S) (x : Int32) : ev 148 (2, [l0, some (.int x)], st) σ = ev 148 (3, [l0, some (.int x)], .int x :: st) σ := ev_p ((TP_148 _).trans rfl) rfl
theorem I_148 :
  (∀ (L : ri_L) (st : List Value) (σ : ri_S), ev 148 (0, L, st) σ = ev 148 (1, L, .int 0 :: st) σ) ∧
  (∀ (l0 l1 : Option Value) (st : List Value) (σ : ri_S) (x : Int32), ev 148 (1, [l0, l1], .int x :: st) σ = ev 148 (2, [ri_clr l0, some (.int x)], st) σ) ∧
  (∀ (L : ri_L) (st : List Value) (σ : ri_S), ev 148 (3, L, st) σ = ev 148 (5, L, .int 96 :: st) σ) ∧
  (∀ (L : ri_L) (st : List Value) (σ : ri_S) (x y : Int32), ev 148 (5, L, .int y :: .int x :: st) σ = if y ≤ x then ev 148 (18, L, st) σ else ev 148 (8, L, st) σ) ∧
  (∀ (l1 : Option Value) (st : List Value) (σ : ri_S) (x : Nat), ev 148 (8, [some (.ref x), l1], st) σ = ev 148 (9, [some (.ref x), l1], .ref x :: st) σ) ∧
  (∀ (l0 : Option Value) (st : List Value) (σ : ri_S) (x : Int32), ev 148 (9, [l0, some (.int x)], st) σ = ev 148 (10, [l0, some (.int x)], .int x :: st) σ) ∧
  (∀ (L : ri_L) (st : List Value) (σ : ri_S), ev 148 (10, L, st) σ = ev 148 (11, L, .int 0 :: st) σ) ∧
  (∀ (L : ri_L) (st : List Value) (σ : ri_S) (a : Nat) (i x : Int32), ev 148 (11, L, .int x :: .int i :: .ref a :: st) σ = tv_r 0 (σ.1 a) i fun n f j => ev 148 (12, L, st) (ri_upd σ.1 a (.inl (0, n, upd f j x)), σ.2)) ∧
  (∀ (l0 : Option Value) (st : List Value) (σ : ri_S) (x : Int32), ev 148 (12, [l0, some (.int x)], st) σ = ev 148 (15, [ri_clr l0, some (.int (x + 1))], st) σ) ∧
  (∀ (L : ri_L) (st : List Value) (σ : ri_S), ev 148 (15, L, st) σ = ev 148 (2, L, st) σ) ∧
  (∀ (L : ri_L) (σ : ri_S), ev 148 (18, L, []) σ = some (none, σ)) :=
  ⟨fun L st σ => ev_p ((TP_148 _).trans rfl) rfl,
   fun l0 l1 st σ x => ev_p ((TP_148 _).trans rfl) rfl,
   fun L st σ => ev_p ((TP_148 _).trans rfl) rfl,
   fun L st σ x y => ev_b ((TP_148 _).trans rfl) rfl,
   fun l1 st σ x => ev_p ((TP_148 _).trans rfl) rfl,
   fun l0 st σ x => ev_p ((TP_148 _).trans rfl) rfl,
   fun L st σ => ev_p ((TP_148 _).trans rfl) rfl,
   fun L st σ a i x => ev_iast ((TP_148 _).trans rfl),
   fun l0 st σ x => ev_p ((TP_148 _).trans rfl) rfl,
   fun L st σ => ev_p ((TP_148 _).trans rfl) rfl,
   fun L σ => ev_r ((TP_148 _).trans rfl) rfl⟩
theorem TP_149 (pc : Nat) : TT 149 pc = ri_find TL_149 pc := rfl
theorem E_149 (x0 : Nat) (x1 : Int32) (x2 : Int32) (σ : ri_S) : cal 149 [.ref x0, .int x1, .int x2] σ = ev 149 (0, [some (.ref x0), some (.int x1), some (.int x2)], []) σ := rfl
theorem I_149 :
  (∀ (l1 l2 : Option Value) (st : List Value) (σ : ri_S) (x : Nat), ev 149 (0, [some (.ref x), l1, l2], st) σ = ev 149 (1, [some (.ref x), l1, l2], .ref x :: st) σ) ∧
  (∀ (L : ri_L) (st : List Value) (σ : ri_S), ev 149 (1, L, st) σ = ev 149 (3, L, .int 9 :: st) σ) ∧
  (∀ (L : ri_L) (st : List Value) (σ : ri_S), ev 149 (3, L, st) σ = ev 149 (5, L, .int 10 :: st) σ) ∧
  (∀ (l0 l2 : Option Value) (st : List Value) (σ : ri_S) (x : Int32), ev 149 (5, [l0, some (.int x), l2], st) σ = ev 149 (6, [l0, some (.int x), l2], .int x :: st) σ) ∧
  (∀ (L : ri_L) (st : List Value) (σ : ri_S) (x y : Int32), ev 149 (6, L, .int y :: .int x :: st) σ = ev 149 (7, L, .int (x * y) :: st) σ) ∧
  (∀ (L : ri_L) (st : List Value) (σ : ri_S) (x y : Int32), ev 149 (7, L, .int y :: .int x :: st) σ = ev 149 (8, L, .int (x + y) :: st) σ) ∧
  (∀ (l0 l1 : Option Value) (st : List Value) (σ : ri_S) (x : Int32), ev 149 (8, [l0, l1, some (.int x)], st) σ = ev 149 (9, [l0, l1, some (.int x)], .int x :: st) σ) ∧
  (∀ (L : ri_L) (st : List Value) (σ : ri_S) (x y : Int32), ev 149 (9, L, .int y :: .int x :: st) σ = ev 149 (10, L, .int (x + y) :: st) σ) ∧
  (∀ (L : ri_L) (st : List Value) (σ : ri_S) (a : Nat) (i : Int32), ev 149 (10, L, .int i :: .ref a :: st) σ = tv_r 0 (σ.1 a) i fun n f j => ev 149 (11, L, .int (f j) :: st) σ) ∧
  (∀ (L : ri_L) (σ : ri_S) (x : Int32), ev 149 (11, L, [.int x]) σ = some (some (.int x), σ)) :=
  ⟨fun l1 l2 st σ x => ev_p ((TP_149 _).trans rfl) rfl,
   fun L st σ => ev_p ((TP_149 _).trans rfl) rfl,
   fun L st σ => ev_p ((TP_149 _).trans rfl) rfl,
   fun l0 l2 st σ x => ev_p ((TP_149 _).trans rfl) rfl,
   fun L st σ x y => ev_p ((TP_149 _).trans rfl) rfl,
   fun L st σ x y => ev_p ((TP_149 _).trans rfl) rfl,
   fun l0 l1 st σ x => ev_p ((TP_149 _).trans rfl) rfl,
   fun L st σ x y => ev_p ((TP_149 _).trans rfl) rfl,
   fun L st σ a i => ev_iald ((TP_149 _).trans rfl),
   fun L σ x => ev_r ((TP_149 _).trans rfl) rfl⟩
theorem TP_150 (pc : Nat) : TT 150 pc = ri_find TL_150 pc := rfl
theorem E_150 (x0 : Nat) (x1 : Int32) (x2 : Int32) (σ : ri_S) : cal 150 [.ref x0, .int x1, .int x2] σ = ev 150 (0, [some (.ref x0), some (.int x1), some (.int x2)], []) σ := rfl
theorem I_150 :
  (∀ (l1 l2 : Option Value) (st : List Value) (σ : ri_S) (x : Nat), ev 150 (0, [some (.ref x), l1, l2], st) σ = ev 150 (1, [some (.ref x), l1, l2], .ref x :: st) σ) ∧
  (∀ (L : ri_L) (st : List Value) (σ : ri_S), ev 150 (1, L, st) σ = ev 150 (3, L, .int 71 :: st) σ) ∧
  (∀ (L : ri_L) (st : List Value) (σ : ri_S), ev 150 (3, L, st) σ = ev 150 (4, L, .int 5 :: st) σ) ∧
  (∀ (l0 l2 : Option Value) (st : List Value) (σ : ri_S) (x : Int32), ev 150 (4, [l0, some (.int x), l2], st) σ = ev 150 (5, [l0, some (.int x), l2], .int x :: st) σ) ∧
  (∀ (L : ri_L) (st : List Value) (σ : ri_S) (x y : Int32), ev 150 (5, L, .int y :: .int x :: st) σ = ev 150 (6, L, .int (x * y) :: st) σ) ∧
  (∀ (L : ri_L) (st : List Value) (σ : ri_S) (x y : Int32), ev 150 (6, L, .int y :: .int x :: st) σ = ev 150 (7, L, .int (x + y) :: st) σ) ∧
  (∀ (l0 l1 : Option Value) (st : List Value) (σ : ri_S) (x : Int32), ev 150 (7, [l0, l1, some (.int x)], st) σ = ev 150 (8, [l0, l1, some (.int x)], .int x :: st) σ) ∧
  (∀ (L : ri_L) (st : List Value) (σ : ri_S) (x y : Int32), ev 150 (8, L, .int y :: .int x :: st) σ = ev 150 (9, L, .int (x + y) :: st) σ) ∧
  (∀ (L : ri_L) (st : List Value) (σ : ri_S) (a : Nat) (i : Int32), ev 150 (9, L, .int i :: .ref a :: st) σ = tv_r 0 (σ.1 a) i fun n f j => ev 150 (10, L, .int (f j) :: st) σ) ∧
  (∀ (L : ri_L) (σ : ri_S) (x : Int32), ev 150 (10, L, [.int x]) σ = some (some (.int x), σ)) :=
  ⟨fun l1 l2 st σ x => ev_p ((TP_150 _).trans rfl) rfl,
   fun L st σ => ev_p ((TP_150 _).trans rfl) rfl,
   fun L st σ => ev_p ((TP_150 _).trans rfl) rfl,
   fun l0 l2 st σ x => ev_p ((TP_150 _).trans rfl) rfl,
   fun L st σ x y => ev_p ((TP_150 _).trans rfl) rfl,
   fun L st σ x y => ev_p ((TP_150 _).trans rfl) rfl,
   fun l0 l1 st σ x => ev_p ((TP_150 _).trans rfl) rfl,
   fun L st σ x y => ev_p ((TP_150 _).trans rfl) rfl,
   fun L st σ a i => ev_iald ((TP_150 _).trans rfl),
   fun L σ x => ev_r ((TP_150 _).trans rfl) rfl⟩
theorem TP_151 (pc : Nat) : TT 151 pc = ri_find TL_151 pc := rfl
theorem E_151 (x0 : Nat) (x1 : Int32) (x2 : Int32) (σ : ri_S) : cal 151 [.ref x0, .int x1, .int x2] σ = ev 151 (0, [some (.ref x0), some (.int x1), some (.int x2)], []) σ := rfl
theorem I_151 :
  (∀ (l1 l2 : Option Value) (st : List Value) (σ : ri_S) (x : Nat), ev 151 (0, [some (.ref x), l1, l2], st) σ = ev 151 (1, [some (.ref x), l1, l2], .ref x :: st) σ) ∧
  (∀ (L : ri_L) (st : List Value) (σ : ri_S), ev 151 (1, L, st) σ = ev 151 (3, L, .int 39 :: st) σ) ∧
  (∀ (L : ri_L) (st : List Value) (σ : ri_S), ev 151 (3, L, st) σ = ev 151 (4, L, .int 4 :: st) σ) ∧
  (∀ (l0 l2 : Option Value) (st : List Value) (σ : ri_S) (x : Int32), ev 151 (4, [l0, some (.int x), l2], st) σ = ev 151 (5, [l0, some (.int x), l2], .int x :: st) σ) ∧
  (∀ (L : ri_L) (st : List Value) (σ : ri_S) (x y : Int32), ev 151 (5, L, .int y :: .int x :: st) σ = ev 151 (6, L, .int (x * y) :: st) σ) ∧
  (∀ (L : ri_L) (st : List Value) (σ : ri_S) (x y : Int32), ev 151 (6, L, .int y :: .int x :: st) σ = ev 151 (7, L, .int (x + y) :: st) σ) ∧
  (∀ (l0 l1 : Option Value) (st : List Value) (σ : ri_S) (x : Int32), ev 151 (7, [l0, l1, some (.int x)], st) σ = ev 151 (8, [l0, l1, some (.int x)], .int x :: st) σ) ∧
  (∀ (L : ri_L) (st : List Value) (σ : ri_S) (x y : Int32), ev 151 (8, L, .int y :: .int x :: st) σ = ev 151 (9, L, .int (x + y) :: st) σ) ∧
  (∀ (L : ri_L) (st : List Value) (σ : ri_S) (a : Nat) (i : Int32), ev 151 (9, L, .int i :: .ref a :: st) σ = tv_r 0 (σ.1 a) i fun n f j => ev 151 (10, L, .int (f j) :: st) σ) ∧
  (∀ (L : ri_L) (σ : ri_S) (x : Int32), ev 151 (10, L, [.int x]) σ = some (some (.int x), σ)) :=
  ⟨fun l1 l2 st σ x => ev_p ((TP_151 _).trans rfl) rfl,
   fun L st σ => ev_p ((TP_151 _).trans rfl) rfl,
   fun L st σ => ev_p ((TP_151 _).trans rfl) rfl,
   fun l0 l2 st σ x => ev_p ((TP_151 _).trans rfl) rfl,
   fun L st σ x y => ev_p ((TP_151 _).trans rfl) rfl,
   fun L st σ x y => ev_p ((TP_151 _).trans rfl) rfl,
   fun l0 l1 st σ x => ev_p ((TP_151 _).trans rfl) rfl,
   fun L st σ x y => ev_p ((TP_151 _).trans rfl) rfl,
   fun L st σ a i => ev_iald ((TP_151 _).trans rfl),
   fun L σ x => ev_r ((TP_151 _).trans rfl) rfl⟩
theorem TP_152 (pc : Nat) : TT 152 pc = ri_find TL_152 pc := rfl
theorem E_152 (x0 : Nat) (x1 : Int32) (σ : ri_S) : cal 152 [.ref x0, .int x1] σ = ev 152 (0, [some (.ref x0), some (.int x1)], []) σ := rfl
theorem I_152 :
  (∀ (l0 : Option Value) (st : List Value) (σ : ri_S) (x : Int32), ev 152 (0, [l0, some (.int x)], st) σ = ev 152 (1, [l0, some (.int x)], .int x :: st) σ) ∧
  (∀ (L : ri_L) (st : List Value) (σ : ri_S) (x : Int32), ev 152 (1, L, .int x :: st) σ = ev 152 (2, L, .long x.toInt64 :: st) σ) ∧
  (∀ (L : ri_L) (st : List Value) (σ : ri_S), ev 152 (2, L, st) σ = ev 152 (3, L, .long 0 :: st) σ) ∧
  (∀ (l1 : Option Value) (st : List Value) (σ : ri_S) (x : Nat), ev 152 (3, [some (.ref x), l1], st) σ = ev 152 (4, [some (.ref x), l1], .ref x :: st) σ) ∧
  (∀ (L : ri_L) (st : List Value) (σ : ri_S), ev 152 (4, L, st) σ = ev 152 (5, L, .int 0 :: st) σ) ∧
  (∀ (L : ri_L) (st : List Value) (σ : ri_S) (a : Nat) (i : Int32), ev 152 (5, L, .int i :: .ref a :: st) σ = tv_r 0 (σ.1 a) i fun n f j => ev 152 (6, L, .int (f j) :: st) σ) ∧
  (∀ (L : ri_L) (st : List Value) (σ : ri_S), ev 152 (6, L, st) σ = ev 152 (7, L, .int 1 :: st) σ) ∧
  (∀ (L : ri_L) (st : List Value) (σ : ri_S) (x y : Int32), ev 152 (7, L, .int y :: .int x :: st) σ = ev 152 (8, L, .int (x - y) :: st) σ) ∧
  (∀ (L : ri_L) (st : List Value) (σ : ri_S) (x : Int32), ev 152 (8, L, .int x :: st) σ = ev 152 (9, L, .long x.toInt64 :: st) σ) ∧
  (∀ (L : ri_L) (σ : ri_S) (a0 : Int64) (a1 : Int64) (a2 : Int64), ev 152 (9, L, [.long a2, .long a1, .long a0]) σ = (cal 146 [.long a0, .long a1, .long a2] σ).bind fun q => ev 152 (12, L, q.1.toList ++ []) q.2) ∧
  (∀ (L : ri_L) (σ : ri_S) (x : Int32), ev 152 (12, L, [.int x]) σ = tv_b x (some (some (.int x), σ))) :=
  ⟨fun l0 st σ x => ev_p ((TP_152 _).trans rfl) rfl,
   fun L st σ x => ev_p ((TP_152 _).trans rfl) rfl,
   fun L st σ => ev_p ((TP_152 _).trans rfl) rfl,
   fun l1 st σ x => ev_p ((TP_152 _).trans rfl) rfl,
   fun L st σ => ev_p ((TP_152 _).trans rfl) rfl,
   fun L st σ a i => ev_iald ((TP_152 _).trans rfl),
   fun L st σ => ev_p ((TP_152 _).trans rfl) rfl,
   fun L st σ x y => ev_p ((TP_152 _).trans rfl) rfl,
   fun L st σ x => ev_p ((TP_152 _).trans rfl) rfl,
   fun L σ a0 a1 a2 => ev_call ((TP_152 _).trans rfl) rfl rfl rfl rfl,
   fun L σ x => ev_r ((TP_152 _).trans rfl) rfl⟩
theorem TP_153 (pc : Nat) : TT 153 pc = ri_find TL_153 pc := rfl
theorem E_153 (x0 : Nat) (x1 : Int32) (x2 : Int32) (σ : ri_S) : cal 153 [.ref x0, .int x1, .int x2] σ = ev 153 (0, [some (.ref x0), some (.int x1), some (.int x2)], []) σ := rfl
theorem I_153 :
  (∀ (l1 l2 : Option Value) (st : List Value) (σ : ri_S) (x : Nat), ev 153 (0, [some (.ref x), l1, l2], st) σ = ev 153 (1, [some (.ref x), l1, l2], .ref x :: st) σ) ∧
  (∀ (l0 l2 : Option Value) (st : List Value) (σ : ri_S) (x : Int32), ev 153 (1, [l0, some (.int x), l2], st) σ = ev 153 (2, [l0, some (.int x), l2], .int x :: st) σ) ∧
  (∀ (L : ri_L) (σ : ri_S) (a0 : Nat) (a1 : Int32), ev 153 (2, L, [.int a1, .ref a0]) σ = (cal 152 [.ref a0, .int a1] σ).bind fun q => ev 153 (5, L, q.1.toList ++ []) q.2) ∧
  (∀ (L : ri_L) (st : List Value) (σ : ri_S) (x : Int32), ev 153 (5, L, .int x :: st) σ = if x = 0 then ev 153 (30, L, st) σ else ev 153 (8, L, st) σ) ∧
  (∀ (l0 l1 : Option Value) (st : List Value) (σ : ri_S) (x : Int32), ev 153 (8, [l0, l1, some (.int x)], st) σ = ev 153 (9, [l0, l1, some (.int x)], .int x :: st) σ) ∧
  (∀ (L : ri_L) (st : List Value) (σ : ri_S) (x : Int32), ev 153 (9, L, .int x :: st) σ = ev 153 (10, L, .long x.toInt64 :: st) σ) ∧
  (∀ (L : ri_L) (st : List Value) (σ : ri_S), ev 153 (10, L, st) σ = ev 153 (11, L, .long 0 :: st) σ) ∧
  (∀ (l1 l2 : Option Value) (st : List Value) (σ : ri_S) (x : Nat), ev 153 (11, [some (.ref x), l1, l2], st) σ = ev 153 (12, [some (.ref x), l1, l2], .ref x :: st) σ) ∧
  (∀ (l0 l2 : Option Value) (st : List Value) (σ : ri_S) (x : Int32), ev 153 (12, [l0, some (.int x), l2], st) σ = ev 153 (13, [l0, some (.int x), l2], .int x :: st) σ) ∧
  (∀ (L : ri_L) (st : List Value) (σ : ri_S), ev 153 (13, L, st) σ = ev 153 (14, L, .int 0 :: st) σ) ∧
  (∀ (L : ri_L) (σ : ri_S) (a0 : Nat) (a1 : Int32) (a2 : Int32) (s0 s1 : Value), ev 153 (14, L, [.int a2, .int a1, .ref a0, s0, s1]) σ = (cal 149 [.ref a0, .int a1, .int a2] σ).bind fun q => ev 153 (17, L, q.1.toList ++ [s0, s1]) q.2) ∧
  (∀ (L : ri_L) (st : List Value) (σ : ri_S), ev 153 (17, L, st) σ = ev 153 (18, L, .int 1 :: st) σ) ∧
  (∀ (L : ri_L) (st : List Value) (σ : ri_S) (x y : Int32), ev 153 (18, L, .int y :: .int x :: st) σ = ev 153 (19, L, .int (x - y) :: st) σ) ∧
  (∀ (L : ri_L) (st : List Value) (σ : ri_S) (x : Int32), ev 153 (19, L, .int x :: st) σ = ev 153 (20, L, .long x.toInt64 :: st) σ) ∧
  (∀ (L : ri_L) (σ : ri_S) (a0 : Int64) (a1 : Int64) (a2 : Int64), ev 153 (20, L, [.long a2, .long a1, .long a0]) σ = (cal 146 [.long a0, .long a1, .long a2] σ).bind fun q => ev 153 (23, L, q.1.toList ++ []) q.2) ∧
  (∀ (L : ri_L) (st : List Value) (σ : ri_S) (x : Int32), ev 153 (23, L, .int x :: st) σ = if x = 0 then ev 153 (30, L, st) σ else ev 153 (26, L, st) σ) ∧
  (∀ (L : ri_L) (st : List Value) (σ : ri_S), ev 153 (26, L, st) σ = ev 153 (27, L, .int 1 :: st) σ) ∧
  (∀ (L : ri_L) (st : List Value) (σ : ri_S), ev 153 (27, L, st) σ = ev 153 (31, L, st) σ) ∧
  (∀ (L : ri_L) (st : List Value) (σ : ri_S), ev 153 (30, L, st) σ = ev 153 (31, L, .int 0 :: st) σ) ∧
  (∀ (L : ri_L) (σ : ri_S) (x : Int32), ev 153 (31, L, [.int x]) σ = tv_b x (some (some (.int x), σ))) :=
  ⟨fun l1 l2 st σ x => ev_p ((TP_153 _).trans rfl) rfl,
   fun l0 l2 st σ x => ev_p ((TP_153 _).trans rfl) rfl,
   fun L σ a0 a1 => ev_call ((TP_153 _).trans rfl) rfl rfl rfl rfl,
   fun L st σ x => ev_b ((TP_153 _).trans rfl) rfl,
   fun l0 l1 st σ x => ev_p ((TP_153 _).trans rfl) rfl,
   fun L st σ x => ev_p ((TP_153 _).trans rfl) rfl,
   fun L st σ => ev_p ((TP_153 _).trans rfl) rfl,
   fun l1 l2 st σ x => ev_p ((TP_153 _).trans rfl) rfl,
   fun l0 l2 st σ x => ev_p ((TP_153 _).trans rfl) rfl,
   fun L st σ => ev_p ((TP_153 _).trans rfl) rfl,
   fun L σ a0 a1 a2 s0 s1 => ev_call ((TP_153 _).trans rfl) rfl rfl rfl rfl,
   fun L st σ => ev_p ((TP_153 _).trans rfl) rfl,
   fun L st σ x y => ev_p ((TP_153 _).trans rfl) rfl,
   fun L st σ x => ev_p ((TP_153 _).trans rfl) rfl,
   fun L σ a0 a1 a2 => ev_call ((TP_153 _).trans rfl) rfl rfl rfl rfl,
   fun L st σ x => ev_b ((TP_153 _).trans rfl) rfl,
   fun L st σ => ev_p ((TP_153 _).trans rfl) rfl,
   fun L st σ => ev_p ((TP_153 _).trans rfl) rfl,
   fun L st σ => ev_p ((TP_153 _).trans rfl) rfl,
   fun L σ x => ev_r ((TP_153 _).trans rfl) rfl⟩
theorem TP_154 (pc : Nat) : TT 154 pc = ri_find TL_154 pc := rfl
theorem E_154 (x0 : Nat) (x1 : Int32) (σ : ri_S) : cal 154 [.ref x0, .int x1] σ = ev 154 (0, [some (.ref x0), some (.int x1)], []) σ := rfl
theorem I_154 :
  (∀ (l0 : Option Value) (st : List Value) (σ : ri_S) (x : Int32), ev 154 (0, [l0, some (.int x)], st) σ = ev 154 (1, [l0, some (.int x)], .int x :: st) σ) ∧
  (∀ (L : ri_L) (st : List Value) (σ : ri_S) (x : Int32), ev 154 (1, L, .int x :: st) σ = ev 154 (2, L, .long x.toInt64 :: st) σ) ∧
  (∀ (L : ri_L) (st : List Value) (σ : ri_S), ev 154 (2, L, st) σ = ev 154 (3, L, .long 0 :: st) σ) ∧
  (∀ (l1 : Option Value) (st : List Value) (σ : ri_S) (x : Nat), ev 154 (3, [some (.ref x), l1], st) σ = ev 154 (4, [some (.ref x), l1], .ref x :: st) σ) ∧
  (∀ (L : ri_L) (st : List Value) (σ : ri_S), ev 154 (4, L, st) σ = ev 154 (5, L, .int 2 :: st) σ) ∧
  (∀ (L : ri_L) (st : List Value) (σ : ri_S) (a : Nat) (i : Int32), ev 154 (5, L, .int i :: .ref a :: st) σ = tv_r 0 (σ.1 a) i fun n f j => ev 154 (6, L, .int (f j) :: st) σ) ∧
  (∀ (L : ri_L) (st : List Value) (σ : ri_S), ev 154 (6, L, st) σ = ev 154 (7, L, .int 1 :: st) σ) ∧
  (∀ (L : ri_L) (st : List Value) (σ : ri_S) (x y : Int32), ev 154 (7, L, .int y :: .int x :: st) σ = ev 154 (8, L, .int (x - y) :: st) σ) ∧
  (∀ (L : ri_L) (st : List Value) (σ : ri_S) (x : Int32), ev 154 (8, L, .int x :: st) σ = ev 154 (9, L, .long x.toInt64 :: st) σ) ∧
  (∀ (L : ri_L) (σ : ri_S) (a0 : Int64) (a1 : Int64) (a2 : Int64), ev 154 (9, L, [.long a2, .long a1, .long a0]) σ = (cal 146 [.long a0, .long a1, .long a2] σ).bind fun q => ev 154 (12, L, q.1.toList ++ []) q.2) ∧
  (∀ (L : ri_L) (σ : ri_S) (x : Int32), ev 154 (12, L, [.int x]) σ = tv_b x (some (some (.int x), σ))) :=
  ⟨fun l0 st σ x => ev_p ((TP_154 _).trans rfl) rfl,
   fun L st σ x => ev_p ((TP_154 _).trans rfl) rfl,
   fun L st σ => ev_p ((TP_154 _).trans rfl) rfl,
   fun l1 st σ x => ev_p ((TP_154 _).trans rfl) rfl,
   fun L st σ => ev_p ((TP_154 _).trans rfl) rfl,
   fun L st σ a i => ev_iald ((TP_154 _).trans rfl),
   fun L st σ => ev_p ((TP_154 _).trans rfl) rfl,
   fun L st σ x y => ev_p ((TP_154 _).trans rfl) rfl,
   fun L st σ x => ev_p ((TP_154 _).trans rfl) rfl,
   fun L σ a0 a1 a2 => ev_call ((TP_154 _).trans rfl) rfl rfl rfl rfl,
   fun L σ x => ev_r ((TP_154 _).trans rfl) rfl⟩
theorem TP_155 (pc : Nat) : TT 155 pc = ri_find TL_155 pc := rfl
theorem E_155 (x0 : Nat) (x1 : Int32) (σ : ri_S) : cal 155 [.ref x0, .int x1] σ = ev 155 (0, [some (.ref x0), some (.int x1)], []) σ := rfl
theorem I_155 :
  (∀ (l0 : Option Value) (st : List Value) (σ : ri_S) (x : Int32), ev 155 (0, [l0, some (.int x)], st) σ = ev 155 (1, [l0, some (.int x)], .int x :: st) σ) ∧
  (∀ (L : ri_L) (st : List Value) (σ : ri_S) (x : Int32), ev 155 (1, L, .int x :: st) σ = ev 155 (2, L, .long x.toInt64 :: st) σ) ∧
  (∀ (L : ri_L) (st : List Value) (σ : ri_S), ev 155 (2, L, st) σ = ev 155 (3, L, .long 0 :: st) σ) ∧
  (∀ (l1 : Option Value) (st : List Value) (σ : ri_S) (x : Nat), ev 155 (3, [some (.ref x), l1], st) σ = ev 155 (4, [some (.ref x), l1], .ref x :: st) σ) ∧
  (∀ (L : ri_L) (st : List Value) (σ : ri_S), ev 155 (4, L, st) σ = ev 155 (5, L, .int 1 :: st) σ) ∧
  (∀ (L : ri_L) (st : List Value) (σ : ri_S) (a : Nat) (i : Int32), ev 155 (5, L, .int i :: .ref a :: st) σ = tv_r 0 (σ.1 a) i fun n f j => ev 155 (6, L, .int (f j) :: st) σ) ∧
  (∀ (L : ri_L) (st : List Value) (σ : ri_S), ev 155 (6, L, st) σ = ev 155 (7, L, .int 1 :: st) σ) ∧
  (∀ (L : ri_L) (st : List Value) (σ : ri_S) (x y : Int32), ev 155 (7, L, .int y :: .int x :: st) σ = ev 155 (8, L, .int (x - y) :: st) σ) ∧
  (∀ (L : ri_L) (st : List Value) (σ : ri_S) (x : Int32), ev 155 (8, L, .int x :: st) σ = ev 155 (9, L, .long x.toInt64 :: st) σ) ∧
  (∀ (L : ri_L) (σ : ri_S) (a0 : Int64) (a1 : Int64) (a2 : Int64), ev 155 (9, L, [.long a2, .long a1, .long a0]) σ = (cal 146 [.long a0, .long a1, .long a2] σ).bind fun q => ev 155 (12, L, q.1.toList ++ []) q.2) ∧
  (∀ (L : ri_L) (σ : ri_S) (x : Int32), ev 155 (12, L, [.int x]) σ = tv_b x (some (some (.int x), σ))) :=
  ⟨fun l0 st σ x => ev_p ((TP_155 _).trans rfl) rfl,
   fun L st σ x => ev_p ((TP_155 _).trans rfl) rfl,
   fun L st σ => ev_p ((TP_155 _).trans rfl) rfl,
   fun l1 st σ x => ev_p ((TP_155 _).trans rfl) rfl,
   fun L st σ => ev_p ((TP_155 _).trans rfl) rfl,
   fun L st σ a i => ev_iald ((TP_155 _).trans rfl),
   fun L st σ => ev_p ((TP_155 _).trans rfl) rfl,
   fun L st σ x y => ev_p ((TP_155 _).trans rfl) rfl,
   fun L st σ x => ev_p ((TP_155 _).trans rfl) rfl,
   fun L σ a0 a1 a2 => ev_call ((TP_155 _).trans rfl) rfl rfl rfl rfl,
   fun L σ x => ev_r ((TP_155 _).trans rfl) rfl⟩
theorem TP_156 (pc : Nat) : TT 156 pc = ri_find TL_156 pc := rfl
theorem E_156 (x0 : Int32) (x1 : Int32) (σ : ri_S) : cal 156 [.int x0, .int x1] σ = ev 156 (0, [some (.int x0), some (.int x1)], []) σ := rfl
theorem I_156 :
  (∀ (l1 : Option Value) (st : List Value) (σ : ri_S) (x : Int32), ev 156 (0, [some (.int x), l1], st) σ = ev 156 (1, [some (.int x), l1], .int x :: st) σ) ∧
  (∀ (l0 : Option Value) (st : List Value) (σ : ri_S) (x : Int32), ev 156 (1, [l0, some (.int x)], st) σ = ev 156 (2, [l0, some (.int x)], .int x :: st) σ) ∧
  (∀ (L : ri_L) (st : List Value) (σ : ri_S) (x y : Int32), ev 156 (2, L, .int y :: .int x :: st) σ = if y = 0 then none else ev 156 (3, L, .int (x - x / y * y) :: st) σ) ∧
  (∀ (l0 : Option Value) (st : List Value) (σ : ri_S) (x : Int32), ev 156 (3, [l0, some (.int x)], st) σ = ev 156 (4, [l0, some (.int x)], .int x :: st) σ) ∧
  (∀ (L : ri_L) (st : List Value) (σ : ri_S) (x y : Int32), ev 156 (4, L, .int y :: .int x :: st) σ = ev 156 (5, L, .int (x + y) :: st) σ) ∧
  (∀ (l0 : Option Value) (st : List Value) (σ : ri_S) (x : Int32), ev 156 (5, [l0, some (.int x)], st) σ = ev 156 (6, [l0, some (.int x)], .int x :: st) σ) ∧
  (∀ (L : ri_L) (st : List Value) (σ : ri_S) (x y : Int32), ev 156 (6, L, .int y :: .int x :: st) σ = if y = 0 then none else ev 156 (7, L, .int (x - x / y * y) :: st) σ) ∧
  (∀ (L : ri_L) (σ : ri_S) (x : Int32), ev 156 (7, L, [.int x]) σ = some (some (.int x), σ)) :=
  ⟨fun l1 st σ x => ev_p ((TP_156 _).trans rfl) rfl,
   fun l0 st σ x => ev_p ((TP_156 _).trans rfl) rfl,
   fun L st σ x y => ev_d ((TP_156 _).trans rfl) rfl,
   fun l0 st σ x => ev_p ((TP_156 _).trans rfl) rfl,
   fun L st σ x y => ev_p ((TP_156 _).trans rfl) rfl,
   fun l0 st σ x => ev_p ((TP_156 _).trans rfl) rfl,
   fun L st σ x y => ev_d ((TP_156 _).trans rfl) rfl,
   fun L σ x => ev_r ((TP_156 _).trans rfl) rfl⟩
theorem TP_157 (pc : Nat) : TT 157 pc = ri_find TL_157 pc := rfl
theorem E_157 (x0 : Nat) (x1 : Int32) (x2 : Int32) (σ : ri_S) : cal 157 [.ref x0, .int x1, .int x2] σ = ev 157 (0, [some (.ref x0), some (.int x1), some (.int x2)], []) σ := rfl
theorem I_157 :
  (∀ (l0 l1 : Option Value) (st : List Value) (σ : ri_S) (x : Int32), ev 157 (0, [l0, l1, some (.int x)], st) σ = ev 157 (1, [l0, l1, some (.int x)], .int x :: st) σ) ∧
  (∀ (l1 l2 : Option Value) (st : List Value) (σ : ri_S) (x : Nat), ev 157 (1, [some (.ref x), l1, l2], st) σ = ev 157 (2, [some (.ref x), l1, l2], .ref x :: st) σ) ∧
  (∀ (l0 l2 : Option Value) (st : List Value) (σ : ri_S) (x : Int32), ev 157 (2, [l0, some (.int x), l2], st) σ = ev 157 (3, [l0, some (.int x), l2], .int x :: st) σ) ∧
  (∀ (L : ri_L) (st : List Value) (σ : ri_S), ev 157 (3, L, st) σ = ev 157 (4, L, .int 3 :: st) σ) ∧
  (∀ (L : ri_L) (σ : ri_S) (a0 : Nat) (a1 : Int32) (a2 : Int32) (s0 : Value), ev 157 (4, L, [.int a2, .int a1, .ref a0, s0]) σ = (cal 149 [.ref a0, .int a1, .int a2] σ).bind fun q => ev 157 (7, L, q.1.toList ++ [s0]) q.2) ∧
  (∀ (L : ri_L) (st : List Value) (σ : ri_S) (x y : Int32), ev 157 (7, L, .int y :: .int x :: st) σ = ev 157 (8, L, .int (x - y) :: st) σ) ∧
  (∀ (l1 l2 : Option Value) (st : List Value) (σ : ri_S) (x : Nat), ev 157 (8, [some (.ref x), l1, l2], st) σ = ev 157 (9, [some (.ref x), l1, l2], .ref x :: st) σ) ∧
  (∀ (l0 l2 : Option Value) (st : List Value) (σ : ri_S) (x : Int32), ev 157 (9, [l0, some (.int x), l2], st) σ = ev 157 (10, [l0, some (.int x), l2], .int x :: st) σ) ∧
  (∀ (L : ri_L) (st : List Value) (σ : ri_S), ev 157 (10, L, st) σ = ev 157 (11, L, .int 0 :: st) σ) ∧
  (∀ (L : ri_L) (σ : ri_S) (a0 : Nat) (a1 : Int32) (a2 : Int32) (s0 : Value), ev 157 (11, L, [.int a2, .int a1, .ref a0, s0]) σ = (cal 149 [.ref a0, .int a1, .int a2] σ).bind fun q => ev 157 (14, L, q.1.toList ++ [s0]) q.2) ∧
  (∀ (L : ri_L) (σ : ri_S) (a0 : Int32) (a1 : Int32), ev 157 (14, L, [.int a1, .int a0]) σ = (cal 156 [.int a0, .int a1] σ).bind fun q => ev 157 (17, L, q.1.toList ++ []) q.2) ∧
  (∀ (L : ri_L) (σ : ri_S) (x : Int32), ev 157 (17, L, [.int x]) σ = some (some (.int x), σ)) :=
  ⟨fun l0 l1 st σ x => ev_p ((TP_157 _).trans rfl) rfl,
   fun l1 l2 st σ x => ev_p ((TP_157 _).trans rfl) rfl,
   fun l0 l2 st σ x => ev_p ((TP_157 _).trans rfl) rfl,
   fun L st σ => ev_p ((TP_157 _).trans rfl) rfl,
   fun L σ a0 a1 a2 s0 => ev_call ((TP_157 _).trans rfl) rfl rfl rfl rfl,
   fun L st σ x y => ev_p ((TP_157 _).trans rfl) rfl,
   fun l1 l2 st σ x => ev_p ((TP_157 _).trans rfl) rfl,
   fun l0 l2 st σ x => ev_p ((TP_157 _).trans rfl) rfl,
   fun L st σ => ev_p ((TP_157 _).trans rfl) rfl,
   fun L σ a0 a1 a2 s0 => ev_call ((TP_157 _).trans rfl) rfl rfl rfl rfl,
   fun L σ a0 a1 => ev_call ((TP_157 _).trans rfl) rfl rfl rfl rfl,
   fun L σ x => ev_r ((TP_157 _).trans rfl) rfl⟩
theorem TP_158 (pc : Nat) : TT 158 pc = ri_find TL_158 pc := rfl
theorem E_158 (x0 : Nat) (x1 : Int32) (σ : ri_S) : cal 158 [.ref x0, .int x1] σ = ev 158 (0, [some (.ref x0), some (.int x1), none], []) σ := rfl
theorem I_158 :
  (∀ (l1 l2 : Option Value) (st : List Value) (σ : ri_S) (x : Nat), ev 158 (0, [some (.ref x), l1, l2], st) σ = ev 158 (1, [some (.ref x), l1, l2], .ref x :: st) σ) ∧
  (∀ (l0 l2 : Option Value) (st : List Value) (σ : ri_S) (x : Int32), ev 158 (1, [l0, some (.int x), l2], st) σ = ev 158 (2, [l0, some (.int x), l2], .int x :: st) σ) ∧
  (∀ (L : ri_L) (st : List Value) (σ : ri_S), ev 158 (2, L, st) σ = ev 158 (3, L, .int 1 :: st) σ) ∧
  (∀ (L : ri_L) (σ : ri_S) (a0 : Nat) (a1 : Int32) (a2 : Int32), ev 158 (3, L, [.int a2, .int a1, .ref a0]) σ = (cal 150 [.ref a0, .int a1, .int a2] σ).bind fun q => ev 158 (6, L, q.1.toList ++ []) q.2) ∧
  (∀ (l0 l1 l2 : Option Value) (st : List Value) (σ : ri_S) (x : Int32), ev 158 (6, [l0, l1, l2], .int x :: st) σ = ev 158 (7, [l0, ri_clr l1, some (.int x)], st) σ) ∧
  (∀ (l1 l2 : Option Value) (st : List Value) (σ : ri_S) (x : Nat), ev 158 (7, [some (.ref x), l1, l2], st) σ = ev 158 (8, [some (.ref x), l1, l2], .ref x :: st) σ) ∧
  (∀ (l0 l2 : Option Value) (st : List Value) (σ : ri_S) (x : Int32), ev 158 (8, [l0, some (.int x), l2], st) σ = ev 158 (9, [l0, some (.int x), l2], .int x :: st) σ) ∧
  (∀ (L : ri_L) (st : List Value) (σ : ri_S), ev 158 (9, L, st) σ = ev 158 (10, L, .int 2 :: st) σ) ∧
  (∀ (L : ri_L) (σ : ri_S) (a0 : Nat) (a1 : Int32) (a2 : Int32), ev 158 (10, L, [.int a2, .int a1, .ref a0]) σ = (cal 150 [.ref a0, .int a1, .int a2] σ).bind fun q => ev 158 (13, L, q.1.toList ++ []) q.2) ∧
  (∀ (l1 l2 : Option Value) (st : List Value) (σ : ri_S) (x : Nat), ev 158 (13, [some (.ref x), l1, l2], st) σ = ev 158 (14, [some (.ref x), l1, l2], .ref x :: st) σ) ∧
  (∀ (l0 l1 : Option Value) (st : List Value) (σ : ri_S) (x : Int32), ev 158 (14, [l0, l1, some (.int x)], st) σ = ev 158 (15, [l0, l1, some (.int x)], .int x :: st) σ) ∧
  (∀ (L : ri_L) (st : List Value) (σ : ri_S), ev 158 (15, L, st) σ = ev 158 (16, L, .int 3 :: st) σ) ∧
  (∀ (L : ri_L) (σ : ri_S) (a0 : Nat) (a1 : Int32) (a2 : Int32) (s0 : Value), ev 158 (16, L, [.int a2, .int a1, .ref a0, s0]) σ = (cal 149 [.ref a0, .int a1, .int a2] σ).bind fun q => ev 158 (19, L, q.1.toList ++ [s0]) q.2) ∧
  (∀ (L : ri_L) (st : List Value) (σ : ri_S) (x y : Int32), ev 158 (19, L, .int y :: .int x :: st) σ = ev 158 (20, L, .int (x + y) :: st) σ) ∧
  (∀ (l1 l2 : Option Value) (st : List Value) (σ : ri_S) (x : Nat), ev 158 (20, [some (.ref x), l1, l2], st) σ = ev 158 (21, [some (.ref x), l1, l2], .ref x :: st) σ) ∧
  (∀ (l0 l1 : Option Value) (st : List Value) (σ : ri_S) (x : Int32), ev 158 (21, [l0, l1, some (.int x)], st) σ = ev 158 (22, [l0, l1, some (.int x)], .int x :: st) σ) ∧
  (∀ (L : ri_L) (st : List Value) (σ : ri_S), ev 158 (22, L, st) σ = ev 158 (23, L, .int 0 :: st) σ) ∧
  (∀ (L : ri_L) (σ : ri_S) (a0 : Nat) (a1 : Int32) (a2 : Int32) (s0 : Value), ev 158 (23, L, [.int a2, .int a1, .ref a0, s0]) σ = (cal 149 [.ref a0, .int a1, .int a2] σ).bind fun q => ev 158 (26, L, q.1.toList ++ [s0]) q.2) ∧
  (∀ (L : ri_L) (σ : ri_S) (a0 : Int32) (a1 : Int32), ev 158 (26, L, [.int a1, .int a0]) σ = (cal 156 [.int a0, .int a1] σ).bind fun q => ev 158 (29, L, q.1.toList ++ []) q.2) ∧
  (∀ (L : ri_L) (σ : ri_S) (x : Int32), ev 158 (29, L, [.int x]) σ = some (some (.int x), σ)) :=
  ⟨fun l1 l2 st σ x => ev_p ((TP_158 _).trans rfl) rfl,
   fun l0 l2 st σ x => ev_p ((TP_158 _).trans rfl) rfl,
   fun L st σ => ev_p ((TP_158 _).trans rfl) rfl,
   fun L σ a0 a1 a2 => ev_call ((TP_158 _).trans rfl) rfl rfl rfl rfl,
   fun l0 l1 l2 st σ x => ev_p ((TP_158 _).trans rfl) rfl,
   fun l1 l2 st σ x => ev_p ((TP_158 _).trans rfl) rfl,
   fun l0 l2 st σ x => ev_p ((TP_158 _).trans rfl) rfl,
   fun L st σ => ev_p ((TP_158 _).trans rfl) rfl,
   fun L σ a0 a1 a2 => ev_call ((TP_158 _).trans rfl) rfl rfl rfl rfl,
   fun l1 l2 st σ x => ev_p ((TP_158 _).trans rfl) rfl,
   fun l0 l1 st σ x => ev_p ((TP_158 _).trans rfl) rfl,
   fun L st σ => ev_p ((TP_158 _).trans rfl) rfl,
   fun L σ a0 a1 a2 s0 => ev_call ((TP_158 _).trans rfl) rfl rfl rfl rfl,
   fun L st σ x y => ev_p ((TP_158 _).trans rfl) rfl,
   fun l1 l2 st σ x => ev_p ((TP_158 _).trans rfl) rfl,
   fun l0 l1 st σ x => ev_p ((TP_158 _).trans rfl) rfl,
   fun L st σ => ev_p ((TP_158 _).trans rfl) rfl,
   fun L σ a0 a1 a2 s0 => ev_call ((TP_158 _).trans rfl) rfl rfl rfl rfl,
   fun L σ a0 a1 => ev_call ((TP_158 _).trans rfl) rfl rfl rfl rfl,
   fun L σ x => ev_r ((TP_158 _).trans rfl) rfl⟩
theorem TP_159 (pc : Nat) : TT 159 pc = ri_find TL_159 pc := rfl
theorem E_159 (x0 : Nat) (x1 : Int32) (x2 : Int32) (σ : ri_S) : cal 159 [.ref x0, .int x1, .int x2] σ = ev 159 (0, [some (.ref x0), some (.int x1), some (.int x2), none], []) σ := rfl
theorem H_159_2 (l0 l1 l2 : Option Value) (st : List Value) (σ : ri_S) (x : Int32) : ev 159 (2, [l0, l1, l2, some (.int x)], st) σ = ev 159 (3, [l0, l1, l2, some (.int x)], .int x :: st) σ := ev_p ((TP_159 _).trans rfl) rfl
theorem I_159 :
  (∀ (L : ri_L) (st : List Value) (σ : ri_S), ev 159 (0, L, st) σ = ev 159 (1, L, .int 0 :: st) σ) ∧
  (∀ (l0 l1 l2 l3 : Option Value) (st : List Value) (σ : ri_S) (x : Int32), ev 159 (1, [l0, l1, l2, l3], .int x :: st) σ = ev 159 (2, [l0, l1, ri_clr l2, some (.int x)], st) σ) ∧
  (∀ (l1 l2 l3 : Option Value) (st : List Value) (σ : ri_S) (x : Nat), ev 159 (3, [some (.ref x), l1, l2, l3], st) σ = ev 159 (4, [some (.ref x), l1, l2, l3], .ref x :: st) σ) ∧
  (∀ (L : ri_L) (st : List Value) (σ : ri_S), ev 159 (4, L, st) σ = ev 159 (5, L, .int 2 :: st) σ) ∧
  (∀ (L : ri_L) (st : List Value) (σ : ri_S) (a : Nat) (i : Int32), ev 159 (5, L, .int i :: .ref a :: st) σ = tv_r 0 (σ.1 a) i fun n f j => ev 159 (6, L, .int (f j) :: st) σ) ∧
  (∀ (L : ri_L) (st : List Value) (σ : ri_S) (x y : Int32), ev 159 (6, L, .int y :: .int x :: st) σ = if y ≤ x then ev 159 (37, L, st) σ else ev 159 (9, L, st) σ) ∧
  (∀ (l1 l2 l3 : Option Value) (st : List Value) (σ : ri_S) (x : Nat), ev 159 (9, [some (.ref x), l1, l2, l3], st) σ = ev 159 (10, [some (.ref x), l1, l2, l3], .ref x :: st) σ) ∧
  (∀ (l0 l1 l2 : Option Value) (st : List Value) (σ : ri_S) (x : Int32), ev 159 (10, [l0, l1, l2, some (.int x)], st) σ = ev 159 (11, [l0, l1, l2, some (.int x)], .int x :: st) σ) ∧
  (∀ (L : ri_L) (st : List Value) (σ : ri_S), ev 159 (11, L, st) σ = ev 159 (12, L, .int 1 :: st) σ) ∧
  (∀ (L : ri_L) (σ : ri_S) (a0 : Nat) (a1 : Int32) (a2 : Int32), ev 159 (12, L, [.int a2, .int a1, .ref a0]) σ = (cal 150 [.ref a0, .int a1, .int a2] σ).bind fun q => ev 159 (15, L, q.1.toList ++ []) q.2) ∧
  (∀ (l0 l2 l3 : Option Value) (st : List Value) (σ : ri_S) (x : Int32), ev 159 (15, [l0, some (.int x), l2, l3], st) σ = ev 159 (16, [l0, some (.int x), l2, l3], .int x :: st) σ) ∧
  (∀ (L : ri_L) (st : List Value) (σ : ri_S) (x y : Int32), ev 159 (16, L, .int y :: .int x :: st) σ = if ¬ x = y then ev 159 (31, L, st) σ else ev 159 (19, L, st) σ) ∧
  (∀ (l1 l2 l3 : Option Value) (st : List Value) (σ : ri_S) (x : Nat), ev 159 (19, [some (.ref x), l1, l2, l3], st) σ = ev 159 (20, [some (.ref x), l1, l2, l3], .ref x :: st) σ) ∧
  (∀ (l0 l1 l2 : Option Value) (st : List Value) (σ : ri_S) (x : Int32), ev 159 (20, [l0, l1, l2, some (.int x)], st) σ = ev 159 (21, [l0, l1, l2, some (.int x)], .int x :: st) σ) ∧
  (∀ (L : ri_L) (st : List Value) (σ : ri_S), ev 159 (21, L, st) σ = ev 159 (22, L, .int 2 :: st) σ) ∧
  (∀ (L : ri_L) (σ : ri_S) (a0 : Nat) (a1 : Int32) (a2 : Int32), ev 159 (22, L, [.int a2, .int a1, .ref a0]) σ = (cal 150 [.ref a0, .int a1, .int a2] σ).bind fun q => ev 159 (25, L, q.1.toList ++ []) q.2) ∧
  (∀ (l0 l1 l3 : Option Value) (st : List Value) (σ : ri_S) (x : Int32), ev 159 (25, [l0, l1, some (.int x), l3], st) σ = ev 159 (26, [l0, l1, some (.int x), l3], .int x :: st) σ) ∧
  (∀ (L : ri_L) (st : List Value) (σ : ri_S) (x y : Int32), ev 159 (26, L, .int y :: .int x :: st) σ = if ¬ x = y then ev 159 (31, L, st) σ else ev 159 (29, L, st) σ) ∧
  (∀ (l0 l1 l2 : Option Value) (st : List Value) (σ : ri_S) (x : Int32), ev 159 (29, [l0, l1, l2, some (.int x)], st) σ = ev 159 (30, [l0, l1, l2, some (.int x)], .int x :: st) σ) ∧
  (∀ (L : ri_L) (σ : ri_S) (x : Int32), ev 159 (30, L, [.int x]) σ = some (some (.int x), σ)) ∧
  (∀ (l0 l1 l2 : Option Value) (st : List Value) (σ : ri_S) (x : Int32), ev 159 (31, [l0, l1, l2, some (.int x)], st) σ = ev 159 (34, [l0, l1, ri_clr l2, some (.int (x + 1))], st) σ) ∧
  (∀ (L : ri_L) (st : List Value) (σ : ri_S), ev 159 (34, L, st) σ = ev 159 (2, L, st) σ) ∧
  (∀ (L : ri_L) (st : List Value) (σ : ri_S), ev 159 (37, L, st) σ = ev 159 (38, L, .int (-1) :: st) σ) ∧
  (∀ (L : ri_L) (σ : ri_S) (x : Int32), ev 159 (38, L, [.int x]) σ = some (some (.int x), σ)) :=
  ⟨fun L st σ => ev_p ((TP_159 _).trans rfl) rfl,
   fun l0 l1 l2 l3 st σ x => ev_p ((TP_159 _).trans rfl) rfl,
   fun l1 l2 l3 st σ x => ev_p ((TP_159 _).trans rfl) rfl,
   fun L st σ => ev_p ((TP_159 _).trans rfl) rfl,
   fun L st σ a i => ev_iald ((TP_159 _).trans rfl),
   fun L st σ x y => ev_b ((TP_159 _).trans rfl) rfl,
   fun l1 l2 l3 st σ x => ev_p ((TP_159 _).trans rfl) rfl,
   fun l0 l1 l2 st σ x => ev_p ((TP_159 _).trans rfl) rfl,
   fun L st σ => ev_p ((TP_159 _).trans rfl) rfl,
   fun L σ a0 a1 a2 => ev_call ((TP_159 _).trans rfl) rfl rfl rfl rfl,
   fun l0 l2 l3 st σ x => ev_p ((TP_159 _).trans rfl) rfl,
   fun L st σ x y => ev_b ((TP_159 _).trans rfl) rfl,
   fun l1 l2 l3 st σ x => ev_p ((TP_159 _).trans rfl) rfl,
   fun l0 l1 l2 st σ x => ev_p ((TP_159 _).trans rfl) rfl,
   fun L st σ => ev_p ((TP_159 _).trans rfl) rfl,
   fun L σ a0 a1 a2 => ev_call ((TP_159 _).trans rfl) rfl rfl rfl rfl,
   fun l0 l1 l3 st σ x => ev_p ((TP_159 _).trans rfl) rfl,
   fun L st σ x y => ev_b ((TP_159 _).trans rfl) rfl,
   fun l0 l1 l2 st σ x => ev_p ((TP_159 _).trans rfl) rfl,
   fun L σ x => ev_r ((TP_159 _).trans rfl) rfl,
   fun l0 l1 l2 st σ x => ev_p ((TP_159 _).trans rfl) rfl,
   fun L st σ => ev_p ((TP_159 _).trans rfl) rfl,
   fun L st σ => ev_p ((TP_159 _).trans rfl) rfl,
   fun L σ x => ev_r ((TP_159 _).trans rfl) rfl⟩
theorem TP_160 (pc : Nat) : TT 160 pc = ri_find TL_160 pc := rfl
theorem E_160 (x0 : Nat) (x1 : Int32) (σ : ri_S) : cal 160 [.ref x0, .int x1] σ = ev 160 (0, [some (.ref x0), some (.int x1), none, none], []) σ := rfl
theorem H_160_4 (l0 l1 l2 : Option Value) (st : List Value) (σ : ri_S) (x : Int32) : ev 160 (4, [l0, l1, l2, some (.int x)], st) σ = ev 160 (5, [l0, l1, l2, some (.int x)], .int x :: st) σ := ev_p ((TP_160 _).trans rfl) rfl
theorem I_160 :
  (∀ (L : ri_L) (st : List Value) (σ : ri_S), ev 160 (0, L, st) σ = ev 160 (1, L, .int 0 :: st) σ) ∧
  (∀ (l0 l1 l2 l3 : Option Value) (st : List Value) (σ : ri_S) (x : Int32), ev 160 (1, [l0, l1, l2, l3], .int x :: st) σ = ev 160 (2, [l0, ri_clr l1, some (.int x), l3], st) σ) ∧
  (∀ (L : ri_L) (st : List Value) (σ : ri_S), ev 160 (2, L, st) σ = ev 160 (3, L, .int 0 :: st) σ) ∧
  (∀ (l0 l1 l2 l3 : Option Value) (st : List Value) (σ : ri_S) (x : Int32), ev 160 (3, [l0, l1, l2, l3], .int x :: st) σ = ev 160 (4, [l0, l1, ri_clr l2, some (.int x)], st) σ) ∧
  (∀ (l1 l2 l3 : Option Value) (st : List Value) (σ : ri_S) (x : Nat), ev 160 (5, [some (.ref x), l1, l2, l3], st) σ = ev 160 (6, [some (.ref x), l1, l2, l3], .ref x :: st) σ) ∧
  (∀ (L : ri_L) (st : List Value) (σ : ri_S), ev 160 (6, L, st) σ = ev 160 (7, L, .int 2 :: st) σ) ∧
  (∀ (L : ri_L) (st : List Value) (σ : ri_S) (a : Nat) (i : Int32), ev 160 (7, L, .int i :: .ref a :: st) σ = tv_r 0 (σ.1 a) i fun n f j => ev 160 (8, L, .int (f j) :: st) σ) ∧
  (∀ (L : ri_L) (st : List Value) (σ : ri_S) (x y : Int32), ev 160 (8, L, .int y :: .int x :: st) σ = if y ≤ x then ev 160 (40, L, st) σ else ev 160 (11, L, st) σ) ∧
  (∀ (l0 l1 l3 : Option Value) (st : List Value) (σ : ri_S) (x : Int32), ev 160 (11, [l0, l1, some (.int x), l3], st) σ = ev 160 (12, [l0, l1, some (.int x), l3], .int x :: st) σ) ∧
  (∀ (l1 l2 l3 : Option Value) (st : List Value) (σ : ri_S) (x : Nat), ev 160 (12, [some (.ref x), l1, l2, l3], st) σ = ev 160 (13, [some (.ref x), l1, l2, l3], .ref x :: st) σ) ∧
  (∀ (l0 l1 l2 : Option Value) (st : List Value) (σ : ri_S) (x : Int32), ev 160 (13, [l0, l1, l2, some (.int x)], st) σ = ev 160 (14, [l0, l1, l2, some (.int x)], .int x :: st) σ) ∧
  (∀ (L : ri_L) (st : List Value) (σ : ri_S), ev 160 (14, L, st) σ = ev 160 (15, L, .int 1 :: st) σ) ∧
  (∀ (L : ri_L) (σ : ri_S) (a0 : Nat) (a1 : Int32) (a2 : Int32) (s0 : Value), ev 160 (15, L, [.int a2, .int a1, .ref a0, s0]) σ = (cal 150 [.ref a0, .int a1, .int a2] σ).bind fun q => ev 160 (18, L, q.1.toList ++ [s0]) q.2) ∧
  (∀ (l0 l2 l3 : Option Value) (st : List Value) (σ : ri_S) (x : Int32), ev 160 (18, [l0, some (.int x), l2, l3], st) σ = ev 160 (19, [l0, some (.int x), l2, l3], .int x :: st) σ) ∧
  (∀ (L : ri_L) (st : List Value) (σ : ri_S) (x y : Int32), ev 160 (19, L, .int y :: .int x :: st) σ = if ¬ x = y then ev 160 (31, L, st) σ else ev 160 (22, L, st) σ) ∧
  (∀ (l1 l2 l3 : Option Value) (st : List Value) (σ : ri_S) (x : Nat), ev 160 (22, [some (.ref x), l1, l2, l3], st) σ = ev 160 (23, [some (.ref x), l1, l2, l3], .ref x :: st) σ) ∧
  (∀ (l0 l1 l2 : Option Value) (st : List Value) (σ : ri_S) (x : Int32), ev 160 (23, [l0, l1, l2, some (.int x)], st) σ = ev 160 (24, [l0, l1, l2, some (.int x)], .int x :: st) σ) ∧
  (∀ (L : ri_L) (st : List Value) (σ : ri_S), ev 160 (24, L, st) σ = ev 160 (25, L, .int 0 :: st) σ) ∧
  (∀ (L : ri_L) (σ : ri_S) (a0 : Nat) (a1 : Int32) (a2 : Int32) (s0 : Value), ev 160 (25, L, [.int a2, .int a1, .ref a0, s0]) σ = (cal 150 [.ref a0, .int a1, .int a2] σ).bind fun q => ev 160 (28, L, q.1.toList ++ [s0]) q.2) ∧
  (∀ (L : ri_L) (st : List Value) (σ : ri_S), ev 160 (28, L, st) σ = ev 160 (32, L, st) σ) ∧
  (∀ (L : ri_L) (st : List Value) (σ : ri_S), ev 160 (31, L, st) σ = ev 160 (32, L, .int 0 :: st) σ) ∧
  (∀ (L : ri_L) (st : List Value) (σ : ri_S) (x y : Int32), ev 160 (32, L, .int y :: .int x :: st) σ = ev 160 (33, L, .int (x + y) :: st) σ) ∧
  (∀ (l0 l1 l2 l3 : Option Value) (st : List Value) (σ : ri_S) (x : Int32), ev 160 (33, [l0, l1, l2, l3], .int x :: st) σ = ev 160 (34, [l0, ri_clr l1, some (.int x), l3], st) σ) ∧
  (∀ (l0 l1 l2 : Option Value) (st : List Value) (σ : ri_S) (x : Int32), ev 160 (34, [l0, l1, l2, some (.int x)], st) σ = ev 160 (37, [l0, l1, ri_clr l2, some (.int (x + 1))], st) σ) ∧
  (∀ (L : ri_L) (st : List Value) (σ : ri_S), ev 160 (37, L, st) σ = ev 160 (4, L, st) σ) ∧
  (∀ (l0 l1 l3 : Option Value) (st : List Value) (σ : ri_S) (x : Int32), ev 160 (40, [l0, l1, some (.int x), l3], st) σ = ev 160 (41, [l0, l1, some (.int x), l3], .int x :: st) σ) ∧
  (∀ (L : ri_L) (σ : ri_S) (x : Int32), ev 160 (41, L, [.int x]) σ = some (some (.int x), σ)) :=
  ⟨fun L st σ => ev_p ((TP_160 _).trans rfl) rfl,
   fun l0 l1 l2 l3 st σ x => ev_p ((TP_160 _).trans rfl) rfl,
   fun L st σ => ev_p ((TP_160 _).trans rfl) rfl,
   fun l0 l1 l2 l3 st σ x => ev_p ((TP_160 _).trans rfl) rfl,
   fun l1 l2 l3 st σ x => ev_p ((TP_160 _).trans rfl) rfl,
   fun L st σ => ev_p ((TP_160 _).trans rfl) rfl,
   fun L st σ a i => ev_iald ((TP_160 _).trans rfl),
   fun L st σ x y => ev_b ((TP_160 _).trans rfl) rfl,
   fun l0 l1 l3 st σ x => ev_p ((TP_160 _).trans rfl) rfl,
   fun l1 l2 l3 st σ x => ev_p ((TP_160 _).trans rfl) rfl,
   fun l0 l1 l2 st σ x => ev_p ((TP_160 _).trans rfl) rfl,
   fun L st σ => ev_p ((TP_160 _).trans rfl) rfl,
   fun L σ a0 a1 a2 s0 => ev_call ((TP_160 _).trans rfl) rfl rfl rfl rfl,
   fun l0 l2 l3 st σ x => ev_p ((TP_160 _).trans rfl) rfl,
   fun L st σ x y => ev_b ((TP_160 _).trans rfl) rfl,
   fun l1 l2 l3 st σ x => ev_p ((TP_160 _).trans rfl) rfl,
   fun l0 l1 l2 st σ x => ev_p ((TP_160 _).trans rfl) rfl,
   fun L st σ => ev_p ((TP_160 _).trans rfl) rfl,
   fun L σ a0 a1 a2 s0 => ev_call ((TP_160 _).trans rfl) rfl rfl rfl rfl,
   fun L st σ => ev_p ((TP_160 _).trans rfl) rfl,
   fun L st σ => ev_p ((TP_160 _).trans rfl) rfl,
   fun L st σ x y => ev_p ((TP_160 _).trans rfl) rfl,
   fun l0 l1 l2 l3 st σ x => ev_p ((TP_160 _).trans rfl) rfl,
   fun l0 l1 l2 st σ x => ev_p ((TP_160 _).trans rfl) rfl,
   fun L st σ => ev_p ((TP_160 _).trans rfl) rfl,
   fun l0 l1 l3 st σ x => ev_p ((TP_160 _).trans rfl) rfl,
   fun L σ x => ev_r ((TP_160 _).trans rfl) rfl⟩
theorem TP_161 (pc : Nat) : TT 161 pc = ri_find TL_161 pc := rfl
theorem E_161 (x0 : Nat) (x1 : Int32) (σ : ri_S) : cal 161 [.ref x0, .int x1] σ = ev 161 (0, [some (.ref x0), some (.int x1), none, none], []) σ := rfl
theorem H_161_4 (l0 l1 l2 : Option Value) (st : List Value) (σ : ri_S) (x : Int32) : ev 161 (4, [l0, l1, l2, some (.int x)], st) σ = ev 161 (5, [l0, l1, l2, some (.int x)], .int x :: st) σ := ev_p ((TP_161 _).trans rfl) rfl
theorem I_161 :
  (∀ (L : ri_L) (st : List Value) (σ : ri_S), ev 161 (0, L, st) σ = ev 161 (1, L, .int 0 :: st) σ) ∧
  (∀ (l0 l1 l2 l3 : Option Value) (st : List Value) (σ : ri_S) (x : Int32), ev 161 (1, [l0, l1, l2, l3], .int x :: st) σ = ev 161 (2, [l0, ri_clr l1, some (.int x), l3], st) σ) ∧
  (∀ (L : ri_L) (st : List Value) (σ : ri_S), ev 161 (2, L, st) σ = ev 161 (3, L, .int 0 :: st) σ) ∧
  (∀ (l0 l1 l2 l3 : Option Value) (st : List Value) (σ : ri_S) (x : Int32), ev 161 (3, [l0, l1, l2, l3], .int x :: st) σ = ev 161 (4, [l0, l1, ri_clr l2, some (.int x)], st) σ) ∧
  (∀ (L : ri_L) (st : List Value) (σ : ri_S), ev 161 (5, L, st) σ = ev 161 (6, L, .int 5 :: st) σ) ∧
  (∀ (L : ri_L) (st : List Value) (σ : ri_S) (x y : Int32), ev 161 (6, L, .int y :: .int x :: st) σ = if y ≤ x then ev 161 (26, L, st) σ else ev 161 (9, L, st) σ) ∧
  (∀ (l0 l1 l3 : Option Value) (st : List Value) (σ : ri_S) (x : Int32), ev 161 (9, [l0, l1, some (.int x), l3], st) σ = ev 161 (10, [l0, l1, some (.int x), l3], .int x :: st) σ) ∧
  (∀ (l1 l2 l3 : Option Value) (st : List Value) (σ : ri_S) (x : Nat), ev 161 (10, [some (.ref x), l1, l2, l3], st) σ = ev 161 (11, [some (.ref x), l1, l2, l3], .ref x :: st) σ) ∧
  (∀ (l0 l2 l3 : Option Value) (st : List Value) (σ : ri_S) (x : Int32), ev 161 (11, [l0, some (.int x), l2, l3], st) σ = ev 161 (12, [l0, some (.int x), l2, l3], .int x :: st) σ) ∧
  (∀ (L : ri_L) (st : List Value) (σ : ri_S), ev 161 (12, L, st) σ = ev 161 (13, L, .int 5 :: st) σ) ∧
  (∀ (l0 l1 l2 : Option Value) (st : List Value) (σ : ri_S) (x : Int32), ev 161 (13, [l0, l1, l2, some (.int x)], st) σ = ev 161 (14, [l0, l1, l2, some (.int x)], .int x :: st) σ) ∧
  (∀ (L : ri_L) (st : List Value) (σ : ri_S) (x y : Int32), ev 161 (14, L, .int y :: .int x :: st) σ = ev 161 (15, L, .int (x + y) :: st) σ) ∧
  (∀ (L : ri_L) (σ : ri_S) (a0 : Nat) (a1 : Int32) (a2 : Int32) (s0 : Value), ev 161 (15, L, [.int a2, .int a1, .ref a0, s0]) σ = (cal 149 [.ref a0, .int a1, .int a2] σ).bind fun q => ev 161 (18, L, q.1.toList ++ [s0]) q.2) ∧
  (∀ (L : ri_L) (st : List Value) (σ : ri_S) (x y : Int32), ev 161 (18, L, .int y :: .int x :: st) σ = ev 161 (19, L, .int (x + y) :: st) σ) ∧
  (∀ (l0 l1 l2 l3 : Option Value) (st : List Value) (σ : ri_S) (x : Int32), ev 161 (19, [l0, l1, l2, l3], .int x :: st) σ = ev 161 (20, [l0, ri_clr l1, some (.int x), l3], st) σ) ∧
  (∀ (l0 l1 l2 : Option Value) (st : List Value) (σ : ri_S) (x : Int32), ev 161 (20, [l0, l1, l2, some (.int x)], st) σ = ev 161 (23, [l0, l1, ri_clr l2, some (.int (x + 1))], st) σ) ∧
  (∀ (L : ri_L) (st : List Value) (σ : ri_S), ev 161 (23, L, st) σ = ev 161 (4, L, st) σ) ∧
  (∀ (l0 l1 l3 : Option Value) (st : List Value) (σ : ri_S) (x : Int32), ev 161 (26, [l0, l1, some (.int x), l3], st) σ = ev 161 (27, [l0, l1, some (.int x), l3], .int x :: st) σ) ∧
  (∀ (L : ri_L) (σ : ri_S) (x : Int32), ev 161 (27, L, [.int x]) σ = some (some (.int x), σ)) :=
  ⟨fun L st σ => ev_p ((TP_161 _).trans rfl) rfl,
   fun l0 l1 l2 l3 st σ x => ev_p ((TP_161 _).trans rfl) rfl,
   fun L st σ => ev_p ((TP_161 _).trans rfl) rfl,
   fun l0 l1 l2 l3 st σ x => ev_p ((TP_161 _).trans rfl) rfl,
   fun L st σ => ev_p ((TP_161 _).trans rfl) rfl,
   fun L st σ x y => ev_b ((TP_161 _).trans rfl) rfl,
   fun l0 l1 l3 st σ x => ev_p ((TP_161 _).trans rfl) rfl,
   fun l1 l2 l3 st σ x => ev_p ((TP_161 _).trans rfl) rfl,
   fun l0 l2 l3 st σ x => ev_p ((TP_161 _).trans rfl) rfl,
   fun L st σ => ev_p ((TP_161 _).trans rfl) rfl,
   fun l0 l1 l2 st σ x => ev_p ((TP_161 _).trans rfl) rfl,
   fun L st σ x y => ev_p ((TP_161 _).trans rfl) rfl,
   fun L σ a0 a1 a2 s0 => ev_call ((TP_161 _).trans rfl) rfl rfl rfl rfl,
   fun L st σ x y => ev_p ((TP_161 _).trans rfl) rfl,
   fun l0 l1 l2 l3 st σ x => ev_p ((TP_161 _).trans rfl) rfl,
   fun l0 l1 l2 st σ x => ev_p ((TP_161 _).trans rfl) rfl,
   fun L st σ => ev_p ((TP_161 _).trans rfl) rfl,
   fun l0 l1 l3 st σ x => ev_p ((TP_161 _).trans rfl) rfl,
   fun L σ x => ev_r ((TP_161 _).trans rfl) rfl⟩
theorem TP_162 (pc : Nat) : TT 162 pc = ri_find TL_162 pc := rfl
theorem E_162 (x0 : Nat) (x1 : Int32) (x2 : Int32) (σ : ri_S) : cal 162 [.ref x0, .int x1, .int x2] σ = ev 162 (0, [some (.ref x0), some (.int x1), some (.int x2), none, none], []) σ := rfl
theorem I_162 :
  (∀ (l1 l2 l3 l4 : Option Value) (st : List Value) (σ : ri_S) (x : Nat), ev 162 (0, [some (.ref x), l1, l2, l3, l4], st) σ = ev 162 (1, [some (.ref x), l1, l2, l3, l4], .ref x :: st) σ) ∧
  (∀ (l0 l2 l3 l4 : Option Value) (st : List Value) (σ : ri_S) (x : Int32), ev 162 (1, [l0, some (.int x), l2, l3, l4], st) σ = ev 162 (2, [l0, some (.int x), l2, l3, l4], .int x :: st) σ) ∧
  (∀ (L : ri_L) (st : List Value) (σ : ri_S), ev 162 (2, L, st) σ = ev 162 (3, L, .int 1 :: st) σ) ∧
  (∀ (L : ri_L) (σ : ri_S) (a0 : Nat) (a1 : Int32) (a2 : Int32), ev 162 (3, L, [.int a2, .int a1, .ref a0]) σ = (cal 150 [.ref a0, .int a1, .int a2] σ).bind fun q => ev 162 (6, L, q.1.toList ++ []) q.2) ∧
  (∀ (l0 l1 l2 l3 l4 : Option Value) (st : List Value) (σ : ri_S) (x : Int32), ev 162 (6, [l0, l1, l2, l3, l4], .int x :: st) σ = ev 162 (7, [l0, l1, ri_clr l2, some (.int x), l4], st) σ) ∧
  (∀ (l1 l2 l3 l4 : Option Value) (st : List Value) (σ : ri_S) (x : Nat), ev 162 (7, [some (.ref x), l1, l2, l3, l4], st) σ = ev 162 (8, [some (.ref x), l1, l2, l3, l4], .ref x :: st) σ) ∧
  (∀ (l0 l2 l3 l4 : Option Value) (st : List Value) (σ : ri_S) (x : Int32), ev 162 (8, [l0, some (.int x), l2, l3, l4], st) σ = ev 162 (9, [l0, some (.int x), l2, l3, l4], .int x :: st) σ) ∧
  (∀ (L : ri_L) (σ : ri_S) (a0 : Nat) (a1 : Int32), ev 162 (9, L, [.int a1, .ref a0]) σ = (cal 158 [.ref a0, .int a1] σ).bind fun q => ev 162 (12, L, q.1.toList ++ []) q.2) ∧
  (∀ (l0 l1 l2 l3 l4 : Option Value) (st : List Value) (σ : ri_S) (x : Int32), ev 162 (12, [l0, l1, l2, l3, l4], .int x :: st) σ = ev 162 (14, [l0, l1, l2, ri_clr l3, some (.int x)], st) σ) ∧
  (∀ (l1 l2 l3 l4 : Option Value) (st : List Value) (σ : ri_S) (x : Nat), ev 162 (14, [some (.ref x), l1, l2, l3, l4], st) σ = ev 162 (15, [some (.ref x), l1, l2, l3, l4], .ref x :: st) σ) ∧
  (∀ (l0 l1 l3 l4 : Option Value) (st : List Value) (σ : ri_S) (x : Int32), ev 162 (15, [l0, l1, some (.int x), l3, l4], st) σ = ev 162 (16, [l0, l1, some (.int x), l3, l4], .int x :: st) σ) ∧
  (∀ (L : ri_L) (st : List Value) (σ : ri_S), ev 162 (16, L, st) σ = ev 162 (17, L, .int 0 :: st) σ) ∧
  (∀ (L : ri_L) (σ : ri_S) (a0 : Nat) (a1 : Int32) (a2 : Int32), ev 162 (17, L, [.int a2, .int a1, .ref a0]) σ = (cal 151 [.ref a0, .int a1, .int a2] σ).bind fun q => ev 162 (20, L, q.1.toList ++ []) q.2) ∧
  (∀ (l0 l1 l2 l4 : Option Value) (st : List Value) (σ : ri_S) (x : Int32), ev 162 (20, [l0, l1, l2, some (.int x), l4], st) σ = ev 162 (21, [l0, l1, l2, some (.int x), l4], .int x :: st) σ) ∧
  (∀ (L : ri_L) (st : List Value) (σ : ri_S) (x y : Int32), ev 162 (21, L, .int y :: .int x :: st) σ = if ¬ x = y then ev 162 (39, L, st) σ else ev 162 (24, L, st) σ) ∧
  (∀ (l1 l2 l3 l4 : Option Value) (st : List Value) (σ : ri_S) (x : Nat), ev 162 (24, [some (.ref x), l1, l2, l3, l4], st) σ = ev 162 (25, [some (.ref x), l1, l2, l3, l4], .ref x :: st) σ) ∧
  (∀ (l0 l1 l3 l4 : Option Value) (st : List Value) (σ : ri_S) (x : Int32), ev 162 (25, [l0, l1, some (.int x), l3, l4], st) σ = ev 162 (26, [l0, l1, some (.int x), l3, l4], .int x :: st) σ) ∧
  (∀ (L : ri_L) (st : List Value) (σ : ri_S), ev 162 (26, L, st) σ = ev 162 (27, L, .int 1 :: st) σ) ∧
  (∀ (L : ri_L) (σ : ri_S) (a0 : Nat) (a1 : Int32) (a2 : Int32), ev 162 (27, L, [.int a2, .int a1, .ref a0]) σ = (cal 151 [.ref a0, .int a1, .int a2] σ).bind fun q => ev 162 (30, L, q.1.toList ++ []) q.2) ∧
  (∀ (l0 l1 l2 l3 : Option Value) (st : List Value) (σ : ri_S) (x : Int32), ev 162 (30, [l0, l1, l2, l3, some (.int x)], st) σ = ev 162 (32, [l0, l1, l2, l3, some (.int x)], .int x :: st) σ) ∧
  (∀ (L : ri_L) (st : List Value) (σ : ri_S) (x y : Int32), ev 162 (32, L, .int y :: .int x :: st) σ = if ¬ x = y then ev 162 (39, L, st) σ else ev 162 (35, L, st) σ) ∧
  (∀ (L : ri_L) (st : List Value) (σ : ri_S), ev 162 (35, L, st) σ = ev 162 (36, L, .int 1 :: st) σ) ∧
  (∀ (L : ri_L) (st : List Value) (σ : ri_S), ev 162 (36, L, st) σ = ev 162 (65, L, st) σ) ∧
  (∀ (l1 l2 l3 l4 : Option Value) (st : List Value) (σ : ri_S) (x : Nat), ev 162 (39, [some (.ref x), l1, l2, l3, l4], st) σ = ev 162 (40, [some (.ref x), l1, l2, l3, l4], .ref x :: st) σ) ∧
  (∀ (l0 l1 l3 l4 : Option Value) (st : List Value) (σ : ri_S) (x : Int32), ev 162 (40, [l0, l1, some (.int x), l3, l4], st) σ = ev 162 (41, [l0, l1, some (.int x), l3, l4], .int x :: st) σ) ∧
  (∀ (L : ri_L) (st : List Value) (σ : ri_S), ev 162 (41, L, st) σ = ev 162 (42, L, .int 2 :: st) σ) ∧
  (∀ (L : ri_L) (σ : ri_S) (a0 : Nat) (a1 : Int32) (a2 : Int32), ev 162 (42, L, [.int a2, .int a1, .ref a0]) σ = (cal 151 [.ref a0, .int a1, .int a2] σ).bind fun q => ev 162 (45, L, q.1.toList ++ []) q.2) ∧
  (∀ (l0 l1 l2 l4 : Option Value) (st : List Value) (σ : ri_S) (x : Int32), ev 162 (45, [l0, l1, l2, some (.int x), l4], st) σ = ev 162 (46, [l0, l1, l2, some (.int x), l4], .int x :: st) σ) ∧
  (∀ (L : ri_L) (st : List Value) (σ : ri_S) (x y : Int32), ev 162 (46, L, .int y :: .int x :: st) σ = if ¬ x = y then ev 162 (64, L, st) σ else ev 162 (49, L, st) σ) ∧
  (∀ (l1 l2 l3 l4 : Option Value) (st : List Value) (σ : ri_S) (x : Nat), ev 162 (49, [some (.ref x), l1, l2, l3, l4], st) σ = ev 162 (50, [some (.ref x), l1, l2, l3, l4], .ref x :: st) σ) ∧
  (∀ (l0 l1 l3 l4 : Option Value) (st : List Value) (σ : ri_S) (x : Int32), ev 162 (50, [l0, l1, some (.int x), l3, l4], st) σ = ev 162 (51, [l0, l1, some (.int x), l3, l4], .int x :: st) σ) ∧
  (∀ (L : ri_L) (st : List Value) (σ : ri_S), ev 162 (51, L, st) σ = ev 162 (52, L, .int 3 :: st) σ) ∧
  (∀ (L : ri_L) (σ : ri_S) (a0 : Nat) (a1 : Int32) (a2 : Int32), ev 162 (52, L, [.int a2, .int a1, .ref a0]) σ = (cal 151 [.ref a0, .int a1, .int a2] σ).bind fun q => ev 162 (55, L, q.1.toList ++ []) q.2) ∧
  (∀ (l0 l1 l2 l3 : Option Value) (st : List Value) (σ : ri_S) (x : Int32), ev 162 (55, [l0, l1, l2, l3, some (.int x)], st) σ = ev 162 (57, [l0, l1, l2, l3, some (.int x)], .int x :: st) σ) ∧
  (∀ (L : ri_L) (st : List Value) (σ : ri_S) (x y : Int32), ev 162 (57, L, .int y :: .int x :: st) σ = if ¬ x = y then ev 162 (64, L, st) σ else ev 162 (60, L, st) σ) ∧
  (∀ (L : ri_L) (st : List Value) (σ : ri_S), ev 162 (60, L, st) σ = ev 162 (61, L, .int 0 :: st) σ) ∧
  (∀ (L : ri_L) (st : List Value) (σ : ri_S), ev 162 (61, L, st) σ = ev 162 (65, L, st) σ) ∧
  (∀ (L : ri_L) (st : List Value) (σ : ri_S), ev 162 (64, L, st) σ = ev 162 (65, L, .int (-1) :: st) σ) ∧
  (∀ (L : ri_L) (σ : ri_S) (x : Int32), ev 162 (65, L, [.int x]) σ = some (some (.int x), σ)) :=
  ⟨fun l1 l2 l3 l4 st σ x => ev_p ((TP_162 _).trans rfl) rfl,
   fun l0 l2 l3 l4 st σ x => ev_p ((TP_162 _).trans rfl) rfl,
   fun L st σ => ev_p ((TP_162 _).trans rfl) rfl,
   fun L σ a0 a1 a2 => ev_call ((TP_162 _).trans rfl) rfl rfl rfl rfl,
   fun l0 l1 l2 l3 l4 st σ x => ev_p ((TP_162 _).trans rfl) rfl,
   fun l1 l2 l3 l4 st σ x => ev_p ((TP_162 _).trans rfl) rfl,
   fun l0 l2 l3 l4 st σ x => ev_p ((TP_162 _).trans rfl) rfl,
   fun L σ a0 a1 => ev_call ((TP_162 _).trans rfl) rfl rfl rfl rfl,
   fun l0 l1 l2 l3 l4 st σ x => ev_p ((TP_162 _).trans rfl) rfl,
   fun l1 l2 l3 l4 st σ x => ev_p ((TP_162 _).trans rfl) rfl,
   fun l0 l1 l3 l4 st σ x => ev_p ((TP_162 _).trans rfl) rfl,
   fun L st σ => ev_p ((TP_162 _).trans rfl) rfl,
   fun L σ a0 a1 a2 => ev_call ((TP_162 _).trans rfl) rfl rfl rfl rfl,
   fun l0 l1 l2 l4 st σ x => ev_p ((TP_162 _).trans rfl) rfl,
   fun L st σ x y => ev_b ((TP_162 _).trans rfl) rfl,
   fun l1 l2 l3 l4 st σ x => ev_p ((TP_162 _).trans rfl) rfl,
   fun l0 l1 l3 l4 st σ x => ev_p ((TP_162 _).trans rfl) rfl,
   fun L st σ => ev_p ((TP_162 _).trans rfl) rfl,
   fun L σ a0 a1 a2 => ev_call ((TP_162 _).trans rfl) rfl rfl rfl rfl,
   fun l0 l1 l2 l3 st σ x => ev_p ((TP_162 _).trans rfl) rfl,
   fun L st σ x y => ev_b ((TP_162 _).trans rfl) rfl,
   fun L st σ => ev_p ((TP_162 _).trans rfl) rfl,
   fun L st σ => ev_p ((TP_162 _).trans rfl) rfl,
   fun l1 l2 l3 l4 st σ x => ev_p ((TP_162 _).trans rfl) rfl,
   fun l0 l1 l3 l4 st σ x => ev_p ((TP_162 _).trans rfl) rfl,
   fun L st σ => ev_p ((TP_162 _).trans rfl) rfl,
   fun L σ a0 a1 a2 => ev_call ((TP_162 _).trans rfl) rfl rfl rfl rfl,
   fun l0 l1 l2 l4 st σ x => ev_p ((TP_162 _).trans rfl) rfl,
   fun L st σ x y => ev_b ((TP_162 _).trans rfl) rfl,
   fun l1 l2 l3 l4 st σ x => ev_p ((TP_162 _).trans rfl) rfl,
   fun l0 l1 l3 l4 st σ x => ev_p ((TP_162 _).trans rfl) rfl,
   fun L st σ => ev_p ((TP_162 _).trans rfl) rfl,
   fun L σ a0 a1 a2 => ev_call ((TP_162 _).trans rfl) rfl rfl rfl rfl,
   fun l0 l1 l2 l3 st σ x => ev_p ((TP_162 _).trans rfl) rfl,
   fun L st σ x y => ev_b ((TP_162 _).trans rfl) rfl,
   fun L st σ => ev_p ((TP_162 _).trans rfl) rfl,
   fun L st σ => ev_p ((TP_162 _).trans rfl) rfl,
   fun L st σ => ev_p ((TP_162 _).trans rfl) rfl,
   fun L σ x => ev_r ((TP_162 _).trans rfl) rfl⟩
theorem TP_163 (pc : Nat) : TT 163 pc = ri_find TL_163 pc := rfl
theorem E_163 (x0 : Nat) (x1 : Int32) (x2 : Int32) (x3 : Int32) (σ : ri_S) : cal 163 [.ref x0, .int x1, .int x2, .int x3] σ = ev 163 (0, [some (.ref x0), some (.int x1), some (.int x2), some (.int x3)], []) σ := rfl
theorem I_163 :
  (∀ (l1 l2 l3 : Option Value) (st : List Value) (σ : ri_S) (x : Nat), ev 163 (0, [some (.ref x), l1, l2, l3], st) σ = ev 163 (1, [some (.ref x), l1, l2, l3], .ref x :: st) σ) ∧
  (∀ (l0 l1 l3 : Option Value) (st : List Value) (σ : ri_S) (x : Int32), ev 163 (1, [l0, l1, some (.int x), l3], st) σ = ev 163 (2, [l0, l1, some (.int x), l3], .int x :: st) σ) ∧
  (∀ (l1 l2 l3 : Option Value) (st : List Value) (σ : ri_S) (x : Nat), ev 163 (2, [some (.ref x), l1, l2, l3], st) σ = ev 163 (3, [some (.ref x), l1, l2, l3], .ref x :: st) σ) ∧
  (∀ (l0 l1 l3 : Option Value) (st : List Value) (σ : ri_S) (x : Int32), ev 163 (3, [l0, l1, some (.int x), l3], st) σ = ev 163 (4, [l0, l1, some (.int x), l3], .int x :: st) σ) ∧
  (∀ (l0 l1 l2 : Option Value) (st : List Value) (σ : ri_S) (x : Int32), ev 163 (4, [l0, l1, l2, some (.int x)], st) σ = ev 163 (5, [l0, l1, l2, some (.int x)], .int x :: st) σ) ∧
  (∀ (L : ri_L) (σ : ri_S) (a0 : Nat) (a1 : Int32) (a2 : Int32) (s0 s1 : Value), ev 163 (5, L, [.int a2, .int a1, .ref a0, s0, s1]) σ = (cal 157 [.ref a0, .int a1, .int a2] σ).bind fun q => ev 163 (8, L, q.1.toList ++ [s0, s1]) q.2) ∧
  (∀ (L : ri_L) (σ : ri_S) (a0 : Nat) (a1 : Int32) (a2 : Int32), ev 163 (8, L, [.int a2, .int a1, .ref a0]) σ = (cal 159 [.ref a0, .int a1, .int a2] σ).bind fun q => ev 163 (11, L, q.1.toList ++ []) q.2) ∧
  (∀ (L : ri_L) (st : List Value) (σ : ri_S), ev 163 (11, L, st) σ = ev 163 (12, L, .int (-1) :: st) σ) ∧
  (∀ (L : ri_L) (st : List Value) (σ : ri_S) (x y : Int32), ev 163 (12, L, .int y :: .int x :: st) σ = if x = y then ev 163 (19, L, st) σ else ev 163 (15, L, st) σ) ∧
  (∀ (L : ri_L) (st : List Value) (σ : ri_S), ev 163 (15, L, st) σ = ev 163 (16, L, .int 2 :: st) σ) ∧
  (∀ (L : ri_L) (st : List Value) (σ : ri_S), ev 163 (16, L, st) σ = ev 163 (42, L, st) σ) ∧
  (∀ (l1 l2 l3 : Option Value) (st : List Value) (σ : ri_S) (x : Nat), ev 163 (19, [some (.ref x), l1, l2, l3], st) σ = ev 163 (20, [some (.ref x), l1, l2, l3], .ref x :: st) σ) ∧
  (∀ (L : ri_L) (st : List Value) (σ : ri_S), ev 163 (20, L, st) σ = ev 163 (22, L, .int 8 :: st) σ) ∧
  (∀ (L : ri_L) (st : List Value) (σ : ri_S) (a : Nat) (i : Int32), ev 163 (22, L, .int i :: .ref a :: st) σ = tv_r 0 (σ.1 a) i fun n f j => ev 163 (23, L, .int (f j) :: st) σ) ∧
  (∀ (L : ri_L) (st : List Value) (σ : ri_S), ev 163 (23, L, st) σ = ev 163 (24, L, .int 1 :: st) σ) ∧
  (∀ (L : ri_L) (st : List Value) (σ : ri_S) (x y : Int32), ev 163 (24, L, .int y :: .int x :: st) σ = if ¬ x = y then ev 163 (41, L, st) σ else ev 163 (27, L, st) σ) ∧
  (∀ (l1 l2 l3 : Option Value) (st : List Value) (σ : ri_S) (x : Nat), ev 163 (27, [some (.ref x), l1, l2, l3], st) σ = ev 163 (28, [some (.ref x), l1, l2, l3], .ref x :: st) σ) ∧
  (∀ (L : ri_L) (st : List Value) (σ : ri_S), ev 163 (28, L, st) σ = ev 163 (30, L, .int 7 :: st) σ) ∧
  (∀ (L : ri_L) (st : List Value) (σ : ri_S) (a : Nat) (i : Int32), ev 163 (30, L, .int i :: .ref a :: st) σ = tv_r 0 (σ.1 a) i fun n f j => ev 163 (31, L, .int (f j) :: st) σ) ∧
  (∀ (l0 l2 l3 : Option Value) (st : List Value) (σ : ri_S) (x : Int32), ev 163 (31, [l0, some (.int x), l2, l3], st) σ = ev 163 (32, [l0, some (.int x), l2, l3], .int x :: st) σ) ∧
  (∀ (L : ri_L) (st : List Value) (σ : ri_S), ev 163 (32, L, st) σ = ev 163 (33, L, .int 1 :: st) σ) ∧
  (∀ (L : ri_L) (st : List Value) (σ : ri_S) (x y : Int32), ev 163 (33, L, .int y :: .int x :: st) σ = ev 163 (34, L, .int (x + y) :: st) σ) ∧
  (∀ (L : ri_L) (st : List Value) (σ : ri_S) (x y : Int32), ev 163 (34, L, .int y :: .int x :: st) σ = if ¬ x = y then ev 163 (41, L, st) σ else ev 163 (37, L, st) σ) ∧
  (∀ (L : ri_L) (st : List Value) (σ : ri_S), ev 163 (37, L, st) σ = ev 163 (38, L, .int 3 :: st) σ) ∧
  (∀ (L : ri_L) (st : List Value) (σ : ri_S), ev 163 (38, L, st) σ = ev 163 (42, L, st) σ) ∧
  (∀ (L : ri_L) (st : List Value) (σ : ri_S), ev 163 (41, L, st) σ = ev 163 (42, L, .int 0 :: st) σ) ∧
  (∀ (L : ri_L) (σ : ri_S) (x : Int32), ev 163 (42, L, [.int x]) σ = some (some (.int x), σ)) :=
  ⟨fun l1 l2 l3 st σ x => ev_p ((TP_163 _).trans rfl) rfl,
   fun l0 l1 l3 st σ x => ev_p ((TP_163 _).trans rfl) rfl,
   fun l1 l2 l3 st σ x => ev_p ((TP_163 _).trans rfl) rfl,
   fun l0 l1 l3 st σ x => ev_p ((TP_163 _).trans rfl) rfl,
   fun l0 l1 l2 st σ x => ev_p ((TP_163 _).trans rfl) rfl,
   fun L σ a0 a1 a2 s0 s1 => ev_call ((TP_163 _).trans rfl) rfl rfl rfl rfl,
   fun L σ a0 a1 a2 => ev_call ((TP_163 _).trans rfl) rfl rfl rfl rfl,
   fun L st σ => ev_p ((TP_163 _).trans rfl) rfl,
   fun L st σ x y => ev_b ((TP_163 _).trans rfl) rfl,
   fun L st σ => ev_p ((TP_163 _).trans rfl) rfl,
   fun L st σ => ev_p ((TP_163 _).trans rfl) rfl,
   fun l1 l2 l3 st σ x => ev_p ((TP_163 _).trans rfl) rfl,
   fun L st σ => ev_p ((TP_163 _).trans rfl) rfl,
   fun L st σ a i => ev_iald ((TP_163 _).trans rfl),
   fun L st σ => ev_p ((TP_163 _).trans rfl) rfl,
   fun L st σ x y => ev_b ((TP_163 _).trans rfl) rfl,
   fun l1 l2 l3 st σ x => ev_p ((TP_163 _).trans rfl) rfl,
   fun L st σ => ev_p ((TP_163 _).trans rfl) rfl,
   fun L st σ a i => ev_iald ((TP_163 _).trans rfl),
   fun l0 l2 l3 st σ x => ev_p ((TP_163 _).trans rfl) rfl,
   fun L st σ => ev_p ((TP_163 _).trans rfl) rfl,
   fun L st σ x y => ev_p ((TP_163 _).trans rfl) rfl,
   fun L st σ x y => ev_b ((TP_163 _).trans rfl) rfl,
   fun L st σ => ev_p ((TP_163 _).trans rfl) rfl,
   fun L st σ => ev_p ((TP_163 _).trans rfl) rfl,
   fun L st σ => ev_p ((TP_163 _).trans rfl) rfl,
   fun L σ x => ev_r ((TP_163 _).trans rfl) rfl⟩
theorem TP_164 (pc : Nat) : TT 164 pc = ri_find TL_164 pc := rfl
theorem E_164 (x0 : Nat) (x1 : Int32) (x2 : Int32) (σ : ri_S) : cal 164 [.ref x0, .int x1, .int x2] σ = ev 164 (0, [some (.ref x0), some (.int x1), some (.int x2), none], []) σ := rfl
theorem I_164 :
  (∀ (l1 l2 l3 : Option Value) (st : List Value) (σ : ri_S) (x : Nat), ev 164 (0, [some (.ref x), l1, l2, l3], st) σ = ev 164 (1, [some (.ref x), l1, l2, l3], .ref x :: st) σ) ∧
  (∀ (l0 l2 l3 : Option Value) (st : List Value) (σ : ri_S) (x : Int32), ev 164 (1, [l0, some (.int x), l2, l3], st) σ = ev 164 (2, [l0, some (.int x), l2, l3], .int x :: st) σ) ∧
  (∀ (l0 l1 l3 : Option Value) (st : List Value) (σ : ri_S) (x : Int32), ev 164 (2, [l0, l1, some (.int x), l3], st) σ = ev 164 (3, [l0, l1, some (.int x), l3], .int x :: st) σ) ∧
  (∀ (L : ri_L) (σ : ri_S) (a0 : Nat) (a1 : Int32) (a2 : Int32), ev 164 (3, L, [.int a2, .int a1, .ref a0]) σ = (cal 162 [.ref a0, .int a1, .int a2] σ).bind fun q => ev 164 (6, L, q.1.toList ++ []) q.2) ∧
  (∀ (l0 l1 l2 l3 : Option Value) (st : List Value) (σ : ri_S) (x : Int32), ev 164 (6, [l0, l1, l2, l3], .int x :: st) σ = ev 164 (7, [l0, l1, ri_clr l2, some (.int x)], st) σ) ∧
  (∀ (l0 l1 l2 : Option Value) (st : List Value) (σ : ri_S) (x : Int32), ev 164 (7, [l0, l1, l2, some (.int x)], st) σ = ev 164 (8, [l0, l1, l2, some (.int x)], .int x :: st) σ) ∧
  (∀ (L : ri_L) (st : List Value) (σ : ri_S), ev 164 (8, L, st) σ = ev 164 (9, L, .int (-1) :: st) σ) ∧
  (∀ (L : ri_L) (st : List Value) (σ : ri_S) (x y : Int32), ev 164 (9, L, .int y :: .int x :: st) σ = if ¬ x = y then ev 164 (16, L, st) σ else ev 164 (12, L, st) σ) ∧
  (∀ (L : ri_L) (st : List Value) (σ : ri_S), ev 164 (12, L, st) σ = ev 164 (13, L, .int 1 :: st) σ) ∧
  (∀ (L : ri_L) (st : List Value) (σ : ri_S), ev 164 (13, L, st) σ = ev 164 (39, L, st) σ) ∧
  (∀ (l1 l2 l3 : Option Value) (st : List Value) (σ : ri_S) (x : Nat), ev 164 (16, [some (.ref x), l1, l2, l3], st) σ = ev 164 (17, [some (.ref x), l1, l2, l3], .ref x :: st) σ) ∧
  (∀ (l0 l2 l3 : Option Value) (st : List Value) (σ : ri_S) (x : Int32), ev 164 (17, [l0, some (.int x), l2, l3], st) σ = ev 164 (18, [l0, some (.int x), l2, l3], .int x :: st) σ) ∧
  (∀ (l1 l2 l3 : Option Value) (st : List Value) (σ : ri_S) (x : Nat), ev 164 (18, [some (.ref x), l1, l2, l3], st) σ = ev 164 (19, [some (.ref x), l1, l2, l3], .ref x :: st) σ) ∧
  (∀ (l0 l1 l3 : Option Value) (st : List Value) (σ : ri_S) (x : Int32), ev 164 (19, [l0, l1, some (.int x), l3], st) σ = ev 164 (20, [l0, l1, some (.int x), l3], .int x :: st) σ) ∧
  (∀ (L : ri_L) (st : List Value) (σ : ri_S), ev 164 (20, L, st) σ = ev 164 (21, L, .int 2 :: st) σ) ∧
  (∀ (l0 l1 l2 : Option Value) (st : List Value) (σ : ri_S) (x : Int32), ev 164 (21, [l0, l1, l2, some (.int x)], st) σ = ev 164 (22, [l0, l1, l2, some (.int x)], .int x :: st) σ) ∧
  (∀ (L : ri_L) (st : List Value) (σ : ri_S) (x y : Int32), ev 164 (22, L, .int y :: .int x :: st) σ = ev 164 (23, L, .int (x * y) :: st) σ) ∧
  (∀ (L : ri_L) (σ : ri_S) (a0 : Nat) (a1 : Int32) (a2 : Int32) (s0 s1 : Value), ev 164 (23, L, [.int a2, .int a1, .ref a0, s0, s1]) σ = (cal 151 [.ref a0, .int a1, .int a2] σ).bind fun q => ev 164 (26, L, q.1.toList ++ [s0, s1]) q.2) ∧
  (∀ (l1 l2 l3 : Option Value) (st : List Value) (σ : ri_S) (x : Nat), ev 164 (26, [some (.ref x), l1, l2, l3], st) σ = ev 164 (27, [some (.ref x), l1, l2, l3], .ref x :: st) σ) ∧
  (∀ (l0 l1 l3 : Option Value) (st : List Value) (σ : ri_S) (x : Int32), ev 164 (27, [l0, l1, some (.int x), l3], st) σ = ev 164 (28, [l0, l1, some (.int x), l3], .int x :: st) σ) ∧
  (∀ (L : ri_L) (st : List Value) (σ : ri_S), ev 164 (28, L, st) σ = ev 164 (29, L, .int 2 :: st) σ) ∧
  (∀ (l0 l1 l2 : Option Value) (st : List Value) (σ : ri_S) (x : Int32), ev 164 (29, [l0, l1, l2, some (.int x)], st) σ = ev 164 (30, [l0, l1, l2, some (.int x)], .int x :: st) σ) ∧
  (∀ (L : ri_L) (st : List Value) (σ : ri_S) (x y : Int32), ev 164 (30, L, .int y :: .int x :: st) σ = ev 164 (31, L, .int (x * y) :: st) σ) ∧
  (∀ (L : ri_L) (st : List Value) (σ : ri_S), ev 164 (31, L, st) σ = ev 164 (32, L, .int 1 :: st) σ) ∧
  (∀ (L : ri_L) (st : List Value) (σ : ri_S) (x y : Int32), ev 164 (32, L, .int y :: .int x :: st) σ = ev 164 (33, L, .int (x + y) :: st) σ) ∧
  (∀ (L : ri_L) (σ : ri_S) (a0 : Nat) (a1 : Int32) (a2 : Int32) (s0 s1 s2 : Value), ev 164 (33, L, [.int a2, .int a1, .ref a0, s0, s1, s2]) σ = (cal 151 [.ref a0, .int a1, .int a2] σ).bind fun q => ev 164 (36, L, q.1.toList ++ [s0, s1, s2]) q.2) ∧
  (∀ (L : ri_L) (σ : ri_S) (a0 : Nat) (a1 : Int32) (a2 : Int32) (a3 : Int32), ev 164 (36, L, [.int a3, .int a2, .int a1, .ref a0]) σ = (cal 163 [.ref a0, .int a1, .int a2, .int a3] σ).bind fun q => ev 164 (39, L, q.1.toList ++ []) q.2) ∧
  (∀ (L : ri_L) (σ : ri_S) (x : Int32), ev 164 (39, L, [.int x]) σ = some (some (.int x), σ)) :=
  ⟨fun l1 l2 l3 st σ x => ev_p ((TP_164 _).trans rfl) rfl,
   fun l0 l2 l3 st σ x => ev_p ((TP_164 _).trans rfl) rfl,
   fun l0 l1 l3 st σ x => ev_p ((TP_164 _).trans rfl) rfl,
   fun L σ a0 a1 a2 => ev_call ((TP_164 _).trans rfl) rfl rfl rfl rfl,
   fun l0 l1 l2 l3 st σ x => ev_p ((TP_164 _).trans rfl) rfl,
   fun l0 l1 l2 st σ x => ev_p ((TP_164 _).trans rfl) rfl,
   fun L st σ => ev_p ((TP_164 _).trans rfl) rfl,
   fun L st σ x y => ev_b ((TP_164 _).trans rfl) rfl,
   fun L st σ => ev_p ((TP_164 _).trans rfl) rfl,
   fun L st σ => ev_p ((TP_164 _).trans rfl) rfl,
   fun l1 l2 l3 st σ x => ev_p ((TP_164 _).trans rfl) rfl,
   fun l0 l2 l3 st σ x => ev_p ((TP_164 _).trans rfl) rfl,
   fun l1 l2 l3 st σ x => ev_p ((TP_164 _).trans rfl) rfl,
   fun l0 l1 l3 st σ x => ev_p ((TP_164 _).trans rfl) rfl,
   fun L st σ => ev_p ((TP_164 _).trans rfl) rfl,
   fun l0 l1 l2 st σ x => ev_p ((TP_164 _).trans rfl) rfl,
   fun L st σ x y => ev_p ((TP_164 _).trans rfl) rfl,
   fun L σ a0 a1 a2 s0 s1 => ev_call ((TP_164 _).trans rfl) rfl rfl rfl rfl,
   fun l1 l2 l3 st σ x => ev_p ((TP_164 _).trans rfl) rfl,
   fun l0 l1 l3 st σ x => ev_p ((TP_164 _).trans rfl) rfl,
   fun L st σ => ev_p ((TP_164 _).trans rfl) rfl,
   fun l0 l1 l2 st σ x => ev_p ((TP_164 _).trans rfl) rfl,
   fun L st σ x y => ev_p ((TP_164 _).trans rfl) rfl,
   fun L st σ => ev_p ((TP_164 _).trans rfl) rfl,
   fun L st σ x y => ev_p ((TP_164 _).trans rfl) rfl,
   fun L σ a0 a1 a2 s0 s1 s2 => ev_call ((TP_164 _).trans rfl) rfl rfl rfl rfl,
   fun L σ a0 a1 a2 a3 => ev_call ((TP_164 _).trans rfl) rfl rfl rfl rfl,
   fun L σ x => ev_r ((TP_164 _).trans rfl) rfl⟩
theorem TP_165 (pc : Nat) : TT 165 pc = ri_find TL_165 pc := rfl
theorem E_165 (x0 : Nat) (x1 : Int32) (x2 : Int32) (σ : ri_S) : cal 165 [.ref x0, .int x1, .int x2] σ = ev 165 (0, [some (.ref x0), some (.int x1), some (.int x2), none], []) σ := rfl
theorem I_165 :
  (∀ (l1 l2 l3 : Option Value) (st : List Value) (σ : ri_S) (x : Nat), ev 165 (0, [some (.ref x), l1, l2, l3], st) σ = ev 165 (1, [some (.ref x), l1, l2, l3], .ref x :: st) σ) ∧
  (∀ (l0 l2 l3 : Option Value) (st : List Value) (σ : ri_S) (x : Int32), ev 165 (1, [l0, some (.int x), l2, l3], st) σ = ev 165 (2, [l0, some (.int x), l2, l3], .int x :: st) σ) ∧
  (∀ (L : ri_L) (st : List Value) (σ : ri_S), ev 165 (2, L, st) σ = ev 165 (3, L, .int 1 :: st) σ) ∧
  (∀ (L : ri_L) (σ : ri_S) (a0 : Nat) (a1 : Int32) (a2 : Int32), ev 165 (3, L, [.int a2, .int a1, .ref a0]) σ = (cal 150 [.ref a0, .int a1, .int a2] σ).bind fun q => ev 165 (6, L, q.1.toList ++ []) q.2) ∧
  (∀ (l0 l1 l2 l3 : Option Value) (st : List Value) (σ : ri_S) (x : Int32), ev 165 (6, [l0, l1, l2, l3], .int x :: st) σ = ev 165 (7, [l0, l1, ri_clr l2, some (.int x)], st) σ) ∧
  (∀ (l1 l2 l3 : Option Value) (st : List Value) (σ : ri_S) (x : Nat), ev 165 (7, [some (.ref x), l1, l2, l3], st) σ = ev 165 (8, [some (.ref x), l1, l2, l3], .ref x :: st) σ) ∧
  (∀ (l0 l2 l3 : Option Value) (st : List Value) (σ : ri_S) (x : Int32), ev 165 (8, [l0, some (.int x), l2, l3], st) σ = ev 165 (9, [l0, some (.int x), l2, l3], .int x :: st) σ) ∧
  (∀ (l0 l1 l2 : Option Value) (st : List Value) (σ : ri_S) (x : Int32), ev 165 (9, [l0, l1, l2, some (.int x)], st) σ = ev 165 (10, [l0, l1, l2, some (.int x)], .int x :: st) σ) ∧
  (∀ (l1 l2 l3 : Option Value) (st : List Value) (σ : ri_S) (x : Nat), ev 165 (10, [some (.ref x), l1, l2, l3], st) σ = ev 165 (11, [some (.ref x), l1, l2, l3], .ref x :: st) σ) ∧
  (∀ (l0 l2 l3 : Option Value) (st : List Value) (σ : ri_S) (x : Int32), ev 165 (11, [l0, some (.int x), l2, l3], st) σ = ev 165 (12, [l0, some (.int x), l2, l3], .int x :: st) σ) ∧
  (∀ (L : ri_L) (σ : ri_S) (a0 : Nat) (a1 : Int32) (s0 s1 s2 : Value), ev 165 (12, L, [.int a1, .ref a0, s0, s1, s2]) σ = (cal 158 [.ref a0, .int a1] σ).bind fun q => ev 165 (15, L, q.1.toList ++ [s0, s1, s2]) q.2) ∧
  (∀ (l0 l1 l3 : Option Value) (st : List Value) (σ : ri_S) (x : Int32), ev 165 (15, [l0, l1, some (.int x), l3], st) σ = ev 165 (16, [l0, l1, some (.int x), l3], .int x :: st) σ) ∧
  (∀ (L : ri_L) (st : List Value) (σ : ri_S) (x y : Int32), ev 165 (16, L, .int y :: .int x :: st) σ = ev 165 (17, L, .int (x + y) :: st) σ) ∧
  (∀ (l1 l2 l3 : Option Value) (st : List Value) (σ : ri_S) (x : Nat), ev 165 (17, [some (.ref x), l1, l2, l3], st) σ = ev 165 (18, [some (.ref x), l1, l2, l3], .ref x :: st) σ) ∧
  (∀ (l0 l1 l2 : Option Value) (st : List Value) (σ : ri_S) (x : Int32), ev 165 (18, [l0, l1, l2, some (.int x)], st) σ = ev 165 (19, [l0, l1, l2, some (.int x)], .int x :: st) σ) ∧
  (∀ (L : ri_L) (st : List Value) (σ : ri_S), ev 165 (19, L, st) σ = ev 165 (20, L, .int 0 :: st) σ) ∧
  (∀ (L : ri_L) (σ : ri_S) (a0 : Nat) (a1 : Int32) (a2 : Int32) (s0 s1 s2 s3 : Value), ev 165 (20, L, [.int a2, .int a1, .ref a0, s0, s1, s2, s3]) σ = (cal 149 [.ref a0, .int a1, .int a2] σ).bind fun q => ev 165 (23, L, q.1.toList ++ [s0, s1, s2, s3]) q.2) ∧
  (∀ (L : ri_L) (σ : ri_S) (a0 : Int32) (a1 : Int32) (s0 s1 s2 : Value), ev 165 (23, L, [.int a1, .int a0, s0, s1, s2]) σ = (cal 156 [.int a0, .int a1] σ).bind fun q => ev 165 (26, L, q.1.toList ++ [s0, s1, s2]) q.2) ∧
  (∀ (L : ri_L) (σ : ri_S) (a0 : Nat) (a1 : Int32) (a2 : Int32) (a3 : Int32), ev 165 (26, L, [.int a3, .int a2, .int a1, .ref a0]) σ = (cal 163 [.ref a0, .int a1, .int a2, .int a3] σ).bind fun q => ev 165 (29, L, q.1.toList ++ []) q.2) ∧
  (∀ (L : ri_L) (σ : ri_S) (x : Int32), ev 165 (29, L, [.int x]) σ = some (some (.int x), σ)) :=
  ⟨fun l1 l2 l3 st σ x => ev_p ((TP_165 _).trans rfl) rfl,
   fun l0 l2 l3 st σ x => ev_p ((TP_165 _).trans rfl) rfl,
   fun L st σ => ev_p ((TP_165 _).trans rfl) rfl,
   fun L σ a0 a1 a2 => ev_call ((TP_165 _).trans rfl) rfl rfl rfl rfl,
   fun l0 l1 l2 l3 st σ x => ev_p ((TP_165 _).trans rfl) rfl,
   fun l1 l2 l3 st σ x => ev_p ((TP_165 _).trans rfl) rfl,
   fun l0 l2 l3 st σ x => ev_p ((TP_165 _).trans rfl) rfl,
   fun l0 l1 l2 st σ x => ev_p ((TP_165 _).trans rfl) rfl,
   fun l1 l2 l3 st σ x => ev_p ((TP_165 _).trans rfl) rfl,
   fun l0 l2 l3 st σ x => ev_p ((TP_165 _).trans rfl) rfl,
   fun L σ a0 a1 s0 s1 s2 => ev_call ((TP_165 _).trans rfl) rfl rfl rfl rfl,
   fun l0 l1 l3 st σ x => ev_p ((TP_165 _).trans rfl) rfl,
   fun L st σ x y => ev_p ((TP_165 _).trans rfl) rfl,
   fun l1 l2 l3 st σ x => ev_p ((TP_165 _).trans rfl) rfl,
   fun l0 l1 l2 st σ x => ev_p ((TP_165 _).trans rfl) rfl,
   fun L st σ => ev_p ((TP_165 _).trans rfl) rfl,
   fun L σ a0 a1 a2 s0 s1 s2 s3 => ev_call ((TP_165 _).trans rfl) rfl rfl rfl rfl,
   fun L σ a0 a1 s0 s1 s2 => ev_call ((TP_165 _).trans rfl) rfl rfl rfl rfl,
   fun L σ a0 a1 a2 a3 => ev_call ((TP_165 _).trans rfl) rfl rfl rfl rfl,
   fun L σ x => ev_r ((TP_165 _).trans rfl) rfl⟩
theorem TP_166 (pc : Nat) : TT 166 pc = ri_find TL_166 pc := rfl
theorem E_166 (x0 : Nat) (x1 : Int32) (x2 : Int32) (σ : ri_S) : cal 166 [.ref x0, .int x1, .int x2] σ = ev 166 (0, [some (.ref x0), some (.int x1), some (.int x2)], []) σ := rfl
theorem I_166 :
  (∀ (l1 l2 : Option Value) (st : List Value) (σ : ri_S) (x : Nat), ev 166 (0, [some (.ref x), l1, l2], st) σ = ev 166 (1, [some (.ref x), l1, l2], .ref x :: st) σ) ∧
  (∀ (L : ri_L) (st : List Value) (σ : ri_S), ev 166 (1, L, st) σ = ev 166 (2, L, .int 4 :: st) σ) ∧
  (∀ (L : ri_L) (st : List Value) (σ : ri_S) (x : Int32) (y : Nat), ev 166 (2, L, .int x :: .ref y :: st) σ = ev 166 (3, L, .int x :: .ref y :: .int x :: .ref y :: st) σ) ∧
  (∀ (L : ri_L) (st : List Value) (σ : ri_S) (a : Nat) (i : Int32), ev 166 (3, L, .int i :: .ref a :: st) σ = tv_r 0 (σ.1 a) i fun n f j => ev 166 (4, L, .int (f j) :: st) σ) ∧
  (∀ (l0 l1 : Option Value) (st : List Value) (σ : ri_S) (x : Int32), ev 166 (4, [l0, l1, some (.int x)], st) σ = ev 166 (5, [l0, l1, some (.int x)], .int x :: st) σ) ∧
  (∀ (L : ri_L) (st : List Value) (σ : ri_S) (x y : Int32), ev 166 (5, L, .int y :: .int x :: st) σ = ev 166 (6, L, .int (x + y) :: st) σ) ∧
  (∀ (L : ri_L) (st : List Value) (σ : ri_S) (a : Nat) (i x : Int32), ev 166 (6, L, .int x :: .int i :: .ref a :: st) σ = tv_r 0 (σ.1 a) i fun n f j => ev 166 (7, L, st) (ri_upd σ.1 a (.inl (0, n, upd f j x)), σ.2)) ∧
  (∀ (l1 l2 : Option Value) (st : List Value) (σ : ri_S) (x : Nat), ev 166 (7, [some (.ref x), l1, l2], st) σ = ev 166 (8, [some (.ref x), l1, l2], .ref x :: st) σ) ∧
  (∀ (L : ri_L) (st : List Value) (σ : ri_S), ev 166 (8, L, st) σ = ev 166 (10, L, .int 71 :: st) σ) ∧
  (∀ (L : ri_L) (st : List Value) (σ : ri_S), ev 166 (10, L, st) σ = ev 166 (11, L, .int 5 :: st) σ) ∧
  (∀ (l0 l2 : Option Value) (st : List Value) (σ : ri_S) (x : Int32), ev 166 (11, [l0, some (.int x), l2], st) σ = ev 166 (12, [l0, some (.int x), l2], .int x :: st) σ) ∧
  (∀ (L : ri_L) (st : List Value) (σ : ri_S) (x y : Int32), ev 166 (12, L, .int y :: .int x :: st) σ = ev 166 (13, L, .int (x * y) :: st) σ) ∧
  (∀ (L : ri_L) (st : List Value) (σ : ri_S) (x y : Int32), ev 166 (13, L, .int y :: .int x :: st) σ = ev 166 (14, L, .int (x + y) :: st) σ) ∧
  (∀ (L : ri_L) (st : List Value) (σ : ri_S), ev 166 (14, L, st) σ = ev 166 (15, L, .int 3 :: st) σ) ∧
  (∀ (L : ri_L) (st : List Value) (σ : ri_S) (x y : Int32), ev 166 (15, L, .int y :: .int x :: st) σ = ev 166 (16, L, .int (x + y) :: st) σ) ∧
  (∀ (L : ri_L) (st : List Value) (σ : ri_S) (x : Int32) (y : Nat), ev 166 (16, L, .int x :: .ref y :: st) σ = ev 166 (17, L, .int x :: .ref y :: .int x :: .ref y :: st) σ) ∧
  (∀ (L : ri_L) (st : List Value) (σ : ri_S) (a : Nat) (i : Int32), ev 166 (17, L, .int i :: .ref a :: st) σ = tv_r 0 (σ.1 a) i fun n f j => ev 166 (18, L, .int (f j) :: st) σ) ∧
  (∀ (l0 l1 : Option Value) (st : List Value) (σ : ri_S) (x : Int32), ev 166 (18, [l0, l1, some (.int x)], st) σ = ev 166 (19, [l0, l1, some (.int x)], .int x :: st) σ) ∧
  (∀ (L : ri_L) (st : List Value) (σ : ri_S) (x y : Int32), ev 166 (19, L, .int y :: .int x :: st) σ = ev 166 (20, L, .int (x + y) :: st) σ) ∧
  (∀ (L : ri_L) (st : List Value) (σ : ri_S) (a : Nat) (i x : Int32), ev 166 (20, L, .int x :: .int i :: .ref a :: st) σ = tv_r 0 (σ.1 a) i fun n f j => ev 166 (21, L, st) (ri_upd σ.1 a (.inl (0, n, upd f j x)), σ.2)) ∧
  (∀ (L : ri_L) (σ : ri_S), ev 166 (21, L, []) σ = some (none, σ)) :=
  ⟨fun l1 l2 st σ x => ev_p ((TP_166 _).trans rfl) rfl,
   fun L st σ => ev_p ((TP_166 _).trans rfl) rfl,
   fun L st σ x y => ev_p ((TP_166 _).trans rfl) rfl,
   fun L st σ a i => ev_iald ((TP_166 _).trans rfl),
   fun l0 l1 st σ x => ev_p ((TP_166 _).trans rfl) rfl,
   fun L st σ x y => ev_p ((TP_166 _).trans rfl) rfl,
   fun L st σ a i x => ev_iast ((TP_166 _).trans rfl),
   fun l1 l2 st σ x => ev_p ((TP_166 _).trans rfl) rfl,
   fun L st σ => ev_p ((TP_166 _).trans rfl) rfl,
   fun L st σ => ev_p ((TP_166 _).trans rfl) rfl,
   fun l0 l2 st σ x => ev_p ((TP_166 _).trans rfl) rfl,
   fun L st σ x y => ev_p ((TP_166 _).trans rfl) rfl,
   fun L st σ x y => ev_p ((TP_166 _).trans rfl) rfl,
   fun L st σ => ev_p ((TP_166 _).trans rfl) rfl,
   fun L st σ x y => ev_p ((TP_166 _).trans rfl) rfl,
   fun L st σ x y => ev_p ((TP_166 _).trans rfl) rfl,
   fun L st σ a i => ev_iald ((TP_166 _).trans rfl),
   fun l0 l1 st σ x => ev_p ((TP_166 _).trans rfl) rfl,
   fun L st σ x y => ev_p ((TP_166 _).trans rfl) rfl,
   fun L st σ a i x => ev_iast ((TP_166 _).trans rfl),
   fun L σ => ev_r ((TP_166 _).trans rfl) rfl⟩
theorem TP_167 (pc : Nat) : TT 167 pc = ri_find TL_167 pc := rfl
theorem E_167 (x0 : Nat) (x1 : Int32) (x2 : Int32) (x3 : Int32) (σ : ri_S) : cal 167 [.ref x0, .int x1, .int x2, .int x3] σ = ev 167 (0, [some (.ref x0), some (.int x1), some (.int x2), some (.int x3), none, none, none], []) σ := rfl
theorem I_167_0 :
  (∀ (L : ri_L) (st : List Value) (σ : ri_S), ev 167 (0, L, st) σ = ev 167 (2, L, .int 71 :: st) σ) ∧
  (∀ (L : ri_L) (st : List Value) (σ : ri_S), ev 167 (2, L, st) σ = ev 167 (3, L, .int 5 :: st) σ) ∧
  (∀ (l0 l2 l3 l4 l5 l6 : Option Value) (st : List Value) (σ : ri_S) (x : Int32), ev 167 (3, [l0, some (.int x), l2, l3, l4, l5, l6], st) σ = ev 167 (4, [l0, some (.int x), l2, l3, l4, l5, l6], .int x :: st) σ) ∧
  (∀ (L : ri_L) (st : List Value) (σ : ri_S) (x y : Int32), ev 167 (4, L, .int y :: .int x :: st) σ = ev 167 (5, L, .int (x * y) :: st) σ) ∧
  (∀ (L : ri_L) (st : List Value) (σ : ri_S) (x y : Int32), ev 167 (5, L, .int y :: .int x :: st) σ = ev 167 (6, L, .int (x + y) :: st) σ) ∧
  (∀ (l0 l1 l2 l3 l4 l5 l6 : Option Value) (st : List Value) (σ : ri_S) (x : Int32), ev 167 (6, [l0, l1, l2, l3, l4, l5, l6], .int x :: st) σ = ev 167 (8, [l0, l1, l2, ri_clr l3, some (.int x), l5, l6], st) σ) ∧
  (∀ (l1 l2 l3 l4 l5 l6 : Option Value) (st : List Value) (σ : ri_S) (x : Nat), ev 167 (8, [some (.ref x), l1, l2, l3, l4, l5, l6], st) σ = ev 167 (9, [some (.ref x), l1, l2, l3, l4, l5, l6], .ref x :: st) σ) ∧
  (∀ (l0 l1 l3 l4 l5 l6 : Option Value) (st : List Value) (σ : ri_S) (x : Int32), ev 167 (9, [l0, l1, some (.int x), l3, l4, l5, l6], st) σ = ev 167 (10, [l0, l1, some (.int x), l3, l4, l5, l6], .int x :: st) σ) ∧
  (∀ (l0 l1 l2 l4 l5 l6 : Option Value) (st : List Value) (σ : ri_S) (x : Int32), ev 167 (10, [l0, l1, l2, some (.int x), l4, l5, l6], st) σ = ev 167 (11, [l0, l1, l2, some (.int x), l4, l5, l6], .int x :: st) σ) ∧
  (∀ (L : ri_L) (σ : ri_S) (a0 : Nat) (a1 : Int32) (a2 : Int32), ev 167 (11, L, [.int a2, .int a1, .ref a0]) σ = (cal 157 [.ref a0, .int a1, .int a2] σ).bind fun q => ev 167 (14, L, q.1.toList ++ []) q.2) ∧
  (∀ (l0 l1 l2 l3 l4 l5 l6 : Option Value) (st : List Value) (σ : ri_S) (x : Int32), ev 167 (14, [l0, l1, l2, l3, l4, l5, l6], .int x :: st) σ = ev 167 (16, [l0, l1, l2, l3, ri_clr l4, some (.int x), l6], st) σ) ∧
  (∀ (l1 l2 l3 l4 l5 l6 : Option Value) (st : List Value) (σ : ri_S) (x : Nat), ev 167 (16, [some (.ref x), l1, l2, l3, l4, l5, l6], st) σ = ev 167 (17, [some (.ref x), l1, l2, l3, l4, l5, l6], .ref x :: st) σ) ∧
  (∀ (l0 l1 l2 l3 l5 l6 : Option Value) (st : List Value) (σ : ri_S) (x : Int32), ev 167 (17, [l0, l1, l2, l3, some (.int x), l5, l6], st) σ = ev 167 (19, [l0, l1, l2, l3, some (.int x), l5, l6], .int x :: st) σ) ∧
  (∀ (L : ri_L) (st : List Value) (σ : ri_S), ev 167 (19, L, st) σ = ev 167 (20, L, .int 1 :: st) σ) ∧
  (∀ (L : ri_L) (st : List Value) (σ : ri_S) (x y : Int32), ev 167 (20, L, .int y :: .int x :: st) σ = ev 167 (21, L, .int (x + y) :: st) σ) ∧
  (∀ (l0 l1 l3 l4 l5 l6 : Option Value) (st : List Value) (σ : ri_S) (x : Int32), ev 167 (21, [l0, l1, some (.int x), l3, l4, l5, l6], st) σ = ev 167 (22, [l0, l1, some (.int x), l3, l4, l5, l6], .int x :: st) σ) ∧
  (∀ (L : ri_L) (st : List Value) (σ : ri_S) (a : Nat) (i x : Int32), ev 167 (22, L, .int x :: .int i :: .ref a :: st) σ = tv_r 0 (σ.1 a) i fun n f j => ev 167 (23, L, st) (ri_upd σ.1 a (.inl (0, n, upd f j x)), σ.2)) ∧
  (∀ (l1 l2 l3 l4 l5 l6 : Option Value) (st : List Value) (σ : ri_S) (x : Nat), ev 167 (23, [some (.ref x), l1, l2, l3, l4, l5, l6], st) σ = ev 167 (24, [some (.ref x), l1, l2, l3, l4, l5, l6], .ref x :: st) σ) ∧
  (∀ (l0 l1 l2 l3 l5 l6 : Option Value) (st : List Value) (σ : ri_S) (x : Int32), ev 167 (24, [l0, l1, l2, l3, some (.int x), l5, l6], st) σ = ev 167 (26, [l0, l1, l2, l3, some (.int x), l5, l6], .int x :: st) σ) ∧
  (∀ (L : ri_L) (st : List Value) (σ : ri_S), ev 167 (26, L, st) σ = ev 167 (27, L, .int 2 :: st) σ) ∧
  (∀ (L : ri_L) (st : List Value) (σ : ri_S) (x y : Int32), ev 167 (27, L, .int y :: .int x :: st) σ = ev 167 (28, L, .int (x + y) :: st) σ) ∧
  (∀ (l0 l1 l2 l3 l4 l6 : Option Value) (st : List Value) (σ : ri_S) (x : Int32), ev 167 (28, [l0, l1, l2, l3, l4, some (.int x), l6], st) σ = ev 167 (30, [l0, l1, l2, l3, l4, some (.int x), l6], .int x :: st) σ) ∧
  (∀ (L : ri_L) (st : List Value) (σ : ri_S) (a : Nat) (i x : Int32), ev 167 (30, L, .int x :: .int i :: .ref a :: st) σ = tv_r 0 (σ.1 a) i fun n f j => ev 167 (31, L, st) (ri_upd σ.1 a (.inl (0, n, upd f j x)), σ.2)) ∧
  (∀ (L : ri_L) (st : List Value) (σ : ri_S), ev 167 (31, L, st) σ = ev 167 (33, L, .int 9 :: st) σ) ∧
  (∀ (L : ri_L) (st : List Value) (σ : ri_S), ev 167 (33, L, st) σ = ev 167 (35, L, .int 10 :: st) σ) ∧
  (∀ (l0 l1 l3 l4 l5 l6 : Option Value) (st : List Value) (σ : ri_S) (x : Int32), ev 167 (35, [l0, l1, some (.int x), l3, l4, l5, l6], st) σ = ev 167 (36, [l0, l1, some (.int x), l3, l4, l5, l6], .int x :: st) σ) ∧
  (∀ (L : ri_L) (st : List Value) (σ : ri_S) (x y : Int32), ev 167 (36, L, .int y :: .int x :: st) σ = ev 167 (37, L, .int (x * y) :: st) σ) ∧
  (∀ (L : ri_L) (st : List Value) (σ : ri_S) (x y : Int32), ev 167 (37, L, .int y :: .int x :: st) σ = ev 167 (38, L, .int (x + y) :: st) σ) ∧
  (∀ (L : ri_L) (st : List Value) (σ : ri_S), ev 167 (38, L, st) σ = ev 167 (39, L, .int 5 :: st) σ) ∧
  (∀ (L : ri_L) (st : List Value) (σ : ri_S) (x y : Int32), ev 167 (39, L, .int y :: .int x :: st) σ = ev 167 (40, L, .int (x + y) :: st) σ) ∧
  (∀ (l0 l1 l2 l3 l4 l6 : Option Value) (st : List Value) (σ : ri_S) (x : Int32), ev 167 (40, [l0, l1, l2, l3, l4, some (.int x), l6], st) σ = ev 167 (42, [l0, l1, l2, l3, l4, some (.int x), l6], .int x :: st) σ) ∧
  (∀ (L : ri_L) (st : List Value) (σ : ri_S) (x y : Int32), ev 167 (42, L, .int y :: .int x :: st) σ = ev 167 (43, L, .int (x + y) :: st) σ) ∧
  (∀ (l0 l1 l2 l3 l4 l5 l6 : Option Value) (st : List Value) (σ : ri_S) (x : Int32), ev 167 (43, [l0, l1, l2, l3, l4, l5, l6], .int x :: st) σ = ev 167 (45, [l0, l1, l2, l3, l4, ri_clr l5, some (.int x)], st) σ) ∧
  (∀ (l1 l2 l3 l4 l5 l6 : Option Value) (st : List Value) (σ : ri_S) (x : Nat), ev 167 (45, [some (.ref x), l1, l2, l3, l4, l5, l6], st) σ = ev 167 (46, [some (.ref x), l1, l2, l3, l4, l5, l6], .ref x :: st) σ) ∧
  (∀ (l0 l2 l3 l4 l5 l6 : Option Value) (st : List Value) (σ : ri_S) (x : Int32), ev 167 (46, [l0, some (.int x), l2, l3, l4, l5, l6], st) σ = ev 167 (47, [l0, some (.int x), l2, l3, l4, l5, l6], .int x :: st) σ) ∧
  (∀ (l1 l2 l3 l4 l5 l6 : Option Value) (st : List Value) (σ : ri_S) (x : Nat), ev 167 (47, [some (.ref x), l1, l2, l3, l4, l5, l6], st) σ = ev 167 (48, [some (.ref x), l1, l2, l3, l4, l5, l6], .ref x :: st) σ) ∧
  (∀ (l0 l1 l2 l3 l4 l5 : Option Value) (st : List Value) (σ : ri_S) (x : Int32), ev 167 (48, [l0, l1, l2, l3, l4, l5, some (.int x)], st) σ = ev 167 (50, [l0, l1, l2, l3, l4, l5, some (.int x)], .int x :: st) σ) ∧
  (∀ (L : ri_L) (st : List Value) (σ : ri_S) (a : Nat) (i : Int32), ev 167 (50, L, .int i :: .ref a :: st) σ = tv_r 0 (σ.1 a) i fun n f j => ev 167 (51, L, .int (f j) :: st) σ) ∧
  (∀ (L : ri_L) (σ : ri_S) (a0 : Nat) (a1 : Int32) (a2 : Int32), ev 167 (51, L, [.int a2, .int a1, .ref a0]) σ = (cal 166 [.ref a0, .int a1, .int a2] σ).bind fun q => ev 167 (54, L, q.1.toList ++ []) q.2) ∧
  (∀ (l1 l2 l3 l4 l5 l6 : Option Value) (st : List Value) (σ : ri_S) (x : Nat), ev 167 (54, [some (.ref x), l1, l2, l3, l4, l5, l6], st) σ = ev 167 (55, [some (.ref x), l1, l2, l3, l4, l5, l6], .ref x :: st) σ) :=
  ⟨fun L st σ => ev_p ((TP_167 _).trans rfl) rfl,
   fun L st σ => ev_p ((TP_167 _).trans rfl) rfl,
   fun l0 l2 l3 l4 l5 l6 st σ x => ev_p ((TP_167 _).trans rfl) rfl,
   fun L st σ x y => ev_p ((TP_167 _).trans rfl) rfl,
   fun L st σ x y => ev_p ((TP_167 _).trans rfl) rfl,
   fun l0 l1 l2 l3 l4 l5 l6 st σ x => ev_p ((TP_167 _).trans rfl) rfl,
   fun l1 l2 l3 l4 l5 l6 st σ x => ev_p ((TP_167 _).trans rfl) rfl,
   fun l0 l1 l3 l4 l5 l6 st σ x => ev_p ((TP_167 _).trans rfl) rfl,
   fun l0 l1 l2 l4 l5 l6 st σ x => ev_p ((TP_167 _).trans rfl) rfl,
   fun L σ a0 a1 a2 => ev_call ((TP_167 _).trans rfl) rfl rfl rfl rfl,
   fun l0 l1 l2 l3 l4 l5 l6 st σ x => ev_p ((TP_167 _).trans rfl) rfl,
   fun l1 l2 l3 l4 l5 l6 st σ x => ev_p ((TP_167 _).trans rfl) rfl,
   fun l0 l1 l2 l3 l5 l6 st σ x => ev_p ((TP_167 _).trans rfl) rfl,
   fun L st σ => ev_p ((TP_167 _).trans rfl) rfl,
   fun L st σ x y => ev_p ((TP_167 _).trans rfl) rfl,
   fun l0 l1 l3 l4 l5 l6 st σ x => ev_p ((TP_167 _).trans rfl) rfl,
   fun L st σ a i x => ev_iast ((TP_167 _).trans rfl),
   fun l1 l2 l3 l4 l5 l6 st σ x => ev_p ((TP_167 _).trans rfl) rfl,
   fun l0 l1 l2 l3 l5 l6 st σ x => ev_p ((TP_167 _).trans rfl) rfl,
   fun L st σ => ev_p ((TP_167 _).trans rfl) rfl,
   fun L st σ x y => ev_p ((TP_167 _).trans rfl) rfl,
   fun l0 l1 l2 l3 l4 l6 st σ x => ev_p ((TP_167 _).trans rfl) rfl,
   fun L st σ a i x => ev_iast ((TP_167 _).trans rfl),
   fun L st σ => ev_p ((TP_167 _).trans rfl) rfl,
   fun L st σ => ev_p ((TP_167 _).trans rfl) rfl,
   fun l0 l1 l3 l4 l5 l6 st σ x => ev_p ((TP_167 _).trans rfl) rfl,
   fun L st σ x y => ev_p ((TP_167 _).trans rfl) rfl,
   fun L st σ x y => ev_p ((TP_167 _).trans rfl) rfl,
   fun L st σ => ev_p ((TP_167 _).trans rfl) rfl,
   fun L st σ x y => ev_p ((TP_167 _).trans rfl) rfl,
   fun l0 l1 l2 l3 l4 l6 st σ x => ev_p ((TP_167 _).trans rfl) rfl,
   fun L st σ x y => ev_p ((TP_167 _).trans rfl) rfl,
   fun l0 l1 l2 l3 l4 l5 l6 st σ x => ev_p ((TP_167 _).trans rfl) rfl,
   fun l1 l2 l3 l4 l5 l6 st σ x => ev_p ((TP_167 _).trans rfl) rfl,
   fun l0 l2 l3 l4 l5 l6 st σ x => ev_p ((TP_167 _).trans rfl) rfl,
   fun l1 l2 l3 l4 l5 l6 st σ x => ev_p ((TP_167 _).trans rfl) rfl,
   fun l0 l1 l2 l3 l4 l5 st σ x => ev_p ((TP_167 _).trans rfl) rfl,
   fun L st σ a i => ev_iald ((TP_167 _).trans rfl),
   fun L σ a0 a1 a2 => ev_call ((TP_167 _).trans rfl) rfl rfl rfl rfl,
   fun l1 l2 l3 l4 l5 l6 st σ x => ev_p ((TP_167 _).trans rfl) rfl⟩
theorem I_167_1 :
  (∀ (l0 l1 l2 l3 l4 l5 : Option Value) (st : List Value) (σ : ri_S) (x : Int32), ev 167 (55, [l0, l1, l2, l3, l4, l5, some (.int x)], st) σ = ev 167 (57, [l0, l1, l2, l3, l4, l5, some (.int x)], .int x :: st) σ) ∧
  (∀ (L : ri_L) (st : List Value) (σ : ri_S), ev 167 (57, L, st) σ = ev 167 (58, L, .int 0 :: st) σ) ∧
  (∀ (L : ri_L) (st : List Value) (σ : ri_S) (a : Nat) (i x : Int32), ev 167 (58, L, .int x :: .int i :: .ref a :: st) σ = tv_r 0 (σ.1 a) i fun n f j => ev 167 (59, L, st) (ri_upd σ.1 a (.inl (0, n, upd f j x)), σ.2)) ∧
  (∀ (L : ri_L) (σ : ri_S), ev 167 (59, L, []) σ = some (none, σ)) :=
  ⟨fun l0 l1 l2 l3 l4 l5 st σ x => ev_p ((TP_167 _).trans rfl) rfl,
   fun L st σ => ev_p ((TP_167 _).trans rfl) rfl,
   fun L st σ a i x => ev_iast ((TP_167 _).trans rfl),
   fun L σ => ev_r ((TP_167 _).trans rfl) rfl⟩
theorem TP_168 (pc : Nat) : TT 168 pc = ri_find TL_168 pc := rfl
theorem E_168 (x0 : Nat) (x1 : Int32) (x2 : Int32) (σ : ri_S) : cal 168 [.ref x0, .int x1, .int x2] σ = ev 168 (0, [some (.ref x0), some (.int x1), some (.int x2), none], []) σ := rfl
theorem I_168 :
  (∀ (L : ri_L) (st : List Value) (σ : ri_S), ev 168 (0, L, st) σ = ev 168 (2, L, .int 9 :: st) σ) ∧
  (∀ (L : ri_L) (st : List Value) (σ : ri_S), ev 168 (2, L, st) σ = ev 168 (4, L, .int 10 :: st) σ) ∧
  (∀ (l0 l2 l3 : Option Value) (st : List Value) (σ : ri_S) (x : Int32), ev 168 (4, [l0, some (.int x), l2, l3], st) σ = ev 168 (5, [l0, some (.int x), l2, l3], .int x :: st) σ) ∧
  (∀ (L : ri_L) (st : List Value) (σ : ri_S) (x y : Int32), ev 168 (5, L, .int y :: .int x :: st) σ = ev 168 (6, L, .int (x * y) :: st) σ) ∧
  (∀ (L : ri_L) (st : List Value) (σ : ri_S) (x y : Int32), ev 168 (6, L, .int y :: .int x :: st) σ = ev 168 (7, L, .int (x + y) :: st) σ) ∧
  (∀ (L : ri_L) (st : List Value) (σ : ri_S), ev 168 (7, L, st) σ = ev 168 (8, L, .int 3 :: st) σ) ∧
  (∀ (L : ri_L) (st : List Value) (σ : ri_S) (x y : Int32), ev 168 (8, L, .int y :: .int x :: st) σ = ev 168 (9, L, .int (x + y) :: st) σ) ∧
  (∀ (l0 l1 l2 l3 : Option Value) (st : List Value) (σ : ri_S) (x : Int32), ev 168 (9, [l0, l1, l2, l3], .int x :: st) σ = ev 168 (10, [l0, l1, ri_clr l2, some (.int x)], st) σ) ∧
  (∀ (l1 l2 l3 : Option Value) (st : List Value) (σ : ri_S) (x : Nat), ev 168 (10, [some (.ref x), l1, l2, l3], st) σ = ev 168 (11, [some (.ref x), l1, l2, l3], .ref x :: st) σ) ∧
  (∀ (l0 l1 l2 : Option Value) (st : List Value) (σ : ri_S) (x : Int32), ev 168 (11, [l0, l1, l2, some (.int x)], st) σ = ev 168 (12, [l0, l1, l2, some (.int x)], .int x :: st) σ) ∧
  (∀ (l1 l2 l3 : Option Value) (st : List Value) (σ : ri_S) (x : Nat), ev 168 (12, [some (.ref x), l1, l2, l3], st) σ = ev 168 (13, [some (.ref x), l1, l2, l3], .ref x :: st) σ) ∧
  (∀ (l0 l1 l2 : Option Value) (st : List Value) (σ : ri_S) (x : Int32), ev 168 (13, [l0, l1, l2, some (.int x)], st) σ = ev 168 (14, [l0, l1, l2, some (.int x)], .int x :: st) σ) ∧
  (∀ (L : ri_L) (st : List Value) (σ : ri_S) (a : Nat) (i : Int32), ev 168 (14, L, .int i :: .ref a :: st) σ = tv_r 0 (σ.1 a) i fun n f j => ev 168 (15, L, .int (f j) :: st) σ) ∧
  (∀ (l0 l1 l3 : Option Value) (st : List Value) (σ : ri_S) (x : Int32), ev 168 (15, [l0, l1, some (.int x), l3], st) σ = ev 168 (16, [l0, l1, some (.int x), l3], .int x :: st) σ) ∧
  (∀ (L : ri_L) (st : List Value) (σ : ri_S) (x y : Int32), ev 168 (16, L, .int y :: .int x :: st) σ = ev 168 (17, L, .int (x + y) :: st) σ) ∧
  (∀ (l1 l2 l3 : Option Value) (st : List Value) (σ : ri_S) (x : Nat), ev 168 (17, [some (.ref x), l1, l2, l3], st) σ = ev 168 (18, [some (.ref x), l1, l2, l3], .ref x :: st) σ) ∧
  (∀ (l0 l2 l3 : Option Value) (st : List Value) (σ : ri_S) (x : Int32), ev 168 (18, [l0, some (.int x), l2, l3], st) σ = ev 168 (19, [l0, some (.int x), l2, l3], .int x :: st) σ) ∧
  (∀ (L : ri_L) (st : List Value) (σ : ri_S), ev 168 (19, L, st) σ = ev 168 (20, L, .int 0 :: st) σ) ∧
  (∀ (L : ri_L) (σ : ri_S) (a0 : Nat) (a1 : Int32) (a2 : Int32) (s0 s1 s2 : Value), ev 168 (20, L, [.int a2, .int a1, .ref a0, s0, s1, s2]) σ = (cal 149 [.ref a0, .int a1, .int a2] σ).bind fun q => ev 168 (23, L, q.1.toList ++ [s0, s1, s2]) q.2) ∧
  (∀ (L : ri_L) (σ : ri_S) (a0 : Int32) (a1 : Int32) (s0 s1 : Value), ev 168 (23, L, [.int a1, .int a0, s0, s1]) σ = (cal 156 [.int a0, .int a1] σ).bind fun q => ev 168 (26, L, q.1.toList ++ [s0, s1]) q.2) ∧
  (∀ (L : ri_L) (st : List Value) (σ : ri_S) (a : Nat) (i x : Int32), ev 168 (26, L, .int x :: .int i :: .ref a :: st) σ = tv_r 0 (σ.1 a) i fun n f j => ev 168 (27, L, st) (ri_upd σ.1 a (.inl (0, n, upd f j x)), σ.2)) ∧
  (∀ (L : ri_L) (σ : ri_S), ev 168 (27, L, []) σ = some (none, σ)) :=
  ⟨fun L st σ => ev_p ((TP_168 _).trans rfl) rfl,
   fun L st σ => ev_p ((TP_168 _).trans rfl) rfl,
   fun l0 l2 l3 st σ x => ev_p ((TP_168 _).trans rfl) rfl,
   fun L st σ x y => ev_p ((TP_168 _).trans rfl) rfl,
   fun L st σ x y => ev_p ((TP_168 _).trans rfl) rfl,
   fun L st σ => ev_p ((TP_168 _).trans rfl) rfl,
   fun L st σ x y => ev_p ((TP_168 _).trans rfl) rfl,
   fun l0 l1 l2 l3 st σ x => ev_p ((TP_168 _).trans rfl) rfl,
   fun l1 l2 l3 st σ x => ev_p ((TP_168 _).trans rfl) rfl,
   fun l0 l1 l2 st σ x => ev_p ((TP_168 _).trans rfl) rfl,
   fun l1 l2 l3 st σ x => ev_p ((TP_168 _).trans rfl) rfl,
   fun l0 l1 l2 st σ x => ev_p ((TP_168 _).trans rfl) rfl,
   fun L st σ a i => ev_iald ((TP_168 _).trans rfl),
   fun l0 l1 l3 st σ x => ev_p ((TP_168 _).trans rfl) rfl,
   fun L st σ x y => ev_p ((TP_168 _).trans rfl) rfl,
   fun l1 l2 l3 st σ x => ev_p ((TP_168 _).trans rfl) rfl,
   fun l0 l2 l3 st σ x => ev_p ((TP_168 _).trans rfl) rfl,
   fun L st σ => ev_p ((TP_168 _).trans rfl) rfl,
   fun L σ a0 a1 a2 s0 s1 s2 => ev_call ((TP_168 _).trans rfl) rfl rfl rfl rfl,
   fun L σ a0 a1 s0 s1 => ev_call ((TP_168 _).trans rfl) rfl rfl rfl rfl,
   fun L st σ a i x => ev_iast ((TP_168 _).trans rfl),
   fun L σ => ev_r ((TP_168 _).trans rfl) rfl⟩
theorem TP_169 (pc : Nat) : TT 169 pc = ri_find TL_169 pc := rfl
theorem E_169 (x0 : Nat) (x1 : Int32) (x2 : Int32) (σ : ri_S) : cal 169 [.ref x0, .int x1, .int x2] σ = ev 169 (0, [some (.ref x0), some (.int x1), some (.int x2), none, none], []) σ := rfl
theorem I_169_0 :
  (∀ (l1 l2 l3 l4 : Option Value) (st : List Value) (σ : ri_S) (x : Nat), ev 169 (0, [some (.ref x), l1, l2, l3, l4], st) σ = ev 169 (1, [some (.ref x), l1, l2, l3, l4], .ref x :: st) σ) ∧
  (∀ (l0 l2 l3 l4 : Option Value) (st : List Value) (σ : ri_S) (x : Int32), ev 169 (1, [l0, some (.int x), l2, l3, l4], st) σ = ev 169 (2, [l0, some (.int x), l2, l3, l4], .int x :: st) σ) ∧
  (∀ (l0 l1 l3 l4 : Option Value) (st : List Value) (σ : ri_S) (x : Int32), ev 169 (2, [l0, l1, some (.int x), l3, l4], st) σ = ev 169 (3, [l0, l1, some (.int x), l3, l4], .int x :: st) σ) ∧
  (∀ (L : ri_L) (σ : ri_S) (a0 : Nat) (a1 : Int32) (a2 : Int32), ev 169 (3, L, [.int a2, .int a1, .ref a0]) σ = (cal 162 [.ref a0, .int a1, .int a2] σ).bind fun q => ev 169 (6, L, q.1.toList ++ []) q.2) ∧
  (∀ (l0 l1 l2 l3 l4 : Option Value) (st : List Value) (σ : ri_S) (x : Int32), ev 169 (6, [l0, l1, l2, l3, l4], .int x :: st) σ = ev 169 (7, [l0, l1, ri_clr l2, some (.int x), l4], st) σ) ∧
  (∀ (l1 l2 l3 l4 : Option Value) (st : List Value) (σ : ri_S) (x : Nat), ev 169 (7, [some (.ref x), l1, l2, l3, l4], st) σ = ev 169 (8, [some (.ref x), l1, l2, l3, l4], .ref x :: st) σ) ∧
  (∀ (l0 l2 l3 l4 : Option Value) (st : List Value) (σ : ri_S) (x : Int32), ev 169 (8, [l0, some (.int x), l2, l3, l4], st) σ = ev 169 (9, [l0, some (.int x), l2, l3, l4], .int x :: st) σ) ∧
  (∀ (L : ri_L) (st : List Value) (σ : ri_S), ev 169 (9, L, st) σ = ev 169 (10, L, .int 1 :: st) σ) ∧
  (∀ (L : ri_L) (σ : ri_S) (a0 : Nat) (a1 : Int32) (a2 : Int32), ev 169 (10, L, [.int a2, .int a1, .ref a0]) σ = (cal 150 [.ref a0, .int a1, .int a2] σ).bind fun q => ev 169 (13, L, q.1.toList ++ []) q.2) ∧
  (∀ (l0 l1 l2 l3 l4 : Option Value) (st : List Value) (σ : ri_S) (x : Int32), ev 169 (13, [l0, l1, l2, l3, l4], .int x :: st) σ = ev 169 (15, [l0, l1, l2, ri_clr l3, some (.int x)], st) σ) ∧
  (∀ (l1 l2 l3 l4 : Option Value) (st : List Value) (σ : ri_S) (x : Nat), ev 169 (15, [some (.ref x), l1, l2, l3, l4], st) σ = ev 169 (16, [some (.ref x), l1, l2, l3, l4], .ref x :: st) σ) ∧
  (∀ (l0 l2 l3 l4 : Option Value) (st : List Value) (σ : ri_S) (x : Int32), ev 169 (16, [l0, some (.int x), l2, l3, l4], st) σ = ev 169 (17, [l0, some (.int x), l2, l3, l4], .int x :: st) σ) ∧
  (∀ (l1 l2 l3 l4 : Option Value) (st : List Value) (σ : ri_S) (x : Nat), ev 169 (17, [some (.ref x), l1, l2, l3, l4], st) σ = ev 169 (18, [some (.ref x), l1, l2, l3, l4], .ref x :: st) σ) ∧
  (∀ (l0 l1 l3 l4 : Option Value) (st : List Value) (σ : ri_S) (x : Int32), ev 169 (18, [l0, l1, some (.int x), l3, l4], st) σ = ev 169 (19, [l0, l1, some (.int x), l3, l4], .int x :: st) σ) ∧
  (∀ (L : ri_L) (st : List Value) (σ : ri_S), ev 169 (19, L, st) σ = ev 169 (20, L, .int 2 :: st) σ) ∧
  (∀ (l0 l1 l2 l4 : Option Value) (st : List Value) (σ : ri_S) (x : Int32), ev 169 (20, [l0, l1, l2, some (.int x), l4], st) σ = ev 169 (21, [l0, l1, l2, some (.int x), l4], .int x :: st) σ) ∧
  (∀ (L : ri_L) (st : List Value) (σ : ri_S) (x y : Int32), ev 169 (21, L, .int y :: .int x :: st) σ = ev 169 (22, L, .int (x * y) :: st) σ) ∧
  (∀ (L : ri_L) (σ : ri_S) (a0 : Nat) (a1 : Int32) (a2 : Int32) (s0 s1 : Value), ev 169 (22, L, [.int a2, .int a1, .ref a0, s0, s1]) σ = (cal 151 [.ref a0, .int a1, .int a2] σ).bind fun q => ev 169 (25, L, q.1.toList ++ [s0, s1]) q.2) ∧
  (∀ (l1 l2 l3 l4 : Option Value) (st : List Value) (σ : ri_S) (x : Nat), ev 169 (25, [some (.ref x), l1, l2, l3, l4], st) σ = ev 169 (26, [some (.ref x), l1, l2, l3, l4], .ref x :: st) σ) ∧
  (∀ (l0 l1 l3 l4 : Option Value) (st : List Value) (σ : ri_S) (x : Int32), ev 169 (26, [l0, l1, some (.int x), l3, l4], st) σ = ev 169 (27, [l0, l1, some (.int x), l3, l4], .int x :: st) σ) ∧
  (∀ (L : ri_L) (st : List Value) (σ : ri_S), ev 169 (27, L, st) σ = ev 169 (28, L, .int 2 :: st) σ) ∧
  (∀ (l0 l1 l2 l4 : Option Value) (st : List Value) (σ : ri_S) (x : Int32), ev 169 (28, [l0, l1, l2, some (.int x), l4], st) σ = ev 169 (29, [l0, l1, l2, some (.int x), l4], .int x :: st) σ) ∧
  (∀ (L : ri_L) (st : List Value) (σ : ri_S) (x y : Int32), ev 169 (29, L, .int y :: .int x :: st) σ = ev 169 (30, L, .int (x * y) :: st) σ) ∧
  (∀ (L : ri_L) (st : List Value) (σ : ri_S), ev 169 (30, L, st) σ = ev 169 (31, L, .int 1 :: st) σ) ∧
  (∀ (L : ri_L) (st : List Value) (σ : ri_S) (x y : Int32), ev 169 (31, L, .int y :: .int x :: st) σ = ev 169 (32, L, .int (x + y) :: st) σ) ∧
  (∀ (L : ri_L) (σ : ri_S) (a0 : Nat) (a1 : Int32) (a2 : Int32) (s0 s1 s2 : Value), ev 169 (32, L, [.int a2, .int a1, .ref a0, s0, s1, s2]) σ = (cal 151 [.ref a0, .int a1, .int a2] σ).bind fun q => ev 169 (35, L, q.1.toList ++ [s0, s1, s2]) q.2) ∧
  (∀ (L : ri_L) (σ : ri_S) (a0 : Nat) (a1 : Int32) (a2 : Int32) (a3 : Int32), ev 169 (35, L, [.int a3, .int a2, .int a1, .ref a0]) σ = (cal 167 [.ref a0, .int a1, .int a2, .int a3] σ).bind fun q => ev 169 (38, L, q.1.toList ++ []) q.2) ∧
  (∀ (l1 l2 l3 l4 : Option Value) (st : List Value) (σ : ri_S) (x : Nat), ev 169 (38, [some (.ref x), l1, l2, l3, l4], st) σ = ev 169 (39, [some (.ref x), l1, l2, l3, l4], .ref x :: st) σ) ∧
  (∀ (l0 l1 l2 l3 : Option Value) (st : List Value) (σ : ri_S) (x : Int32), ev 169 (39, [l0, l1, l2, l3, some (.int x)], st) σ = ev 169 (41, [l0, l1, l2, l3, some (.int x)], .int x :: st) σ) ∧
  (∀ (L : ri_L) (σ : ri_S) (a0 : Nat) (a1 : Int32), ev 169 (41, L, [.int a1, .ref a0]) σ = (cal 160 [.ref a0, .int a1] σ).bind fun q => ev 169 (44, L, q.1.toList ++ []) q.2) ∧
  (∀ (l1 l2 l3 l4 : Option Value) (st : List Value) (σ : ri_S) (x : Nat), ev 169 (44, [some (.ref x), l1, l2, l3, l4], st) σ = ev 169 (45, [some (.ref x), l1, l2, l3, l4], .ref x :: st) σ) ∧
  (∀ (l0 l1 l2 l3 : Option Value) (st : List Value) (σ : ri_S) (x : Int32), ev 169 (45, [l0, l1, l2, l3, some (.int x)], st) σ = ev 169 (47, [l0, l1, l2, l3, some (.int x)], .int x :: st) σ) ∧
  (∀ (L : ri_L) (st : List Value) (σ : ri_S), ev 169 (47, L, st) σ = ev 169 (48, L, .int 2 :: st) σ) ∧
  (∀ (L : ri_L) (σ : ri_S) (a0 : Nat) (a1 : Int32) (a2 : Int32) (s0 : Value), ev 169 (48, L, [.int a2, .int a1, .ref a0, s0]) σ = (cal 149 [.ref a0, .int a1, .int a2] σ).bind fun q => ev 169 (51, L, q.1.toList ++ [s0]) q.2) ∧
  (∀ (L : ri_L) (st : List Value) (σ : ri_S) (x y : Int32), ev 169 (51, L, .int y :: .int x :: st) σ = if y < x then ev 169 (83, L, st) σ else ev 169 (54, L, st) σ) ∧
  (∀ (l1 l2 l3 l4 : Option Value) (st : List Value) (σ : ri_S) (x : Nat), ev 169 (54, [some (.ref x), l1, l2, l3, l4], st) σ = ev 169 (55, [some (.ref x), l1, l2, l3, l4], .ref x :: st) σ) ∧
  (∀ (l0 l1 l2 l3 : Option Value) (st : List Value) (σ : ri_S) (x : Int32), ev 169 (55, [l0, l1, l2, l3, some (.int x)], st) σ = ev 169 (57, [l0, l1, l2, l3, some (.int x)], .int x :: st) σ) ∧
  (∀ (l1 l2 l3 l4 : Option Value) (st : List Value) (σ : ri_S) (x : Nat), ev 169 (57, [some (.ref x), l1, l2, l3, l4], st) σ = ev 169 (58, [some (.ref x), l1, l2, l3, l4], .ref x :: st) σ) ∧
  (∀ (l0 l1 l2 l3 : Option Value) (st : List Value) (σ : ri_S) (x : Int32), ev 169 (58, [l0, l1, l2, l3, some (.int x)], st) σ = ev 169 (60, [l0, l1, l2, l3, some (.int x)], .int x :: st) σ) ∧
  (∀ (L : ri_L) (st : List Value) (σ : ri_S), ev 169 (60, L, st) σ = ev 169 (61, L, .int 1 :: st) σ) :=
  ⟨fun l1 l2 l3 l4 st σ x => ev_p ((TP_169 _).trans rfl) rfl,
   fun l0 l2 l3 l4 st σ x => ev_p ((TP_169 _).trans rfl) rfl,
   fun l0 l1 l3 l4 st σ x => ev_p ((TP_169 _).trans rfl) rfl,
   fun L σ a0 a1 a2 => ev_call ((TP_169 _).trans rfl) rfl rfl rfl rfl,
   fun l0 l1 l2 l3 l4 st σ x => ev_p ((TP_169 _).trans rfl) rfl,
   fun l1 l2 l3 l4 st σ x => ev_p ((TP_169 _).trans rfl) rfl,
   fun l0 l2 l3 l4 st σ x => ev_p ((TP_169 _).trans rfl) rfl,
   fun L st σ => ev_p ((TP_169 _).trans rfl) rfl,
   fun L σ a0 a1 a2 => ev_call ((TP_169 _).trans rfl) rfl rfl rfl rfl,
   fun l0 l1 l2 l3 l4 st σ x => ev_p ((TP_169 _).trans rfl) rfl,
   fun l1 l2 l3 l4 st σ x => ev_p ((TP_169 _).trans rfl) rfl,
   fun l0 l2 l3 l4 st σ x => ev_p ((TP_169 _).trans rfl) rfl,
   fun l1 l2 l3 l4 st σ x => ev_p ((TP_169 _).trans rfl) rfl,
   fun l0 l1 l3 l4 st σ x => ev_p ((TP_169 _).trans rfl) rfl,
   fun L st σ => ev_p ((TP_169 _).trans rfl) rfl,
   fun l0 l1 l2 l4 st σ x => ev_p ((TP_169 _).trans rfl) rfl,
   fun L st σ x y => ev_p ((TP_169 _).trans rfl) rfl,
   fun L σ a0 a1 a2 s0 s1 => ev_call ((TP_169 _).trans rfl) rfl rfl rfl rfl,
   fun l1 l2 l3 l4 st σ x => ev_p ((TP_169 _).trans rfl) rfl,
   fun l0 l1 l3 l4 st σ x => ev_p ((TP_169 _).trans rfl) rfl,
   fun L st σ => ev_p ((TP_169 _).trans rfl) rfl,
   fun l0 l1 l2 l4 st σ x => ev_p ((TP_169 _).trans rfl) rfl,
   fun L st σ x y => ev_p ((TP_169 _).trans rfl) rfl,
   fun L st σ => ev_p ((TP_169 _).trans rfl) rfl,
   fun L st σ x y => ev_p ((TP_169 _).trans rfl) rfl,
   fun L σ a0 a1 a2 s0 s1 s2 => ev_call ((TP_169 _).trans rfl) rfl rfl rfl rfl,
   fun L σ a0 a1 a2 a3 => ev_call ((TP_169 _).trans rfl) rfl rfl rfl rfl,
   fun l1 l2 l3 l4 st σ x => ev_p ((TP_169 _).trans rfl) rfl,
   fun l0 l1 l2 l3 st σ x => ev_p ((TP_169 _).trans rfl) rfl,
   fun L σ a0 a1 => ev_call ((TP_169 _).trans rfl) rfl rfl rfl rfl,
   fun l1 l2 l3 l4 st σ x => ev_p ((TP_169 _).trans rfl) rfl,
   fun l0 l1 l2 l3 st σ x => ev_p ((TP_169 _).trans rfl) rfl,
   fun L st σ => ev_p ((TP_169 _).trans rfl) rfl,
   fun L σ a0 a1 a2 s0 => ev_call ((TP_169 _).trans rfl) rfl rfl rfl rfl,
   fun L st σ x y => ev_b ((TP_169 _).trans rfl) rfl,
   fun l1 l2 l3 l4 st σ x => ev_p ((TP_169 _).trans rfl) rfl,
   fun l0 l1 l2 l3 st σ x => ev_p ((TP_169 _).trans rfl) rfl,
   fun l1 l2 l3 l4 st σ x => ev_p ((TP_169 _).trans rfl) rfl,
   fun l0 l1 l2 l3 st σ x => ev_p ((TP_169 _).trans rfl) rfl,
   fun L st σ => ev_p ((TP_169 _).trans rfl) rfl⟩
theorem I_169_1 :
  (∀ (L : ri_L) (σ : ri_S) (a0 : Nat) (a1 : Int32) (a2 : Int32) (s0 s1 : Value), ev 169 (61, L, [.int a2, .int a1, .ref a0, s0, s1]) σ = (cal 149 [.ref a0, .int a1, .int a2] σ).bind fun q => ev 169 (64, L, q.1.toList ++ [s0, s1]) q.2) ∧
  (∀ (L : ri_L) (σ : ri_S) (a0 : Nat) (a1 : Int32) (a2 : Int32), ev 169 (64, L, [.int a2, .int a1, .ref a0]) σ = (cal 168 [.ref a0, .int a1, .int a2] σ).bind fun q => ev 169 (67, L, q.1.toList ++ []) q.2) ∧
  (∀ (l1 l2 l3 l4 : Option Value) (st : List Value) (σ : ri_S) (x : Nat), ev 169 (67, [some (.ref x), l1, l2, l3, l4], st) σ = ev 169 (68, [some (.ref x), l1, l2, l3, l4], .ref x :: st) σ) ∧
  (∀ (L : ri_L) (st : List Value) (σ : ri_S), ev 169 (68, L, st) σ = ev 169 (70, L, .int 9 :: st) σ) ∧
  (∀ (L : ri_L) (st : List Value) (σ : ri_S), ev 169 (70, L, st) σ = ev 169 (72, L, .int 10 :: st) σ) ∧
  (∀ (l0 l1 l2 l3 : Option Value) (st : List Value) (σ : ri_S) (x : Int32), ev 169 (72, [l0, l1, l2, l3, some (.int x)], st) σ = ev 169 (74, [l0, l1, l2, l3, some (.int x)], .int x :: st) σ) ∧
  (∀ (L : ri_L) (st : List Value) (σ : ri_S) (x y : Int32), ev 169 (74, L, .int y :: .int x :: st) σ = ev 169 (75, L, .int (x * y) :: st) σ) ∧
  (∀ (L : ri_L) (st : List Value) (σ : ri_S) (x y : Int32), ev 169 (75, L, .int y :: .int x :: st) σ = ev 169 (76, L, .int (x + y) :: st) σ) ∧
  (∀ (L : ri_L) (st : List Value) (σ : ri_S), ev 169 (76, L, st) σ = ev 169 (77, L, .int 4 :: st) σ) ∧
  (∀ (L : ri_L) (st : List Value) (σ : ri_S) (x y : Int32), ev 169 (77, L, .int y :: .int x :: st) σ = ev 169 (78, L, .int (x + y) :: st) σ) ∧
  (∀ (L : ri_L) (st : List Value) (σ : ri_S) (x : Int32) (y : Nat), ev 169 (78, L, .int x :: .ref y :: st) σ = ev 169 (79, L, .int x :: .ref y :: .int x :: .ref y :: st) σ) ∧
  (∀ (L : ri_L) (st : List Value) (σ : ri_S) (a : Nat) (i : Int32), ev 169 (79, L, .int i :: .ref a :: st) σ = tv_r 0 (σ.1 a) i fun n f j => ev 169 (80, L, .int (f j) :: st) σ) ∧
  (∀ (L : ri_L) (st : List Value) (σ : ri_S), ev 169 (80, L, st) σ = ev 169 (81, L, .int 1 :: st) σ) ∧
  (∀ (L : ri_L) (st : List Value) (σ : ri_S) (x y : Int32), ev 169 (81, L, .int y :: .int x :: st) σ = ev 169 (82, L, .int (x + y) :: st) σ) ∧
  (∀ (L : ri_L) (st : List Value) (σ : ri_S) (a : Nat) (i x : Int32), ev 169 (82, L, .int x :: .int i :: .ref a :: st) σ = tv_r 0 (σ.1 a) i fun n f j => ev 169 (83, L, st) (ri_upd σ.1 a (.inl (0, n, upd f j x)), σ.2)) ∧
  (∀ (L : ri_L) (σ : ri_S), ev 169 (83, L, []) σ = some (none, σ)) :=
  ⟨fun L σ a0 a1 a2 s0 s1 => ev_call ((TP_169 _).trans rfl) rfl rfl rfl rfl,
   fun L σ a0 a1 a2 => ev_call ((TP_169 _).trans rfl) rfl rfl rfl rfl,
   fun l1 l2 l3 l4 st σ x => ev_p ((TP_169 _).trans rfl) rfl,
   fun L st σ => ev_p ((TP_169 _).trans rfl) rfl,
   fun L st σ => ev_p ((TP_169 _).trans rfl) rfl,
   fun l0 l1 l2 l3 st σ x => ev_p ((TP_169 _).trans rfl) rfl,
   fun L st σ x y => ev_p ((TP_169 _).trans rfl) rfl,
   fun L st σ x y => ev_p ((TP_169 _).trans rfl) rfl,
   fun L st σ => ev_p ((TP_169 _).trans rfl) rfl,
   fun L st σ x y => ev_p ((TP_169 _).trans rfl) rfl,
   fun L st σ x y => ev_p ((TP_169 _).trans rfl) rfl,
   fun L st σ a i => ev_iald ((TP_169 _).trans rfl),
   fun L st σ => ev_p ((TP_169 _).trans rfl) rfl,
   fun L st σ x y => ev_p ((TP_169 _).trans rfl) rfl,
   fun L st σ a i x => ev_iast ((TP_169 _).trans rfl),
   fun L σ => ev_r ((TP_169 _).trans rfl) rfl⟩
