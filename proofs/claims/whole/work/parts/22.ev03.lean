/-! How each method reads on. -/
theorem TP_170 (pc : Nat) : TT 170 pc = ri_find TL_170 pc := rfl
theorem E_170 (x0 : Nat) (x1 : Int32) (x2 : Int32) (σ : ri_S) : cal 170 [.ref x0, .int x1, .int x2] σ = ev 170 (0, [some (.ref x0), some (.int x1), some (.int x2), none], []) σ := rfl
theorem I_170 :
  (∀ (l1 l2 l3 : Option Value) (st : List Value) (σ : ri_S) (x : Nat), ev 170 (0, [some (.ref x), l1, l2, l3], st) σ = ev 170 (1, [some (.ref x), l1, l2, l3], .ref x :: st) σ) ∧
  (∀ (l0 l2 l3 : Option Value) (st : List Value) (σ : ri_S) (x : Int32), ev 170 (1, [l0, some (.int x), l2, l3], st) σ = ev 170 (2, [l0, some (.int x), l2, l3], .int x :: st) σ) ∧
  (∀ (L : ri_L) (st : List Value) (σ : ri_S), ev 170 (2, L, st) σ = ev 170 (3, L, .int 1 :: st) σ) ∧
  (∀ (L : ri_L) (σ : ri_S) (a0 : Nat) (a1 : Int32) (a2 : Int32), ev 170 (3, L, [.int a2, .int a1, .ref a0]) σ = (cal 150 [.ref a0, .int a1, .int a2] σ).bind fun q => ev 170 (6, L, q.1.toList ++ []) q.2) ∧
  (∀ (l0 l1 l2 l3 : Option Value) (st : List Value) (σ : ri_S) (x : Int32), ev 170 (6, [l0, l1, l2, l3], .int x :: st) σ = ev 170 (7, [l0, l1, ri_clr l2, some (.int x)], st) σ) ∧
  (∀ (l1 l2 l3 : Option Value) (st : List Value) (σ : ri_S) (x : Nat), ev 170 (7, [some (.ref x), l1, l2, l3], st) σ = ev 170 (8, [some (.ref x), l1, l2, l3], .ref x :: st) σ) ∧
  (∀ (l0 l2 l3 : Option Value) (st : List Value) (σ : ri_S) (x : Int32), ev 170 (8, [l0, some (.int x), l2, l3], st) σ = ev 170 (9, [l0, some (.int x), l2, l3], .int x :: st) σ) ∧
  (∀ (l0 l1 l2 : Option Value) (st : List Value) (σ : ri_S) (x : Int32), ev 170 (9, [l0, l1, l2, some (.int x)], st) σ = ev 170 (10, [l0, l1, l2, some (.int x)], .int x :: st) σ) ∧
  (∀ (l1 l2 l3 : Option Value) (st : List Value) (σ : ri_S) (x : Nat), ev 170 (10, [some (.ref x), l1, l2, l3], st) σ = ev 170 (11, [some (.ref x), l1, l2, l3], .ref x :: st) σ) ∧
  (∀ (l0 l2 l3 : Option Value) (st : List Value) (σ : ri_S) (x : Int32), ev 170 (11, [l0, some (.int x), l2, l3], st) σ = ev 170 (12, [l0, some (.int x), l2, l3], .int x :: st) σ) ∧
  (∀ (L : ri_L) (σ : ri_S) (a0 : Nat) (a1 : Int32) (s0 s1 s2 : Value), ev 170 (12, L, [.int a1, .ref a0, s0, s1, s2]) σ = (cal 158 [.ref a0, .int a1] σ).bind fun q => ev 170 (15, L, q.1.toList ++ [s0, s1, s2]) q.2) ∧
  (∀ (l0 l1 l3 : Option Value) (st : List Value) (σ : ri_S) (x : Int32), ev 170 (15, [l0, l1, some (.int x), l3], st) σ = ev 170 (16, [l0, l1, some (.int x), l3], .int x :: st) σ) ∧
  (∀ (L : ri_L) (st : List Value) (σ : ri_S) (x y : Int32), ev 170 (16, L, .int y :: .int x :: st) σ = ev 170 (17, L, .int (x + y) :: st) σ) ∧
  (∀ (l1 l2 l3 : Option Value) (st : List Value) (σ : ri_S) (x : Nat), ev 170 (17, [some (.ref x), l1, l2, l3], st) σ = ev 170 (18, [some (.ref x), l1, l2, l3], .ref x :: st) σ) ∧
  (∀ (l0 l1 l2 : Option Value) (st : List Value) (σ : ri_S) (x : Int32), ev 170 (18, [l0, l1, l2, some (.int x)], st) σ = ev 170 (19, [l0, l1, l2, some (.int x)], .int x :: st) σ) ∧
  (∀ (L : ri_L) (st : List Value) (σ : ri_S), ev 170 (19, L, st) σ = ev 170 (20, L, .int 0 :: st) σ) ∧
  (∀ (L : ri_L) (σ : ri_S) (a0 : Nat) (a1 : Int32) (a2 : Int32) (s0 s1 s2 s3 : Value), ev 170 (20, L, [.int a2, .int a1, .ref a0, s0, s1, s2, s3]) σ = (cal 149 [.ref a0, .int a1, .int a2] σ).bind fun q => ev 170 (23, L, q.1.toList ++ [s0, s1, s2, s3]) q.2) ∧
  (∀ (L : ri_L) (σ : ri_S) (a0 : Int32) (a1 : Int32) (s0 s1 s2 : Value), ev 170 (23, L, [.int a1, .int a0, s0, s1, s2]) σ = (cal 156 [.int a0, .int a1] σ).bind fun q => ev 170 (26, L, q.1.toList ++ [s0, s1, s2]) q.2) ∧
  (∀ (L : ri_L) (σ : ri_S) (a0 : Nat) (a1 : Int32) (a2 : Int32) (a3 : Int32), ev 170 (26, L, [.int a3, .int a2, .int a1, .ref a0]) σ = (cal 167 [.ref a0, .int a1, .int a2, .int a3] σ).bind fun q => ev 170 (29, L, q.1.toList ++ []) q.2) ∧
  (∀ (L : ri_L) (σ : ri_S), ev 170 (29, L, []) σ = some (none, σ)) :=
  ⟨fun l1 l2 l3 st σ x => ev_p ((TP_170 _).trans rfl) rfl,
   fun l0 l2 l3 st σ x => ev_p ((TP_170 _).trans rfl) rfl,
   fun L st σ => ev_p ((TP_170 _).trans rfl) rfl,
   fun L σ a0 a1 a2 => ev_call ((TP_170 _).trans rfl) rfl rfl rfl rfl,
   fun l0 l1 l2 l3 st σ x => ev_p ((TP_170 _).trans rfl) rfl,
   fun l1 l2 l3 st σ x => ev_p ((TP_170 _).trans rfl) rfl,
   fun l0 l2 l3 st σ x => ev_p ((TP_170 _).trans rfl) rfl,
   fun l0 l1 l2 st σ x => ev_p ((TP_170 _).trans rfl) rfl,
   fun l1 l2 l3 st σ x => ev_p ((TP_170 _).trans rfl) rfl,
   fun l0 l2 l3 st σ x => ev_p ((TP_170 _).trans rfl) rfl,
   fun L σ a0 a1 s0 s1 s2 => ev_call ((TP_170 _).trans rfl) rfl rfl rfl rfl,
   fun l0 l1 l3 st σ x => ev_p ((TP_170 _).trans rfl) rfl,
   fun L st σ x y => ev_p ((TP_170 _).trans rfl) rfl,
   fun l1 l2 l3 st σ x => ev_p ((TP_170 _).trans rfl) rfl,
   fun l0 l1 l2 st σ x => ev_p ((TP_170 _).trans rfl) rfl,
   fun L st σ => ev_p ((TP_170 _).trans rfl) rfl,
   fun L σ a0 a1 a2 s0 s1 s2 s3 => ev_call ((TP_170 _).trans rfl) rfl rfl rfl rfl,
   fun L σ a0 a1 s0 s1 s2 => ev_call ((TP_170 _).trans rfl) rfl rfl rfl rfl,
   fun L σ a0 a1 a2 a3 => ev_call ((TP_170 _).trans rfl) rfl rfl rfl rfl,
   fun L σ => ev_r ((TP_170 _).trans rfl) rfl⟩
theorem TP_171 (pc : Nat) : TT 171 pc = ri_find TL_171 pc := rfl
theorem E_171 (x0 : Nat) (x1 : Int32) (σ : ri_S) : cal 171 [.ref x0, .int x1] σ = ev 171 (0, [some (.ref x0), some (.int x1), none, none, none, none], []) σ := rfl
theorem I_171_0 :
  (∀ (l1 l2 l3 l4 l5 : Option Value) (st : List Value) (σ : ri_S) (x : Nat), ev 171 (0, [some (.ref x), l1, l2, l3, l4, l5], st) σ = ev 171 (1, [some (.ref x), l1, l2, l3, l4, l5], .ref x :: st) σ) ∧
  (∀ (L : ri_L) (st : List Value) (σ : ri_S), ev 171 (1, L, st) σ = ev 171 (2, L, .int 3 :: st) σ) ∧
  (∀ (L : ri_L) (st : List Value) (σ : ri_S) (x : Int32) (y : Nat), ev 171 (2, L, .int x :: .ref y :: st) σ = ev 171 (3, L, .int x :: .ref y :: .int x :: .ref y :: st) σ) ∧
  (∀ (L : ri_L) (st : List Value) (σ : ri_S) (a : Nat) (i : Int32), ev 171 (3, L, .int i :: .ref a :: st) σ = tv_r 0 (σ.1 a) i fun n f j => ev 171 (4, L, .int (f j) :: st) σ) ∧
  (∀ (L : ri_L) (st : List Value) (σ : ri_S), ev 171 (4, L, st) σ = ev 171 (5, L, .int 1 :: st) σ) ∧
  (∀ (L : ri_L) (st : List Value) (σ : ri_S) (x y : Int32), ev 171 (5, L, .int y :: .int x :: st) σ = ev 171 (6, L, .int (x + y) :: st) σ) ∧
  (∀ (L : ri_L) (st : List Value) (σ : ri_S) (a : Nat) (i x : Int32), ev 171 (6, L, .int x :: .int i :: .ref a :: st) σ = tv_r 0 (σ.1 a) i fun n f j => ev 171 (7, L, st) (ri_upd σ.1 a (.inl (0, n, upd f j x)), σ.2)) ∧
  (∀ (l1 l2 l3 l4 l5 : Option Value) (st : List Value) (σ : ri_S) (x : Nat), ev 171 (7, [some (.ref x), l1, l2, l3, l4, l5], st) σ = ev 171 (8, [some (.ref x), l1, l2, l3, l4, l5], .ref x :: st) σ) ∧
  (∀ (L : ri_L) (st : List Value) (σ : ri_S), ev 171 (8, L, st) σ = ev 171 (10, L, .int 7 :: st) σ) ∧
  (∀ (l0 l2 l3 l4 l5 : Option Value) (st : List Value) (σ : ri_S) (x : Int32), ev 171 (10, [l0, some (.int x), l2, l3, l4, l5], st) σ = ev 171 (11, [l0, some (.int x), l2, l3, l4, l5], .int x :: st) σ) ∧
  (∀ (L : ri_L) (st : List Value) (σ : ri_S), ev 171 (11, L, st) σ = ev 171 (12, L, .int 1 :: st) σ) ∧
  (∀ (L : ri_L) (st : List Value) (σ : ri_S) (x y : Int32), ev 171 (12, L, .int y :: .int x :: st) σ = ev 171 (13, L, .int (x + y) :: st) σ) ∧
  (∀ (L : ri_L) (st : List Value) (σ : ri_S) (a : Nat) (i x : Int32), ev 171 (13, L, .int x :: .int i :: .ref a :: st) σ = tv_r 0 (σ.1 a) i fun n f j => ev 171 (14, L, st) (ri_upd σ.1 a (.inl (0, n, upd f j x)), σ.2)) ∧
  (∀ (l1 l2 l3 l4 l5 : Option Value) (st : List Value) (σ : ri_S) (x : Nat), ev 171 (14, [some (.ref x), l1, l2, l3, l4, l5], st) σ = ev 171 (15, [some (.ref x), l1, l2, l3, l4, l5], .ref x :: st) σ) ∧
  (∀ (L : ri_L) (st : List Value) (σ : ri_S), ev 171 (15, L, st) σ = ev 171 (17, L, .int 71 :: st) σ) ∧
  (∀ (L : ri_L) (st : List Value) (σ : ri_S), ev 171 (17, L, st) σ = ev 171 (18, L, .int 5 :: st) σ) ∧
  (∀ (l0 l2 l3 l4 l5 : Option Value) (st : List Value) (σ : ri_S) (x : Int32), ev 171 (18, [l0, some (.int x), l2, l3, l4, l5], st) σ = ev 171 (19, [l0, some (.int x), l2, l3, l4, l5], .int x :: st) σ) ∧
  (∀ (L : ri_L) (st : List Value) (σ : ri_S) (x y : Int32), ev 171 (19, L, .int y :: .int x :: st) σ = ev 171 (20, L, .int (x * y) :: st) σ) ∧
  (∀ (L : ri_L) (st : List Value) (σ : ri_S) (x y : Int32), ev 171 (20, L, .int y :: .int x :: st) σ = ev 171 (21, L, .int (x + y) :: st) σ) ∧
  (∀ (L : ri_L) (st : List Value) (σ : ri_S), ev 171 (21, L, st) σ = ev 171 (22, L, .int 4 :: st) σ) ∧
  (∀ (L : ri_L) (st : List Value) (σ : ri_S) (x y : Int32), ev 171 (22, L, .int y :: .int x :: st) σ = ev 171 (23, L, .int (x + y) :: st) σ) ∧
  (∀ (L : ri_L) (st : List Value) (σ : ri_S) (x : Int32) (y : Nat), ev 171 (23, L, .int x :: .ref y :: st) σ = ev 171 (24, L, .int x :: .ref y :: .int x :: .ref y :: st) σ) ∧
  (∀ (L : ri_L) (st : List Value) (σ : ri_S) (a : Nat) (i : Int32), ev 171 (24, L, .int i :: .ref a :: st) σ = tv_r 0 (σ.1 a) i fun n f j => ev 171 (25, L, .int (f j) :: st) σ) ∧
  (∀ (L : ri_L) (st : List Value) (σ : ri_S), ev 171 (25, L, st) σ = ev 171 (26, L, .int 1 :: st) σ) ∧
  (∀ (L : ri_L) (st : List Value) (σ : ri_S) (x y : Int32), ev 171 (26, L, .int y :: .int x :: st) σ = ev 171 (27, L, .int (x + y) :: st) σ) ∧
  (∀ (L : ri_L) (st : List Value) (σ : ri_S) (a : Nat) (i x : Int32), ev 171 (27, L, .int x :: .int i :: .ref a :: st) σ = tv_r 0 (σ.1 a) i fun n f j => ev 171 (28, L, st) (ri_upd σ.1 a (.inl (0, n, upd f j x)), σ.2)) ∧
  (∀ (l1 l2 l3 l4 l5 : Option Value) (st : List Value) (σ : ri_S) (x : Nat), ev 171 (28, [some (.ref x), l1, l2, l3, l4, l5], st) σ = ev 171 (29, [some (.ref x), l1, l2, l3, l4, l5], .ref x :: st) σ) ∧
  (∀ (L : ri_L) (st : List Value) (σ : ri_S), ev 171 (29, L, st) σ = ev 171 (31, L, .int 6 :: st) σ) ∧
  (∀ (L : ri_L) (st : List Value) (σ : ri_S) (x : Int32) (y : Nat), ev 171 (31, L, .int x :: .ref y :: st) σ = ev 171 (32, L, .int x :: .ref y :: .int x :: .ref y :: st) σ) ∧
  (∀ (L : ri_L) (st : List Value) (σ : ri_S) (a : Nat) (i : Int32), ev 171 (32, L, .int i :: .ref a :: st) σ = tv_r 0 (σ.1 a) i fun n f j => ev 171 (33, L, .int (f j) :: st) σ) ∧
  (∀ (L : ri_L) (st : List Value) (σ : ri_S), ev 171 (33, L, st) σ = ev 171 (34, L, .int 1 :: st) σ) ∧
  (∀ (L : ri_L) (st : List Value) (σ : ri_S) (x y : Int32), ev 171 (34, L, .int y :: .int x :: st) σ = ev 171 (35, L, .int (x + y) :: st) σ) ∧
  (∀ (L : ri_L) (st : List Value) (σ : ri_S) (a : Nat) (i x : Int32), ev 171 (35, L, .int x :: .int i :: .ref a :: st) σ = tv_r 0 (σ.1 a) i fun n f j => ev 171 (36, L, st) (ri_upd σ.1 a (.inl (0, n, upd f j x)), σ.2)) ∧
  (∀ (l1 l2 l3 l4 l5 : Option Value) (st : List Value) (σ : ri_S) (x : Nat), ev 171 (36, [some (.ref x), l1, l2, l3, l4, l5], st) σ = ev 171 (37, [some (.ref x), l1, l2, l3, l4, l5], .ref x :: st) σ) ∧
  (∀ (L : ri_L) (st : List Value) (σ : ri_S), ev 171 (37, L, st) σ = ev 171 (38, L, .int 3 :: st) σ) ∧
  (∀ (L : ri_L) (st : List Value) (σ : ri_S) (a : Nat) (i : Int32), ev 171 (38, L, .int i :: .ref a :: st) σ = tv_r 0 (σ.1 a) i fun n f j => ev 171 (39, L, .int (f j) :: st) σ) ∧
  (∀ (l1 l2 l3 l4 l5 : Option Value) (st : List Value) (σ : ri_S) (x : Nat), ev 171 (39, [some (.ref x), l1, l2, l3, l4, l5], st) σ = ev 171 (40, [some (.ref x), l1, l2, l3, l4, l5], .ref x :: st) σ) ∧
  (∀ (L : ri_L) (st : List Value) (σ : ri_S), ev 171 (40, L, st) σ = ev 171 (41, L, .int 0 :: st) σ) ∧
  (∀ (L : ri_L) (st : List Value) (σ : ri_S) (a : Nat) (i : Int32), ev 171 (41, L, .int i :: .ref a :: st) σ = tv_r 0 (σ.1 a) i fun n f j => ev 171 (42, L, .int (f j) :: st) σ) ∧
  (∀ (L : ri_L) (st : List Value) (σ : ri_S) (x y : Int32), ev 171 (42, L, .int y :: .int x :: st) σ = if y = 0 then none else ev 171 (43, L, .int (x - x / y * y) :: st) σ) :=
  ⟨fun l1 l2 l3 l4 l5 st σ x => ev_p ((TP_171 _).trans rfl) rfl,
   fun L st σ => ev_p ((TP_171 _).trans rfl) rfl,
   fun L st σ x y => ev_p ((TP_171 _).trans rfl) rfl,
   fun L st σ a i => ev_iald ((TP_171 _).trans rfl),
   fun L st σ => ev_p ((TP_171 _).trans rfl) rfl,
   fun L st σ x y => ev_p ((TP_171 _).trans rfl) rfl,
   fun L st σ a i x => ev_iast ((TP_171 _).trans rfl),
   fun l1 l2 l3 l4 l5 st σ x => ev_p ((TP_171 _).trans rfl) rfl,
   fun L st σ => ev_p ((TP_171 _).trans rfl) rfl,
   fun l0 l2 l3 l4 l5 st σ x => ev_p ((TP_171 _).trans rfl) rfl,
   fun L st σ => ev_p ((TP_171 _).trans rfl) rfl,
   fun L st σ x y => ev_p ((TP_171 _).trans rfl) rfl,
   fun L st σ a i x => ev_iast ((TP_171 _).trans rfl),
   fun l1 l2 l3 l4 l5 st σ x => ev_p ((TP_171 _).trans rfl) rfl,
   fun L st σ => ev_p ((TP_171 _).trans rfl) rfl,
   fun L st σ => ev_p ((TP_171 _).trans rfl) rfl,
   fun l0 l2 l3 l4 l5 st σ x => ev_p ((TP_171 _).trans rfl) rfl,
   fun L st σ x y => ev_p ((TP_171 _).trans rfl) rfl,
   fun L st σ x y => ev_p ((TP_171 _).trans rfl) rfl,
   fun L st σ => ev_p ((TP_171 _).trans rfl) rfl,
   fun L st σ x y => ev_p ((TP_171 _).trans rfl) rfl,
   fun L st σ x y => ev_p ((TP_171 _).trans rfl) rfl,
   fun L st σ a i => ev_iald ((TP_171 _).trans rfl),
   fun L st σ => ev_p ((TP_171 _).trans rfl) rfl,
   fun L st σ x y => ev_p ((TP_171 _).trans rfl) rfl,
   fun L st σ a i x => ev_iast ((TP_171 _).trans rfl),
   fun l1 l2 l3 l4 l5 st σ x => ev_p ((TP_171 _).trans rfl) rfl,
   fun L st σ => ev_p ((TP_171 _).trans rfl) rfl,
   fun L st σ x y => ev_p ((TP_171 _).trans rfl) rfl,
   fun L st σ a i => ev_iald ((TP_171 _).trans rfl),
   fun L st σ => ev_p ((TP_171 _).trans rfl) rfl,
   fun L st σ x y => ev_p ((TP_171 _).trans rfl) rfl,
   fun L st σ a i x => ev_iast ((TP_171 _).trans rfl),
   fun l1 l2 l3 l4 l5 st σ x => ev_p ((TP_171 _).trans rfl) rfl,
   fun L st σ => ev_p ((TP_171 _).trans rfl) rfl,
   fun L st σ a i => ev_iald ((TP_171 _).trans rfl),
   fun l1 l2 l3 l4 l5 st σ x => ev_p ((TP_171 _).trans rfl) rfl,
   fun L st σ => ev_p ((TP_171 _).trans rfl) rfl,
   fun L st σ a i => ev_iald ((TP_171 _).trans rfl),
   fun L st σ x y => ev_d ((TP_171 _).trans rfl) rfl⟩
theorem I_171_1 :
  (∀ (l0 l1 l2 l3 l4 l5 : Option Value) (st : List Value) (σ : ri_S) (x : Int32), ev 171 (43, [l0, l1, l2, l3, l4, l5], .int x :: st) σ = ev 171 (44, [l0, ri_clr l1, some (.int x), l3, l4, l5], st) σ) ∧
  (∀ (l1 l2 l3 l4 l5 : Option Value) (st : List Value) (σ : ri_S) (x : Nat), ev 171 (44, [some (.ref x), l1, l2, l3, l4, l5], st) σ = ev 171 (45, [some (.ref x), l1, l2, l3, l4, l5], .ref x :: st) σ) ∧
  (∀ (l0 l1 l3 l4 l5 : Option Value) (st : List Value) (σ : ri_S) (x : Int32), ev 171 (45, [l0, l1, some (.int x), l3, l4, l5], st) σ = ev 171 (46, [l0, l1, some (.int x), l3, l4, l5], .int x :: st) σ) ∧
  (∀ (l1 l2 l3 l4 l5 : Option Value) (st : List Value) (σ : ri_S) (x : Nat), ev 171 (46, [some (.ref x), l1, l2, l3, l4, l5], st) σ = ev 171 (47, [some (.ref x), l1, l2, l3, l4, l5], .ref x :: st) σ) ∧
  (∀ (L : ri_L) (st : List Value) (σ : ri_S), ev 171 (47, L, st) σ = ev 171 (48, L, .int 3 :: st) σ) ∧
  (∀ (L : ri_L) (st : List Value) (σ : ri_S) (a : Nat) (i : Int32), ev 171 (48, L, .int i :: .ref a :: st) σ = tv_r 0 (σ.1 a) i fun n f j => ev 171 (49, L, .int (f j) :: st) σ) ∧
  (∀ (l1 l2 l3 l4 l5 : Option Value) (st : List Value) (σ : ri_S) (x : Nat), ev 171 (49, [some (.ref x), l1, l2, l3, l4, l5], st) σ = ev 171 (50, [some (.ref x), l1, l2, l3, l4, l5], .ref x :: st) σ) ∧
  (∀ (l0 l1 l3 l4 l5 : Option Value) (st : List Value) (σ : ri_S) (x : Int32), ev 171 (50, [l0, l1, some (.int x), l3, l4, l5], st) σ = ev 171 (51, [l0, l1, some (.int x), l3, l4, l5], .int x :: st) σ) ∧
  (∀ (L : ri_L) (st : List Value) (σ : ri_S), ev 171 (51, L, st) σ = ev 171 (52, L, .int 0 :: st) σ) ∧
  (∀ (L : ri_L) (σ : ri_S) (a0 : Nat) (a1 : Int32) (a2 : Int32) (s0 s1 s2 : Value), ev 171 (52, L, [.int a2, .int a1, .ref a0, s0, s1, s2]) σ = (cal 149 [.ref a0, .int a1, .int a2] σ).bind fun q => ev 171 (55, L, q.1.toList ++ [s0, s1, s2]) q.2) ∧
  (∀ (L : ri_L) (st : List Value) (σ : ri_S) (x y : Int32), ev 171 (55, L, .int y :: .int x :: st) σ = if y = 0 then none else ev 171 (56, L, .int (x - x / y * y) :: st) σ) ∧
  (∀ (L : ri_L) (σ : ri_S) (a0 : Nat) (a1 : Int32) (a2 : Int32), ev 171 (56, L, [.int a2, .int a1, .ref a0]) σ = (cal 157 [.ref a0, .int a1, .int a2] σ).bind fun q => ev 171 (59, L, q.1.toList ++ []) q.2) ∧
  (∀ (l0 l1 l2 l3 l4 l5 : Option Value) (st : List Value) (σ : ri_S) (x : Int32), ev 171 (59, [l0, l1, l2, l3, l4, l5], .int x :: st) σ = ev 171 (60, [l0, l1, ri_clr l2, some (.int x), l4, l5], st) σ) ∧
  (∀ (l1 l2 l3 l4 l5 : Option Value) (st : List Value) (σ : ri_S) (x : Nat), ev 171 (60, [some (.ref x), l1, l2, l3, l4, l5], st) σ = ev 171 (61, [some (.ref x), l1, l2, l3, l4, l5], .ref x :: st) σ) ∧
  (∀ (l0 l1 l3 l4 l5 : Option Value) (st : List Value) (σ : ri_S) (x : Int32), ev 171 (61, [l0, l1, some (.int x), l3, l4, l5], st) σ = ev 171 (62, [l0, l1, some (.int x), l3, l4, l5], .int x :: st) σ) ∧
  (∀ (l0 l1 l2 l4 l5 : Option Value) (st : List Value) (σ : ri_S) (x : Int32), ev 171 (62, [l0, l1, l2, some (.int x), l4, l5], st) σ = ev 171 (63, [l0, l1, l2, some (.int x), l4, l5], .int x :: st) σ) ∧
  (∀ (L : ri_L) (σ : ri_S) (a0 : Nat) (a1 : Int32) (a2 : Int32), ev 171 (63, L, [.int a2, .int a1, .ref a0]) σ = (cal 159 [.ref a0, .int a1, .int a2] σ).bind fun q => ev 171 (66, L, q.1.toList ++ []) q.2) ∧
  (∀ (l0 l1 l2 l3 l4 l5 : Option Value) (st : List Value) (σ : ri_S) (x : Int32), ev 171 (66, [l0, l1, l2, l3, l4, l5], .int x :: st) σ = ev 171 (68, [l0, l1, l2, ri_clr l3, some (.int x), l5], st) σ) ∧
  (∀ (L : ri_L) (st : List Value) (σ : ri_S), ev 171 (68, L, st) σ = ev 171 (70, L, .int 9 :: st) σ) ∧
  (∀ (L : ri_L) (st : List Value) (σ : ri_S), ev 171 (70, L, st) σ = ev 171 (72, L, .int 10 :: st) σ) ∧
  (∀ (l0 l1 l3 l4 l5 : Option Value) (st : List Value) (σ : ri_S) (x : Int32), ev 171 (72, [l0, l1, some (.int x), l3, l4, l5], st) σ = ev 171 (73, [l0, l1, some (.int x), l3, l4, l5], .int x :: st) σ) ∧
  (∀ (L : ri_L) (st : List Value) (σ : ri_S) (x y : Int32), ev 171 (73, L, .int y :: .int x :: st) σ = ev 171 (74, L, .int (x * y) :: st) σ) ∧
  (∀ (L : ri_L) (st : List Value) (σ : ri_S) (x y : Int32), ev 171 (74, L, .int y :: .int x :: st) σ = ev 171 (75, L, .int (x + y) :: st) σ) ∧
  (∀ (L : ri_L) (st : List Value) (σ : ri_S), ev 171 (75, L, st) σ = ev 171 (76, L, .int 5 :: st) σ) ∧
  (∀ (L : ri_L) (st : List Value) (σ : ri_S) (x y : Int32), ev 171 (76, L, .int y :: .int x :: st) σ = ev 171 (77, L, .int (x + y) :: st) σ) ∧
  (∀ (l0 l1 l2 l4 l5 : Option Value) (st : List Value) (σ : ri_S) (x : Int32), ev 171 (77, [l0, l1, l2, some (.int x), l4, l5], st) σ = ev 171 (78, [l0, l1, l2, some (.int x), l4, l5], .int x :: st) σ) ∧
  (∀ (L : ri_L) (st : List Value) (σ : ri_S) (x y : Int32), ev 171 (78, L, .int y :: .int x :: st) σ = ev 171 (79, L, .int (x + y) :: st) σ) ∧
  (∀ (l0 l1 l2 l3 l4 l5 : Option Value) (st : List Value) (σ : ri_S) (x : Int32), ev 171 (79, [l0, l1, l2, l3, l4, l5], .int x :: st) σ = ev 171 (81, [l0, l1, l2, l3, ri_clr l4, some (.int x)], st) σ) ∧
  (∀ (l0 l1 l2 l3 l5 : Option Value) (st : List Value) (σ : ri_S) (x : Int32), ev 171 (81, [l0, l1, l2, l3, some (.int x), l5], st) σ = ev 171 (83, [l0, l1, l2, l3, some (.int x), l5], .int x :: st) σ) ∧
  (∀ (L : ri_L) (st : List Value) (σ : ri_S), ev 171 (83, L, st) σ = ev 171 (84, L, .int (-1) :: st) σ) ∧
  (∀ (L : ri_L) (st : List Value) (σ : ri_S) (x y : Int32), ev 171 (84, L, .int y :: .int x :: st) σ = if x = y then ev 171 (97, L, st) σ else ev 171 (87, L, st) σ) ∧
  (∀ (l1 l2 l3 l4 l5 : Option Value) (st : List Value) (σ : ri_S) (x : Nat), ev 171 (87, [some (.ref x), l1, l2, l3, l4, l5], st) σ = ev 171 (88, [some (.ref x), l1, l2, l3, l4, l5], .ref x :: st) σ) ∧
  (∀ (l0 l1 l2 l3 l5 : Option Value) (st : List Value) (σ : ri_S) (x : Int32), ev 171 (88, [l0, l1, l2, l3, some (.int x), l5], st) σ = ev 171 (90, [l0, l1, l2, l3, some (.int x), l5], .int x :: st) σ) ∧
  (∀ (L : ri_L) (st : List Value) (σ : ri_S), ev 171 (90, L, st) σ = ev 171 (91, L, .int 1 :: st) σ) ∧
  (∀ (L : ri_L) (σ : ri_S) (a0 : Nat) (a1 : Int32) (a2 : Int32), ev 171 (91, L, [.int a2, .int a1, .ref a0]) σ = (cal 166 [.ref a0, .int a1, .int a2] σ).bind fun q => ev 171 (94, L, q.1.toList ++ []) q.2) ∧
  (∀ (L : ri_L) (st : List Value) (σ : ri_S), ev 171 (94, L, st) σ = ev 171 (124, L, st) σ) ∧
  (∀ (l1 l2 l3 l4 l5 : Option Value) (st : List Value) (σ : ri_S) (x : Nat), ev 171 (97, [some (.ref x), l1, l2, l3, l4, l5], st) σ = ev 171 (98, [some (.ref x), l1, l2, l3, l4, l5], .ref x :: st) σ) ∧
  (∀ (l0 l1 l2 l3 l4 : Option Value) (st : List Value) (σ : ri_S) (x : Int32), ev 171 (98, [l0, l1, l2, l3, l4, some (.int x)], st) σ = ev 171 (100, [l0, l1, l2, l3, l4, some (.int x)], .int x :: st) σ) ∧
  (∀ (L : ri_L) (st : List Value) (σ : ri_S) (a : Nat) (i : Int32), ev 171 (100, L, .int i :: .ref a :: st) σ = tv_r 0 (σ.1 a) i fun n f j => ev 171 (101, L, .int (f j) :: st) σ) ∧
  (∀ (L : ri_L) (st : List Value) (σ : ri_S), ev 171 (101, L, st) σ = ev 171 (103, L, .int 9 :: st) σ) :=
  ⟨fun l0 l1 l2 l3 l4 l5 st σ x => ev_p ((TP_171 _).trans rfl) rfl,
   fun l1 l2 l3 l4 l5 st σ x => ev_p ((TP_171 _).trans rfl) rfl,
   fun l0 l1 l3 l4 l5 st σ x => ev_p ((TP_171 _).trans rfl) rfl,
   fun l1 l2 l3 l4 l5 st σ x => ev_p ((TP_171 _).trans rfl) rfl,
   fun L st σ => ev_p ((TP_171 _).trans rfl) rfl,
   fun L st σ a i => ev_iald ((TP_171 _).trans rfl),
   fun l1 l2 l3 l4 l5 st σ x => ev_p ((TP_171 _).trans rfl) rfl,
   fun l0 l1 l3 l4 l5 st σ x => ev_p ((TP_171 _).trans rfl) rfl,
   fun L st σ => ev_p ((TP_171 _).trans rfl) rfl,
   fun L σ a0 a1 a2 s0 s1 s2 => ev_call ((TP_171 _).trans rfl) rfl rfl rfl rfl,
   fun L st σ x y => ev_d ((TP_171 _).trans rfl) rfl,
   fun L σ a0 a1 a2 => ev_call ((TP_171 _).trans rfl) rfl rfl rfl rfl,
   fun l0 l1 l2 l3 l4 l5 st σ x => ev_p ((TP_171 _).trans rfl) rfl,
   fun l1 l2 l3 l4 l5 st σ x => ev_p ((TP_171 _).trans rfl) rfl,
   fun l0 l1 l3 l4 l5 st σ x => ev_p ((TP_171 _).trans rfl) rfl,
   fun l0 l1 l2 l4 l5 st σ x => ev_p ((TP_171 _).trans rfl) rfl,
   fun L σ a0 a1 a2 => ev_call ((TP_171 _).trans rfl) rfl rfl rfl rfl,
   fun l0 l1 l2 l3 l4 l5 st σ x => ev_p ((TP_171 _).trans rfl) rfl,
   fun L st σ => ev_p ((TP_171 _).trans rfl) rfl,
   fun L st σ => ev_p ((TP_171 _).trans rfl) rfl,
   fun l0 l1 l3 l4 l5 st σ x => ev_p ((TP_171 _).trans rfl) rfl,
   fun L st σ x y => ev_p ((TP_171 _).trans rfl) rfl,
   fun L st σ x y => ev_p ((TP_171 _).trans rfl) rfl,
   fun L st σ => ev_p ((TP_171 _).trans rfl) rfl,
   fun L st σ x y => ev_p ((TP_171 _).trans rfl) rfl,
   fun l0 l1 l2 l4 l5 st σ x => ev_p ((TP_171 _).trans rfl) rfl,
   fun L st σ x y => ev_p ((TP_171 _).trans rfl) rfl,
   fun l0 l1 l2 l3 l4 l5 st σ x => ev_p ((TP_171 _).trans rfl) rfl,
   fun l0 l1 l2 l3 l5 st σ x => ev_p ((TP_171 _).trans rfl) rfl,
   fun L st σ => ev_p ((TP_171 _).trans rfl) rfl,
   fun L st σ x y => ev_b ((TP_171 _).trans rfl) rfl,
   fun l1 l2 l3 l4 l5 st σ x => ev_p ((TP_171 _).trans rfl) rfl,
   fun l0 l1 l2 l3 l5 st σ x => ev_p ((TP_171 _).trans rfl) rfl,
   fun L st σ => ev_p ((TP_171 _).trans rfl) rfl,
   fun L σ a0 a1 a2 => ev_call ((TP_171 _).trans rfl) rfl rfl rfl rfl,
   fun L st σ => ev_p ((TP_171 _).trans rfl) rfl,
   fun l1 l2 l3 l4 l5 st σ x => ev_p ((TP_171 _).trans rfl) rfl,
   fun l0 l1 l2 l3 l4 st σ x => ev_p ((TP_171 _).trans rfl) rfl,
   fun L st σ a i => ev_iald ((TP_171 _).trans rfl),
   fun L st σ => ev_p ((TP_171 _).trans rfl) rfl⟩
theorem I_171_2 :
  (∀ (L : ri_L) (st : List Value) (σ : ri_S) (x y : Int32), ev 171 (103, L, .int y :: .int x :: st) σ = if y ≤ x then ev 171 (117, L, st) σ else ev 171 (106, L, st) σ) ∧
  (∀ (l1 l2 l3 l4 l5 : Option Value) (st : List Value) (σ : ri_S) (x : Nat), ev 171 (106, [some (.ref x), l1, l2, l3, l4, l5], st) σ = ev 171 (107, [some (.ref x), l1, l2, l3, l4, l5], .ref x :: st) σ) ∧
  (∀ (l0 l1 l2 l3 l4 : Option Value) (st : List Value) (σ : ri_S) (x : Int32), ev 171 (107, [l0, l1, l2, l3, l4, some (.int x)], st) σ = ev 171 (109, [l0, l1, l2, l3, l4, some (.int x)], .int x :: st) σ) ∧
  (∀ (L : ri_L) (st : List Value) (σ : ri_S) (x : Int32) (y : Nat), ev 171 (109, L, .int x :: .ref y :: st) σ = ev 171 (110, L, .int x :: .ref y :: .int x :: .ref y :: st) σ) ∧
  (∀ (L : ri_L) (st : List Value) (σ : ri_S) (a : Nat) (i : Int32), ev 171 (110, L, .int i :: .ref a :: st) σ = tv_r 0 (σ.1 a) i fun n f j => ev 171 (111, L, .int (f j) :: st) σ) ∧
  (∀ (L : ri_L) (st : List Value) (σ : ri_S), ev 171 (111, L, st) σ = ev 171 (112, L, .int 1 :: st) σ) ∧
  (∀ (L : ri_L) (st : List Value) (σ : ri_S) (x y : Int32), ev 171 (112, L, .int y :: .int x :: st) σ = ev 171 (113, L, .int (x + y) :: st) σ) ∧
  (∀ (L : ri_L) (st : List Value) (σ : ri_S) (a : Nat) (i x : Int32), ev 171 (113, L, .int x :: .int i :: .ref a :: st) σ = tv_r 0 (σ.1 a) i fun n f j => ev 171 (114, L, st) (ri_upd σ.1 a (.inl (0, n, upd f j x)), σ.2)) ∧
  (∀ (L : ri_L) (st : List Value) (σ : ri_S), ev 171 (114, L, st) σ = ev 171 (124, L, st) σ) ∧
  (∀ (l1 l2 l3 l4 l5 : Option Value) (st : List Value) (σ : ri_S) (x : Nat), ev 171 (117, [some (.ref x), l1, l2, l3, l4, l5], st) σ = ev 171 (118, [some (.ref x), l1, l2, l3, l4, l5], .ref x :: st) σ) ∧
  (∀ (L : ri_L) (st : List Value) (σ : ri_S), ev 171 (118, L, st) σ = ev 171 (119, L, .int 5 :: st) σ) ∧
  (∀ (L : ri_L) (st : List Value) (σ : ri_S) (x : Int32) (y : Nat), ev 171 (119, L, .int x :: .ref y :: st) σ = ev 171 (120, L, .int x :: .ref y :: .int x :: .ref y :: st) σ) ∧
  (∀ (L : ri_L) (st : List Value) (σ : ri_S) (a : Nat) (i : Int32), ev 171 (120, L, .int i :: .ref a :: st) σ = tv_r 0 (σ.1 a) i fun n f j => ev 171 (121, L, .int (f j) :: st) σ) ∧
  (∀ (L : ri_L) (st : List Value) (σ : ri_S), ev 171 (121, L, st) σ = ev 171 (122, L, .int 1 :: st) σ) ∧
  (∀ (L : ri_L) (st : List Value) (σ : ri_S) (x y : Int32), ev 171 (122, L, .int y :: .int x :: st) σ = ev 171 (123, L, .int (x + y) :: st) σ) ∧
  (∀ (L : ri_L) (st : List Value) (σ : ri_S) (a : Nat) (i x : Int32), ev 171 (123, L, .int x :: .int i :: .ref a :: st) σ = tv_r 0 (σ.1 a) i fun n f j => ev 171 (124, L, st) (ri_upd σ.1 a (.inl (0, n, upd f j x)), σ.2)) ∧
  (∀ (L : ri_L) (σ : ri_S), ev 171 (124, L, []) σ = some (none, σ)) :=
  ⟨fun L st σ x y => ev_b ((TP_171 _).trans rfl) rfl,
   fun l1 l2 l3 l4 l5 st σ x => ev_p ((TP_171 _).trans rfl) rfl,
   fun l0 l1 l2 l3 l4 st σ x => ev_p ((TP_171 _).trans rfl) rfl,
   fun L st σ x y => ev_p ((TP_171 _).trans rfl) rfl,
   fun L st σ a i => ev_iald ((TP_171 _).trans rfl),
   fun L st σ => ev_p ((TP_171 _).trans rfl) rfl,
   fun L st σ x y => ev_p ((TP_171 _).trans rfl) rfl,
   fun L st σ a i x => ev_iast ((TP_171 _).trans rfl),
   fun L st σ => ev_p ((TP_171 _).trans rfl) rfl,
   fun l1 l2 l3 l4 l5 st σ x => ev_p ((TP_171 _).trans rfl) rfl,
   fun L st σ => ev_p ((TP_171 _).trans rfl) rfl,
   fun L st σ x y => ev_p ((TP_171 _).trans rfl) rfl,
   fun L st σ a i => ev_iald ((TP_171 _).trans rfl),
   fun L st σ => ev_p ((TP_171 _).trans rfl) rfl,
   fun L st σ x y => ev_p ((TP_171 _).trans rfl) rfl,
   fun L st σ a i x => ev_iast ((TP_171 _).trans rfl),
   fun L σ => ev_r ((TP_171 _).trans rfl) rfl⟩
theorem TP_172 (pc : Nat) : TT 172 pc = ri_find TL_172 pc := rfl
theorem E_172 (x0 : Nat) (x1 : Int32) (x2 : Int32) (σ : ri_S) : cal 172 [.ref x0, .int x1, .int x2] σ = ev 172 (0, [some (.ref x0), some (.int x1), some (.int x2), none], []) σ := rfl
theorem I_172 :
  (∀ (l1 l2 l3 : Option Value) (st : List Value) (σ : ri_S) (x : Nat), ev 172 (0, [some (.ref x), l1, l2, l3], st) σ = ev 172 (1, [some (.ref x), l1, l2, l3], .ref x :: st) σ) ∧
  (∀ (l0 l2 l3 : Option Value) (st : List Value) (σ : ri_S) (x : Int32), ev 172 (1, [l0, some (.int x), l2, l3], st) σ = ev 172 (2, [l0, some (.int x), l2, l3], .int x :: st) σ) ∧
  (∀ (l0 l1 l3 : Option Value) (st : List Value) (σ : ri_S) (x : Int32), ev 172 (2, [l0, l1, some (.int x), l3], st) σ = ev 172 (3, [l0, l1, some (.int x), l3], .int x :: st) σ) ∧
  (∀ (L : ri_L) (σ : ri_S) (a0 : Nat) (a1 : Int32) (a2 : Int32), ev 172 (3, L, [.int a2, .int a1, .ref a0]) σ = (cal 164 [.ref a0, .int a1, .int a2] σ).bind fun q => ev 172 (6, L, q.1.toList ++ []) q.2) ∧
  (∀ (l0 l1 l2 l3 : Option Value) (st : List Value) (σ : ri_S) (x : Int32), ev 172 (6, [l0, l1, l2, l3], .int x :: st) σ = ev 172 (7, [l0, l1, ri_clr l2, some (.int x)], st) σ) ∧
  (∀ (l0 l1 l2 : Option Value) (st : List Value) (σ : ri_S) (x : Int32), ev 172 (7, [l0, l1, l2, some (.int x)], st) σ = ev 172 (8, [l0, l1, l2, some (.int x)], .int x :: st) σ) ∧
  (∀ (L : ri_L) (st : List Value) (σ : ri_S) (x : Int32), ev 172 (8, L, .int x :: st) σ = if ¬ x = 0 then ev 172 (22, L, st) σ else ev 172 (11, L, st) σ) ∧
  (∀ (l1 l2 l3 : Option Value) (st : List Value) (σ : ri_S) (x : Nat), ev 172 (11, [some (.ref x), l1, l2, l3], st) σ = ev 172 (12, [some (.ref x), l1, l2, l3], .ref x :: st) σ) ∧
  (∀ (l0 l2 l3 : Option Value) (st : List Value) (σ : ri_S) (x : Int32), ev 172 (12, [l0, some (.int x), l2, l3], st) σ = ev 172 (13, [l0, some (.int x), l2, l3], .int x :: st) σ) ∧
  (∀ (l0 l1 l3 : Option Value) (st : List Value) (σ : ri_S) (x : Int32), ev 172 (13, [l0, l1, some (.int x), l3], st) σ = ev 172 (14, [l0, l1, some (.int x), l3], .int x :: st) σ) ∧
  (∀ (L : ri_L) (σ : ri_S) (a0 : Nat) (a1 : Int32) (a2 : Int32), ev 172 (14, L, [.int a2, .int a1, .ref a0]) σ = (cal 169 [.ref a0, .int a1, .int a2] σ).bind fun q => ev 172 (17, L, q.1.toList ++ []) q.2) ∧
  (∀ (l1 l2 l3 : Option Value) (st : List Value) (σ : ri_S) (x : Nat), ev 172 (17, [some (.ref x), l1, l2, l3], st) σ = ev 172 (18, [some (.ref x), l1, l2, l3], .ref x :: st) σ) ∧
  (∀ (l0 l2 l3 : Option Value) (st : List Value) (σ : ri_S) (x : Int32), ev 172 (18, [l0, some (.int x), l2, l3], st) σ = ev 172 (19, [l0, some (.int x), l2, l3], .int x :: st) σ) ∧
  (∀ (L : ri_L) (σ : ri_S) (a0 : Nat) (a1 : Int32), ev 172 (19, L, [.int a1, .ref a0]) σ = (cal 171 [.ref a0, .int a1] σ).bind fun q => ev 172 (22, L, q.1.toList ++ []) q.2) ∧
  (∀ (l0 l1 l2 : Option Value) (st : List Value) (σ : ri_S) (x : Int32), ev 172 (22, [l0, l1, l2, some (.int x)], st) σ = ev 172 (23, [l0, l1, l2, some (.int x)], .int x :: st) σ) ∧
  (∀ (L : ri_L) (σ : ri_S) (x : Int32), ev 172 (23, L, [.int x]) σ = some (some (.int x), σ)) :=
  ⟨fun l1 l2 l3 st σ x => ev_p ((TP_172 _).trans rfl) rfl,
   fun l0 l2 l3 st σ x => ev_p ((TP_172 _).trans rfl) rfl,
   fun l0 l1 l3 st σ x => ev_p ((TP_172 _).trans rfl) rfl,
   fun L σ a0 a1 a2 => ev_call ((TP_172 _).trans rfl) rfl rfl rfl rfl,
   fun l0 l1 l2 l3 st σ x => ev_p ((TP_172 _).trans rfl) rfl,
   fun l0 l1 l2 st σ x => ev_p ((TP_172 _).trans rfl) rfl,
   fun L st σ x => ev_b ((TP_172 _).trans rfl) rfl,
   fun l1 l2 l3 st σ x => ev_p ((TP_172 _).trans rfl) rfl,
   fun l0 l2 l3 st σ x => ev_p ((TP_172 _).trans rfl) rfl,
   fun l0 l1 l3 st σ x => ev_p ((TP_172 _).trans rfl) rfl,
   fun L σ a0 a1 a2 => ev_call ((TP_172 _).trans rfl) rfl rfl rfl rfl,
   fun l1 l2 l3 st σ x => ev_p ((TP_172 _).trans rfl) rfl,
   fun l0 l2 l3 st σ x => ev_p ((TP_172 _).trans rfl) rfl,
   fun L σ a0 a1 => ev_call ((TP_172 _).trans rfl) rfl rfl rfl rfl,
   fun l0 l1 l2 st σ x => ev_p ((TP_172 _).trans rfl) rfl,
   fun L σ x => ev_r ((TP_172 _).trans rfl) rfl⟩
theorem TP_173 (pc : Nat) : TT 173 pc = ri_find TL_173 pc := rfl
theorem E_173 (x0 : Nat) (x1 : Int32) (x2 : Int32) (σ : ri_S) : cal 173 [.ref x0, .int x1, .int x2] σ = ev 173 (0, [some (.ref x0), some (.int x1), some (.int x2), none], []) σ := rfl
theorem I_173 :
  (∀ (l1 l2 l3 : Option Value) (st : List Value) (σ : ri_S) (x : Nat), ev 173 (0, [some (.ref x), l1, l2, l3], st) σ = ev 173 (1, [some (.ref x), l1, l2, l3], .ref x :: st) σ) ∧
  (∀ (l0 l2 l3 : Option Value) (st : List Value) (σ : ri_S) (x : Int32), ev 173 (1, [l0, some (.int x), l2, l3], st) σ = ev 173 (2, [l0, some (.int x), l2, l3], .int x :: st) σ) ∧
  (∀ (l0 l1 l3 : Option Value) (st : List Value) (σ : ri_S) (x : Int32), ev 173 (2, [l0, l1, some (.int x), l3], st) σ = ev 173 (3, [l0, l1, some (.int x), l3], .int x :: st) σ) ∧
  (∀ (L : ri_L) (σ : ri_S) (a0 : Nat) (a1 : Int32) (a2 : Int32), ev 173 (3, L, [.int a2, .int a1, .ref a0]) σ = (cal 165 [.ref a0, .int a1, .int a2] σ).bind fun q => ev 173 (6, L, q.1.toList ++ []) q.2) ∧
  (∀ (l0 l1 l2 l3 : Option Value) (st : List Value) (σ : ri_S) (x : Int32), ev 173 (6, [l0, l1, l2, l3], .int x :: st) σ = ev 173 (7, [l0, l1, ri_clr l2, some (.int x)], st) σ) ∧
  (∀ (l0 l1 l2 : Option Value) (st : List Value) (σ : ri_S) (x : Int32), ev 173 (7, [l0, l1, l2, some (.int x)], st) σ = ev 173 (8, [l0, l1, l2, some (.int x)], .int x :: st) σ) ∧
  (∀ (L : ri_L) (st : List Value) (σ : ri_S) (x : Int32), ev 173 (8, L, .int x :: st) σ = if ¬ x = 0 then ev 173 (22, L, st) σ else ev 173 (11, L, st) σ) ∧
  (∀ (l1 l2 l3 : Option Value) (st : List Value) (σ : ri_S) (x : Nat), ev 173 (11, [some (.ref x), l1, l2, l3], st) σ = ev 173 (12, [some (.ref x), l1, l2, l3], .ref x :: st) σ) ∧
  (∀ (l0 l2 l3 : Option Value) (st : List Value) (σ : ri_S) (x : Int32), ev 173 (12, [l0, some (.int x), l2, l3], st) σ = ev 173 (13, [l0, some (.int x), l2, l3], .int x :: st) σ) ∧
  (∀ (l0 l1 l3 : Option Value) (st : List Value) (σ : ri_S) (x : Int32), ev 173 (13, [l0, l1, some (.int x), l3], st) σ = ev 173 (14, [l0, l1, some (.int x), l3], .int x :: st) σ) ∧
  (∀ (L : ri_L) (σ : ri_S) (a0 : Nat) (a1 : Int32) (a2 : Int32), ev 173 (14, L, [.int a2, .int a1, .ref a0]) σ = (cal 170 [.ref a0, .int a1, .int a2] σ).bind fun q => ev 173 (17, L, q.1.toList ++ []) q.2) ∧
  (∀ (l1 l2 l3 : Option Value) (st : List Value) (σ : ri_S) (x : Nat), ev 173 (17, [some (.ref x), l1, l2, l3], st) σ = ev 173 (18, [some (.ref x), l1, l2, l3], .ref x :: st) σ) ∧
  (∀ (l0 l2 l3 : Option Value) (st : List Value) (σ : ri_S) (x : Int32), ev 173 (18, [l0, some (.int x), l2, l3], st) σ = ev 173 (19, [l0, some (.int x), l2, l3], .int x :: st) σ) ∧
  (∀ (L : ri_L) (σ : ri_S) (a0 : Nat) (a1 : Int32), ev 173 (19, L, [.int a1, .ref a0]) σ = (cal 171 [.ref a0, .int a1] σ).bind fun q => ev 173 (22, L, q.1.toList ++ []) q.2) ∧
  (∀ (l0 l1 l2 : Option Value) (st : List Value) (σ : ri_S) (x : Int32), ev 173 (22, [l0, l1, l2, some (.int x)], st) σ = ev 173 (23, [l0, l1, l2, some (.int x)], .int x :: st) σ) ∧
  (∀ (L : ri_L) (σ : ri_S) (x : Int32), ev 173 (23, L, [.int x]) σ = some (some (.int x), σ)) :=
  ⟨fun l1 l2 l3 st σ x => ev_p ((TP_173 _).trans rfl) rfl,
   fun l0 l2 l3 st σ x => ev_p ((TP_173 _).trans rfl) rfl,
   fun l0 l1 l3 st σ x => ev_p ((TP_173 _).trans rfl) rfl,
   fun L σ a0 a1 a2 => ev_call ((TP_173 _).trans rfl) rfl rfl rfl rfl,
   fun l0 l1 l2 l3 st σ x => ev_p ((TP_173 _).trans rfl) rfl,
   fun l0 l1 l2 st σ x => ev_p ((TP_173 _).trans rfl) rfl,
   fun L st σ x => ev_b ((TP_173 _).trans rfl) rfl,
   fun l1 l2 l3 st σ x => ev_p ((TP_173 _).trans rfl) rfl,
   fun l0 l2 l3 st σ x => ev_p ((TP_173 _).trans rfl) rfl,
   fun l0 l1 l3 st σ x => ev_p ((TP_173 _).trans rfl) rfl,
   fun L σ a0 a1 a2 => ev_call ((TP_173 _).trans rfl) rfl rfl rfl rfl,
   fun l1 l2 l3 st σ x => ev_p ((TP_173 _).trans rfl) rfl,
   fun l0 l2 l3 st σ x => ev_p ((TP_173 _).trans rfl) rfl,
   fun L σ a0 a1 => ev_call ((TP_173 _).trans rfl) rfl rfl rfl rfl,
   fun l0 l1 l2 st σ x => ev_p ((TP_173 _).trans rfl) rfl,
   fun L σ x => ev_r ((TP_173 _).trans rfl) rfl⟩
theorem TP_174 (pc : Nat) : TT 174 pc = ri_find TL_174 pc := rfl
theorem E_174 (x0 : Int32) (x1 : Int32) (x2 : Int32) (σ : ri_S) : cal 174 [.int x0, .int x1, .int x2] σ = ev 174 (0, [some (.int x0), some (.int x1), some (.int x2)], []) σ := rfl
theorem I_174 :
  (∀ (l1 l2 : Option Value) (st : List Value) (σ : ri_S) (x : Int32), ev 174 (0, [some (.int x), l1, l2], st) σ = ev 174 (1, [some (.int x), l1, l2], .int x :: st) σ) ∧
  (∀ (L : ri_L) (st : List Value) (σ : ri_S) (x : Int32), ev 174 (1, L, .int x :: st) σ = ev 174 (2, L, .long x.toInt64 :: st) σ) ∧
  (∀ (L : ri_L) (st : List Value) (σ : ri_S), ev 174 (2, L, st) σ = ev 174 (5, L, .long 3 :: st) σ) ∧
  (∀ (L : ri_L) (st : List Value) (σ : ri_S), ev 174 (5, L, st) σ = ev 174 (8, L, .long 5 :: st) σ) ∧
  (∀ (L : ri_L) (σ : ri_S) (a0 : Int64) (a1 : Int64) (a2 : Int64), ev 174 (8, L, [.long a2, .long a1, .long a0]) σ = (cal 146 [.long a0, .long a1, .long a2] σ).bind fun q => ev 174 (11, L, q.1.toList ++ []) q.2) ∧
  (∀ (L : ri_L) (st : List Value) (σ : ri_S) (x : Int32), ev 174 (11, L, .int x :: st) σ = if x = 0 then ev 174 (44, L, st) σ else ev 174 (14, L, st) σ) ∧
  (∀ (l0 l2 : Option Value) (st : List Value) (σ : ri_S) (x : Int32), ev 174 (14, [l0, some (.int x), l2], st) σ = ev 174 (15, [l0, some (.int x), l2], .int x :: st) σ) ∧
  (∀ (L : ri_L) (st : List Value) (σ : ri_S) (x : Int32), ev 174 (15, L, .int x :: st) σ = ev 174 (16, L, .long x.toInt64 :: st) σ) ∧
  (∀ (L : ri_L) (st : List Value) (σ : ri_S), ev 174 (16, L, st) σ = ev 174 (19, L, .long (-4) :: st) σ) ∧
  (∀ (L : ri_L) (st : List Value) (σ : ri_S), ev 174 (19, L, st) σ = ev 174 (22, L, .long 4 :: st) σ) ∧
  (∀ (L : ri_L) (σ : ri_S) (a0 : Int64) (a1 : Int64) (a2 : Int64), ev 174 (22, L, [.long a2, .long a1, .long a0]) σ = (cal 146 [.long a0, .long a1, .long a2] σ).bind fun q => ev 174 (25, L, q.1.toList ++ []) q.2) ∧
  (∀ (L : ri_L) (st : List Value) (σ : ri_S) (x : Int32), ev 174 (25, L, .int x :: st) σ = if x = 0 then ev 174 (44, L, st) σ else ev 174 (28, L, st) σ) ∧
  (∀ (l0 l1 : Option Value) (st : List Value) (σ : ri_S) (x : Int32), ev 174 (28, [l0, l1, some (.int x)], st) σ = ev 174 (29, [l0, l1, some (.int x)], .int x :: st) σ) ∧
  (∀ (L : ri_L) (st : List Value) (σ : ri_S) (x : Int32), ev 174 (29, L, .int x :: st) σ = ev 174 (30, L, .long x.toInt64 :: st) σ) ∧
  (∀ (L : ri_L) (st : List Value) (σ : ri_S), ev 174 (30, L, st) σ = ev 174 (31, L, .long 0 :: st) σ) ∧
  (∀ (L : ri_L) (st : List Value) (σ : ri_S), ev 174 (31, L, st) σ = ev 174 (34, L, .long 30 :: st) σ) ∧
  (∀ (L : ri_L) (σ : ri_S) (a0 : Int64) (a1 : Int64) (a2 : Int64), ev 174 (34, L, [.long a2, .long a1, .long a0]) σ = (cal 146 [.long a0, .long a1, .long a2] σ).bind fun q => ev 174 (37, L, q.1.toList ++ []) q.2) ∧
  (∀ (L : ri_L) (st : List Value) (σ : ri_S) (x : Int32), ev 174 (37, L, .int x :: st) σ = if x = 0 then ev 174 (44, L, st) σ else ev 174 (40, L, st) σ) ∧
  (∀ (L : ri_L) (st : List Value) (σ : ri_S), ev 174 (40, L, st) σ = ev 174 (41, L, .int 1 :: st) σ) ∧
  (∀ (L : ri_L) (st : List Value) (σ : ri_S), ev 174 (41, L, st) σ = ev 174 (45, L, st) σ) ∧
  (∀ (L : ri_L) (st : List Value) (σ : ri_S), ev 174 (44, L, st) σ = ev 174 (45, L, .int 0 :: st) σ) ∧
  (∀ (L : ri_L) (σ : ri_S) (x : Int32), ev 174 (45, L, [.int x]) σ = tv_b x (some (some (.int x), σ))) :=
  ⟨fun l1 l2 st σ x => ev_p ((TP_174 _).trans rfl) rfl,
   fun L st σ x => ev_p ((TP_174 _).trans rfl) rfl,
   fun L st σ => ev_p ((TP_174 _).trans rfl) rfl,
   fun L st σ => ev_p ((TP_174 _).trans rfl) rfl,
   fun L σ a0 a1 a2 => ev_call ((TP_174 _).trans rfl) rfl rfl rfl rfl,
   fun L st σ x => ev_b ((TP_174 _).trans rfl) rfl,
   fun l0 l2 st σ x => ev_p ((TP_174 _).trans rfl) rfl,
   fun L st σ x => ev_p ((TP_174 _).trans rfl) rfl,
   fun L st σ => ev_p ((TP_174 _).trans rfl) rfl,
   fun L st σ => ev_p ((TP_174 _).trans rfl) rfl,
   fun L σ a0 a1 a2 => ev_call ((TP_174 _).trans rfl) rfl rfl rfl rfl,
   fun L st σ x => ev_b ((TP_174 _).trans rfl) rfl,
   fun l0 l1 st σ x => ev_p ((TP_174 _).trans rfl) rfl,
   fun L st σ x => ev_p ((TP_174 _).trans rfl) rfl,
   fun L st σ => ev_p ((TP_174 _).trans rfl) rfl,
   fun L st σ => ev_p ((TP_174 _).trans rfl) rfl,
   fun L σ a0 a1 a2 => ev_call ((TP_174 _).trans rfl) rfl rfl rfl rfl,
   fun L st σ x => ev_b ((TP_174 _).trans rfl) rfl,
   fun L st σ => ev_p ((TP_174 _).trans rfl) rfl,
   fun L st σ => ev_p ((TP_174 _).trans rfl) rfl,
   fun L st σ => ev_p ((TP_174 _).trans rfl) rfl,
   fun L σ x => ev_r ((TP_174 _).trans rfl) rfl⟩
theorem TP_175 (pc : Nat) : TT 175 pc = ri_find TL_175 pc := rfl
theorem E_175 (x0 : Nat) (x1 : Int32) (x2 : Int32) (x3 : Int32) (σ : ri_S) : cal 175 [.ref x0, .int x1, .int x2, .int x3] σ = ev 175 (0, [some (.ref x0), some (.int x1), some (.int x2), some (.int x3), none, none, none], []) σ := rfl
theorem H_175_18 (l0 l1 l2 l3 l4 l5 : Option Value) (st : List Value) (σ : ri_S) (x : Int32) : ev 175 (18, [l0, l1, l2, l3, l4, l5, some (.int x)], st) σ = ev 175 (20, [l0, l1, l2, l3, l4, l5, some (.int x)], .int x :: st) σ := ev_p ((TP_175 _).trans rfl) rfl
theorem I_175_0 :
  (∀ (l1 l2 l3 l4 l5 l6 : Option Value) (st : List Value) (σ : ri_S) (x : Nat), ev 175 (0, [some (.ref x), l1, l2, l3, l4, l5, l6], st) σ = ev 175 (1, [some (.ref x), l1, l2, l3, l4, l5, l6], .ref x :: st) σ) ∧
  (∀ (L : ri_L) (st : List Value) (σ : ri_S), ev 175 (1, L, st) σ = ev 175 (2, L, .int 0 :: st) σ) ∧
  (∀ (L : ri_L) (st : List Value) (σ : ri_S) (a : Nat) (i : Int32), ev 175 (2, L, .int i :: .ref a :: st) σ = tv_r 0 (σ.1 a) i fun n f j => ev 175 (3, L, .int (f j) :: st) σ) ∧
  (∀ (l0 l1 l2 l3 l4 l5 l6 : Option Value) (st : List Value) (σ : ri_S) (x : Int32), ev 175 (3, [l0, l1, l2, l3, l4, l5, l6], .int x :: st) σ = ev 175 (5, [l0, l1, l2, ri_clr l3, some (.int x), l5, l6], st) σ) ∧
  (∀ (L : ri_L) (st : List Value) (σ : ri_S), ev 175 (5, L, st) σ = ev 175 (7, L, .int 9 :: st) σ) ∧
  (∀ (L : ri_L) (st : List Value) (σ : ri_S), ev 175 (7, L, st) σ = ev 175 (9, L, .int 10 :: st) σ) ∧
  (∀ (l0 l1 l2 l3 l5 l6 : Option Value) (st : List Value) (σ : ri_S) (x : Int32), ev 175 (9, [l0, l1, l2, l3, some (.int x), l5, l6], st) σ = ev 175 (11, [l0, l1, l2, l3, some (.int x), l5, l6], .int x :: st) σ) ∧
  (∀ (L : ri_L) (st : List Value) (σ : ri_S) (x y : Int32), ev 175 (11, L, .int y :: .int x :: st) σ = ev 175 (12, L, .int (x * y) :: st) σ) ∧
  (∀ (L : ri_L) (st : List Value) (σ : ri_S) (x y : Int32), ev 175 (12, L, .int y :: .int x :: st) σ = ev 175 (13, L, .int (x + y) :: st) σ) ∧
  (∀ (l0 l1 l2 l3 l4 l5 l6 : Option Value) (st : List Value) (σ : ri_S) (x : Int32), ev 175 (13, [l0, l1, l2, l3, l4, l5, l6], .int x :: st) σ = ev 175 (15, [l0, l1, l2, l3, ri_clr l4, some (.int x), l6], st) σ) ∧
  (∀ (L : ri_L) (st : List Value) (σ : ri_S), ev 175 (15, L, st) σ = ev 175 (16, L, .int 0 :: st) σ) ∧
  (∀ (l0 l1 l2 l3 l4 l5 l6 : Option Value) (st : List Value) (σ : ri_S) (x : Int32), ev 175 (16, [l0, l1, l2, l3, l4, l5, l6], .int x :: st) σ = ev 175 (18, [l0, l1, l2, l3, l4, ri_clr l5, some (.int x)], st) σ) ∧
  (∀ (L : ri_L) (st : List Value) (σ : ri_S), ev 175 (20, L, st) σ = ev 175 (22, L, .int 10 :: st) σ) ∧
  (∀ (L : ri_L) (st : List Value) (σ : ri_S) (x y : Int32), ev 175 (22, L, .int y :: .int x :: st) σ = if y ≤ x then ev 175 (39, L, st) σ else ev 175 (25, L, st) σ) ∧
  (∀ (l1 l2 l3 l4 l5 l6 : Option Value) (st : List Value) (σ : ri_S) (x : Nat), ev 175 (25, [some (.ref x), l1, l2, l3, l4, l5, l6], st) σ = ev 175 (26, [some (.ref x), l1, l2, l3, l4, l5, l6], .ref x :: st) σ) ∧
  (∀ (l0 l1 l2 l3 l4 l6 : Option Value) (st : List Value) (σ : ri_S) (x : Int32), ev 175 (26, [l0, l1, l2, l3, l4, some (.int x), l6], st) σ = ev 175 (28, [l0, l1, l2, l3, l4, some (.int x), l6], .int x :: st) σ) ∧
  (∀ (l0 l1 l2 l3 l4 l5 : Option Value) (st : List Value) (σ : ri_S) (x : Int32), ev 175 (28, [l0, l1, l2, l3, l4, l5, some (.int x)], st) σ = ev 175 (30, [l0, l1, l2, l3, l4, l5, some (.int x)], .int x :: st) σ) ∧
  (∀ (L : ri_L) (st : List Value) (σ : ri_S) (x y : Int32), ev 175 (30, L, .int y :: .int x :: st) σ = ev 175 (31, L, .int (x + y) :: st) σ) ∧
  (∀ (L : ri_L) (st : List Value) (σ : ri_S), ev 175 (31, L, st) σ = ev 175 (32, L, .int 0 :: st) σ) ∧
  (∀ (L : ri_L) (st : List Value) (σ : ri_S) (a : Nat) (i x : Int32), ev 175 (32, L, .int x :: .int i :: .ref a :: st) σ = tv_r 0 (σ.1 a) i fun n f j => ev 175 (33, L, st) (ri_upd σ.1 a (.inl (0, n, upd f j x)), σ.2)) ∧
  (∀ (l0 l1 l2 l3 l4 l5 : Option Value) (st : List Value) (σ : ri_S) (x : Int32), ev 175 (33, [l0, l1, l2, l3, l4, l5, some (.int x)], st) σ = ev 175 (36, [l0, l1, l2, l3, l4, ri_clr l5, some (.int (x + 1))], st) σ) ∧
  (∀ (L : ri_L) (st : List Value) (σ : ri_S), ev 175 (36, L, st) σ = ev 175 (18, L, st) σ) ∧
  (∀ (l1 l2 l3 l4 l5 l6 : Option Value) (st : List Value) (σ : ri_S) (x : Nat), ev 175 (39, [some (.ref x), l1, l2, l3, l4, l5, l6], st) σ = ev 175 (40, [some (.ref x), l1, l2, l3, l4, l5, l6], .ref x :: st) σ) ∧
  (∀ (l0 l1 l2 l3 l4 l6 : Option Value) (st : List Value) (σ : ri_S) (x : Int32), ev 175 (40, [l0, l1, l2, l3, l4, some (.int x), l6], st) σ = ev 175 (42, [l0, l1, l2, l3, l4, some (.int x), l6], .int x :: st) σ) ∧
  (∀ (L : ri_L) (st : List Value) (σ : ri_S), ev 175 (42, L, st) σ = ev 175 (43, L, .int 0 :: st) σ) ∧
  (∀ (L : ri_L) (st : List Value) (σ : ri_S) (x y : Int32), ev 175 (43, L, .int y :: .int x :: st) σ = ev 175 (44, L, .int (x + y) :: st) σ) ∧
  (∀ (l0 l2 l3 l4 l5 l6 : Option Value) (st : List Value) (σ : ri_S) (x : Int32), ev 175 (44, [l0, some (.int x), l2, l3, l4, l5, l6], st) σ = ev 175 (45, [l0, some (.int x), l2, l3, l4, l5, l6], .int x :: st) σ) ∧
  (∀ (L : ri_L) (st : List Value) (σ : ri_S) (a : Nat) (i x : Int32), ev 175 (45, L, .int x :: .int i :: .ref a :: st) σ = tv_r 0 (σ.1 a) i fun n f j => ev 175 (46, L, st) (ri_upd σ.1 a (.inl (0, n, upd f j x)), σ.2)) ∧
  (∀ (l1 l2 l3 l4 l5 l6 : Option Value) (st : List Value) (σ : ri_S) (x : Nat), ev 175 (46, [some (.ref x), l1, l2, l3, l4, l5, l6], st) σ = ev 175 (47, [some (.ref x), l1, l2, l3, l4, l5, l6], .ref x :: st) σ) ∧
  (∀ (l0 l1 l2 l3 l4 l6 : Option Value) (st : List Value) (σ : ri_S) (x : Int32), ev 175 (47, [l0, l1, l2, l3, l4, some (.int x), l6], st) σ = ev 175 (49, [l0, l1, l2, l3, l4, some (.int x), l6], .int x :: st) σ) ∧
  (∀ (L : ri_L) (st : List Value) (σ : ri_S), ev 175 (49, L, st) σ = ev 175 (50, L, .int 1 :: st) σ) ∧
  (∀ (L : ri_L) (st : List Value) (σ : ri_S) (x y : Int32), ev 175 (50, L, .int y :: .int x :: st) σ = ev 175 (51, L, .int (x + y) :: st) σ) ∧
  (∀ (l0 l1 l3 l4 l5 l6 : Option Value) (st : List Value) (σ : ri_S) (x : Int32), ev 175 (51, [l0, l1, some (.int x), l3, l4, l5, l6], st) σ = ev 175 (52, [l0, l1, some (.int x), l3, l4, l5, l6], .int x :: st) σ) ∧
  (∀ (L : ri_L) (st : List Value) (σ : ri_S) (a : Nat) (i x : Int32), ev 175 (52, L, .int x :: .int i :: .ref a :: st) σ = tv_r 0 (σ.1 a) i fun n f j => ev 175 (53, L, st) (ri_upd σ.1 a (.inl (0, n, upd f j x)), σ.2)) ∧
  (∀ (l1 l2 l3 l4 l5 l6 : Option Value) (st : List Value) (σ : ri_S) (x : Nat), ev 175 (53, [some (.ref x), l1, l2, l3, l4, l5, l6], st) σ = ev 175 (54, [some (.ref x), l1, l2, l3, l4, l5, l6], .ref x :: st) σ) ∧
  (∀ (l0 l1 l2 l3 l4 l6 : Option Value) (st : List Value) (σ : ri_S) (x : Int32), ev 175 (54, [l0, l1, l2, l3, l4, some (.int x), l6], st) σ = ev 175 (56, [l0, l1, l2, l3, l4, some (.int x), l6], .int x :: st) σ) ∧
  (∀ (L : ri_L) (st : List Value) (σ : ri_S), ev 175 (56, L, st) σ = ev 175 (57, L, .int 2 :: st) σ) ∧
  (∀ (L : ri_L) (st : List Value) (σ : ri_S) (x y : Int32), ev 175 (57, L, .int y :: .int x :: st) σ = ev 175 (58, L, .int (x + y) :: st) σ) ∧
  (∀ (l0 l1 l2 l4 l5 l6 : Option Value) (st : List Value) (σ : ri_S) (x : Int32), ev 175 (58, [l0, l1, l2, some (.int x), l4, l5, l6], st) σ = ev 175 (59, [l0, l1, l2, some (.int x), l4, l5, l6], .int x :: st) σ) ∧
  (∀ (L : ri_L) (st : List Value) (σ : ri_S) (a : Nat) (i x : Int32), ev 175 (59, L, .int x :: .int i :: .ref a :: st) σ = tv_r 0 (σ.1 a) i fun n f j => ev 175 (60, L, st) (ri_upd σ.1 a (.inl (0, n, upd f j x)), σ.2)) :=
  ⟨fun l1 l2 l3 l4 l5 l6 st σ x => ev_p ((TP_175 _).trans rfl) rfl,
   fun L st σ => ev_p ((TP_175 _).trans rfl) rfl,
   fun L st σ a i => ev_iald ((TP_175 _).trans rfl),
   fun l0 l1 l2 l3 l4 l5 l6 st σ x => ev_p ((TP_175 _).trans rfl) rfl,
   fun L st σ => ev_p ((TP_175 _).trans rfl) rfl,
   fun L st σ => ev_p ((TP_175 _).trans rfl) rfl,
   fun l0 l1 l2 l3 l5 l6 st σ x => ev_p ((TP_175 _).trans rfl) rfl,
   fun L st σ x y => ev_p ((TP_175 _).trans rfl) rfl,
   fun L st σ x y => ev_p ((TP_175 _).trans rfl) rfl,
   fun l0 l1 l2 l3 l4 l5 l6 st σ x => ev_p ((TP_175 _).trans rfl) rfl,
   fun L st σ => ev_p ((TP_175 _).trans rfl) rfl,
   fun l0 l1 l2 l3 l4 l5 l6 st σ x => ev_p ((TP_175 _).trans rfl) rfl,
   fun L st σ => ev_p ((TP_175 _).trans rfl) rfl,
   fun L st σ x y => ev_b ((TP_175 _).trans rfl) rfl,
   fun l1 l2 l3 l4 l5 l6 st σ x => ev_p ((TP_175 _).trans rfl) rfl,
   fun l0 l1 l2 l3 l4 l6 st σ x => ev_p ((TP_175 _).trans rfl) rfl,
   fun l0 l1 l2 l3 l4 l5 st σ x => ev_p ((TP_175 _).trans rfl) rfl,
   fun L st σ x y => ev_p ((TP_175 _).trans rfl) rfl,
   fun L st σ => ev_p ((TP_175 _).trans rfl) rfl,
   fun L st σ a i x => ev_iast ((TP_175 _).trans rfl),
   fun l0 l1 l2 l3 l4 l5 st σ x => ev_p ((TP_175 _).trans rfl) rfl,
   fun L st σ => ev_p ((TP_175 _).trans rfl) rfl,
   fun l1 l2 l3 l4 l5 l6 st σ x => ev_p ((TP_175 _).trans rfl) rfl,
   fun l0 l1 l2 l3 l4 l6 st σ x => ev_p ((TP_175 _).trans rfl) rfl,
   fun L st σ => ev_p ((TP_175 _).trans rfl) rfl,
   fun L st σ x y => ev_p ((TP_175 _).trans rfl) rfl,
   fun l0 l2 l3 l4 l5 l6 st σ x => ev_p ((TP_175 _).trans rfl) rfl,
   fun L st σ a i x => ev_iast ((TP_175 _).trans rfl),
   fun l1 l2 l3 l4 l5 l6 st σ x => ev_p ((TP_175 _).trans rfl) rfl,
   fun l0 l1 l2 l3 l4 l6 st σ x => ev_p ((TP_175 _).trans rfl) rfl,
   fun L st σ => ev_p ((TP_175 _).trans rfl) rfl,
   fun L st σ x y => ev_p ((TP_175 _).trans rfl) rfl,
   fun l0 l1 l3 l4 l5 l6 st σ x => ev_p ((TP_175 _).trans rfl) rfl,
   fun L st σ a i x => ev_iast ((TP_175 _).trans rfl),
   fun l1 l2 l3 l4 l5 l6 st σ x => ev_p ((TP_175 _).trans rfl) rfl,
   fun l0 l1 l2 l3 l4 l6 st σ x => ev_p ((TP_175 _).trans rfl) rfl,
   fun L st σ => ev_p ((TP_175 _).trans rfl) rfl,
   fun L st σ x y => ev_p ((TP_175 _).trans rfl) rfl,
   fun l0 l1 l2 l4 l5 l6 st σ x => ev_p ((TP_175 _).trans rfl) rfl,
   fun L st σ a i x => ev_iast ((TP_175 _).trans rfl)⟩
theorem I_175_1 :
  (∀ (l1 l2 l3 l4 l5 l6 : Option Value) (st : List Value) (σ : ri_S) (x : Nat), ev 175 (60, [some (.ref x), l1, l2, l3, l4, l5, l6], st) σ = ev 175 (61, [some (.ref x), l1, l2, l3, l4, l5, l6], .ref x :: st) σ) ∧
  (∀ (L : ri_L) (st : List Value) (σ : ri_S), ev 175 (61, L, st) σ = ev 175 (62, L, .int 0 :: st) σ) ∧
  (∀ (L : ri_L) (st : List Value) (σ : ri_S) (x : Int32) (y : Nat), ev 175 (62, L, .int x :: .ref y :: st) σ = ev 175 (63, L, .int x :: .ref y :: .int x :: .ref y :: st) σ) ∧
  (∀ (L : ri_L) (st : List Value) (σ : ri_S) (a : Nat) (i : Int32), ev 175 (63, L, .int i :: .ref a :: st) σ = tv_r 0 (σ.1 a) i fun n f j => ev 175 (64, L, .int (f j) :: st) σ) ∧
  (∀ (L : ri_L) (st : List Value) (σ : ri_S), ev 175 (64, L, st) σ = ev 175 (65, L, .int 1 :: st) σ) ∧
  (∀ (L : ri_L) (st : List Value) (σ : ri_S) (x y : Int32), ev 175 (65, L, .int y :: .int x :: st) σ = ev 175 (66, L, .int (x + y) :: st) σ) ∧
  (∀ (L : ri_L) (st : List Value) (σ : ri_S) (a : Nat) (i x : Int32), ev 175 (66, L, .int x :: .int i :: .ref a :: st) σ = tv_r 0 (σ.1 a) i fun n f j => ev 175 (67, L, st) (ri_upd σ.1 a (.inl (0, n, upd f j x)), σ.2)) ∧
  (∀ (l0 l1 l2 l3 l5 l6 : Option Value) (st : List Value) (σ : ri_S) (x : Int32), ev 175 (67, [l0, l1, l2, l3, some (.int x), l5, l6], st) σ = ev 175 (69, [l0, l1, l2, l3, some (.int x), l5, l6], .int x :: st) σ) ∧
  (∀ (L : ri_L) (σ : ri_S) (x : Int32), ev 175 (69, L, [.int x]) σ = some (some (.int x), σ)) :=
  ⟨fun l1 l2 l3 l4 l5 l6 st σ x => ev_p ((TP_175 _).trans rfl) rfl,
   fun L st σ => ev_p ((TP_175 _).trans rfl) rfl,
   fun L st σ x y => ev_p ((TP_175 _).trans rfl) rfl,
   fun L st σ a i => ev_iald ((TP_175 _).trans rfl),
   fun L st σ => ev_p ((TP_175 _).trans rfl) rfl,
   fun L st σ x y => ev_p ((TP_175 _).trans rfl) rfl,
   fun L st σ a i x => ev_iast ((TP_175 _).trans rfl),
   fun l0 l1 l2 l3 l5 l6 st σ x => ev_p ((TP_175 _).trans rfl) rfl,
   fun L σ x => ev_r ((TP_175 _).trans rfl) rfl⟩
theorem TP_176 (pc : Nat) : TT 176 pc = ri_find TL_176 pc := rfl
theorem E_176 (x0 : Nat) (x1 : Int32) (x2 : Int32) (x3 : Int32) (x4 : Int32) (σ : ri_S) : cal 176 [.ref x0, .int x1, .int x2, .int x3, .int x4] σ = ev 176 (0, [some (.ref x0), some (.int x1), some (.int x2), some (.int x3), some (.int x4)], []) σ := rfl
theorem I_176 :
  (∀ (l1 l2 l3 l4 : Option Value) (st : List Value) (σ : ri_S) (x : Nat), ev 176 (0, [some (.ref x), l1, l2, l3, l4], st) σ = ev 176 (1, [some (.ref x), l1, l2, l3, l4], .ref x :: st) σ) ∧
  (∀ (l0 l2 l3 l4 : Option Value) (st : List Value) (σ : ri_S) (x : Int32), ev 176 (1, [l0, some (.int x), l2, l3, l4], st) σ = ev 176 (2, [l0, some (.int x), l2, l3, l4], .int x :: st) σ) ∧
  (∀ (l0 l1 l3 l4 : Option Value) (st : List Value) (σ : ri_S) (x : Int32), ev 176 (2, [l0, l1, some (.int x), l3, l4], st) σ = ev 176 (3, [l0, l1, some (.int x), l3, l4], .int x :: st) σ) ∧
  (∀ (L : ri_L) (σ : ri_S) (a0 : Nat) (a1 : Int32) (a2 : Int32), ev 176 (3, L, [.int a2, .int a1, .ref a0]) σ = (cal 153 [.ref a0, .int a1, .int a2] σ).bind fun q => ev 176 (6, L, q.1.toList ++ []) q.2) ∧
  (∀ (L : ri_L) (st : List Value) (σ : ri_S) (x : Int32), ev 176 (6, L, .int x :: st) σ = if x = 0 then ev 176 (36, L, st) σ else ev 176 (9, L, st) σ) ∧
  (∀ (l1 l2 l3 l4 : Option Value) (st : List Value) (σ : ri_S) (x : Nat), ev 176 (9, [some (.ref x), l1, l2, l3, l4], st) σ = ev 176 (10, [some (.ref x), l1, l2, l3, l4], .ref x :: st) σ) ∧
  (∀ (l0 l1 l2 l4 : Option Value) (st : List Value) (σ : ri_S) (x : Int32), ev 176 (10, [l0, l1, l2, some (.int x), l4], st) σ = ev 176 (11, [l0, l1, l2, some (.int x), l4], .int x :: st) σ) ∧
  (∀ (l0 l1 l2 l3 : Option Value) (st : List Value) (σ : ri_S) (x : Int32), ev 176 (11, [l0, l1, l2, l3, some (.int x)], st) σ = ev 176 (13, [l0, l1, l2, l3, some (.int x)], .int x :: st) σ) ∧
  (∀ (L : ri_L) (σ : ri_S) (a0 : Nat) (a1 : Int32) (a2 : Int32), ev 176 (13, L, [.int a2, .int a1, .ref a0]) σ = (cal 153 [.ref a0, .int a1, .int a2] σ).bind fun q => ev 176 (16, L, q.1.toList ++ []) q.2) ∧
  (∀ (L : ri_L) (st : List Value) (σ : ri_S) (x : Int32), ev 176 (16, L, .int x :: st) σ = if x = 0 then ev 176 (36, L, st) σ else ev 176 (19, L, st) σ) ∧
  (∀ (l0 l2 l3 l4 : Option Value) (st : List Value) (σ : ri_S) (x : Int32), ev 176 (19, [l0, some (.int x), l2, l3, l4], st) σ = ev 176 (20, [l0, some (.int x), l2, l3, l4], .int x :: st) σ) ∧
  (∀ (l0 l1 l2 l4 : Option Value) (st : List Value) (σ : ri_S) (x : Int32), ev 176 (20, [l0, l1, l2, some (.int x), l4], st) σ = ev 176 (21, [l0, l1, l2, some (.int x), l4], .int x :: st) σ) ∧
  (∀ (L : ri_L) (st : List Value) (σ : ri_S) (x y : Int32), ev 176 (21, L, .int y :: .int x :: st) σ = if x = y then ev 176 (36, L, st) σ else ev 176 (24, L, st) σ) ∧
  (∀ (l1 l2 l3 l4 : Option Value) (st : List Value) (σ : ri_S) (x : Nat), ev 176 (24, [some (.ref x), l1, l2, l3, l4], st) σ = ev 176 (25, [some (.ref x), l1, l2, l3, l4], .ref x :: st) σ) ∧
  (∀ (L : ri_L) (st : List Value) (σ : ri_S), ev 176 (25, L, st) σ = ev 176 (26, L, .int 1 :: st) σ) ∧
  (∀ (L : ri_L) (st : List Value) (σ : ri_S) (a : Nat) (i : Int32), ev 176 (26, L, .int i :: .ref a :: st) σ = tv_r 0 (σ.1 a) i fun n f j => ev 176 (27, L, .int (f j) :: st) σ) ∧
  (∀ (L : ri_L) (st : List Value) (σ : ri_S), ev 176 (27, L, st) σ = ev 176 (29, L, .int 8 :: st) σ) ∧
  (∀ (L : ri_L) (st : List Value) (σ : ri_S) (x y : Int32), ev 176 (29, L, .int y :: .int x :: st) σ = if y ≤ x then ev 176 (36, L, st) σ else ev 176 (32, L, st) σ) ∧
  (∀ (L : ri_L) (st : List Value) (σ : ri_S), ev 176 (32, L, st) σ = ev 176 (33, L, .int 1 :: st) σ) ∧
  (∀ (L : ri_L) (st : List Value) (σ : ri_S), ev 176 (33, L, st) σ = ev 176 (37, L, st) σ) ∧
  (∀ (L : ri_L) (st : List Value) (σ : ri_S), ev 176 (36, L, st) σ = ev 176 (37, L, .int 0 :: st) σ) ∧
  (∀ (L : ri_L) (σ : ri_S) (x : Int32), ev 176 (37, L, [.int x]) σ = tv_b x (some (some (.int x), σ))) :=
  ⟨fun l1 l2 l3 l4 st σ x => ev_p ((TP_176 _).trans rfl) rfl,
   fun l0 l2 l3 l4 st σ x => ev_p ((TP_176 _).trans rfl) rfl,
   fun l0 l1 l3 l4 st σ x => ev_p ((TP_176 _).trans rfl) rfl,
   fun L σ a0 a1 a2 => ev_call ((TP_176 _).trans rfl) rfl rfl rfl rfl,
   fun L st σ x => ev_b ((TP_176 _).trans rfl) rfl,
   fun l1 l2 l3 l4 st σ x => ev_p ((TP_176 _).trans rfl) rfl,
   fun l0 l1 l2 l4 st σ x => ev_p ((TP_176 _).trans rfl) rfl,
   fun l0 l1 l2 l3 st σ x => ev_p ((TP_176 _).trans rfl) rfl,
   fun L σ a0 a1 a2 => ev_call ((TP_176 _).trans rfl) rfl rfl rfl rfl,
   fun L st σ x => ev_b ((TP_176 _).trans rfl) rfl,
   fun l0 l2 l3 l4 st σ x => ev_p ((TP_176 _).trans rfl) rfl,
   fun l0 l1 l2 l4 st σ x => ev_p ((TP_176 _).trans rfl) rfl,
   fun L st σ x y => ev_b ((TP_176 _).trans rfl) rfl,
   fun l1 l2 l3 l4 st σ x => ev_p ((TP_176 _).trans rfl) rfl,
   fun L st σ => ev_p ((TP_176 _).trans rfl) rfl,
   fun L st σ a i => ev_iald ((TP_176 _).trans rfl),
   fun L st σ => ev_p ((TP_176 _).trans rfl) rfl,
   fun L st σ x y => ev_b ((TP_176 _).trans rfl) rfl,
   fun L st σ => ev_p ((TP_176 _).trans rfl) rfl,
   fun L st σ => ev_p ((TP_176 _).trans rfl) rfl,
   fun L st σ => ev_p ((TP_176 _).trans rfl) rfl,
   fun L σ x => ev_r ((TP_176 _).trans rfl) rfl⟩
theorem TP_177 (pc : Nat) : TT 177 pc = ri_find TL_177 pc := rfl
theorem E_177 (x0 : Nat) (x1 : Int32) (x2 : Int32) (x3 : Int32) (x4 : Int32) (σ : ri_S) : cal 177 [.ref x0, .int x1, .int x2, .int x3, .int x4] σ = ev 177 (0, [some (.ref x0), some (.int x1), some (.int x2), some (.int x3), some (.int x4), none], []) σ := rfl
theorem I_177_0 :
  (∀ (l1 l2 l3 l4 l5 : Option Value) (st : List Value) (σ : ri_S) (x : Nat), ev 177 (0, [some (.ref x), l1, l2, l3, l4, l5], st) σ = ev 177 (1, [some (.ref x), l1, l2, l3, l4, l5], .ref x :: st) σ) ∧
  (∀ (L : ri_L) (st : List Value) (σ : ri_S), ev 177 (1, L, st) σ = ev 177 (2, L, .int 1 :: st) σ) ∧
  (∀ (L : ri_L) (st : List Value) (σ : ri_S) (a : Nat) (i : Int32), ev 177 (2, L, .int i :: .ref a :: st) σ = tv_r 0 (σ.1 a) i fun n f j => ev 177 (3, L, .int (f j) :: st) σ) ∧
  (∀ (l0 l1 l2 l3 l4 l5 : Option Value) (st : List Value) (σ : ri_S) (x : Int32), ev 177 (3, [l0, l1, l2, l3, l4, l5], .int x :: st) σ = ev 177 (5, [l0, l1, l2, l3, ri_clr l4, some (.int x)], st) σ) ∧
  (∀ (l1 l2 l3 l4 l5 : Option Value) (st : List Value) (σ : ri_S) (x : Nat), ev 177 (5, [some (.ref x), l1, l2, l3, l4, l5], st) σ = ev 177 (6, [some (.ref x), l1, l2, l3, l4, l5], .ref x :: st) σ) ∧
  (∀ (L : ri_L) (st : List Value) (σ : ri_S), ev 177 (6, L, st) σ = ev 177 (8, L, .int 39 :: st) σ) ∧
  (∀ (L : ri_L) (st : List Value) (σ : ri_S), ev 177 (8, L, st) σ = ev 177 (9, L, .int 4 :: st) σ) ∧
  (∀ (l0 l1 l2 l3 l4 : Option Value) (st : List Value) (σ : ri_S) (x : Int32), ev 177 (9, [l0, l1, l2, l3, l4, some (.int x)], st) σ = ev 177 (11, [l0, l1, l2, l3, l4, some (.int x)], .int x :: st) σ) ∧
  (∀ (L : ri_L) (st : List Value) (σ : ri_S) (x y : Int32), ev 177 (11, L, .int y :: .int x :: st) σ = ev 177 (12, L, .int (x * y) :: st) σ) ∧
  (∀ (L : ri_L) (st : List Value) (σ : ri_S) (x y : Int32), ev 177 (12, L, .int y :: .int x :: st) σ = ev 177 (13, L, .int (x + y) :: st) σ) ∧
  (∀ (l0 l2 l3 l4 l5 : Option Value) (st : List Value) (σ : ri_S) (x : Int32), ev 177 (13, [l0, some (.int x), l2, l3, l4, l5], st) σ = ev 177 (14, [l0, some (.int x), l2, l3, l4, l5], .int x :: st) σ) ∧
  (∀ (L : ri_L) (st : List Value) (σ : ri_S) (a : Nat) (i x : Int32), ev 177 (14, L, .int x :: .int i :: .ref a :: st) σ = tv_r 0 (σ.1 a) i fun n f j => ev 177 (15, L, st) (ri_upd σ.1 a (.inl (0, n, upd f j x)), σ.2)) ∧
  (∀ (l1 l2 l3 l4 l5 : Option Value) (st : List Value) (σ : ri_S) (x : Nat), ev 177 (15, [some (.ref x), l1, l2, l3, l4, l5], st) σ = ev 177 (16, [some (.ref x), l1, l2, l3, l4, l5], .ref x :: st) σ) ∧
  (∀ (L : ri_L) (st : List Value) (σ : ri_S), ev 177 (16, L, st) σ = ev 177 (18, L, .int 39 :: st) σ) ∧
  (∀ (L : ri_L) (st : List Value) (σ : ri_S), ev 177 (18, L, st) σ = ev 177 (19, L, .int 4 :: st) σ) ∧
  (∀ (l0 l1 l2 l3 l4 : Option Value) (st : List Value) (σ : ri_S) (x : Int32), ev 177 (19, [l0, l1, l2, l3, l4, some (.int x)], st) σ = ev 177 (21, [l0, l1, l2, l3, l4, some (.int x)], .int x :: st) σ) ∧
  (∀ (L : ri_L) (st : List Value) (σ : ri_S) (x y : Int32), ev 177 (21, L, .int y :: .int x :: st) σ = ev 177 (22, L, .int (x * y) :: st) σ) ∧
  (∀ (L : ri_L) (st : List Value) (σ : ri_S) (x y : Int32), ev 177 (22, L, .int y :: .int x :: st) σ = ev 177 (23, L, .int (x + y) :: st) σ) ∧
  (∀ (L : ri_L) (st : List Value) (σ : ri_S), ev 177 (23, L, st) σ = ev 177 (24, L, .int 1 :: st) σ) ∧
  (∀ (L : ri_L) (st : List Value) (σ : ri_S) (x y : Int32), ev 177 (24, L, .int y :: .int x :: st) σ = ev 177 (25, L, .int (x + y) :: st) σ) ∧
  (∀ (l0 l1 l3 l4 l5 : Option Value) (st : List Value) (σ : ri_S) (x : Int32), ev 177 (25, [l0, l1, some (.int x), l3, l4, l5], st) σ = ev 177 (26, [l0, l1, some (.int x), l3, l4, l5], .int x :: st) σ) ∧
  (∀ (L : ri_L) (st : List Value) (σ : ri_S) (a : Nat) (i x : Int32), ev 177 (26, L, .int x :: .int i :: .ref a :: st) σ = tv_r 0 (σ.1 a) i fun n f j => ev 177 (27, L, st) (ri_upd σ.1 a (.inl (0, n, upd f j x)), σ.2)) ∧
  (∀ (l1 l2 l3 l4 l5 : Option Value) (st : List Value) (σ : ri_S) (x : Nat), ev 177 (27, [some (.ref x), l1, l2, l3, l4, l5], st) σ = ev 177 (28, [some (.ref x), l1, l2, l3, l4, l5], .ref x :: st) σ) ∧
  (∀ (L : ri_L) (st : List Value) (σ : ri_S), ev 177 (28, L, st) σ = ev 177 (30, L, .int 39 :: st) σ) ∧
  (∀ (L : ri_L) (st : List Value) (σ : ri_S), ev 177 (30, L, st) σ = ev 177 (31, L, .int 4 :: st) σ) ∧
  (∀ (l0 l1 l2 l3 l4 : Option Value) (st : List Value) (σ : ri_S) (x : Int32), ev 177 (31, [l0, l1, l2, l3, l4, some (.int x)], st) σ = ev 177 (33, [l0, l1, l2, l3, l4, some (.int x)], .int x :: st) σ) ∧
  (∀ (L : ri_L) (st : List Value) (σ : ri_S) (x y : Int32), ev 177 (33, L, .int y :: .int x :: st) σ = ev 177 (34, L, .int (x * y) :: st) σ) ∧
  (∀ (L : ri_L) (st : List Value) (σ : ri_S) (x y : Int32), ev 177 (34, L, .int y :: .int x :: st) σ = ev 177 (35, L, .int (x + y) :: st) σ) ∧
  (∀ (L : ri_L) (st : List Value) (σ : ri_S), ev 177 (35, L, st) σ = ev 177 (36, L, .int 2 :: st) σ) ∧
  (∀ (L : ri_L) (st : List Value) (σ : ri_S) (x y : Int32), ev 177 (36, L, .int y :: .int x :: st) σ = ev 177 (37, L, .int (x + y) :: st) σ) ∧
  (∀ (l0 l1 l2 l4 l5 : Option Value) (st : List Value) (σ : ri_S) (x : Int32), ev 177 (37, [l0, l1, l2, some (.int x), l4, l5], st) σ = ev 177 (38, [l0, l1, l2, some (.int x), l4, l5], .int x :: st) σ) ∧
  (∀ (L : ri_L) (st : List Value) (σ : ri_S) (a : Nat) (i x : Int32), ev 177 (38, L, .int x :: .int i :: .ref a :: st) σ = tv_r 0 (σ.1 a) i fun n f j => ev 177 (39, L, st) (ri_upd σ.1 a (.inl (0, n, upd f j x)), σ.2)) ∧
  (∀ (l1 l2 l3 l4 l5 : Option Value) (st : List Value) (σ : ri_S) (x : Nat), ev 177 (39, [some (.ref x), l1, l2, l3, l4, l5], st) σ = ev 177 (40, [some (.ref x), l1, l2, l3, l4, l5], .ref x :: st) σ) ∧
  (∀ (L : ri_L) (st : List Value) (σ : ri_S), ev 177 (40, L, st) σ = ev 177 (42, L, .int 39 :: st) σ) ∧
  (∀ (L : ri_L) (st : List Value) (σ : ri_S), ev 177 (42, L, st) σ = ev 177 (43, L, .int 4 :: st) σ) ∧
  (∀ (l0 l1 l2 l3 l4 : Option Value) (st : List Value) (σ : ri_S) (x : Int32), ev 177 (43, [l0, l1, l2, l3, l4, some (.int x)], st) σ = ev 177 (45, [l0, l1, l2, l3, l4, some (.int x)], .int x :: st) σ) ∧
  (∀ (L : ri_L) (st : List Value) (σ : ri_S) (x y : Int32), ev 177 (45, L, .int y :: .int x :: st) σ = ev 177 (46, L, .int (x * y) :: st) σ) ∧
  (∀ (L : ri_L) (st : List Value) (σ : ri_S) (x y : Int32), ev 177 (46, L, .int y :: .int x :: st) σ = ev 177 (47, L, .int (x + y) :: st) σ) ∧
  (∀ (L : ri_L) (st : List Value) (σ : ri_S), ev 177 (47, L, st) σ = ev 177 (48, L, .int 3 :: st) σ) ∧
  (∀ (L : ri_L) (st : List Value) (σ : ri_S) (x y : Int32), ev 177 (48, L, .int y :: .int x :: st) σ = ev 177 (49, L, .int (x + y) :: st) σ) :=
  ⟨fun l1 l2 l3 l4 l5 st σ x => ev_p ((TP_177 _).trans rfl) rfl,
   fun L st σ => ev_p ((TP_177 _).trans rfl) rfl,
   fun L st σ a i => ev_iald ((TP_177 _).trans rfl),
   fun l0 l1 l2 l3 l4 l5 st σ x => ev_p ((TP_177 _).trans rfl) rfl,
   fun l1 l2 l3 l4 l5 st σ x => ev_p ((TP_177 _).trans rfl) rfl,
   fun L st σ => ev_p ((TP_177 _).trans rfl) rfl,
   fun L st σ => ev_p ((TP_177 _).trans rfl) rfl,
   fun l0 l1 l2 l3 l4 st σ x => ev_p ((TP_177 _).trans rfl) rfl,
   fun L st σ x y => ev_p ((TP_177 _).trans rfl) rfl,
   fun L st σ x y => ev_p ((TP_177 _).trans rfl) rfl,
   fun l0 l2 l3 l4 l5 st σ x => ev_p ((TP_177 _).trans rfl) rfl,
   fun L st σ a i x => ev_iast ((TP_177 _).trans rfl),
   fun l1 l2 l3 l4 l5 st σ x => ev_p ((TP_177 _).trans rfl) rfl,
   fun L st σ => ev_p ((TP_177 _).trans rfl) rfl,
   fun L st σ => ev_p ((TP_177 _).trans rfl) rfl,
   fun l0 l1 l2 l3 l4 st σ x => ev_p ((TP_177 _).trans rfl) rfl,
   fun L st σ x y => ev_p ((TP_177 _).trans rfl) rfl,
   fun L st σ x y => ev_p ((TP_177 _).trans rfl) rfl,
   fun L st σ => ev_p ((TP_177 _).trans rfl) rfl,
   fun L st σ x y => ev_p ((TP_177 _).trans rfl) rfl,
   fun l0 l1 l3 l4 l5 st σ x => ev_p ((TP_177 _).trans rfl) rfl,
   fun L st σ a i x => ev_iast ((TP_177 _).trans rfl),
   fun l1 l2 l3 l4 l5 st σ x => ev_p ((TP_177 _).trans rfl) rfl,
   fun L st σ => ev_p ((TP_177 _).trans rfl) rfl,
   fun L st σ => ev_p ((TP_177 _).trans rfl) rfl,
   fun l0 l1 l2 l3 l4 st σ x => ev_p ((TP_177 _).trans rfl) rfl,
   fun L st σ x y => ev_p ((TP_177 _).trans rfl) rfl,
   fun L st σ x y => ev_p ((TP_177 _).trans rfl) rfl,
   fun L st σ => ev_p ((TP_177 _).trans rfl) rfl,
   fun L st σ x y => ev_p ((TP_177 _).trans rfl) rfl,
   fun l0 l1 l2 l4 l5 st σ x => ev_p ((TP_177 _).trans rfl) rfl,
   fun L st σ a i x => ev_iast ((TP_177 _).trans rfl),
   fun l1 l2 l3 l4 l5 st σ x => ev_p ((TP_177 _).trans rfl) rfl,
   fun L st σ => ev_p ((TP_177 _).trans rfl) rfl,
   fun L st σ => ev_p ((TP_177 _).trans rfl) rfl,
   fun l0 l1 l2 l3 l4 st σ x => ev_p ((TP_177 _).trans rfl) rfl,
   fun L st σ x y => ev_p ((TP_177 _).trans rfl) rfl,
   fun L st σ x y => ev_p ((TP_177 _).trans rfl) rfl,
   fun L st σ => ev_p ((TP_177 _).trans rfl) rfl,
   fun L st σ x y => ev_p ((TP_177 _).trans rfl) rfl⟩
theorem I_177_1 :
  (∀ (l0 l1 l2 l3 l5 : Option Value) (st : List Value) (σ : ri_S) (x : Int32), ev 177 (49, [l0, l1, l2, l3, some (.int x), l5], st) σ = ev 177 (51, [l0, l1, l2, l3, some (.int x), l5], .int x :: st) σ) ∧
  (∀ (L : ri_L) (st : List Value) (σ : ri_S) (a : Nat) (i x : Int32), ev 177 (51, L, .int x :: .int i :: .ref a :: st) σ = tv_r 0 (σ.1 a) i fun n f j => ev 177 (52, L, st) (ri_upd σ.1 a (.inl (0, n, upd f j x)), σ.2)) ∧
  (∀ (l1 l2 l3 l4 l5 : Option Value) (st : List Value) (σ : ri_S) (x : Nat), ev 177 (52, [some (.ref x), l1, l2, l3, l4, l5], st) σ = ev 177 (53, [some (.ref x), l1, l2, l3, l4, l5], .ref x :: st) σ) ∧
  (∀ (L : ri_L) (st : List Value) (σ : ri_S), ev 177 (53, L, st) σ = ev 177 (54, L, .int 1 :: st) σ) ∧
  (∀ (L : ri_L) (st : List Value) (σ : ri_S) (x : Int32) (y : Nat), ev 177 (54, L, .int x :: .ref y :: st) σ = ev 177 (55, L, .int x :: .ref y :: .int x :: .ref y :: st) σ) ∧
  (∀ (L : ri_L) (st : List Value) (σ : ri_S) (a : Nat) (i : Int32), ev 177 (55, L, .int i :: .ref a :: st) σ = tv_r 0 (σ.1 a) i fun n f j => ev 177 (56, L, .int (f j) :: st) σ) ∧
  (∀ (L : ri_L) (st : List Value) (σ : ri_S), ev 177 (56, L, st) σ = ev 177 (57, L, .int 1 :: st) σ) ∧
  (∀ (L : ri_L) (st : List Value) (σ : ri_S) (x y : Int32), ev 177 (57, L, .int y :: .int x :: st) σ = ev 177 (58, L, .int (x + y) :: st) σ) ∧
  (∀ (L : ri_L) (st : List Value) (σ : ri_S) (a : Nat) (i x : Int32), ev 177 (58, L, .int x :: .int i :: .ref a :: st) σ = tv_r 0 (σ.1 a) i fun n f j => ev 177 (59, L, st) (ri_upd σ.1 a (.inl (0, n, upd f j x)), σ.2)) ∧
  (∀ (l0 l1 l2 l3 l4 : Option Value) (st : List Value) (σ : ri_S) (x : Int32), ev 177 (59, [l0, l1, l2, l3, l4, some (.int x)], st) σ = ev 177 (61, [l0, l1, l2, l3, l4, some (.int x)], .int x :: st) σ) ∧
  (∀ (L : ri_L) (σ : ri_S) (x : Int32), ev 177 (61, L, [.int x]) σ = some (some (.int x), σ)) :=
  ⟨fun l0 l1 l2 l3 l5 st σ x => ev_p ((TP_177 _).trans rfl) rfl,
   fun L st σ a i x => ev_iast ((TP_177 _).trans rfl),
   fun l1 l2 l3 l4 l5 st σ x => ev_p ((TP_177 _).trans rfl) rfl,
   fun L st σ => ev_p ((TP_177 _).trans rfl) rfl,
   fun L st σ x y => ev_p ((TP_177 _).trans rfl) rfl,
   fun L st σ a i => ev_iald ((TP_177 _).trans rfl),
   fun L st σ => ev_p ((TP_177 _).trans rfl) rfl,
   fun L st σ x y => ev_p ((TP_177 _).trans rfl) rfl,
   fun L st σ a i x => ev_iast ((TP_177 _).trans rfl),
   fun l0 l1 l2 l3 l4 st σ x => ev_p ((TP_177 _).trans rfl) rfl,
   fun L σ x => ev_r ((TP_177 _).trans rfl) rfl⟩
theorem TP_178 (pc : Nat) : TT 178 pc = ri_find TL_178 pc := rfl
theorem E_178 (x0 : Nat) (x1 : Int32) (x2 : Int32) (σ : ri_S) : cal 178 [.ref x0, .int x1, .int x2] σ = ev 178 (0, [some (.ref x0), some (.int x1), some (.int x2)], []) σ := rfl
theorem I_178 :
  (∀ (l1 l2 : Option Value) (st : List Value) (σ : ri_S) (x : Nat), ev 178 (0, [some (.ref x), l1, l2], st) σ = ev 178 (1, [some (.ref x), l1, l2], .ref x :: st) σ) ∧
  (∀ (l0 l2 : Option Value) (st : List Value) (σ : ri_S) (x : Int32), ev 178 (1, [l0, some (.int x), l2], st) σ = ev 178 (2, [l0, some (.int x), l2], .int x :: st) σ) ∧
  (∀ (l0 l1 : Option Value) (st : List Value) (σ : ri_S) (x : Int32), ev 178 (2, [l0, l1, some (.int x)], st) σ = ev 178 (3, [l0, l1, some (.int x)], .int x :: st) σ) ∧
  (∀ (L : ri_L) (σ : ri_S) (a0 : Nat) (a1 : Int32) (a2 : Int32), ev 178 (3, L, [.int a2, .int a1, .ref a0]) σ = (cal 153 [.ref a0, .int a1, .int a2] σ).bind fun q => ev 178 (6, L, q.1.toList ++ []) q.2) ∧
  (∀ (L : ri_L) (st : List Value) (σ : ri_S) (x : Int32), ev 178 (6, L, .int x :: st) σ = if x = 0 then ev 178 (35, L, st) σ else ev 178 (9, L, st) σ) ∧
  (∀ (l1 l2 : Option Value) (st : List Value) (σ : ri_S) (x : Nat), ev 178 (9, [some (.ref x), l1, l2], st) σ = ev 178 (10, [some (.ref x), l1, l2], .ref x :: st) σ) ∧
  (∀ (l0 l2 : Option Value) (st : List Value) (σ : ri_S) (x : Int32), ev 178 (10, [l0, some (.int x), l2], st) σ = ev 178 (11, [l0, some (.int x), l2], .int x :: st) σ) ∧
  (∀ (l1 l2 : Option Value) (st : List Value) (σ : ri_S) (x : Nat), ev 178 (11, [some (.ref x), l1, l2], st) σ = ev 178 (12, [some (.ref x), l1, l2], .ref x :: st) σ) ∧
  (∀ (l0 l2 : Option Value) (st : List Value) (σ : ri_S) (x : Int32), ev 178 (12, [l0, some (.int x), l2], st) σ = ev 178 (13, [l0, some (.int x), l2], .int x :: st) σ) ∧
  (∀ (l0 l1 : Option Value) (st : List Value) (σ : ri_S) (x : Int32), ev 178 (13, [l0, l1, some (.int x)], st) σ = ev 178 (14, [l0, l1, some (.int x)], .int x :: st) σ) ∧
  (∀ (L : ri_L) (σ : ri_S) (a0 : Nat) (a1 : Int32) (a2 : Int32) (s0 s1 : Value), ev 178 (14, L, [.int a2, .int a1, .ref a0, s0, s1]) σ = (cal 157 [.ref a0, .int a1, .int a2] σ).bind fun q => ev 178 (17, L, q.1.toList ++ [s0, s1]) q.2) ∧
  (∀ (L : ri_L) (σ : ri_S) (a0 : Nat) (a1 : Int32) (a2 : Int32), ev 178 (17, L, [.int a2, .int a1, .ref a0]) σ = (cal 159 [.ref a0, .int a1, .int a2] σ).bind fun q => ev 178 (20, L, q.1.toList ++ []) q.2) ∧
  (∀ (L : ri_L) (st : List Value) (σ : ri_S), ev 178 (20, L, st) σ = ev 178 (21, L, .int (-1) :: st) σ) ∧
  (∀ (L : ri_L) (st : List Value) (σ : ri_S) (x y : Int32), ev 178 (21, L, .int y :: .int x :: st) σ = if ¬ x = y then ev 178 (35, L, st) σ else ev 178 (24, L, st) σ) ∧
  (∀ (l1 l2 : Option Value) (st : List Value) (σ : ri_S) (x : Nat), ev 178 (24, [some (.ref x), l1, l2], st) σ = ev 178 (25, [some (.ref x), l1, l2], .ref x :: st) σ) ∧
  (∀ (L : ri_L) (st : List Value) (σ : ri_S), ev 178 (25, L, st) σ = ev 178 (26, L, .int 2 :: st) σ) ∧
  (∀ (L : ri_L) (st : List Value) (σ : ri_S) (a : Nat) (i : Int32), ev 178 (26, L, .int i :: .ref a :: st) σ = tv_r 0 (σ.1 a) i fun n f j => ev 178 (27, L, .int (f j) :: st) σ) ∧
  (∀ (L : ri_L) (st : List Value) (σ : ri_S), ev 178 (27, L, st) σ = ev 178 (28, L, .int 5 :: st) σ) ∧
  (∀ (L : ri_L) (st : List Value) (σ : ri_S) (x y : Int32), ev 178 (28, L, .int y :: .int x :: st) σ = if y ≤ x then ev 178 (35, L, st) σ else ev 178 (31, L, st) σ) ∧
  (∀ (L : ri_L) (st : List Value) (σ : ri_S), ev 178 (31, L, st) σ = ev 178 (32, L, .int 1 :: st) σ) ∧
  (∀ (L : ri_L) (st : List Value) (σ : ri_S), ev 178 (32, L, st) σ = ev 178 (36, L, st) σ) ∧
  (∀ (L : ri_L) (st : List Value) (σ : ri_S), ev 178 (35, L, st) σ = ev 178 (36, L, .int 0 :: st) σ) ∧
  (∀ (L : ri_L) (σ : ri_S) (x : Int32), ev 178 (36, L, [.int x]) σ = tv_b x (some (some (.int x), σ))) :=
  ⟨fun l1 l2 st σ x => ev_p ((TP_178 _).trans rfl) rfl,
   fun l0 l2 st σ x => ev_p ((TP_178 _).trans rfl) rfl,
   fun l0 l1 st σ x => ev_p ((TP_178 _).trans rfl) rfl,
   fun L σ a0 a1 a2 => ev_call ((TP_178 _).trans rfl) rfl rfl rfl rfl,
   fun L st σ x => ev_b ((TP_178 _).trans rfl) rfl,
   fun l1 l2 st σ x => ev_p ((TP_178 _).trans rfl) rfl,
   fun l0 l2 st σ x => ev_p ((TP_178 _).trans rfl) rfl,
   fun l1 l2 st σ x => ev_p ((TP_178 _).trans rfl) rfl,
   fun l0 l2 st σ x => ev_p ((TP_178 _).trans rfl) rfl,
   fun l0 l1 st σ x => ev_p ((TP_178 _).trans rfl) rfl,
   fun L σ a0 a1 a2 s0 s1 => ev_call ((TP_178 _).trans rfl) rfl rfl rfl rfl,
   fun L σ a0 a1 a2 => ev_call ((TP_178 _).trans rfl) rfl rfl rfl rfl,
   fun L st σ => ev_p ((TP_178 _).trans rfl) rfl,
   fun L st σ x y => ev_b ((TP_178 _).trans rfl) rfl,
   fun l1 l2 st σ x => ev_p ((TP_178 _).trans rfl) rfl,
   fun L st σ => ev_p ((TP_178 _).trans rfl) rfl,
   fun L st σ a i => ev_iald ((TP_178 _).trans rfl),
   fun L st σ => ev_p ((TP_178 _).trans rfl) rfl,
   fun L st σ x y => ev_b ((TP_178 _).trans rfl) rfl,
   fun L st σ => ev_p ((TP_178 _).trans rfl) rfl,
   fun L st σ => ev_p ((TP_178 _).trans rfl) rfl,
   fun L st σ => ev_p ((TP_178 _).trans rfl) rfl,
   fun L σ x => ev_r ((TP_178 _).trans rfl) rfl⟩
theorem TP_179 (pc : Nat) : TT 179 pc = ri_find TL_179 pc := rfl
theorem E_179 (x0 : Nat) (x1 : Int32) (x2 : Int32) (x3 : Int32) (σ : ri_S) : cal 179 [.ref x0, .int x1, .int x2, .int x3] σ = ev 179 (0, [some (.ref x0), some (.int x1), some (.int x2), some (.int x3), none, none], []) σ := rfl
theorem I_179_0 :
  (∀ (l1 l2 l3 l4 l5 : Option Value) (st : List Value) (σ : ri_S) (x : Nat), ev 179 (0, [some (.ref x), l1, l2, l3, l4, l5], st) σ = ev 179 (1, [some (.ref x), l1, l2, l3, l4, l5], .ref x :: st) σ) ∧
  (∀ (L : ri_L) (st : List Value) (σ : ri_S), ev 179 (1, L, st) σ = ev 179 (2, L, .int 2 :: st) σ) ∧
  (∀ (L : ri_L) (st : List Value) (σ : ri_S) (a : Nat) (i : Int32), ev 179 (2, L, .int i :: .ref a :: st) σ = tv_r 0 (σ.1 a) i fun n f j => ev 179 (3, L, .int (f j) :: st) σ) ∧
  (∀ (l0 l1 l2 l3 l4 l5 : Option Value) (st : List Value) (σ : ri_S) (x : Int32), ev 179 (3, [l0, l1, l2, l3, l4, l5], .int x :: st) σ = ev 179 (5, [l0, l1, l2, ri_clr l3, some (.int x), l5], st) σ) ∧
  (∀ (L : ri_L) (st : List Value) (σ : ri_S), ev 179 (5, L, st) σ = ev 179 (7, L, .int 71 :: st) σ) ∧
  (∀ (L : ri_L) (st : List Value) (σ : ri_S), ev 179 (7, L, st) σ = ev 179 (8, L, .int 5 :: st) σ) ∧
  (∀ (l0 l1 l2 l3 l5 : Option Value) (st : List Value) (σ : ri_S) (x : Int32), ev 179 (8, [l0, l1, l2, l3, some (.int x), l5], st) σ = ev 179 (10, [l0, l1, l2, l3, some (.int x), l5], .int x :: st) σ) ∧
  (∀ (L : ri_L) (st : List Value) (σ : ri_S) (x y : Int32), ev 179 (10, L, .int y :: .int x :: st) σ = ev 179 (11, L, .int (x * y) :: st) σ) ∧
  (∀ (L : ri_L) (st : List Value) (σ : ri_S) (x y : Int32), ev 179 (11, L, .int y :: .int x :: st) σ = ev 179 (12, L, .int (x + y) :: st) σ) ∧
  (∀ (l0 l1 l2 l3 l4 l5 : Option Value) (st : List Value) (σ : ri_S) (x : Int32), ev 179 (12, [l0, l1, l2, l3, l4, l5], .int x :: st) σ = ev 179 (14, [l0, l1, l2, l3, ri_clr l4, some (.int x)], st) σ) ∧
  (∀ (l1 l2 l3 l4 l5 : Option Value) (st : List Value) (σ : ri_S) (x : Nat), ev 179 (14, [some (.ref x), l1, l2, l3, l4, l5], st) σ = ev 179 (15, [some (.ref x), l1, l2, l3, l4, l5], .ref x :: st) σ) ∧
  (∀ (l0 l1 l2 l3 l4 : Option Value) (st : List Value) (σ : ri_S) (x : Int32), ev 179 (15, [l0, l1, l2, l3, l4, some (.int x)], st) σ = ev 179 (17, [l0, l1, l2, l3, l4, some (.int x)], .int x :: st) σ) ∧
  (∀ (L : ri_L) (st : List Value) (σ : ri_S), ev 179 (17, L, st) σ = ev 179 (18, L, .int 0 :: st) σ) ∧
  (∀ (L : ri_L) (st : List Value) (σ : ri_S) (x y : Int32), ev 179 (18, L, .int y :: .int x :: st) σ = ev 179 (19, L, .int (x + y) :: st) σ) ∧
  (∀ (l0 l1 l2 l4 l5 : Option Value) (st : List Value) (σ : ri_S) (x : Int32), ev 179 (19, [l0, l1, l2, some (.int x), l4, l5], st) σ = ev 179 (20, [l0, l1, l2, some (.int x), l4, l5], .int x :: st) σ) ∧
  (∀ (L : ri_L) (st : List Value) (σ : ri_S) (a : Nat) (i x : Int32), ev 179 (20, L, .int x :: .int i :: .ref a :: st) σ = tv_r 0 (σ.1 a) i fun n f j => ev 179 (21, L, st) (ri_upd σ.1 a (.inl (0, n, upd f j x)), σ.2)) ∧
  (∀ (l1 l2 l3 l4 l5 : Option Value) (st : List Value) (σ : ri_S) (x : Nat), ev 179 (21, [some (.ref x), l1, l2, l3, l4, l5], st) σ = ev 179 (22, [some (.ref x), l1, l2, l3, l4, l5], .ref x :: st) σ) ∧
  (∀ (l0 l1 l2 l3 l4 : Option Value) (st : List Value) (σ : ri_S) (x : Int32), ev 179 (22, [l0, l1, l2, l3, l4, some (.int x)], st) σ = ev 179 (24, [l0, l1, l2, l3, l4, some (.int x)], .int x :: st) σ) ∧
  (∀ (L : ri_L) (st : List Value) (σ : ri_S), ev 179 (24, L, st) σ = ev 179 (25, L, .int 1 :: st) σ) ∧
  (∀ (L : ri_L) (st : List Value) (σ : ri_S) (x y : Int32), ev 179 (25, L, .int y :: .int x :: st) σ = ev 179 (26, L, .int (x + y) :: st) σ) ∧
  (∀ (l0 l2 l3 l4 l5 : Option Value) (st : List Value) (σ : ri_S) (x : Int32), ev 179 (26, [l0, some (.int x), l2, l3, l4, l5], st) σ = ev 179 (27, [l0, some (.int x), l2, l3, l4, l5], .int x :: st) σ) ∧
  (∀ (L : ri_L) (st : List Value) (σ : ri_S) (a : Nat) (i x : Int32), ev 179 (27, L, .int x :: .int i :: .ref a :: st) σ = tv_r 0 (σ.1 a) i fun n f j => ev 179 (28, L, st) (ri_upd σ.1 a (.inl (0, n, upd f j x)), σ.2)) ∧
  (∀ (l1 l2 l3 l4 l5 : Option Value) (st : List Value) (σ : ri_S) (x : Nat), ev 179 (28, [some (.ref x), l1, l2, l3, l4, l5], st) σ = ev 179 (29, [some (.ref x), l1, l2, l3, l4, l5], .ref x :: st) σ) ∧
  (∀ (l0 l1 l2 l3 l4 : Option Value) (st : List Value) (σ : ri_S) (x : Int32), ev 179 (29, [l0, l1, l2, l3, l4, some (.int x)], st) σ = ev 179 (31, [l0, l1, l2, l3, l4, some (.int x)], .int x :: st) σ) ∧
  (∀ (L : ri_L) (st : List Value) (σ : ri_S), ev 179 (31, L, st) σ = ev 179 (32, L, .int 2 :: st) σ) ∧
  (∀ (L : ri_L) (st : List Value) (σ : ri_S) (x y : Int32), ev 179 (32, L, .int y :: .int x :: st) σ = ev 179 (33, L, .int (x + y) :: st) σ) ∧
  (∀ (l1 l2 l3 l4 l5 : Option Value) (st : List Value) (σ : ri_S) (x : Nat), ev 179 (33, [some (.ref x), l1, l2, l3, l4, l5], st) σ = ev 179 (34, [some (.ref x), l1, l2, l3, l4, l5], .ref x :: st) σ) ∧
  (∀ (l0 l2 l3 l4 l5 : Option Value) (st : List Value) (σ : ri_S) (x : Int32), ev 179 (34, [l0, some (.int x), l2, l3, l4, l5], st) σ = ev 179 (35, [l0, some (.int x), l2, l3, l4, l5], .int x :: st) σ) ∧
  (∀ (l0 l1 l3 l4 l5 : Option Value) (st : List Value) (σ : ri_S) (x : Int32), ev 179 (35, [l0, l1, some (.int x), l3, l4, l5], st) σ = ev 179 (36, [l0, l1, some (.int x), l3, l4, l5], .int x :: st) σ) ∧
  (∀ (L : ri_L) (σ : ri_S) (a0 : Nat) (a1 : Int32) (a2 : Int32) (s0 s1 : Value), ev 179 (36, L, [.int a2, .int a1, .ref a0, s0, s1]) σ = (cal 157 [.ref a0, .int a1, .int a2] σ).bind fun q => ev 179 (39, L, q.1.toList ++ [s0, s1]) q.2) ∧
  (∀ (L : ri_L) (st : List Value) (σ : ri_S) (a : Nat) (i x : Int32), ev 179 (39, L, .int x :: .int i :: .ref a :: st) σ = tv_r 0 (σ.1 a) i fun n f j => ev 179 (40, L, st) (ri_upd σ.1 a (.inl (0, n, upd f j x)), σ.2)) ∧
  (∀ (l1 l2 l3 l4 l5 : Option Value) (st : List Value) (σ : ri_S) (x : Nat), ev 179 (40, [some (.ref x), l1, l2, l3, l4, l5], st) σ = ev 179 (41, [some (.ref x), l1, l2, l3, l4, l5], .ref x :: st) σ) ∧
  (∀ (l0 l1 l2 l3 l4 : Option Value) (st : List Value) (σ : ri_S) (x : Int32), ev 179 (41, [l0, l1, l2, l3, l4, some (.int x)], st) σ = ev 179 (43, [l0, l1, l2, l3, l4, some (.int x)], .int x :: st) σ) ∧
  (∀ (L : ri_L) (st : List Value) (σ : ri_S), ev 179 (43, L, st) σ = ev 179 (44, L, .int 3 :: st) σ) ∧
  (∀ (L : ri_L) (st : List Value) (σ : ri_S) (x y : Int32), ev 179 (44, L, .int y :: .int x :: st) σ = ev 179 (45, L, .int (x + y) :: st) σ) ∧
  (∀ (L : ri_L) (st : List Value) (σ : ri_S), ev 179 (45, L, st) σ = ev 179 (46, L, .int 0 :: st) σ) ∧
  (∀ (L : ri_L) (st : List Value) (σ : ri_S) (a : Nat) (i x : Int32), ev 179 (46, L, .int x :: .int i :: .ref a :: st) σ = tv_r 0 (σ.1 a) i fun n f j => ev 179 (47, L, st) (ri_upd σ.1 a (.inl (0, n, upd f j x)), σ.2)) ∧
  (∀ (l1 l2 l3 l4 l5 : Option Value) (st : List Value) (σ : ri_S) (x : Nat), ev 179 (47, [some (.ref x), l1, l2, l3, l4, l5], st) σ = ev 179 (48, [some (.ref x), l1, l2, l3, l4, l5], .ref x :: st) σ) ∧
  (∀ (l0 l1 l2 l3 l4 : Option Value) (st : List Value) (σ : ri_S) (x : Int32), ev 179 (48, [l0, l1, l2, l3, l4, some (.int x)], st) σ = ev 179 (50, [l0, l1, l2, l3, l4, some (.int x)], .int x :: st) σ) ∧
  (∀ (L : ri_L) (st : List Value) (σ : ri_S), ev 179 (50, L, st) σ = ev 179 (51, L, .int 4 :: st) σ) :=
  ⟨fun l1 l2 l3 l4 l5 st σ x => ev_p ((TP_179 _).trans rfl) rfl,
   fun L st σ => ev_p ((TP_179 _).trans rfl) rfl,
   fun L st σ a i => ev_iald ((TP_179 _).trans rfl),
   fun l0 l1 l2 l3 l4 l5 st σ x => ev_p ((TP_179 _).trans rfl) rfl,
   fun L st σ => ev_p ((TP_179 _).trans rfl) rfl,
   fun L st σ => ev_p ((TP_179 _).trans rfl) rfl,
   fun l0 l1 l2 l3 l5 st σ x => ev_p ((TP_179 _).trans rfl) rfl,
   fun L st σ x y => ev_p ((TP_179 _).trans rfl) rfl,
   fun L st σ x y => ev_p ((TP_179 _).trans rfl) rfl,
   fun l0 l1 l2 l3 l4 l5 st σ x => ev_p ((TP_179 _).trans rfl) rfl,
   fun l1 l2 l3 l4 l5 st σ x => ev_p ((TP_179 _).trans rfl) rfl,
   fun l0 l1 l2 l3 l4 st σ x => ev_p ((TP_179 _).trans rfl) rfl,
   fun L st σ => ev_p ((TP_179 _).trans rfl) rfl,
   fun L st σ x y => ev_p ((TP_179 _).trans rfl) rfl,
   fun l0 l1 l2 l4 l5 st σ x => ev_p ((TP_179 _).trans rfl) rfl,
   fun L st σ a i x => ev_iast ((TP_179 _).trans rfl),
   fun l1 l2 l3 l4 l5 st σ x => ev_p ((TP_179 _).trans rfl) rfl,
   fun l0 l1 l2 l3 l4 st σ x => ev_p ((TP_179 _).trans rfl) rfl,
   fun L st σ => ev_p ((TP_179 _).trans rfl) rfl,
   fun L st σ x y => ev_p ((TP_179 _).trans rfl) rfl,
   fun l0 l2 l3 l4 l5 st σ x => ev_p ((TP_179 _).trans rfl) rfl,
   fun L st σ a i x => ev_iast ((TP_179 _).trans rfl),
   fun l1 l2 l3 l4 l5 st σ x => ev_p ((TP_179 _).trans rfl) rfl,
   fun l0 l1 l2 l3 l4 st σ x => ev_p ((TP_179 _).trans rfl) rfl,
   fun L st σ => ev_p ((TP_179 _).trans rfl) rfl,
   fun L st σ x y => ev_p ((TP_179 _).trans rfl) rfl,
   fun l1 l2 l3 l4 l5 st σ x => ev_p ((TP_179 _).trans rfl) rfl,
   fun l0 l2 l3 l4 l5 st σ x => ev_p ((TP_179 _).trans rfl) rfl,
   fun l0 l1 l3 l4 l5 st σ x => ev_p ((TP_179 _).trans rfl) rfl,
   fun L σ a0 a1 a2 s0 s1 => ev_call ((TP_179 _).trans rfl) rfl rfl rfl rfl,
   fun L st σ a i x => ev_iast ((TP_179 _).trans rfl),
   fun l1 l2 l3 l4 l5 st σ x => ev_p ((TP_179 _).trans rfl) rfl,
   fun l0 l1 l2 l3 l4 st σ x => ev_p ((TP_179 _).trans rfl) rfl,
   fun L st σ => ev_p ((TP_179 _).trans rfl) rfl,
   fun L st σ x y => ev_p ((TP_179 _).trans rfl) rfl,
   fun L st σ => ev_p ((TP_179 _).trans rfl) rfl,
   fun L st σ a i x => ev_iast ((TP_179 _).trans rfl),
   fun l1 l2 l3 l4 l5 st σ x => ev_p ((TP_179 _).trans rfl) rfl,
   fun l0 l1 l2 l3 l4 st σ x => ev_p ((TP_179 _).trans rfl) rfl,
   fun L st σ => ev_p ((TP_179 _).trans rfl) rfl⟩
theorem I_179_1 :
  (∀ (L : ri_L) (st : List Value) (σ : ri_S) (x y : Int32), ev 179 (51, L, .int y :: .int x :: st) σ = ev 179 (52, L, .int (x + y) :: st) σ) ∧
  (∀ (L : ri_L) (st : List Value) (σ : ri_S), ev 179 (52, L, st) σ = ev 179 (53, L, .int 0 :: st) σ) ∧
  (∀ (L : ri_L) (st : List Value) (σ : ri_S) (a : Nat) (i x : Int32), ev 179 (53, L, .int x :: .int i :: .ref a :: st) σ = tv_r 0 (σ.1 a) i fun n f j => ev 179 (54, L, st) (ri_upd σ.1 a (.inl (0, n, upd f j x)), σ.2)) ∧
  (∀ (l1 l2 l3 l4 l5 : Option Value) (st : List Value) (σ : ri_S) (x : Nat), ev 179 (54, [some (.ref x), l1, l2, l3, l4, l5], st) σ = ev 179 (55, [some (.ref x), l1, l2, l3, l4, l5], .ref x :: st) σ) ∧
  (∀ (L : ri_L) (st : List Value) (σ : ri_S), ev 179 (55, L, st) σ = ev 179 (56, L, .int 2 :: st) σ) ∧
  (∀ (L : ri_L) (st : List Value) (σ : ri_S) (x : Int32) (y : Nat), ev 179 (56, L, .int x :: .ref y :: st) σ = ev 179 (57, L, .int x :: .ref y :: .int x :: .ref y :: st) σ) ∧
  (∀ (L : ri_L) (st : List Value) (σ : ri_S) (a : Nat) (i : Int32), ev 179 (57, L, .int i :: .ref a :: st) σ = tv_r 0 (σ.1 a) i fun n f j => ev 179 (58, L, .int (f j) :: st) σ) ∧
  (∀ (L : ri_L) (st : List Value) (σ : ri_S), ev 179 (58, L, st) σ = ev 179 (59, L, .int 1 :: st) σ) ∧
  (∀ (L : ri_L) (st : List Value) (σ : ri_S) (x y : Int32), ev 179 (59, L, .int y :: .int x :: st) σ = ev 179 (60, L, .int (x + y) :: st) σ) ∧
  (∀ (L : ri_L) (st : List Value) (σ : ri_S) (a : Nat) (i x : Int32), ev 179 (60, L, .int x :: .int i :: .ref a :: st) σ = tv_r 0 (σ.1 a) i fun n f j => ev 179 (61, L, st) (ri_upd σ.1 a (.inl (0, n, upd f j x)), σ.2)) ∧
  (∀ (l0 l1 l2 l3 l5 : Option Value) (st : List Value) (σ : ri_S) (x : Int32), ev 179 (61, [l0, l1, l2, l3, some (.int x), l5], st) σ = ev 179 (63, [l0, l1, l2, l3, some (.int x), l5], .int x :: st) σ) ∧
  (∀ (L : ri_L) (σ : ri_S) (x : Int32), ev 179 (63, L, [.int x]) σ = some (some (.int x), σ)) :=
  ⟨fun L st σ x y => ev_p ((TP_179 _).trans rfl) rfl,
   fun L st σ => ev_p ((TP_179 _).trans rfl) rfl,
   fun L st σ a i x => ev_iast ((TP_179 _).trans rfl),
   fun l1 l2 l3 l4 l5 st σ x => ev_p ((TP_179 _).trans rfl) rfl,
   fun L st σ => ev_p ((TP_179 _).trans rfl) rfl,
   fun L st σ x y => ev_p ((TP_179 _).trans rfl) rfl,
   fun L st σ a i => ev_iald ((TP_179 _).trans rfl),
   fun L st σ => ev_p ((TP_179 _).trans rfl) rfl,
   fun L st σ x y => ev_p ((TP_179 _).trans rfl) rfl,
   fun L st σ a i x => ev_iast ((TP_179 _).trans rfl),
   fun l0 l1 l2 l3 l5 st σ x => ev_p ((TP_179 _).trans rfl) rfl,
   fun L σ x => ev_r ((TP_179 _).trans rfl) rfl⟩
theorem TP_180 (pc : Nat) : TT 180 pc = ri_find TL_180 pc := rfl
theorem E_180 (x0 : Nat) (x1 : Int32) (x2 : Int32) (x3 : Int32) (σ : ri_S) : cal 180 [.ref x0, .int x1, .int x2, .int x3] σ = ev 180 (0, [some (.ref x0), some (.int x1), some (.int x2), some (.int x3), none, none], []) σ := rfl
theorem I_180_0 :
  (∀ (L : ri_L) (st : List Value) (σ : ri_S), ev 180 (0, L, st) σ = ev 180 (2, L, .int 9 :: st) σ) ∧
  (∀ (L : ri_L) (st : List Value) (σ : ri_S), ev 180 (2, L, st) σ = ev 180 (4, L, .int 10 :: st) σ) ∧
  (∀ (l0 l2 l3 l4 l5 : Option Value) (st : List Value) (σ : ri_S) (x : Int32), ev 180 (4, [l0, some (.int x), l2, l3, l4, l5], st) σ = ev 180 (5, [l0, some (.int x), l2, l3, l4, l5], .int x :: st) σ) ∧
  (∀ (L : ri_L) (st : List Value) (σ : ri_S) (x y : Int32), ev 180 (5, L, .int y :: .int x :: st) σ = ev 180 (6, L, .int (x * y) :: st) σ) ∧
  (∀ (L : ri_L) (st : List Value) (σ : ri_S) (x y : Int32), ev 180 (6, L, .int y :: .int x :: st) σ = ev 180 (7, L, .int (x + y) :: st) σ) ∧
  (∀ (L : ri_L) (st : List Value) (σ : ri_S), ev 180 (7, L, st) σ = ev 180 (8, L, .int 5 :: st) σ) ∧
  (∀ (L : ri_L) (st : List Value) (σ : ri_S) (x y : Int32), ev 180 (8, L, .int y :: .int x :: st) σ = ev 180 (9, L, .int (x + y) :: st) σ) ∧
  (∀ (l1 l2 l3 l4 l5 : Option Value) (st : List Value) (σ : ri_S) (x : Nat), ev 180 (9, [some (.ref x), l1, l2, l3, l4, l5], st) σ = ev 180 (10, [some (.ref x), l1, l2, l3, l4, l5], .ref x :: st) σ) ∧
  (∀ (l0 l2 l3 l4 l5 : Option Value) (st : List Value) (σ : ri_S) (x : Int32), ev 180 (10, [l0, some (.int x), l2, l3, l4, l5], st) σ = ev 180 (11, [l0, some (.int x), l2, l3, l4, l5], .int x :: st) σ) ∧
  (∀ (l0 l1 l3 l4 l5 : Option Value) (st : List Value) (σ : ri_S) (x : Int32), ev 180 (11, [l0, l1, some (.int x), l3, l4, l5], st) σ = ev 180 (12, [l0, l1, some (.int x), l3, l4, l5], .int x :: st) σ) ∧
  (∀ (L : ri_L) (σ : ri_S) (a0 : Nat) (a1 : Int32) (a2 : Int32) (s0 : Value), ev 180 (12, L, [.int a2, .int a1, .ref a0, s0]) σ = (cal 157 [.ref a0, .int a1, .int a2] σ).bind fun q => ev 180 (15, L, q.1.toList ++ [s0]) q.2) ∧
  (∀ (L : ri_L) (st : List Value) (σ : ri_S) (x y : Int32), ev 180 (15, L, .int y :: .int x :: st) σ = ev 180 (16, L, .int (x + y) :: st) σ) ∧
  (∀ (l0 l1 l2 l3 l4 l5 : Option Value) (st : List Value) (σ : ri_S) (x : Int32), ev 180 (16, [l0, l1, l2, l3, l4, l5], .int x :: st) σ = ev 180 (18, [l0, l1, l2, ri_clr l3, some (.int x), l5], st) σ) ∧
  (∀ (l1 l2 l3 l4 l5 : Option Value) (st : List Value) (σ : ri_S) (x : Nat), ev 180 (18, [some (.ref x), l1, l2, l3, l4, l5], st) σ = ev 180 (19, [some (.ref x), l1, l2, l3, l4, l5], .ref x :: st) σ) ∧
  (∀ (L : ri_L) (st : List Value) (σ : ri_S), ev 180 (19, L, st) σ = ev 180 (21, L, .int 6 :: st) σ) ∧
  (∀ (L : ri_L) (st : List Value) (σ : ri_S) (x : Int32) (y : Nat), ev 180 (21, L, .int x :: .ref y :: st) σ = ev 180 (22, L, .int x :: .ref y :: .int x :: .ref y :: st) σ) ∧
  (∀ (L : ri_L) (st : List Value) (σ : ri_S) (a : Nat) (i : Int32), ev 180 (22, L, .int i :: .ref a :: st) σ = tv_r 0 (σ.1 a) i fun n f j => ev 180 (23, L, .int (f j) :: st) σ) ∧
  (∀ (l0 l1 l2 l4 l5 : Option Value) (st : List Value) (σ : ri_S) (x : Int32), ev 180 (23, [l0, l1, l2, some (.int x), l4, l5], st) σ = ev 180 (24, [l0, l1, l2, some (.int x), l4, l5], .int x :: st) σ) ∧
  (∀ (L : ri_L) (st : List Value) (σ : ri_S) (x y : Int32), ev 180 (24, L, .int y :: .int x :: st) σ = ev 180 (25, L, .int (x + y) :: st) σ) ∧
  (∀ (L : ri_L) (st : List Value) (σ : ri_S) (a : Nat) (i x : Int32), ev 180 (25, L, .int x :: .int i :: .ref a :: st) σ = tv_r 0 (σ.1 a) i fun n f j => ev 180 (26, L, st) (ri_upd σ.1 a (.inl (0, n, upd f j x)), σ.2)) ∧
  (∀ (l1 l2 l3 l4 l5 : Option Value) (st : List Value) (σ : ri_S) (x : Nat), ev 180 (26, [some (.ref x), l1, l2, l3, l4, l5], st) σ = ev 180 (27, [some (.ref x), l1, l2, l3, l4, l5], .ref x :: st) σ) ∧
  (∀ (l0 l1 l2 l3 l5 : Option Value) (st : List Value) (σ : ri_S) (x : Int32), ev 180 (27, [l0, l1, l2, l3, some (.int x), l5], st) σ = ev 180 (29, [l0, l1, l2, l3, some (.int x), l5], .int x :: st) σ) ∧
  (∀ (L : ri_L) (st : List Value) (σ : ri_S) (x : Int32) (y : Nat), ev 180 (29, L, .int x :: .ref y :: st) σ = ev 180 (30, L, .int x :: .ref y :: .int x :: .ref y :: st) σ) ∧
  (∀ (L : ri_L) (st : List Value) (σ : ri_S) (a : Nat) (i : Int32), ev 180 (30, L, .int i :: .ref a :: st) σ = tv_r 0 (σ.1 a) i fun n f j => ev 180 (31, L, .int (f j) :: st) σ) ∧
  (∀ (l0 l1 l2 l4 l5 : Option Value) (st : List Value) (σ : ri_S) (x : Int32), ev 180 (31, [l0, l1, l2, some (.int x), l4, l5], st) σ = ev 180 (32, [l0, l1, l2, some (.int x), l4, l5], .int x :: st) σ) ∧
  (∀ (L : ri_L) (st : List Value) (σ : ri_S) (x y : Int32), ev 180 (32, L, .int y :: .int x :: st) σ = ev 180 (33, L, .int (x + y) :: st) σ) ∧
  (∀ (L : ri_L) (st : List Value) (σ : ri_S) (a : Nat) (i x : Int32), ev 180 (33, L, .int x :: .int i :: .ref a :: st) σ = tv_r 0 (σ.1 a) i fun n f j => ev 180 (34, L, st) (ri_upd σ.1 a (.inl (0, n, upd f j x)), σ.2)) ∧
  (∀ (l1 l2 l3 l4 l5 : Option Value) (st : List Value) (σ : ri_S) (x : Nat), ev 180 (34, [some (.ref x), l1, l2, l3, l4, l5], st) σ = ev 180 (35, [some (.ref x), l1, l2, l3, l4, l5], .ref x :: st) σ) ∧
  (∀ (l0 l1 l2 l3 l5 : Option Value) (st : List Value) (σ : ri_S) (x : Int32), ev 180 (35, [l0, l1, l2, l3, some (.int x), l5], st) σ = ev 180 (37, [l0, l1, l2, l3, some (.int x), l5], .int x :: st) σ) ∧
  (∀ (L : ri_L) (st : List Value) (σ : ri_S) (a : Nat) (i : Int32), ev 180 (37, L, .int i :: .ref a :: st) σ = tv_r 0 (σ.1 a) i fun n f j => ev 180 (38, L, .int (f j) :: st) σ) ∧
  (∀ (L : ri_L) (st : List Value) (σ : ri_S), ev 180 (38, L, st) σ = ev 180 (40, L, .int 9 :: st) σ) ∧
  (∀ (L : ri_L) (st : List Value) (σ : ri_S) (x y : Int32), ev 180 (40, L, .int y :: .int x :: st) σ = if x ≤ y then ev 180 (53, L, st) σ else ev 180 (43, L, st) σ) ∧
  (∀ (l1 l2 l3 l4 l5 : Option Value) (st : List Value) (σ : ri_S) (x : Nat), ev 180 (43, [some (.ref x), l1, l2, l3, l4, l5], st) σ = ev 180 (44, [some (.ref x), l1, l2, l3, l4, l5], .ref x :: st) σ) ∧
  (∀ (l0 l1 l2 l3 l5 : Option Value) (st : List Value) (σ : ri_S) (x : Int32), ev 180 (44, [l0, l1, l2, l3, some (.int x), l5], st) σ = ev 180 (46, [l0, l1, l2, l3, some (.int x), l5], .int x :: st) σ) ∧
  (∀ (L : ri_L) (st : List Value) (σ : ri_S) (a : Nat) (i : Int32), ev 180 (46, L, .int i :: .ref a :: st) σ = tv_r 0 (σ.1 a) i fun n f j => ev 180 (47, L, .int (f j) :: st) σ) ∧
  (∀ (L : ri_L) (st : List Value) (σ : ri_S), ev 180 (47, L, st) σ = ev 180 (49, L, .int 9 :: st) σ) ∧
  (∀ (L : ri_L) (st : List Value) (σ : ri_S) (x y : Int32), ev 180 (49, L, .int y :: .int x :: st) σ = ev 180 (50, L, .int (x - y) :: st) σ) ∧
  (∀ (L : ri_L) (st : List Value) (σ : ri_S), ev 180 (50, L, st) σ = ev 180 (54, L, st) σ) ∧
  (∀ (L : ri_L) (st : List Value) (σ : ri_S), ev 180 (53, L, st) σ = ev 180 (54, L, .int 0 :: st) σ) ∧
  (∀ (l0 l1 l2 l3 l4 l5 : Option Value) (st : List Value) (σ : ri_S) (x : Int32), ev 180 (54, [l0, l1, l2, l3, l4, l5], .int x :: st) σ = ev 180 (56, [l0, l1, l2, l3, ri_clr l4, some (.int x)], st) σ) :=
  ⟨fun L st σ => ev_p ((TP_180 _).trans rfl) rfl,
   fun L st σ => ev_p ((TP_180 _).trans rfl) rfl,
   fun l0 l2 l3 l4 l5 st σ x => ev_p ((TP_180 _).trans rfl) rfl,
   fun L st σ x y => ev_p ((TP_180 _).trans rfl) rfl,
   fun L st σ x y => ev_p ((TP_180 _).trans rfl) rfl,
   fun L st σ => ev_p ((TP_180 _).trans rfl) rfl,
   fun L st σ x y => ev_p ((TP_180 _).trans rfl) rfl,
   fun l1 l2 l3 l4 l5 st σ x => ev_p ((TP_180 _).trans rfl) rfl,
   fun l0 l2 l3 l4 l5 st σ x => ev_p ((TP_180 _).trans rfl) rfl,
   fun l0 l1 l3 l4 l5 st σ x => ev_p ((TP_180 _).trans rfl) rfl,
   fun L σ a0 a1 a2 s0 => ev_call ((TP_180 _).trans rfl) rfl rfl rfl rfl,
   fun L st σ x y => ev_p ((TP_180 _).trans rfl) rfl,
   fun l0 l1 l2 l3 l4 l5 st σ x => ev_p ((TP_180 _).trans rfl) rfl,
   fun l1 l2 l3 l4 l5 st σ x => ev_p ((TP_180 _).trans rfl) rfl,
   fun L st σ => ev_p ((TP_180 _).trans rfl) rfl,
   fun L st σ x y => ev_p ((TP_180 _).trans rfl) rfl,
   fun L st σ a i => ev_iald ((TP_180 _).trans rfl),
   fun l0 l1 l2 l4 l5 st σ x => ev_p ((TP_180 _).trans rfl) rfl,
   fun L st σ x y => ev_p ((TP_180 _).trans rfl) rfl,
   fun L st σ a i x => ev_iast ((TP_180 _).trans rfl),
   fun l1 l2 l3 l4 l5 st σ x => ev_p ((TP_180 _).trans rfl) rfl,
   fun l0 l1 l2 l3 l5 st σ x => ev_p ((TP_180 _).trans rfl) rfl,
   fun L st σ x y => ev_p ((TP_180 _).trans rfl) rfl,
   fun L st σ a i => ev_iald ((TP_180 _).trans rfl),
   fun l0 l1 l2 l4 l5 st σ x => ev_p ((TP_180 _).trans rfl) rfl,
   fun L st σ x y => ev_p ((TP_180 _).trans rfl) rfl,
   fun L st σ a i x => ev_iast ((TP_180 _).trans rfl),
   fun l1 l2 l3 l4 l5 st σ x => ev_p ((TP_180 _).trans rfl) rfl,
   fun l0 l1 l2 l3 l5 st σ x => ev_p ((TP_180 _).trans rfl) rfl,
   fun L st σ a i => ev_iald ((TP_180 _).trans rfl),
   fun L st σ => ev_p ((TP_180 _).trans rfl) rfl,
   fun L st σ x y => ev_b ((TP_180 _).trans rfl) rfl,
   fun l1 l2 l3 l4 l5 st σ x => ev_p ((TP_180 _).trans rfl) rfl,
   fun l0 l1 l2 l3 l5 st σ x => ev_p ((TP_180 _).trans rfl) rfl,
   fun L st σ a i => ev_iald ((TP_180 _).trans rfl),
   fun L st σ => ev_p ((TP_180 _).trans rfl) rfl,
   fun L st σ x y => ev_p ((TP_180 _).trans rfl) rfl,
   fun L st σ => ev_p ((TP_180 _).trans rfl) rfl,
   fun L st σ => ev_p ((TP_180 _).trans rfl) rfl,
   fun l0 l1 l2 l3 l4 l5 st σ x => ev_p ((TP_180 _).trans rfl) rfl⟩
theorem I_180_1 :
  (∀ (l1 l2 l3 l4 l5 : Option Value) (st : List Value) (σ : ri_S) (x : Nat), ev 180 (56, [some (.ref x), l1, l2, l3, l4, l5], st) σ = ev 180 (57, [some (.ref x), l1, l2, l3, l4, l5], .ref x :: st) σ) ∧
  (∀ (l0 l1 l2 l3 l5 : Option Value) (st : List Value) (σ : ri_S) (x : Int32), ev 180 (57, [l0, l1, l2, l3, some (.int x), l5], st) σ = ev 180 (59, [l0, l1, l2, l3, some (.int x), l5], .int x :: st) σ) ∧
  (∀ (L : ri_L) (st : List Value) (σ : ri_S) (x : Int32) (y : Nat), ev 180 (59, L, .int x :: .ref y :: st) σ = ev 180 (60, L, .int x :: .ref y :: .int x :: .ref y :: st) σ) ∧
  (∀ (L : ri_L) (st : List Value) (σ : ri_S) (a : Nat) (i : Int32), ev 180 (60, L, .int i :: .ref a :: st) σ = tv_r 0 (σ.1 a) i fun n f j => ev 180 (61, L, .int (f j) :: st) σ) ∧
  (∀ (l0 l1 l2 l3 l4 : Option Value) (st : List Value) (σ : ri_S) (x : Int32), ev 180 (61, [l0, l1, l2, l3, l4, some (.int x)], st) σ = ev 180 (63, [l0, l1, l2, l3, l4, some (.int x)], .int x :: st) σ) ∧
  (∀ (L : ri_L) (st : List Value) (σ : ri_S) (x y : Int32), ev 180 (63, L, .int y :: .int x :: st) σ = ev 180 (64, L, .int (x - y) :: st) σ) ∧
  (∀ (L : ri_L) (st : List Value) (σ : ri_S) (a : Nat) (i x : Int32), ev 180 (64, L, .int x :: .int i :: .ref a :: st) σ = tv_r 0 (σ.1 a) i fun n f j => ev 180 (65, L, st) (ri_upd σ.1 a (.inl (0, n, upd f j x)), σ.2)) ∧
  (∀ (l1 l2 l3 l4 l5 : Option Value) (st : List Value) (σ : ri_S) (x : Nat), ev 180 (65, [some (.ref x), l1, l2, l3, l4, l5], st) σ = ev 180 (66, [some (.ref x), l1, l2, l3, l4, l5], .ref x :: st) σ) ∧
  (∀ (L : ri_L) (st : List Value) (σ : ri_S), ev 180 (66, L, st) σ = ev 180 (67, L, .int 5 :: st) σ) ∧
  (∀ (L : ri_L) (st : List Value) (σ : ri_S) (x : Int32) (y : Nat), ev 180 (67, L, .int x :: .ref y :: st) σ = ev 180 (68, L, .int x :: .ref y :: .int x :: .ref y :: st) σ) ∧
  (∀ (L : ri_L) (st : List Value) (σ : ri_S) (a : Nat) (i : Int32), ev 180 (68, L, .int i :: .ref a :: st) σ = tv_r 0 (σ.1 a) i fun n f j => ev 180 (69, L, .int (f j) :: st) σ) ∧
  (∀ (l0 l1 l2 l3 l4 : Option Value) (st : List Value) (σ : ri_S) (x : Int32), ev 180 (69, [l0, l1, l2, l3, l4, some (.int x)], st) σ = ev 180 (71, [l0, l1, l2, l3, l4, some (.int x)], .int x :: st) σ) ∧
  (∀ (L : ri_L) (st : List Value) (σ : ri_S) (x y : Int32), ev 180 (71, L, .int y :: .int x :: st) σ = ev 180 (72, L, .int (x + y) :: st) σ) ∧
  (∀ (L : ri_L) (st : List Value) (σ : ri_S) (a : Nat) (i x : Int32), ev 180 (72, L, .int x :: .int i :: .ref a :: st) σ = tv_r 0 (σ.1 a) i fun n f j => ev 180 (73, L, st) (ri_upd σ.1 a (.inl (0, n, upd f j x)), σ.2)) ∧
  (∀ (l1 l2 l3 l4 l5 : Option Value) (st : List Value) (σ : ri_S) (x : Nat), ev 180 (73, [some (.ref x), l1, l2, l3, l4, l5], st) σ = ev 180 (74, [some (.ref x), l1, l2, l3, l4, l5], .ref x :: st) σ) ∧
  (∀ (l0 l1 l2 l3 l5 : Option Value) (st : List Value) (σ : ri_S) (x : Int32), ev 180 (74, [l0, l1, l2, l3, some (.int x), l5], st) σ = ev 180 (76, [l0, l1, l2, l3, some (.int x), l5], .int x :: st) σ) ∧
  (∀ (L : ri_L) (st : List Value) (σ : ri_S) (a : Nat) (i : Int32), ev 180 (76, L, .int i :: .ref a :: st) σ = tv_r 0 (σ.1 a) i fun n f j => ev 180 (77, L, .int (f j) :: st) σ) ∧
  (∀ (L : ri_L) (σ : ri_S) (x : Int32), ev 180 (77, L, [.int x]) σ = some (some (.int x), σ)) :=
  ⟨fun l1 l2 l3 l4 l5 st σ x => ev_p ((TP_180 _).trans rfl) rfl,
   fun l0 l1 l2 l3 l5 st σ x => ev_p ((TP_180 _).trans rfl) rfl,
   fun L st σ x y => ev_p ((TP_180 _).trans rfl) rfl,
   fun L st σ a i => ev_iald ((TP_180 _).trans rfl),
   fun l0 l1 l2 l3 l4 st σ x => ev_p ((TP_180 _).trans rfl) rfl,
   fun L st σ x y => ev_p ((TP_180 _).trans rfl) rfl,
   fun L st σ a i x => ev_iast ((TP_180 _).trans rfl),
   fun l1 l2 l3 l4 l5 st σ x => ev_p ((TP_180 _).trans rfl) rfl,
   fun L st σ => ev_p ((TP_180 _).trans rfl) rfl,
   fun L st σ x y => ev_p ((TP_180 _).trans rfl) rfl,
   fun L st σ a i => ev_iald ((TP_180 _).trans rfl),
   fun l0 l1 l2 l3 l4 st σ x => ev_p ((TP_180 _).trans rfl) rfl,
   fun L st σ x y => ev_p ((TP_180 _).trans rfl) rfl,
   fun L st σ a i x => ev_iast ((TP_180 _).trans rfl),
   fun l1 l2 l3 l4 l5 st σ x => ev_p ((TP_180 _).trans rfl) rfl,
   fun l0 l1 l2 l3 l5 st σ x => ev_p ((TP_180 _).trans rfl) rfl,
   fun L st σ a i => ev_iald ((TP_180 _).trans rfl),
   fun L σ x => ev_r ((TP_180 _).trans rfl) rfl⟩
theorem TP_181 (pc : Nat) : TT 181 pc = ri_find TL_181 pc := rfl
theorem E_181 (x0 : Nat) (x1 : Int32) (x2 : Int32) (σ : ri_S) : cal 181 [.ref x0, .int x1, .int x2] σ = ev 181 (0, [some (.ref x0), some (.int x1), some (.int x2)], []) σ := rfl
theorem I_181 :
  (∀ (l1 l2 : Option Value) (st : List Value) (σ : ri_S) (x : Nat), ev 181 (0, [some (.ref x), l1, l2], st) σ = ev 181 (1, [some (.ref x), l1, l2], .ref x :: st) σ) ∧
  (∀ (l0 l2 : Option Value) (st : List Value) (σ : ri_S) (x : Int32), ev 181 (1, [l0, some (.int x), l2], st) σ = ev 181 (2, [l0, some (.int x), l2], .int x :: st) σ) ∧
  (∀ (l0 l1 : Option Value) (st : List Value) (σ : ri_S) (x : Int32), ev 181 (2, [l0, l1, some (.int x)], st) σ = ev 181 (3, [l0, l1, some (.int x)], .int x :: st) σ) ∧
  (∀ (L : ri_L) (σ : ri_S) (a0 : Nat) (a1 : Int32) (a2 : Int32), ev 181 (3, L, [.int a2, .int a1, .ref a0]) σ = (cal 168 [.ref a0, .int a1, .int a2] σ).bind fun q => ev 181 (6, L, q.1.toList ++ []) q.2) ∧
  (∀ (l1 l2 : Option Value) (st : List Value) (σ : ri_S) (x : Nat), ev 181 (6, [some (.ref x), l1, l2], st) σ = ev 181 (7, [some (.ref x), l1, l2], .ref x :: st) σ) ∧
  (∀ (l0 l2 : Option Value) (st : List Value) (σ : ri_S) (x : Int32), ev 181 (7, [l0, some (.int x), l2], st) σ = ev 181 (8, [l0, some (.int x), l2], .int x :: st) σ) ∧
  (∀ (L : ri_L) (st : List Value) (σ : ri_S), ev 181 (8, L, st) σ = ev 181 (9, L, .int 3 :: st) σ) ∧
  (∀ (L : ri_L) (σ : ri_S) (a0 : Nat) (a1 : Int32) (a2 : Int32), ev 181 (9, L, [.int a2, .int a1, .ref a0]) σ = (cal 149 [.ref a0, .int a1, .int a2] σ).bind fun q => ev 181 (12, L, q.1.toList ++ []) q.2) ∧
  (∀ (L : ri_L) (σ : ri_S) (x : Int32), ev 181 (12, L, [.int x]) σ = some (some (.int x), σ)) :=
  ⟨fun l1 l2 st σ x => ev_p ((TP_181 _).trans rfl) rfl,
   fun l0 l2 st σ x => ev_p ((TP_181 _).trans rfl) rfl,
   fun l0 l1 st σ x => ev_p ((TP_181 _).trans rfl) rfl,
   fun L σ a0 a1 a2 => ev_call ((TP_181 _).trans rfl) rfl rfl rfl rfl,
   fun l1 l2 st σ x => ev_p ((TP_181 _).trans rfl) rfl,
   fun l0 l2 st σ x => ev_p ((TP_181 _).trans rfl) rfl,
   fun L st σ => ev_p ((TP_181 _).trans rfl) rfl,
   fun L σ a0 a1 a2 => ev_call ((TP_181 _).trans rfl) rfl rfl rfl rfl,
   fun L σ x => ev_r ((TP_181 _).trans rfl) rfl⟩
theorem TP_182 (pc : Nat) : TT 182 pc = ri_find TL_182 pc := rfl
theorem E_182 (x0 : Nat) (x1 : Int32) (σ : ri_S) : cal 182 [.ref x0, .int x1] σ = ev 182 (0, [some (.ref x0), some (.int x1)], []) σ := rfl
theorem I_182 :
  (∀ (l1 : Option Value) (st : List Value) (σ : ri_S) (x : Nat), ev 182 (0, [some (.ref x), l1], st) σ = ev 182 (1, [some (.ref x), l1], .ref x :: st) σ) ∧
  (∀ (l0 : Option Value) (st : List Value) (σ : ri_S) (x : Int32), ev 182 (1, [l0, some (.int x)], st) σ = ev 182 (2, [l0, some (.int x)], .int x :: st) σ) ∧
  (∀ (L : ri_L) (st : List Value) (σ : ri_S) (x : Int32), ev 182 (2, L, .int x :: st) σ = ev 182 (3, L, .long x.toInt64 :: st) σ) ∧
  (∀ (L : ri_L) (st : List Value) (σ : ri_S), ev 182 (3, L, st) σ = ev 182 (4, L, .long 0 :: st) σ) ∧
  (∀ (L : ri_L) (st : List Value) (σ : ri_S), ev 182 (4, L, st) σ = ev 182 (7, L, .long 255 :: st) σ) ∧
  (∀ (L : ri_L) (σ : ri_S) (a0 : Int64) (a1 : Int64) (a2 : Int64) (s0 : Value), ev 182 (7, L, [.long a2, .long a1, .long a0, s0]) σ = (cal 146 [.long a0, .long a1, .long a2] σ).bind fun q => ev 182 (10, L, q.1.toList ++ [s0]) q.2) ∧
  (∀ (L : ri_L) (st : List Value) (σ : ri_S) (x : Int32), ev 182 (10, L, .int x :: st) σ = if ¬ x = 0 then ev 182 (17, L, st) σ else ev 182 (13, L, st) σ) ∧
  (∀ (L : ri_L) (st : List Value) (σ : ri_S), ev 182 (13, L, st) σ = ev 182 (14, L, .int 1 :: st) σ) ∧
  (∀ (L : ri_L) (st : List Value) (σ : ri_S), ev 182 (14, L, st) σ = ev 182 (31, L, st) σ) ∧
  (∀ (l1 : Option Value) (st : List Value) (σ : ri_S) (x : Nat), ev 182 (17, [some (.ref x), l1], st) σ = ev 182 (18, [some (.ref x), l1], .ref x :: st) σ) ∧
  (∀ (L : ri_L) (st : List Value) (σ : ri_S) (a : Nat), ev 182 (18, L, .ref a :: st) σ = tv_o 9 2 (σ.1 a) fun v => ev 182 (21, L, v :: st) σ) ∧
  (∀ (L : ri_L) (st : List Value) (σ : ri_S), ev 182 (21, L, st) σ = ev 182 (23, L, .int 120 :: st) σ) ∧
  (∀ (L : ri_L) (st : List Value) (σ : ri_S) (x y : Int32), ev 182 (23, L, .int y :: .int x :: st) σ = if ¬ x = y then ev 182 (30, L, st) σ else ev 182 (26, L, st) σ) ∧
  (∀ (L : ri_L) (st : List Value) (σ : ri_S), ev 182 (26, L, st) σ = ev 182 (27, L, .int 2 :: st) σ) ∧
  (∀ (L : ri_L) (st : List Value) (σ : ri_S), ev 182 (27, L, st) σ = ev 182 (31, L, st) σ) ∧
  (∀ (L : ri_L) (st : List Value) (σ : ri_S), ev 182 (30, L, st) σ = ev 182 (31, L, .int 0 :: st) σ) ∧
  (∀ (L : ri_L) (σ : ri_S) (a0 : Nat) (a1 : Int32), ev 182 (31, L, [.int a1, .ref a0]) σ = tv_k 9 (σ.1 a0) ((cal 145 [.ref a0, .int a1] σ).bind fun q => ev 182 (34, L, q.1.toList ++ []) q.2)) ∧
  (∀ (L : ri_L) (st : List Value) (σ : ri_S) (x : Int32), ev 182 (34, L, .int x :: st) σ = if x = 0 then ev 182 (39, L, st) σ else ev 182 (37, L, st) σ) ∧
  (∀ (L : ri_L) (st : List Value) (σ : ri_S), ev 182 (37, L, st) σ = ev 182 (38, L, .int 0 :: st) σ) ∧
  (∀ (L : ri_L) (σ : ri_S) (x : Int32), ev 182 (38, L, [.int x]) σ = some (some (.int x), σ)) ∧
  (∀ (l1 : Option Value) (st : List Value) (σ : ri_S) (x : Nat), ev 182 (39, [some (.ref x), l1], st) σ = ev 182 (40, [some (.ref x), l1], .ref x :: st) σ) ∧
  (∀ (L : ri_L) (st : List Value) (σ : ri_S) (a : Nat), ev 182 (40, L, .ref a :: st) σ = tv_o 9 1 (σ.1 a) fun v => ev 182 (43, L, v :: st) σ) ∧
  (∀ (l1 : Option Value) (st : List Value) (σ : ri_S) (x : Nat), ev 182 (43, [some (.ref x), l1], st) σ = ev 182 (44, [some (.ref x), l1], .ref x :: st) σ) ∧
  (∀ (L : ri_L) (st : List Value) (σ : ri_S) (a : Nat), ev 182 (44, L, .ref a :: st) σ = tv_o 9 2 (σ.1 a) fun v => ev 182 (47, L, v :: st) σ) ∧
  (∀ (l0 : Option Value) (st : List Value) (σ : ri_S) (x : Int32), ev 182 (47, [l0, some (.int x)], st) σ = ev 182 (48, [l0, some (.int x)], .int x :: st) σ) ∧
  (∀ (L : ri_L) (st : List Value) (σ : ri_S) (a : Nat) (i x : Int32), ev 182 (48, L, .int x :: .int i :: .ref a :: st) σ = tv_r 0 (σ.1 a) i fun n f j => ev 182 (49, L, st) (ri_upd σ.1 a (.inl (0, n, upd f j x)), σ.2)) ∧
  (∀ (l1 : Option Value) (st : List Value) (σ : ri_S) (x : Nat), ev 182 (49, [some (.ref x), l1], st) σ = ev 182 (50, [some (.ref x), l1], .ref x :: st) σ) ∧
  (∀ (L : ri_L) (st : List Value) (σ : ri_S) (x : Nat), ev 182 (50, L, .ref x :: st) σ = ev 182 (51, L, .ref x :: .ref x :: st) σ) ∧
  (∀ (L : ri_L) (st : List Value) (σ : ri_S) (a : Nat), ev 182 (51, L, .ref a :: st) σ = tv_o 9 2 (σ.1 a) fun v => ev 182 (54, L, v :: st) σ) ∧
  (∀ (L : ri_L) (st : List Value) (σ : ri_S), ev 182 (54, L, st) σ = ev 182 (55, L, .int 1 :: st) σ) ∧
  (∀ (L : ri_L) (st : List Value) (σ : ri_S) (x y : Int32), ev 182 (55, L, .int y :: .int x :: st) σ = ev 182 (56, L, .int (x + y) :: st) σ) ∧
  (∀ (L : ri_L) (st : List Value) (σ : ri_S) (a : Nat) (x : Int32), ev 182 (56, L, .int x :: .ref a :: st) σ = tv_w 9 2 (σ.1 a) (.int x) fun fs => ev 182 (59, L, st) (ri_upd σ.1 a (.inr (.inr (9, fs))), σ.2)) ∧
  (∀ (l1 : Option Value) (st : List Value) (σ : ri_S) (x : Nat), ev 182 (59, [some (.ref x), l1], st) σ = ev 182 (60, [some (.ref x), l1], .ref x :: st) σ) ∧
  (∀ (L : ri_L) (st : List Value) (σ : ri_S) (a : Nat), ev 182 (60, L, .ref a :: st) σ = tv_o 9 2 (σ.1 a) fun v => ev 182 (63, L, v :: st) σ) ∧
  (∀ (L : ri_L) (σ : ri_S) (x : Int32), ev 182 (63, L, [.int x]) σ = some (some (.int x), σ)) :=
  ⟨fun l1 st σ x => ev_p ((TP_182 _).trans rfl) rfl,
   fun l0 st σ x => ev_p ((TP_182 _).trans rfl) rfl,
   fun L st σ x => ev_p ((TP_182 _).trans rfl) rfl,
   fun L st σ => ev_p ((TP_182 _).trans rfl) rfl,
   fun L st σ => ev_p ((TP_182 _).trans rfl) rfl,
   fun L σ a0 a1 a2 s0 => ev_call ((TP_182 _).trans rfl) rfl rfl rfl rfl,
   fun L st σ x => ev_b ((TP_182 _).trans rfl) rfl,
   fun L st σ => ev_p ((TP_182 _).trans rfl) rfl,
   fun L st σ => ev_p ((TP_182 _).trans rfl) rfl,
   fun l1 st σ x => ev_p ((TP_182 _).trans rfl) rfl,
   fun L st σ a => ev_getf ((TP_182 _).trans rfl),
   fun L st σ => ev_p ((TP_182 _).trans rfl) rfl,
   fun L st σ x y => ev_b ((TP_182 _).trans rfl) rfl,
   fun L st σ => ev_p ((TP_182 _).trans rfl) rfl,
   fun L st σ => ev_p ((TP_182 _).trans rfl) rfl,
   fun L st σ => ev_p ((TP_182 _).trans rfl) rfl,
   fun L σ a0 a1 => ev_callv ((TP_182 _).trans rfl) rfl rfl rfl rfl,
   fun L st σ x => ev_b ((TP_182 _).trans rfl) rfl,
   fun L st σ => ev_p ((TP_182 _).trans rfl) rfl,
   fun L σ x => ev_r ((TP_182 _).trans rfl) rfl,
   fun l1 st σ x => ev_p ((TP_182 _).trans rfl) rfl,
   fun L st σ a => ev_getf ((TP_182 _).trans rfl),
   fun l1 st σ x => ev_p ((TP_182 _).trans rfl) rfl,
   fun L st σ a => ev_getf ((TP_182 _).trans rfl),
   fun l0 st σ x => ev_p ((TP_182 _).trans rfl) rfl,
   fun L st σ a i x => ev_iast ((TP_182 _).trans rfl),
   fun l1 st σ x => ev_p ((TP_182 _).trans rfl) rfl,
   fun L st σ x => ev_p ((TP_182 _).trans rfl) rfl,
   fun L st σ a => ev_getf ((TP_182 _).trans rfl),
   fun L st σ => ev_p ((TP_182 _).trans rfl) rfl,
   fun L st σ x y => ev_p ((TP_182 _).trans rfl) rfl,
   fun L st σ a x => ev_puti ((TP_182 _).trans rfl),
   fun l1 st σ x => ev_p ((TP_182 _).trans rfl) rfl,
   fun L st σ a => ev_getf ((TP_182 _).trans rfl),
   fun L σ x => ev_r ((TP_182 _).trans rfl) rfl⟩
theorem TP_183 (pc : Nat) : TT 183 pc = ri_find TL_183 pc := rfl
theorem E_183 (x0 : Nat) (σ : ri_S) : cal 183 [.ref x0] σ = ev 183 (0, [some (.ref x0), none], []) σ := rfl
theorem I_183 :
  (∀ (l1 : Option Value) (st : List Value) (σ : ri_S) (x : Nat), ev 183 (0, [some (.ref x), l1], st) σ = ev 183 (1, [some (.ref x), l1], .ref x :: st) σ) ∧
  (∀ (L : ri_L) (st : List Value) (σ : ri_S), ev 183 (1, L, st) σ = ev 183 (2, L, .int 0 :: st) σ) ∧
  (∀ (L : ri_L) (st : List Value) (σ : ri_S) (a : Nat) (x : Int32), ev 183 (2, L, .int x :: .ref a :: st) σ = tv_w 9 0 (σ.1 a) (.int x) fun fs => ev 183 (5, L, st) (ri_upd σ.1 a (.inr (.inr (9, fs))), σ.2)) ∧
  (∀ (l1 : Option Value) (st : List Value) (σ : ri_S) (x : Nat), ev 183 (5, [some (.ref x), l1], st) σ = ev 183 (6, [some (.ref x), l1], .ref x :: st) σ) ∧
  (∀ (L : ri_L) (st : List Value) (σ : ri_S) (a : Nat), ev 183 (6, L, .ref a :: st) σ = tv_o 9 2 (σ.1 a) fun v => ev 183 (9, L, v :: st) σ) ∧
  (∀ (l0 l1 : Option Value) (st : List Value) (σ : ri_S) (x : Int32), ev 183 (9, [l0, l1], .int x :: st) σ = ev 183 (10, [ri_clr l0, some (.int x)], st) σ) ∧
  (∀ (l1 : Option Value) (st : List Value) (σ : ri_S) (x : Nat), ev 183 (10, [some (.ref x), l1], st) σ = ev 183 (11, [some (.ref x), l1], .ref x :: st) σ) ∧
  (∀ (L : ri_L) (st : List Value) (σ : ri_S), ev 183 (11, L, st) σ = ev 183 (12, L, .int 0 :: st) σ) ∧
  (∀ (L : ri_L) (st : List Value) (σ : ri_S) (a : Nat) (x : Int32), ev 183 (12, L, .int x :: .ref a :: st) σ = tv_w 9 2 (σ.1 a) (.int x) fun fs => ev 183 (15, L, st) (ri_upd σ.1 a (.inr (.inr (9, fs))), σ.2)) ∧
  (∀ (l0 : Option Value) (st : List Value) (σ : ri_S) (x : Int32), ev 183 (15, [l0, some (.int x)], st) σ = ev 183 (16, [l0, some (.int x)], .int x :: st) σ) ∧
  (∀ (L : ri_L) (σ : ri_S) (x : Int32), ev 183 (16, L, [.int x]) σ = some (some (.int x), σ)) :=
  ⟨fun l1 st σ x => ev_p ((TP_183 _).trans rfl) rfl,
   fun L st σ => ev_p ((TP_183 _).trans rfl) rfl,
   fun L st σ a x => ev_puti ((TP_183 _).trans rfl),
   fun l1 st σ x => ev_p ((TP_183 _).trans rfl) rfl,
   fun L st σ a => ev_getf ((TP_183 _).trans rfl),
   fun l0 l1 st σ x => ev_p ((TP_183 _).trans rfl) rfl,
   fun l1 st σ x => ev_p ((TP_183 _).trans rfl) rfl,
   fun L st σ => ev_p ((TP_183 _).trans rfl) rfl,
   fun L st σ a x => ev_puti ((TP_183 _).trans rfl),
   fun l0 st σ x => ev_p ((TP_183 _).trans rfl) rfl,
   fun L σ x => ev_r ((TP_183 _).trans rfl) rfl⟩
theorem TP_184 (pc : Nat) : TT 184 pc = ri_find TL_184 pc := rfl
theorem E_184 (x0 : Nat) (x1 : Int32) (x2 : Int32) (x3 : Int32) (x4 : Int32) (σ : ri_S) : cal 184 [.ref x0, .int x1, .int x2, .int x3, .int x4] σ = ev 184 (0, [some (.ref x0), some (.int x1), some (.int x2), some (.int x3), some (.int x4), none, none, none, none], []) σ := rfl
theorem H_184_16 (l0 l1 l2 l3 l4 l5 l7 l8 : Option Value) (st : List Value) (σ : ri_S) (x : Int32) : ev 184 (16, [l0, l1, l2, l3, l4, l5, some (.int x), l7, l8], st) σ = ev 184 (18, [l0, l1, l2, l3, l4, l5, some (.int x), l7, l8], .int x :: st) σ := ev_p ((TP_184 _).trans rfl) rfl
theorem I_184_0 :
  (∀ (L : ri_L) (st : List Value) (σ : ri_S), ev 184 (0, L, st) σ = ev 184 (1, L, .int 0 :: st) σ) ∧
  (∀ (l0 l1 l2 l3 l4 l5 l6 l7 l8 : Option Value) (st : List Value) (σ : ri_S) (x : Int32), ev 184 (1, [l0, l1, l2, l3, l4, l5, l6, l7, l8], .int x :: st) σ = ev 184 (3, [l0, l1, l2, l3, ri_clr l4, some (.int x), l6, l7, l8], st) σ) ∧
  (∀ (l0 l1 l3 l4 l5 l6 l7 l8 : Option Value) (st : List Value) (σ : ri_S) (x : Int32), ev 184 (3, [l0, l1, some (.int x), l3, l4, l5, l6, l7, l8], st) σ = ev 184 (4, [l0, l1, some (.int x), l3, l4, l5, l6, l7, l8], .int x :: st) σ) ∧
  (∀ (L : ri_L) (st : List Value) (σ : ri_S), ev 184 (4, L, st) σ = ev 184 (5, L, .int 2 :: st) σ) ∧
  (∀ (L : ri_L) (st : List Value) (σ : ri_S) (x y : Int32), ev 184 (5, L, .int y :: .int x :: st) σ = if ¬ x = y then ev 184 (13, L, st) σ else ev 184 (8, L, st) σ) ∧
  (∀ (L : ri_L) (st : List Value) (σ : ri_S), ev 184 (8, L, st) σ = ev 184 (10, L, .int 10 :: st) σ) ∧
  (∀ (L : ri_L) (st : List Value) (σ : ri_S), ev 184 (10, L, st) σ = ev 184 (14, L, st) σ) ∧
  (∀ (L : ri_L) (st : List Value) (σ : ri_S), ev 184 (13, L, st) σ = ev 184 (14, L, .int 1 :: st) σ) ∧
  (∀ (l0 l1 l2 l3 l4 l5 l6 l7 l8 : Option Value) (st : List Value) (σ : ri_S) (x : Int32), ev 184 (14, [l0, l1, l2, l3, l4, l5, l6, l7, l8], .int x :: st) σ = ev 184 (16, [l0, l1, l2, l3, l4, ri_clr l5, some (.int x), l7, l8], st) σ) ∧
  (∀ (L : ri_L) (st : List Value) (σ : ri_S) (x : Int32), ev 184 (18, L, .int x :: st) σ = if x ≤ 0 then ev 184 (122, L, st) σ else ev 184 (21, L, st) σ) ∧
  (∀ (l0 l2 l3 l4 l5 l6 l7 l8 : Option Value) (st : List Value) (σ : ri_S) (x : Int32), ev 184 (21, [l0, some (.int x), l2, l3, l4, l5, l6, l7, l8], st) σ = ev 184 (22, [l0, some (.int x), l2, l3, l4, l5, l6, l7, l8], .int x :: st) σ) ∧
  (∀ (L : ri_L) (st : List Value) (σ : ri_S), ev 184 (22, L, st) σ = ev 184 (23, L, .int (-1) :: st) σ) ∧
  (∀ (L : ri_L) (st : List Value) (σ : ri_S) (x y : Int32), ev 184 (23, L, .int y :: .int x :: st) σ = if x = y then ev 184 (122, L, st) σ else ev 184 (26, L, st) σ) ∧
  (∀ (l1 l2 l3 l4 l5 l6 l7 l8 : Option Value) (st : List Value) (σ : ri_S) (x : Nat), ev 184 (26, [some (.ref x), l1, l2, l3, l4, l5, l6, l7, l8], st) σ = ev 184 (27, [some (.ref x), l1, l2, l3, l4, l5, l6, l7, l8], .ref x :: st) σ) ∧
  (∀ (L : ri_L) (st : List Value) (σ : ri_S) (a : Nat), ev 184 (27, L, .ref a :: st) σ = tv_o 9 11 (σ.1 a) fun v => ev 184 (30, L, v :: st) σ) ∧
  (∀ (l1 l2 l3 l4 l5 l6 l7 l8 : Option Value) (st : List Value) (σ : ri_S) (x : Nat), ev 184 (30, [some (.ref x), l1, l2, l3, l4, l5, l6, l7, l8], st) σ = ev 184 (31, [some (.ref x), l1, l2, l3, l4, l5, l6, l7, l8], .ref x :: st) σ) ∧
  (∀ (L : ri_L) (st : List Value) (σ : ri_S) (a : Nat), ev 184 (31, L, .ref a :: st) σ = tv_o 9 2 (σ.1 a) fun v => ev 184 (34, L, v :: st) σ) ∧
  (∀ (L : ri_L) (st : List Value) (σ : ri_S) (x y : Int32), ev 184 (34, L, .int y :: .int x :: st) σ = if y ≤ x then ev 184 (52, L, st) σ else ev 184 (37, L, st) σ) ∧
  (∀ (l1 l2 l3 l4 l5 l6 l7 l8 : Option Value) (st : List Value) (σ : ri_S) (x : Nat), ev 184 (37, [some (.ref x), l1, l2, l3, l4, l5, l6, l7, l8], st) σ = ev 184 (38, [some (.ref x), l1, l2, l3, l4, l5, l6, l7, l8], .ref x :: st) σ) ∧
  (∀ (L : ri_L) (st : List Value) (σ : ri_S) (a : Nat), ev 184 (38, L, .ref a :: st) σ = tv_o 9 1 (σ.1 a) fun v => ev 184 (41, L, v :: st) σ) ∧
  (∀ (l1 l2 l3 l4 l5 l6 l7 l8 : Option Value) (st : List Value) (σ : ri_S) (x : Nat), ev 184 (41, [some (.ref x), l1, l2, l3, l4, l5, l6, l7, l8], st) σ = ev 184 (42, [some (.ref x), l1, l2, l3, l4, l5, l6, l7, l8], .ref x :: st) σ) ∧
  (∀ (L : ri_L) (st : List Value) (σ : ri_S) (a : Nat), ev 184 (42, L, .ref a :: st) σ = tv_o 9 11 (σ.1 a) fun v => ev 184 (45, L, v :: st) σ) ∧
  (∀ (L : ri_L) (st : List Value) (σ : ri_S) (a : Nat) (i : Int32), ev 184 (45, L, .int i :: .ref a :: st) σ = tv_r 0 (σ.1 a) i fun n f j => ev 184 (46, L, .int (f j) :: st) σ) ∧
  (∀ (L : ri_L) (st : List Value) (σ : ri_S), ev 184 (46, L, st) σ = ev 184 (48, L, .int 48 :: st) σ) ∧
  (∀ (L : ri_L) (st : List Value) (σ : ri_S) (x y : Int32), ev 184 (48, L, .int y :: .int x :: st) σ = ev 184 (49, L, .int (x - y) :: st) σ) ∧
  (∀ (L : ri_L) (st : List Value) (σ : ri_S), ev 184 (49, L, st) σ = ev 184 (53, L, st) σ) ∧
  (∀ (L : ri_L) (st : List Value) (σ : ri_S), ev 184 (52, L, st) σ = ev 184 (53, L, .int (-1) :: st) σ) ∧
  (∀ (l0 l1 l2 l3 l4 l5 l6 l7 l8 : Option Value) (st : List Value) (σ : ri_S) (x : Int32), ev 184 (53, [l0, l1, l2, l3, l4, l5, l6, l7, l8], .int x :: st) σ = ev 184 (55, [l0, l1, l2, l3, l4, l5, ri_clr l6, some (.int x), l8], st) σ) ∧
  (∀ (l0 l1 l2 l3 l4 l6 l7 l8 : Option Value) (st : List Value) (σ : ri_S) (x : Int32), ev 184 (55, [l0, l1, l2, l3, l4, some (.int x), l6, l7, l8], st) σ = ev 184 (57, [l0, l1, l2, l3, l4, some (.int x), l6, l7, l8], .int x :: st) σ) ∧
  (∀ (l0 l1 l2 l3 l4 l5 l6 l8 : Option Value) (st : List Value) (σ : ri_S) (x : Int32), ev 184 (57, [l0, l1, l2, l3, l4, l5, l6, some (.int x), l8], st) σ = ev 184 (59, [l0, l1, l2, l3, l4, l5, l6, some (.int x), l8], .int x :: st) σ) ∧
  (∀ (l0 l1 l2 l3 l4 l5 l7 l8 : Option Value) (st : List Value) (σ : ri_S) (x : Int32), ev 184 (59, [l0, l1, l2, l3, l4, l5, some (.int x), l7, l8], st) σ = ev 184 (61, [l0, l1, l2, l3, l4, l5, some (.int x), l7, l8], .int x :: st) σ) ∧
  (∀ (L : ri_L) (st : List Value) (σ : ri_S) (x y : Int32), ev 184 (61, L, .int y :: .int x :: st) σ = ev 184 (62, L, .int (x * y) :: st) σ) ∧
  (∀ (L : ri_L) (st : List Value) (σ : ri_S) (x y : Int32), ev 184 (62, L, .int y :: .int x :: st) σ = ev 184 (63, L, .int (x + y) :: st) σ) ∧
  (∀ (l0 l1 l2 l3 l4 l5 l6 l7 l8 : Option Value) (st : List Value) (σ : ri_S) (x : Int32), ev 184 (63, [l0, l1, l2, l3, l4, l5, l6, l7, l8], .int x :: st) σ = ev 184 (65, [l0, l1, l2, l3, l4, l5, l6, ri_clr l7, some (.int x)], st) σ) ∧
  (∀ (l0 l1 l2 l3 l4 l5 l6 l8 : Option Value) (st : List Value) (σ : ri_S) (x : Int32), ev 184 (65, [l0, l1, l2, l3, l4, l5, l6, some (.int x), l8], st) σ = ev 184 (67, [l0, l1, l2, l3, l4, l5, l6, some (.int x), l8], .int x :: st) σ) ∧
  (∀ (L : ri_L) (st : List Value) (σ : ri_S) (x : Int32), ev 184 (67, L, .int x :: st) σ = ev 184 (68, L, .long x.toInt64 :: st) σ) ∧
  (∀ (L : ri_L) (st : List Value) (σ : ri_S), ev 184 (68, L, st) σ = ev 184 (69, L, .long 0 :: st) σ) ∧
  (∀ (L : ri_L) (st : List Value) (σ : ri_S), ev 184 (69, L, st) σ = ev 184 (72, L, .long 9 :: st) σ) ∧
  (∀ (L : ri_L) (σ : ri_S) (a0 : Int64) (a1 : Int64) (a2 : Int64), ev 184 (72, L, [.long a2, .long a1, .long a0]) σ = (cal 146 [.long a0, .long a1, .long a2] σ).bind fun q => ev 184 (75, L, q.1.toList ++ []) q.2) ∧
  (∀ (L : ri_L) (st : List Value) (σ : ri_S) (x : Int32), ev 184 (75, L, .int x :: st) σ = if x = 0 then ev 184 (96, L, st) σ else ev 184 (78, L, st) σ) :=
  ⟨fun L st σ => ev_p ((TP_184 _).trans rfl) rfl,
   fun l0 l1 l2 l3 l4 l5 l6 l7 l8 st σ x => ev_p ((TP_184 _).trans rfl) rfl,
   fun l0 l1 l3 l4 l5 l6 l7 l8 st σ x => ev_p ((TP_184 _).trans rfl) rfl,
   fun L st σ => ev_p ((TP_184 _).trans rfl) rfl,
   fun L st σ x y => ev_b ((TP_184 _).trans rfl) rfl,
   fun L st σ => ev_p ((TP_184 _).trans rfl) rfl,
   fun L st σ => ev_p ((TP_184 _).trans rfl) rfl,
   fun L st σ => ev_p ((TP_184 _).trans rfl) rfl,
   fun l0 l1 l2 l3 l4 l5 l6 l7 l8 st σ x => ev_p ((TP_184 _).trans rfl) rfl,
   fun L st σ x => ev_b ((TP_184 _).trans rfl) rfl,
   fun l0 l2 l3 l4 l5 l6 l7 l8 st σ x => ev_p ((TP_184 _).trans rfl) rfl,
   fun L st σ => ev_p ((TP_184 _).trans rfl) rfl,
   fun L st σ x y => ev_b ((TP_184 _).trans rfl) rfl,
   fun l1 l2 l3 l4 l5 l6 l7 l8 st σ x => ev_p ((TP_184 _).trans rfl) rfl,
   fun L st σ a => ev_getf ((TP_184 _).trans rfl),
   fun l1 l2 l3 l4 l5 l6 l7 l8 st σ x => ev_p ((TP_184 _).trans rfl) rfl,
   fun L st σ a => ev_getf ((TP_184 _).trans rfl),
   fun L st σ x y => ev_b ((TP_184 _).trans rfl) rfl,
   fun l1 l2 l3 l4 l5 l6 l7 l8 st σ x => ev_p ((TP_184 _).trans rfl) rfl,
   fun L st σ a => ev_getf ((TP_184 _).trans rfl),
   fun l1 l2 l3 l4 l5 l6 l7 l8 st σ x => ev_p ((TP_184 _).trans rfl) rfl,
   fun L st σ a => ev_getf ((TP_184 _).trans rfl),
   fun L st σ a i => ev_iald ((TP_184 _).trans rfl),
   fun L st σ => ev_p ((TP_184 _).trans rfl) rfl,
   fun L st σ x y => ev_p ((TP_184 _).trans rfl) rfl,
   fun L st σ => ev_p ((TP_184 _).trans rfl) rfl,
   fun L st σ => ev_p ((TP_184 _).trans rfl) rfl,
   fun l0 l1 l2 l3 l4 l5 l6 l7 l8 st σ x => ev_p ((TP_184 _).trans rfl) rfl,
   fun l0 l1 l2 l3 l4 l6 l7 l8 st σ x => ev_p ((TP_184 _).trans rfl) rfl,
   fun l0 l1 l2 l3 l4 l5 l6 l8 st σ x => ev_p ((TP_184 _).trans rfl) rfl,
   fun l0 l1 l2 l3 l4 l5 l7 l8 st σ x => ev_p ((TP_184 _).trans rfl) rfl,
   fun L st σ x y => ev_p ((TP_184 _).trans rfl) rfl,
   fun L st σ x y => ev_p ((TP_184 _).trans rfl) rfl,
   fun l0 l1 l2 l3 l4 l5 l6 l7 l8 st σ x => ev_p ((TP_184 _).trans rfl) rfl,
   fun l0 l1 l2 l3 l4 l5 l6 l8 st σ x => ev_p ((TP_184 _).trans rfl) rfl,
   fun L st σ x => ev_p ((TP_184 _).trans rfl) rfl,
   fun L st σ => ev_p ((TP_184 _).trans rfl) rfl,
   fun L st σ => ev_p ((TP_184 _).trans rfl) rfl,
   fun L σ a0 a1 a2 => ev_call ((TP_184 _).trans rfl) rfl rfl rfl rfl,
   fun L st σ x => ev_b ((TP_184 _).trans rfl) rfl⟩
theorem I_184_1 :
  (∀ (l0 l1 l2 l3 l4 l5 l6 l7 : Option Value) (st : List Value) (σ : ri_S) (x : Int32), ev 184 (78, [l0, l1, l2, l3, l4, l5, l6, l7, some (.int x)], st) σ = ev 184 (80, [l0, l1, l2, l3, l4, l5, l6, l7, some (.int x)], .int x :: st) σ) ∧
  (∀ (l0 l1 l2 l3 l5 l6 l7 l8 : Option Value) (st : List Value) (σ : ri_S) (x : Int32), ev 184 (80, [l0, l1, l2, l3, some (.int x), l5, l6, l7, l8], st) σ = ev 184 (82, [l0, l1, l2, l3, some (.int x), l5, l6, l7, l8], .int x :: st) σ) ∧
  (∀ (L : ri_L) (st : List Value) (σ : ri_S) (x y : Int32), ev 184 (82, L, .int y :: .int x :: st) σ = if y < x then ev 184 (96, L, st) σ else ev 184 (85, L, st) σ) ∧
  (∀ (l0 l1 l2 l3 l4 l5 l6 l7 : Option Value) (st : List Value) (σ : ri_S) (x : Int32), ev 184 (85, [l0, l1, l2, l3, l4, l5, l6, l7, some (.int x)], st) σ = ev 184 (87, [l0, l1, l2, l3, l4, l5, l6, l7, some (.int x)], .int x :: st) σ) ∧
  (∀ (l0 l1 l2 l3 l4 l5 l7 l8 : Option Value) (st : List Value) (σ : ri_S) (x : Int32), ev 184 (87, [l0, l1, l2, l3, l4, l5, some (.int x), l7, l8], st) σ = ev 184 (89, [l0, l1, l2, l3, l4, l5, some (.int x), l7, l8], .int x :: st) σ) ∧
  (∀ (L : ri_L) (st : List Value) (σ : ri_S) (x y : Int32), ev 184 (89, L, .int y :: .int x :: st) σ = ev 184 (90, L, .int (x + y) :: st) σ) ∧
  (∀ (L : ri_L) (st : List Value) (σ : ri_S), ev 184 (90, L, st) σ = ev 184 (91, L, .int 1 :: st) σ) ∧
  (∀ (L : ri_L) (st : List Value) (σ : ri_S) (x y : Int32), ev 184 (91, L, .int y :: .int x :: st) σ = ev 184 (92, L, .int (x - y) :: st) σ) ∧
  (∀ (l0 l1 l2 l4 l5 l6 l7 l8 : Option Value) (st : List Value) (σ : ri_S) (x : Int32), ev 184 (92, [l0, l1, l2, some (.int x), l4, l5, l6, l7, l8], st) σ = ev 184 (93, [l0, l1, l2, some (.int x), l4, l5, l6, l7, l8], .int x :: st) σ) ∧
  (∀ (L : ri_L) (st : List Value) (σ : ri_S) (x y : Int32), ev 184 (93, L, .int y :: .int x :: st) σ = if y ≤ x then ev 184 (98, L, st) σ else ev 184 (96, L, st) σ) ∧
  (∀ (L : ri_L) (st : List Value) (σ : ri_S), ev 184 (96, L, st) σ = ev 184 (97, L, .int (-1) :: st) σ) ∧
  (∀ (L : ri_L) (σ : ri_S) (x : Int32), ev 184 (97, L, [.int x]) σ = some (some (.int x), σ)) ∧
  (∀ (l0 l1 l2 l3 l4 l5 l6 l7 : Option Value) (st : List Value) (σ : ri_S) (x : Int32), ev 184 (98, [l0, l1, l2, l3, l4, l5, l6, l7, some (.int x)], st) σ = ev 184 (100, [l0, l1, l2, l3, l4, l5, l6, l7, some (.int x)], .int x :: st) σ) ∧
  (∀ (l0 l1 l2 l3 l4 l5 l6 l7 l8 : Option Value) (st : List Value) (σ : ri_S) (x : Int32), ev 184 (100, [l0, l1, l2, l3, l4, l5, l6, l7, l8], .int x :: st) σ = ev 184 (102, [l0, l1, l2, l3, ri_clr l4, some (.int x), l6, l7, l8], st) σ) ∧
  (∀ (l1 l2 l3 l4 l5 l6 l7 l8 : Option Value) (st : List Value) (σ : ri_S) (x : Nat), ev 184 (102, [some (.ref x), l1, l2, l3, l4, l5, l6, l7, l8], st) σ = ev 184 (103, [some (.ref x), l1, l2, l3, l4, l5, l6, l7, l8], .ref x :: st) σ) ∧
  (∀ (L : ri_L) (st : List Value) (σ : ri_S) (x : Nat), ev 184 (103, L, .ref x :: st) σ = ev 184 (104, L, .ref x :: .ref x :: st) σ) ∧
  (∀ (L : ri_L) (st : List Value) (σ : ri_S) (a : Nat), ev 184 (104, L, .ref a :: st) σ = tv_o 9 11 (σ.1 a) fun v => ev 184 (107, L, v :: st) σ) ∧
  (∀ (L : ri_L) (st : List Value) (σ : ri_S), ev 184 (107, L, st) σ = ev 184 (108, L, .int 1 :: st) σ) ∧
  (∀ (L : ri_L) (st : List Value) (σ : ri_S) (x y : Int32), ev 184 (108, L, .int y :: .int x :: st) σ = ev 184 (109, L, .int (x + y) :: st) σ) ∧
  (∀ (L : ri_L) (st : List Value) (σ : ri_S) (a : Nat) (x : Int32), ev 184 (109, L, .int x :: .ref a :: st) σ = tv_w 9 11 (σ.1 a) (.int x) fun fs => ev 184 (112, L, st) (ri_upd σ.1 a (.inr (.inr (9, fs))), σ.2)) ∧
  (∀ (l0 l1 l2 l3 l4 l5 l7 l8 : Option Value) (st : List Value) (σ : ri_S) (x : Int32), ev 184 (112, [l0, l1, l2, l3, l4, l5, some (.int x), l7, l8], st) σ = ev 184 (114, [l0, l1, l2, l3, l4, l5, some (.int x), l7, l8], .int x :: st) σ) ∧
  (∀ (L : ri_L) (st : List Value) (σ : ri_S), ev 184 (114, L, st) σ = ev 184 (116, L, .int 10 :: st) σ) ∧
  (∀ (L : ri_L) (st : List Value) (σ : ri_S) (x y : Int32), ev 184 (116, L, .int y :: .int x :: st) σ = if y = 0 then none else ev 184 (117, L, .int (x / y) :: st) σ) ∧
  (∀ (l0 l1 l2 l3 l4 l5 l6 l7 l8 : Option Value) (st : List Value) (σ : ri_S) (x : Int32), ev 184 (117, [l0, l1, l2, l3, l4, l5, l6, l7, l8], .int x :: st) σ = ev 184 (119, [l0, l1, l2, l3, l4, ri_clr l5, some (.int x), l7, l8], st) σ) ∧
  (∀ (L : ri_L) (st : List Value) (σ : ri_S), ev 184 (119, L, st) σ = ev 184 (16, L, st) σ) ∧
  (∀ (l0 l2 l3 l4 l5 l6 l7 l8 : Option Value) (st : List Value) (σ : ri_S) (x : Int32), ev 184 (122, [l0, some (.int x), l2, l3, l4, l5, l6, l7, l8], st) σ = ev 184 (123, [l0, some (.int x), l2, l3, l4, l5, l6, l7, l8], .int x :: st) σ) ∧
  (∀ (L : ri_L) (st : List Value) (σ : ri_S), ev 184 (123, L, st) σ = ev 184 (124, L, .int (-1) :: st) σ) ∧
  (∀ (L : ri_L) (st : List Value) (σ : ri_S) (x y : Int32), ev 184 (124, L, .int y :: .int x :: st) σ = if ¬ x = y then ev 184 (131, L, st) σ else ev 184 (127, L, st) σ) ∧
  (∀ (L : ri_L) (st : List Value) (σ : ri_S), ev 184 (127, L, st) σ = ev 184 (128, L, .int (-1) :: st) σ) ∧
  (∀ (L : ri_L) (st : List Value) (σ : ri_S), ev 184 (128, L, st) σ = ev 184 (133, L, st) σ) ∧
  (∀ (l0 l1 l2 l3 l4 l6 l7 l8 : Option Value) (st : List Value) (σ : ri_S) (x : Int32), ev 184 (131, [l0, l1, l2, l3, l4, some (.int x), l6, l7, l8], st) σ = ev 184 (133, [l0, l1, l2, l3, l4, some (.int x), l6, l7, l8], .int x :: st) σ) ∧
  (∀ (L : ri_L) (σ : ri_S) (x : Int32), ev 184 (133, L, [.int x]) σ = some (some (.int x), σ)) :=
  ⟨fun l0 l1 l2 l3 l4 l5 l6 l7 st σ x => ev_p ((TP_184 _).trans rfl) rfl,
   fun l0 l1 l2 l3 l5 l6 l7 l8 st σ x => ev_p ((TP_184 _).trans rfl) rfl,
   fun L st σ x y => ev_b ((TP_184 _).trans rfl) rfl,
   fun l0 l1 l2 l3 l4 l5 l6 l7 st σ x => ev_p ((TP_184 _).trans rfl) rfl,
   fun l0 l1 l2 l3 l4 l5 l7 l8 st σ x => ev_p ((TP_184 _).trans rfl) rfl,
   fun L st σ x y => ev_p ((TP_184 _).trans rfl) rfl,
   fun L st σ => ev_p ((TP_184 _).trans rfl) rfl,
   fun L st σ x y => ev_p ((TP_184 _).trans rfl) rfl,
   fun l0 l1 l2 l4 l5 l6 l7 l8 st σ x => ev_p ((TP_184 _).trans rfl) rfl,
   fun L st σ x y => ev_b ((TP_184 _).trans rfl) rfl,
   fun L st σ => ev_p ((TP_184 _).trans rfl) rfl,
   fun L σ x => ev_r ((TP_184 _).trans rfl) rfl,
   fun l0 l1 l2 l3 l4 l5 l6 l7 st σ x => ev_p ((TP_184 _).trans rfl) rfl,
   fun l0 l1 l2 l3 l4 l5 l6 l7 l8 st σ x => ev_p ((TP_184 _).trans rfl) rfl,
   fun l1 l2 l3 l4 l5 l6 l7 l8 st σ x => ev_p ((TP_184 _).trans rfl) rfl,
   fun L st σ x => ev_p ((TP_184 _).trans rfl) rfl,
   fun L st σ a => ev_getf ((TP_184 _).trans rfl),
   fun L st σ => ev_p ((TP_184 _).trans rfl) rfl,
   fun L st σ x y => ev_p ((TP_184 _).trans rfl) rfl,
   fun L st σ a x => ev_puti ((TP_184 _).trans rfl),
   fun l0 l1 l2 l3 l4 l5 l7 l8 st σ x => ev_p ((TP_184 _).trans rfl) rfl,
   fun L st σ => ev_p ((TP_184 _).trans rfl) rfl,
   fun L st σ x y => ev_d ((TP_184 _).trans rfl) rfl,
   fun l0 l1 l2 l3 l4 l5 l6 l7 l8 st σ x => ev_p ((TP_184 _).trans rfl) rfl,
   fun L st σ => ev_p ((TP_184 _).trans rfl) rfl,
   fun l0 l2 l3 l4 l5 l6 l7 l8 st σ x => ev_p ((TP_184 _).trans rfl) rfl,
   fun L st σ => ev_p ((TP_184 _).trans rfl) rfl,
   fun L st σ x y => ev_b ((TP_184 _).trans rfl) rfl,
   fun L st σ => ev_p ((TP_184 _).trans rfl) rfl,
   fun L st σ => ev_p ((TP_184 _).trans rfl) rfl,
   fun l0 l1 l2 l3 l4 l6 l7 l8 st σ x => ev_p ((TP_184 _).trans rfl) rfl,
   fun L σ x => ev_r ((TP_184 _).trans rfl) rfl⟩
theorem TP_185 (pc : Nat) : TT 185 pc = ri_find TL_185 pc := rfl
theorem E_185 (x0 : Nat) (x1 : Int32) (σ : ri_S) : cal 185 [.ref x0, .int x1] σ = ev 185 (0, [some (.ref x0), some (.int x1)], []) σ := rfl
theorem I_185 :
  (∀ (l1 : Option Value) (st : List Value) (σ : ri_S) (x : Nat), ev 185 (0, [some (.ref x), l1], st) σ = ev 185 (1, [some (.ref x), l1], .ref x :: st) σ) ∧
  (∀ (L : ri_L) (st : List Value) (σ : ri_S) (x : Nat), ev 185 (1, L, .ref x :: st) σ = ev 185 (2, L, .ref x :: .ref x :: st) σ) ∧
  (∀ (L : ri_L) (st : List Value) (σ : ri_S) (a : Nat), ev 185 (2, L, .ref a :: st) σ = tv_o 9 12 (σ.1 a) fun v => ev 185 (5, L, v :: st) σ) ∧
  (∀ (l0 : Option Value) (st : List Value) (σ : ri_S) (x : Int32), ev 185 (5, [l0, some (.int x)], st) σ = ev 185 (6, [l0, some (.int x)], .int x :: st) σ) ∧
  (∀ (L : ri_L) (st : List Value) (σ : ri_S) (x : Int32), ev 185 (6, L, .int x :: st) σ = if x = 0 then ev 185 (13, L, st) σ else ev 185 (9, L, st) σ) ∧
  (∀ (L : ri_L) (st : List Value) (σ : ri_S), ev 185 (9, L, st) σ = ev 185 (10, L, .int 0 :: st) σ) ∧
  (∀ (L : ri_L) (st : List Value) (σ : ri_S), ev 185 (10, L, st) σ = ev 185 (14, L, st) σ) ∧
  (∀ (L : ri_L) (st : List Value) (σ : ri_S), ev 185 (13, L, st) σ = ev 185 (14, L, .int 1 :: st) σ) ∧
  (∀ (L : ri_L) (st : List Value) (σ : ri_S) (x y : Int32), ev 185 (14, L, .int y :: .int x :: st) σ = ev 185 (15, L, .int (x + y) :: st) σ) ∧
  (∀ (L : ri_L) (st : List Value) (σ : ri_S) (a : Nat) (x : Int32), ev 185 (15, L, .int x :: .ref a :: st) σ = tv_w 9 12 (σ.1 a) (.int x) fun fs => ev 185 (18, L, st) (ri_upd σ.1 a (.inr (.inr (9, fs))), σ.2)) ∧
  (∀ (L : ri_L) (st : List Value) (σ : ri_S), ev 185 (18, L, st) σ = ev 185 (19, L, .int 1 :: st) σ) ∧
  (∀ (L : ri_L) (σ : ri_S) (x : Int32), ev 185 (19, L, [.int x]) σ = tv_b x (some (some (.int x), σ))) :=
  ⟨fun l1 st σ x => ev_p ((TP_185 _).trans rfl) rfl,
   fun L st σ x => ev_p ((TP_185 _).trans rfl) rfl,
   fun L st σ a => ev_getf ((TP_185 _).trans rfl),
   fun l0 st σ x => ev_p ((TP_185 _).trans rfl) rfl,
   fun L st σ x => ev_b ((TP_185 _).trans rfl) rfl,
   fun L st σ => ev_p ((TP_185 _).trans rfl) rfl,
   fun L st σ => ev_p ((TP_185 _).trans rfl) rfl,
   fun L st σ => ev_p ((TP_185 _).trans rfl) rfl,
   fun L st σ x y => ev_p ((TP_185 _).trans rfl) rfl,
   fun L st σ a x => ev_puti ((TP_185 _).trans rfl),
   fun L st σ => ev_p ((TP_185 _).trans rfl) rfl,
   fun L σ x => ev_r ((TP_185 _).trans rfl) rfl⟩
theorem TP_186 (pc : Nat) : TT 186 pc = ri_find TL_186 pc := rfl
theorem E_186 (x0 : Nat) (x1 : Int32) (σ : ri_S) : cal 186 [.ref x0, .int x1] σ = ev 186 (0, [some (.ref x0), some (.int x1)], []) σ := rfl
theorem I_186 :
  (∀ (l1 : Option Value) (st : List Value) (σ : ri_S) (x : Nat), ev 186 (0, [some (.ref x), l1], st) σ = ev 186 (1, [some (.ref x), l1], .ref x :: st) σ) ∧
  (∀ (l0 : Option Value) (st : List Value) (σ : ri_S) (x : Int32), ev 186 (1, [l0, some (.int x)], st) σ = ev 186 (2, [l0, some (.int x)], .int x :: st) σ) ∧
  (∀ (L : ri_L) (st : List Value) (σ : ri_S), ev 186 (2, L, st) σ = ev 186 (3, L, .int 1 :: st) σ) ∧
  (∀ (L : ri_L) (st : List Value) (σ : ri_S), ev 186 (3, L, st) σ = ev 186 (4, L, .int 0 :: st) σ) ∧
  (∀ (L : ri_L) (st : List Value) (σ : ri_S), ev 186 (4, L, st) σ = ev 186 (5, L, .int 2 :: st) σ) ∧
  (∀ (L : ri_L) (σ : ri_S) (a0 : Nat) (a1 : Int32) (a2 : Int32) (a3 : Int32) (a4 : Int32), ev 186 (5, L, [.int a4, .int a3, .int a2, .int a1, .ref a0]) σ = tv_k 9 (σ.1 a0) ((cal 184 [.ref a0, .int a1, .int a2, .int a3, .int a4] σ).bind fun q => ev 186 (8, L, q.1.toList ++ []) q.2)) ∧
  (∀ (L : ri_L) (σ : ri_S) (x : Int32), ev 186 (8, L, [.int x]) σ = some (some (.int x), σ)) :=
  ⟨fun l1 st σ x => ev_p ((TP_186 _).trans rfl) rfl,
   fun l0 st σ x => ev_p ((TP_186 _).trans rfl) rfl,
   fun L st σ => ev_p ((TP_186 _).trans rfl) rfl,
   fun L st σ => ev_p ((TP_186 _).trans rfl) rfl,
   fun L st σ => ev_p ((TP_186 _).trans rfl) rfl,
   fun L σ a0 a1 a2 a3 a4 => ev_callv ((TP_186 _).trans rfl) rfl rfl rfl rfl,
   fun L σ x => ev_r ((TP_186 _).trans rfl) rfl⟩
theorem TP_187 (pc : Nat) : TT 187 pc = ri_find TL_187 pc := rfl
theorem E_187 (x0 : Nat) (x1 : Int32) (σ : ri_S) : cal 187 [.ref x0, .int x1] σ = ev 187 (0, [some (.ref x0), some (.int x1)], []) σ := rfl
theorem I_187 :
  (∀ (l1 : Option Value) (st : List Value) (σ : ri_S) (x : Nat), ev 187 (0, [some (.ref x), l1], st) σ = ev 187 (1, [some (.ref x), l1], .ref x :: st) σ) ∧
  (∀ (l0 : Option Value) (st : List Value) (σ : ri_S) (x : Int32), ev 187 (1, [l0, some (.int x)], st) σ = ev 187 (2, [l0, some (.int x)], .int x :: st) σ) ∧
  (∀ (L : ri_L) (st : List Value) (σ : ri_S), ev 187 (2, L, st) σ = ev 187 (3, L, .int 1 :: st) σ) ∧
  (∀ (L : ri_L) (st : List Value) (σ : ri_S), ev 187 (3, L, st) σ = ev 187 (4, L, .int 0 :: st) σ) ∧
  (∀ (L : ri_L) (st : List Value) (σ : ri_S), ev 187 (4, L, st) σ = ev 187 (5, L, .int 4 :: st) σ) ∧
  (∀ (L : ri_L) (σ : ri_S) (a0 : Nat) (a1 : Int32) (a2 : Int32) (a3 : Int32) (a4 : Int32), ev 187 (5, L, [.int a4, .int a3, .int a2, .int a1, .ref a0]) σ = tv_k 9 (σ.1 a0) ((cal 184 [.ref a0, .int a1, .int a2, .int a3, .int a4] σ).bind fun q => ev 187 (8, L, q.1.toList ++ []) q.2)) ∧
  (∀ (L : ri_L) (σ : ri_S) (x : Int32), ev 187 (8, L, [.int x]) σ = some (some (.int x), σ)) :=
  ⟨fun l1 st σ x => ev_p ((TP_187 _).trans rfl) rfl,
   fun l0 st σ x => ev_p ((TP_187 _).trans rfl) rfl,
   fun L st σ => ev_p ((TP_187 _).trans rfl) rfl,
   fun L st σ => ev_p ((TP_187 _).trans rfl) rfl,
   fun L st σ => ev_p ((TP_187 _).trans rfl) rfl,
   fun L σ a0 a1 a2 a3 a4 => ev_callv ((TP_187 _).trans rfl) rfl rfl rfl rfl,
   fun L σ x => ev_r ((TP_187 _).trans rfl) rfl⟩
theorem TP_188 (pc : Nat) : TT 188 pc = ri_find TL_188 pc := rfl
theorem E_188 (x0 : Nat) (x1 : Nat) (σ : ri_S) : cal 188 [.ref x0, .ref x1] σ = ev 188 (0, [some (.ref x0), some (.ref x1), none, none, none], []) σ := rfl
theorem I_188_0 :
  (∀ (l1 l2 l3 l4 : Option Value) (st : List Value) (σ : ri_S) (x : Nat), ev 188 (0, [some (.ref x), l1, l2, l3, l4], st) σ = ev 188 (1, [some (.ref x), l1, l2, l3, l4], .ref x :: st) σ) ∧
  (∀ (L : ri_L) (st : List Value) (σ : ri_S), ev 188 (1, L, st) σ = ev 188 (2, L, .int 0 :: st) σ) ∧
  (∀ (L : ri_L) (st : List Value) (σ : ri_S), ev 188 (2, L, st) σ = ev 188 (3, L, .int 1 :: st) σ) ∧
  (∀ (L : ri_L) (st : List Value) (σ : ri_S), ev 188 (3, L, st) σ = ev 188 (4, L, .int 3 :: st) σ) ∧
  (∀ (L : ri_L) (st : List Value) (σ : ri_S), ev 188 (4, L, st) σ = ev 188 (5, L, .int 5 :: st) σ) ∧
  (∀ (L : ri_L) (σ : ri_S) (a0 : Nat) (a1 : Int32) (a2 : Int32) (a3 : Int32) (a4 : Int32), ev 188 (5, L, [.int a4, .int a3, .int a2, .int a1, .ref a0]) σ = tv_k 9 (σ.1 a0) ((cal 184 [.ref a0, .int a1, .int a2, .int a3, .int a4] σ).bind fun q => ev 188 (8, L, q.1.toList ++ []) q.2)) ∧
  (∀ (l0 l1 l2 l3 l4 : Option Value) (st : List Value) (σ : ri_S) (x : Int32), ev 188 (8, [l0, l1, l2, l3, l4], .int x :: st) σ = ev 188 (9, [l0, ri_clr l1, some (.int x), l3, l4], st) σ) ∧
  (∀ (l1 l2 l3 l4 : Option Value) (st : List Value) (σ : ri_S) (x : Nat), ev 188 (9, [some (.ref x), l1, l2, l3, l4], st) σ = ev 188 (10, [some (.ref x), l1, l2, l3, l4], .ref x :: st) σ) ∧
  (∀ (l0 l1 l3 l4 : Option Value) (st : List Value) (σ : ri_S) (x : Int32), ev 188 (10, [l0, l1, some (.int x), l3, l4], st) σ = ev 188 (11, [l0, l1, some (.int x), l3, l4], .int x :: st) σ) ∧
  (∀ (L : ri_L) (st : List Value) (σ : ri_S), ev 188 (11, L, st) σ = ev 188 (12, L, .int 1 :: st) σ) ∧
  (∀ (L : ri_L) (st : List Value) (σ : ri_S), ev 188 (12, L, st) σ = ev 188 (13, L, .int 0 :: st) σ) ∧
  (∀ (L : ri_L) (st : List Value) (σ : ri_S), ev 188 (13, L, st) σ = ev 188 (15, L, .int 8 :: st) σ) ∧
  (∀ (L : ri_L) (σ : ri_S) (a0 : Nat) (a1 : Int32) (a2 : Int32) (a3 : Int32) (a4 : Int32), ev 188 (15, L, [.int a4, .int a3, .int a2, .int a1, .ref a0]) σ = tv_k 9 (σ.1 a0) ((cal 184 [.ref a0, .int a1, .int a2, .int a3, .int a4] σ).bind fun q => ev 188 (18, L, q.1.toList ++ []) q.2)) ∧
  (∀ (l0 l1 l2 l3 l4 : Option Value) (st : List Value) (σ : ri_S) (x : Int32), ev 188 (18, [l0, l1, l2, l3, l4], .int x :: st) σ = ev 188 (19, [l0, l1, ri_clr l2, some (.int x), l4], st) σ) ∧
  (∀ (l1 l2 l3 l4 : Option Value) (st : List Value) (σ : ri_S) (x : Nat), ev 188 (19, [some (.ref x), l1, l2, l3, l4], st) σ = ev 188 (20, [some (.ref x), l1, l2, l3, l4], .ref x :: st) σ) ∧
  (∀ (l0 l1 l2 l4 : Option Value) (st : List Value) (σ : ri_S) (x : Int32), ev 188 (20, [l0, l1, l2, some (.int x), l4], st) σ = ev 188 (21, [l0, l1, l2, some (.int x), l4], .int x :: st) σ) ∧
  (∀ (L : ri_L) (st : List Value) (σ : ri_S), ev 188 (21, L, st) σ = ev 188 (22, L, .int 2 :: st) σ) ∧
  (∀ (L : ri_L) (st : List Value) (σ : ri_S), ev 188 (22, L, st) σ = ev 188 (23, L, .int 0 :: st) σ) ∧
  (∀ (L : ri_L) (st : List Value) (σ : ri_S), ev 188 (23, L, st) σ = ev 188 (25, L, .int 30 :: st) σ) ∧
  (∀ (L : ri_L) (σ : ri_S) (a0 : Nat) (a1 : Int32) (a2 : Int32) (a3 : Int32) (a4 : Int32), ev 188 (25, L, [.int a4, .int a3, .int a2, .int a1, .ref a0]) σ = tv_k 9 (σ.1 a0) ((cal 184 [.ref a0, .int a1, .int a2, .int a3, .int a4] σ).bind fun q => ev 188 (28, L, q.1.toList ++ []) q.2)) ∧
  (∀ (l0 l1 l2 l3 l4 : Option Value) (st : List Value) (σ : ri_S) (x : Int32), ev 188 (28, [l0, l1, l2, l3, l4], .int x :: st) σ = ev 188 (30, [l0, l1, l2, ri_clr l3, some (.int x)], st) σ) ∧
  (∀ (l0 l1 l2 l3 : Option Value) (st : List Value) (σ : ri_S) (x : Int32), ev 188 (30, [l0, l1, l2, l3, some (.int x)], st) σ = ev 188 (32, [l0, l1, l2, l3, some (.int x)], .int x :: st) σ) ∧
  (∀ (L : ri_L) (st : List Value) (σ : ri_S), ev 188 (32, L, st) σ = ev 188 (33, L, .int (-1) :: st) σ) ∧
  (∀ (L : ri_L) (st : List Value) (σ : ri_S) (x y : Int32), ev 188 (33, L, .int y :: .int x :: st) σ = if x = y then ev 188 (72, L, st) σ else ev 188 (36, L, st) σ) ∧
  (∀ (l1 l2 l3 l4 : Option Value) (st : List Value) (σ : ri_S) (x : Nat), ev 188 (36, [some (.ref x), l1, l2, l3, l4], st) σ = ev 188 (37, [some (.ref x), l1, l2, l3, l4], .ref x :: st) σ) ∧
  (∀ (l0 l2 l3 l4 : Option Value) (st : List Value) (σ : ri_S) (x : Nat), ev 188 (37, [l0, some (.ref x), l2, l3, l4], st) σ = ev 188 (38, [l0, some (.ref x), l2, l3, l4], .ref x :: st) σ) ∧
  (∀ (L : ri_L) (st : List Value) (σ : ri_S), ev 188 (38, L, st) σ = ev 188 (39, L, .int 0 :: st) σ) ∧
  (∀ (L : ri_L) (st : List Value) (σ : ri_S) (a : Nat) (i : Int32), ev 188 (39, L, .int i :: .ref a :: st) σ = tv_r 0 (σ.1 a) i fun n f j => ev 188 (40, L, .int (f j) :: st) σ) ∧
  (∀ (L : ri_L) (st : List Value) (σ : ri_S), ev 188 (40, L, st) σ = ev 188 (41, L, .int 3 :: st) σ) ∧
  (∀ (L : ri_L) (st : List Value) (σ : ri_S) (x y : Int32), ev 188 (41, L, .int y :: .int x :: st) σ = if y ≤ x then ev 188 (61, L, st) σ else ev 188 (44, L, st) σ) ∧
  (∀ (l0 l2 l3 l4 : Option Value) (st : List Value) (σ : ri_S) (x : Nat), ev 188 (44, [l0, some (.ref x), l2, l3, l4], st) σ = ev 188 (45, [l0, some (.ref x), l2, l3, l4], .ref x :: st) σ) ∧
  (∀ (l0 l1 l3 l4 : Option Value) (st : List Value) (σ : ri_S) (x : Int32), ev 188 (45, [l0, l1, some (.int x), l3, l4], st) σ = ev 188 (46, [l0, l1, some (.int x), l3, l4], .int x :: st) σ) ∧
  (∀ (l0 l1 l2 l4 : Option Value) (st : List Value) (σ : ri_S) (x : Int32), ev 188 (46, [l0, l1, l2, some (.int x), l4], st) σ = ev 188 (47, [l0, l1, l2, some (.int x), l4], .int x :: st) σ) ∧
  (∀ (L : ri_L) (st : List Value) (σ : ri_S), ev 188 (47, L, st) σ = ev 188 (48, L, .int 4 :: st) σ) ∧
  (∀ (L : ri_L) (st : List Value) (σ : ri_S) (x y : Int32), ev 188 (48, L, .int y :: .int x :: st) σ = ev 188 (49, L, .int (x - y) :: st) σ) ∧
  (∀ (l0 l1 l2 l3 : Option Value) (st : List Value) (σ : ri_S) (x : Int32), ev 188 (49, [l0, l1, l2, l3, some (.int x)], st) σ = ev 188 (51, [l0, l1, l2, l3, some (.int x)], .int x :: st) σ) ∧
  (∀ (L : ri_L) (σ : ri_S) (a0 : Nat) (a1 : Int32) (a2 : Int32) (a3 : Int32) (s0 : Value), ev 188 (51, L, [.int a3, .int a2, .int a1, .ref a0, s0]) σ = (cal 175 [.ref a0, .int a1, .int a2, .int a3] σ).bind fun q => ev 188 (54, L, q.1.toList ++ [s0]) q.2) ∧
  (∀ (L : ri_L) (st : List Value) (σ : ri_S) (x : Int32), ev 188 (54, L, .int x :: st) σ = if x < 0 then ev 188 (61, L, st) σ else ev 188 (57, L, st) σ) ∧
  (∀ (L : ri_L) (st : List Value) (σ : ri_S), ev 188 (57, L, st) σ = ev 188 (58, L, .int 1 :: st) σ) ∧
  (∀ (L : ri_L) (st : List Value) (σ : ri_S), ev 188 (58, L, st) σ = ev 188 (62, L, st) σ) :=
  ⟨fun l1 l2 l3 l4 st σ x => ev_p ((TP_188 _).trans rfl) rfl,
   fun L st σ => ev_p ((TP_188 _).trans rfl) rfl,
   fun L st σ => ev_p ((TP_188 _).trans rfl) rfl,
   fun L st σ => ev_p ((TP_188 _).trans rfl) rfl,
   fun L st σ => ev_p ((TP_188 _).trans rfl) rfl,
   fun L σ a0 a1 a2 a3 a4 => ev_callv ((TP_188 _).trans rfl) rfl rfl rfl rfl,
   fun l0 l1 l2 l3 l4 st σ x => ev_p ((TP_188 _).trans rfl) rfl,
   fun l1 l2 l3 l4 st σ x => ev_p ((TP_188 _).trans rfl) rfl,
   fun l0 l1 l3 l4 st σ x => ev_p ((TP_188 _).trans rfl) rfl,
   fun L st σ => ev_p ((TP_188 _).trans rfl) rfl,
   fun L st σ => ev_p ((TP_188 _).trans rfl) rfl,
   fun L st σ => ev_p ((TP_188 _).trans rfl) rfl,
   fun L σ a0 a1 a2 a3 a4 => ev_callv ((TP_188 _).trans rfl) rfl rfl rfl rfl,
   fun l0 l1 l2 l3 l4 st σ x => ev_p ((TP_188 _).trans rfl) rfl,
   fun l1 l2 l3 l4 st σ x => ev_p ((TP_188 _).trans rfl) rfl,
   fun l0 l1 l2 l4 st σ x => ev_p ((TP_188 _).trans rfl) rfl,
   fun L st σ => ev_p ((TP_188 _).trans rfl) rfl,
   fun L st σ => ev_p ((TP_188 _).trans rfl) rfl,
   fun L st σ => ev_p ((TP_188 _).trans rfl) rfl,
   fun L σ a0 a1 a2 a3 a4 => ev_callv ((TP_188 _).trans rfl) rfl rfl rfl rfl,
   fun l0 l1 l2 l3 l4 st σ x => ev_p ((TP_188 _).trans rfl) rfl,
   fun l0 l1 l2 l3 st σ x => ev_p ((TP_188 _).trans rfl) rfl,
   fun L st σ => ev_p ((TP_188 _).trans rfl) rfl,
   fun L st σ x y => ev_b ((TP_188 _).trans rfl) rfl,
   fun l1 l2 l3 l4 st σ x => ev_p ((TP_188 _).trans rfl) rfl,
   fun l0 l2 l3 l4 st σ x => ev_p ((TP_188 _).trans rfl) rfl,
   fun L st σ => ev_p ((TP_188 _).trans rfl) rfl,
   fun L st σ a i => ev_iald ((TP_188 _).trans rfl),
   fun L st σ => ev_p ((TP_188 _).trans rfl) rfl,
   fun L st σ x y => ev_b ((TP_188 _).trans rfl) rfl,
   fun l0 l2 l3 l4 st σ x => ev_p ((TP_188 _).trans rfl) rfl,
   fun l0 l1 l3 l4 st σ x => ev_p ((TP_188 _).trans rfl) rfl,
   fun l0 l1 l2 l4 st σ x => ev_p ((TP_188 _).trans rfl) rfl,
   fun L st σ => ev_p ((TP_188 _).trans rfl) rfl,
   fun L st σ x y => ev_p ((TP_188 _).trans rfl) rfl,
   fun l0 l1 l2 l3 st σ x => ev_p ((TP_188 _).trans rfl) rfl,
   fun L σ a0 a1 a2 a3 s0 => ev_call ((TP_188 _).trans rfl) rfl rfl rfl rfl,
   fun L st σ x => ev_b ((TP_188 _).trans rfl) rfl,
   fun L st σ => ev_p ((TP_188 _).trans rfl) rfl,
   fun L st σ => ev_p ((TP_188 _).trans rfl) rfl⟩
theorem I_188_1 :
  (∀ (L : ri_L) (st : List Value) (σ : ri_S), ev 188 (61, L, st) σ = ev 188 (62, L, .int 0 :: st) σ) ∧
  (∀ (L : ri_L) (σ : ri_S) (a0 : Nat) (a1 : Int32), ev 188 (62, L, [.int a1, .ref a0]) σ = tv_k 9 (σ.1 a0) ((cal 185 [.ref a0, .int a1] σ).bind fun q => ev 188 (65, L, q.1.toList ++ []) q.2)) ∧
  (∀ (L : ri_L) (st : List Value) (σ : ri_S) (x : Int32), ev 188 (65, L, .int x :: st) σ = if x = 0 then ev 188 (72, L, st) σ else ev 188 (68, L, st) σ) ∧
  (∀ (L : ri_L) (st : List Value) (σ : ri_S), ev 188 (68, L, st) σ = ev 188 (69, L, .int 1 :: st) σ) ∧
  (∀ (L : ri_L) (st : List Value) (σ : ri_S), ev 188 (69, L, st) σ = ev 188 (73, L, st) σ) ∧
  (∀ (L : ri_L) (st : List Value) (σ : ri_S), ev 188 (72, L, st) σ = ev 188 (73, L, .int 0 :: st) σ) ∧
  (∀ (L : ri_L) (σ : ri_S) (x : Int32), ev 188 (73, L, [.int x]) σ = tv_b x (some (some (.int x), σ))) :=
  ⟨fun L st σ => ev_p ((TP_188 _).trans rfl) rfl,
   fun L σ a0 a1 => ev_callv ((TP_188 _).trans rfl) rfl rfl rfl rfl,
   fun L st σ x => ev_b ((TP_188 _).trans rfl) rfl,
   fun L st σ => ev_p ((TP_188 _).trans rfl) rfl,
   fun L st σ => ev_p ((TP_188 _).trans rfl) rfl,
   fun L st σ => ev_p ((TP_188 _).trans rfl) rfl,
   fun L σ x => ev_r ((TP_188 _).trans rfl) rfl⟩
theorem TP_189 (pc : Nat) : TT 189 pc = ri_find TL_189 pc := rfl
theorem E_189 (x0 : Nat) (x1 : Nat) (σ : ri_S) : cal 189 [.ref x0, .ref x1] σ = ev 189 (0, [some (.ref x0), some (.ref x1), none, none, none, none], []) σ := rfl
theorem I_189_0 :
  (∀ (l1 l2 l3 l4 l5 : Option Value) (st : List Value) (σ : ri_S) (x : Nat), ev 189 (0, [some (.ref x), l1, l2, l3, l4, l5], st) σ = ev 189 (1, [some (.ref x), l1, l2, l3, l4, l5], .ref x :: st) σ) ∧
  (∀ (L : ri_L) (st : List Value) (σ : ri_S), ev 189 (1, L, st) σ = ev 189 (2, L, .int 0 :: st) σ) ∧
  (∀ (L : ri_L) (σ : ri_S) (a0 : Nat) (a1 : Int32), ev 189 (2, L, [.int a1, .ref a0]) σ = tv_k 9 (σ.1 a0) ((cal 186 [.ref a0, .int a1] σ).bind fun q => ev 189 (5, L, q.1.toList ++ []) q.2)) ∧
  (∀ (l0 l1 l2 l3 l4 l5 : Option Value) (st : List Value) (σ : ri_S) (x : Int32), ev 189 (5, [l0, l1, l2, l3, l4, l5], .int x :: st) σ = ev 189 (6, [l0, ri_clr l1, some (.int x), l3, l4, l5], st) σ) ∧
  (∀ (l1 l2 l3 l4 l5 : Option Value) (st : List Value) (σ : ri_S) (x : Nat), ev 189 (6, [some (.ref x), l1, l2, l3, l4, l5], st) σ = ev 189 (7, [some (.ref x), l1, l2, l3, l4, l5], .ref x :: st) σ) ∧
  (∀ (l0 l1 l3 l4 l5 : Option Value) (st : List Value) (σ : ri_S) (x : Int32), ev 189 (7, [l0, l1, some (.int x), l3, l4, l5], st) σ = ev 189 (8, [l0, l1, some (.int x), l3, l4, l5], .int x :: st) σ) ∧
  (∀ (L : ri_L) (σ : ri_S) (a0 : Nat) (a1 : Int32), ev 189 (8, L, [.int a1, .ref a0]) σ = tv_k 9 (σ.1 a0) ((cal 187 [.ref a0, .int a1] σ).bind fun q => ev 189 (11, L, q.1.toList ++ []) q.2)) ∧
  (∀ (l0 l1 l2 l3 l4 l5 : Option Value) (st : List Value) (σ : ri_S) (x : Int32), ev 189 (11, [l0, l1, l2, l3, l4, l5], .int x :: st) σ = ev 189 (12, [l0, l1, ri_clr l2, some (.int x), l4, l5], st) σ) ∧
  (∀ (l1 l2 l3 l4 l5 : Option Value) (st : List Value) (σ : ri_S) (x : Nat), ev 189 (12, [some (.ref x), l1, l2, l3, l4, l5], st) σ = ev 189 (13, [some (.ref x), l1, l2, l3, l4, l5], .ref x :: st) σ) ∧
  (∀ (l0 l1 l2 l4 l5 : Option Value) (st : List Value) (σ : ri_S) (x : Int32), ev 189 (13, [l0, l1, l2, some (.int x), l4, l5], st) σ = ev 189 (14, [l0, l1, l2, some (.int x), l4, l5], .int x :: st) σ) ∧
  (∀ (L : ri_L) (σ : ri_S) (a0 : Nat) (a1 : Int32), ev 189 (14, L, [.int a1, .ref a0]) σ = tv_k 9 (σ.1 a0) ((cal 186 [.ref a0, .int a1] σ).bind fun q => ev 189 (17, L, q.1.toList ++ []) q.2)) ∧
  (∀ (l0 l1 l2 l3 l4 l5 : Option Value) (st : List Value) (σ : ri_S) (x : Int32), ev 189 (17, [l0, l1, l2, l3, l4, l5], .int x :: st) σ = ev 189 (19, [l0, l1, l2, ri_clr l3, some (.int x), l5], st) σ) ∧
  (∀ (l1 l2 l3 l4 l5 : Option Value) (st : List Value) (σ : ri_S) (x : Nat), ev 189 (19, [some (.ref x), l1, l2, l3, l4, l5], st) σ = ev 189 (20, [some (.ref x), l1, l2, l3, l4, l5], .ref x :: st) σ) ∧
  (∀ (l0 l1 l2 l3 l5 : Option Value) (st : List Value) (σ : ri_S) (x : Int32), ev 189 (20, [l0, l1, l2, l3, some (.int x), l5], st) σ = ev 189 (22, [l0, l1, l2, l3, some (.int x), l5], .int x :: st) σ) ∧
  (∀ (L : ri_L) (σ : ri_S) (a0 : Nat) (a1 : Int32), ev 189 (22, L, [.int a1, .ref a0]) σ = tv_k 9 (σ.1 a0) ((cal 187 [.ref a0, .int a1] σ).bind fun q => ev 189 (25, L, q.1.toList ++ []) q.2)) ∧
  (∀ (l0 l1 l2 l3 l4 l5 : Option Value) (st : List Value) (σ : ri_S) (x : Int32), ev 189 (25, [l0, l1, l2, l3, l4, l5], .int x :: st) σ = ev 189 (27, [l0, l1, l2, l3, ri_clr l4, some (.int x)], st) σ) ∧
  (∀ (l0 l1 l2 l3 l4 : Option Value) (st : List Value) (σ : ri_S) (x : Int32), ev 189 (27, [l0, l1, l2, l3, l4, some (.int x)], st) σ = ev 189 (29, [l0, l1, l2, l3, l4, some (.int x)], .int x :: st) σ) ∧
  (∀ (L : ri_L) (st : List Value) (σ : ri_S), ev 189 (29, L, st) σ = ev 189 (30, L, .int (-1) :: st) σ) ∧
  (∀ (L : ri_L) (st : List Value) (σ : ri_S) (x y : Int32), ev 189 (30, L, .int y :: .int x :: st) σ = if x = y then ev 189 (75, L, st) σ else ev 189 (33, L, st) σ) ∧
  (∀ (l1 l2 l3 l4 l5 : Option Value) (st : List Value) (σ : ri_S) (x : Nat), ev 189 (33, [some (.ref x), l1, l2, l3, l4, l5], st) σ = ev 189 (34, [some (.ref x), l1, l2, l3, l4, l5], .ref x :: st) σ) ∧
  (∀ (l0 l2 l3 l4 l5 : Option Value) (st : List Value) (σ : ri_S) (x : Nat), ev 189 (34, [l0, some (.ref x), l2, l3, l4, l5], st) σ = ev 189 (35, [l0, some (.ref x), l2, l3, l4, l5], .ref x :: st) σ) ∧
  (∀ (l0 l1 l3 l4 l5 : Option Value) (st : List Value) (σ : ri_S) (x : Int32), ev 189 (35, [l0, l1, some (.int x), l3, l4, l5], st) σ = ev 189 (36, [l0, l1, some (.int x), l3, l4, l5], .int x :: st) σ) ∧
  (∀ (l0 l1 l2 l4 l5 : Option Value) (st : List Value) (σ : ri_S) (x : Int32), ev 189 (36, [l0, l1, l2, some (.int x), l4, l5], st) σ = ev 189 (37, [l0, l1, l2, some (.int x), l4, l5], .int x :: st) σ) ∧
  (∀ (l0 l1 l2 l3 l5 : Option Value) (st : List Value) (σ : ri_S) (x : Int32), ev 189 (37, [l0, l1, l2, l3, some (.int x), l5], st) σ = ev 189 (39, [l0, l1, l2, l3, some (.int x), l5], .int x :: st) σ) ∧
  (∀ (l0 l1 l2 l3 l4 : Option Value) (st : List Value) (σ : ri_S) (x : Int32), ev 189 (39, [l0, l1, l2, l3, l4, some (.int x)], st) σ = ev 189 (41, [l0, l1, l2, l3, l4, some (.int x)], .int x :: st) σ) ∧
  (∀ (L : ri_L) (σ : ri_S) (a0 : Nat) (a1 : Int32) (a2 : Int32) (a3 : Int32) (a4 : Int32) (s0 : Value), ev 189 (41, L, [.int a4, .int a3, .int a2, .int a1, .ref a0, s0]) σ = (cal 176 [.ref a0, .int a1, .int a2, .int a3, .int a4] σ).bind fun q => ev 189 (44, L, q.1.toList ++ [s0]) q.2) ∧
  (∀ (L : ri_L) (st : List Value) (σ : ri_S) (x : Int32), ev 189 (44, L, .int x :: st) σ = if x = 0 then ev 189 (64, L, st) σ else ev 189 (47, L, st) σ) ∧
  (∀ (l0 l2 l3 l4 l5 : Option Value) (st : List Value) (σ : ri_S) (x : Nat), ev 189 (47, [l0, some (.ref x), l2, l3, l4, l5], st) σ = ev 189 (48, [l0, some (.ref x), l2, l3, l4, l5], .ref x :: st) σ) ∧
  (∀ (l0 l1 l3 l4 l5 : Option Value) (st : List Value) (σ : ri_S) (x : Int32), ev 189 (48, [l0, l1, some (.int x), l3, l4, l5], st) σ = ev 189 (49, [l0, l1, some (.int x), l3, l4, l5], .int x :: st) σ) ∧
  (∀ (l0 l1 l2 l4 l5 : Option Value) (st : List Value) (σ : ri_S) (x : Int32), ev 189 (49, [l0, l1, l2, some (.int x), l4, l5], st) σ = ev 189 (50, [l0, l1, l2, some (.int x), l4, l5], .int x :: st) σ) ∧
  (∀ (l0 l1 l2 l3 l5 : Option Value) (st : List Value) (σ : ri_S) (x : Int32), ev 189 (50, [l0, l1, l2, l3, some (.int x), l5], st) σ = ev 189 (52, [l0, l1, l2, l3, some (.int x), l5], .int x :: st) σ) ∧
  (∀ (l0 l1 l2 l3 l4 : Option Value) (st : List Value) (σ : ri_S) (x : Int32), ev 189 (52, [l0, l1, l2, l3, l4, some (.int x)], st) σ = ev 189 (54, [l0, l1, l2, l3, l4, some (.int x)], .int x :: st) σ) ∧
  (∀ (L : ri_L) (σ : ri_S) (a0 : Nat) (a1 : Int32) (a2 : Int32) (a3 : Int32) (a4 : Int32) (s0 : Value), ev 189 (54, L, [.int a4, .int a3, .int a2, .int a1, .ref a0, s0]) σ = (cal 177 [.ref a0, .int a1, .int a2, .int a3, .int a4] σ).bind fun q => ev 189 (57, L, q.1.toList ++ [s0]) q.2) ∧
  (∀ (L : ri_L) (st : List Value) (σ : ri_S) (x : Int32), ev 189 (57, L, .int x :: st) σ = if x < 0 then ev 189 (64, L, st) σ else ev 189 (60, L, st) σ) ∧
  (∀ (L : ri_L) (st : List Value) (σ : ri_S), ev 189 (60, L, st) σ = ev 189 (61, L, .int 1 :: st) σ) ∧
  (∀ (L : ri_L) (st : List Value) (σ : ri_S), ev 189 (61, L, st) σ = ev 189 (65, L, st) σ) ∧
  (∀ (L : ri_L) (st : List Value) (σ : ri_S), ev 189 (64, L, st) σ = ev 189 (65, L, .int 0 :: st) σ) ∧
  (∀ (L : ri_L) (σ : ri_S) (a0 : Nat) (a1 : Int32), ev 189 (65, L, [.int a1, .ref a0]) σ = tv_k 9 (σ.1 a0) ((cal 185 [.ref a0, .int a1] σ).bind fun q => ev 189 (68, L, q.1.toList ++ []) q.2)) ∧
  (∀ (L : ri_L) (st : List Value) (σ : ri_S) (x : Int32), ev 189 (68, L, .int x :: st) σ = if x = 0 then ev 189 (75, L, st) σ else ev 189 (71, L, st) σ) ∧
  (∀ (L : ri_L) (st : List Value) (σ : ri_S), ev 189 (71, L, st) σ = ev 189 (72, L, .int 1 :: st) σ) :=
  ⟨fun l1 l2 l3 l4 l5 st σ x => ev_p ((TP_189 _).trans rfl) rfl,
   fun L st σ => ev_p ((TP_189 _).trans rfl) rfl,
   fun L σ a0 a1 => ev_callv ((TP_189 _).trans rfl) rfl rfl rfl rfl,
   fun l0 l1 l2 l3 l4 l5 st σ x => ev_p ((TP_189 _).trans rfl) rfl,
   fun l1 l2 l3 l4 l5 st σ x => ev_p ((TP_189 _).trans rfl) rfl,
   fun l0 l1 l3 l4 l5 st σ x => ev_p ((TP_189 _).trans rfl) rfl,
   fun L σ a0 a1 => ev_callv ((TP_189 _).trans rfl) rfl rfl rfl rfl,
   fun l0 l1 l2 l3 l4 l5 st σ x => ev_p ((TP_189 _).trans rfl) rfl,
   fun l1 l2 l3 l4 l5 st σ x => ev_p ((TP_189 _).trans rfl) rfl,
   fun l0 l1 l2 l4 l5 st σ x => ev_p ((TP_189 _).trans rfl) rfl,
   fun L σ a0 a1 => ev_callv ((TP_189 _).trans rfl) rfl rfl rfl rfl,
   fun l0 l1 l2 l3 l4 l5 st σ x => ev_p ((TP_189 _).trans rfl) rfl,
   fun l1 l2 l3 l4 l5 st σ x => ev_p ((TP_189 _).trans rfl) rfl,
   fun l0 l1 l2 l3 l5 st σ x => ev_p ((TP_189 _).trans rfl) rfl,
   fun L σ a0 a1 => ev_callv ((TP_189 _).trans rfl) rfl rfl rfl rfl,
   fun l0 l1 l2 l3 l4 l5 st σ x => ev_p ((TP_189 _).trans rfl) rfl,
   fun l0 l1 l2 l3 l4 st σ x => ev_p ((TP_189 _).trans rfl) rfl,
   fun L st σ => ev_p ((TP_189 _).trans rfl) rfl,
   fun L st σ x y => ev_b ((TP_189 _).trans rfl) rfl,
   fun l1 l2 l3 l4 l5 st σ x => ev_p ((TP_189 _).trans rfl) rfl,
   fun l0 l2 l3 l4 l5 st σ x => ev_p ((TP_189 _).trans rfl) rfl,
   fun l0 l1 l3 l4 l5 st σ x => ev_p ((TP_189 _).trans rfl) rfl,
   fun l0 l1 l2 l4 l5 st σ x => ev_p ((TP_189 _).trans rfl) rfl,
   fun l0 l1 l2 l3 l5 st σ x => ev_p ((TP_189 _).trans rfl) rfl,
   fun l0 l1 l2 l3 l4 st σ x => ev_p ((TP_189 _).trans rfl) rfl,
   fun L σ a0 a1 a2 a3 a4 s0 => ev_call ((TP_189 _).trans rfl) rfl rfl rfl rfl,
   fun L st σ x => ev_b ((TP_189 _).trans rfl) rfl,
   fun l0 l2 l3 l4 l5 st σ x => ev_p ((TP_189 _).trans rfl) rfl,
   fun l0 l1 l3 l4 l5 st σ x => ev_p ((TP_189 _).trans rfl) rfl,
   fun l0 l1 l2 l4 l5 st σ x => ev_p ((TP_189 _).trans rfl) rfl,
   fun l0 l1 l2 l3 l5 st σ x => ev_p ((TP_189 _).trans rfl) rfl,
   fun l0 l1 l2 l3 l4 st σ x => ev_p ((TP_189 _).trans rfl) rfl,
   fun L σ a0 a1 a2 a3 a4 s0 => ev_call ((TP_189 _).trans rfl) rfl rfl rfl rfl,
   fun L st σ x => ev_b ((TP_189 _).trans rfl) rfl,
   fun L st σ => ev_p ((TP_189 _).trans rfl) rfl,
   fun L st σ => ev_p ((TP_189 _).trans rfl) rfl,
   fun L st σ => ev_p ((TP_189 _).trans rfl) rfl,
   fun L σ a0 a1 => ev_callv ((TP_189 _).trans rfl) rfl rfl rfl rfl,
   fun L st σ x => ev_b ((TP_189 _).trans rfl) rfl,
   fun L st σ => ev_p ((TP_189 _).trans rfl) rfl⟩
theorem I_189_1 :
  (∀ (L : ri_L) (st : List Value) (σ : ri_S), ev 189 (72, L, st) σ = ev 189 (76, L, st) σ) ∧
  (∀ (L : ri_L) (st : List Value) (σ : ri_S), ev 189 (75, L, st) σ = ev 189 (76, L, .int 0 :: st) σ) ∧
  (∀ (L : ri_L) (σ : ri_S) (x : Int32), ev 189 (76, L, [.int x]) σ = tv_b x (some (some (.int x), σ))) :=
  ⟨fun L st σ => ev_p ((TP_189 _).trans rfl) rfl,
   fun L st σ => ev_p ((TP_189 _).trans rfl) rfl,
   fun L σ x => ev_r ((TP_189 _).trans rfl) rfl⟩
theorem TP_190 (pc : Nat) : TT 190 pc = ri_find TL_190 pc := rfl
theorem E_190 (x0 : Nat) (x1 : Nat) (x2 : Int32) (σ : ri_S) : cal 190 [.ref x0, .ref x1, .int x2] σ = ev 190 (0, [some (.ref x0), some (.ref x1), some (.int x2), none, none, none], []) σ := rfl
theorem I_190_0 :
  (∀ (l1 l2 l3 l4 l5 : Option Value) (st : List Value) (σ : ri_S) (x : Nat), ev 190 (0, [some (.ref x), l1, l2, l3, l4, l5], st) σ = ev 190 (1, [some (.ref x), l1, l2, l3, l4, l5], .ref x :: st) σ) ∧
  (∀ (L : ri_L) (st : List Value) (σ : ri_S), ev 190 (1, L, st) σ = ev 190 (2, L, .int 0 :: st) σ) ∧
  (∀ (L : ri_L) (σ : ri_S) (a0 : Nat) (a1 : Int32), ev 190 (2, L, [.int a1, .ref a0]) σ = tv_k 9 (σ.1 a0) ((cal 186 [.ref a0, .int a1] σ).bind fun q => ev 190 (5, L, q.1.toList ++ []) q.2)) ∧
  (∀ (l0 l1 l2 l3 l4 l5 : Option Value) (st : List Value) (σ : ri_S) (x : Int32), ev 190 (5, [l0, l1, l2, l3, l4, l5], .int x :: st) σ = ev 190 (6, [l0, l1, ri_clr l2, some (.int x), l4, l5], st) σ) ∧
  (∀ (l1 l2 l3 l4 l5 : Option Value) (st : List Value) (σ : ri_S) (x : Nat), ev 190 (6, [some (.ref x), l1, l2, l3, l4, l5], st) σ = ev 190 (7, [some (.ref x), l1, l2, l3, l4, l5], .ref x :: st) σ) ∧
  (∀ (l0 l1 l2 l4 l5 : Option Value) (st : List Value) (σ : ri_S) (x : Int32), ev 190 (7, [l0, l1, l2, some (.int x), l4, l5], st) σ = ev 190 (8, [l0, l1, l2, some (.int x), l4, l5], .int x :: st) σ) ∧
  (∀ (L : ri_L) (σ : ri_S) (a0 : Nat) (a1 : Int32), ev 190 (8, L, [.int a1, .ref a0]) σ = tv_k 9 (σ.1 a0) ((cal 187 [.ref a0, .int a1] σ).bind fun q => ev 190 (11, L, q.1.toList ++ []) q.2)) ∧
  (∀ (l0 l1 l2 l3 l4 l5 : Option Value) (st : List Value) (σ : ri_S) (x : Int32), ev 190 (11, [l0, l1, l2, l3, l4, l5], .int x :: st) σ = ev 190 (13, [l0, l1, l2, ri_clr l3, some (.int x), l5], st) σ) ∧
  (∀ (l1 l2 l3 l4 l5 : Option Value) (st : List Value) (σ : ri_S) (x : Nat), ev 190 (13, [some (.ref x), l1, l2, l3, l4, l5], st) σ = ev 190 (14, [some (.ref x), l1, l2, l3, l4, l5], .ref x :: st) σ) ∧
  (∀ (l0 l1 l2 l3 l5 : Option Value) (st : List Value) (σ : ri_S) (x : Int32), ev 190 (14, [l0, l1, l2, l3, some (.int x), l5], st) σ = ev 190 (16, [l0, l1, l2, l3, some (.int x), l5], .int x :: st) σ) ∧
  (∀ (L : ri_L) (st : List Value) (σ : ri_S), ev 190 (16, L, st) σ = ev 190 (17, L, .int 1 :: st) σ) ∧
  (∀ (L : ri_L) (st : List Value) (σ : ri_S), ev 190 (17, L, st) σ = ev 190 (18, L, .int 1 :: st) σ) ∧
  (∀ (L : ri_L) (st : List Value) (σ : ri_S), ev 190 (18, L, st) σ = ev 190 (20, L, .int 9 :: st) σ) ∧
  (∀ (L : ri_L) (σ : ri_S) (a0 : Nat) (a1 : Int32) (a2 : Int32) (a3 : Int32) (a4 : Int32), ev 190 (20, L, [.int a4, .int a3, .int a2, .int a1, .ref a0]) σ = tv_k 9 (σ.1 a0) ((cal 184 [.ref a0, .int a1, .int a2, .int a3, .int a4] σ).bind fun q => ev 190 (23, L, q.1.toList ++ []) q.2)) ∧
  (∀ (l0 l1 l2 l3 l4 l5 : Option Value) (st : List Value) (σ : ri_S) (x : Int32), ev 190 (23, [l0, l1, l2, l3, l4, l5], .int x :: st) σ = ev 190 (25, [l0, l1, l2, l3, ri_clr l4, some (.int x)], st) σ) ∧
  (∀ (l0 l1 l2 l3 l4 : Option Value) (st : List Value) (σ : ri_S) (x : Int32), ev 190 (25, [l0, l1, l2, l3, l4, some (.int x)], st) σ = ev 190 (27, [l0, l1, l2, l3, l4, some (.int x)], .int x :: st) σ) ∧
  (∀ (L : ri_L) (st : List Value) (σ : ri_S), ev 190 (27, L, st) σ = ev 190 (28, L, .int (-1) :: st) σ) ∧
  (∀ (L : ri_L) (st : List Value) (σ : ri_S) (x y : Int32), ev 190 (28, L, .int y :: .int x :: st) σ = if x = y then ev 190 (103, L, st) σ else ev 190 (31, L, st) σ) ∧
  (∀ (l1 l2 l3 l4 l5 : Option Value) (st : List Value) (σ : ri_S) (x : Nat), ev 190 (31, [some (.ref x), l1, l2, l3, l4, l5], st) σ = ev 190 (32, [some (.ref x), l1, l2, l3, l4, l5], .ref x :: st) σ) ∧
  (∀ (l0 l1 l3 l4 l5 : Option Value) (st : List Value) (σ : ri_S) (x : Int32), ev 190 (32, [l0, l1, some (.int x), l3, l4, l5], st) σ = ev 190 (33, [l0, l1, some (.int x), l3, l4, l5], .int x :: st) σ) ∧
  (∀ (L : ri_L) (st : List Value) (σ : ri_S) (x : Int32), ev 190 (33, L, .int x :: st) σ = if x = 0 then ev 190 (66, L, st) σ else ev 190 (36, L, st) σ) ∧
  (∀ (l0 l2 l3 l4 l5 : Option Value) (st : List Value) (σ : ri_S) (x : Nat), ev 190 (36, [l0, some (.ref x), l2, l3, l4, l5], st) σ = ev 190 (37, [l0, some (.ref x), l2, l3, l4, l5], .ref x :: st) σ) ∧
  (∀ (l0 l1 l2 l4 l5 : Option Value) (st : List Value) (σ : ri_S) (x : Int32), ev 190 (37, [l0, l1, l2, some (.int x), l4, l5], st) σ = ev 190 (38, [l0, l1, l2, some (.int x), l4, l5], .int x :: st) σ) ∧
  (∀ (l0 l1 l2 l3 l5 : Option Value) (st : List Value) (σ : ri_S) (x : Int32), ev 190 (38, [l0, l1, l2, l3, some (.int x), l5], st) σ = ev 190 (40, [l0, l1, l2, l3, some (.int x), l5], .int x :: st) σ) ∧
  (∀ (L : ri_L) (σ : ri_S) (a0 : Nat) (a1 : Int32) (a2 : Int32) (s0 : Value), ev 190 (40, L, [.int a2, .int a1, .ref a0, s0]) σ = (cal 178 [.ref a0, .int a1, .int a2] σ).bind fun q => ev 190 (43, L, q.1.toList ++ [s0]) q.2) ∧
  (∀ (L : ri_L) (st : List Value) (σ : ri_S) (x : Int32), ev 190 (43, L, .int x :: st) σ = if x = 0 then ev 190 (62, L, st) σ else ev 190 (46, L, st) σ) ∧
  (∀ (l0 l2 l3 l4 l5 : Option Value) (st : List Value) (σ : ri_S) (x : Nat), ev 190 (46, [l0, some (.ref x), l2, l3, l4, l5], st) σ = ev 190 (47, [l0, some (.ref x), l2, l3, l4, l5], .ref x :: st) σ) ∧
  (∀ (l0 l1 l2 l4 l5 : Option Value) (st : List Value) (σ : ri_S) (x : Int32), ev 190 (47, [l0, l1, l2, some (.int x), l4, l5], st) σ = ev 190 (48, [l0, l1, l2, some (.int x), l4, l5], .int x :: st) σ) ∧
  (∀ (l0 l1 l2 l3 l5 : Option Value) (st : List Value) (σ : ri_S) (x : Int32), ev 190 (48, [l0, l1, l2, l3, some (.int x), l5], st) σ = ev 190 (50, [l0, l1, l2, l3, some (.int x), l5], .int x :: st) σ) ∧
  (∀ (l0 l1 l2 l3 l4 : Option Value) (st : List Value) (σ : ri_S) (x : Int32), ev 190 (50, [l0, l1, l2, l3, l4, some (.int x)], st) σ = ev 190 (52, [l0, l1, l2, l3, l4, some (.int x)], .int x :: st) σ) ∧
  (∀ (L : ri_L) (σ : ri_S) (a0 : Nat) (a1 : Int32) (a2 : Int32) (a3 : Int32) (s0 : Value), ev 190 (52, L, [.int a3, .int a2, .int a1, .ref a0, s0]) σ = (cal 179 [.ref a0, .int a1, .int a2, .int a3] σ).bind fun q => ev 190 (55, L, q.1.toList ++ [s0]) q.2) ∧
  (∀ (L : ri_L) (st : List Value) (σ : ri_S) (x : Int32), ev 190 (55, L, .int x :: st) σ = if x < 0 then ev 190 (62, L, st) σ else ev 190 (58, L, st) σ) ∧
  (∀ (L : ri_L) (st : List Value) (σ : ri_S), ev 190 (58, L, st) σ = ev 190 (59, L, .int 1 :: st) σ) ∧
  (∀ (L : ri_L) (st : List Value) (σ : ri_S), ev 190 (59, L, st) σ = ev 190 (93, L, st) σ) ∧
  (∀ (L : ri_L) (st : List Value) (σ : ri_S), ev 190 (62, L, st) σ = ev 190 (63, L, .int 0 :: st) σ) ∧
  (∀ (L : ri_L) (st : List Value) (σ : ri_S), ev 190 (63, L, st) σ = ev 190 (93, L, st) σ) ∧
  (∀ (l0 l2 l3 l4 l5 : Option Value) (st : List Value) (σ : ri_S) (x : Nat), ev 190 (66, [l0, some (.ref x), l2, l3, l4, l5], st) σ = ev 190 (67, [l0, some (.ref x), l2, l3, l4, l5], .ref x :: st) σ) ∧
  (∀ (l0 l1 l2 l4 l5 : Option Value) (st : List Value) (σ : ri_S) (x : Int32), ev 190 (67, [l0, l1, l2, some (.int x), l4, l5], st) σ = ev 190 (68, [l0, l1, l2, some (.int x), l4, l5], .int x :: st) σ) ∧
  (∀ (l0 l1 l2 l3 l5 : Option Value) (st : List Value) (σ : ri_S) (x : Int32), ev 190 (68, [l0, l1, l2, l3, some (.int x), l5], st) σ = ev 190 (70, [l0, l1, l2, l3, some (.int x), l5], .int x :: st) σ) ∧
  (∀ (L : ri_L) (σ : ri_S) (a0 : Nat) (a1 : Int32) (a2 : Int32) (s0 : Value), ev 190 (70, L, [.int a2, .int a1, .ref a0, s0]) σ = (cal 153 [.ref a0, .int a1, .int a2] σ).bind fun q => ev 190 (73, L, q.1.toList ++ [s0]) q.2) :=
  ⟨fun l1 l2 l3 l4 l5 st σ x => ev_p ((TP_190 _).trans rfl) rfl,
   fun L st σ => ev_p ((TP_190 _).trans rfl) rfl,
   fun L σ a0 a1 => ev_callv ((TP_190 _).trans rfl) rfl rfl rfl rfl,
   fun l0 l1 l2 l3 l4 l5 st σ x => ev_p ((TP_190 _).trans rfl) rfl,
   fun l1 l2 l3 l4 l5 st σ x => ev_p ((TP_190 _).trans rfl) rfl,
   fun l0 l1 l2 l4 l5 st σ x => ev_p ((TP_190 _).trans rfl) rfl,
   fun L σ a0 a1 => ev_callv ((TP_190 _).trans rfl) rfl rfl rfl rfl,
   fun l0 l1 l2 l3 l4 l5 st σ x => ev_p ((TP_190 _).trans rfl) rfl,
   fun l1 l2 l3 l4 l5 st σ x => ev_p ((TP_190 _).trans rfl) rfl,
   fun l0 l1 l2 l3 l5 st σ x => ev_p ((TP_190 _).trans rfl) rfl,
   fun L st σ => ev_p ((TP_190 _).trans rfl) rfl,
   fun L st σ => ev_p ((TP_190 _).trans rfl) rfl,
   fun L st σ => ev_p ((TP_190 _).trans rfl) rfl,
   fun L σ a0 a1 a2 a3 a4 => ev_callv ((TP_190 _).trans rfl) rfl rfl rfl rfl,
   fun l0 l1 l2 l3 l4 l5 st σ x => ev_p ((TP_190 _).trans rfl) rfl,
   fun l0 l1 l2 l3 l4 st σ x => ev_p ((TP_190 _).trans rfl) rfl,
   fun L st σ => ev_p ((TP_190 _).trans rfl) rfl,
   fun L st σ x y => ev_b ((TP_190 _).trans rfl) rfl,
   fun l1 l2 l3 l4 l5 st σ x => ev_p ((TP_190 _).trans rfl) rfl,
   fun l0 l1 l3 l4 l5 st σ x => ev_p ((TP_190 _).trans rfl) rfl,
   fun L st σ x => ev_b ((TP_190 _).trans rfl) rfl,
   fun l0 l2 l3 l4 l5 st σ x => ev_p ((TP_190 _).trans rfl) rfl,
   fun l0 l1 l2 l4 l5 st σ x => ev_p ((TP_190 _).trans rfl) rfl,
   fun l0 l1 l2 l3 l5 st σ x => ev_p ((TP_190 _).trans rfl) rfl,
   fun L σ a0 a1 a2 s0 => ev_call ((TP_190 _).trans rfl) rfl rfl rfl rfl,
   fun L st σ x => ev_b ((TP_190 _).trans rfl) rfl,
   fun l0 l2 l3 l4 l5 st σ x => ev_p ((TP_190 _).trans rfl) rfl,
   fun l0 l1 l2 l4 l5 st σ x => ev_p ((TP_190 _).trans rfl) rfl,
   fun l0 l1 l2 l3 l5 st σ x => ev_p ((TP_190 _).trans rfl) rfl,
   fun l0 l1 l2 l3 l4 st σ x => ev_p ((TP_190 _).trans rfl) rfl,
   fun L σ a0 a1 a2 a3 s0 => ev_call ((TP_190 _).trans rfl) rfl rfl rfl rfl,
   fun L st σ x => ev_b ((TP_190 _).trans rfl) rfl,
   fun L st σ => ev_p ((TP_190 _).trans rfl) rfl,
   fun L st σ => ev_p ((TP_190 _).trans rfl) rfl,
   fun L st σ => ev_p ((TP_190 _).trans rfl) rfl,
   fun L st σ => ev_p ((TP_190 _).trans rfl) rfl,
   fun l0 l2 l3 l4 l5 st σ x => ev_p ((TP_190 _).trans rfl) rfl,
   fun l0 l1 l2 l4 l5 st σ x => ev_p ((TP_190 _).trans rfl) rfl,
   fun l0 l1 l2 l3 l5 st σ x => ev_p ((TP_190 _).trans rfl) rfl,
   fun L σ a0 a1 a2 s0 => ev_call ((TP_190 _).trans rfl) rfl rfl rfl rfl⟩
theorem I_190_1 :
  (∀ (L : ri_L) (st : List Value) (σ : ri_S) (x : Int32), ev 190 (73, L, .int x :: st) σ = if x = 0 then ev 190 (92, L, st) σ else ev 190 (76, L, st) σ) ∧
  (∀ (l0 l2 l3 l4 l5 : Option Value) (st : List Value) (σ : ri_S) (x : Nat), ev 190 (76, [l0, some (.ref x), l2, l3, l4, l5], st) σ = ev 190 (77, [l0, some (.ref x), l2, l3, l4, l5], .ref x :: st) σ) ∧
  (∀ (l0 l1 l2 l4 l5 : Option Value) (st : List Value) (σ : ri_S) (x : Int32), ev 190 (77, [l0, l1, l2, some (.int x), l4, l5], st) σ = ev 190 (78, [l0, l1, l2, some (.int x), l4, l5], .int x :: st) σ) ∧
  (∀ (l0 l1 l2 l3 l5 : Option Value) (st : List Value) (σ : ri_S) (x : Int32), ev 190 (78, [l0, l1, l2, l3, some (.int x), l5], st) σ = ev 190 (80, [l0, l1, l2, l3, some (.int x), l5], .int x :: st) σ) ∧
  (∀ (l0 l1 l2 l3 l4 : Option Value) (st : List Value) (σ : ri_S) (x : Int32), ev 190 (80, [l0, l1, l2, l3, l4, some (.int x)], st) σ = ev 190 (82, [l0, l1, l2, l3, l4, some (.int x)], .int x :: st) σ) ∧
  (∀ (L : ri_L) (σ : ri_S) (a0 : Nat) (a1 : Int32) (a2 : Int32) (a3 : Int32) (s0 : Value), ev 190 (82, L, [.int a3, .int a2, .int a1, .ref a0, s0]) σ = (cal 180 [.ref a0, .int a1, .int a2, .int a3] σ).bind fun q => ev 190 (85, L, q.1.toList ++ [s0]) q.2) ∧
  (∀ (L : ri_L) (st : List Value) (σ : ri_S) (x : Int32), ev 190 (85, L, .int x :: st) σ = if x < 0 then ev 190 (92, L, st) σ else ev 190 (88, L, st) σ) ∧
  (∀ (L : ri_L) (st : List Value) (σ : ri_S), ev 190 (88, L, st) σ = ev 190 (89, L, .int 1 :: st) σ) ∧
  (∀ (L : ri_L) (st : List Value) (σ : ri_S), ev 190 (89, L, st) σ = ev 190 (93, L, st) σ) ∧
  (∀ (L : ri_L) (st : List Value) (σ : ri_S), ev 190 (92, L, st) σ = ev 190 (93, L, .int 0 :: st) σ) ∧
  (∀ (L : ri_L) (σ : ri_S) (a0 : Nat) (a1 : Int32), ev 190 (93, L, [.int a1, .ref a0]) σ = tv_k 9 (σ.1 a0) ((cal 185 [.ref a0, .int a1] σ).bind fun q => ev 190 (96, L, q.1.toList ++ []) q.2)) ∧
  (∀ (L : ri_L) (st : List Value) (σ : ri_S) (x : Int32), ev 190 (96, L, .int x :: st) σ = if x = 0 then ev 190 (103, L, st) σ else ev 190 (99, L, st) σ) ∧
  (∀ (L : ri_L) (st : List Value) (σ : ri_S), ev 190 (99, L, st) σ = ev 190 (100, L, .int 1 :: st) σ) ∧
  (∀ (L : ri_L) (st : List Value) (σ : ri_S), ev 190 (100, L, st) σ = ev 190 (104, L, st) σ) ∧
  (∀ (L : ri_L) (st : List Value) (σ : ri_S), ev 190 (103, L, st) σ = ev 190 (104, L, .int 0 :: st) σ) ∧
  (∀ (L : ri_L) (σ : ri_S) (x : Int32), ev 190 (104, L, [.int x]) σ = tv_b x (some (some (.int x), σ))) :=
  ⟨fun L st σ x => ev_b ((TP_190 _).trans rfl) rfl,
   fun l0 l2 l3 l4 l5 st σ x => ev_p ((TP_190 _).trans rfl) rfl,
   fun l0 l1 l2 l4 l5 st σ x => ev_p ((TP_190 _).trans rfl) rfl,
   fun l0 l1 l2 l3 l5 st σ x => ev_p ((TP_190 _).trans rfl) rfl,
   fun l0 l1 l2 l3 l4 st σ x => ev_p ((TP_190 _).trans rfl) rfl,
   fun L σ a0 a1 a2 a3 s0 => ev_call ((TP_190 _).trans rfl) rfl rfl rfl rfl,
   fun L st σ x => ev_b ((TP_190 _).trans rfl) rfl,
   fun L st σ => ev_p ((TP_190 _).trans rfl) rfl,
   fun L st σ => ev_p ((TP_190 _).trans rfl) rfl,
   fun L st σ => ev_p ((TP_190 _).trans rfl) rfl,
   fun L σ a0 a1 => ev_callv ((TP_190 _).trans rfl) rfl rfl rfl rfl,
   fun L st σ x => ev_b ((TP_190 _).trans rfl) rfl,
   fun L st σ => ev_p ((TP_190 _).trans rfl) rfl,
   fun L st σ => ev_p ((TP_190 _).trans rfl) rfl,
   fun L st σ => ev_p ((TP_190 _).trans rfl) rfl,
   fun L σ x => ev_r ((TP_190 _).trans rfl) rfl⟩
theorem TP_191 (pc : Nat) : TT 191 pc = ri_find TL_191 pc := rfl
theorem E_191 (x0 : Nat) (x1 : Nat) (σ : ri_S) : cal 191 [.ref x0, .ref x1] σ = ev 191 (0, [some (.ref x0), some (.ref x1), none, none], []) σ := rfl
theorem I_191_0 :
  (∀ (l1 l2 l3 : Option Value) (st : List Value) (σ : ri_S) (x : Nat), ev 191 (0, [some (.ref x), l1, l2, l3], st) σ = ev 191 (1, [some (.ref x), l1, l2, l3], .ref x :: st) σ) ∧
  (∀ (L : ri_L) (st : List Value) (σ : ri_S), ev 191 (1, L, st) σ = ev 191 (2, L, .int 0 :: st) σ) ∧
  (∀ (L : ri_L) (st : List Value) (σ : ri_S), ev 191 (2, L, st) σ = ev 191 (3, L, .int 1 :: st) σ) ∧
  (∀ (L : ri_L) (st : List Value) (σ : ri_S), ev 191 (3, L, st) σ = ev 191 (4, L, .int 0 :: st) σ) ∧
  (∀ (L : ri_L) (st : List Value) (σ : ri_S), ev 191 (4, L, st) σ = ev 191 (5, L, .int 4 :: st) σ) ∧
  (∀ (L : ri_L) (σ : ri_S) (a0 : Nat) (a1 : Int32) (a2 : Int32) (a3 : Int32) (a4 : Int32), ev 191 (5, L, [.int a4, .int a3, .int a2, .int a1, .ref a0]) σ = tv_k 9 (σ.1 a0) ((cal 184 [.ref a0, .int a1, .int a2, .int a3, .int a4] σ).bind fun q => ev 191 (8, L, q.1.toList ++ []) q.2)) ∧
  (∀ (l0 l1 l2 l3 : Option Value) (st : List Value) (σ : ri_S) (x : Int32), ev 191 (8, [l0, l1, l2, l3], .int x :: st) σ = ev 191 (9, [l0, ri_clr l1, some (.int x), l3], st) σ) ∧
  (∀ (l0 l1 l3 : Option Value) (st : List Value) (σ : ri_S) (x : Int32), ev 191 (9, [l0, l1, some (.int x), l3], st) σ = ev 191 (10, [l0, l1, some (.int x), l3], .int x :: st) σ) ∧
  (∀ (L : ri_L) (st : List Value) (σ : ri_S), ev 191 (10, L, st) σ = ev 191 (11, L, .int (-1) :: st) σ) ∧
  (∀ (L : ri_L) (st : List Value) (σ : ri_S) (x y : Int32), ev 191 (11, L, .int y :: .int x :: st) σ = if x = y then ev 191 (53, L, st) σ else ev 191 (14, L, st) σ) ∧
  (∀ (l1 l2 l3 : Option Value) (st : List Value) (σ : ri_S) (x : Nat), ev 191 (14, [some (.ref x), l1, l2, l3], st) σ = ev 191 (15, [some (.ref x), l1, l2, l3], .ref x :: st) σ) ∧
  (∀ (L : ri_L) (st : List Value) (σ : ri_S) (a : Nat), ev 191 (15, L, .ref a :: st) σ = tv_o 9 11 (σ.1 a) fun v => ev 191 (18, L, v :: st) σ) ∧
  (∀ (l1 l2 l3 : Option Value) (st : List Value) (σ : ri_S) (x : Nat), ev 191 (18, [some (.ref x), l1, l2, l3], st) σ = ev 191 (19, [some (.ref x), l1, l2, l3], .ref x :: st) σ) ∧
  (∀ (L : ri_L) (st : List Value) (σ : ri_S) (a : Nat), ev 191 (19, L, .ref a :: st) σ = tv_o 9 2 (σ.1 a) fun v => ev 191 (22, L, v :: st) σ) ∧
  (∀ (L : ri_L) (st : List Value) (σ : ri_S) (x y : Int32), ev 191 (22, L, .int y :: .int x :: st) σ = if x = y then ev 191 (53, L, st) σ else ev 191 (25, L, st) σ) ∧
  (∀ (l1 l2 l3 : Option Value) (st : List Value) (σ : ri_S) (x : Nat), ev 191 (25, [some (.ref x), l1, l2, l3], st) σ = ev 191 (26, [some (.ref x), l1, l2, l3], .ref x :: st) σ) ∧
  (∀ (L : ri_L) (st : List Value) (σ : ri_S) (a : Nat), ev 191 (26, L, .ref a :: st) σ = tv_o 9 1 (σ.1 a) fun v => ev 191 (29, L, v :: st) σ) ∧
  (∀ (l1 l2 l3 : Option Value) (st : List Value) (σ : ri_S) (x : Nat), ev 191 (29, [some (.ref x), l1, l2, l3], st) σ = ev 191 (30, [some (.ref x), l1, l2, l3], .ref x :: st) σ) ∧
  (∀ (L : ri_L) (st : List Value) (σ : ri_S) (a : Nat), ev 191 (30, L, .ref a :: st) σ = tv_o 9 11 (σ.1 a) fun v => ev 191 (33, L, v :: st) σ) ∧
  (∀ (L : ri_L) (st : List Value) (σ : ri_S) (a : Nat) (i : Int32), ev 191 (33, L, .int i :: .ref a :: st) σ = tv_r 0 (σ.1 a) i fun n f j => ev 191 (34, L, .int (f j) :: st) σ) ∧
  (∀ (L : ri_L) (st : List Value) (σ : ri_S), ev 191 (34, L, st) σ = ev 191 (36, L, .int 43 :: st) σ) ∧
  (∀ (L : ri_L) (st : List Value) (σ : ri_S) (x y : Int32), ev 191 (36, L, .int y :: .int x :: st) σ = if x = y then ev 191 (55, L, st) σ else ev 191 (39, L, st) σ) ∧
  (∀ (l1 l2 l3 : Option Value) (st : List Value) (σ : ri_S) (x : Nat), ev 191 (39, [some (.ref x), l1, l2, l3], st) σ = ev 191 (40, [some (.ref x), l1, l2, l3], .ref x :: st) σ) ∧
  (∀ (L : ri_L) (st : List Value) (σ : ri_S) (a : Nat), ev 191 (40, L, .ref a :: st) σ = tv_o 9 1 (σ.1 a) fun v => ev 191 (43, L, v :: st) σ) ∧
  (∀ (l1 l2 l3 : Option Value) (st : List Value) (σ : ri_S) (x : Nat), ev 191 (43, [some (.ref x), l1, l2, l3], st) σ = ev 191 (44, [some (.ref x), l1, l2, l3], .ref x :: st) σ) ∧
  (∀ (L : ri_L) (st : List Value) (σ : ri_S) (a : Nat), ev 191 (44, L, .ref a :: st) σ = tv_o 9 11 (σ.1 a) fun v => ev 191 (47, L, v :: st) σ) ∧
  (∀ (L : ri_L) (st : List Value) (σ : ri_S) (a : Nat) (i : Int32), ev 191 (47, L, .int i :: .ref a :: st) σ = tv_r 0 (σ.1 a) i fun n f j => ev 191 (48, L, .int (f j) :: st) σ) ∧
  (∀ (L : ri_L) (st : List Value) (σ : ri_S), ev 191 (48, L, st) σ = ev 191 (50, L, .int 45 :: st) σ) ∧
  (∀ (L : ri_L) (st : List Value) (σ : ri_S) (x y : Int32), ev 191 (50, L, .int y :: .int x :: st) σ = if x = y then ev 191 (55, L, st) σ else ev 191 (53, L, st) σ) ∧
  (∀ (L : ri_L) (st : List Value) (σ : ri_S), ev 191 (53, L, st) σ = ev 191 (54, L, .int 0 :: st) σ) ∧
  (∀ (L : ri_L) (σ : ri_S) (x : Int32), ev 191 (54, L, [.int x]) σ = tv_b x (some (some (.int x), σ))) ∧
  (∀ (l1 l2 l3 : Option Value) (st : List Value) (σ : ri_S) (x : Nat), ev 191 (55, [some (.ref x), l1, l2, l3], st) σ = ev 191 (56, [some (.ref x), l1, l2, l3], .ref x :: st) σ) ∧
  (∀ (L : ri_L) (st : List Value) (σ : ri_S) (a : Nat), ev 191 (56, L, .ref a :: st) σ = tv_o 9 1 (σ.1 a) fun v => ev 191 (59, L, v :: st) σ) ∧
  (∀ (l1 l2 l3 : Option Value) (st : List Value) (σ : ri_S) (x : Nat), ev 191 (59, [some (.ref x), l1, l2, l3], st) σ = ev 191 (60, [some (.ref x), l1, l2, l3], .ref x :: st) σ) ∧
  (∀ (L : ri_L) (st : List Value) (σ : ri_S) (a : Nat), ev 191 (60, L, .ref a :: st) σ = tv_o 9 11 (σ.1 a) fun v => ev 191 (63, L, v :: st) σ) ∧
  (∀ (L : ri_L) (st : List Value) (σ : ri_S) (a : Nat) (i : Int32), ev 191 (63, L, .int i :: .ref a :: st) σ = tv_r 0 (σ.1 a) i fun n f j => ev 191 (64, L, .int (f j) :: st) σ) ∧
  (∀ (L : ri_L) (st : List Value) (σ : ri_S), ev 191 (64, L, st) σ = ev 191 (66, L, .int 43 :: st) σ) ∧
  (∀ (L : ri_L) (st : List Value) (σ : ri_S) (x y : Int32), ev 191 (66, L, .int y :: .int x :: st) σ = if ¬ x = y then ev 191 (73, L, st) σ else ev 191 (69, L, st) σ) ∧
  (∀ (L : ri_L) (st : List Value) (σ : ri_S), ev 191 (69, L, st) σ = ev 191 (70, L, .int 1 :: st) σ) ∧
  (∀ (L : ri_L) (st : List Value) (σ : ri_S), ev 191 (70, L, st) σ = ev 191 (74, L, st) σ) :=
  ⟨fun l1 l2 l3 st σ x => ev_p ((TP_191 _).trans rfl) rfl,
   fun L st σ => ev_p ((TP_191 _).trans rfl) rfl,
   fun L st σ => ev_p ((TP_191 _).trans rfl) rfl,
   fun L st σ => ev_p ((TP_191 _).trans rfl) rfl,
   fun L st σ => ev_p ((TP_191 _).trans rfl) rfl,
   fun L σ a0 a1 a2 a3 a4 => ev_callv ((TP_191 _).trans rfl) rfl rfl rfl rfl,
   fun l0 l1 l2 l3 st σ x => ev_p ((TP_191 _).trans rfl) rfl,
   fun l0 l1 l3 st σ x => ev_p ((TP_191 _).trans rfl) rfl,
   fun L st σ => ev_p ((TP_191 _).trans rfl) rfl,
   fun L st σ x y => ev_b ((TP_191 _).trans rfl) rfl,
   fun l1 l2 l3 st σ x => ev_p ((TP_191 _).trans rfl) rfl,
   fun L st σ a => ev_getf ((TP_191 _).trans rfl),
   fun l1 l2 l3 st σ x => ev_p ((TP_191 _).trans rfl) rfl,
   fun L st σ a => ev_getf ((TP_191 _).trans rfl),
   fun L st σ x y => ev_b ((TP_191 _).trans rfl) rfl,
   fun l1 l2 l3 st σ x => ev_p ((TP_191 _).trans rfl) rfl,
   fun L st σ a => ev_getf ((TP_191 _).trans rfl),
   fun l1 l2 l3 st σ x => ev_p ((TP_191 _).trans rfl) rfl,
   fun L st σ a => ev_getf ((TP_191 _).trans rfl),
   fun L st σ a i => ev_iald ((TP_191 _).trans rfl),
   fun L st σ => ev_p ((TP_191 _).trans rfl) rfl,
   fun L st σ x y => ev_b ((TP_191 _).trans rfl) rfl,
   fun l1 l2 l3 st σ x => ev_p ((TP_191 _).trans rfl) rfl,
   fun L st σ a => ev_getf ((TP_191 _).trans rfl),
   fun l1 l2 l3 st σ x => ev_p ((TP_191 _).trans rfl) rfl,
   fun L st σ a => ev_getf ((TP_191 _).trans rfl),
   fun L st σ a i => ev_iald ((TP_191 _).trans rfl),
   fun L st σ => ev_p ((TP_191 _).trans rfl) rfl,
   fun L st σ x y => ev_b ((TP_191 _).trans rfl) rfl,
   fun L st σ => ev_p ((TP_191 _).trans rfl) rfl,
   fun L σ x => ev_r ((TP_191 _).trans rfl) rfl,
   fun l1 l2 l3 st σ x => ev_p ((TP_191 _).trans rfl) rfl,
   fun L st σ a => ev_getf ((TP_191 _).trans rfl),
   fun l1 l2 l3 st σ x => ev_p ((TP_191 _).trans rfl) rfl,
   fun L st σ a => ev_getf ((TP_191 _).trans rfl),
   fun L st σ a i => ev_iald ((TP_191 _).trans rfl),
   fun L st σ => ev_p ((TP_191 _).trans rfl) rfl,
   fun L st σ x y => ev_b ((TP_191 _).trans rfl) rfl,
   fun L st σ => ev_p ((TP_191 _).trans rfl) rfl,
   fun L st σ => ev_p ((TP_191 _).trans rfl) rfl⟩
theorem I_191_1 :
  (∀ (L : ri_L) (st : List Value) (σ : ri_S), ev 191 (73, L, st) σ = ev 191 (74, L, .int (-1) :: st) σ) ∧
  (∀ (l0 l1 l2 l3 : Option Value) (st : List Value) (σ : ri_S) (x : Int32), ev 191 (74, [l0, l1, l2, l3], .int x :: st) σ = ev 191 (75, [l0, l1, ri_clr l2, some (.int x)], st) σ) ∧
  (∀ (l1 l2 l3 : Option Value) (st : List Value) (σ : ri_S) (x : Nat), ev 191 (75, [some (.ref x), l1, l2, l3], st) σ = ev 191 (76, [some (.ref x), l1, l2, l3], .ref x :: st) σ) ∧
  (∀ (L : ri_L) (st : List Value) (σ : ri_S) (x : Nat), ev 191 (76, L, .ref x :: st) σ = ev 191 (77, L, .ref x :: .ref x :: st) σ) ∧
  (∀ (L : ri_L) (st : List Value) (σ : ri_S) (a : Nat), ev 191 (77, L, .ref a :: st) σ = tv_o 9 11 (σ.1 a) fun v => ev 191 (80, L, v :: st) σ) ∧
  (∀ (L : ri_L) (st : List Value) (σ : ri_S), ev 191 (80, L, st) σ = ev 191 (81, L, .int 1 :: st) σ) ∧
  (∀ (L : ri_L) (st : List Value) (σ : ri_S) (x y : Int32), ev 191 (81, L, .int y :: .int x :: st) σ = ev 191 (82, L, .int (x + y) :: st) σ) ∧
  (∀ (L : ri_L) (st : List Value) (σ : ri_S) (a : Nat) (x : Int32), ev 191 (82, L, .int x :: .ref a :: st) σ = tv_w 9 11 (σ.1 a) (.int x) fun fs => ev 191 (85, L, st) (ri_upd σ.1 a (.inr (.inr (9, fs))), σ.2)) ∧
  (∀ (l1 l2 l3 : Option Value) (st : List Value) (σ : ri_S) (x : Nat), ev 191 (85, [some (.ref x), l1, l2, l3], st) σ = ev 191 (86, [some (.ref x), l1, l2, l3], .ref x :: st) σ) ∧
  (∀ (l0 l2 l3 : Option Value) (st : List Value) (σ : ri_S) (x : Nat), ev 191 (86, [l0, some (.ref x), l2, l3], st) σ = ev 191 (87, [l0, some (.ref x), l2, l3], .ref x :: st) σ) ∧
  (∀ (l0 l1 l3 : Option Value) (st : List Value) (σ : ri_S) (x : Int32), ev 191 (87, [l0, l1, some (.int x), l3], st) σ = ev 191 (88, [l0, l1, some (.int x), l3], .int x :: st) σ) ∧
  (∀ (L : ri_L) (σ : ri_S) (a0 : Nat) (a1 : Int32) (s0 : Value), ev 191 (88, L, [.int a1, .ref a0, s0]) σ = (cal 154 [.ref a0, .int a1] σ).bind fun q => ev 191 (91, L, q.1.toList ++ [s0]) q.2) ∧
  (∀ (L : ri_L) (st : List Value) (σ : ri_S) (x : Int32), ev 191 (91, L, .int x :: st) σ = if x = 0 then ev 191 (107, L, st) σ else ev 191 (94, L, st) σ) ∧
  (∀ (l0 l2 l3 : Option Value) (st : List Value) (σ : ri_S) (x : Nat), ev 191 (94, [l0, some (.ref x), l2, l3], st) σ = ev 191 (95, [l0, some (.ref x), l2, l3], .ref x :: st) σ) ∧
  (∀ (l0 l1 l3 : Option Value) (st : List Value) (σ : ri_S) (x : Int32), ev 191 (95, [l0, l1, some (.int x), l3], st) σ = ev 191 (96, [l0, l1, some (.int x), l3], .int x :: st) σ) ∧
  (∀ (l0 l1 l2 : Option Value) (st : List Value) (σ : ri_S) (x : Int32), ev 191 (96, [l0, l1, l2, some (.int x)], st) σ = ev 191 (97, [l0, l1, l2, some (.int x)], .int x :: st) σ) ∧
  (∀ (L : ri_L) (σ : ri_S) (a0 : Nat) (a1 : Int32) (a2 : Int32) (s0 : Value), ev 191 (97, L, [.int a2, .int a1, .ref a0, s0]) σ = (cal 173 [.ref a0, .int a1, .int a2] σ).bind fun q => ev 191 (100, L, q.1.toList ++ [s0]) q.2) ∧
  (∀ (L : ri_L) (st : List Value) (σ : ri_S) (x : Int32), ev 191 (100, L, .int x :: st) σ = if ¬ x = 0 then ev 191 (107, L, st) σ else ev 191 (103, L, st) σ) ∧
  (∀ (L : ri_L) (st : List Value) (σ : ri_S), ev 191 (103, L, st) σ = ev 191 (104, L, .int 1 :: st) σ) ∧
  (∀ (L : ri_L) (st : List Value) (σ : ri_S), ev 191 (104, L, st) σ = ev 191 (108, L, st) σ) ∧
  (∀ (L : ri_L) (st : List Value) (σ : ri_S), ev 191 (107, L, st) σ = ev 191 (108, L, .int 0 :: st) σ) ∧
  (∀ (L : ri_L) (σ : ri_S) (a0 : Nat) (a1 : Int32), ev 191 (108, L, [.int a1, .ref a0]) σ = tv_k 9 (σ.1 a0) ((cal 185 [.ref a0, .int a1] σ).bind fun q => ev 191 (111, L, q.1.toList ++ []) q.2)) ∧
  (∀ (L : ri_L) (σ : ri_S) (x : Int32), ev 191 (111, L, [.int x]) σ = tv_b x (some (some (.int x), σ))) :=
  ⟨fun L st σ => ev_p ((TP_191 _).trans rfl) rfl,
   fun l0 l1 l2 l3 st σ x => ev_p ((TP_191 _).trans rfl) rfl,
   fun l1 l2 l3 st σ x => ev_p ((TP_191 _).trans rfl) rfl,
   fun L st σ x => ev_p ((TP_191 _).trans rfl) rfl,
   fun L st σ a => ev_getf ((TP_191 _).trans rfl),
   fun L st σ => ev_p ((TP_191 _).trans rfl) rfl,
   fun L st σ x y => ev_p ((TP_191 _).trans rfl) rfl,
   fun L st σ a x => ev_puti ((TP_191 _).trans rfl),
   fun l1 l2 l3 st σ x => ev_p ((TP_191 _).trans rfl) rfl,
   fun l0 l2 l3 st σ x => ev_p ((TP_191 _).trans rfl) rfl,
   fun l0 l1 l3 st σ x => ev_p ((TP_191 _).trans rfl) rfl,
   fun L σ a0 a1 s0 => ev_call ((TP_191 _).trans rfl) rfl rfl rfl rfl,
   fun L st σ x => ev_b ((TP_191 _).trans rfl) rfl,
   fun l0 l2 l3 st σ x => ev_p ((TP_191 _).trans rfl) rfl,
   fun l0 l1 l3 st σ x => ev_p ((TP_191 _).trans rfl) rfl,
   fun l0 l1 l2 st σ x => ev_p ((TP_191 _).trans rfl) rfl,
   fun L σ a0 a1 a2 s0 => ev_call ((TP_191 _).trans rfl) rfl rfl rfl rfl,
   fun L st σ x => ev_b ((TP_191 _).trans rfl) rfl,
   fun L st σ => ev_p ((TP_191 _).trans rfl) rfl,
   fun L st σ => ev_p ((TP_191 _).trans rfl) rfl,
   fun L st σ => ev_p ((TP_191 _).trans rfl) rfl,
   fun L σ a0 a1 => ev_callv ((TP_191 _).trans rfl) rfl rfl rfl rfl,
   fun L σ x => ev_r ((TP_191 _).trans rfl) rfl⟩
theorem TP_192 (pc : Nat) : TT 192 pc = ri_find TL_192 pc := rfl
theorem E_192 (x0 : Nat) (x1 : Nat) (σ : ri_S) : cal 192 [.ref x0, .ref x1] σ = ev 192 (0, [some (.ref x0), some (.ref x1), none, none, none], []) σ := rfl
set_option maxRecDepth 8000 in
theorem I_192_0 :
  (∀ (l1 l2 l3 l4 : Option Value) (st : List Value) (σ : ri_S) (x : Nat), ev 192 (0, [some (.ref x), l1, l2, l3, l4], st) σ = ev 192 (1, [some (.ref x), l1, l2, l3, l4], .ref x :: st) σ) ∧
  (∀ (L : ri_L) (st : List Value) (σ : ri_S) (a : Nat), ev 192 (1, L, .ref a :: st) σ = tv_o 9 1 (σ.1 a) fun v => ev 192 (4, L, v :: st) σ) ∧
  (∀ (l1 l2 l3 l4 : Option Value) (st : List Value) (σ : ri_S) (x : Nat), ev 192 (4, [some (.ref x), l1, l2, l3, l4], st) σ = ev 192 (5, [some (.ref x), l1, l2, l3, l4], .ref x :: st) σ) ∧
  (∀ (L : ri_L) (st : List Value) (σ : ri_S) (a : Nat), ev 192 (5, L, .ref a :: st) σ = tv_o 9 11 (σ.1 a) fun v => ev 192 (8, L, v :: st) σ) ∧
  (∀ (L : ri_L) (st : List Value) (σ : ri_S) (a : Nat) (i : Int32), ev 192 (8, L, .int i :: .ref a :: st) σ = tv_r 0 (σ.1 a) i fun n f j => ev 192 (9, L, .int (f j) :: st) σ) ∧
  (∀ (l0 l1 l2 l3 l4 : Option Value) (st : List Value) (σ : ri_S) (x : Int32), ev 192 (9, [l0, l1, l2, l3, l4], .int x :: st) σ = ev 192 (10, [l0, ri_clr l1, some (.int x), l3, l4], st) σ) ∧
  (∀ (l1 l2 l3 l4 : Option Value) (st : List Value) (σ : ri_S) (x : Nat), ev 192 (10, [some (.ref x), l1, l2, l3, l4], st) σ = ev 192 (11, [some (.ref x), l1, l2, l3, l4], .ref x :: st) σ) ∧
  (∀ (L : ri_L) (st : List Value) (σ : ri_S) (x : Nat), ev 192 (11, L, .ref x :: st) σ = ev 192 (12, L, .ref x :: .ref x :: st) σ) ∧
  (∀ (L : ri_L) (st : List Value) (σ : ri_S) (a : Nat), ev 192 (12, L, .ref a :: st) σ = tv_o 9 11 (σ.1 a) fun v => ev 192 (15, L, v :: st) σ) ∧
  (∀ (L : ri_L) (st : List Value) (σ : ri_S), ev 192 (15, L, st) σ = ev 192 (16, L, .int 1 :: st) σ) ∧
  (∀ (L : ri_L) (st : List Value) (σ : ri_S) (x y : Int32), ev 192 (16, L, .int y :: .int x :: st) σ = ev 192 (17, L, .int (x + y) :: st) σ) ∧
  (∀ (L : ri_L) (st : List Value) (σ : ri_S) (a : Nat) (x : Int32), ev 192 (17, L, .int x :: .ref a :: st) σ = tv_w 9 11 (σ.1 a) (.int x) fun fs => ev 192 (20, L, st) (ri_upd σ.1 a (.inr (.inr (9, fs))), σ.2)) ∧
  (∀ (l0 l1 l3 l4 : Option Value) (st : List Value) (σ : ri_S) (x : Int32), ev 192 (20, [l0, l1, some (.int x), l3, l4], st) σ = ev 192 (21, [l0, l1, some (.int x), l3, l4], .int x :: st) σ) ∧
  (∀ (L : ri_L) (st : List Value) (σ : ri_S) (x : Int32), ev 192 (21, L, .int x :: st) σ = if x = 102 then ev 192 (128, L, st) σ else if x = 103 then ev 192 (280, L, st) σ else if x = 104 then ev 192 (216, L, st) σ else if x = 105 then ev 192 (280, L, st) σ else if x = 106 then ev 192 (145, L, st) σ else if x = 107 then ev 192 (280, L, st) σ else if x = 108 then ev 192 (122, L, st) σ else if x = 109 then ev 192 (280, L, st) σ else if x = 110 then ev 192 (280, L, st) σ else if x = 111 then ev 192 (280, L, st) σ else if x = 112 then ev 192 (280, L, st) σ else if x = 113 then ev 192 (280, L, st) σ else if x = 114 then ev 192 (280, L, st) σ else if x = 115 then ev 192 (280, L, st) σ else if x = 116 then ev 192 (222, L, st) σ else if x = 117 then ev 192 (280, L, st) σ else if x = 118 then ev 192 (280, L, st) σ else if x = 119 then ev 192 (116, L, st) σ else if x = 120 then ev 192 (280, L, st) σ else if x = 121 then ev 192 (128, L, st) σ else ev 192 (280, L, st) σ) ∧
  (∀ (l1 l2 l3 l4 : Option Value) (st : List Value) (σ : ri_S) (x : Nat), ev 192 (116, [some (.ref x), l1, l2, l3, l4], st) σ = ev 192 (117, [some (.ref x), l1, l2, l3, l4], .ref x :: st) σ) ∧
  (∀ (l0 l2 l3 l4 : Option Value) (st : List Value) (σ : ri_S) (x : Nat), ev 192 (117, [l0, some (.ref x), l2, l3, l4], st) σ = ev 192 (118, [l0, some (.ref x), l2, l3, l4], .ref x :: st) σ) ∧
  (∀ (L : ri_L) (σ : ri_S) (a0 : Nat) (a1 : Nat), ev 192 (118, L, [.ref a1, .ref a0]) σ = tv_k 9 (σ.1 a0) ((cal 188 [.ref a0, .ref a1] σ).bind fun q => ev 192 (121, L, q.1.toList ++ []) q.2)) ∧
  (∀ (L : ri_L) (σ : ri_S) (x : Int32), ev 192 (121, L, [.int x]) σ = tv_b x (some (some (.int x), σ))) ∧
  (∀ (l1 l2 l3 l4 : Option Value) (st : List Value) (σ : ri_S) (x : Nat), ev 192 (122, [some (.ref x), l1, l2, l3, l4], st) σ = ev 192 (123, [some (.ref x), l1, l2, l3, l4], .ref x :: st) σ) ∧
  (∀ (l0 l2 l3 l4 : Option Value) (st : List Value) (σ : ri_S) (x : Nat), ev 192 (123, [l0, some (.ref x), l2, l3, l4], st) σ = ev 192 (124, [l0, some (.ref x), l2, l3, l4], .ref x :: st) σ) ∧
  (∀ (L : ri_L) (σ : ri_S) (a0 : Nat) (a1 : Nat), ev 192 (124, L, [.ref a1, .ref a0]) σ = tv_k 9 (σ.1 a0) ((cal 189 [.ref a0, .ref a1] σ).bind fun q => ev 192 (127, L, q.1.toList ++ []) q.2)) ∧
  (∀ (L : ri_L) (σ : ri_S) (x : Int32), ev 192 (127, L, [.int x]) σ = tv_b x (some (some (.int x), σ))) ∧
  (∀ (l1 l2 l3 l4 : Option Value) (st : List Value) (σ : ri_S) (x : Nat), ev 192 (128, [some (.ref x), l1, l2, l3, l4], st) σ = ev 192 (129, [some (.ref x), l1, l2, l3, l4], .ref x :: st) σ) ∧
  (∀ (l0 l2 l3 l4 : Option Value) (st : List Value) (σ : ri_S) (x : Nat), ev 192 (129, [l0, some (.ref x), l2, l3, l4], st) σ = ev 192 (130, [l0, some (.ref x), l2, l3, l4], .ref x :: st) σ) ∧
  (∀ (l0 l1 l3 l4 : Option Value) (st : List Value) (σ : ri_S) (x : Int32), ev 192 (130, [l0, l1, some (.int x), l3, l4], st) σ = ev 192 (131, [l0, l1, some (.int x), l3, l4], .int x :: st) σ) ∧
  (∀ (L : ri_L) (st : List Value) (σ : ri_S), ev 192 (131, L, st) σ = ev 192 (133, L, .int 102 :: st) σ) ∧
  (∀ (L : ri_L) (st : List Value) (σ : ri_S) (x y : Int32), ev 192 (133, L, .int y :: .int x :: st) σ = if ¬ x = y then ev 192 (140, L, st) σ else ev 192 (136, L, st) σ) ∧
  (∀ (L : ri_L) (st : List Value) (σ : ri_S), ev 192 (136, L, st) σ = ev 192 (137, L, .int 1 :: st) σ) ∧
  (∀ (L : ri_L) (st : List Value) (σ : ri_S), ev 192 (137, L, st) σ = ev 192 (141, L, st) σ) ∧
  (∀ (L : ri_L) (st : List Value) (σ : ri_S), ev 192 (140, L, st) σ = ev 192 (141, L, .int 0 :: st) σ) ∧
  (∀ (L : ri_L) (σ : ri_S) (a0 : Nat) (a1 : Nat) (a2 : Int32), ev 192 (141, L, [.int a2, .ref a1, .ref a0]) σ = tv_k 9 (σ.1 a0) ((cal 190 [.ref a0, .ref a1, .int a2] σ).bind fun q => ev 192 (144, L, q.1.toList ++ []) q.2)) ∧
  (∀ (L : ri_L) (σ : ri_S) (x : Int32), ev 192 (144, L, [.int x]) σ = tv_b x (some (some (.int x), σ))) ∧
  (∀ (l1 l2 l3 l4 : Option Value) (st : List Value) (σ : ri_S) (x : Nat), ev 192 (145, [some (.ref x), l1, l2, l3, l4], st) σ = ev 192 (146, [some (.ref x), l1, l2, l3, l4], .ref x :: st) σ) ∧
  (∀ (L : ri_L) (st : List Value) (σ : ri_S), ev 192 (146, L, st) σ = ev 192 (147, L, .int 0 :: st) σ) ∧
  (∀ (L : ri_L) (st : List Value) (σ : ri_S), ev 192 (147, L, st) σ = ev 192 (148, L, .int 1 :: st) σ) ∧
  (∀ (L : ri_L) (st : List Value) (σ : ri_S), ev 192 (148, L, st) σ = ev 192 (149, L, .int 0 :: st) σ) ∧
  (∀ (L : ri_L) (st : List Value) (σ : ri_S), ev 192 (149, L, st) σ = ev 192 (150, L, .int 4 :: st) σ) ∧
  (∀ (L : ri_L) (σ : ri_S) (a0 : Nat) (a1 : Int32) (a2 : Int32) (a3 : Int32) (a4 : Int32), ev 192 (150, L, [.int a4, .int a3, .int a2, .int a1, .ref a0]) σ = tv_k 9 (σ.1 a0) ((cal 184 [.ref a0, .int a1, .int a2, .int a3, .int a4] σ).bind fun q => ev 192 (153, L, q.1.toList ++ []) q.2)) ∧
  (∀ (l0 l1 l2 l3 l4 : Option Value) (st : List Value) (σ : ri_S) (x : Int32), ev 192 (153, [l0, l1, l2, l3, l4], .int x :: st) σ = ev 192 (154, [l0, l1, ri_clr l2, some (.int x), l4], st) σ) ∧
  (∀ (l1 l2 l3 l4 : Option Value) (st : List Value) (σ : ri_S) (x : Nat), ev 192 (154, [some (.ref x), l1, l2, l3, l4], st) σ = ev 192 (155, [some (.ref x), l1, l2, l3, l4], .ref x :: st) σ) :=
  ⟨fun l1 l2 l3 l4 st σ x => ev_p ((TP_192 _).trans rfl) rfl,
   fun L st σ a => ev_getf ((TP_192 _).trans rfl),
   fun l1 l2 l3 l4 st σ x => ev_p ((TP_192 _).trans rfl) rfl,
   fun L st σ a => ev_getf ((TP_192 _).trans rfl),
   fun L st σ a i => ev_iald ((TP_192 _).trans rfl),
   fun l0 l1 l2 l3 l4 st σ x => ev_p ((TP_192 _).trans rfl) rfl,
   fun l1 l2 l3 l4 st σ x => ev_p ((TP_192 _).trans rfl) rfl,
   fun L st σ x => ev_p ((TP_192 _).trans rfl) rfl,
   fun L st σ a => ev_getf ((TP_192 _).trans rfl),
   fun L st σ => ev_p ((TP_192 _).trans rfl) rfl,
   fun L st σ x y => ev_p ((TP_192 _).trans rfl) rfl,
   fun L st σ a x => ev_puti ((TP_192 _).trans rfl),
   fun l0 l1 l3 l4 st σ x => ev_p ((TP_192 _).trans rfl) rfl,
   fun L st σ x => (ev_sw (lo := 102) (ts := [128, 280, 216, 280, 145, 280, 122, 280, 280, 280, 280, 280, 280, 280, 222, 280, 280, 116, 280, 128]) (d := 280) ((TP_192 _).trans rfl)).trans (by simp only [ev_tab, ev_tab0, show (102 : Int32) + 1 = 103 from rfl, show (103 : Int32) + 1 = 104 from rfl, show (104 : Int32) + 1 = 105 from rfl, show (105 : Int32) + 1 = 106 from rfl, show (106 : Int32) + 1 = 107 from rfl, show (107 : Int32) + 1 = 108 from rfl, show (108 : Int32) + 1 = 109 from rfl, show (109 : Int32) + 1 = 110 from rfl, show (110 : Int32) + 1 = 111 from rfl, show (111 : Int32) + 1 = 112 from rfl, show (112 : Int32) + 1 = 113 from rfl, show (113 : Int32) + 1 = 114 from rfl, show (114 : Int32) + 1 = 115 from rfl, show (115 : Int32) + 1 = 116 from rfl, show (116 : Int32) + 1 = 117 from rfl, show (117 : Int32) + 1 = 118 from rfl, show (118 : Int32) + 1 = 119 from rfl, show (119 : Int32) + 1 = 120 from rfl, show (120 : Int32) + 1 = 121 from rfl, show (121 : Int32) + 1 = 122 from rfl]),
   fun l1 l2 l3 l4 st σ x => ev_p ((TP_192 _).trans rfl) rfl,
   fun l0 l2 l3 l4 st σ x => ev_p ((TP_192 _).trans rfl) rfl,
   fun L σ a0 a1 => ev_callv ((TP_192 _).trans rfl) rfl rfl rfl rfl,
   fun L σ x => ev_r ((TP_192 _).trans rfl) rfl,
   fun l1 l2 l3 l4 st σ x => ev_p ((TP_192 _).trans rfl) rfl,
   fun l0 l2 l3 l4 st σ x => ev_p ((TP_192 _).trans rfl) rfl,
   fun L σ a0 a1 => ev_callv ((TP_192 _).trans rfl) rfl rfl rfl rfl,
   fun L σ x => ev_r ((TP_192 _).trans rfl) rfl,
   fun l1 l2 l3 l4 st σ x => ev_p ((TP_192 _).trans rfl) rfl,
   fun l0 l2 l3 l4 st σ x => ev_p ((TP_192 _).trans rfl) rfl,
   fun l0 l1 l3 l4 st σ x => ev_p ((TP_192 _).trans rfl) rfl,
   fun L st σ => ev_p ((TP_192 _).trans rfl) rfl,
   fun L st σ x y => ev_b ((TP_192 _).trans rfl) rfl,
   fun L st σ => ev_p ((TP_192 _).trans rfl) rfl,
   fun L st σ => ev_p ((TP_192 _).trans rfl) rfl,
   fun L st σ => ev_p ((TP_192 _).trans rfl) rfl,
   fun L σ a0 a1 a2 => ev_callv ((TP_192 _).trans rfl) rfl rfl rfl rfl,
   fun L σ x => ev_r ((TP_192 _).trans rfl) rfl,
   fun l1 l2 l3 l4 st σ x => ev_p ((TP_192 _).trans rfl) rfl,
   fun L st σ => ev_p ((TP_192 _).trans rfl) rfl,
   fun L st σ => ev_p ((TP_192 _).trans rfl) rfl,
   fun L st σ => ev_p ((TP_192 _).trans rfl) rfl,
   fun L st σ => ev_p ((TP_192 _).trans rfl) rfl,
   fun L σ a0 a1 a2 a3 a4 => ev_callv ((TP_192 _).trans rfl) rfl rfl rfl rfl,
   fun l0 l1 l2 l3 l4 st σ x => ev_p ((TP_192 _).trans rfl) rfl,
   fun l1 l2 l3 l4 st σ x => ev_p ((TP_192 _).trans rfl) rfl⟩
set_option maxRecDepth 8000 in
theorem I_192_1 :
  (∀ (l0 l1 l2 l4 : Option Value) (st : List Value) (σ : ri_S) (x : Int32), ev 192 (155, [l0, l1, l2, some (.int x), l4], st) σ = ev 192 (156, [l0, l1, l2, some (.int x), l4], .int x :: st) σ) ∧
  (∀ (L : ri_L) (st : List Value) (σ : ri_S), ev 192 (156, L, st) σ = ev 192 (157, L, .int 1 :: st) σ) ∧
  (∀ (L : ri_L) (st : List Value) (σ : ri_S), ev 192 (157, L, st) σ = ev 192 (158, L, .int 0 :: st) σ) ∧
  (∀ (L : ri_L) (st : List Value) (σ : ri_S), ev 192 (158, L, st) σ = ev 192 (160, L, .int 7 :: st) σ) ∧
  (∀ (L : ri_L) (σ : ri_S) (a0 : Nat) (a1 : Int32) (a2 : Int32) (a3 : Int32) (a4 : Int32), ev 192 (160, L, [.int a4, .int a3, .int a2, .int a1, .ref a0]) σ = tv_k 9 (σ.1 a0) ((cal 184 [.ref a0, .int a1, .int a2, .int a3, .int a4] σ).bind fun q => ev 192 (163, L, q.1.toList ++ []) q.2)) ∧
  (∀ (l0 l1 l2 l3 l4 : Option Value) (st : List Value) (σ : ri_S) (x : Int32), ev 192 (163, [l0, l1, l2, l3, l4], .int x :: st) σ = ev 192 (165, [l0, l1, l2, ri_clr l3, some (.int x)], st) σ) ∧
  (∀ (l0 l1 l2 l3 : Option Value) (st : List Value) (σ : ri_S) (x : Int32), ev 192 (165, [l0, l1, l2, l3, some (.int x)], st) σ = ev 192 (167, [l0, l1, l2, l3, some (.int x)], .int x :: st) σ) ∧
  (∀ (L : ri_L) (st : List Value) (σ : ri_S), ev 192 (167, L, st) σ = ev 192 (168, L, .int (-1) :: st) σ) ∧
  (∀ (L : ri_L) (st : List Value) (σ : ri_S) (x y : Int32), ev 192 (168, L, .int y :: .int x :: st) σ = if x = y then ev 192 (214, L, st) σ else ev 192 (171, L, st) σ) ∧
  (∀ (l1 l2 l3 l4 : Option Value) (st : List Value) (σ : ri_S) (x : Nat), ev 192 (171, [some (.ref x), l1, l2, l3, l4], st) σ = ev 192 (172, [some (.ref x), l1, l2, l3, l4], .ref x :: st) σ) ∧
  (∀ (l0 l2 l3 l4 : Option Value) (st : List Value) (σ : ri_S) (x : Nat), ev 192 (172, [l0, some (.ref x), l2, l3, l4], st) σ = ev 192 (173, [l0, some (.ref x), l2, l3, l4], .ref x :: st) σ) ∧
  (∀ (l0 l1 l2 l4 : Option Value) (st : List Value) (σ : ri_S) (x : Int32), ev 192 (173, [l0, l1, l2, some (.int x), l4], st) σ = ev 192 (174, [l0, l1, l2, some (.int x), l4], .int x :: st) σ) ∧
  (∀ (L : ri_L) (σ : ri_S) (a0 : Nat) (a1 : Int32) (s0 : Value), ev 192 (174, L, [.int a1, .ref a0, s0]) σ = (cal 154 [.ref a0, .int a1] σ).bind fun q => ev 192 (177, L, q.1.toList ++ [s0]) q.2) ∧
  (∀ (L : ri_L) (st : List Value) (σ : ri_S) (x : Int32), ev 192 (177, L, .int x :: st) σ = if x = 0 then ev 192 (203, L, st) σ else ev 192 (180, L, st) σ) ∧
  (∀ (l0 l2 l3 l4 : Option Value) (st : List Value) (σ : ri_S) (x : Nat), ev 192 (180, [l0, some (.ref x), l2, l3, l4], st) σ = ev 192 (181, [l0, some (.ref x), l2, l3, l4], .ref x :: st) σ) ∧
  (∀ (l0 l1 l2 l3 : Option Value) (st : List Value) (σ : ri_S) (x : Int32), ev 192 (181, [l0, l1, l2, l3, some (.int x)], st) σ = ev 192 (183, [l0, l1, l2, l3, some (.int x)], .int x :: st) σ) ∧
  (∀ (L : ri_L) (σ : ri_S) (a0 : Nat) (a1 : Int32) (s0 : Value), ev 192 (183, L, [.int a1, .ref a0, s0]) σ = (cal 155 [.ref a0, .int a1] σ).bind fun q => ev 192 (186, L, q.1.toList ++ [s0]) q.2) ∧
  (∀ (L : ri_L) (st : List Value) (σ : ri_S) (x : Int32), ev 192 (186, L, .int x :: st) σ = if x = 0 then ev 192 (203, L, st) σ else ev 192 (189, L, st) σ) ∧
  (∀ (l0 l2 l3 l4 : Option Value) (st : List Value) (σ : ri_S) (x : Nat), ev 192 (189, [l0, some (.ref x), l2, l3, l4], st) σ = ev 192 (190, [l0, some (.ref x), l2, l3, l4], .ref x :: st) σ) ∧
  (∀ (l0 l1 l2 l4 : Option Value) (st : List Value) (σ : ri_S) (x : Int32), ev 192 (190, [l0, l1, l2, some (.int x), l4], st) σ = ev 192 (191, [l0, l1, l2, some (.int x), l4], .int x :: st) σ) ∧
  (∀ (l0 l1 l2 l3 : Option Value) (st : List Value) (σ : ri_S) (x : Int32), ev 192 (191, [l0, l1, l2, l3, some (.int x)], st) σ = ev 192 (193, [l0, l1, l2, l3, some (.int x)], .int x :: st) σ) ∧
  (∀ (L : ri_L) (σ : ri_S) (a0 : Nat) (a1 : Int32) (a2 : Int32) (s0 : Value), ev 192 (193, L, [.int a2, .int a1, .ref a0, s0]) σ = (cal 172 [.ref a0, .int a1, .int a2] σ).bind fun q => ev 192 (196, L, q.1.toList ++ [s0]) q.2) ∧
  (∀ (L : ri_L) (st : List Value) (σ : ri_S) (x : Int32), ev 192 (196, L, .int x :: st) σ = if ¬ x = 0 then ev 192 (203, L, st) σ else ev 192 (199, L, st) σ) ∧
  (∀ (L : ri_L) (st : List Value) (σ : ri_S), ev 192 (199, L, st) σ = ev 192 (200, L, .int 1 :: st) σ) ∧
  (∀ (L : ri_L) (st : List Value) (σ : ri_S), ev 192 (200, L, st) σ = ev 192 (204, L, st) σ) ∧
  (∀ (L : ri_L) (st : List Value) (σ : ri_S), ev 192 (203, L, st) σ = ev 192 (204, L, .int 0 :: st) σ) ∧
  (∀ (L : ri_L) (σ : ri_S) (a0 : Nat) (a1 : Int32), ev 192 (204, L, [.int a1, .ref a0]) σ = tv_k 9 (σ.1 a0) ((cal 185 [.ref a0, .int a1] σ).bind fun q => ev 192 (207, L, q.1.toList ++ []) q.2)) ∧
  (∀ (L : ri_L) (st : List Value) (σ : ri_S) (x : Int32), ev 192 (207, L, .int x :: st) σ = if x = 0 then ev 192 (214, L, st) σ else ev 192 (210, L, st) σ) ∧
  (∀ (L : ri_L) (st : List Value) (σ : ri_S), ev 192 (210, L, st) σ = ev 192 (211, L, .int 1 :: st) σ) ∧
  (∀ (L : ri_L) (st : List Value) (σ : ri_S), ev 192 (211, L, st) σ = ev 192 (215, L, st) σ) ∧
  (∀ (L : ri_L) (st : List Value) (σ : ri_S), ev 192 (214, L, st) σ = ev 192 (215, L, .int 0 :: st) σ) ∧
  (∀ (L : ri_L) (σ : ri_S) (x : Int32), ev 192 (215, L, [.int x]) σ = tv_b x (some (some (.int x), σ))) ∧
  (∀ (l1 l2 l3 l4 : Option Value) (st : List Value) (σ : ri_S) (x : Nat), ev 192 (216, [some (.ref x), l1, l2, l3, l4], st) σ = ev 192 (217, [some (.ref x), l1, l2, l3, l4], .ref x :: st) σ) ∧
  (∀ (l0 l2 l3 l4 : Option Value) (st : List Value) (σ : ri_S) (x : Nat), ev 192 (217, [l0, some (.ref x), l2, l3, l4], st) σ = ev 192 (218, [l0, some (.ref x), l2, l3, l4], .ref x :: st) σ) ∧
  (∀ (L : ri_L) (σ : ri_S) (a0 : Nat) (a1 : Nat), ev 192 (218, L, [.ref a1, .ref a0]) σ = tv_k 9 (σ.1 a0) ((cal 191 [.ref a0, .ref a1] σ).bind fun q => ev 192 (221, L, q.1.toList ++ []) q.2)) ∧
  (∀ (L : ri_L) (σ : ri_S) (x : Int32), ev 192 (221, L, [.int x]) σ = tv_b x (some (some (.int x), σ))) ∧
  (∀ (l1 l2 l3 l4 : Option Value) (st : List Value) (σ : ri_S) (x : Nat), ev 192 (222, [some (.ref x), l1, l2, l3, l4], st) σ = ev 192 (223, [some (.ref x), l1, l2, l3, l4], .ref x :: st) σ) ∧
  (∀ (L : ri_L) (st : List Value) (σ : ri_S), ev 192 (223, L, st) σ = ev 192 (224, L, .int 0 :: st) σ) ∧
  (∀ (L : ri_L) (σ : ri_S) (a0 : Nat) (a1 : Int32), ev 192 (224, L, [.int a1, .ref a0]) σ = tv_k 9 (σ.1 a0) ((cal 186 [.ref a0, .int a1] σ).bind fun q => ev 192 (227, L, q.1.toList ++ []) q.2)) ∧
  (∀ (l0 l1 l2 l3 l4 : Option Value) (st : List Value) (σ : ri_S) (x : Int32), ev 192 (227, [l0, l1, l2, l3, l4], .int x :: st) σ = ev 192 (228, [l0, l1, ri_clr l2, some (.int x), l4], st) σ) :=
  ⟨fun l0 l1 l2 l4 st σ x => ev_p ((TP_192 _).trans rfl) rfl,
   fun L st σ => ev_p ((TP_192 _).trans rfl) rfl,
   fun L st σ => ev_p ((TP_192 _).trans rfl) rfl,
   fun L st σ => ev_p ((TP_192 _).trans rfl) rfl,
   fun L σ a0 a1 a2 a3 a4 => ev_callv ((TP_192 _).trans rfl) rfl rfl rfl rfl,
   fun l0 l1 l2 l3 l4 st σ x => ev_p ((TP_192 _).trans rfl) rfl,
   fun l0 l1 l2 l3 st σ x => ev_p ((TP_192 _).trans rfl) rfl,
   fun L st σ => ev_p ((TP_192 _).trans rfl) rfl,
   fun L st σ x y => ev_b ((TP_192 _).trans rfl) rfl,
   fun l1 l2 l3 l4 st σ x => ev_p ((TP_192 _).trans rfl) rfl,
   fun l0 l2 l3 l4 st σ x => ev_p ((TP_192 _).trans rfl) rfl,
   fun l0 l1 l2 l4 st σ x => ev_p ((TP_192 _).trans rfl) rfl,
   fun L σ a0 a1 s0 => ev_call ((TP_192 _).trans rfl) rfl rfl rfl rfl,
   fun L st σ x => ev_b ((TP_192 _).trans rfl) rfl,
   fun l0 l2 l3 l4 st σ x => ev_p ((TP_192 _).trans rfl) rfl,
   fun l0 l1 l2 l3 st σ x => ev_p ((TP_192 _).trans rfl) rfl,
   fun L σ a0 a1 s0 => ev_call ((TP_192 _).trans rfl) rfl rfl rfl rfl,
   fun L st σ x => ev_b ((TP_192 _).trans rfl) rfl,
   fun l0 l2 l3 l4 st σ x => ev_p ((TP_192 _).trans rfl) rfl,
   fun l0 l1 l2 l4 st σ x => ev_p ((TP_192 _).trans rfl) rfl,
   fun l0 l1 l2 l3 st σ x => ev_p ((TP_192 _).trans rfl) rfl,
   fun L σ a0 a1 a2 s0 => ev_call ((TP_192 _).trans rfl) rfl rfl rfl rfl,
   fun L st σ x => ev_b ((TP_192 _).trans rfl) rfl,
   fun L st σ => ev_p ((TP_192 _).trans rfl) rfl,
   fun L st σ => ev_p ((TP_192 _).trans rfl) rfl,
   fun L st σ => ev_p ((TP_192 _).trans rfl) rfl,
   fun L σ a0 a1 => ev_callv ((TP_192 _).trans rfl) rfl rfl rfl rfl,
   fun L st σ x => ev_b ((TP_192 _).trans rfl) rfl,
   fun L st σ => ev_p ((TP_192 _).trans rfl) rfl,
   fun L st σ => ev_p ((TP_192 _).trans rfl) rfl,
   fun L st σ => ev_p ((TP_192 _).trans rfl) rfl,
   fun L σ x => ev_r ((TP_192 _).trans rfl) rfl,
   fun l1 l2 l3 l4 st σ x => ev_p ((TP_192 _).trans rfl) rfl,
   fun l0 l2 l3 l4 st σ x => ev_p ((TP_192 _).trans rfl) rfl,
   fun L σ a0 a1 => ev_callv ((TP_192 _).trans rfl) rfl rfl rfl rfl,
   fun L σ x => ev_r ((TP_192 _).trans rfl) rfl,
   fun l1 l2 l3 l4 st σ x => ev_p ((TP_192 _).trans rfl) rfl,
   fun L st σ => ev_p ((TP_192 _).trans rfl) rfl,
   fun L σ a0 a1 => ev_callv ((TP_192 _).trans rfl) rfl rfl rfl rfl,
   fun l0 l1 l2 l3 l4 st σ x => ev_p ((TP_192 _).trans rfl) rfl⟩
set_option maxRecDepth 8000 in
theorem I_192_2 :
  (∀ (l1 l2 l3 l4 : Option Value) (st : List Value) (σ : ri_S) (x : Nat), ev 192 (228, [some (.ref x), l1, l2, l3, l4], st) σ = ev 192 (229, [some (.ref x), l1, l2, l3, l4], .ref x :: st) σ) ∧
  (∀ (l0 l1 l2 l4 : Option Value) (st : List Value) (σ : ri_S) (x : Int32), ev 192 (229, [l0, l1, l2, some (.int x), l4], st) σ = ev 192 (230, [l0, l1, l2, some (.int x), l4], .int x :: st) σ) ∧
  (∀ (L : ri_L) (st : List Value) (σ : ri_S), ev 192 (230, L, st) σ = ev 192 (231, L, .int 1 :: st) σ) ∧
  (∀ (L : ri_L) (st : List Value) (σ : ri_S), ev 192 (231, L, st) σ = ev 192 (232, L, .int 1 :: st) σ) ∧
  (∀ (L : ri_L) (st : List Value) (σ : ri_S), ev 192 (232, L, st) σ = ev 192 (233, L, .int 4 :: st) σ) ∧
  (∀ (L : ri_L) (σ : ri_S) (a0 : Nat) (a1 : Int32) (a2 : Int32) (a3 : Int32) (a4 : Int32), ev 192 (233, L, [.int a4, .int a3, .int a2, .int a1, .ref a0]) σ = tv_k 9 (σ.1 a0) ((cal 184 [.ref a0, .int a1, .int a2, .int a3, .int a4] σ).bind fun q => ev 192 (236, L, q.1.toList ++ []) q.2)) ∧
  (∀ (l0 l1 l2 l3 l4 : Option Value) (st : List Value) (σ : ri_S) (x : Int32), ev 192 (236, [l0, l1, l2, l3, l4], .int x :: st) σ = ev 192 (238, [l0, l1, l2, ri_clr l3, some (.int x)], st) σ) ∧
  (∀ (l0 l1 l2 l3 : Option Value) (st : List Value) (σ : ri_S) (x : Int32), ev 192 (238, [l0, l1, l2, l3, some (.int x)], st) σ = ev 192 (240, [l0, l1, l2, l3, some (.int x)], .int x :: st) σ) ∧
  (∀ (L : ri_L) (st : List Value) (σ : ri_S), ev 192 (240, L, st) σ = ev 192 (241, L, .int (-1) :: st) σ) ∧
  (∀ (L : ri_L) (st : List Value) (σ : ri_S) (x y : Int32), ev 192 (241, L, .int y :: .int x :: st) σ = if x = y then ev 192 (278, L, st) σ else ev 192 (244, L, st) σ) ∧
  (∀ (l1 l2 l3 l4 : Option Value) (st : List Value) (σ : ri_S) (x : Nat), ev 192 (244, [some (.ref x), l1, l2, l3, l4], st) σ = ev 192 (245, [some (.ref x), l1, l2, l3, l4], .ref x :: st) σ) ∧
  (∀ (l0 l2 l3 l4 : Option Value) (st : List Value) (σ : ri_S) (x : Nat), ev 192 (245, [l0, some (.ref x), l2, l3, l4], st) σ = ev 192 (246, [l0, some (.ref x), l2, l3, l4], .ref x :: st) σ) ∧
  (∀ (l0 l1 l2 l4 : Option Value) (st : List Value) (σ : ri_S) (x : Int32), ev 192 (246, [l0, l1, l2, some (.int x), l4], st) σ = ev 192 (247, [l0, l1, l2, some (.int x), l4], .int x :: st) σ) ∧
  (∀ (L : ri_L) (σ : ri_S) (a0 : Nat) (a1 : Int32) (s0 : Value), ev 192 (247, L, [.int a1, .ref a0, s0]) σ = (cal 152 [.ref a0, .int a1] σ).bind fun q => ev 192 (250, L, q.1.toList ++ [s0]) q.2) ∧
  (∀ (L : ri_L) (st : List Value) (σ : ri_S) (x : Int32), ev 192 (250, L, .int x :: st) σ = if x = 0 then ev 192 (267, L, st) σ else ev 192 (253, L, st) σ) ∧
  (∀ (l0 l2 l3 l4 : Option Value) (st : List Value) (σ : ri_S) (x : Nat), ev 192 (253, [l0, some (.ref x), l2, l3, l4], st) σ = ev 192 (254, [l0, some (.ref x), l2, l3, l4], .ref x :: st) σ) ∧
  (∀ (l0 l1 l2 l4 : Option Value) (st : List Value) (σ : ri_S) (x : Int32), ev 192 (254, [l0, l1, l2, some (.int x), l4], st) σ = ev 192 (255, [l0, l1, l2, some (.int x), l4], .int x :: st) σ) ∧
  (∀ (l0 l1 l2 l3 : Option Value) (st : List Value) (σ : ri_S) (x : Int32), ev 192 (255, [l0, l1, l2, l3, some (.int x)], st) σ = ev 192 (257, [l0, l1, l2, l3, some (.int x)], .int x :: st) σ) ∧
  (∀ (L : ri_L) (σ : ri_S) (a0 : Nat) (a1 : Int32) (a2 : Int32) (s0 : Value), ev 192 (257, L, [.int a2, .int a1, .ref a0, s0]) σ = (cal 181 [.ref a0, .int a1, .int a2] σ).bind fun q => ev 192 (260, L, q.1.toList ++ [s0]) q.2) ∧
  (∀ (L : ri_L) (st : List Value) (σ : ri_S) (x : Int32), ev 192 (260, L, .int x :: st) σ = if x < 0 then ev 192 (267, L, st) σ else ev 192 (263, L, st) σ) ∧
  (∀ (L : ri_L) (st : List Value) (σ : ri_S), ev 192 (263, L, st) σ = ev 192 (264, L, .int 1 :: st) σ) ∧
  (∀ (L : ri_L) (st : List Value) (σ : ri_S), ev 192 (264, L, st) σ = ev 192 (268, L, st) σ) ∧
  (∀ (L : ri_L) (st : List Value) (σ : ri_S), ev 192 (267, L, st) σ = ev 192 (268, L, .int 0 :: st) σ) ∧
  (∀ (L : ri_L) (σ : ri_S) (a0 : Nat) (a1 : Int32), ev 192 (268, L, [.int a1, .ref a0]) σ = tv_k 9 (σ.1 a0) ((cal 185 [.ref a0, .int a1] σ).bind fun q => ev 192 (271, L, q.1.toList ++ []) q.2)) ∧
  (∀ (L : ri_L) (st : List Value) (σ : ri_S) (x : Int32), ev 192 (271, L, .int x :: st) σ = if x = 0 then ev 192 (278, L, st) σ else ev 192 (274, L, st) σ) ∧
  (∀ (L : ri_L) (st : List Value) (σ : ri_S), ev 192 (274, L, st) σ = ev 192 (275, L, .int 1 :: st) σ) ∧
  (∀ (L : ri_L) (st : List Value) (σ : ri_S), ev 192 (275, L, st) σ = ev 192 (279, L, st) σ) ∧
  (∀ (L : ri_L) (st : List Value) (σ : ri_S), ev 192 (278, L, st) σ = ev 192 (279, L, .int 0 :: st) σ) ∧
  (∀ (L : ri_L) (σ : ri_S) (x : Int32), ev 192 (279, L, [.int x]) σ = tv_b x (some (some (.int x), σ))) ∧
  (∀ (l1 l2 l3 l4 : Option Value) (st : List Value) (σ : ri_S) (x : Nat), ev 192 (280, [some (.ref x), l1, l2, l3, l4], st) σ = ev 192 (281, [some (.ref x), l1, l2, l3, l4], .ref x :: st) σ) ∧
  (∀ (L : ri_L) (st : List Value) (σ : ri_S) (x : Nat), ev 192 (281, L, .ref x :: st) σ = ev 192 (282, L, .ref x :: .ref x :: st) σ) ∧
  (∀ (L : ri_L) (st : List Value) (σ : ri_S) (a : Nat), ev 192 (282, L, .ref a :: st) σ = tv_o 9 11 (σ.1 a) fun v => ev 192 (285, L, v :: st) σ) ∧
  (∀ (L : ri_L) (st : List Value) (σ : ri_S), ev 192 (285, L, st) σ = ev 192 (286, L, .int 1 :: st) σ) ∧
  (∀ (L : ri_L) (st : List Value) (σ : ri_S) (x y : Int32), ev 192 (286, L, .int y :: .int x :: st) σ = ev 192 (287, L, .int (x - y) :: st) σ) ∧
  (∀ (L : ri_L) (st : List Value) (σ : ri_S) (a : Nat) (x : Int32), ev 192 (287, L, .int x :: .ref a :: st) σ = tv_w 9 11 (σ.1 a) (.int x) fun fs => ev 192 (290, L, st) (ri_upd σ.1 a (.inr (.inr (9, fs))), σ.2)) ∧
  (∀ (L : ri_L) (st : List Value) (σ : ri_S), ev 192 (290, L, st) σ = ev 192 (291, L, .int 0 :: st) σ) ∧
  (∀ (L : ri_L) (σ : ri_S) (x : Int32), ev 192 (291, L, [.int x]) σ = tv_b x (some (some (.int x), σ))) :=
  ⟨fun l1 l2 l3 l4 st σ x => ev_p ((TP_192 _).trans rfl) rfl,
   fun l0 l1 l2 l4 st σ x => ev_p ((TP_192 _).trans rfl) rfl,
   fun L st σ => ev_p ((TP_192 _).trans rfl) rfl,
   fun L st σ => ev_p ((TP_192 _).trans rfl) rfl,
   fun L st σ => ev_p ((TP_192 _).trans rfl) rfl,
   fun L σ a0 a1 a2 a3 a4 => ev_callv ((TP_192 _).trans rfl) rfl rfl rfl rfl,
   fun l0 l1 l2 l3 l4 st σ x => ev_p ((TP_192 _).trans rfl) rfl,
   fun l0 l1 l2 l3 st σ x => ev_p ((TP_192 _).trans rfl) rfl,
   fun L st σ => ev_p ((TP_192 _).trans rfl) rfl,
   fun L st σ x y => ev_b ((TP_192 _).trans rfl) rfl,
   fun l1 l2 l3 l4 st σ x => ev_p ((TP_192 _).trans rfl) rfl,
   fun l0 l2 l3 l4 st σ x => ev_p ((TP_192 _).trans rfl) rfl,
   fun l0 l1 l2 l4 st σ x => ev_p ((TP_192 _).trans rfl) rfl,
   fun L σ a0 a1 s0 => ev_call ((TP_192 _).trans rfl) rfl rfl rfl rfl,
   fun L st σ x => ev_b ((TP_192 _).trans rfl) rfl,
   fun l0 l2 l3 l4 st σ x => ev_p ((TP_192 _).trans rfl) rfl,
   fun l0 l1 l2 l4 st σ x => ev_p ((TP_192 _).trans rfl) rfl,
   fun l0 l1 l2 l3 st σ x => ev_p ((TP_192 _).trans rfl) rfl,
   fun L σ a0 a1 a2 s0 => ev_call ((TP_192 _).trans rfl) rfl rfl rfl rfl,
   fun L st σ x => ev_b ((TP_192 _).trans rfl) rfl,
   fun L st σ => ev_p ((TP_192 _).trans rfl) rfl,
   fun L st σ => ev_p ((TP_192 _).trans rfl) rfl,
   fun L st σ => ev_p ((TP_192 _).trans rfl) rfl,
   fun L σ a0 a1 => ev_callv ((TP_192 _).trans rfl) rfl rfl rfl rfl,
   fun L st σ x => ev_b ((TP_192 _).trans rfl) rfl,
   fun L st σ => ev_p ((TP_192 _).trans rfl) rfl,
   fun L st σ => ev_p ((TP_192 _).trans rfl) rfl,
   fun L st σ => ev_p ((TP_192 _).trans rfl) rfl,
   fun L σ x => ev_r ((TP_192 _).trans rfl) rfl,
   fun l1 l2 l3 l4 st σ x => ev_p ((TP_192 _).trans rfl) rfl,
   fun L st σ x => ev_p ((TP_192 _).trans rfl) rfl,
   fun L st σ a => ev_getf ((TP_192 _).trans rfl),
   fun L st σ => ev_p ((TP_192 _).trans rfl) rfl,
   fun L st σ x y => ev_p ((TP_192 _).trans rfl) rfl,
   fun L st σ a x => ev_puti ((TP_192 _).trans rfl),
   fun L st σ => ev_p ((TP_192 _).trans rfl) rfl,
   fun L σ x => ev_r ((TP_192 _).trans rfl) rfl⟩
theorem TP_193 (pc : Nat) : TT 193 pc = ri_find TL_193 pc := rfl
theorem E_193 (x0 : Nat) (x1 : Nat) (σ : ri_S) : cal 193 [.ref x0, .ref x1] σ = ev 193 (0, [some (.ref x0), some (.ref x1)], []) σ := rfl
theorem H_193_39 (l1 : Option Value) (st : List Value) (σ : ri_S) (x : Nat) : ev 193 (39, [some (.ref x), l1], st) σ = ev 193 (40, [some (.ref x), l1], .ref x :: st) σ := ev_p ((TP_193 _).trans rfl) rfl
theorem I_193 :
  (∀ (l0 : Option Value) (st : List Value) (σ : ri_S) (x : Nat), ev 193 (0, [l0, some (.ref x)], st) σ = ev 193 (1, [l0, some (.ref x)], .ref x :: st) σ) ∧
  (∀ (L : ri_L) (σ : ri_S) (a0 : Nat), ev 193 (1, L, [.ref a0]) σ = (cal 148 [.ref a0] σ).bind fun q => ev 193 (4, L, q.1.toList ++ []) q.2) ∧
  (∀ (l1 : Option Value) (st : List Value) (σ : ri_S) (x : Nat), ev 193 (4, [some (.ref x), l1], st) σ = ev 193 (5, [some (.ref x), l1], .ref x :: st) σ) ∧
  (∀ (L : ri_L) (st : List Value) (σ : ri_S), ev 193 (5, L, st) σ = ev 193 (6, L, .int 0 :: st) σ) ∧
  (∀ (L : ri_L) (st : List Value) (σ : ri_S) (a : Nat) (x : Int32), ev 193 (6, L, .int x :: .ref a :: st) σ = tv_w 9 12 (σ.1 a) (.int x) fun fs => ev 193 (9, L, st) (ri_upd σ.1 a (.inr (.inr (9, fs))), σ.2)) ∧
  (∀ (l1 : Option Value) (st : List Value) (σ : ri_S) (x : Nat), ev 193 (9, [some (.ref x), l1], st) σ = ev 193 (10, [some (.ref x), l1], .ref x :: st) σ) ∧
  (∀ (L : ri_L) (st : List Value) (σ : ri_S), ev 193 (10, L, st) σ = ev 193 (11, L, .int 0 :: st) σ) ∧
  (∀ (L : ri_L) (st : List Value) (σ : ri_S) (a : Nat) (x : Int32), ev 193 (11, L, .int x :: .ref a :: st) σ = tv_w 9 11 (σ.1 a) (.int x) fun fs => ev 193 (14, L, st) (ri_upd σ.1 a (.inr (.inr (9, fs))), σ.2)) ∧
  (∀ (l1 : Option Value) (st : List Value) (σ : ri_S) (x : Nat), ev 193 (14, [some (.ref x), l1], st) σ = ev 193 (15, [some (.ref x), l1], .ref x :: st) σ) ∧
  (∀ (L : ri_L) (st : List Value) (σ : ri_S) (a : Nat), ev 193 (15, L, .ref a :: st) σ = tv_o 9 2 (σ.1 a) fun v => ev 193 (18, L, v :: st) σ) ∧
  (∀ (L : ri_L) (st : List Value) (σ : ri_S) (x : Int32), ev 193 (18, L, .int x :: st) σ = if x = 0 then ev 193 (32, L, st) σ else ev 193 (21, L, st) σ) ∧
  (∀ (l1 : Option Value) (st : List Value) (σ : ri_S) (x : Nat), ev 193 (21, [some (.ref x), l1], st) σ = ev 193 (22, [some (.ref x), l1], .ref x :: st) σ) ∧
  (∀ (L : ri_L) (st : List Value) (σ : ri_S) (a : Nat), ev 193 (22, L, .ref a :: st) σ = tv_o 9 1 (σ.1 a) fun v => ev 193 (25, L, v :: st) σ) ∧
  (∀ (L : ri_L) (st : List Value) (σ : ri_S), ev 193 (25, L, st) σ = ev 193 (26, L, .int 0 :: st) σ) ∧
  (∀ (L : ri_L) (st : List Value) (σ : ri_S) (a : Nat) (i : Int32), ev 193 (26, L, .int i :: .ref a :: st) σ = tv_r 0 (σ.1 a) i fun n f j => ev 193 (27, L, .int (f j) :: st) σ) ∧
  (∀ (L : ri_L) (st : List Value) (σ : ri_S), ev 193 (27, L, st) σ = ev 193 (29, L, .int 80 :: st) σ) ∧
  (∀ (L : ri_L) (st : List Value) (σ : ri_S) (x y : Int32), ev 193 (29, L, .int y :: .int x :: st) σ = if x = y then ev 193 (34, L, st) σ else ev 193 (32, L, st) σ) ∧
  (∀ (L : ri_L) (st : List Value) (σ : ri_S), ev 193 (32, L, st) σ = ev 193 (33, L, .int 0 :: st) σ) ∧
  (∀ (L : ri_L) (σ : ri_S) (x : Int32), ev 193 (33, L, [.int x]) σ = some (some (.int x), σ)) ∧
  (∀ (l1 : Option Value) (st : List Value) (σ : ri_S) (x : Nat), ev 193 (34, [some (.ref x), l1], st) σ = ev 193 (35, [some (.ref x), l1], .ref x :: st) σ) ∧
  (∀ (L : ri_L) (st : List Value) (σ : ri_S), ev 193 (35, L, st) σ = ev 193 (36, L, .int 1 :: st) σ) ∧
  (∀ (L : ri_L) (st : List Value) (σ : ri_S) (a : Nat) (x : Int32), ev 193 (36, L, .int x :: .ref a :: st) σ = tv_w 9 11 (σ.1 a) (.int x) fun fs => ev 193 (39, L, st) (ri_upd σ.1 a (.inr (.inr (9, fs))), σ.2)) ∧
  (∀ (L : ri_L) (st : List Value) (σ : ri_S) (a : Nat), ev 193 (40, L, .ref a :: st) σ = tv_o 9 11 (σ.1 a) fun v => ev 193 (43, L, v :: st) σ) ∧
  (∀ (l1 : Option Value) (st : List Value) (σ : ri_S) (x : Nat), ev 193 (43, [some (.ref x), l1], st) σ = ev 193 (44, [some (.ref x), l1], .ref x :: st) σ) ∧
  (∀ (L : ri_L) (st : List Value) (σ : ri_S) (a : Nat), ev 193 (44, L, .ref a :: st) σ = tv_o 9 2 (σ.1 a) fun v => ev 193 (47, L, v :: st) σ) ∧
  (∀ (L : ri_L) (st : List Value) (σ : ri_S) (x y : Int32), ev 193 (47, L, .int y :: .int x :: st) σ = if y ≤ x then ev 193 (63, L, st) σ else ev 193 (50, L, st) σ) ∧
  (∀ (l1 : Option Value) (st : List Value) (σ : ri_S) (x : Nat), ev 193 (50, [some (.ref x), l1], st) σ = ev 193 (51, [some (.ref x), l1], .ref x :: st) σ) ∧
  (∀ (l0 : Option Value) (st : List Value) (σ : ri_S) (x : Nat), ev 193 (51, [l0, some (.ref x)], st) σ = ev 193 (52, [l0, some (.ref x)], .ref x :: st) σ) ∧
  (∀ (L : ri_L) (σ : ri_S) (a0 : Nat) (a1 : Nat), ev 193 (52, L, [.ref a1, .ref a0]) σ = tv_k 9 (σ.1 a0) ((cal 192 [.ref a0, .ref a1] σ).bind fun q => ev 193 (55, L, q.1.toList ++ []) q.2)) ∧
  (∀ (L : ri_L) (st : List Value) (σ : ri_S) (x : Int32), ev 193 (55, L, .int x :: st) σ = if ¬ x = 0 then ev 193 (39, L, st) σ else ev 193 (58, L, st) σ) ∧
  (∀ (l1 : Option Value) (st : List Value) (σ : ri_S) (x : Nat), ev 193 (58, [some (.ref x), l1], st) σ = ev 193 (59, [some (.ref x), l1], .ref x :: st) σ) ∧
  (∀ (L : ri_L) (st : List Value) (σ : ri_S) (a : Nat), ev 193 (59, L, .ref a :: st) σ = tv_o 9 11 (σ.1 a) fun v => ev 193 (62, L, v :: st) σ) ∧
  (∀ (L : ri_L) (σ : ri_S) (x : Int32), ev 193 (62, L, [.int x]) σ = some (some (.int x), σ)) ∧
  (∀ (L : ri_L) (st : List Value) (σ : ri_S), ev 193 (63, L, st) σ = ev 193 (64, L, .int (-1) :: st) σ) ∧
  (∀ (L : ri_L) (σ : ri_S) (x : Int32), ev 193 (64, L, [.int x]) σ = some (some (.int x), σ)) :=
  ⟨fun l0 st σ x => ev_p ((TP_193 _).trans rfl) rfl,
   fun L σ a0 => ev_call ((TP_193 _).trans rfl) rfl rfl rfl rfl,
   fun l1 st σ x => ev_p ((TP_193 _).trans rfl) rfl,
   fun L st σ => ev_p ((TP_193 _).trans rfl) rfl,
   fun L st σ a x => ev_puti ((TP_193 _).trans rfl),
   fun l1 st σ x => ev_p ((TP_193 _).trans rfl) rfl,
   fun L st σ => ev_p ((TP_193 _).trans rfl) rfl,
   fun L st σ a x => ev_puti ((TP_193 _).trans rfl),
   fun l1 st σ x => ev_p ((TP_193 _).trans rfl) rfl,
   fun L st σ a => ev_getf ((TP_193 _).trans rfl),
   fun L st σ x => ev_b ((TP_193 _).trans rfl) rfl,
   fun l1 st σ x => ev_p ((TP_193 _).trans rfl) rfl,
   fun L st σ a => ev_getf ((TP_193 _).trans rfl),
   fun L st σ => ev_p ((TP_193 _).trans rfl) rfl,
   fun L st σ a i => ev_iald ((TP_193 _).trans rfl),
   fun L st σ => ev_p ((TP_193 _).trans rfl) rfl,
   fun L st σ x y => ev_b ((TP_193 _).trans rfl) rfl,
   fun L st σ => ev_p ((TP_193 _).trans rfl) rfl,
   fun L σ x => ev_r ((TP_193 _).trans rfl) rfl,
   fun l1 st σ x => ev_p ((TP_193 _).trans rfl) rfl,
   fun L st σ => ev_p ((TP_193 _).trans rfl) rfl,
   fun L st σ a x => ev_puti ((TP_193 _).trans rfl),
   fun L st σ a => ev_getf ((TP_193 _).trans rfl),
   fun l1 st σ x => ev_p ((TP_193 _).trans rfl) rfl,
   fun L st σ a => ev_getf ((TP_193 _).trans rfl),
   fun L st σ x y => ev_b ((TP_193 _).trans rfl) rfl,
   fun l1 st σ x => ev_p ((TP_193 _).trans rfl) rfl,
   fun l0 st σ x => ev_p ((TP_193 _).trans rfl) rfl,
   fun L σ a0 a1 => ev_callv ((TP_193 _).trans rfl) rfl rfl rfl rfl,
   fun L st σ x => ev_b ((TP_193 _).trans rfl) rfl,
   fun l1 st σ x => ev_p ((TP_193 _).trans rfl) rfl,
   fun L st σ a => ev_getf ((TP_193 _).trans rfl),
   fun L σ x => ev_r ((TP_193 _).trans rfl) rfl,
   fun L st σ => ev_p ((TP_193 _).trans rfl) rfl,
   fun L σ x => ev_r ((TP_193 _).trans rfl) rfl⟩
theorem TP_194 (pc : Nat) : TT 194 pc = ri_find TL_194 pc := rfl
theorem E_194 (x0 : Nat) (σ : ri_S) : cal 194 [.ref x0] σ = ev 194 (0, [some (.ref x0)], []) σ := rfl
theorem I_194 :
  (∀ (st : List Value) (σ : ri_S) (x : Nat), ev 194 (0, [some (.ref x)], st) σ = ev 194 (1, [some (.ref x)], .ref x :: st) σ) ∧
  (∀ (L : ri_L) (st : List Value) (σ : ri_S), ev 194 (1, L, st) σ = ev 194 (2, L, .int 0 :: st) σ) ∧
  (∀ (L : ri_L) (st : List Value) (σ : ri_S) (a : Nat) (x : Int32), ev 194 (2, L, .int x :: .ref a :: st) σ = tv_w 9 0 (σ.1 a) (.int x) fun fs => ev 194 (5, L, st) (ri_upd σ.1 a (.inr (.inr (9, fs))), σ.2)) ∧
  (∀ (st : List Value) (σ : ri_S) (x : Nat), ev 194 (5, [some (.ref x)], st) σ = ev 194 (6, [some (.ref x)], .ref x :: st) σ) ∧
  (∀ (st : List Value) (σ : ri_S) (x : Nat), ev 194 (6, [some (.ref x)], st) σ = ev 194 (7, [some (.ref x)], .ref x :: st) σ) ∧
  (∀ (L : ri_L) (st : List Value) (σ : ri_S) (a : Nat), ev 194 (7, L, .ref a :: st) σ = tv_o 9 4 (σ.1 a) fun v => ev 194 (10, L, v :: st) σ) ∧
  (∀ (L : ri_L) (σ : ri_S) (a0 : Nat) (a1 : Nat), ev 194 (10, L, [.ref a1, .ref a0]) σ = tv_k 9 (σ.1 a0) ((cal 193 [.ref a0, .ref a1] σ).bind fun q => ev 194 (13, L, q.1.toList ++ []) q.2)) ∧
  (∀ (L : ri_L) (σ : ri_S) (x : Int32), ev 194 (13, L, [.int x]) σ = some (some (.int x), σ)) :=
  ⟨fun st σ x => ev_p ((TP_194 _).trans rfl) rfl,
   fun L st σ => ev_p ((TP_194 _).trans rfl) rfl,
   fun L st σ a x => ev_puti ((TP_194 _).trans rfl),
   fun st σ x => ev_p ((TP_194 _).trans rfl) rfl,
   fun st σ x => ev_p ((TP_194 _).trans rfl) rfl,
   fun L st σ a => ev_getf ((TP_194 _).trans rfl),
   fun L σ a0 a1 => ev_callv ((TP_194 _).trans rfl) rfl rfl rfl rfl,
   fun L σ x => ev_r ((TP_194 _).trans rfl) rfl⟩
theorem TP_195 (pc : Nat) : TT 195 pc = ri_find TL_195 pc := rfl
theorem E_195 (x0 : Nat) (σ : ri_S) : cal 195 [.ref x0] σ = ev 195 (0, [some (.ref x0)], []) σ := rfl
theorem I_195 :
  (∀ (st : List Value) (σ : ri_S) (x : Nat), ev 195 (0, [some (.ref x)], st) σ = ev 195 (1, [some (.ref x)], .ref x :: st) σ) ∧
  (∀ (st : List Value) (σ : ri_S) (x : Nat), ev 195 (1, [some (.ref x)], st) σ = ev 195 (2, [some (.ref x)], .ref x :: st) σ) ∧
  (∀ (st : List Value) (σ : ri_S) (x : Nat), ev 195 (2, [some (.ref x)], st) σ = ev 195 (3, [some (.ref x)], .ref x :: st) σ) ∧
  (∀ (L : ri_L) (st : List Value) (σ : ri_S) (a : Nat), ev 195 (3, L, .ref a :: st) σ = tv_o 9 4 (σ.1 a) fun v => ev 195 (6, L, v :: st) σ) ∧
  (∀ (L : ri_L) (σ : ri_S) (a0 : Nat) (a1 : Nat) (s0 : Value), ev 195 (6, L, [.ref a1, .ref a0, s0]) σ = tv_k 9 (σ.1 a0) ((cal 193 [.ref a0, .ref a1] σ).bind fun q => ev 195 (9, L, q.1.toList ++ [s0]) q.2)) ∧
  (∀ (L : ri_L) (st : List Value) (σ : ri_S), ev 195 (9, L, st) σ = ev 195 (10, L, .int (-1) :: st) σ) ∧
  (∀ (L : ri_L) (st : List Value) (σ : ri_S) (x y : Int32), ev 195 (10, L, .int y :: .int x :: st) σ = if ¬ x = y then ev 195 (17, L, st) σ else ev 195 (13, L, st) σ) ∧
  (∀ (L : ri_L) (st : List Value) (σ : ri_S), ev 195 (13, L, st) σ = ev 195 (14, L, .int 0 :: st) σ) ∧
  (∀ (L : ri_L) (st : List Value) (σ : ri_S), ev 195 (14, L, st) σ = ev 195 (18, L, st) σ) ∧
  (∀ (L : ri_L) (st : List Value) (σ : ri_S), ev 195 (17, L, st) σ = ev 195 (18, L, .int 1 :: st) σ) ∧
  (∀ (L : ri_L) (σ : ri_S) (a0 : Nat) (a1 : Int32), ev 195 (18, L, [.int a1, .ref a0]) σ = tv_k 9 (σ.1 a0) ((cal 145 [.ref a0, .int a1] σ).bind fun q => ev 195 (21, L, q.1.toList ++ []) q.2)) ∧
  (∀ (L : ri_L) (st : List Value) (σ : ri_S) (x : Int32), ev 195 (21, L, .int x :: st) σ = if x = 0 then ev 195 (26, L, st) σ else ev 195 (24, L, st) σ) ∧
  (∀ (L : ri_L) (st : List Value) (σ : ri_S), ev 195 (24, L, st) σ = ev 195 (25, L, .int 0 :: st) σ) ∧
  (∀ (L : ri_L) (σ : ri_S) (x : Int32), ev 195 (25, L, [.int x]) σ = some (some (.int x), σ)) ∧
  (∀ (st : List Value) (σ : ri_S) (x : Nat), ev 195 (26, [some (.ref x)], st) σ = ev 195 (27, [some (.ref x)], .ref x :: st) σ) ∧
  (∀ (L : ri_L) (st : List Value) (σ : ri_S) (a : Nat), ev 195 (27, L, .ref a :: st) σ = tv_o 9 4 (σ.1 a) fun v => ev 195 (30, L, v :: st) σ) ∧
  (∀ (L : ri_L) (st : List Value) (σ : ri_S), ev 195 (30, L, st) σ = ev 195 (31, L, .int 0 :: st) σ) ∧
  (∀ (st : List Value) (σ : ri_S) (x : Nat), ev 195 (31, [some (.ref x)], st) σ = ev 195 (32, [some (.ref x)], .ref x :: st) σ) ∧
  (∀ (L : ri_L) (st : List Value) (σ : ri_S) (a : Nat), ev 195 (32, L, .ref a :: st) σ = tv_o 9 3 (σ.1 a) fun v => ev 195 (35, L, v :: st) σ) ∧
  (∀ (L : ri_L) (st : List Value) (σ : ri_S), ev 195 (35, L, st) σ = ev 195 (36, L, .int 0 :: st) σ) ∧
  (∀ (L : ri_L) (σ : ri_S) (a0 : Nat) (a1 : Int32) (a2 : Nat) (a3 : Int32), ev 195 (36, L, [.int a3, .ref a2, .int a1, .ref a0]) σ = (cal 147 [.ref a0, .int a1, .ref a2, .int a3] σ).bind fun q => ev 195 (39, L, q.1.toList ++ []) q.2) ∧
  (∀ (st : List Value) (σ : ri_S) (x : Nat), ev 195 (39, [some (.ref x)], st) σ = ev 195 (40, [some (.ref x)], .ref x :: st) σ) ∧
  (∀ (L : ri_L) (st : List Value) (σ : ri_S), ev 195 (40, L, st) σ = ev 195 (41, L, .int 0 :: st) σ) ∧
  (∀ (L : ri_L) (st : List Value) (σ : ri_S) (a : Nat) (x : Int32), ev 195 (41, L, .int x :: .ref a :: st) σ = tv_w 9 6 (σ.1 a) (.int x) fun fs => ev 195 (44, L, st) (ri_upd σ.1 a (.inr (.inr (9, fs))), σ.2)) ∧
  (∀ (st : List Value) (σ : ri_S) (x : Nat), ev 195 (44, [some (.ref x)], st) σ = ev 195 (45, [some (.ref x)], .ref x :: st) σ) ∧
  (∀ (L : ri_L) (st : List Value) (σ : ri_S) (a : Nat), ev 195 (45, L, .ref a :: st) σ = tv_o 9 8 (σ.1 a) fun v => ev 195 (48, L, v :: st) σ) ∧
  (∀ (L : ri_L) (st : List Value) (σ : ri_S), ev 195 (48, L, st) σ = ev 195 (49, L, .int 0 :: st) σ) ∧
  (∀ (L : ri_L) (st : List Value) (σ : ri_S), ev 195 (49, L, st) σ = ev 195 (50, L, .int 0 :: st) σ) ∧
  (∀ (L : ri_L) (st : List Value) (σ : ri_S) (a : Nat) (i x : Int32), ev 195 (50, L, .int x :: .int i :: .ref a :: st) σ = tv_r 1 (σ.1 a) i fun n f j => ev 195 (51, L, st) (ri_upd σ.1 a (.inl (1, n, upd f j (vp_nar .boolean x))), σ.2)) ∧
  (∀ (st : List Value) (σ : ri_S) (x : Nat), ev 195 (51, [some (.ref x)], st) σ = ev 195 (52, [some (.ref x)], .ref x :: st) σ) ∧
  (∀ (L : ri_L) (st : List Value) (σ : ri_S) (a : Nat), ev 195 (52, L, .ref a :: st) σ = tv_o 9 8 (σ.1 a) fun v => ev 195 (55, L, v :: st) σ) ∧
  (∀ (L : ri_L) (st : List Value) (σ : ri_S), ev 195 (55, L, st) σ = ev 195 (56, L, .int 1 :: st) σ) ∧
  (∀ (L : ri_L) (st : List Value) (σ : ri_S), ev 195 (56, L, st) σ = ev 195 (57, L, .int 0 :: st) σ) ∧
  (∀ (L : ri_L) (st : List Value) (σ : ri_S) (a : Nat) (i x : Int32), ev 195 (57, L, .int x :: .int i :: .ref a :: st) σ = tv_r 1 (σ.1 a) i fun n f j => ev 195 (58, L, st) (ri_upd σ.1 a (.inl (1, n, upd f j (vp_nar .boolean x))), σ.2)) ∧
  (∀ (st : List Value) (σ : ri_S) (x : Nat), ev 195 (58, [some (.ref x)], st) σ = ev 195 (59, [some (.ref x)], .ref x :: st) σ) ∧
  (∀ (L : ri_L) (st : List Value) (σ : ri_S) (a : Nat), ev 195 (59, L, .ref a :: st) σ = tv_o 9 12 (σ.1 a) fun v => ev 195 (62, L, v :: st) σ) ∧
  (∀ (L : ri_L) (σ : ri_S) (x : Int32), ev 195 (62, L, [.int x]) σ = some (some (.int x), σ)) :=
  ⟨fun st σ x => ev_p ((TP_195 _).trans rfl) rfl,
   fun st σ x => ev_p ((TP_195 _).trans rfl) rfl,
   fun st σ x => ev_p ((TP_195 _).trans rfl) rfl,
   fun L st σ a => ev_getf ((TP_195 _).trans rfl),
   fun L σ a0 a1 s0 => ev_callv ((TP_195 _).trans rfl) rfl rfl rfl rfl,
   fun L st σ => ev_p ((TP_195 _).trans rfl) rfl,
   fun L st σ x y => ev_b ((TP_195 _).trans rfl) rfl,
   fun L st σ => ev_p ((TP_195 _).trans rfl) rfl,
   fun L st σ => ev_p ((TP_195 _).trans rfl) rfl,
   fun L st σ => ev_p ((TP_195 _).trans rfl) rfl,
   fun L σ a0 a1 => ev_callv ((TP_195 _).trans rfl) rfl rfl rfl rfl,
   fun L st σ x => ev_b ((TP_195 _).trans rfl) rfl,
   fun L st σ => ev_p ((TP_195 _).trans rfl) rfl,
   fun L σ x => ev_r ((TP_195 _).trans rfl) rfl,
   fun st σ x => ev_p ((TP_195 _).trans rfl) rfl,
   fun L st σ a => ev_getf ((TP_195 _).trans rfl),
   fun L st σ => ev_p ((TP_195 _).trans rfl) rfl,
   fun st σ x => ev_p ((TP_195 _).trans rfl) rfl,
   fun L st σ a => ev_getf ((TP_195 _).trans rfl),
   fun L st σ => ev_p ((TP_195 _).trans rfl) rfl,
   fun L σ a0 a1 a2 a3 => ev_call ((TP_195 _).trans rfl) rfl rfl rfl rfl,
   fun st σ x => ev_p ((TP_195 _).trans rfl) rfl,
   fun L st σ => ev_p ((TP_195 _).trans rfl) rfl,
   fun L st σ a x => ev_puti ((TP_195 _).trans rfl),
   fun st σ x => ev_p ((TP_195 _).trans rfl) rfl,
   fun L st σ a => ev_getf ((TP_195 _).trans rfl),
   fun L st σ => ev_p ((TP_195 _).trans rfl) rfl,
   fun L st σ => ev_p ((TP_195 _).trans rfl) rfl,
   fun L st σ a i x => ev_zast ((TP_195 _).trans rfl),
   fun st σ x => ev_p ((TP_195 _).trans rfl) rfl,
   fun L st σ a => ev_getf ((TP_195 _).trans rfl),
   fun L st σ => ev_p ((TP_195 _).trans rfl) rfl,
   fun L st σ => ev_p ((TP_195 _).trans rfl) rfl,
   fun L st σ a i x => ev_zast ((TP_195 _).trans rfl),
   fun st σ x => ev_p ((TP_195 _).trans rfl) rfl,
   fun L st σ a => ev_getf ((TP_195 _).trans rfl),
   fun L σ x => ev_r ((TP_195 _).trans rfl) rfl⟩
theorem TP_196 (pc : Nat) : TT 196 pc = ri_find TL_196 pc := rfl
theorem E_196 (x0 : Nat) (σ : ri_S) : cal 196 [.ref x0] σ = ev 196 (0, [some (.ref x0), none, none, none, none], []) σ := rfl
theorem H_196_4 (l0 l1 l3 l4 : Option Value) (st : List Value) (σ : ri_S) (x : Int32) : ev 196 (4, [l0, l1, some (.int x), l3, l4], st) σ = ev 196 (5, [l0, l1, some (.int x), l3, l4], .int x :: st) σ := ev_p ((TP_196 _).trans rfl) rfl
theorem H_196_16 (l0 l1 l2 l3 : Option Value) (st : List Value) (σ : ri_S) (x : Int32) : ev 196 (16, [l0, l1, l2, l3, some (.int x)], st) σ = ev 196 (18, [l0, l1, l2, l3, some (.int x)], .int x :: st) σ := ev_p ((TP_196 _).trans rfl) rfl
theorem I_196_0 :
  (∀ (L : ri_L) (st : List Value) (σ : ri_S), ev 196 (0, L, st) σ = ev 196 (1, L, .int 0 :: st) σ) ∧
  (∀ (l0 l1 l2 l3 l4 : Option Value) (st : List Value) (σ : ri_S) (x : Int32), ev 196 (1, [l0, l1, l2, l3, l4], .int x :: st) σ = ev 196 (2, [ri_clr l0, some (.int x), l2, l3, l4], st) σ) ∧
  (∀ (L : ri_L) (st : List Value) (σ : ri_S), ev 196 (2, L, st) σ = ev 196 (3, L, .int 0 :: st) σ) ∧
  (∀ (l0 l1 l2 l3 l4 : Option Value) (st : List Value) (σ : ri_S) (x : Int32), ev 196 (3, [l0, l1, l2, l3, l4], .int x :: st) σ = ev 196 (4, [l0, ri_clr l1, some (.int x), l3, l4], st) σ) ∧
  (∀ (l1 l2 l3 l4 : Option Value) (st : List Value) (σ : ri_S) (x : Nat), ev 196 (5, [some (.ref x), l1, l2, l3, l4], st) σ = ev 196 (6, [some (.ref x), l1, l2, l3, l4], .ref x :: st) σ) ∧
  (∀ (L : ri_L) (st : List Value) (σ : ri_S), ev 196 (6, L, st) σ = ev 196 (7, L, .int 2 :: st) σ) ∧
  (∀ (L : ri_L) (st : List Value) (σ : ri_S) (a : Nat) (i : Int32), ev 196 (7, L, .int i :: .ref a :: st) σ = tv_r 0 (σ.1 a) i fun n f j => ev 196 (8, L, .int (f j) :: st) σ) ∧
  (∀ (L : ri_L) (st : List Value) (σ : ri_S) (x y : Int32), ev 196 (8, L, .int y :: .int x :: st) σ = if y ≤ x then ev 196 (68, L, st) σ else ev 196 (11, L, st) σ) ∧
  (∀ (L : ri_L) (st : List Value) (σ : ri_S), ev 196 (11, L, st) σ = ev 196 (12, L, .int 0 :: st) σ) ∧
  (∀ (l0 l1 l2 l3 l4 : Option Value) (st : List Value) (σ : ri_S) (x : Int32), ev 196 (12, [l0, l1, l2, l3, l4], .int x :: st) σ = ev 196 (13, [l0, l1, ri_clr l2, some (.int x), l4], st) σ) ∧
  (∀ (L : ri_L) (st : List Value) (σ : ri_S), ev 196 (13, L, st) σ = ev 196 (14, L, .int 0 :: st) σ) ∧
  (∀ (l0 l1 l2 l3 l4 : Option Value) (st : List Value) (σ : ri_S) (x : Int32), ev 196 (14, [l0, l1, l2, l3, l4], .int x :: st) σ = ev 196 (16, [l0, l1, l2, ri_clr l3, some (.int x)], st) σ) ∧
  (∀ (l1 l2 l3 l4 : Option Value) (st : List Value) (σ : ri_S) (x : Nat), ev 196 (18, [some (.ref x), l1, l2, l3, l4], st) σ = ev 196 (19, [some (.ref x), l1, l2, l3, l4], .ref x :: st) σ) ∧
  (∀ (L : ri_L) (st : List Value) (σ : ri_S), ev 196 (19, L, st) σ = ev 196 (20, L, .int 1 :: st) σ) ∧
  (∀ (L : ri_L) (st : List Value) (σ : ri_S) (a : Nat) (i : Int32), ev 196 (20, L, .int i :: .ref a :: st) σ = tv_r 0 (σ.1 a) i fun n f j => ev 196 (21, L, .int (f j) :: st) σ) ∧
  (∀ (L : ri_L) (st : List Value) (σ : ri_S) (x y : Int32), ev 196 (21, L, .int y :: .int x :: st) σ = if y ≤ x then ev 196 (50, L, st) σ else ev 196 (24, L, st) σ) ∧
  (∀ (l0 l1 l2 l4 : Option Value) (st : List Value) (σ : ri_S) (x : Int32), ev 196 (24, [l0, l1, l2, some (.int x), l4], st) σ = ev 196 (25, [l0, l1, l2, some (.int x), l4], .int x :: st) σ) ∧
  (∀ (L : ri_L) (st : List Value) (σ : ri_S) (x : Int32), ev 196 (25, L, .int x :: st) σ = if ¬ x = 0 then ev 196 (38, L, st) σ else ev 196 (28, L, st) σ) ∧
  (∀ (l1 l2 l3 l4 : Option Value) (st : List Value) (σ : ri_S) (x : Nat), ev 196 (28, [some (.ref x), l1, l2, l3, l4], st) σ = ev 196 (29, [some (.ref x), l1, l2, l3, l4], .ref x :: st) σ) ∧
  (∀ (l0 l1 l3 l4 : Option Value) (st : List Value) (σ : ri_S) (x : Int32), ev 196 (29, [l0, l1, some (.int x), l3, l4], st) σ = ev 196 (30, [l0, l1, some (.int x), l3, l4], .int x :: st) σ) ∧
  (∀ (l0 l1 l2 l3 : Option Value) (st : List Value) (σ : ri_S) (x : Int32), ev 196 (30, [l0, l1, l2, l3, some (.int x)], st) σ = ev 196 (32, [l0, l1, l2, l3, some (.int x)], .int x :: st) σ) ∧
  (∀ (L : ri_L) (σ : ri_S) (a0 : Nat) (a1 : Int32) (a2 : Int32), ev 196 (32, L, [.int a2, .int a1, .ref a0]) σ = (cal 164 [.ref a0, .int a1, .int a2] σ).bind fun q => ev 196 (35, L, q.1.toList ++ []) q.2) ∧
  (∀ (L : ri_L) (st : List Value) (σ : ri_S) (x : Int32), ev 196 (35, L, .int x :: st) σ = if ¬ x = 0 then ev 196 (42, L, st) σ else ev 196 (38, L, st) σ) ∧
  (∀ (L : ri_L) (st : List Value) (σ : ri_S), ev 196 (38, L, st) σ = ev 196 (39, L, .int 1 :: st) σ) ∧
  (∀ (L : ri_L) (st : List Value) (σ : ri_S), ev 196 (39, L, st) σ = ev 196 (43, L, st) σ) ∧
  (∀ (L : ri_L) (st : List Value) (σ : ri_S), ev 196 (42, L, st) σ = ev 196 (43, L, .int 0 :: st) σ) ∧
  (∀ (l0 l1 l2 l3 l4 : Option Value) (st : List Value) (σ : ri_S) (x : Int32), ev 196 (43, [l0, l1, l2, l3, l4], .int x :: st) σ = ev 196 (44, [l0, l1, ri_clr l2, some (.int x), l4], st) σ) ∧
  (∀ (l0 l1 l2 l3 : Option Value) (st : List Value) (σ : ri_S) (x : Int32), ev 196 (44, [l0, l1, l2, l3, some (.int x)], st) σ = ev 196 (47, [l0, l1, l2, ri_clr l3, some (.int (x + 1))], st) σ) ∧
  (∀ (L : ri_L) (st : List Value) (σ : ri_S), ev 196 (47, L, st) σ = ev 196 (16, L, st) σ) ∧
  (∀ (l0 l2 l3 l4 : Option Value) (st : List Value) (σ : ri_S) (x : Int32), ev 196 (50, [l0, some (.int x), l2, l3, l4], st) σ = ev 196 (51, [l0, some (.int x), l2, l3, l4], .int x :: st) σ) ∧
  (∀ (l0 l1 l2 l4 : Option Value) (st : List Value) (σ : ri_S) (x : Int32), ev 196 (51, [l0, l1, l2, some (.int x), l4], st) σ = ev 196 (52, [l0, l1, l2, some (.int x), l4], .int x :: st) σ) ∧
  (∀ (L : ri_L) (st : List Value) (σ : ri_S) (x : Int32), ev 196 (52, L, .int x :: st) σ = if x = 0 then ev 196 (59, L, st) σ else ev 196 (55, L, st) σ) ∧
  (∀ (L : ri_L) (st : List Value) (σ : ri_S), ev 196 (55, L, st) σ = ev 196 (56, L, .int 1 :: st) σ) ∧
  (∀ (L : ri_L) (st : List Value) (σ : ri_S), ev 196 (56, L, st) σ = ev 196 (60, L, st) σ) ∧
  (∀ (L : ri_L) (st : List Value) (σ : ri_S), ev 196 (59, L, st) σ = ev 196 (60, L, .int 0 :: st) σ) ∧
  (∀ (L : ri_L) (st : List Value) (σ : ri_S) (x y : Int32), ev 196 (60, L, .int y :: .int x :: st) σ = ev 196 (61, L, .int (x + y) :: st) σ) ∧
  (∀ (l0 l1 l2 l3 l4 : Option Value) (st : List Value) (σ : ri_S) (x : Int32), ev 196 (61, [l0, l1, l2, l3, l4], .int x :: st) σ = ev 196 (62, [ri_clr l0, some (.int x), l2, l3, l4], st) σ) ∧
  (∀ (l0 l1 l3 l4 : Option Value) (st : List Value) (σ : ri_S) (x : Int32), ev 196 (62, [l0, l1, some (.int x), l3, l4], st) σ = ev 196 (65, [l0, ri_clr l1, some (.int (x + 1)), l3, l4], st) σ) ∧
  (∀ (L : ri_L) (st : List Value) (σ : ri_S), ev 196 (65, L, st) σ = ev 196 (4, L, st) σ) ∧
  (∀ (l0 l2 l3 l4 : Option Value) (st : List Value) (σ : ri_S) (x : Int32), ev 196 (68, [l0, some (.int x), l2, l3, l4], st) σ = ev 196 (69, [l0, some (.int x), l2, l3, l4], .int x :: st) σ) :=
  ⟨fun L st σ => ev_p ((TP_196 _).trans rfl) rfl,
   fun l0 l1 l2 l3 l4 st σ x => ev_p ((TP_196 _).trans rfl) rfl,
   fun L st σ => ev_p ((TP_196 _).trans rfl) rfl,
   fun l0 l1 l2 l3 l4 st σ x => ev_p ((TP_196 _).trans rfl) rfl,
   fun l1 l2 l3 l4 st σ x => ev_p ((TP_196 _).trans rfl) rfl,
   fun L st σ => ev_p ((TP_196 _).trans rfl) rfl,
   fun L st σ a i => ev_iald ((TP_196 _).trans rfl),
   fun L st σ x y => ev_b ((TP_196 _).trans rfl) rfl,
   fun L st σ => ev_p ((TP_196 _).trans rfl) rfl,
   fun l0 l1 l2 l3 l4 st σ x => ev_p ((TP_196 _).trans rfl) rfl,
   fun L st σ => ev_p ((TP_196 _).trans rfl) rfl,
   fun l0 l1 l2 l3 l4 st σ x => ev_p ((TP_196 _).trans rfl) rfl,
   fun l1 l2 l3 l4 st σ x => ev_p ((TP_196 _).trans rfl) rfl,
   fun L st σ => ev_p ((TP_196 _).trans rfl) rfl,
   fun L st σ a i => ev_iald ((TP_196 _).trans rfl),
   fun L st σ x y => ev_b ((TP_196 _).trans rfl) rfl,
   fun l0 l1 l2 l4 st σ x => ev_p ((TP_196 _).trans rfl) rfl,
   fun L st σ x => ev_b ((TP_196 _).trans rfl) rfl,
   fun l1 l2 l3 l4 st σ x => ev_p ((TP_196 _).trans rfl) rfl,
   fun l0 l1 l3 l4 st σ x => ev_p ((TP_196 _).trans rfl) rfl,
   fun l0 l1 l2 l3 st σ x => ev_p ((TP_196 _).trans rfl) rfl,
   fun L σ a0 a1 a2 => ev_call ((TP_196 _).trans rfl) rfl rfl rfl rfl,
   fun L st σ x => ev_b ((TP_196 _).trans rfl) rfl,
   fun L st σ => ev_p ((TP_196 _).trans rfl) rfl,
   fun L st σ => ev_p ((TP_196 _).trans rfl) rfl,
   fun L st σ => ev_p ((TP_196 _).trans rfl) rfl,
   fun l0 l1 l2 l3 l4 st σ x => ev_p ((TP_196 _).trans rfl) rfl,
   fun l0 l1 l2 l3 st σ x => ev_p ((TP_196 _).trans rfl) rfl,
   fun L st σ => ev_p ((TP_196 _).trans rfl) rfl,
   fun l0 l2 l3 l4 st σ x => ev_p ((TP_196 _).trans rfl) rfl,
   fun l0 l1 l2 l4 st σ x => ev_p ((TP_196 _).trans rfl) rfl,
   fun L st σ x => ev_b ((TP_196 _).trans rfl) rfl,
   fun L st σ => ev_p ((TP_196 _).trans rfl) rfl,
   fun L st σ => ev_p ((TP_196 _).trans rfl) rfl,
   fun L st σ => ev_p ((TP_196 _).trans rfl) rfl,
   fun L st σ x y => ev_p ((TP_196 _).trans rfl) rfl,
   fun l0 l1 l2 l3 l4 st σ x => ev_p ((TP_196 _).trans rfl) rfl,
   fun l0 l1 l3 l4 st σ x => ev_p ((TP_196 _).trans rfl) rfl,
   fun L st σ => ev_p ((TP_196 _).trans rfl) rfl,
   fun l0 l2 l3 l4 st σ x => ev_p ((TP_196 _).trans rfl) rfl⟩
theorem I_196_1 : ∀ (L : ri_L) (σ : ri_S) (x : Int32), ev 196 (69, L, [.int x]) σ = some (some (.int x), σ) := fun L σ x => ev_r ((TP_196 _).trans rfl) rfl
theorem TP_197 (pc : Nat) : TT 197 pc = ri_find TL_197 pc := rfl
theorem E_197 (x0 : Nat) (x1 : Int32) (σ : ri_S) : cal 197 [.ref x0, .int x1] σ = ev 197 (0, [some (.ref x0), some (.int x1), none, none], []) σ := rfl
theorem H_197_74 (l0 l1 l2 : Option Value) (st : List Value) (σ : ri_S) (x : Int32) : ev 197 (74, [l0, l1, l2, some (.int x)], st) σ = ev 197 (75, [l0, l1, l2, some (.int x)], .int x :: st) σ := ev_p ((TP_197 _).trans rfl) rfl
theorem I_197_0 :
  (∀ (l1 l2 l3 : Option Value) (st : List Value) (σ : ri_S) (x : Nat), ev 197 (0, [some (.ref x), l1, l2, l3], st) σ = ev 197 (1, [some (.ref x), l1, l2, l3], .ref x :: st) σ) ∧
  (∀ (l0 l2 l3 : Option Value) (st : List Value) (σ : ri_S) (x : Int32), ev 197 (1, [l0, some (.int x), l2, l3], st) σ = ev 197 (2, [l0, some (.int x), l2, l3], .int x :: st) σ) ∧
  (∀ (L : ri_L) (st : List Value) (σ : ri_S) (x : Int32), ev 197 (2, L, .int x :: st) σ = ev 197 (3, L, .long x.toInt64 :: st) σ) ∧
  (∀ (L : ri_L) (st : List Value) (σ : ri_S), ev 197 (3, L, st) σ = ev 197 (4, L, .long 0 :: st) σ) ∧
  (∀ (L : ri_L) (st : List Value) (σ : ri_S), ev 197 (4, L, st) σ = ev 197 (7, L, .long 10 :: st) σ) ∧
  (∀ (L : ri_L) (σ : ri_S) (a0 : Int64) (a1 : Int64) (a2 : Int64) (s0 : Value), ev 197 (7, L, [.long a2, .long a1, .long a0, s0]) σ = (cal 146 [.long a0, .long a1, .long a2] σ).bind fun q => ev 197 (10, L, q.1.toList ++ [s0]) q.2) ∧
  (∀ (L : ri_L) (st : List Value) (σ : ri_S) (x : Int32), ev 197 (10, L, .int x :: st) σ = if x = 0 then ev 197 (17, L, st) σ else ev 197 (13, L, st) σ) ∧
  (∀ (L : ri_L) (st : List Value) (σ : ri_S), ev 197 (13, L, st) σ = ev 197 (14, L, .int 0 :: st) σ) ∧
  (∀ (L : ri_L) (st : List Value) (σ : ri_S), ev 197 (14, L, st) σ = ev 197 (18, L, st) σ) ∧
  (∀ (L : ri_L) (st : List Value) (σ : ri_S), ev 197 (17, L, st) σ = ev 197 (18, L, .int 1 :: st) σ) ∧
  (∀ (L : ri_L) (σ : ri_S) (a0 : Nat) (a1 : Int32), ev 197 (18, L, [.int a1, .ref a0]) σ = tv_k 9 (σ.1 a0) ((cal 145 [.ref a0, .int a1] σ).bind fun q => ev 197 (21, L, q.1.toList ++ []) q.2)) ∧
  (∀ (L : ri_L) (st : List Value) (σ : ri_S) (x : Int32), ev 197 (21, L, .int x :: st) σ = if x = 0 then ev 197 (26, L, st) σ else ev 197 (24, L, st) σ) ∧
  (∀ (L : ri_L) (st : List Value) (σ : ri_S), ev 197 (24, L, st) σ = ev 197 (25, L, .int 0 :: st) σ) ∧
  (∀ (L : ri_L) (σ : ri_S) (x : Int32), ev 197 (25, L, [.int x]) σ = some (some (.int x), σ)) ∧
  (∀ (L : ri_L) (st : List Value) (σ : ri_S), ev 197 (26, L, st) σ = ev 197 (27, L, .int 0 :: st) σ) ∧
  (∀ (l0 l1 l2 l3 : Option Value) (st : List Value) (σ : ri_S) (x : Int32), ev 197 (27, [l0, l1, l2, l3], .int x :: st) σ = ev 197 (28, [l0, ri_clr l1, some (.int x), l3], st) σ) ∧
  (∀ (l0 l2 l3 : Option Value) (st : List Value) (σ : ri_S) (x : Int32), ev 197 (28, [l0, some (.int x), l2, l3], st) σ = ev 197 (29, [l0, some (.int x), l2, l3], .int x :: st) σ) ∧
  (∀ (L : ri_L) (st : List Value) (σ : ri_S) (x : Int32), ev 197 (29, L, .int x :: st) σ = if x = 4 then ev 197 (72, L, st) σ else if x = 5 then ev 197 (103, L, st) σ else if x = 6 then ev 197 (103, L, st) σ else if x = 7 then ev 197 (103, L, st) σ else if x = 8 then ev 197 (112, L, st) σ else if x = 9 then ev 197 (122, L, st) σ else if x = 10 then ev 197 (130, L, st) σ else ev 197 (138, L, st) σ) ∧
  (∀ (L : ri_L) (st : List Value) (σ : ri_S), ev 197 (72, L, st) σ = ev 197 (73, L, .int 0 :: st) σ) ∧
  (∀ (l0 l1 l2 l3 : Option Value) (st : List Value) (σ : ri_S) (x : Int32), ev 197 (73, [l0, l1, l2, l3], .int x :: st) σ = ev 197 (74, [l0, l1, ri_clr l2, some (.int x)], st) σ) ∧
  (∀ (l1 l2 l3 : Option Value) (st : List Value) (σ : ri_S) (x : Nat), ev 197 (75, [some (.ref x), l1, l2, l3], st) σ = ev 197 (76, [some (.ref x), l1, l2, l3], .ref x :: st) σ) ∧
  (∀ (L : ri_L) (st : List Value) (σ : ri_S) (a : Nat), ev 197 (76, L, .ref a :: st) σ = tv_o 9 3 (σ.1 a) fun v => ev 197 (79, L, v :: st) σ) ∧
  (∀ (L : ri_L) (st : List Value) (σ : ri_S), ev 197 (79, L, st) σ = ev 197 (80, L, .int 0 :: st) σ) ∧
  (∀ (L : ri_L) (st : List Value) (σ : ri_S) (a : Nat) (i : Int32), ev 197 (80, L, .int i :: .ref a :: st) σ = tv_r 0 (σ.1 a) i fun n f j => ev 197 (81, L, .int (f j) :: st) σ) ∧
  (∀ (L : ri_L) (st : List Value) (σ : ri_S) (x y : Int32), ev 197 (81, L, .int y :: .int x :: st) σ = if y ≤ x then ev 197 (101, L, st) σ else ev 197 (84, L, st) σ) ∧
  (∀ (l0 l1 l3 : Option Value) (st : List Value) (σ : ri_S) (x : Int32), ev 197 (84, [l0, l1, some (.int x), l3], st) σ = ev 197 (85, [l0, l1, some (.int x), l3], .int x :: st) σ) ∧
  (∀ (l1 l2 l3 : Option Value) (st : List Value) (σ : ri_S) (x : Nat), ev 197 (85, [some (.ref x), l1, l2, l3], st) σ = ev 197 (86, [some (.ref x), l1, l2, l3], .ref x :: st) σ) ∧
  (∀ (L : ri_L) (st : List Value) (σ : ri_S) (a : Nat), ev 197 (86, L, .ref a :: st) σ = tv_o 9 3 (σ.1 a) fun v => ev 197 (89, L, v :: st) σ) ∧
  (∀ (l0 l1 l2 : Option Value) (st : List Value) (σ : ri_S) (x : Int32), ev 197 (89, [l0, l1, l2, some (.int x)], st) σ = ev 197 (90, [l0, l1, l2, some (.int x)], .int x :: st) σ) ∧
  (∀ (L : ri_L) (σ : ri_S) (a0 : Nat) (a1 : Int32) (s0 : Value), ev 197 (90, L, [.int a1, .ref a0, s0]) σ = (cal 161 [.ref a0, .int a1] σ).bind fun q => ev 197 (93, L, q.1.toList ++ [s0]) q.2) ∧
  (∀ (L : ri_L) (st : List Value) (σ : ri_S) (x y : Int32), ev 197 (93, L, .int y :: .int x :: st) σ = ev 197 (94, L, .int (x + y) :: st) σ) ∧
  (∀ (l0 l1 l2 l3 : Option Value) (st : List Value) (σ : ri_S) (x : Int32), ev 197 (94, [l0, l1, l2, l3], .int x :: st) σ = ev 197 (95, [l0, ri_clr l1, some (.int x), l3], st) σ) ∧
  (∀ (l0 l1 l2 : Option Value) (st : List Value) (σ : ri_S) (x : Int32), ev 197 (95, [l0, l1, l2, some (.int x)], st) σ = ev 197 (98, [l0, l1, ri_clr l2, some (.int (x + 1))], st) σ) ∧
  (∀ (L : ri_L) (st : List Value) (σ : ri_S), ev 197 (98, L, st) σ = ev 197 (74, L, st) σ) ∧
  (∀ (l0 l1 l3 : Option Value) (st : List Value) (σ : ri_S) (x : Int32), ev 197 (101, [l0, l1, some (.int x), l3], st) σ = ev 197 (102, [l0, l1, some (.int x), l3], .int x :: st) σ) ∧
  (∀ (L : ri_L) (σ : ri_S) (x : Int32), ev 197 (102, L, [.int x]) σ = some (some (.int x), σ)) ∧
  (∀ (l1 l2 l3 : Option Value) (st : List Value) (σ : ri_S) (x : Nat), ev 197 (103, [some (.ref x), l1, l2, l3], st) σ = ev 197 (104, [some (.ref x), l1, l2, l3], .ref x :: st) σ) ∧
  (∀ (L : ri_L) (st : List Value) (σ : ri_S) (a : Nat), ev 197 (104, L, .ref a :: st) σ = tv_o 9 3 (σ.1 a) fun v => ev 197 (107, L, v :: st) σ) ∧
  (∀ (l0 l2 l3 : Option Value) (st : List Value) (σ : ri_S) (x : Int32), ev 197 (107, [l0, some (.int x), l2, l3], st) σ = ev 197 (108, [l0, some (.int x), l2, l3], .int x :: st) σ) ∧
  (∀ (L : ri_L) (st : List Value) (σ : ri_S), ev 197 (108, L, st) σ = ev 197 (109, L, .int 1 :: st) σ) :=
  ⟨fun l1 l2 l3 st σ x => ev_p ((TP_197 _).trans rfl) rfl,
   fun l0 l2 l3 st σ x => ev_p ((TP_197 _).trans rfl) rfl,
   fun L st σ x => ev_p ((TP_197 _).trans rfl) rfl,
   fun L st σ => ev_p ((TP_197 _).trans rfl) rfl,
   fun L st σ => ev_p ((TP_197 _).trans rfl) rfl,
   fun L σ a0 a1 a2 s0 => ev_call ((TP_197 _).trans rfl) rfl rfl rfl rfl,
   fun L st σ x => ev_b ((TP_197 _).trans rfl) rfl,
   fun L st σ => ev_p ((TP_197 _).trans rfl) rfl,
   fun L st σ => ev_p ((TP_197 _).trans rfl) rfl,
   fun L st σ => ev_p ((TP_197 _).trans rfl) rfl,
   fun L σ a0 a1 => ev_callv ((TP_197 _).trans rfl) rfl rfl rfl rfl,
   fun L st σ x => ev_b ((TP_197 _).trans rfl) rfl,
   fun L st σ => ev_p ((TP_197 _).trans rfl) rfl,
   fun L σ x => ev_r ((TP_197 _).trans rfl) rfl,
   fun L st σ => ev_p ((TP_197 _).trans rfl) rfl,
   fun l0 l1 l2 l3 st σ x => ev_p ((TP_197 _).trans rfl) rfl,
   fun l0 l2 l3 st σ x => ev_p ((TP_197 _).trans rfl) rfl,
   fun L st σ x => (ev_sw (lo := 4) (ts := [72, 103, 103, 103, 112, 122, 130]) (d := 138) ((TP_197 _).trans rfl)).trans (by simp only [ev_tab, ev_tab0, show (4 : Int32) + 1 = 5 from rfl, show (5 : Int32) + 1 = 6 from rfl, show (6 : Int32) + 1 = 7 from rfl, show (7 : Int32) + 1 = 8 from rfl, show (8 : Int32) + 1 = 9 from rfl, show (9 : Int32) + 1 = 10 from rfl, show (10 : Int32) + 1 = 11 from rfl]),
   fun L st σ => ev_p ((TP_197 _).trans rfl) rfl,
   fun l0 l1 l2 l3 st σ x => ev_p ((TP_197 _).trans rfl) rfl,
   fun l1 l2 l3 st σ x => ev_p ((TP_197 _).trans rfl) rfl,
   fun L st σ a => ev_getf ((TP_197 _).trans rfl),
   fun L st σ => ev_p ((TP_197 _).trans rfl) rfl,
   fun L st σ a i => ev_iald ((TP_197 _).trans rfl),
   fun L st σ x y => ev_b ((TP_197 _).trans rfl) rfl,
   fun l0 l1 l3 st σ x => ev_p ((TP_197 _).trans rfl) rfl,
   fun l1 l2 l3 st σ x => ev_p ((TP_197 _).trans rfl) rfl,
   fun L st σ a => ev_getf ((TP_197 _).trans rfl),
   fun l0 l1 l2 st σ x => ev_p ((TP_197 _).trans rfl) rfl,
   fun L σ a0 a1 s0 => ev_call ((TP_197 _).trans rfl) rfl rfl rfl rfl,
   fun L st σ x y => ev_p ((TP_197 _).trans rfl) rfl,
   fun l0 l1 l2 l3 st σ x => ev_p ((TP_197 _).trans rfl) rfl,
   fun l0 l1 l2 st σ x => ev_p ((TP_197 _).trans rfl) rfl,
   fun L st σ => ev_p ((TP_197 _).trans rfl) rfl,
   fun l0 l1 l3 st σ x => ev_p ((TP_197 _).trans rfl) rfl,
   fun L σ x => ev_r ((TP_197 _).trans rfl) rfl,
   fun l1 l2 l3 st σ x => ev_p ((TP_197 _).trans rfl) rfl,
   fun L st σ a => ev_getf ((TP_197 _).trans rfl),
   fun l0 l2 l3 st σ x => ev_p ((TP_197 _).trans rfl) rfl,
   fun L st σ => ev_p ((TP_197 _).trans rfl) rfl⟩
theorem I_197_1 :
  (∀ (L : ri_L) (st : List Value) (σ : ri_S) (x y : Int32), ev 197 (109, L, .int y :: .int x :: st) σ = ev 197 (110, L, .int (x - y) :: st) σ) ∧
  (∀ (L : ri_L) (st : List Value) (σ : ri_S) (a : Nat) (i : Int32), ev 197 (110, L, .int i :: .ref a :: st) σ = tv_r 0 (σ.1 a) i fun n f j => ev 197 (111, L, .int (f j) :: st) σ) ∧
  (∀ (L : ri_L) (σ : ri_S) (x : Int32), ev 197 (111, L, [.int x]) σ = some (some (.int x), σ)) ∧
  (∀ (l1 l2 l3 : Option Value) (st : List Value) (σ : ri_S) (x : Nat), ev 197 (112, [some (.ref x), l1, l2, l3], st) σ = ev 197 (113, [some (.ref x), l1, l2, l3], .ref x :: st) σ) ∧
  (∀ (L : ri_L) (st : List Value) (σ : ri_S) (a : Nat), ev 197 (113, L, .ref a :: st) σ = tv_o 9 3 (σ.1 a) fun v => ev 197 (116, L, v :: st) σ) ∧
  (∀ (L : ri_L) (st : List Value) (σ : ri_S), ev 197 (116, L, st) σ = ev 197 (118, L, .int 7 :: st) σ) ∧
  (∀ (L : ri_L) (st : List Value) (σ : ri_S) (a : Nat) (i : Int32), ev 197 (118, L, .int i :: .ref a :: st) σ = tv_r 0 (σ.1 a) i fun n f j => ev 197 (119, L, .int (f j) :: st) σ) ∧
  (∀ (L : ri_L) (st : List Value) (σ : ri_S), ev 197 (119, L, st) σ = ev 197 (120, L, .int 1 :: st) σ) ∧
  (∀ (L : ri_L) (st : List Value) (σ : ri_S) (x y : Int32), ev 197 (120, L, .int y :: .int x :: st) σ = ev 197 (121, L, .int (x - y) :: st) σ) ∧
  (∀ (L : ri_L) (σ : ri_S) (x : Int32), ev 197 (121, L, [.int x]) σ = some (some (.int x), σ)) ∧
  (∀ (l1 l2 l3 : Option Value) (st : List Value) (σ : ri_S) (x : Nat), ev 197 (122, [some (.ref x), l1, l2, l3], st) σ = ev 197 (123, [some (.ref x), l1, l2, l3], .ref x :: st) σ) ∧
  (∀ (L : ri_L) (st : List Value) (σ : ri_S) (a : Nat), ev 197 (123, L, .ref a :: st) σ = tv_o 9 3 (σ.1 a) fun v => ev 197 (126, L, v :: st) σ) ∧
  (∀ (L : ri_L) (st : List Value) (σ : ri_S), ev 197 (126, L, st) σ = ev 197 (128, L, .int 8 :: st) σ) ∧
  (∀ (L : ri_L) (st : List Value) (σ : ri_S) (a : Nat) (i : Int32), ev 197 (128, L, .int i :: .ref a :: st) σ = tv_r 0 (σ.1 a) i fun n f j => ev 197 (129, L, .int (f j) :: st) σ) ∧
  (∀ (L : ri_L) (σ : ri_S) (x : Int32), ev 197 (129, L, [.int x]) σ = some (some (.int x), σ)) ∧
  (∀ (l1 l2 l3 : Option Value) (st : List Value) (σ : ri_S) (x : Nat), ev 197 (130, [some (.ref x), l1, l2, l3], st) σ = ev 197 (131, [some (.ref x), l1, l2, l3], .ref x :: st) σ) ∧
  (∀ (L : ri_L) (st : List Value) (σ : ri_S) (a : Nat), ev 197 (131, L, .ref a :: st) σ = tv_o 9 3 (σ.1 a) fun v => ev 197 (134, L, v :: st) σ) ∧
  (∀ (L : ri_L) (σ : ri_S) (a0 : Nat), ev 197 (134, L, [.ref a0]) σ = (cal 196 [.ref a0] σ).bind fun q => ev 197 (137, L, q.1.toList ++ []) q.2) ∧
  (∀ (L : ri_L) (σ : ri_S) (x : Int32), ev 197 (137, L, [.int x]) σ = some (some (.int x), σ)) ∧
  (∀ (l1 l2 l3 : Option Value) (st : List Value) (σ : ri_S) (x : Nat), ev 197 (138, [some (.ref x), l1, l2, l3], st) σ = ev 197 (139, [some (.ref x), l1, l2, l3], .ref x :: st) σ) ∧
  (∀ (L : ri_L) (st : List Value) (σ : ri_S) (a : Nat), ev 197 (139, L, .ref a :: st) σ = tv_o 9 3 (σ.1 a) fun v => ev 197 (142, L, v :: st) σ) ∧
  (∀ (l0 l2 l3 : Option Value) (st : List Value) (σ : ri_S) (x : Int32), ev 197 (142, [l0, some (.int x), l2, l3], st) σ = ev 197 (143, [l0, some (.int x), l2, l3], .int x :: st) σ) ∧
  (∀ (L : ri_L) (st : List Value) (σ : ri_S) (a : Nat) (i : Int32), ev 197 (143, L, .int i :: .ref a :: st) σ = tv_r 0 (σ.1 a) i fun n f j => ev 197 (144, L, .int (f j) :: st) σ) ∧
  (∀ (L : ri_L) (σ : ri_S) (x : Int32), ev 197 (144, L, [.int x]) σ = some (some (.int x), σ)) :=
  ⟨fun L st σ x y => ev_p ((TP_197 _).trans rfl) rfl,
   fun L st σ a i => ev_iald ((TP_197 _).trans rfl),
   fun L σ x => ev_r ((TP_197 _).trans rfl) rfl,
   fun l1 l2 l3 st σ x => ev_p ((TP_197 _).trans rfl) rfl,
   fun L st σ a => ev_getf ((TP_197 _).trans rfl),
   fun L st σ => ev_p ((TP_197 _).trans rfl) rfl,
   fun L st σ a i => ev_iald ((TP_197 _).trans rfl),
   fun L st σ => ev_p ((TP_197 _).trans rfl) rfl,
   fun L st σ x y => ev_p ((TP_197 _).trans rfl) rfl,
   fun L σ x => ev_r ((TP_197 _).trans rfl) rfl,
   fun l1 l2 l3 st σ x => ev_p ((TP_197 _).trans rfl) rfl,
   fun L st σ a => ev_getf ((TP_197 _).trans rfl),
   fun L st σ => ev_p ((TP_197 _).trans rfl) rfl,
   fun L st σ a i => ev_iald ((TP_197 _).trans rfl),
   fun L σ x => ev_r ((TP_197 _).trans rfl) rfl,
   fun l1 l2 l3 st σ x => ev_p ((TP_197 _).trans rfl) rfl,
   fun L st σ a => ev_getf ((TP_197 _).trans rfl),
   fun L σ a0 => ev_call ((TP_197 _).trans rfl) rfl rfl rfl rfl,
   fun L σ x => ev_r ((TP_197 _).trans rfl) rfl,
   fun l1 l2 l3 st σ x => ev_p ((TP_197 _).trans rfl) rfl,
   fun L st σ a => ev_getf ((TP_197 _).trans rfl),
   fun l0 l2 l3 st σ x => ev_p ((TP_197 _).trans rfl) rfl,
   fun L st σ a i => ev_iald ((TP_197 _).trans rfl),
   fun L σ x => ev_r ((TP_197 _).trans rfl) rfl⟩
theorem TP_198 (pc : Nat) : TT 198 pc = ri_find TL_198 pc := rfl
theorem E_198 (x0 : Nat) (x1 : Int32) (σ : ri_S) : cal 198 [.ref x0, .int x1] σ = ev 198 (0, [some (.ref x0), some (.int x1), none, none], []) σ := rfl
theorem H_198_9 (l0 l1 l2 : Option Value) (st : List Value) (σ : ri_S) (x : Int32) : ev 198 (9, [l0, l1, l2, some (.int x)], st) σ = ev 198 (10, [l0, l1, l2, some (.int x)], .int x :: st) σ := ev_p ((TP_198 _).trans rfl) rfl
theorem I_198 :
  (∀ (l1 l2 l3 : Option Value) (st : List Value) (σ : ri_S) (x : Nat), ev 198 (0, [some (.ref x), l1, l2, l3], st) σ = ev 198 (1, [some (.ref x), l1, l2, l3], .ref x :: st) σ) ∧
  (∀ (l0 l2 l3 : Option Value) (st : List Value) (σ : ri_S) (x : Int32), ev 198 (1, [l0, some (.int x), l2, l3], st) σ = ev 198 (2, [l0, some (.int x), l2, l3], .int x :: st) σ) ∧
  (∀ (L : ri_L) (st : List Value) (σ : ri_S), ev 198 (2, L, st) σ = ev 198 (3, L, .int 0 :: st) σ) ∧
  (∀ (L : ri_L) (σ : ri_S) (a0 : Nat) (a1 : Int32) (a2 : Int32), ev 198 (3, L, [.int a2, .int a1, .ref a0]) σ = (cal 149 [.ref a0, .int a1, .int a2] σ).bind fun q => ev 198 (6, L, q.1.toList ++ []) q.2) ∧
  (∀ (l0 l1 l2 l3 : Option Value) (st : List Value) (σ : ri_S) (x : Int32), ev 198 (6, [l0, l1, l2, l3], .int x :: st) σ = ev 198 (7, [l0, ri_clr l1, some (.int x), l3], st) σ) ∧
  (∀ (L : ri_L) (st : List Value) (σ : ri_S), ev 198 (7, L, st) σ = ev 198 (8, L, .int 1 :: st) σ) ∧
  (∀ (l0 l1 l2 l3 : Option Value) (st : List Value) (σ : ri_S) (x : Int32), ev 198 (8, [l0, l1, l2, l3], .int x :: st) σ = ev 198 (9, [l0, l1, ri_clr l2, some (.int x)], st) σ) ∧
  (∀ (l1 l2 l3 : Option Value) (st : List Value) (σ : ri_S) (x : Nat), ev 198 (10, [some (.ref x), l1, l2, l3], st) σ = ev 198 (11, [some (.ref x), l1, l2, l3], .ref x :: st) σ) ∧
  (∀ (l0 l2 l3 : Option Value) (st : List Value) (σ : ri_S) (x : Int32), ev 198 (11, [l0, some (.int x), l2, l3], st) σ = ev 198 (12, [l0, some (.int x), l2, l3], .int x :: st) σ) ∧
  (∀ (L : ri_L) (st : List Value) (σ : ri_S), ev 198 (12, L, st) σ = ev 198 (13, L, .int 1 :: st) σ) ∧
  (∀ (L : ri_L) (σ : ri_S) (a0 : Nat) (a1 : Int32) (a2 : Int32) (s0 : Value), ev 198 (13, L, [.int a2, .int a1, .ref a0, s0]) σ = (cal 149 [.ref a0, .int a1, .int a2] σ).bind fun q => ev 198 (16, L, q.1.toList ++ [s0]) q.2) ∧
  (∀ (L : ri_L) (st : List Value) (σ : ri_S) (x y : Int32), ev 198 (16, L, .int y :: .int x :: st) σ = ev 198 (17, L, .int (x * y) :: st) σ) ∧
  (∀ (l0 l1 l3 : Option Value) (st : List Value) (σ : ri_S) (x : Int32), ev 198 (17, [l0, l1, some (.int x), l3], st) σ = ev 198 (18, [l0, l1, some (.int x), l3], .int x :: st) σ) ∧
  (∀ (L : ri_L) (σ : ri_S) (a0 : Int32) (a1 : Int32), ev 198 (18, L, [.int a1, .int a0]) σ = (cal 156 [.int a0, .int a1] σ).bind fun q => ev 198 (21, L, q.1.toList ++ []) q.2) ∧
  (∀ (L : ri_L) (st : List Value) (σ : ri_S) (x : Int32), ev 198 (21, L, .int x :: st) σ = if x = 0 then ev 198 (30, L, st) σ else ev 198 (24, L, st) σ) ∧
  (∀ (l0 l1 l2 : Option Value) (st : List Value) (σ : ri_S) (x : Int32), ev 198 (24, [l0, l1, l2, some (.int x)], st) σ = ev 198 (27, [l0, l1, ri_clr l2, some (.int (x + 1))], st) σ) ∧
  (∀ (L : ri_L) (st : List Value) (σ : ri_S), ev 198 (27, L, st) σ = ev 198 (9, L, st) σ) ∧
  (∀ (l0 l1 l2 : Option Value) (st : List Value) (σ : ri_S) (x : Int32), ev 198 (30, [l0, l1, l2, some (.int x)], st) σ = ev 198 (31, [l0, l1, l2, some (.int x)], .int x :: st) σ) ∧
  (∀ (L : ri_L) (σ : ri_S) (x : Int32), ev 198 (31, L, [.int x]) σ = some (some (.int x), σ)) :=
  ⟨fun l1 l2 l3 st σ x => ev_p ((TP_198 _).trans rfl) rfl,
   fun l0 l2 l3 st σ x => ev_p ((TP_198 _).trans rfl) rfl,
   fun L st σ => ev_p ((TP_198 _).trans rfl) rfl,
   fun L σ a0 a1 a2 => ev_call ((TP_198 _).trans rfl) rfl rfl rfl rfl,
   fun l0 l1 l2 l3 st σ x => ev_p ((TP_198 _).trans rfl) rfl,
   fun L st σ => ev_p ((TP_198 _).trans rfl) rfl,
   fun l0 l1 l2 l3 st σ x => ev_p ((TP_198 _).trans rfl) rfl,
   fun l1 l2 l3 st σ x => ev_p ((TP_198 _).trans rfl) rfl,
   fun l0 l2 l3 st σ x => ev_p ((TP_198 _).trans rfl) rfl,
   fun L st σ => ev_p ((TP_198 _).trans rfl) rfl,
   fun L σ a0 a1 a2 s0 => ev_call ((TP_198 _).trans rfl) rfl rfl rfl rfl,
   fun L st σ x y => ev_p ((TP_198 _).trans rfl) rfl,
   fun l0 l1 l3 st σ x => ev_p ((TP_198 _).trans rfl) rfl,
   fun L σ a0 a1 => ev_call ((TP_198 _).trans rfl) rfl rfl rfl rfl,
   fun L st σ x => ev_b ((TP_198 _).trans rfl) rfl,
   fun l0 l1 l2 st σ x => ev_p ((TP_198 _).trans rfl) rfl,
   fun L st σ => ev_p ((TP_198 _).trans rfl) rfl,
   fun l0 l1 l2 st σ x => ev_p ((TP_198 _).trans rfl) rfl,
   fun L σ x => ev_r ((TP_198 _).trans rfl) rfl⟩
theorem TP_199 (pc : Nat) : TT 199 pc = ri_find TL_199 pc := rfl
theorem E_199 (x0 : Nat) (x1 : Int32) (x2 : Int32) (σ : ri_S) : cal 199 [.ref x0, .int x1, .int x2] σ = ev 199 (0, [some (.ref x0), some (.int x1), some (.int x2)], []) σ := rfl
theorem I_199_0 :
  (∀ (l1 l2 : Option Value) (st : List Value) (σ : ri_S) (x : Nat), ev 199 (0, [some (.ref x), l1, l2], st) σ = ev 199 (1, [some (.ref x), l1, l2], .ref x :: st) σ) ∧
  (∀ (l1 l2 : Option Value) (st : List Value) (σ : ri_S) (x : Nat), ev 199 (1, [some (.ref x), l1, l2], st) σ = ev 199 (2, [some (.ref x), l1, l2], .ref x :: st) σ) ∧
  (∀ (L : ri_L) (st : List Value) (σ : ri_S) (a : Nat), ev 199 (2, L, .ref a :: st) σ = tv_o 9 3 (σ.1 a) fun v => ev 199 (5, L, v :: st) σ) ∧
  (∀ (l0 l2 : Option Value) (st : List Value) (σ : ri_S) (x : Int32), ev 199 (5, [l0, some (.int x), l2], st) σ = ev 199 (6, [l0, some (.int x), l2], .int x :: st) σ) ∧
  (∀ (L : ri_L) (σ : ri_S) (a0 : Nat) (a1 : Int32) (s0 : Value), ev 199 (6, L, [.int a1, .ref a0, s0]) σ = (cal 152 [.ref a0, .int a1] σ).bind fun q => ev 199 (9, L, q.1.toList ++ [s0]) q.2) ∧
  (∀ (L : ri_L) (st : List Value) (σ : ri_S) (x : Int32), ev 199 (9, L, .int x :: st) σ = if ¬ x = 0 then ev 199 (16, L, st) σ else ev 199 (12, L, st) σ) ∧
  (∀ (L : ri_L) (st : List Value) (σ : ri_S), ev 199 (12, L, st) σ = ev 199 (13, L, .int 1 :: st) σ) ∧
  (∀ (L : ri_L) (st : List Value) (σ : ri_S), ev 199 (13, L, st) σ = ev 199 (33, L, st) σ) ∧
  (∀ (l0 l1 : Option Value) (st : List Value) (σ : ri_S) (x : Int32), ev 199 (16, [l0, l1, some (.int x)], st) σ = ev 199 (17, [l0, l1, some (.int x)], .int x :: st) σ) ∧
  (∀ (L : ri_L) (st : List Value) (σ : ri_S) (x : Int32), ev 199 (17, L, .int x :: st) σ = ev 199 (18, L, .long x.toInt64 :: st) σ) ∧
  (∀ (L : ri_L) (st : List Value) (σ : ri_S), ev 199 (18, L, st) σ = ev 199 (19, L, .long 0 :: st) σ) ∧
  (∀ (L : ri_L) (st : List Value) (σ : ri_S), ev 199 (19, L, st) σ = ev 199 (22, L, .long 7 :: st) σ) ∧
  (∀ (L : ri_L) (σ : ri_S) (a0 : Int64) (a1 : Int64) (a2 : Int64) (s0 : Value), ev 199 (22, L, [.long a2, .long a1, .long a0, s0]) σ = (cal 146 [.long a0, .long a1, .long a2] σ).bind fun q => ev 199 (25, L, q.1.toList ++ [s0]) q.2) ∧
  (∀ (L : ri_L) (st : List Value) (σ : ri_S) (x : Int32), ev 199 (25, L, .int x :: st) σ = if x = 0 then ev 199 (32, L, st) σ else ev 199 (28, L, st) σ) ∧
  (∀ (L : ri_L) (st : List Value) (σ : ri_S), ev 199 (28, L, st) σ = ev 199 (29, L, .int 0 :: st) σ) ∧
  (∀ (L : ri_L) (st : List Value) (σ : ri_S), ev 199 (29, L, st) σ = ev 199 (33, L, st) σ) ∧
  (∀ (L : ri_L) (st : List Value) (σ : ri_S), ev 199 (32, L, st) σ = ev 199 (33, L, .int 2 :: st) σ) ∧
  (∀ (L : ri_L) (σ : ri_S) (a0 : Nat) (a1 : Int32), ev 199 (33, L, [.int a1, .ref a0]) σ = tv_k 9 (σ.1 a0) ((cal 145 [.ref a0, .int a1] σ).bind fun q => ev 199 (36, L, q.1.toList ++ []) q.2)) ∧
  (∀ (L : ri_L) (st : List Value) (σ : ri_S) (x : Int32), ev 199 (36, L, .int x :: st) σ = if x = 0 then ev 199 (41, L, st) σ else ev 199 (39, L, st) σ) ∧
  (∀ (L : ri_L) (st : List Value) (σ : ri_S), ev 199 (39, L, st) σ = ev 199 (40, L, .int 0 :: st) σ) ∧
  (∀ (L : ri_L) (σ : ri_S) (x : Int32), ev 199 (40, L, [.int x]) σ = some (some (.int x), σ)) ∧
  (∀ (l0 l1 : Option Value) (st : List Value) (σ : ri_S) (x : Int32), ev 199 (41, [l0, l1, some (.int x)], st) σ = ev 199 (42, [l0, l1, some (.int x)], .int x :: st) σ) ∧
  (∀ (L : ri_L) (st : List Value) (σ : ri_S) (x : Int32), ev 199 (42, L, .int x :: st) σ = if x = 4 then ev 199 (72, L, st) σ else if x = 5 then ev 199 (81, L, st) σ else if x = 6 then ev 199 (90, L, st) σ else if x = 7 then ev 199 (99, L, st) σ else ev 199 (109, L, st) σ) ∧
  (∀ (l1 l2 : Option Value) (st : List Value) (σ : ri_S) (x : Nat), ev 199 (72, [some (.ref x), l1, l2], st) σ = ev 199 (73, [some (.ref x), l1, l2], .ref x :: st) σ) ∧
  (∀ (L : ri_L) (st : List Value) (σ : ri_S) (a : Nat), ev 199 (73, L, .ref a :: st) σ = tv_o 9 3 (σ.1 a) fun v => ev 199 (76, L, v :: st) σ) ∧
  (∀ (l0 l2 : Option Value) (st : List Value) (σ : ri_S) (x : Int32), ev 199 (76, [l0, some (.int x), l2], st) σ = ev 199 (77, [l0, some (.int x), l2], .int x :: st) σ) ∧
  (∀ (L : ri_L) (σ : ri_S) (a0 : Nat) (a1 : Int32), ev 199 (77, L, [.int a1, .ref a0]) σ = (cal 160 [.ref a0, .int a1] σ).bind fun q => ev 199 (80, L, q.1.toList ++ []) q.2) ∧
  (∀ (L : ri_L) (σ : ri_S) (x : Int32), ev 199 (80, L, [.int x]) σ = some (some (.int x), σ)) ∧
  (∀ (l1 l2 : Option Value) (st : List Value) (σ : ri_S) (x : Nat), ev 199 (81, [some (.ref x), l1, l2], st) σ = ev 199 (82, [some (.ref x), l1, l2], .ref x :: st) σ) ∧
  (∀ (L : ri_L) (st : List Value) (σ : ri_S) (a : Nat), ev 199 (82, L, .ref a :: st) σ = tv_o 9 3 (σ.1 a) fun v => ev 199 (85, L, v :: st) σ) ∧
  (∀ (l0 l2 : Option Value) (st : List Value) (σ : ri_S) (x : Int32), ev 199 (85, [l0, some (.int x), l2], st) σ = ev 199 (86, [l0, some (.int x), l2], .int x :: st) σ) ∧
  (∀ (L : ri_L) (σ : ri_S) (a0 : Nat) (a1 : Int32), ev 199 (86, L, [.int a1, .ref a0]) σ = (cal 161 [.ref a0, .int a1] σ).bind fun q => ev 199 (89, L, q.1.toList ++ []) q.2) ∧
  (∀ (L : ri_L) (σ : ri_S) (x : Int32), ev 199 (89, L, [.int x]) σ = some (some (.int x), σ)) ∧
  (∀ (l1 l2 : Option Value) (st : List Value) (σ : ri_S) (x : Nat), ev 199 (90, [some (.ref x), l1, l2], st) σ = ev 199 (91, [some (.ref x), l1, l2], .ref x :: st) σ) ∧
  (∀ (L : ri_L) (st : List Value) (σ : ri_S) (a : Nat), ev 199 (91, L, .ref a :: st) σ = tv_o 9 3 (σ.1 a) fun v => ev 199 (94, L, v :: st) σ) ∧
  (∀ (l0 l2 : Option Value) (st : List Value) (σ : ri_S) (x : Int32), ev 199 (94, [l0, some (.int x), l2], st) σ = ev 199 (95, [l0, some (.int x), l2], .int x :: st) σ) ∧
  (∀ (L : ri_L) (σ : ri_S) (a0 : Nat) (a1 : Int32), ev 199 (95, L, [.int a1, .ref a0]) σ = (cal 198 [.ref a0, .int a1] σ).bind fun q => ev 199 (98, L, q.1.toList ++ []) q.2) ∧
  (∀ (L : ri_L) (σ : ri_S) (x : Int32), ev 199 (98, L, [.int x]) σ = some (some (.int x), σ)) ∧
  (∀ (l1 l2 : Option Value) (st : List Value) (σ : ri_S) (x : Nat), ev 199 (99, [some (.ref x), l1, l2], st) σ = ev 199 (100, [some (.ref x), l1, l2], .ref x :: st) σ) ∧
  (∀ (L : ri_L) (st : List Value) (σ : ri_S) (a : Nat), ev 199 (100, L, .ref a :: st) σ = tv_o 9 3 (σ.1 a) fun v => ev 199 (103, L, v :: st) σ) :=
  ⟨fun l1 l2 st σ x => ev_p ((TP_199 _).trans rfl) rfl,
   fun l1 l2 st σ x => ev_p ((TP_199 _).trans rfl) rfl,
   fun L st σ a => ev_getf ((TP_199 _).trans rfl),
   fun l0 l2 st σ x => ev_p ((TP_199 _).trans rfl) rfl,
   fun L σ a0 a1 s0 => ev_call ((TP_199 _).trans rfl) rfl rfl rfl rfl,
   fun L st σ x => ev_b ((TP_199 _).trans rfl) rfl,
   fun L st σ => ev_p ((TP_199 _).trans rfl) rfl,
   fun L st σ => ev_p ((TP_199 _).trans rfl) rfl,
   fun l0 l1 st σ x => ev_p ((TP_199 _).trans rfl) rfl,
   fun L st σ x => ev_p ((TP_199 _).trans rfl) rfl,
   fun L st σ => ev_p ((TP_199 _).trans rfl) rfl,
   fun L st σ => ev_p ((TP_199 _).trans rfl) rfl,
   fun L σ a0 a1 a2 s0 => ev_call ((TP_199 _).trans rfl) rfl rfl rfl rfl,
   fun L st σ x => ev_b ((TP_199 _).trans rfl) rfl,
   fun L st σ => ev_p ((TP_199 _).trans rfl) rfl,
   fun L st σ => ev_p ((TP_199 _).trans rfl) rfl,
   fun L st σ => ev_p ((TP_199 _).trans rfl) rfl,
   fun L σ a0 a1 => ev_callv ((TP_199 _).trans rfl) rfl rfl rfl rfl,
   fun L st σ x => ev_b ((TP_199 _).trans rfl) rfl,
   fun L st σ => ev_p ((TP_199 _).trans rfl) rfl,
   fun L σ x => ev_r ((TP_199 _).trans rfl) rfl,
   fun l0 l1 st σ x => ev_p ((TP_199 _).trans rfl) rfl,
   fun L st σ x => (ev_sw (lo := 4) (ts := [72, 81, 90, 99]) (d := 109) ((TP_199 _).trans rfl)).trans (by simp only [ev_tab, ev_tab0, show (4 : Int32) + 1 = 5 from rfl, show (5 : Int32) + 1 = 6 from rfl, show (6 : Int32) + 1 = 7 from rfl, show (7 : Int32) + 1 = 8 from rfl]),
   fun l1 l2 st σ x => ev_p ((TP_199 _).trans rfl) rfl,
   fun L st σ a => ev_getf ((TP_199 _).trans rfl),
   fun l0 l2 st σ x => ev_p ((TP_199 _).trans rfl) rfl,
   fun L σ a0 a1 => ev_call ((TP_199 _).trans rfl) rfl rfl rfl rfl,
   fun L σ x => ev_r ((TP_199 _).trans rfl) rfl,
   fun l1 l2 st σ x => ev_p ((TP_199 _).trans rfl) rfl,
   fun L st σ a => ev_getf ((TP_199 _).trans rfl),
   fun l0 l2 st σ x => ev_p ((TP_199 _).trans rfl) rfl,
   fun L σ a0 a1 => ev_call ((TP_199 _).trans rfl) rfl rfl rfl rfl,
   fun L σ x => ev_r ((TP_199 _).trans rfl) rfl,
   fun l1 l2 st σ x => ev_p ((TP_199 _).trans rfl) rfl,
   fun L st σ a => ev_getf ((TP_199 _).trans rfl),
   fun l0 l2 st σ x => ev_p ((TP_199 _).trans rfl) rfl,
   fun L σ a0 a1 => ev_call ((TP_199 _).trans rfl) rfl rfl rfl rfl,
   fun L σ x => ev_r ((TP_199 _).trans rfl) rfl,
   fun l1 l2 st σ x => ev_p ((TP_199 _).trans rfl) rfl,
   fun L st σ a => ev_getf ((TP_199 _).trans rfl)⟩
theorem I_199_1 :
  (∀ (l0 l2 : Option Value) (st : List Value) (σ : ri_S) (x : Int32), ev 199 (103, [l0, some (.int x), l2], st) σ = ev 199 (104, [l0, some (.int x), l2], .int x :: st) σ) ∧
  (∀ (L : ri_L) (st : List Value) (σ : ri_S), ev 199 (104, L, st) σ = ev 199 (105, L, .int 4 :: st) σ) ∧
  (∀ (L : ri_L) (σ : ri_S) (a0 : Nat) (a1 : Int32) (a2 : Int32), ev 199 (105, L, [.int a2, .int a1, .ref a0]) σ = (cal 149 [.ref a0, .int a1, .int a2] σ).bind fun q => ev 199 (108, L, q.1.toList ++ []) q.2) ∧
  (∀ (L : ri_L) (σ : ri_S) (x : Int32), ev 199 (108, L, [.int x]) σ = some (some (.int x), σ)) ∧
  (∀ (l1 l2 : Option Value) (st : List Value) (σ : ri_S) (x : Nat), ev 199 (109, [some (.ref x), l1, l2], st) σ = ev 199 (110, [some (.ref x), l1, l2], .ref x :: st) σ) ∧
  (∀ (L : ri_L) (st : List Value) (σ : ri_S) (a : Nat), ev 199 (110, L, .ref a :: st) σ = tv_o 9 3 (σ.1 a) fun v => ev 199 (113, L, v :: st) σ) ∧
  (∀ (l0 l2 : Option Value) (st : List Value) (σ : ri_S) (x : Int32), ev 199 (113, [l0, some (.int x), l2], st) σ = ev 199 (114, [l0, some (.int x), l2], .int x :: st) σ) ∧
  (∀ (l0 l1 : Option Value) (st : List Value) (σ : ri_S) (x : Int32), ev 199 (114, [l0, l1, some (.int x)], st) σ = ev 199 (115, [l0, l1, some (.int x)], .int x :: st) σ) ∧
  (∀ (L : ri_L) (σ : ri_S) (a0 : Nat) (a1 : Int32) (a2 : Int32), ev 199 (115, L, [.int a2, .int a1, .ref a0]) σ = (cal 149 [.ref a0, .int a1, .int a2] σ).bind fun q => ev 199 (118, L, q.1.toList ++ []) q.2) ∧
  (∀ (L : ri_L) (σ : ri_S) (x : Int32), ev 199 (118, L, [.int x]) σ = some (some (.int x), σ)) :=
  ⟨fun l0 l2 st σ x => ev_p ((TP_199 _).trans rfl) rfl,
   fun L st σ => ev_p ((TP_199 _).trans rfl) rfl,
   fun L σ a0 a1 a2 => ev_call ((TP_199 _).trans rfl) rfl rfl rfl rfl,
   fun L σ x => ev_r ((TP_199 _).trans rfl) rfl,
   fun l1 l2 st σ x => ev_p ((TP_199 _).trans rfl) rfl,
   fun L st σ a => ev_getf ((TP_199 _).trans rfl),
   fun l0 l2 st σ x => ev_p ((TP_199 _).trans rfl) rfl,
   fun l0 l1 st σ x => ev_p ((TP_199 _).trans rfl) rfl,
   fun L σ a0 a1 a2 => ev_call ((TP_199 _).trans rfl) rfl rfl rfl rfl,
   fun L σ x => ev_r ((TP_199 _).trans rfl) rfl⟩
theorem TP_200 (pc : Nat) : TT 200 pc = ri_find TL_200 pc := rfl
theorem E_200 (x0 : Nat) (x1 : Int32) (x2 : Int32) (x3 : Int32) (σ : ri_S) : cal 200 [.ref x0, .int x1, .int x2, .int x3] σ = ev 200 (0, [some (.ref x0), some (.int x1), some (.int x2), some (.int x3), none, none, none], []) σ := rfl
theorem H_200_59 (l0 l1 l2 l3 l4 l5 : Option Value) (st : List Value) (σ : ri_S) (x : Int32) : ev 200 (59, [l0, l1, l2, l3, l4, l5, some (.int x)], st) σ = ev 200 (61, [l0, l1, l2, l3, l4, l5, some (.int x)], .int x :: st) σ := ev_p ((TP_200 _).trans rfl) rfl
theorem I_200_0 :
  (∀ (l1 l2 l3 l4 l5 l6 : Option Value) (st : List Value) (σ : ri_S) (x : Nat), ev 200 (0, [some (.ref x), l1, l2, l3, l4, l5, l6], st) σ = ev 200 (1, [some (.ref x), l1, l2, l3, l4, l5, l6], .ref x :: st) σ) ∧
  (∀ (l1 l2 l3 l4 l5 l6 : Option Value) (st : List Value) (σ : ri_S) (x : Nat), ev 200 (1, [some (.ref x), l1, l2, l3, l4, l5, l6], st) σ = ev 200 (2, [some (.ref x), l1, l2, l3, l4, l5, l6], .ref x :: st) σ) ∧
  (∀ (L : ri_L) (st : List Value) (σ : ri_S) (a : Nat), ev 200 (2, L, .ref a :: st) σ = tv_o 9 3 (σ.1 a) fun v => ev 200 (5, L, v :: st) σ) ∧
  (∀ (l0 l2 l3 l4 l5 l6 : Option Value) (st : List Value) (σ : ri_S) (x : Int32), ev 200 (5, [l0, some (.int x), l2, l3, l4, l5, l6], st) σ = ev 200 (6, [l0, some (.int x), l2, l3, l4, l5, l6], .int x :: st) σ) ∧
  (∀ (l0 l1 l3 l4 l5 l6 : Option Value) (st : List Value) (σ : ri_S) (x : Int32), ev 200 (6, [l0, l1, some (.int x), l3, l4, l5, l6], st) σ = ev 200 (7, [l0, l1, some (.int x), l3, l4, l5, l6], .int x :: st) σ) ∧
  (∀ (L : ri_L) (σ : ri_S) (a0 : Nat) (a1 : Int32) (a2 : Int32) (s0 : Value), ev 200 (7, L, [.int a2, .int a1, .ref a0, s0]) σ = (cal 153 [.ref a0, .int a1, .int a2] σ).bind fun q => ev 200 (10, L, q.1.toList ++ [s0]) q.2) ∧
  (∀ (L : ri_L) (st : List Value) (σ : ri_S) (x : Int32), ev 200 (10, L, .int x :: st) σ = if ¬ x = 0 then ev 200 (17, L, st) σ else ev 200 (13, L, st) σ) ∧
  (∀ (L : ri_L) (st : List Value) (σ : ri_S), ev 200 (13, L, st) σ = ev 200 (14, L, .int 1 :: st) σ) ∧
  (∀ (L : ri_L) (st : List Value) (σ : ri_S), ev 200 (14, L, st) σ = ev 200 (34, L, st) σ) ∧
  (∀ (l0 l1 l2 l4 l5 l6 : Option Value) (st : List Value) (σ : ri_S) (x : Int32), ev 200 (17, [l0, l1, l2, some (.int x), l4, l5, l6], st) σ = ev 200 (18, [l0, l1, l2, some (.int x), l4, l5, l6], .int x :: st) σ) ∧
  (∀ (L : ri_L) (st : List Value) (σ : ri_S) (x : Int32), ev 200 (18, L, .int x :: st) σ = ev 200 (19, L, .long x.toInt64 :: st) σ) ∧
  (∀ (L : ri_L) (st : List Value) (σ : ri_S), ev 200 (19, L, st) σ = ev 200 (20, L, .long 0 :: st) σ) ∧
  (∀ (L : ri_L) (st : List Value) (σ : ri_S), ev 200 (20, L, st) σ = ev 200 (23, L, .long 3 :: st) σ) ∧
  (∀ (L : ri_L) (σ : ri_S) (a0 : Int64) (a1 : Int64) (a2 : Int64) (s0 : Value), ev 200 (23, L, [.long a2, .long a1, .long a0, s0]) σ = (cal 146 [.long a0, .long a1, .long a2] σ).bind fun q => ev 200 (26, L, q.1.toList ++ [s0]) q.2) ∧
  (∀ (L : ri_L) (st : List Value) (σ : ri_S) (x : Int32), ev 200 (26, L, .int x :: st) σ = if x = 0 then ev 200 (33, L, st) σ else ev 200 (29, L, st) σ) ∧
  (∀ (L : ri_L) (st : List Value) (σ : ri_S), ev 200 (29, L, st) σ = ev 200 (30, L, .int 0 :: st) σ) ∧
  (∀ (L : ri_L) (st : List Value) (σ : ri_S), ev 200 (30, L, st) σ = ev 200 (34, L, st) σ) ∧
  (∀ (L : ri_L) (st : List Value) (σ : ri_S), ev 200 (33, L, st) σ = ev 200 (34, L, .int 2 :: st) σ) ∧
  (∀ (L : ri_L) (σ : ri_S) (a0 : Nat) (a1 : Int32), ev 200 (34, L, [.int a1, .ref a0]) σ = tv_k 9 (σ.1 a0) ((cal 145 [.ref a0, .int a1] σ).bind fun q => ev 200 (37, L, q.1.toList ++ []) q.2)) ∧
  (∀ (L : ri_L) (st : List Value) (σ : ri_S) (x : Int32), ev 200 (37, L, .int x :: st) σ = if x = 0 then ev 200 (42, L, st) σ else ev 200 (40, L, st) σ) ∧
  (∀ (L : ri_L) (st : List Value) (σ : ri_S), ev 200 (40, L, st) σ = ev 200 (41, L, .int 0 :: st) σ) ∧
  (∀ (L : ri_L) (σ : ri_S) (x : Int32), ev 200 (41, L, [.int x]) σ = some (some (.int x), σ)) ∧
  (∀ (l1 l2 l3 l4 l5 l6 : Option Value) (st : List Value) (σ : ri_S) (x : Nat), ev 200 (42, [some (.ref x), l1, l2, l3, l4, l5, l6], st) σ = ev 200 (43, [some (.ref x), l1, l2, l3, l4, l5, l6], .ref x :: st) σ) ∧
  (∀ (L : ri_L) (st : List Value) (σ : ri_S) (a : Nat), ev 200 (43, L, .ref a :: st) σ = tv_o 9 3 (σ.1 a) fun v => ev 200 (46, L, v :: st) σ) ∧
  (∀ (l0 l2 l3 l4 l5 l6 : Option Value) (st : List Value) (σ : ri_S) (x : Int32), ev 200 (46, [l0, some (.int x), l2, l3, l4, l5, l6], st) σ = ev 200 (47, [l0, some (.int x), l2, l3, l4, l5, l6], .int x :: st) σ) ∧
  (∀ (l0 l1 l3 l4 l5 l6 : Option Value) (st : List Value) (σ : ri_S) (x : Int32), ev 200 (47, [l0, l1, some (.int x), l3, l4, l5, l6], st) σ = ev 200 (48, [l0, l1, some (.int x), l3, l4, l5, l6], .int x :: st) σ) ∧
  (∀ (L : ri_L) (σ : ri_S) (a0 : Nat) (a1 : Int32) (a2 : Int32), ev 200 (48, L, [.int a2, .int a1, .ref a0]) σ = (cal 157 [.ref a0, .int a1, .int a2] σ).bind fun q => ev 200 (51, L, q.1.toList ++ []) q.2) ∧
  (∀ (l0 l1 l2 l3 l4 l5 l6 : Option Value) (st : List Value) (σ : ri_S) (x : Int32), ev 200 (51, [l0, l1, l2, l3, l4, l5, l6], .int x :: st) σ = ev 200 (53, [l0, l1, l2, ri_clr l3, some (.int x), l5, l6], st) σ) ∧
  (∀ (L : ri_L) (st : List Value) (σ : ri_S), ev 200 (53, L, st) σ = ev 200 (54, L, .int 0 :: st) σ) ∧
  (∀ (l0 l1 l2 l3 l4 l5 l6 : Option Value) (st : List Value) (σ : ri_S) (x : Int32), ev 200 (54, [l0, l1, l2, l3, l4, l5, l6], .int x :: st) σ = ev 200 (56, [l0, l1, l2, l3, ri_clr l4, some (.int x), l6], st) σ) ∧
  (∀ (L : ri_L) (st : List Value) (σ : ri_S), ev 200 (56, L, st) σ = ev 200 (57, L, .int 0 :: st) σ) ∧
  (∀ (l0 l1 l2 l3 l4 l5 l6 : Option Value) (st : List Value) (σ : ri_S) (x : Int32), ev 200 (57, [l0, l1, l2, l3, l4, l5, l6], .int x :: st) σ = ev 200 (59, [l0, l1, l2, l3, l4, ri_clr l5, some (.int x)], st) σ) ∧
  (∀ (l1 l2 l3 l4 l5 l6 : Option Value) (st : List Value) (σ : ri_S) (x : Nat), ev 200 (61, [some (.ref x), l1, l2, l3, l4, l5, l6], st) σ = ev 200 (62, [some (.ref x), l1, l2, l3, l4, l5, l6], .ref x :: st) σ) ∧
  (∀ (L : ri_L) (st : List Value) (σ : ri_S) (a : Nat), ev 200 (62, L, .ref a :: st) σ = tv_o 9 3 (σ.1 a) fun v => ev 200 (65, L, v :: st) σ) ∧
  (∀ (L : ri_L) (st : List Value) (σ : ri_S), ev 200 (65, L, st) σ = ev 200 (66, L, .int 1 :: st) σ) ∧
  (∀ (L : ri_L) (st : List Value) (σ : ri_S) (a : Nat) (i : Int32), ev 200 (66, L, .int i :: .ref a :: st) σ = tv_r 0 (σ.1 a) i fun n f j => ev 200 (67, L, .int (f j) :: st) σ) ∧
  (∀ (L : ri_L) (st : List Value) (σ : ri_S) (x y : Int32), ev 200 (67, L, .int y :: .int x :: st) σ = if y ≤ x then ev 200 (142, L, st) σ else ev 200 (70, L, st) σ) ∧
  (∀ (l0 l1 l2 l3 l4 l6 : Option Value) (st : List Value) (σ : ri_S) (x : Int32), ev 200 (70, [l0, l1, l2, l3, l4, some (.int x), l6], st) σ = ev 200 (72, [l0, l1, l2, l3, l4, some (.int x), l6], .int x :: st) σ) ∧
  (∀ (l1 l2 l3 l4 l5 l6 : Option Value) (st : List Value) (σ : ri_S) (x : Nat), ev 200 (72, [some (.ref x), l1, l2, l3, l4, l5, l6], st) σ = ev 200 (73, [some (.ref x), l1, l2, l3, l4, l5, l6], .ref x :: st) σ) ∧
  (∀ (L : ri_L) (st : List Value) (σ : ri_S) (a : Nat), ev 200 (73, L, .ref a :: st) σ = tv_o 9 3 (σ.1 a) fun v => ev 200 (76, L, v :: st) σ) :=
  ⟨fun l1 l2 l3 l4 l5 l6 st σ x => ev_p ((TP_200 _).trans rfl) rfl,
   fun l1 l2 l3 l4 l5 l6 st σ x => ev_p ((TP_200 _).trans rfl) rfl,
   fun L st σ a => ev_getf ((TP_200 _).trans rfl),
   fun l0 l2 l3 l4 l5 l6 st σ x => ev_p ((TP_200 _).trans rfl) rfl,
   fun l0 l1 l3 l4 l5 l6 st σ x => ev_p ((TP_200 _).trans rfl) rfl,
   fun L σ a0 a1 a2 s0 => ev_call ((TP_200 _).trans rfl) rfl rfl rfl rfl,
   fun L st σ x => ev_b ((TP_200 _).trans rfl) rfl,
   fun L st σ => ev_p ((TP_200 _).trans rfl) rfl,
   fun L st σ => ev_p ((TP_200 _).trans rfl) rfl,
   fun l0 l1 l2 l4 l5 l6 st σ x => ev_p ((TP_200 _).trans rfl) rfl,
   fun L st σ x => ev_p ((TP_200 _).trans rfl) rfl,
   fun L st σ => ev_p ((TP_200 _).trans rfl) rfl,
   fun L st σ => ev_p ((TP_200 _).trans rfl) rfl,
   fun L σ a0 a1 a2 s0 => ev_call ((TP_200 _).trans rfl) rfl rfl rfl rfl,
   fun L st σ x => ev_b ((TP_200 _).trans rfl) rfl,
   fun L st σ => ev_p ((TP_200 _).trans rfl) rfl,
   fun L st σ => ev_p ((TP_200 _).trans rfl) rfl,
   fun L st σ => ev_p ((TP_200 _).trans rfl) rfl,
   fun L σ a0 a1 => ev_callv ((TP_200 _).trans rfl) rfl rfl rfl rfl,
   fun L st σ x => ev_b ((TP_200 _).trans rfl) rfl,
   fun L st σ => ev_p ((TP_200 _).trans rfl) rfl,
   fun L σ x => ev_r ((TP_200 _).trans rfl) rfl,
   fun l1 l2 l3 l4 l5 l6 st σ x => ev_p ((TP_200 _).trans rfl) rfl,
   fun L st σ a => ev_getf ((TP_200 _).trans rfl),
   fun l0 l2 l3 l4 l5 l6 st σ x => ev_p ((TP_200 _).trans rfl) rfl,
   fun l0 l1 l3 l4 l5 l6 st σ x => ev_p ((TP_200 _).trans rfl) rfl,
   fun L σ a0 a1 a2 => ev_call ((TP_200 _).trans rfl) rfl rfl rfl rfl,
   fun l0 l1 l2 l3 l4 l5 l6 st σ x => ev_p ((TP_200 _).trans rfl) rfl,
   fun L st σ => ev_p ((TP_200 _).trans rfl) rfl,
   fun l0 l1 l2 l3 l4 l5 l6 st σ x => ev_p ((TP_200 _).trans rfl) rfl,
   fun L st σ => ev_p ((TP_200 _).trans rfl) rfl,
   fun l0 l1 l2 l3 l4 l5 l6 st σ x => ev_p ((TP_200 _).trans rfl) rfl,
   fun l1 l2 l3 l4 l5 l6 st σ x => ev_p ((TP_200 _).trans rfl) rfl,
   fun L st σ a => ev_getf ((TP_200 _).trans rfl),
   fun L st σ => ev_p ((TP_200 _).trans rfl) rfl,
   fun L st σ a i => ev_iald ((TP_200 _).trans rfl),
   fun L st σ x y => ev_b ((TP_200 _).trans rfl) rfl,
   fun l0 l1 l2 l3 l4 l6 st σ x => ev_p ((TP_200 _).trans rfl) rfl,
   fun l1 l2 l3 l4 l5 l6 st σ x => ev_p ((TP_200 _).trans rfl) rfl,
   fun L st σ a => ev_getf ((TP_200 _).trans rfl)⟩
theorem I_200_1 :
  (∀ (l0 l1 l2 l3 l4 l5 : Option Value) (st : List Value) (σ : ri_S) (x : Int32), ev 200 (76, [l0, l1, l2, l3, l4, l5, some (.int x)], st) σ = ev 200 (78, [l0, l1, l2, l3, l4, l5, some (.int x)], .int x :: st) σ) ∧
  (∀ (L : ri_L) (st : List Value) (σ : ri_S), ev 200 (78, L, st) σ = ev 200 (79, L, .int 0 :: st) σ) ∧
  (∀ (L : ri_L) (σ : ri_S) (a0 : Nat) (a1 : Int32) (a2 : Int32) (s0 : Value), ev 200 (79, L, [.int a2, .int a1, .ref a0, s0]) σ = (cal 151 [.ref a0, .int a1, .int a2] σ).bind fun q => ev 200 (82, L, q.1.toList ++ [s0]) q.2) ∧
  (∀ (l0 l2 l3 l4 l5 l6 : Option Value) (st : List Value) (σ : ri_S) (x : Int32), ev 200 (82, [l0, some (.int x), l2, l3, l4, l5, l6], st) σ = ev 200 (83, [l0, some (.int x), l2, l3, l4, l5, l6], .int x :: st) σ) ∧
  (∀ (L : ri_L) (st : List Value) (σ : ri_S) (x y : Int32), ev 200 (83, L, .int y :: .int x :: st) σ = if ¬ x = y then ev 200 (100, L, st) σ else ev 200 (86, L, st) σ) ∧
  (∀ (l1 l2 l3 l4 l5 l6 : Option Value) (st : List Value) (σ : ri_S) (x : Nat), ev 200 (86, [some (.ref x), l1, l2, l3, l4, l5, l6], st) σ = ev 200 (87, [some (.ref x), l1, l2, l3, l4, l5, l6], .ref x :: st) σ) ∧
  (∀ (L : ri_L) (st : List Value) (σ : ri_S) (a : Nat), ev 200 (87, L, .ref a :: st) σ = tv_o 9 3 (σ.1 a) fun v => ev 200 (90, L, v :: st) σ) ∧
  (∀ (l0 l1 l2 l3 l4 l5 : Option Value) (st : List Value) (σ : ri_S) (x : Int32), ev 200 (90, [l0, l1, l2, l3, l4, l5, some (.int x)], st) σ = ev 200 (92, [l0, l1, l2, l3, l4, l5, some (.int x)], .int x :: st) σ) ∧
  (∀ (L : ri_L) (st : List Value) (σ : ri_S), ev 200 (92, L, st) σ = ev 200 (93, L, .int 1 :: st) σ) ∧
  (∀ (L : ri_L) (σ : ri_S) (a0 : Nat) (a1 : Int32) (a2 : Int32) (s0 : Value), ev 200 (93, L, [.int a2, .int a1, .ref a0, s0]) σ = (cal 151 [.ref a0, .int a1, .int a2] σ).bind fun q => ev 200 (96, L, q.1.toList ++ [s0]) q.2) ∧
  (∀ (l0 l1 l3 l4 l5 l6 : Option Value) (st : List Value) (σ : ri_S) (x : Int32), ev 200 (96, [l0, l1, some (.int x), l3, l4, l5, l6], st) σ = ev 200 (97, [l0, l1, some (.int x), l3, l4, l5, l6], .int x :: st) σ) ∧
  (∀ (L : ri_L) (st : List Value) (σ : ri_S) (x y : Int32), ev 200 (97, L, .int y :: .int x :: st) σ = if x = y then ev 200 (128, L, st) σ else ev 200 (100, L, st) σ) ∧
  (∀ (l1 l2 l3 l4 l5 l6 : Option Value) (st : List Value) (σ : ri_S) (x : Nat), ev 200 (100, [some (.ref x), l1, l2, l3, l4, l5, l6], st) σ = ev 200 (101, [some (.ref x), l1, l2, l3, l4, l5, l6], .ref x :: st) σ) ∧
  (∀ (L : ri_L) (st : List Value) (σ : ri_S) (a : Nat), ev 200 (101, L, .ref a :: st) σ = tv_o 9 3 (σ.1 a) fun v => ev 200 (104, L, v :: st) σ) ∧
  (∀ (l0 l1 l2 l3 l4 l5 : Option Value) (st : List Value) (σ : ri_S) (x : Int32), ev 200 (104, [l0, l1, l2, l3, l4, l5, some (.int x)], st) σ = ev 200 (106, [l0, l1, l2, l3, l4, l5, some (.int x)], .int x :: st) σ) ∧
  (∀ (L : ri_L) (st : List Value) (σ : ri_S), ev 200 (106, L, st) σ = ev 200 (107, L, .int 2 :: st) σ) ∧
  (∀ (L : ri_L) (σ : ri_S) (a0 : Nat) (a1 : Int32) (a2 : Int32) (s0 : Value), ev 200 (107, L, [.int a2, .int a1, .ref a0, s0]) σ = (cal 151 [.ref a0, .int a1, .int a2] σ).bind fun q => ev 200 (110, L, q.1.toList ++ [s0]) q.2) ∧
  (∀ (l0 l2 l3 l4 l5 l6 : Option Value) (st : List Value) (σ : ri_S) (x : Int32), ev 200 (110, [l0, some (.int x), l2, l3, l4, l5, l6], st) σ = ev 200 (111, [l0, some (.int x), l2, l3, l4, l5, l6], .int x :: st) σ) ∧
  (∀ (L : ri_L) (st : List Value) (σ : ri_S) (x y : Int32), ev 200 (111, L, .int y :: .int x :: st) σ = if ¬ x = y then ev 200 (132, L, st) σ else ev 200 (114, L, st) σ) ∧
  (∀ (l1 l2 l3 l4 l5 l6 : Option Value) (st : List Value) (σ : ri_S) (x : Nat), ev 200 (114, [some (.ref x), l1, l2, l3, l4, l5, l6], st) σ = ev 200 (115, [some (.ref x), l1, l2, l3, l4, l5, l6], .ref x :: st) σ) ∧
  (∀ (L : ri_L) (st : List Value) (σ : ri_S) (a : Nat), ev 200 (115, L, .ref a :: st) σ = tv_o 9 3 (σ.1 a) fun v => ev 200 (118, L, v :: st) σ) ∧
  (∀ (l0 l1 l2 l3 l4 l5 : Option Value) (st : List Value) (σ : ri_S) (x : Int32), ev 200 (118, [l0, l1, l2, l3, l4, l5, some (.int x)], st) σ = ev 200 (120, [l0, l1, l2, l3, l4, l5, some (.int x)], .int x :: st) σ) ∧
  (∀ (L : ri_L) (st : List Value) (σ : ri_S), ev 200 (120, L, st) σ = ev 200 (121, L, .int 3 :: st) σ) ∧
  (∀ (L : ri_L) (σ : ri_S) (a0 : Nat) (a1 : Int32) (a2 : Int32) (s0 : Value), ev 200 (121, L, [.int a2, .int a1, .ref a0, s0]) σ = (cal 151 [.ref a0, .int a1, .int a2] σ).bind fun q => ev 200 (124, L, q.1.toList ++ [s0]) q.2) ∧
  (∀ (l0 l1 l3 l4 l5 l6 : Option Value) (st : List Value) (σ : ri_S) (x : Int32), ev 200 (124, [l0, l1, some (.int x), l3, l4, l5, l6], st) σ = ev 200 (125, [l0, l1, some (.int x), l3, l4, l5, l6], .int x :: st) σ) ∧
  (∀ (L : ri_L) (st : List Value) (σ : ri_S) (x y : Int32), ev 200 (125, L, .int y :: .int x :: st) σ = if ¬ x = y then ev 200 (132, L, st) σ else ev 200 (128, L, st) σ) ∧
  (∀ (L : ri_L) (st : List Value) (σ : ri_S), ev 200 (128, L, st) σ = ev 200 (129, L, .int 1 :: st) σ) ∧
  (∀ (L : ri_L) (st : List Value) (σ : ri_S), ev 200 (129, L, st) σ = ev 200 (133, L, st) σ) ∧
  (∀ (L : ri_L) (st : List Value) (σ : ri_S), ev 200 (132, L, st) σ = ev 200 (133, L, .int 0 :: st) σ) ∧
  (∀ (L : ri_L) (st : List Value) (σ : ri_S) (x y : Int32), ev 200 (133, L, .int y :: .int x :: st) σ = ev 200 (134, L, .int (x + y) :: st) σ) ∧
  (∀ (l0 l1 l2 l3 l4 l5 l6 : Option Value) (st : List Value) (σ : ri_S) (x : Int32), ev 200 (134, [l0, l1, l2, l3, l4, l5, l6], .int x :: st) σ = ev 200 (136, [l0, l1, l2, l3, ri_clr l4, some (.int x), l6], st) σ) ∧
  (∀ (l0 l1 l2 l3 l4 l5 : Option Value) (st : List Value) (σ : ri_S) (x : Int32), ev 200 (136, [l0, l1, l2, l3, l4, l5, some (.int x)], st) σ = ev 200 (139, [l0, l1, l2, l3, l4, ri_clr l5, some (.int (x + 1))], st) σ) ∧
  (∀ (L : ri_L) (st : List Value) (σ : ri_S), ev 200 (139, L, st) σ = ev 200 (59, L, st) σ) ∧
  (∀ (l0 l1 l2 l4 l5 l6 : Option Value) (st : List Value) (σ : ri_S) (x : Int32), ev 200 (142, [l0, l1, l2, some (.int x), l4, l5, l6], st) σ = ev 200 (143, [l0, l1, l2, some (.int x), l4, l5, l6], .int x :: st) σ) ∧
  (∀ (L : ri_L) (st : List Value) (σ : ri_S) (x : Int32), ev 200 (143, L, .int x :: st) σ = if ¬ x = 0 then ev 200 (151, L, st) σ else ev 200 (146, L, st) σ) ∧
  (∀ (l0 l1 l2 l3 l5 l6 : Option Value) (st : List Value) (σ : ri_S) (x : Int32), ev 200 (146, [l0, l1, l2, l3, some (.int x), l5, l6], st) σ = ev 200 (148, [l0, l1, l2, l3, some (.int x), l5, l6], .int x :: st) σ) ∧
  (∀ (L : ri_L) (st : List Value) (σ : ri_S), ev 200 (148, L, st) σ = ev 200 (191, L, st) σ) ∧
  (∀ (l0 l1 l2 l4 l5 l6 : Option Value) (st : List Value) (σ : ri_S) (x : Int32), ev 200 (151, [l0, l1, l2, some (.int x), l4, l5, l6], st) σ = ev 200 (152, [l0, l1, l2, some (.int x), l4, l5, l6], .int x :: st) σ) ∧
  (∀ (L : ri_L) (st : List Value) (σ : ri_S), ev 200 (152, L, st) σ = ev 200 (153, L, .int 1 :: st) σ) ∧
  (∀ (L : ri_L) (st : List Value) (σ : ri_S) (x y : Int32), ev 200 (153, L, .int y :: .int x :: st) σ = if ¬ x = y then ev 200 (171, L, st) σ else ev 200 (156, L, st) σ) :=
  ⟨fun l0 l1 l2 l3 l4 l5 st σ x => ev_p ((TP_200 _).trans rfl) rfl,
   fun L st σ => ev_p ((TP_200 _).trans rfl) rfl,
   fun L σ a0 a1 a2 s0 => ev_call ((TP_200 _).trans rfl) rfl rfl rfl rfl,
   fun l0 l2 l3 l4 l5 l6 st σ x => ev_p ((TP_200 _).trans rfl) rfl,
   fun L st σ x y => ev_b ((TP_200 _).trans rfl) rfl,
   fun l1 l2 l3 l4 l5 l6 st σ x => ev_p ((TP_200 _).trans rfl) rfl,
   fun L st σ a => ev_getf ((TP_200 _).trans rfl),
   fun l0 l1 l2 l3 l4 l5 st σ x => ev_p ((TP_200 _).trans rfl) rfl,
   fun L st σ => ev_p ((TP_200 _).trans rfl) rfl,
   fun L σ a0 a1 a2 s0 => ev_call ((TP_200 _).trans rfl) rfl rfl rfl rfl,
   fun l0 l1 l3 l4 l5 l6 st σ x => ev_p ((TP_200 _).trans rfl) rfl,
   fun L st σ x y => ev_b ((TP_200 _).trans rfl) rfl,
   fun l1 l2 l3 l4 l5 l6 st σ x => ev_p ((TP_200 _).trans rfl) rfl,
   fun L st σ a => ev_getf ((TP_200 _).trans rfl),
   fun l0 l1 l2 l3 l4 l5 st σ x => ev_p ((TP_200 _).trans rfl) rfl,
   fun L st σ => ev_p ((TP_200 _).trans rfl) rfl,
   fun L σ a0 a1 a2 s0 => ev_call ((TP_200 _).trans rfl) rfl rfl rfl rfl,
   fun l0 l2 l3 l4 l5 l6 st σ x => ev_p ((TP_200 _).trans rfl) rfl,
   fun L st σ x y => ev_b ((TP_200 _).trans rfl) rfl,
   fun l1 l2 l3 l4 l5 l6 st σ x => ev_p ((TP_200 _).trans rfl) rfl,
   fun L st σ a => ev_getf ((TP_200 _).trans rfl),
   fun l0 l1 l2 l3 l4 l5 st σ x => ev_p ((TP_200 _).trans rfl) rfl,
   fun L st σ => ev_p ((TP_200 _).trans rfl) rfl,
   fun L σ a0 a1 a2 s0 => ev_call ((TP_200 _).trans rfl) rfl rfl rfl rfl,
   fun l0 l1 l3 l4 l5 l6 st σ x => ev_p ((TP_200 _).trans rfl) rfl,
   fun L st σ x y => ev_b ((TP_200 _).trans rfl) rfl,
   fun L st σ => ev_p ((TP_200 _).trans rfl) rfl,
   fun L st σ => ev_p ((TP_200 _).trans rfl) rfl,
   fun L st σ => ev_p ((TP_200 _).trans rfl) rfl,
   fun L st σ x y => ev_p ((TP_200 _).trans rfl) rfl,
   fun l0 l1 l2 l3 l4 l5 l6 st σ x => ev_p ((TP_200 _).trans rfl) rfl,
   fun l0 l1 l2 l3 l4 l5 st σ x => ev_p ((TP_200 _).trans rfl) rfl,
   fun L st σ => ev_p ((TP_200 _).trans rfl) rfl,
   fun l0 l1 l2 l4 l5 l6 st σ x => ev_p ((TP_200 _).trans rfl) rfl,
   fun L st σ x => ev_b ((TP_200 _).trans rfl) rfl,
   fun l0 l1 l2 l3 l5 l6 st σ x => ev_p ((TP_200 _).trans rfl) rfl,
   fun L st σ => ev_p ((TP_200 _).trans rfl) rfl,
   fun l0 l1 l2 l4 l5 l6 st σ x => ev_p ((TP_200 _).trans rfl) rfl,
   fun L st σ => ev_p ((TP_200 _).trans rfl) rfl,
   fun L st σ x y => ev_b ((TP_200 _).trans rfl) rfl⟩
theorem I_200_2 :
  (∀ (l1 l2 l3 l4 l5 l6 : Option Value) (st : List Value) (σ : ri_S) (x : Nat), ev 200 (156, [some (.ref x), l1, l2, l3, l4, l5, l6], st) σ = ev 200 (157, [some (.ref x), l1, l2, l3, l4, l5, l6], .ref x :: st) σ) ∧
  (∀ (L : ri_L) (st : List Value) (σ : ri_S) (a : Nat), ev 200 (157, L, .ref a :: st) σ = tv_o 9 3 (σ.1 a) fun v => ev 200 (160, L, v :: st) σ) ∧
  (∀ (l0 l2 l3 l4 l5 l6 : Option Value) (st : List Value) (σ : ri_S) (x : Int32), ev 200 (160, [l0, some (.int x), l2, l3, l4, l5, l6], st) σ = ev 200 (161, [l0, some (.int x), l2, l3, l4, l5, l6], .int x :: st) σ) ∧
  (∀ (L : ri_L) (st : List Value) (σ : ri_S), ev 200 (161, L, st) σ = ev 200 (162, L, .int 5 :: st) σ) ∧
  (∀ (l0 l1 l2 l3 l5 l6 : Option Value) (st : List Value) (σ : ri_S) (x : Int32), ev 200 (162, [l0, l1, l2, l3, some (.int x), l5, l6], st) σ = ev 200 (164, [l0, l1, l2, l3, some (.int x), l5, l6], .int x :: st) σ) ∧
  (∀ (L : ri_L) (st : List Value) (σ : ri_S) (x y : Int32), ev 200 (164, L, .int y :: .int x :: st) σ = ev 200 (165, L, .int (x + y) :: st) σ) ∧
  (∀ (L : ri_L) (σ : ri_S) (a0 : Nat) (a1 : Int32) (a2 : Int32), ev 200 (165, L, [.int a2, .int a1, .ref a0]) σ = (cal 149 [.ref a0, .int a1, .int a2] σ).bind fun q => ev 200 (168, L, q.1.toList ++ []) q.2) ∧
  (∀ (L : ri_L) (st : List Value) (σ : ri_S), ev 200 (168, L, st) σ = ev 200 (191, L, st) σ) ∧
  (∀ (l0 l1 l2 l4 l5 l6 : Option Value) (st : List Value) (σ : ri_S) (x : Int32), ev 200 (171, [l0, l1, l2, some (.int x), l4, l5, l6], st) σ = ev 200 (172, [l0, l1, l2, some (.int x), l4, l5, l6], .int x :: st) σ) ∧
  (∀ (L : ri_L) (st : List Value) (σ : ri_S), ev 200 (172, L, st) σ = ev 200 (173, L, .int 2 :: st) σ) ∧
  (∀ (L : ri_L) (st : List Value) (σ : ri_S) (x y : Int32), ev 200 (173, L, .int y :: .int x :: st) σ = if ¬ x = y then ev 200 (189, L, st) σ else ev 200 (176, L, st) σ) ∧
  (∀ (l1 l2 l3 l4 l5 l6 : Option Value) (st : List Value) (σ : ri_S) (x : Nat), ev 200 (176, [some (.ref x), l1, l2, l3, l4, l5, l6], st) σ = ev 200 (177, [some (.ref x), l1, l2, l3, l4, l5, l6], .ref x :: st) σ) ∧
  (∀ (L : ri_L) (st : List Value) (σ : ri_S) (a : Nat), ev 200 (177, L, .ref a :: st) σ = tv_o 9 3 (σ.1 a) fun v => ev 200 (180, L, v :: st) σ) ∧
  (∀ (l0 l2 l3 l4 l5 l6 : Option Value) (st : List Value) (σ : ri_S) (x : Int32), ev 200 (180, [l0, some (.int x), l2, l3, l4, l5, l6], st) σ = ev 200 (181, [l0, some (.int x), l2, l3, l4, l5, l6], .int x :: st) σ) ∧
  (∀ (l0 l1 l2 l3 l5 l6 : Option Value) (st : List Value) (σ : ri_S) (x : Int32), ev 200 (181, [l0, l1, l2, l3, some (.int x), l5, l6], st) σ = ev 200 (183, [l0, l1, l2, l3, some (.int x), l5, l6], .int x :: st) σ) ∧
  (∀ (L : ri_L) (σ : ri_S) (a0 : Nat) (a1 : Int32) (a2 : Int32), ev 200 (183, L, [.int a2, .int a1, .ref a0]) σ = (cal 159 [.ref a0, .int a1, .int a2] σ).bind fun q => ev 200 (186, L, q.1.toList ++ []) q.2) ∧
  (∀ (L : ri_L) (st : List Value) (σ : ri_S), ev 200 (186, L, st) σ = ev 200 (191, L, st) σ) ∧
  (∀ (l0 l1 l2 l3 l4 l6 : Option Value) (st : List Value) (σ : ri_S) (x : Int32), ev 200 (189, [l0, l1, l2, l3, l4, some (.int x), l6], st) σ = ev 200 (191, [l0, l1, l2, l3, l4, some (.int x), l6], .int x :: st) σ) ∧
  (∀ (L : ri_L) (σ : ri_S) (x : Int32), ev 200 (191, L, [.int x]) σ = some (some (.int x), σ)) :=
  ⟨fun l1 l2 l3 l4 l5 l6 st σ x => ev_p ((TP_200 _).trans rfl) rfl,
   fun L st σ a => ev_getf ((TP_200 _).trans rfl),
   fun l0 l2 l3 l4 l5 l6 st σ x => ev_p ((TP_200 _).trans rfl) rfl,
   fun L st σ => ev_p ((TP_200 _).trans rfl) rfl,
   fun l0 l1 l2 l3 l5 l6 st σ x => ev_p ((TP_200 _).trans rfl) rfl,
   fun L st σ x y => ev_p ((TP_200 _).trans rfl) rfl,
   fun L σ a0 a1 a2 => ev_call ((TP_200 _).trans rfl) rfl rfl rfl rfl,
   fun L st σ => ev_p ((TP_200 _).trans rfl) rfl,
   fun l0 l1 l2 l4 l5 l6 st σ x => ev_p ((TP_200 _).trans rfl) rfl,
   fun L st σ => ev_p ((TP_200 _).trans rfl) rfl,
   fun L st σ x y => ev_b ((TP_200 _).trans rfl) rfl,
   fun l1 l2 l3 l4 l5 l6 st σ x => ev_p ((TP_200 _).trans rfl) rfl,
   fun L st σ a => ev_getf ((TP_200 _).trans rfl),
   fun l0 l2 l3 l4 l5 l6 st σ x => ev_p ((TP_200 _).trans rfl) rfl,
   fun l0 l1 l2 l3 l5 l6 st σ x => ev_p ((TP_200 _).trans rfl) rfl,
   fun L σ a0 a1 a2 => ev_call ((TP_200 _).trans rfl) rfl rfl rfl rfl,
   fun L st σ => ev_p ((TP_200 _).trans rfl) rfl,
   fun l0 l1 l2 l3 l4 l6 st σ x => ev_p ((TP_200 _).trans rfl) rfl,
   fun L σ x => ev_r ((TP_200 _).trans rfl) rfl⟩
theorem TP_201 (pc : Nat) : TT 201 pc = ri_find TL_201 pc := rfl
theorem E_201 (x0 : Nat) (x1 : Int32) (x2 : Int32) (σ : ri_S) : cal 201 [.ref x0, .int x1, .int x2] σ = ev 201 (0, [some (.ref x0), some (.int x1), some (.int x2)], []) σ := rfl
theorem I_201_0 :
  (∀ (l1 l2 : Option Value) (st : List Value) (σ : ri_S) (x : Nat), ev 201 (0, [some (.ref x), l1, l2], st) σ = ev 201 (1, [some (.ref x), l1, l2], .ref x :: st) σ) ∧
  (∀ (l1 l2 : Option Value) (st : List Value) (σ : ri_S) (x : Nat), ev 201 (1, [some (.ref x), l1, l2], st) σ = ev 201 (2, [some (.ref x), l1, l2], .ref x :: st) σ) ∧
  (∀ (L : ri_L) (st : List Value) (σ : ri_S) (a : Nat), ev 201 (2, L, .ref a :: st) σ = tv_o 9 3 (σ.1 a) fun v => ev 201 (5, L, v :: st) σ) ∧
  (∀ (l0 l2 : Option Value) (st : List Value) (σ : ri_S) (x : Int32), ev 201 (5, [l0, some (.int x), l2], st) σ = ev 201 (6, [l0, some (.int x), l2], .int x :: st) σ) ∧
  (∀ (L : ri_L) (σ : ri_S) (a0 : Nat) (a1 : Int32) (s0 : Value), ev 201 (6, L, [.int a1, .ref a0, s0]) σ = (cal 154 [.ref a0, .int a1] σ).bind fun q => ev 201 (9, L, q.1.toList ++ [s0]) q.2) ∧
  (∀ (L : ri_L) (st : List Value) (σ : ri_S) (x : Int32), ev 201 (9, L, .int x :: st) σ = if ¬ x = 0 then ev 201 (16, L, st) σ else ev 201 (12, L, st) σ) ∧
  (∀ (L : ri_L) (st : List Value) (σ : ri_S), ev 201 (12, L, st) σ = ev 201 (13, L, .int 1 :: st) σ) ∧
  (∀ (L : ri_L) (st : List Value) (σ : ri_S), ev 201 (13, L, st) σ = ev 201 (33, L, st) σ) ∧
  (∀ (l0 l1 : Option Value) (st : List Value) (σ : ri_S) (x : Int32), ev 201 (16, [l0, l1, some (.int x)], st) σ = ev 201 (17, [l0, l1, some (.int x)], .int x :: st) σ) ∧
  (∀ (L : ri_L) (st : List Value) (σ : ri_S) (x : Int32), ev 201 (17, L, .int x :: st) σ = ev 201 (18, L, .long x.toInt64 :: st) σ) ∧
  (∀ (L : ri_L) (st : List Value) (σ : ri_S), ev 201 (18, L, st) σ = ev 201 (19, L, .long 0 :: st) σ) ∧
  (∀ (L : ri_L) (st : List Value) (σ : ri_S), ev 201 (19, L, st) σ = ev 201 (22, L, .long 5 :: st) σ) ∧
  (∀ (L : ri_L) (σ : ri_S) (a0 : Int64) (a1 : Int64) (a2 : Int64) (s0 : Value), ev 201 (22, L, [.long a2, .long a1, .long a0, s0]) σ = (cal 146 [.long a0, .long a1, .long a2] σ).bind fun q => ev 201 (25, L, q.1.toList ++ [s0]) q.2) ∧
  (∀ (L : ri_L) (st : List Value) (σ : ri_S) (x : Int32), ev 201 (25, L, .int x :: st) σ = if x = 0 then ev 201 (32, L, st) σ else ev 201 (28, L, st) σ) ∧
  (∀ (L : ri_L) (st : List Value) (σ : ri_S), ev 201 (28, L, st) σ = ev 201 (29, L, .int 0 :: st) σ) ∧
  (∀ (L : ri_L) (st : List Value) (σ : ri_S), ev 201 (29, L, st) σ = ev 201 (33, L, st) σ) ∧
  (∀ (L : ri_L) (st : List Value) (σ : ri_S), ev 201 (32, L, st) σ = ev 201 (33, L, .int 2 :: st) σ) ∧
  (∀ (L : ri_L) (σ : ri_S) (a0 : Nat) (a1 : Int32), ev 201 (33, L, [.int a1, .ref a0]) σ = tv_k 9 (σ.1 a0) ((cal 145 [.ref a0, .int a1] σ).bind fun q => ev 201 (36, L, q.1.toList ++ []) q.2)) ∧
  (∀ (L : ri_L) (st : List Value) (σ : ri_S) (x : Int32), ev 201 (36, L, .int x :: st) σ = if x = 0 then ev 201 (41, L, st) σ else ev 201 (39, L, st) σ) ∧
  (∀ (L : ri_L) (st : List Value) (σ : ri_S), ev 201 (39, L, st) σ = ev 201 (40, L, .int 0 :: st) σ) ∧
  (∀ (L : ri_L) (σ : ri_S) (x : Int32), ev 201 (40, L, [.int x]) σ = some (some (.int x), σ)) ∧
  (∀ (l0 l1 : Option Value) (st : List Value) (σ : ri_S) (x : Int32), ev 201 (41, [l0, l1, some (.int x)], st) σ = ev 201 (42, [l0, l1, some (.int x)], .int x :: st) σ) ∧
  (∀ (L : ri_L) (st : List Value) (σ : ri_S), ev 201 (42, L, st) σ = ev 201 (43, L, .int 3 :: st) σ) ∧
  (∀ (L : ri_L) (st : List Value) (σ : ri_S) (x y : Int32), ev 201 (43, L, .int y :: .int x :: st) σ = if ¬ x = y then ev 201 (57, L, st) σ else ev 201 (46, L, st) σ) ∧
  (∀ (l1 l2 : Option Value) (st : List Value) (σ : ri_S) (x : Nat), ev 201 (46, [some (.ref x), l1, l2], st) σ = ev 201 (47, [some (.ref x), l1, l2], .ref x :: st) σ) ∧
  (∀ (L : ri_L) (st : List Value) (σ : ri_S) (a : Nat), ev 201 (47, L, .ref a :: st) σ = tv_o 9 3 (σ.1 a) fun v => ev 201 (50, L, v :: st) σ) ∧
  (∀ (l0 l2 : Option Value) (st : List Value) (σ : ri_S) (x : Int32), ev 201 (50, [l0, some (.int x), l2], st) σ = ev 201 (51, [l0, some (.int x), l2], .int x :: st) σ) ∧
  (∀ (L : ri_L) (σ : ri_S) (a0 : Nat) (a1 : Int32), ev 201 (51, L, [.int a1, .ref a0]) σ = (cal 158 [.ref a0, .int a1] σ).bind fun q => ev 201 (54, L, q.1.toList ++ []) q.2) ∧
  (∀ (L : ri_L) (st : List Value) (σ : ri_S), ev 201 (54, L, st) σ = ev 201 (77, L, st) σ) ∧
  (∀ (l1 l2 : Option Value) (st : List Value) (σ : ri_S) (x : Nat), ev 201 (57, [some (.ref x), l1, l2], st) σ = ev 201 (58, [some (.ref x), l1, l2], .ref x :: st) σ) ∧
  (∀ (L : ri_L) (st : List Value) (σ : ri_S) (a : Nat), ev 201 (58, L, .ref a :: st) σ = tv_o 9 3 (σ.1 a) fun v => ev 201 (61, L, v :: st) σ) ∧
  (∀ (l0 l2 : Option Value) (st : List Value) (σ : ri_S) (x : Int32), ev 201 (61, [l0, some (.int x), l2], st) σ = ev 201 (62, [l0, some (.int x), l2], .int x :: st) σ) ∧
  (∀ (l0 l1 : Option Value) (st : List Value) (σ : ri_S) (x : Int32), ev 201 (62, [l0, l1, some (.int x)], st) σ = ev 201 (63, [l0, l1, some (.int x)], .int x :: st) σ) ∧
  (∀ (L : ri_L) (st : List Value) (σ : ri_S), ev 201 (63, L, st) σ = ev 201 (64, L, .int 3 :: st) σ) ∧
  (∀ (L : ri_L) (st : List Value) (σ : ri_S) (x y : Int32), ev 201 (64, L, .int y :: .int x :: st) σ = if x ≤ y then ev 201 (73, L, st) σ else ev 201 (67, L, st) σ) ∧
  (∀ (l0 l1 : Option Value) (st : List Value) (σ : ri_S) (x : Int32), ev 201 (67, [l0, l1, some (.int x)], st) σ = ev 201 (68, [l0, l1, some (.int x)], .int x :: st) σ) ∧
  (∀ (L : ri_L) (st : List Value) (σ : ri_S), ev 201 (68, L, st) σ = ev 201 (69, L, .int 1 :: st) σ) ∧
  (∀ (L : ri_L) (st : List Value) (σ : ri_S) (x y : Int32), ev 201 (69, L, .int y :: .int x :: st) σ = ev 201 (70, L, .int (x - y) :: st) σ) ∧
  (∀ (L : ri_L) (st : List Value) (σ : ri_S), ev 201 (70, L, st) σ = ev 201 (74, L, st) σ) ∧
  (∀ (l0 l1 : Option Value) (st : List Value) (σ : ri_S) (x : Int32), ev 201 (73, [l0, l1, some (.int x)], st) σ = ev 201 (74, [l0, l1, some (.int x)], .int x :: st) σ) :=
  ⟨fun l1 l2 st σ x => ev_p ((TP_201 _).trans rfl) rfl,
   fun l1 l2 st σ x => ev_p ((TP_201 _).trans rfl) rfl,
   fun L st σ a => ev_getf ((TP_201 _).trans rfl),
   fun l0 l2 st σ x => ev_p ((TP_201 _).trans rfl) rfl,
   fun L σ a0 a1 s0 => ev_call ((TP_201 _).trans rfl) rfl rfl rfl rfl,
   fun L st σ x => ev_b ((TP_201 _).trans rfl) rfl,
   fun L st σ => ev_p ((TP_201 _).trans rfl) rfl,
   fun L st σ => ev_p ((TP_201 _).trans rfl) rfl,
   fun l0 l1 st σ x => ev_p ((TP_201 _).trans rfl) rfl,
   fun L st σ x => ev_p ((TP_201 _).trans rfl) rfl,
   fun L st σ => ev_p ((TP_201 _).trans rfl) rfl,
   fun L st σ => ev_p ((TP_201 _).trans rfl) rfl,
   fun L σ a0 a1 a2 s0 => ev_call ((TP_201 _).trans rfl) rfl rfl rfl rfl,
   fun L st σ x => ev_b ((TP_201 _).trans rfl) rfl,
   fun L st σ => ev_p ((TP_201 _).trans rfl) rfl,
   fun L st σ => ev_p ((TP_201 _).trans rfl) rfl,
   fun L st σ => ev_p ((TP_201 _).trans rfl) rfl,
   fun L σ a0 a1 => ev_callv ((TP_201 _).trans rfl) rfl rfl rfl rfl,
   fun L st σ x => ev_b ((TP_201 _).trans rfl) rfl,
   fun L st σ => ev_p ((TP_201 _).trans rfl) rfl,
   fun L σ x => ev_r ((TP_201 _).trans rfl) rfl,
   fun l0 l1 st σ x => ev_p ((TP_201 _).trans rfl) rfl,
   fun L st σ => ev_p ((TP_201 _).trans rfl) rfl,
   fun L st σ x y => ev_b ((TP_201 _).trans rfl) rfl,
   fun l1 l2 st σ x => ev_p ((TP_201 _).trans rfl) rfl,
   fun L st σ a => ev_getf ((TP_201 _).trans rfl),
   fun l0 l2 st σ x => ev_p ((TP_201 _).trans rfl) rfl,
   fun L σ a0 a1 => ev_call ((TP_201 _).trans rfl) rfl rfl rfl rfl,
   fun L st σ => ev_p ((TP_201 _).trans rfl) rfl,
   fun l1 l2 st σ x => ev_p ((TP_201 _).trans rfl) rfl,
   fun L st σ a => ev_getf ((TP_201 _).trans rfl),
   fun l0 l2 st σ x => ev_p ((TP_201 _).trans rfl) rfl,
   fun l0 l1 st σ x => ev_p ((TP_201 _).trans rfl) rfl,
   fun L st σ => ev_p ((TP_201 _).trans rfl) rfl,
   fun L st σ x y => ev_b ((TP_201 _).trans rfl) rfl,
   fun l0 l1 st σ x => ev_p ((TP_201 _).trans rfl) rfl,
   fun L st σ => ev_p ((TP_201 _).trans rfl) rfl,
   fun L st σ x y => ev_p ((TP_201 _).trans rfl) rfl,
   fun L st σ => ev_p ((TP_201 _).trans rfl) rfl,
   fun l0 l1 st σ x => ev_p ((TP_201 _).trans rfl) rfl⟩
theorem I_201_1 :
  (∀ (L : ri_L) (σ : ri_S) (a0 : Nat) (a1 : Int32) (a2 : Int32), ev 201 (74, L, [.int a2, .int a1, .ref a0]) σ = (cal 150 [.ref a0, .int a1, .int a2] σ).bind fun q => ev 201 (77, L, q.1.toList ++ []) q.2) ∧
  (∀ (L : ri_L) (σ : ri_S) (x : Int32), ev 201 (77, L, [.int x]) σ = some (some (.int x), σ)) :=
  ⟨fun L σ a0 a1 a2 => ev_call ((TP_201 _).trans rfl) rfl rfl rfl rfl,
   fun L σ x => ev_r ((TP_201 _).trans rfl) rfl⟩
theorem TP_202 (pc : Nat) : TT 202 pc = ri_find TL_202 pc := rfl
theorem E_202 (x0 : Nat) (x1 : Int32) (x2 : Int32) (σ : ri_S) : cal 202 [.ref x0, .int x1, .int x2] σ = ev 202 (0, [some (.ref x0), some (.int x1), some (.int x2)], []) σ := rfl
theorem I_202 :
  (∀ (l1 l2 : Option Value) (st : List Value) (σ : ri_S) (x : Nat), ev 202 (0, [some (.ref x), l1, l2], st) σ = ev 202 (1, [some (.ref x), l1, l2], .ref x :: st) σ) ∧
  (∀ (l1 l2 : Option Value) (st : List Value) (σ : ri_S) (x : Nat), ev 202 (1, [some (.ref x), l1, l2], st) σ = ev 202 (2, [some (.ref x), l1, l2], .ref x :: st) σ) ∧
  (∀ (L : ri_L) (st : List Value) (σ : ri_S) (a : Nat), ev 202 (2, L, .ref a :: st) σ = tv_o 9 3 (σ.1 a) fun v => ev 202 (5, L, v :: st) σ) ∧
  (∀ (l0 l2 : Option Value) (st : List Value) (σ : ri_S) (x : Int32), ev 202 (5, [l0, some (.int x), l2], st) σ = ev 202 (6, [l0, some (.int x), l2], .int x :: st) σ) ∧
  (∀ (L : ri_L) (σ : ri_S) (a0 : Nat) (a1 : Int32) (s0 : Value), ev 202 (6, L, [.int a1, .ref a0, s0]) σ = (cal 155 [.ref a0, .int a1] σ).bind fun q => ev 202 (9, L, q.1.toList ++ [s0]) q.2) ∧
  (∀ (L : ri_L) (st : List Value) (σ : ri_S) (x : Int32), ev 202 (9, L, .int x :: st) σ = if ¬ x = 0 then ev 202 (16, L, st) σ else ev 202 (12, L, st) σ) ∧
  (∀ (L : ri_L) (st : List Value) (σ : ri_S), ev 202 (12, L, st) σ = ev 202 (13, L, .int 1 :: st) σ) ∧
  (∀ (L : ri_L) (st : List Value) (σ : ri_S), ev 202 (13, L, st) σ = ev 202 (33, L, st) σ) ∧
  (∀ (l0 l1 : Option Value) (st : List Value) (σ : ri_S) (x : Int32), ev 202 (16, [l0, l1, some (.int x)], st) σ = ev 202 (17, [l0, l1, some (.int x)], .int x :: st) σ) ∧
  (∀ (L : ri_L) (st : List Value) (σ : ri_S) (x : Int32), ev 202 (17, L, .int x :: st) σ = ev 202 (18, L, .long x.toInt64 :: st) σ) ∧
  (∀ (L : ri_L) (st : List Value) (σ : ri_S), ev 202 (18, L, st) σ = ev 202 (19, L, .long 0 :: st) σ) ∧
  (∀ (L : ri_L) (st : List Value) (σ : ri_S), ev 202 (19, L, st) σ = ev 202 (22, L, .long 3 :: st) σ) ∧
  (∀ (L : ri_L) (σ : ri_S) (a0 : Int64) (a1 : Int64) (a2 : Int64) (s0 : Value), ev 202 (22, L, [.long a2, .long a1, .long a0, s0]) σ = (cal 146 [.long a0, .long a1, .long a2] σ).bind fun q => ev 202 (25, L, q.1.toList ++ [s0]) q.2) ∧
  (∀ (L : ri_L) (st : List Value) (σ : ri_S) (x : Int32), ev 202 (25, L, .int x :: st) σ = if x = 0 then ev 202 (32, L, st) σ else ev 202 (28, L, st) σ) ∧
  (∀ (L : ri_L) (st : List Value) (σ : ri_S), ev 202 (28, L, st) σ = ev 202 (29, L, .int 0 :: st) σ) ∧
  (∀ (L : ri_L) (st : List Value) (σ : ri_S), ev 202 (29, L, st) σ = ev 202 (33, L, st) σ) ∧
  (∀ (L : ri_L) (st : List Value) (σ : ri_S), ev 202 (32, L, st) σ = ev 202 (33, L, .int 2 :: st) σ) ∧
  (∀ (L : ri_L) (σ : ri_S) (a0 : Nat) (a1 : Int32), ev 202 (33, L, [.int a1, .ref a0]) σ = tv_k 9 (σ.1 a0) ((cal 145 [.ref a0, .int a1] σ).bind fun q => ev 202 (36, L, q.1.toList ++ []) q.2)) ∧
  (∀ (L : ri_L) (st : List Value) (σ : ri_S) (x : Int32), ev 202 (36, L, .int x :: st) σ = if x = 0 then ev 202 (41, L, st) σ else ev 202 (39, L, st) σ) ∧
  (∀ (L : ri_L) (st : List Value) (σ : ri_S), ev 202 (39, L, st) σ = ev 202 (40, L, .int 0 :: st) σ) ∧
  (∀ (L : ri_L) (σ : ri_S) (x : Int32), ev 202 (40, L, [.int x]) σ = some (some (.int x), σ)) ∧
  (∀ (l1 l2 : Option Value) (st : List Value) (σ : ri_S) (x : Nat), ev 202 (41, [some (.ref x), l1, l2], st) σ = ev 202 (42, [some (.ref x), l1, l2], .ref x :: st) σ) ∧
  (∀ (L : ri_L) (st : List Value) (σ : ri_S) (a : Nat), ev 202 (42, L, .ref a :: st) σ = tv_o 9 3 (σ.1 a) fun v => ev 202 (45, L, v :: st) σ) ∧
  (∀ (l0 l2 : Option Value) (st : List Value) (σ : ri_S) (x : Int32), ev 202 (45, [l0, some (.int x), l2], st) σ = ev 202 (46, [l0, some (.int x), l2], .int x :: st) σ) ∧
  (∀ (l0 l1 : Option Value) (st : List Value) (σ : ri_S) (x : Int32), ev 202 (46, [l0, l1, some (.int x)], st) σ = ev 202 (47, [l0, l1, some (.int x)], .int x :: st) σ) ∧
  (∀ (L : ri_L) (σ : ri_S) (a0 : Nat) (a1 : Int32) (a2 : Int32), ev 202 (47, L, [.int a2, .int a1, .ref a0]) σ = (cal 151 [.ref a0, .int a1, .int a2] σ).bind fun q => ev 202 (50, L, q.1.toList ++ []) q.2) ∧
  (∀ (L : ri_L) (σ : ri_S) (x : Int32), ev 202 (50, L, [.int x]) σ = some (some (.int x), σ)) :=
  ⟨fun l1 l2 st σ x => ev_p ((TP_202 _).trans rfl) rfl,
   fun l1 l2 st σ x => ev_p ((TP_202 _).trans rfl) rfl,
   fun L st σ a => ev_getf ((TP_202 _).trans rfl),
   fun l0 l2 st σ x => ev_p ((TP_202 _).trans rfl) rfl,
   fun L σ a0 a1 s0 => ev_call ((TP_202 _).trans rfl) rfl rfl rfl rfl,
   fun L st σ x => ev_b ((TP_202 _).trans rfl) rfl,
   fun L st σ => ev_p ((TP_202 _).trans rfl) rfl,
   fun L st σ => ev_p ((TP_202 _).trans rfl) rfl,
   fun l0 l1 st σ x => ev_p ((TP_202 _).trans rfl) rfl,
   fun L st σ x => ev_p ((TP_202 _).trans rfl) rfl,
   fun L st σ => ev_p ((TP_202 _).trans rfl) rfl,
   fun L st σ => ev_p ((TP_202 _).trans rfl) rfl,
   fun L σ a0 a1 a2 s0 => ev_call ((TP_202 _).trans rfl) rfl rfl rfl rfl,
   fun L st σ x => ev_b ((TP_202 _).trans rfl) rfl,
   fun L st σ => ev_p ((TP_202 _).trans rfl) rfl,
   fun L st σ => ev_p ((TP_202 _).trans rfl) rfl,
   fun L st σ => ev_p ((TP_202 _).trans rfl) rfl,
   fun L σ a0 a1 => ev_callv ((TP_202 _).trans rfl) rfl rfl rfl rfl,
   fun L st σ x => ev_b ((TP_202 _).trans rfl) rfl,
   fun L st σ => ev_p ((TP_202 _).trans rfl) rfl,
   fun L σ x => ev_r ((TP_202 _).trans rfl) rfl,
   fun l1 l2 st σ x => ev_p ((TP_202 _).trans rfl) rfl,
   fun L st σ a => ev_getf ((TP_202 _).trans rfl),
   fun l0 l2 st σ x => ev_p ((TP_202 _).trans rfl) rfl,
   fun l0 l1 st σ x => ev_p ((TP_202 _).trans rfl) rfl,
   fun L σ a0 a1 a2 => ev_call ((TP_202 _).trans rfl) rfl rfl rfl rfl,
   fun L σ x => ev_r ((TP_202 _).trans rfl) rfl⟩
theorem TP_203 (pc : Nat) : TT 203 pc = ri_find TL_203 pc := rfl
theorem E_203 (x0 : Nat) (σ : ri_S) : cal 203 [.ref x0] σ = ev 203 (0, [some (.ref x0), none], []) σ := rfl
theorem H_203_11 (l0 : Option Value) (st : List Value) (σ : ri_S) (x : Int32) : ev 203 (11, [l0, some (.int x)], st) σ = ev 203 (12, [l0, some (.int x)], .int x :: st) σ := ev_p ((TP_203 _).trans rfl) rfl
theorem I_203_0 :
  (∀ (l1 : Option Value) (st : List Value) (σ : ri_S) (x : Nat), ev 203 (0, [some (.ref x), l1], st) σ = ev 203 (1, [some (.ref x), l1], .ref x :: st) σ) ∧
  (∀ (L : ri_L) (st : List Value) (σ : ri_S) (a : Nat), ev 203 (1, L, .ref a :: st) σ = tv_o 9 6 (σ.1 a) fun v => ev 203 (4, L, v :: st) σ) ∧
  (∀ (L : ri_L) (st : List Value) (σ : ri_S), ev 203 (4, L, st) σ = ev 203 (6, L, .int 14 :: st) σ) ∧
  (∀ (L : ri_L) (st : List Value) (σ : ri_S) (x y : Int32), ev 203 (6, L, .int y :: .int x :: st) σ = if ¬ x = y then ev 203 (49, L, st) σ else ev 203 (9, L, st) σ) ∧
  (∀ (L : ri_L) (st : List Value) (σ : ri_S), ev 203 (9, L, st) σ = ev 203 (10, L, .int 0 :: st) σ) ∧
  (∀ (l0 l1 : Option Value) (st : List Value) (σ : ri_S) (x : Int32), ev 203 (10, [l0, l1], .int x :: st) σ = ev 203 (11, [ri_clr l0, some (.int x)], st) σ) ∧
  (∀ (L : ri_L) (st : List Value) (σ : ri_S), ev 203 (12, L, st) σ = ev 203 (15, L, .int 1248 :: st) σ) ∧
  (∀ (L : ri_L) (st : List Value) (σ : ri_S) (x y : Int32), ev 203 (15, L, .int y :: .int x :: st) σ = if y ≤ x then ev 203 (39, L, st) σ else ev 203 (18, L, st) σ) ∧
  (∀ (l1 : Option Value) (st : List Value) (σ : ri_S) (x : Nat), ev 203 (18, [some (.ref x), l1], st) σ = ev 203 (19, [some (.ref x), l1], .ref x :: st) σ) ∧
  (∀ (L : ri_L) (st : List Value) (σ : ri_S) (a : Nat), ev 203 (19, L, .ref a :: st) σ = tv_o 9 5 (σ.1 a) fun v => ev 203 (22, L, v :: st) σ) ∧
  (∀ (l0 : Option Value) (st : List Value) (σ : ri_S) (x : Int32), ev 203 (22, [l0, some (.int x)], st) σ = ev 203 (23, [l0, some (.int x)], .int x :: st) σ) ∧
  (∀ (l1 : Option Value) (st : List Value) (σ : ri_S) (x : Nat), ev 203 (23, [some (.ref x), l1], st) σ = ev 203 (24, [some (.ref x), l1], .ref x :: st) σ) ∧
  (∀ (L : ri_L) (st : List Value) (σ : ri_S) (a : Nat), ev 203 (24, L, .ref a :: st) σ = tv_o 9 5 (σ.1 a) fun v => ev 203 (27, L, v :: st) σ) ∧
  (∀ (l0 : Option Value) (st : List Value) (σ : ri_S) (x : Int32), ev 203 (27, [l0, some (.int x)], st) σ = ev 203 (28, [l0, some (.int x)], .int x :: st) σ) ∧
  (∀ (L : ri_L) (st : List Value) (σ : ri_S), ev 203 (28, L, st) σ = ev 203 (30, L, .int 96 :: st) σ) ∧
  (∀ (L : ri_L) (st : List Value) (σ : ri_S) (x y : Int32), ev 203 (30, L, .int y :: .int x :: st) σ = ev 203 (31, L, .int (x + y) :: st) σ) ∧
  (∀ (L : ri_L) (st : List Value) (σ : ri_S) (a : Nat) (i : Int32), ev 203 (31, L, .int i :: .ref a :: st) σ = tv_r 0 (σ.1 a) i fun n f j => ev 203 (32, L, .int (f j) :: st) σ) ∧
  (∀ (L : ri_L) (st : List Value) (σ : ri_S) (a : Nat) (i x : Int32), ev 203 (32, L, .int x :: .int i :: .ref a :: st) σ = tv_r 0 (σ.1 a) i fun n f j => ev 203 (33, L, st) (ri_upd σ.1 a (.inl (0, n, upd f j x)), σ.2)) ∧
  (∀ (l0 : Option Value) (st : List Value) (σ : ri_S) (x : Int32), ev 203 (33, [l0, some (.int x)], st) σ = ev 203 (36, [ri_clr l0, some (.int (x + 1))], st) σ) ∧
  (∀ (L : ri_L) (st : List Value) (σ : ri_S), ev 203 (36, L, st) σ = ev 203 (11, L, st) σ) ∧
  (∀ (l1 : Option Value) (st : List Value) (σ : ri_S) (x : Nat), ev 203 (39, [some (.ref x), l1], st) σ = ev 203 (40, [some (.ref x), l1], .ref x :: st) σ) ∧
  (∀ (L : ri_L) (st : List Value) (σ : ri_S) (x : Nat), ev 203 (40, L, .ref x :: st) σ = ev 203 (41, L, .ref x :: .ref x :: st) σ) ∧
  (∀ (L : ri_L) (st : List Value) (σ : ri_S) (a : Nat), ev 203 (41, L, .ref a :: st) σ = tv_o 9 6 (σ.1 a) fun v => ev 203 (44, L, v :: st) σ) ∧
  (∀ (L : ri_L) (st : List Value) (σ : ri_S), ev 203 (44, L, st) σ = ev 203 (45, L, .int 1 :: st) σ) ∧
  (∀ (L : ri_L) (st : List Value) (σ : ri_S) (x y : Int32), ev 203 (45, L, .int y :: .int x :: st) σ = ev 203 (46, L, .int (x - y) :: st) σ) ∧
  (∀ (L : ri_L) (st : List Value) (σ : ri_S) (a : Nat) (x : Int32), ev 203 (46, L, .int x :: .ref a :: st) σ = tv_w 9 6 (σ.1 a) (.int x) fun fs => ev 203 (49, L, st) (ri_upd σ.1 a (.inr (.inr (9, fs))), σ.2)) ∧
  (∀ (l1 : Option Value) (st : List Value) (σ : ri_S) (x : Nat), ev 203 (49, [some (.ref x), l1], st) σ = ev 203 (50, [some (.ref x), l1], .ref x :: st) σ) ∧
  (∀ (L : ri_L) (st : List Value) (σ : ri_S) (a : Nat), ev 203 (50, L, .ref a :: st) σ = tv_o 9 3 (σ.1 a) fun v => ev 203 (53, L, v :: st) σ) ∧
  (∀ (L : ri_L) (st : List Value) (σ : ri_S), ev 203 (53, L, st) σ = ev 203 (54, L, .int 0 :: st) σ) ∧
  (∀ (l1 : Option Value) (st : List Value) (σ : ri_S) (x : Nat), ev 203 (54, [some (.ref x), l1], st) σ = ev 203 (55, [some (.ref x), l1], .ref x :: st) σ) ∧
  (∀ (L : ri_L) (st : List Value) (σ : ri_S) (a : Nat), ev 203 (55, L, .ref a :: st) σ = tv_o 9 5 (σ.1 a) fun v => ev 203 (58, L, v :: st) σ) ∧
  (∀ (L : ri_L) (st : List Value) (σ : ri_S), ev 203 (58, L, st) σ = ev 203 (60, L, .int 96 :: st) σ) ∧
  (∀ (l1 : Option Value) (st : List Value) (σ : ri_S) (x : Nat), ev 203 (60, [some (.ref x), l1], st) σ = ev 203 (61, [some (.ref x), l1], .ref x :: st) σ) ∧
  (∀ (L : ri_L) (st : List Value) (σ : ri_S) (a : Nat), ev 203 (61, L, .ref a :: st) σ = tv_o 9 6 (σ.1 a) fun v => ev 203 (64, L, v :: st) σ) ∧
  (∀ (L : ri_L) (st : List Value) (σ : ri_S) (x y : Int32), ev 203 (64, L, .int y :: .int x :: st) σ = ev 203 (65, L, .int (x * y) :: st) σ) ∧
  (∀ (L : ri_L) (σ : ri_S) (a0 : Nat) (a1 : Int32) (a2 : Nat) (a3 : Int32), ev 203 (65, L, [.int a3, .ref a2, .int a1, .ref a0]) σ = (cal 147 [.ref a0, .int a1, .ref a2, .int a3] σ).bind fun q => ev 203 (68, L, q.1.toList ++ []) q.2) ∧
  (∀ (l1 : Option Value) (st : List Value) (σ : ri_S) (x : Nat), ev 203 (68, [some (.ref x), l1], st) σ = ev 203 (69, [some (.ref x), l1], .ref x :: st) σ) ∧
  (∀ (L : ri_L) (st : List Value) (σ : ri_S) (x : Nat), ev 203 (69, L, .ref x :: st) σ = ev 203 (70, L, .ref x :: .ref x :: st) σ) ∧
  (∀ (L : ri_L) (st : List Value) (σ : ri_S) (a : Nat), ev 203 (70, L, .ref a :: st) σ = tv_o 9 6 (σ.1 a) fun v => ev 203 (73, L, v :: st) σ) ∧
  (∀ (L : ri_L) (st : List Value) (σ : ri_S), ev 203 (73, L, st) σ = ev 203 (74, L, .int 1 :: st) σ) :=
  ⟨fun l1 st σ x => ev_p ((TP_203 _).trans rfl) rfl,
   fun L st σ a => ev_getf ((TP_203 _).trans rfl),
   fun L st σ => ev_p ((TP_203 _).trans rfl) rfl,
   fun L st σ x y => ev_b ((TP_203 _).trans rfl) rfl,
   fun L st σ => ev_p ((TP_203 _).trans rfl) rfl,
   fun l0 l1 st σ x => ev_p ((TP_203 _).trans rfl) rfl,
   fun L st σ => ev_p ((TP_203 _).trans rfl) rfl,
   fun L st σ x y => ev_b ((TP_203 _).trans rfl) rfl,
   fun l1 st σ x => ev_p ((TP_203 _).trans rfl) rfl,
   fun L st σ a => ev_getf ((TP_203 _).trans rfl),
   fun l0 st σ x => ev_p ((TP_203 _).trans rfl) rfl,
   fun l1 st σ x => ev_p ((TP_203 _).trans rfl) rfl,
   fun L st σ a => ev_getf ((TP_203 _).trans rfl),
   fun l0 st σ x => ev_p ((TP_203 _).trans rfl) rfl,
   fun L st σ => ev_p ((TP_203 _).trans rfl) rfl,
   fun L st σ x y => ev_p ((TP_203 _).trans rfl) rfl,
   fun L st σ a i => ev_iald ((TP_203 _).trans rfl),
   fun L st σ a i x => ev_iast ((TP_203 _).trans rfl),
   fun l0 st σ x => ev_p ((TP_203 _).trans rfl) rfl,
   fun L st σ => ev_p ((TP_203 _).trans rfl) rfl,
   fun l1 st σ x => ev_p ((TP_203 _).trans rfl) rfl,
   fun L st σ x => ev_p ((TP_203 _).trans rfl) rfl,
   fun L st σ a => ev_getf ((TP_203 _).trans rfl),
   fun L st σ => ev_p ((TP_203 _).trans rfl) rfl,
   fun L st σ x y => ev_p ((TP_203 _).trans rfl) rfl,
   fun L st σ a x => ev_puti ((TP_203 _).trans rfl),
   fun l1 st σ x => ev_p ((TP_203 _).trans rfl) rfl,
   fun L st σ a => ev_getf ((TP_203 _).trans rfl),
   fun L st σ => ev_p ((TP_203 _).trans rfl) rfl,
   fun l1 st σ x => ev_p ((TP_203 _).trans rfl) rfl,
   fun L st σ a => ev_getf ((TP_203 _).trans rfl),
   fun L st σ => ev_p ((TP_203 _).trans rfl) rfl,
   fun l1 st σ x => ev_p ((TP_203 _).trans rfl) rfl,
   fun L st σ a => ev_getf ((TP_203 _).trans rfl),
   fun L st σ x y => ev_p ((TP_203 _).trans rfl) rfl,
   fun L σ a0 a1 a2 a3 => ev_call ((TP_203 _).trans rfl) rfl rfl rfl rfl,
   fun l1 st σ x => ev_p ((TP_203 _).trans rfl) rfl,
   fun L st σ x => ev_p ((TP_203 _).trans rfl) rfl,
   fun L st σ a => ev_getf ((TP_203 _).trans rfl),
   fun L st σ => ev_p ((TP_203 _).trans rfl) rfl⟩
theorem I_203_1 :
  (∀ (L : ri_L) (st : List Value) (σ : ri_S) (x y : Int32), ev 203 (74, L, .int y :: .int x :: st) σ = ev 203 (75, L, .int (x + y) :: st) σ) ∧
  (∀ (L : ri_L) (st : List Value) (σ : ri_S) (a : Nat) (x : Int32), ev 203 (75, L, .int x :: .ref a :: st) σ = tv_w 9 6 (σ.1 a) (.int x) fun fs => ev 203 (78, L, st) (ri_upd σ.1 a (.inr (.inr (9, fs))), σ.2)) ∧
  (∀ (L : ri_L) (σ : ri_S), ev 203 (78, L, []) σ = some (none, σ)) :=
  ⟨fun L st σ x y => ev_p ((TP_203 _).trans rfl) rfl,
   fun L st σ a x => ev_puti ((TP_203 _).trans rfl),
   fun L σ => ev_r ((TP_203 _).trans rfl) rfl⟩
theorem TP_204 (pc : Nat) : TT 204 pc = ri_find TL_204 pc := rfl
theorem E_204 (x0 : Nat) (x1 : Int32) (x2 : Int32) (x3 : Int32) (σ : ri_S) : cal 204 [.ref x0, .int x1, .int x2, .int x3] σ = ev 204 (0, [some (.ref x0), some (.int x1), some (.int x2), some (.int x3)], []) σ := rfl
theorem I_204 :
  (∀ (l1 l2 l3 : Option Value) (st : List Value) (σ : ri_S) (x : Nat), ev 204 (0, [some (.ref x), l1, l2, l3], st) σ = ev 204 (1, [some (.ref x), l1, l2, l3], .ref x :: st) σ) ∧
  (∀ (l0 l2 l3 : Option Value) (st : List Value) (σ : ri_S) (x : Int32), ev 204 (1, [l0, some (.int x), l2, l3], st) σ = ev 204 (2, [l0, some (.int x), l2, l3], .int x :: st) σ) ∧
  (∀ (l0 l1 l3 : Option Value) (st : List Value) (σ : ri_S) (x : Int32), ev 204 (2, [l0, l1, some (.int x), l3], st) σ = ev 204 (3, [l0, l1, some (.int x), l3], .int x :: st) σ) ∧
  (∀ (l0 l1 l2 : Option Value) (st : List Value) (σ : ri_S) (x : Int32), ev 204 (3, [l0, l1, l2, some (.int x)], st) σ = ev 204 (4, [l0, l1, l2, some (.int x)], .int x :: st) σ) ∧
  (∀ (L : ri_L) (σ : ri_S) (a0 : Int32) (a1 : Int32) (a2 : Int32) (s0 : Value), ev 204 (4, L, [.int a2, .int a1, .int a0, s0]) σ = (cal 174 [.int a0, .int a1, .int a2] σ).bind fun q => ev 204 (7, L, q.1.toList ++ [s0]) q.2) ∧
  (∀ (L : ri_L) (st : List Value) (σ : ri_S) (x : Int32), ev 204 (7, L, .int x :: st) σ = if ¬ x = 0 then ev 204 (14, L, st) σ else ev 204 (10, L, st) σ) ∧
  (∀ (L : ri_L) (st : List Value) (σ : ri_S), ev 204 (10, L, st) σ = ev 204 (11, L, .int 1 :: st) σ) ∧
  (∀ (L : ri_L) (st : List Value) (σ : ri_S), ev 204 (11, L, st) σ = ev 204 (29, L, st) σ) ∧
  (∀ (l1 l2 l3 : Option Value) (st : List Value) (σ : ri_S) (x : Nat), ev 204 (14, [some (.ref x), l1, l2, l3], st) σ = ev 204 (15, [some (.ref x), l1, l2, l3], .ref x :: st) σ) ∧
  (∀ (L : ri_L) (st : List Value) (σ : ri_S) (a : Nat), ev 204 (15, L, .ref a :: st) σ = tv_o 9 3 (σ.1 a) fun v => ev 204 (18, L, v :: st) σ) ∧
  (∀ (L : ri_L) (st : List Value) (σ : ri_S), ev 204 (18, L, st) σ = ev 204 (19, L, .int 0 :: st) σ) ∧
  (∀ (L : ri_L) (st : List Value) (σ : ri_S) (a : Nat) (i : Int32), ev 204 (19, L, .int i :: .ref a :: st) σ = tv_r 0 (σ.1 a) i fun n f j => ev 204 (20, L, .int (f j) :: st) σ) ∧
  (∀ (L : ri_L) (st : List Value) (σ : ri_S), ev 204 (20, L, st) σ = ev 204 (21, L, .int 3 :: st) σ) ∧
  (∀ (L : ri_L) (st : List Value) (σ : ri_S) (x y : Int32), ev 204 (21, L, .int y :: .int x :: st) σ = if y ≤ x then ev 204 (28, L, st) σ else ev 204 (24, L, st) σ) ∧
  (∀ (L : ri_L) (st : List Value) (σ : ri_S), ev 204 (24, L, st) σ = ev 204 (25, L, .int 0 :: st) σ) ∧
  (∀ (L : ri_L) (st : List Value) (σ : ri_S), ev 204 (25, L, st) σ = ev 204 (29, L, st) σ) ∧
  (∀ (L : ri_L) (st : List Value) (σ : ri_S), ev 204 (28, L, st) σ = ev 204 (29, L, .int 2 :: st) σ) ∧
  (∀ (L : ri_L) (σ : ri_S) (a0 : Nat) (a1 : Int32), ev 204 (29, L, [.int a1, .ref a0]) σ = tv_k 9 (σ.1 a0) ((cal 145 [.ref a0, .int a1] σ).bind fun q => ev 204 (32, L, q.1.toList ++ []) q.2)) ∧
  (∀ (L : ri_L) (st : List Value) (σ : ri_S) (x : Int32), ev 204 (32, L, .int x :: st) σ = if x = 0 then ev 204 (37, L, st) σ else ev 204 (35, L, st) σ) ∧
  (∀ (L : ri_L) (st : List Value) (σ : ri_S), ev 204 (35, L, st) σ = ev 204 (36, L, .int 0 :: st) σ) ∧
  (∀ (L : ri_L) (σ : ri_S) (x : Int32), ev 204 (36, L, [.int x]) σ = some (some (.int x), σ)) ∧
  (∀ (l1 l2 l3 : Option Value) (st : List Value) (σ : ri_S) (x : Nat), ev 204 (37, [some (.ref x), l1, l2, l3], st) σ = ev 204 (38, [some (.ref x), l1, l2, l3], .ref x :: st) σ) ∧
  (∀ (L : ri_L) (σ : ri_S) (a0 : Nat), ev 204 (38, L, [.ref a0]) σ = tv_k 9 (σ.1 a0) ((cal 203 [.ref a0] σ).bind fun q => ev 204 (41, L, q.1.toList ++ []) q.2)) ∧
  (∀ (l1 l2 l3 : Option Value) (st : List Value) (σ : ri_S) (x : Nat), ev 204 (41, [some (.ref x), l1, l2, l3], st) σ = ev 204 (42, [some (.ref x), l1, l2, l3], .ref x :: st) σ) ∧
  (∀ (L : ri_L) (st : List Value) (σ : ri_S) (a : Nat), ev 204 (42, L, .ref a :: st) σ = tv_o 9 3 (σ.1 a) fun v => ev 204 (45, L, v :: st) σ) ∧
  (∀ (l0 l2 l3 : Option Value) (st : List Value) (σ : ri_S) (x : Int32), ev 204 (45, [l0, some (.int x), l2, l3], st) σ = ev 204 (46, [l0, some (.int x), l2, l3], .int x :: st) σ) ∧
  (∀ (l0 l1 l3 : Option Value) (st : List Value) (σ : ri_S) (x : Int32), ev 204 (46, [l0, l1, some (.int x), l3], st) σ = ev 204 (47, [l0, l1, some (.int x), l3], .int x :: st) σ) ∧
  (∀ (l0 l1 l2 : Option Value) (st : List Value) (σ : ri_S) (x : Int32), ev 204 (47, [l0, l1, l2, some (.int x)], st) σ = ev 204 (48, [l0, l1, l2, some (.int x)], .int x :: st) σ) ∧
  (∀ (L : ri_L) (σ : ri_S) (a0 : Nat) (a1 : Int32) (a2 : Int32) (a3 : Int32), ev 204 (48, L, [.int a3, .int a2, .int a1, .ref a0]) σ = (cal 175 [.ref a0, .int a1, .int a2, .int a3] σ).bind fun q => ev 204 (51, L, q.1.toList ++ []) q.2) ∧
  (∀ (L : ri_L) (σ : ri_S) (x : Int32), ev 204 (51, L, [.int x]) σ = some (some (.int x), σ)) :=
  ⟨fun l1 l2 l3 st σ x => ev_p ((TP_204 _).trans rfl) rfl,
   fun l0 l2 l3 st σ x => ev_p ((TP_204 _).trans rfl) rfl,
   fun l0 l1 l3 st σ x => ev_p ((TP_204 _).trans rfl) rfl,
   fun l0 l1 l2 st σ x => ev_p ((TP_204 _).trans rfl) rfl,
   fun L σ a0 a1 a2 s0 => ev_call ((TP_204 _).trans rfl) rfl rfl rfl rfl,
   fun L st σ x => ev_b ((TP_204 _).trans rfl) rfl,
   fun L st σ => ev_p ((TP_204 _).trans rfl) rfl,
   fun L st σ => ev_p ((TP_204 _).trans rfl) rfl,
   fun l1 l2 l3 st σ x => ev_p ((TP_204 _).trans rfl) rfl,
   fun L st σ a => ev_getf ((TP_204 _).trans rfl),
   fun L st σ => ev_p ((TP_204 _).trans rfl) rfl,
   fun L st σ a i => ev_iald ((TP_204 _).trans rfl),
   fun L st σ => ev_p ((TP_204 _).trans rfl) rfl,
   fun L st σ x y => ev_b ((TP_204 _).trans rfl) rfl,
   fun L st σ => ev_p ((TP_204 _).trans rfl) rfl,
   fun L st σ => ev_p ((TP_204 _).trans rfl) rfl,
   fun L st σ => ev_p ((TP_204 _).trans rfl) rfl,
   fun L σ a0 a1 => ev_callv ((TP_204 _).trans rfl) rfl rfl rfl rfl,
   fun L st σ x => ev_b ((TP_204 _).trans rfl) rfl,
   fun L st σ => ev_p ((TP_204 _).trans rfl) rfl,
   fun L σ x => ev_r ((TP_204 _).trans rfl) rfl,
   fun l1 l2 l3 st σ x => ev_p ((TP_204 _).trans rfl) rfl,
   fun L σ a0 => ev_callv ((TP_204 _).trans rfl) rfl rfl rfl rfl,
   fun l1 l2 l3 st σ x => ev_p ((TP_204 _).trans rfl) rfl,
   fun L st σ a => ev_getf ((TP_204 _).trans rfl),
   fun l0 l2 l3 st σ x => ev_p ((TP_204 _).trans rfl) rfl,
   fun l0 l1 l3 st σ x => ev_p ((TP_204 _).trans rfl) rfl,
   fun l0 l1 l2 st σ x => ev_p ((TP_204 _).trans rfl) rfl,
   fun L σ a0 a1 a2 a3 => ev_call ((TP_204 _).trans rfl) rfl rfl rfl rfl,
   fun L σ x => ev_r ((TP_204 _).trans rfl) rfl⟩
theorem TP_205 (pc : Nat) : TT 205 pc = ri_find TL_205 pc := rfl
theorem E_205 (x0 : Nat) (x1 : Int32) (x2 : Int32) (x3 : Int32) (x4 : Int32) (σ : ri_S) : cal 205 [.ref x0, .int x1, .int x2, .int x3, .int x4] σ = ev 205 (0, [some (.ref x0), some (.int x1), some (.int x2), some (.int x3), some (.int x4)], []) σ := rfl
theorem I_205_0 :
  (∀ (l1 l2 l3 l4 : Option Value) (st : List Value) (σ : ri_S) (x : Nat), ev 205 (0, [some (.ref x), l1, l2, l3, l4], st) σ = ev 205 (1, [some (.ref x), l1, l2, l3, l4], .ref x :: st) σ) ∧
  (∀ (l1 l2 l3 l4 : Option Value) (st : List Value) (σ : ri_S) (x : Nat), ev 205 (1, [some (.ref x), l1, l2, l3, l4], st) σ = ev 205 (2, [some (.ref x), l1, l2, l3, l4], .ref x :: st) σ) ∧
  (∀ (L : ri_L) (st : List Value) (σ : ri_S) (a : Nat), ev 205 (2, L, .ref a :: st) σ = tv_o 9 3 (σ.1 a) fun v => ev 205 (5, L, v :: st) σ) ∧
  (∀ (l0 l2 l3 l4 : Option Value) (st : List Value) (σ : ri_S) (x : Int32), ev 205 (5, [l0, some (.int x), l2, l3, l4], st) σ = ev 205 (6, [l0, some (.int x), l2, l3, l4], .int x :: st) σ) ∧
  (∀ (l0 l1 l3 l4 : Option Value) (st : List Value) (σ : ri_S) (x : Int32), ev 205 (6, [l0, l1, some (.int x), l3, l4], st) σ = ev 205 (7, [l0, l1, some (.int x), l3, l4], .int x :: st) σ) ∧
  (∀ (L : ri_L) (σ : ri_S) (a0 : Nat) (a1 : Int32) (a2 : Int32) (s0 : Value), ev 205 (7, L, [.int a2, .int a1, .ref a0, s0]) σ = (cal 153 [.ref a0, .int a1, .int a2] σ).bind fun q => ev 205 (10, L, q.1.toList ++ [s0]) q.2) ∧
  (∀ (L : ri_L) (st : List Value) (σ : ri_S) (x : Int32), ev 205 (10, L, .int x :: st) σ = if x = 0 then ev 205 (26, L, st) σ else ev 205 (13, L, st) σ) ∧
  (∀ (l1 l2 l3 l4 : Option Value) (st : List Value) (σ : ri_S) (x : Nat), ev 205 (13, [some (.ref x), l1, l2, l3, l4], st) σ = ev 205 (14, [some (.ref x), l1, l2, l3, l4], .ref x :: st) σ) ∧
  (∀ (L : ri_L) (st : List Value) (σ : ri_S) (a : Nat), ev 205 (14, L, .ref a :: st) σ = tv_o 9 3 (σ.1 a) fun v => ev 205 (17, L, v :: st) σ) ∧
  (∀ (l0 l1 l2 l4 : Option Value) (st : List Value) (σ : ri_S) (x : Int32), ev 205 (17, [l0, l1, l2, some (.int x), l4], st) σ = ev 205 (18, [l0, l1, l2, some (.int x), l4], .int x :: st) σ) ∧
  (∀ (l0 l1 l2 l3 : Option Value) (st : List Value) (σ : ri_S) (x : Int32), ev 205 (18, [l0, l1, l2, l3, some (.int x)], st) σ = ev 205 (20, [l0, l1, l2, l3, some (.int x)], .int x :: st) σ) ∧
  (∀ (L : ri_L) (σ : ri_S) (a0 : Nat) (a1 : Int32) (a2 : Int32) (s0 : Value), ev 205 (20, L, [.int a2, .int a1, .ref a0, s0]) σ = (cal 153 [.ref a0, .int a1, .int a2] σ).bind fun q => ev 205 (23, L, q.1.toList ++ [s0]) q.2) ∧
  (∀ (L : ri_L) (st : List Value) (σ : ri_S) (x : Int32), ev 205 (23, L, .int x :: st) σ = if ¬ x = 0 then ev 205 (30, L, st) σ else ev 205 (26, L, st) σ) ∧
  (∀ (L : ri_L) (st : List Value) (σ : ri_S), ev 205 (26, L, st) σ = ev 205 (27, L, .int 1 :: st) σ) ∧
  (∀ (L : ri_L) (st : List Value) (σ : ri_S), ev 205 (27, L, st) σ = ev 205 (55, L, st) σ) ∧
  (∀ (l0 l2 l3 l4 : Option Value) (st : List Value) (σ : ri_S) (x : Int32), ev 205 (30, [l0, some (.int x), l2, l3, l4], st) σ = ev 205 (31, [l0, some (.int x), l2, l3, l4], .int x :: st) σ) ∧
  (∀ (l0 l1 l2 l4 : Option Value) (st : List Value) (σ : ri_S) (x : Int32), ev 205 (31, [l0, l1, l2, some (.int x), l4], st) σ = ev 205 (32, [l0, l1, l2, some (.int x), l4], .int x :: st) σ) ∧
  (∀ (L : ri_L) (st : List Value) (σ : ri_S) (x y : Int32), ev 205 (32, L, .int y :: .int x :: st) σ = if ¬ x = y then ev 205 (39, L, st) σ else ev 205 (35, L, st) σ) ∧
  (∀ (L : ri_L) (st : List Value) (σ : ri_S), ev 205 (35, L, st) σ = ev 205 (36, L, .int 2 :: st) σ) ∧
  (∀ (L : ri_L) (st : List Value) (σ : ri_S), ev 205 (36, L, st) σ = ev 205 (55, L, st) σ) ∧
  (∀ (l1 l2 l3 l4 : Option Value) (st : List Value) (σ : ri_S) (x : Nat), ev 205 (39, [some (.ref x), l1, l2, l3, l4], st) σ = ev 205 (40, [some (.ref x), l1, l2, l3, l4], .ref x :: st) σ) ∧
  (∀ (L : ri_L) (st : List Value) (σ : ri_S) (a : Nat), ev 205 (40, L, .ref a :: st) σ = tv_o 9 3 (σ.1 a) fun v => ev 205 (43, L, v :: st) σ) ∧
  (∀ (L : ri_L) (st : List Value) (σ : ri_S), ev 205 (43, L, st) σ = ev 205 (44, L, .int 1 :: st) σ) ∧
  (∀ (L : ri_L) (st : List Value) (σ : ri_S) (a : Nat) (i : Int32), ev 205 (44, L, .int i :: .ref a :: st) σ = tv_r 0 (σ.1 a) i fun n f j => ev 205 (45, L, .int (f j) :: st) σ) ∧
  (∀ (L : ri_L) (st : List Value) (σ : ri_S), ev 205 (45, L, st) σ = ev 205 (47, L, .int 8 :: st) σ) ∧
  (∀ (L : ri_L) (st : List Value) (σ : ri_S) (x y : Int32), ev 205 (47, L, .int y :: .int x :: st) σ = if y ≤ x then ev 205 (54, L, st) σ else ev 205 (50, L, st) σ) ∧
  (∀ (L : ri_L) (st : List Value) (σ : ri_S), ev 205 (50, L, st) σ = ev 205 (51, L, .int 0 :: st) σ) ∧
  (∀ (L : ri_L) (st : List Value) (σ : ri_S), ev 205 (51, L, st) σ = ev 205 (55, L, st) σ) ∧
  (∀ (L : ri_L) (st : List Value) (σ : ri_S), ev 205 (54, L, st) σ = ev 205 (55, L, .int 3 :: st) σ) ∧
  (∀ (L : ri_L) (σ : ri_S) (a0 : Nat) (a1 : Int32), ev 205 (55, L, [.int a1, .ref a0]) σ = tv_k 9 (σ.1 a0) ((cal 145 [.ref a0, .int a1] σ).bind fun q => ev 205 (58, L, q.1.toList ++ []) q.2)) ∧
  (∀ (L : ri_L) (st : List Value) (σ : ri_S) (x : Int32), ev 205 (58, L, .int x :: st) σ = if x = 0 then ev 205 (63, L, st) σ else ev 205 (61, L, st) σ) ∧
  (∀ (L : ri_L) (st : List Value) (σ : ri_S), ev 205 (61, L, st) σ = ev 205 (62, L, .int 0 :: st) σ) ∧
  (∀ (L : ri_L) (σ : ri_S) (x : Int32), ev 205 (62, L, [.int x]) σ = some (some (.int x), σ)) ∧
  (∀ (l1 l2 l3 l4 : Option Value) (st : List Value) (σ : ri_S) (x : Nat), ev 205 (63, [some (.ref x), l1, l2, l3, l4], st) σ = ev 205 (64, [some (.ref x), l1, l2, l3, l4], .ref x :: st) σ) ∧
  (∀ (L : ri_L) (σ : ri_S) (a0 : Nat), ev 205 (64, L, [.ref a0]) σ = tv_k 9 (σ.1 a0) ((cal 203 [.ref a0] σ).bind fun q => ev 205 (67, L, q.1.toList ++ []) q.2)) ∧
  (∀ (l1 l2 l3 l4 : Option Value) (st : List Value) (σ : ri_S) (x : Nat), ev 205 (67, [some (.ref x), l1, l2, l3, l4], st) σ = ev 205 (68, [some (.ref x), l1, l2, l3, l4], .ref x :: st) σ) ∧
  (∀ (L : ri_L) (st : List Value) (σ : ri_S) (a : Nat), ev 205 (68, L, .ref a :: st) σ = tv_o 9 3 (σ.1 a) fun v => ev 205 (71, L, v :: st) σ) ∧
  (∀ (l0 l2 l3 l4 : Option Value) (st : List Value) (σ : ri_S) (x : Int32), ev 205 (71, [l0, some (.int x), l2, l3, l4], st) σ = ev 205 (72, [l0, some (.int x), l2, l3, l4], .int x :: st) σ) ∧
  (∀ (l0 l1 l3 l4 : Option Value) (st : List Value) (σ : ri_S) (x : Int32), ev 205 (72, [l0, l1, some (.int x), l3, l4], st) σ = ev 205 (73, [l0, l1, some (.int x), l3, l4], .int x :: st) σ) ∧
  (∀ (l0 l1 l2 l4 : Option Value) (st : List Value) (σ : ri_S) (x : Int32), ev 205 (73, [l0, l1, l2, some (.int x), l4], st) σ = ev 205 (74, [l0, l1, l2, some (.int x), l4], .int x :: st) σ) :=
  ⟨fun l1 l2 l3 l4 st σ x => ev_p ((TP_205 _).trans rfl) rfl,
   fun l1 l2 l3 l4 st σ x => ev_p ((TP_205 _).trans rfl) rfl,
   fun L st σ a => ev_getf ((TP_205 _).trans rfl),
   fun l0 l2 l3 l4 st σ x => ev_p ((TP_205 _).trans rfl) rfl,
   fun l0 l1 l3 l4 st σ x => ev_p ((TP_205 _).trans rfl) rfl,
   fun L σ a0 a1 a2 s0 => ev_call ((TP_205 _).trans rfl) rfl rfl rfl rfl,
   fun L st σ x => ev_b ((TP_205 _).trans rfl) rfl,
   fun l1 l2 l3 l4 st σ x => ev_p ((TP_205 _).trans rfl) rfl,
   fun L st σ a => ev_getf ((TP_205 _).trans rfl),
   fun l0 l1 l2 l4 st σ x => ev_p ((TP_205 _).trans rfl) rfl,
   fun l0 l1 l2 l3 st σ x => ev_p ((TP_205 _).trans rfl) rfl,
   fun L σ a0 a1 a2 s0 => ev_call ((TP_205 _).trans rfl) rfl rfl rfl rfl,
   fun L st σ x => ev_b ((TP_205 _).trans rfl) rfl,
   fun L st σ => ev_p ((TP_205 _).trans rfl) rfl,
   fun L st σ => ev_p ((TP_205 _).trans rfl) rfl,
   fun l0 l2 l3 l4 st σ x => ev_p ((TP_205 _).trans rfl) rfl,
   fun l0 l1 l2 l4 st σ x => ev_p ((TP_205 _).trans rfl) rfl,
   fun L st σ x y => ev_b ((TP_205 _).trans rfl) rfl,
   fun L st σ => ev_p ((TP_205 _).trans rfl) rfl,
   fun L st σ => ev_p ((TP_205 _).trans rfl) rfl,
   fun l1 l2 l3 l4 st σ x => ev_p ((TP_205 _).trans rfl) rfl,
   fun L st σ a => ev_getf ((TP_205 _).trans rfl),
   fun L st σ => ev_p ((TP_205 _).trans rfl) rfl,
   fun L st σ a i => ev_iald ((TP_205 _).trans rfl),
   fun L st σ => ev_p ((TP_205 _).trans rfl) rfl,
   fun L st σ x y => ev_b ((TP_205 _).trans rfl) rfl,
   fun L st σ => ev_p ((TP_205 _).trans rfl) rfl,
   fun L st σ => ev_p ((TP_205 _).trans rfl) rfl,
   fun L st σ => ev_p ((TP_205 _).trans rfl) rfl,
   fun L σ a0 a1 => ev_callv ((TP_205 _).trans rfl) rfl rfl rfl rfl,
   fun L st σ x => ev_b ((TP_205 _).trans rfl) rfl,
   fun L st σ => ev_p ((TP_205 _).trans rfl) rfl,
   fun L σ x => ev_r ((TP_205 _).trans rfl) rfl,
   fun l1 l2 l3 l4 st σ x => ev_p ((TP_205 _).trans rfl) rfl,
   fun L σ a0 => ev_callv ((TP_205 _).trans rfl) rfl rfl rfl rfl,
   fun l1 l2 l3 l4 st σ x => ev_p ((TP_205 _).trans rfl) rfl,
   fun L st σ a => ev_getf ((TP_205 _).trans rfl),
   fun l0 l2 l3 l4 st σ x => ev_p ((TP_205 _).trans rfl) rfl,
   fun l0 l1 l3 l4 st σ x => ev_p ((TP_205 _).trans rfl) rfl,
   fun l0 l1 l2 l4 st σ x => ev_p ((TP_205 _).trans rfl) rfl⟩
theorem I_205_1 :
  (∀ (l0 l1 l2 l3 : Option Value) (st : List Value) (σ : ri_S) (x : Int32), ev 205 (74, [l0, l1, l2, l3, some (.int x)], st) σ = ev 205 (76, [l0, l1, l2, l3, some (.int x)], .int x :: st) σ) ∧
  (∀ (L : ri_L) (σ : ri_S) (a0 : Nat) (a1 : Int32) (a2 : Int32) (a3 : Int32) (a4 : Int32), ev 205 (76, L, [.int a4, .int a3, .int a2, .int a1, .ref a0]) σ = (cal 177 [.ref a0, .int a1, .int a2, .int a3, .int a4] σ).bind fun q => ev 205 (79, L, q.1.toList ++ []) q.2) ∧
  (∀ (L : ri_L) (σ : ri_S) (x : Int32), ev 205 (79, L, [.int x]) σ = some (some (.int x), σ)) :=
  ⟨fun l0 l1 l2 l3 st σ x => ev_p ((TP_205 _).trans rfl) rfl,
   fun L σ a0 a1 a2 a3 a4 => ev_call ((TP_205 _).trans rfl) rfl rfl rfl rfl,
   fun L σ x => ev_r ((TP_205 _).trans rfl) rfl⟩
theorem TP_206 (pc : Nat) : TT 206 pc = ri_find TL_206 pc := rfl
theorem E_206 (x0 : Nat) (x1 : Int32) (x2 : Int32) (x3 : Int32) (σ : ri_S) : cal 206 [.ref x0, .int x1, .int x2, .int x3] σ = ev 206 (0, [some (.ref x0), some (.int x1), some (.int x2), some (.int x3)], []) σ := rfl
theorem I_206 :
  (∀ (l1 l2 l3 : Option Value) (st : List Value) (σ : ri_S) (x : Nat), ev 206 (0, [some (.ref x), l1, l2, l3], st) σ = ev 206 (1, [some (.ref x), l1, l2, l3], .ref x :: st) σ) ∧
  (∀ (l1 l2 l3 : Option Value) (st : List Value) (σ : ri_S) (x : Nat), ev 206 (1, [some (.ref x), l1, l2, l3], st) σ = ev 206 (2, [some (.ref x), l1, l2, l3], .ref x :: st) σ) ∧
  (∀ (L : ri_L) (st : List Value) (σ : ri_S) (a : Nat), ev 206 (2, L, .ref a :: st) σ = tv_o 9 3 (σ.1 a) fun v => ev 206 (5, L, v :: st) σ) ∧
  (∀ (l0 l2 l3 : Option Value) (st : List Value) (σ : ri_S) (x : Int32), ev 206 (5, [l0, some (.int x), l2, l3], st) σ = ev 206 (6, [l0, some (.int x), l2, l3], .int x :: st) σ) ∧
  (∀ (l0 l1 l3 : Option Value) (st : List Value) (σ : ri_S) (x : Int32), ev 206 (6, [l0, l1, some (.int x), l3], st) σ = ev 206 (7, [l0, l1, some (.int x), l3], .int x :: st) σ) ∧
  (∀ (L : ri_L) (σ : ri_S) (a0 : Nat) (a1 : Int32) (a2 : Int32) (s0 : Value), ev 206 (7, L, [.int a2, .int a1, .ref a0, s0]) σ = (cal 153 [.ref a0, .int a1, .int a2] σ).bind fun q => ev 206 (10, L, q.1.toList ++ [s0]) q.2) ∧
  (∀ (L : ri_L) (st : List Value) (σ : ri_S) (x : Int32), ev 206 (10, L, .int x :: st) σ = if ¬ x = 0 then ev 206 (17, L, st) σ else ev 206 (13, L, st) σ) ∧
  (∀ (L : ri_L) (st : List Value) (σ : ri_S), ev 206 (13, L, st) σ = ev 206 (14, L, .int 1 :: st) σ) ∧
  (∀ (L : ri_L) (st : List Value) (σ : ri_S), ev 206 (14, L, st) σ = ev 206 (50, L, st) σ) ∧
  (∀ (l0 l1 l2 : Option Value) (st : List Value) (σ : ri_S) (x : Int32), ev 206 (17, [l0, l1, l2, some (.int x)], st) σ = ev 206 (18, [l0, l1, l2, some (.int x)], .int x :: st) σ) ∧
  (∀ (L : ri_L) (st : List Value) (σ : ri_S) (x : Int32), ev 206 (18, L, .int x :: st) σ = ev 206 (19, L, .long x.toInt64 :: st) σ) ∧
  (∀ (L : ri_L) (st : List Value) (σ : ri_S), ev 206 (19, L, st) σ = ev 206 (20, L, .long 1 :: st) σ) ∧
  (∀ (L : ri_L) (st : List Value) (σ : ri_S), ev 206 (20, L, st) σ = ev 206 (23, L, .long 9 :: st) σ) ∧
  (∀ (L : ri_L) (σ : ri_S) (a0 : Int64) (a1 : Int64) (a2 : Int64) (s0 : Value), ev 206 (23, L, [.long a2, .long a1, .long a0, s0]) σ = (cal 146 [.long a0, .long a1, .long a2] σ).bind fun q => ev 206 (26, L, q.1.toList ++ [s0]) q.2) ∧
  (∀ (L : ri_L) (st : List Value) (σ : ri_S) (x : Int32), ev 206 (26, L, .int x :: st) σ = if ¬ x = 0 then ev 206 (33, L, st) σ else ev 206 (29, L, st) σ) ∧
  (∀ (L : ri_L) (st : List Value) (σ : ri_S), ev 206 (29, L, st) σ = ev 206 (30, L, .int 2 :: st) σ) ∧
  (∀ (L : ri_L) (st : List Value) (σ : ri_S), ev 206 (30, L, st) σ = ev 206 (50, L, st) σ) ∧
  (∀ (l1 l2 l3 : Option Value) (st : List Value) (σ : ri_S) (x : Nat), ev 206 (33, [some (.ref x), l1, l2, l3], st) σ = ev 206 (34, [some (.ref x), l1, l2, l3], .ref x :: st) σ) ∧
  (∀ (L : ri_L) (st : List Value) (σ : ri_S) (a : Nat), ev 206 (34, L, .ref a :: st) σ = tv_o 9 3 (σ.1 a) fun v => ev 206 (37, L, v :: st) σ) ∧
  (∀ (l0 l2 l3 : Option Value) (st : List Value) (σ : ri_S) (x : Int32), ev 206 (37, [l0, some (.int x), l2, l3], st) σ = ev 206 (38, [l0, some (.int x), l2, l3], .int x :: st) σ) ∧
  (∀ (l0 l1 l3 : Option Value) (st : List Value) (σ : ri_S) (x : Int32), ev 206 (38, [l0, l1, some (.int x), l3], st) σ = ev 206 (39, [l0, l1, some (.int x), l3], .int x :: st) σ) ∧
  (∀ (L : ri_L) (σ : ri_S) (a0 : Nat) (a1 : Int32) (a2 : Int32) (s0 : Value), ev 206 (39, L, [.int a2, .int a1, .ref a0, s0]) σ = (cal 178 [.ref a0, .int a1, .int a2] σ).bind fun q => ev 206 (42, L, q.1.toList ++ [s0]) q.2) ∧
  (∀ (L : ri_L) (st : List Value) (σ : ri_S) (x : Int32), ev 206 (42, L, .int x :: st) σ = if x = 0 then ev 206 (49, L, st) σ else ev 206 (45, L, st) σ) ∧
  (∀ (L : ri_L) (st : List Value) (σ : ri_S), ev 206 (45, L, st) σ = ev 206 (46, L, .int 0 :: st) σ) ∧
  (∀ (L : ri_L) (st : List Value) (σ : ri_S), ev 206 (46, L, st) σ = ev 206 (50, L, st) σ) ∧
  (∀ (L : ri_L) (st : List Value) (σ : ri_S), ev 206 (49, L, st) σ = ev 206 (50, L, .int 3 :: st) σ) ∧
  (∀ (L : ri_L) (σ : ri_S) (a0 : Nat) (a1 : Int32), ev 206 (50, L, [.int a1, .ref a0]) σ = tv_k 9 (σ.1 a0) ((cal 145 [.ref a0, .int a1] σ).bind fun q => ev 206 (53, L, q.1.toList ++ []) q.2)) ∧
  (∀ (L : ri_L) (st : List Value) (σ : ri_S) (x : Int32), ev 206 (53, L, .int x :: st) σ = if x = 0 then ev 206 (58, L, st) σ else ev 206 (56, L, st) σ) ∧
  (∀ (L : ri_L) (st : List Value) (σ : ri_S), ev 206 (56, L, st) σ = ev 206 (57, L, .int 0 :: st) σ) ∧
  (∀ (L : ri_L) (σ : ri_S) (x : Int32), ev 206 (57, L, [.int x]) σ = some (some (.int x), σ)) ∧
  (∀ (l1 l2 l3 : Option Value) (st : List Value) (σ : ri_S) (x : Nat), ev 206 (58, [some (.ref x), l1, l2, l3], st) σ = ev 206 (59, [some (.ref x), l1, l2, l3], .ref x :: st) σ) ∧
  (∀ (L : ri_L) (σ : ri_S) (a0 : Nat), ev 206 (59, L, [.ref a0]) σ = tv_k 9 (σ.1 a0) ((cal 203 [.ref a0] σ).bind fun q => ev 206 (62, L, q.1.toList ++ []) q.2)) ∧
  (∀ (l1 l2 l3 : Option Value) (st : List Value) (σ : ri_S) (x : Nat), ev 206 (62, [some (.ref x), l1, l2, l3], st) σ = ev 206 (63, [some (.ref x), l1, l2, l3], .ref x :: st) σ) ∧
  (∀ (L : ri_L) (st : List Value) (σ : ri_S) (a : Nat), ev 206 (63, L, .ref a :: st) σ = tv_o 9 3 (σ.1 a) fun v => ev 206 (66, L, v :: st) σ) ∧
  (∀ (l0 l2 l3 : Option Value) (st : List Value) (σ : ri_S) (x : Int32), ev 206 (66, [l0, some (.int x), l2, l3], st) σ = ev 206 (67, [l0, some (.int x), l2, l3], .int x :: st) σ) ∧
  (∀ (l0 l1 l3 : Option Value) (st : List Value) (σ : ri_S) (x : Int32), ev 206 (67, [l0, l1, some (.int x), l3], st) σ = ev 206 (68, [l0, l1, some (.int x), l3], .int x :: st) σ) ∧
  (∀ (l0 l1 l2 : Option Value) (st : List Value) (σ : ri_S) (x : Int32), ev 206 (68, [l0, l1, l2, some (.int x)], st) σ = ev 206 (69, [l0, l1, l2, some (.int x)], .int x :: st) σ) ∧
  (∀ (L : ri_L) (σ : ri_S) (a0 : Nat) (a1 : Int32) (a2 : Int32) (a3 : Int32), ev 206 (69, L, [.int a3, .int a2, .int a1, .ref a0]) σ = (cal 179 [.ref a0, .int a1, .int a2, .int a3] σ).bind fun q => ev 206 (72, L, q.1.toList ++ []) q.2) ∧
  (∀ (L : ri_L) (σ : ri_S) (x : Int32), ev 206 (72, L, [.int x]) σ = some (some (.int x), σ)) :=
  ⟨fun l1 l2 l3 st σ x => ev_p ((TP_206 _).trans rfl) rfl,
   fun l1 l2 l3 st σ x => ev_p ((TP_206 _).trans rfl) rfl,
   fun L st σ a => ev_getf ((TP_206 _).trans rfl),
   fun l0 l2 l3 st σ x => ev_p ((TP_206 _).trans rfl) rfl,
   fun l0 l1 l3 st σ x => ev_p ((TP_206 _).trans rfl) rfl,
   fun L σ a0 a1 a2 s0 => ev_call ((TP_206 _).trans rfl) rfl rfl rfl rfl,
   fun L st σ x => ev_b ((TP_206 _).trans rfl) rfl,
   fun L st σ => ev_p ((TP_206 _).trans rfl) rfl,
   fun L st σ => ev_p ((TP_206 _).trans rfl) rfl,
   fun l0 l1 l2 st σ x => ev_p ((TP_206 _).trans rfl) rfl,
   fun L st σ x => ev_p ((TP_206 _).trans rfl) rfl,
   fun L st σ => ev_p ((TP_206 _).trans rfl) rfl,
   fun L st σ => ev_p ((TP_206 _).trans rfl) rfl,
   fun L σ a0 a1 a2 s0 => ev_call ((TP_206 _).trans rfl) rfl rfl rfl rfl,
   fun L st σ x => ev_b ((TP_206 _).trans rfl) rfl,
   fun L st σ => ev_p ((TP_206 _).trans rfl) rfl,
   fun L st σ => ev_p ((TP_206 _).trans rfl) rfl,
   fun l1 l2 l3 st σ x => ev_p ((TP_206 _).trans rfl) rfl,
   fun L st σ a => ev_getf ((TP_206 _).trans rfl),
   fun l0 l2 l3 st σ x => ev_p ((TP_206 _).trans rfl) rfl,
   fun l0 l1 l3 st σ x => ev_p ((TP_206 _).trans rfl) rfl,
   fun L σ a0 a1 a2 s0 => ev_call ((TP_206 _).trans rfl) rfl rfl rfl rfl,
   fun L st σ x => ev_b ((TP_206 _).trans rfl) rfl,
   fun L st σ => ev_p ((TP_206 _).trans rfl) rfl,
   fun L st σ => ev_p ((TP_206 _).trans rfl) rfl,
   fun L st σ => ev_p ((TP_206 _).trans rfl) rfl,
   fun L σ a0 a1 => ev_callv ((TP_206 _).trans rfl) rfl rfl rfl rfl,
   fun L st σ x => ev_b ((TP_206 _).trans rfl) rfl,
   fun L st σ => ev_p ((TP_206 _).trans rfl) rfl,
   fun L σ x => ev_r ((TP_206 _).trans rfl) rfl,
   fun l1 l2 l3 st σ x => ev_p ((TP_206 _).trans rfl) rfl,
   fun L σ a0 => ev_callv ((TP_206 _).trans rfl) rfl rfl rfl rfl,
   fun l1 l2 l3 st σ x => ev_p ((TP_206 _).trans rfl) rfl,
   fun L st σ a => ev_getf ((TP_206 _).trans rfl),
   fun l0 l2 l3 st σ x => ev_p ((TP_206 _).trans rfl) rfl,
   fun l0 l1 l3 st σ x => ev_p ((TP_206 _).trans rfl) rfl,
   fun l0 l1 l2 st σ x => ev_p ((TP_206 _).trans rfl) rfl,
   fun L σ a0 a1 a2 a3 => ev_call ((TP_206 _).trans rfl) rfl rfl rfl rfl,
   fun L σ x => ev_r ((TP_206 _).trans rfl) rfl⟩
theorem TP_207 (pc : Nat) : TT 207 pc = ri_find TL_207 pc := rfl
theorem E_207 (x0 : Nat) (x1 : Int32) (x2 : Int32) (x3 : Int32) (σ : ri_S) : cal 207 [.ref x0, .int x1, .int x2, .int x3] σ = ev 207 (0, [some (.ref x0), some (.int x1), some (.int x2), some (.int x3)], []) σ := rfl
theorem I_207 :
  (∀ (l1 l2 l3 : Option Value) (st : List Value) (σ : ri_S) (x : Nat), ev 207 (0, [some (.ref x), l1, l2, l3], st) σ = ev 207 (1, [some (.ref x), l1, l2, l3], .ref x :: st) σ) ∧
  (∀ (l1 l2 l3 : Option Value) (st : List Value) (σ : ri_S) (x : Nat), ev 207 (1, [some (.ref x), l1, l2, l3], st) σ = ev 207 (2, [some (.ref x), l1, l2, l3], .ref x :: st) σ) ∧
  (∀ (L : ri_L) (st : List Value) (σ : ri_S) (a : Nat), ev 207 (2, L, .ref a :: st) σ = tv_o 9 3 (σ.1 a) fun v => ev 207 (5, L, v :: st) σ) ∧
  (∀ (l0 l2 l3 : Option Value) (st : List Value) (σ : ri_S) (x : Int32), ev 207 (5, [l0, some (.int x), l2, l3], st) σ = ev 207 (6, [l0, some (.int x), l2, l3], .int x :: st) σ) ∧
  (∀ (l0 l1 l3 : Option Value) (st : List Value) (σ : ri_S) (x : Int32), ev 207 (6, [l0, l1, some (.int x), l3], st) σ = ev 207 (7, [l0, l1, some (.int x), l3], .int x :: st) σ) ∧
  (∀ (L : ri_L) (σ : ri_S) (a0 : Nat) (a1 : Int32) (a2 : Int32) (s0 : Value), ev 207 (7, L, [.int a2, .int a1, .ref a0, s0]) σ = (cal 153 [.ref a0, .int a1, .int a2] σ).bind fun q => ev 207 (10, L, q.1.toList ++ [s0]) q.2) ∧
  (∀ (L : ri_L) (st : List Value) (σ : ri_S) (x : Int32), ev 207 (10, L, .int x :: st) σ = if ¬ x = 0 then ev 207 (17, L, st) σ else ev 207 (13, L, st) σ) ∧
  (∀ (L : ri_L) (st : List Value) (σ : ri_S), ev 207 (13, L, st) σ = ev 207 (14, L, .int 1 :: st) σ) ∧
  (∀ (L : ri_L) (st : List Value) (σ : ri_S), ev 207 (14, L, st) σ = ev 207 (34, L, st) σ) ∧
  (∀ (l0 l1 l2 : Option Value) (st : List Value) (σ : ri_S) (x : Int32), ev 207 (17, [l0, l1, l2, some (.int x)], st) σ = ev 207 (18, [l0, l1, l2, some (.int x)], .int x :: st) σ) ∧
  (∀ (L : ri_L) (st : List Value) (σ : ri_S) (x : Int32), ev 207 (18, L, .int x :: st) σ = ev 207 (19, L, .long x.toInt64 :: st) σ) ∧
  (∀ (L : ri_L) (st : List Value) (σ : ri_S), ev 207 (19, L, st) σ = ev 207 (20, L, .long 1 :: st) σ) ∧
  (∀ (L : ri_L) (st : List Value) (σ : ri_S), ev 207 (20, L, st) σ = ev 207 (23, L, .long 9 :: st) σ) ∧
  (∀ (L : ri_L) (σ : ri_S) (a0 : Int64) (a1 : Int64) (a2 : Int64) (s0 : Value), ev 207 (23, L, [.long a2, .long a1, .long a0, s0]) σ = (cal 146 [.long a0, .long a1, .long a2] σ).bind fun q => ev 207 (26, L, q.1.toList ++ [s0]) q.2) ∧
  (∀ (L : ri_L) (st : List Value) (σ : ri_S) (x : Int32), ev 207 (26, L, .int x :: st) σ = if x = 0 then ev 207 (33, L, st) σ else ev 207 (29, L, st) σ) ∧
  (∀ (L : ri_L) (st : List Value) (σ : ri_S), ev 207 (29, L, st) σ = ev 207 (30, L, .int 0 :: st) σ) ∧
  (∀ (L : ri_L) (st : List Value) (σ : ri_S), ev 207 (30, L, st) σ = ev 207 (34, L, st) σ) ∧
  (∀ (L : ri_L) (st : List Value) (σ : ri_S), ev 207 (33, L, st) σ = ev 207 (34, L, .int 2 :: st) σ) ∧
  (∀ (L : ri_L) (σ : ri_S) (a0 : Nat) (a1 : Int32), ev 207 (34, L, [.int a1, .ref a0]) σ = tv_k 9 (σ.1 a0) ((cal 145 [.ref a0, .int a1] σ).bind fun q => ev 207 (37, L, q.1.toList ++ []) q.2)) ∧
  (∀ (L : ri_L) (st : List Value) (σ : ri_S) (x : Int32), ev 207 (37, L, .int x :: st) σ = if x = 0 then ev 207 (42, L, st) σ else ev 207 (40, L, st) σ) ∧
  (∀ (L : ri_L) (st : List Value) (σ : ri_S), ev 207 (40, L, st) σ = ev 207 (41, L, .int 0 :: st) σ) ∧
  (∀ (L : ri_L) (σ : ri_S) (x : Int32), ev 207 (41, L, [.int x]) σ = some (some (.int x), σ)) ∧
  (∀ (l1 l2 l3 : Option Value) (st : List Value) (σ : ri_S) (x : Nat), ev 207 (42, [some (.ref x), l1, l2, l3], st) σ = ev 207 (43, [some (.ref x), l1, l2, l3], .ref x :: st) σ) ∧
  (∀ (L : ri_L) (σ : ri_S) (a0 : Nat), ev 207 (43, L, [.ref a0]) σ = tv_k 9 (σ.1 a0) ((cal 203 [.ref a0] σ).bind fun q => ev 207 (46, L, q.1.toList ++ []) q.2)) ∧
  (∀ (l1 l2 l3 : Option Value) (st : List Value) (σ : ri_S) (x : Nat), ev 207 (46, [some (.ref x), l1, l2, l3], st) σ = ev 207 (47, [some (.ref x), l1, l2, l3], .ref x :: st) σ) ∧
  (∀ (L : ri_L) (st : List Value) (σ : ri_S) (a : Nat), ev 207 (47, L, .ref a :: st) σ = tv_o 9 3 (σ.1 a) fun v => ev 207 (50, L, v :: st) σ) ∧
  (∀ (l0 l2 l3 : Option Value) (st : List Value) (σ : ri_S) (x : Int32), ev 207 (50, [l0, some (.int x), l2, l3], st) σ = ev 207 (51, [l0, some (.int x), l2, l3], .int x :: st) σ) ∧
  (∀ (l0 l1 l3 : Option Value) (st : List Value) (σ : ri_S) (x : Int32), ev 207 (51, [l0, l1, some (.int x), l3], st) σ = ev 207 (52, [l0, l1, some (.int x), l3], .int x :: st) σ) ∧
  (∀ (l0 l1 l2 : Option Value) (st : List Value) (σ : ri_S) (x : Int32), ev 207 (52, [l0, l1, l2, some (.int x)], st) σ = ev 207 (53, [l0, l1, l2, some (.int x)], .int x :: st) σ) ∧
  (∀ (L : ri_L) (σ : ri_S) (a0 : Nat) (a1 : Int32) (a2 : Int32) (a3 : Int32), ev 207 (53, L, [.int a3, .int a2, .int a1, .ref a0]) σ = (cal 180 [.ref a0, .int a1, .int a2, .int a3] σ).bind fun q => ev 207 (56, L, q.1.toList ++ []) q.2) ∧
  (∀ (L : ri_L) (σ : ri_S) (x : Int32), ev 207 (56, L, [.int x]) σ = some (some (.int x), σ)) :=
  ⟨fun l1 l2 l3 st σ x => ev_p ((TP_207 _).trans rfl) rfl,
   fun l1 l2 l3 st σ x => ev_p ((TP_207 _).trans rfl) rfl,
   fun L st σ a => ev_getf ((TP_207 _).trans rfl),
   fun l0 l2 l3 st σ x => ev_p ((TP_207 _).trans rfl) rfl,
   fun l0 l1 l3 st σ x => ev_p ((TP_207 _).trans rfl) rfl,
   fun L σ a0 a1 a2 s0 => ev_call ((TP_207 _).trans rfl) rfl rfl rfl rfl,
   fun L st σ x => ev_b ((TP_207 _).trans rfl) rfl,
   fun L st σ => ev_p ((TP_207 _).trans rfl) rfl,
   fun L st σ => ev_p ((TP_207 _).trans rfl) rfl,
   fun l0 l1 l2 st σ x => ev_p ((TP_207 _).trans rfl) rfl,
   fun L st σ x => ev_p ((TP_207 _).trans rfl) rfl,
   fun L st σ => ev_p ((TP_207 _).trans rfl) rfl,
   fun L st σ => ev_p ((TP_207 _).trans rfl) rfl,
   fun L σ a0 a1 a2 s0 => ev_call ((TP_207 _).trans rfl) rfl rfl rfl rfl,
   fun L st σ x => ev_b ((TP_207 _).trans rfl) rfl,
   fun L st σ => ev_p ((TP_207 _).trans rfl) rfl,
   fun L st σ => ev_p ((TP_207 _).trans rfl) rfl,
   fun L st σ => ev_p ((TP_207 _).trans rfl) rfl,
   fun L σ a0 a1 => ev_callv ((TP_207 _).trans rfl) rfl rfl rfl rfl,
   fun L st σ x => ev_b ((TP_207 _).trans rfl) rfl,
   fun L st σ => ev_p ((TP_207 _).trans rfl) rfl,
   fun L σ x => ev_r ((TP_207 _).trans rfl) rfl,
   fun l1 l2 l3 st σ x => ev_p ((TP_207 _).trans rfl) rfl,
   fun L σ a0 => ev_callv ((TP_207 _).trans rfl) rfl rfl rfl rfl,
   fun l1 l2 l3 st σ x => ev_p ((TP_207 _).trans rfl) rfl,
   fun L st σ a => ev_getf ((TP_207 _).trans rfl),
   fun l0 l2 l3 st σ x => ev_p ((TP_207 _).trans rfl) rfl,
   fun l0 l1 l3 st σ x => ev_p ((TP_207 _).trans rfl) rfl,
   fun l0 l1 l2 st σ x => ev_p ((TP_207 _).trans rfl) rfl,
   fun L σ a0 a1 a2 a3 => ev_call ((TP_207 _).trans rfl) rfl rfl rfl rfl,
   fun L σ x => ev_r ((TP_207 _).trans rfl) rfl⟩
