/-! How each method reads on. -/
theorem TP_208 (pc : Nat) : TT 208 pc = ri_find TL_208 pc := rfl
theorem E_208 (x0 : Nat) (x1 : Int32) (x2 : Int32) (σ : ri_S) : cal 208 [.ref x0, .int x1, .int x2] σ = ev 208 (0, [some (.ref x0), some (.int x1), some (.int x2)], []) σ := rfl
theorem I_208 :
  (∀ (l1 l2 : Option Value) (st : List Value) (σ : ri_S) (x : Nat), ev 208 (0, [some (.ref x), l1, l2], st) σ = ev 208 (1, [some (.ref x), l1, l2], .ref x :: st) σ) ∧
  (∀ (l1 l2 : Option Value) (st : List Value) (σ : ri_S) (x : Nat), ev 208 (1, [some (.ref x), l1, l2], st) σ = ev 208 (2, [some (.ref x), l1, l2], .ref x :: st) σ) ∧
  (∀ (L : ri_L) (st : List Value) (σ : ri_S) (a : Nat), ev 208 (2, L, .ref a :: st) σ = tv_o 9 3 (σ.1 a) fun v => ev 208 (5, L, v :: st) σ) ∧
  (∀ (l0 l2 : Option Value) (st : List Value) (σ : ri_S) (x : Int32), ev 208 (5, [l0, some (.int x), l2], st) σ = ev 208 (6, [l0, some (.int x), l2], .int x :: st) σ) ∧
  (∀ (L : ri_L) (σ : ri_S) (a0 : Nat) (a1 : Int32) (s0 : Value), ev 208 (6, L, [.int a1, .ref a0, s0]) σ = (cal 154 [.ref a0, .int a1] σ).bind fun q => ev 208 (9, L, q.1.toList ++ [s0]) q.2) ∧
  (∀ (L : ri_L) (st : List Value) (σ : ri_S) (x : Int32), ev 208 (9, L, .int x :: st) σ = if x = 0 then ev 208 (27, L, st) σ else ev 208 (12, L, st) σ) ∧
  (∀ (l1 l2 : Option Value) (st : List Value) (σ : ri_S) (x : Nat), ev 208 (12, [some (.ref x), l1, l2], st) σ = ev 208 (13, [some (.ref x), l1, l2], .ref x :: st) σ) ∧
  (∀ (L : ri_L) (st : List Value) (σ : ri_S) (a : Nat), ev 208 (13, L, .ref a :: st) σ = tv_o 9 3 (σ.1 a) fun v => ev 208 (16, L, v :: st) σ) ∧
  (∀ (l0 l1 : Option Value) (st : List Value) (σ : ri_S) (x : Int32), ev 208 (16, [l0, l1, some (.int x)], st) σ = ev 208 (17, [l0, l1, some (.int x)], .int x :: st) σ) ∧
  (∀ (L : ri_L) (σ : ri_S) (a0 : Nat) (a1 : Int32) (s0 : Value), ev 208 (17, L, [.int a1, .ref a0, s0]) σ = (cal 155 [.ref a0, .int a1] σ).bind fun q => ev 208 (20, L, q.1.toList ++ [s0]) q.2) ∧
  (∀ (L : ri_L) (st : List Value) (σ : ri_S) (x : Int32), ev 208 (20, L, .int x :: st) σ = if x = 0 then ev 208 (27, L, st) σ else ev 208 (23, L, st) σ) ∧
  (∀ (L : ri_L) (st : List Value) (σ : ri_S), ev 208 (23, L, st) σ = ev 208 (24, L, .int 0 :: st) σ) ∧
  (∀ (L : ri_L) (st : List Value) (σ : ri_S), ev 208 (24, L, st) σ = ev 208 (28, L, st) σ) ∧
  (∀ (L : ri_L) (st : List Value) (σ : ri_S), ev 208 (27, L, st) σ = ev 208 (28, L, .int 1 :: st) σ) ∧
  (∀ (L : ri_L) (σ : ri_S) (a0 : Nat) (a1 : Int32), ev 208 (28, L, [.int a1, .ref a0]) σ = tv_k 9 (σ.1 a0) ((cal 145 [.ref a0, .int a1] σ).bind fun q => ev 208 (31, L, q.1.toList ++ []) q.2)) ∧
  (∀ (L : ri_L) (st : List Value) (σ : ri_S) (x : Int32), ev 208 (31, L, .int x :: st) σ = if x = 0 then ev 208 (36, L, st) σ else ev 208 (34, L, st) σ) ∧
  (∀ (L : ri_L) (st : List Value) (σ : ri_S), ev 208 (34, L, st) σ = ev 208 (35, L, .int 0 :: st) σ) ∧
  (∀ (L : ri_L) (σ : ri_S) (x : Int32), ev 208 (35, L, [.int x]) σ = some (some (.int x), σ)) ∧
  (∀ (l1 l2 : Option Value) (st : List Value) (σ : ri_S) (x : Nat), ev 208 (36, [some (.ref x), l1, l2], st) σ = ev 208 (37, [some (.ref x), l1, l2], .ref x :: st) σ) ∧
  (∀ (L : ri_L) (σ : ri_S) (a0 : Nat), ev 208 (37, L, [.ref a0]) σ = tv_k 9 (σ.1 a0) ((cal 203 [.ref a0] σ).bind fun q => ev 208 (40, L, q.1.toList ++ []) q.2)) ∧
  (∀ (l1 l2 : Option Value) (st : List Value) (σ : ri_S) (x : Nat), ev 208 (40, [some (.ref x), l1, l2], st) σ = ev 208 (41, [some (.ref x), l1, l2], .ref x :: st) σ) ∧
  (∀ (L : ri_L) (st : List Value) (σ : ri_S) (a : Nat), ev 208 (41, L, .ref a :: st) σ = tv_o 9 3 (σ.1 a) fun v => ev 208 (44, L, v :: st) σ) ∧
  (∀ (l0 l2 : Option Value) (st : List Value) (σ : ri_S) (x : Int32), ev 208 (44, [l0, some (.int x), l2], st) σ = ev 208 (45, [l0, some (.int x), l2], .int x :: st) σ) ∧
  (∀ (l0 l1 : Option Value) (st : List Value) (σ : ri_S) (x : Int32), ev 208 (45, [l0, l1, some (.int x)], st) σ = ev 208 (46, [l0, l1, some (.int x)], .int x :: st) σ) ∧
  (∀ (L : ri_L) (σ : ri_S) (a0 : Nat) (a1 : Int32) (a2 : Int32), ev 208 (46, L, [.int a2, .int a1, .ref a0]) σ = (cal 172 [.ref a0, .int a1, .int a2] σ).bind fun q => ev 208 (49, L, q.1.toList ++ []) q.2) ∧
  (∀ (L : ri_L) (σ : ri_S) (x : Int32), ev 208 (49, L, [.int x]) σ = some (some (.int x), σ)) :=
  ⟨fun l1 l2 st σ x => ev_p ((TP_208 _).trans rfl) rfl,
   fun l1 l2 st σ x => ev_p ((TP_208 _).trans rfl) rfl,
   fun L st σ a => ev_getf ((TP_208 _).trans rfl),
   fun l0 l2 st σ x => ev_p ((TP_208 _).trans rfl) rfl,
   fun L σ a0 a1 s0 => ev_call ((TP_208 _).trans rfl) rfl rfl rfl rfl,
   fun L st σ x => ev_b ((TP_208 _).trans rfl) rfl,
   fun l1 l2 st σ x => ev_p ((TP_208 _).trans rfl) rfl,
   fun L st σ a => ev_getf ((TP_208 _).trans rfl),
   fun l0 l1 st σ x => ev_p ((TP_208 _).trans rfl) rfl,
   fun L σ a0 a1 s0 => ev_call ((TP_208 _).trans rfl) rfl rfl rfl rfl,
   fun L st σ x => ev_b ((TP_208 _).trans rfl) rfl,
   fun L st σ => ev_p ((TP_208 _).trans rfl) rfl,
   fun L st σ => ev_p ((TP_208 _).trans rfl) rfl,
   fun L st σ => ev_p ((TP_208 _).trans rfl) rfl,
   fun L σ a0 a1 => ev_callv ((TP_208 _).trans rfl) rfl rfl rfl rfl,
   fun L st σ x => ev_b ((TP_208 _).trans rfl) rfl,
   fun L st σ => ev_p ((TP_208 _).trans rfl) rfl,
   fun L σ x => ev_r ((TP_208 _).trans rfl) rfl,
   fun l1 l2 st σ x => ev_p ((TP_208 _).trans rfl) rfl,
   fun L σ a0 => ev_callv ((TP_208 _).trans rfl) rfl rfl rfl rfl,
   fun l1 l2 st σ x => ev_p ((TP_208 _).trans rfl) rfl,
   fun L st σ a => ev_getf ((TP_208 _).trans rfl),
   fun l0 l2 st σ x => ev_p ((TP_208 _).trans rfl) rfl,
   fun l0 l1 st σ x => ev_p ((TP_208 _).trans rfl) rfl,
   fun L σ a0 a1 a2 => ev_call ((TP_208 _).trans rfl) rfl rfl rfl rfl,
   fun L σ x => ev_r ((TP_208 _).trans rfl) rfl⟩
theorem TP_209 (pc : Nat) : TT 209 pc = ri_find TL_209 pc := rfl
theorem E_209 (x0 : Nat) (x1 : Int32) (x2 : Int32) (σ : ri_S) : cal 209 [.ref x0, .int x1, .int x2] σ = ev 209 (0, [some (.ref x0), some (.int x1), some (.int x2)], []) σ := rfl
theorem I_209 :
  (∀ (l1 l2 : Option Value) (st : List Value) (σ : ri_S) (x : Nat), ev 209 (0, [some (.ref x), l1, l2], st) σ = ev 209 (1, [some (.ref x), l1, l2], .ref x :: st) σ) ∧
  (∀ (l1 l2 : Option Value) (st : List Value) (σ : ri_S) (x : Nat), ev 209 (1, [some (.ref x), l1, l2], st) σ = ev 209 (2, [some (.ref x), l1, l2], .ref x :: st) σ) ∧
  (∀ (L : ri_L) (st : List Value) (σ : ri_S) (a : Nat), ev 209 (2, L, .ref a :: st) σ = tv_o 9 3 (σ.1 a) fun v => ev 209 (5, L, v :: st) σ) ∧
  (∀ (l0 l2 : Option Value) (st : List Value) (σ : ri_S) (x : Int32), ev 209 (5, [l0, some (.int x), l2], st) σ = ev 209 (6, [l0, some (.int x), l2], .int x :: st) σ) ∧
  (∀ (L : ri_L) (σ : ri_S) (a0 : Nat) (a1 : Int32) (s0 : Value), ev 209 (6, L, [.int a1, .ref a0, s0]) σ = (cal 154 [.ref a0, .int a1] σ).bind fun q => ev 209 (9, L, q.1.toList ++ [s0]) q.2) ∧
  (∀ (L : ri_L) (st : List Value) (σ : ri_S) (x : Int32), ev 209 (9, L, .int x :: st) σ = if ¬ x = 0 then ev 209 (16, L, st) σ else ev 209 (12, L, st) σ) ∧
  (∀ (L : ri_L) (st : List Value) (σ : ri_S), ev 209 (12, L, st) σ = ev 209 (13, L, .int 1 :: st) σ) ∧
  (∀ (L : ri_L) (st : List Value) (σ : ri_S), ev 209 (13, L, st) σ = ev 209 (31, L, st) σ) ∧
  (∀ (l0 l1 : Option Value) (st : List Value) (σ : ri_S) (x : Int32), ev 209 (16, [l0, l1, some (.int x)], st) σ = ev 209 (17, [l0, l1, some (.int x)], .int x :: st) σ) ∧
  (∀ (L : ri_L) (st : List Value) (σ : ri_S), ev 209 (17, L, st) σ = ev 209 (18, L, .int 1 :: st) σ) ∧
  (∀ (L : ri_L) (st : List Value) (σ : ri_S) (x y : Int32), ev 209 (18, L, .int y :: .int x :: st) σ = if x = y then ev 209 (26, L, st) σ else ev 209 (21, L, st) σ) ∧
  (∀ (l0 l1 : Option Value) (st : List Value) (σ : ri_S) (x : Int32), ev 209 (21, [l0, l1, some (.int x)], st) σ = ev 209 (22, [l0, l1, some (.int x)], .int x :: st) σ) ∧
  (∀ (L : ri_L) (st : List Value) (σ : ri_S), ev 209 (22, L, st) σ = ev 209 (23, L, .int (-1) :: st) σ) ∧
  (∀ (L : ri_L) (st : List Value) (σ : ri_S) (x y : Int32), ev 209 (23, L, .int y :: .int x :: st) σ = if ¬ x = y then ev 209 (30, L, st) σ else ev 209 (26, L, st) σ) ∧
  (∀ (L : ri_L) (st : List Value) (σ : ri_S), ev 209 (26, L, st) σ = ev 209 (27, L, .int 0 :: st) σ) ∧
  (∀ (L : ri_L) (st : List Value) (σ : ri_S), ev 209 (27, L, st) σ = ev 209 (31, L, st) σ) ∧
  (∀ (L : ri_L) (st : List Value) (σ : ri_S), ev 209 (30, L, st) σ = ev 209 (31, L, .int 2 :: st) σ) ∧
  (∀ (L : ri_L) (σ : ri_S) (a0 : Nat) (a1 : Int32), ev 209 (31, L, [.int a1, .ref a0]) σ = tv_k 9 (σ.1 a0) ((cal 145 [.ref a0, .int a1] σ).bind fun q => ev 209 (34, L, q.1.toList ++ []) q.2)) ∧
  (∀ (L : ri_L) (st : List Value) (σ : ri_S) (x : Int32), ev 209 (34, L, .int x :: st) σ = if x = 0 then ev 209 (39, L, st) σ else ev 209 (37, L, st) σ) ∧
  (∀ (L : ri_L) (st : List Value) (σ : ri_S), ev 209 (37, L, st) σ = ev 209 (38, L, .int 0 :: st) σ) ∧
  (∀ (L : ri_L) (σ : ri_S) (x : Int32), ev 209 (38, L, [.int x]) σ = some (some (.int x), σ)) ∧
  (∀ (l1 l2 : Option Value) (st : List Value) (σ : ri_S) (x : Nat), ev 209 (39, [some (.ref x), l1, l2], st) σ = ev 209 (40, [some (.ref x), l1, l2], .ref x :: st) σ) ∧
  (∀ (L : ri_L) (σ : ri_S) (a0 : Nat), ev 209 (40, L, [.ref a0]) σ = tv_k 9 (σ.1 a0) ((cal 203 [.ref a0] σ).bind fun q => ev 209 (43, L, q.1.toList ++ []) q.2)) ∧
  (∀ (l1 l2 : Option Value) (st : List Value) (σ : ri_S) (x : Nat), ev 209 (43, [some (.ref x), l1, l2], st) σ = ev 209 (44, [some (.ref x), l1, l2], .ref x :: st) σ) ∧
  (∀ (L : ri_L) (st : List Value) (σ : ri_S) (a : Nat), ev 209 (44, L, .ref a :: st) σ = tv_o 9 3 (σ.1 a) fun v => ev 209 (47, L, v :: st) σ) ∧
  (∀ (l0 l2 : Option Value) (st : List Value) (σ : ri_S) (x : Int32), ev 209 (47, [l0, some (.int x), l2], st) σ = ev 209 (48, [l0, some (.int x), l2], .int x :: st) σ) ∧
  (∀ (l0 l1 : Option Value) (st : List Value) (σ : ri_S) (x : Int32), ev 209 (48, [l0, l1, some (.int x)], st) σ = ev 209 (49, [l0, l1, some (.int x)], .int x :: st) σ) ∧
  (∀ (L : ri_L) (σ : ri_S) (a0 : Nat) (a1 : Int32) (a2 : Int32), ev 209 (49, L, [.int a2, .int a1, .ref a0]) σ = (cal 173 [.ref a0, .int a1, .int a2] σ).bind fun q => ev 209 (52, L, q.1.toList ++ []) q.2) ∧
  (∀ (L : ri_L) (σ : ri_S) (x : Int32), ev 209 (52, L, [.int x]) σ = some (some (.int x), σ)) :=
  ⟨fun l1 l2 st σ x => ev_p ((TP_209 _).trans rfl) rfl,
   fun l1 l2 st σ x => ev_p ((TP_209 _).trans rfl) rfl,
   fun L st σ a => ev_getf ((TP_209 _).trans rfl),
   fun l0 l2 st σ x => ev_p ((TP_209 _).trans rfl) rfl,
   fun L σ a0 a1 s0 => ev_call ((TP_209 _).trans rfl) rfl rfl rfl rfl,
   fun L st σ x => ev_b ((TP_209 _).trans rfl) rfl,
   fun L st σ => ev_p ((TP_209 _).trans rfl) rfl,
   fun L st σ => ev_p ((TP_209 _).trans rfl) rfl,
   fun l0 l1 st σ x => ev_p ((TP_209 _).trans rfl) rfl,
   fun L st σ => ev_p ((TP_209 _).trans rfl) rfl,
   fun L st σ x y => ev_b ((TP_209 _).trans rfl) rfl,
   fun l0 l1 st σ x => ev_p ((TP_209 _).trans rfl) rfl,
   fun L st σ => ev_p ((TP_209 _).trans rfl) rfl,
   fun L st σ x y => ev_b ((TP_209 _).trans rfl) rfl,
   fun L st σ => ev_p ((TP_209 _).trans rfl) rfl,
   fun L st σ => ev_p ((TP_209 _).trans rfl) rfl,
   fun L st σ => ev_p ((TP_209 _).trans rfl) rfl,
   fun L σ a0 a1 => ev_callv ((TP_209 _).trans rfl) rfl rfl rfl rfl,
   fun L st σ x => ev_b ((TP_209 _).trans rfl) rfl,
   fun L st σ => ev_p ((TP_209 _).trans rfl) rfl,
   fun L σ x => ev_r ((TP_209 _).trans rfl) rfl,
   fun l1 l2 st σ x => ev_p ((TP_209 _).trans rfl) rfl,
   fun L σ a0 => ev_callv ((TP_209 _).trans rfl) rfl rfl rfl rfl,
   fun l1 l2 st σ x => ev_p ((TP_209 _).trans rfl) rfl,
   fun L st σ a => ev_getf ((TP_209 _).trans rfl),
   fun l0 l2 st σ x => ev_p ((TP_209 _).trans rfl) rfl,
   fun l0 l1 st σ x => ev_p ((TP_209 _).trans rfl) rfl,
   fun L σ a0 a1 a2 => ev_call ((TP_209 _).trans rfl) rfl rfl rfl rfl,
   fun L σ x => ev_r ((TP_209 _).trans rfl) rfl⟩
theorem TP_210 (pc : Nat) : TT 210 pc = ri_find TL_210 pc := rfl
theorem E_210 (x0 : Nat) (x1 : Int32) (x2 : Int32) (σ : ri_S) : cal 210 [.ref x0, .int x1, .int x2] σ = ev 210 (0, [some (.ref x0), some (.int x1), some (.int x2)], []) σ := rfl
theorem I_210 :
  (∀ (l1 l2 : Option Value) (st : List Value) (σ : ri_S) (x : Nat), ev 210 (0, [some (.ref x), l1, l2], st) σ = ev 210 (1, [some (.ref x), l1, l2], .ref x :: st) σ) ∧
  (∀ (l1 l2 : Option Value) (st : List Value) (σ : ri_S) (x : Nat), ev 210 (1, [some (.ref x), l1, l2], st) σ = ev 210 (2, [some (.ref x), l1, l2], .ref x :: st) σ) ∧
  (∀ (L : ri_L) (st : List Value) (σ : ri_S) (a : Nat), ev 210 (2, L, .ref a :: st) σ = tv_o 9 3 (σ.1 a) fun v => ev 210 (5, L, v :: st) σ) ∧
  (∀ (l0 l2 : Option Value) (st : List Value) (σ : ri_S) (x : Int32), ev 210 (5, [l0, some (.int x), l2], st) σ = ev 210 (6, [l0, some (.int x), l2], .int x :: st) σ) ∧
  (∀ (L : ri_L) (σ : ri_S) (a0 : Nat) (a1 : Int32) (s0 : Value), ev 210 (6, L, [.int a1, .ref a0, s0]) σ = (cal 152 [.ref a0, .int a1] σ).bind fun q => ev 210 (9, L, q.1.toList ++ [s0]) q.2) ∧
  (∀ (L : ri_L) (st : List Value) (σ : ri_S) (x : Int32), ev 210 (9, L, .int x :: st) σ = if ¬ x = 0 then ev 210 (16, L, st) σ else ev 210 (12, L, st) σ) ∧
  (∀ (L : ri_L) (st : List Value) (σ : ri_S), ev 210 (12, L, st) σ = ev 210 (13, L, .int 1 :: st) σ) ∧
  (∀ (L : ri_L) (st : List Value) (σ : ri_S), ev 210 (13, L, st) σ = ev 210 (35, L, st) σ) ∧
  (∀ (l0 l1 : Option Value) (st : List Value) (σ : ri_S) (x : Int32), ev 210 (16, [l0, l1, some (.int x)], st) σ = ev 210 (17, [l0, l1, some (.int x)], .int x :: st) σ) ∧
  (∀ (L : ri_L) (st : List Value) (σ : ri_S) (x : Int32), ev 210 (17, L, .int x :: st) σ = ev 210 (18, L, .long x.toInt64 :: st) σ) ∧
  (∀ (L : ri_L) (st : List Value) (σ : ri_S), ev 210 (18, L, st) σ = ev 210 (21, L, .long (-4) :: st) σ) ∧
  (∀ (L : ri_L) (st : List Value) (σ : ri_S), ev 210 (21, L, st) σ = ev 210 (24, L, .long 4 :: st) σ) ∧
  (∀ (L : ri_L) (σ : ri_S) (a0 : Int64) (a1 : Int64) (a2 : Int64) (s0 : Value), ev 210 (24, L, [.long a2, .long a1, .long a0, s0]) σ = (cal 146 [.long a0, .long a1, .long a2] σ).bind fun q => ev 210 (27, L, q.1.toList ++ [s0]) q.2) ∧
  (∀ (L : ri_L) (st : List Value) (σ : ri_S) (x : Int32), ev 210 (27, L, .int x :: st) σ = if x = 0 then ev 210 (34, L, st) σ else ev 210 (30, L, st) σ) ∧
  (∀ (L : ri_L) (st : List Value) (σ : ri_S), ev 210 (30, L, st) σ = ev 210 (31, L, .int 0 :: st) σ) ∧
  (∀ (L : ri_L) (st : List Value) (σ : ri_S), ev 210 (31, L, st) σ = ev 210 (35, L, st) σ) ∧
  (∀ (L : ri_L) (st : List Value) (σ : ri_S), ev 210 (34, L, st) σ = ev 210 (35, L, .int 2 :: st) σ) ∧
  (∀ (L : ri_L) (σ : ri_S) (a0 : Nat) (a1 : Int32), ev 210 (35, L, [.int a1, .ref a0]) σ = tv_k 9 (σ.1 a0) ((cal 145 [.ref a0, .int a1] σ).bind fun q => ev 210 (38, L, q.1.toList ++ []) q.2)) ∧
  (∀ (L : ri_L) (st : List Value) (σ : ri_S) (x : Int32), ev 210 (38, L, .int x :: st) σ = if x = 0 then ev 210 (43, L, st) σ else ev 210 (41, L, st) σ) ∧
  (∀ (L : ri_L) (st : List Value) (σ : ri_S), ev 210 (41, L, st) σ = ev 210 (42, L, .int 0 :: st) σ) ∧
  (∀ (L : ri_L) (σ : ri_S) (x : Int32), ev 210 (42, L, [.int x]) σ = some (some (.int x), σ)) ∧
  (∀ (l1 l2 : Option Value) (st : List Value) (σ : ri_S) (x : Nat), ev 210 (43, [some (.ref x), l1, l2], st) σ = ev 210 (44, [some (.ref x), l1, l2], .ref x :: st) σ) ∧
  (∀ (L : ri_L) (σ : ri_S) (a0 : Nat), ev 210 (44, L, [.ref a0]) σ = tv_k 9 (σ.1 a0) ((cal 203 [.ref a0] σ).bind fun q => ev 210 (47, L, q.1.toList ++ []) q.2)) ∧
  (∀ (l1 l2 : Option Value) (st : List Value) (σ : ri_S) (x : Nat), ev 210 (47, [some (.ref x), l1, l2], st) σ = ev 210 (48, [some (.ref x), l1, l2], .ref x :: st) σ) ∧
  (∀ (L : ri_L) (st : List Value) (σ : ri_S) (a : Nat), ev 210 (48, L, .ref a :: st) σ = tv_o 9 3 (σ.1 a) fun v => ev 210 (51, L, v :: st) σ) ∧
  (∀ (l0 l2 : Option Value) (st : List Value) (σ : ri_S) (x : Int32), ev 210 (51, [l0, some (.int x), l2], st) σ = ev 210 (52, [l0, some (.int x), l2], .int x :: st) σ) ∧
  (∀ (l0 l1 : Option Value) (st : List Value) (σ : ri_S) (x : Int32), ev 210 (52, [l0, l1, some (.int x)], st) σ = ev 210 (53, [l0, l1, some (.int x)], .int x :: st) σ) ∧
  (∀ (L : ri_L) (σ : ri_S) (a0 : Nat) (a1 : Int32) (a2 : Int32), ev 210 (53, L, [.int a2, .int a1, .ref a0]) σ = (cal 181 [.ref a0, .int a1, .int a2] σ).bind fun q => ev 210 (56, L, q.1.toList ++ []) q.2) ∧
  (∀ (L : ri_L) (σ : ri_S) (x : Int32), ev 210 (56, L, [.int x]) σ = some (some (.int x), σ)) :=
  ⟨fun l1 l2 st σ x => ev_p ((TP_210 _).trans rfl) rfl,
   fun l1 l2 st σ x => ev_p ((TP_210 _).trans rfl) rfl,
   fun L st σ a => ev_getf ((TP_210 _).trans rfl),
   fun l0 l2 st σ x => ev_p ((TP_210 _).trans rfl) rfl,
   fun L σ a0 a1 s0 => ev_call ((TP_210 _).trans rfl) rfl rfl rfl rfl,
   fun L st σ x => ev_b ((TP_210 _).trans rfl) rfl,
   fun L st σ => ev_p ((TP_210 _).trans rfl) rfl,
   fun L st σ => ev_p ((TP_210 _).trans rfl) rfl,
   fun l0 l1 st σ x => ev_p ((TP_210 _).trans rfl) rfl,
   fun L st σ x => ev_p ((TP_210 _).trans rfl) rfl,
   fun L st σ => ev_p ((TP_210 _).trans rfl) rfl,
   fun L st σ => ev_p ((TP_210 _).trans rfl) rfl,
   fun L σ a0 a1 a2 s0 => ev_call ((TP_210 _).trans rfl) rfl rfl rfl rfl,
   fun L st σ x => ev_b ((TP_210 _).trans rfl) rfl,
   fun L st σ => ev_p ((TP_210 _).trans rfl) rfl,
   fun L st σ => ev_p ((TP_210 _).trans rfl) rfl,
   fun L st σ => ev_p ((TP_210 _).trans rfl) rfl,
   fun L σ a0 a1 => ev_callv ((TP_210 _).trans rfl) rfl rfl rfl rfl,
   fun L st σ x => ev_b ((TP_210 _).trans rfl) rfl,
   fun L st σ => ev_p ((TP_210 _).trans rfl) rfl,
   fun L σ x => ev_r ((TP_210 _).trans rfl) rfl,
   fun l1 l2 st σ x => ev_p ((TP_210 _).trans rfl) rfl,
   fun L σ a0 => ev_callv ((TP_210 _).trans rfl) rfl rfl rfl rfl,
   fun l1 l2 st σ x => ev_p ((TP_210 _).trans rfl) rfl,
   fun L st σ a => ev_getf ((TP_210 _).trans rfl),
   fun l0 l2 st σ x => ev_p ((TP_210 _).trans rfl) rfl,
   fun l0 l1 st σ x => ev_p ((TP_210 _).trans rfl) rfl,
   fun L σ a0 a1 a2 => ev_call ((TP_210 _).trans rfl) rfl rfl rfl rfl,
   fun L σ x => ev_r ((TP_210 _).trans rfl) rfl⟩
theorem TP_211 (pc : Nat) : TT 211 pc = ri_find TL_211 pc := rfl
theorem E_211 (x0 : Nat) (x1 : Int32) (σ : ri_S) : cal 211 [.ref x0, .int x1] σ = ev 211 (0, [some (.ref x0), some (.int x1), none], []) σ := rfl
theorem I_211 :
  (∀ (l1 l2 : Option Value) (st : List Value) (σ : ri_S) (x : Nat), ev 211 (0, [some (.ref x), l1, l2], st) σ = ev 211 (1, [some (.ref x), l1, l2], .ref x :: st) σ) ∧
  (∀ (l0 l2 : Option Value) (st : List Value) (σ : ri_S) (x : Int32), ev 211 (1, [l0, some (.int x), l2], st) σ = ev 211 (2, [l0, some (.int x), l2], .int x :: st) σ) ∧
  (∀ (L : ri_L) (st : List Value) (σ : ri_S) (x : Int32), ev 211 (2, L, .int x :: st) σ = ev 211 (3, L, .long x.toInt64 :: st) σ) ∧
  (∀ (L : ri_L) (st : List Value) (σ : ri_S), ev 211 (3, L, st) σ = ev 211 (4, L, .long 0 :: st) σ) ∧
  (∀ (L : ri_L) (st : List Value) (σ : ri_S), ev 211 (4, L, st) σ = ev 211 (5, L, .long 1 :: st) σ) ∧
  (∀ (L : ri_L) (σ : ri_S) (a0 : Int64) (a1 : Int64) (a2 : Int64) (s0 : Value), ev 211 (5, L, [.long a2, .long a1, .long a0, s0]) σ = (cal 146 [.long a0, .long a1, .long a2] σ).bind fun q => ev 211 (8, L, q.1.toList ++ [s0]) q.2) ∧
  (∀ (L : ri_L) (st : List Value) (σ : ri_S) (x : Int32), ev 211 (8, L, .int x :: st) σ = if x = 0 then ev 211 (15, L, st) σ else ev 211 (11, L, st) σ) ∧
  (∀ (L : ri_L) (st : List Value) (σ : ri_S), ev 211 (11, L, st) σ = ev 211 (12, L, .int 0 :: st) σ) ∧
  (∀ (L : ri_L) (st : List Value) (σ : ri_S), ev 211 (12, L, st) σ = ev 211 (16, L, st) σ) ∧
  (∀ (L : ri_L) (st : List Value) (σ : ri_S), ev 211 (15, L, st) σ = ev 211 (16, L, .int 1 :: st) σ) ∧
  (∀ (L : ri_L) (σ : ri_S) (a0 : Nat) (a1 : Int32), ev 211 (16, L, [.int a1, .ref a0]) σ = tv_k 9 (σ.1 a0) ((cal 145 [.ref a0, .int a1] σ).bind fun q => ev 211 (19, L, q.1.toList ++ []) q.2)) ∧
  (∀ (L : ri_L) (st : List Value) (σ : ri_S) (x : Int32), ev 211 (19, L, .int x :: st) σ = if x = 0 then ev 211 (24, L, st) σ else ev 211 (22, L, st) σ) ∧
  (∀ (L : ri_L) (st : List Value) (σ : ri_S), ev 211 (22, L, st) σ = ev 211 (23, L, .int 0 :: st) σ) ∧
  (∀ (L : ri_L) (σ : ri_S) (x : Int32), ev 211 (23, L, [.int x]) σ = some (some (.int x), σ)) ∧
  (∀ (l1 l2 : Option Value) (st : List Value) (σ : ri_S) (x : Nat), ev 211 (24, [some (.ref x), l1, l2], st) σ = ev 211 (25, [some (.ref x), l1, l2], .ref x :: st) σ) ∧
  (∀ (L : ri_L) (σ : ri_S) (a0 : Nat), ev 211 (25, L, [.ref a0]) σ = tv_k 9 (σ.1 a0) ((cal 203 [.ref a0] σ).bind fun q => ev 211 (28, L, q.1.toList ++ []) q.2)) ∧
  (∀ (l1 l2 : Option Value) (st : List Value) (σ : ri_S) (x : Nat), ev 211 (28, [some (.ref x), l1, l2], st) σ = ev 211 (29, [some (.ref x), l1, l2], .ref x :: st) σ) ∧
  (∀ (L : ri_L) (st : List Value) (σ : ri_S) (a : Nat), ev 211 (29, L, .ref a :: st) σ = tv_o 9 3 (σ.1 a) fun v => ev 211 (32, L, v :: st) σ) ∧
  (∀ (L : ri_L) (st : List Value) (σ : ri_S), ev 211 (32, L, st) σ = ev 211 (34, L, .int 8 :: st) σ) ∧
  (∀ (L : ri_L) (st : List Value) (σ : ri_S) (a : Nat) (i : Int32), ev 211 (34, L, .int i :: .ref a :: st) σ = tv_r 0 (σ.1 a) i fun n f j => ev 211 (35, L, .int (f j) :: st) σ) ∧
  (∀ (l0 l1 l2 : Option Value) (st : List Value) (σ : ri_S) (x : Int32), ev 211 (35, [l0, l1, l2], .int x :: st) σ = ev 211 (36, [l0, ri_clr l1, some (.int x)], st) σ) ∧
  (∀ (l1 l2 : Option Value) (st : List Value) (σ : ri_S) (x : Nat), ev 211 (36, [some (.ref x), l1, l2], st) σ = ev 211 (37, [some (.ref x), l1, l2], .ref x :: st) σ) ∧
  (∀ (L : ri_L) (st : List Value) (σ : ri_S) (a : Nat), ev 211 (37, L, .ref a :: st) σ = tv_o 9 3 (σ.1 a) fun v => ev 211 (40, L, v :: st) σ) ∧
  (∀ (L : ri_L) (st : List Value) (σ : ri_S), ev 211 (40, L, st) σ = ev 211 (42, L, .int 8 :: st) σ) ∧
  (∀ (l0 l2 : Option Value) (st : List Value) (σ : ri_S) (x : Int32), ev 211 (42, [l0, some (.int x), l2], st) σ = ev 211 (43, [l0, some (.int x), l2], .int x :: st) σ) ∧
  (∀ (L : ri_L) (st : List Value) (σ : ri_S) (a : Nat) (i x : Int32), ev 211 (43, L, .int x :: .int i :: .ref a :: st) σ = tv_r 0 (σ.1 a) i fun n f j => ev 211 (44, L, st) (ri_upd σ.1 a (.inl (0, n, upd f j x)), σ.2)) ∧
  (∀ (l0 l1 : Option Value) (st : List Value) (σ : ri_S) (x : Int32), ev 211 (44, [l0, l1, some (.int x)], st) σ = ev 211 (45, [l0, l1, some (.int x)], .int x :: st) σ) ∧
  (∀ (L : ri_L) (σ : ri_S) (x : Int32), ev 211 (45, L, [.int x]) σ = some (some (.int x), σ)) :=
  ⟨fun l1 l2 st σ x => ev_p ((TP_211 _).trans rfl) rfl,
   fun l0 l2 st σ x => ev_p ((TP_211 _).trans rfl) rfl,
   fun L st σ x => ev_p ((TP_211 _).trans rfl) rfl,
   fun L st σ => ev_p ((TP_211 _).trans rfl) rfl,
   fun L st σ => ev_p ((TP_211 _).trans rfl) rfl,
   fun L σ a0 a1 a2 s0 => ev_call ((TP_211 _).trans rfl) rfl rfl rfl rfl,
   fun L st σ x => ev_b ((TP_211 _).trans rfl) rfl,
   fun L st σ => ev_p ((TP_211 _).trans rfl) rfl,
   fun L st σ => ev_p ((TP_211 _).trans rfl) rfl,
   fun L st σ => ev_p ((TP_211 _).trans rfl) rfl,
   fun L σ a0 a1 => ev_callv ((TP_211 _).trans rfl) rfl rfl rfl rfl,
   fun L st σ x => ev_b ((TP_211 _).trans rfl) rfl,
   fun L st σ => ev_p ((TP_211 _).trans rfl) rfl,
   fun L σ x => ev_r ((TP_211 _).trans rfl) rfl,
   fun l1 l2 st σ x => ev_p ((TP_211 _).trans rfl) rfl,
   fun L σ a0 => ev_callv ((TP_211 _).trans rfl) rfl rfl rfl rfl,
   fun l1 l2 st σ x => ev_p ((TP_211 _).trans rfl) rfl,
   fun L st σ a => ev_getf ((TP_211 _).trans rfl),
   fun L st σ => ev_p ((TP_211 _).trans rfl) rfl,
   fun L st σ a i => ev_iald ((TP_211 _).trans rfl),
   fun l0 l1 l2 st σ x => ev_p ((TP_211 _).trans rfl) rfl,
   fun l1 l2 st σ x => ev_p ((TP_211 _).trans rfl) rfl,
   fun L st σ a => ev_getf ((TP_211 _).trans rfl),
   fun L st σ => ev_p ((TP_211 _).trans rfl) rfl,
   fun l0 l2 st σ x => ev_p ((TP_211 _).trans rfl) rfl,
   fun L st σ a i x => ev_iast ((TP_211 _).trans rfl),
   fun l0 l1 st σ x => ev_p ((TP_211 _).trans rfl) rfl,
   fun L σ x => ev_r ((TP_211 _).trans rfl) rfl⟩
theorem TP_212 (pc : Nat) : TT 212 pc = ri_find TL_212 pc := rfl
theorem E_212 (x0 : Nat) (σ : ri_S) : cal 212 [.ref x0] σ = ev 212 (0, [some (.ref x0)], []) σ := rfl
theorem I_212 :
  (∀ (st : List Value) (σ : ri_S) (x : Nat), ev 212 (0, [some (.ref x)], st) σ = ev 212 (1, [some (.ref x)], .ref x :: st) σ) ∧
  (∀ (st : List Value) (σ : ri_S) (x : Nat), ev 212 (1, [some (.ref x)], st) σ = ev 212 (2, [some (.ref x)], .ref x :: st) σ) ∧
  (∀ (L : ri_L) (st : List Value) (σ : ri_S) (a : Nat), ev 212 (2, L, .ref a :: st) σ = tv_o 9 6 (σ.1 a) fun v => ev 212 (5, L, v :: st) σ) ∧
  (∀ (L : ri_L) (st : List Value) (σ : ri_S) (x : Int32), ev 212 (5, L, .int x :: st) σ = if ¬ x = 0 then ev 212 (12, L, st) σ else ev 212 (8, L, st) σ) ∧
  (∀ (L : ri_L) (st : List Value) (σ : ri_S), ev 212 (8, L, st) σ = ev 212 (9, L, .int 1 :: st) σ) ∧
  (∀ (L : ri_L) (st : List Value) (σ : ri_S), ev 212 (9, L, st) σ = ev 212 (13, L, st) σ) ∧
  (∀ (L : ri_L) (st : List Value) (σ : ri_S), ev 212 (12, L, st) σ = ev 212 (13, L, .int 0 :: st) σ) ∧
  (∀ (L : ri_L) (σ : ri_S) (a0 : Nat) (a1 : Int32), ev 212 (13, L, [.int a1, .ref a0]) σ = tv_k 9 (σ.1 a0) ((cal 145 [.ref a0, .int a1] σ).bind fun q => ev 212 (16, L, q.1.toList ++ []) q.2)) ∧
  (∀ (L : ri_L) (st : List Value) (σ : ri_S) (x : Int32), ev 212 (16, L, .int x :: st) σ = if x = 0 then ev 212 (21, L, st) σ else ev 212 (19, L, st) σ) ∧
  (∀ (L : ri_L) (st : List Value) (σ : ri_S), ev 212 (19, L, st) σ = ev 212 (20, L, .int 0 :: st) σ) ∧
  (∀ (L : ri_L) (σ : ri_S) (x : Int32), ev 212 (20, L, [.int x]) σ = some (some (.int x), σ)) ∧
  (∀ (st : List Value) (σ : ri_S) (x : Nat), ev 212 (21, [some (.ref x)], st) σ = ev 212 (22, [some (.ref x)], .ref x :: st) σ) ∧
  (∀ (L : ri_L) (st : List Value) (σ : ri_S) (x : Nat), ev 212 (22, L, .ref x :: st) σ = ev 212 (23, L, .ref x :: .ref x :: st) σ) ∧
  (∀ (L : ri_L) (st : List Value) (σ : ri_S) (a : Nat), ev 212 (23, L, .ref a :: st) σ = tv_o 9 6 (σ.1 a) fun v => ev 212 (26, L, v :: st) σ) ∧
  (∀ (L : ri_L) (st : List Value) (σ : ri_S), ev 212 (26, L, st) σ = ev 212 (27, L, .int 1 :: st) σ) ∧
  (∀ (L : ri_L) (st : List Value) (σ : ri_S) (x y : Int32), ev 212 (27, L, .int y :: .int x :: st) σ = ev 212 (28, L, .int (x - y) :: st) σ) ∧
  (∀ (L : ri_L) (st : List Value) (σ : ri_S) (a : Nat) (x : Int32), ev 212 (28, L, .int x :: .ref a :: st) σ = tv_w 9 6 (σ.1 a) (.int x) fun fs => ev 212 (31, L, st) (ri_upd σ.1 a (.inr (.inr (9, fs))), σ.2)) ∧
  (∀ (st : List Value) (σ : ri_S) (x : Nat), ev 212 (31, [some (.ref x)], st) σ = ev 212 (32, [some (.ref x)], .ref x :: st) σ) ∧
  (∀ (L : ri_L) (st : List Value) (σ : ri_S) (a : Nat), ev 212 (32, L, .ref a :: st) σ = tv_o 9 5 (σ.1 a) fun v => ev 212 (35, L, v :: st) σ) ∧
  (∀ (L : ri_L) (st : List Value) (σ : ri_S), ev 212 (35, L, st) σ = ev 212 (37, L, .int 96 :: st) σ) ∧
  (∀ (st : List Value) (σ : ri_S) (x : Nat), ev 212 (37, [some (.ref x)], st) σ = ev 212 (38, [some (.ref x)], .ref x :: st) σ) ∧
  (∀ (L : ri_L) (st : List Value) (σ : ri_S) (a : Nat), ev 212 (38, L, .ref a :: st) σ = tv_o 9 6 (σ.1 a) fun v => ev 212 (41, L, v :: st) σ) ∧
  (∀ (L : ri_L) (st : List Value) (σ : ri_S) (x y : Int32), ev 212 (41, L, .int y :: .int x :: st) σ = ev 212 (42, L, .int (x * y) :: st) σ) ∧
  (∀ (st : List Value) (σ : ri_S) (x : Nat), ev 212 (42, [some (.ref x)], st) σ = ev 212 (43, [some (.ref x)], .ref x :: st) σ) ∧
  (∀ (L : ri_L) (st : List Value) (σ : ri_S) (a : Nat), ev 212 (43, L, .ref a :: st) σ = tv_o 9 3 (σ.1 a) fun v => ev 212 (46, L, v :: st) σ) ∧
  (∀ (L : ri_L) (st : List Value) (σ : ri_S), ev 212 (46, L, st) σ = ev 212 (47, L, .int 0 :: st) σ) ∧
  (∀ (L : ri_L) (σ : ri_S) (a0 : Nat) (a1 : Int32) (a2 : Nat) (a3 : Int32), ev 212 (47, L, [.int a3, .ref a2, .int a1, .ref a0]) σ = (cal 147 [.ref a0, .int a1, .ref a2, .int a3] σ).bind fun q => ev 212 (50, L, q.1.toList ++ []) q.2) ∧
  (∀ (st : List Value) (σ : ri_S) (x : Nat), ev 212 (50, [some (.ref x)], st) σ = ev 212 (51, [some (.ref x)], .ref x :: st) σ) ∧
  (∀ (L : ri_L) (st : List Value) (σ : ri_S) (a : Nat), ev 212 (51, L, .ref a :: st) σ = tv_o 9 6 (σ.1 a) fun v => ev 212 (54, L, v :: st) σ) ∧
  (∀ (L : ri_L) (σ : ri_S) (x : Int32), ev 212 (54, L, [.int x]) σ = some (some (.int x), σ)) :=
  ⟨fun st σ x => ev_p ((TP_212 _).trans rfl) rfl,
   fun st σ x => ev_p ((TP_212 _).trans rfl) rfl,
   fun L st σ a => ev_getf ((TP_212 _).trans rfl),
   fun L st σ x => ev_b ((TP_212 _).trans rfl) rfl,
   fun L st σ => ev_p ((TP_212 _).trans rfl) rfl,
   fun L st σ => ev_p ((TP_212 _).trans rfl) rfl,
   fun L st σ => ev_p ((TP_212 _).trans rfl) rfl,
   fun L σ a0 a1 => ev_callv ((TP_212 _).trans rfl) rfl rfl rfl rfl,
   fun L st σ x => ev_b ((TP_212 _).trans rfl) rfl,
   fun L st σ => ev_p ((TP_212 _).trans rfl) rfl,
   fun L σ x => ev_r ((TP_212 _).trans rfl) rfl,
   fun st σ x => ev_p ((TP_212 _).trans rfl) rfl,
   fun L st σ x => ev_p ((TP_212 _).trans rfl) rfl,
   fun L st σ a => ev_getf ((TP_212 _).trans rfl),
   fun L st σ => ev_p ((TP_212 _).trans rfl) rfl,
   fun L st σ x y => ev_p ((TP_212 _).trans rfl) rfl,
   fun L st σ a x => ev_puti ((TP_212 _).trans rfl),
   fun st σ x => ev_p ((TP_212 _).trans rfl) rfl,
   fun L st σ a => ev_getf ((TP_212 _).trans rfl),
   fun L st σ => ev_p ((TP_212 _).trans rfl) rfl,
   fun st σ x => ev_p ((TP_212 _).trans rfl) rfl,
   fun L st σ a => ev_getf ((TP_212 _).trans rfl),
   fun L st σ x y => ev_p ((TP_212 _).trans rfl) rfl,
   fun st σ x => ev_p ((TP_212 _).trans rfl) rfl,
   fun L st σ a => ev_getf ((TP_212 _).trans rfl),
   fun L st σ => ev_p ((TP_212 _).trans rfl) rfl,
   fun L σ a0 a1 a2 a3 => ev_call ((TP_212 _).trans rfl) rfl rfl rfl rfl,
   fun st σ x => ev_p ((TP_212 _).trans rfl) rfl,
   fun L st σ a => ev_getf ((TP_212 _).trans rfl),
   fun L σ x => ev_r ((TP_212 _).trans rfl) rfl⟩
theorem TP_213 (pc : Nat) : TT 213 pc = ri_find TL_213 pc := rfl
theorem E_213 (x0 : Nat) (x1 : Int32) (x2 : Int32) (σ : ri_S) : cal 213 [.ref x0, .int x1, .int x2] σ = ev 213 (0, [some (.ref x0), some (.int x1), some (.int x2)], []) σ := rfl
theorem I_213 :
  (∀ (l1 l2 : Option Value) (st : List Value) (σ : ri_S) (x : Nat), ev 213 (0, [some (.ref x), l1, l2], st) σ = ev 213 (1, [some (.ref x), l1, l2], .ref x :: st) σ) ∧
  (∀ (l1 l2 : Option Value) (st : List Value) (σ : ri_S) (x : Nat), ev 213 (1, [some (.ref x), l1, l2], st) σ = ev 213 (2, [some (.ref x), l1, l2], .ref x :: st) σ) ∧
  (∀ (L : ri_L) (st : List Value) (σ : ri_S) (a : Nat), ev 213 (2, L, .ref a :: st) σ = tv_o 9 3 (σ.1 a) fun v => ev 213 (5, L, v :: st) σ) ∧
  (∀ (l0 l2 : Option Value) (st : List Value) (σ : ri_S) (x : Int32), ev 213 (5, [l0, some (.int x), l2], st) σ = ev 213 (6, [l0, some (.int x), l2], .int x :: st) σ) ∧
  (∀ (L : ri_L) (σ : ri_S) (a0 : Nat) (a1 : Int32) (s0 : Value), ev 213 (6, L, [.int a1, .ref a0, s0]) σ = (cal 154 [.ref a0, .int a1] σ).bind fun q => ev 213 (9, L, q.1.toList ++ [s0]) q.2) ∧
  (∀ (L : ri_L) (st : List Value) (σ : ri_S) (x : Int32), ev 213 (9, L, .int x :: st) σ = if x = 0 then ev 213 (27, L, st) σ else ev 213 (12, L, st) σ) ∧
  (∀ (l1 l2 : Option Value) (st : List Value) (σ : ri_S) (x : Nat), ev 213 (12, [some (.ref x), l1, l2], st) σ = ev 213 (13, [some (.ref x), l1, l2], .ref x :: st) σ) ∧
  (∀ (L : ri_L) (st : List Value) (σ : ri_S) (a : Nat), ev 213 (13, L, .ref a :: st) σ = tv_o 9 3 (σ.1 a) fun v => ev 213 (16, L, v :: st) σ) ∧
  (∀ (l0 l1 : Option Value) (st : List Value) (σ : ri_S) (x : Int32), ev 213 (16, [l0, l1, some (.int x)], st) σ = ev 213 (17, [l0, l1, some (.int x)], .int x :: st) σ) ∧
  (∀ (L : ri_L) (σ : ri_S) (a0 : Nat) (a1 : Int32) (s0 : Value), ev 213 (17, L, [.int a1, .ref a0, s0]) σ = (cal 155 [.ref a0, .int a1] σ).bind fun q => ev 213 (20, L, q.1.toList ++ [s0]) q.2) ∧
  (∀ (L : ri_L) (st : List Value) (σ : ri_S) (x : Int32), ev 213 (20, L, .int x :: st) σ = if x = 0 then ev 213 (27, L, st) σ else ev 213 (23, L, st) σ) ∧
  (∀ (L : ri_L) (st : List Value) (σ : ri_S), ev 213 (23, L, st) σ = ev 213 (24, L, .int 0 :: st) σ) ∧
  (∀ (L : ri_L) (st : List Value) (σ : ri_S), ev 213 (24, L, st) σ = ev 213 (28, L, st) σ) ∧
  (∀ (L : ri_L) (st : List Value) (σ : ri_S), ev 213 (27, L, st) σ = ev 213 (28, L, .int 1 :: st) σ) ∧
  (∀ (L : ri_L) (σ : ri_S) (a0 : Nat) (a1 : Int32), ev 213 (28, L, [.int a1, .ref a0]) σ = tv_k 9 (σ.1 a0) ((cal 145 [.ref a0, .int a1] σ).bind fun q => ev 213 (31, L, q.1.toList ++ []) q.2)) ∧
  (∀ (L : ri_L) (st : List Value) (σ : ri_S) (x : Int32), ev 213 (31, L, .int x :: st) σ = if x = 0 then ev 213 (36, L, st) σ else ev 213 (34, L, st) σ) ∧
  (∀ (L : ri_L) (st : List Value) (σ : ri_S), ev 213 (34, L, st) σ = ev 213 (35, L, .int 0 :: st) σ) ∧
  (∀ (L : ri_L) (σ : ri_S) (x : Int32), ev 213 (35, L, [.int x]) σ = some (some (.int x), σ)) ∧
  (∀ (l1 l2 : Option Value) (st : List Value) (σ : ri_S) (x : Nat), ev 213 (36, [some (.ref x), l1, l2], st) σ = ev 213 (37, [some (.ref x), l1, l2], .ref x :: st) σ) ∧
  (∀ (L : ri_L) (st : List Value) (σ : ri_S) (a : Nat), ev 213 (37, L, .ref a :: st) σ = tv_o 9 3 (σ.1 a) fun v => ev 213 (40, L, v :: st) σ) ∧
  (∀ (l0 l2 : Option Value) (st : List Value) (σ : ri_S) (x : Int32), ev 213 (40, [l0, some (.int x), l2], st) σ = ev 213 (41, [l0, some (.int x), l2], .int x :: st) σ) ∧
  (∀ (l0 l1 : Option Value) (st : List Value) (σ : ri_S) (x : Int32), ev 213 (41, [l0, l1, some (.int x)], st) σ = ev 213 (42, [l0, l1, some (.int x)], .int x :: st) σ) ∧
  (∀ (L : ri_L) (σ : ri_S) (a0 : Nat) (a1 : Int32) (a2 : Int32), ev 213 (42, L, [.int a2, .int a1, .ref a0]) σ = (cal 164 [.ref a0, .int a1, .int a2] σ).bind fun q => ev 213 (45, L, q.1.toList ++ []) q.2) ∧
  (∀ (L : ri_L) (σ : ri_S) (x : Int32), ev 213 (45, L, [.int x]) σ = some (some (.int x), σ)) :=
  ⟨fun l1 l2 st σ x => ev_p ((TP_213 _).trans rfl) rfl,
   fun l1 l2 st σ x => ev_p ((TP_213 _).trans rfl) rfl,
   fun L st σ a => ev_getf ((TP_213 _).trans rfl),
   fun l0 l2 st σ x => ev_p ((TP_213 _).trans rfl) rfl,
   fun L σ a0 a1 s0 => ev_call ((TP_213 _).trans rfl) rfl rfl rfl rfl,
   fun L st σ x => ev_b ((TP_213 _).trans rfl) rfl,
   fun l1 l2 st σ x => ev_p ((TP_213 _).trans rfl) rfl,
   fun L st σ a => ev_getf ((TP_213 _).trans rfl),
   fun l0 l1 st σ x => ev_p ((TP_213 _).trans rfl) rfl,
   fun L σ a0 a1 s0 => ev_call ((TP_213 _).trans rfl) rfl rfl rfl rfl,
   fun L st σ x => ev_b ((TP_213 _).trans rfl) rfl,
   fun L st σ => ev_p ((TP_213 _).trans rfl) rfl,
   fun L st σ => ev_p ((TP_213 _).trans rfl) rfl,
   fun L st σ => ev_p ((TP_213 _).trans rfl) rfl,
   fun L σ a0 a1 => ev_callv ((TP_213 _).trans rfl) rfl rfl rfl rfl,
   fun L st σ x => ev_b ((TP_213 _).trans rfl) rfl,
   fun L st σ => ev_p ((TP_213 _).trans rfl) rfl,
   fun L σ x => ev_r ((TP_213 _).trans rfl) rfl,
   fun l1 l2 st σ x => ev_p ((TP_213 _).trans rfl) rfl,
   fun L st σ a => ev_getf ((TP_213 _).trans rfl),
   fun l0 l2 st σ x => ev_p ((TP_213 _).trans rfl) rfl,
   fun l0 l1 st σ x => ev_p ((TP_213 _).trans rfl) rfl,
   fun L σ a0 a1 a2 => ev_call ((TP_213 _).trans rfl) rfl rfl rfl rfl,
   fun L σ x => ev_r ((TP_213 _).trans rfl) rfl⟩
theorem TP_214 (pc : Nat) : TT 214 pc = ri_find TL_214 pc := rfl
theorem E_214 (x0 : Nat) (x1 : Int32) (σ : ri_S) : cal 214 [.ref x0, .int x1] σ = ev 214 (0, [some (.ref x0), some (.int x1), none, none], []) σ := rfl
theorem H_214_4 (l0 l1 l2 : Option Value) (st : List Value) (σ : ri_S) (x : Int32) : ev 214 (4, [l0, l1, l2, some (.int x)], st) σ = ev 214 (5, [l0, l1, l2, some (.int x)], .int x :: st) σ := ev_p ((TP_214 _).trans rfl) rfl
theorem I_214_0 :
  (∀ (L : ri_L) (st : List Value) (σ : ri_S), ev 214 (0, L, st) σ = ev 214 (1, L, .int 0 :: st) σ) ∧
  (∀ (l0 l1 l2 l3 : Option Value) (st : List Value) (σ : ri_S) (x : Int32), ev 214 (1, [l0, l1, l2, l3], .int x :: st) σ = ev 214 (2, [l0, ri_clr l1, some (.int x), l3], st) σ) ∧
  (∀ (L : ri_L) (st : List Value) (σ : ri_S), ev 214 (2, L, st) σ = ev 214 (3, L, .int 0 :: st) σ) ∧
  (∀ (l0 l1 l2 l3 : Option Value) (st : List Value) (σ : ri_S) (x : Int32), ev 214 (3, [l0, l1, l2, l3], .int x :: st) σ = ev 214 (4, [l0, l1, ri_clr l2, some (.int x)], st) σ) ∧
  (∀ (L : ri_L) (st : List Value) (σ : ri_S), ev 214 (5, L, st) σ = ev 214 (6, L, .int 3 :: st) σ) ∧
  (∀ (L : ri_L) (st : List Value) (σ : ri_S) (x y : Int32), ev 214 (6, L, .int y :: .int x :: st) σ = if y ≤ x then ev 214 (43, L, st) σ else ev 214 (9, L, st) σ) ∧
  (∀ (L : ri_L) (st : List Value) (σ : ri_S), ev 214 (9, L, st) σ = ev 214 (10, L, .int 5 :: st) σ) ∧
  (∀ (l0 l1 l3 : Option Value) (st : List Value) (σ : ri_S) (x : Int32), ev 214 (10, [l0, l1, some (.int x), l3], st) σ = ev 214 (11, [l0, l1, some (.int x), l3], .int x :: st) σ) ∧
  (∀ (L : ri_L) (st : List Value) (σ : ri_S) (x y : Int32), ev 214 (11, L, .int y :: .int x :: st) σ = ev 214 (12, L, .int (x * y) :: st) σ) ∧
  (∀ (l0 l1 l2 : Option Value) (st : List Value) (σ : ri_S) (x : Int32), ev 214 (12, [l0, l1, l2, some (.int x)], st) σ = ev 214 (13, [l0, l1, l2, some (.int x)], .int x :: st) σ) ∧
  (∀ (l1 l2 l3 : Option Value) (st : List Value) (σ : ri_S) (x : Nat), ev 214 (13, [some (.ref x), l1, l2, l3], st) σ = ev 214 (14, [some (.ref x), l1, l2, l3], .ref x :: st) σ) ∧
  (∀ (L : ri_L) (st : List Value) (σ : ri_S) (a : Nat), ev 214 (14, L, .ref a :: st) σ = tv_o 9 4 (σ.1 a) fun v => ev 214 (17, L, v :: st) σ) ∧
  (∀ (L : ri_L) (st : List Value) (σ : ri_S), ev 214 (17, L, st) σ = ev 214 (18, L, .int 0 :: st) σ) ∧
  (∀ (L : ri_L) (st : List Value) (σ : ri_S) (a : Nat) (i : Int32), ev 214 (18, L, .int i :: .ref a :: st) σ = tv_r 0 (σ.1 a) i fun n f j => ev 214 (19, L, .int (f j) :: st) σ) ∧
  (∀ (L : ri_L) (st : List Value) (σ : ri_S) (x y : Int32), ev 214 (19, L, .int y :: .int x :: st) σ = if y ≤ x then ev 214 (34, L, st) σ else ev 214 (22, L, st) σ) ∧
  (∀ (l1 l2 l3 : Option Value) (st : List Value) (σ : ri_S) (x : Nat), ev 214 (22, [some (.ref x), l1, l2, l3], st) σ = ev 214 (23, [some (.ref x), l1, l2, l3], .ref x :: st) σ) ∧
  (∀ (L : ri_L) (st : List Value) (σ : ri_S) (a : Nat), ev 214 (23, L, .ref a :: st) σ = tv_o 9 4 (σ.1 a) fun v => ev 214 (26, L, v :: st) σ) ∧
  (∀ (l0 l1 l2 : Option Value) (st : List Value) (σ : ri_S) (x : Int32), ev 214 (26, [l0, l1, l2, some (.int x)], st) σ = ev 214 (27, [l0, l1, l2, some (.int x)], .int x :: st) σ) ∧
  (∀ (L : ri_L) (st : List Value) (σ : ri_S), ev 214 (27, L, st) σ = ev 214 (28, L, .int 3 :: st) σ) ∧
  (∀ (L : ri_L) (σ : ri_S) (a0 : Nat) (a1 : Int32) (a2 : Int32) (s0 : Value), ev 214 (28, L, [.int a2, .int a1, .ref a0, s0]) σ = (cal 149 [.ref a0, .int a1, .int a2] σ).bind fun q => ev 214 (31, L, q.1.toList ++ [s0]) q.2) ∧
  (∀ (L : ri_L) (st : List Value) (σ : ri_S), ev 214 (31, L, st) σ = ev 214 (35, L, st) σ) ∧
  (∀ (L : ri_L) (st : List Value) (σ : ri_S), ev 214 (34, L, st) σ = ev 214 (35, L, .int 0 :: st) σ) ∧
  (∀ (L : ri_L) (st : List Value) (σ : ri_S) (x y : Int32), ev 214 (35, L, .int y :: .int x :: st) σ = ev 214 (36, L, .int (x + y) :: st) σ) ∧
  (∀ (l0 l1 l2 l3 : Option Value) (st : List Value) (σ : ri_S) (x : Int32), ev 214 (36, [l0, l1, l2, l3], .int x :: st) σ = ev 214 (37, [l0, ri_clr l1, some (.int x), l3], st) σ) ∧
  (∀ (l0 l1 l2 : Option Value) (st : List Value) (σ : ri_S) (x : Int32), ev 214 (37, [l0, l1, l2, some (.int x)], st) σ = ev 214 (40, [l0, l1, ri_clr l2, some (.int (x + 1))], st) σ) ∧
  (∀ (L : ri_L) (st : List Value) (σ : ri_S), ev 214 (40, L, st) σ = ev 214 (4, L, st) σ) ∧
  (∀ (L : ri_L) (st : List Value) (σ : ri_S), ev 214 (43, L, st) σ = ev 214 (45, L, .int 15 :: st) σ) ∧
  (∀ (l0 l1 l3 : Option Value) (st : List Value) (σ : ri_S) (x : Int32), ev 214 (45, [l0, l1, some (.int x), l3], st) σ = ev 214 (46, [l0, l1, some (.int x), l3], .int x :: st) σ) ∧
  (∀ (L : ri_L) (st : List Value) (σ : ri_S) (x y : Int32), ev 214 (46, L, .int y :: .int x :: st) σ = ev 214 (47, L, .int (x * y) :: st) σ) ∧
  (∀ (L : ri_L) (st : List Value) (σ : ri_S), ev 214 (47, L, st) σ = ev 214 (48, L, .int 5 :: st) σ) ∧
  (∀ (l1 l2 l3 : Option Value) (st : List Value) (σ : ri_S) (x : Nat), ev 214 (48, [some (.ref x), l1, l2, l3], st) σ = ev 214 (49, [some (.ref x), l1, l2, l3], .ref x :: st) σ) ∧
  (∀ (L : ri_L) (st : List Value) (σ : ri_S) (a : Nat), ev 214 (49, L, .ref a :: st) σ = tv_o 9 4 (σ.1 a) fun v => ev 214 (52, L, v :: st) σ) ∧
  (∀ (l0 l2 l3 : Option Value) (st : List Value) (σ : ri_S) (x : Int32), ev 214 (52, [l0, some (.int x), l2, l3], st) σ = ev 214 (53, [l0, some (.int x), l2, l3], .int x :: st) σ) ∧
  (∀ (L : ri_L) (st : List Value) (σ : ri_S), ev 214 (53, L, st) σ = ev 214 (54, L, .int 1 :: st) σ) ∧
  (∀ (L : ri_L) (σ : ri_S) (a0 : Nat) (a1 : Int32) (a2 : Int32) (s0 s1 : Value), ev 214 (54, L, [.int a2, .int a1, .ref a0, s0, s1]) σ = (cal 150 [.ref a0, .int a1, .int a2] σ).bind fun q => ev 214 (57, L, q.1.toList ++ [s0, s1]) q.2) ∧
  (∀ (L : ri_L) (st : List Value) (σ : ri_S) (x y : Int32), ev 214 (57, L, .int y :: .int x :: st) σ = ev 214 (58, L, .int (x * y) :: st) σ) ∧
  (∀ (L : ri_L) (st : List Value) (σ : ri_S) (x y : Int32), ev 214 (58, L, .int y :: .int x :: st) σ = ev 214 (59, L, .int (x + y) :: st) σ) ∧
  (∀ (l1 l2 l3 : Option Value) (st : List Value) (σ : ri_S) (x : Nat), ev 214 (59, [some (.ref x), l1, l2, l3], st) σ = ev 214 (60, [some (.ref x), l1, l2, l3], .ref x :: st) σ) ∧
  (∀ (L : ri_L) (st : List Value) (σ : ri_S) (a : Nat), ev 214 (60, L, .ref a :: st) σ = tv_o 9 4 (σ.1 a) fun v => ev 214 (63, L, v :: st) σ) ∧
  (∀ (l0 l2 l3 : Option Value) (st : List Value) (σ : ri_S) (x : Int32), ev 214 (63, [l0, some (.int x), l2, l3], st) σ = ev 214 (64, [l0, some (.int x), l2, l3], .int x :: st) σ) :=
  ⟨fun L st σ => ev_p ((TP_214 _).trans rfl) rfl,
   fun l0 l1 l2 l3 st σ x => ev_p ((TP_214 _).trans rfl) rfl,
   fun L st σ => ev_p ((TP_214 _).trans rfl) rfl,
   fun l0 l1 l2 l3 st σ x => ev_p ((TP_214 _).trans rfl) rfl,
   fun L st σ => ev_p ((TP_214 _).trans rfl) rfl,
   fun L st σ x y => ev_b ((TP_214 _).trans rfl) rfl,
   fun L st σ => ev_p ((TP_214 _).trans rfl) rfl,
   fun l0 l1 l3 st σ x => ev_p ((TP_214 _).trans rfl) rfl,
   fun L st σ x y => ev_p ((TP_214 _).trans rfl) rfl,
   fun l0 l1 l2 st σ x => ev_p ((TP_214 _).trans rfl) rfl,
   fun l1 l2 l3 st σ x => ev_p ((TP_214 _).trans rfl) rfl,
   fun L st σ a => ev_getf ((TP_214 _).trans rfl),
   fun L st σ => ev_p ((TP_214 _).trans rfl) rfl,
   fun L st σ a i => ev_iald ((TP_214 _).trans rfl),
   fun L st σ x y => ev_b ((TP_214 _).trans rfl) rfl,
   fun l1 l2 l3 st σ x => ev_p ((TP_214 _).trans rfl) rfl,
   fun L st σ a => ev_getf ((TP_214 _).trans rfl),
   fun l0 l1 l2 st σ x => ev_p ((TP_214 _).trans rfl) rfl,
   fun L st σ => ev_p ((TP_214 _).trans rfl) rfl,
   fun L σ a0 a1 a2 s0 => ev_call ((TP_214 _).trans rfl) rfl rfl rfl rfl,
   fun L st σ => ev_p ((TP_214 _).trans rfl) rfl,
   fun L st σ => ev_p ((TP_214 _).trans rfl) rfl,
   fun L st σ x y => ev_p ((TP_214 _).trans rfl) rfl,
   fun l0 l1 l2 l3 st σ x => ev_p ((TP_214 _).trans rfl) rfl,
   fun l0 l1 l2 st σ x => ev_p ((TP_214 _).trans rfl) rfl,
   fun L st σ => ev_p ((TP_214 _).trans rfl) rfl,
   fun L st σ => ev_p ((TP_214 _).trans rfl) rfl,
   fun l0 l1 l3 st σ x => ev_p ((TP_214 _).trans rfl) rfl,
   fun L st σ x y => ev_p ((TP_214 _).trans rfl) rfl,
   fun L st σ => ev_p ((TP_214 _).trans rfl) rfl,
   fun l1 l2 l3 st σ x => ev_p ((TP_214 _).trans rfl) rfl,
   fun L st σ a => ev_getf ((TP_214 _).trans rfl),
   fun l0 l2 l3 st σ x => ev_p ((TP_214 _).trans rfl) rfl,
   fun L st σ => ev_p ((TP_214 _).trans rfl) rfl,
   fun L σ a0 a1 a2 s0 s1 => ev_call ((TP_214 _).trans rfl) rfl rfl rfl rfl,
   fun L st σ x y => ev_p ((TP_214 _).trans rfl) rfl,
   fun L st σ x y => ev_p ((TP_214 _).trans rfl) rfl,
   fun l1 l2 l3 st σ x => ev_p ((TP_214 _).trans rfl) rfl,
   fun L st σ a => ev_getf ((TP_214 _).trans rfl),
   fun l0 l2 l3 st σ x => ev_p ((TP_214 _).trans rfl) rfl⟩
theorem I_214_1 :
  (∀ (L : ri_L) (st : List Value) (σ : ri_S), ev 214 (64, L, st) σ = ev 214 (65, L, .int 2 :: st) σ) ∧
  (∀ (L : ri_L) (σ : ri_S) (a0 : Nat) (a1 : Int32) (a2 : Int32) (s0 : Value), ev 214 (65, L, [.int a2, .int a1, .ref a0, s0]) σ = (cal 150 [.ref a0, .int a1, .int a2] σ).bind fun q => ev 214 (68, L, q.1.toList ++ [s0]) q.2) ∧
  (∀ (L : ri_L) (st : List Value) (σ : ri_S) (x y : Int32), ev 214 (68, L, .int y :: .int x :: st) σ = ev 214 (69, L, .int (x + y) :: st) σ) ∧
  (∀ (L : ri_L) (σ : ri_S) (x : Int32), ev 214 (69, L, [.int x]) σ = some (some (.int x), σ)) :=
  ⟨fun L st σ => ev_p ((TP_214 _).trans rfl) rfl,
   fun L σ a0 a1 a2 s0 => ev_call ((TP_214 _).trans rfl) rfl rfl rfl rfl,
   fun L st σ x y => ev_p ((TP_214 _).trans rfl) rfl,
   fun L σ x => ev_r ((TP_214 _).trans rfl) rfl⟩
theorem TP_215 (pc : Nat) : TT 215 pc = ri_find TL_215 pc := rfl
theorem E_215 (x0 : Nat) (x1 : Int32) (x2 : Int32) (σ : ri_S) : cal 215 [.ref x0, .int x1, .int x2] σ = ev 215 (0, [some (.ref x0), some (.int x1), some (.int x2), none, none], []) σ := rfl
theorem H_215_8 (l0 l1 l2 l3 : Option Value) (st : List Value) (σ : ri_S) (x : Int32) : ev 215 (8, [l0, l1, l2, l3, some (.int x)], st) σ = ev 215 (10, [l0, l1, l2, l3, some (.int x)], .int x :: st) σ := ev_p ((TP_215 _).trans rfl) rfl
theorem I_215_0 :
  (∀ (l0 l1 l3 l4 : Option Value) (st : List Value) (σ : ri_S) (x : Int32), ev 215 (0, [l0, l1, some (.int x), l3, l4], st) σ = ev 215 (1, [l0, l1, some (.int x), l3, l4], .int x :: st) σ) ∧
  (∀ (L : ri_L) (st : List Value) (σ : ri_S), ev 215 (1, L, st) σ = ev 215 (3, L, .int 15 :: st) σ) ∧
  (∀ (L : ri_L) (st : List Value) (σ : ri_S) (x y : Int32), ev 215 (3, L, .int y :: .int x :: st) σ = if y = 0 then none else ev 215 (4, L, .int (x / y) :: st) σ) ∧
  (∀ (l0 l1 l2 l3 l4 : Option Value) (st : List Value) (σ : ri_S) (x : Int32), ev 215 (4, [l0, l1, l2, l3, l4], .int x :: st) σ = ev 215 (5, [l0, l1, ri_clr l2, some (.int x), l4], st) σ) ∧
  (∀ (L : ri_L) (st : List Value) (σ : ri_S), ev 215 (5, L, st) σ = ev 215 (6, L, .int 2 :: st) σ) ∧
  (∀ (l0 l1 l2 l3 l4 : Option Value) (st : List Value) (σ : ri_S) (x : Int32), ev 215 (6, [l0, l1, l2, l3, l4], .int x :: st) σ = ev 215 (8, [l0, l1, l2, ri_clr l3, some (.int x)], st) σ) ∧
  (∀ (L : ri_L) (st : List Value) (σ : ri_S) (x : Int32), ev 215 (10, L, .int x :: st) σ = if x < 0 then ev 215 (41, L, st) σ else ev 215 (13, L, st) σ) ∧
  (∀ (l1 l2 l3 l4 : Option Value) (st : List Value) (σ : ri_S) (x : Nat), ev 215 (13, [some (.ref x), l1, l2, l3, l4], st) σ = ev 215 (14, [some (.ref x), l1, l2, l3, l4], .ref x :: st) σ) ∧
  (∀ (L : ri_L) (st : List Value) (σ : ri_S) (a : Nat), ev 215 (14, L, .ref a :: st) σ = tv_o 9 4 (σ.1 a) fun v => ev 215 (17, L, v :: st) σ) ∧
  (∀ (L : ri_L) (st : List Value) (σ : ri_S), ev 215 (17, L, st) σ = ev 215 (19, L, .int 9 :: st) σ) ∧
  (∀ (L : ri_L) (st : List Value) (σ : ri_S), ev 215 (19, L, st) σ = ev 215 (21, L, .int 10 :: st) σ) ∧
  (∀ (l0 l1 l2 l3 : Option Value) (st : List Value) (σ : ri_S) (x : Int32), ev 215 (21, [l0, l1, l2, l3, some (.int x)], st) σ = ev 215 (23, [l0, l1, l2, l3, some (.int x)], .int x :: st) σ) ∧
  (∀ (L : ri_L) (st : List Value) (σ : ri_S) (x y : Int32), ev 215 (23, L, .int y :: .int x :: st) σ = ev 215 (24, L, .int (x * y) :: st) σ) ∧
  (∀ (L : ri_L) (st : List Value) (σ : ri_S) (x y : Int32), ev 215 (24, L, .int y :: .int x :: st) σ = ev 215 (25, L, .int (x + y) :: st) σ) ∧
  (∀ (L : ri_L) (st : List Value) (σ : ri_S), ev 215 (25, L, st) σ = ev 215 (26, L, .int 3 :: st) σ) ∧
  (∀ (L : ri_L) (st : List Value) (σ : ri_S) (x y : Int32), ev 215 (26, L, .int y :: .int x :: st) σ = ev 215 (27, L, .int (x + y) :: st) σ) ∧
  (∀ (l0 l1 l2 l4 : Option Value) (st : List Value) (σ : ri_S) (x : Int32), ev 215 (27, [l0, l1, l2, some (.int x), l4], st) σ = ev 215 (28, [l0, l1, l2, some (.int x), l4], .int x :: st) σ) ∧
  (∀ (L : ri_L) (st : List Value) (σ : ri_S), ev 215 (28, L, st) σ = ev 215 (29, L, .int 5 :: st) σ) ∧
  (∀ (L : ri_L) (st : List Value) (σ : ri_S) (x y : Int32), ev 215 (29, L, .int y :: .int x :: st) σ = if y = 0 then none else ev 215 (30, L, .int (x - x / y * y) :: st) σ) ∧
  (∀ (L : ri_L) (st : List Value) (σ : ri_S) (a : Nat) (i x : Int32), ev 215 (30, L, .int x :: .int i :: .ref a :: st) σ = tv_r 0 (σ.1 a) i fun n f j => ev 215 (31, L, st) (ri_upd σ.1 a (.inl (0, n, upd f j x)), σ.2)) ∧
  (∀ (l0 l1 l2 l4 : Option Value) (st : List Value) (σ : ri_S) (x : Int32), ev 215 (31, [l0, l1, l2, some (.int x), l4], st) σ = ev 215 (32, [l0, l1, l2, some (.int x), l4], .int x :: st) σ) ∧
  (∀ (L : ri_L) (st : List Value) (σ : ri_S), ev 215 (32, L, st) σ = ev 215 (33, L, .int 5 :: st) σ) ∧
  (∀ (L : ri_L) (st : List Value) (σ : ri_S) (x y : Int32), ev 215 (33, L, .int y :: .int x :: st) σ = if y = 0 then none else ev 215 (34, L, .int (x / y) :: st) σ) ∧
  (∀ (l0 l1 l2 l3 l4 : Option Value) (st : List Value) (σ : ri_S) (x : Int32), ev 215 (34, [l0, l1, l2, l3, l4], .int x :: st) σ = ev 215 (35, [l0, l1, ri_clr l2, some (.int x), l4], st) σ) ∧
  (∀ (l0 l1 l2 l3 : Option Value) (st : List Value) (σ : ri_S) (x : Int32), ev 215 (35, [l0, l1, l2, l3, some (.int x)], st) σ = ev 215 (38, [l0, l1, l2, ri_clr l3, some (.int (x + (-1)))], st) σ) ∧
  (∀ (L : ri_L) (st : List Value) (σ : ri_S), ev 215 (38, L, st) σ = ev 215 (8, L, st) σ) ∧
  (∀ (l1 l2 l3 l4 : Option Value) (st : List Value) (σ : ri_S) (x : Nat), ev 215 (41, [some (.ref x), l1, l2, l3, l4], st) σ = ev 215 (42, [some (.ref x), l1, l2, l3, l4], .ref x :: st) σ) ∧
  (∀ (L : ri_L) (st : List Value) (σ : ri_S) (a : Nat), ev 215 (42, L, .ref a :: st) σ = tv_o 9 4 (σ.1 a) fun v => ev 215 (45, L, v :: st) σ) ∧
  (∀ (L : ri_L) (st : List Value) (σ : ri_S), ev 215 (45, L, st) σ = ev 215 (47, L, .int 71 :: st) σ) ∧
  (∀ (L : ri_L) (st : List Value) (σ : ri_S), ev 215 (47, L, st) σ = ev 215 (48, L, .int 5 :: st) σ) ∧
  (∀ (l0 l2 l3 l4 : Option Value) (st : List Value) (σ : ri_S) (x : Int32), ev 215 (48, [l0, some (.int x), l2, l3, l4], st) σ = ev 215 (49, [l0, some (.int x), l2, l3, l4], .int x :: st) σ) ∧
  (∀ (L : ri_L) (st : List Value) (σ : ri_S) (x y : Int32), ev 215 (49, L, .int y :: .int x :: st) σ = ev 215 (50, L, .int (x * y) :: st) σ) ∧
  (∀ (L : ri_L) (st : List Value) (σ : ri_S) (x y : Int32), ev 215 (50, L, .int y :: .int x :: st) σ = ev 215 (51, L, .int (x + y) :: st) σ) ∧
  (∀ (L : ri_L) (st : List Value) (σ : ri_S), ev 215 (51, L, st) σ = ev 215 (52, L, .int 1 :: st) σ) ∧
  (∀ (L : ri_L) (st : List Value) (σ : ri_S) (x y : Int32), ev 215 (52, L, .int y :: .int x :: st) σ = ev 215 (53, L, .int (x + y) :: st) σ) ∧
  (∀ (l0 l1 l3 l4 : Option Value) (st : List Value) (σ : ri_S) (x : Int32), ev 215 (53, [l0, l1, some (.int x), l3, l4], st) σ = ev 215 (54, [l0, l1, some (.int x), l3, l4], .int x :: st) σ) ∧
  (∀ (L : ri_L) (st : List Value) (σ : ri_S), ev 215 (54, L, st) σ = ev 215 (56, L, .int 15 :: st) σ) ∧
  (∀ (L : ri_L) (st : List Value) (σ : ri_S) (x y : Int32), ev 215 (56, L, .int y :: .int x :: st) σ = if y = 0 then none else ev 215 (57, L, .int (x - x / y * y) :: st) σ) ∧
  (∀ (L : ri_L) (st : List Value) (σ : ri_S), ev 215 (57, L, st) σ = ev 215 (58, L, .int 5 :: st) σ) ∧
  (∀ (L : ri_L) (st : List Value) (σ : ri_S) (x y : Int32), ev 215 (58, L, .int y :: .int x :: st) σ = if y = 0 then none else ev 215 (59, L, .int (x / y) :: st) σ) :=
  ⟨fun l0 l1 l3 l4 st σ x => ev_p ((TP_215 _).trans rfl) rfl,
   fun L st σ => ev_p ((TP_215 _).trans rfl) rfl,
   fun L st σ x y => ev_d ((TP_215 _).trans rfl) rfl,
   fun l0 l1 l2 l3 l4 st σ x => ev_p ((TP_215 _).trans rfl) rfl,
   fun L st σ => ev_p ((TP_215 _).trans rfl) rfl,
   fun l0 l1 l2 l3 l4 st σ x => ev_p ((TP_215 _).trans rfl) rfl,
   fun L st σ x => ev_b ((TP_215 _).trans rfl) rfl,
   fun l1 l2 l3 l4 st σ x => ev_p ((TP_215 _).trans rfl) rfl,
   fun L st σ a => ev_getf ((TP_215 _).trans rfl),
   fun L st σ => ev_p ((TP_215 _).trans rfl) rfl,
   fun L st σ => ev_p ((TP_215 _).trans rfl) rfl,
   fun l0 l1 l2 l3 st σ x => ev_p ((TP_215 _).trans rfl) rfl,
   fun L st σ x y => ev_p ((TP_215 _).trans rfl) rfl,
   fun L st σ x y => ev_p ((TP_215 _).trans rfl) rfl,
   fun L st σ => ev_p ((TP_215 _).trans rfl) rfl,
   fun L st σ x y => ev_p ((TP_215 _).trans rfl) rfl,
   fun l0 l1 l2 l4 st σ x => ev_p ((TP_215 _).trans rfl) rfl,
   fun L st σ => ev_p ((TP_215 _).trans rfl) rfl,
   fun L st σ x y => ev_d ((TP_215 _).trans rfl) rfl,
   fun L st σ a i x => ev_iast ((TP_215 _).trans rfl),
   fun l0 l1 l2 l4 st σ x => ev_p ((TP_215 _).trans rfl) rfl,
   fun L st σ => ev_p ((TP_215 _).trans rfl) rfl,
   fun L st σ x y => ev_d ((TP_215 _).trans rfl) rfl,
   fun l0 l1 l2 l3 l4 st σ x => ev_p ((TP_215 _).trans rfl) rfl,
   fun l0 l1 l2 l3 st σ x => ev_p ((TP_215 _).trans rfl) rfl,
   fun L st σ => ev_p ((TP_215 _).trans rfl) rfl,
   fun l1 l2 l3 l4 st σ x => ev_p ((TP_215 _).trans rfl) rfl,
   fun L st σ a => ev_getf ((TP_215 _).trans rfl),
   fun L st σ => ev_p ((TP_215 _).trans rfl) rfl,
   fun L st σ => ev_p ((TP_215 _).trans rfl) rfl,
   fun l0 l2 l3 l4 st σ x => ev_p ((TP_215 _).trans rfl) rfl,
   fun L st σ x y => ev_p ((TP_215 _).trans rfl) rfl,
   fun L st σ x y => ev_p ((TP_215 _).trans rfl) rfl,
   fun L st σ => ev_p ((TP_215 _).trans rfl) rfl,
   fun L st σ x y => ev_p ((TP_215 _).trans rfl) rfl,
   fun l0 l1 l3 l4 st σ x => ev_p ((TP_215 _).trans rfl) rfl,
   fun L st σ => ev_p ((TP_215 _).trans rfl) rfl,
   fun L st σ x y => ev_d ((TP_215 _).trans rfl) rfl,
   fun L st σ => ev_p ((TP_215 _).trans rfl) rfl,
   fun L st σ x y => ev_d ((TP_215 _).trans rfl) rfl⟩
theorem I_215_1 :
  (∀ (L : ri_L) (st : List Value) (σ : ri_S) (a : Nat) (i x : Int32), ev 215 (59, L, .int x :: .int i :: .ref a :: st) σ = tv_r 0 (σ.1 a) i fun n f j => ev 215 (60, L, st) (ri_upd σ.1 a (.inl (0, n, upd f j x)), σ.2)) ∧
  (∀ (l1 l2 l3 l4 : Option Value) (st : List Value) (σ : ri_S) (x : Nat), ev 215 (60, [some (.ref x), l1, l2, l3, l4], st) σ = ev 215 (61, [some (.ref x), l1, l2, l3, l4], .ref x :: st) σ) ∧
  (∀ (L : ri_L) (st : List Value) (σ : ri_S) (a : Nat), ev 215 (61, L, .ref a :: st) σ = tv_o 9 4 (σ.1 a) fun v => ev 215 (64, L, v :: st) σ) ∧
  (∀ (L : ri_L) (st : List Value) (σ : ri_S), ev 215 (64, L, st) σ = ev 215 (66, L, .int 71 :: st) σ) ∧
  (∀ (L : ri_L) (st : List Value) (σ : ri_S), ev 215 (66, L, st) σ = ev 215 (67, L, .int 5 :: st) σ) ∧
  (∀ (l0 l2 l3 l4 : Option Value) (st : List Value) (σ : ri_S) (x : Int32), ev 215 (67, [l0, some (.int x), l2, l3, l4], st) σ = ev 215 (68, [l0, some (.int x), l2, l3, l4], .int x :: st) σ) ∧
  (∀ (L : ri_L) (st : List Value) (σ : ri_S) (x y : Int32), ev 215 (68, L, .int y :: .int x :: st) σ = ev 215 (69, L, .int (x * y) :: st) σ) ∧
  (∀ (L : ri_L) (st : List Value) (σ : ri_S) (x y : Int32), ev 215 (69, L, .int y :: .int x :: st) σ = ev 215 (70, L, .int (x + y) :: st) σ) ∧
  (∀ (L : ri_L) (st : List Value) (σ : ri_S), ev 215 (70, L, st) σ = ev 215 (71, L, .int 2 :: st) σ) ∧
  (∀ (L : ri_L) (st : List Value) (σ : ri_S) (x y : Int32), ev 215 (71, L, .int y :: .int x :: st) σ = ev 215 (72, L, .int (x + y) :: st) σ) ∧
  (∀ (l0 l1 l3 l4 : Option Value) (st : List Value) (σ : ri_S) (x : Int32), ev 215 (72, [l0, l1, some (.int x), l3, l4], st) σ = ev 215 (73, [l0, l1, some (.int x), l3, l4], .int x :: st) σ) ∧
  (∀ (L : ri_L) (st : List Value) (σ : ri_S), ev 215 (73, L, st) σ = ev 215 (74, L, .int 5 :: st) σ) ∧
  (∀ (L : ri_L) (st : List Value) (σ : ri_S) (x y : Int32), ev 215 (74, L, .int y :: .int x :: st) σ = if y = 0 then none else ev 215 (75, L, .int (x - x / y * y) :: st) σ) ∧
  (∀ (L : ri_L) (st : List Value) (σ : ri_S) (a : Nat) (i x : Int32), ev 215 (75, L, .int x :: .int i :: .ref a :: st) σ = tv_r 0 (σ.1 a) i fun n f j => ev 215 (76, L, st) (ri_upd σ.1 a (.inl (0, n, upd f j x)), σ.2)) ∧
  (∀ (L : ri_L) (σ : ri_S), ev 215 (76, L, []) σ = some (none, σ)) :=
  ⟨fun L st σ a i x => ev_iast ((TP_215 _).trans rfl),
   fun l1 l2 l3 l4 st σ x => ev_p ((TP_215 _).trans rfl) rfl,
   fun L st σ a => ev_getf ((TP_215 _).trans rfl),
   fun L st σ => ev_p ((TP_215 _).trans rfl) rfl,
   fun L st σ => ev_p ((TP_215 _).trans rfl) rfl,
   fun l0 l2 l3 l4 st σ x => ev_p ((TP_215 _).trans rfl) rfl,
   fun L st σ x y => ev_p ((TP_215 _).trans rfl) rfl,
   fun L st σ x y => ev_p ((TP_215 _).trans rfl) rfl,
   fun L st σ => ev_p ((TP_215 _).trans rfl) rfl,
   fun L st σ x y => ev_p ((TP_215 _).trans rfl) rfl,
   fun l0 l1 l3 l4 st σ x => ev_p ((TP_215 _).trans rfl) rfl,
   fun L st σ => ev_p ((TP_215 _).trans rfl) rfl,
   fun L st σ x y => ev_d ((TP_215 _).trans rfl) rfl,
   fun L st σ a i x => ev_iast ((TP_215 _).trans rfl),
   fun L σ => ev_r ((TP_215 _).trans rfl) rfl⟩
theorem TP_216 (pc : Nat) : TT 216 pc = ri_find TL_216 pc := rfl
theorem E_216 (x0 : Nat) (x1 : Int32) (x2 : Int32) (σ : ri_S) : cal 216 [.ref x0, .int x1, .int x2] σ = ev 216 (0, [some (.ref x0), some (.int x1), some (.int x2), none, none], []) σ := rfl
theorem I_216_0 :
  (∀ (l0 l1 l3 l4 : Option Value) (st : List Value) (σ : ri_S) (x : Int32), ev 216 (0, [l0, l1, some (.int x), l3, l4], st) σ = ev 216 (1, [l0, l1, some (.int x), l3, l4], .int x :: st) σ) ∧
  (∀ (L : ri_L) (st : List Value) (σ : ri_S), ev 216 (1, L, st) σ = ev 216 (3, L, .int 8 :: st) σ) ∧
  (∀ (L : ri_L) (st : List Value) (σ : ri_S) (x y : Int32), ev 216 (3, L, .int y :: .int x :: st) σ = if y ≤ x then ev 216 (50, L, st) σ else ev 216 (6, L, st) σ) ∧
  (∀ (l1 l2 l3 l4 : Option Value) (st : List Value) (σ : ri_S) (x : Nat), ev 216 (6, [some (.ref x), l1, l2, l3, l4], st) σ = ev 216 (7, [some (.ref x), l1, l2, l3, l4], .ref x :: st) σ) ∧
  (∀ (L : ri_L) (st : List Value) (σ : ri_S) (a : Nat), ev 216 (7, L, .ref a :: st) σ = tv_o 9 4 (σ.1 a) fun v => ev 216 (10, L, v :: st) σ) ∧
  (∀ (l0 l1 l3 l4 : Option Value) (st : List Value) (σ : ri_S) (x : Int32), ev 216 (10, [l0, l1, some (.int x), l3, l4], st) σ = ev 216 (11, [l0, l1, some (.int x), l3, l4], .int x :: st) σ) ∧
  (∀ (L : ri_L) (σ : ri_S) (a0 : Nat) (a1 : Int32), ev 216 (11, L, [.int a1, .ref a0]) σ = (cal 155 [.ref a0, .int a1] σ).bind fun q => ev 216 (14, L, q.1.toList ++ []) q.2) ∧
  (∀ (L : ri_L) (st : List Value) (σ : ri_S) (x : Int32), ev 216 (14, L, .int x :: st) σ = if x = 0 then ev 216 (33, L, st) σ else ev 216 (17, L, st) σ) ∧
  (∀ (l1 l2 l3 l4 : Option Value) (st : List Value) (σ : ri_S) (x : Nat), ev 216 (17, [some (.ref x), l1, l2, l3, l4], st) σ = ev 216 (18, [some (.ref x), l1, l2, l3, l4], .ref x :: st) σ) ∧
  (∀ (L : ri_L) (st : List Value) (σ : ri_S) (a : Nat), ev 216 (18, L, .ref a :: st) σ = tv_o 9 4 (σ.1 a) fun v => ev 216 (21, L, v :: st) σ) ∧
  (∀ (l0 l2 l3 l4 : Option Value) (st : List Value) (σ : ri_S) (x : Int32), ev 216 (21, [l0, some (.int x), l2, l3, l4], st) σ = ev 216 (22, [l0, some (.int x), l2, l3, l4], .int x :: st) σ) ∧
  (∀ (l0 l1 l3 l4 : Option Value) (st : List Value) (σ : ri_S) (x : Int32), ev 216 (22, [l0, l1, some (.int x), l3, l4], st) σ = ev 216 (23, [l0, l1, some (.int x), l3, l4], .int x :: st) σ) ∧
  (∀ (L : ri_L) (σ : ri_S) (a0 : Nat) (a1 : Int32) (a2 : Int32), ev 216 (23, L, [.int a2, .int a1, .ref a0]) σ = (cal 164 [.ref a0, .int a1, .int a2] σ).bind fun q => ev 216 (26, L, q.1.toList ++ []) q.2) ∧
  (∀ (L : ri_L) (st : List Value) (σ : ri_S) (x : Int32), ev 216 (26, L, .int x :: st) σ = if ¬ x = 0 then ev 216 (33, L, st) σ else ev 216 (29, L, st) σ) ∧
  (∀ (L : ri_L) (st : List Value) (σ : ri_S), ev 216 (29, L, st) σ = ev 216 (30, L, .int 1 :: st) σ) ∧
  (∀ (L : ri_L) (st : List Value) (σ : ri_S), ev 216 (30, L, st) σ = ev 216 (34, L, st) σ) ∧
  (∀ (L : ri_L) (st : List Value) (σ : ri_S), ev 216 (33, L, st) σ = ev 216 (34, L, .int 0 :: st) σ) ∧
  (∀ (l0 l1 l2 l3 l4 : Option Value) (st : List Value) (σ : ri_S) (x : Int32), ev 216 (34, [l0, l1, l2, l3, l4], .int x :: st) σ = ev 216 (35, [l0, l1, ri_clr l2, some (.int x), l4], st) σ) ∧
  (∀ (l0 l1 l2 l4 : Option Value) (st : List Value) (σ : ri_S) (x : Int32), ev 216 (35, [l0, l1, l2, some (.int x), l4], st) σ = ev 216 (36, [l0, l1, l2, some (.int x), l4], .int x :: st) σ) ∧
  (∀ (L : ri_L) (st : List Value) (σ : ri_S) (x : Int32), ev 216 (36, L, .int x :: st) σ = if x = 0 then ev 216 (48, L, st) σ else ev 216 (39, L, st) σ) ∧
  (∀ (l1 l2 l3 l4 : Option Value) (st : List Value) (σ : ri_S) (x : Nat), ev 216 (39, [some (.ref x), l1, l2, l3, l4], st) σ = ev 216 (40, [some (.ref x), l1, l2, l3, l4], .ref x :: st) σ) ∧
  (∀ (L : ri_L) (st : List Value) (σ : ri_S) (a : Nat), ev 216 (40, L, .ref a :: st) σ = tv_o 9 4 (σ.1 a) fun v => ev 216 (43, L, v :: st) σ) ∧
  (∀ (l0 l2 l3 l4 : Option Value) (st : List Value) (σ : ri_S) (x : Int32), ev 216 (43, [l0, some (.int x), l2, l3, l4], st) σ = ev 216 (44, [l0, some (.int x), l2, l3, l4], .int x :: st) σ) ∧
  (∀ (l0 l1 l3 l4 : Option Value) (st : List Value) (σ : ri_S) (x : Int32), ev 216 (44, [l0, l1, some (.int x), l3, l4], st) σ = ev 216 (45, [l0, l1, some (.int x), l3, l4], .int x :: st) σ) ∧
  (∀ (L : ri_L) (σ : ri_S) (a0 : Nat) (a1 : Int32) (a2 : Int32), ev 216 (45, L, [.int a2, .int a1, .ref a0]) σ = (cal 169 [.ref a0, .int a1, .int a2] σ).bind fun q => ev 216 (48, L, q.1.toList ++ []) q.2) ∧
  (∀ (l0 l1 l2 l4 : Option Value) (st : List Value) (σ : ri_S) (x : Int32), ev 216 (48, [l0, l1, l2, some (.int x), l4], st) σ = ev 216 (49, [l0, l1, l2, some (.int x), l4], .int x :: st) σ) ∧
  (∀ (L : ri_L) (σ : ri_S) (x : Int32), ev 216 (49, L, [.int x]) σ = tv_b x (some (some (.int x), σ))) ∧
  (∀ (l0 l1 l3 l4 : Option Value) (st : List Value) (σ : ri_S) (x : Int32), ev 216 (50, [l0, l1, some (.int x), l3, l4], st) σ = ev 216 (51, [l0, l1, some (.int x), l3, l4], .int x :: st) σ) ∧
  (∀ (L : ri_L) (st : List Value) (σ : ri_S), ev 216 (51, L, st) σ = ev 216 (53, L, .int 8 :: st) σ) ∧
  (∀ (L : ri_L) (st : List Value) (σ : ri_S) (x y : Int32), ev 216 (53, L, .int y :: .int x :: st) σ = if ¬ x = y then ev 216 (60, L, st) σ else ev 216 (56, L, st) σ) ∧
  (∀ (L : ri_L) (st : List Value) (σ : ri_S), ev 216 (56, L, st) σ = ev 216 (57, L, .int 1 :: st) σ) ∧
  (∀ (L : ri_L) (st : List Value) (σ : ri_S), ev 216 (57, L, st) σ = ev 216 (61, L, st) σ) ∧
  (∀ (L : ri_L) (st : List Value) (σ : ri_S), ev 216 (60, L, st) σ = ev 216 (61, L, .int (-1) :: st) σ) ∧
  (∀ (l0 l1 l2 l3 l4 : Option Value) (st : List Value) (σ : ri_S) (x : Int32), ev 216 (61, [l0, l1, l2, l3, l4], .int x :: st) σ = ev 216 (62, [l0, l1, ri_clr l2, some (.int x), l4], st) σ) ∧
  (∀ (l1 l2 l3 l4 : Option Value) (st : List Value) (σ : ri_S) (x : Nat), ev 216 (62, [some (.ref x), l1, l2, l3, l4], st) σ = ev 216 (63, [some (.ref x), l1, l2, l3, l4], .ref x :: st) σ) ∧
  (∀ (L : ri_L) (st : List Value) (σ : ri_S) (a : Nat), ev 216 (63, L, .ref a :: st) σ = tv_o 9 4 (σ.1 a) fun v => ev 216 (66, L, v :: st) σ) ∧
  (∀ (l0 l2 l3 l4 : Option Value) (st : List Value) (σ : ri_S) (x : Int32), ev 216 (66, [l0, some (.int x), l2, l3, l4], st) σ = ev 216 (67, [l0, some (.int x), l2, l3, l4], .int x :: st) σ) ∧
  (∀ (l0 l1 l2 l4 : Option Value) (st : List Value) (σ : ri_S) (x : Int32), ev 216 (67, [l0, l1, l2, some (.int x), l4], st) σ = ev 216 (68, [l0, l1, l2, some (.int x), l4], .int x :: st) σ) ∧
  (∀ (L : ri_L) (σ : ri_S) (a0 : Nat) (a1 : Int32) (a2 : Int32), ev 216 (68, L, [.int a2, .int a1, .ref a0]) σ = (cal 165 [.ref a0, .int a1, .int a2] σ).bind fun q => ev 216 (71, L, q.1.toList ++ []) q.2) ∧
  (∀ (L : ri_L) (st : List Value) (σ : ri_S) (x : Int32), ev 216 (71, L, .int x :: st) σ = if ¬ x = 0 then ev 216 (78, L, st) σ else ev 216 (74, L, st) σ) :=
  ⟨fun l0 l1 l3 l4 st σ x => ev_p ((TP_216 _).trans rfl) rfl,
   fun L st σ => ev_p ((TP_216 _).trans rfl) rfl,
   fun L st σ x y => ev_b ((TP_216 _).trans rfl) rfl,
   fun l1 l2 l3 l4 st σ x => ev_p ((TP_216 _).trans rfl) rfl,
   fun L st σ a => ev_getf ((TP_216 _).trans rfl),
   fun l0 l1 l3 l4 st σ x => ev_p ((TP_216 _).trans rfl) rfl,
   fun L σ a0 a1 => ev_call ((TP_216 _).trans rfl) rfl rfl rfl rfl,
   fun L st σ x => ev_b ((TP_216 _).trans rfl) rfl,
   fun l1 l2 l3 l4 st σ x => ev_p ((TP_216 _).trans rfl) rfl,
   fun L st σ a => ev_getf ((TP_216 _).trans rfl),
   fun l0 l2 l3 l4 st σ x => ev_p ((TP_216 _).trans rfl) rfl,
   fun l0 l1 l3 l4 st σ x => ev_p ((TP_216 _).trans rfl) rfl,
   fun L σ a0 a1 a2 => ev_call ((TP_216 _).trans rfl) rfl rfl rfl rfl,
   fun L st σ x => ev_b ((TP_216 _).trans rfl) rfl,
   fun L st σ => ev_p ((TP_216 _).trans rfl) rfl,
   fun L st σ => ev_p ((TP_216 _).trans rfl) rfl,
   fun L st σ => ev_p ((TP_216 _).trans rfl) rfl,
   fun l0 l1 l2 l3 l4 st σ x => ev_p ((TP_216 _).trans rfl) rfl,
   fun l0 l1 l2 l4 st σ x => ev_p ((TP_216 _).trans rfl) rfl,
   fun L st σ x => ev_b ((TP_216 _).trans rfl) rfl,
   fun l1 l2 l3 l4 st σ x => ev_p ((TP_216 _).trans rfl) rfl,
   fun L st σ a => ev_getf ((TP_216 _).trans rfl),
   fun l0 l2 l3 l4 st σ x => ev_p ((TP_216 _).trans rfl) rfl,
   fun l0 l1 l3 l4 st σ x => ev_p ((TP_216 _).trans rfl) rfl,
   fun L σ a0 a1 a2 => ev_call ((TP_216 _).trans rfl) rfl rfl rfl rfl,
   fun l0 l1 l2 l4 st σ x => ev_p ((TP_216 _).trans rfl) rfl,
   fun L σ x => ev_r ((TP_216 _).trans rfl) rfl,
   fun l0 l1 l3 l4 st σ x => ev_p ((TP_216 _).trans rfl) rfl,
   fun L st σ => ev_p ((TP_216 _).trans rfl) rfl,
   fun L st σ x y => ev_b ((TP_216 _).trans rfl) rfl,
   fun L st σ => ev_p ((TP_216 _).trans rfl) rfl,
   fun L st σ => ev_p ((TP_216 _).trans rfl) rfl,
   fun L st σ => ev_p ((TP_216 _).trans rfl) rfl,
   fun l0 l1 l2 l3 l4 st σ x => ev_p ((TP_216 _).trans rfl) rfl,
   fun l1 l2 l3 l4 st σ x => ev_p ((TP_216 _).trans rfl) rfl,
   fun L st σ a => ev_getf ((TP_216 _).trans rfl),
   fun l0 l2 l3 l4 st σ x => ev_p ((TP_216 _).trans rfl) rfl,
   fun l0 l1 l2 l4 st σ x => ev_p ((TP_216 _).trans rfl) rfl,
   fun L σ a0 a1 a2 => ev_call ((TP_216 _).trans rfl) rfl rfl rfl rfl,
   fun L st σ x => ev_b ((TP_216 _).trans rfl) rfl⟩
theorem I_216_1 :
  (∀ (L : ri_L) (st : List Value) (σ : ri_S), ev 216 (74, L, st) σ = ev 216 (75, L, .int 1 :: st) σ) ∧
  (∀ (L : ri_L) (st : List Value) (σ : ri_S), ev 216 (75, L, st) σ = ev 216 (79, L, st) σ) ∧
  (∀ (L : ri_L) (st : List Value) (σ : ri_S), ev 216 (78, L, st) σ = ev 216 (79, L, .int 0 :: st) σ) ∧
  (∀ (l0 l1 l2 l3 l4 : Option Value) (st : List Value) (σ : ri_S) (x : Int32), ev 216 (79, [l0, l1, l2, l3, l4], .int x :: st) σ = ev 216 (81, [l0, l1, l2, ri_clr l3, some (.int x)], st) σ) ∧
  (∀ (l0 l1 l2 l3 : Option Value) (st : List Value) (σ : ri_S) (x : Int32), ev 216 (81, [l0, l1, l2, l3, some (.int x)], st) σ = ev 216 (83, [l0, l1, l2, l3, some (.int x)], .int x :: st) σ) ∧
  (∀ (L : ri_L) (st : List Value) (σ : ri_S) (x : Int32), ev 216 (83, L, .int x :: st) σ = if x = 0 then ev 216 (95, L, st) σ else ev 216 (86, L, st) σ) ∧
  (∀ (l1 l2 l3 l4 : Option Value) (st : List Value) (σ : ri_S) (x : Nat), ev 216 (86, [some (.ref x), l1, l2, l3, l4], st) σ = ev 216 (87, [some (.ref x), l1, l2, l3, l4], .ref x :: st) σ) ∧
  (∀ (L : ri_L) (st : List Value) (σ : ri_S) (a : Nat), ev 216 (87, L, .ref a :: st) σ = tv_o 9 4 (σ.1 a) fun v => ev 216 (90, L, v :: st) σ) ∧
  (∀ (l0 l2 l3 l4 : Option Value) (st : List Value) (σ : ri_S) (x : Int32), ev 216 (90, [l0, some (.int x), l2, l3, l4], st) σ = ev 216 (91, [l0, some (.int x), l2, l3, l4], .int x :: st) σ) ∧
  (∀ (l0 l1 l2 l4 : Option Value) (st : List Value) (σ : ri_S) (x : Int32), ev 216 (91, [l0, l1, l2, some (.int x), l4], st) σ = ev 216 (92, [l0, l1, l2, some (.int x), l4], .int x :: st) σ) ∧
  (∀ (L : ri_L) (σ : ri_S) (a0 : Nat) (a1 : Int32) (a2 : Int32), ev 216 (92, L, [.int a2, .int a1, .ref a0]) σ = (cal 170 [.ref a0, .int a1, .int a2] σ).bind fun q => ev 216 (95, L, q.1.toList ++ []) q.2) ∧
  (∀ (l0 l1 l2 l3 : Option Value) (st : List Value) (σ : ri_S) (x : Int32), ev 216 (95, [l0, l1, l2, l3, some (.int x)], st) σ = ev 216 (97, [l0, l1, l2, l3, some (.int x)], .int x :: st) σ) ∧
  (∀ (L : ri_L) (σ : ri_S) (x : Int32), ev 216 (97, L, [.int x]) σ = tv_b x (some (some (.int x), σ))) :=
  ⟨fun L st σ => ev_p ((TP_216 _).trans rfl) rfl,
   fun L st σ => ev_p ((TP_216 _).trans rfl) rfl,
   fun L st σ => ev_p ((TP_216 _).trans rfl) rfl,
   fun l0 l1 l2 l3 l4 st σ x => ev_p ((TP_216 _).trans rfl) rfl,
   fun l0 l1 l2 l3 st σ x => ev_p ((TP_216 _).trans rfl) rfl,
   fun L st σ x => ev_b ((TP_216 _).trans rfl) rfl,
   fun l1 l2 l3 l4 st σ x => ev_p ((TP_216 _).trans rfl) rfl,
   fun L st σ a => ev_getf ((TP_216 _).trans rfl),
   fun l0 l2 l3 l4 st σ x => ev_p ((TP_216 _).trans rfl) rfl,
   fun l0 l1 l2 l4 st σ x => ev_p ((TP_216 _).trans rfl) rfl,
   fun L σ a0 a1 a2 => ev_call ((TP_216 _).trans rfl) rfl rfl rfl rfl,
   fun l0 l1 l2 l3 st σ x => ev_p ((TP_216 _).trans rfl) rfl,
   fun L σ x => ev_r ((TP_216 _).trans rfl) rfl⟩
theorem TP_217 (pc : Nat) : TT 217 pc = ri_find TL_217 pc := rfl
theorem E_217 (x0 : Nat) (x1 : Int32) (σ : ri_S) : cal 217 [.ref x0, .int x1] σ = ev 217 (0, [some (.ref x0), some (.int x1), none, none, none], []) σ := rfl
theorem H_217_2 (l0 l1 l3 l4 : Option Value) (st : List Value) (σ : ri_S) (x : Int32) : ev 217 (2, [l0, l1, some (.int x), l3, l4], st) σ = ev 217 (3, [l0, l1, some (.int x), l3, l4], .int x :: st) σ := ev_p ((TP_217 _).trans rfl) rfl
theorem H_217_70 (l0 l1 l2 l4 : Option Value) (st : List Value) (σ : ri_S) (x : Int32) : ev 217 (70, [l0, l1, l2, some (.int x), l4], st) σ = ev 217 (71, [l0, l1, l2, some (.int x), l4], .int x :: st) σ := ev_p ((TP_217 _).trans rfl) rfl
theorem H_217_78 (l0 l1 l2 l3 : Option Value) (st : List Value) (σ : ri_S) (x : Int32) : ev 217 (78, [l0, l1, l2, l3, some (.int x)], st) σ = ev 217 (80, [l0, l1, l2, l3, some (.int x)], .int x :: st) σ := ev_p ((TP_217 _).trans rfl) rfl
theorem I_217_0 :
  (∀ (L : ri_L) (st : List Value) (σ : ri_S), ev 217 (0, L, st) σ = ev 217 (1, L, .int 0 :: st) σ) ∧
  (∀ (l0 l1 l2 l3 l4 : Option Value) (st : List Value) (σ : ri_S) (x : Int32), ev 217 (1, [l0, l1, l2, l3, l4], .int x :: st) σ = ev 217 (2, [l0, ri_clr l1, some (.int x), l3, l4], st) σ) ∧
  (∀ (L : ri_L) (st : List Value) (σ : ri_S), ev 217 (3, L, st) σ = ev 217 (6, L, .int 1875 :: st) σ) ∧
  (∀ (L : ri_L) (st : List Value) (σ : ri_S) (x y : Int32), ev 217 (6, L, .int y :: .int x :: st) σ = if y ≤ x then ev 217 (22, L, st) σ else ev 217 (9, L, st) σ) ∧
  (∀ (l1 l2 l3 l4 : Option Value) (st : List Value) (σ : ri_S) (x : Nat), ev 217 (9, [some (.ref x), l1, l2, l3, l4], st) σ = ev 217 (10, [some (.ref x), l1, l2, l3, l4], .ref x :: st) σ) ∧
  (∀ (L : ri_L) (st : List Value) (σ : ri_S) (a : Nat), ev 217 (10, L, .ref a :: st) σ = tv_o 9 9 (σ.1 a) fun v => ev 217 (13, L, v :: st) σ) ∧
  (∀ (l0 l1 l3 l4 : Option Value) (st : List Value) (σ : ri_S) (x : Int32), ev 217 (13, [l0, l1, some (.int x), l3, l4], st) σ = ev 217 (14, [l0, l1, some (.int x), l3, l4], .int x :: st) σ) ∧
  (∀ (L : ri_L) (st : List Value) (σ : ri_S), ev 217 (14, L, st) σ = ev 217 (15, L, .int (-1) :: st) σ) ∧
  (∀ (L : ri_L) (st : List Value) (σ : ri_S) (a : Nat) (i x : Int32), ev 217 (15, L, .int x :: .int i :: .ref a :: st) σ = tv_r 0 (σ.1 a) i fun n f j => ev 217 (16, L, st) (ri_upd σ.1 a (.inl (0, n, upd f j x)), σ.2)) ∧
  (∀ (l0 l1 l3 l4 : Option Value) (st : List Value) (σ : ri_S) (x : Int32), ev 217 (16, [l0, l1, some (.int x), l3, l4], st) σ = ev 217 (19, [l0, ri_clr l1, some (.int (x + 1)), l3, l4], st) σ) ∧
  (∀ (L : ri_L) (st : List Value) (σ : ri_S), ev 217 (19, L, st) σ = ev 217 (2, L, st) σ) ∧
  (∀ (l1 l2 l3 l4 : Option Value) (st : List Value) (σ : ri_S) (x : Nat), ev 217 (22, [some (.ref x), l1, l2, l3, l4], st) σ = ev 217 (23, [some (.ref x), l1, l2, l3, l4], .ref x :: st) σ) ∧
  (∀ (L : ri_L) (st : List Value) (σ : ri_S) (a : Nat), ev 217 (23, L, .ref a :: st) σ = tv_o 9 3 (σ.1 a) fun v => ev 217 (26, L, v :: st) σ) ∧
  (∀ (L : ri_L) (st : List Value) (σ : ri_S), ev 217 (26, L, st) σ = ev 217 (27, L, .int 0 :: st) σ) ∧
  (∀ (l1 l2 l3 l4 : Option Value) (st : List Value) (σ : ri_S) (x : Nat), ev 217 (27, [some (.ref x), l1, l2, l3, l4], st) σ = ev 217 (28, [some (.ref x), l1, l2, l3, l4], .ref x :: st) σ) ∧
  (∀ (L : ri_L) (st : List Value) (σ : ri_S) (a : Nat), ev 217 (28, L, .ref a :: st) σ = tv_o 9 4 (σ.1 a) fun v => ev 217 (31, L, v :: st) σ) ∧
  (∀ (L : ri_L) (st : List Value) (σ : ri_S), ev 217 (31, L, st) σ = ev 217 (32, L, .int 0 :: st) σ) ∧
  (∀ (L : ri_L) (σ : ri_S) (a0 : Nat) (a1 : Int32) (a2 : Nat) (a3 : Int32), ev 217 (32, L, [.int a3, .ref a2, .int a1, .ref a0]) σ = (cal 147 [.ref a0, .int a1, .ref a2, .int a3] σ).bind fun q => ev 217 (35, L, q.1.toList ++ []) q.2) ∧
  (∀ (l1 l2 l3 l4 : Option Value) (st : List Value) (σ : ri_S) (x : Nat), ev 217 (35, [some (.ref x), l1, l2, l3, l4], st) σ = ev 217 (36, [some (.ref x), l1, l2, l3, l4], .ref x :: st) σ) ∧
  (∀ (L : ri_L) (st : List Value) (σ : ri_S) (a : Nat), ev 217 (36, L, .ref a :: st) σ = tv_o 9 4 (σ.1 a) fun v => ev 217 (39, L, v :: st) σ) ∧
  (∀ (L : ri_L) (st : List Value) (σ : ri_S), ev 217 (39, L, st) σ = ev 217 (41, L, .int 8 :: st) σ) ∧
  (∀ (L : ri_L) (st : List Value) (σ : ri_S), ev 217 (41, L, st) σ = ev 217 (42, L, .int 0 :: st) σ) ∧
  (∀ (L : ri_L) (st : List Value) (σ : ri_S) (a : Nat) (i x : Int32), ev 217 (42, L, .int x :: .int i :: .ref a :: st) σ = tv_r 0 (σ.1 a) i fun n f j => ev 217 (43, L, st) (ri_upd σ.1 a (.inl (0, n, upd f j x)), σ.2)) ∧
  (∀ (L : ri_L) (st : List Value) (σ : ri_S), ev 217 (43, L, st) σ = ev 217 (44, L, .int 1 :: st) σ) ∧
  (∀ (l0 l1 l2 l3 l4 : Option Value) (st : List Value) (σ : ri_S) (x : Int32), ev 217 (44, [l0, l1, l2, l3, l4], .int x :: st) σ = ev 217 (45, [l0, ri_clr l1, some (.int x), l3, l4], st) σ) ∧
  (∀ (l1 l2 l3 l4 : Option Value) (st : List Value) (σ : ri_S) (x : Nat), ev 217 (45, [some (.ref x), l1, l2, l3, l4], st) σ = ev 217 (46, [some (.ref x), l1, l2, l3, l4], .ref x :: st) σ) ∧
  (∀ (L : ri_L) (st : List Value) (σ : ri_S) (a : Nat), ev 217 (46, L, .ref a :: st) σ = tv_o 9 10 (σ.1 a) fun v => ev 217 (49, L, v :: st) σ) ∧
  (∀ (L : ri_L) (st : List Value) (σ : ri_S), ev 217 (49, L, st) σ = ev 217 (50, L, .int 0 :: st) σ) ∧
  (∀ (l1 l2 l3 l4 : Option Value) (st : List Value) (σ : ri_S) (x : Nat), ev 217 (50, [some (.ref x), l1, l2, l3, l4], st) σ = ev 217 (51, [some (.ref x), l1, l2, l3, l4], .ref x :: st) σ) ∧
  (∀ (l0 l2 l3 l4 : Option Value) (st : List Value) (σ : ri_S) (x : Int32), ev 217 (51, [l0, some (.int x), l2, l3, l4], st) σ = ev 217 (52, [l0, some (.int x), l2, l3, l4], .int x :: st) σ) ∧
  (∀ (L : ri_L) (σ : ri_S) (a0 : Nat) (a1 : Int32) (s0 s1 : Value), ev 217 (52, L, [.int a1, .ref a0, s0, s1]) σ = tv_k 9 (σ.1 a0) ((cal 214 [.ref a0, .int a1] σ).bind fun q => ev 217 (55, L, q.1.toList ++ [s0, s1]) q.2)) ∧
  (∀ (L : ri_L) (st : List Value) (σ : ri_S) (a : Nat) (i x : Int32), ev 217 (55, L, .int x :: .int i :: .ref a :: st) σ = tv_r 0 (σ.1 a) i fun n f j => ev 217 (56, L, st) (ri_upd σ.1 a (.inl (0, n, upd f j x)), σ.2)) ∧
  (∀ (l1 l2 l3 l4 : Option Value) (st : List Value) (σ : ri_S) (x : Nat), ev 217 (56, [some (.ref x), l1, l2, l3, l4], st) σ = ev 217 (57, [some (.ref x), l1, l2, l3, l4], .ref x :: st) σ) ∧
  (∀ (L : ri_L) (st : List Value) (σ : ri_S) (a : Nat), ev 217 (57, L, .ref a :: st) σ = tv_o 9 9 (σ.1 a) fun v => ev 217 (60, L, v :: st) σ) ∧
  (∀ (l1 l2 l3 l4 : Option Value) (st : List Value) (σ : ri_S) (x : Nat), ev 217 (60, [some (.ref x), l1, l2, l3, l4], st) σ = ev 217 (61, [some (.ref x), l1, l2, l3, l4], .ref x :: st) σ) ∧
  (∀ (L : ri_L) (st : List Value) (σ : ri_S) (a : Nat), ev 217 (61, L, .ref a :: st) σ = tv_o 9 10 (σ.1 a) fun v => ev 217 (64, L, v :: st) σ) ∧
  (∀ (L : ri_L) (st : List Value) (σ : ri_S), ev 217 (64, L, st) σ = ev 217 (65, L, .int 0 :: st) σ) ∧
  (∀ (L : ri_L) (st : List Value) (σ : ri_S) (a : Nat) (i : Int32), ev 217 (65, L, .int i :: .ref a :: st) σ = tv_r 0 (σ.1 a) i fun n f j => ev 217 (66, L, .int (f j) :: st) σ) ∧
  (∀ (L : ri_L) (st : List Value) (σ : ri_S), ev 217 (66, L, st) σ = ev 217 (67, L, .int 0 :: st) σ) ∧
  (∀ (L : ri_L) (st : List Value) (σ : ri_S) (a : Nat) (i x : Int32), ev 217 (67, L, .int x :: .int i :: .ref a :: st) σ = tv_r 0 (σ.1 a) i fun n f j => ev 217 (68, L, st) (ri_upd σ.1 a (.inl (0, n, upd f j x)), σ.2)) :=
  ⟨fun L st σ => ev_p ((TP_217 _).trans rfl) rfl,
   fun l0 l1 l2 l3 l4 st σ x => ev_p ((TP_217 _).trans rfl) rfl,
   fun L st σ => ev_p ((TP_217 _).trans rfl) rfl,
   fun L st σ x y => ev_b ((TP_217 _).trans rfl) rfl,
   fun l1 l2 l3 l4 st σ x => ev_p ((TP_217 _).trans rfl) rfl,
   fun L st σ a => ev_getf ((TP_217 _).trans rfl),
   fun l0 l1 l3 l4 st σ x => ev_p ((TP_217 _).trans rfl) rfl,
   fun L st σ => ev_p ((TP_217 _).trans rfl) rfl,
   fun L st σ a i x => ev_iast ((TP_217 _).trans rfl),
   fun l0 l1 l3 l4 st σ x => ev_p ((TP_217 _).trans rfl) rfl,
   fun L st σ => ev_p ((TP_217 _).trans rfl) rfl,
   fun l1 l2 l3 l4 st σ x => ev_p ((TP_217 _).trans rfl) rfl,
   fun L st σ a => ev_getf ((TP_217 _).trans rfl),
   fun L st σ => ev_p ((TP_217 _).trans rfl) rfl,
   fun l1 l2 l3 l4 st σ x => ev_p ((TP_217 _).trans rfl) rfl,
   fun L st σ a => ev_getf ((TP_217 _).trans rfl),
   fun L st σ => ev_p ((TP_217 _).trans rfl) rfl,
   fun L σ a0 a1 a2 a3 => ev_call ((TP_217 _).trans rfl) rfl rfl rfl rfl,
   fun l1 l2 l3 l4 st σ x => ev_p ((TP_217 _).trans rfl) rfl,
   fun L st σ a => ev_getf ((TP_217 _).trans rfl),
   fun L st σ => ev_p ((TP_217 _).trans rfl) rfl,
   fun L st σ => ev_p ((TP_217 _).trans rfl) rfl,
   fun L st σ a i x => ev_iast ((TP_217 _).trans rfl),
   fun L st σ => ev_p ((TP_217 _).trans rfl) rfl,
   fun l0 l1 l2 l3 l4 st σ x => ev_p ((TP_217 _).trans rfl) rfl,
   fun l1 l2 l3 l4 st σ x => ev_p ((TP_217 _).trans rfl) rfl,
   fun L st σ a => ev_getf ((TP_217 _).trans rfl),
   fun L st σ => ev_p ((TP_217 _).trans rfl) rfl,
   fun l1 l2 l3 l4 st σ x => ev_p ((TP_217 _).trans rfl) rfl,
   fun l0 l2 l3 l4 st σ x => ev_p ((TP_217 _).trans rfl) rfl,
   fun L σ a0 a1 s0 s1 => ev_callv ((TP_217 _).trans rfl) rfl rfl rfl rfl,
   fun L st σ a i x => ev_iast ((TP_217 _).trans rfl),
   fun l1 l2 l3 l4 st σ x => ev_p ((TP_217 _).trans rfl) rfl,
   fun L st σ a => ev_getf ((TP_217 _).trans rfl),
   fun l1 l2 l3 l4 st σ x => ev_p ((TP_217 _).trans rfl) rfl,
   fun L st σ a => ev_getf ((TP_217 _).trans rfl),
   fun L st σ => ev_p ((TP_217 _).trans rfl) rfl,
   fun L st σ a i => ev_iald ((TP_217 _).trans rfl),
   fun L st σ => ev_p ((TP_217 _).trans rfl) rfl,
   fun L st σ a i x => ev_iast ((TP_217 _).trans rfl)⟩
theorem I_217_1 :
  (∀ (L : ri_L) (st : List Value) (σ : ri_S), ev 217 (68, L, st) σ = ev 217 (69, L, .int 0 :: st) σ) ∧
  (∀ (l0 l1 l2 l3 l4 : Option Value) (st : List Value) (σ : ri_S) (x : Int32), ev 217 (69, [l0, l1, l2, l3, l4], .int x :: st) σ = ev 217 (70, [l0, l1, ri_clr l2, some (.int x), l4], st) σ) ∧
  (∀ (l0 l1 l3 l4 : Option Value) (st : List Value) (σ : ri_S) (x : Int32), ev 217 (71, [l0, l1, some (.int x), l3, l4], st) σ = ev 217 (72, [l0, l1, some (.int x), l3, l4], .int x :: st) σ) ∧
  (∀ (L : ri_L) (st : List Value) (σ : ri_S) (x y : Int32), ev 217 (72, L, .int y :: .int x :: st) σ = if y ≤ x then ev 217 (169, L, st) σ else ev 217 (75, L, st) σ) ∧
  (∀ (L : ri_L) (st : List Value) (σ : ri_S), ev 217 (75, L, st) σ = ev 217 (76, L, .int 0 :: st) σ) ∧
  (∀ (l0 l1 l2 l3 l4 : Option Value) (st : List Value) (σ : ri_S) (x : Int32), ev 217 (76, [l0, l1, l2, l3, l4], .int x :: st) σ = ev 217 (78, [l0, l1, l2, ri_clr l3, some (.int x)], st) σ) ∧
  (∀ (L : ri_L) (st : List Value) (σ : ri_S), ev 217 (80, L, st) σ = ev 217 (82, L, .int 10 :: st) σ) ∧
  (∀ (L : ri_L) (st : List Value) (σ : ri_S) (x y : Int32), ev 217 (82, L, .int y :: .int x :: st) σ = if y ≤ x then ev 217 (163, L, st) σ else ev 217 (85, L, st) σ) ∧
  (∀ (l1 l2 l3 l4 : Option Value) (st : List Value) (σ : ri_S) (x : Nat), ev 217 (85, [some (.ref x), l1, l2, l3, l4], st) σ = ev 217 (86, [some (.ref x), l1, l2, l3, l4], .ref x :: st) σ) ∧
  (∀ (l0 l2 l3 l4 : Option Value) (st : List Value) (σ : ri_S) (x : Int32), ev 217 (86, [l0, some (.int x), l2, l3, l4], st) σ = ev 217 (87, [l0, some (.int x), l2, l3, l4], .int x :: st) σ) ∧
  (∀ (l1 l2 l3 l4 : Option Value) (st : List Value) (σ : ri_S) (x : Nat), ev 217 (87, [some (.ref x), l1, l2, l3, l4], st) σ = ev 217 (88, [some (.ref x), l1, l2, l3, l4], .ref x :: st) σ) ∧
  (∀ (L : ri_L) (st : List Value) (σ : ri_S) (a : Nat), ev 217 (88, L, .ref a :: st) σ = tv_o 9 10 (σ.1 a) fun v => ev 217 (91, L, v :: st) σ) ∧
  (∀ (l0 l1 l2 l4 : Option Value) (st : List Value) (σ : ri_S) (x : Int32), ev 217 (91, [l0, l1, l2, some (.int x), l4], st) σ = ev 217 (92, [l0, l1, l2, some (.int x), l4], .int x :: st) σ) ∧
  (∀ (L : ri_L) (st : List Value) (σ : ri_S) (a : Nat) (i : Int32), ev 217 (92, L, .int i :: .ref a :: st) σ = tv_r 0 (σ.1 a) i fun n f j => ev 217 (93, L, .int (f j) :: st) σ) ∧
  (∀ (L : ri_L) (σ : ri_S) (a0 : Nat) (a1 : Int32) (a2 : Int32), ev 217 (93, L, [.int a2, .int a1, .ref a0]) σ = tv_k 9 (σ.1 a0) ((cal 215 [.ref a0, .int a1, .int a2] σ).bind fun q => ev 217 (96, L, q.1.toList ++ []) q.2)) ∧
  (∀ (l1 l2 l3 l4 : Option Value) (st : List Value) (σ : ri_S) (x : Nat), ev 217 (96, [some (.ref x), l1, l2, l3, l4], st) σ = ev 217 (97, [some (.ref x), l1, l2, l3, l4], .ref x :: st) σ) ∧
  (∀ (l0 l2 l3 l4 : Option Value) (st : List Value) (σ : ri_S) (x : Int32), ev 217 (97, [l0, some (.int x), l2, l3, l4], st) σ = ev 217 (98, [l0, some (.int x), l2, l3, l4], .int x :: st) σ) ∧
  (∀ (l0 l1 l2 l3 : Option Value) (st : List Value) (σ : ri_S) (x : Int32), ev 217 (98, [l0, l1, l2, l3, some (.int x)], st) σ = ev 217 (100, [l0, l1, l2, l3, some (.int x)], .int x :: st) σ) ∧
  (∀ (L : ri_L) (σ : ri_S) (a0 : Nat) (a1 : Int32) (a2 : Int32), ev 217 (100, L, [.int a2, .int a1, .ref a0]) σ = tv_k 9 (σ.1 a0) ((cal 216 [.ref a0, .int a1, .int a2] σ).bind fun q => ev 217 (103, L, q.1.toList ++ []) q.2)) ∧
  (∀ (L : ri_L) (st : List Value) (σ : ri_S) (x : Int32), ev 217 (103, L, .int x :: st) σ = if x = 0 then ev 217 (157, L, st) σ else ev 217 (106, L, st) σ) ∧
  (∀ (l1 l2 l3 l4 : Option Value) (st : List Value) (σ : ri_S) (x : Nat), ev 217 (106, [some (.ref x), l1, l2, l3, l4], st) σ = ev 217 (107, [some (.ref x), l1, l2, l3, l4], .ref x :: st) σ) ∧
  (∀ (L : ri_L) (st : List Value) (σ : ri_S) (a : Nat), ev 217 (107, L, .ref a :: st) σ = tv_o 9 9 (σ.1 a) fun v => ev 217 (110, L, v :: st) σ) ∧
  (∀ (l1 l2 l3 l4 : Option Value) (st : List Value) (σ : ri_S) (x : Nat), ev 217 (110, [some (.ref x), l1, l2, l3, l4], st) σ = ev 217 (111, [some (.ref x), l1, l2, l3, l4], .ref x :: st) σ) ∧
  (∀ (l0 l2 l3 l4 : Option Value) (st : List Value) (σ : ri_S) (x : Int32), ev 217 (111, [l0, some (.int x), l2, l3, l4], st) σ = ev 217 (112, [l0, some (.int x), l2, l3, l4], .int x :: st) σ) ∧
  (∀ (L : ri_L) (σ : ri_S) (a0 : Nat) (a1 : Int32) (s0 : Value), ev 217 (112, L, [.int a1, .ref a0, s0]) σ = tv_k 9 (σ.1 a0) ((cal 214 [.ref a0, .int a1] σ).bind fun q => ev 217 (115, L, q.1.toList ++ [s0]) q.2)) ∧
  (∀ (L : ri_L) (st : List Value) (σ : ri_S) (a : Nat) (i : Int32), ev 217 (115, L, .int i :: .ref a :: st) σ = tv_r 0 (σ.1 a) i fun n f j => ev 217 (116, L, .int (f j) :: st) σ) ∧
  (∀ (L : ri_L) (st : List Value) (σ : ri_S), ev 217 (116, L, st) σ = ev 217 (117, L, .int (-1) :: st) σ) ∧
  (∀ (L : ri_L) (st : List Value) (σ : ri_S) (x y : Int32), ev 217 (117, L, .int y :: .int x :: st) σ = if ¬ x = y then ev 217 (157, L, st) σ else ev 217 (120, L, st) σ) ∧
  (∀ (l1 l2 l3 l4 : Option Value) (st : List Value) (σ : ri_S) (x : Nat), ev 217 (120, [some (.ref x), l1, l2, l3, l4], st) σ = ev 217 (121, [some (.ref x), l1, l2, l3, l4], .ref x :: st) σ) ∧
  (∀ (L : ri_L) (st : List Value) (σ : ri_S) (a : Nat), ev 217 (121, L, .ref a :: st) σ = tv_o 9 9 (σ.1 a) fun v => ev 217 (124, L, v :: st) σ) ∧
  (∀ (l1 l2 l3 l4 : Option Value) (st : List Value) (σ : ri_S) (x : Nat), ev 217 (124, [some (.ref x), l1, l2, l3, l4], st) σ = ev 217 (125, [some (.ref x), l1, l2, l3, l4], .ref x :: st) σ) ∧
  (∀ (l0 l2 l3 l4 : Option Value) (st : List Value) (σ : ri_S) (x : Int32), ev 217 (125, [l0, some (.int x), l2, l3, l4], st) σ = ev 217 (126, [l0, some (.int x), l2, l3, l4], .int x :: st) σ) ∧
  (∀ (L : ri_L) (σ : ri_S) (a0 : Nat) (a1 : Int32) (s0 : Value), ev 217 (126, L, [.int a1, .ref a0, s0]) σ = tv_k 9 (σ.1 a0) ((cal 214 [.ref a0, .int a1] σ).bind fun q => ev 217 (129, L, q.1.toList ++ [s0]) q.2)) ∧
  (∀ (l1 l2 l3 l4 : Option Value) (st : List Value) (σ : ri_S) (x : Nat), ev 217 (129, [some (.ref x), l1, l2, l3, l4], st) σ = ev 217 (130, [some (.ref x), l1, l2, l3, l4], .ref x :: st) σ) ∧
  (∀ (L : ri_L) (st : List Value) (σ : ri_S) (a : Nat), ev 217 (130, L, .ref a :: st) σ = tv_o 9 9 (σ.1 a) fun v => ev 217 (133, L, v :: st) σ) ∧
  (∀ (l1 l2 l3 l4 : Option Value) (st : List Value) (σ : ri_S) (x : Nat), ev 217 (133, [some (.ref x), l1, l2, l3, l4], st) σ = ev 217 (134, [some (.ref x), l1, l2, l3, l4], .ref x :: st) σ) ∧
  (∀ (L : ri_L) (st : List Value) (σ : ri_S) (a : Nat), ev 217 (134, L, .ref a :: st) σ = tv_o 9 10 (σ.1 a) fun v => ev 217 (137, L, v :: st) σ) ∧
  (∀ (l0 l1 l2 l4 : Option Value) (st : List Value) (σ : ri_S) (x : Int32), ev 217 (137, [l0, l1, l2, some (.int x), l4], st) σ = ev 217 (138, [l0, l1, l2, some (.int x), l4], .int x :: st) σ) ∧
  (∀ (L : ri_L) (st : List Value) (σ : ri_S) (a : Nat) (i : Int32), ev 217 (138, L, .int i :: .ref a :: st) σ = tv_r 0 (σ.1 a) i fun n f j => ev 217 (139, L, .int (f j) :: st) σ) ∧
  (∀ (L : ri_L) (st : List Value) (σ : ri_S) (a : Nat) (i : Int32), ev 217 (139, L, .int i :: .ref a :: st) σ = tv_r 0 (σ.1 a) i fun n f j => ev 217 (140, L, .int (f j) :: st) σ) :=
  ⟨fun L st σ => ev_p ((TP_217 _).trans rfl) rfl,
   fun l0 l1 l2 l3 l4 st σ x => ev_p ((TP_217 _).trans rfl) rfl,
   fun l0 l1 l3 l4 st σ x => ev_p ((TP_217 _).trans rfl) rfl,
   fun L st σ x y => ev_b ((TP_217 _).trans rfl) rfl,
   fun L st σ => ev_p ((TP_217 _).trans rfl) rfl,
   fun l0 l1 l2 l3 l4 st σ x => ev_p ((TP_217 _).trans rfl) rfl,
   fun L st σ => ev_p ((TP_217 _).trans rfl) rfl,
   fun L st σ x y => ev_b ((TP_217 _).trans rfl) rfl,
   fun l1 l2 l3 l4 st σ x => ev_p ((TP_217 _).trans rfl) rfl,
   fun l0 l2 l3 l4 st σ x => ev_p ((TP_217 _).trans rfl) rfl,
   fun l1 l2 l3 l4 st σ x => ev_p ((TP_217 _).trans rfl) rfl,
   fun L st σ a => ev_getf ((TP_217 _).trans rfl),
   fun l0 l1 l2 l4 st σ x => ev_p ((TP_217 _).trans rfl) rfl,
   fun L st σ a i => ev_iald ((TP_217 _).trans rfl),
   fun L σ a0 a1 a2 => ev_callv ((TP_217 _).trans rfl) rfl rfl rfl rfl,
   fun l1 l2 l3 l4 st σ x => ev_p ((TP_217 _).trans rfl) rfl,
   fun l0 l2 l3 l4 st σ x => ev_p ((TP_217 _).trans rfl) rfl,
   fun l0 l1 l2 l3 st σ x => ev_p ((TP_217 _).trans rfl) rfl,
   fun L σ a0 a1 a2 => ev_callv ((TP_217 _).trans rfl) rfl rfl rfl rfl,
   fun L st σ x => ev_b ((TP_217 _).trans rfl) rfl,
   fun l1 l2 l3 l4 st σ x => ev_p ((TP_217 _).trans rfl) rfl,
   fun L st σ a => ev_getf ((TP_217 _).trans rfl),
   fun l1 l2 l3 l4 st σ x => ev_p ((TP_217 _).trans rfl) rfl,
   fun l0 l2 l3 l4 st σ x => ev_p ((TP_217 _).trans rfl) rfl,
   fun L σ a0 a1 s0 => ev_callv ((TP_217 _).trans rfl) rfl rfl rfl rfl,
   fun L st σ a i => ev_iald ((TP_217 _).trans rfl),
   fun L st σ => ev_p ((TP_217 _).trans rfl) rfl,
   fun L st σ x y => ev_b ((TP_217 _).trans rfl) rfl,
   fun l1 l2 l3 l4 st σ x => ev_p ((TP_217 _).trans rfl) rfl,
   fun L st σ a => ev_getf ((TP_217 _).trans rfl),
   fun l1 l2 l3 l4 st σ x => ev_p ((TP_217 _).trans rfl) rfl,
   fun l0 l2 l3 l4 st σ x => ev_p ((TP_217 _).trans rfl) rfl,
   fun L σ a0 a1 s0 => ev_callv ((TP_217 _).trans rfl) rfl rfl rfl rfl,
   fun l1 l2 l3 l4 st σ x => ev_p ((TP_217 _).trans rfl) rfl,
   fun L st σ a => ev_getf ((TP_217 _).trans rfl),
   fun l1 l2 l3 l4 st σ x => ev_p ((TP_217 _).trans rfl) rfl,
   fun L st σ a => ev_getf ((TP_217 _).trans rfl),
   fun l0 l1 l2 l4 st σ x => ev_p ((TP_217 _).trans rfl) rfl,
   fun L st σ a i => ev_iald ((TP_217 _).trans rfl),
   fun L st σ a i => ev_iald ((TP_217 _).trans rfl)⟩
theorem I_217_2 :
  (∀ (L : ri_L) (st : List Value) (σ : ri_S), ev 217 (140, L, st) σ = ev 217 (141, L, .int 1 :: st) σ) ∧
  (∀ (L : ri_L) (st : List Value) (σ : ri_S) (x y : Int32), ev 217 (141, L, .int y :: .int x :: st) σ = ev 217 (142, L, .int (x + y) :: st) σ) ∧
  (∀ (L : ri_L) (st : List Value) (σ : ri_S) (a : Nat) (i x : Int32), ev 217 (142, L, .int x :: .int i :: .ref a :: st) σ = tv_r 0 (σ.1 a) i fun n f j => ev 217 (143, L, st) (ri_upd σ.1 a (.inl (0, n, upd f j x)), σ.2)) ∧
  (∀ (l1 l2 l3 l4 : Option Value) (st : List Value) (σ : ri_S) (x : Nat), ev 217 (143, [some (.ref x), l1, l2, l3, l4], st) σ = ev 217 (144, [some (.ref x), l1, l2, l3, l4], .ref x :: st) σ) ∧
  (∀ (L : ri_L) (st : List Value) (σ : ri_S) (a : Nat), ev 217 (144, L, .ref a :: st) σ = tv_o 9 10 (σ.1 a) fun v => ev 217 (147, L, v :: st) σ) ∧
  (∀ (l0 l1 l3 l4 : Option Value) (st : List Value) (σ : ri_S) (x : Int32), ev 217 (147, [l0, l1, some (.int x), l3, l4], st) σ = ev 217 (148, [l0, l1, some (.int x), l3, l4], .int x :: st) σ) ∧
  (∀ (l1 l2 l3 l4 : Option Value) (st : List Value) (σ : ri_S) (x : Nat), ev 217 (148, [some (.ref x), l1, l2, l3, l4], st) σ = ev 217 (149, [some (.ref x), l1, l2, l3, l4], .ref x :: st) σ) ∧
  (∀ (l0 l2 l3 l4 : Option Value) (st : List Value) (σ : ri_S) (x : Int32), ev 217 (149, [l0, some (.int x), l2, l3, l4], st) σ = ev 217 (150, [l0, some (.int x), l2, l3, l4], .int x :: st) σ) ∧
  (∀ (L : ri_L) (σ : ri_S) (a0 : Nat) (a1 : Int32) (s0 s1 : Value), ev 217 (150, L, [.int a1, .ref a0, s0, s1]) σ = tv_k 9 (σ.1 a0) ((cal 214 [.ref a0, .int a1] σ).bind fun q => ev 217 (153, L, q.1.toList ++ [s0, s1]) q.2)) ∧
  (∀ (L : ri_L) (st : List Value) (σ : ri_S) (a : Nat) (i x : Int32), ev 217 (153, L, .int x :: .int i :: .ref a :: st) σ = tv_r 0 (σ.1 a) i fun n f j => ev 217 (154, L, st) (ri_upd σ.1 a (.inl (0, n, upd f j x)), σ.2)) ∧
  (∀ (l0 l1 l3 l4 : Option Value) (st : List Value) (σ : ri_S) (x : Int32), ev 217 (154, [l0, l1, some (.int x), l3, l4], st) σ = ev 217 (157, [l0, ri_clr l1, some (.int (x + 1)), l3, l4], st) σ) ∧
  (∀ (l0 l1 l2 l3 : Option Value) (st : List Value) (σ : ri_S) (x : Int32), ev 217 (157, [l0, l1, l2, l3, some (.int x)], st) σ = ev 217 (160, [l0, l1, l2, ri_clr l3, some (.int (x + 1))], st) σ) ∧
  (∀ (L : ri_L) (st : List Value) (σ : ri_S), ev 217 (160, L, st) σ = ev 217 (78, L, st) σ) ∧
  (∀ (l0 l1 l2 l4 : Option Value) (st : List Value) (σ : ri_S) (x : Int32), ev 217 (163, [l0, l1, l2, some (.int x), l4], st) σ = ev 217 (166, [l0, l1, ri_clr l2, some (.int (x + 1)), l4], st) σ) ∧
  (∀ (L : ri_L) (st : List Value) (σ : ri_S), ev 217 (166, L, st) σ = ev 217 (70, L, st) σ) ∧
  (∀ (l0 l1 l3 l4 : Option Value) (st : List Value) (σ : ri_S) (x : Int32), ev 217 (169, [l0, l1, some (.int x), l3, l4], st) σ = ev 217 (170, [l0, l1, some (.int x), l3, l4], .int x :: st) σ) ∧
  (∀ (L : ri_L) (σ : ri_S) (x : Int32), ev 217 (170, L, [.int x]) σ = some (some (.int x), σ)) :=
  ⟨fun L st σ => ev_p ((TP_217 _).trans rfl) rfl,
   fun L st σ x y => ev_p ((TP_217 _).trans rfl) rfl,
   fun L st σ a i x => ev_iast ((TP_217 _).trans rfl),
   fun l1 l2 l3 l4 st σ x => ev_p ((TP_217 _).trans rfl) rfl,
   fun L st σ a => ev_getf ((TP_217 _).trans rfl),
   fun l0 l1 l3 l4 st σ x => ev_p ((TP_217 _).trans rfl) rfl,
   fun l1 l2 l3 l4 st σ x => ev_p ((TP_217 _).trans rfl) rfl,
   fun l0 l2 l3 l4 st σ x => ev_p ((TP_217 _).trans rfl) rfl,
   fun L σ a0 a1 s0 s1 => ev_callv ((TP_217 _).trans rfl) rfl rfl rfl rfl,
   fun L st σ a i x => ev_iast ((TP_217 _).trans rfl),
   fun l0 l1 l3 l4 st σ x => ev_p ((TP_217 _).trans rfl) rfl,
   fun l0 l1 l2 l3 st σ x => ev_p ((TP_217 _).trans rfl) rfl,
   fun L st σ => ev_p ((TP_217 _).trans rfl) rfl,
   fun l0 l1 l2 l4 st σ x => ev_p ((TP_217 _).trans rfl) rfl,
   fun L st σ => ev_p ((TP_217 _).trans rfl) rfl,
   fun l0 l1 l3 l4 st σ x => ev_p ((TP_217 _).trans rfl) rfl,
   fun L σ x => ev_r ((TP_217 _).trans rfl) rfl⟩
theorem TP_218 (pc : Nat) : TT 218 pc = ri_find TL_218 pc := rfl
theorem E_218 (x0 : Nat) (x1 : Int32) (x2 : Int32) (x3 : Int32) (x4 : Int32) (σ : ri_S) : cal 218 [.ref x0, .int x1, .int x2, .int x3, .int x4] σ = ev 218 (0, [some (.ref x0), some (.int x1), some (.int x2), some (.int x3), some (.int x4), none], []) σ := rfl
theorem H_218_3 (l0 l1 l2 l3 l4 : Option Value) (st : List Value) (σ : ri_S) (x : Int32) : ev 218 (3, [l0, l1, l2, l3, l4, some (.int x)], st) σ = ev 218 (5, [l0, l1, l2, l3, l4, some (.int x)], .int x :: st) σ := ev_p ((TP_218 _).trans rfl) rfl
theorem I_218 :
  (∀ (L : ri_L) (st : List Value) (σ : ri_S), ev 218 (0, L, st) σ = ev 218 (1, L, .int 0 :: st) σ) ∧
  (∀ (l0 l1 l2 l3 l4 l5 : Option Value) (st : List Value) (σ : ri_S) (x : Int32), ev 218 (1, [l0, l1, l2, l3, l4, l5], .int x :: st) σ = ev 218 (3, [l0, l1, l2, l3, ri_clr l4, some (.int x)], st) σ) ∧
  (∀ (l0 l1 l3 l4 l5 : Option Value) (st : List Value) (σ : ri_S) (x : Int32), ev 218 (5, [l0, l1, some (.int x), l3, l4, l5], st) σ = ev 218 (6, [l0, l1, some (.int x), l3, l4, l5], .int x :: st) σ) ∧
  (∀ (L : ri_L) (st : List Value) (σ : ri_S) (x y : Int32), ev 218 (6, L, .int y :: .int x :: st) σ = if y ≤ x then ev 218 (66, L, st) σ else ev 218 (9, L, st) σ) ∧
  (∀ (l1 l2 l3 l4 l5 : Option Value) (st : List Value) (σ : ri_S) (x : Nat), ev 218 (9, [some (.ref x), l1, l2, l3, l4, l5], st) σ = ev 218 (10, [some (.ref x), l1, l2, l3, l4, l5], .ref x :: st) σ) ∧
  (∀ (l0 l2 l3 l4 l5 : Option Value) (st : List Value) (σ : ri_S) (x : Int32), ev 218 (10, [l0, some (.int x), l2, l3, l4, l5], st) σ = ev 218 (11, [l0, some (.int x), l2, l3, l4, l5], .int x :: st) σ) ∧
  (∀ (l1 l2 l3 l4 l5 : Option Value) (st : List Value) (σ : ri_S) (x : Nat), ev 218 (11, [some (.ref x), l1, l2, l3, l4, l5], st) σ = ev 218 (12, [some (.ref x), l1, l2, l3, l4, l5], .ref x :: st) σ) ∧
  (∀ (L : ri_L) (st : List Value) (σ : ri_S) (a : Nat), ev 218 (12, L, .ref a :: st) σ = tv_o 9 10 (σ.1 a) fun v => ev 218 (15, L, v :: st) σ) ∧
  (∀ (l0 l1 l2 l3 l4 : Option Value) (st : List Value) (σ : ri_S) (x : Int32), ev 218 (15, [l0, l1, l2, l3, l4, some (.int x)], st) σ = ev 218 (17, [l0, l1, l2, l3, l4, some (.int x)], .int x :: st) σ) ∧
  (∀ (L : ri_L) (st : List Value) (σ : ri_S) (a : Nat) (i : Int32), ev 218 (17, L, .int i :: .ref a :: st) σ = tv_r 0 (σ.1 a) i fun n f j => ev 218 (18, L, .int (f j) :: st) σ) ∧
  (∀ (L : ri_L) (σ : ri_S) (a0 : Nat) (a1 : Int32) (a2 : Int32), ev 218 (18, L, [.int a2, .int a1, .ref a0]) σ = tv_k 9 (σ.1 a0) ((cal 215 [.ref a0, .int a1, .int a2] σ).bind fun q => ev 218 (21, L, q.1.toList ++ []) q.2)) ∧
  (∀ (l1 l2 l3 l4 l5 : Option Value) (st : List Value) (σ : ri_S) (x : Nat), ev 218 (21, [some (.ref x), l1, l2, l3, l4, l5], st) σ = ev 218 (22, [some (.ref x), l1, l2, l3, l4, l5], .ref x :: st) σ) ∧
  (∀ (L : ri_L) (st : List Value) (σ : ri_S) (a : Nat), ev 218 (22, L, .ref a :: st) σ = tv_o 9 4 (σ.1 a) fun v => ev 218 (25, L, v :: st) σ) ∧
  (∀ (l0 l2 l3 l4 l5 : Option Value) (st : List Value) (σ : ri_S) (x : Int32), ev 218 (25, [l0, some (.int x), l2, l3, l4, l5], st) σ = ev 218 (26, [l0, some (.int x), l2, l3, l4, l5], .int x :: st) σ) ∧
  (∀ (L : ri_L) (st : List Value) (σ : ri_S), ev 218 (26, L, st) σ = ev 218 (27, L, .int 1 :: st) σ) ∧
  (∀ (L : ri_L) (σ : ri_S) (a0 : Nat) (a1 : Int32) (a2 : Int32), ev 218 (27, L, [.int a2, .int a1, .ref a0]) σ = (cal 150 [.ref a0, .int a1, .int a2] σ).bind fun q => ev 218 (30, L, q.1.toList ++ []) q.2) ∧
  (∀ (l0 l1 l2 l4 l5 : Option Value) (st : List Value) (σ : ri_S) (x : Int32), ev 218 (30, [l0, l1, l2, some (.int x), l4, l5], st) σ = ev 218 (31, [l0, l1, l2, some (.int x), l4, l5], .int x :: st) σ) ∧
  (∀ (L : ri_L) (st : List Value) (σ : ri_S) (x y : Int32), ev 218 (31, L, .int y :: .int x :: st) σ = if ¬ x = y then ev 218 (60, L, st) σ else ev 218 (34, L, st) σ) ∧
  (∀ (l1 l2 l3 l4 l5 : Option Value) (st : List Value) (σ : ri_S) (x : Nat), ev 218 (34, [some (.ref x), l1, l2, l3, l4, l5], st) σ = ev 218 (35, [some (.ref x), l1, l2, l3, l4, l5], .ref x :: st) σ) ∧
  (∀ (L : ri_L) (st : List Value) (σ : ri_S) (a : Nat), ev 218 (35, L, .ref a :: st) σ = tv_o 9 4 (σ.1 a) fun v => ev 218 (38, L, v :: st) σ) ∧
  (∀ (l0 l2 l3 l4 l5 : Option Value) (st : List Value) (σ : ri_S) (x : Int32), ev 218 (38, [l0, some (.int x), l2, l3, l4, l5], st) σ = ev 218 (39, [l0, some (.int x), l2, l3, l4, l5], .int x :: st) σ) ∧
  (∀ (L : ri_L) (σ : ri_S) (a0 : Nat) (a1 : Int32), ev 218 (39, L, [.int a1, .ref a0]) σ = (cal 158 [.ref a0, .int a1] σ).bind fun q => ev 218 (42, L, q.1.toList ++ []) q.2) ∧
  (∀ (l0 l1 l2 l3 l5 : Option Value) (st : List Value) (σ : ri_S) (x : Int32), ev 218 (42, [l0, l1, l2, l3, some (.int x), l5], st) σ = ev 218 (44, [l0, l1, l2, l3, some (.int x), l5], .int x :: st) σ) ∧
  (∀ (L : ri_L) (st : List Value) (σ : ri_S) (x y : Int32), ev 218 (44, L, .int y :: .int x :: st) σ = if ¬ x = y then ev 218 (60, L, st) σ else ev 218 (47, L, st) σ) ∧
  (∀ (l1 l2 l3 l4 l5 : Option Value) (st : List Value) (σ : ri_S) (x : Nat), ev 218 (47, [some (.ref x), l1, l2, l3, l4, l5], st) σ = ev 218 (48, [some (.ref x), l1, l2, l3, l4, l5], .ref x :: st) σ) ∧
  (∀ (L : ri_L) (st : List Value) (σ : ri_S) (a : Nat), ev 218 (48, L, .ref a :: st) σ = tv_o 9 9 (σ.1 a) fun v => ev 218 (51, L, v :: st) σ) ∧
  (∀ (l1 l2 l3 l4 l5 : Option Value) (st : List Value) (σ : ri_S) (x : Nat), ev 218 (51, [some (.ref x), l1, l2, l3, l4, l5], st) σ = ev 218 (52, [some (.ref x), l1, l2, l3, l4, l5], .ref x :: st) σ) ∧
  (∀ (L : ri_L) (st : List Value) (σ : ri_S) (a : Nat), ev 218 (52, L, .ref a :: st) σ = tv_o 9 10 (σ.1 a) fun v => ev 218 (55, L, v :: st) σ) ∧
  (∀ (l0 l1 l2 l3 l4 : Option Value) (st : List Value) (σ : ri_S) (x : Int32), ev 218 (55, [l0, l1, l2, l3, l4, some (.int x)], st) σ = ev 218 (57, [l0, l1, l2, l3, l4, some (.int x)], .int x :: st) σ) ∧
  (∀ (L : ri_L) (st : List Value) (σ : ri_S) (a : Nat) (i : Int32), ev 218 (57, L, .int i :: .ref a :: st) σ = tv_r 0 (σ.1 a) i fun n f j => ev 218 (58, L, .int (f j) :: st) σ) ∧
  (∀ (L : ri_L) (st : List Value) (σ : ri_S) (a : Nat) (i : Int32), ev 218 (58, L, .int i :: .ref a :: st) σ = tv_r 0 (σ.1 a) i fun n f j => ev 218 (59, L, .int (f j) :: st) σ) ∧
  (∀ (L : ri_L) (σ : ri_S) (x : Int32), ev 218 (59, L, [.int x]) σ = some (some (.int x), σ)) ∧
  (∀ (l0 l1 l2 l3 l4 : Option Value) (st : List Value) (σ : ri_S) (x : Int32), ev 218 (60, [l0, l1, l2, l3, l4, some (.int x)], st) σ = ev 218 (63, [l0, l1, l2, l3, ri_clr l4, some (.int (x + 1))], st) σ) ∧
  (∀ (L : ri_L) (st : List Value) (σ : ri_S), ev 218 (63, L, st) σ = ev 218 (3, L, st) σ) ∧
  (∀ (L : ri_L) (st : List Value) (σ : ri_S), ev 218 (66, L, st) σ = ev 218 (67, L, .int (-1) :: st) σ) ∧
  (∀ (L : ri_L) (σ : ri_S) (x : Int32), ev 218 (67, L, [.int x]) σ = some (some (.int x), σ)) :=
  ⟨fun L st σ => ev_p ((TP_218 _).trans rfl) rfl,
   fun l0 l1 l2 l3 l4 l5 st σ x => ev_p ((TP_218 _).trans rfl) rfl,
   fun l0 l1 l3 l4 l5 st σ x => ev_p ((TP_218 _).trans rfl) rfl,
   fun L st σ x y => ev_b ((TP_218 _).trans rfl) rfl,
   fun l1 l2 l3 l4 l5 st σ x => ev_p ((TP_218 _).trans rfl) rfl,
   fun l0 l2 l3 l4 l5 st σ x => ev_p ((TP_218 _).trans rfl) rfl,
   fun l1 l2 l3 l4 l5 st σ x => ev_p ((TP_218 _).trans rfl) rfl,
   fun L st σ a => ev_getf ((TP_218 _).trans rfl),
   fun l0 l1 l2 l3 l4 st σ x => ev_p ((TP_218 _).trans rfl) rfl,
   fun L st σ a i => ev_iald ((TP_218 _).trans rfl),
   fun L σ a0 a1 a2 => ev_callv ((TP_218 _).trans rfl) rfl rfl rfl rfl,
   fun l1 l2 l3 l4 l5 st σ x => ev_p ((TP_218 _).trans rfl) rfl,
   fun L st σ a => ev_getf ((TP_218 _).trans rfl),
   fun l0 l2 l3 l4 l5 st σ x => ev_p ((TP_218 _).trans rfl) rfl,
   fun L st σ => ev_p ((TP_218 _).trans rfl) rfl,
   fun L σ a0 a1 a2 => ev_call ((TP_218 _).trans rfl) rfl rfl rfl rfl,
   fun l0 l1 l2 l4 l5 st σ x => ev_p ((TP_218 _).trans rfl) rfl,
   fun L st σ x y => ev_b ((TP_218 _).trans rfl) rfl,
   fun l1 l2 l3 l4 l5 st σ x => ev_p ((TP_218 _).trans rfl) rfl,
   fun L st σ a => ev_getf ((TP_218 _).trans rfl),
   fun l0 l2 l3 l4 l5 st σ x => ev_p ((TP_218 _).trans rfl) rfl,
   fun L σ a0 a1 => ev_call ((TP_218 _).trans rfl) rfl rfl rfl rfl,
   fun l0 l1 l2 l3 l5 st σ x => ev_p ((TP_218 _).trans rfl) rfl,
   fun L st σ x y => ev_b ((TP_218 _).trans rfl) rfl,
   fun l1 l2 l3 l4 l5 st σ x => ev_p ((TP_218 _).trans rfl) rfl,
   fun L st σ a => ev_getf ((TP_218 _).trans rfl),
   fun l1 l2 l3 l4 l5 st σ x => ev_p ((TP_218 _).trans rfl) rfl,
   fun L st σ a => ev_getf ((TP_218 _).trans rfl),
   fun l0 l1 l2 l3 l4 st σ x => ev_p ((TP_218 _).trans rfl) rfl,
   fun L st σ a i => ev_iald ((TP_218 _).trans rfl),
   fun L st σ a i => ev_iald ((TP_218 _).trans rfl),
   fun L σ x => ev_r ((TP_218 _).trans rfl) rfl,
   fun l0 l1 l2 l3 l4 st σ x => ev_p ((TP_218 _).trans rfl) rfl,
   fun L st σ => ev_p ((TP_218 _).trans rfl) rfl,
   fun L st σ => ev_p ((TP_218 _).trans rfl) rfl,
   fun L σ x => ev_r ((TP_218 _).trans rfl) rfl⟩
theorem TP_219 (pc : Nat) : TT 219 pc = ri_find TL_219 pc := rfl
theorem E_219 (x0 : Nat) (x1 : Int32) (x2 : Int32) (x3 : Int32) (x4 : Int32) (σ : ri_S) : cal 219 [.ref x0, .int x1, .int x2, .int x3, .int x4] σ = ev 219 (0, [some (.ref x0), some (.int x1), some (.int x2), some (.int x3), some (.int x4)], []) σ := rfl
theorem I_219 :
  (∀ (l1 l2 l3 l4 : Option Value) (st : List Value) (σ : ri_S) (x : Nat), ev 219 (0, [some (.ref x), l1, l2, l3, l4], st) σ = ev 219 (1, [some (.ref x), l1, l2, l3, l4], .ref x :: st) σ) ∧
  (∀ (l1 l2 l3 l4 : Option Value) (st : List Value) (σ : ri_S) (x : Nat), ev 219 (1, [some (.ref x), l1, l2, l3, l4], st) σ = ev 219 (2, [some (.ref x), l1, l2, l3, l4], .ref x :: st) σ) ∧
  (∀ (L : ri_L) (st : List Value) (σ : ri_S) (a : Nat), ev 219 (2, L, .ref a :: st) σ = tv_o 9 3 (σ.1 a) fun v => ev 219 (5, L, v :: st) σ) ∧
  (∀ (l0 l2 l3 l4 : Option Value) (st : List Value) (σ : ri_S) (x : Int32), ev 219 (5, [l0, some (.int x), l2, l3, l4], st) σ = ev 219 (6, [l0, some (.int x), l2, l3, l4], .int x :: st) σ) ∧
  (∀ (L : ri_L) (σ : ri_S) (a0 : Nat) (a1 : Int32) (s0 : Value), ev 219 (6, L, [.int a1, .ref a0, s0]) σ = (cal 154 [.ref a0, .int a1] σ).bind fun q => ev 219 (9, L, q.1.toList ++ [s0]) q.2) ∧
  (∀ (L : ri_L) (st : List Value) (σ : ri_S) (x : Int32), ev 219 (9, L, .int x :: st) σ = if x = 0 then ev 219 (24, L, st) σ else ev 219 (12, L, st) σ) ∧
  (∀ (l1 l2 l3 l4 : Option Value) (st : List Value) (σ : ri_S) (x : Nat), ev 219 (12, [some (.ref x), l1, l2, l3, l4], st) σ = ev 219 (13, [some (.ref x), l1, l2, l3, l4], .ref x :: st) σ) ∧
  (∀ (L : ri_L) (st : List Value) (σ : ri_S) (a : Nat), ev 219 (13, L, .ref a :: st) σ = tv_o 9 3 (σ.1 a) fun v => ev 219 (16, L, v :: st) σ) ∧
  (∀ (l0 l1 l3 l4 : Option Value) (st : List Value) (σ : ri_S) (x : Int32), ev 219 (16, [l0, l1, some (.int x), l3, l4], st) σ = ev 219 (17, [l0, l1, some (.int x), l3, l4], .int x :: st) σ) ∧
  (∀ (l0 l1 l2 l4 : Option Value) (st : List Value) (σ : ri_S) (x : Int32), ev 219 (17, [l0, l1, l2, some (.int x), l4], st) σ = ev 219 (18, [l0, l1, l2, some (.int x), l4], .int x :: st) σ) ∧
  (∀ (L : ri_L) (σ : ri_S) (a0 : Nat) (a1 : Int32) (a2 : Int32) (s0 : Value), ev 219 (18, L, [.int a2, .int a1, .ref a0, s0]) σ = (cal 153 [.ref a0, .int a1, .int a2] σ).bind fun q => ev 219 (21, L, q.1.toList ++ [s0]) q.2) ∧
  (∀ (L : ri_L) (st : List Value) (σ : ri_S) (x : Int32), ev 219 (21, L, .int x :: st) σ = if ¬ x = 0 then ev 219 (28, L, st) σ else ev 219 (24, L, st) σ) ∧
  (∀ (L : ri_L) (st : List Value) (σ : ri_S), ev 219 (24, L, st) σ = ev 219 (25, L, .int 1 :: st) σ) ∧
  (∀ (L : ri_L) (st : List Value) (σ : ri_S), ev 219 (25, L, st) σ = ev 219 (44, L, st) σ) ∧
  (∀ (l0 l1 l2 l3 : Option Value) (st : List Value) (σ : ri_S) (x : Int32), ev 219 (28, [l0, l1, l2, l3, some (.int x)], st) σ = ev 219 (30, [l0, l1, l2, l3, some (.int x)], .int x :: st) σ) ∧
  (∀ (L : ri_L) (st : List Value) (σ : ri_S) (x : Int32), ev 219 (30, L, .int x :: st) σ = ev 219 (31, L, .long x.toInt64 :: st) σ) ∧
  (∀ (L : ri_L) (st : List Value) (σ : ri_S), ev 219 (31, L, st) σ = ev 219 (32, L, .long 0 :: st) σ) ∧
  (∀ (L : ri_L) (st : List Value) (σ : ri_S), ev 219 (32, L, st) σ = ev 219 (33, L, .long 1 :: st) σ) ∧
  (∀ (L : ri_L) (σ : ri_S) (a0 : Int64) (a1 : Int64) (a2 : Int64) (s0 : Value), ev 219 (33, L, [.long a2, .long a1, .long a0, s0]) σ = (cal 146 [.long a0, .long a1, .long a2] σ).bind fun q => ev 219 (36, L, q.1.toList ++ [s0]) q.2) ∧
  (∀ (L : ri_L) (st : List Value) (σ : ri_S) (x : Int32), ev 219 (36, L, .int x :: st) σ = if x = 0 then ev 219 (43, L, st) σ else ev 219 (39, L, st) σ) ∧
  (∀ (L : ri_L) (st : List Value) (σ : ri_S), ev 219 (39, L, st) σ = ev 219 (40, L, .int 0 :: st) σ) ∧
  (∀ (L : ri_L) (st : List Value) (σ : ri_S), ev 219 (40, L, st) σ = ev 219 (44, L, st) σ) ∧
  (∀ (L : ri_L) (st : List Value) (σ : ri_S), ev 219 (43, L, st) σ = ev 219 (44, L, .int 2 :: st) σ) ∧
  (∀ (L : ri_L) (σ : ri_S) (a0 : Nat) (a1 : Int32), ev 219 (44, L, [.int a1, .ref a0]) σ = tv_k 9 (σ.1 a0) ((cal 145 [.ref a0, .int a1] σ).bind fun q => ev 219 (47, L, q.1.toList ++ []) q.2)) ∧
  (∀ (L : ri_L) (st : List Value) (σ : ri_S) (x : Int32), ev 219 (47, L, .int x :: st) σ = if x = 0 then ev 219 (52, L, st) σ else ev 219 (50, L, st) σ) ∧
  (∀ (L : ri_L) (st : List Value) (σ : ri_S), ev 219 (50, L, st) σ = ev 219 (51, L, .int 0 :: st) σ) ∧
  (∀ (L : ri_L) (σ : ri_S) (x : Int32), ev 219 (51, L, [.int x]) σ = some (some (.int x), σ)) ∧
  (∀ (l1 l2 l3 l4 : Option Value) (st : List Value) (σ : ri_S) (x : Nat), ev 219 (52, [some (.ref x), l1, l2, l3, l4], st) σ = ev 219 (53, [some (.ref x), l1, l2, l3, l4], .ref x :: st) σ) ∧
  (∀ (l0 l2 l3 l4 : Option Value) (st : List Value) (σ : ri_S) (x : Int32), ev 219 (53, [l0, some (.int x), l2, l3, l4], st) σ = ev 219 (54, [l0, some (.int x), l2, l3, l4], .int x :: st) σ) ∧
  (∀ (l1 l2 l3 l4 : Option Value) (st : List Value) (σ : ri_S) (x : Nat), ev 219 (54, [some (.ref x), l1, l2, l3, l4], st) σ = ev 219 (55, [some (.ref x), l1, l2, l3, l4], .ref x :: st) σ) ∧
  (∀ (l0 l2 l3 l4 : Option Value) (st : List Value) (σ : ri_S) (x : Int32), ev 219 (55, [l0, some (.int x), l2, l3, l4], st) σ = ev 219 (56, [l0, some (.int x), l2, l3, l4], .int x :: st) σ) ∧
  (∀ (L : ri_L) (σ : ri_S) (a0 : Nat) (a1 : Int32) (s0 s1 : Value), ev 219 (56, L, [.int a1, .ref a0, s0, s1]) σ = tv_k 9 (σ.1 a0) ((cal 217 [.ref a0, .int a1] σ).bind fun q => ev 219 (59, L, q.1.toList ++ [s0, s1]) q.2)) ∧
  (∀ (l0 l1 l3 l4 : Option Value) (st : List Value) (σ : ri_S) (x : Int32), ev 219 (59, [l0, l1, some (.int x), l3, l4], st) σ = ev 219 (60, [l0, l1, some (.int x), l3, l4], .int x :: st) σ) ∧
  (∀ (l0 l1 l2 l4 : Option Value) (st : List Value) (σ : ri_S) (x : Int32), ev 219 (60, [l0, l1, l2, some (.int x), l4], st) σ = ev 219 (61, [l0, l1, l2, some (.int x), l4], .int x :: st) σ) ∧
  (∀ (L : ri_L) (σ : ri_S) (a0 : Nat) (a1 : Int32) (a2 : Int32) (a3 : Int32) (a4 : Int32), ev 219 (61, L, [.int a4, .int a3, .int a2, .int a1, .ref a0]) σ = tv_k 9 (σ.1 a0) ((cal 218 [.ref a0, .int a1, .int a2, .int a3, .int a4] σ).bind fun q => ev 219 (64, L, q.1.toList ++ []) q.2)) ∧
  (∀ (L : ri_L) (σ : ri_S) (x : Int32), ev 219 (64, L, [.int x]) σ = some (some (.int x), σ)) :=
  ⟨fun l1 l2 l3 l4 st σ x => ev_p ((TP_219 _).trans rfl) rfl,
   fun l1 l2 l3 l4 st σ x => ev_p ((TP_219 _).trans rfl) rfl,
   fun L st σ a => ev_getf ((TP_219 _).trans rfl),
   fun l0 l2 l3 l4 st σ x => ev_p ((TP_219 _).trans rfl) rfl,
   fun L σ a0 a1 s0 => ev_call ((TP_219 _).trans rfl) rfl rfl rfl rfl,
   fun L st σ x => ev_b ((TP_219 _).trans rfl) rfl,
   fun l1 l2 l3 l4 st σ x => ev_p ((TP_219 _).trans rfl) rfl,
   fun L st σ a => ev_getf ((TP_219 _).trans rfl),
   fun l0 l1 l3 l4 st σ x => ev_p ((TP_219 _).trans rfl) rfl,
   fun l0 l1 l2 l4 st σ x => ev_p ((TP_219 _).trans rfl) rfl,
   fun L σ a0 a1 a2 s0 => ev_call ((TP_219 _).trans rfl) rfl rfl rfl rfl,
   fun L st σ x => ev_b ((TP_219 _).trans rfl) rfl,
   fun L st σ => ev_p ((TP_219 _).trans rfl) rfl,
   fun L st σ => ev_p ((TP_219 _).trans rfl) rfl,
   fun l0 l1 l2 l3 st σ x => ev_p ((TP_219 _).trans rfl) rfl,
   fun L st σ x => ev_p ((TP_219 _).trans rfl) rfl,
   fun L st σ => ev_p ((TP_219 _).trans rfl) rfl,
   fun L st σ => ev_p ((TP_219 _).trans rfl) rfl,
   fun L σ a0 a1 a2 s0 => ev_call ((TP_219 _).trans rfl) rfl rfl rfl rfl,
   fun L st σ x => ev_b ((TP_219 _).trans rfl) rfl,
   fun L st σ => ev_p ((TP_219 _).trans rfl) rfl,
   fun L st σ => ev_p ((TP_219 _).trans rfl) rfl,
   fun L st σ => ev_p ((TP_219 _).trans rfl) rfl,
   fun L σ a0 a1 => ev_callv ((TP_219 _).trans rfl) rfl rfl rfl rfl,
   fun L st σ x => ev_b ((TP_219 _).trans rfl) rfl,
   fun L st σ => ev_p ((TP_219 _).trans rfl) rfl,
   fun L σ x => ev_r ((TP_219 _).trans rfl) rfl,
   fun l1 l2 l3 l4 st σ x => ev_p ((TP_219 _).trans rfl) rfl,
   fun l0 l2 l3 l4 st σ x => ev_p ((TP_219 _).trans rfl) rfl,
   fun l1 l2 l3 l4 st σ x => ev_p ((TP_219 _).trans rfl) rfl,
   fun l0 l2 l3 l4 st σ x => ev_p ((TP_219 _).trans rfl) rfl,
   fun L σ a0 a1 s0 s1 => ev_callv ((TP_219 _).trans rfl) rfl rfl rfl rfl,
   fun l0 l1 l3 l4 st σ x => ev_p ((TP_219 _).trans rfl) rfl,
   fun l0 l1 l2 l4 st σ x => ev_p ((TP_219 _).trans rfl) rfl,
   fun L σ a0 a1 a2 a3 a4 => ev_callv ((TP_219 _).trans rfl) rfl rfl rfl rfl,
   fun L σ x => ev_r ((TP_219 _).trans rfl) rfl⟩
theorem TP_220 (pc : Nat) : TT 220 pc = ri_find TL_220 pc := rfl
theorem E_220 (x0 : Nat) (x1 : Int32) (x2 : Int32) (σ : ri_S) : cal 220 [.ref x0, .int x1, .int x2] σ = ev 220 (0, [some (.ref x0), some (.int x1), some (.int x2), none, none, none], []) σ := rfl
theorem H_220_48 (l0 l1 l2 l3 l4 : Option Value) (st : List Value) (σ : ri_S) (x : Int32) : ev 220 (48, [l0, l1, l2, l3, l4, some (.int x)], st) σ = ev 220 (50, [l0, l1, l2, l3, l4, some (.int x)], .int x :: st) σ := ev_p ((TP_220 _).trans rfl) rfl
theorem I_220_0 :
  (∀ (l1 l2 l3 l4 l5 : Option Value) (st : List Value) (σ : ri_S) (x : Nat), ev 220 (0, [some (.ref x), l1, l2, l3, l4, l5], st) σ = ev 220 (1, [some (.ref x), l1, l2, l3, l4, l5], .ref x :: st) σ) ∧
  (∀ (l1 l2 l3 l4 l5 : Option Value) (st : List Value) (σ : ri_S) (x : Nat), ev 220 (1, [some (.ref x), l1, l2, l3, l4, l5], st) σ = ev 220 (2, [some (.ref x), l1, l2, l3, l4, l5], .ref x :: st) σ) ∧
  (∀ (L : ri_L) (st : List Value) (σ : ri_S) (a : Nat), ev 220 (2, L, .ref a :: st) σ = tv_o 9 3 (σ.1 a) fun v => ev 220 (5, L, v :: st) σ) ∧
  (∀ (l0 l2 l3 l4 l5 : Option Value) (st : List Value) (σ : ri_S) (x : Int32), ev 220 (5, [l0, some (.int x), l2, l3, l4, l5], st) σ = ev 220 (6, [l0, some (.int x), l2, l3, l4, l5], .int x :: st) σ) ∧
  (∀ (L : ri_L) (σ : ri_S) (a0 : Nat) (a1 : Int32) (s0 : Value), ev 220 (6, L, [.int a1, .ref a0, s0]) σ = (cal 154 [.ref a0, .int a1] σ).bind fun q => ev 220 (9, L, q.1.toList ++ [s0]) q.2) ∧
  (∀ (L : ri_L) (st : List Value) (σ : ri_S) (x : Int32), ev 220 (9, L, .int x :: st) σ = if x = 0 then ev 220 (27, L, st) σ else ev 220 (12, L, st) σ) ∧
  (∀ (l1 l2 l3 l4 l5 : Option Value) (st : List Value) (σ : ri_S) (x : Nat), ev 220 (12, [some (.ref x), l1, l2, l3, l4, l5], st) σ = ev 220 (13, [some (.ref x), l1, l2, l3, l4, l5], .ref x :: st) σ) ∧
  (∀ (L : ri_L) (st : List Value) (σ : ri_S) (a : Nat), ev 220 (13, L, .ref a :: st) σ = tv_o 9 3 (σ.1 a) fun v => ev 220 (16, L, v :: st) σ) ∧
  (∀ (l0 l1 l3 l4 l5 : Option Value) (st : List Value) (σ : ri_S) (x : Int32), ev 220 (16, [l0, l1, some (.int x), l3, l4, l5], st) σ = ev 220 (17, [l0, l1, some (.int x), l3, l4, l5], .int x :: st) σ) ∧
  (∀ (L : ri_L) (σ : ri_S) (a0 : Nat) (a1 : Int32) (s0 : Value), ev 220 (17, L, [.int a1, .ref a0, s0]) σ = (cal 152 [.ref a0, .int a1] σ).bind fun q => ev 220 (20, L, q.1.toList ++ [s0]) q.2) ∧
  (∀ (L : ri_L) (st : List Value) (σ : ri_S) (x : Int32), ev 220 (20, L, .int x :: st) σ = if x = 0 then ev 220 (27, L, st) σ else ev 220 (23, L, st) σ) ∧
  (∀ (L : ri_L) (st : List Value) (σ : ri_S), ev 220 (23, L, st) σ = ev 220 (24, L, .int 0 :: st) σ) ∧
  (∀ (L : ri_L) (st : List Value) (σ : ri_S), ev 220 (24, L, st) σ = ev 220 (28, L, st) σ) ∧
  (∀ (L : ri_L) (st : List Value) (σ : ri_S), ev 220 (27, L, st) σ = ev 220 (28, L, .int 1 :: st) σ) ∧
  (∀ (L : ri_L) (σ : ri_S) (a0 : Nat) (a1 : Int32), ev 220 (28, L, [.int a1, .ref a0]) σ = tv_k 9 (σ.1 a0) ((cal 145 [.ref a0, .int a1] σ).bind fun q => ev 220 (31, L, q.1.toList ++ []) q.2)) ∧
  (∀ (L : ri_L) (st : List Value) (σ : ri_S) (x : Int32), ev 220 (31, L, .int x :: st) σ = if x = 0 then ev 220 (36, L, st) σ else ev 220 (34, L, st) σ) ∧
  (∀ (L : ri_L) (st : List Value) (σ : ri_S), ev 220 (34, L, st) σ = ev 220 (35, L, .int 0 :: st) σ) ∧
  (∀ (L : ri_L) (σ : ri_S) (x : Int32), ev 220 (35, L, [.int x]) σ = some (some (.int x), σ)) ∧
  (∀ (l1 l2 l3 l4 l5 : Option Value) (st : List Value) (σ : ri_S) (x : Nat), ev 220 (36, [some (.ref x), l1, l2, l3, l4, l5], st) σ = ev 220 (37, [some (.ref x), l1, l2, l3, l4, l5], .ref x :: st) σ) ∧
  (∀ (l0 l2 l3 l4 l5 : Option Value) (st : List Value) (σ : ri_S) (x : Int32), ev 220 (37, [l0, some (.int x), l2, l3, l4, l5], st) σ = ev 220 (38, [l0, some (.int x), l2, l3, l4, l5], .int x :: st) σ) ∧
  (∀ (L : ri_L) (σ : ri_S) (a0 : Nat) (a1 : Int32), ev 220 (38, L, [.int a1, .ref a0]) σ = tv_k 9 (σ.1 a0) ((cal 217 [.ref a0, .int a1] σ).bind fun q => ev 220 (41, L, q.1.toList ++ []) q.2)) ∧
  (∀ (l0 l1 l2 l3 l4 l5 : Option Value) (st : List Value) (σ : ri_S) (x : Int32), ev 220 (41, [l0, l1, l2, l3, l4, l5], .int x :: st) σ = ev 220 (42, [l0, l1, ri_clr l2, some (.int x), l4, l5], st) σ) ∧
  (∀ (L : ri_L) (st : List Value) (σ : ri_S), ev 220 (42, L, st) σ = ev 220 (43, L, .int 0 :: st) σ) ∧
  (∀ (l0 l1 l2 l3 l4 l5 : Option Value) (st : List Value) (σ : ri_S) (x : Int32), ev 220 (43, [l0, l1, l2, l3, l4, l5], .int x :: st) σ = ev 220 (45, [l0, l1, l2, ri_clr l3, some (.int x), l5], st) σ) ∧
  (∀ (L : ri_L) (st : List Value) (σ : ri_S), ev 220 (45, L, st) σ = ev 220 (46, L, .int 0 :: st) σ) ∧
  (∀ (l0 l1 l2 l3 l4 l5 : Option Value) (st : List Value) (σ : ri_S) (x : Int32), ev 220 (46, [l0, l1, l2, l3, l4, l5], .int x :: st) σ = ev 220 (48, [l0, l1, l2, l3, ri_clr l4, some (.int x)], st) σ) ∧
  (∀ (l1 l2 l3 l4 l5 : Option Value) (st : List Value) (σ : ri_S) (x : Nat), ev 220 (50, [some (.ref x), l1, l2, l3, l4, l5], st) σ = ev 220 (51, [some (.ref x), l1, l2, l3, l4, l5], .ref x :: st) σ) ∧
  (∀ (L : ri_L) (st : List Value) (σ : ri_S) (a : Nat), ev 220 (51, L, .ref a :: st) σ = tv_o 9 3 (σ.1 a) fun v => ev 220 (54, L, v :: st) σ) ∧
  (∀ (l0 l1 l3 l4 l5 : Option Value) (st : List Value) (σ : ri_S) (x : Int32), ev 220 (54, [l0, l1, some (.int x), l3, l4, l5], st) σ = ev 220 (55, [l0, l1, some (.int x), l3, l4, l5], .int x :: st) σ) ∧
  (∀ (L : ri_L) (st : List Value) (σ : ri_S), ev 220 (55, L, st) σ = ev 220 (56, L, .int 0 :: st) σ) ∧
  (∀ (L : ri_L) (σ : ri_S) (a0 : Nat) (a1 : Int32) (a2 : Int32) (s0 : Value), ev 220 (56, L, [.int a2, .int a1, .ref a0, s0]) σ = (cal 149 [.ref a0, .int a1, .int a2] σ).bind fun q => ev 220 (59, L, q.1.toList ++ [s0]) q.2) ∧
  (∀ (L : ri_L) (st : List Value) (σ : ri_S) (x y : Int32), ev 220 (59, L, .int y :: .int x :: st) σ = if y ≤ x then ev 220 (94, L, st) σ else ev 220 (62, L, st) σ) ∧
  (∀ (l0 l1 l2 l3 l5 : Option Value) (st : List Value) (σ : ri_S) (x : Int32), ev 220 (62, [l0, l1, l2, l3, some (.int x), l5], st) σ = ev 220 (64, [l0, l1, l2, l3, some (.int x), l5], .int x :: st) σ) ∧
  (∀ (l1 l2 l3 l4 l5 : Option Value) (st : List Value) (σ : ri_S) (x : Nat), ev 220 (64, [some (.ref x), l1, l2, l3, l4, l5], st) σ = ev 220 (65, [some (.ref x), l1, l2, l3, l4, l5], .ref x :: st) σ) ∧
  (∀ (l0 l2 l3 l4 l5 : Option Value) (st : List Value) (σ : ri_S) (x : Int32), ev 220 (65, [l0, some (.int x), l2, l3, l4, l5], st) σ = ev 220 (66, [l0, some (.int x), l2, l3, l4, l5], .int x :: st) σ) ∧
  (∀ (l0 l1 l2 l4 l5 : Option Value) (st : List Value) (σ : ri_S) (x : Int32), ev 220 (66, [l0, l1, l2, some (.int x), l4, l5], st) σ = ev 220 (67, [l0, l1, l2, some (.int x), l4, l5], .int x :: st) σ) ∧
  (∀ (l0 l1 l3 l4 l5 : Option Value) (st : List Value) (σ : ri_S) (x : Int32), ev 220 (67, [l0, l1, some (.int x), l3, l4, l5], st) σ = ev 220 (68, [l0, l1, some (.int x), l3, l4, l5], .int x :: st) σ) ∧
  (∀ (l0 l1 l2 l3 l4 : Option Value) (st : List Value) (σ : ri_S) (x : Int32), ev 220 (68, [l0, l1, l2, l3, l4, some (.int x)], st) σ = ev 220 (70, [l0, l1, l2, l3, l4, some (.int x)], .int x :: st) σ) ∧
  (∀ (L : ri_L) (σ : ri_S) (a0 : Nat) (a1 : Int32) (a2 : Int32) (a3 : Int32) (a4 : Int32) (s0 : Value), ev 220 (70, L, [.int a4, .int a3, .int a2, .int a1, .ref a0, s0]) σ = tv_k 9 (σ.1 a0) ((cal 218 [.ref a0, .int a1, .int a2, .int a3, .int a4] σ).bind fun q => ev 220 (73, L, q.1.toList ++ [s0]) q.2)) ∧
  (∀ (L : ri_L) (st : List Value) (σ : ri_S), ev 220 (73, L, st) σ = ev 220 (74, L, .int (-1) :: st) σ) :=
  ⟨fun l1 l2 l3 l4 l5 st σ x => ev_p ((TP_220 _).trans rfl) rfl,
   fun l1 l2 l3 l4 l5 st σ x => ev_p ((TP_220 _).trans rfl) rfl,
   fun L st σ a => ev_getf ((TP_220 _).trans rfl),
   fun l0 l2 l3 l4 l5 st σ x => ev_p ((TP_220 _).trans rfl) rfl,
   fun L σ a0 a1 s0 => ev_call ((TP_220 _).trans rfl) rfl rfl rfl rfl,
   fun L st σ x => ev_b ((TP_220 _).trans rfl) rfl,
   fun l1 l2 l3 l4 l5 st σ x => ev_p ((TP_220 _).trans rfl) rfl,
   fun L st σ a => ev_getf ((TP_220 _).trans rfl),
   fun l0 l1 l3 l4 l5 st σ x => ev_p ((TP_220 _).trans rfl) rfl,
   fun L σ a0 a1 s0 => ev_call ((TP_220 _).trans rfl) rfl rfl rfl rfl,
   fun L st σ x => ev_b ((TP_220 _).trans rfl) rfl,
   fun L st σ => ev_p ((TP_220 _).trans rfl) rfl,
   fun L st σ => ev_p ((TP_220 _).trans rfl) rfl,
   fun L st σ => ev_p ((TP_220 _).trans rfl) rfl,
   fun L σ a0 a1 => ev_callv ((TP_220 _).trans rfl) rfl rfl rfl rfl,
   fun L st σ x => ev_b ((TP_220 _).trans rfl) rfl,
   fun L st σ => ev_p ((TP_220 _).trans rfl) rfl,
   fun L σ x => ev_r ((TP_220 _).trans rfl) rfl,
   fun l1 l2 l3 l4 l5 st σ x => ev_p ((TP_220 _).trans rfl) rfl,
   fun l0 l2 l3 l4 l5 st σ x => ev_p ((TP_220 _).trans rfl) rfl,
   fun L σ a0 a1 => ev_callv ((TP_220 _).trans rfl) rfl rfl rfl rfl,
   fun l0 l1 l2 l3 l4 l5 st σ x => ev_p ((TP_220 _).trans rfl) rfl,
   fun L st σ => ev_p ((TP_220 _).trans rfl) rfl,
   fun l0 l1 l2 l3 l4 l5 st σ x => ev_p ((TP_220 _).trans rfl) rfl,
   fun L st σ => ev_p ((TP_220 _).trans rfl) rfl,
   fun l0 l1 l2 l3 l4 l5 st σ x => ev_p ((TP_220 _).trans rfl) rfl,
   fun l1 l2 l3 l4 l5 st σ x => ev_p ((TP_220 _).trans rfl) rfl,
   fun L st σ a => ev_getf ((TP_220 _).trans rfl),
   fun l0 l1 l3 l4 l5 st σ x => ev_p ((TP_220 _).trans rfl) rfl,
   fun L st σ => ev_p ((TP_220 _).trans rfl) rfl,
   fun L σ a0 a1 a2 s0 => ev_call ((TP_220 _).trans rfl) rfl rfl rfl rfl,
   fun L st σ x y => ev_b ((TP_220 _).trans rfl) rfl,
   fun l0 l1 l2 l3 l5 st σ x => ev_p ((TP_220 _).trans rfl) rfl,
   fun l1 l2 l3 l4 l5 st σ x => ev_p ((TP_220 _).trans rfl) rfl,
   fun l0 l2 l3 l4 l5 st σ x => ev_p ((TP_220 _).trans rfl) rfl,
   fun l0 l1 l2 l4 l5 st σ x => ev_p ((TP_220 _).trans rfl) rfl,
   fun l0 l1 l3 l4 l5 st σ x => ev_p ((TP_220 _).trans rfl) rfl,
   fun l0 l1 l2 l3 l4 st σ x => ev_p ((TP_220 _).trans rfl) rfl,
   fun L σ a0 a1 a2 a3 a4 s0 => ev_callv ((TP_220 _).trans rfl) rfl rfl rfl rfl,
   fun L st σ => ev_p ((TP_220 _).trans rfl) rfl⟩
theorem I_220_1 :
  (∀ (L : ri_L) (st : List Value) (σ : ri_S) (x y : Int32), ev 220 (74, L, .int y :: .int x :: st) σ = if ¬ x = y then ev 220 (81, L, st) σ else ev 220 (77, L, st) σ) ∧
  (∀ (L : ri_L) (st : List Value) (σ : ri_S), ev 220 (77, L, st) σ = ev 220 (78, L, .int 0 :: st) σ) ∧
  (∀ (L : ri_L) (st : List Value) (σ : ri_S), ev 220 (78, L, st) σ = ev 220 (85, L, st) σ) ∧
  (∀ (L : ri_L) (st : List Value) (σ : ri_S), ev 220 (81, L, st) σ = ev 220 (82, L, .int 1 :: st) σ) ∧
  (∀ (l0 l1 l2 l3 l4 : Option Value) (st : List Value) (σ : ri_S) (x : Int32), ev 220 (82, [l0, l1, l2, l3, l4, some (.int x)], st) σ = ev 220 (84, [l0, l1, l2, l3, l4, some (.int x)], .int x :: st) σ) ∧
  (∀ (L : ri_L) (st : List Value) (σ : ri_S) (x y : Int32), ev 220 (84, L, .int y :: .int x :: st) σ = ev 220 (85, L, .int (x <<< (y &&& 31)) :: st) σ) ∧
  (∀ (L : ri_L) (st : List Value) (σ : ri_S) (x y : Int32), ev 220 (85, L, .int y :: .int x :: st) σ = ev 220 (86, L, .int (x ||| y) :: st) σ) ∧
  (∀ (l0 l1 l2 l3 l4 l5 : Option Value) (st : List Value) (σ : ri_S) (x : Int32), ev 220 (86, [l0, l1, l2, l3, l4, l5], .int x :: st) σ = ev 220 (88, [l0, l1, l2, ri_clr l3, some (.int x), l5], st) σ) ∧
  (∀ (l0 l1 l2 l3 l4 : Option Value) (st : List Value) (σ : ri_S) (x : Int32), ev 220 (88, [l0, l1, l2, l3, l4, some (.int x)], st) σ = ev 220 (91, [l0, l1, l2, l3, ri_clr l4, some (.int (x + 1))], st) σ) ∧
  (∀ (L : ri_L) (st : List Value) (σ : ri_S), ev 220 (91, L, st) σ = ev 220 (48, L, st) σ) ∧
  (∀ (l0 l1 l2 l3 l5 : Option Value) (st : List Value) (σ : ri_S) (x : Int32), ev 220 (94, [l0, l1, l2, l3, some (.int x), l5], st) σ = ev 220 (96, [l0, l1, l2, l3, some (.int x), l5], .int x :: st) σ) ∧
  (∀ (L : ri_L) (σ : ri_S) (x : Int32), ev 220 (96, L, [.int x]) σ = some (some (.int x), σ)) :=
  ⟨fun L st σ x y => ev_b ((TP_220 _).trans rfl) rfl,
   fun L st σ => ev_p ((TP_220 _).trans rfl) rfl,
   fun L st σ => ev_p ((TP_220 _).trans rfl) rfl,
   fun L st σ => ev_p ((TP_220 _).trans rfl) rfl,
   fun l0 l1 l2 l3 l4 st σ x => ev_p ((TP_220 _).trans rfl) rfl,
   fun L st σ x y => ev_p ((TP_220 _).trans rfl) rfl,
   fun L st σ x y => ev_p ((TP_220 _).trans rfl) rfl,
   fun l0 l1 l2 l3 l4 l5 st σ x => ev_p ((TP_220 _).trans rfl) rfl,
   fun l0 l1 l2 l3 l4 st σ x => ev_p ((TP_220 _).trans rfl) rfl,
   fun L st σ => ev_p ((TP_220 _).trans rfl) rfl,
   fun l0 l1 l2 l3 l5 st σ x => ev_p ((TP_220 _).trans rfl) rfl,
   fun L σ x => ev_r ((TP_220 _).trans rfl) rfl⟩
theorem TP_221 (pc : Nat) : TT 221 pc = ri_find TL_221 pc := rfl
theorem E_221 (x0 : Nat) (x1 : Int32) (x2 : Int32) (σ : ri_S) : cal 221 [.ref x0, .int x1, .int x2] σ = ev 221 (0, [some (.ref x0), some (.int x1), some (.int x2), none, none, none, none, none, none], []) σ := rfl
theorem H_221_46 (l0 l1 l2 l3 l5 l6 l7 l8 : Option Value) (st : List Value) (σ : ri_S) (x : Int32) : ev 221 (46, [l0, l1, l2, l3, some (.int x), l5, l6, l7, l8], st) σ = ev 221 (48, [l0, l1, l2, l3, some (.int x), l5, l6, l7, l8], .int x :: st) σ := ev_p ((TP_221 _).trans rfl) rfl
theorem H_221_69 (l0 l1 l2 l3 l4 l6 l7 l8 : Option Value) (st : List Value) (σ : ri_S) (x : Int32) : ev 221 (69, [l0, l1, l2, l3, l4, some (.int x), l6, l7, l8], st) σ = ev 221 (71, [l0, l1, l2, l3, l4, some (.int x), l6, l7, l8], .int x :: st) σ := ev_p ((TP_221 _).trans rfl) rfl
theorem H_221_103 (l0 l1 l2 l3 l4 l5 l6 l8 : Option Value) (st : List Value) (σ : ri_S) (x : Int32) : ev 221 (103, [l0, l1, l2, l3, l4, l5, l6, some (.int x), l8], st) σ = ev 221 (105, [l0, l1, l2, l3, l4, l5, l6, some (.int x), l8], .int x :: st) σ := ev_p ((TP_221 _).trans rfl) rfl
theorem I_221_0 :
  (∀ (l1 l2 l3 l4 l5 l6 l7 l8 : Option Value) (st : List Value) (σ : ri_S) (x : Nat), ev 221 (0, [some (.ref x), l1, l2, l3, l4, l5, l6, l7, l8], st) σ = ev 221 (1, [some (.ref x), l1, l2, l3, l4, l5, l6, l7, l8], .ref x :: st) σ) ∧
  (∀ (l1 l2 l3 l4 l5 l6 l7 l8 : Option Value) (st : List Value) (σ : ri_S) (x : Nat), ev 221 (1, [some (.ref x), l1, l2, l3, l4, l5, l6, l7, l8], st) σ = ev 221 (2, [some (.ref x), l1, l2, l3, l4, l5, l6, l7, l8], .ref x :: st) σ) ∧
  (∀ (L : ri_L) (st : List Value) (σ : ri_S) (a : Nat), ev 221 (2, L, .ref a :: st) σ = tv_o 9 3 (σ.1 a) fun v => ev 221 (5, L, v :: st) σ) ∧
  (∀ (l0 l2 l3 l4 l5 l6 l7 l8 : Option Value) (st : List Value) (σ : ri_S) (x : Int32), ev 221 (5, [l0, some (.int x), l2, l3, l4, l5, l6, l7, l8], st) σ = ev 221 (6, [l0, some (.int x), l2, l3, l4, l5, l6, l7, l8], .int x :: st) σ) ∧
  (∀ (L : ri_L) (σ : ri_S) (a0 : Nat) (a1 : Int32) (s0 : Value), ev 221 (6, L, [.int a1, .ref a0, s0]) σ = (cal 154 [.ref a0, .int a1] σ).bind fun q => ev 221 (9, L, q.1.toList ++ [s0]) q.2) ∧
  (∀ (L : ri_L) (st : List Value) (σ : ri_S) (x : Int32), ev 221 (9, L, .int x :: st) σ = if ¬ x = 0 then ev 221 (16, L, st) σ else ev 221 (12, L, st) σ) ∧
  (∀ (L : ri_L) (st : List Value) (σ : ri_S), ev 221 (12, L, st) σ = ev 221 (13, L, .int 1 :: st) σ) ∧
  (∀ (L : ri_L) (st : List Value) (σ : ri_S), ev 221 (13, L, st) σ = ev 221 (33, L, st) σ) ∧
  (∀ (l0 l1 l3 l4 l5 l6 l7 l8 : Option Value) (st : List Value) (σ : ri_S) (x : Int32), ev 221 (16, [l0, l1, some (.int x), l3, l4, l5, l6, l7, l8], st) σ = ev 221 (17, [l0, l1, some (.int x), l3, l4, l5, l6, l7, l8], .int x :: st) σ) ∧
  (∀ (L : ri_L) (st : List Value) (σ : ri_S) (x : Int32), ev 221 (17, L, .int x :: st) σ = ev 221 (18, L, .long x.toInt64 :: st) σ) ∧
  (∀ (L : ri_L) (st : List Value) (σ : ri_S), ev 221 (18, L, st) σ = ev 221 (19, L, .long 1 :: st) σ) ∧
  (∀ (L : ri_L) (st : List Value) (σ : ri_S), ev 221 (19, L, st) σ = ev 221 (22, L, .long 4 :: st) σ) ∧
  (∀ (L : ri_L) (σ : ri_S) (a0 : Int64) (a1 : Int64) (a2 : Int64) (s0 : Value), ev 221 (22, L, [.long a2, .long a1, .long a0, s0]) σ = (cal 146 [.long a0, .long a1, .long a2] σ).bind fun q => ev 221 (25, L, q.1.toList ++ [s0]) q.2) ∧
  (∀ (L : ri_L) (st : List Value) (σ : ri_S) (x : Int32), ev 221 (25, L, .int x :: st) σ = if x = 0 then ev 221 (32, L, st) σ else ev 221 (28, L, st) σ) ∧
  (∀ (L : ri_L) (st : List Value) (σ : ri_S), ev 221 (28, L, st) σ = ev 221 (29, L, .int 0 :: st) σ) ∧
  (∀ (L : ri_L) (st : List Value) (σ : ri_S), ev 221 (29, L, st) σ = ev 221 (33, L, st) σ) ∧
  (∀ (L : ri_L) (st : List Value) (σ : ri_S), ev 221 (32, L, st) σ = ev 221 (33, L, .int 2 :: st) σ) ∧
  (∀ (L : ri_L) (σ : ri_S) (a0 : Nat) (a1 : Int32), ev 221 (33, L, [.int a1, .ref a0]) σ = tv_k 9 (σ.1 a0) ((cal 145 [.ref a0, .int a1] σ).bind fun q => ev 221 (36, L, q.1.toList ++ []) q.2)) ∧
  (∀ (L : ri_L) (st : List Value) (σ : ri_S) (x : Int32), ev 221 (36, L, .int x :: st) σ = if x = 0 then ev 221 (41, L, st) σ else ev 221 (39, L, st) σ) ∧
  (∀ (L : ri_L) (st : List Value) (σ : ri_S), ev 221 (39, L, st) σ = ev 221 (40, L, .int 0 :: st) σ) ∧
  (∀ (L : ri_L) (σ : ri_S) (x : Int32), ev 221 (40, L, [.int x]) σ = some (some (.int x), σ)) ∧
  (∀ (L : ri_L) (st : List Value) (σ : ri_S), ev 221 (41, L, st) σ = ev 221 (42, L, .int 1 :: st) σ) ∧
  (∀ (l0 l1 l2 l3 l4 l5 l6 l7 l8 : Option Value) (st : List Value) (σ : ri_S) (x : Int32), ev 221 (42, [l0, l1, l2, l3, l4, l5, l6, l7, l8], .int x :: st) σ = ev 221 (43, [l0, l1, ri_clr l2, some (.int x), l4, l5, l6, l7, l8], st) σ) ∧
  (∀ (L : ri_L) (st : List Value) (σ : ri_S), ev 221 (43, L, st) σ = ev 221 (44, L, .int 0 :: st) σ) ∧
  (∀ (l0 l1 l2 l3 l4 l5 l6 l7 l8 : Option Value) (st : List Value) (σ : ri_S) (x : Int32), ev 221 (44, [l0, l1, l2, l3, l4, l5, l6, l7, l8], .int x :: st) σ = ev 221 (46, [l0, l1, l2, ri_clr l3, some (.int x), l5, l6, l7, l8], st) σ) ∧
  (∀ (l0 l1 l3 l4 l5 l6 l7 l8 : Option Value) (st : List Value) (σ : ri_S) (x : Int32), ev 221 (48, [l0, l1, some (.int x), l3, l4, l5, l6, l7, l8], st) σ = ev 221 (49, [l0, l1, some (.int x), l3, l4, l5, l6, l7, l8], .int x :: st) σ) ∧
  (∀ (L : ri_L) (st : List Value) (σ : ri_S) (x y : Int32), ev 221 (49, L, .int y :: .int x :: st) σ = if y ≤ x then ev 221 (63, L, st) σ else ev 221 (52, L, st) σ) ∧
  (∀ (l0 l1 l2 l4 l5 l6 l7 l8 : Option Value) (st : List Value) (σ : ri_S) (x : Int32), ev 221 (52, [l0, l1, l2, some (.int x), l4, l5, l6, l7, l8], st) σ = ev 221 (53, [l0, l1, l2, some (.int x), l4, l5, l6, l7, l8], .int x :: st) σ) ∧
  (∀ (L : ri_L) (st : List Value) (σ : ri_S), ev 221 (53, L, st) σ = ev 221 (55, L, .int 10 :: st) σ) ∧
  (∀ (L : ri_L) (st : List Value) (σ : ri_S) (x y : Int32), ev 221 (55, L, .int y :: .int x :: st) σ = ev 221 (56, L, .int (x * y) :: st) σ) ∧
  (∀ (l0 l1 l2 l3 l4 l5 l6 l7 l8 : Option Value) (st : List Value) (σ : ri_S) (x : Int32), ev 221 (56, [l0, l1, l2, l3, l4, l5, l6, l7, l8], .int x :: st) σ = ev 221 (57, [l0, l1, ri_clr l2, some (.int x), l4, l5, l6, l7, l8], st) σ) ∧
  (∀ (l0 l1 l2 l3 l5 l6 l7 l8 : Option Value) (st : List Value) (σ : ri_S) (x : Int32), ev 221 (57, [l0, l1, l2, l3, some (.int x), l5, l6, l7, l8], st) σ = ev 221 (60, [l0, l1, l2, ri_clr l3, some (.int (x + 1)), l5, l6, l7, l8], st) σ) ∧
  (∀ (L : ri_L) (st : List Value) (σ : ri_S), ev 221 (60, L, st) σ = ev 221 (46, L, st) σ) ∧
  (∀ (L : ri_L) (st : List Value) (σ : ri_S), ev 221 (63, L, st) σ = ev 221 (64, L, .int 0 :: st) σ) ∧
  (∀ (l0 l1 l2 l3 l4 l5 l6 l7 l8 : Option Value) (st : List Value) (σ : ri_S) (x : Int32), ev 221 (64, [l0, l1, l2, l3, l4, l5, l6, l7, l8], .int x :: st) σ = ev 221 (66, [l0, l1, l2, ri_clr l3, some (.int x), l5, l6, l7, l8], st) σ) ∧
  (∀ (L : ri_L) (st : List Value) (σ : ri_S), ev 221 (66, L, st) σ = ev 221 (67, L, .int 0 :: st) σ) ∧
  (∀ (l0 l1 l2 l3 l4 l5 l6 l7 l8 : Option Value) (st : List Value) (σ : ri_S) (x : Int32), ev 221 (67, [l0, l1, l2, l3, l4, l5, l6, l7, l8], .int x :: st) σ = ev 221 (69, [l0, l1, l2, l3, ri_clr l4, some (.int x), l6, l7, l8], st) σ) ∧
  (∀ (l0 l1 l2 l4 l5 l6 l7 l8 : Option Value) (st : List Value) (σ : ri_S) (x : Int32), ev 221 (71, [l0, l1, l2, some (.int x), l4, l5, l6, l7, l8], st) σ = ev 221 (72, [l0, l1, l2, some (.int x), l4, l5, l6, l7, l8], .int x :: st) σ) ∧
  (∀ (L : ri_L) (st : List Value) (σ : ri_S) (x y : Int32), ev 221 (72, L, .int y :: .int x :: st) σ = if y ≤ x then ev 221 (171, L, st) σ else ev 221 (75, L, st) σ) ∧
  (∀ (l1 l2 l3 l4 l5 l6 l7 l8 : Option Value) (st : List Value) (σ : ri_S) (x : Nat), ev 221 (75, [some (.ref x), l1, l2, l3, l4, l5, l6, l7, l8], st) σ = ev 221 (76, [some (.ref x), l1, l2, l3, l4, l5, l6, l7, l8], .ref x :: st) σ) :=
  ⟨fun l1 l2 l3 l4 l5 l6 l7 l8 st σ x => ev_p ((TP_221 _).trans rfl) rfl,
   fun l1 l2 l3 l4 l5 l6 l7 l8 st σ x => ev_p ((TP_221 _).trans rfl) rfl,
   fun L st σ a => ev_getf ((TP_221 _).trans rfl),
   fun l0 l2 l3 l4 l5 l6 l7 l8 st σ x => ev_p ((TP_221 _).trans rfl) rfl,
   fun L σ a0 a1 s0 => ev_call ((TP_221 _).trans rfl) rfl rfl rfl rfl,
   fun L st σ x => ev_b ((TP_221 _).trans rfl) rfl,
   fun L st σ => ev_p ((TP_221 _).trans rfl) rfl,
   fun L st σ => ev_p ((TP_221 _).trans rfl) rfl,
   fun l0 l1 l3 l4 l5 l6 l7 l8 st σ x => ev_p ((TP_221 _).trans rfl) rfl,
   fun L st σ x => ev_p ((TP_221 _).trans rfl) rfl,
   fun L st σ => ev_p ((TP_221 _).trans rfl) rfl,
   fun L st σ => ev_p ((TP_221 _).trans rfl) rfl,
   fun L σ a0 a1 a2 s0 => ev_call ((TP_221 _).trans rfl) rfl rfl rfl rfl,
   fun L st σ x => ev_b ((TP_221 _).trans rfl) rfl,
   fun L st σ => ev_p ((TP_221 _).trans rfl) rfl,
   fun L st σ => ev_p ((TP_221 _).trans rfl) rfl,
   fun L st σ => ev_p ((TP_221 _).trans rfl) rfl,
   fun L σ a0 a1 => ev_callv ((TP_221 _).trans rfl) rfl rfl rfl rfl,
   fun L st σ x => ev_b ((TP_221 _).trans rfl) rfl,
   fun L st σ => ev_p ((TP_221 _).trans rfl) rfl,
   fun L σ x => ev_r ((TP_221 _).trans rfl) rfl,
   fun L st σ => ev_p ((TP_221 _).trans rfl) rfl,
   fun l0 l1 l2 l3 l4 l5 l6 l7 l8 st σ x => ev_p ((TP_221 _).trans rfl) rfl,
   fun L st σ => ev_p ((TP_221 _).trans rfl) rfl,
   fun l0 l1 l2 l3 l4 l5 l6 l7 l8 st σ x => ev_p ((TP_221 _).trans rfl) rfl,
   fun l0 l1 l3 l4 l5 l6 l7 l8 st σ x => ev_p ((TP_221 _).trans rfl) rfl,
   fun L st σ x y => ev_b ((TP_221 _).trans rfl) rfl,
   fun l0 l1 l2 l4 l5 l6 l7 l8 st σ x => ev_p ((TP_221 _).trans rfl) rfl,
   fun L st σ => ev_p ((TP_221 _).trans rfl) rfl,
   fun L st σ x y => ev_p ((TP_221 _).trans rfl) rfl,
   fun l0 l1 l2 l3 l4 l5 l6 l7 l8 st σ x => ev_p ((TP_221 _).trans rfl) rfl,
   fun l0 l1 l2 l3 l5 l6 l7 l8 st σ x => ev_p ((TP_221 _).trans rfl) rfl,
   fun L st σ => ev_p ((TP_221 _).trans rfl) rfl,
   fun L st σ => ev_p ((TP_221 _).trans rfl) rfl,
   fun l0 l1 l2 l3 l4 l5 l6 l7 l8 st σ x => ev_p ((TP_221 _).trans rfl) rfl,
   fun L st σ => ev_p ((TP_221 _).trans rfl) rfl,
   fun l0 l1 l2 l3 l4 l5 l6 l7 l8 st σ x => ev_p ((TP_221 _).trans rfl) rfl,
   fun l0 l1 l2 l4 l5 l6 l7 l8 st σ x => ev_p ((TP_221 _).trans rfl) rfl,
   fun L st σ x y => ev_b ((TP_221 _).trans rfl) rfl,
   fun l1 l2 l3 l4 l5 l6 l7 l8 st σ x => ev_p ((TP_221 _).trans rfl) rfl⟩
theorem I_221_1 :
  (∀ (L : ri_L) (st : List Value) (σ : ri_S) (a : Nat), ev 221 (76, L, .ref a :: st) σ = tv_o 9 3 (σ.1 a) fun v => ev 221 (79, L, v :: st) σ) ∧
  (∀ (L : ri_L) (st : List Value) (σ : ri_S), ev 221 (79, L, st) σ = ev 221 (80, L, .int 0 :: st) σ) ∧
  (∀ (l1 l2 l3 l4 l5 l6 l7 l8 : Option Value) (st : List Value) (σ : ri_S) (x : Nat), ev 221 (80, [some (.ref x), l1, l2, l3, l4, l5, l6, l7, l8], st) σ = ev 221 (81, [some (.ref x), l1, l2, l3, l4, l5, l6, l7, l8], .ref x :: st) σ) ∧
  (∀ (L : ri_L) (st : List Value) (σ : ri_S) (a : Nat), ev 221 (81, L, .ref a :: st) σ = tv_o 9 4 (σ.1 a) fun v => ev 221 (84, L, v :: st) σ) ∧
  (∀ (L : ri_L) (st : List Value) (σ : ri_S), ev 221 (84, L, st) σ = ev 221 (85, L, .int 0 :: st) σ) ∧
  (∀ (L : ri_L) (σ : ri_S) (a0 : Nat) (a1 : Int32) (a2 : Nat) (a3 : Int32), ev 221 (85, L, [.int a3, .ref a2, .int a1, .ref a0]) σ = (cal 147 [.ref a0, .int a1, .ref a2, .int a3] σ).bind fun q => ev 221 (88, L, q.1.toList ++ []) q.2) ∧
  (∀ (l1 l2 l3 l4 l5 l6 l7 l8 : Option Value) (st : List Value) (σ : ri_S) (x : Nat), ev 221 (88, [some (.ref x), l1, l2, l3, l4, l5, l6, l7, l8], st) σ = ev 221 (89, [some (.ref x), l1, l2, l3, l4, l5, l6, l7, l8], .ref x :: st) σ) ∧
  (∀ (L : ri_L) (st : List Value) (σ : ri_S) (a : Nat), ev 221 (89, L, .ref a :: st) σ = tv_o 9 4 (σ.1 a) fun v => ev 221 (92, L, v :: st) σ) ∧
  (∀ (L : ri_L) (st : List Value) (σ : ri_S), ev 221 (92, L, st) σ = ev 221 (94, L, .int 8 :: st) σ) ∧
  (∀ (L : ri_L) (st : List Value) (σ : ri_S), ev 221 (94, L, st) σ = ev 221 (95, L, .int 0 :: st) σ) ∧
  (∀ (L : ri_L) (st : List Value) (σ : ri_S) (a : Nat) (i x : Int32), ev 221 (95, L, .int x :: .int i :: .ref a :: st) σ = tv_r 0 (σ.1 a) i fun n f j => ev 221 (96, L, st) (ri_upd σ.1 a (.inl (0, n, upd f j x)), σ.2)) ∧
  (∀ (l0 l1 l2 l3 l4 l6 l7 l8 : Option Value) (st : List Value) (σ : ri_S) (x : Int32), ev 221 (96, [l0, l1, l2, l3, l4, some (.int x), l6, l7, l8], st) σ = ev 221 (98, [l0, l1, l2, l3, l4, some (.int x), l6, l7, l8], .int x :: st) σ) ∧
  (∀ (l0 l1 l2 l3 l4 l5 l6 l7 l8 : Option Value) (st : List Value) (σ : ri_S) (x : Int32), ev 221 (98, [l0, l1, l2, l3, l4, l5, l6, l7, l8], .int x :: st) σ = ev 221 (100, [l0, l1, l2, l3, l4, ri_clr l5, some (.int x), l7, l8], st) σ) ∧
  (∀ (l0 l1 l3 l4 l5 l6 l7 l8 : Option Value) (st : List Value) (σ : ri_S) (x : Int32), ev 221 (100, [l0, l1, some (.int x), l3, l4, l5, l6, l7, l8], st) σ = ev 221 (101, [l0, l1, some (.int x), l3, l4, l5, l6, l7, l8], .int x :: st) σ) ∧
  (∀ (l0 l1 l2 l3 l4 l5 l6 l7 l8 : Option Value) (st : List Value) (σ : ri_S) (x : Int32), ev 221 (101, [l0, l1, l2, l3, l4, l5, l6, l7, l8], .int x :: st) σ = ev 221 (103, [l0, l1, l2, l3, l4, l5, ri_clr l6, some (.int x), l8], st) σ) ∧
  (∀ (L : ri_L) (st : List Value) (σ : ri_S) (x : Int32), ev 221 (105, L, .int x :: st) σ = if x ≤ 0 then ev 221 (134, L, st) σ else ev 221 (108, L, st) σ) ∧
  (∀ (l1 l2 l3 l4 l5 l6 l7 l8 : Option Value) (st : List Value) (σ : ri_S) (x : Nat), ev 221 (108, [some (.ref x), l1, l2, l3, l4, l5, l6, l7, l8], st) σ = ev 221 (109, [some (.ref x), l1, l2, l3, l4, l5, l6, l7, l8], .ref x :: st) σ) ∧
  (∀ (l0 l2 l3 l4 l5 l6 l7 l8 : Option Value) (st : List Value) (σ : ri_S) (x : Int32), ev 221 (109, [l0, some (.int x), l2, l3, l4, l5, l6, l7, l8], st) σ = ev 221 (110, [l0, some (.int x), l2, l3, l4, l5, l6, l7, l8], .int x :: st) σ) ∧
  (∀ (l0 l1 l2 l3 l4 l5 l7 l8 : Option Value) (st : List Value) (σ : ri_S) (x : Int32), ev 221 (110, [l0, l1, l2, l3, l4, l5, some (.int x), l7, l8], st) σ = ev 221 (112, [l0, l1, l2, l3, l4, l5, some (.int x), l7, l8], .int x :: st) σ) ∧
  (∀ (L : ri_L) (st : List Value) (σ : ri_S), ev 221 (112, L, st) σ = ev 221 (114, L, .int 10 :: st) σ) ∧
  (∀ (L : ri_L) (st : List Value) (σ : ri_S) (x y : Int32), ev 221 (114, L, .int y :: .int x :: st) σ = if y = 0 then none else ev 221 (115, L, .int (x - x / y * y) :: st) σ) ∧
  (∀ (L : ri_L) (σ : ri_S) (a0 : Nat) (a1 : Int32) (a2 : Int32), ev 221 (115, L, [.int a2, .int a1, .ref a0]) σ = tv_k 9 (σ.1 a0) ((cal 216 [.ref a0, .int a1, .int a2] σ).bind fun q => ev 221 (118, L, q.1.toList ++ []) q.2)) ∧
  (∀ (L : ri_L) (st : List Value) (σ : ri_S) (x : Int32), ev 221 (118, L, .int x :: st) σ = if x = 0 then ev 221 (134, L, st) σ else ev 221 (121, L, st) σ) ∧
  (∀ (l0 l1 l2 l3 l4 l5 l7 l8 : Option Value) (st : List Value) (σ : ri_S) (x : Int32), ev 221 (121, [l0, l1, l2, l3, l4, l5, some (.int x), l7, l8], st) σ = ev 221 (123, [l0, l1, l2, l3, l4, l5, some (.int x), l7, l8], .int x :: st) σ) ∧
  (∀ (L : ri_L) (st : List Value) (σ : ri_S), ev 221 (123, L, st) σ = ev 221 (125, L, .int 10 :: st) σ) ∧
  (∀ (L : ri_L) (st : List Value) (σ : ri_S) (x y : Int32), ev 221 (125, L, .int y :: .int x :: st) σ = if y = 0 then none else ev 221 (126, L, .int (x / y) :: st) σ) ∧
  (∀ (l0 l1 l2 l3 l4 l5 l6 l7 l8 : Option Value) (st : List Value) (σ : ri_S) (x : Int32), ev 221 (126, [l0, l1, l2, l3, l4, l5, l6, l7, l8], .int x :: st) σ = ev 221 (128, [l0, l1, l2, l3, l4, ri_clr l5, some (.int x), l7, l8], st) σ) ∧
  (∀ (l0 l1 l2 l3 l4 l5 l6 l8 : Option Value) (st : List Value) (σ : ri_S) (x : Int32), ev 221 (128, [l0, l1, l2, l3, l4, l5, l6, some (.int x), l8], st) σ = ev 221 (131, [l0, l1, l2, l3, l4, l5, ri_clr l6, some (.int (x + (-1))), l8], st) σ) ∧
  (∀ (L : ri_L) (st : List Value) (σ : ri_S), ev 221 (131, L, st) σ = ev 221 (103, L, st) σ) ∧
  (∀ (l1 l2 l3 l4 l5 l6 l7 l8 : Option Value) (st : List Value) (σ : ri_S) (x : Nat), ev 221 (134, [some (.ref x), l1, l2, l3, l4, l5, l6, l7, l8], st) σ = ev 221 (135, [some (.ref x), l1, l2, l3, l4, l5, l6, l7, l8], .ref x :: st) σ) ∧
  (∀ (L : ri_L) (st : List Value) (σ : ri_S) (a : Nat), ev 221 (135, L, .ref a :: st) σ = tv_o 9 4 (σ.1 a) fun v => ev 221 (138, L, v :: st) σ) ∧
  (∀ (L : ri_L) (st : List Value) (σ : ri_S), ev 221 (138, L, st) σ = ev 221 (139, L, .int 4 :: st) σ) ∧
  (∀ (L : ri_L) (st : List Value) (σ : ri_S) (a : Nat) (i : Int32), ev 221 (139, L, .int i :: .ref a :: st) σ = tv_r 0 (σ.1 a) i fun n f j => ev 221 (140, L, .int (f j) :: st) σ) ∧
  (∀ (l1 l2 l3 l4 l5 l6 l7 l8 : Option Value) (st : List Value) (σ : ri_S) (x : Nat), ev 221 (140, [some (.ref x), l1, l2, l3, l4, l5, l6, l7, l8], st) σ = ev 221 (141, [some (.ref x), l1, l2, l3, l4, l5, l6, l7, l8], .ref x :: st) σ) ∧
  (∀ (L : ri_L) (st : List Value) (σ : ri_S) (a : Nat), ev 221 (141, L, .ref a :: st) σ = tv_o 9 3 (σ.1 a) fun v => ev 221 (144, L, v :: st) σ) ∧
  (∀ (L : ri_L) (st : List Value) (σ : ri_S), ev 221 (144, L, st) σ = ev 221 (145, L, .int 4 :: st) σ) ∧
  (∀ (L : ri_L) (st : List Value) (σ : ri_S) (a : Nat) (i : Int32), ev 221 (145, L, .int i :: .ref a :: st) σ = tv_r 0 (σ.1 a) i fun n f j => ev 221 (146, L, .int (f j) :: st) σ) ∧
  (∀ (L : ri_L) (st : List Value) (σ : ri_S) (x y : Int32), ev 221 (146, L, .int y :: .int x :: st) σ = ev 221 (147, L, .int (x - y) :: st) σ) ∧
  (∀ (l0 l1 l2 l3 l4 l5 l6 l7 l8 : Option Value) (st : List Value) (σ : ri_S) (x : Int32), ev 221 (147, [l0, l1, l2, l3, l4, l5, l6, l7, l8], .int x :: st) σ = ev 221 (149, [l0, l1, l2, l3, l4, l5, l6, ri_clr l7, some (.int x)], st) σ) ∧
  (∀ (l0 l1 l2 l3 l4 l5 l6 l7 : Option Value) (st : List Value) (σ : ri_S) (x : Int32), ev 221 (149, [l0, l1, l2, l3, l4, l5, l6, l7, some (.int x)], st) σ = ev 221 (151, [l0, l1, l2, l3, l4, l5, l6, l7, some (.int x)], .int x :: st) σ) :=
  ⟨fun L st σ a => ev_getf ((TP_221 _).trans rfl),
   fun L st σ => ev_p ((TP_221 _).trans rfl) rfl,
   fun l1 l2 l3 l4 l5 l6 l7 l8 st σ x => ev_p ((TP_221 _).trans rfl) rfl,
   fun L st σ a => ev_getf ((TP_221 _).trans rfl),
   fun L st σ => ev_p ((TP_221 _).trans rfl) rfl,
   fun L σ a0 a1 a2 a3 => ev_call ((TP_221 _).trans rfl) rfl rfl rfl rfl,
   fun l1 l2 l3 l4 l5 l6 l7 l8 st σ x => ev_p ((TP_221 _).trans rfl) rfl,
   fun L st σ a => ev_getf ((TP_221 _).trans rfl),
   fun L st σ => ev_p ((TP_221 _).trans rfl) rfl,
   fun L st σ => ev_p ((TP_221 _).trans rfl) rfl,
   fun L st σ a i x => ev_iast ((TP_221 _).trans rfl),
   fun l0 l1 l2 l3 l4 l6 l7 l8 st σ x => ev_p ((TP_221 _).trans rfl) rfl,
   fun l0 l1 l2 l3 l4 l5 l6 l7 l8 st σ x => ev_p ((TP_221 _).trans rfl) rfl,
   fun l0 l1 l3 l4 l5 l6 l7 l8 st σ x => ev_p ((TP_221 _).trans rfl) rfl,
   fun l0 l1 l2 l3 l4 l5 l6 l7 l8 st σ x => ev_p ((TP_221 _).trans rfl) rfl,
   fun L st σ x => ev_b ((TP_221 _).trans rfl) rfl,
   fun l1 l2 l3 l4 l5 l6 l7 l8 st σ x => ev_p ((TP_221 _).trans rfl) rfl,
   fun l0 l2 l3 l4 l5 l6 l7 l8 st σ x => ev_p ((TP_221 _).trans rfl) rfl,
   fun l0 l1 l2 l3 l4 l5 l7 l8 st σ x => ev_p ((TP_221 _).trans rfl) rfl,
   fun L st σ => ev_p ((TP_221 _).trans rfl) rfl,
   fun L st σ x y => ev_d ((TP_221 _).trans rfl) rfl,
   fun L σ a0 a1 a2 => ev_callv ((TP_221 _).trans rfl) rfl rfl rfl rfl,
   fun L st σ x => ev_b ((TP_221 _).trans rfl) rfl,
   fun l0 l1 l2 l3 l4 l5 l7 l8 st σ x => ev_p ((TP_221 _).trans rfl) rfl,
   fun L st σ => ev_p ((TP_221 _).trans rfl) rfl,
   fun L st σ x y => ev_d ((TP_221 _).trans rfl) rfl,
   fun l0 l1 l2 l3 l4 l5 l6 l7 l8 st σ x => ev_p ((TP_221 _).trans rfl) rfl,
   fun l0 l1 l2 l3 l4 l5 l6 l8 st σ x => ev_p ((TP_221 _).trans rfl) rfl,
   fun L st σ => ev_p ((TP_221 _).trans rfl) rfl,
   fun l1 l2 l3 l4 l5 l6 l7 l8 st σ x => ev_p ((TP_221 _).trans rfl) rfl,
   fun L st σ a => ev_getf ((TP_221 _).trans rfl),
   fun L st σ => ev_p ((TP_221 _).trans rfl) rfl,
   fun L st σ a i => ev_iald ((TP_221 _).trans rfl),
   fun l1 l2 l3 l4 l5 l6 l7 l8 st σ x => ev_p ((TP_221 _).trans rfl) rfl,
   fun L st σ a => ev_getf ((TP_221 _).trans rfl),
   fun L st σ => ev_p ((TP_221 _).trans rfl) rfl,
   fun L st σ a i => ev_iald ((TP_221 _).trans rfl),
   fun L st σ x y => ev_p ((TP_221 _).trans rfl) rfl,
   fun l0 l1 l2 l3 l4 l5 l6 l7 l8 st σ x => ev_p ((TP_221 _).trans rfl) rfl,
   fun l0 l1 l2 l3 l4 l5 l6 l7 st σ x => ev_p ((TP_221 _).trans rfl) rfl⟩
theorem I_221_2 :
  (∀ (l0 l1 l2 l3 l5 l6 l7 l8 : Option Value) (st : List Value) (σ : ri_S) (x : Int32), ev 221 (151, [l0, l1, l2, l3, some (.int x), l5, l6, l7, l8], st) σ = ev 221 (153, [l0, l1, l2, l3, some (.int x), l5, l6, l7, l8], .int x :: st) σ) ∧
  (∀ (L : ri_L) (st : List Value) (σ : ri_S) (x y : Int32), ev 221 (153, L, .int y :: .int x :: st) σ = if x ≤ y then ev 221 (161, L, st) σ else ev 221 (156, L, st) σ) ∧
  (∀ (l0 l1 l2 l3 l4 l5 l6 l7 : Option Value) (st : List Value) (σ : ri_S) (x : Int32), ev 221 (156, [l0, l1, l2, l3, l4, l5, l6, l7, some (.int x)], st) σ = ev 221 (158, [l0, l1, l2, l3, l4, l5, l6, l7, some (.int x)], .int x :: st) σ) ∧
  (∀ (L : ri_L) (st : List Value) (σ : ri_S), ev 221 (158, L, st) σ = ev 221 (163, L, st) σ) ∧
  (∀ (l0 l1 l2 l3 l5 l6 l7 l8 : Option Value) (st : List Value) (σ : ri_S) (x : Int32), ev 221 (161, [l0, l1, l2, l3, some (.int x), l5, l6, l7, l8], st) σ = ev 221 (163, [l0, l1, l2, l3, some (.int x), l5, l6, l7, l8], .int x :: st) σ) ∧
  (∀ (l0 l1 l2 l3 l4 l5 l6 l7 l8 : Option Value) (st : List Value) (σ : ri_S) (x : Int32), ev 221 (163, [l0, l1, l2, l3, l4, l5, l6, l7, l8], .int x :: st) σ = ev 221 (165, [l0, l1, l2, ri_clr l3, some (.int x), l5, l6, l7, l8], st) σ) ∧
  (∀ (l0 l1 l2 l3 l4 l6 l7 l8 : Option Value) (st : List Value) (σ : ri_S) (x : Int32), ev 221 (165, [l0, l1, l2, l3, l4, some (.int x), l6, l7, l8], st) σ = ev 221 (168, [l0, l1, l2, l3, ri_clr l4, some (.int (x + 1)), l6, l7, l8], st) σ) ∧
  (∀ (L : ri_L) (st : List Value) (σ : ri_S), ev 221 (168, L, st) σ = ev 221 (69, L, st) σ) ∧
  (∀ (l0 l1 l2 l3 l5 l6 l7 l8 : Option Value) (st : List Value) (σ : ri_S) (x : Int32), ev 221 (171, [l0, l1, l2, l3, some (.int x), l5, l6, l7, l8], st) σ = ev 221 (173, [l0, l1, l2, l3, some (.int x), l5, l6, l7, l8], .int x :: st) σ) ∧
  (∀ (L : ri_L) (σ : ri_S) (x : Int32), ev 221 (173, L, [.int x]) σ = some (some (.int x), σ)) :=
  ⟨fun l0 l1 l2 l3 l5 l6 l7 l8 st σ x => ev_p ((TP_221 _).trans rfl) rfl,
   fun L st σ x y => ev_b ((TP_221 _).trans rfl) rfl,
   fun l0 l1 l2 l3 l4 l5 l6 l7 st σ x => ev_p ((TP_221 _).trans rfl) rfl,
   fun L st σ => ev_p ((TP_221 _).trans rfl) rfl,
   fun l0 l1 l2 l3 l5 l6 l7 l8 st σ x => ev_p ((TP_221 _).trans rfl) rfl,
   fun l0 l1 l2 l3 l4 l5 l6 l7 l8 st σ x => ev_p ((TP_221 _).trans rfl) rfl,
   fun l0 l1 l2 l3 l4 l6 l7 l8 st σ x => ev_p ((TP_221 _).trans rfl) rfl,
   fun L st σ => ev_p ((TP_221 _).trans rfl) rfl,
   fun l0 l1 l2 l3 l5 l6 l7 l8 st σ x => ev_p ((TP_221 _).trans rfl) rfl,
   fun L σ x => ev_r ((TP_221 _).trans rfl) rfl⟩
theorem TP_222 (pc : Nat) : TT 222 pc = ri_find TL_222 pc := rfl
theorem E_222 (x0 : Nat) (x1 : Int32) (x2 : Int32) (σ : ri_S) : cal 222 [.ref x0, .int x1, .int x2] σ = ev 222 (0, [some (.ref x0), some (.int x1), some (.int x2), none, none, none, none, none, none, none], []) σ := rfl
set_option maxRecDepth 8000 in
theorem I_222_0 :
  (∀ (l0 l1 l3 l4 l5 l6 l7 l8 l9 : Option Value) (st : List Value) (σ : ri_S) (x : Int32), ev 222 (0, [l0, l1, some (.int x), l3, l4, l5, l6, l7, l8, l9], st) σ = ev 222 (1, [l0, l1, some (.int x), l3, l4, l5, l6, l7, l8, l9], .int x :: st) σ) ∧
  (∀ (L : ri_L) (st : List Value) (σ : ri_S), ev 222 (1, L, st) σ = ev 222 (4, L, .int 1000 :: st) σ) ∧
  (∀ (L : ri_L) (st : List Value) (σ : ri_S) (x y : Int32), ev 222 (4, L, .int y :: .int x :: st) σ = if y = 0 then none else ev 222 (5, L, .int (x / y) :: st) σ) ∧
  (∀ (l0 l1 l2 l3 l4 l5 l6 l7 l8 l9 : Option Value) (st : List Value) (σ : ri_S) (x : Int32), ev 222 (5, [l0, l1, l2, l3, l4, l5, l6, l7, l8, l9], .int x :: st) σ = ev 222 (6, [l0, l1, ri_clr l2, some (.int x), l4, l5, l6, l7, l8, l9], st) σ) ∧
  (∀ (l0 l1 l3 l4 l5 l6 l7 l8 l9 : Option Value) (st : List Value) (σ : ri_S) (x : Int32), ev 222 (6, [l0, l1, some (.int x), l3, l4, l5, l6, l7, l8, l9], st) σ = ev 222 (7, [l0, l1, some (.int x), l3, l4, l5, l6, l7, l8, l9], .int x :: st) σ) ∧
  (∀ (L : ri_L) (st : List Value) (σ : ri_S), ev 222 (7, L, st) σ = ev 222 (9, L, .int 100 :: st) σ) ∧
  (∀ (L : ri_L) (st : List Value) (σ : ri_S) (x y : Int32), ev 222 (9, L, .int y :: .int x :: st) σ = if y = 0 then none else ev 222 (10, L, .int (x / y) :: st) σ) ∧
  (∀ (L : ri_L) (st : List Value) (σ : ri_S), ev 222 (10, L, st) σ = ev 222 (12, L, .int 10 :: st) σ) ∧
  (∀ (L : ri_L) (st : List Value) (σ : ri_S) (x y : Int32), ev 222 (12, L, .int y :: .int x :: st) σ = if y = 0 then none else ev 222 (13, L, .int (x - x / y * y) :: st) σ) ∧
  (∀ (l0 l1 l2 l3 l4 l5 l6 l7 l8 l9 : Option Value) (st : List Value) (σ : ri_S) (x : Int32), ev 222 (13, [l0, l1, l2, l3, l4, l5, l6, l7, l8, l9], .int x :: st) σ = ev 222 (15, [l0, l1, l2, ri_clr l3, some (.int x), l5, l6, l7, l8, l9], st) σ) ∧
  (∀ (l0 l1 l3 l4 l5 l6 l7 l8 l9 : Option Value) (st : List Value) (σ : ri_S) (x : Int32), ev 222 (15, [l0, l1, some (.int x), l3, l4, l5, l6, l7, l8, l9], st) σ = ev 222 (16, [l0, l1, some (.int x), l3, l4, l5, l6, l7, l8, l9], .int x :: st) σ) ∧
  (∀ (L : ri_L) (st : List Value) (σ : ri_S), ev 222 (16, L, st) σ = ev 222 (18, L, .int 10 :: st) σ) ∧
  (∀ (L : ri_L) (st : List Value) (σ : ri_S) (x y : Int32), ev 222 (18, L, .int y :: .int x :: st) σ = if y = 0 then none else ev 222 (19, L, .int (x / y) :: st) σ) ∧
  (∀ (L : ri_L) (st : List Value) (σ : ri_S), ev 222 (19, L, st) σ = ev 222 (21, L, .int 10 :: st) σ) ∧
  (∀ (L : ri_L) (st : List Value) (σ : ri_S) (x y : Int32), ev 222 (21, L, .int y :: .int x :: st) σ = if y = 0 then none else ev 222 (22, L, .int (x - x / y * y) :: st) σ) ∧
  (∀ (l0 l1 l2 l3 l4 l5 l6 l7 l8 l9 : Option Value) (st : List Value) (σ : ri_S) (x : Int32), ev 222 (22, [l0, l1, l2, l3, l4, l5, l6, l7, l8, l9], .int x :: st) σ = ev 222 (24, [l0, l1, l2, l3, ri_clr l4, some (.int x), l6, l7, l8, l9], st) σ) ∧
  (∀ (l0 l1 l3 l4 l5 l6 l7 l8 l9 : Option Value) (st : List Value) (σ : ri_S) (x : Int32), ev 222 (24, [l0, l1, some (.int x), l3, l4, l5, l6, l7, l8, l9], st) σ = ev 222 (25, [l0, l1, some (.int x), l3, l4, l5, l6, l7, l8, l9], .int x :: st) σ) ∧
  (∀ (L : ri_L) (st : List Value) (σ : ri_S), ev 222 (25, L, st) σ = ev 222 (27, L, .int 10 :: st) σ) ∧
  (∀ (L : ri_L) (st : List Value) (σ : ri_S) (x y : Int32), ev 222 (27, L, .int y :: .int x :: st) σ = if y = 0 then none else ev 222 (28, L, .int (x - x / y * y) :: st) σ) ∧
  (∀ (l0 l1 l2 l3 l4 l5 l6 l7 l8 l9 : Option Value) (st : List Value) (σ : ri_S) (x : Int32), ev 222 (28, [l0, l1, l2, l3, l4, l5, l6, l7, l8, l9], .int x :: st) σ = ev 222 (30, [l0, l1, l2, l3, l4, ri_clr l5, some (.int x), l7, l8, l9], st) σ) ∧
  (∀ (l0 l1 l3 l4 l5 l6 l7 l8 l9 : Option Value) (st : List Value) (σ : ri_S) (x : Int32), ev 222 (30, [l0, l1, some (.int x), l3, l4, l5, l6, l7, l8, l9], st) σ = ev 222 (31, [l0, l1, some (.int x), l3, l4, l5, l6, l7, l8, l9], .int x :: st) σ) ∧
  (∀ (L : ri_L) (st : List Value) (σ : ri_S), ev 222 (31, L, st) σ = ev 222 (33, L, .int 10 :: st) σ) ∧
  (∀ (L : ri_L) (st : List Value) (σ : ri_S) (x y : Int32), ev 222 (33, L, .int y :: .int x :: st) σ = if y = 0 then none else ev 222 (34, L, .int (x / y) :: st) σ) ∧
  (∀ (L : ri_L) (st : List Value) (σ : ri_S), ev 222 (34, L, st) σ = ev 222 (36, L, .int 100 :: st) σ) ∧
  (∀ (L : ri_L) (st : List Value) (σ : ri_S) (x y : Int32), ev 222 (36, L, .int y :: .int x :: st) σ = if y = 0 then none else ev 222 (37, L, .int (x - x / y * y) :: st) σ) ∧
  (∀ (l0 l1 l2 l3 l4 l5 l6 l7 l8 l9 : Option Value) (st : List Value) (σ : ri_S) (x : Int32), ev 222 (37, [l0, l1, l2, l3, l4, l5, l6, l7, l8, l9], .int x :: st) σ = ev 222 (39, [l0, l1, l2, l3, l4, l5, ri_clr l6, some (.int x), l8, l9], st) σ) ∧
  (∀ (l0 l1 l3 l4 l5 l6 l7 l8 l9 : Option Value) (st : List Value) (σ : ri_S) (x : Int32), ev 222 (39, [l0, l1, some (.int x), l3, l4, l5, l6, l7, l8, l9], st) σ = ev 222 (40, [l0, l1, some (.int x), l3, l4, l5, l6, l7, l8, l9], .int x :: st) σ) ∧
  (∀ (L : ri_L) (st : List Value) (σ : ri_S), ev 222 (40, L, st) σ = ev 222 (43, L, .int 1000 :: st) σ) ∧
  (∀ (L : ri_L) (st : List Value) (σ : ri_S) (x y : Int32), ev 222 (43, L, .int y :: .int x :: st) σ = if y = 0 then none else ev 222 (44, L, .int (x - x / y * y) :: st) σ) ∧
  (∀ (l0 l1 l2 l3 l4 l5 l6 l7 l8 l9 : Option Value) (st : List Value) (σ : ri_S) (x : Int32), ev 222 (44, [l0, l1, l2, l3, l4, l5, l6, l7, l8, l9], .int x :: st) σ = ev 222 (46, [l0, l1, l2, l3, l4, l5, l6, ri_clr l7, some (.int x), l9], st) σ) ∧
  (∀ (l0 l1 l3 l4 l5 l6 l7 l8 l9 : Option Value) (st : List Value) (σ : ri_S) (x : Int32), ev 222 (46, [l0, l1, some (.int x), l3, l4, l5, l6, l7, l8, l9], st) σ = ev 222 (47, [l0, l1, some (.int x), l3, l4, l5, l6, l7, l8, l9], .int x :: st) σ) ∧
  (∀ (L : ri_L) (st : List Value) (σ : ri_S), ev 222 (47, L, st) σ = ev 222 (49, L, .int 100 :: st) σ) ∧
  (∀ (L : ri_L) (st : List Value) (σ : ri_S) (x y : Int32), ev 222 (49, L, .int y :: .int x :: st) σ = if y = 0 then none else ev 222 (50, L, .int (x - x / y * y) :: st) σ) ∧
  (∀ (l0 l1 l2 l3 l4 l5 l6 l7 l8 l9 : Option Value) (st : List Value) (σ : ri_S) (x : Int32), ev 222 (50, [l0, l1, l2, l3, l4, l5, l6, l7, l8, l9], .int x :: st) σ = ev 222 (52, [l0, l1, l2, l3, l4, l5, l6, l7, ri_clr l8, some (.int x)], st) σ) ∧
  (∀ (l0 l2 l3 l4 l5 l6 l7 l8 l9 : Option Value) (st : List Value) (σ : ri_S) (x : Int32), ev 222 (52, [l0, some (.int x), l2, l3, l4, l5, l6, l7, l8, l9], st) σ = ev 222 (53, [l0, some (.int x), l2, l3, l4, l5, l6, l7, l8, l9], .int x :: st) σ) ∧
  (∀ (L : ri_L) (st : List Value) (σ : ri_S) (x : Int32), ev 222 (53, L, .int x :: st) σ = if x = 1 then ev 222 (104, L, st) σ else if x = 2 then ev 222 (151, L, st) σ else if x = 3 then ev 222 (201, L, st) σ else if x = 4 then ev 222 (240, L, st) σ else if x = 5 then ev 222 (303, L, st) σ else if x = 6 then ev 222 (341, L, st) σ else if x = 7 then ev 222 (363, L, st) σ else if x = 8 then ev 222 (412, L, st) σ else if x = 9 then ev 222 (456, L, st) σ else ev 222 (492, L, st) σ) ∧
  (∀ (l0 l1 l2 l3 l4 l5 l7 l8 l9 : Option Value) (st : List Value) (σ : ri_S) (x : Int32), ev 222 (104, [l0, l1, l2, l3, l4, l5, some (.int x), l7, l8, l9], st) σ = ev 222 (106, [l0, l1, l2, l3, l4, l5, some (.int x), l7, l8, l9], .int x :: st) σ) ∧
  (∀ (L : ri_L) (st : List Value) (σ : ri_S) (x : Int32), ev 222 (106, L, .int x :: st) σ = if ¬ x = 0 then ev 222 (149, L, st) σ else ev 222 (109, L, st) σ) ∧
  (∀ (l1 l2 l3 l4 l5 l6 l7 l8 l9 : Option Value) (st : List Value) (σ : ri_S) (x : Nat), ev 222 (109, [some (.ref x), l1, l2, l3, l4, l5, l6, l7, l8, l9], st) σ = ev 222 (110, [some (.ref x), l1, l2, l3, l4, l5, l6, l7, l8, l9], .ref x :: st) σ) ∧
  (∀ (L : ri_L) (st : List Value) (σ : ri_S) (a : Nat), ev 222 (110, L, .ref a :: st) σ = tv_o 9 4 (σ.1 a) fun v => ev 222 (113, L, v :: st) σ) :=
  ⟨fun l0 l1 l3 l4 l5 l6 l7 l8 l9 st σ x => ev_p ((TP_222 _).trans rfl) rfl,
   fun L st σ => ev_p ((TP_222 _).trans rfl) rfl,
   fun L st σ x y => ev_d ((TP_222 _).trans rfl) rfl,
   fun l0 l1 l2 l3 l4 l5 l6 l7 l8 l9 st σ x => ev_p ((TP_222 _).trans rfl) rfl,
   fun l0 l1 l3 l4 l5 l6 l7 l8 l9 st σ x => ev_p ((TP_222 _).trans rfl) rfl,
   fun L st σ => ev_p ((TP_222 _).trans rfl) rfl,
   fun L st σ x y => ev_d ((TP_222 _).trans rfl) rfl,
   fun L st σ => ev_p ((TP_222 _).trans rfl) rfl,
   fun L st σ x y => ev_d ((TP_222 _).trans rfl) rfl,
   fun l0 l1 l2 l3 l4 l5 l6 l7 l8 l9 st σ x => ev_p ((TP_222 _).trans rfl) rfl,
   fun l0 l1 l3 l4 l5 l6 l7 l8 l9 st σ x => ev_p ((TP_222 _).trans rfl) rfl,
   fun L st σ => ev_p ((TP_222 _).trans rfl) rfl,
   fun L st σ x y => ev_d ((TP_222 _).trans rfl) rfl,
   fun L st σ => ev_p ((TP_222 _).trans rfl) rfl,
   fun L st σ x y => ev_d ((TP_222 _).trans rfl) rfl,
   fun l0 l1 l2 l3 l4 l5 l6 l7 l8 l9 st σ x => ev_p ((TP_222 _).trans rfl) rfl,
   fun l0 l1 l3 l4 l5 l6 l7 l8 l9 st σ x => ev_p ((TP_222 _).trans rfl) rfl,
   fun L st σ => ev_p ((TP_222 _).trans rfl) rfl,
   fun L st σ x y => ev_d ((TP_222 _).trans rfl) rfl,
   fun l0 l1 l2 l3 l4 l5 l6 l7 l8 l9 st σ x => ev_p ((TP_222 _).trans rfl) rfl,
   fun l0 l1 l3 l4 l5 l6 l7 l8 l9 st σ x => ev_p ((TP_222 _).trans rfl) rfl,
   fun L st σ => ev_p ((TP_222 _).trans rfl) rfl,
   fun L st σ x y => ev_d ((TP_222 _).trans rfl) rfl,
   fun L st σ => ev_p ((TP_222 _).trans rfl) rfl,
   fun L st σ x y => ev_d ((TP_222 _).trans rfl) rfl,
   fun l0 l1 l2 l3 l4 l5 l6 l7 l8 l9 st σ x => ev_p ((TP_222 _).trans rfl) rfl,
   fun l0 l1 l3 l4 l5 l6 l7 l8 l9 st σ x => ev_p ((TP_222 _).trans rfl) rfl,
   fun L st σ => ev_p ((TP_222 _).trans rfl) rfl,
   fun L st σ x y => ev_d ((TP_222 _).trans rfl) rfl,
   fun l0 l1 l2 l3 l4 l5 l6 l7 l8 l9 st σ x => ev_p ((TP_222 _).trans rfl) rfl,
   fun l0 l1 l3 l4 l5 l6 l7 l8 l9 st σ x => ev_p ((TP_222 _).trans rfl) rfl,
   fun L st σ => ev_p ((TP_222 _).trans rfl) rfl,
   fun L st σ x y => ev_d ((TP_222 _).trans rfl) rfl,
   fun l0 l1 l2 l3 l4 l5 l6 l7 l8 l9 st σ x => ev_p ((TP_222 _).trans rfl) rfl,
   fun l0 l2 l3 l4 l5 l6 l7 l8 l9 st σ x => ev_p ((TP_222 _).trans rfl) rfl,
   fun L st σ x => (ev_sw (lo := 1) (ts := [104, 151, 201, 240, 303, 341, 363, 412, 456]) (d := 492) ((TP_222 _).trans rfl)).trans (by simp only [ev_tab, ev_tab0, show (1 : Int32) + 1 = 2 from rfl, show (2 : Int32) + 1 = 3 from rfl, show (3 : Int32) + 1 = 4 from rfl, show (4 : Int32) + 1 = 5 from rfl, show (5 : Int32) + 1 = 6 from rfl, show (6 : Int32) + 1 = 7 from rfl, show (7 : Int32) + 1 = 8 from rfl, show (8 : Int32) + 1 = 9 from rfl, show (9 : Int32) + 1 = 10 from rfl]),
   fun l0 l1 l2 l3 l4 l5 l7 l8 l9 st σ x => ev_p ((TP_222 _).trans rfl) rfl,
   fun L st σ x => ev_b ((TP_222 _).trans rfl) rfl,
   fun l1 l2 l3 l4 l5 l6 l7 l8 l9 st σ x => ev_p ((TP_222 _).trans rfl) rfl,
   fun L st σ a => ev_getf ((TP_222 _).trans rfl)⟩
set_option maxRecDepth 8000 in
theorem I_222_1 :
  (∀ (l0 l1 l2 l4 l5 l6 l7 l8 l9 : Option Value) (st : List Value) (σ : ri_S) (x : Int32), ev 222 (113, [l0, l1, l2, some (.int x), l4, l5, l6, l7, l8, l9], st) σ = ev 222 (114, [l0, l1, l2, some (.int x), l4, l5, l6, l7, l8, l9], .int x :: st) σ) ∧
  (∀ (L : ri_L) (σ : ri_S) (a0 : Nat) (a1 : Int32), ev 222 (114, L, [.int a1, .ref a0]) σ = (cal 154 [.ref a0, .int a1] σ).bind fun q => ev 222 (117, L, q.1.toList ++ []) q.2) ∧
  (∀ (L : ri_L) (st : List Value) (σ : ri_S) (x : Int32), ev 222 (117, L, .int x :: st) σ = if x = 0 then ev 222 (149, L, st) σ else ev 222 (120, L, st) σ) ∧
  (∀ (l1 l2 l3 l4 l5 l6 l7 l8 l9 : Option Value) (st : List Value) (σ : ri_S) (x : Nat), ev 222 (120, [some (.ref x), l1, l2, l3, l4, l5, l6, l7, l8, l9], st) σ = ev 222 (121, [some (.ref x), l1, l2, l3, l4, l5, l6, l7, l8, l9], .ref x :: st) σ) ∧
  (∀ (L : ri_L) (st : List Value) (σ : ri_S) (a : Nat), ev 222 (121, L, .ref a :: st) σ = tv_o 9 4 (σ.1 a) fun v => ev 222 (124, L, v :: st) σ) ∧
  (∀ (l0 l1 l2 l3 l4 l5 l6 l8 l9 : Option Value) (st : List Value) (σ : ri_S) (x : Int32), ev 222 (124, [l0, l1, l2, l3, l4, l5, l6, some (.int x), l8, l9], st) σ = ev 222 (126, [l0, l1, l2, l3, l4, l5, l6, some (.int x), l8, l9], .int x :: st) σ) ∧
  (∀ (L : ri_L) (σ : ri_S) (a0 : Nat) (a1 : Int32), ev 222 (126, L, [.int a1, .ref a0]) σ = (cal 155 [.ref a0, .int a1] σ).bind fun q => ev 222 (129, L, q.1.toList ++ []) q.2) ∧
  (∀ (L : ri_L) (st : List Value) (σ : ri_S) (x : Int32), ev 222 (129, L, .int x :: st) σ = if x = 0 then ev 222 (149, L, st) σ else ev 222 (132, L, st) σ) ∧
  (∀ (l1 l2 l3 l4 l5 l6 l7 l8 l9 : Option Value) (st : List Value) (σ : ri_S) (x : Nat), ev 222 (132, [some (.ref x), l1, l2, l3, l4, l5, l6, l7, l8, l9], st) σ = ev 222 (133, [some (.ref x), l1, l2, l3, l4, l5, l6, l7, l8, l9], .ref x :: st) σ) ∧
  (∀ (L : ri_L) (st : List Value) (σ : ri_S) (a : Nat), ev 222 (133, L, .ref a :: st) σ = tv_o 9 4 (σ.1 a) fun v => ev 222 (136, L, v :: st) σ) ∧
  (∀ (l0 l1 l2 l4 l5 l6 l7 l8 l9 : Option Value) (st : List Value) (σ : ri_S) (x : Int32), ev 222 (136, [l0, l1, l2, some (.int x), l4, l5, l6, l7, l8, l9], st) σ = ev 222 (137, [l0, l1, l2, some (.int x), l4, l5, l6, l7, l8, l9], .int x :: st) σ) ∧
  (∀ (l0 l1 l2 l3 l4 l5 l6 l8 l9 : Option Value) (st : List Value) (σ : ri_S) (x : Int32), ev 222 (137, [l0, l1, l2, l3, l4, l5, l6, some (.int x), l8, l9], st) σ = ev 222 (139, [l0, l1, l2, l3, l4, l5, l6, some (.int x), l8, l9], .int x :: st) σ) ∧
  (∀ (L : ri_L) (σ : ri_S) (a0 : Nat) (a1 : Int32) (a2 : Int32), ev 222 (139, L, [.int a2, .int a1, .ref a0]) σ = (cal 172 [.ref a0, .int a1, .int a2] σ).bind fun q => ev 222 (142, L, q.1.toList ++ []) q.2) ∧
  (∀ (L : ri_L) (st : List Value) (σ : ri_S) (x : Int32), ev 222 (142, L, .int x :: st) σ = if ¬ x = 0 then ev 222 (149, L, st) σ else ev 222 (145, L, st) σ) ∧
  (∀ (L : ri_L) (st : List Value) (σ : ri_S), ev 222 (145, L, st) σ = ev 222 (146, L, .int 1 :: st) σ) ∧
  (∀ (L : ri_L) (st : List Value) (σ : ri_S), ev 222 (146, L, st) σ = ev 222 (150, L, st) σ) ∧
  (∀ (L : ri_L) (st : List Value) (σ : ri_S), ev 222 (149, L, st) σ = ev 222 (150, L, .int 0 :: st) σ) ∧
  (∀ (L : ri_L) (σ : ri_S) (x : Int32), ev 222 (150, L, [.int x]) σ = tv_b x (some (some (.int x), σ))) ∧
  (∀ (l0 l1 l2 l3 l4 l5 l6 l7 l8 : Option Value) (st : List Value) (σ : ri_S) (x : Int32), ev 222 (151, [l0, l1, l2, l3, l4, l5, l6, l7, l8, some (.int x)], st) σ = ev 222 (153, [l0, l1, l2, l3, l4, l5, l6, l7, l8, some (.int x)], .int x :: st) σ) ∧
  (∀ (L : ri_L) (st : List Value) (σ : ri_S) (x : Int32), ev 222 (153, L, .int x :: st) σ = if ¬ x = 0 then ev 222 (199, L, st) σ else ev 222 (156, L, st) σ) ∧
  (∀ (l0 l1 l2 l3 l5 l6 l7 l8 l9 : Option Value) (st : List Value) (σ : ri_S) (x : Int32), ev 222 (156, [l0, l1, l2, l3, some (.int x), l5, l6, l7, l8, l9], st) σ = ev 222 (158, [l0, l1, l2, l3, some (.int x), l5, l6, l7, l8, l9], .int x :: st) σ) ∧
  (∀ (L : ri_L) (st : List Value) (σ : ri_S), ev 222 (158, L, st) σ = ev 222 (159, L, .int 2 :: st) σ) ∧
  (∀ (L : ri_L) (st : List Value) (σ : ri_S) (x y : Int32), ev 222 (159, L, .int y :: .int x :: st) σ = if y ≤ x then ev 222 (199, L, st) σ else ev 222 (162, L, st) σ) ∧
  (∀ (l1 l2 l3 l4 l5 l6 l7 l8 l9 : Option Value) (st : List Value) (σ : ri_S) (x : Nat), ev 222 (162, [some (.ref x), l1, l2, l3, l4, l5, l6, l7, l8, l9], st) σ = ev 222 (163, [some (.ref x), l1, l2, l3, l4, l5, l6, l7, l8, l9], .ref x :: st) σ) ∧
  (∀ (L : ri_L) (st : List Value) (σ : ri_S) (a : Nat), ev 222 (163, L, .ref a :: st) σ = tv_o 9 4 (σ.1 a) fun v => ev 222 (166, L, v :: st) σ) ∧
  (∀ (l0 l1 l2 l4 l5 l6 l7 l8 l9 : Option Value) (st : List Value) (σ : ri_S) (x : Int32), ev 222 (166, [l0, l1, l2, some (.int x), l4, l5, l6, l7, l8, l9], st) σ = ev 222 (167, [l0, l1, l2, some (.int x), l4, l5, l6, l7, l8, l9], .int x :: st) σ) ∧
  (∀ (L : ri_L) (σ : ri_S) (a0 : Nat) (a1 : Int32), ev 222 (167, L, [.int a1, .ref a0]) σ = (cal 154 [.ref a0, .int a1] σ).bind fun q => ev 222 (170, L, q.1.toList ++ []) q.2) ∧
  (∀ (L : ri_L) (st : List Value) (σ : ri_S) (x : Int32), ev 222 (170, L, .int x :: st) σ = if x = 0 then ev 222 (199, L, st) σ else ev 222 (173, L, st) σ) ∧
  (∀ (l1 l2 l3 l4 l5 l6 l7 l8 l9 : Option Value) (st : List Value) (σ : ri_S) (x : Nat), ev 222 (173, [some (.ref x), l1, l2, l3, l4, l5, l6, l7, l8, l9], st) σ = ev 222 (174, [some (.ref x), l1, l2, l3, l4, l5, l6, l7, l8, l9], .ref x :: st) σ) ∧
  (∀ (L : ri_L) (st : List Value) (σ : ri_S) (a : Nat), ev 222 (174, L, .ref a :: st) σ = tv_o 9 4 (σ.1 a) fun v => ev 222 (177, L, v :: st) σ) ∧
  (∀ (l0 l1 l2 l4 l5 l6 l7 l8 l9 : Option Value) (st : List Value) (σ : ri_S) (x : Int32), ev 222 (177, [l0, l1, l2, some (.int x), l4, l5, l6, l7, l8, l9], st) σ = ev 222 (178, [l0, l1, l2, some (.int x), l4, l5, l6, l7, l8, l9], .int x :: st) σ) ∧
  (∀ (l0 l1 l2 l3 l5 l6 l7 l8 l9 : Option Value) (st : List Value) (σ : ri_S) (x : Int32), ev 222 (178, [l0, l1, l2, l3, some (.int x), l5, l6, l7, l8, l9], st) σ = ev 222 (180, [l0, l1, l2, l3, some (.int x), l5, l6, l7, l8, l9], .int x :: st) σ) ∧
  (∀ (L : ri_L) (st : List Value) (σ : ri_S), ev 222 (180, L, st) σ = ev 222 (181, L, .int 1 :: st) σ) ∧
  (∀ (L : ri_L) (st : List Value) (σ : ri_S) (x y : Int32), ev 222 (181, L, .int y :: .int x :: st) σ = if ¬ x = y then ev 222 (188, L, st) σ else ev 222 (184, L, st) σ) ∧
  (∀ (L : ri_L) (st : List Value) (σ : ri_S), ev 222 (184, L, st) σ = ev 222 (185, L, .int 1 :: st) σ) ∧
  (∀ (L : ri_L) (st : List Value) (σ : ri_S), ev 222 (185, L, st) σ = ev 222 (189, L, st) σ) ∧
  (∀ (L : ri_L) (st : List Value) (σ : ri_S), ev 222 (188, L, st) σ = ev 222 (189, L, .int (-1) :: st) σ) ∧
  (∀ (L : ri_L) (σ : ri_S) (a0 : Nat) (a1 : Int32) (a2 : Int32), ev 222 (189, L, [.int a2, .int a1, .ref a0]) σ = (cal 173 [.ref a0, .int a1, .int a2] σ).bind fun q => ev 222 (192, L, q.1.toList ++ []) q.2) ∧
  (∀ (L : ri_L) (st : List Value) (σ : ri_S) (x : Int32), ev 222 (192, L, .int x :: st) σ = if ¬ x = 0 then ev 222 (199, L, st) σ else ev 222 (195, L, st) σ) ∧
  (∀ (L : ri_L) (st : List Value) (σ : ri_S), ev 222 (195, L, st) σ = ev 222 (196, L, .int 1 :: st) σ) :=
  ⟨fun l0 l1 l2 l4 l5 l6 l7 l8 l9 st σ x => ev_p ((TP_222 _).trans rfl) rfl,
   fun L σ a0 a1 => ev_call ((TP_222 _).trans rfl) rfl rfl rfl rfl,
   fun L st σ x => ev_b ((TP_222 _).trans rfl) rfl,
   fun l1 l2 l3 l4 l5 l6 l7 l8 l9 st σ x => ev_p ((TP_222 _).trans rfl) rfl,
   fun L st σ a => ev_getf ((TP_222 _).trans rfl),
   fun l0 l1 l2 l3 l4 l5 l6 l8 l9 st σ x => ev_p ((TP_222 _).trans rfl) rfl,
   fun L σ a0 a1 => ev_call ((TP_222 _).trans rfl) rfl rfl rfl rfl,
   fun L st σ x => ev_b ((TP_222 _).trans rfl) rfl,
   fun l1 l2 l3 l4 l5 l6 l7 l8 l9 st σ x => ev_p ((TP_222 _).trans rfl) rfl,
   fun L st σ a => ev_getf ((TP_222 _).trans rfl),
   fun l0 l1 l2 l4 l5 l6 l7 l8 l9 st σ x => ev_p ((TP_222 _).trans rfl) rfl,
   fun l0 l1 l2 l3 l4 l5 l6 l8 l9 st σ x => ev_p ((TP_222 _).trans rfl) rfl,
   fun L σ a0 a1 a2 => ev_call ((TP_222 _).trans rfl) rfl rfl rfl rfl,
   fun L st σ x => ev_b ((TP_222 _).trans rfl) rfl,
   fun L st σ => ev_p ((TP_222 _).trans rfl) rfl,
   fun L st σ => ev_p ((TP_222 _).trans rfl) rfl,
   fun L st σ => ev_p ((TP_222 _).trans rfl) rfl,
   fun L σ x => ev_r ((TP_222 _).trans rfl) rfl,
   fun l0 l1 l2 l3 l4 l5 l6 l7 l8 st σ x => ev_p ((TP_222 _).trans rfl) rfl,
   fun L st σ x => ev_b ((TP_222 _).trans rfl) rfl,
   fun l0 l1 l2 l3 l5 l6 l7 l8 l9 st σ x => ev_p ((TP_222 _).trans rfl) rfl,
   fun L st σ => ev_p ((TP_222 _).trans rfl) rfl,
   fun L st σ x y => ev_b ((TP_222 _).trans rfl) rfl,
   fun l1 l2 l3 l4 l5 l6 l7 l8 l9 st σ x => ev_p ((TP_222 _).trans rfl) rfl,
   fun L st σ a => ev_getf ((TP_222 _).trans rfl),
   fun l0 l1 l2 l4 l5 l6 l7 l8 l9 st σ x => ev_p ((TP_222 _).trans rfl) rfl,
   fun L σ a0 a1 => ev_call ((TP_222 _).trans rfl) rfl rfl rfl rfl,
   fun L st σ x => ev_b ((TP_222 _).trans rfl) rfl,
   fun l1 l2 l3 l4 l5 l6 l7 l8 l9 st σ x => ev_p ((TP_222 _).trans rfl) rfl,
   fun L st σ a => ev_getf ((TP_222 _).trans rfl),
   fun l0 l1 l2 l4 l5 l6 l7 l8 l9 st σ x => ev_p ((TP_222 _).trans rfl) rfl,
   fun l0 l1 l2 l3 l5 l6 l7 l8 l9 st σ x => ev_p ((TP_222 _).trans rfl) rfl,
   fun L st σ => ev_p ((TP_222 _).trans rfl) rfl,
   fun L st σ x y => ev_b ((TP_222 _).trans rfl) rfl,
   fun L st σ => ev_p ((TP_222 _).trans rfl) rfl,
   fun L st σ => ev_p ((TP_222 _).trans rfl) rfl,
   fun L st σ => ev_p ((TP_222 _).trans rfl) rfl,
   fun L σ a0 a1 a2 => ev_call ((TP_222 _).trans rfl) rfl rfl rfl rfl,
   fun L st σ x => ev_b ((TP_222 _).trans rfl) rfl,
   fun L st σ => ev_p ((TP_222 _).trans rfl) rfl⟩
set_option maxRecDepth 8000 in
theorem I_222_2 :
  (∀ (L : ri_L) (st : List Value) (σ : ri_S), ev 222 (196, L, st) σ = ev 222 (200, L, st) σ) ∧
  (∀ (L : ri_L) (st : List Value) (σ : ri_S), ev 222 (199, L, st) σ = ev 222 (200, L, .int 0 :: st) σ) ∧
  (∀ (L : ri_L) (σ : ri_S) (x : Int32), ev 222 (200, L, [.int x]) σ = tv_b x (some (some (.int x), σ))) ∧
  (∀ (l0 l1 l2 l3 l4 l5 l6 l7 l9 : Option Value) (st : List Value) (σ : ri_S) (x : Int32), ev 222 (201, [l0, l1, l2, l3, l4, l5, l6, l7, some (.int x), l9], st) σ = ev 222 (203, [l0, l1, l2, l3, l4, l5, l6, l7, some (.int x), l9], .int x :: st) σ) ∧
  (∀ (L : ri_L) (st : List Value) (σ : ri_S), ev 222 (203, L, st) σ = ev 222 (205, L, .int 9 :: st) σ) ∧
  (∀ (L : ri_L) (st : List Value) (σ : ri_S) (x y : Int32), ev 222 (205, L, .int y :: .int x :: st) σ = if y ≤ x then ev 222 (238, L, st) σ else ev 222 (208, L, st) σ) ∧
  (∀ (l1 l2 l3 l4 l5 l6 l7 l8 l9 : Option Value) (st : List Value) (σ : ri_S) (x : Nat), ev 222 (208, [some (.ref x), l1, l2, l3, l4, l5, l6, l7, l8, l9], st) σ = ev 222 (209, [some (.ref x), l1, l2, l3, l4, l5, l6, l7, l8, l9], .ref x :: st) σ) ∧
  (∀ (L : ri_L) (st : List Value) (σ : ri_S) (a : Nat), ev 222 (209, L, .ref a :: st) σ = tv_o 9 4 (σ.1 a) fun v => ev 222 (212, L, v :: st) σ) ∧
  (∀ (l0 l1 l2 l4 l5 l6 l7 l8 l9 : Option Value) (st : List Value) (σ : ri_S) (x : Int32), ev 222 (212, [l0, l1, l2, some (.int x), l4, l5, l6, l7, l8, l9], st) σ = ev 222 (213, [l0, l1, l2, some (.int x), l4, l5, l6, l7, l8, l9], .int x :: st) σ) ∧
  (∀ (L : ri_L) (σ : ri_S) (a0 : Nat) (a1 : Int32), ev 222 (213, L, [.int a1, .ref a0]) σ = (cal 152 [.ref a0, .int a1] σ).bind fun q => ev 222 (216, L, q.1.toList ++ []) q.2) ∧
  (∀ (L : ri_L) (st : List Value) (σ : ri_S) (x : Int32), ev 222 (216, L, .int x :: st) σ = if x = 0 then ev 222 (238, L, st) σ else ev 222 (219, L, st) σ) ∧
  (∀ (l1 l2 l3 l4 l5 l6 l7 l8 l9 : Option Value) (st : List Value) (σ : ri_S) (x : Nat), ev 222 (219, [some (.ref x), l1, l2, l3, l4, l5, l6, l7, l8, l9], st) σ = ev 222 (220, [some (.ref x), l1, l2, l3, l4, l5, l6, l7, l8, l9], .ref x :: st) σ) ∧
  (∀ (L : ri_L) (st : List Value) (σ : ri_S) (a : Nat), ev 222 (220, L, .ref a :: st) σ = tv_o 9 4 (σ.1 a) fun v => ev 222 (223, L, v :: st) σ) ∧
  (∀ (l0 l1 l2 l4 l5 l6 l7 l8 l9 : Option Value) (st : List Value) (σ : ri_S) (x : Int32), ev 222 (223, [l0, l1, l2, some (.int x), l4, l5, l6, l7, l8, l9], st) σ = ev 222 (224, [l0, l1, l2, some (.int x), l4, l5, l6, l7, l8, l9], .int x :: st) σ) ∧
  (∀ (l0 l1 l2 l3 l4 l5 l7 l8 l9 : Option Value) (st : List Value) (σ : ri_S) (x : Int32), ev 222 (224, [l0, l1, l2, l3, l4, l5, some (.int x), l7, l8, l9], st) σ = ev 222 (226, [l0, l1, l2, l3, l4, l5, some (.int x), l7, l8, l9], .int x :: st) σ) ∧
  (∀ (L : ri_L) (st : List Value) (σ : ri_S), ev 222 (226, L, st) σ = ev 222 (227, L, .int 4 :: st) σ) ∧
  (∀ (L : ri_L) (st : List Value) (σ : ri_S) (x y : Int32), ev 222 (227, L, .int y :: .int x :: st) σ = ev 222 (228, L, .int (x - y) :: st) σ) ∧
  (∀ (L : ri_L) (σ : ri_S) (a0 : Nat) (a1 : Int32) (a2 : Int32), ev 222 (228, L, [.int a2, .int a1, .ref a0]) σ = (cal 181 [.ref a0, .int a1, .int a2] σ).bind fun q => ev 222 (231, L, q.1.toList ++ []) q.2) ∧
  (∀ (L : ri_L) (st : List Value) (σ : ri_S) (x : Int32), ev 222 (231, L, .int x :: st) σ = if x < 0 then ev 222 (238, L, st) σ else ev 222 (234, L, st) σ) ∧
  (∀ (L : ri_L) (st : List Value) (σ : ri_S), ev 222 (234, L, st) σ = ev 222 (235, L, .int 1 :: st) σ) ∧
  (∀ (L : ri_L) (st : List Value) (σ : ri_S), ev 222 (235, L, st) σ = ev 222 (239, L, st) σ) ∧
  (∀ (L : ri_L) (st : List Value) (σ : ri_S), ev 222 (238, L, st) σ = ev 222 (239, L, .int 0 :: st) σ) ∧
  (∀ (L : ri_L) (σ : ri_S) (x : Int32), ev 222 (239, L, [.int x]) σ = tv_b x (some (some (.int x), σ))) ∧
  (∀ (l0 l1 l2 l3 l4 l5 l7 l8 l9 : Option Value) (st : List Value) (σ : ri_S) (x : Int32), ev 222 (240, [l0, l1, l2, l3, l4, l5, some (.int x), l7, l8, l9], st) σ = ev 222 (242, [l0, l1, l2, l3, l4, l5, some (.int x), l7, l8, l9], .int x :: st) σ) ∧
  (∀ (L : ri_L) (st : List Value) (σ : ri_S) (x : Int32), ev 222 (242, L, .int x :: st) σ = if ¬ x = 0 then ev 222 (301, L, st) σ else ev 222 (245, L, st) σ) ∧
  (∀ (l1 l2 l3 l4 l5 l6 l7 l8 l9 : Option Value) (st : List Value) (σ : ri_S) (x : Nat), ev 222 (245, [some (.ref x), l1, l2, l3, l4, l5, l6, l7, l8, l9], st) σ = ev 222 (246, [some (.ref x), l1, l2, l3, l4, l5, l6, l7, l8, l9], .ref x :: st) σ) ∧
  (∀ (L : ri_L) (st : List Value) (σ : ri_S) (a : Nat), ev 222 (246, L, .ref a :: st) σ = tv_o 9 4 (σ.1 a) fun v => ev 222 (249, L, v :: st) σ) ∧
  (∀ (l0 l1 l2 l4 l5 l6 l7 l8 l9 : Option Value) (st : List Value) (σ : ri_S) (x : Int32), ev 222 (249, [l0, l1, l2, some (.int x), l4, l5, l6, l7, l8, l9], st) σ = ev 222 (250, [l0, l1, l2, some (.int x), l4, l5, l6, l7, l8, l9], .int x :: st) σ) ∧
  (∀ (L : ri_L) (σ : ri_S) (a0 : Nat) (a1 : Int32), ev 222 (250, L, [.int a1, .ref a0]) σ = (cal 154 [.ref a0, .int a1] σ).bind fun q => ev 222 (253, L, q.1.toList ++ []) q.2) ∧
  (∀ (L : ri_L) (st : List Value) (σ : ri_S) (x : Int32), ev 222 (253, L, .int x :: st) σ = if x = 0 then ev 222 (301, L, st) σ else ev 222 (256, L, st) σ) ∧
  (∀ (l1 l2 l3 l4 l5 l6 l7 l8 l9 : Option Value) (st : List Value) (σ : ri_S) (x : Nat), ev 222 (256, [some (.ref x), l1, l2, l3, l4, l5, l6, l7, l8, l9], st) σ = ev 222 (257, [some (.ref x), l1, l2, l3, l4, l5, l6, l7, l8, l9], .ref x :: st) σ) ∧
  (∀ (L : ri_L) (st : List Value) (σ : ri_S) (a : Nat), ev 222 (257, L, .ref a :: st) σ = tv_o 9 4 (σ.1 a) fun v => ev 222 (260, L, v :: st) σ) ∧
  (∀ (l0 l1 l2 l3 l5 l6 l7 l8 l9 : Option Value) (st : List Value) (σ : ri_S) (x : Int32), ev 222 (260, [l0, l1, l2, l3, some (.int x), l5, l6, l7, l8, l9], st) σ = ev 222 (262, [l0, l1, l2, l3, some (.int x), l5, l6, l7, l8, l9], .int x :: st) σ) ∧
  (∀ (l0 l1 l2 l3 l4 l6 l7 l8 l9 : Option Value) (st : List Value) (σ : ri_S) (x : Int32), ev 222 (262, [l0, l1, l2, l3, l4, some (.int x), l6, l7, l8, l9], st) σ = ev 222 (264, [l0, l1, l2, l3, l4, some (.int x), l6, l7, l8, l9], .int x :: st) σ) ∧
  (∀ (L : ri_L) (σ : ri_S) (a0 : Nat) (a1 : Int32) (a2 : Int32), ev 222 (264, L, [.int a2, .int a1, .ref a0]) σ = (cal 153 [.ref a0, .int a1, .int a2] σ).bind fun q => ev 222 (267, L, q.1.toList ++ []) q.2) ∧
  (∀ (L : ri_L) (st : List Value) (σ : ri_S) (x : Int32), ev 222 (267, L, .int x :: st) σ = if x = 0 then ev 222 (301, L, st) σ else ev 222 (270, L, st) σ) ∧
  (∀ (l1 l2 l3 l4 l5 l6 l7 l8 l9 : Option Value) (st : List Value) (σ : ri_S) (x : Nat), ev 222 (270, [some (.ref x), l1, l2, l3, l4, l5, l6, l7, l8, l9], st) σ = ev 222 (271, [some (.ref x), l1, l2, l3, l4, l5, l6, l7, l8, l9], .ref x :: st) σ) ∧
  (∀ (L : ri_L) (st : List Value) (σ : ri_S) (a : Nat), ev 222 (271, L, .ref a :: st) σ = tv_o 9 4 (σ.1 a) fun v => ev 222 (274, L, v :: st) σ) ∧
  (∀ (l0 l1 l2 l4 l5 l6 l7 l8 l9 : Option Value) (st : List Value) (σ : ri_S) (x : Int32), ev 222 (274, [l0, l1, l2, some (.int x), l4, l5, l6, l7, l8, l9], st) σ = ev 222 (275, [l0, l1, l2, some (.int x), l4, l5, l6, l7, l8, l9], .int x :: st) σ) ∧
  (∀ (L : ri_L) (st : List Value) (σ : ri_S), ev 222 (275, L, st) σ = ev 222 (276, L, .int 1 :: st) σ) :=
  ⟨fun L st σ => ev_p ((TP_222 _).trans rfl) rfl,
   fun L st σ => ev_p ((TP_222 _).trans rfl) rfl,
   fun L σ x => ev_r ((TP_222 _).trans rfl) rfl,
   fun l0 l1 l2 l3 l4 l5 l6 l7 l9 st σ x => ev_p ((TP_222 _).trans rfl) rfl,
   fun L st σ => ev_p ((TP_222 _).trans rfl) rfl,
   fun L st σ x y => ev_b ((TP_222 _).trans rfl) rfl,
   fun l1 l2 l3 l4 l5 l6 l7 l8 l9 st σ x => ev_p ((TP_222 _).trans rfl) rfl,
   fun L st σ a => ev_getf ((TP_222 _).trans rfl),
   fun l0 l1 l2 l4 l5 l6 l7 l8 l9 st σ x => ev_p ((TP_222 _).trans rfl) rfl,
   fun L σ a0 a1 => ev_call ((TP_222 _).trans rfl) rfl rfl rfl rfl,
   fun L st σ x => ev_b ((TP_222 _).trans rfl) rfl,
   fun l1 l2 l3 l4 l5 l6 l7 l8 l9 st σ x => ev_p ((TP_222 _).trans rfl) rfl,
   fun L st σ a => ev_getf ((TP_222 _).trans rfl),
   fun l0 l1 l2 l4 l5 l6 l7 l8 l9 st σ x => ev_p ((TP_222 _).trans rfl) rfl,
   fun l0 l1 l2 l3 l4 l5 l7 l8 l9 st σ x => ev_p ((TP_222 _).trans rfl) rfl,
   fun L st σ => ev_p ((TP_222 _).trans rfl) rfl,
   fun L st σ x y => ev_p ((TP_222 _).trans rfl) rfl,
   fun L σ a0 a1 a2 => ev_call ((TP_222 _).trans rfl) rfl rfl rfl rfl,
   fun L st σ x => ev_b ((TP_222 _).trans rfl) rfl,
   fun L st σ => ev_p ((TP_222 _).trans rfl) rfl,
   fun L st σ => ev_p ((TP_222 _).trans rfl) rfl,
   fun L st σ => ev_p ((TP_222 _).trans rfl) rfl,
   fun L σ x => ev_r ((TP_222 _).trans rfl) rfl,
   fun l0 l1 l2 l3 l4 l5 l7 l8 l9 st σ x => ev_p ((TP_222 _).trans rfl) rfl,
   fun L st σ x => ev_b ((TP_222 _).trans rfl) rfl,
   fun l1 l2 l3 l4 l5 l6 l7 l8 l9 st σ x => ev_p ((TP_222 _).trans rfl) rfl,
   fun L st σ a => ev_getf ((TP_222 _).trans rfl),
   fun l0 l1 l2 l4 l5 l6 l7 l8 l9 st σ x => ev_p ((TP_222 _).trans rfl) rfl,
   fun L σ a0 a1 => ev_call ((TP_222 _).trans rfl) rfl rfl rfl rfl,
   fun L st σ x => ev_b ((TP_222 _).trans rfl) rfl,
   fun l1 l2 l3 l4 l5 l6 l7 l8 l9 st σ x => ev_p ((TP_222 _).trans rfl) rfl,
   fun L st σ a => ev_getf ((TP_222 _).trans rfl),
   fun l0 l1 l2 l3 l5 l6 l7 l8 l9 st σ x => ev_p ((TP_222 _).trans rfl) rfl,
   fun l0 l1 l2 l3 l4 l6 l7 l8 l9 st σ x => ev_p ((TP_222 _).trans rfl) rfl,
   fun L σ a0 a1 a2 => ev_call ((TP_222 _).trans rfl) rfl rfl rfl rfl,
   fun L st σ x => ev_b ((TP_222 _).trans rfl) rfl,
   fun l1 l2 l3 l4 l5 l6 l7 l8 l9 st σ x => ev_p ((TP_222 _).trans rfl) rfl,
   fun L st σ a => ev_getf ((TP_222 _).trans rfl),
   fun l0 l1 l2 l4 l5 l6 l7 l8 l9 st σ x => ev_p ((TP_222 _).trans rfl) rfl,
   fun L st σ => ev_p ((TP_222 _).trans rfl) rfl⟩
set_option maxRecDepth 8000 in
theorem I_222_3 :
  (∀ (L : ri_L) (σ : ri_S) (a0 : Nat) (a1 : Int32) (a2 : Int32), ev 222 (276, L, [.int a2, .int a1, .ref a0]) σ = (cal 150 [.ref a0, .int a1, .int a2] σ).bind fun q => ev 222 (279, L, q.1.toList ++ []) q.2) ∧
  (∀ (l0 l1 l2 l3 l5 l6 l7 l8 l9 : Option Value) (st : List Value) (σ : ri_S) (x : Int32), ev 222 (279, [l0, l1, l2, l3, some (.int x), l5, l6, l7, l8, l9], st) σ = ev 222 (281, [l0, l1, l2, l3, some (.int x), l5, l6, l7, l8, l9], .int x :: st) σ) ∧
  (∀ (L : ri_L) (st : List Value) (σ : ri_S) (x y : Int32), ev 222 (281, L, .int y :: .int x :: st) σ = if ¬ x = y then ev 222 (301, L, st) σ else ev 222 (284, L, st) σ) ∧
  (∀ (l1 l2 l3 l4 l5 l6 l7 l8 l9 : Option Value) (st : List Value) (σ : ri_S) (x : Nat), ev 222 (284, [some (.ref x), l1, l2, l3, l4, l5, l6, l7, l8, l9], st) σ = ev 222 (285, [some (.ref x), l1, l2, l3, l4, l5, l6, l7, l8, l9], .ref x :: st) σ) ∧
  (∀ (L : ri_L) (st : List Value) (σ : ri_S) (a : Nat), ev 222 (285, L, .ref a :: st) σ = tv_o 9 4 (σ.1 a) fun v => ev 222 (288, L, v :: st) σ) ∧
  (∀ (l0 l1 l2 l4 l5 l6 l7 l8 l9 : Option Value) (st : List Value) (σ : ri_S) (x : Int32), ev 222 (288, [l0, l1, l2, some (.int x), l4, l5, l6, l7, l8, l9], st) σ = ev 222 (289, [l0, l1, l2, some (.int x), l4, l5, l6, l7, l8, l9], .int x :: st) σ) ∧
  (∀ (L : ri_L) (σ : ri_S) (a0 : Nat) (a1 : Int32), ev 222 (289, L, [.int a1, .ref a0]) σ = (cal 158 [.ref a0, .int a1] σ).bind fun q => ev 222 (292, L, q.1.toList ++ []) q.2) ∧
  (∀ (l0 l1 l2 l3 l4 l6 l7 l8 l9 : Option Value) (st : List Value) (σ : ri_S) (x : Int32), ev 222 (292, [l0, l1, l2, l3, l4, some (.int x), l6, l7, l8, l9], st) σ = ev 222 (294, [l0, l1, l2, l3, l4, some (.int x), l6, l7, l8, l9], .int x :: st) σ) ∧
  (∀ (L : ri_L) (st : List Value) (σ : ri_S) (x y : Int32), ev 222 (294, L, .int y :: .int x :: st) σ = if ¬ x = y then ev 222 (301, L, st) σ else ev 222 (297, L, st) σ) ∧
  (∀ (L : ri_L) (st : List Value) (σ : ri_S), ev 222 (297, L, st) σ = ev 222 (298, L, .int 1 :: st) σ) ∧
  (∀ (L : ri_L) (st : List Value) (σ : ri_S), ev 222 (298, L, st) σ = ev 222 (302, L, st) σ) ∧
  (∀ (L : ri_L) (st : List Value) (σ : ri_S), ev 222 (301, L, st) σ = ev 222 (302, L, .int 0 :: st) σ) ∧
  (∀ (L : ri_L) (σ : ri_S) (x : Int32), ev 222 (302, L, [.int x]) σ = tv_b x (some (some (.int x), σ))) ∧
  (∀ (l0 l1 l2 l3 l4 l5 l6 l7 l9 : Option Value) (st : List Value) (σ : ri_S) (x : Int32), ev 222 (303, [l0, l1, l2, l3, l4, l5, l6, l7, some (.int x), l9], st) σ = ev 222 (305, [l0, l1, l2, l3, l4, l5, l6, l7, some (.int x), l9], .int x :: st) σ) ∧
  (∀ (L : ri_L) (st : List Value) (σ : ri_S), ev 222 (305, L, st) σ = ev 222 (307, L, .int 10 :: st) σ) ∧
  (∀ (L : ri_L) (st : List Value) (σ : ri_S) (x y : Int32), ev 222 (307, L, .int y :: .int x :: st) σ = if y ≤ x then ev 222 (339, L, st) σ else ev 222 (310, L, st) σ) ∧
  (∀ (l1 l2 l3 l4 l5 l6 l7 l8 l9 : Option Value) (st : List Value) (σ : ri_S) (x : Nat), ev 222 (310, [some (.ref x), l1, l2, l3, l4, l5, l6, l7, l8, l9], st) σ = ev 222 (311, [some (.ref x), l1, l2, l3, l4, l5, l6, l7, l8, l9], .ref x :: st) σ) ∧
  (∀ (L : ri_L) (st : List Value) (σ : ri_S) (a : Nat), ev 222 (311, L, .ref a :: st) σ = tv_o 9 4 (σ.1 a) fun v => ev 222 (314, L, v :: st) σ) ∧
  (∀ (l0 l1 l2 l4 l5 l6 l7 l8 l9 : Option Value) (st : List Value) (σ : ri_S) (x : Int32), ev 222 (314, [l0, l1, l2, some (.int x), l4, l5, l6, l7, l8, l9], st) σ = ev 222 (315, [l0, l1, l2, some (.int x), l4, l5, l6, l7, l8, l9], .int x :: st) σ) ∧
  (∀ (L : ri_L) (σ : ri_S) (a0 : Nat) (a1 : Int32), ev 222 (315, L, [.int a1, .ref a0]) σ = (cal 152 [.ref a0, .int a1] σ).bind fun q => ev 222 (318, L, q.1.toList ++ []) q.2) ∧
  (∀ (L : ri_L) (st : List Value) (σ : ri_S) (x : Int32), ev 222 (318, L, .int x :: st) σ = if x = 0 then ev 222 (339, L, st) σ else ev 222 (321, L, st) σ) ∧
  (∀ (l1 l2 l3 l4 l5 l6 l7 l8 l9 : Option Value) (st : List Value) (σ : ri_S) (x : Nat), ev 222 (321, [some (.ref x), l1, l2, l3, l4, l5, l6, l7, l8, l9], st) σ = ev 222 (322, [some (.ref x), l1, l2, l3, l4, l5, l6, l7, l8, l9], .ref x :: st) σ) ∧
  (∀ (L : ri_L) (st : List Value) (σ : ri_S) (a : Nat), ev 222 (322, L, .ref a :: st) σ = tv_o 9 4 (σ.1 a) fun v => ev 222 (325, L, v :: st) σ) ∧
  (∀ (l0 l1 l2 l4 l5 l6 l7 l8 l9 : Option Value) (st : List Value) (σ : ri_S) (x : Int32), ev 222 (325, [l0, l1, l2, some (.int x), l4, l5, l6, l7, l8, l9], st) σ = ev 222 (326, [l0, l1, l2, some (.int x), l4, l5, l6, l7, l8, l9], .int x :: st) σ) ∧
  (∀ (L : ri_L) (st : List Value) (σ : ri_S), ev 222 (326, L, st) σ = ev 222 (327, L, .int 3 :: st) σ) ∧
  (∀ (L : ri_L) (σ : ri_S) (a0 : Nat) (a1 : Int32) (a2 : Int32), ev 222 (327, L, [.int a2, .int a1, .ref a0]) σ = (cal 149 [.ref a0, .int a1, .int a2] σ).bind fun q => ev 222 (330, L, q.1.toList ++ []) q.2) ∧
  (∀ (l0 l1 l2 l3 l4 l5 l7 l8 l9 : Option Value) (st : List Value) (σ : ri_S) (x : Int32), ev 222 (330, [l0, l1, l2, l3, l4, l5, some (.int x), l7, l8, l9], st) σ = ev 222 (332, [l0, l1, l2, l3, l4, l5, some (.int x), l7, l8, l9], .int x :: st) σ) ∧
  (∀ (L : ri_L) (st : List Value) (σ : ri_S) (x y : Int32), ev 222 (332, L, .int y :: .int x :: st) σ = if ¬ x = y then ev 222 (339, L, st) σ else ev 222 (335, L, st) σ) ∧
  (∀ (L : ri_L) (st : List Value) (σ : ri_S), ev 222 (335, L, st) σ = ev 222 (336, L, .int 1 :: st) σ) ∧
  (∀ (L : ri_L) (st : List Value) (σ : ri_S), ev 222 (336, L, st) σ = ev 222 (340, L, st) σ) ∧
  (∀ (L : ri_L) (st : List Value) (σ : ri_S), ev 222 (339, L, st) σ = ev 222 (340, L, .int 0 :: st) σ) ∧
  (∀ (L : ri_L) (σ : ri_S) (x : Int32), ev 222 (340, L, [.int x]) σ = tv_b x (some (some (.int x), σ))) ∧
  (∀ (l0 l1 l3 l4 l5 l6 l7 l8 l9 : Option Value) (st : List Value) (σ : ri_S) (x : Int32), ev 222 (341, [l0, l1, some (.int x), l3, l4, l5, l6, l7, l8, l9], st) σ = ev 222 (342, [l0, l1, some (.int x), l3, l4, l5, l6, l7, l8, l9], .int x :: st) σ) ∧
  (∀ (L : ri_L) (st : List Value) (σ : ri_S), ev 222 (342, L, st) σ = ev 222 (344, L, .int 100 :: st) σ) ∧
  (∀ (L : ri_L) (st : List Value) (σ : ri_S) (x y : Int32), ev 222 (344, L, .int y :: .int x :: st) σ = if y ≤ x then ev 222 (361, L, st) σ else ev 222 (347, L, st) σ) ∧
  (∀ (l1 l2 l3 l4 l5 l6 l7 l8 l9 : Option Value) (st : List Value) (σ : ri_S) (x : Nat), ev 222 (347, [some (.ref x), l1, l2, l3, l4, l5, l6, l7, l8, l9], st) σ = ev 222 (348, [some (.ref x), l1, l2, l3, l4, l5, l6, l7, l8, l9], .ref x :: st) σ) ∧
  (∀ (L : ri_L) (st : List Value) (σ : ri_S) (a : Nat), ev 222 (348, L, .ref a :: st) σ = tv_o 9 4 (σ.1 a) fun v => ev 222 (351, L, v :: st) σ) ∧
  (∀ (L : ri_L) (st : List Value) (σ : ri_S), ev 222 (351, L, st) σ = ev 222 (352, L, .int 4 :: st) σ) ∧
  (∀ (L : ri_L) (st : List Value) (σ : ri_S) (a : Nat) (i : Int32), ev 222 (352, L, .int i :: .ref a :: st) σ = tv_r 0 (σ.1 a) i fun n f j => ev 222 (353, L, .int (f j) :: st) σ) ∧
  (∀ (l0 l1 l3 l4 l5 l6 l7 l8 l9 : Option Value) (st : List Value) (σ : ri_S) (x : Int32), ev 222 (353, [l0, l1, some (.int x), l3, l4, l5, l6, l7, l8, l9], st) σ = ev 222 (354, [l0, l1, some (.int x), l3, l4, l5, l6, l7, l8, l9], .int x :: st) σ) :=
  ⟨fun L σ a0 a1 a2 => ev_call ((TP_222 _).trans rfl) rfl rfl rfl rfl,
   fun l0 l1 l2 l3 l5 l6 l7 l8 l9 st σ x => ev_p ((TP_222 _).trans rfl) rfl,
   fun L st σ x y => ev_b ((TP_222 _).trans rfl) rfl,
   fun l1 l2 l3 l4 l5 l6 l7 l8 l9 st σ x => ev_p ((TP_222 _).trans rfl) rfl,
   fun L st σ a => ev_getf ((TP_222 _).trans rfl),
   fun l0 l1 l2 l4 l5 l6 l7 l8 l9 st σ x => ev_p ((TP_222 _).trans rfl) rfl,
   fun L σ a0 a1 => ev_call ((TP_222 _).trans rfl) rfl rfl rfl rfl,
   fun l0 l1 l2 l3 l4 l6 l7 l8 l9 st σ x => ev_p ((TP_222 _).trans rfl) rfl,
   fun L st σ x y => ev_b ((TP_222 _).trans rfl) rfl,
   fun L st σ => ev_p ((TP_222 _).trans rfl) rfl,
   fun L st σ => ev_p ((TP_222 _).trans rfl) rfl,
   fun L st σ => ev_p ((TP_222 _).trans rfl) rfl,
   fun L σ x => ev_r ((TP_222 _).trans rfl) rfl,
   fun l0 l1 l2 l3 l4 l5 l6 l7 l9 st σ x => ev_p ((TP_222 _).trans rfl) rfl,
   fun L st σ => ev_p ((TP_222 _).trans rfl) rfl,
   fun L st σ x y => ev_b ((TP_222 _).trans rfl) rfl,
   fun l1 l2 l3 l4 l5 l6 l7 l8 l9 st σ x => ev_p ((TP_222 _).trans rfl) rfl,
   fun L st σ a => ev_getf ((TP_222 _).trans rfl),
   fun l0 l1 l2 l4 l5 l6 l7 l8 l9 st σ x => ev_p ((TP_222 _).trans rfl) rfl,
   fun L σ a0 a1 => ev_call ((TP_222 _).trans rfl) rfl rfl rfl rfl,
   fun L st σ x => ev_b ((TP_222 _).trans rfl) rfl,
   fun l1 l2 l3 l4 l5 l6 l7 l8 l9 st σ x => ev_p ((TP_222 _).trans rfl) rfl,
   fun L st σ a => ev_getf ((TP_222 _).trans rfl),
   fun l0 l1 l2 l4 l5 l6 l7 l8 l9 st σ x => ev_p ((TP_222 _).trans rfl) rfl,
   fun L st σ => ev_p ((TP_222 _).trans rfl) rfl,
   fun L σ a0 a1 a2 => ev_call ((TP_222 _).trans rfl) rfl rfl rfl rfl,
   fun l0 l1 l2 l3 l4 l5 l7 l8 l9 st σ x => ev_p ((TP_222 _).trans rfl) rfl,
   fun L st σ x y => ev_b ((TP_222 _).trans rfl) rfl,
   fun L st σ => ev_p ((TP_222 _).trans rfl) rfl,
   fun L st σ => ev_p ((TP_222 _).trans rfl) rfl,
   fun L st σ => ev_p ((TP_222 _).trans rfl) rfl,
   fun L σ x => ev_r ((TP_222 _).trans rfl) rfl,
   fun l0 l1 l3 l4 l5 l6 l7 l8 l9 st σ x => ev_p ((TP_222 _).trans rfl) rfl,
   fun L st σ => ev_p ((TP_222 _).trans rfl) rfl,
   fun L st σ x y => ev_b ((TP_222 _).trans rfl) rfl,
   fun l1 l2 l3 l4 l5 l6 l7 l8 l9 st σ x => ev_p ((TP_222 _).trans rfl) rfl,
   fun L st σ a => ev_getf ((TP_222 _).trans rfl),
   fun L st σ => ev_p ((TP_222 _).trans rfl) rfl,
   fun L st σ a i => ev_iald ((TP_222 _).trans rfl),
   fun l0 l1 l3 l4 l5 l6 l7 l8 l9 st σ x => ev_p ((TP_222 _).trans rfl) rfl⟩
set_option maxRecDepth 8000 in
theorem I_222_4 :
  (∀ (L : ri_L) (st : List Value) (σ : ri_S) (x y : Int32), ev 222 (354, L, .int y :: .int x :: st) σ = if x < y then ev 222 (361, L, st) σ else ev 222 (357, L, st) σ) ∧
  (∀ (L : ri_L) (st : List Value) (σ : ri_S), ev 222 (357, L, st) σ = ev 222 (358, L, .int 1 :: st) σ) ∧
  (∀ (L : ri_L) (st : List Value) (σ : ri_S), ev 222 (358, L, st) σ = ev 222 (362, L, st) σ) ∧
  (∀ (L : ri_L) (st : List Value) (σ : ri_S), ev 222 (361, L, st) σ = ev 222 (362, L, .int 0 :: st) σ) ∧
  (∀ (L : ri_L) (σ : ri_S) (x : Int32), ev 222 (362, L, [.int x]) σ = tv_b x (some (some (.int x), σ))) ∧
  (∀ (l0 l1 l2 l3 l4 l6 l7 l8 l9 : Option Value) (st : List Value) (σ : ri_S) (x : Int32), ev 222 (363, [l0, l1, l2, l3, l4, some (.int x), l6, l7, l8, l9], st) σ = ev 222 (365, [l0, l1, l2, l3, l4, some (.int x), l6, l7, l8, l9], .int x :: st) σ) ∧
  (∀ (L : ri_L) (st : List Value) (σ : ri_S) (x : Int32), ev 222 (365, L, .int x :: st) σ = if ¬ x = 0 then ev 222 (410, L, st) σ else ev 222 (368, L, st) σ) ∧
  (∀ (l1 l2 l3 l4 l5 l6 l7 l8 l9 : Option Value) (st : List Value) (σ : ri_S) (x : Nat), ev 222 (368, [some (.ref x), l1, l2, l3, l4, l5, l6, l7, l8, l9], st) σ = ev 222 (369, [some (.ref x), l1, l2, l3, l4, l5, l6, l7, l8, l9], .ref x :: st) σ) ∧
  (∀ (L : ri_L) (st : List Value) (σ : ri_S) (a : Nat), ev 222 (369, L, .ref a :: st) σ = tv_o 9 4 (σ.1 a) fun v => ev 222 (372, L, v :: st) σ) ∧
  (∀ (l0 l1 l2 l4 l5 l6 l7 l8 l9 : Option Value) (st : List Value) (σ : ri_S) (x : Int32), ev 222 (372, [l0, l1, l2, some (.int x), l4, l5, l6, l7, l8, l9], st) σ = ev 222 (373, [l0, l1, l2, some (.int x), l4, l5, l6, l7, l8, l9], .int x :: st) σ) ∧
  (∀ (l0 l1 l2 l3 l5 l6 l7 l8 l9 : Option Value) (st : List Value) (σ : ri_S) (x : Int32), ev 222 (373, [l0, l1, l2, l3, some (.int x), l5, l6, l7, l8, l9], st) σ = ev 222 (375, [l0, l1, l2, l3, some (.int x), l5, l6, l7, l8, l9], .int x :: st) σ) ∧
  (∀ (L : ri_L) (σ : ri_S) (a0 : Nat) (a1 : Int32) (a2 : Int32), ev 222 (375, L, [.int a2, .int a1, .ref a0]) σ = (cal 153 [.ref a0, .int a1, .int a2] σ).bind fun q => ev 222 (378, L, q.1.toList ++ []) q.2) ∧
  (∀ (L : ri_L) (st : List Value) (σ : ri_S) (x : Int32), ev 222 (378, L, .int x :: st) σ = if x = 0 then ev 222 (410, L, st) σ else ev 222 (381, L, st) σ) ∧
  (∀ (l1 l2 l3 l4 l5 l6 l7 l8 l9 : Option Value) (st : List Value) (σ : ri_S) (x : Nat), ev 222 (381, [some (.ref x), l1, l2, l3, l4, l5, l6, l7, l8, l9], st) σ = ev 222 (382, [some (.ref x), l1, l2, l3, l4, l5, l6, l7, l8, l9], .ref x :: st) σ) ∧
  (∀ (L : ri_L) (st : List Value) (σ : ri_S) (a : Nat), ev 222 (382, L, .ref a :: st) σ = tv_o 9 4 (σ.1 a) fun v => ev 222 (385, L, v :: st) σ) ∧
  (∀ (l0 l1 l2 l4 l5 l6 l7 l8 l9 : Option Value) (st : List Value) (σ : ri_S) (x : Int32), ev 222 (385, [l0, l1, l2, some (.int x), l4, l5, l6, l7, l8, l9], st) σ = ev 222 (386, [l0, l1, l2, some (.int x), l4, l5, l6, l7, l8, l9], .int x :: st) σ) ∧
  (∀ (L : ri_L) (st : List Value) (σ : ri_S), ev 222 (386, L, st) σ = ev 222 (387, L, .int 5 :: st) σ) ∧
  (∀ (l1 l2 l3 l4 l5 l6 l7 l8 l9 : Option Value) (st : List Value) (σ : ri_S) (x : Nat), ev 222 (387, [some (.ref x), l1, l2, l3, l4, l5, l6, l7, l8, l9], st) σ = ev 222 (388, [some (.ref x), l1, l2, l3, l4, l5, l6, l7, l8, l9], .ref x :: st) σ) ∧
  (∀ (L : ri_L) (st : List Value) (σ : ri_S) (a : Nat), ev 222 (388, L, .ref a :: st) σ = tv_o 9 4 (σ.1 a) fun v => ev 222 (391, L, v :: st) σ) ∧
  (∀ (l0 l1 l2 l4 l5 l6 l7 l8 l9 : Option Value) (st : List Value) (σ : ri_S) (x : Int32), ev 222 (391, [l0, l1, l2, some (.int x), l4, l5, l6, l7, l8, l9], st) σ = ev 222 (392, [l0, l1, l2, some (.int x), l4, l5, l6, l7, l8, l9], .int x :: st) σ) ∧
  (∀ (l0 l1 l2 l3 l5 l6 l7 l8 l9 : Option Value) (st : List Value) (σ : ri_S) (x : Int32), ev 222 (392, [l0, l1, l2, l3, some (.int x), l5, l6, l7, l8, l9], st) σ = ev 222 (394, [l0, l1, l2, l3, some (.int x), l5, l6, l7, l8, l9], .int x :: st) σ) ∧
  (∀ (L : ri_L) (σ : ri_S) (a0 : Nat) (a1 : Int32) (a2 : Int32) (s0 s1 s2 : Value), ev 222 (394, L, [.int a2, .int a1, .ref a0, s0, s1, s2]) σ = (cal 157 [.ref a0, .int a1, .int a2] σ).bind fun q => ev 222 (397, L, q.1.toList ++ [s0, s1, s2]) q.2) ∧
  (∀ (L : ri_L) (st : List Value) (σ : ri_S) (x y : Int32), ev 222 (397, L, .int y :: .int x :: st) σ = ev 222 (398, L, .int (x + y) :: st) σ) ∧
  (∀ (L : ri_L) (σ : ri_S) (a0 : Nat) (a1 : Int32) (a2 : Int32), ev 222 (398, L, [.int a2, .int a1, .ref a0]) σ = (cal 149 [.ref a0, .int a1, .int a2] σ).bind fun q => ev 222 (401, L, q.1.toList ++ []) q.2) ∧
  (∀ (l0 l1 l2 l3 l4 l5 l7 l8 l9 : Option Value) (st : List Value) (σ : ri_S) (x : Int32), ev 222 (401, [l0, l1, l2, l3, l4, l5, some (.int x), l7, l8, l9], st) σ = ev 222 (403, [l0, l1, l2, l3, l4, l5, some (.int x), l7, l8, l9], .int x :: st) σ) ∧
  (∀ (L : ri_L) (st : List Value) (σ : ri_S) (x y : Int32), ev 222 (403, L, .int y :: .int x :: st) σ = if x < y then ev 222 (410, L, st) σ else ev 222 (406, L, st) σ) ∧
  (∀ (L : ri_L) (st : List Value) (σ : ri_S), ev 222 (406, L, st) σ = ev 222 (407, L, .int 1 :: st) σ) ∧
  (∀ (L : ri_L) (st : List Value) (σ : ri_S), ev 222 (407, L, st) σ = ev 222 (411, L, st) σ) ∧
  (∀ (L : ri_L) (st : List Value) (σ : ri_S), ev 222 (410, L, st) σ = ev 222 (411, L, .int 0 :: st) σ) ∧
  (∀ (L : ri_L) (σ : ri_S) (x : Int32), ev 222 (411, L, [.int x]) σ = tv_b x (some (some (.int x), σ))) ∧
  (∀ (l1 l2 l3 l4 l5 l6 l7 l8 l9 : Option Value) (st : List Value) (σ : ri_S) (x : Nat), ev 222 (412, [some (.ref x), l1, l2, l3, l4, l5, l6, l7, l8, l9], st) σ = ev 222 (413, [some (.ref x), l1, l2, l3, l4, l5, l6, l7, l8, l9], .ref x :: st) σ) ∧
  (∀ (L : ri_L) (st : List Value) (σ : ri_S) (a : Nat), ev 222 (413, L, .ref a :: st) σ = tv_o 9 4 (σ.1 a) fun v => ev 222 (416, L, v :: st) σ) ∧
  (∀ (l0 l1 l2 l4 l5 l6 l7 l8 l9 : Option Value) (st : List Value) (σ : ri_S) (x : Int32), ev 222 (416, [l0, l1, l2, some (.int x), l4, l5, l6, l7, l8, l9], st) σ = ev 222 (417, [l0, l1, l2, some (.int x), l4, l5, l6, l7, l8, l9], .int x :: st) σ) ∧
  (∀ (L : ri_L) (σ : ri_S) (a0 : Nat) (a1 : Int32), ev 222 (417, L, [.int a1, .ref a0]) σ = (cal 154 [.ref a0, .int a1] σ).bind fun q => ev 222 (420, L, q.1.toList ++ []) q.2) ∧
  (∀ (L : ri_L) (st : List Value) (σ : ri_S) (x : Int32), ev 222 (420, L, .int x :: st) σ = if x = 0 then ev 222 (454, L, st) σ else ev 222 (423, L, st) σ) ∧
  (∀ (l1 l2 l3 l4 l5 l6 l7 l8 l9 : Option Value) (st : List Value) (σ : ri_S) (x : Nat), ev 222 (423, [some (.ref x), l1, l2, l3, l4, l5, l6, l7, l8, l9], st) σ = ev 222 (424, [some (.ref x), l1, l2, l3, l4, l5, l6, l7, l8, l9], .ref x :: st) σ) ∧
  (∀ (L : ri_L) (st : List Value) (σ : ri_S) (a : Nat), ev 222 (424, L, .ref a :: st) σ = tv_o 9 4 (σ.1 a) fun v => ev 222 (427, L, v :: st) σ) ∧
  (∀ (l0 l1 l2 l3 l4 l5 l6 l8 l9 : Option Value) (st : List Value) (σ : ri_S) (x : Int32), ev 222 (427, [l0, l1, l2, l3, l4, l5, l6, some (.int x), l8, l9], st) σ = ev 222 (429, [l0, l1, l2, l3, l4, l5, l6, some (.int x), l8, l9], .int x :: st) σ) ∧
  (∀ (L : ri_L) (σ : ri_S) (a0 : Nat) (a1 : Int32), ev 222 (429, L, [.int a1, .ref a0]) σ = (cal 155 [.ref a0, .int a1] σ).bind fun q => ev 222 (432, L, q.1.toList ++ []) q.2) ∧
  (∀ (L : ri_L) (st : List Value) (σ : ri_S) (x : Int32), ev 222 (432, L, .int x :: st) σ = if x = 0 then ev 222 (454, L, st) σ else ev 222 (435, L, st) σ) :=
  ⟨fun L st σ x y => ev_b ((TP_222 _).trans rfl) rfl,
   fun L st σ => ev_p ((TP_222 _).trans rfl) rfl,
   fun L st σ => ev_p ((TP_222 _).trans rfl) rfl,
   fun L st σ => ev_p ((TP_222 _).trans rfl) rfl,
   fun L σ x => ev_r ((TP_222 _).trans rfl) rfl,
   fun l0 l1 l2 l3 l4 l6 l7 l8 l9 st σ x => ev_p ((TP_222 _).trans rfl) rfl,
   fun L st σ x => ev_b ((TP_222 _).trans rfl) rfl,
   fun l1 l2 l3 l4 l5 l6 l7 l8 l9 st σ x => ev_p ((TP_222 _).trans rfl) rfl,
   fun L st σ a => ev_getf ((TP_222 _).trans rfl),
   fun l0 l1 l2 l4 l5 l6 l7 l8 l9 st σ x => ev_p ((TP_222 _).trans rfl) rfl,
   fun l0 l1 l2 l3 l5 l6 l7 l8 l9 st σ x => ev_p ((TP_222 _).trans rfl) rfl,
   fun L σ a0 a1 a2 => ev_call ((TP_222 _).trans rfl) rfl rfl rfl rfl,
   fun L st σ x => ev_b ((TP_222 _).trans rfl) rfl,
   fun l1 l2 l3 l4 l5 l6 l7 l8 l9 st σ x => ev_p ((TP_222 _).trans rfl) rfl,
   fun L st σ a => ev_getf ((TP_222 _).trans rfl),
   fun l0 l1 l2 l4 l5 l6 l7 l8 l9 st σ x => ev_p ((TP_222 _).trans rfl) rfl,
   fun L st σ => ev_p ((TP_222 _).trans rfl) rfl,
   fun l1 l2 l3 l4 l5 l6 l7 l8 l9 st σ x => ev_p ((TP_222 _).trans rfl) rfl,
   fun L st σ a => ev_getf ((TP_222 _).trans rfl),
   fun l0 l1 l2 l4 l5 l6 l7 l8 l9 st σ x => ev_p ((TP_222 _).trans rfl) rfl,
   fun l0 l1 l2 l3 l5 l6 l7 l8 l9 st σ x => ev_p ((TP_222 _).trans rfl) rfl,
   fun L σ a0 a1 a2 s0 s1 s2 => ev_call ((TP_222 _).trans rfl) rfl rfl rfl rfl,
   fun L st σ x y => ev_p ((TP_222 _).trans rfl) rfl,
   fun L σ a0 a1 a2 => ev_call ((TP_222 _).trans rfl) rfl rfl rfl rfl,
   fun l0 l1 l2 l3 l4 l5 l7 l8 l9 st σ x => ev_p ((TP_222 _).trans rfl) rfl,
   fun L st σ x y => ev_b ((TP_222 _).trans rfl) rfl,
   fun L st σ => ev_p ((TP_222 _).trans rfl) rfl,
   fun L st σ => ev_p ((TP_222 _).trans rfl) rfl,
   fun L st σ => ev_p ((TP_222 _).trans rfl) rfl,
   fun L σ x => ev_r ((TP_222 _).trans rfl) rfl,
   fun l1 l2 l3 l4 l5 l6 l7 l8 l9 st σ x => ev_p ((TP_222 _).trans rfl) rfl,
   fun L st σ a => ev_getf ((TP_222 _).trans rfl),
   fun l0 l1 l2 l4 l5 l6 l7 l8 l9 st σ x => ev_p ((TP_222 _).trans rfl) rfl,
   fun L σ a0 a1 => ev_call ((TP_222 _).trans rfl) rfl rfl rfl rfl,
   fun L st σ x => ev_b ((TP_222 _).trans rfl) rfl,
   fun l1 l2 l3 l4 l5 l6 l7 l8 l9 st σ x => ev_p ((TP_222 _).trans rfl) rfl,
   fun L st σ a => ev_getf ((TP_222 _).trans rfl),
   fun l0 l1 l2 l3 l4 l5 l6 l8 l9 st σ x => ev_p ((TP_222 _).trans rfl) rfl,
   fun L σ a0 a1 => ev_call ((TP_222 _).trans rfl) rfl rfl rfl rfl,
   fun L st σ x => ev_b ((TP_222 _).trans rfl) rfl⟩
set_option maxRecDepth 8000 in
theorem I_222_5 :
  (∀ (l1 l2 l3 l4 l5 l6 l7 l8 l9 : Option Value) (st : List Value) (σ : ri_S) (x : Nat), ev 222 (435, [some (.ref x), l1, l2, l3, l4, l5, l6, l7, l8, l9], st) σ = ev 222 (436, [some (.ref x), l1, l2, l3, l4, l5, l6, l7, l8, l9], .ref x :: st) σ) ∧
  (∀ (L : ri_L) (st : List Value) (σ : ri_S) (a : Nat), ev 222 (436, L, .ref a :: st) σ = tv_o 9 4 (σ.1 a) fun v => ev 222 (439, L, v :: st) σ) ∧
  (∀ (l0 l1 l2 l4 l5 l6 l7 l8 l9 : Option Value) (st : List Value) (σ : ri_S) (x : Int32), ev 222 (439, [l0, l1, l2, some (.int x), l4, l5, l6, l7, l8, l9], st) σ = ev 222 (440, [l0, l1, l2, some (.int x), l4, l5, l6, l7, l8, l9], .int x :: st) σ) ∧
  (∀ (l0 l1 l2 l3 l4 l5 l6 l8 l9 : Option Value) (st : List Value) (σ : ri_S) (x : Int32), ev 222 (440, [l0, l1, l2, l3, l4, l5, l6, some (.int x), l8, l9], st) σ = ev 222 (442, [l0, l1, l2, l3, l4, l5, l6, some (.int x), l8, l9], .int x :: st) σ) ∧
  (∀ (L : ri_L) (σ : ri_S) (a0 : Nat) (a1 : Int32) (a2 : Int32), ev 222 (442, L, [.int a2, .int a1, .ref a0]) σ = (cal 164 [.ref a0, .int a1, .int a2] σ).bind fun q => ev 222 (445, L, q.1.toList ++ []) q.2) ∧
  (∀ (l0 l1 l2 l3 l4 l5 l7 l8 l9 : Option Value) (st : List Value) (σ : ri_S) (x : Int32), ev 222 (445, [l0, l1, l2, l3, l4, l5, some (.int x), l7, l8, l9], st) σ = ev 222 (447, [l0, l1, l2, l3, l4, l5, some (.int x), l7, l8, l9], .int x :: st) σ) ∧
  (∀ (L : ri_L) (st : List Value) (σ : ri_S) (x y : Int32), ev 222 (447, L, .int y :: .int x :: st) σ = if ¬ x = y then ev 222 (454, L, st) σ else ev 222 (450, L, st) σ) ∧
  (∀ (L : ri_L) (st : List Value) (σ : ri_S), ev 222 (450, L, st) σ = ev 222 (451, L, .int 1 :: st) σ) ∧
  (∀ (L : ri_L) (st : List Value) (σ : ri_S), ev 222 (451, L, st) σ = ev 222 (455, L, st) σ) ∧
  (∀ (L : ri_L) (st : List Value) (σ : ri_S), ev 222 (454, L, st) σ = ev 222 (455, L, .int 0 :: st) σ) ∧
  (∀ (L : ri_L) (σ : ri_S) (x : Int32), ev 222 (455, L, [.int x]) σ = tv_b x (some (some (.int x), σ))) ∧
  (∀ (l0 l1 l2 l3 l5 l6 l7 l8 l9 : Option Value) (st : List Value) (σ : ri_S) (x : Int32), ev 222 (456, [l0, l1, l2, l3, some (.int x), l5, l6, l7, l8, l9], st) σ = ev 222 (458, [l0, l1, l2, l3, some (.int x), l5, l6, l7, l8, l9], .int x :: st) σ) ∧
  (∀ (L : ri_L) (st : List Value) (σ : ri_S) (x : Int32), ev 222 (458, L, .int x :: st) σ = if ¬ x = 0 then ev 222 (490, L, st) σ else ev 222 (461, L, st) σ) ∧
  (∀ (l1 l2 l3 l4 l5 l6 l7 l8 l9 : Option Value) (st : List Value) (σ : ri_S) (x : Nat), ev 222 (461, [some (.ref x), l1, l2, l3, l4, l5, l6, l7, l8, l9], st) σ = ev 222 (462, [some (.ref x), l1, l2, l3, l4, l5, l6, l7, l8, l9], .ref x :: st) σ) ∧
  (∀ (L : ri_L) (st : List Value) (σ : ri_S) (a : Nat), ev 222 (462, L, .ref a :: st) σ = tv_o 9 4 (σ.1 a) fun v => ev 222 (465, L, v :: st) σ) ∧
  (∀ (l0 l1 l2 l4 l5 l6 l7 l8 l9 : Option Value) (st : List Value) (σ : ri_S) (x : Int32), ev 222 (465, [l0, l1, l2, some (.int x), l4, l5, l6, l7, l8, l9], st) σ = ev 222 (466, [l0, l1, l2, some (.int x), l4, l5, l6, l7, l8, l9], .int x :: st) σ) ∧
  (∀ (L : ri_L) (σ : ri_S) (a0 : Nat) (a1 : Int32), ev 222 (466, L, [.int a1, .ref a0]) σ = (cal 154 [.ref a0, .int a1] σ).bind fun q => ev 222 (469, L, q.1.toList ++ []) q.2) ∧
  (∀ (L : ri_L) (st : List Value) (σ : ri_S) (x : Int32), ev 222 (469, L, .int x :: st) σ = if x = 0 then ev 222 (490, L, st) σ else ev 222 (472, L, st) σ) ∧
  (∀ (l1 l2 l3 l4 l5 l6 l7 l8 l9 : Option Value) (st : List Value) (σ : ri_S) (x : Nat), ev 222 (472, [some (.ref x), l1, l2, l3, l4, l5, l6, l7, l8, l9], st) σ = ev 222 (473, [some (.ref x), l1, l2, l3, l4, l5, l6, l7, l8, l9], .ref x :: st) σ) ∧
  (∀ (L : ri_L) (st : List Value) (σ : ri_S) (a : Nat), ev 222 (473, L, .ref a :: st) σ = tv_o 9 4 (σ.1 a) fun v => ev 222 (476, L, v :: st) σ) ∧
  (∀ (l0 l1 l2 l4 l5 l6 l7 l8 l9 : Option Value) (st : List Value) (σ : ri_S) (x : Int32), ev 222 (476, [l0, l1, l2, some (.int x), l4, l5, l6, l7, l8, l9], st) σ = ev 222 (477, [l0, l1, l2, some (.int x), l4, l5, l6, l7, l8, l9], .int x :: st) σ) ∧
  (∀ (L : ri_L) (st : List Value) (σ : ri_S), ev 222 (477, L, st) σ = ev 222 (478, L, .int 3 :: st) σ) ∧
  (∀ (L : ri_L) (σ : ri_S) (a0 : Nat) (a1 : Int32) (a2 : Int32), ev 222 (478, L, [.int a2, .int a1, .ref a0]) σ = (cal 150 [.ref a0, .int a1, .int a2] σ).bind fun q => ev 222 (481, L, q.1.toList ++ []) q.2) ∧
  (∀ (l0 l1 l2 l3 l4 l5 l6 l7 l8 : Option Value) (st : List Value) (σ : ri_S) (x : Int32), ev 222 (481, [l0, l1, l2, l3, l4, l5, l6, l7, l8, some (.int x)], st) σ = ev 222 (483, [l0, l1, l2, l3, l4, l5, l6, l7, l8, some (.int x)], .int x :: st) σ) ∧
  (∀ (L : ri_L) (st : List Value) (σ : ri_S) (x y : Int32), ev 222 (483, L, .int y :: .int x :: st) σ = if x < y then ev 222 (490, L, st) σ else ev 222 (486, L, st) σ) ∧
  (∀ (L : ri_L) (st : List Value) (σ : ri_S), ev 222 (486, L, st) σ = ev 222 (487, L, .int 1 :: st) σ) ∧
  (∀ (L : ri_L) (st : List Value) (σ : ri_S), ev 222 (487, L, st) σ = ev 222 (491, L, st) σ) ∧
  (∀ (L : ri_L) (st : List Value) (σ : ri_S), ev 222 (490, L, st) σ = ev 222 (491, L, .int 0 :: st) σ) ∧
  (∀ (L : ri_L) (σ : ri_S) (x : Int32), ev 222 (491, L, [.int x]) σ = tv_b x (some (some (.int x), σ))) ∧
  (∀ (L : ri_L) (st : List Value) (σ : ri_S), ev 222 (492, L, st) σ = ev 222 (493, L, .int 0 :: st) σ) ∧
  (∀ (L : ri_L) (σ : ri_S) (x : Int32), ev 222 (493, L, [.int x]) σ = tv_b x (some (some (.int x), σ))) :=
  ⟨fun l1 l2 l3 l4 l5 l6 l7 l8 l9 st σ x => ev_p ((TP_222 _).trans rfl) rfl,
   fun L st σ a => ev_getf ((TP_222 _).trans rfl),
   fun l0 l1 l2 l4 l5 l6 l7 l8 l9 st σ x => ev_p ((TP_222 _).trans rfl) rfl,
   fun l0 l1 l2 l3 l4 l5 l6 l8 l9 st σ x => ev_p ((TP_222 _).trans rfl) rfl,
   fun L σ a0 a1 a2 => ev_call ((TP_222 _).trans rfl) rfl rfl rfl rfl,
   fun l0 l1 l2 l3 l4 l5 l7 l8 l9 st σ x => ev_p ((TP_222 _).trans rfl) rfl,
   fun L st σ x y => ev_b ((TP_222 _).trans rfl) rfl,
   fun L st σ => ev_p ((TP_222 _).trans rfl) rfl,
   fun L st σ => ev_p ((TP_222 _).trans rfl) rfl,
   fun L st σ => ev_p ((TP_222 _).trans rfl) rfl,
   fun L σ x => ev_r ((TP_222 _).trans rfl) rfl,
   fun l0 l1 l2 l3 l5 l6 l7 l8 l9 st σ x => ev_p ((TP_222 _).trans rfl) rfl,
   fun L st σ x => ev_b ((TP_222 _).trans rfl) rfl,
   fun l1 l2 l3 l4 l5 l6 l7 l8 l9 st σ x => ev_p ((TP_222 _).trans rfl) rfl,
   fun L st σ a => ev_getf ((TP_222 _).trans rfl),
   fun l0 l1 l2 l4 l5 l6 l7 l8 l9 st σ x => ev_p ((TP_222 _).trans rfl) rfl,
   fun L σ a0 a1 => ev_call ((TP_222 _).trans rfl) rfl rfl rfl rfl,
   fun L st σ x => ev_b ((TP_222 _).trans rfl) rfl,
   fun l1 l2 l3 l4 l5 l6 l7 l8 l9 st σ x => ev_p ((TP_222 _).trans rfl) rfl,
   fun L st σ a => ev_getf ((TP_222 _).trans rfl),
   fun l0 l1 l2 l4 l5 l6 l7 l8 l9 st σ x => ev_p ((TP_222 _).trans rfl) rfl,
   fun L st σ => ev_p ((TP_222 _).trans rfl) rfl,
   fun L σ a0 a1 a2 => ev_call ((TP_222 _).trans rfl) rfl rfl rfl rfl,
   fun l0 l1 l2 l3 l4 l5 l6 l7 l8 st σ x => ev_p ((TP_222 _).trans rfl) rfl,
   fun L st σ x y => ev_b ((TP_222 _).trans rfl) rfl,
   fun L st σ => ev_p ((TP_222 _).trans rfl) rfl,
   fun L st σ => ev_p ((TP_222 _).trans rfl) rfl,
   fun L st σ => ev_p ((TP_222 _).trans rfl) rfl,
   fun L σ x => ev_r ((TP_222 _).trans rfl) rfl,
   fun L st σ => ev_p ((TP_222 _).trans rfl) rfl,
   fun L σ x => ev_r ((TP_222 _).trans rfl) rfl⟩
theorem TP_223 (pc : Nat) : TT 223 pc = ri_find TL_223 pc := rfl
theorem E_223 (x0 : Nat) (x1 : Int32) (x2 : Int64) (σ : ri_S) : cal 223 [.ref x0, .int x1, .long x2] σ = ev 223 (0, [some (.ref x0), some (.int x1), some (.long x2), none, none, none, none, none], []) σ := rfl
theorem H_223_6 (l0 l1 l2 l3 l4 l5 l7 : Option Value) (st : List Value) (σ : ri_S) (x : Int32) : ev 223 (6, [l0, l1, l2, l3, l4, l5, some (.int x), l7], st) σ = ev 223 (8, [l0, l1, l2, l3, l4, l5, some (.int x), l7], .int x :: st) σ := ev_p ((TP_223 _).trans rfl) rfl
theorem H_223_86 (l0 l1 l2 l3 l4 l5 l7 : Option Value) (st : List Value) (σ : ri_S) (x : Int32) : ev 223 (86, [l0, l1, l2, l3, l4, l5, some (.int x), l7], st) σ = ev 223 (88, [l0, l1, l2, l3, l4, l5, some (.int x), l7], .int x :: st) σ := ev_p ((TP_223 _).trans rfl) rfl
theorem I_223_0 :
  (∀ (L : ri_L) (st : List Value) (σ : ri_S), ev 223 (0, L, st) σ = ev 223 (1, L, .long 1 :: st) σ) ∧
  (∀ (l0 l1 l2 l3 l4 l5 l6 l7 : Option Value) (st : List Value) (σ : ri_S) (x : Int64), ev 223 (1, [l0, l1, l2, l3, l4, l5, l6, l7], .long x :: st) σ = ev 223 (3, [l0, l1, l2, ri_clr l3, some (.long x), none, l6, l7], st) σ) ∧
  (∀ (L : ri_L) (st : List Value) (σ : ri_S), ev 223 (3, L, st) σ = ev 223 (4, L, .int 0 :: st) σ) ∧
  (∀ (l0 l1 l2 l3 l4 l5 l6 l7 : Option Value) (st : List Value) (σ : ri_S) (x : Int32), ev 223 (4, [l0, l1, l2, l3, l4, l5, l6, l7], .int x :: st) σ = ev 223 (6, [l0, l1, l2, l3, l4, ri_clr l5, some (.int x), l7], st) σ) ∧
  (∀ (l0 l2 l3 l4 l5 l6 l7 : Option Value) (st : List Value) (σ : ri_S) (x : Int32), ev 223 (8, [l0, some (.int x), l2, l3, l4, l5, l6, l7], st) σ = ev 223 (9, [l0, some (.int x), l2, l3, l4, l5, l6, l7], .int x :: st) σ) ∧
  (∀ (L : ri_L) (st : List Value) (σ : ri_S) (x y : Int32), ev 223 (9, L, .int y :: .int x :: st) σ = if y ≤ x then ev 223 (32, L, st) σ else ev 223 (12, L, st) σ) ∧
  (∀ (l0 l1 l2 l3 l4 l5 l7 : Option Value) (st : List Value) (σ : ri_S) (x : Int32), ev 223 (12, [l0, l1, l2, l3, l4, l5, some (.int x), l7], st) σ = ev 223 (14, [l0, l1, l2, l3, l4, l5, some (.int x), l7], .int x :: st) σ) ∧
  (∀ (L : ri_L) (st : List Value) (σ : ri_S), ev 223 (14, L, st) σ = ev 223 (15, L, .int 3 :: st) σ) ∧
  (∀ (L : ri_L) (st : List Value) (σ : ri_S) (x y : Int32), ev 223 (15, L, .int y :: .int x :: st) σ = if y ≤ x then ev 223 (32, L, st) σ else ev 223 (18, L, st) σ) ∧
  (∀ (l0 l1 l2 l3 l5 l6 l7 : Option Value) (st : List Value) (σ : ri_S) (x : Int64), ev 223 (18, [l0, l1, l2, l3, some (.long x), l5, l6, l7], st) σ = ev 223 (20, [l0, l1, l2, l3, some (.long x), l5, l6, l7], .long x :: st) σ) ∧
  (∀ (L : ri_L) (st : List Value) (σ : ri_S), ev 223 (20, L, st) σ = ev 223 (23, L, .long 100000 :: st) σ) ∧
  (∀ (L : ri_L) (st : List Value) (σ : ri_S) (x y : Int64), ev 223 (23, L, .long y :: .long x :: st) σ = ev 223 (24, L, .long (x * y) :: st) σ) ∧
  (∀ (l0 l1 l2 l3 l4 l5 l6 l7 : Option Value) (st : List Value) (σ : ri_S) (x : Int64), ev 223 (24, [l0, l1, l2, l3, l4, l5, l6, l7], .long x :: st) σ = ev 223 (26, [l0, l1, l2, ri_clr l3, some (.long x), none, l6, l7], st) σ) ∧
  (∀ (l0 l1 l2 l3 l4 l5 l7 : Option Value) (st : List Value) (σ : ri_S) (x : Int32), ev 223 (26, [l0, l1, l2, l3, l4, l5, some (.int x), l7], st) σ = ev 223 (29, [l0, l1, l2, l3, l4, ri_clr l5, some (.int (x + 1)), l7], st) σ) ∧
  (∀ (L : ri_L) (st : List Value) (σ : ri_S), ev 223 (29, L, st) σ = ev 223 (6, L, st) σ) ∧
  (∀ (l1 l2 l3 l4 l5 l6 l7 : Option Value) (st : List Value) (σ : ri_S) (x : Nat), ev 223 (32, [some (.ref x), l1, l2, l3, l4, l5, l6, l7], st) σ = ev 223 (33, [some (.ref x), l1, l2, l3, l4, l5, l6, l7], .ref x :: st) σ) ∧
  (∀ (l0 l2 l3 l4 l5 l6 l7 : Option Value) (st : List Value) (σ : ri_S) (x : Int32), ev 223 (33, [l0, some (.int x), l2, l3, l4, l5, l6, l7], st) σ = ev 223 (34, [l0, some (.int x), l2, l3, l4, l5, l6, l7], .int x :: st) σ) ∧
  (∀ (L : ri_L) (st : List Value) (σ : ri_S) (x : Int32), ev 223 (34, L, .int x :: st) σ = ev 223 (35, L, .long x.toInt64 :: st) σ) ∧
  (∀ (L : ri_L) (st : List Value) (σ : ri_S), ev 223 (35, L, st) σ = ev 223 (36, L, .long 1 :: st) σ) ∧
  (∀ (L : ri_L) (st : List Value) (σ : ri_S), ev 223 (36, L, st) σ = ev 223 (39, L, .long 3 :: st) σ) ∧
  (∀ (L : ri_L) (σ : ri_S) (a0 : Int64) (a1 : Int64) (a2 : Int64) (s0 : Value), ev 223 (39, L, [.long a2, .long a1, .long a0, s0]) σ = (cal 146 [.long a0, .long a1, .long a2] σ).bind fun q => ev 223 (42, L, q.1.toList ++ [s0]) q.2) ∧
  (∀ (L : ri_L) (st : List Value) (σ : ri_S) (x : Int32), ev 223 (42, L, .int x :: st) σ = if x = 0 then ev 223 (61, L, st) σ else ev 223 (45, L, st) σ) ∧
  (∀ (l0 l1 l3 l4 l5 l6 l7 : Option Value) (st : List Value) (σ : ri_S) (x : Int64), ev 223 (45, [l0, l1, some (.long x), l3, l4, l5, l6, l7], st) σ = ev 223 (46, [l0, l1, some (.long x), l3, l4, l5, l6, l7], .long x :: st) σ) ∧
  (∀ (L : ri_L) (st : List Value) (σ : ri_S), ev 223 (46, L, st) σ = ev 223 (47, L, .long 0 :: st) σ) ∧
  (∀ (l0 l1 l2 l3 l5 l6 l7 : Option Value) (st : List Value) (σ : ri_S) (x : Int64), ev 223 (47, [l0, l1, l2, l3, some (.long x), l5, l6, l7], st) σ = ev 223 (49, [l0, l1, l2, l3, some (.long x), l5, l6, l7], .long x :: st) σ) ∧
  (∀ (L : ri_L) (st : List Value) (σ : ri_S), ev 223 (49, L, st) σ = ev 223 (50, L, .long 1 :: st) σ) ∧
  (∀ (L : ri_L) (st : List Value) (σ : ri_S) (x y : Int64), ev 223 (50, L, .long y :: .long x :: st) σ = ev 223 (51, L, .long (x - y) :: st) σ) ∧
  (∀ (L : ri_L) (σ : ri_S) (a0 : Int64) (a1 : Int64) (a2 : Int64) (s0 : Value), ev 223 (51, L, [.long a2, .long a1, .long a0, s0]) σ = (cal 146 [.long a0, .long a1, .long a2] σ).bind fun q => ev 223 (54, L, q.1.toList ++ [s0]) q.2) ∧
  (∀ (L : ri_L) (st : List Value) (σ : ri_S) (x : Int32), ev 223 (54, L, .int x :: st) σ = if x = 0 then ev 223 (61, L, st) σ else ev 223 (57, L, st) σ) ∧
  (∀ (L : ri_L) (st : List Value) (σ : ri_S), ev 223 (57, L, st) σ = ev 223 (58, L, .int 0 :: st) σ) ∧
  (∀ (L : ri_L) (st : List Value) (σ : ri_S), ev 223 (58, L, st) σ = ev 223 (62, L, st) σ) ∧
  (∀ (L : ri_L) (st : List Value) (σ : ri_S), ev 223 (61, L, st) σ = ev 223 (62, L, .int 1 :: st) σ) ∧
  (∀ (L : ri_L) (σ : ri_S) (a0 : Nat) (a1 : Int32), ev 223 (62, L, [.int a1, .ref a0]) σ = tv_k 9 (σ.1 a0) ((cal 145 [.ref a0, .int a1] σ).bind fun q => ev 223 (65, L, q.1.toList ++ []) q.2)) ∧
  (∀ (L : ri_L) (st : List Value) (σ : ri_S) (x : Int32), ev 223 (65, L, .int x :: st) σ = if x = 0 then ev 223 (70, L, st) σ else ev 223 (68, L, st) σ) ∧
  (∀ (L : ri_L) (st : List Value) (σ : ri_S), ev 223 (68, L, st) σ = ev 223 (69, L, .int 0 :: st) σ) ∧
  (∀ (L : ri_L) (σ : ri_S) (x : Int32), ev 223 (69, L, [.int x]) σ = some (some (.int x), σ)) ∧
  (∀ (l1 l2 l3 l4 l5 l6 l7 : Option Value) (st : List Value) (σ : ri_S) (x : Nat), ev 223 (70, [some (.ref x), l1, l2, l3, l4, l5, l6, l7], st) σ = ev 223 (71, [some (.ref x), l1, l2, l3, l4, l5, l6, l7], .ref x :: st) σ) ∧
  (∀ (L : ri_L) (st : List Value) (σ : ri_S) (a : Nat), ev 223 (71, L, .ref a :: st) σ = tv_o 9 3 (σ.1 a) fun v => ev 223 (74, L, v :: st) σ) ∧
  (∀ (L : ri_L) (st : List Value) (σ : ri_S), ev 223 (74, L, st) σ = ev 223 (75, L, .int 0 :: st) σ) ∧
  (∀ (l1 l2 l3 l4 l5 l6 l7 : Option Value) (st : List Value) (σ : ri_S) (x : Nat), ev 223 (75, [some (.ref x), l1, l2, l3, l4, l5, l6, l7], st) σ = ev 223 (76, [some (.ref x), l1, l2, l3, l4, l5, l6, l7], .ref x :: st) σ) :=
  ⟨fun L st σ => ev_p ((TP_223 _).trans rfl) rfl,
   fun l0 l1 l2 l3 l4 l5 l6 l7 st σ x => ev_p ((TP_223 _).trans rfl) rfl,
   fun L st σ => ev_p ((TP_223 _).trans rfl) rfl,
   fun l0 l1 l2 l3 l4 l5 l6 l7 st σ x => ev_p ((TP_223 _).trans rfl) rfl,
   fun l0 l2 l3 l4 l5 l6 l7 st σ x => ev_p ((TP_223 _).trans rfl) rfl,
   fun L st σ x y => ev_b ((TP_223 _).trans rfl) rfl,
   fun l0 l1 l2 l3 l4 l5 l7 st σ x => ev_p ((TP_223 _).trans rfl) rfl,
   fun L st σ => ev_p ((TP_223 _).trans rfl) rfl,
   fun L st σ x y => ev_b ((TP_223 _).trans rfl) rfl,
   fun l0 l1 l2 l3 l5 l6 l7 st σ x => ev_p ((TP_223 _).trans rfl) rfl,
   fun L st σ => ev_p ((TP_223 _).trans rfl) rfl,
   fun L st σ x y => ev_p ((TP_223 _).trans rfl) rfl,
   fun l0 l1 l2 l3 l4 l5 l6 l7 st σ x => ev_p ((TP_223 _).trans rfl) rfl,
   fun l0 l1 l2 l3 l4 l5 l7 st σ x => ev_p ((TP_223 _).trans rfl) rfl,
   fun L st σ => ev_p ((TP_223 _).trans rfl) rfl,
   fun l1 l2 l3 l4 l5 l6 l7 st σ x => ev_p ((TP_223 _).trans rfl) rfl,
   fun l0 l2 l3 l4 l5 l6 l7 st σ x => ev_p ((TP_223 _).trans rfl) rfl,
   fun L st σ x => ev_p ((TP_223 _).trans rfl) rfl,
   fun L st σ => ev_p ((TP_223 _).trans rfl) rfl,
   fun L st σ => ev_p ((TP_223 _).trans rfl) rfl,
   fun L σ a0 a1 a2 s0 => ev_call ((TP_223 _).trans rfl) rfl rfl rfl rfl,
   fun L st σ x => ev_b ((TP_223 _).trans rfl) rfl,
   fun l0 l1 l3 l4 l5 l6 l7 st σ x => ev_p ((TP_223 _).trans rfl) rfl,
   fun L st σ => ev_p ((TP_223 _).trans rfl) rfl,
   fun l0 l1 l2 l3 l5 l6 l7 st σ x => ev_p ((TP_223 _).trans rfl) rfl,
   fun L st σ => ev_p ((TP_223 _).trans rfl) rfl,
   fun L st σ x y => ev_p ((TP_223 _).trans rfl) rfl,
   fun L σ a0 a1 a2 s0 => ev_call ((TP_223 _).trans rfl) rfl rfl rfl rfl,
   fun L st σ x => ev_b ((TP_223 _).trans rfl) rfl,
   fun L st σ => ev_p ((TP_223 _).trans rfl) rfl,
   fun L st σ => ev_p ((TP_223 _).trans rfl) rfl,
   fun L st σ => ev_p ((TP_223 _).trans rfl) rfl,
   fun L σ a0 a1 => ev_callv ((TP_223 _).trans rfl) rfl rfl rfl rfl,
   fun L st σ x => ev_b ((TP_223 _).trans rfl) rfl,
   fun L st σ => ev_p ((TP_223 _).trans rfl) rfl,
   fun L σ x => ev_r ((TP_223 _).trans rfl) rfl,
   fun l1 l2 l3 l4 l5 l6 l7 st σ x => ev_p ((TP_223 _).trans rfl) rfl,
   fun L st σ a => ev_getf ((TP_223 _).trans rfl),
   fun L st σ => ev_p ((TP_223 _).trans rfl) rfl,
   fun l1 l2 l3 l4 l5 l6 l7 st σ x => ev_p ((TP_223 _).trans rfl) rfl⟩
theorem I_223_1 :
  (∀ (L : ri_L) (st : List Value) (σ : ri_S) (a : Nat), ev 223 (76, L, .ref a :: st) σ = tv_o 9 4 (σ.1 a) fun v => ev 223 (79, L, v :: st) σ) ∧
  (∀ (L : ri_L) (st : List Value) (σ : ri_S), ev 223 (79, L, st) σ = ev 223 (80, L, .int 0 :: st) σ) ∧
  (∀ (L : ri_L) (σ : ri_S) (a0 : Nat) (a1 : Int32) (a2 : Nat) (a3 : Int32), ev 223 (80, L, [.int a3, .ref a2, .int a1, .ref a0]) σ = (cal 147 [.ref a0, .int a1, .ref a2, .int a3] σ).bind fun q => ev 223 (83, L, q.1.toList ++ []) q.2) ∧
  (∀ (L : ri_L) (st : List Value) (σ : ri_S), ev 223 (83, L, st) σ = ev 223 (84, L, .int 0 :: st) σ) ∧
  (∀ (l0 l1 l2 l3 l4 l5 l6 l7 : Option Value) (st : List Value) (σ : ri_S) (x : Int32), ev 223 (84, [l0, l1, l2, l3, l4, l5, l6, l7], .int x :: st) σ = ev 223 (86, [l0, l1, l2, l3, l4, ri_clr l5, some (.int x), l7], st) σ) ∧
  (∀ (l0 l2 l3 l4 l5 l6 l7 : Option Value) (st : List Value) (σ : ri_S) (x : Int32), ev 223 (88, [l0, some (.int x), l2, l3, l4, l5, l6, l7], st) σ = ev 223 (89, [l0, some (.int x), l2, l3, l4, l5, l6, l7], .int x :: st) σ) ∧
  (∀ (L : ri_L) (st : List Value) (σ : ri_S) (x y : Int32), ev 223 (89, L, .int y :: .int x :: st) σ = if y ≤ x then ev 223 (139, L, st) σ else ev 223 (92, L, st) σ) ∧
  (∀ (l0 l1 l2 l3 l5 l6 l7 : Option Value) (st : List Value) (σ : ri_S) (x : Int64), ev 223 (92, [l0, l1, l2, l3, some (.long x), l5, l6, l7], st) σ = ev 223 (94, [l0, l1, l2, l3, some (.long x), l5, l6, l7], .long x :: st) σ) ∧
  (∀ (L : ri_L) (st : List Value) (σ : ri_S), ev 223 (94, L, st) σ = ev 223 (97, L, .long 100000 :: st) σ) ∧
  (∀ (L : ri_L) (st : List Value) (σ : ri_S) (x y : Int64), ev 223 (97, L, .long y :: .long x :: st) σ = if y = 0 then none else ev 223 (98, L, .long (x / y) :: st) σ) ∧
  (∀ (l0 l1 l2 l3 l4 l5 l6 l7 : Option Value) (st : List Value) (σ : ri_S) (x : Int64), ev 223 (98, [l0, l1, l2, l3, l4, l5, l6, l7], .long x :: st) σ = ev 223 (100, [l0, l1, l2, ri_clr l3, some (.long x), none, l6, l7], st) σ) ∧
  (∀ (l0 l1 l3 l4 l5 l6 l7 : Option Value) (st : List Value) (σ : ri_S) (x : Int64), ev 223 (100, [l0, l1, some (.long x), l3, l4, l5, l6, l7], st) σ = ev 223 (101, [l0, l1, some (.long x), l3, l4, l5, l6, l7], .long x :: st) σ) ∧
  (∀ (l0 l1 l2 l3 l5 l6 l7 : Option Value) (st : List Value) (σ : ri_S) (x : Int64), ev 223 (101, [l0, l1, l2, l3, some (.long x), l5, l6, l7], st) σ = ev 223 (103, [l0, l1, l2, l3, some (.long x), l5, l6, l7], .long x :: st) σ) ∧
  (∀ (L : ri_L) (st : List Value) (σ : ri_S) (x y : Int64), ev 223 (103, L, .long y :: .long x :: st) σ = if y = 0 then none else ev 223 (104, L, .long (x / y) :: st) σ) ∧
  (∀ (L : ri_L) (st : List Value) (σ : ri_S), ev 223 (104, L, st) σ = ev 223 (107, L, .long 100000 :: st) σ) ∧
  (∀ (L : ri_L) (st : List Value) (σ : ri_S) (x y : Int64), ev 223 (107, L, .long y :: .long x :: st) σ = if y = 0 then none else ev 223 (108, L, .long (x - x / y * y) :: st) σ) ∧
  (∀ (L : ri_L) (st : List Value) (σ : ri_S) (x : Int64), ev 223 (108, L, .long x :: st) σ = ev 223 (109, L, .int x.toInt32 :: st) σ) ∧
  (∀ (l0 l1 l2 l3 l4 l5 l6 l7 : Option Value) (st : List Value) (σ : ri_S) (x : Int32), ev 223 (109, [l0, l1, l2, l3, l4, l5, l6, l7], .int x :: st) σ = ev 223 (111, [l0, l1, l2, l3, l4, l5, ri_clr l6, some (.int x)], st) σ) ∧
  (∀ (l1 l2 l3 l4 l5 l6 l7 : Option Value) (st : List Value) (σ : ri_S) (x : Nat), ev 223 (111, [some (.ref x), l1, l2, l3, l4, l5, l6, l7], st) σ = ev 223 (112, [some (.ref x), l1, l2, l3, l4, l5, l6, l7], .ref x :: st) σ) ∧
  (∀ (l0 l1 l2 l3 l4 l5 l6 : Option Value) (st : List Value) (σ : ri_S) (x : Int32), ev 223 (112, [l0, l1, l2, l3, l4, l5, l6, some (.int x)], st) σ = ev 223 (114, [l0, l1, l2, l3, l4, l5, l6, some (.int x)], .int x :: st) σ) ∧
  (∀ (L : ri_L) (st : List Value) (σ : ri_S), ev 223 (114, L, st) σ = ev 223 (117, L, .int 10000 :: st) σ) ∧
  (∀ (L : ri_L) (st : List Value) (σ : ri_S) (x y : Int32), ev 223 (117, L, .int y :: .int x :: st) σ = if y = 0 then none else ev 223 (118, L, .int (x / y) :: st) σ) ∧
  (∀ (l0 l1 l2 l3 l4 l5 l6 : Option Value) (st : List Value) (σ : ri_S) (x : Int32), ev 223 (118, [l0, l1, l2, l3, l4, l5, l6, some (.int x)], st) σ = ev 223 (120, [l0, l1, l2, l3, l4, l5, l6, some (.int x)], .int x :: st) σ) ∧
  (∀ (L : ri_L) (st : List Value) (σ : ri_S), ev 223 (120, L, st) σ = ev 223 (123, L, .int 10000 :: st) σ) ∧
  (∀ (L : ri_L) (st : List Value) (σ : ri_S) (x y : Int32), ev 223 (123, L, .int y :: .int x :: st) σ = if y = 0 then none else ev 223 (124, L, .int (x - x / y * y) :: st) σ) ∧
  (∀ (L : ri_L) (σ : ri_S) (a0 : Nat) (a1 : Int32) (a2 : Int32), ev 223 (124, L, [.int a2, .int a1, .ref a0]) σ = tv_k 9 (σ.1 a0) ((cal 222 [.ref a0, .int a1, .int a2] σ).bind fun q => ev 223 (127, L, q.1.toList ++ []) q.2)) ∧
  (∀ (L : ri_L) (st : List Value) (σ : ri_S) (x : Int32), ev 223 (127, L, .int x :: st) σ = if ¬ x = 0 then ev 223 (133, L, st) σ else ev 223 (130, L, st) σ) ∧
  (∀ (l0 l1 l2 l3 l4 l5 l7 : Option Value) (st : List Value) (σ : ri_S) (x : Int32), ev 223 (130, [l0, l1, l2, l3, l4, l5, some (.int x), l7], st) σ = ev 223 (132, [l0, l1, l2, l3, l4, l5, some (.int x), l7], .int x :: st) σ) ∧
  (∀ (L : ri_L) (σ : ri_S) (x : Int32), ev 223 (132, L, [.int x]) σ = some (some (.int x), σ)) ∧
  (∀ (l0 l1 l2 l3 l4 l5 l7 : Option Value) (st : List Value) (σ : ri_S) (x : Int32), ev 223 (133, [l0, l1, l2, l3, l4, l5, some (.int x), l7], st) σ = ev 223 (136, [l0, l1, l2, l3, l4, ri_clr l5, some (.int (x + 1)), l7], st) σ) ∧
  (∀ (L : ri_L) (st : List Value) (σ : ri_S), ev 223 (136, L, st) σ = ev 223 (86, L, st) σ) ∧
  (∀ (L : ri_L) (st : List Value) (σ : ri_S), ev 223 (139, L, st) σ = ev 223 (140, L, .int (-1) :: st) σ) ∧
  (∀ (L : ri_L) (σ : ri_S) (x : Int32), ev 223 (140, L, [.int x]) σ = some (some (.int x), σ)) :=
  ⟨fun L st σ a => ev_getf ((TP_223 _).trans rfl),
   fun L st σ => ev_p ((TP_223 _).trans rfl) rfl,
   fun L σ a0 a1 a2 a3 => ev_call ((TP_223 _).trans rfl) rfl rfl rfl rfl,
   fun L st σ => ev_p ((TP_223 _).trans rfl) rfl,
   fun l0 l1 l2 l3 l4 l5 l6 l7 st σ x => ev_p ((TP_223 _).trans rfl) rfl,
   fun l0 l2 l3 l4 l5 l6 l7 st σ x => ev_p ((TP_223 _).trans rfl) rfl,
   fun L st σ x y => ev_b ((TP_223 _).trans rfl) rfl,
   fun l0 l1 l2 l3 l5 l6 l7 st σ x => ev_p ((TP_223 _).trans rfl) rfl,
   fun L st σ => ev_p ((TP_223 _).trans rfl) rfl,
   fun L st σ x y => ev_dl ((TP_223 _).trans rfl) rfl,
   fun l0 l1 l2 l3 l4 l5 l6 l7 st σ x => ev_p ((TP_223 _).trans rfl) rfl,
   fun l0 l1 l3 l4 l5 l6 l7 st σ x => ev_p ((TP_223 _).trans rfl) rfl,
   fun l0 l1 l2 l3 l5 l6 l7 st σ x => ev_p ((TP_223 _).trans rfl) rfl,
   fun L st σ x y => ev_dl ((TP_223 _).trans rfl) rfl,
   fun L st σ => ev_p ((TP_223 _).trans rfl) rfl,
   fun L st σ x y => ev_dl ((TP_223 _).trans rfl) rfl,
   fun L st σ x => ev_p ((TP_223 _).trans rfl) rfl,
   fun l0 l1 l2 l3 l4 l5 l6 l7 st σ x => ev_p ((TP_223 _).trans rfl) rfl,
   fun l1 l2 l3 l4 l5 l6 l7 st σ x => ev_p ((TP_223 _).trans rfl) rfl,
   fun l0 l1 l2 l3 l4 l5 l6 st σ x => ev_p ((TP_223 _).trans rfl) rfl,
   fun L st σ => ev_p ((TP_223 _).trans rfl) rfl,
   fun L st σ x y => ev_d ((TP_223 _).trans rfl) rfl,
   fun l0 l1 l2 l3 l4 l5 l6 st σ x => ev_p ((TP_223 _).trans rfl) rfl,
   fun L st σ => ev_p ((TP_223 _).trans rfl) rfl,
   fun L st σ x y => ev_d ((TP_223 _).trans rfl) rfl,
   fun L σ a0 a1 a2 => ev_callv ((TP_223 _).trans rfl) rfl rfl rfl rfl,
   fun L st σ x => ev_b ((TP_223 _).trans rfl) rfl,
   fun l0 l1 l2 l3 l4 l5 l7 st σ x => ev_p ((TP_223 _).trans rfl) rfl,
   fun L σ x => ev_r ((TP_223 _).trans rfl) rfl,
   fun l0 l1 l2 l3 l4 l5 l7 st σ x => ev_p ((TP_223 _).trans rfl) rfl,
   fun L st σ => ev_p ((TP_223 _).trans rfl) rfl,
   fun L st σ => ev_p ((TP_223 _).trans rfl) rfl,
   fun L σ x => ev_r ((TP_223 _).trans rfl) rfl⟩
theorem TP_224 (pc : Nat) : TT 224 pc = ri_find TL_224 pc := rfl
theorem E_224 (x0 : Nat) (x1 : Int32) (x2 : Int32) (σ : ri_S) : cal 224 [.ref x0, .int x1, .int x2] σ = ev 224 (0, [some (.ref x0), some (.int x1), some (.int x2), none, none], []) σ := rfl
set_option maxRecDepth 8000 in
theorem I_224_0 :
  (∀ (l0 l1 l3 l4 : Option Value) (st : List Value) (σ : ri_S) (x : Int32), ev 224 (0, [l0, l1, some (.int x), l3, l4], st) σ = ev 224 (1, [l0, l1, some (.int x), l3, l4], .int x :: st) σ) ∧
  (∀ (L : ri_L) (st : List Value) (σ : ri_S), ev 224 (1, L, st) σ = ev 224 (2, L, .int 3 :: st) σ) ∧
  (∀ (L : ri_L) (st : List Value) (σ : ri_S) (x y : Int32), ev 224 (2, L, .int y :: .int x :: st) σ = if y = 0 then none else ev 224 (3, L, .int (x - x / y * y) :: st) σ) ∧
  (∀ (l0 l1 l2 l3 l4 : Option Value) (st : List Value) (σ : ri_S) (x : Int32), ev 224 (3, [l0, l1, l2, l3, l4], .int x :: st) σ = ev 224 (4, [l0, l1, ri_clr l2, some (.int x), l4], st) σ) ∧
  (∀ (l0 l1 l3 l4 : Option Value) (st : List Value) (σ : ri_S) (x : Int32), ev 224 (4, [l0, l1, some (.int x), l3, l4], st) σ = ev 224 (5, [l0, l1, some (.int x), l3, l4], .int x :: st) σ) ∧
  (∀ (L : ri_L) (st : List Value) (σ : ri_S), ev 224 (5, L, st) σ = ev 224 (6, L, .int 4 :: st) σ) ∧
  (∀ (L : ri_L) (st : List Value) (σ : ri_S) (x y : Int32), ev 224 (6, L, .int y :: .int x :: st) σ = if y = 0 then none else ev 224 (7, L, .int (x / y) :: st) σ) ∧
  (∀ (L : ri_L) (st : List Value) (σ : ri_S), ev 224 (7, L, st) σ = ev 224 (8, L, .int 5 :: st) σ) ∧
  (∀ (L : ri_L) (st : List Value) (σ : ri_S) (x y : Int32), ev 224 (8, L, .int y :: .int x :: st) σ = if y = 0 then none else ev 224 (9, L, .int (x - x / y * y) :: st) σ) ∧
  (∀ (l0 l1 l2 l3 l4 : Option Value) (st : List Value) (σ : ri_S) (x : Int32), ev 224 (9, [l0, l1, l2, l3, l4], .int x :: st) σ = ev 224 (11, [l0, l1, l2, ri_clr l3, some (.int x)], st) σ) ∧
  (∀ (l0 l2 l3 l4 : Option Value) (st : List Value) (σ : ri_S) (x : Int32), ev 224 (11, [l0, some (.int x), l2, l3, l4], st) σ = ev 224 (12, [l0, some (.int x), l2, l3, l4], .int x :: st) σ) ∧
  (∀ (L : ri_L) (st : List Value) (σ : ri_S) (x : Int32), ev 224 (12, L, .int x :: st) σ = if ¬ x = 0 then ev 224 (50, L, st) σ else ev 224 (15, L, st) σ) ∧
  (∀ (l1 l2 l3 l4 : Option Value) (st : List Value) (σ : ri_S) (x : Nat), ev 224 (15, [some (.ref x), l1, l2, l3, l4], st) σ = ev 224 (16, [some (.ref x), l1, l2, l3, l4], .ref x :: st) σ) ∧
  (∀ (L : ri_L) (st : List Value) (σ : ri_S), ev 224 (16, L, st) σ = ev 224 (17, L, .int 0 :: st) σ) ∧
  (∀ (L : ri_L) (st : List Value) (σ : ri_S) (a : Nat) (i : Int32), ev 224 (17, L, .int i :: .ref a :: st) σ = tv_r 0 (σ.1 a) i fun n f j => ev 224 (18, L, .int (f j) :: st) σ) ∧
  (∀ (L : ri_L) (st : List Value) (σ : ri_S), ev 224 (18, L, st) σ = ev 224 (19, L, .int 3 :: st) σ) ∧
  (∀ (L : ri_L) (st : List Value) (σ : ri_S) (x y : Int32), ev 224 (19, L, .int y :: .int x :: st) σ = if y ≤ x then ev 224 (194, L, st) σ else ev 224 (22, L, st) σ) ∧
  (∀ (l1 l2 l3 l4 : Option Value) (st : List Value) (σ : ri_S) (x : Nat), ev 224 (22, [some (.ref x), l1, l2, l3, l4], st) σ = ev 224 (23, [some (.ref x), l1, l2, l3, l4], .ref x :: st) σ) ∧
  (∀ (L : ri_L) (st : List Value) (σ : ri_S), ev 224 (23, L, st) σ = ev 224 (24, L, .int 3 :: st) σ) ∧
  (∀ (l0 l1 l3 l4 : Option Value) (st : List Value) (σ : ri_S) (x : Int32), ev 224 (24, [l0, l1, some (.int x), l3, l4], st) σ = ev 224 (25, [l0, l1, some (.int x), l3, l4], .int x :: st) σ) ∧
  (∀ (L : ri_L) (st : List Value) (σ : ri_S), ev 224 (25, L, st) σ = ev 224 (26, L, .int 3 :: st) σ) ∧
  (∀ (L : ri_L) (st : List Value) (σ : ri_S) (x y : Int32), ev 224 (26, L, .int y :: .int x :: st) σ = if y = 0 then none else ev 224 (27, L, .int (x - x / y * y) :: st) σ) ∧
  (∀ (L : ri_L) (st : List Value) (σ : ri_S) (x y : Int32), ev 224 (27, L, .int y :: .int x :: st) σ = ev 224 (28, L, .int (x + y) :: st) σ) ∧
  (∀ (l0 l1 l3 l4 : Option Value) (st : List Value) (σ : ri_S) (x : Int32), ev 224 (28, [l0, l1, some (.int x), l3, l4], st) σ = ev 224 (29, [l0, l1, some (.int x), l3, l4], .int x :: st) σ) ∧
  (∀ (L : ri_L) (st : List Value) (σ : ri_S), ev 224 (29, L, st) σ = ev 224 (30, L, .int 4 :: st) σ) ∧
  (∀ (L : ri_L) (st : List Value) (σ : ri_S) (x y : Int32), ev 224 (30, L, .int y :: .int x :: st) σ = if y = 0 then none else ev 224 (31, L, .int (x / y) :: st) σ) ∧
  (∀ (L : ri_L) (st : List Value) (σ : ri_S), ev 224 (31, L, st) σ = ev 224 (33, L, .int 9 :: st) σ) ∧
  (∀ (L : ri_L) (st : List Value) (σ : ri_S) (x y : Int32), ev 224 (33, L, .int y :: .int x :: st) σ = if y = 0 then none else ev 224 (34, L, .int (x - x / y * y) :: st) σ) ∧
  (∀ (L : ri_L) (st : List Value) (σ : ri_S), ev 224 (34, L, st) σ = ev 224 (35, L, .int 4 :: st) σ) ∧
  (∀ (L : ri_L) (st : List Value) (σ : ri_S) (x y : Int32), ev 224 (35, L, .int y :: .int x :: st) σ = ev 224 (36, L, .int (x - y) :: st) σ) ∧
  (∀ (l0 l1 l3 l4 : Option Value) (st : List Value) (σ : ri_S) (x : Int32), ev 224 (36, [l0, l1, some (.int x), l3, l4], st) σ = ev 224 (37, [l0, l1, some (.int x), l3, l4], .int x :: st) σ) ∧
  (∀ (L : ri_L) (st : List Value) (σ : ri_S), ev 224 (37, L, st) σ = ev 224 (39, L, .int 64 :: st) σ) ∧
  (∀ (L : ri_L) (st : List Value) (σ : ri_S) (x y : Int32), ev 224 (39, L, .int y :: .int x :: st) σ = if y = 0 then none else ev 224 (40, L, .int (x / y) :: st) σ) ∧
  (∀ (L : ri_L) (st : List Value) (σ : ri_S), ev 224 (40, L, st) σ = ev 224 (42, L, .int 31 :: st) σ) ∧
  (∀ (L : ri_L) (st : List Value) (σ : ri_S) (x y : Int32), ev 224 (42, L, .int y :: .int x :: st) σ = if y = 0 then none else ev 224 (43, L, .int (x - x / y * y) :: st) σ) ∧
  (∀ (L : ri_L) (σ : ri_S) (a0 : Nat) (a1 : Int32) (a2 : Int32) (a3 : Int32), ev 224 (43, L, [.int a3, .int a2, .int a1, .ref a0]) σ = (cal 175 [.ref a0, .int a1, .int a2, .int a3] σ).bind fun q => ev 224 (46, L, q.1.toList ++ []) q.2) ∧
  (∀ (L : ri_L) (st : List Value) (σ : ri_S) (x : Int32), ev 224 (46, L, .int x :: st) σ = ev 224 (47, L, st) σ) ∧
  (∀ (L : ri_L) (st : List Value) (σ : ri_S), ev 224 (47, L, st) σ = ev 224 (194, L, st) σ) ∧
  (∀ (l0 l2 l3 l4 : Option Value) (st : List Value) (σ : ri_S) (x : Int32), ev 224 (50, [l0, some (.int x), l2, l3, l4], st) σ = ev 224 (51, [l0, some (.int x), l2, l3, l4], .int x :: st) σ) ∧
  (∀ (L : ri_L) (st : List Value) (σ : ri_S), ev 224 (51, L, st) σ = ev 224 (52, L, .int 3 :: st) σ) :=
  ⟨fun l0 l1 l3 l4 st σ x => ev_p ((TP_224 _).trans rfl) rfl,
   fun L st σ => ev_p ((TP_224 _).trans rfl) rfl,
   fun L st σ x y => ev_d ((TP_224 _).trans rfl) rfl,
   fun l0 l1 l2 l3 l4 st σ x => ev_p ((TP_224 _).trans rfl) rfl,
   fun l0 l1 l3 l4 st σ x => ev_p ((TP_224 _).trans rfl) rfl,
   fun L st σ => ev_p ((TP_224 _).trans rfl) rfl,
   fun L st σ x y => ev_d ((TP_224 _).trans rfl) rfl,
   fun L st σ => ev_p ((TP_224 _).trans rfl) rfl,
   fun L st σ x y => ev_d ((TP_224 _).trans rfl) rfl,
   fun l0 l1 l2 l3 l4 st σ x => ev_p ((TP_224 _).trans rfl) rfl,
   fun l0 l2 l3 l4 st σ x => ev_p ((TP_224 _).trans rfl) rfl,
   fun L st σ x => ev_b ((TP_224 _).trans rfl) rfl,
   fun l1 l2 l3 l4 st σ x => ev_p ((TP_224 _).trans rfl) rfl,
   fun L st σ => ev_p ((TP_224 _).trans rfl) rfl,
   fun L st σ a i => ev_iald ((TP_224 _).trans rfl),
   fun L st σ => ev_p ((TP_224 _).trans rfl) rfl,
   fun L st σ x y => ev_b ((TP_224 _).trans rfl) rfl,
   fun l1 l2 l3 l4 st σ x => ev_p ((TP_224 _).trans rfl) rfl,
   fun L st σ => ev_p ((TP_224 _).trans rfl) rfl,
   fun l0 l1 l3 l4 st σ x => ev_p ((TP_224 _).trans rfl) rfl,
   fun L st σ => ev_p ((TP_224 _).trans rfl) rfl,
   fun L st σ x y => ev_d ((TP_224 _).trans rfl) rfl,
   fun L st σ x y => ev_p ((TP_224 _).trans rfl) rfl,
   fun l0 l1 l3 l4 st σ x => ev_p ((TP_224 _).trans rfl) rfl,
   fun L st σ => ev_p ((TP_224 _).trans rfl) rfl,
   fun L st σ x y => ev_d ((TP_224 _).trans rfl) rfl,
   fun L st σ => ev_p ((TP_224 _).trans rfl) rfl,
   fun L st σ x y => ev_d ((TP_224 _).trans rfl) rfl,
   fun L st σ => ev_p ((TP_224 _).trans rfl) rfl,
   fun L st σ x y => ev_p ((TP_224 _).trans rfl) rfl,
   fun l0 l1 l3 l4 st σ x => ev_p ((TP_224 _).trans rfl) rfl,
   fun L st σ => ev_p ((TP_224 _).trans rfl) rfl,
   fun L st σ x y => ev_d ((TP_224 _).trans rfl) rfl,
   fun L st σ => ev_p ((TP_224 _).trans rfl) rfl,
   fun L st σ x y => ev_d ((TP_224 _).trans rfl) rfl,
   fun L σ a0 a1 a2 a3 => ev_call ((TP_224 _).trans rfl) rfl rfl rfl rfl,
   fun L st σ x => ev_p ((TP_224 _).trans rfl) rfl,
   fun L st σ => ev_p ((TP_224 _).trans rfl) rfl,
   fun l0 l2 l3 l4 st σ x => ev_p ((TP_224 _).trans rfl) rfl,
   fun L st σ => ev_p ((TP_224 _).trans rfl) rfl⟩
set_option maxRecDepth 8000 in
theorem I_224_1 :
  (∀ (L : ri_L) (st : List Value) (σ : ri_S) (x y : Int32), ev 224 (52, L, .int y :: .int x :: st) σ = if y ≤ x then ev 224 (102, L, st) σ else ev 224 (55, L, st) σ) ∧
  (∀ (l1 l2 l3 l4 : Option Value) (st : List Value) (σ : ri_S) (x : Nat), ev 224 (55, [some (.ref x), l1, l2, l3, l4], st) σ = ev 224 (56, [some (.ref x), l1, l2, l3, l4], .ref x :: st) σ) ∧
  (∀ (l0 l1 l2 l4 : Option Value) (st : List Value) (σ : ri_S) (x : Int32), ev 224 (56, [l0, l1, l2, some (.int x), l4], st) σ = ev 224 (57, [l0, l1, l2, some (.int x), l4], .int x :: st) σ) ∧
  (∀ (l0 l1 l2 l3 : Option Value) (st : List Value) (σ : ri_S) (x : Int32), ev 224 (57, [l0, l1, l2, l3, some (.int x)], st) σ = ev 224 (59, [l0, l1, l2, l3, some (.int x)], .int x :: st) σ) ∧
  (∀ (l0 l1 l3 l4 : Option Value) (st : List Value) (σ : ri_S) (x : Int32), ev 224 (59, [l0, l1, some (.int x), l3, l4], st) σ = ev 224 (60, [l0, l1, some (.int x), l3, l4], .int x :: st) σ) ∧
  (∀ (L : ri_L) (st : List Value) (σ : ri_S), ev 224 (60, L, st) σ = ev 224 (62, L, .int 32 :: st) σ) ∧
  (∀ (L : ri_L) (st : List Value) (σ : ri_S) (x y : Int32), ev 224 (62, L, .int y :: .int x :: st) σ = if y = 0 then none else ev 224 (63, L, .int (x / y) :: st) σ) ∧
  (∀ (L : ri_L) (st : List Value) (σ : ri_S), ev 224 (63, L, st) σ = ev 224 (64, L, .int 3 :: st) σ) ∧
  (∀ (L : ri_L) (st : List Value) (σ : ri_S) (x y : Int32), ev 224 (64, L, .int y :: .int x :: st) σ = if y = 0 then none else ev 224 (65, L, .int (x - x / y * y) :: st) σ) ∧
  (∀ (l0 l1 l3 l4 : Option Value) (st : List Value) (σ : ri_S) (x : Int32), ev 224 (65, [l0, l1, some (.int x), l3, l4], st) σ = ev 224 (66, [l0, l1, some (.int x), l3, l4], .int x :: st) σ) ∧
  (∀ (L : ri_L) (st : List Value) (σ : ri_S), ev 224 (66, L, st) σ = ev 224 (69, L, .int 128 :: st) σ) ∧
  (∀ (L : ri_L) (st : List Value) (σ : ri_S) (x y : Int32), ev 224 (69, L, .int y :: .int x :: st) σ = if y = 0 then none else ev 224 (70, L, .int (x / y) :: st) σ) ∧
  (∀ (L : ri_L) (st : List Value) (σ : ri_S), ev 224 (70, L, st) σ = ev 224 (71, L, .int 5 :: st) σ) ∧
  (∀ (L : ri_L) (st : List Value) (σ : ri_S) (x y : Int32), ev 224 (71, L, .int y :: .int x :: st) σ = if y = 0 then none else ev 224 (72, L, .int (x - x / y * y) :: st) σ) ∧
  (∀ (L : ri_L) (σ : ri_S) (a0 : Nat) (a1 : Int32) (a2 : Int32) (a3 : Int32) (a4 : Int32), ev 224 (72, L, [.int a4, .int a3, .int a2, .int a1, .ref a0]) σ = (cal 176 [.ref a0, .int a1, .int a2, .int a3, .int a4] σ).bind fun q => ev 224 (75, L, q.1.toList ++ []) q.2) ∧
  (∀ (L : ri_L) (st : List Value) (σ : ri_S) (x : Int32), ev 224 (75, L, .int x :: st) σ = if x = 0 then ev 224 (194, L, st) σ else ev 224 (78, L, st) σ) ∧
  (∀ (l1 l2 l3 l4 : Option Value) (st : List Value) (σ : ri_S) (x : Nat), ev 224 (78, [some (.ref x), l1, l2, l3, l4], st) σ = ev 224 (79, [some (.ref x), l1, l2, l3, l4], .ref x :: st) σ) ∧
  (∀ (l0 l1 l2 l4 : Option Value) (st : List Value) (σ : ri_S) (x : Int32), ev 224 (79, [l0, l1, l2, some (.int x), l4], st) σ = ev 224 (80, [l0, l1, l2, some (.int x), l4], .int x :: st) σ) ∧
  (∀ (l0 l1 l2 l3 : Option Value) (st : List Value) (σ : ri_S) (x : Int32), ev 224 (80, [l0, l1, l2, l3, some (.int x)], st) σ = ev 224 (82, [l0, l1, l2, l3, some (.int x)], .int x :: st) σ) ∧
  (∀ (l0 l1 l3 l4 : Option Value) (st : List Value) (σ : ri_S) (x : Int32), ev 224 (82, [l0, l1, some (.int x), l3, l4], st) σ = ev 224 (83, [l0, l1, some (.int x), l3, l4], .int x :: st) σ) ∧
  (∀ (L : ri_L) (st : List Value) (σ : ri_S), ev 224 (83, L, st) σ = ev 224 (85, L, .int 32 :: st) σ) ∧
  (∀ (L : ri_L) (st : List Value) (σ : ri_S) (x y : Int32), ev 224 (85, L, .int y :: .int x :: st) σ = if y = 0 then none else ev 224 (86, L, .int (x / y) :: st) σ) ∧
  (∀ (L : ri_L) (st : List Value) (σ : ri_S), ev 224 (86, L, st) σ = ev 224 (87, L, .int 3 :: st) σ) ∧
  (∀ (L : ri_L) (st : List Value) (σ : ri_S) (x y : Int32), ev 224 (87, L, .int y :: .int x :: st) σ = if y = 0 then none else ev 224 (88, L, .int (x - x / y * y) :: st) σ) ∧
  (∀ (l0 l1 l3 l4 : Option Value) (st : List Value) (σ : ri_S) (x : Int32), ev 224 (88, [l0, l1, some (.int x), l3, l4], st) σ = ev 224 (89, [l0, l1, some (.int x), l3, l4], .int x :: st) σ) ∧
  (∀ (L : ri_L) (st : List Value) (σ : ri_S), ev 224 (89, L, st) σ = ev 224 (92, L, .int 128 :: st) σ) ∧
  (∀ (L : ri_L) (st : List Value) (σ : ri_S) (x y : Int32), ev 224 (92, L, .int y :: .int x :: st) σ = if y = 0 then none else ev 224 (93, L, .int (x / y) :: st) σ) ∧
  (∀ (L : ri_L) (st : List Value) (σ : ri_S), ev 224 (93, L, st) σ = ev 224 (94, L, .int 5 :: st) σ) ∧
  (∀ (L : ri_L) (st : List Value) (σ : ri_S) (x y : Int32), ev 224 (94, L, .int y :: .int x :: st) σ = if y = 0 then none else ev 224 (95, L, .int (x - x / y * y) :: st) σ) ∧
  (∀ (L : ri_L) (σ : ri_S) (a0 : Nat) (a1 : Int32) (a2 : Int32) (a3 : Int32) (a4 : Int32), ev 224 (95, L, [.int a4, .int a3, .int a2, .int a1, .ref a0]) σ = (cal 177 [.ref a0, .int a1, .int a2, .int a3, .int a4] σ).bind fun q => ev 224 (98, L, q.1.toList ++ []) q.2) ∧
  (∀ (L : ri_L) (st : List Value) (σ : ri_S) (x : Int32), ev 224 (98, L, .int x :: st) σ = ev 224 (99, L, st) σ) ∧
  (∀ (L : ri_L) (st : List Value) (σ : ri_S), ev 224 (99, L, st) σ = ev 224 (194, L, st) σ) ∧
  (∀ (l0 l2 l3 l4 : Option Value) (st : List Value) (σ : ri_S) (x : Int32), ev 224 (102, [l0, some (.int x), l2, l3, l4], st) σ = ev 224 (103, [l0, some (.int x), l2, l3, l4], .int x :: st) σ) ∧
  (∀ (L : ri_L) (st : List Value) (σ : ri_S), ev 224 (103, L, st) σ = ev 224 (104, L, .int 3 :: st) σ) ∧
  (∀ (L : ri_L) (st : List Value) (σ : ri_S) (x y : Int32), ev 224 (104, L, .int y :: .int x :: st) σ = if ¬ x = y then ev 224 (137, L, st) σ else ev 224 (107, L, st) σ) ∧
  (∀ (l1 l2 l3 l4 : Option Value) (st : List Value) (σ : ri_S) (x : Nat), ev 224 (107, [some (.ref x), l1, l2, l3, l4], st) σ = ev 224 (108, [some (.ref x), l1, l2, l3, l4], .ref x :: st) σ) ∧
  (∀ (l0 l1 l2 l4 : Option Value) (st : List Value) (σ : ri_S) (x : Int32), ev 224 (108, [l0, l1, l2, some (.int x), l4], st) σ = ev 224 (109, [l0, l1, l2, some (.int x), l4], .int x :: st) σ) ∧
  (∀ (l0 l1 l2 l3 : Option Value) (st : List Value) (σ : ri_S) (x : Int32), ev 224 (109, [l0, l1, l2, l3, some (.int x)], st) σ = ev 224 (111, [l0, l1, l2, l3, some (.int x)], .int x :: st) σ) ∧
  (∀ (L : ri_L) (σ : ri_S) (a0 : Nat) (a1 : Int32) (a2 : Int32), ev 224 (111, L, [.int a2, .int a1, .ref a0]) σ = (cal 178 [.ref a0, .int a1, .int a2] σ).bind fun q => ev 224 (114, L, q.1.toList ++ []) q.2) ∧
  (∀ (L : ri_L) (st : List Value) (σ : ri_S) (x : Int32), ev 224 (114, L, .int x :: st) σ = if x = 0 then ev 224 (194, L, st) σ else ev 224 (117, L, st) σ) :=
  ⟨fun L st σ x y => ev_b ((TP_224 _).trans rfl) rfl,
   fun l1 l2 l3 l4 st σ x => ev_p ((TP_224 _).trans rfl) rfl,
   fun l0 l1 l2 l4 st σ x => ev_p ((TP_224 _).trans rfl) rfl,
   fun l0 l1 l2 l3 st σ x => ev_p ((TP_224 _).trans rfl) rfl,
   fun l0 l1 l3 l4 st σ x => ev_p ((TP_224 _).trans rfl) rfl,
   fun L st σ => ev_p ((TP_224 _).trans rfl) rfl,
   fun L st σ x y => ev_d ((TP_224 _).trans rfl) rfl,
   fun L st σ => ev_p ((TP_224 _).trans rfl) rfl,
   fun L st σ x y => ev_d ((TP_224 _).trans rfl) rfl,
   fun l0 l1 l3 l4 st σ x => ev_p ((TP_224 _).trans rfl) rfl,
   fun L st σ => ev_p ((TP_224 _).trans rfl) rfl,
   fun L st σ x y => ev_d ((TP_224 _).trans rfl) rfl,
   fun L st σ => ev_p ((TP_224 _).trans rfl) rfl,
   fun L st σ x y => ev_d ((TP_224 _).trans rfl) rfl,
   fun L σ a0 a1 a2 a3 a4 => ev_call ((TP_224 _).trans rfl) rfl rfl rfl rfl,
   fun L st σ x => ev_b ((TP_224 _).trans rfl) rfl,
   fun l1 l2 l3 l4 st σ x => ev_p ((TP_224 _).trans rfl) rfl,
   fun l0 l1 l2 l4 st σ x => ev_p ((TP_224 _).trans rfl) rfl,
   fun l0 l1 l2 l3 st σ x => ev_p ((TP_224 _).trans rfl) rfl,
   fun l0 l1 l3 l4 st σ x => ev_p ((TP_224 _).trans rfl) rfl,
   fun L st σ => ev_p ((TP_224 _).trans rfl) rfl,
   fun L st σ x y => ev_d ((TP_224 _).trans rfl) rfl,
   fun L st σ => ev_p ((TP_224 _).trans rfl) rfl,
   fun L st σ x y => ev_d ((TP_224 _).trans rfl) rfl,
   fun l0 l1 l3 l4 st σ x => ev_p ((TP_224 _).trans rfl) rfl,
   fun L st σ => ev_p ((TP_224 _).trans rfl) rfl,
   fun L st σ x y => ev_d ((TP_224 _).trans rfl) rfl,
   fun L st σ => ev_p ((TP_224 _).trans rfl) rfl,
   fun L st σ x y => ev_d ((TP_224 _).trans rfl) rfl,
   fun L σ a0 a1 a2 a3 a4 => ev_call ((TP_224 _).trans rfl) rfl rfl rfl rfl,
   fun L st σ x => ev_p ((TP_224 _).trans rfl) rfl,
   fun L st σ => ev_p ((TP_224 _).trans rfl) rfl,
   fun l0 l2 l3 l4 st σ x => ev_p ((TP_224 _).trans rfl) rfl,
   fun L st σ => ev_p ((TP_224 _).trans rfl) rfl,
   fun L st σ x y => ev_b ((TP_224 _).trans rfl) rfl,
   fun l1 l2 l3 l4 st σ x => ev_p ((TP_224 _).trans rfl) rfl,
   fun l0 l1 l2 l4 st σ x => ev_p ((TP_224 _).trans rfl) rfl,
   fun l0 l1 l2 l3 st σ x => ev_p ((TP_224 _).trans rfl) rfl,
   fun L σ a0 a1 a2 => ev_call ((TP_224 _).trans rfl) rfl rfl rfl rfl,
   fun L st σ x => ev_b ((TP_224 _).trans rfl) rfl⟩
set_option maxRecDepth 8000 in
theorem I_224_2 :
  (∀ (l1 l2 l3 l4 : Option Value) (st : List Value) (σ : ri_S) (x : Nat), ev 224 (117, [some (.ref x), l1, l2, l3, l4], st) σ = ev 224 (118, [some (.ref x), l1, l2, l3, l4], .ref x :: st) σ) ∧
  (∀ (l0 l1 l2 l4 : Option Value) (st : List Value) (σ : ri_S) (x : Int32), ev 224 (118, [l0, l1, l2, some (.int x), l4], st) σ = ev 224 (119, [l0, l1, l2, some (.int x), l4], .int x :: st) σ) ∧
  (∀ (l0 l1 l2 l3 : Option Value) (st : List Value) (σ : ri_S) (x : Int32), ev 224 (119, [l0, l1, l2, l3, some (.int x)], st) σ = ev 224 (121, [l0, l1, l2, l3, some (.int x)], .int x :: st) σ) ∧
  (∀ (L : ri_L) (st : List Value) (σ : ri_S), ev 224 (121, L, st) σ = ev 224 (122, L, .int 1 :: st) σ) ∧
  (∀ (l0 l1 l3 l4 : Option Value) (st : List Value) (σ : ri_S) (x : Int32), ev 224 (122, [l0, l1, some (.int x), l3, l4], st) σ = ev 224 (123, [l0, l1, some (.int x), l3, l4], .int x :: st) σ) ∧
  (∀ (L : ri_L) (st : List Value) (σ : ri_S), ev 224 (123, L, st) σ = ev 224 (125, L, .int 32 :: st) σ) ∧
  (∀ (L : ri_L) (st : List Value) (σ : ri_S) (x y : Int32), ev 224 (125, L, .int y :: .int x :: st) σ = if y = 0 then none else ev 224 (126, L, .int (x / y) :: st) σ) ∧
  (∀ (L : ri_L) (st : List Value) (σ : ri_S), ev 224 (126, L, st) σ = ev 224 (128, L, .int 9 :: st) σ) ∧
  (∀ (L : ri_L) (st : List Value) (σ : ri_S) (x y : Int32), ev 224 (128, L, .int y :: .int x :: st) σ = if y = 0 then none else ev 224 (129, L, .int (x - x / y * y) :: st) σ) ∧
  (∀ (L : ri_L) (st : List Value) (σ : ri_S) (x y : Int32), ev 224 (129, L, .int y :: .int x :: st) σ = ev 224 (130, L, .int (x + y) :: st) σ) ∧
  (∀ (L : ri_L) (σ : ri_S) (a0 : Nat) (a1 : Int32) (a2 : Int32) (a3 : Int32), ev 224 (130, L, [.int a3, .int a2, .int a1, .ref a0]) σ = (cal 179 [.ref a0, .int a1, .int a2, .int a3] σ).bind fun q => ev 224 (133, L, q.1.toList ++ []) q.2) ∧
  (∀ (L : ri_L) (st : List Value) (σ : ri_S) (x : Int32), ev 224 (133, L, .int x :: st) σ = ev 224 (134, L, st) σ) ∧
  (∀ (L : ri_L) (st : List Value) (σ : ri_S), ev 224 (134, L, st) σ = ev 224 (194, L, st) σ) ∧
  (∀ (l0 l2 l3 l4 : Option Value) (st : List Value) (σ : ri_S) (x : Int32), ev 224 (137, [l0, some (.int x), l2, l3, l4], st) σ = ev 224 (138, [l0, some (.int x), l2, l3, l4], .int x :: st) σ) ∧
  (∀ (L : ri_L) (st : List Value) (σ : ri_S), ev 224 (138, L, st) σ = ev 224 (139, L, .int 4 :: st) σ) ∧
  (∀ (L : ri_L) (st : List Value) (σ : ri_S) (x y : Int32), ev 224 (139, L, .int y :: .int x :: st) σ = if ¬ x = y then ev 224 (172, L, st) σ else ev 224 (142, L, st) σ) ∧
  (∀ (l1 l2 l3 l4 : Option Value) (st : List Value) (σ : ri_S) (x : Nat), ev 224 (142, [some (.ref x), l1, l2, l3, l4], st) σ = ev 224 (143, [some (.ref x), l1, l2, l3, l4], .ref x :: st) σ) ∧
  (∀ (l0 l1 l2 l4 : Option Value) (st : List Value) (σ : ri_S) (x : Int32), ev 224 (143, [l0, l1, l2, some (.int x), l4], st) σ = ev 224 (144, [l0, l1, l2, some (.int x), l4], .int x :: st) σ) ∧
  (∀ (l0 l1 l2 l3 : Option Value) (st : List Value) (σ : ri_S) (x : Int32), ev 224 (144, [l0, l1, l2, l3, some (.int x)], st) σ = ev 224 (146, [l0, l1, l2, l3, some (.int x)], .int x :: st) σ) ∧
  (∀ (L : ri_L) (σ : ri_S) (a0 : Nat) (a1 : Int32) (a2 : Int32), ev 224 (146, L, [.int a2, .int a1, .ref a0]) σ = (cal 153 [.ref a0, .int a1, .int a2] σ).bind fun q => ev 224 (149, L, q.1.toList ++ []) q.2) ∧
  (∀ (L : ri_L) (st : List Value) (σ : ri_S) (x : Int32), ev 224 (149, L, .int x :: st) σ = if x = 0 then ev 224 (194, L, st) σ else ev 224 (152, L, st) σ) ∧
  (∀ (l1 l2 l3 l4 : Option Value) (st : List Value) (σ : ri_S) (x : Nat), ev 224 (152, [some (.ref x), l1, l2, l3, l4], st) σ = ev 224 (153, [some (.ref x), l1, l2, l3, l4], .ref x :: st) σ) ∧
  (∀ (l0 l1 l2 l4 : Option Value) (st : List Value) (σ : ri_S) (x : Int32), ev 224 (153, [l0, l1, l2, some (.int x), l4], st) σ = ev 224 (154, [l0, l1, l2, some (.int x), l4], .int x :: st) σ) ∧
  (∀ (l0 l1 l2 l3 : Option Value) (st : List Value) (σ : ri_S) (x : Int32), ev 224 (154, [l0, l1, l2, l3, some (.int x)], st) σ = ev 224 (156, [l0, l1, l2, l3, some (.int x)], .int x :: st) σ) ∧
  (∀ (L : ri_L) (st : List Value) (σ : ri_S), ev 224 (156, L, st) σ = ev 224 (157, L, .int 1 :: st) σ) ∧
  (∀ (l0 l1 l3 l4 : Option Value) (st : List Value) (σ : ri_S) (x : Int32), ev 224 (157, [l0, l1, some (.int x), l3, l4], st) σ = ev 224 (158, [l0, l1, some (.int x), l3, l4], .int x :: st) σ) ∧
  (∀ (L : ri_L) (st : List Value) (σ : ri_S), ev 224 (158, L, st) σ = ev 224 (160, L, .int 32 :: st) σ) ∧
  (∀ (L : ri_L) (st : List Value) (σ : ri_S) (x y : Int32), ev 224 (160, L, .int y :: .int x :: st) σ = if y = 0 then none else ev 224 (161, L, .int (x / y) :: st) σ) ∧
  (∀ (L : ri_L) (st : List Value) (σ : ri_S), ev 224 (161, L, st) σ = ev 224 (163, L, .int 9 :: st) σ) ∧
  (∀ (L : ri_L) (st : List Value) (σ : ri_S) (x y : Int32), ev 224 (163, L, .int y :: .int x :: st) σ = if y = 0 then none else ev 224 (164, L, .int (x - x / y * y) :: st) σ) ∧
  (∀ (L : ri_L) (st : List Value) (σ : ri_S) (x y : Int32), ev 224 (164, L, .int y :: .int x :: st) σ = ev 224 (165, L, .int (x + y) :: st) σ) ∧
  (∀ (L : ri_L) (σ : ri_S) (a0 : Nat) (a1 : Int32) (a2 : Int32) (a3 : Int32), ev 224 (165, L, [.int a3, .int a2, .int a1, .ref a0]) σ = (cal 180 [.ref a0, .int a1, .int a2, .int a3] σ).bind fun q => ev 224 (168, L, q.1.toList ++ []) q.2) ∧
  (∀ (L : ri_L) (st : List Value) (σ : ri_S) (x : Int32), ev 224 (168, L, .int x :: st) σ = ev 224 (169, L, st) σ) ∧
  (∀ (L : ri_L) (st : List Value) (σ : ri_S), ev 224 (169, L, st) σ = ev 224 (194, L, st) σ) ∧
  (∀ (l1 l2 l3 l4 : Option Value) (st : List Value) (σ : ri_S) (x : Nat), ev 224 (172, [some (.ref x), l1, l2, l3, l4], st) σ = ev 224 (173, [some (.ref x), l1, l2, l3, l4], .ref x :: st) σ) ∧
  (∀ (l0 l1 l2 l4 : Option Value) (st : List Value) (σ : ri_S) (x : Int32), ev 224 (173, [l0, l1, l2, some (.int x), l4], st) σ = ev 224 (174, [l0, l1, l2, some (.int x), l4], .int x :: st) σ) ∧
  (∀ (L : ri_L) (σ : ri_S) (a0 : Nat) (a1 : Int32), ev 224 (174, L, [.int a1, .ref a0]) σ = (cal 152 [.ref a0, .int a1] σ).bind fun q => ev 224 (177, L, q.1.toList ++ []) q.2) ∧
  (∀ (L : ri_L) (st : List Value) (σ : ri_S) (x : Int32), ev 224 (177, L, .int x :: st) σ = if x = 0 then ev 224 (194, L, st) σ else ev 224 (180, L, st) σ) ∧
  (∀ (l1 l2 l3 l4 : Option Value) (st : List Value) (σ : ri_S) (x : Nat), ev 224 (180, [some (.ref x), l1, l2, l3, l4], st) σ = ev 224 (181, [some (.ref x), l1, l2, l3, l4], .ref x :: st) σ) ∧
  (∀ (l0 l1 l2 l4 : Option Value) (st : List Value) (σ : ri_S) (x : Int32), ev 224 (181, [l0, l1, l2, some (.int x), l4], st) σ = ev 224 (182, [l0, l1, l2, some (.int x), l4], .int x :: st) σ) :=
  ⟨fun l1 l2 l3 l4 st σ x => ev_p ((TP_224 _).trans rfl) rfl,
   fun l0 l1 l2 l4 st σ x => ev_p ((TP_224 _).trans rfl) rfl,
   fun l0 l1 l2 l3 st σ x => ev_p ((TP_224 _).trans rfl) rfl,
   fun L st σ => ev_p ((TP_224 _).trans rfl) rfl,
   fun l0 l1 l3 l4 st σ x => ev_p ((TP_224 _).trans rfl) rfl,
   fun L st σ => ev_p ((TP_224 _).trans rfl) rfl,
   fun L st σ x y => ev_d ((TP_224 _).trans rfl) rfl,
   fun L st σ => ev_p ((TP_224 _).trans rfl) rfl,
   fun L st σ x y => ev_d ((TP_224 _).trans rfl) rfl,
   fun L st σ x y => ev_p ((TP_224 _).trans rfl) rfl,
   fun L σ a0 a1 a2 a3 => ev_call ((TP_224 _).trans rfl) rfl rfl rfl rfl,
   fun L st σ x => ev_p ((TP_224 _).trans rfl) rfl,
   fun L st σ => ev_p ((TP_224 _).trans rfl) rfl,
   fun l0 l2 l3 l4 st σ x => ev_p ((TP_224 _).trans rfl) rfl,
   fun L st σ => ev_p ((TP_224 _).trans rfl) rfl,
   fun L st σ x y => ev_b ((TP_224 _).trans rfl) rfl,
   fun l1 l2 l3 l4 st σ x => ev_p ((TP_224 _).trans rfl) rfl,
   fun l0 l1 l2 l4 st σ x => ev_p ((TP_224 _).trans rfl) rfl,
   fun l0 l1 l2 l3 st σ x => ev_p ((TP_224 _).trans rfl) rfl,
   fun L σ a0 a1 a2 => ev_call ((TP_224 _).trans rfl) rfl rfl rfl rfl,
   fun L st σ x => ev_b ((TP_224 _).trans rfl) rfl,
   fun l1 l2 l3 l4 st σ x => ev_p ((TP_224 _).trans rfl) rfl,
   fun l0 l1 l2 l4 st σ x => ev_p ((TP_224 _).trans rfl) rfl,
   fun l0 l1 l2 l3 st σ x => ev_p ((TP_224 _).trans rfl) rfl,
   fun L st σ => ev_p ((TP_224 _).trans rfl) rfl,
   fun l0 l1 l3 l4 st σ x => ev_p ((TP_224 _).trans rfl) rfl,
   fun L st σ => ev_p ((TP_224 _).trans rfl) rfl,
   fun L st σ x y => ev_d ((TP_224 _).trans rfl) rfl,
   fun L st σ => ev_p ((TP_224 _).trans rfl) rfl,
   fun L st σ x y => ev_d ((TP_224 _).trans rfl) rfl,
   fun L st σ x y => ev_p ((TP_224 _).trans rfl) rfl,
   fun L σ a0 a1 a2 a3 => ev_call ((TP_224 _).trans rfl) rfl rfl rfl rfl,
   fun L st σ x => ev_p ((TP_224 _).trans rfl) rfl,
   fun L st σ => ev_p ((TP_224 _).trans rfl) rfl,
   fun l1 l2 l3 l4 st σ x => ev_p ((TP_224 _).trans rfl) rfl,
   fun l0 l1 l2 l4 st σ x => ev_p ((TP_224 _).trans rfl) rfl,
   fun L σ a0 a1 => ev_call ((TP_224 _).trans rfl) rfl rfl rfl rfl,
   fun L st σ x => ev_b ((TP_224 _).trans rfl) rfl,
   fun l1 l2 l3 l4 st σ x => ev_p ((TP_224 _).trans rfl) rfl,
   fun l0 l1 l2 l4 st σ x => ev_p ((TP_224 _).trans rfl) rfl⟩
set_option maxRecDepth 8000 in
theorem I_224_3 :
  (∀ (l0 l1 l3 l4 : Option Value) (st : List Value) (σ : ri_S) (x : Int32), ev 224 (182, [l0, l1, some (.int x), l3, l4], st) σ = ev 224 (183, [l0, l1, some (.int x), l3, l4], .int x :: st) σ) ∧
  (∀ (L : ri_L) (st : List Value) (σ : ri_S), ev 224 (183, L, st) σ = ev 224 (184, L, .int 4 :: st) σ) ∧
  (∀ (L : ri_L) (st : List Value) (σ : ri_S) (x y : Int32), ev 224 (184, L, .int y :: .int x :: st) σ = if y = 0 then none else ev 224 (185, L, .int (x / y) :: st) σ) ∧
  (∀ (L : ri_L) (st : List Value) (σ : ri_S), ev 224 (185, L, st) σ = ev 224 (187, L, .int 9 :: st) σ) ∧
  (∀ (L : ri_L) (st : List Value) (σ : ri_S) (x y : Int32), ev 224 (187, L, .int y :: .int x :: st) σ = if y = 0 then none else ev 224 (188, L, .int (x - x / y * y) :: st) σ) ∧
  (∀ (L : ri_L) (st : List Value) (σ : ri_S), ev 224 (188, L, st) σ = ev 224 (189, L, .int 4 :: st) σ) ∧
  (∀ (L : ri_L) (st : List Value) (σ : ri_S) (x y : Int32), ev 224 (189, L, .int y :: .int x :: st) σ = ev 224 (190, L, .int (x - y) :: st) σ) ∧
  (∀ (L : ri_L) (σ : ri_S) (a0 : Nat) (a1 : Int32) (a2 : Int32), ev 224 (190, L, [.int a2, .int a1, .ref a0]) σ = (cal 181 [.ref a0, .int a1, .int a2] σ).bind fun q => ev 224 (193, L, q.1.toList ++ []) q.2) ∧
  (∀ (L : ri_L) (st : List Value) (σ : ri_S) (x : Int32), ev 224 (193, L, .int x :: st) σ = ev 224 (194, L, st) σ) ∧
  (∀ (L : ri_L) (σ : ri_S), ev 224 (194, L, []) σ = some (none, σ)) :=
  ⟨fun l0 l1 l3 l4 st σ x => ev_p ((TP_224 _).trans rfl) rfl,
   fun L st σ => ev_p ((TP_224 _).trans rfl) rfl,
   fun L st σ x y => ev_d ((TP_224 _).trans rfl) rfl,
   fun L st σ => ev_p ((TP_224 _).trans rfl) rfl,
   fun L st σ x y => ev_d ((TP_224 _).trans rfl) rfl,
   fun L st σ => ev_p ((TP_224 _).trans rfl) rfl,
   fun L st σ x y => ev_p ((TP_224 _).trans rfl) rfl,
   fun L σ a0 a1 a2 => ev_call ((TP_224 _).trans rfl) rfl rfl rfl rfl,
   fun L st σ x => ev_p ((TP_224 _).trans rfl) rfl,
   fun L σ => ev_r ((TP_224 _).trans rfl) rfl⟩
theorem TP_225 (pc : Nat) : TT 225 pc = ri_find TL_225 pc := rfl
theorem E_225 (x0 : Nat) (x1 : Int32) (σ : ri_S) : cal 225 [.ref x0, .int x1] σ = ev 225 (0, [some (.ref x0), some (.int x1), none, none], []) σ := rfl
theorem I_225_0 :
  (∀ (l0 l2 l3 : Option Value) (st : List Value) (σ : ri_S) (x : Int32), ev 225 (0, [l0, some (.int x), l2, l3], st) σ = ev 225 (1, [l0, some (.int x), l2, l3], .int x :: st) σ) ∧
  (∀ (L : ri_L) (st : List Value) (σ : ri_S), ev 225 (1, L, st) σ = ev 225 (3, L, .int 16 :: st) σ) ∧
  (∀ (L : ri_L) (st : List Value) (σ : ri_S) (x y : Int32), ev 225 (3, L, .int y :: .int x :: st) σ = if y = 0 then none else ev 225 (4, L, .int (x / y) :: st) σ) ∧
  (∀ (l0 l1 l2 l3 : Option Value) (st : List Value) (σ : ri_S) (x : Int32), ev 225 (4, [l0, l1, l2, l3], .int x :: st) σ = ev 225 (5, [l0, ri_clr l1, some (.int x), l3], st) σ) ∧
  (∀ (l0 l2 l3 : Option Value) (st : List Value) (σ : ri_S) (x : Int32), ev 225 (5, [l0, some (.int x), l2, l3], st) σ = ev 225 (6, [l0, some (.int x), l2, l3], .int x :: st) σ) ∧
  (∀ (L : ri_L) (st : List Value) (σ : ri_S), ev 225 (6, L, st) σ = ev 225 (8, L, .int 16 :: st) σ) ∧
  (∀ (L : ri_L) (st : List Value) (σ : ri_S) (x y : Int32), ev 225 (8, L, .int y :: .int x :: st) σ = if y = 0 then none else ev 225 (9, L, .int (x - x / y * y) :: st) σ) ∧
  (∀ (l0 l1 l2 l3 : Option Value) (st : List Value) (σ : ri_S) (x : Int32), ev 225 (9, [l0, l1, l2, l3], .int x :: st) σ = ev 225 (10, [l0, l1, ri_clr l2, some (.int x)], st) σ) ∧
  (∀ (l0 l1 l2 : Option Value) (st : List Value) (σ : ri_S) (x : Int32), ev 225 (10, [l0, l1, l2, some (.int x)], st) σ = ev 225 (11, [l0, l1, l2, some (.int x)], .int x :: st) σ) ∧
  (∀ (L : ri_L) (st : List Value) (σ : ri_S), ev 225 (11, L, st) σ = ev 225 (13, L, .int 6 :: st) σ) ∧
  (∀ (L : ri_L) (st : List Value) (σ : ri_S) (x y : Int32), ev 225 (13, L, .int y :: .int x :: st) σ = if y ≤ x then ev 225 (25, L, st) σ else ev 225 (16, L, st) σ) ∧
  (∀ (l1 l2 l3 : Option Value) (st : List Value) (σ : ri_S) (x : Nat), ev 225 (16, [some (.ref x), l1, l2, l3], st) σ = ev 225 (17, [some (.ref x), l1, l2, l3], .ref x :: st) σ) ∧
  (∀ (l0 l1 l2 : Option Value) (st : List Value) (σ : ri_S) (x : Int32), ev 225 (17, [l0, l1, l2, some (.int x)], st) σ = ev 225 (18, [l0, l1, l2, some (.int x)], .int x :: st) σ) ∧
  (∀ (l0 l1 l3 : Option Value) (st : List Value) (σ : ri_S) (x : Int32), ev 225 (18, [l0, l1, some (.int x), l3], st) σ = ev 225 (19, [l0, l1, some (.int x), l3], .int x :: st) σ) ∧
  (∀ (L : ri_L) (σ : ri_S) (a0 : Nat) (a1 : Int32) (a2 : Int32), ev 225 (19, L, [.int a2, .int a1, .ref a0]) σ = (cal 224 [.ref a0, .int a1, .int a2] σ).bind fun q => ev 225 (22, L, q.1.toList ++ []) q.2) ∧
  (∀ (L : ri_L) (st : List Value) (σ : ri_S), ev 225 (22, L, st) σ = ev 225 (101, L, st) σ) ∧
  (∀ (l1 l2 l3 : Option Value) (st : List Value) (σ : ri_S) (x : Nat), ev 225 (25, [some (.ref x), l1, l2, l3], st) σ = ev 225 (26, [some (.ref x), l1, l2, l3], .ref x :: st) σ) ∧
  (∀ (l0 l1 l3 : Option Value) (st : List Value) (σ : ri_S) (x : Int32), ev 225 (26, [l0, l1, some (.int x), l3], st) σ = ev 225 (27, [l0, l1, some (.int x), l3], .int x :: st) σ) ∧
  (∀ (L : ri_L) (st : List Value) (σ : ri_S), ev 225 (27, L, st) σ = ev 225 (28, L, .int 5 :: st) σ) ∧
  (∀ (L : ri_L) (st : List Value) (σ : ri_S) (x y : Int32), ev 225 (28, L, .int y :: .int x :: st) σ = if y = 0 then none else ev 225 (29, L, .int (x - x / y * y) :: st) σ) ∧
  (∀ (L : ri_L) (σ : ri_S) (a0 : Nat) (a1 : Int32), ev 225 (29, L, [.int a1, .ref a0]) σ = (cal 154 [.ref a0, .int a1] σ).bind fun q => ev 225 (32, L, q.1.toList ++ []) q.2) ∧
  (∀ (L : ri_L) (st : List Value) (σ : ri_S) (x : Int32), ev 225 (32, L, .int x :: st) σ = if x = 0 then ev 225 (62, L, st) σ else ev 225 (35, L, st) σ) ∧
  (∀ (l0 l1 l2 : Option Value) (st : List Value) (σ : ri_S) (x : Int32), ev 225 (35, [l0, l1, l2, some (.int x)], st) σ = ev 225 (36, [l0, l1, l2, some (.int x)], .int x :: st) σ) ∧
  (∀ (L : ri_L) (st : List Value) (σ : ri_S), ev 225 (36, L, st) σ = ev 225 (38, L, .int 10 :: st) σ) ∧
  (∀ (L : ri_L) (st : List Value) (σ : ri_S) (x y : Int32), ev 225 (38, L, .int y :: .int x :: st) σ = if y ≤ x then ev 225 (62, L, st) σ else ev 225 (41, L, st) σ) ∧
  (∀ (l1 l2 l3 : Option Value) (st : List Value) (σ : ri_S) (x : Nat), ev 225 (41, [some (.ref x), l1, l2, l3], st) σ = ev 225 (42, [some (.ref x), l1, l2, l3], .ref x :: st) σ) ∧
  (∀ (l0 l1 l3 : Option Value) (st : List Value) (σ : ri_S) (x : Int32), ev 225 (42, [l0, l1, some (.int x), l3], st) σ = ev 225 (43, [l0, l1, some (.int x), l3], .int x :: st) σ) ∧
  (∀ (L : ri_L) (st : List Value) (σ : ri_S), ev 225 (43, L, st) σ = ev 225 (44, L, .int 5 :: st) σ) ∧
  (∀ (L : ri_L) (st : List Value) (σ : ri_S) (x y : Int32), ev 225 (44, L, .int y :: .int x :: st) σ = if y = 0 then none else ev 225 (45, L, .int (x - x / y * y) :: st) σ) ∧
  (∀ (L : ri_L) (st : List Value) (σ : ri_S), ev 225 (45, L, st) σ = ev 225 (46, L, .int 2 :: st) σ) ∧
  (∀ (l0 l1 l3 : Option Value) (st : List Value) (σ : ri_S) (x : Int32), ev 225 (46, [l0, l1, some (.int x), l3], st) σ = ev 225 (47, [l0, l1, some (.int x), l3], .int x :: st) σ) ∧
  (∀ (L : ri_L) (st : List Value) (σ : ri_S), ev 225 (47, L, st) σ = ev 225 (49, L, .int 8 :: st) σ) ∧
  (∀ (L : ri_L) (st : List Value) (σ : ri_S) (x y : Int32), ev 225 (49, L, .int y :: .int x :: st) σ = if y = 0 then none else ev 225 (50, L, .int (x / y) :: st) σ) ∧
  (∀ (L : ri_L) (st : List Value) (σ : ri_S), ev 225 (50, L, st) σ = ev 225 (51, L, .int 2 :: st) σ) ∧
  (∀ (L : ri_L) (st : List Value) (σ : ri_S) (x y : Int32), ev 225 (51, L, .int y :: .int x :: st) σ = if y = 0 then none else ev 225 (52, L, .int (x - x / y * y) :: st) σ) ∧
  (∀ (L : ri_L) (st : List Value) (σ : ri_S) (x y : Int32), ev 225 (52, L, .int y :: .int x :: st) σ = ev 225 (53, L, .int (x * y) :: st) σ) ∧
  (∀ (L : ri_L) (st : List Value) (σ : ri_S), ev 225 (53, L, st) σ = ev 225 (54, L, .int 1 :: st) σ) ∧
  (∀ (L : ri_L) (st : List Value) (σ : ri_S) (x y : Int32), ev 225 (54, L, .int y :: .int x :: st) σ = ev 225 (55, L, .int (x - y) :: st) σ) ∧
  (∀ (L : ri_L) (σ : ri_S) (a0 : Nat) (a1 : Int32) (a2 : Int32), ev 225 (55, L, [.int a2, .int a1, .ref a0]) σ = (cal 173 [.ref a0, .int a1, .int a2] σ).bind fun q => ev 225 (58, L, q.1.toList ++ []) q.2) ∧
  (∀ (L : ri_L) (st : List Value) (σ : ri_S) (x : Int32), ev 225 (58, L, .int x :: st) σ = ev 225 (59, L, st) σ) :=
  ⟨fun l0 l2 l3 st σ x => ev_p ((TP_225 _).trans rfl) rfl,
   fun L st σ => ev_p ((TP_225 _).trans rfl) rfl,
   fun L st σ x y => ev_d ((TP_225 _).trans rfl) rfl,
   fun l0 l1 l2 l3 st σ x => ev_p ((TP_225 _).trans rfl) rfl,
   fun l0 l2 l3 st σ x => ev_p ((TP_225 _).trans rfl) rfl,
   fun L st σ => ev_p ((TP_225 _).trans rfl) rfl,
   fun L st σ x y => ev_d ((TP_225 _).trans rfl) rfl,
   fun l0 l1 l2 l3 st σ x => ev_p ((TP_225 _).trans rfl) rfl,
   fun l0 l1 l2 st σ x => ev_p ((TP_225 _).trans rfl) rfl,
   fun L st σ => ev_p ((TP_225 _).trans rfl) rfl,
   fun L st σ x y => ev_b ((TP_225 _).trans rfl) rfl,
   fun l1 l2 l3 st σ x => ev_p ((TP_225 _).trans rfl) rfl,
   fun l0 l1 l2 st σ x => ev_p ((TP_225 _).trans rfl) rfl,
   fun l0 l1 l3 st σ x => ev_p ((TP_225 _).trans rfl) rfl,
   fun L σ a0 a1 a2 => ev_call ((TP_225 _).trans rfl) rfl rfl rfl rfl,
   fun L st σ => ev_p ((TP_225 _).trans rfl) rfl,
   fun l1 l2 l3 st σ x => ev_p ((TP_225 _).trans rfl) rfl,
   fun l0 l1 l3 st σ x => ev_p ((TP_225 _).trans rfl) rfl,
   fun L st σ => ev_p ((TP_225 _).trans rfl) rfl,
   fun L st σ x y => ev_d ((TP_225 _).trans rfl) rfl,
   fun L σ a0 a1 => ev_call ((TP_225 _).trans rfl) rfl rfl rfl rfl,
   fun L st σ x => ev_b ((TP_225 _).trans rfl) rfl,
   fun l0 l1 l2 st σ x => ev_p ((TP_225 _).trans rfl) rfl,
   fun L st σ => ev_p ((TP_225 _).trans rfl) rfl,
   fun L st σ x y => ev_b ((TP_225 _).trans rfl) rfl,
   fun l1 l2 l3 st σ x => ev_p ((TP_225 _).trans rfl) rfl,
   fun l0 l1 l3 st σ x => ev_p ((TP_225 _).trans rfl) rfl,
   fun L st σ => ev_p ((TP_225 _).trans rfl) rfl,
   fun L st σ x y => ev_d ((TP_225 _).trans rfl) rfl,
   fun L st σ => ev_p ((TP_225 _).trans rfl) rfl,
   fun l0 l1 l3 st σ x => ev_p ((TP_225 _).trans rfl) rfl,
   fun L st σ => ev_p ((TP_225 _).trans rfl) rfl,
   fun L st σ x y => ev_d ((TP_225 _).trans rfl) rfl,
   fun L st σ => ev_p ((TP_225 _).trans rfl) rfl,
   fun L st σ x y => ev_d ((TP_225 _).trans rfl) rfl,
   fun L st σ x y => ev_p ((TP_225 _).trans rfl) rfl,
   fun L st σ => ev_p ((TP_225 _).trans rfl) rfl,
   fun L st σ x y => ev_p ((TP_225 _).trans rfl) rfl,
   fun L σ a0 a1 a2 => ev_call ((TP_225 _).trans rfl) rfl rfl rfl rfl,
   fun L st σ x => ev_p ((TP_225 _).trans rfl) rfl⟩
theorem I_225_1 :
  (∀ (L : ri_L) (st : List Value) (σ : ri_S), ev 225 (59, L, st) σ = ev 225 (101, L, st) σ) ∧
  (∀ (l1 l2 l3 : Option Value) (st : List Value) (σ : ri_S) (x : Nat), ev 225 (62, [some (.ref x), l1, l2, l3], st) σ = ev 225 (63, [some (.ref x), l1, l2, l3], .ref x :: st) σ) ∧
  (∀ (l0 l1 l3 : Option Value) (st : List Value) (σ : ri_S) (x : Int32), ev 225 (63, [l0, l1, some (.int x), l3], st) σ = ev 225 (64, [l0, l1, some (.int x), l3], .int x :: st) σ) ∧
  (∀ (L : ri_L) (st : List Value) (σ : ri_S), ev 225 (64, L, st) σ = ev 225 (65, L, .int 5 :: st) σ) ∧
  (∀ (L : ri_L) (st : List Value) (σ : ri_S) (x y : Int32), ev 225 (65, L, .int y :: .int x :: st) σ = if y = 0 then none else ev 225 (66, L, .int (x - x / y * y) :: st) σ) ∧
  (∀ (L : ri_L) (σ : ri_S) (a0 : Nat) (a1 : Int32), ev 225 (66, L, [.int a1, .ref a0]) σ = (cal 154 [.ref a0, .int a1] σ).bind fun q => ev 225 (69, L, q.1.toList ++ []) q.2) ∧
  (∀ (L : ri_L) (st : List Value) (σ : ri_S) (x : Int32), ev 225 (69, L, .int x :: st) σ = if x = 0 then ev 225 (101, L, st) σ else ev 225 (72, L, st) σ) ∧
  (∀ (l1 l2 l3 : Option Value) (st : List Value) (σ : ri_S) (x : Nat), ev 225 (72, [some (.ref x), l1, l2, l3], st) σ = ev 225 (73, [some (.ref x), l1, l2, l3], .ref x :: st) σ) ∧
  (∀ (l0 l1 l3 : Option Value) (st : List Value) (σ : ri_S) (x : Int32), ev 225 (73, [l0, l1, some (.int x), l3], st) σ = ev 225 (74, [l0, l1, some (.int x), l3], .int x :: st) σ) ∧
  (∀ (L : ri_L) (st : List Value) (σ : ri_S), ev 225 (74, L, st) σ = ev 225 (76, L, .int 8 :: st) σ) ∧
  (∀ (L : ri_L) (st : List Value) (σ : ri_S) (x y : Int32), ev 225 (76, L, .int y :: .int x :: st) σ = if y = 0 then none else ev 225 (77, L, .int (x / y) :: st) σ) ∧
  (∀ (L : ri_L) (st : List Value) (σ : ri_S), ev 225 (77, L, st) σ = ev 225 (79, L, .int 8 :: st) σ) ∧
  (∀ (L : ri_L) (st : List Value) (σ : ri_S) (x y : Int32), ev 225 (79, L, .int y :: .int x :: st) σ = if y = 0 then none else ev 225 (80, L, .int (x - x / y * y) :: st) σ) ∧
  (∀ (L : ri_L) (σ : ri_S) (a0 : Nat) (a1 : Int32), ev 225 (80, L, [.int a1, .ref a0]) σ = (cal 155 [.ref a0, .int a1] σ).bind fun q => ev 225 (83, L, q.1.toList ++ []) q.2) ∧
  (∀ (L : ri_L) (st : List Value) (σ : ri_S) (x : Int32), ev 225 (83, L, .int x :: st) σ = if x = 0 then ev 225 (101, L, st) σ else ev 225 (86, L, st) σ) ∧
  (∀ (l1 l2 l3 : Option Value) (st : List Value) (σ : ri_S) (x : Nat), ev 225 (86, [some (.ref x), l1, l2, l3], st) σ = ev 225 (87, [some (.ref x), l1, l2, l3], .ref x :: st) σ) ∧
  (∀ (l0 l1 l3 : Option Value) (st : List Value) (σ : ri_S) (x : Int32), ev 225 (87, [l0, l1, some (.int x), l3], st) σ = ev 225 (88, [l0, l1, some (.int x), l3], .int x :: st) σ) ∧
  (∀ (L : ri_L) (st : List Value) (σ : ri_S), ev 225 (88, L, st) σ = ev 225 (89, L, .int 5 :: st) σ) ∧
  (∀ (L : ri_L) (st : List Value) (σ : ri_S) (x y : Int32), ev 225 (89, L, .int y :: .int x :: st) σ = if y = 0 then none else ev 225 (90, L, .int (x - x / y * y) :: st) σ) ∧
  (∀ (l0 l1 l3 : Option Value) (st : List Value) (σ : ri_S) (x : Int32), ev 225 (90, [l0, l1, some (.int x), l3], st) σ = ev 225 (91, [l0, l1, some (.int x), l3], .int x :: st) σ) ∧
  (∀ (L : ri_L) (st : List Value) (σ : ri_S), ev 225 (91, L, st) σ = ev 225 (93, L, .int 8 :: st) σ) ∧
  (∀ (L : ri_L) (st : List Value) (σ : ri_S) (x y : Int32), ev 225 (93, L, .int y :: .int x :: st) σ = if y = 0 then none else ev 225 (94, L, .int (x / y) :: st) σ) ∧
  (∀ (L : ri_L) (st : List Value) (σ : ri_S), ev 225 (94, L, st) σ = ev 225 (96, L, .int 8 :: st) σ) ∧
  (∀ (L : ri_L) (st : List Value) (σ : ri_S) (x y : Int32), ev 225 (96, L, .int y :: .int x :: st) σ = if y = 0 then none else ev 225 (97, L, .int (x - x / y * y) :: st) σ) ∧
  (∀ (L : ri_L) (σ : ri_S) (a0 : Nat) (a1 : Int32) (a2 : Int32), ev 225 (97, L, [.int a2, .int a1, .ref a0]) σ = (cal 172 [.ref a0, .int a1, .int a2] σ).bind fun q => ev 225 (100, L, q.1.toList ++ []) q.2) ∧
  (∀ (L : ri_L) (st : List Value) (σ : ri_S) (x : Int32), ev 225 (100, L, .int x :: st) σ = ev 225 (101, L, st) σ) ∧
  (∀ (L : ri_L) (σ : ri_S), ev 225 (101, L, []) σ = some (none, σ)) :=
  ⟨fun L st σ => ev_p ((TP_225 _).trans rfl) rfl,
   fun l1 l2 l3 st σ x => ev_p ((TP_225 _).trans rfl) rfl,
   fun l0 l1 l3 st σ x => ev_p ((TP_225 _).trans rfl) rfl,
   fun L st σ => ev_p ((TP_225 _).trans rfl) rfl,
   fun L st σ x y => ev_d ((TP_225 _).trans rfl) rfl,
   fun L σ a0 a1 => ev_call ((TP_225 _).trans rfl) rfl rfl rfl rfl,
   fun L st σ x => ev_b ((TP_225 _).trans rfl) rfl,
   fun l1 l2 l3 st σ x => ev_p ((TP_225 _).trans rfl) rfl,
   fun l0 l1 l3 st σ x => ev_p ((TP_225 _).trans rfl) rfl,
   fun L st σ => ev_p ((TP_225 _).trans rfl) rfl,
   fun L st σ x y => ev_d ((TP_225 _).trans rfl) rfl,
   fun L st σ => ev_p ((TP_225 _).trans rfl) rfl,
   fun L st σ x y => ev_d ((TP_225 _).trans rfl) rfl,
   fun L σ a0 a1 => ev_call ((TP_225 _).trans rfl) rfl rfl rfl rfl,
   fun L st σ x => ev_b ((TP_225 _).trans rfl) rfl,
   fun l1 l2 l3 st σ x => ev_p ((TP_225 _).trans rfl) rfl,
   fun l0 l1 l3 st σ x => ev_p ((TP_225 _).trans rfl) rfl,
   fun L st σ => ev_p ((TP_225 _).trans rfl) rfl,
   fun L st σ x y => ev_d ((TP_225 _).trans rfl) rfl,
   fun l0 l1 l3 st σ x => ev_p ((TP_225 _).trans rfl) rfl,
   fun L st σ => ev_p ((TP_225 _).trans rfl) rfl,
   fun L st σ x y => ev_d ((TP_225 _).trans rfl) rfl,
   fun L st σ => ev_p ((TP_225 _).trans rfl) rfl,
   fun L st σ x y => ev_d ((TP_225 _).trans rfl) rfl,
   fun L σ a0 a1 a2 => ev_call ((TP_225 _).trans rfl) rfl rfl rfl rfl,
   fun L st σ x => ev_p ((TP_225 _).trans rfl) rfl,
   fun L σ => ev_r ((TP_225 _).trans rfl) rfl⟩
theorem TP_226 (pc : Nat) : TT 226 pc = ri_find TL_226 pc := rfl
theorem E_226 (x0 : Nat) (x1 : Int64) (x2 : Int32) (σ : ri_S) : cal 226 [.ref x0, .long x1, .int x2] σ = ev 226 (0, [some (.ref x0), some (.long x1), none, some (.int x2), none, none, none], []) σ := rfl
theorem H_226_45 (l0 l1 l2 l3 l4 l5 : Option Value) (st : List Value) (σ : ri_S) (x : Int32) : ev 226 (45, [l0, l1, l2, l3, l4, l5, some (.int x)], st) σ = ev 226 (47, [l0, l1, l2, l3, l4, l5, some (.int x)], .int x :: st) σ := ev_p ((TP_226 _).trans rfl) rfl
theorem I_226_0 :
  (∀ (l1 l2 l3 l4 l5 l6 : Option Value) (st : List Value) (σ : ri_S) (x : Nat), ev 226 (0, [some (.ref x), l1, l2, l3, l4, l5, l6], st) σ = ev 226 (1, [some (.ref x), l1, l2, l3, l4, l5, l6], .ref x :: st) σ) ∧
  (∀ (l0 l1 l2 l4 l5 l6 : Option Value) (st : List Value) (σ : ri_S) (x : Int32), ev 226 (1, [l0, l1, l2, some (.int x), l4, l5, l6], st) σ = ev 226 (2, [l0, l1, l2, some (.int x), l4, l5, l6], .int x :: st) σ) ∧
  (∀ (L : ri_L) (st : List Value) (σ : ri_S) (x : Int32), ev 226 (2, L, .int x :: st) σ = ev 226 (3, L, .long x.toInt64 :: st) σ) ∧
  (∀ (L : ri_L) (st : List Value) (σ : ri_S), ev 226 (3, L, st) σ = ev 226 (4, L, .long 1 :: st) σ) ∧
  (∀ (L : ri_L) (st : List Value) (σ : ri_S), ev 226 (4, L, st) σ = ev 226 (7, L, .long 60 :: st) σ) ∧
  (∀ (L : ri_L) (σ : ri_S) (a0 : Int64) (a1 : Int64) (a2 : Int64) (s0 : Value), ev 226 (7, L, [.long a2, .long a1, .long a0, s0]) σ = (cal 146 [.long a0, .long a1, .long a2] σ).bind fun q => ev 226 (10, L, q.1.toList ++ [s0]) q.2) ∧
  (∀ (L : ri_L) (st : List Value) (σ : ri_S) (x : Int32), ev 226 (10, L, .int x :: st) σ = if x = 0 then ev 226 (17, L, st) σ else ev 226 (13, L, st) σ) ∧
  (∀ (L : ri_L) (st : List Value) (σ : ri_S), ev 226 (13, L, st) σ = ev 226 (14, L, .int 0 :: st) σ) ∧
  (∀ (L : ri_L) (st : List Value) (σ : ri_S), ev 226 (14, L, st) σ = ev 226 (18, L, st) σ) ∧
  (∀ (L : ri_L) (st : List Value) (σ : ri_S), ev 226 (17, L, st) σ = ev 226 (18, L, .int 1 :: st) σ) ∧
  (∀ (L : ri_L) (σ : ri_S) (a0 : Nat) (a1 : Int32), ev 226 (18, L, [.int a1, .ref a0]) σ = tv_k 9 (σ.1 a0) ((cal 145 [.ref a0, .int a1] σ).bind fun q => ev 226 (21, L, q.1.toList ++ []) q.2)) ∧
  (∀ (L : ri_L) (st : List Value) (σ : ri_S) (x : Int32), ev 226 (21, L, .int x :: st) σ = if x = 0 then ev 226 (26, L, st) σ else ev 226 (24, L, st) σ) ∧
  (∀ (L : ri_L) (st : List Value) (σ : ri_S), ev 226 (24, L, st) σ = ev 226 (25, L, .int 0 :: st) σ) ∧
  (∀ (L : ri_L) (σ : ri_S) (x : Int32), ev 226 (25, L, [.int x]) σ = some (some (.int x), σ)) ∧
  (∀ (l1 l2 l3 l4 l5 l6 : Option Value) (st : List Value) (σ : ri_S) (x : Nat), ev 226 (26, [some (.ref x), l1, l2, l3, l4, l5, l6], st) σ = ev 226 (27, [some (.ref x), l1, l2, l3, l4, l5, l6], .ref x :: st) σ) ∧
  (∀ (L : ri_L) (st : List Value) (σ : ri_S) (a : Nat), ev 226 (27, L, .ref a :: st) σ = tv_o 9 3 (σ.1 a) fun v => ev 226 (30, L, v :: st) σ) ∧
  (∀ (L : ri_L) (st : List Value) (σ : ri_S), ev 226 (30, L, st) σ = ev 226 (31, L, .int 0 :: st) σ) ∧
  (∀ (l1 l2 l3 l4 l5 l6 : Option Value) (st : List Value) (σ : ri_S) (x : Nat), ev 226 (31, [some (.ref x), l1, l2, l3, l4, l5, l6], st) σ = ev 226 (32, [some (.ref x), l1, l2, l3, l4, l5, l6], .ref x :: st) σ) ∧
  (∀ (L : ri_L) (st : List Value) (σ : ri_S) (a : Nat), ev 226 (32, L, .ref a :: st) σ = tv_o 9 4 (σ.1 a) fun v => ev 226 (35, L, v :: st) σ) ∧
  (∀ (L : ri_L) (st : List Value) (σ : ri_S), ev 226 (35, L, st) σ = ev 226 (36, L, .int 0 :: st) σ) ∧
  (∀ (L : ri_L) (σ : ri_S) (a0 : Nat) (a1 : Int32) (a2 : Nat) (a3 : Int32), ev 226 (36, L, [.int a3, .ref a2, .int a1, .ref a0]) σ = (cal 147 [.ref a0, .int a1, .ref a2, .int a3] σ).bind fun q => ev 226 (39, L, q.1.toList ++ []) q.2) ∧
  (∀ (l0 l2 l3 l4 l5 l6 : Option Value) (st : List Value) (σ : ri_S) (x : Int64), ev 226 (39, [l0, some (.long x), l2, l3, l4, l5, l6], st) σ = ev 226 (40, [l0, some (.long x), l2, l3, l4, l5, l6], .long x :: st) σ) ∧
  (∀ (l0 l1 l2 l3 l4 l5 l6 : Option Value) (st : List Value) (σ : ri_S) (x : Int64), ev 226 (40, [l0, l1, l2, l3, l4, l5, l6], .long x :: st) σ = ev 226 (42, [l0, l1, l2, ri_clr l3, some (.long x), none, l6], st) σ) ∧
  (∀ (L : ri_L) (st : List Value) (σ : ri_S), ev 226 (42, L, st) σ = ev 226 (43, L, .int 0 :: st) σ) ∧
  (∀ (l0 l1 l2 l3 l4 l5 l6 : Option Value) (st : List Value) (σ : ri_S) (x : Int32), ev 226 (43, [l0, l1, l2, l3, l4, l5, l6], .int x :: st) σ = ev 226 (45, [l0, l1, l2, l3, l4, ri_clr l5, some (.int x)], st) σ) ∧
  (∀ (l0 l1 l2 l4 l5 l6 : Option Value) (st : List Value) (σ : ri_S) (x : Int32), ev 226 (47, [l0, l1, l2, some (.int x), l4, l5, l6], st) σ = ev 226 (48, [l0, l1, l2, some (.int x), l4, l5, l6], .int x :: st) σ) ∧
  (∀ (L : ri_L) (st : List Value) (σ : ri_S) (x y : Int32), ev 226 (48, L, .int y :: .int x :: st) σ = if y ≤ x then ev 226 (82, L, st) σ else ev 226 (51, L, st) σ) ∧
  (∀ (l0 l1 l2 l3 l5 l6 : Option Value) (st : List Value) (σ : ri_S) (x : Int64), ev 226 (51, [l0, l1, l2, l3, some (.long x), l5, l6], st) σ = ev 226 (53, [l0, l1, l2, l3, some (.long x), l5, l6], .long x :: st) σ) ∧
  (∀ (L : ri_L) (st : List Value) (σ : ri_S), ev 226 (53, L, st) σ = ev 226 (56, L, .long 6364136223846793005 :: st) σ) ∧
  (∀ (L : ri_L) (st : List Value) (σ : ri_S) (x y : Int64), ev 226 (56, L, .long y :: .long x :: st) σ = ev 226 (57, L, .long (x * y) :: st) σ) ∧
  (∀ (L : ri_L) (st : List Value) (σ : ri_S), ev 226 (57, L, st) σ = ev 226 (60, L, .long 1442695040888963407 :: st) σ) ∧
  (∀ (L : ri_L) (st : List Value) (σ : ri_S) (x y : Int64), ev 226 (60, L, .long y :: .long x :: st) σ = ev 226 (61, L, .long (x + y) :: st) σ) ∧
  (∀ (l0 l1 l2 l3 l4 l5 l6 : Option Value) (st : List Value) (σ : ri_S) (x : Int64), ev 226 (61, [l0, l1, l2, l3, l4, l5, l6], .long x :: st) σ = ev 226 (63, [l0, l1, l2, ri_clr l3, some (.long x), none, l6], st) σ) ∧
  (∀ (l1 l2 l3 l4 l5 l6 : Option Value) (st : List Value) (σ : ri_S) (x : Nat), ev 226 (63, [some (.ref x), l1, l2, l3, l4, l5, l6], st) σ = ev 226 (64, [some (.ref x), l1, l2, l3, l4, l5, l6], .ref x :: st) σ) ∧
  (∀ (L : ri_L) (st : List Value) (σ : ri_S) (a : Nat), ev 226 (64, L, .ref a :: st) σ = tv_o 9 4 (σ.1 a) fun v => ev 226 (67, L, v :: st) σ) ∧
  (∀ (l0 l1 l2 l3 l5 l6 : Option Value) (st : List Value) (σ : ri_S) (x : Int64), ev 226 (67, [l0, l1, l2, l3, some (.long x), l5, l6], st) σ = ev 226 (69, [l0, l1, l2, l3, some (.long x), l5, l6], .long x :: st) σ) ∧
  (∀ (L : ri_L) (st : List Value) (σ : ri_S), ev 226 (69, L, st) σ = ev 226 (71, L, .int 33 :: st) σ) ∧
  (∀ (L : ri_L) (st : List Value) (σ : ri_S) (x : Int64) (y : Int32), ev 226 (71, L, .int y :: .long x :: st) σ = ev 226 (72, L, .long ((x.toUInt64 >>> (y.toInt64.toUInt64 &&& Int64.toUInt64 63)).toInt64) :: st) σ) ∧
  (∀ (L : ri_L) (st : List Value) (σ : ri_S) (x : Int64), ev 226 (72, L, .long x :: st) σ = ev 226 (73, L, .int x.toInt32 :: st) σ) ∧
  (∀ (L : ri_L) (σ : ri_S) (a0 : Nat) (a1 : Int32), ev 226 (73, L, [.int a1, .ref a0]) σ = (cal 225 [.ref a0, .int a1] σ).bind fun q => ev 226 (76, L, q.1.toList ++ []) q.2) :=
  ⟨fun l1 l2 l3 l4 l5 l6 st σ x => ev_p ((TP_226 _).trans rfl) rfl,
   fun l0 l1 l2 l4 l5 l6 st σ x => ev_p ((TP_226 _).trans rfl) rfl,
   fun L st σ x => ev_p ((TP_226 _).trans rfl) rfl,
   fun L st σ => ev_p ((TP_226 _).trans rfl) rfl,
   fun L st σ => ev_p ((TP_226 _).trans rfl) rfl,
   fun L σ a0 a1 a2 s0 => ev_call ((TP_226 _).trans rfl) rfl rfl rfl rfl,
   fun L st σ x => ev_b ((TP_226 _).trans rfl) rfl,
   fun L st σ => ev_p ((TP_226 _).trans rfl) rfl,
   fun L st σ => ev_p ((TP_226 _).trans rfl) rfl,
   fun L st σ => ev_p ((TP_226 _).trans rfl) rfl,
   fun L σ a0 a1 => ev_callv ((TP_226 _).trans rfl) rfl rfl rfl rfl,
   fun L st σ x => ev_b ((TP_226 _).trans rfl) rfl,
   fun L st σ => ev_p ((TP_226 _).trans rfl) rfl,
   fun L σ x => ev_r ((TP_226 _).trans rfl) rfl,
   fun l1 l2 l3 l4 l5 l6 st σ x => ev_p ((TP_226 _).trans rfl) rfl,
   fun L st σ a => ev_getf ((TP_226 _).trans rfl),
   fun L st σ => ev_p ((TP_226 _).trans rfl) rfl,
   fun l1 l2 l3 l4 l5 l6 st σ x => ev_p ((TP_226 _).trans rfl) rfl,
   fun L st σ a => ev_getf ((TP_226 _).trans rfl),
   fun L st σ => ev_p ((TP_226 _).trans rfl) rfl,
   fun L σ a0 a1 a2 a3 => ev_call ((TP_226 _).trans rfl) rfl rfl rfl rfl,
   fun l0 l2 l3 l4 l5 l6 st σ x => ev_p ((TP_226 _).trans rfl) rfl,
   fun l0 l1 l2 l3 l4 l5 l6 st σ x => ev_p ((TP_226 _).trans rfl) rfl,
   fun L st σ => ev_p ((TP_226 _).trans rfl) rfl,
   fun l0 l1 l2 l3 l4 l5 l6 st σ x => ev_p ((TP_226 _).trans rfl) rfl,
   fun l0 l1 l2 l4 l5 l6 st σ x => ev_p ((TP_226 _).trans rfl) rfl,
   fun L st σ x y => ev_b ((TP_226 _).trans rfl) rfl,
   fun l0 l1 l2 l3 l5 l6 st σ x => ev_p ((TP_226 _).trans rfl) rfl,
   fun L st σ => ev_p ((TP_226 _).trans rfl) rfl,
   fun L st σ x y => ev_p ((TP_226 _).trans rfl) rfl,
   fun L st σ => ev_p ((TP_226 _).trans rfl) rfl,
   fun L st σ x y => ev_p ((TP_226 _).trans rfl) rfl,
   fun l0 l1 l2 l3 l4 l5 l6 st σ x => ev_p ((TP_226 _).trans rfl) rfl,
   fun l1 l2 l3 l4 l5 l6 st σ x => ev_p ((TP_226 _).trans rfl) rfl,
   fun L st σ a => ev_getf ((TP_226 _).trans rfl),
   fun l0 l1 l2 l3 l5 l6 st σ x => ev_p ((TP_226 _).trans rfl) rfl,
   fun L st σ => ev_p ((TP_226 _).trans rfl) rfl,
   fun L st σ x y => ev_p ((TP_226 _).trans rfl) rfl,
   fun L st σ x => ev_p ((TP_226 _).trans rfl) rfl,
   fun L σ a0 a1 => ev_call ((TP_226 _).trans rfl) rfl rfl rfl rfl⟩
theorem I_226_1 :
  (∀ (l0 l1 l2 l3 l4 l5 : Option Value) (st : List Value) (σ : ri_S) (x : Int32), ev 226 (76, [l0, l1, l2, l3, l4, l5, some (.int x)], st) σ = ev 226 (79, [l0, l1, l2, l3, l4, ri_clr l5, some (.int (x + 1))], st) σ) ∧
  (∀ (L : ri_L) (st : List Value) (σ : ri_S), ev 226 (79, L, st) σ = ev 226 (45, L, st) σ) ∧
  (∀ (l1 l2 l3 l4 l5 l6 : Option Value) (st : List Value) (σ : ri_S) (x : Nat), ev 226 (82, [some (.ref x), l1, l2, l3, l4, l5, l6], st) σ = ev 226 (83, [some (.ref x), l1, l2, l3, l4, l5, l6], .ref x :: st) σ) ∧
  (∀ (L : ri_L) (st : List Value) (σ : ri_S) (a : Nat), ev 226 (83, L, .ref a :: st) σ = tv_o 9 4 (σ.1 a) fun v => ev 226 (86, L, v :: st) σ) ∧
  (∀ (L : ri_L) (st : List Value) (σ : ri_S), ev 226 (86, L, st) σ = ev 226 (87, L, .int 4 :: st) σ) ∧
  (∀ (L : ri_L) (st : List Value) (σ : ri_S) (a : Nat) (i : Int32), ev 226 (87, L, .int i :: .ref a :: st) σ = tv_r 0 (σ.1 a) i fun n f j => ev 226 (88, L, .int (f j) :: st) σ) ∧
  (∀ (l1 l2 l3 l4 l5 l6 : Option Value) (st : List Value) (σ : ri_S) (x : Nat), ev 226 (88, [some (.ref x), l1, l2, l3, l4, l5, l6], st) σ = ev 226 (89, [some (.ref x), l1, l2, l3, l4, l5, l6], .ref x :: st) σ) ∧
  (∀ (L : ri_L) (st : List Value) (σ : ri_S) (a : Nat), ev 226 (89, L, .ref a :: st) σ = tv_o 9 3 (σ.1 a) fun v => ev 226 (92, L, v :: st) σ) ∧
  (∀ (L : ri_L) (st : List Value) (σ : ri_S), ev 226 (92, L, st) σ = ev 226 (93, L, .int 4 :: st) σ) ∧
  (∀ (L : ri_L) (st : List Value) (σ : ri_S) (a : Nat) (i : Int32), ev 226 (93, L, .int i :: .ref a :: st) σ = tv_r 0 (σ.1 a) i fun n f j => ev 226 (94, L, .int (f j) :: st) σ) ∧
  (∀ (L : ri_L) (st : List Value) (σ : ri_S) (x y : Int32), ev 226 (94, L, .int y :: .int x :: st) σ = ev 226 (95, L, .int (x - y) :: st) σ) ∧
  (∀ (l0 l1 l2 l3 l4 l5 l6 : Option Value) (st : List Value) (σ : ri_S) (x : Int32), ev 226 (95, [l0, l1, l2, l3, l4, l5, l6], .int x :: st) σ = ev 226 (97, [l0, l1, l2, l3, l4, ri_clr l5, some (.int x)], st) σ) ∧
  (∀ (L : ri_L) (st : List Value) (σ : ri_S), ev 226 (97, L, st) σ = ev 226 (100, L, .int 1000 :: st) σ) ∧
  (∀ (l1 l2 l3 l4 l5 l6 : Option Value) (st : List Value) (σ : ri_S) (x : Nat), ev 226 (100, [some (.ref x), l1, l2, l3, l4, l5, l6], st) σ = ev 226 (101, [some (.ref x), l1, l2, l3, l4, l5, l6], .ref x :: st) σ) ∧
  (∀ (L : ri_L) (st : List Value) (σ : ri_S) (a : Nat), ev 226 (101, L, .ref a :: st) σ = tv_o 9 4 (σ.1 a) fun v => ev 226 (104, L, v :: st) σ) ∧
  (∀ (L : ri_L) (st : List Value) (σ : ri_S), ev 226 (104, L, st) σ = ev 226 (105, L, .int 3 :: st) σ) ∧
  (∀ (L : ri_L) (st : List Value) (σ : ri_S) (a : Nat) (i : Int32), ev 226 (105, L, .int i :: .ref a :: st) σ = tv_r 0 (σ.1 a) i fun n f j => ev 226 (106, L, .int (f j) :: st) σ) ∧
  (∀ (l1 l2 l3 l4 l5 l6 : Option Value) (st : List Value) (σ : ri_S) (x : Nat), ev 226 (106, [some (.ref x), l1, l2, l3, l4, l5, l6], st) σ = ev 226 (107, [some (.ref x), l1, l2, l3, l4, l5, l6], .ref x :: st) σ) ∧
  (∀ (L : ri_L) (st : List Value) (σ : ri_S) (a : Nat), ev 226 (107, L, .ref a :: st) σ = tv_o 9 3 (σ.1 a) fun v => ev 226 (110, L, v :: st) σ) ∧
  (∀ (L : ri_L) (st : List Value) (σ : ri_S), ev 226 (110, L, st) σ = ev 226 (111, L, .int 3 :: st) σ) ∧
  (∀ (L : ri_L) (st : List Value) (σ : ri_S) (a : Nat) (i : Int32), ev 226 (111, L, .int i :: .ref a :: st) σ = tv_r 0 (σ.1 a) i fun n f j => ev 226 (112, L, .int (f j) :: st) σ) ∧
  (∀ (L : ri_L) (st : List Value) (σ : ri_S) (x y : Int32), ev 226 (112, L, .int y :: .int x :: st) σ = ev 226 (113, L, .int (x - y) :: st) σ) ∧
  (∀ (L : ri_L) (st : List Value) (σ : ri_S) (x y : Int32), ev 226 (113, L, .int y :: .int x :: st) σ = ev 226 (114, L, .int (x * y) :: st) σ) ∧
  (∀ (l0 l1 l2 l3 l4 l5 : Option Value) (st : List Value) (σ : ri_S) (x : Int32), ev 226 (114, [l0, l1, l2, l3, l4, l5, some (.int x)], st) σ = ev 226 (116, [l0, l1, l2, l3, l4, l5, some (.int x)], .int x :: st) σ) ∧
  (∀ (L : ri_L) (st : List Value) (σ : ri_S), ev 226 (116, L, st) σ = ev 226 (119, L, .int 999 :: st) σ) ∧
  (∀ (L : ri_L) (st : List Value) (σ : ri_S) (x y : Int32), ev 226 (119, L, .int y :: .int x :: st) σ = if x ≤ y then ev 226 (128, L, st) σ else ev 226 (122, L, st) σ) ∧
  (∀ (L : ri_L) (st : List Value) (σ : ri_S), ev 226 (122, L, st) σ = ev 226 (125, L, .int 999 :: st) σ) ∧
  (∀ (L : ri_L) (st : List Value) (σ : ri_S), ev 226 (125, L, st) σ = ev 226 (130, L, st) σ) ∧
  (∀ (l0 l1 l2 l3 l4 l5 : Option Value) (st : List Value) (σ : ri_S) (x : Int32), ev 226 (128, [l0, l1, l2, l3, l4, l5, some (.int x)], st) σ = ev 226 (130, [l0, l1, l2, l3, l4, l5, some (.int x)], .int x :: st) σ) ∧
  (∀ (L : ri_L) (st : List Value) (σ : ri_S) (x y : Int32), ev 226 (130, L, .int y :: .int x :: st) σ = ev 226 (131, L, .int (x + y) :: st) σ) ∧
  (∀ (L : ri_L) (σ : ri_S) (x : Int32), ev 226 (131, L, [.int x]) σ = some (some (.int x), σ)) :=
  ⟨fun l0 l1 l2 l3 l4 l5 st σ x => ev_p ((TP_226 _).trans rfl) rfl,
   fun L st σ => ev_p ((TP_226 _).trans rfl) rfl,
   fun l1 l2 l3 l4 l5 l6 st σ x => ev_p ((TP_226 _).trans rfl) rfl,
   fun L st σ a => ev_getf ((TP_226 _).trans rfl),
   fun L st σ => ev_p ((TP_226 _).trans rfl) rfl,
   fun L st σ a i => ev_iald ((TP_226 _).trans rfl),
   fun l1 l2 l3 l4 l5 l6 st σ x => ev_p ((TP_226 _).trans rfl) rfl,
   fun L st σ a => ev_getf ((TP_226 _).trans rfl),
   fun L st σ => ev_p ((TP_226 _).trans rfl) rfl,
   fun L st σ a i => ev_iald ((TP_226 _).trans rfl),
   fun L st σ x y => ev_p ((TP_226 _).trans rfl) rfl,
   fun l0 l1 l2 l3 l4 l5 l6 st σ x => ev_p ((TP_226 _).trans rfl) rfl,
   fun L st σ => ev_p ((TP_226 _).trans rfl) rfl,
   fun l1 l2 l3 l4 l5 l6 st σ x => ev_p ((TP_226 _).trans rfl) rfl,
   fun L st σ a => ev_getf ((TP_226 _).trans rfl),
   fun L st σ => ev_p ((TP_226 _).trans rfl) rfl,
   fun L st σ a i => ev_iald ((TP_226 _).trans rfl),
   fun l1 l2 l3 l4 l5 l6 st σ x => ev_p ((TP_226 _).trans rfl) rfl,
   fun L st σ a => ev_getf ((TP_226 _).trans rfl),
   fun L st σ => ev_p ((TP_226 _).trans rfl) rfl,
   fun L st σ a i => ev_iald ((TP_226 _).trans rfl),
   fun L st σ x y => ev_p ((TP_226 _).trans rfl) rfl,
   fun L st σ x y => ev_p ((TP_226 _).trans rfl) rfl,
   fun l0 l1 l2 l3 l4 l5 st σ x => ev_p ((TP_226 _).trans rfl) rfl,
   fun L st σ => ev_p ((TP_226 _).trans rfl) rfl,
   fun L st σ x y => ev_b ((TP_226 _).trans rfl) rfl,
   fun L st σ => ev_p ((TP_226 _).trans rfl) rfl,
   fun L st σ => ev_p ((TP_226 _).trans rfl) rfl,
   fun l0 l1 l2 l3 l4 l5 st σ x => ev_p ((TP_226 _).trans rfl) rfl,
   fun L st σ x y => ev_p ((TP_226 _).trans rfl) rfl,
   fun L σ x => ev_r ((TP_226 _).trans rfl) rfl⟩
theorem TP_227 (pc : Nat) : TT 227 pc = ri_find TL_227 pc := rfl
theorem E_227 (x0 : Nat) (x1 : Int32) (σ : ri_S) : cal 227 [.ref x0, .int x1] σ = ev 227 (0, [some (.ref x0), some (.int x1)], []) σ := rfl
theorem I_227 :
  (∀ (l1 : Option Value) (st : List Value) (σ : ri_S) (x : Nat), ev 227 (0, [some (.ref x), l1], st) σ = ev 227 (1, [some (.ref x), l1], .ref x :: st) σ) ∧
  (∀ (l0 : Option Value) (st : List Value) (σ : ri_S) (x : Int32), ev 227 (1, [l0, some (.int x)], st) σ = ev 227 (2, [l0, some (.int x)], .int x :: st) σ) ∧
  (∀ (L : ri_L) (st : List Value) (σ : ri_S) (x : Int32), ev 227 (2, L, .int x :: st) σ = ev 227 (3, L, .long x.toInt64 :: st) σ) ∧
  (∀ (L : ri_L) (st : List Value) (σ : ri_S), ev 227 (3, L, st) σ = ev 227 (4, L, .long 0 :: st) σ) ∧
  (∀ (L : ri_L) (st : List Value) (σ : ri_S), ev 227 (4, L, st) σ = ev 227 (5, L, .long 1 :: st) σ) ∧
  (∀ (L : ri_L) (σ : ri_S) (a0 : Int64) (a1 : Int64) (a2 : Int64) (s0 : Value), ev 227 (5, L, [.long a2, .long a1, .long a0, s0]) σ = (cal 146 [.long a0, .long a1, .long a2] σ).bind fun q => ev 227 (8, L, q.1.toList ++ [s0]) q.2) ∧
  (∀ (L : ri_L) (st : List Value) (σ : ri_S) (x : Int32), ev 227 (8, L, .int x :: st) σ = if x = 0 then ev 227 (15, L, st) σ else ev 227 (11, L, st) σ) ∧
  (∀ (L : ri_L) (st : List Value) (σ : ri_S), ev 227 (11, L, st) σ = ev 227 (12, L, .int 0 :: st) σ) ∧
  (∀ (L : ri_L) (st : List Value) (σ : ri_S), ev 227 (12, L, st) σ = ev 227 (16, L, st) σ) ∧
  (∀ (L : ri_L) (st : List Value) (σ : ri_S), ev 227 (15, L, st) σ = ev 227 (16, L, .int 1 :: st) σ) ∧
  (∀ (L : ri_L) (σ : ri_S) (a0 : Nat) (a1 : Int32), ev 227 (16, L, [.int a1, .ref a0]) σ = tv_k 9 (σ.1 a0) ((cal 145 [.ref a0, .int a1] σ).bind fun q => ev 227 (19, L, q.1.toList ++ []) q.2)) ∧
  (∀ (L : ri_L) (st : List Value) (σ : ri_S) (x : Int32), ev 227 (19, L, .int x :: st) σ = if x = 0 then ev 227 (24, L, st) σ else ev 227 (22, L, st) σ) ∧
  (∀ (L : ri_L) (st : List Value) (σ : ri_S), ev 227 (22, L, st) σ = ev 227 (23, L, .int 0 :: st) σ) ∧
  (∀ (L : ri_L) (σ : ri_S) (x : Int32), ev 227 (23, L, [.int x]) σ = some (some (.int x), σ)) ∧
  (∀ (l1 : Option Value) (st : List Value) (σ : ri_S) (x : Nat), ev 227 (24, [some (.ref x), l1], st) σ = ev 227 (25, [some (.ref x), l1], .ref x :: st) σ) ∧
  (∀ (L : ri_L) (st : List Value) (σ : ri_S) (a : Nat), ev 227 (25, L, .ref a :: st) σ = tv_o 9 3 (σ.1 a) fun v => ev 227 (28, L, v :: st) σ) ∧
  (∀ (L : ri_L) (st : List Value) (σ : ri_S), ev 227 (28, L, st) σ = ev 227 (29, L, .int 0 :: st) σ) ∧
  (∀ (l1 : Option Value) (st : List Value) (σ : ri_S) (x : Nat), ev 227 (29, [some (.ref x), l1], st) σ = ev 227 (30, [some (.ref x), l1], .ref x :: st) σ) ∧
  (∀ (L : ri_L) (st : List Value) (σ : ri_S) (a : Nat), ev 227 (30, L, .ref a :: st) σ = tv_o 9 7 (σ.1 a) fun v => ev 227 (33, L, v :: st) σ) ∧
  (∀ (L : ri_L) (st : List Value) (σ : ri_S), ev 227 (33, L, st) σ = ev 227 (35, L, .int 96 :: st) σ) ∧
  (∀ (l0 : Option Value) (st : List Value) (σ : ri_S) (x : Int32), ev 227 (35, [l0, some (.int x)], st) σ = ev 227 (36, [l0, some (.int x)], .int x :: st) σ) ∧
  (∀ (L : ri_L) (st : List Value) (σ : ri_S) (x y : Int32), ev 227 (36, L, .int y :: .int x :: st) σ = ev 227 (37, L, .int (x * y) :: st) σ) ∧
  (∀ (L : ri_L) (σ : ri_S) (a0 : Nat) (a1 : Int32) (a2 : Nat) (a3 : Int32), ev 227 (37, L, [.int a3, .ref a2, .int a1, .ref a0]) σ = (cal 147 [.ref a0, .int a1, .ref a2, .int a3] σ).bind fun q => ev 227 (40, L, q.1.toList ++ []) q.2) ∧
  (∀ (l1 : Option Value) (st : List Value) (σ : ri_S) (x : Nat), ev 227 (40, [some (.ref x), l1], st) σ = ev 227 (41, [some (.ref x), l1], .ref x :: st) σ) ∧
  (∀ (L : ri_L) (st : List Value) (σ : ri_S) (a : Nat), ev 227 (41, L, .ref a :: st) σ = tv_o 9 8 (σ.1 a) fun v => ev 227 (44, L, v :: st) σ) ∧
  (∀ (l0 : Option Value) (st : List Value) (σ : ri_S) (x : Int32), ev 227 (44, [l0, some (.int x)], st) σ = ev 227 (45, [l0, some (.int x)], .int x :: st) σ) ∧
  (∀ (L : ri_L) (st : List Value) (σ : ri_S), ev 227 (45, L, st) σ = ev 227 (46, L, .int 1 :: st) σ) ∧
  (∀ (L : ri_L) (st : List Value) (σ : ri_S) (a : Nat) (i x : Int32), ev 227 (46, L, .int x :: .int i :: .ref a :: st) σ = tv_r 1 (σ.1 a) i fun n f j => ev 227 (47, L, st) (ri_upd σ.1 a (.inl (1, n, upd f j (vp_nar .boolean x))), σ.2)) ∧
  (∀ (l1 : Option Value) (st : List Value) (σ : ri_S) (x : Nat), ev 227 (47, [some (.ref x), l1], st) σ = ev 227 (48, [some (.ref x), l1], .ref x :: st) σ) ∧
  (∀ (L : ri_L) (st : List Value) (σ : ri_S) (a : Nat), ev 227 (48, L, .ref a :: st) σ = tv_o 9 3 (σ.1 a) fun v => ev 227 (51, L, v :: st) σ) ∧
  (∀ (L : ri_L) (st : List Value) (σ : ri_S), ev 227 (51, L, st) σ = ev 227 (52, L, .int 3 :: st) σ) ∧
  (∀ (L : ri_L) (st : List Value) (σ : ri_S) (a : Nat) (i : Int32), ev 227 (52, L, .int i :: .ref a :: st) σ = tv_r 0 (σ.1 a) i fun n f j => ev 227 (53, L, .int (f j) :: st) σ) ∧
  (∀ (L : ri_L) (σ : ri_S) (x : Int32), ev 227 (53, L, [.int x]) σ = some (some (.int x), σ)) :=
  ⟨fun l1 st σ x => ev_p ((TP_227 _).trans rfl) rfl,
   fun l0 st σ x => ev_p ((TP_227 _).trans rfl) rfl,
   fun L st σ x => ev_p ((TP_227 _).trans rfl) rfl,
   fun L st σ => ev_p ((TP_227 _).trans rfl) rfl,
   fun L st σ => ev_p ((TP_227 _).trans rfl) rfl,
   fun L σ a0 a1 a2 s0 => ev_call ((TP_227 _).trans rfl) rfl rfl rfl rfl,
   fun L st σ x => ev_b ((TP_227 _).trans rfl) rfl,
   fun L st σ => ev_p ((TP_227 _).trans rfl) rfl,
   fun L st σ => ev_p ((TP_227 _).trans rfl) rfl,
   fun L st σ => ev_p ((TP_227 _).trans rfl) rfl,
   fun L σ a0 a1 => ev_callv ((TP_227 _).trans rfl) rfl rfl rfl rfl,
   fun L st σ x => ev_b ((TP_227 _).trans rfl) rfl,
   fun L st σ => ev_p ((TP_227 _).trans rfl) rfl,
   fun L σ x => ev_r ((TP_227 _).trans rfl) rfl,
   fun l1 st σ x => ev_p ((TP_227 _).trans rfl) rfl,
   fun L st σ a => ev_getf ((TP_227 _).trans rfl),
   fun L st σ => ev_p ((TP_227 _).trans rfl) rfl,
   fun l1 st σ x => ev_p ((TP_227 _).trans rfl) rfl,
   fun L st σ a => ev_getf ((TP_227 _).trans rfl),
   fun L st σ => ev_p ((TP_227 _).trans rfl) rfl,
   fun l0 st σ x => ev_p ((TP_227 _).trans rfl) rfl,
   fun L st σ x y => ev_p ((TP_227 _).trans rfl) rfl,
   fun L σ a0 a1 a2 a3 => ev_call ((TP_227 _).trans rfl) rfl rfl rfl rfl,
   fun l1 st σ x => ev_p ((TP_227 _).trans rfl) rfl,
   fun L st σ a => ev_getf ((TP_227 _).trans rfl),
   fun l0 st σ x => ev_p ((TP_227 _).trans rfl) rfl,
   fun L st σ => ev_p ((TP_227 _).trans rfl) rfl,
   fun L st σ a i x => ev_zast ((TP_227 _).trans rfl),
   fun l1 st σ x => ev_p ((TP_227 _).trans rfl) rfl,
   fun L st σ a => ev_getf ((TP_227 _).trans rfl),
   fun L st σ => ev_p ((TP_227 _).trans rfl) rfl,
   fun L st σ a i => ev_iald ((TP_227 _).trans rfl),
   fun L σ x => ev_r ((TP_227 _).trans rfl) rfl⟩
theorem TP_228 (pc : Nat) : TT 228 pc = ri_find TL_228 pc := rfl
theorem E_228 (x0 : Nat) (x1 : Int32) (σ : ri_S) : cal 228 [.ref x0, .int x1] σ = ev 228 (0, [some (.ref x0), some (.int x1)], []) σ := rfl
theorem I_228 :
  (∀ (l1 : Option Value) (st : List Value) (σ : ri_S) (x : Nat), ev 228 (0, [some (.ref x), l1], st) σ = ev 228 (1, [some (.ref x), l1], .ref x :: st) σ) ∧
  (∀ (l0 : Option Value) (st : List Value) (σ : ri_S) (x : Int32), ev 228 (1, [l0, some (.int x)], st) σ = ev 228 (2, [l0, some (.int x)], .int x :: st) σ) ∧
  (∀ (L : ri_L) (st : List Value) (σ : ri_S) (x : Int32), ev 228 (2, L, .int x :: st) σ = ev 228 (3, L, .long x.toInt64 :: st) σ) ∧
  (∀ (L : ri_L) (st : List Value) (σ : ri_S), ev 228 (3, L, st) σ = ev 228 (4, L, .long 0 :: st) σ) ∧
  (∀ (L : ri_L) (st : List Value) (σ : ri_S), ev 228 (4, L, st) σ = ev 228 (5, L, .long 1 :: st) σ) ∧
  (∀ (L : ri_L) (σ : ri_S) (a0 : Int64) (a1 : Int64) (a2 : Int64) (s0 : Value), ev 228 (5, L, [.long a2, .long a1, .long a0, s0]) σ = (cal 146 [.long a0, .long a1, .long a2] σ).bind fun q => ev 228 (8, L, q.1.toList ++ [s0]) q.2) ∧
  (∀ (L : ri_L) (st : List Value) (σ : ri_S) (x : Int32), ev 228 (8, L, .int x :: st) σ = if ¬ x = 0 then ev 228 (15, L, st) σ else ev 228 (11, L, st) σ) ∧
  (∀ (L : ri_L) (st : List Value) (σ : ri_S), ev 228 (11, L, st) σ = ev 228 (12, L, .int 1 :: st) σ) ∧
  (∀ (L : ri_L) (st : List Value) (σ : ri_S), ev 228 (12, L, st) σ = ev 228 (29, L, st) σ) ∧
  (∀ (l1 : Option Value) (st : List Value) (σ : ri_S) (x : Nat), ev 228 (15, [some (.ref x), l1], st) σ = ev 228 (16, [some (.ref x), l1], .ref x :: st) σ) ∧
  (∀ (L : ri_L) (st : List Value) (σ : ri_S) (a : Nat), ev 228 (16, L, .ref a :: st) σ = tv_o 9 8 (σ.1 a) fun v => ev 228 (19, L, v :: st) σ) ∧
  (∀ (l0 : Option Value) (st : List Value) (σ : ri_S) (x : Int32), ev 228 (19, [l0, some (.int x)], st) σ = ev 228 (20, [l0, some (.int x)], .int x :: st) σ) ∧
  (∀ (L : ri_L) (st : List Value) (σ : ri_S) (a : Nat) (i : Int32), ev 228 (20, L, .int i :: .ref a :: st) σ = tv_r 1 (σ.1 a) i fun n f j => ev 228 (21, L, .int (f j) :: st) σ) ∧
  (∀ (L : ri_L) (st : List Value) (σ : ri_S) (x : Int32), ev 228 (21, L, .int x :: st) σ = if ¬ x = 0 then ev 228 (28, L, st) σ else ev 228 (24, L, st) σ) ∧
  (∀ (L : ri_L) (st : List Value) (σ : ri_S), ev 228 (24, L, st) σ = ev 228 (25, L, .int 2 :: st) σ) ∧
  (∀ (L : ri_L) (st : List Value) (σ : ri_S), ev 228 (25, L, st) σ = ev 228 (29, L, st) σ) ∧
  (∀ (L : ri_L) (st : List Value) (σ : ri_S), ev 228 (28, L, st) σ = ev 228 (29, L, .int 0 :: st) σ) ∧
  (∀ (L : ri_L) (σ : ri_S) (a0 : Nat) (a1 : Int32), ev 228 (29, L, [.int a1, .ref a0]) σ = tv_k 9 (σ.1 a0) ((cal 145 [.ref a0, .int a1] σ).bind fun q => ev 228 (32, L, q.1.toList ++ []) q.2)) ∧
  (∀ (L : ri_L) (st : List Value) (σ : ri_S) (x : Int32), ev 228 (32, L, .int x :: st) σ = if x = 0 then ev 228 (37, L, st) σ else ev 228 (35, L, st) σ) ∧
  (∀ (L : ri_L) (st : List Value) (σ : ri_S), ev 228 (35, L, st) σ = ev 228 (36, L, .int 0 :: st) σ) ∧
  (∀ (L : ri_L) (σ : ri_S) (x : Int32), ev 228 (36, L, [.int x]) σ = some (some (.int x), σ)) ∧
  (∀ (l1 : Option Value) (st : List Value) (σ : ri_S) (x : Nat), ev 228 (37, [some (.ref x), l1], st) σ = ev 228 (38, [some (.ref x), l1], .ref x :: st) σ) ∧
  (∀ (L : ri_L) (st : List Value) (σ : ri_S) (a : Nat), ev 228 (38, L, .ref a :: st) σ = tv_o 9 7 (σ.1 a) fun v => ev 228 (41, L, v :: st) σ) ∧
  (∀ (L : ri_L) (st : List Value) (σ : ri_S), ev 228 (41, L, st) σ = ev 228 (43, L, .int 96 :: st) σ) ∧
  (∀ (l0 : Option Value) (st : List Value) (σ : ri_S) (x : Int32), ev 228 (43, [l0, some (.int x)], st) σ = ev 228 (44, [l0, some (.int x)], .int x :: st) σ) ∧
  (∀ (L : ri_L) (st : List Value) (σ : ri_S) (x y : Int32), ev 228 (44, L, .int y :: .int x :: st) σ = ev 228 (45, L, .int (x * y) :: st) σ) ∧
  (∀ (l1 : Option Value) (st : List Value) (σ : ri_S) (x : Nat), ev 228 (45, [some (.ref x), l1], st) σ = ev 228 (46, [some (.ref x), l1], .ref x :: st) σ) ∧
  (∀ (L : ri_L) (st : List Value) (σ : ri_S) (a : Nat), ev 228 (46, L, .ref a :: st) σ = tv_o 9 3 (σ.1 a) fun v => ev 228 (49, L, v :: st) σ) ∧
  (∀ (L : ri_L) (st : List Value) (σ : ri_S), ev 228 (49, L, st) σ = ev 228 (50, L, .int 0 :: st) σ) ∧
  (∀ (L : ri_L) (σ : ri_S) (a0 : Nat) (a1 : Int32) (a2 : Nat) (a3 : Int32), ev 228 (50, L, [.int a3, .ref a2, .int a1, .ref a0]) σ = (cal 147 [.ref a0, .int a1, .ref a2, .int a3] σ).bind fun q => ev 228 (53, L, q.1.toList ++ []) q.2) ∧
  (∀ (l1 : Option Value) (st : List Value) (σ : ri_S) (x : Nat), ev 228 (53, [some (.ref x), l1], st) σ = ev 228 (54, [some (.ref x), l1], .ref x :: st) σ) ∧
  (∀ (L : ri_L) (st : List Value) (σ : ri_S), ev 228 (54, L, st) σ = ev 228 (55, L, .int 0 :: st) σ) ∧
  (∀ (L : ri_L) (st : List Value) (σ : ri_S) (a : Nat) (x : Int32), ev 228 (55, L, .int x :: .ref a :: st) σ = tv_w 9 6 (σ.1 a) (.int x) fun fs => ev 228 (58, L, st) (ri_upd σ.1 a (.inr (.inr (9, fs))), σ.2)) ∧
  (∀ (l1 : Option Value) (st : List Value) (σ : ri_S) (x : Nat), ev 228 (58, [some (.ref x), l1], st) σ = ev 228 (59, [some (.ref x), l1], .ref x :: st) σ) ∧
  (∀ (L : ri_L) (st : List Value) (σ : ri_S) (a : Nat), ev 228 (59, L, .ref a :: st) σ = tv_o 9 3 (σ.1 a) fun v => ev 228 (62, L, v :: st) σ) ∧
  (∀ (L : ri_L) (st : List Value) (σ : ri_S), ev 228 (62, L, st) σ = ev 228 (63, L, .int 3 :: st) σ) ∧
  (∀ (L : ri_L) (st : List Value) (σ : ri_S) (a : Nat) (i : Int32), ev 228 (63, L, .int i :: .ref a :: st) σ = tv_r 0 (σ.1 a) i fun n f j => ev 228 (64, L, .int (f j) :: st) σ) ∧
  (∀ (L : ri_L) (σ : ri_S) (x : Int32), ev 228 (64, L, [.int x]) σ = some (some (.int x), σ)) :=
  ⟨fun l1 st σ x => ev_p ((TP_228 _).trans rfl) rfl,
   fun l0 st σ x => ev_p ((TP_228 _).trans rfl) rfl,
   fun L st σ x => ev_p ((TP_228 _).trans rfl) rfl,
   fun L st σ => ev_p ((TP_228 _).trans rfl) rfl,
   fun L st σ => ev_p ((TP_228 _).trans rfl) rfl,
   fun L σ a0 a1 a2 s0 => ev_call ((TP_228 _).trans rfl) rfl rfl rfl rfl,
   fun L st σ x => ev_b ((TP_228 _).trans rfl) rfl,
   fun L st σ => ev_p ((TP_228 _).trans rfl) rfl,
   fun L st σ => ev_p ((TP_228 _).trans rfl) rfl,
   fun l1 st σ x => ev_p ((TP_228 _).trans rfl) rfl,
   fun L st σ a => ev_getf ((TP_228 _).trans rfl),
   fun l0 st σ x => ev_p ((TP_228 _).trans rfl) rfl,
   fun L st σ a i => ev_zald ((TP_228 _).trans rfl),
   fun L st σ x => ev_b ((TP_228 _).trans rfl) rfl,
   fun L st σ => ev_p ((TP_228 _).trans rfl) rfl,
   fun L st σ => ev_p ((TP_228 _).trans rfl) rfl,
   fun L st σ => ev_p ((TP_228 _).trans rfl) rfl,
   fun L σ a0 a1 => ev_callv ((TP_228 _).trans rfl) rfl rfl rfl rfl,
   fun L st σ x => ev_b ((TP_228 _).trans rfl) rfl,
   fun L st σ => ev_p ((TP_228 _).trans rfl) rfl,
   fun L σ x => ev_r ((TP_228 _).trans rfl) rfl,
   fun l1 st σ x => ev_p ((TP_228 _).trans rfl) rfl,
   fun L st σ a => ev_getf ((TP_228 _).trans rfl),
   fun L st σ => ev_p ((TP_228 _).trans rfl) rfl,
   fun l0 st σ x => ev_p ((TP_228 _).trans rfl) rfl,
   fun L st σ x y => ev_p ((TP_228 _).trans rfl) rfl,
   fun l1 st σ x => ev_p ((TP_228 _).trans rfl) rfl,
   fun L st σ a => ev_getf ((TP_228 _).trans rfl),
   fun L st σ => ev_p ((TP_228 _).trans rfl) rfl,
   fun L σ a0 a1 a2 a3 => ev_call ((TP_228 _).trans rfl) rfl rfl rfl rfl,
   fun l1 st σ x => ev_p ((TP_228 _).trans rfl) rfl,
   fun L st σ => ev_p ((TP_228 _).trans rfl) rfl,
   fun L st σ a x => ev_puti ((TP_228 _).trans rfl),
   fun l1 st σ x => ev_p ((TP_228 _).trans rfl) rfl,
   fun L st σ a => ev_getf ((TP_228 _).trans rfl),
   fun L st σ => ev_p ((TP_228 _).trans rfl) rfl,
   fun L st σ a i => ev_iald ((TP_228 _).trans rfl),
   fun L σ x => ev_r ((TP_228 _).trans rfl) rfl⟩
theorem TP_229 (pc : Nat) : TT 229 pc = ri_find TL_229 pc := rfl
theorem E_229 (x0 : Nat) (x1 : Int32) (σ : ri_S) : cal 229 [.ref x0, .int x1] σ = ev 229 (0, [some (.ref x0), some (.int x1), none, none], []) σ := rfl
theorem H_229_5 (l0 l1 l3 : Option Value) (st : List Value) (σ : ri_S) (x : Int32) : ev 229 (5, [l0, l1, some (.int x), l3], st) σ = ev 229 (6, [l0, l1, some (.int x), l3], .int x :: st) σ := ev_p ((TP_229 _).trans rfl) rfl
theorem I_229 :
  (∀ (L : ri_L) (st : List Value) (σ : ri_S), ev 229 (0, L, st) σ = ev 229 (1, L, .int 0 :: st) σ) ∧
  (∀ (l0 l1 l2 l3 : Option Value) (st : List Value) (σ : ri_S) (x : Int32), ev 229 (1, [l0, l1, l2, l3], .int x :: st) σ = ev 229 (2, [l0, ri_clr l1, some (.int x), l3], st) σ) ∧
  (∀ (l1 l2 l3 : Option Value) (st : List Value) (σ : ri_S) (x : Nat), ev 229 (2, [some (.ref x), l1, l2, l3], st) σ = ev 229 (3, [some (.ref x), l1, l2, l3], .ref x :: st) σ) ∧
  (∀ (L : ri_L) (st : List Value) (σ : ri_S) (a : Nat), ev 229 (3, L, .ref a :: st) σ = tv_n (σ.1 a) fun n => ev 229 (4, L, .int (Int32.ofNat n) :: st) σ) ∧
  (∀ (l0 l1 l2 l3 : Option Value) (st : List Value) (σ : ri_S) (x : Int32), ev 229 (4, [l0, l1, l2, l3], .int x :: st) σ = ev 229 (5, [l0, l1, ri_clr l2, some (.int x)], st) σ) ∧
  (∀ (l0 l1 l2 : Option Value) (st : List Value) (σ : ri_S) (x : Int32), ev 229 (6, [l0, l1, l2, some (.int x)], st) σ = ev 229 (7, [l0, l1, l2, some (.int x)], .int x :: st) σ) ∧
  (∀ (L : ri_L) (st : List Value) (σ : ri_S) (x y : Int32), ev 229 (7, L, .int y :: .int x :: st) σ = if y ≤ x then ev 229 (20, L, st) σ else ev 229 (10, L, st) σ) ∧
  (∀ (l1 l2 l3 : Option Value) (st : List Value) (σ : ri_S) (x : Nat), ev 229 (10, [some (.ref x), l1, l2, l3], st) σ = ev 229 (11, [some (.ref x), l1, l2, l3], .ref x :: st) σ) ∧
  (∀ (l0 l1 l3 : Option Value) (st : List Value) (σ : ri_S) (x : Int32), ev 229 (11, [l0, l1, some (.int x), l3], st) σ = ev 229 (12, [l0, l1, some (.int x), l3], .int x :: st) σ) ∧
  (∀ (l0 l2 l3 : Option Value) (st : List Value) (σ : ri_S) (x : Int32), ev 229 (12, [l0, some (.int x), l2, l3], st) σ = ev 229 (13, [l0, some (.int x), l2, l3], .int x :: st) σ) ∧
  (∀ (L : ri_L) (st : List Value) (σ : ri_S) (a : Nat) (i x : Int32), ev 229 (13, L, .int x :: .int i :: .ref a :: st) σ = tv_r 0 (σ.1 a) i fun n f j => ev 229 (14, L, st) (ri_upd σ.1 a (.inl (0, n, upd f j x)), σ.2)) ∧
  (∀ (l0 l1 l3 : Option Value) (st : List Value) (σ : ri_S) (x : Int32), ev 229 (14, [l0, l1, some (.int x), l3], st) σ = ev 229 (17, [l0, ri_clr l1, some (.int (x + 1)), l3], st) σ) ∧
  (∀ (L : ri_L) (st : List Value) (σ : ri_S), ev 229 (17, L, st) σ = ev 229 (5, L, st) σ) ∧
  (∀ (L : ri_L) (σ : ri_S), ev 229 (20, L, []) σ = some (none, σ)) :=
  ⟨fun L st σ => ev_p ((TP_229 _).trans rfl) rfl,
   fun l0 l1 l2 l3 st σ x => ev_p ((TP_229 _).trans rfl) rfl,
   fun l1 l2 l3 st σ x => ev_p ((TP_229 _).trans rfl) rfl,
   fun L st σ a => ev_alen ((TP_229 _).trans rfl),
   fun l0 l1 l2 l3 st σ x => ev_p ((TP_229 _).trans rfl) rfl,
   fun l0 l1 l2 st σ x => ev_p ((TP_229 _).trans rfl) rfl,
   fun L st σ x y => ev_b ((TP_229 _).trans rfl) rfl,
   fun l1 l2 l3 st σ x => ev_p ((TP_229 _).trans rfl) rfl,
   fun l0 l1 l3 st σ x => ev_p ((TP_229 _).trans rfl) rfl,
   fun l0 l2 l3 st σ x => ev_p ((TP_229 _).trans rfl) rfl,
   fun L st σ a i x => ev_iast ((TP_229 _).trans rfl),
   fun l0 l1 l3 st σ x => ev_p ((TP_229 _).trans rfl) rfl,
   fun L st σ => ev_p ((TP_229 _).trans rfl) rfl,
   fun L σ => ev_r ((TP_229 _).trans rfl) rfl⟩
