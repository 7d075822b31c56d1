/-! How the law's methods read on. -/
section EQM
variable {C0 b0 L0 : Nat} {xs0 : Nat → Int32}
theorem M_230 (x0 : Nat) (x1 : Int32) (x2 : Int32) (x3 : Int32) (x4 : Int32) (y : (gy × gy) × Nat) : calm C0 b0 L0 xs0 230 [.ref x0, .int x1, .int x2, .int x3, .int x4] y = evm C0 b0 L0 xs0 230 (0, [some (.ref x0), some (.int x1), some (.int x2), some (.int x3), some (.int x4)], []) y := em_in rfl
set_option maxRecDepth 8000 in
theorem L_230_0 :
  (∀ (l0 l2 l3 l4 : Option Value) (st : List Value) (y : (gy × gy) × Nat) (x : Int32), evm C0 b0 L0 xs0 230 (0, [l0, some (.int x), l2, l3, l4], st) y = evm C0 b0 L0 xs0 230 (1, [l0, some (.int x), l2, l3, l4], .int x :: st) y) ∧
  (∀ (L : ri_L) (st : List Value) (y : (gy × gy) × Nat) (x : Int32), evm C0 b0 L0 xs0 230 (1, L, .int x :: st) y = evm C0 b0 L0 xs0 230 (ri_tab [92, 98, 103, 109, 116, 123, 130, 139, 148, 157, 166, 173, 180, 187, 193, 198, 205, 212, 219] (Int32.ofInt 0) 225 x, L, st) y) ∧
  (∀ (l1 l2 l3 l4 : Option Value) (st : List Value) (y : (gy × gy) × Nat) (x : Nat), evm C0 b0 L0 xs0 230 (92, [some (.ref x), l1, l2, l3, l4], st) y = evm C0 b0 L0 xs0 230 (93, [some (.ref x), l1, l2, l3, l4], .ref x :: st) y) ∧
  (∀ (l0 l1 l3 l4 : Option Value) (st : List Value) (y : (gy × gy) × Nat) (x : Int32), evm C0 b0 L0 xs0 230 (93, [l0, l1, some (.int x), l3, l4], st) y = evm C0 b0 L0 xs0 230 (94, [l0, l1, some (.int x), l3, l4], .int x :: st) y) ∧
  (∀ (L : ri_L) (y : (gy × gy) × Nat) (a0 : Nat) (a1 : Int32), evm C0 b0 L0 xs0 230 (94, L, [.int a1, .ref a0]) y = lm_n (calm C0 b0 L0 xs0 309 [.ref a0, .int a1] y) fun v y => evm C0 b0 L0 xs0 230 (97, L, [v]) y) ∧
  (∀ (L : ri_L) (y : (gy × gy) × Nat) (x : Int32), evm C0 b0 L0 xs0 230 (97, L, [.int x]) y = some (.int x, y)) ∧
  (∀ (l1 l2 l3 l4 : Option Value) (st : List Value) (y : (gy × gy) × Nat) (x : Nat), evm C0 b0 L0 xs0 230 (98, [some (.ref x), l1, l2, l3, l4], st) y = evm C0 b0 L0 xs0 230 (99, [some (.ref x), l1, l2, l3, l4], .ref x :: st) y) ∧
  (∀ (L : ri_L) (y : (gy × gy) × Nat) (a0 : Nat), evm C0 b0 L0 xs0 230 (99, L, [.ref a0]) y = lm_n (calm C0 b0 L0 xs0 312 [.ref a0] y) fun v y => evm C0 b0 L0 xs0 230 (102, L, [v]) y) ∧
  (∀ (L : ri_L) (y : (gy × gy) × Nat) (x : Int32), evm C0 b0 L0 xs0 230 (102, L, [.int x]) y = some (.int x, y)) ∧
  (∀ (l1 l2 l3 l4 : Option Value) (st : List Value) (y : (gy × gy) × Nat) (x : Nat), evm C0 b0 L0 xs0 230 (103, [some (.ref x), l1, l2, l3, l4], st) y = evm C0 b0 L0 xs0 230 (104, [some (.ref x), l1, l2, l3, l4], .ref x :: st) y) ∧
  (∀ (l0 l1 l3 l4 : Option Value) (st : List Value) (y : (gy × gy) × Nat) (x : Int32), evm C0 b0 L0 xs0 230 (104, [l0, l1, some (.int x), l3, l4], st) y = evm C0 b0 L0 xs0 230 (105, [l0, l1, some (.int x), l3, l4], .int x :: st) y) ∧
  (∀ (L : ri_L) (y : (gy × gy) × Nat) (a0 : Nat) (a1 : Int32), evm C0 b0 L0 xs0 230 (105, L, [.int a1, .ref a0]) y = lm_n (calm C0 b0 L0 xs0 313 [.ref a0, .int a1] y) fun v y => evm C0 b0 L0 xs0 230 (108, L, [v]) y) ∧
  (∀ (L : ri_L) (y : (gy × gy) × Nat) (x : Int32), evm C0 b0 L0 xs0 230 (108, L, [.int x]) y = some (.int x, y)) ∧
  (∀ (l1 l2 l3 l4 : Option Value) (st : List Value) (y : (gy × gy) × Nat) (x : Nat), evm C0 b0 L0 xs0 230 (109, [some (.ref x), l1, l2, l3, l4], st) y = evm C0 b0 L0 xs0 230 (110, [some (.ref x), l1, l2, l3, l4], .ref x :: st) y) ∧
  (∀ (l0 l1 l3 l4 : Option Value) (st : List Value) (y : (gy × gy) × Nat) (x : Int32), evm C0 b0 L0 xs0 230 (110, [l0, l1, some (.int x), l3, l4], st) y = evm C0 b0 L0 xs0 230 (111, [l0, l1, some (.int x), l3, l4], .int x :: st) y) ∧
  (∀ (l0 l1 l2 l4 : Option Value) (st : List Value) (y : (gy × gy) × Nat) (x : Int32), evm C0 b0 L0 xs0 230 (111, [l0, l1, l2, some (.int x), l4], st) y = evm C0 b0 L0 xs0 230 (112, [l0, l1, l2, some (.int x), l4], .int x :: st) y) ∧
  (∀ (L : ri_L) (y : (gy × gy) × Nat) (a0 : Nat) (a1 : Int32) (a2 : Int32), evm C0 b0 L0 xs0 230 (112, L, [.int a2, .int a1, .ref a0]) y = lm_n (calm C0 b0 L0 xs0 314 [.ref a0, .int a1, .int a2] y) fun v y => evm C0 b0 L0 xs0 230 (115, L, [v]) y) ∧
  (∀ (L : ri_L) (y : (gy × gy) × Nat) (x : Int32), evm C0 b0 L0 xs0 230 (115, L, [.int x]) y = some (.int x, y)) ∧
  (∀ (l1 l2 l3 l4 : Option Value) (st : List Value) (y : (gy × gy) × Nat) (x : Nat), evm C0 b0 L0 xs0 230 (116, [some (.ref x), l1, l2, l3, l4], st) y = evm C0 b0 L0 xs0 230 (117, [some (.ref x), l1, l2, l3, l4], .ref x :: st) y) ∧
  (∀ (l0 l1 l3 l4 : Option Value) (st : List Value) (y : (gy × gy) × Nat) (x : Int32), evm C0 b0 L0 xs0 230 (117, [l0, l1, some (.int x), l3, l4], st) y = evm C0 b0 L0 xs0 230 (118, [l0, l1, some (.int x), l3, l4], .int x :: st) y) ∧
  (∀ (l0 l1 l2 l4 : Option Value) (st : List Value) (y : (gy × gy) × Nat) (x : Int32), evm C0 b0 L0 xs0 230 (118, [l0, l1, l2, some (.int x), l4], st) y = evm C0 b0 L0 xs0 230 (119, [l0, l1, l2, some (.int x), l4], .int x :: st) y) ∧
  (∀ (L : ri_L) (y : (gy × gy) × Nat) (a0 : Nat) (a1 : Int32) (a2 : Int32), evm C0 b0 L0 xs0 230 (119, L, [.int a2, .int a1, .ref a0]) y = lm_n (calm C0 b0 L0 xs0 316 [.ref a0, .int a1, .int a2] y) fun v y => evm C0 b0 L0 xs0 230 (122, L, [v]) y) ∧
  (∀ (L : ri_L) (y : (gy × gy) × Nat) (x : Int32), evm C0 b0 L0 xs0 230 (122, L, [.int x]) y = some (.int x, y)) ∧
  (∀ (l1 l2 l3 l4 : Option Value) (st : List Value) (y : (gy × gy) × Nat) (x : Nat), evm C0 b0 L0 xs0 230 (123, [some (.ref x), l1, l2, l3, l4], st) y = evm C0 b0 L0 xs0 230 (124, [some (.ref x), l1, l2, l3, l4], .ref x :: st) y) ∧
  (∀ (l0 l1 l3 l4 : Option Value) (st : List Value) (y : (gy × gy) × Nat) (x : Int32), evm C0 b0 L0 xs0 230 (124, [l0, l1, some (.int x), l3, l4], st) y = evm C0 b0 L0 xs0 230 (125, [l0, l1, some (.int x), l3, l4], .int x :: st) y) ∧
  (∀ (l0 l1 l2 l4 : Option Value) (st : List Value) (y : (gy × gy) × Nat) (x : Int32), evm C0 b0 L0 xs0 230 (125, [l0, l1, l2, some (.int x), l4], st) y = evm C0 b0 L0 xs0 230 (126, [l0, l1, l2, some (.int x), l4], .int x :: st) y) ∧
  (∀ (L : ri_L) (y : (gy × gy) × Nat) (a0 : Nat) (a1 : Int32) (a2 : Int32), evm C0 b0 L0 xs0 230 (126, L, [.int a2, .int a1, .ref a0]) y = lm_n (calm C0 b0 L0 xs0 317 [.ref a0, .int a1, .int a2] y) fun v y => evm C0 b0 L0 xs0 230 (129, L, [v]) y) ∧
  (∀ (L : ri_L) (y : (gy × gy) × Nat) (x : Int32), evm C0 b0 L0 xs0 230 (129, L, [.int x]) y = some (.int x, y)) ∧
  (∀ (l1 l2 l3 l4 : Option Value) (st : List Value) (y : (gy × gy) × Nat) (x : Nat), evm C0 b0 L0 xs0 230 (130, [some (.ref x), l1, l2, l3, l4], st) y = evm C0 b0 L0 xs0 230 (131, [some (.ref x), l1, l2, l3, l4], .ref x :: st) y) ∧
  (∀ (l0 l1 l3 l4 : Option Value) (st : List Value) (y : (gy × gy) × Nat) (x : Int32), evm C0 b0 L0 xs0 230 (131, [l0, l1, some (.int x), l3, l4], st) y = evm C0 b0 L0 xs0 230 (132, [l0, l1, some (.int x), l3, l4], .int x :: st) y) ∧
  (∀ (l0 l1 l2 l4 : Option Value) (st : List Value) (y : (gy × gy) × Nat) (x : Int32), evm C0 b0 L0 xs0 230 (132, [l0, l1, l2, some (.int x), l4], st) y = evm C0 b0 L0 xs0 230 (133, [l0, l1, l2, some (.int x), l4], .int x :: st) y) ∧
  (∀ (l0 l1 l2 l3 : Option Value) (st : List Value) (y : (gy × gy) × Nat) (x : Int32), evm C0 b0 L0 xs0 230 (133, [l0, l1, l2, l3, some (.int x)], st) y = evm C0 b0 L0 xs0 230 (135, [l0, l1, l2, l3, some (.int x)], .int x :: st) y) ∧
  (∀ (L : ri_L) (y : (gy × gy) × Nat) (a0 : Nat) (a1 : Int32) (a2 : Int32) (a3 : Int32), evm C0 b0 L0 xs0 230 (135, L, [.int a3, .int a2, .int a1, .ref a0]) y = lm_n (calm C0 b0 L0 xs0 315 [.ref a0, .int a1, .int a2, .int a3] y) fun v y => evm C0 b0 L0 xs0 230 (138, L, [v]) y) ∧
  (∀ (L : ri_L) (y : (gy × gy) × Nat) (x : Int32), evm C0 b0 L0 xs0 230 (138, L, [.int x]) y = some (.int x, y)) ∧
  (∀ (l1 l2 l3 l4 : Option Value) (st : List Value) (y : (gy × gy) × Nat) (x : Nat), evm C0 b0 L0 xs0 230 (139, [some (.ref x), l1, l2, l3, l4], st) y = evm C0 b0 L0 xs0 230 (140, [some (.ref x), l1, l2, l3, l4], .ref x :: st) y) ∧
  (∀ (l0 l1 l3 l4 : Option Value) (st : List Value) (y : (gy × gy) × Nat) (x : Int32), evm C0 b0 L0 xs0 230 (140, [l0, l1, some (.int x), l3, l4], st) y = evm C0 b0 L0 xs0 230 (141, [l0, l1, some (.int x), l3, l4], .int x :: st) y) ∧
  (∀ (l0 l1 l2 l4 : Option Value) (st : List Value) (y : (gy × gy) × Nat) (x : Int32), evm C0 b0 L0 xs0 230 (141, [l0, l1, l2, some (.int x), l4], st) y = evm C0 b0 L0 xs0 230 (142, [l0, l1, l2, some (.int x), l4], .int x :: st) y) ∧
  (∀ (l0 l1 l2 l3 : Option Value) (st : List Value) (y : (gy × gy) × Nat) (x : Int32), evm C0 b0 L0 xs0 230 (142, [l0, l1, l2, l3, some (.int x)], st) y = evm C0 b0 L0 xs0 230 (144, [l0, l1, l2, l3, some (.int x)], .int x :: st) y) ∧
  (∀ (L : ri_L) (y : (gy × gy) × Nat) (a0 : Nat) (a1 : Int32) (a2 : Int32) (a3 : Int32), evm C0 b0 L0 xs0 230 (144, L, [.int a3, .int a2, .int a1, .ref a0]) y = lm_n (calm C0 b0 L0 xs0 318 [.ref a0, .int a1, .int a2, .int a3] y) fun v y => evm C0 b0 L0 xs0 230 (147, L, [v]) y) ∧
  (∀ (L : ri_L) (y : (gy × gy) × Nat) (x : Int32), evm C0 b0 L0 xs0 230 (147, L, [.int x]) y = some (.int x, y)) :=
  ⟨fun l0 l2 l3 l4 st y x => em_p rfl rfl,
   fun L st y x => em_p rfl rfl,
   fun l1 l2 l3 l4 st y x => em_p rfl rfl,
   fun l0 l1 l3 l4 st y x => em_p rfl rfl,
   fun L y a0 a1 => em_call rfl rfl rfl rfl rfl,
   fun L y x => em_r rfl rfl,
   fun l1 l2 l3 l4 st y x => em_p rfl rfl,
   fun L y a0 => em_call rfl rfl rfl rfl rfl,
   fun L y x => em_r rfl rfl,
   fun l1 l2 l3 l4 st y x => em_p rfl rfl,
   fun l0 l1 l3 l4 st y x => em_p rfl rfl,
   fun L y a0 a1 => em_call rfl rfl rfl rfl rfl,
   fun L y x => em_r rfl rfl,
   fun l1 l2 l3 l4 st y x => em_p rfl rfl,
   fun l0 l1 l3 l4 st y x => em_p rfl rfl,
   fun l0 l1 l2 l4 st y x => em_p rfl rfl,
   fun L y a0 a1 a2 => em_call rfl rfl rfl rfl rfl,
   fun L y x => em_r rfl rfl,
   fun l1 l2 l3 l4 st y x => em_p rfl rfl,
   fun l0 l1 l3 l4 st y x => em_p rfl rfl,
   fun l0 l1 l2 l4 st y x => em_p rfl rfl,
   fun L y a0 a1 a2 => em_call rfl rfl rfl rfl rfl,
   fun L y x => em_r rfl rfl,
   fun l1 l2 l3 l4 st y x => em_p rfl rfl,
   fun l0 l1 l3 l4 st y x => em_p rfl rfl,
   fun l0 l1 l2 l4 st y x => em_p rfl rfl,
   fun L y a0 a1 a2 => em_call rfl rfl rfl rfl rfl,
   fun L y x => em_r rfl rfl,
   fun l1 l2 l3 l4 st y x => em_p rfl rfl,
   fun l0 l1 l3 l4 st y x => em_p rfl rfl,
   fun l0 l1 l2 l4 st y x => em_p rfl rfl,
   fun l0 l1 l2 l3 st y x => em_p rfl rfl,
   fun L y a0 a1 a2 a3 => em_call rfl rfl rfl rfl rfl,
   fun L y x => em_r rfl rfl,
   fun l1 l2 l3 l4 st y x => em_p rfl rfl,
   fun l0 l1 l3 l4 st y x => em_p rfl rfl,
   fun l0 l1 l2 l4 st y x => em_p rfl rfl,
   fun l0 l1 l2 l3 st y x => em_p rfl rfl,
   fun L y a0 a1 a2 a3 => em_call rfl rfl rfl rfl rfl,
   fun L y x => em_r rfl rfl⟩
set_option maxRecDepth 8000 in
theorem L_230_1 :
  (∀ (l1 l2 l3 l4 : Option Value) (st : List Value) (y : (gy × gy) × Nat) (x : Nat), evm C0 b0 L0 xs0 230 (148, [some (.ref x), l1, l2, l3, l4], st) y = evm C0 b0 L0 xs0 230 (149, [some (.ref x), l1, l2, l3, l4], .ref x :: st) y) ∧
  (∀ (l0 l1 l3 l4 : Option Value) (st : List Value) (y : (gy × gy) × Nat) (x : Int32), evm C0 b0 L0 xs0 230 (149, [l0, l1, some (.int x), l3, l4], st) y = evm C0 b0 L0 xs0 230 (150, [l0, l1, some (.int x), l3, l4], .int x :: st) y) ∧
  (∀ (l0 l1 l2 l4 : Option Value) (st : List Value) (y : (gy × gy) × Nat) (x : Int32), evm C0 b0 L0 xs0 230 (150, [l0, l1, l2, some (.int x), l4], st) y = evm C0 b0 L0 xs0 230 (151, [l0, l1, l2, some (.int x), l4], .int x :: st) y) ∧
  (∀ (l0 l1 l2 l3 : Option Value) (st : List Value) (y : (gy × gy) × Nat) (x : Int32), evm C0 b0 L0 xs0 230 (151, [l0, l1, l2, l3, some (.int x)], st) y = evm C0 b0 L0 xs0 230 (153, [l0, l1, l2, l3, some (.int x)], .int x :: st) y) ∧
  (∀ (L : ri_L) (y : (gy × gy) × Nat) (a0 : Nat) (a1 : Int32) (a2 : Int32) (a3 : Int32), evm C0 b0 L0 xs0 230 (153, L, [.int a3, .int a2, .int a1, .ref a0]) y = lm_n (calm C0 b0 L0 xs0 320 [.ref a0, .int a1, .int a2, .int a3] y) fun v y => evm C0 b0 L0 xs0 230 (156, L, [v]) y) ∧
  (∀ (L : ri_L) (y : (gy × gy) × Nat) (x : Int32), evm C0 b0 L0 xs0 230 (156, L, [.int x]) y = some (.int x, y)) ∧
  (∀ (l1 l2 l3 l4 : Option Value) (st : List Value) (y : (gy × gy) × Nat) (x : Nat), evm C0 b0 L0 xs0 230 (157, [some (.ref x), l1, l2, l3, l4], st) y = evm C0 b0 L0 xs0 230 (158, [some (.ref x), l1, l2, l3, l4], .ref x :: st) y) ∧
  (∀ (l0 l1 l3 l4 : Option Value) (st : List Value) (y : (gy × gy) × Nat) (x : Int32), evm C0 b0 L0 xs0 230 (158, [l0, l1, some (.int x), l3, l4], st) y = evm C0 b0 L0 xs0 230 (159, [l0, l1, some (.int x), l3, l4], .int x :: st) y) ∧
  (∀ (l0 l1 l2 l4 : Option Value) (st : List Value) (y : (gy × gy) × Nat) (x : Int32), evm C0 b0 L0 xs0 230 (159, [l0, l1, l2, some (.int x), l4], st) y = evm C0 b0 L0 xs0 230 (160, [l0, l1, l2, some (.int x), l4], .int x :: st) y) ∧
  (∀ (l0 l1 l2 l3 : Option Value) (st : List Value) (y : (gy × gy) × Nat) (x : Int32), evm C0 b0 L0 xs0 230 (160, [l0, l1, l2, l3, some (.int x)], st) y = evm C0 b0 L0 xs0 230 (162, [l0, l1, l2, l3, some (.int x)], .int x :: st) y) ∧
  (∀ (L : ri_L) (y : (gy × gy) × Nat) (a0 : Nat) (a1 : Int32) (a2 : Int32) (a3 : Int32), evm C0 b0 L0 xs0 230 (162, L, [.int a3, .int a2, .int a1, .ref a0]) y = lm_n (calm C0 b0 L0 xs0 321 [.ref a0, .int a1, .int a2, .int a3] y) fun v y => evm C0 b0 L0 xs0 230 (165, L, [v]) y) ∧
  (∀ (L : ri_L) (y : (gy × gy) × Nat) (x : Int32), evm C0 b0 L0 xs0 230 (165, L, [.int x]) y = some (.int x, y)) ∧
  (∀ (l1 l2 l3 l4 : Option Value) (st : List Value) (y : (gy × gy) × Nat) (x : Nat), evm C0 b0 L0 xs0 230 (166, [some (.ref x), l1, l2, l3, l4], st) y = evm C0 b0 L0 xs0 230 (167, [some (.ref x), l1, l2, l3, l4], .ref x :: st) y) ∧
  (∀ (l0 l1 l3 l4 : Option Value) (st : List Value) (y : (gy × gy) × Nat) (x : Int32), evm C0 b0 L0 xs0 230 (167, [l0, l1, some (.int x), l3, l4], st) y = evm C0 b0 L0 xs0 230 (168, [l0, l1, some (.int x), l3, l4], .int x :: st) y) ∧
  (∀ (l0 l1 l2 l4 : Option Value) (st : List Value) (y : (gy × gy) × Nat) (x : Int32), evm C0 b0 L0 xs0 230 (168, [l0, l1, l2, some (.int x), l4], st) y = evm C0 b0 L0 xs0 230 (169, [l0, l1, l2, some (.int x), l4], .int x :: st) y) ∧
  (∀ (L : ri_L) (y : (gy × gy) × Nat) (a0 : Nat) (a1 : Int32) (a2 : Int32), evm C0 b0 L0 xs0 230 (169, L, [.int a2, .int a1, .ref a0]) y = lm_n (calm C0 b0 L0 xs0 322 [.ref a0, .int a1, .int a2] y) fun v y => evm C0 b0 L0 xs0 230 (172, L, [v]) y) ∧
  (∀ (L : ri_L) (y : (gy × gy) × Nat) (x : Int32), evm C0 b0 L0 xs0 230 (172, L, [.int x]) y = some (.int x, y)) ∧
  (∀ (l1 l2 l3 l4 : Option Value) (st : List Value) (y : (gy × gy) × Nat) (x : Nat), evm C0 b0 L0 xs0 230 (173, [some (.ref x), l1, l2, l3, l4], st) y = evm C0 b0 L0 xs0 230 (174, [some (.ref x), l1, l2, l3, l4], .ref x :: st) y) ∧
  (∀ (l0 l1 l3 l4 : Option Value) (st : List Value) (y : (gy × gy) × Nat) (x : Int32), evm C0 b0 L0 xs0 230 (174, [l0, l1, some (.int x), l3, l4], st) y = evm C0 b0 L0 xs0 230 (175, [l0, l1, some (.int x), l3, l4], .int x :: st) y) ∧
  (∀ (l0 l1 l2 l4 : Option Value) (st : List Value) (y : (gy × gy) × Nat) (x : Int32), evm C0 b0 L0 xs0 230 (175, [l0, l1, l2, some (.int x), l4], st) y = evm C0 b0 L0 xs0 230 (176, [l0, l1, l2, some (.int x), l4], .int x :: st) y) ∧
  (∀ (L : ri_L) (y : (gy × gy) × Nat) (a0 : Nat) (a1 : Int32) (a2 : Int32), evm C0 b0 L0 xs0 230 (176, L, [.int a2, .int a1, .ref a0]) y = lm_n (calm C0 b0 L0 xs0 323 [.ref a0, .int a1, .int a2] y) fun v y => evm C0 b0 L0 xs0 230 (179, L, [v]) y) ∧
  (∀ (L : ri_L) (y : (gy × gy) × Nat) (x : Int32), evm C0 b0 L0 xs0 230 (179, L, [.int x]) y = some (.int x, y)) ∧
  (∀ (l1 l2 l3 l4 : Option Value) (st : List Value) (y : (gy × gy) × Nat) (x : Nat), evm C0 b0 L0 xs0 230 (180, [some (.ref x), l1, l2, l3, l4], st) y = evm C0 b0 L0 xs0 230 (181, [some (.ref x), l1, l2, l3, l4], .ref x :: st) y) ∧
  (∀ (l0 l1 l3 l4 : Option Value) (st : List Value) (y : (gy × gy) × Nat) (x : Int32), evm C0 b0 L0 xs0 230 (181, [l0, l1, some (.int x), l3, l4], st) y = evm C0 b0 L0 xs0 230 (182, [l0, l1, some (.int x), l3, l4], .int x :: st) y) ∧
  (∀ (l0 l1 l2 l4 : Option Value) (st : List Value) (y : (gy × gy) × Nat) (x : Int32), evm C0 b0 L0 xs0 230 (182, [l0, l1, l2, some (.int x), l4], st) y = evm C0 b0 L0 xs0 230 (183, [l0, l1, l2, some (.int x), l4], .int x :: st) y) ∧
  (∀ (L : ri_L) (y : (gy × gy) × Nat) (a0 : Nat) (a1 : Int32) (a2 : Int32), evm C0 b0 L0 xs0 230 (183, L, [.int a2, .int a1, .ref a0]) y = lm_n (calm C0 b0 L0 xs0 324 [.ref a0, .int a1, .int a2] y) fun v y => evm C0 b0 L0 xs0 230 (186, L, [v]) y) ∧
  (∀ (L : ri_L) (y : (gy × gy) × Nat) (x : Int32), evm C0 b0 L0 xs0 230 (186, L, [.int x]) y = some (.int x, y)) ∧
  (∀ (l1 l2 l3 l4 : Option Value) (st : List Value) (y : (gy × gy) × Nat) (x : Nat), evm C0 b0 L0 xs0 230 (187, [some (.ref x), l1, l2, l3, l4], st) y = evm C0 b0 L0 xs0 230 (188, [some (.ref x), l1, l2, l3, l4], .ref x :: st) y) ∧
  (∀ (l0 l1 l3 l4 : Option Value) (st : List Value) (y : (gy × gy) × Nat) (x : Int32), evm C0 b0 L0 xs0 230 (188, [l0, l1, some (.int x), l3, l4], st) y = evm C0 b0 L0 xs0 230 (189, [l0, l1, some (.int x), l3, l4], .int x :: st) y) ∧
  (∀ (L : ri_L) (y : (gy × gy) × Nat) (a0 : Nat) (a1 : Int32), evm C0 b0 L0 xs0 230 (189, L, [.int a1, .ref a0]) y = lm_n (calm C0 b0 L0 xs0 325 [.ref a0, .int a1] y) fun v y => evm C0 b0 L0 xs0 230 (192, L, [v]) y) ∧
  (∀ (L : ri_L) (y : (gy × gy) × Nat) (x : Int32), evm C0 b0 L0 xs0 230 (192, L, [.int x]) y = some (.int x, y)) ∧
  (∀ (l1 l2 l3 l4 : Option Value) (st : List Value) (y : (gy × gy) × Nat) (x : Nat), evm C0 b0 L0 xs0 230 (193, [some (.ref x), l1, l2, l3, l4], st) y = evm C0 b0 L0 xs0 230 (194, [some (.ref x), l1, l2, l3, l4], .ref x :: st) y) ∧
  (∀ (L : ri_L) (y : (gy × gy) × Nat) (a0 : Nat), evm C0 b0 L0 xs0 230 (194, L, [.ref a0]) y = lm_n (calm C0 b0 L0 xs0 326 [.ref a0] y) fun v y => evm C0 b0 L0 xs0 230 (197, L, [v]) y) ∧
  (∀ (L : ri_L) (y : (gy × gy) × Nat) (x : Int32), evm C0 b0 L0 xs0 230 (197, L, [.int x]) y = some (.int x, y)) ∧
  (∀ (l1 l2 l3 l4 : Option Value) (st : List Value) (y : (gy × gy) × Nat) (x : Nat), evm C0 b0 L0 xs0 230 (198, [some (.ref x), l1, l2, l3, l4], st) y = evm C0 b0 L0 xs0 230 (199, [some (.ref x), l1, l2, l3, l4], .ref x :: st) y) ∧
  (∀ (l0 l1 l3 l4 : Option Value) (st : List Value) (y : (gy × gy) × Nat) (x : Int32), evm C0 b0 L0 xs0 230 (199, [l0, l1, some (.int x), l3, l4], st) y = evm C0 b0 L0 xs0 230 (200, [l0, l1, some (.int x), l3, l4], .int x :: st) y) ∧
  (∀ (l0 l1 l2 l4 : Option Value) (st : List Value) (y : (gy × gy) × Nat) (x : Int32), evm C0 b0 L0 xs0 230 (200, [l0, l1, l2, some (.int x), l4], st) y = evm C0 b0 L0 xs0 230 (201, [l0, l1, l2, some (.int x), l4], .int x :: st) y) ∧
  (∀ (L : ri_L) (y : (gy × gy) × Nat) (a0 : Nat) (a1 : Int32) (a2 : Int32), evm C0 b0 L0 xs0 230 (201, L, [.int a2, .int a1, .ref a0]) y = lm_n (calm C0 b0 L0 xs0 327 [.ref a0, .int a1, .int a2] y) fun v y => evm C0 b0 L0 xs0 230 (204, L, [v]) y) ∧
  (∀ (L : ri_L) (y : (gy × gy) × Nat) (x : Int32), evm C0 b0 L0 xs0 230 (204, L, [.int x]) y = some (.int x, y)) ∧
  (∀ (l1 l2 l3 l4 : Option Value) (st : List Value) (y : (gy × gy) × Nat) (x : Nat), evm C0 b0 L0 xs0 230 (205, [some (.ref x), l1, l2, l3, l4], st) y = evm C0 b0 L0 xs0 230 (206, [some (.ref x), l1, l2, l3, l4], .ref x :: st) y) :=
  ⟨fun l1 l2 l3 l4 st y x => em_p rfl rfl,
   fun l0 l1 l3 l4 st y x => em_p rfl rfl,
   fun l0 l1 l2 l4 st y x => em_p rfl rfl,
   fun l0 l1 l2 l3 st y x => em_p rfl rfl,
   fun L y a0 a1 a2 a3 => em_call rfl rfl rfl rfl rfl,
   fun L y x => em_r rfl rfl,
   fun l1 l2 l3 l4 st y x => em_p rfl rfl,
   fun l0 l1 l3 l4 st y x => em_p rfl rfl,
   fun l0 l1 l2 l4 st y x => em_p rfl rfl,
   fun l0 l1 l2 l3 st y x => em_p rfl rfl,
   fun L y a0 a1 a2 a3 => em_call rfl rfl rfl rfl rfl,
   fun L y x => em_r rfl rfl,
   fun l1 l2 l3 l4 st y x => em_p rfl rfl,
   fun l0 l1 l3 l4 st y x => em_p rfl rfl,
   fun l0 l1 l2 l4 st y x => em_p rfl rfl,
   fun L y a0 a1 a2 => em_call rfl rfl rfl rfl rfl,
   fun L y x => em_r rfl rfl,
   fun l1 l2 l3 l4 st y x => em_p rfl rfl,
   fun l0 l1 l3 l4 st y x => em_p rfl rfl,
   fun l0 l1 l2 l4 st y x => em_p rfl rfl,
   fun L y a0 a1 a2 => em_call rfl rfl rfl rfl rfl,
   fun L y x => em_r rfl rfl,
   fun l1 l2 l3 l4 st y x => em_p rfl rfl,
   fun l0 l1 l3 l4 st y x => em_p rfl rfl,
   fun l0 l1 l2 l4 st y x => em_p rfl rfl,
   fun L y a0 a1 a2 => em_call rfl rfl rfl rfl rfl,
   fun L y x => em_r rfl rfl,
   fun l1 l2 l3 l4 st y x => em_p rfl rfl,
   fun l0 l1 l3 l4 st y x => em_p rfl rfl,
   fun L y a0 a1 => em_call rfl rfl rfl rfl rfl,
   fun L y x => em_r rfl rfl,
   fun l1 l2 l3 l4 st y x => em_p rfl rfl,
   fun L y a0 => em_call rfl rfl rfl rfl rfl,
   fun L y x => em_r rfl rfl,
   fun l1 l2 l3 l4 st y x => em_p rfl rfl,
   fun l0 l1 l3 l4 st y x => em_p rfl rfl,
   fun l0 l1 l2 l4 st y x => em_p rfl rfl,
   fun L y a0 a1 a2 => em_call rfl rfl rfl rfl rfl,
   fun L y x => em_r rfl rfl,
   fun l1 l2 l3 l4 st y x => em_p rfl rfl⟩
set_option maxRecDepth 8000 in
theorem L_230_2 :
  (∀ (l0 l1 l3 l4 : Option Value) (st : List Value) (y : (gy × gy) × Nat) (x : Int32), evm C0 b0 L0 xs0 230 (206, [l0, l1, some (.int x), l3, l4], st) y = evm C0 b0 L0 xs0 230 (207, [l0, l1, some (.int x), l3, l4], .int x :: st) y) ∧
  (∀ (l0 l1 l2 l4 : Option Value) (st : List Value) (y : (gy × gy) × Nat) (x : Int32), evm C0 b0 L0 xs0 230 (207, [l0, l1, l2, some (.int x), l4], st) y = evm C0 b0 L0 xs0 230 (208, [l0, l1, l2, some (.int x), l4], .int x :: st) y) ∧
  (∀ (L : ri_L) (y : (gy × gy) × Nat) (a0 : Nat) (a1 : Int32) (a2 : Int32), evm C0 b0 L0 xs0 230 (208, L, [.int a2, .int a1, .ref a0]) y = lm_n (calm C0 b0 L0 xs0 329 [.ref a0, .int a1, .int a2] y) fun v y => evm C0 b0 L0 xs0 230 (211, L, [v]) y) ∧
  (∀ (L : ri_L) (y : (gy × gy) × Nat) (x : Int32), evm C0 b0 L0 xs0 230 (211, L, [.int x]) y = some (.int x, y)) ∧
  (∀ (l1 l2 l3 l4 : Option Value) (st : List Value) (y : (gy × gy) × Nat) (x : Nat), evm C0 b0 L0 xs0 230 (212, [some (.ref x), l1, l2, l3, l4], st) y = evm C0 b0 L0 xs0 230 (213, [some (.ref x), l1, l2, l3, l4], .ref x :: st) y) ∧
  (∀ (l0 l1 l3 l4 : Option Value) (st : List Value) (y : (gy × gy) × Nat) (x : Int32), evm C0 b0 L0 xs0 230 (213, [l0, l1, some (.int x), l3, l4], st) y = evm C0 b0 L0 xs0 230 (214, [l0, l1, some (.int x), l3, l4], .int x :: st) y) ∧
  (∀ (l0 l1 l2 l4 : Option Value) (st : List Value) (y : (gy × gy) × Nat) (x : Int32), evm C0 b0 L0 xs0 230 (214, [l0, l1, l2, some (.int x), l4], st) y = evm C0 b0 L0 xs0 230 (215, [l0, l1, l2, some (.int x), l4], .int x :: st) y) ∧
  (∀ (L : ri_L) (y : (gy × gy) × Nat) (a0 : Nat) (a1 : Int32) (a2 : Int32), evm C0 b0 L0 xs0 230 (215, L, [.int a2, .int a1, .ref a0]) y = lm_n (calm C0 b0 L0 xs0 330 [.ref a0, .int a1, .int a2] y) fun v y => evm C0 b0 L0 xs0 230 (218, L, [v]) y) ∧
  (∀ (L : ri_L) (y : (gy × gy) × Nat) (x : Int32), evm C0 b0 L0 xs0 230 (218, L, [.int x]) y = some (.int x, y)) ∧
  (∀ (l1 l2 l3 l4 : Option Value) (st : List Value) (y : (gy × gy) × Nat) (x : Nat), evm C0 b0 L0 xs0 230 (219, [some (.ref x), l1, l2, l3, l4], st) y = evm C0 b0 L0 xs0 230 (220, [some (.ref x), l1, l2, l3, l4], .ref x :: st) y) ∧
  (∀ (l0 l1 l3 l4 : Option Value) (st : List Value) (y : (gy × gy) × Nat) (x : Int32), evm C0 b0 L0 xs0 230 (220, [l0, l1, some (.int x), l3, l4], st) y = evm C0 b0 L0 xs0 230 (221, [l0, l1, some (.int x), l3, l4], .int x :: st) y) ∧
  (∀ (L : ri_L) (y : (gy × gy) × Nat) (a0 : Nat) (a1 : Int32), evm C0 b0 L0 xs0 230 (221, L, [.int a1, .ref a0]) y = lm_n (calm C0 b0 L0 xs0 333 [.ref a0, .int a1] y) fun v y => evm C0 b0 L0 xs0 230 (224, L, [v]) y) ∧
  (∀ (L : ri_L) (y : (gy × gy) × Nat) (x : Int32), evm C0 b0 L0 xs0 230 (224, L, [.int x]) y = some (.int x, y)) ∧
  (∀ (l1 l2 l3 l4 : Option Value) (st : List Value) (y : (gy × gy) × Nat) (x : Nat), evm C0 b0 L0 xs0 230 (225, [some (.ref x), l1, l2, l3, l4], st) y = evm C0 b0 L0 xs0 230 (226, [some (.ref x), l1, l2, l3, l4], .ref x :: st) y) ∧
  (∀ (l0 l1 l3 l4 : Option Value) (st : List Value) (y : (gy × gy) × Nat) (x : Int32), evm C0 b0 L0 xs0 230 (226, [l0, l1, some (.int x), l3, l4], st) y = evm C0 b0 L0 xs0 230 (227, [l0, l1, some (.int x), l3, l4], .int x :: st) y) ∧
  (∀ (L : ri_L) (y : (gy × gy) × Nat) (a0 : Nat) (a1 : Int32), evm C0 b0 L0 xs0 230 (227, L, [.int a1, .ref a0]) y = lm_n (calm C0 b0 L0 xs0 334 [.ref a0, .int a1] y) fun v y => evm C0 b0 L0 xs0 230 (230, L, [v]) y) ∧
  (∀ (L : ri_L) (y : (gy × gy) × Nat) (x : Int32), evm C0 b0 L0 xs0 230 (230, L, [.int x]) y = some (.int x, y)) :=
  ⟨fun l0 l1 l3 l4 st y x => em_p rfl rfl,
   fun l0 l1 l2 l4 st y x => em_p rfl rfl,
   fun L y a0 a1 a2 => em_call rfl rfl rfl rfl rfl,
   fun L y x => em_r rfl rfl,
   fun l1 l2 l3 l4 st y x => em_p rfl rfl,
   fun l0 l1 l3 l4 st y x => em_p rfl rfl,
   fun l0 l1 l2 l4 st y x => em_p rfl rfl,
   fun L y a0 a1 a2 => em_call rfl rfl rfl rfl rfl,
   fun L y x => em_r rfl rfl,
   fun l1 l2 l3 l4 st y x => em_p rfl rfl,
   fun l0 l1 l3 l4 st y x => em_p rfl rfl,
   fun L y a0 a1 => em_call rfl rfl rfl rfl rfl,
   fun L y x => em_r rfl rfl,
   fun l1 l2 l3 l4 st y x => em_p rfl rfl,
   fun l0 l1 l3 l4 st y x => em_p rfl rfl,
   fun L y a0 a1 => em_call rfl rfl rfl rfl rfl,
   fun L y x => em_r rfl rfl⟩
theorem M_231 (x0 : Int32) (y : (gy × gy) × Nat) : calm C0 b0 L0 xs0 231 [.int x0] y = evm C0 b0 L0 xs0 231 (0, [some (.int x0)], []) y := em_in rfl
set_option maxRecDepth 8000 in
theorem L_231_0 :
  (∀ (st : List Value) (y : (gy × gy) × Nat) (x : Int32), evm C0 b0 L0 xs0 231 (0, [some (.int x)], st) y = evm C0 b0 L0 xs0 231 (1, [some (.int x)], .int x :: st) y) ∧
  (∀ (L : ri_L) (st : List Value) (y : (gy × gy) × Nat), evm C0 b0 L0 xs0 231 (1, L, st) y = evm C0 b0 L0 xs0 231 (3, L, .int (Int32.ofInt (-9999001)) :: st) y) ∧
  (∀ (L : ri_L) (st : List Value) (y : (gy × gy) × Nat) (z x : Int32), evm C0 b0 L0 xs0 231 (3, L, .int z :: .int x :: st) y = if x = z then evm C0 b0 L0 xs0 231 (18, L, st) y else evm C0 b0 L0 xs0 231 (6, L, st) y) ∧
  (∀ (st : List Value) (y : (gy × gy) × Nat) (x : Int32), evm C0 b0 L0 xs0 231 (6, [some (.int x)], st) y = evm C0 b0 L0 xs0 231 (7, [some (.int x)], .int x :: st) y) ∧
  (∀ (L : ri_L) (st : List Value) (y : (gy × gy) × Nat), evm C0 b0 L0 xs0 231 (7, L, st) y = evm C0 b0 L0 xs0 231 (9, L, .int (Int32.ofInt (-9999002)) :: st) y) ∧
  (∀ (L : ri_L) (st : List Value) (y : (gy × gy) × Nat) (z x : Int32), evm C0 b0 L0 xs0 231 (9, L, .int z :: .int x :: st) y = if x = z then evm C0 b0 L0 xs0 231 (18, L, st) y else evm C0 b0 L0 xs0 231 (12, L, st) y) ∧
  (∀ (st : List Value) (y : (gy × gy) × Nat) (x : Int32), evm C0 b0 L0 xs0 231 (12, [some (.int x)], st) y = evm C0 b0 L0 xs0 231 (13, [some (.int x)], .int x :: st) y) ∧
  (∀ (L : ri_L) (st : List Value) (y : (gy × gy) × Nat), evm C0 b0 L0 xs0 231 (13, L, st) y = evm C0 b0 L0 xs0 231 (15, L, .int (Int32.ofInt (-9999003)) :: st) y) ∧
  (∀ (L : ri_L) (st : List Value) (y : (gy × gy) × Nat) (z x : Int32), evm C0 b0 L0 xs0 231 (15, L, .int z :: .int x :: st) y = if ¬ x = z then evm C0 b0 L0 xs0 231 (22, L, st) y else evm C0 b0 L0 xs0 231 (18, L, st) y) ∧
  (∀ (L : ri_L) (st : List Value) (y : (gy × gy) × Nat), evm C0 b0 L0 xs0 231 (18, L, st) y = evm C0 b0 L0 xs0 231 (19, L, .int (Int32.ofInt 1) :: st) y) ∧
  (∀ (L : ri_L) (st : List Value) (y : (gy × gy) × Nat), evm C0 b0 L0 xs0 231 (19, L, st) y = evm C0 b0 L0 xs0 231 (23, L, st) y) ∧
  (∀ (L : ri_L) (st : List Value) (y : (gy × gy) × Nat), evm C0 b0 L0 xs0 231 (22, L, st) y = evm C0 b0 L0 xs0 231 (23, L, .int (Int32.ofInt 0) :: st) y) ∧
  (∀ (L : ri_L) (y : (gy × gy) × Nat) (x : Int32), evm C0 b0 L0 xs0 231 (23, L, [.int x]) y = lm_b x (some (.int x, y))) :=
  ⟨fun st y x => em_p rfl rfl,
   fun L st y => em_p rfl rfl,
   fun L st y z x => em_b rfl rfl,
   fun st y x => em_p rfl rfl,
   fun L st y => em_p rfl rfl,
   fun L st y z x => em_b rfl rfl,
   fun st y x => em_p rfl rfl,
   fun L st y => em_p rfl rfl,
   fun L st y z x => em_b rfl rfl,
   fun L st y => em_p rfl rfl,
   fun L st y => em_p rfl rfl,
   fun L st y => em_p rfl rfl,
   fun L y x => em_r rfl rfl⟩
theorem M_232 (x0 : Nat) (x1 : Int32) (y : (gy × gy) × Nat) : calm C0 b0 L0 xs0 232 [.ref x0, .int x1] y = evm C0 b0 L0 xs0 232 (0, [some (.ref x0), some (.int x1), none, none, none, none, none, none, none], []) y := em_in rfl
set_option maxRecDepth 8000 in
theorem L_232_0 :
  (∀ (l1 l2 l3 l4 l5 l6 l7 l8 : Option Value) (st : List Value) (y : (gy × gy) × Nat) (x : Nat), evm C0 b0 L0 xs0 232 (0, [some (.ref x), l1, l2, l3, l4, l5, l6, l7, l8], st) y = evm C0 b0 L0 xs0 232 (1, [some (.ref x), l1, l2, l3, l4, l5, l6, l7, l8], .ref x :: st) y) ∧
  (∀ (L : ri_L) (st : List Value) (y : (gy × gy) × Nat), evm C0 b0 L0 xs0 232 (1, L, st) y = evm C0 b0 L0 xs0 232 (2, L, .int (Int32.ofInt 2) :: st) y) ∧
  (∀ (L : ri_L) (st : List Value) (y : (gy × gy) × Nat), evm C0 b0 L0 xs0 232 (2, L, st) y = evm C0 b0 L0 xs0 232 (3, L, .int (Int32.ofInt 0) :: st) y) ∧
  (∀ (L : ri_L) (st : List Value) (y : (gy × gy) × Nat), evm C0 b0 L0 xs0 232 (3, L, st) y = evm C0 b0 L0 xs0 232 (4, L, .int (Int32.ofInt 0) :: st) y) ∧
  (∀ (L : ri_L) (st : List Value) (y : (gy × gy) × Nat), evm C0 b0 L0 xs0 232 (4, L, st) y = evm C0 b0 L0 xs0 232 (5, L, .int (Int32.ofInt 0) :: st) y) ∧
  (∀ (L : ri_L) (y : (gy × gy) × Nat) (a0 : Nat) (a1 : Int32) (a2 : Int32) (a3 : Int32) (a4 : Int32), evm C0 b0 L0 xs0 232 (5, L, [.int a4, .int a3, .int a2, .int a1, .ref a0]) y = lm_n (calm C0 b0 L0 xs0 230 [.ref a0, .int a1, .int a2, .int a3, .int a4] y) fun v y => evm C0 b0 L0 xs0 232 (8, L, [v]) y) ∧
  (∀ (l0 l1 l2 l3 l4 l5 l6 l7 l8 : Option Value) (st : List Value) (y : (gy × gy) × Nat) (x : Int32), evm C0 b0 L0 xs0 232 (8, [l0, l1, l2, l3, l4, l5, l6, l7, l8], .int x :: st) y = evm C0 b0 L0 xs0 232 (9, [l0, ri_clr l1, some (.int x), l3, l4, l5, l6, l7, l8], st) y) ∧
  (∀ (l1 l2 l3 l4 l5 l6 l7 l8 : Option Value) (st : List Value) (y : (gy × gy) × Nat) (x : Nat), evm C0 b0 L0 xs0 232 (9, [some (.ref x), l1, l2, l3, l4, l5, l6, l7, l8], st) y = evm C0 b0 L0 xs0 232 (10, [some (.ref x), l1, l2, l3, l4, l5, l6, l7, l8], .ref x :: st) y) ∧
  (∀ (L : ri_L) (st : List Value) (y : (gy × gy) × Nat), evm C0 b0 L0 xs0 232 (10, L, st) y = evm C0 b0 L0 xs0 232 (11, L, .int (Int32.ofInt 2) :: st) y) ∧
  (∀ (L : ri_L) (st : List Value) (y : (gy × gy) × Nat), evm C0 b0 L0 xs0 232 (11, L, st) y = evm C0 b0 L0 xs0 232 (12, L, .int (Int32.ofInt 1) :: st) y) ∧
  (∀ (L : ri_L) (st : List Value) (y : (gy × gy) × Nat), evm C0 b0 L0 xs0 232 (12, L, st) y = evm C0 b0 L0 xs0 232 (13, L, .int (Int32.ofInt 0) :: st) y) ∧
  (∀ (L : ri_L) (st : List Value) (y : (gy × gy) × Nat), evm C0 b0 L0 xs0 232 (13, L, st) y = evm C0 b0 L0 xs0 232 (14, L, .int (Int32.ofInt 0) :: st) y) ∧
  (∀ (L : ri_L) (y : (gy × gy) × Nat) (a0 : Nat) (a1 : Int32) (a2 : Int32) (a3 : Int32) (a4 : Int32), evm C0 b0 L0 xs0 232 (14, L, [.int a4, .int a3, .int a2, .int a1, .ref a0]) y = lm_n (calm C0 b0 L0 xs0 230 [.ref a0, .int a1, .int a2, .int a3, .int a4] y) fun v y => evm C0 b0 L0 xs0 232 (17, L, [v]) y) ∧
  (∀ (l0 l1 l2 l3 l4 l5 l6 l7 l8 : Option Value) (st : List Value) (y : (gy × gy) × Nat) (x : Int32), evm C0 b0 L0 xs0 232 (17, [l0, l1, l2, l3, l4, l5, l6, l7, l8], .int x :: st) y = evm C0 b0 L0 xs0 232 (18, [l0, l1, ri_clr l2, some (.int x), l4, l5, l6, l7, l8], st) y) ∧
  (∀ (l1 l2 l3 l4 l5 l6 l7 l8 : Option Value) (st : List Value) (y : (gy × gy) × Nat) (x : Nat), evm C0 b0 L0 xs0 232 (18, [some (.ref x), l1, l2, l3, l4, l5, l6, l7, l8], st) y = evm C0 b0 L0 xs0 232 (19, [some (.ref x), l1, l2, l3, l4, l5, l6, l7, l8], .ref x :: st) y) ∧
  (∀ (L : ri_L) (st : List Value) (y : (gy × gy) × Nat), evm C0 b0 L0 xs0 232 (19, L, st) y = evm C0 b0 L0 xs0 232 (20, L, .int (Int32.ofInt 2) :: st) y) ∧
  (∀ (L : ri_L) (st : List Value) (y : (gy × gy) × Nat), evm C0 b0 L0 xs0 232 (20, L, st) y = evm C0 b0 L0 xs0 232 (21, L, .int (Int32.ofInt 2) :: st) y) ∧
  (∀ (L : ri_L) (st : List Value) (y : (gy × gy) × Nat), evm C0 b0 L0 xs0 232 (21, L, st) y = evm C0 b0 L0 xs0 232 (22, L, .int (Int32.ofInt 0) :: st) y) ∧
  (∀ (L : ri_L) (st : List Value) (y : (gy × gy) × Nat), evm C0 b0 L0 xs0 232 (22, L, st) y = evm C0 b0 L0 xs0 232 (23, L, .int (Int32.ofInt 0) :: st) y) ∧
  (∀ (L : ri_L) (y : (gy × gy) × Nat) (a0 : Nat) (a1 : Int32) (a2 : Int32) (a3 : Int32) (a4 : Int32), evm C0 b0 L0 xs0 232 (23, L, [.int a4, .int a3, .int a2, .int a1, .ref a0]) y = lm_n (calm C0 b0 L0 xs0 230 [.ref a0, .int a1, .int a2, .int a3, .int a4] y) fun v y => evm C0 b0 L0 xs0 232 (26, L, [v]) y) ∧
  (∀ (l0 l1 l2 l3 l4 l5 l6 l7 l8 : Option Value) (st : List Value) (y : (gy × gy) × Nat) (x : Int32), evm C0 b0 L0 xs0 232 (26, [l0, l1, l2, l3, l4, l5, l6, l7, l8], .int x :: st) y = evm C0 b0 L0 xs0 232 (28, [l0, l1, l2, ri_clr l3, some (.int x), l5, l6, l7, l8], st) y) ∧
  (∀ (l0 l2 l3 l4 l5 l6 l7 l8 : Option Value) (st : List Value) (y : (gy × gy) × Nat) (x : Int32), evm C0 b0 L0 xs0 232 (28, [l0, some (.int x), l2, l3, l4, l5, l6, l7, l8], st) y = evm C0 b0 L0 xs0 232 (29, [l0, some (.int x), l2, l3, l4, l5, l6, l7, l8], .int x :: st) y) ∧
  (∀ (L : ri_L) (st : List Value) (y : (gy × gy) × Nat), evm C0 b0 L0 xs0 232 (29, L, st) y = evm C0 b0 L0 xs0 232 (30, L, .int (Int32.ofInt 2) :: st) y) ∧
  (∀ (L : ri_L) (st : List Value) (y : (gy × gy) × Nat) (z x : Int32), evm C0 b0 L0 xs0 232 (30, L, .int z :: .int x :: st) y = if z = 0 then none else evm C0 b0 L0 xs0 232 (31, L, .int (x - x / z * z) :: st) y) ∧
  (∀ (L : ri_L) (st : List Value) (y : (gy × gy) × Nat) (x : Int32), evm C0 b0 L0 xs0 232 (31, L, .int x :: st) y = if ¬ x = 0 then evm C0 b0 L0 xs0 232 (43, L, st) y else evm C0 b0 L0 xs0 232 (34, L, st) y) ∧
  (∀ (L : ri_L) (st : List Value) (y : (gy × gy) × Nat), evm C0 b0 L0 xs0 232 (34, L, st) y = evm C0 b0 L0 xs0 232 (35, L, .int (Int32.ofInt (-1)) :: st) y) ∧
  (∀ (l0 l2 l3 l4 l5 l6 l7 l8 : Option Value) (st : List Value) (y : (gy × gy) × Nat) (x : Int32), evm C0 b0 L0 xs0 232 (35, [l0, some (.int x), l2, l3, l4, l5, l6, l7, l8], st) y = evm C0 b0 L0 xs0 232 (36, [l0, some (.int x), l2, l3, l4, l5, l6, l7, l8], .int x :: st) y) ∧
  (∀ (L : ri_L) (st : List Value) (y : (gy × gy) × Nat), evm C0 b0 L0 xs0 232 (36, L, st) y = evm C0 b0 L0 xs0 232 (38, L, .int (Int32.ofInt 99) :: st) y) ∧
  (∀ (L : ri_L) (st : List Value) (y : (gy × gy) × Nat) (z x : Int32), evm C0 b0 L0 xs0 232 (38, L, .int z :: .int x :: st) y = if z = 0 then none else evm C0 b0 L0 xs0 232 (39, L, .int (x - x / z * z) :: st) y) ∧
  (∀ (L : ri_L) (st : List Value) (y : (gy × gy) × Nat) (z x : Int32), evm C0 b0 L0 xs0 232 (39, L, .int z :: .int x :: st) y = evm C0 b0 L0 xs0 232 (40, L, .int (x - z) :: st) y) ∧
  (∀ (L : ri_L) (st : List Value) (y : (gy × gy) × Nat), evm C0 b0 L0 xs0 232 (40, L, st) y = evm C0 b0 L0 xs0 232 (49, L, st) y) ∧
  (∀ (l0 l1 l3 l4 l5 l6 l7 l8 : Option Value) (st : List Value) (y : (gy × gy) × Nat) (x : Int32), evm C0 b0 L0 xs0 232 (43, [l0, l1, some (.int x), l3, l4, l5, l6, l7, l8], st) y = evm C0 b0 L0 xs0 232 (44, [l0, l1, some (.int x), l3, l4, l5, l6, l7, l8], .int x :: st) y) ∧
  (∀ (l0 l2 l3 l4 l5 l6 l7 l8 : Option Value) (st : List Value) (y : (gy × gy) × Nat) (x : Int32), evm C0 b0 L0 xs0 232 (44, [l0, some (.int x), l2, l3, l4, l5, l6, l7, l8], st) y = evm C0 b0 L0 xs0 232 (45, [l0, some (.int x), l2, l3, l4, l5, l6, l7, l8], .int x :: st) y) ∧
  (∀ (L : ri_L) (st : List Value) (y : (gy × gy) × Nat), evm C0 b0 L0 xs0 232 (45, L, st) y = evm C0 b0 L0 xs0 232 (47, L, .int (Int32.ofInt 99) :: st) y) ∧
  (∀ (L : ri_L) (st : List Value) (y : (gy × gy) × Nat) (z x : Int32), evm C0 b0 L0 xs0 232 (47, L, .int z :: .int x :: st) y = if z = 0 then none else evm C0 b0 L0 xs0 232 (48, L, .int (x - x / z * z) :: st) y) ∧
  (∀ (L : ri_L) (st : List Value) (y : (gy × gy) × Nat) (z x : Int32), evm C0 b0 L0 xs0 232 (48, L, .int z :: .int x :: st) y = evm C0 b0 L0 xs0 232 (49, L, .int (x + z) :: st) y) ∧
  (∀ (l0 l1 l2 l3 l4 l5 l6 l7 l8 : Option Value) (st : List Value) (y : (gy × gy) × Nat) (x : Int32), evm C0 b0 L0 xs0 232 (49, [l0, l1, l2, l3, l4, l5, l6, l7, l8], .int x :: st) y = evm C0 b0 L0 xs0 232 (51, [l0, l1, l2, l3, ri_clr l4, some (.int x), l6, l7, l8], st) y) ∧
  (∀ (l0 l2 l3 l4 l5 l6 l7 l8 : Option Value) (st : List Value) (y : (gy × gy) × Nat) (x : Int32), evm C0 b0 L0 xs0 232 (51, [l0, some (.int x), l2, l3, l4, l5, l6, l7, l8], st) y = evm C0 b0 L0 xs0 232 (52, [l0, some (.int x), l2, l3, l4, l5, l6, l7, l8], .int x :: st) y) ∧
  (∀ (L : ri_L) (st : List Value) (y : (gy × gy) × Nat), evm C0 b0 L0 xs0 232 (52, L, st) y = evm C0 b0 L0 xs0 232 (53, L, .int (Int32.ofInt 2) :: st) y) ∧
  (∀ (L : ri_L) (st : List Value) (y : (gy × gy) × Nat) (z x : Int32), evm C0 b0 L0 xs0 232 (53, L, .int z :: .int x :: st) y = if z = 0 then none else evm C0 b0 L0 xs0 232 (54, L, .int (x - x / z * z) :: st) y) :=
  ⟨fun l1 l2 l3 l4 l5 l6 l7 l8 st y x => em_p rfl rfl,
   fun L st y => em_p rfl rfl,
   fun L st y => em_p rfl rfl,
   fun L st y => em_p rfl rfl,
   fun L st y => em_p rfl rfl,
   fun L y a0 a1 a2 a3 a4 => em_call rfl rfl rfl rfl rfl,
   fun l0 l1 l2 l3 l4 l5 l6 l7 l8 st y x => em_p rfl rfl,
   fun l1 l2 l3 l4 l5 l6 l7 l8 st y x => em_p rfl rfl,
   fun L st y => em_p rfl rfl,
   fun L st y => em_p rfl rfl,
   fun L st y => em_p rfl rfl,
   fun L st y => em_p rfl rfl,
   fun L y a0 a1 a2 a3 a4 => em_call rfl rfl rfl rfl rfl,
   fun l0 l1 l2 l3 l4 l5 l6 l7 l8 st y x => em_p rfl rfl,
   fun l1 l2 l3 l4 l5 l6 l7 l8 st y x => em_p rfl rfl,
   fun L st y => em_p rfl rfl,
   fun L st y => em_p rfl rfl,
   fun L st y => em_p rfl rfl,
   fun L st y => em_p rfl rfl,
   fun L y a0 a1 a2 a3 a4 => em_call rfl rfl rfl rfl rfl,
   fun l0 l1 l2 l3 l4 l5 l6 l7 l8 st y x => em_p rfl rfl,
   fun l0 l2 l3 l4 l5 l6 l7 l8 st y x => em_p rfl rfl,
   fun L st y => em_p rfl rfl,
   fun L st y z x => em_d rfl rfl,
   fun L st y x => em_b rfl rfl,
   fun L st y => em_p rfl rfl,
   fun l0 l2 l3 l4 l5 l6 l7 l8 st y x => em_p rfl rfl,
   fun L st y => em_p rfl rfl,
   fun L st y z x => em_d rfl rfl,
   fun L st y z x => em_p rfl rfl,
   fun L st y => em_p rfl rfl,
   fun l0 l1 l3 l4 l5 l6 l7 l8 st y x => em_p rfl rfl,
   fun l0 l2 l3 l4 l5 l6 l7 l8 st y x => em_p rfl rfl,
   fun L st y => em_p rfl rfl,
   fun L st y z x => em_d rfl rfl,
   fun L st y z x => em_p rfl rfl,
   fun l0 l1 l2 l3 l4 l5 l6 l7 l8 st y x => em_p rfl rfl,
   fun l0 l2 l3 l4 l5 l6 l7 l8 st y x => em_p rfl rfl,
   fun L st y => em_p rfl rfl,
   fun L st y z x => em_d rfl rfl⟩
set_option maxRecDepth 8000 in
theorem L_232_1 :
  (∀ (L : ri_L) (st : List Value) (y : (gy × gy) × Nat) (x : Int32), evm C0 b0 L0 xs0 232 (54, L, .int x :: st) y = if ¬ x = 0 then evm C0 b0 L0 xs0 232 (66, L, st) y else evm C0 b0 L0 xs0 232 (57, L, st) y) ∧
  (∀ (L : ri_L) (st : List Value) (y : (gy × gy) × Nat), evm C0 b0 L0 xs0 232 (57, L, st) y = evm C0 b0 L0 xs0 232 (58, L, .int (Int32.ofInt (-1)) :: st) y) ∧
  (∀ (l0 l2 l3 l4 l5 l6 l7 l8 : Option Value) (st : List Value) (y : (gy × gy) × Nat) (x : Int32), evm C0 b0 L0 xs0 232 (58, [l0, some (.int x), l2, l3, l4, l5, l6, l7, l8], st) y = evm C0 b0 L0 xs0 232 (59, [l0, some (.int x), l2, l3, l4, l5, l6, l7, l8], .int x :: st) y) ∧
  (∀ (L : ri_L) (st : List Value) (y : (gy × gy) × Nat), evm C0 b0 L0 xs0 232 (59, L, st) y = evm C0 b0 L0 xs0 232 (61, L, .int (Int32.ofInt 99) :: st) y) ∧
  (∀ (L : ri_L) (st : List Value) (y : (gy × gy) × Nat) (z x : Int32), evm C0 b0 L0 xs0 232 (61, L, .int z :: .int x :: st) y = if z = 0 then none else evm C0 b0 L0 xs0 232 (62, L, .int (x - x / z * z) :: st) y) ∧
  (∀ (L : ri_L) (st : List Value) (y : (gy × gy) × Nat) (z x : Int32), evm C0 b0 L0 xs0 232 (62, L, .int z :: .int x :: st) y = evm C0 b0 L0 xs0 232 (63, L, .int (x - z) :: st) y) ∧
  (∀ (L : ri_L) (st : List Value) (y : (gy × gy) × Nat), evm C0 b0 L0 xs0 232 (63, L, st) y = evm C0 b0 L0 xs0 232 (73, L, st) y) ∧
  (∀ (l0 l1 l2 l3 l5 l6 l7 l8 : Option Value) (st : List Value) (y : (gy × gy) × Nat) (x : Int32), evm C0 b0 L0 xs0 232 (66, [l0, l1, l2, l3, some (.int x), l5, l6, l7, l8], st) y = evm C0 b0 L0 xs0 232 (68, [l0, l1, l2, l3, some (.int x), l5, l6, l7, l8], .int x :: st) y) ∧
  (∀ (l0 l2 l3 l4 l5 l6 l7 l8 : Option Value) (st : List Value) (y : (gy × gy) × Nat) (x : Int32), evm C0 b0 L0 xs0 232 (68, [l0, some (.int x), l2, l3, l4, l5, l6, l7, l8], st) y = evm C0 b0 L0 xs0 232 (69, [l0, some (.int x), l2, l3, l4, l5, l6, l7, l8], .int x :: st) y) ∧
  (∀ (L : ri_L) (st : List Value) (y : (gy × gy) × Nat), evm C0 b0 L0 xs0 232 (69, L, st) y = evm C0 b0 L0 xs0 232 (71, L, .int (Int32.ofInt 99) :: st) y) ∧
  (∀ (L : ri_L) (st : List Value) (y : (gy × gy) × Nat) (z x : Int32), evm C0 b0 L0 xs0 232 (71, L, .int z :: .int x :: st) y = if z = 0 then none else evm C0 b0 L0 xs0 232 (72, L, .int (x - x / z * z) :: st) y) ∧
  (∀ (L : ri_L) (st : List Value) (y : (gy × gy) × Nat) (z x : Int32), evm C0 b0 L0 xs0 232 (72, L, .int z :: .int x :: st) y = evm C0 b0 L0 xs0 232 (73, L, .int (x + z) :: st) y) ∧
  (∀ (l0 l1 l2 l3 l4 l5 l6 l7 l8 : Option Value) (st : List Value) (y : (gy × gy) × Nat) (x : Int32), evm C0 b0 L0 xs0 232 (73, [l0, l1, l2, l3, l4, l5, l6, l7, l8], .int x :: st) y = evm C0 b0 L0 xs0 232 (75, [l0, l1, l2, l3, l4, ri_clr l5, some (.int x), l7, l8], st) y) ∧
  (∀ (l0 l2 l3 l4 l5 l6 l7 l8 : Option Value) (st : List Value) (y : (gy × gy) × Nat) (x : Int32), evm C0 b0 L0 xs0 232 (75, [l0, some (.int x), l2, l3, l4, l5, l6, l7, l8], st) y = evm C0 b0 L0 xs0 232 (76, [l0, some (.int x), l2, l3, l4, l5, l6, l7, l8], .int x :: st) y) ∧
  (∀ (L : ri_L) (st : List Value) (y : (gy × gy) × Nat), evm C0 b0 L0 xs0 232 (76, L, st) y = evm C0 b0 L0 xs0 232 (77, L, .int (Int32.ofInt 2) :: st) y) ∧
  (∀ (L : ri_L) (st : List Value) (y : (gy × gy) × Nat) (z x : Int32), evm C0 b0 L0 xs0 232 (77, L, .int z :: .int x :: st) y = if z = 0 then none else evm C0 b0 L0 xs0 232 (78, L, .int (x - x / z * z) :: st) y) ∧
  (∀ (L : ri_L) (st : List Value) (y : (gy × gy) × Nat) (x : Int32), evm C0 b0 L0 xs0 232 (78, L, .int x :: st) y = if ¬ x = 0 then evm C0 b0 L0 xs0 232 (90, L, st) y else evm C0 b0 L0 xs0 232 (81, L, st) y) ∧
  (∀ (L : ri_L) (st : List Value) (y : (gy × gy) × Nat), evm C0 b0 L0 xs0 232 (81, L, st) y = evm C0 b0 L0 xs0 232 (82, L, .int (Int32.ofInt (-1)) :: st) y) ∧
  (∀ (l0 l2 l3 l4 l5 l6 l7 l8 : Option Value) (st : List Value) (y : (gy × gy) × Nat) (x : Int32), evm C0 b0 L0 xs0 232 (82, [l0, some (.int x), l2, l3, l4, l5, l6, l7, l8], st) y = evm C0 b0 L0 xs0 232 (83, [l0, some (.int x), l2, l3, l4, l5, l6, l7, l8], .int x :: st) y) ∧
  (∀ (L : ri_L) (st : List Value) (y : (gy × gy) × Nat), evm C0 b0 L0 xs0 232 (83, L, st) y = evm C0 b0 L0 xs0 232 (85, L, .int (Int32.ofInt 99) :: st) y) ∧
  (∀ (L : ri_L) (st : List Value) (y : (gy × gy) × Nat) (z x : Int32), evm C0 b0 L0 xs0 232 (85, L, .int z :: .int x :: st) y = if z = 0 then none else evm C0 b0 L0 xs0 232 (86, L, .int (x - x / z * z) :: st) y) ∧
  (∀ (L : ri_L) (st : List Value) (y : (gy × gy) × Nat) (z x : Int32), evm C0 b0 L0 xs0 232 (86, L, .int z :: .int x :: st) y = evm C0 b0 L0 xs0 232 (87, L, .int (x - z) :: st) y) ∧
  (∀ (L : ri_L) (st : List Value) (y : (gy × gy) × Nat), evm C0 b0 L0 xs0 232 (87, L, st) y = evm C0 b0 L0 xs0 232 (96, L, st) y) ∧
  (∀ (L : ri_L) (st : List Value) (y : (gy × gy) × Nat), evm C0 b0 L0 xs0 232 (90, L, st) y = evm C0 b0 L0 xs0 232 (91, L, .int (Int32.ofInt 5) :: st) y) ∧
  (∀ (l0 l2 l3 l4 l5 l6 l7 l8 : Option Value) (st : List Value) (y : (gy × gy) × Nat) (x : Int32), evm C0 b0 L0 xs0 232 (91, [l0, some (.int x), l2, l3, l4, l5, l6, l7, l8], st) y = evm C0 b0 L0 xs0 232 (92, [l0, some (.int x), l2, l3, l4, l5, l6, l7, l8], .int x :: st) y) ∧
  (∀ (L : ri_L) (st : List Value) (y : (gy × gy) × Nat), evm C0 b0 L0 xs0 232 (92, L, st) y = evm C0 b0 L0 xs0 232 (94, L, .int (Int32.ofInt 99) :: st) y) ∧
  (∀ (L : ri_L) (st : List Value) (y : (gy × gy) × Nat) (z x : Int32), evm C0 b0 L0 xs0 232 (94, L, .int z :: .int x :: st) y = if z = 0 then none else evm C0 b0 L0 xs0 232 (95, L, .int (x - x / z * z) :: st) y) ∧
  (∀ (L : ri_L) (st : List Value) (y : (gy × gy) × Nat) (z x : Int32), evm C0 b0 L0 xs0 232 (95, L, .int z :: .int x :: st) y = evm C0 b0 L0 xs0 232 (96, L, .int (x + z) :: st) y) ∧
  (∀ (l0 l1 l2 l3 l4 l5 l6 l7 l8 : Option Value) (st : List Value) (y : (gy × gy) × Nat) (x : Int32), evm C0 b0 L0 xs0 232 (96, [l0, l1, l2, l3, l4, l5, l6, l7, l8], .int x :: st) y = evm C0 b0 L0 xs0 232 (98, [l0, l1, l2, l3, l4, l5, ri_clr l6, some (.int x), l8], st) y) ∧
  (∀ (l1 l2 l3 l4 l5 l6 l7 l8 : Option Value) (st : List Value) (y : (gy × gy) × Nat) (x : Nat), evm C0 b0 L0 xs0 232 (98, [some (.ref x), l1, l2, l3, l4, l5, l6, l7, l8], st) y = evm C0 b0 L0 xs0 232 (99, [some (.ref x), l1, l2, l3, l4, l5, l6, l7, l8], .ref x :: st) y) ∧
  (∀ (L : ri_L) (st : List Value) (y : (gy × gy) × Nat), evm C0 b0 L0 xs0 232 (99, L, st) y = evm C0 b0 L0 xs0 232 (100, L, .int (Int32.ofInt 0) :: st) y) ∧
  (∀ (l0 l2 l3 l4 l5 l6 l7 l8 : Option Value) (st : List Value) (y : (gy × gy) × Nat) (x : Int32), evm C0 b0 L0 xs0 232 (100, [l0, some (.int x), l2, l3, l4, l5, l6, l7, l8], st) y = evm C0 b0 L0 xs0 232 (101, [l0, some (.int x), l2, l3, l4, l5, l6, l7, l8], .int x :: st) y) ∧
  (∀ (L : ri_L) (st : List Value) (y : (gy × gy) × Nat), evm C0 b0 L0 xs0 232 (101, L, st) y = evm C0 b0 L0 xs0 232 (102, L, .int (Int32.ofInt 2) :: st) y) ∧
  (∀ (L : ri_L) (st : List Value) (y : (gy × gy) × Nat) (z x : Int32), evm C0 b0 L0 xs0 232 (102, L, .int z :: .int x :: st) y = if z = 0 then none else evm C0 b0 L0 xs0 232 (103, L, .int (x - x / z * z) :: st) y) ∧
  (∀ (L : ri_L) (st : List Value) (y : (gy × gy) × Nat) (x : Int32), evm C0 b0 L0 xs0 232 (103, L, .int x :: st) y = if ¬ x = 0 then evm C0 b0 L0 xs0 232 (115, L, st) y else evm C0 b0 L0 xs0 232 (106, L, st) y) ∧
  (∀ (L : ri_L) (st : List Value) (y : (gy × gy) × Nat), evm C0 b0 L0 xs0 232 (106, L, st) y = evm C0 b0 L0 xs0 232 (107, L, .int (Int32.ofInt (-1)) :: st) y) ∧
  (∀ (l0 l2 l3 l4 l5 l6 l7 l8 : Option Value) (st : List Value) (y : (gy × gy) × Nat) (x : Int32), evm C0 b0 L0 xs0 232 (107, [l0, some (.int x), l2, l3, l4, l5, l6, l7, l8], st) y = evm C0 b0 L0 xs0 232 (108, [l0, some (.int x), l2, l3, l4, l5, l6, l7, l8], .int x :: st) y) ∧
  (∀ (L : ri_L) (st : List Value) (y : (gy × gy) × Nat), evm C0 b0 L0 xs0 232 (108, L, st) y = evm C0 b0 L0 xs0 232 (110, L, .int (Int32.ofInt 9) :: st) y) ∧
  (∀ (L : ri_L) (st : List Value) (y : (gy × gy) × Nat) (z x : Int32), evm C0 b0 L0 xs0 232 (110, L, .int z :: .int x :: st) y = if z = 0 then none else evm C0 b0 L0 xs0 232 (111, L, .int (x - x / z * z) :: st) y) ∧
  (∀ (L : ri_L) (st : List Value) (y : (gy × gy) × Nat) (z x : Int32), evm C0 b0 L0 xs0 232 (111, L, .int z :: .int x :: st) y = evm C0 b0 L0 xs0 232 (112, L, .int (x - z) :: st) y) :=
  ⟨fun L st y x => em_b rfl rfl,
   fun L st y => em_p rfl rfl,
   fun l0 l2 l3 l4 l5 l6 l7 l8 st y x => em_p rfl rfl,
   fun L st y => em_p rfl rfl,
   fun L st y z x => em_d rfl rfl,
   fun L st y z x => em_p rfl rfl,
   fun L st y => em_p rfl rfl,
   fun l0 l1 l2 l3 l5 l6 l7 l8 st y x => em_p rfl rfl,
   fun l0 l2 l3 l4 l5 l6 l7 l8 st y x => em_p rfl rfl,
   fun L st y => em_p rfl rfl,
   fun L st y z x => em_d rfl rfl,
   fun L st y z x => em_p rfl rfl,
   fun l0 l1 l2 l3 l4 l5 l6 l7 l8 st y x => em_p rfl rfl,
   fun l0 l2 l3 l4 l5 l6 l7 l8 st y x => em_p rfl rfl,
   fun L st y => em_p rfl rfl,
   fun L st y z x => em_d rfl rfl,
   fun L st y x => em_b rfl rfl,
   fun L st y => em_p rfl rfl,
   fun l0 l2 l3 l4 l5 l6 l7 l8 st y x => em_p rfl rfl,
   fun L st y => em_p rfl rfl,
   fun L st y z x => em_d rfl rfl,
   fun L st y z x => em_p rfl rfl,
   fun L st y => em_p rfl rfl,
   fun L st y => em_p rfl rfl,
   fun l0 l2 l3 l4 l5 l6 l7 l8 st y x => em_p rfl rfl,
   fun L st y => em_p rfl rfl,
   fun L st y z x => em_d rfl rfl,
   fun L st y z x => em_p rfl rfl,
   fun l0 l1 l2 l3 l4 l5 l6 l7 l8 st y x => em_p rfl rfl,
   fun l1 l2 l3 l4 l5 l6 l7 l8 st y x => em_p rfl rfl,
   fun L st y => em_p rfl rfl,
   fun l0 l2 l3 l4 l5 l6 l7 l8 st y x => em_p rfl rfl,
   fun L st y => em_p rfl rfl,
   fun L st y z x => em_d rfl rfl,
   fun L st y x => em_b rfl rfl,
   fun L st y => em_p rfl rfl,
   fun l0 l2 l3 l4 l5 l6 l7 l8 st y x => em_p rfl rfl,
   fun L st y => em_p rfl rfl,
   fun L st y z x => em_d rfl rfl,
   fun L st y z x => em_p rfl rfl⟩
set_option maxRecDepth 8000 in
theorem L_232_2 :
  (∀ (L : ri_L) (st : List Value) (y : (gy × gy) × Nat), evm C0 b0 L0 xs0 232 (112, L, st) y = evm C0 b0 L0 xs0 232 (123, L, st) y) ∧
  (∀ (L : ri_L) (st : List Value) (y : (gy × gy) × Nat), evm C0 b0 L0 xs0 232 (115, L, st) y = evm C0 b0 L0 xs0 232 (118, L, .int (Int32.ofInt 256) :: st) y) ∧
  (∀ (l0 l2 l3 l4 l5 l6 l7 l8 : Option Value) (st : List Value) (y : (gy × gy) × Nat) (x : Int32), evm C0 b0 L0 xs0 232 (118, [l0, some (.int x), l2, l3, l4, l5, l6, l7, l8], st) y = evm C0 b0 L0 xs0 232 (119, [l0, some (.int x), l2, l3, l4, l5, l6, l7, l8], .int x :: st) y) ∧
  (∀ (L : ri_L) (st : List Value) (y : (gy × gy) × Nat), evm C0 b0 L0 xs0 232 (119, L, st) y = evm C0 b0 L0 xs0 232 (121, L, .int (Int32.ofInt 9) :: st) y) ∧
  (∀ (L : ri_L) (st : List Value) (y : (gy × gy) × Nat) (z x : Int32), evm C0 b0 L0 xs0 232 (121, L, .int z :: .int x :: st) y = if z = 0 then none else evm C0 b0 L0 xs0 232 (122, L, .int (x - x / z * z) :: st) y) ∧
  (∀ (L : ri_L) (st : List Value) (y : (gy × gy) × Nat) (z x : Int32), evm C0 b0 L0 xs0 232 (122, L, .int z :: .int x :: st) y = evm C0 b0 L0 xs0 232 (123, L, .int (x + z) :: st) y) ∧
  (∀ (L : ri_L) (st : List Value) (y : (gy × gy) × Nat), evm C0 b0 L0 xs0 232 (123, L, st) y = evm C0 b0 L0 xs0 232 (124, L, .int (Int32.ofInt 0) :: st) y) ∧
  (∀ (L : ri_L) (st : List Value) (y : (gy × gy) × Nat), evm C0 b0 L0 xs0 232 (124, L, st) y = evm C0 b0 L0 xs0 232 (125, L, .int (Int32.ofInt 0) :: st) y) ∧
  (∀ (L : ri_L) (y : (gy × gy) × Nat) (a0 : Nat) (a1 : Int32) (a2 : Int32) (a3 : Int32) (a4 : Int32), evm C0 b0 L0 xs0 232 (125, L, [.int a4, .int a3, .int a2, .int a1, .ref a0]) y = lm_n (calm C0 b0 L0 xs0 230 [.ref a0, .int a1, .int a2, .int a3, .int a4] y) fun v y => evm C0 b0 L0 xs0 232 (128, L, [v]) y) ∧
  (∀ (L : ri_L) (st : List Value) (y : (gy × gy) × Nat), evm C0 b0 L0 xs0 232 (128, L, st) y = evm C0 b0 L0 xs0 232 (130, L, .int (Int32.ofInt (-9999002)) :: st) y) ∧
  (∀ (L : ri_L) (st : List Value) (y : (gy × gy) × Nat) (z x : Int32), evm C0 b0 L0 xs0 232 (130, L, .int z :: .int x :: st) y = if ¬ x = z then evm C0 b0 L0 xs0 232 (824, L, st) y else evm C0 b0 L0 xs0 232 (133, L, st) y) ∧
  (∀ (l1 l2 l3 l4 l5 l6 l7 l8 : Option Value) (st : List Value) (y : (gy × gy) × Nat) (x : Nat), evm C0 b0 L0 xs0 232 (133, [some (.ref x), l1, l2, l3, l4, l5, l6, l7, l8], st) y = evm C0 b0 L0 xs0 232 (134, [some (.ref x), l1, l2, l3, l4, l5, l6, l7, l8], .ref x :: st) y) ∧
  (∀ (L : ri_L) (st : List Value) (y : (gy × gy) × Nat), evm C0 b0 L0 xs0 232 (134, L, st) y = evm C0 b0 L0 xs0 232 (135, L, .int (Int32.ofInt 2) :: st) y) ∧
  (∀ (L : ri_L) (st : List Value) (y : (gy × gy) × Nat), evm C0 b0 L0 xs0 232 (135, L, st) y = evm C0 b0 L0 xs0 232 (137, L, .int (Int32.ofInt 11) :: st) y) ∧
  (∀ (l0 l2 l3 l4 l5 l6 l7 l8 : Option Value) (st : List Value) (y : (gy × gy) × Nat) (x : Int32), evm C0 b0 L0 xs0 232 (137, [l0, some (.int x), l2, l3, l4, l5, l6, l7, l8], st) y = evm C0 b0 L0 xs0 232 (138, [l0, some (.int x), l2, l3, l4, l5, l6, l7, l8], .int x :: st) y) ∧
  (∀ (L : ri_L) (st : List Value) (y : (gy × gy) × Nat), evm C0 b0 L0 xs0 232 (138, L, st) y = evm C0 b0 L0 xs0 232 (140, L, .int (Int32.ofInt 50) :: st) y) ∧
  (∀ (L : ri_L) (st : List Value) (y : (gy × gy) × Nat) (z x : Int32), evm C0 b0 L0 xs0 232 (140, L, .int z :: .int x :: st) y = if z = 0 then none else evm C0 b0 L0 xs0 232 (141, L, .int (x - x / z * z) :: st) y) ∧
  (∀ (L : ri_L) (st : List Value) (y : (gy × gy) × Nat) (z x : Int32), evm C0 b0 L0 xs0 232 (141, L, .int z :: .int x :: st) y = evm C0 b0 L0 xs0 232 (142, L, .int (x + z) :: st) y) ∧
  (∀ (L : ri_L) (st : List Value) (y : (gy × gy) × Nat), evm C0 b0 L0 xs0 232 (142, L, st) y = evm C0 b0 L0 xs0 232 (143, L, .int (Int32.ofInt 0) :: st) y) ∧
  (∀ (L : ri_L) (st : List Value) (y : (gy × gy) × Nat), evm C0 b0 L0 xs0 232 (143, L, st) y = evm C0 b0 L0 xs0 232 (144, L, .int (Int32.ofInt 0) :: st) y) ∧
  (∀ (L : ri_L) (y : (gy × gy) × Nat) (a0 : Nat) (a1 : Int32) (a2 : Int32) (a3 : Int32) (a4 : Int32), evm C0 b0 L0 xs0 232 (144, L, [.int a4, .int a3, .int a2, .int a1, .ref a0]) y = lm_n (calm C0 b0 L0 xs0 230 [.ref a0, .int a1, .int a2, .int a3, .int a4] y) fun v y => evm C0 b0 L0 xs0 232 (147, L, [v]) y) ∧
  (∀ (L : ri_L) (st : List Value) (y : (gy × gy) × Nat), evm C0 b0 L0 xs0 232 (147, L, st) y = evm C0 b0 L0 xs0 232 (149, L, .int (Int32.ofInt (-9999002)) :: st) y) ∧
  (∀ (L : ri_L) (st : List Value) (y : (gy × gy) × Nat) (z x : Int32), evm C0 b0 L0 xs0 232 (149, L, .int z :: .int x :: st) y = if ¬ x = z then evm C0 b0 L0 xs0 232 (824, L, st) y else evm C0 b0 L0 xs0 232 (152, L, st) y) ∧
  (∀ (l1 l2 l3 l4 l5 l6 l7 l8 : Option Value) (st : List Value) (y : (gy × gy) × Nat) (x : Nat), evm C0 b0 L0 xs0 232 (152, [some (.ref x), l1, l2, l3, l4, l5, l6, l7, l8], st) y = evm C0 b0 L0 xs0 232 (153, [some (.ref x), l1, l2, l3, l4, l5, l6, l7, l8], .ref x :: st) y) ∧
  (∀ (L : ri_L) (st : List Value) (y : (gy × gy) × Nat), evm C0 b0 L0 xs0 232 (153, L, st) y = evm C0 b0 L0 xs0 232 (154, L, .int (Int32.ofInt 3) :: st) y) ∧
  (∀ (l0 l1 l2 l3 l4 l6 l7 l8 : Option Value) (st : List Value) (y : (gy × gy) × Nat) (x : Int32), evm C0 b0 L0 xs0 232 (154, [l0, l1, l2, l3, l4, some (.int x), l6, l7, l8], st) y = evm C0 b0 L0 xs0 232 (156, [l0, l1, l2, l3, l4, some (.int x), l6, l7, l8], .int x :: st) y) ∧
  (∀ (L : ri_L) (st : List Value) (y : (gy × gy) × Nat), evm C0 b0 L0 xs0 232 (156, L, st) y = evm C0 b0 L0 xs0 232 (158, L, .int (Int32.ofInt 99) :: st) y) ∧
  (∀ (L : ri_L) (st : List Value) (y : (gy × gy) × Nat), evm C0 b0 L0 xs0 232 (158, L, st) y = evm C0 b0 L0 xs0 232 (159, L, .int (Int32.ofInt 0) :: st) y) ∧
  (∀ (L : ri_L) (y : (gy × gy) × Nat) (a0 : Nat) (a1 : Int32) (a2 : Int32) (a3 : Int32) (a4 : Int32), evm C0 b0 L0 xs0 232 (159, L, [.int a4, .int a3, .int a2, .int a1, .ref a0]) y = lm_n (calm C0 b0 L0 xs0 230 [.ref a0, .int a1, .int a2, .int a3, .int a4] y) fun v y => evm C0 b0 L0 xs0 232 (162, L, [v]) y) ∧
  (∀ (L : ri_L) (st : List Value) (y : (gy × gy) × Nat), evm C0 b0 L0 xs0 232 (162, L, st) y = evm C0 b0 L0 xs0 232 (164, L, .int (Int32.ofInt (-9999001)) :: st) y) ∧
  (∀ (L : ri_L) (st : List Value) (y : (gy × gy) × Nat) (z x : Int32), evm C0 b0 L0 xs0 232 (164, L, .int z :: .int x :: st) y = if ¬ x = z then evm C0 b0 L0 xs0 232 (824, L, st) y else evm C0 b0 L0 xs0 232 (167, L, st) y) ∧
  (∀ (l1 l2 l3 l4 l5 l6 l7 l8 : Option Value) (st : List Value) (y : (gy × gy) × Nat) (x : Nat), evm C0 b0 L0 xs0 232 (167, [some (.ref x), l1, l2, l3, l4, l5, l6, l7, l8], st) y = evm C0 b0 L0 xs0 232 (168, [some (.ref x), l1, l2, l3, l4, l5, l6, l7, l8], .ref x :: st) y) ∧
  (∀ (L : ri_L) (st : List Value) (y : (gy × gy) × Nat), evm C0 b0 L0 xs0 232 (168, L, st) y = evm C0 b0 L0 xs0 232 (170, L, .int (Int32.ofInt 6) :: st) y) ∧
  (∀ (l0 l1 l2 l3 l4 l6 l7 l8 : Option Value) (st : List Value) (y : (gy × gy) × Nat) (x : Int32), evm C0 b0 L0 xs0 232 (170, [l0, l1, l2, l3, l4, some (.int x), l6, l7, l8], st) y = evm C0 b0 L0 xs0 232 (172, [l0, l1, l2, l3, l4, some (.int x), l6, l7, l8], .int x :: st) y) ∧
  (∀ (L : ri_L) (st : List Value) (y : (gy × gy) × Nat), evm C0 b0 L0 xs0 232 (172, L, st) y = evm C0 b0 L0 xs0 232 (173, L, .int (Int32.ofInt 0) :: st) y) ∧
  (∀ (L : ri_L) (st : List Value) (y : (gy × gy) × Nat), evm C0 b0 L0 xs0 232 (173, L, st) y = evm C0 b0 L0 xs0 232 (175, L, .int (Int32.ofInt 9) :: st) y) ∧
  (∀ (L : ri_L) (y : (gy × gy) × Nat) (a0 : Nat) (a1 : Int32) (a2 : Int32) (a3 : Int32) (a4 : Int32), evm C0 b0 L0 xs0 232 (175, L, [.int a4, .int a3, .int a2, .int a1, .ref a0]) y = lm_n (calm C0 b0 L0 xs0 230 [.ref a0, .int a1, .int a2, .int a3, .int a4] y) fun v y => evm C0 b0 L0 xs0 232 (178, L, [v]) y) ∧
  (∀ (L : ri_L) (st : List Value) (y : (gy × gy) × Nat), evm C0 b0 L0 xs0 232 (178, L, st) y = evm C0 b0 L0 xs0 232 (180, L, .int (Int32.ofInt (-9999001)) :: st) y) ∧
  (∀ (L : ri_L) (st : List Value) (y : (gy × gy) × Nat) (z x : Int32), evm C0 b0 L0 xs0 232 (180, L, .int z :: .int x :: st) y = if ¬ x = z then evm C0 b0 L0 xs0 232 (824, L, st) y else evm C0 b0 L0 xs0 232 (183, L, st) y) ∧
  (∀ (l1 l2 l3 l4 l5 l6 l7 l8 : Option Value) (st : List Value) (y : (gy × gy) × Nat) (x : Nat), evm C0 b0 L0 xs0 232 (183, [some (.ref x), l1, l2, l3, l4, l5, l6, l7, l8], st) y = evm C0 b0 L0 xs0 232 (184, [some (.ref x), l1, l2, l3, l4, l5, l6, l7, l8], .ref x :: st) y) :=
  ⟨fun L st y => em_p rfl rfl,
   fun L st y => em_p rfl rfl,
   fun l0 l2 l3 l4 l5 l6 l7 l8 st y x => em_p rfl rfl,
   fun L st y => em_p rfl rfl,
   fun L st y z x => em_d rfl rfl,
   fun L st y z x => em_p rfl rfl,
   fun L st y => em_p rfl rfl,
   fun L st y => em_p rfl rfl,
   fun L y a0 a1 a2 a3 a4 => em_call rfl rfl rfl rfl rfl,
   fun L st y => em_p rfl rfl,
   fun L st y z x => em_b rfl rfl,
   fun l1 l2 l3 l4 l5 l6 l7 l8 st y x => em_p rfl rfl,
   fun L st y => em_p rfl rfl,
   fun L st y => em_p rfl rfl,
   fun l0 l2 l3 l4 l5 l6 l7 l8 st y x => em_p rfl rfl,
   fun L st y => em_p rfl rfl,
   fun L st y z x => em_d rfl rfl,
   fun L st y z x => em_p rfl rfl,
   fun L st y => em_p rfl rfl,
   fun L st y => em_p rfl rfl,
   fun L y a0 a1 a2 a3 a4 => em_call rfl rfl rfl rfl rfl,
   fun L st y => em_p rfl rfl,
   fun L st y z x => em_b rfl rfl,
   fun l1 l2 l3 l4 l5 l6 l7 l8 st y x => em_p rfl rfl,
   fun L st y => em_p rfl rfl,
   fun l0 l1 l2 l3 l4 l6 l7 l8 st y x => em_p rfl rfl,
   fun L st y => em_p rfl rfl,
   fun L st y => em_p rfl rfl,
   fun L y a0 a1 a2 a3 a4 => em_call rfl rfl rfl rfl rfl,
   fun L st y => em_p rfl rfl,
   fun L st y z x => em_b rfl rfl,
   fun l1 l2 l3 l4 l5 l6 l7 l8 st y x => em_p rfl rfl,
   fun L st y => em_p rfl rfl,
   fun l0 l1 l2 l3 l4 l6 l7 l8 st y x => em_p rfl rfl,
   fun L st y => em_p rfl rfl,
   fun L st y => em_p rfl rfl,
   fun L y a0 a1 a2 a3 a4 => em_call rfl rfl rfl rfl rfl,
   fun L st y => em_p rfl rfl,
   fun L st y z x => em_b rfl rfl,
   fun l1 l2 l3 l4 l5 l6 l7 l8 st y x => em_p rfl rfl⟩
set_option maxRecDepth 8000 in
theorem L_232_3 :
  (∀ (L : ri_L) (st : List Value) (y : (gy × gy) × Nat), evm C0 b0 L0 xs0 232 (184, L, st) y = evm C0 b0 L0 xs0 232 (186, L, .int (Int32.ofInt 6) :: st) y) ∧
  (∀ (L : ri_L) (st : List Value) (y : (gy × gy) × Nat), evm C0 b0 L0 xs0 232 (186, L, st) y = evm C0 b0 L0 xs0 232 (187, L, .int (Int32.ofInt 0) :: st) y) ∧
  (∀ (l0 l1 l2 l3 l4 l5 l6 l8 : Option Value) (st : List Value) (y : (gy × gy) × Nat) (x : Int32), evm C0 b0 L0 xs0 232 (187, [l0, l1, l2, l3, l4, l5, l6, some (.int x), l8], st) y = evm C0 b0 L0 xs0 232 (189, [l0, l1, l2, l3, l4, l5, l6, some (.int x), l8], .int x :: st) y) ∧
  (∀ (L : ri_L) (st : List Value) (y : (gy × gy) × Nat), evm C0 b0 L0 xs0 232 (189, L, st) y = evm C0 b0 L0 xs0 232 (191, L, .int (Int32.ofInt 9) :: st) y) ∧
  (∀ (L : ri_L) (y : (gy × gy) × Nat) (a0 : Nat) (a1 : Int32) (a2 : Int32) (a3 : Int32) (a4 : Int32), evm C0 b0 L0 xs0 232 (191, L, [.int a4, .int a3, .int a2, .int a1, .ref a0]) y = lm_n (calm C0 b0 L0 xs0 230 [.ref a0, .int a1, .int a2, .int a3, .int a4] y) fun v y => evm C0 b0 L0 xs0 232 (194, L, [v]) y) ∧
  (∀ (L : ri_L) (st : List Value) (y : (gy × gy) × Nat), evm C0 b0 L0 xs0 232 (194, L, st) y = evm C0 b0 L0 xs0 232 (196, L, .int (Int32.ofInt (-9999001)) :: st) y) ∧
  (∀ (L : ri_L) (st : List Value) (y : (gy × gy) × Nat) (z x : Int32), evm C0 b0 L0 xs0 232 (196, L, .int z :: .int x :: st) y = if ¬ x = z then evm C0 b0 L0 xs0 232 (824, L, st) y else evm C0 b0 L0 xs0 232 (199, L, st) y) ∧
  (∀ (l1 l2 l3 l4 l5 l6 l7 l8 : Option Value) (st : List Value) (y : (gy × gy) × Nat) (x : Nat), evm C0 b0 L0 xs0 232 (199, [some (.ref x), l1, l2, l3, l4, l5, l6, l7, l8], st) y = evm C0 b0 L0 xs0 232 (200, [some (.ref x), l1, l2, l3, l4, l5, l6, l7, l8], .ref x :: st) y) ∧
  (∀ (L : ri_L) (st : List Value) (y : (gy × gy) × Nat), evm C0 b0 L0 xs0 232 (200, L, st) y = evm C0 b0 L0 xs0 232 (201, L, .int (Int32.ofInt 4) :: st) y) ∧
  (∀ (l0 l1 l2 l3 l4 l5 l7 l8 : Option Value) (st : List Value) (y : (gy × gy) × Nat) (x : Int32), evm C0 b0 L0 xs0 232 (201, [l0, l1, l2, l3, l4, l5, some (.int x), l7, l8], st) y = evm C0 b0 L0 xs0 232 (203, [l0, l1, l2, l3, l4, l5, some (.int x), l7, l8], .int x :: st) y) ∧
  (∀ (L : ri_L) (st : List Value) (y : (gy × gy) × Nat), evm C0 b0 L0 xs0 232 (203, L, st) y = evm C0 b0 L0 xs0 232 (205, L, .int (Int32.ofInt 99) :: st) y) ∧
  (∀ (L : ri_L) (st : List Value) (y : (gy × gy) × Nat), evm C0 b0 L0 xs0 232 (205, L, st) y = evm C0 b0 L0 xs0 232 (206, L, .int (Int32.ofInt 0) :: st) y) ∧
  (∀ (L : ri_L) (y : (gy × gy) × Nat) (a0 : Nat) (a1 : Int32) (a2 : Int32) (a3 : Int32) (a4 : Int32), evm C0 b0 L0 xs0 232 (206, L, [.int a4, .int a3, .int a2, .int a1, .ref a0]) y = lm_n (calm C0 b0 L0 xs0 230 [.ref a0, .int a1, .int a2, .int a3, .int a4] y) fun v y => evm C0 b0 L0 xs0 232 (209, L, [v]) y) ∧
  (∀ (L : ri_L) (st : List Value) (y : (gy × gy) × Nat), evm C0 b0 L0 xs0 232 (209, L, st) y = evm C0 b0 L0 xs0 232 (211, L, .int (Int32.ofInt (-9999001)) :: st) y) ∧
  (∀ (L : ri_L) (st : List Value) (y : (gy × gy) × Nat) (z x : Int32), evm C0 b0 L0 xs0 232 (211, L, .int z :: .int x :: st) y = if ¬ x = z then evm C0 b0 L0 xs0 232 (824, L, st) y else evm C0 b0 L0 xs0 232 (214, L, st) y) ∧
  (∀ (l1 l2 l3 l4 l5 l6 l7 l8 : Option Value) (st : List Value) (y : (gy × gy) × Nat) (x : Nat), evm C0 b0 L0 xs0 232 (214, [some (.ref x), l1, l2, l3, l4, l5, l6, l7, l8], st) y = evm C0 b0 L0 xs0 232 (215, [some (.ref x), l1, l2, l3, l4, l5, l6, l7, l8], .ref x :: st) y) ∧
  (∀ (L : ri_L) (st : List Value) (y : (gy × gy) × Nat), evm C0 b0 L0 xs0 232 (215, L, st) y = evm C0 b0 L0 xs0 232 (216, L, .int (Int32.ofInt 5) :: st) y) ∧
  (∀ (l0 l1 l2 l4 l5 l6 l7 l8 : Option Value) (st : List Value) (y : (gy × gy) × Nat) (x : Int32), evm C0 b0 L0 xs0 232 (216, [l0, l1, l2, some (.int x), l4, l5, l6, l7, l8], st) y = evm C0 b0 L0 xs0 232 (217, [l0, l1, l2, some (.int x), l4, l5, l6, l7, l8], .int x :: st) y) ∧
  (∀ (l0 l2 l3 l4 l5 l6 l7 l8 : Option Value) (st : List Value) (y : (gy × gy) × Nat) (x : Int32), evm C0 b0 L0 xs0 232 (217, [l0, some (.int x), l2, l3, l4, l5, l6, l7, l8], st) y = evm C0 b0 L0 xs0 232 (218, [l0, some (.int x), l2, l3, l4, l5, l6, l7, l8], .int x :: st) y) ∧
  (∀ (L : ri_L) (st : List Value) (y : (gy × gy) × Nat), evm C0 b0 L0 xs0 232 (218, L, st) y = evm C0 b0 L0 xs0 232 (220, L, .int (Int32.ofInt 9) :: st) y) ∧
  (∀ (L : ri_L) (st : List Value) (y : (gy × gy) × Nat) (z x : Int32), evm C0 b0 L0 xs0 232 (220, L, .int z :: .int x :: st) y = if z = 0 then none else evm C0 b0 L0 xs0 232 (221, L, .int (x - x / z * z) :: st) y) ∧
  (∀ (L : ri_L) (st : List Value) (y : (gy × gy) × Nat) (z x : Int32), evm C0 b0 L0 xs0 232 (221, L, .int z :: .int x :: st) y = evm C0 b0 L0 xs0 232 (222, L, .int (x + z) :: st) y) ∧
  (∀ (L : ri_L) (st : List Value) (y : (gy × gy) × Nat), evm C0 b0 L0 xs0 232 (222, L, st) y = evm C0 b0 L0 xs0 232 (224, L, .int (Int32.ofInt 9) :: st) y) ∧
  (∀ (L : ri_L) (st : List Value) (y : (gy × gy) × Nat), evm C0 b0 L0 xs0 232 (224, L, st) y = evm C0 b0 L0 xs0 232 (225, L, .int (Int32.ofInt 0) :: st) y) ∧
  (∀ (L : ri_L) (y : (gy × gy) × Nat) (a0 : Nat) (a1 : Int32) (a2 : Int32) (a3 : Int32) (a4 : Int32), evm C0 b0 L0 xs0 232 (225, L, [.int a4, .int a3, .int a2, .int a1, .ref a0]) y = lm_n (calm C0 b0 L0 xs0 230 [.ref a0, .int a1, .int a2, .int a3, .int a4] y) fun v y => evm C0 b0 L0 xs0 232 (228, L, [v]) y) ∧
  (∀ (L : ri_L) (st : List Value) (y : (gy × gy) × Nat), evm C0 b0 L0 xs0 232 (228, L, st) y = evm C0 b0 L0 xs0 232 (230, L, .int (Int32.ofInt (-9999001)) :: st) y) ∧
  (∀ (L : ri_L) (st : List Value) (y : (gy × gy) × Nat) (z x : Int32), evm C0 b0 L0 xs0 232 (230, L, .int z :: .int x :: st) y = if ¬ x = z then evm C0 b0 L0 xs0 232 (824, L, st) y else evm C0 b0 L0 xs0 232 (233, L, st) y) ∧
  (∀ (l1 l2 l3 l4 l5 l6 l7 l8 : Option Value) (st : List Value) (y : (gy × gy) × Nat) (x : Nat), evm C0 b0 L0 xs0 232 (233, [some (.ref x), l1, l2, l3, l4, l5, l6, l7, l8], st) y = evm C0 b0 L0 xs0 232 (234, [some (.ref x), l1, l2, l3, l4, l5, l6, l7, l8], .ref x :: st) y) ∧
  (∀ (L : ri_L) (st : List Value) (y : (gy × gy) × Nat), evm C0 b0 L0 xs0 232 (234, L, st) y = evm C0 b0 L0 xs0 232 (236, L, .int (Int32.ofInt 7) :: st) y) ∧
  (∀ (l0 l2 l3 l4 l5 l6 l7 l8 : Option Value) (st : List Value) (y : (gy × gy) × Nat) (x : Int32), evm C0 b0 L0 xs0 232 (236, [l0, some (.int x), l2, l3, l4, l5, l6, l7, l8], st) y = evm C0 b0 L0 xs0 232 (237, [l0, some (.int x), l2, l3, l4, l5, l6, l7, l8], .int x :: st) y) ∧
  (∀ (L : ri_L) (st : List Value) (y : (gy × gy) × Nat), evm C0 b0 L0 xs0 232 (237, L, st) y = evm C0 b0 L0 xs0 232 (238, L, .int (Int32.ofInt 2) :: st) y) ∧
  (∀ (L : ri_L) (st : List Value) (y : (gy × gy) × Nat) (z x : Int32), evm C0 b0 L0 xs0 232 (238, L, .int z :: .int x :: st) y = if z = 0 then none else evm C0 b0 L0 xs0 232 (239, L, .int (x - x / z * z) :: st) y) ∧
  (∀ (L : ri_L) (st : List Value) (y : (gy × gy) × Nat) (x : Int32), evm C0 b0 L0 xs0 232 (239, L, .int x :: st) y = if ¬ x = 0 then evm C0 b0 L0 xs0 232 (246, L, st) y else evm C0 b0 L0 xs0 232 (242, L, st) y) ∧
  (∀ (L : ri_L) (st : List Value) (y : (gy × gy) × Nat), evm C0 b0 L0 xs0 232 (242, L, st) y = evm C0 b0 L0 xs0 232 (243, L, .int (Int32.ofInt 2) :: st) y) ∧
  (∀ (L : ri_L) (st : List Value) (y : (gy × gy) × Nat), evm C0 b0 L0 xs0 232 (243, L, st) y = evm C0 b0 L0 xs0 232 (253, L, st) y) ∧
  (∀ (L : ri_L) (st : List Value) (y : (gy × gy) × Nat), evm C0 b0 L0 xs0 232 (246, L, st) y = evm C0 b0 L0 xs0 232 (248, L, .int (Int32.ofInt 6) :: st) y) ∧
  (∀ (l0 l2 l3 l4 l5 l6 l7 l8 : Option Value) (st : List Value) (y : (gy × gy) × Nat) (x : Int32), evm C0 b0 L0 xs0 232 (248, [l0, some (.int x), l2, l3, l4, l5, l6, l7, l8], st) y = evm C0 b0 L0 xs0 232 (249, [l0, some (.int x), l2, l3, l4, l5, l6, l7, l8], .int x :: st) y) ∧
  (∀ (L : ri_L) (st : List Value) (y : (gy × gy) × Nat), evm C0 b0 L0 xs0 232 (249, L, st) y = evm C0 b0 L0 xs0 232 (251, L, .int (Int32.ofInt 9) :: st) y) ∧
  (∀ (L : ri_L) (st : List Value) (y : (gy × gy) × Nat) (z x : Int32), evm C0 b0 L0 xs0 232 (251, L, .int z :: .int x :: st) y = if z = 0 then none else evm C0 b0 L0 xs0 232 (252, L, .int (x - x / z * z) :: st) y) ∧
  (∀ (L : ri_L) (st : List Value) (y : (gy × gy) × Nat) (z x : Int32), evm C0 b0 L0 xs0 232 (252, L, .int z :: .int x :: st) y = evm C0 b0 L0 xs0 232 (253, L, .int (x + z) :: st) y) :=
  ⟨fun L st y => em_p rfl rfl,
   fun L st y => em_p rfl rfl,
   fun l0 l1 l2 l3 l4 l5 l6 l8 st y x => em_p rfl rfl,
   fun L st y => em_p rfl rfl,
   fun L y a0 a1 a2 a3 a4 => em_call rfl rfl rfl rfl rfl,
   fun L st y => em_p rfl rfl,
   fun L st y z x => em_b rfl rfl,
   fun l1 l2 l3 l4 l5 l6 l7 l8 st y x => em_p rfl rfl,
   fun L st y => em_p rfl rfl,
   fun l0 l1 l2 l3 l4 l5 l7 l8 st y x => em_p rfl rfl,
   fun L st y => em_p rfl rfl,
   fun L st y => em_p rfl rfl,
   fun L y a0 a1 a2 a3 a4 => em_call rfl rfl rfl rfl rfl,
   fun L st y => em_p rfl rfl,
   fun L st y z x => em_b rfl rfl,
   fun l1 l2 l3 l4 l5 l6 l7 l8 st y x => em_p rfl rfl,
   fun L st y => em_p rfl rfl,
   fun l0 l1 l2 l4 l5 l6 l7 l8 st y x => em_p rfl rfl,
   fun l0 l2 l3 l4 l5 l6 l7 l8 st y x => em_p rfl rfl,
   fun L st y => em_p rfl rfl,
   fun L st y z x => em_d rfl rfl,
   fun L st y z x => em_p rfl rfl,
   fun L st y => em_p rfl rfl,
   fun L st y => em_p rfl rfl,
   fun L y a0 a1 a2 a3 a4 => em_call rfl rfl rfl rfl rfl,
   fun L st y => em_p rfl rfl,
   fun L st y z x => em_b rfl rfl,
   fun l1 l2 l3 l4 l5 l6 l7 l8 st y x => em_p rfl rfl,
   fun L st y => em_p rfl rfl,
   fun l0 l2 l3 l4 l5 l6 l7 l8 st y x => em_p rfl rfl,
   fun L st y => em_p rfl rfl,
   fun L st y z x => em_d rfl rfl,
   fun L st y x => em_b rfl rfl,
   fun L st y => em_p rfl rfl,
   fun L st y => em_p rfl rfl,
   fun L st y => em_p rfl rfl,
   fun l0 l2 l3 l4 l5 l6 l7 l8 st y x => em_p rfl rfl,
   fun L st y => em_p rfl rfl,
   fun L st y z x => em_d rfl rfl,
   fun L st y z x => em_p rfl rfl⟩
set_option maxRecDepth 8000 in
theorem L_232_4 :
  (∀ (L : ri_L) (st : List Value) (y : (gy × gy) × Nat), evm C0 b0 L0 xs0 232 (253, L, st) y = evm C0 b0 L0 xs0 232 (254, L, .int (Int32.ofInt 0) :: st) y) ∧
  (∀ (L : ri_L) (st : List Value) (y : (gy × gy) × Nat), evm C0 b0 L0 xs0 232 (254, L, st) y = evm C0 b0 L0 xs0 232 (255, L, .int (Int32.ofInt 0) :: st) y) ∧
  (∀ (L : ri_L) (y : (gy × gy) × Nat) (a0 : Nat) (a1 : Int32) (a2 : Int32) (a3 : Int32) (a4 : Int32), evm C0 b0 L0 xs0 232 (255, L, [.int a4, .int a3, .int a2, .int a1, .ref a0]) y = lm_n (calm C0 b0 L0 xs0 230 [.ref a0, .int a1, .int a2, .int a3, .int a4] y) fun v y => evm C0 b0 L0 xs0 232 (258, L, [v]) y) ∧
  (∀ (L : ri_L) (st : List Value) (y : (gy × gy) × Nat), evm C0 b0 L0 xs0 232 (258, L, st) y = evm C0 b0 L0 xs0 232 (260, L, .int (Int32.ofInt (-9999002)) :: st) y) ∧
  (∀ (L : ri_L) (st : List Value) (y : (gy × gy) × Nat) (z x : Int32), evm C0 b0 L0 xs0 232 (260, L, .int z :: .int x :: st) y = if ¬ x = z then evm C0 b0 L0 xs0 232 (824, L, st) y else evm C0 b0 L0 xs0 232 (263, L, st) y) ∧
  (∀ (l1 l2 l3 l4 l5 l6 l7 l8 : Option Value) (st : List Value) (y : (gy × gy) × Nat) (x : Nat), evm C0 b0 L0 xs0 232 (263, [some (.ref x), l1, l2, l3, l4, l5, l6, l7, l8], st) y = evm C0 b0 L0 xs0 232 (264, [some (.ref x), l1, l2, l3, l4, l5, l6, l7, l8], .ref x :: st) y) ∧
  (∀ (L : ri_L) (st : List Value) (y : (gy × gy) × Nat), evm C0 b0 L0 xs0 232 (264, L, st) y = evm C0 b0 L0 xs0 232 (266, L, .int (Int32.ofInt 7) :: st) y) ∧
  (∀ (L : ri_L) (st : List Value) (y : (gy × gy) × Nat), evm C0 b0 L0 xs0 232 (266, L, st) y = evm C0 b0 L0 xs0 232 (267, L, .int (Int32.ofInt 3) :: st) y) ∧
  (∀ (l0 l2 l3 l4 l5 l6 l7 l8 : Option Value) (st : List Value) (y : (gy × gy) × Nat) (x : Int32), evm C0 b0 L0 xs0 232 (267, [l0, some (.int x), l2, l3, l4, l5, l6, l7, l8], st) y = evm C0 b0 L0 xs0 232 (268, [l0, some (.int x), l2, l3, l4, l5, l6, l7, l8], .int x :: st) y) ∧
  (∀ (L : ri_L) (st : List Value) (y : (gy × gy) × Nat), evm C0 b0 L0 xs0 232 (268, L, st) y = evm C0 b0 L0 xs0 232 (269, L, .int (Int32.ofInt 2) :: st) y) ∧
  (∀ (L : ri_L) (st : List Value) (y : (gy × gy) × Nat) (z x : Int32), evm C0 b0 L0 xs0 232 (269, L, .int z :: .int x :: st) y = if z = 0 then none else evm C0 b0 L0 xs0 232 (270, L, .int (x - x / z * z) :: st) y) ∧
  (∀ (L : ri_L) (st : List Value) (y : (gy × gy) × Nat) (x : Int32), evm C0 b0 L0 xs0 232 (270, L, .int x :: st) y = if ¬ x = 0 then evm C0 b0 L0 xs0 232 (278, L, st) y else evm C0 b0 L0 xs0 232 (273, L, st) y) ∧
  (∀ (L : ri_L) (st : List Value) (y : (gy × gy) × Nat), evm C0 b0 L0 xs0 232 (273, L, st) y = evm C0 b0 L0 xs0 232 (275, L, .int (Int32.ofInt (-5)) :: st) y) ∧
  (∀ (L : ri_L) (st : List Value) (y : (gy × gy) × Nat), evm C0 b0 L0 xs0 232 (275, L, st) y = evm C0 b0 L0 xs0 232 (284, L, st) y) ∧
  (∀ (L : ri_L) (st : List Value) (y : (gy × gy) × Nat), evm C0 b0 L0 xs0 232 (278, L, st) y = evm C0 b0 L0 xs0 232 (279, L, .int (Int32.ofInt 5) :: st) y) ∧
  (∀ (l0 l2 l3 l4 l5 l6 l7 l8 : Option Value) (st : List Value) (y : (gy × gy) × Nat) (x : Int32), evm C0 b0 L0 xs0 232 (279, [l0, some (.int x), l2, l3, l4, l5, l6, l7, l8], st) y = evm C0 b0 L0 xs0 232 (280, [l0, some (.int x), l2, l3, l4, l5, l6, l7, l8], .int x :: st) y) ∧
  (∀ (L : ri_L) (st : List Value) (y : (gy × gy) × Nat), evm C0 b0 L0 xs0 232 (280, L, st) y = evm C0 b0 L0 xs0 232 (282, L, .int (Int32.ofInt 9) :: st) y) ∧
  (∀ (L : ri_L) (st : List Value) (y : (gy × gy) × Nat) (z x : Int32), evm C0 b0 L0 xs0 232 (282, L, .int z :: .int x :: st) y = if z = 0 then none else evm C0 b0 L0 xs0 232 (283, L, .int (x - x / z * z) :: st) y) ∧
  (∀ (L : ri_L) (st : List Value) (y : (gy × gy) × Nat) (z x : Int32), evm C0 b0 L0 xs0 232 (283, L, .int z :: .int x :: st) y = evm C0 b0 L0 xs0 232 (284, L, .int (x + z) :: st) y) ∧
  (∀ (L : ri_L) (st : List Value) (y : (gy × gy) × Nat), evm C0 b0 L0 xs0 232 (284, L, st) y = evm C0 b0 L0 xs0 232 (285, L, .int (Int32.ofInt 0) :: st) y) ∧
  (∀ (L : ri_L) (y : (gy × gy) × Nat) (a0 : Nat) (a1 : Int32) (a2 : Int32) (a3 : Int32) (a4 : Int32), evm C0 b0 L0 xs0 232 (285, L, [.int a4, .int a3, .int a2, .int a1, .ref a0]) y = lm_n (calm C0 b0 L0 xs0 230 [.ref a0, .int a1, .int a2, .int a3, .int a4] y) fun v y => evm C0 b0 L0 xs0 232 (288, L, [v]) y) ∧
  (∀ (L : ri_L) (st : List Value) (y : (gy × gy) × Nat), evm C0 b0 L0 xs0 232 (288, L, st) y = evm C0 b0 L0 xs0 232 (290, L, .int (Int32.ofInt (-9999002)) :: st) y) ∧
  (∀ (L : ri_L) (st : List Value) (y : (gy × gy) × Nat) (z x : Int32), evm C0 b0 L0 xs0 232 (290, L, .int z :: .int x :: st) y = if ¬ x = z then evm C0 b0 L0 xs0 232 (824, L, st) y else evm C0 b0 L0 xs0 232 (293, L, st) y) ∧
  (∀ (l1 l2 l3 l4 l5 l6 l7 l8 : Option Value) (st : List Value) (y : (gy × gy) × Nat) (x : Nat), evm C0 b0 L0 xs0 232 (293, [some (.ref x), l1, l2, l3, l4, l5, l6, l7, l8], st) y = evm C0 b0 L0 xs0 232 (294, [some (.ref x), l1, l2, l3, l4, l5, l6, l7, l8], .ref x :: st) y) ∧
  (∀ (L : ri_L) (st : List Value) (y : (gy × gy) × Nat), evm C0 b0 L0 xs0 232 (294, L, st) y = evm C0 b0 L0 xs0 232 (296, L, .int (Int32.ofInt 7) :: st) y) ∧
  (∀ (L : ri_L) (st : List Value) (y : (gy × gy) × Nat), evm C0 b0 L0 xs0 232 (296, L, st) y = evm C0 b0 L0 xs0 232 (297, L, .int (Int32.ofInt 3) :: st) y) ∧
  (∀ (L : ri_L) (st : List Value) (y : (gy × gy) × Nat), evm C0 b0 L0 xs0 232 (297, L, st) y = evm C0 b0 L0 xs0 232 (298, L, .int (Int32.ofInt 0) :: st) y) ∧
  (∀ (l0 l2 l3 l4 l5 l6 l7 l8 : Option Value) (st : List Value) (y : (gy × gy) × Nat) (x : Int32), evm C0 b0 L0 xs0 232 (298, [l0, some (.int x), l2, l3, l4, l5, l6, l7, l8], st) y = evm C0 b0 L0 xs0 232 (299, [l0, some (.int x), l2, l3, l4, l5, l6, l7, l8], .int x :: st) y) ∧
  (∀ (L : ri_L) (st : List Value) (y : (gy × gy) × Nat), evm C0 b0 L0 xs0 232 (299, L, st) y = evm C0 b0 L0 xs0 232 (300, L, .int (Int32.ofInt 2) :: st) y) ∧
  (∀ (L : ri_L) (st : List Value) (y : (gy × gy) × Nat) (z x : Int32), evm C0 b0 L0 xs0 232 (300, L, .int z :: .int x :: st) y = if z = 0 then none else evm C0 b0 L0 xs0 232 (301, L, .int (x - x / z * z) :: st) y) ∧
  (∀ (L : ri_L) (st : List Value) (y : (gy × gy) × Nat) (x : Int32), evm C0 b0 L0 xs0 232 (301, L, .int x :: st) y = if ¬ x = 0 then evm C0 b0 L0 xs0 232 (308, L, st) y else evm C0 b0 L0 xs0 232 (304, L, st) y) ∧
  (∀ (L : ri_L) (st : List Value) (y : (gy × gy) × Nat), evm C0 b0 L0 xs0 232 (304, L, st) y = evm C0 b0 L0 xs0 232 (305, L, .int (Int32.ofInt (-1)) :: st) y) ∧
  (∀ (L : ri_L) (st : List Value) (y : (gy × gy) × Nat), evm C0 b0 L0 xs0 232 (305, L, st) y = evm C0 b0 L0 xs0 232 (315, L, st) y) ∧
  (∀ (L : ri_L) (st : List Value) (y : (gy × gy) × Nat), evm C0 b0 L0 xs0 232 (308, L, st) y = evm C0 b0 L0 xs0 232 (310, L, .int (Int32.ofInt 31) :: st) y) ∧
  (∀ (l0 l2 l3 l4 l5 l6 l7 l8 : Option Value) (st : List Value) (y : (gy × gy) × Nat) (x : Int32), evm C0 b0 L0 xs0 232 (310, [l0, some (.int x), l2, l3, l4, l5, l6, l7, l8], st) y = evm C0 b0 L0 xs0 232 (311, [l0, some (.int x), l2, l3, l4, l5, l6, l7, l8], .int x :: st) y) ∧
  (∀ (L : ri_L) (st : List Value) (y : (gy × gy) × Nat), evm C0 b0 L0 xs0 232 (311, L, st) y = evm C0 b0 L0 xs0 232 (313, L, .int (Int32.ofInt 9) :: st) y) ∧
  (∀ (L : ri_L) (st : List Value) (y : (gy × gy) × Nat) (z x : Int32), evm C0 b0 L0 xs0 232 (313, L, .int z :: .int x :: st) y = if z = 0 then none else evm C0 b0 L0 xs0 232 (314, L, .int (x - x / z * z) :: st) y) ∧
  (∀ (L : ri_L) (st : List Value) (y : (gy × gy) × Nat) (z x : Int32), evm C0 b0 L0 xs0 232 (314, L, .int z :: .int x :: st) y = evm C0 b0 L0 xs0 232 (315, L, .int (x + z) :: st) y) ∧
  (∀ (L : ri_L) (y : (gy × gy) × Nat) (a0 : Nat) (a1 : Int32) (a2 : Int32) (a3 : Int32) (a4 : Int32), evm C0 b0 L0 xs0 232 (315, L, [.int a4, .int a3, .int a2, .int a1, .ref a0]) y = lm_n (calm C0 b0 L0 xs0 230 [.ref a0, .int a1, .int a2, .int a3, .int a4] y) fun v y => evm C0 b0 L0 xs0 232 (318, L, [v]) y) ∧
  (∀ (L : ri_L) (st : List Value) (y : (gy × gy) × Nat), evm C0 b0 L0 xs0 232 (318, L, st) y = evm C0 b0 L0 xs0 232 (320, L, .int (Int32.ofInt (-9999002)) :: st) y) :=
  ⟨fun L st y => em_p rfl rfl,
   fun L st y => em_p rfl rfl,
   fun L y a0 a1 a2 a3 a4 => em_call rfl rfl rfl rfl rfl,
   fun L st y => em_p rfl rfl,
   fun L st y z x => em_b rfl rfl,
   fun l1 l2 l3 l4 l5 l6 l7 l8 st y x => em_p rfl rfl,
   fun L st y => em_p rfl rfl,
   fun L st y => em_p rfl rfl,
   fun l0 l2 l3 l4 l5 l6 l7 l8 st y x => em_p rfl rfl,
   fun L st y => em_p rfl rfl,
   fun L st y z x => em_d rfl rfl,
   fun L st y x => em_b rfl rfl,
   fun L st y => em_p rfl rfl,
   fun L st y => em_p rfl rfl,
   fun L st y => em_p rfl rfl,
   fun l0 l2 l3 l4 l5 l6 l7 l8 st y x => em_p rfl rfl,
   fun L st y => em_p rfl rfl,
   fun L st y z x => em_d rfl rfl,
   fun L st y z x => em_p rfl rfl,
   fun L st y => em_p rfl rfl,
   fun L y a0 a1 a2 a3 a4 => em_call rfl rfl rfl rfl rfl,
   fun L st y => em_p rfl rfl,
   fun L st y z x => em_b rfl rfl,
   fun l1 l2 l3 l4 l5 l6 l7 l8 st y x => em_p rfl rfl,
   fun L st y => em_p rfl rfl,
   fun L st y => em_p rfl rfl,
   fun L st y => em_p rfl rfl,
   fun l0 l2 l3 l4 l5 l6 l7 l8 st y x => em_p rfl rfl,
   fun L st y => em_p rfl rfl,
   fun L st y z x => em_d rfl rfl,
   fun L st y x => em_b rfl rfl,
   fun L st y => em_p rfl rfl,
   fun L st y => em_p rfl rfl,
   fun L st y => em_p rfl rfl,
   fun l0 l2 l3 l4 l5 l6 l7 l8 st y x => em_p rfl rfl,
   fun L st y => em_p rfl rfl,
   fun L st y z x => em_d rfl rfl,
   fun L st y z x => em_p rfl rfl,
   fun L y a0 a1 a2 a3 a4 => em_call rfl rfl rfl rfl rfl,
   fun L st y => em_p rfl rfl⟩
set_option maxRecDepth 8000 in
theorem L_232_5 :
  (∀ (L : ri_L) (st : List Value) (y : (gy × gy) × Nat) (z x : Int32), evm C0 b0 L0 xs0 232 (320, L, .int z :: .int x :: st) y = if ¬ x = z then evm C0 b0 L0 xs0 232 (824, L, st) y else evm C0 b0 L0 xs0 232 (323, L, st) y) ∧
  (∀ (l1 l2 l3 l4 l5 l6 l7 l8 : Option Value) (st : List Value) (y : (gy × gy) × Nat) (x : Nat), evm C0 b0 L0 xs0 232 (323, [some (.ref x), l1, l2, l3, l4, l5, l6, l7, l8], st) y = evm C0 b0 L0 xs0 232 (324, [some (.ref x), l1, l2, l3, l4, l5, l6, l7, l8], .ref x :: st) y) ∧
  (∀ (l0 l1 l2 l3 l4 l6 l7 l8 : Option Value) (st : List Value) (y : (gy × gy) × Nat) (x : Int32), evm C0 b0 L0 xs0 232 (324, [l0, l1, l2, l3, l4, some (.int x), l6, l7, l8], st) y = evm C0 b0 L0 xs0 232 (326, [l0, l1, l2, l3, l4, some (.int x), l6, l7, l8], .int x :: st) y) ∧
  (∀ (L : ri_L) (st : List Value) (y : (gy × gy) × Nat), evm C0 b0 L0 xs0 232 (326, L, st) y = evm C0 b0 L0 xs0 232 (327, L, .int (Int32.ofInt 0) :: st) y) ∧
  (∀ (L : ri_L) (st : List Value) (y : (gy × gy) × Nat), evm C0 b0 L0 xs0 232 (327, L, st) y = evm C0 b0 L0 xs0 232 (328, L, .int (Int32.ofInt 0) :: st) y) ∧
  (∀ (L : ri_L) (st : List Value) (y : (gy × gy) × Nat), evm C0 b0 L0 xs0 232 (328, L, st) y = evm C0 b0 L0 xs0 232 (329, L, .int (Int32.ofInt 0) :: st) y) ∧
  (∀ (L : ri_L) (y : (gy × gy) × Nat) (a0 : Nat) (a1 : Int32) (a2 : Int32) (a3 : Int32) (a4 : Int32), evm C0 b0 L0 xs0 232 (329, L, [.int a4, .int a3, .int a2, .int a1, .ref a0]) y = lm_n (calm C0 b0 L0 xs0 319 [.ref a0, .int a1, .int a2, .int a3, .int a4] y) fun v y => evm C0 b0 L0 xs0 232 (332, L, [v]) y) ∧
  (∀ (L : ri_L) (st : List Value) (y : (gy × gy) × Nat), evm C0 b0 L0 xs0 232 (332, L, st) y = evm C0 b0 L0 xs0 232 (334, L, .int (Int32.ofInt (-9999001)) :: st) y) ∧
  (∀ (L : ri_L) (st : List Value) (y : (gy × gy) × Nat) (z x : Int32), evm C0 b0 L0 xs0 232 (334, L, .int z :: .int x :: st) y = if ¬ x = z then evm C0 b0 L0 xs0 232 (824, L, st) y else evm C0 b0 L0 xs0 232 (337, L, st) y) ∧
  (∀ (l1 l2 l3 l4 l5 l6 l7 l8 : Option Value) (st : List Value) (y : (gy × gy) × Nat) (x : Nat), evm C0 b0 L0 xs0 232 (337, [some (.ref x), l1, l2, l3, l4, l5, l6, l7, l8], st) y = evm C0 b0 L0 xs0 232 (338, [some (.ref x), l1, l2, l3, l4, l5, l6, l7, l8], .ref x :: st) y) ∧
  (∀ (L : ri_L) (st : List Value) (y : (gy × gy) × Nat), evm C0 b0 L0 xs0 232 (338, L, st) y = evm C0 b0 L0 xs0 232 (339, L, .int (Int32.ofInt 0) :: st) y) ∧
  (∀ (l0 l1 l2 l3 l4 l5 l6 l8 : Option Value) (st : List Value) (y : (gy × gy) × Nat) (x : Int32), evm C0 b0 L0 xs0 232 (339, [l0, l1, l2, l3, l4, l5, l6, some (.int x), l8], st) y = evm C0 b0 L0 xs0 232 (341, [l0, l1, l2, l3, l4, l5, l6, some (.int x), l8], .int x :: st) y) ∧
  (∀ (L : ri_L) (st : List Value) (y : (gy × gy) × Nat), evm C0 b0 L0 xs0 232 (341, L, st) y = evm C0 b0 L0 xs0 232 (342, L, .int (Int32.ofInt 0) :: st) y) ∧
  (∀ (L : ri_L) (st : List Value) (y : (gy × gy) × Nat), evm C0 b0 L0 xs0 232 (342, L, st) y = evm C0 b0 L0 xs0 232 (343, L, .int (Int32.ofInt 0) :: st) y) ∧
  (∀ (L : ri_L) (y : (gy × gy) × Nat) (a0 : Nat) (a1 : Int32) (a2 : Int32) (a3 : Int32) (a4 : Int32), evm C0 b0 L0 xs0 232 (343, L, [.int a4, .int a3, .int a2, .int a1, .ref a0]) y = lm_n (calm C0 b0 L0 xs0 319 [.ref a0, .int a1, .int a2, .int a3, .int a4] y) fun v y => evm C0 b0 L0 xs0 232 (346, L, [v]) y) ∧
  (∀ (L : ri_L) (st : List Value) (y : (gy × gy) × Nat), evm C0 b0 L0 xs0 232 (346, L, st) y = evm C0 b0 L0 xs0 232 (348, L, .int (Int32.ofInt (-9999001)) :: st) y) ∧
  (∀ (L : ri_L) (st : List Value) (y : (gy × gy) × Nat) (z x : Int32), evm C0 b0 L0 xs0 232 (348, L, .int z :: .int x :: st) y = if ¬ x = z then evm C0 b0 L0 xs0 232 (824, L, st) y else evm C0 b0 L0 xs0 232 (351, L, st) y) ∧
  (∀ (l1 l2 l3 l4 l5 l6 l7 l8 : Option Value) (st : List Value) (y : (gy × gy) × Nat) (x : Nat), evm C0 b0 L0 xs0 232 (351, [some (.ref x), l1, l2, l3, l4, l5, l6, l7, l8], st) y = evm C0 b0 L0 xs0 232 (352, [some (.ref x), l1, l2, l3, l4, l5, l6, l7, l8], .ref x :: st) y) ∧
  (∀ (L : ri_L) (st : List Value) (y : (gy × gy) × Nat), evm C0 b0 L0 xs0 232 (352, L, st) y = evm C0 b0 L0 xs0 232 (353, L, .int (Int32.ofInt 0) :: st) y) ∧
  (∀ (L : ri_L) (st : List Value) (y : (gy × gy) × Nat), evm C0 b0 L0 xs0 232 (353, L, st) y = evm C0 b0 L0 xs0 232 (354, L, .int (Int32.ofInt 0) :: st) y) ∧
  (∀ (l0 l1 l2 l3 l4 l6 l7 l8 : Option Value) (st : List Value) (y : (gy × gy) × Nat) (x : Int32), evm C0 b0 L0 xs0 232 (354, [l0, l1, l2, l3, l4, some (.int x), l6, l7, l8], st) y = evm C0 b0 L0 xs0 232 (356, [l0, l1, l2, l3, l4, some (.int x), l6, l7, l8], .int x :: st) y) ∧
  (∀ (L : ri_L) (st : List Value) (y : (gy × gy) × Nat), evm C0 b0 L0 xs0 232 (356, L, st) y = evm C0 b0 L0 xs0 232 (357, L, .int (Int32.ofInt 0) :: st) y) ∧
  (∀ (L : ri_L) (y : (gy × gy) × Nat) (a0 : Nat) (a1 : Int32) (a2 : Int32) (a3 : Int32) (a4 : Int32), evm C0 b0 L0 xs0 232 (357, L, [.int a4, .int a3, .int a2, .int a1, .ref a0]) y = lm_n (calm C0 b0 L0 xs0 319 [.ref a0, .int a1, .int a2, .int a3, .int a4] y) fun v y => evm C0 b0 L0 xs0 232 (360, L, [v]) y) ∧
  (∀ (L : ri_L) (st : List Value) (y : (gy × gy) × Nat), evm C0 b0 L0 xs0 232 (360, L, st) y = evm C0 b0 L0 xs0 232 (362, L, .int (Int32.ofInt (-9999001)) :: st) y) ∧
  (∀ (L : ri_L) (st : List Value) (y : (gy × gy) × Nat) (z x : Int32), evm C0 b0 L0 xs0 232 (362, L, .int z :: .int x :: st) y = if ¬ x = z then evm C0 b0 L0 xs0 232 (824, L, st) y else evm C0 b0 L0 xs0 232 (365, L, st) y) ∧
  (∀ (l1 l2 l3 l4 l5 l6 l7 l8 : Option Value) (st : List Value) (y : (gy × gy) × Nat) (x : Nat), evm C0 b0 L0 xs0 232 (365, [some (.ref x), l1, l2, l3, l4, l5, l6, l7, l8], st) y = evm C0 b0 L0 xs0 232 (366, [some (.ref x), l1, l2, l3, l4, l5, l6, l7, l8], .ref x :: st) y) ∧
  (∀ (L : ri_L) (st : List Value) (y : (gy × gy) × Nat), evm C0 b0 L0 xs0 232 (366, L, st) y = evm C0 b0 L0 xs0 232 (367, L, .int (Int32.ofInt 0) :: st) y) ∧
  (∀ (L : ri_L) (st : List Value) (y : (gy × gy) × Nat), evm C0 b0 L0 xs0 232 (367, L, st) y = evm C0 b0 L0 xs0 232 (368, L, .int (Int32.ofInt 0) :: st) y) ∧
  (∀ (L : ri_L) (st : List Value) (y : (gy × gy) × Nat), evm C0 b0 L0 xs0 232 (368, L, st) y = evm C0 b0 L0 xs0 232 (369, L, .int (Int32.ofInt 0) :: st) y) ∧
  (∀ (l0 l1 l2 l3 l4 l5 l6 l8 : Option Value) (st : List Value) (y : (gy × gy) × Nat) (x : Int32), evm C0 b0 L0 xs0 232 (369, [l0, l1, l2, l3, l4, l5, l6, some (.int x), l8], st) y = evm C0 b0 L0 xs0 232 (371, [l0, l1, l2, l3, l4, l5, l6, some (.int x), l8], .int x :: st) y) ∧
  (∀ (L : ri_L) (y : (gy × gy) × Nat) (a0 : Nat) (a1 : Int32) (a2 : Int32) (a3 : Int32) (a4 : Int32), evm C0 b0 L0 xs0 232 (371, L, [.int a4, .int a3, .int a2, .int a1, .ref a0]) y = lm_n (calm C0 b0 L0 xs0 319 [.ref a0, .int a1, .int a2, .int a3, .int a4] y) fun v y => evm C0 b0 L0 xs0 232 (374, L, [v]) y) ∧
  (∀ (L : ri_L) (st : List Value) (y : (gy × gy) × Nat), evm C0 b0 L0 xs0 232 (374, L, st) y = evm C0 b0 L0 xs0 232 (376, L, .int (Int32.ofInt (-9999001)) :: st) y) ∧
  (∀ (L : ri_L) (st : List Value) (y : (gy × gy) × Nat) (z x : Int32), evm C0 b0 L0 xs0 232 (376, L, .int z :: .int x :: st) y = if ¬ x = z then evm C0 b0 L0 xs0 232 (824, L, st) y else evm C0 b0 L0 xs0 232 (379, L, st) y) ∧
  (∀ (l1 l2 l3 l4 l5 l6 l7 l8 : Option Value) (st : List Value) (y : (gy × gy) × Nat) (x : Nat), evm C0 b0 L0 xs0 232 (379, [some (.ref x), l1, l2, l3, l4, l5, l6, l7, l8], st) y = evm C0 b0 L0 xs0 232 (380, [some (.ref x), l1, l2, l3, l4, l5, l6, l7, l8], .ref x :: st) y) ∧
  (∀ (L : ri_L) (st : List Value) (y : (gy × gy) × Nat), evm C0 b0 L0 xs0 232 (380, L, st) y = evm C0 b0 L0 xs0 232 (381, L, .int (Int32.ofInt 0) :: st) y) ∧
  (∀ (L : ri_L) (st : List Value) (y : (gy × gy) × Nat), evm C0 b0 L0 xs0 232 (381, L, st) y = evm C0 b0 L0 xs0 232 (382, L, .int (Int32.ofInt 0) :: st) y) ∧
  (∀ (L : ri_L) (st : List Value) (y : (gy × gy) × Nat), evm C0 b0 L0 xs0 232 (382, L, st) y = evm C0 b0 L0 xs0 232 (383, L, .int (Int32.ofInt 0) :: st) y) ∧
  (∀ (L : ri_L) (st : List Value) (y : (gy × gy) × Nat), evm C0 b0 L0 xs0 232 (383, L, st) y = evm C0 b0 L0 xs0 232 (384, L, .int (Int32.ofInt 1) :: st) y) ∧
  (∀ (L : ri_L) (y : (gy × gy) × Nat) (a0 : Nat) (a1 : Int32) (a2 : Int32) (a3 : Int32) (a4 : Int32), evm C0 b0 L0 xs0 232 (384, L, [.int a4, .int a3, .int a2, .int a1, .ref a0]) y = lm_n (calm C0 b0 L0 xs0 319 [.ref a0, .int a1, .int a2, .int a3, .int a4] y) fun v y => evm C0 b0 L0 xs0 232 (387, L, [v]) y) ∧
  (∀ (L : ri_L) (st : List Value) (y : (gy × gy) × Nat), evm C0 b0 L0 xs0 232 (387, L, st) y = evm C0 b0 L0 xs0 232 (389, L, .int (Int32.ofInt (-9999002)) :: st) y) :=
  ⟨fun L st y z x => em_b rfl rfl,
   fun l1 l2 l3 l4 l5 l6 l7 l8 st y x => em_p rfl rfl,
   fun l0 l1 l2 l3 l4 l6 l7 l8 st y x => em_p rfl rfl,
   fun L st y => em_p rfl rfl,
   fun L st y => em_p rfl rfl,
   fun L st y => em_p rfl rfl,
   fun L y a0 a1 a2 a3 a4 => em_call rfl rfl rfl rfl rfl,
   fun L st y => em_p rfl rfl,
   fun L st y z x => em_b rfl rfl,
   fun l1 l2 l3 l4 l5 l6 l7 l8 st y x => em_p rfl rfl,
   fun L st y => em_p rfl rfl,
   fun l0 l1 l2 l3 l4 l5 l6 l8 st y x => em_p rfl rfl,
   fun L st y => em_p rfl rfl,
   fun L st y => em_p rfl rfl,
   fun L y a0 a1 a2 a3 a4 => em_call rfl rfl rfl rfl rfl,
   fun L st y => em_p rfl rfl,
   fun L st y z x => em_b rfl rfl,
   fun l1 l2 l3 l4 l5 l6 l7 l8 st y x => em_p rfl rfl,
   fun L st y => em_p rfl rfl,
   fun L st y => em_p rfl rfl,
   fun l0 l1 l2 l3 l4 l6 l7 l8 st y x => em_p rfl rfl,
   fun L st y => em_p rfl rfl,
   fun L y a0 a1 a2 a3 a4 => em_call rfl rfl rfl rfl rfl,
   fun L st y => em_p rfl rfl,
   fun L st y z x => em_b rfl rfl,
   fun l1 l2 l3 l4 l5 l6 l7 l8 st y x => em_p rfl rfl,
   fun L st y => em_p rfl rfl,
   fun L st y => em_p rfl rfl,
   fun L st y => em_p rfl rfl,
   fun l0 l1 l2 l3 l4 l5 l6 l8 st y x => em_p rfl rfl,
   fun L y a0 a1 a2 a3 a4 => em_call rfl rfl rfl rfl rfl,
   fun L st y => em_p rfl rfl,
   fun L st y z x => em_b rfl rfl,
   fun l1 l2 l3 l4 l5 l6 l7 l8 st y x => em_p rfl rfl,
   fun L st y => em_p rfl rfl,
   fun L st y => em_p rfl rfl,
   fun L st y => em_p rfl rfl,
   fun L st y => em_p rfl rfl,
   fun L y a0 a1 a2 a3 a4 => em_call rfl rfl rfl rfl rfl,
   fun L st y => em_p rfl rfl⟩
set_option maxRecDepth 8000 in
theorem L_232_6 :
  (∀ (L : ri_L) (st : List Value) (y : (gy × gy) × Nat) (z x : Int32), evm C0 b0 L0 xs0 232 (389, L, .int z :: .int x :: st) y = if ¬ x = z then evm C0 b0 L0 xs0 232 (824, L, st) y else evm C0 b0 L0 xs0 232 (392, L, st) y) ∧
  (∀ (l1 l2 l3 l4 l5 l6 l7 l8 : Option Value) (st : List Value) (y : (gy × gy) × Nat) (x : Nat), evm C0 b0 L0 xs0 232 (392, [some (.ref x), l1, l2, l3, l4, l5, l6, l7, l8], st) y = evm C0 b0 L0 xs0 232 (393, [some (.ref x), l1, l2, l3, l4, l5, l6, l7, l8], .ref x :: st) y) ∧
  (∀ (L : ri_L) (st : List Value) (y : (gy × gy) × Nat), evm C0 b0 L0 xs0 232 (393, L, st) y = evm C0 b0 L0 xs0 232 (395, L, .int (Int32.ofInt 8) :: st) y) ∧
  (∀ (l0 l1 l2 l3 l4 l6 l7 l8 : Option Value) (st : List Value) (y : (gy × gy) × Nat) (x : Int32), evm C0 b0 L0 xs0 232 (395, [l0, l1, l2, l3, l4, some (.int x), l6, l7, l8], st) y = evm C0 b0 L0 xs0 232 (397, [l0, l1, l2, l3, l4, some (.int x), l6, l7, l8], .int x :: st) y) ∧
  (∀ (L : ri_L) (st : List Value) (y : (gy × gy) × Nat), evm C0 b0 L0 xs0 232 (397, L, st) y = evm C0 b0 L0 xs0 232 (398, L, .int (Int32.ofInt 0) :: st) y) ∧
  (∀ (L : ri_L) (st : List Value) (y : (gy × gy) × Nat), evm C0 b0 L0 xs0 232 (398, L, st) y = evm C0 b0 L0 xs0 232 (399, L, .int (Int32.ofInt 0) :: st) y) ∧
  (∀ (L : ri_L) (y : (gy × gy) × Nat) (a0 : Nat) (a1 : Int32) (a2 : Int32) (a3 : Int32) (a4 : Int32), evm C0 b0 L0 xs0 232 (399, L, [.int a4, .int a3, .int a2, .int a1, .ref a0]) y = lm_n (calm C0 b0 L0 xs0 230 [.ref a0, .int a1, .int a2, .int a3, .int a4] y) fun v y => evm C0 b0 L0 xs0 232 (402, L, [v]) y) ∧
  (∀ (L : ri_L) (st : List Value) (y : (gy × gy) × Nat), evm C0 b0 L0 xs0 232 (402, L, st) y = evm C0 b0 L0 xs0 232 (404, L, .int (Int32.ofInt (-9999001)) :: st) y) ∧
  (∀ (L : ri_L) (st : List Value) (y : (gy × gy) × Nat) (z x : Int32), evm C0 b0 L0 xs0 232 (404, L, .int z :: .int x :: st) y = if ¬ x = z then evm C0 b0 L0 xs0 232 (824, L, st) y else evm C0 b0 L0 xs0 232 (407, L, st) y) ∧
  (∀ (l1 l2 l3 l4 l5 l6 l7 l8 : Option Value) (st : List Value) (y : (gy × gy) × Nat) (x : Nat), evm C0 b0 L0 xs0 232 (407, [some (.ref x), l1, l2, l3, l4, l5, l6, l7, l8], st) y = evm C0 b0 L0 xs0 232 (408, [some (.ref x), l1, l2, l3, l4, l5, l6, l7, l8], .ref x :: st) y) ∧
  (∀ (L : ri_L) (st : List Value) (y : (gy × gy) × Nat), evm C0 b0 L0 xs0 232 (408, L, st) y = evm C0 b0 L0 xs0 232 (410, L, .int (Int32.ofInt 8) :: st) y) ∧
  (∀ (L : ri_L) (st : List Value) (y : (gy × gy) × Nat), evm C0 b0 L0 xs0 232 (410, L, st) y = evm C0 b0 L0 xs0 232 (411, L, .int (Int32.ofInt 0) :: st) y) ∧
  (∀ (l0 l1 l2 l3 l4 l5 l6 l8 : Option Value) (st : List Value) (y : (gy × gy) × Nat) (x : Int32), evm C0 b0 L0 xs0 232 (411, [l0, l1, l2, l3, l4, l5, l6, some (.int x), l8], st) y = evm C0 b0 L0 xs0 232 (413, [l0, l1, l2, l3, l4, l5, l6, some (.int x), l8], .int x :: st) y) ∧
  (∀ (L : ri_L) (st : List Value) (y : (gy × gy) × Nat), evm C0 b0 L0 xs0 232 (413, L, st) y = evm C0 b0 L0 xs0 232 (414, L, .int (Int32.ofInt 0) :: st) y) ∧
  (∀ (L : ri_L) (y : (gy × gy) × Nat) (a0 : Nat) (a1 : Int32) (a2 : Int32) (a3 : Int32) (a4 : Int32), evm C0 b0 L0 xs0 232 (414, L, [.int a4, .int a3, .int a2, .int a1, .ref a0]) y = lm_n (calm C0 b0 L0 xs0 230 [.ref a0, .int a1, .int a2, .int a3, .int a4] y) fun v y => evm C0 b0 L0 xs0 232 (417, L, [v]) y) ∧
  (∀ (L : ri_L) (st : List Value) (y : (gy × gy) × Nat), evm C0 b0 L0 xs0 232 (417, L, st) y = evm C0 b0 L0 xs0 232 (419, L, .int (Int32.ofInt (-9999001)) :: st) y) ∧
  (∀ (L : ri_L) (st : List Value) (y : (gy × gy) × Nat) (z x : Int32), evm C0 b0 L0 xs0 232 (419, L, .int z :: .int x :: st) y = if ¬ x = z then evm C0 b0 L0 xs0 232 (824, L, st) y else evm C0 b0 L0 xs0 232 (422, L, st) y) ∧
  (∀ (l1 l2 l3 l4 l5 l6 l7 l8 : Option Value) (st : List Value) (y : (gy × gy) × Nat) (x : Nat), evm C0 b0 L0 xs0 232 (422, [some (.ref x), l1, l2, l3, l4, l5, l6, l7, l8], st) y = evm C0 b0 L0 xs0 232 (423, [some (.ref x), l1, l2, l3, l4, l5, l6, l7, l8], .ref x :: st) y) ∧
  (∀ (L : ri_L) (st : List Value) (y : (gy × gy) × Nat), evm C0 b0 L0 xs0 232 (423, L, st) y = evm C0 b0 L0 xs0 232 (425, L, .int (Int32.ofInt 8) :: st) y) ∧
  (∀ (L : ri_L) (st : List Value) (y : (gy × gy) × Nat), evm C0 b0 L0 xs0 232 (425, L, st) y = evm C0 b0 L0 xs0 232 (426, L, .int (Int32.ofInt 0) :: st) y) ∧
  (∀ (L : ri_L) (st : List Value) (y : (gy × gy) × Nat), evm C0 b0 L0 xs0 232 (426, L, st) y = evm C0 b0 L0 xs0 232 (427, L, .int (Int32.ofInt 0) :: st) y) ∧
  (∀ (l0 l2 l3 l4 l5 l6 l7 l8 : Option Value) (st : List Value) (y : (gy × gy) × Nat) (x : Int32), evm C0 b0 L0 xs0 232 (427, [l0, some (.int x), l2, l3, l4, l5, l6, l7, l8], st) y = evm C0 b0 L0 xs0 232 (428, [l0, some (.int x), l2, l3, l4, l5, l6, l7, l8], .int x :: st) y) ∧
  (∀ (L : ri_L) (st : List Value) (y : (gy × gy) × Nat), evm C0 b0 L0 xs0 232 (428, L, st) y = evm C0 b0 L0 xs0 232 (429, L, .int (Int32.ofInt 2) :: st) y) ∧
  (∀ (L : ri_L) (st : List Value) (y : (gy × gy) × Nat) (z x : Int32), evm C0 b0 L0 xs0 232 (429, L, .int z :: .int x :: st) y = if z = 0 then none else evm C0 b0 L0 xs0 232 (430, L, .int (x - x / z * z) :: st) y) ∧
  (∀ (L : ri_L) (st : List Value) (y : (gy × gy) × Nat) (x : Int32), evm C0 b0 L0 xs0 232 (430, L, .int x :: st) y = if ¬ x = 0 then evm C0 b0 L0 xs0 232 (437, L, st) y else evm C0 b0 L0 xs0 232 (433, L, st) y) ∧
  (∀ (L : ri_L) (st : List Value) (y : (gy × gy) × Nat), evm C0 b0 L0 xs0 232 (433, L, st) y = evm C0 b0 L0 xs0 232 (434, L, .int (Int32.ofInt 0) :: st) y) ∧
  (∀ (L : ri_L) (st : List Value) (y : (gy × gy) × Nat), evm C0 b0 L0 xs0 232 (434, L, st) y = evm C0 b0 L0 xs0 232 (444, L, st) y) ∧
  (∀ (L : ri_L) (st : List Value) (y : (gy × gy) × Nat), evm C0 b0 L0 xs0 232 (437, L, st) y = evm C0 b0 L0 xs0 232 (439, L, .int (Int32.ofInt 10) :: st) y) ∧
  (∀ (l0 l2 l3 l4 l5 l6 l7 l8 : Option Value) (st : List Value) (y : (gy × gy) × Nat) (x : Int32), evm C0 b0 L0 xs0 232 (439, [l0, some (.int x), l2, l3, l4, l5, l6, l7, l8], st) y = evm C0 b0 L0 xs0 232 (440, [l0, some (.int x), l2, l3, l4, l5, l6, l7, l8], .int x :: st) y) ∧
  (∀ (L : ri_L) (st : List Value) (y : (gy × gy) × Nat), evm C0 b0 L0 xs0 232 (440, L, st) y = evm C0 b0 L0 xs0 232 (442, L, .int (Int32.ofInt 9) :: st) y) ∧
  (∀ (L : ri_L) (st : List Value) (y : (gy × gy) × Nat) (z x : Int32), evm C0 b0 L0 xs0 232 (442, L, .int z :: .int x :: st) y = if z = 0 then none else evm C0 b0 L0 xs0 232 (443, L, .int (x - x / z * z) :: st) y) ∧
  (∀ (L : ri_L) (st : List Value) (y : (gy × gy) × Nat) (z x : Int32), evm C0 b0 L0 xs0 232 (443, L, .int z :: .int x :: st) y = evm C0 b0 L0 xs0 232 (444, L, .int (x + z) :: st) y) ∧
  (∀ (L : ri_L) (y : (gy × gy) × Nat) (a0 : Nat) (a1 : Int32) (a2 : Int32) (a3 : Int32) (a4 : Int32), evm C0 b0 L0 xs0 232 (444, L, [.int a4, .int a3, .int a2, .int a1, .ref a0]) y = lm_n (calm C0 b0 L0 xs0 230 [.ref a0, .int a1, .int a2, .int a3, .int a4] y) fun v y => evm C0 b0 L0 xs0 232 (447, L, [v]) y) ∧
  (∀ (L : ri_L) (st : List Value) (y : (gy × gy) × Nat), evm C0 b0 L0 xs0 232 (447, L, st) y = evm C0 b0 L0 xs0 232 (449, L, .int (Int32.ofInt (-9999002)) :: st) y) ∧
  (∀ (L : ri_L) (st : List Value) (y : (gy × gy) × Nat) (z x : Int32), evm C0 b0 L0 xs0 232 (449, L, .int z :: .int x :: st) y = if ¬ x = z then evm C0 b0 L0 xs0 232 (824, L, st) y else evm C0 b0 L0 xs0 232 (452, L, st) y) ∧
  (∀ (l1 l2 l3 l4 l5 l6 l7 l8 : Option Value) (st : List Value) (y : (gy × gy) × Nat) (x : Nat), evm C0 b0 L0 xs0 232 (452, [some (.ref x), l1, l2, l3, l4, l5, l6, l7, l8], st) y = evm C0 b0 L0 xs0 232 (453, [some (.ref x), l1, l2, l3, l4, l5, l6, l7, l8], .ref x :: st) y) ∧
  (∀ (L : ri_L) (st : List Value) (y : (gy × gy) × Nat), evm C0 b0 L0 xs0 232 (453, L, st) y = evm C0 b0 L0 xs0 232 (455, L, .int (Int32.ofInt 9) :: st) y) ∧
  (∀ (l0 l1 l2 l3 l4 l6 l7 l8 : Option Value) (st : List Value) (y : (gy × gy) × Nat) (x : Int32), evm C0 b0 L0 xs0 232 (455, [l0, l1, l2, l3, l4, some (.int x), l6, l7, l8], st) y = evm C0 b0 L0 xs0 232 (457, [l0, l1, l2, l3, l4, some (.int x), l6, l7, l8], .int x :: st) y) ∧
  (∀ (L : ri_L) (st : List Value) (y : (gy × gy) × Nat), evm C0 b0 L0 xs0 232 (457, L, st) y = evm C0 b0 L0 xs0 232 (458, L, .int (Int32.ofInt 0) :: st) y) ∧
  (∀ (L : ri_L) (st : List Value) (y : (gy × gy) × Nat), evm C0 b0 L0 xs0 232 (458, L, st) y = evm C0 b0 L0 xs0 232 (459, L, .int (Int32.ofInt 0) :: st) y) :=
  ⟨fun L st y z x => em_b rfl rfl,
   fun l1 l2 l3 l4 l5 l6 l7 l8 st y x => em_p rfl rfl,
   fun L st y => em_p rfl rfl,
   fun l0 l1 l2 l3 l4 l6 l7 l8 st y x => em_p rfl rfl,
   fun L st y => em_p rfl rfl,
   fun L st y => em_p rfl rfl,
   fun L y a0 a1 a2 a3 a4 => em_call rfl rfl rfl rfl rfl,
   fun L st y => em_p rfl rfl,
   fun L st y z x => em_b rfl rfl,
   fun l1 l2 l3 l4 l5 l6 l7 l8 st y x => em_p rfl rfl,
   fun L st y => em_p rfl rfl,
   fun L st y => em_p rfl rfl,
   fun l0 l1 l2 l3 l4 l5 l6 l8 st y x => em_p rfl rfl,
   fun L st y => em_p rfl rfl,
   fun L y a0 a1 a2 a3 a4 => em_call rfl rfl rfl rfl rfl,
   fun L st y => em_p rfl rfl,
   fun L st y z x => em_b rfl rfl,
   fun l1 l2 l3 l4 l5 l6 l7 l8 st y x => em_p rfl rfl,
   fun L st y => em_p rfl rfl,
   fun L st y => em_p rfl rfl,
   fun L st y => em_p rfl rfl,
   fun l0 l2 l3 l4 l5 l6 l7 l8 st y x => em_p rfl rfl,
   fun L st y => em_p rfl rfl,
   fun L st y z x => em_d rfl rfl,
   fun L st y x => em_b rfl rfl,
   fun L st y => em_p rfl rfl,
   fun L st y => em_p rfl rfl,
   fun L st y => em_p rfl rfl,
   fun l0 l2 l3 l4 l5 l6 l7 l8 st y x => em_p rfl rfl,
   fun L st y => em_p rfl rfl,
   fun L st y z x => em_d rfl rfl,
   fun L st y z x => em_p rfl rfl,
   fun L y a0 a1 a2 a3 a4 => em_call rfl rfl rfl rfl rfl,
   fun L st y => em_p rfl rfl,
   fun L st y z x => em_b rfl rfl,
   fun l1 l2 l3 l4 l5 l6 l7 l8 st y x => em_p rfl rfl,
   fun L st y => em_p rfl rfl,
   fun l0 l1 l2 l3 l4 l6 l7 l8 st y x => em_p rfl rfl,
   fun L st y => em_p rfl rfl,
   fun L st y => em_p rfl rfl⟩
set_option maxRecDepth 8000 in
theorem L_232_7 :
  (∀ (L : ri_L) (y : (gy × gy) × Nat) (a0 : Nat) (a1 : Int32) (a2 : Int32) (a3 : Int32) (a4 : Int32), evm C0 b0 L0 xs0 232 (459, L, [.int a4, .int a3, .int a2, .int a1, .ref a0]) y = lm_n (calm C0 b0 L0 xs0 230 [.ref a0, .int a1, .int a2, .int a3, .int a4] y) fun v y => evm C0 b0 L0 xs0 232 (462, L, [v]) y) ∧
  (∀ (L : ri_L) (st : List Value) (y : (gy × gy) × Nat), evm C0 b0 L0 xs0 232 (462, L, st) y = evm C0 b0 L0 xs0 232 (464, L, .int (Int32.ofInt (-9999001)) :: st) y) ∧
  (∀ (L : ri_L) (st : List Value) (y : (gy × gy) × Nat) (z x : Int32), evm C0 b0 L0 xs0 232 (464, L, .int z :: .int x :: st) y = if ¬ x = z then evm C0 b0 L0 xs0 232 (824, L, st) y else evm C0 b0 L0 xs0 232 (467, L, st) y) ∧
  (∀ (l1 l2 l3 l4 l5 l6 l7 l8 : Option Value) (st : List Value) (y : (gy × gy) × Nat) (x : Nat), evm C0 b0 L0 xs0 232 (467, [some (.ref x), l1, l2, l3, l4, l5, l6, l7, l8], st) y = evm C0 b0 L0 xs0 232 (468, [some (.ref x), l1, l2, l3, l4, l5, l6, l7, l8], .ref x :: st) y) ∧
  (∀ (L : ri_L) (st : List Value) (y : (gy × gy) × Nat), evm C0 b0 L0 xs0 232 (468, L, st) y = evm C0 b0 L0 xs0 232 (470, L, .int (Int32.ofInt 9) :: st) y) ∧
  (∀ (L : ri_L) (st : List Value) (y : (gy × gy) × Nat), evm C0 b0 L0 xs0 232 (470, L, st) y = evm C0 b0 L0 xs0 232 (471, L, .int (Int32.ofInt 0) :: st) y) ∧
  (∀ (l0 l1 l2 l3 l4 l5 l6 l8 : Option Value) (st : List Value) (y : (gy × gy) × Nat) (x : Int32), evm C0 b0 L0 xs0 232 (471, [l0, l1, l2, l3, l4, l5, l6, some (.int x), l8], st) y = evm C0 b0 L0 xs0 232 (473, [l0, l1, l2, l3, l4, l5, l6, some (.int x), l8], .int x :: st) y) ∧
  (∀ (L : ri_L) (st : List Value) (y : (gy × gy) × Nat), evm C0 b0 L0 xs0 232 (473, L, st) y = evm C0 b0 L0 xs0 232 (474, L, .int (Int32.ofInt 0) :: st) y) ∧
  (∀ (L : ri_L) (y : (gy × gy) × Nat) (a0 : Nat) (a1 : Int32) (a2 : Int32) (a3 : Int32) (a4 : Int32), evm C0 b0 L0 xs0 232 (474, L, [.int a4, .int a3, .int a2, .int a1, .ref a0]) y = lm_n (calm C0 b0 L0 xs0 230 [.ref a0, .int a1, .int a2, .int a3, .int a4] y) fun v y => evm C0 b0 L0 xs0 232 (477, L, [v]) y) ∧
  (∀ (L : ri_L) (st : List Value) (y : (gy × gy) × Nat), evm C0 b0 L0 xs0 232 (477, L, st) y = evm C0 b0 L0 xs0 232 (479, L, .int (Int32.ofInt (-9999001)) :: st) y) ∧
  (∀ (L : ri_L) (st : List Value) (y : (gy × gy) × Nat) (z x : Int32), evm C0 b0 L0 xs0 232 (479, L, .int z :: .int x :: st) y = if ¬ x = z then evm C0 b0 L0 xs0 232 (824, L, st) y else evm C0 b0 L0 xs0 232 (482, L, st) y) ∧
  (∀ (l1 l2 l3 l4 l5 l6 l7 l8 : Option Value) (st : List Value) (y : (gy × gy) × Nat) (x : Nat), evm C0 b0 L0 xs0 232 (482, [some (.ref x), l1, l2, l3, l4, l5, l6, l7, l8], st) y = evm C0 b0 L0 xs0 232 (483, [some (.ref x), l1, l2, l3, l4, l5, l6, l7, l8], .ref x :: st) y) ∧
  (∀ (L : ri_L) (st : List Value) (y : (gy × gy) × Nat), evm C0 b0 L0 xs0 232 (483, L, st) y = evm C0 b0 L0 xs0 232 (485, L, .int (Int32.ofInt 9) :: st) y) ∧
  (∀ (L : ri_L) (st : List Value) (y : (gy × gy) × Nat), evm C0 b0 L0 xs0 232 (485, L, st) y = evm C0 b0 L0 xs0 232 (486, L, .int (Int32.ofInt 0) :: st) y) ∧
  (∀ (L : ri_L) (st : List Value) (y : (gy × gy) × Nat), evm C0 b0 L0 xs0 232 (486, L, st) y = evm C0 b0 L0 xs0 232 (487, L, .int (Int32.ofInt 0) :: st) y) ∧
  (∀ (l0 l2 l3 l4 l5 l6 l7 l8 : Option Value) (st : List Value) (y : (gy × gy) × Nat) (x : Int32), evm C0 b0 L0 xs0 232 (487, [l0, some (.int x), l2, l3, l4, l5, l6, l7, l8], st) y = evm C0 b0 L0 xs0 232 (488, [l0, some (.int x), l2, l3, l4, l5, l6, l7, l8], .int x :: st) y) ∧
  (∀ (L : ri_L) (st : List Value) (y : (gy × gy) × Nat), evm C0 b0 L0 xs0 232 (488, L, st) y = evm C0 b0 L0 xs0 232 (489, L, .int (Int32.ofInt 2) :: st) y) ∧
  (∀ (L : ri_L) (st : List Value) (y : (gy × gy) × Nat) (z x : Int32), evm C0 b0 L0 xs0 232 (489, L, .int z :: .int x :: st) y = if z = 0 then none else evm C0 b0 L0 xs0 232 (490, L, .int (x - x / z * z) :: st) y) ∧
  (∀ (L : ri_L) (st : List Value) (y : (gy × gy) × Nat) (x : Int32), evm C0 b0 L0 xs0 232 (490, L, .int x :: st) y = if ¬ x = 0 then evm C0 b0 L0 xs0 232 (497, L, st) y else evm C0 b0 L0 xs0 232 (493, L, st) y) ∧
  (∀ (L : ri_L) (st : List Value) (y : (gy × gy) × Nat), evm C0 b0 L0 xs0 232 (493, L, st) y = evm C0 b0 L0 xs0 232 (494, L, .int (Int32.ofInt 0) :: st) y) ∧
  (∀ (L : ri_L) (st : List Value) (y : (gy × gy) × Nat), evm C0 b0 L0 xs0 232 (494, L, st) y = evm C0 b0 L0 xs0 232 (504, L, st) y) ∧
  (∀ (L : ri_L) (st : List Value) (y : (gy × gy) × Nat), evm C0 b0 L0 xs0 232 (497, L, st) y = evm C0 b0 L0 xs0 232 (499, L, .int (Int32.ofInt 10) :: st) y) ∧
  (∀ (l0 l2 l3 l4 l5 l6 l7 l8 : Option Value) (st : List Value) (y : (gy × gy) × Nat) (x : Int32), evm C0 b0 L0 xs0 232 (499, [l0, some (.int x), l2, l3, l4, l5, l6, l7, l8], st) y = evm C0 b0 L0 xs0 232 (500, [l0, some (.int x), l2, l3, l4, l5, l6, l7, l8], .int x :: st) y) ∧
  (∀ (L : ri_L) (st : List Value) (y : (gy × gy) × Nat), evm C0 b0 L0 xs0 232 (500, L, st) y = evm C0 b0 L0 xs0 232 (502, L, .int (Int32.ofInt 9) :: st) y) ∧
  (∀ (L : ri_L) (st : List Value) (y : (gy × gy) × Nat) (z x : Int32), evm C0 b0 L0 xs0 232 (502, L, .int z :: .int x :: st) y = if z = 0 then none else evm C0 b0 L0 xs0 232 (503, L, .int (x - x / z * z) :: st) y) ∧
  (∀ (L : ri_L) (st : List Value) (y : (gy × gy) × Nat) (z x : Int32), evm C0 b0 L0 xs0 232 (503, L, .int z :: .int x :: st) y = evm C0 b0 L0 xs0 232 (504, L, .int (x + z) :: st) y) ∧
  (∀ (L : ri_L) (y : (gy × gy) × Nat) (a0 : Nat) (a1 : Int32) (a2 : Int32) (a3 : Int32) (a4 : Int32), evm C0 b0 L0 xs0 232 (504, L, [.int a4, .int a3, .int a2, .int a1, .ref a0]) y = lm_n (calm C0 b0 L0 xs0 230 [.ref a0, .int a1, .int a2, .int a3, .int a4] y) fun v y => evm C0 b0 L0 xs0 232 (507, L, [v]) y) ∧
  (∀ (L : ri_L) (st : List Value) (y : (gy × gy) × Nat), evm C0 b0 L0 xs0 232 (507, L, st) y = evm C0 b0 L0 xs0 232 (509, L, .int (Int32.ofInt (-9999002)) :: st) y) ∧
  (∀ (L : ri_L) (st : List Value) (y : (gy × gy) × Nat) (z x : Int32), evm C0 b0 L0 xs0 232 (509, L, .int z :: .int x :: st) y = if ¬ x = z then evm C0 b0 L0 xs0 232 (824, L, st) y else evm C0 b0 L0 xs0 232 (512, L, st) y) ∧
  (∀ (l1 l2 l3 l4 l5 l6 l7 l8 : Option Value) (st : List Value) (y : (gy × gy) × Nat) (x : Nat), evm C0 b0 L0 xs0 232 (512, [some (.ref x), l1, l2, l3, l4, l5, l6, l7, l8], st) y = evm C0 b0 L0 xs0 232 (513, [some (.ref x), l1, l2, l3, l4, l5, l6, l7, l8], .ref x :: st) y) ∧
  (∀ (L : ri_L) (st : List Value) (y : (gy × gy) × Nat), evm C0 b0 L0 xs0 232 (513, L, st) y = evm C0 b0 L0 xs0 232 (515, L, .int (Int32.ofInt 10) :: st) y) ∧
  (∀ (l0 l1 l2 l3 l4 l5 l7 l8 : Option Value) (st : List Value) (y : (gy × gy) × Nat) (x : Int32), evm C0 b0 L0 xs0 232 (515, [l0, l1, l2, l3, l4, l5, some (.int x), l7, l8], st) y = evm C0 b0 L0 xs0 232 (517, [l0, l1, l2, l3, l4, l5, some (.int x), l7, l8], .int x :: st) y) ∧
  (∀ (L : ri_L) (st : List Value) (y : (gy × gy) × Nat), evm C0 b0 L0 xs0 232 (517, L, st) y = evm C0 b0 L0 xs0 232 (518, L, .int (Int32.ofInt 0) :: st) y) ∧
  (∀ (L : ri_L) (st : List Value) (y : (gy × gy) × Nat), evm C0 b0 L0 xs0 232 (518, L, st) y = evm C0 b0 L0 xs0 232 (519, L, .int (Int32.ofInt 0) :: st) y) ∧
  (∀ (L : ri_L) (y : (gy × gy) × Nat) (a0 : Nat) (a1 : Int32) (a2 : Int32) (a3 : Int32) (a4 : Int32), evm C0 b0 L0 xs0 232 (519, L, [.int a4, .int a3, .int a2, .int a1, .ref a0]) y = lm_n (calm C0 b0 L0 xs0 230 [.ref a0, .int a1, .int a2, .int a3, .int a4] y) fun v y => evm C0 b0 L0 xs0 232 (522, L, [v]) y) ∧
  (∀ (L : ri_L) (st : List Value) (y : (gy × gy) × Nat), evm C0 b0 L0 xs0 232 (522, L, st) y = evm C0 b0 L0 xs0 232 (524, L, .int (Int32.ofInt (-9999001)) :: st) y) ∧
  (∀ (L : ri_L) (st : List Value) (y : (gy × gy) × Nat) (z x : Int32), evm C0 b0 L0 xs0 232 (524, L, .int z :: .int x :: st) y = if ¬ x = z then evm C0 b0 L0 xs0 232 (824, L, st) y else evm C0 b0 L0 xs0 232 (527, L, st) y) ∧
  (∀ (l1 l2 l3 l4 l5 l6 l7 l8 : Option Value) (st : List Value) (y : (gy × gy) × Nat) (x : Nat), evm C0 b0 L0 xs0 232 (527, [some (.ref x), l1, l2, l3, l4, l5, l6, l7, l8], st) y = evm C0 b0 L0 xs0 232 (528, [some (.ref x), l1, l2, l3, l4, l5, l6, l7, l8], .ref x :: st) y) ∧
  (∀ (L : ri_L) (st : List Value) (y : (gy × gy) × Nat), evm C0 b0 L0 xs0 232 (528, L, st) y = evm C0 b0 L0 xs0 232 (530, L, .int (Int32.ofInt 10) :: st) y) ∧
  (∀ (L : ri_L) (st : List Value) (y : (gy × gy) × Nat), evm C0 b0 L0 xs0 232 (530, L, st) y = evm C0 b0 L0 xs0 232 (531, L, .int (Int32.ofInt 0) :: st) y) :=
  ⟨fun L y a0 a1 a2 a3 a4 => em_call rfl rfl rfl rfl rfl,
   fun L st y => em_p rfl rfl,
   fun L st y z x => em_b rfl rfl,
   fun l1 l2 l3 l4 l5 l6 l7 l8 st y x => em_p rfl rfl,
   fun L st y => em_p rfl rfl,
   fun L st y => em_p rfl rfl,
   fun l0 l1 l2 l3 l4 l5 l6 l8 st y x => em_p rfl rfl,
   fun L st y => em_p rfl rfl,
   fun L y a0 a1 a2 a3 a4 => em_call rfl rfl rfl rfl rfl,
   fun L st y => em_p rfl rfl,
   fun L st y z x => em_b rfl rfl,
   fun l1 l2 l3 l4 l5 l6 l7 l8 st y x => em_p rfl rfl,
   fun L st y => em_p rfl rfl,
   fun L st y => em_p rfl rfl,
   fun L st y => em_p rfl rfl,
   fun l0 l2 l3 l4 l5 l6 l7 l8 st y x => em_p rfl rfl,
   fun L st y => em_p rfl rfl,
   fun L st y z x => em_d rfl rfl,
   fun L st y x => em_b rfl rfl,
   fun L st y => em_p rfl rfl,
   fun L st y => em_p rfl rfl,
   fun L st y => em_p rfl rfl,
   fun l0 l2 l3 l4 l5 l6 l7 l8 st y x => em_p rfl rfl,
   fun L st y => em_p rfl rfl,
   fun L st y z x => em_d rfl rfl,
   fun L st y z x => em_p rfl rfl,
   fun L y a0 a1 a2 a3 a4 => em_call rfl rfl rfl rfl rfl,
   fun L st y => em_p rfl rfl,
   fun L st y z x => em_b rfl rfl,
   fun l1 l2 l3 l4 l5 l6 l7 l8 st y x => em_p rfl rfl,
   fun L st y => em_p rfl rfl,
   fun l0 l1 l2 l3 l4 l5 l7 l8 st y x => em_p rfl rfl,
   fun L st y => em_p rfl rfl,
   fun L st y => em_p rfl rfl,
   fun L y a0 a1 a2 a3 a4 => em_call rfl rfl rfl rfl rfl,
   fun L st y => em_p rfl rfl,
   fun L st y z x => em_b rfl rfl,
   fun l1 l2 l3 l4 l5 l6 l7 l8 st y x => em_p rfl rfl,
   fun L st y => em_p rfl rfl,
   fun L st y => em_p rfl rfl⟩
set_option maxRecDepth 8000 in
theorem L_232_8 :
  (∀ (l0 l1 l2 l4 l5 l6 l7 l8 : Option Value) (st : List Value) (y : (gy × gy) × Nat) (x : Int32), evm C0 b0 L0 xs0 232 (531, [l0, l1, l2, some (.int x), l4, l5, l6, l7, l8], st) y = evm C0 b0 L0 xs0 232 (532, [l0, l1, l2, some (.int x), l4, l5, l6, l7, l8], .int x :: st) y) ∧
  (∀ (l0 l2 l3 l4 l5 l6 l7 l8 : Option Value) (st : List Value) (y : (gy × gy) × Nat) (x : Int32), evm C0 b0 L0 xs0 232 (532, [l0, some (.int x), l2, l3, l4, l5, l6, l7, l8], st) y = evm C0 b0 L0 xs0 232 (533, [l0, some (.int x), l2, l3, l4, l5, l6, l7, l8], .int x :: st) y) ∧
  (∀ (L : ri_L) (st : List Value) (y : (gy × gy) × Nat), evm C0 b0 L0 xs0 232 (533, L, st) y = evm C0 b0 L0 xs0 232 (535, L, .int (Int32.ofInt 9) :: st) y) ∧
  (∀ (L : ri_L) (st : List Value) (y : (gy × gy) × Nat) (z x : Int32), evm C0 b0 L0 xs0 232 (535, L, .int z :: .int x :: st) y = if z = 0 then none else evm C0 b0 L0 xs0 232 (536, L, .int (x - x / z * z) :: st) y) ∧
  (∀ (L : ri_L) (st : List Value) (y : (gy × gy) × Nat) (z x : Int32), evm C0 b0 L0 xs0 232 (536, L, .int z :: .int x :: st) y = evm C0 b0 L0 xs0 232 (537, L, .int (x + z) :: st) y) ∧
  (∀ (L : ri_L) (st : List Value) (y : (gy × gy) × Nat), evm C0 b0 L0 xs0 232 (537, L, st) y = evm C0 b0 L0 xs0 232 (538, L, .int (Int32.ofInt 0) :: st) y) ∧
  (∀ (L : ri_L) (y : (gy × gy) × Nat) (a0 : Nat) (a1 : Int32) (a2 : Int32) (a3 : Int32) (a4 : Int32), evm C0 b0 L0 xs0 232 (538, L, [.int a4, .int a3, .int a2, .int a1, .ref a0]) y = lm_n (calm C0 b0 L0 xs0 230 [.ref a0, .int a1, .int a2, .int a3, .int a4] y) fun v y => evm C0 b0 L0 xs0 232 (541, L, [v]) y) ∧
  (∀ (L : ri_L) (st : List Value) (y : (gy × gy) × Nat), evm C0 b0 L0 xs0 232 (541, L, st) y = evm C0 b0 L0 xs0 232 (543, L, .int (Int32.ofInt (-9999001)) :: st) y) ∧
  (∀ (L : ri_L) (st : List Value) (y : (gy × gy) × Nat) (z x : Int32), evm C0 b0 L0 xs0 232 (543, L, .int z :: .int x :: st) y = if ¬ x = z then evm C0 b0 L0 xs0 232 (824, L, st) y else evm C0 b0 L0 xs0 232 (546, L, st) y) ∧
  (∀ (l1 l2 l3 l4 l5 l6 l7 l8 : Option Value) (st : List Value) (y : (gy × gy) × Nat) (x : Nat), evm C0 b0 L0 xs0 232 (546, [some (.ref x), l1, l2, l3, l4, l5, l6, l7, l8], st) y = evm C0 b0 L0 xs0 232 (547, [some (.ref x), l1, l2, l3, l4, l5, l6, l7, l8], .ref x :: st) y) ∧
  (∀ (L : ri_L) (st : List Value) (y : (gy × gy) × Nat), evm C0 b0 L0 xs0 232 (547, L, st) y = evm C0 b0 L0 xs0 232 (549, L, .int (Int32.ofInt 11) :: st) y) ∧
  (∀ (l0 l1 l2 l3 l4 l5 l7 l8 : Option Value) (st : List Value) (y : (gy × gy) × Nat) (x : Int32), evm C0 b0 L0 xs0 232 (549, [l0, l1, l2, l3, l4, l5, some (.int x), l7, l8], st) y = evm C0 b0 L0 xs0 232 (551, [l0, l1, l2, l3, l4, l5, some (.int x), l7, l8], .int x :: st) y) ∧
  (∀ (L : ri_L) (st : List Value) (y : (gy × gy) × Nat), evm C0 b0 L0 xs0 232 (551, L, st) y = evm C0 b0 L0 xs0 232 (553, L, .int (Int32.ofInt 9) :: st) y) ∧
  (∀ (L : ri_L) (st : List Value) (y : (gy × gy) × Nat), evm C0 b0 L0 xs0 232 (553, L, st) y = evm C0 b0 L0 xs0 232 (554, L, .int (Int32.ofInt 0) :: st) y) ∧
  (∀ (L : ri_L) (y : (gy × gy) × Nat) (a0 : Nat) (a1 : Int32) (a2 : Int32) (a3 : Int32) (a4 : Int32), evm C0 b0 L0 xs0 232 (554, L, [.int a4, .int a3, .int a2, .int a1, .ref a0]) y = lm_n (calm C0 b0 L0 xs0 230 [.ref a0, .int a1, .int a2, .int a3, .int a4] y) fun v y => evm C0 b0 L0 xs0 232 (557, L, [v]) y) ∧
  (∀ (L : ri_L) (st : List Value) (y : (gy × gy) × Nat), evm C0 b0 L0 xs0 232 (557, L, st) y = evm C0 b0 L0 xs0 232 (559, L, .int (Int32.ofInt (-9999001)) :: st) y) ∧
  (∀ (L : ri_L) (st : List Value) (y : (gy × gy) × Nat) (z x : Int32), evm C0 b0 L0 xs0 232 (559, L, .int z :: .int x :: st) y = if ¬ x = z then evm C0 b0 L0 xs0 232 (824, L, st) y else evm C0 b0 L0 xs0 232 (562, L, st) y) ∧
  (∀ (l1 l2 l3 l4 l5 l6 l7 l8 : Option Value) (st : List Value) (y : (gy × gy) × Nat) (x : Nat), evm C0 b0 L0 xs0 232 (562, [some (.ref x), l1, l2, l3, l4, l5, l6, l7, l8], st) y = evm C0 b0 L0 xs0 232 (563, [some (.ref x), l1, l2, l3, l4, l5, l6, l7, l8], .ref x :: st) y) ∧
  (∀ (L : ri_L) (st : List Value) (y : (gy × gy) × Nat), evm C0 b0 L0 xs0 232 (563, L, st) y = evm C0 b0 L0 xs0 232 (565, L, .int (Int32.ofInt 12) :: st) y) ∧
  (∀ (l0 l1 l2 l3 l4 l6 l7 l8 : Option Value) (st : List Value) (y : (gy × gy) × Nat) (x : Int32), evm C0 b0 L0 xs0 232 (565, [l0, l1, l2, l3, l4, some (.int x), l6, l7, l8], st) y = evm C0 b0 L0 xs0 232 (567, [l0, l1, l2, l3, l4, some (.int x), l6, l7, l8], .int x :: st) y) ∧
  (∀ (L : ri_L) (st : List Value) (y : (gy × gy) × Nat), evm C0 b0 L0 xs0 232 (567, L, st) y = evm C0 b0 L0 xs0 232 (569, L, .int (Int32.ofInt 99) :: st) y) ∧
  (∀ (L : ri_L) (st : List Value) (y : (gy × gy) × Nat), evm C0 b0 L0 xs0 232 (569, L, st) y = evm C0 b0 L0 xs0 232 (570, L, .int (Int32.ofInt 0) :: st) y) ∧
  (∀ (L : ri_L) (y : (gy × gy) × Nat) (a0 : Nat) (a1 : Int32) (a2 : Int32) (a3 : Int32) (a4 : Int32), evm C0 b0 L0 xs0 232 (570, L, [.int a4, .int a3, .int a2, .int a1, .ref a0]) y = lm_n (calm C0 b0 L0 xs0 230 [.ref a0, .int a1, .int a2, .int a3, .int a4] y) fun v y => evm C0 b0 L0 xs0 232 (573, L, [v]) y) ∧
  (∀ (L : ri_L) (st : List Value) (y : (gy × gy) × Nat), evm C0 b0 L0 xs0 232 (573, L, st) y = evm C0 b0 L0 xs0 232 (575, L, .int (Int32.ofInt (-9999001)) :: st) y) ∧
  (∀ (L : ri_L) (st : List Value) (y : (gy × gy) × Nat) (z x : Int32), evm C0 b0 L0 xs0 232 (575, L, .int z :: .int x :: st) y = if ¬ x = z then evm C0 b0 L0 xs0 232 (824, L, st) y else evm C0 b0 L0 xs0 232 (578, L, st) y) ∧
  (∀ (l1 l2 l3 l4 l5 l6 l7 l8 : Option Value) (st : List Value) (y : (gy × gy) × Nat) (x : Nat), evm C0 b0 L0 xs0 232 (578, [some (.ref x), l1, l2, l3, l4, l5, l6, l7, l8], st) y = evm C0 b0 L0 xs0 232 (579, [some (.ref x), l1, l2, l3, l4, l5, l6, l7, l8], .ref x :: st) y) ∧
  (∀ (L : ri_L) (st : List Value) (y : (gy × gy) × Nat), evm C0 b0 L0 xs0 232 (579, L, st) y = evm C0 b0 L0 xs0 232 (581, L, .int (Int32.ofInt 12) :: st) y) ∧
  (∀ (L : ri_L) (st : List Value) (y : (gy × gy) × Nat), evm C0 b0 L0 xs0 232 (581, L, st) y = evm C0 b0 L0 xs0 232 (582, L, .int (Int32.ofInt 0) :: st) y) ∧
  (∀ (l0 l2 l3 l4 l5 l6 l7 l8 : Option Value) (st : List Value) (y : (gy × gy) × Nat) (x : Int32), evm C0 b0 L0 xs0 232 (582, [l0, some (.int x), l2, l3, l4, l5, l6, l7, l8], st) y = evm C0 b0 L0 xs0 232 (583, [l0, some (.int x), l2, l3, l4, l5, l6, l7, l8], .int x :: st) y) ∧
  (∀ (L : ri_L) (st : List Value) (y : (gy × gy) × Nat), evm C0 b0 L0 xs0 232 (583, L, st) y = evm C0 b0 L0 xs0 232 (584, L, .int (Int32.ofInt 2) :: st) y) ∧
  (∀ (L : ri_L) (st : List Value) (y : (gy × gy) × Nat) (z x : Int32), evm C0 b0 L0 xs0 232 (584, L, .int z :: .int x :: st) y = if z = 0 then none else evm C0 b0 L0 xs0 232 (585, L, .int (x - x / z * z) :: st) y) ∧
  (∀ (L : ri_L) (st : List Value) (y : (gy × gy) × Nat) (x : Int32), evm C0 b0 L0 xs0 232 (585, L, .int x :: st) y = if ¬ x = 0 then evm C0 b0 L0 xs0 232 (598, L, st) y else evm C0 b0 L0 xs0 232 (588, L, st) y) ∧
  (∀ (L : ri_L) (st : List Value) (y : (gy × gy) × Nat), evm C0 b0 L0 xs0 232 (588, L, st) y = evm C0 b0 L0 xs0 232 (590, L, .int (Int32.ofInt (-5)) :: st) y) ∧
  (∀ (l0 l2 l3 l4 l5 l6 l7 l8 : Option Value) (st : List Value) (y : (gy × gy) × Nat) (x : Int32), evm C0 b0 L0 xs0 232 (590, [l0, some (.int x), l2, l3, l4, l5, l6, l7, l8], st) y = evm C0 b0 L0 xs0 232 (591, [l0, some (.int x), l2, l3, l4, l5, l6, l7, l8], .int x :: st) y) ∧
  (∀ (L : ri_L) (st : List Value) (y : (gy × gy) × Nat), evm C0 b0 L0 xs0 232 (591, L, st) y = evm C0 b0 L0 xs0 232 (593, L, .int (Int32.ofInt 9) :: st) y) ∧
  (∀ (L : ri_L) (st : List Value) (y : (gy × gy) × Nat) (z x : Int32), evm C0 b0 L0 xs0 232 (593, L, .int z :: .int x :: st) y = if z = 0 then none else evm C0 b0 L0 xs0 232 (594, L, .int (x - x / z * z) :: st) y) ∧
  (∀ (L : ri_L) (st : List Value) (y : (gy × gy) × Nat) (z x : Int32), evm C0 b0 L0 xs0 232 (594, L, .int z :: .int x :: st) y = evm C0 b0 L0 xs0 232 (595, L, .int (x - z) :: st) y) ∧
  (∀ (L : ri_L) (st : List Value) (y : (gy × gy) × Nat), evm C0 b0 L0 xs0 232 (595, L, st) y = evm C0 b0 L0 xs0 232 (604, L, st) y) ∧
  (∀ (L : ri_L) (st : List Value) (y : (gy × gy) × Nat), evm C0 b0 L0 xs0 232 (598, L, st) y = evm C0 b0 L0 xs0 232 (599, L, .int (Int32.ofInt 5) :: st) y) ∧
  (∀ (l0 l2 l3 l4 l5 l6 l7 l8 : Option Value) (st : List Value) (y : (gy × gy) × Nat) (x : Int32), evm C0 b0 L0 xs0 232 (599, [l0, some (.int x), l2, l3, l4, l5, l6, l7, l8], st) y = evm C0 b0 L0 xs0 232 (600, [l0, some (.int x), l2, l3, l4, l5, l6, l7, l8], .int x :: st) y) :=
  ⟨fun l0 l1 l2 l4 l5 l6 l7 l8 st y x => em_p rfl rfl,
   fun l0 l2 l3 l4 l5 l6 l7 l8 st y x => em_p rfl rfl,
   fun L st y => em_p rfl rfl,
   fun L st y z x => em_d rfl rfl,
   fun L st y z x => em_p rfl rfl,
   fun L st y => em_p rfl rfl,
   fun L y a0 a1 a2 a3 a4 => em_call rfl rfl rfl rfl rfl,
   fun L st y => em_p rfl rfl,
   fun L st y z x => em_b rfl rfl,
   fun l1 l2 l3 l4 l5 l6 l7 l8 st y x => em_p rfl rfl,
   fun L st y => em_p rfl rfl,
   fun l0 l1 l2 l3 l4 l5 l7 l8 st y x => em_p rfl rfl,
   fun L st y => em_p rfl rfl,
   fun L st y => em_p rfl rfl,
   fun L y a0 a1 a2 a3 a4 => em_call rfl rfl rfl rfl rfl,
   fun L st y => em_p rfl rfl,
   fun L st y z x => em_b rfl rfl,
   fun l1 l2 l3 l4 l5 l6 l7 l8 st y x => em_p rfl rfl,
   fun L st y => em_p rfl rfl,
   fun l0 l1 l2 l3 l4 l6 l7 l8 st y x => em_p rfl rfl,
   fun L st y => em_p rfl rfl,
   fun L st y => em_p rfl rfl,
   fun L y a0 a1 a2 a3 a4 => em_call rfl rfl rfl rfl rfl,
   fun L st y => em_p rfl rfl,
   fun L st y z x => em_b rfl rfl,
   fun l1 l2 l3 l4 l5 l6 l7 l8 st y x => em_p rfl rfl,
   fun L st y => em_p rfl rfl,
   fun L st y => em_p rfl rfl,
   fun l0 l2 l3 l4 l5 l6 l7 l8 st y x => em_p rfl rfl,
   fun L st y => em_p rfl rfl,
   fun L st y z x => em_d rfl rfl,
   fun L st y x => em_b rfl rfl,
   fun L st y => em_p rfl rfl,
   fun l0 l2 l3 l4 l5 l6 l7 l8 st y x => em_p rfl rfl,
   fun L st y => em_p rfl rfl,
   fun L st y z x => em_d rfl rfl,
   fun L st y z x => em_p rfl rfl,
   fun L st y => em_p rfl rfl,
   fun L st y => em_p rfl rfl,
   fun l0 l2 l3 l4 l5 l6 l7 l8 st y x => em_p rfl rfl⟩
set_option maxRecDepth 8000 in
theorem L_232_9 :
  (∀ (L : ri_L) (st : List Value) (y : (gy × gy) × Nat), evm C0 b0 L0 xs0 232 (600, L, st) y = evm C0 b0 L0 xs0 232 (602, L, .int (Int32.ofInt 9) :: st) y) ∧
  (∀ (L : ri_L) (st : List Value) (y : (gy × gy) × Nat) (z x : Int32), evm C0 b0 L0 xs0 232 (602, L, .int z :: .int x :: st) y = if z = 0 then none else evm C0 b0 L0 xs0 232 (603, L, .int (x - x / z * z) :: st) y) ∧
  (∀ (L : ri_L) (st : List Value) (y : (gy × gy) × Nat) (z x : Int32), evm C0 b0 L0 xs0 232 (603, L, .int z :: .int x :: st) y = evm C0 b0 L0 xs0 232 (604, L, .int (x + z) :: st) y) ∧
  (∀ (L : ri_L) (st : List Value) (y : (gy × gy) × Nat), evm C0 b0 L0 xs0 232 (604, L, st) y = evm C0 b0 L0 xs0 232 (605, L, .int (Int32.ofInt 0) :: st) y) ∧
  (∀ (L : ri_L) (y : (gy × gy) × Nat) (a0 : Nat) (a1 : Int32) (a2 : Int32) (a3 : Int32) (a4 : Int32), evm C0 b0 L0 xs0 232 (605, L, [.int a4, .int a3, .int a2, .int a1, .ref a0]) y = lm_n (calm C0 b0 L0 xs0 230 [.ref a0, .int a1, .int a2, .int a3, .int a4] y) fun v y => evm C0 b0 L0 xs0 232 (608, L, [v]) y) ∧
  (∀ (L : ri_L) (st : List Value) (y : (gy × gy) × Nat), evm C0 b0 L0 xs0 232 (608, L, st) y = evm C0 b0 L0 xs0 232 (610, L, .int (Int32.ofInt (-9999002)) :: st) y) ∧
  (∀ (L : ri_L) (st : List Value) (y : (gy × gy) × Nat) (z x : Int32), evm C0 b0 L0 xs0 232 (610, L, .int z :: .int x :: st) y = if ¬ x = z then evm C0 b0 L0 xs0 232 (824, L, st) y else evm C0 b0 L0 xs0 232 (613, L, st) y) ∧
  (∀ (l1 l2 l3 l4 l5 l6 l7 l8 : Option Value) (st : List Value) (y : (gy × gy) × Nat) (x : Nat), evm C0 b0 L0 xs0 232 (613, [some (.ref x), l1, l2, l3, l4, l5, l6, l7, l8], st) y = evm C0 b0 L0 xs0 232 (614, [some (.ref x), l1, l2, l3, l4, l5, l6, l7, l8], .ref x :: st) y) ∧
  (∀ (L : ri_L) (st : List Value) (y : (gy × gy) × Nat), evm C0 b0 L0 xs0 232 (614, L, st) y = evm C0 b0 L0 xs0 232 (616, L, .int (Int32.ofInt 13) :: st) y) ∧
  (∀ (l0 l2 l3 l4 l5 l6 l7 l8 : Option Value) (st : List Value) (y : (gy × gy) × Nat) (x : Int32), evm C0 b0 L0 xs0 232 (616, [l0, some (.int x), l2, l3, l4, l5, l6, l7, l8], st) y = evm C0 b0 L0 xs0 232 (617, [l0, some (.int x), l2, l3, l4, l5, l6, l7, l8], .int x :: st) y) ∧
  (∀ (L : ri_L) (st : List Value) (y : (gy × gy) × Nat), evm C0 b0 L0 xs0 232 (617, L, st) y = evm C0 b0 L0 xs0 232 (618, L, .int (Int32.ofInt 2) :: st) y) ∧
  (∀ (L : ri_L) (st : List Value) (y : (gy × gy) × Nat) (z x : Int32), evm C0 b0 L0 xs0 232 (618, L, .int z :: .int x :: st) y = if z = 0 then none else evm C0 b0 L0 xs0 232 (619, L, .int (x - x / z * z) :: st) y) ∧
  (∀ (L : ri_L) (st : List Value) (y : (gy × gy) × Nat) (x : Int32), evm C0 b0 L0 xs0 232 (619, L, .int x :: st) y = if ¬ x = 0 then evm C0 b0 L0 xs0 232 (626, L, st) y else evm C0 b0 L0 xs0 232 (622, L, st) y) ∧
  (∀ (L : ri_L) (st : List Value) (y : (gy × gy) × Nat), evm C0 b0 L0 xs0 232 (622, L, st) y = evm C0 b0 L0 xs0 232 (623, L, .int (Int32.ofInt (-1)) :: st) y) ∧
  (∀ (L : ri_L) (st : List Value) (y : (gy × gy) × Nat), evm C0 b0 L0 xs0 232 (623, L, st) y = evm C0 b0 L0 xs0 232 (632, L, st) y) ∧
  (∀ (L : ri_L) (st : List Value) (y : (gy × gy) × Nat), evm C0 b0 L0 xs0 232 (626, L, st) y = evm C0 b0 L0 xs0 232 (627, L, .int (Int32.ofInt 2) :: st) y) ∧
  (∀ (l0 l2 l3 l4 l5 l6 l7 l8 : Option Value) (st : List Value) (y : (gy × gy) × Nat) (x : Int32), evm C0 b0 L0 xs0 232 (627, [l0, some (.int x), l2, l3, l4, l5, l6, l7, l8], st) y = evm C0 b0 L0 xs0 232 (628, [l0, some (.int x), l2, l3, l4, l5, l6, l7, l8], .int x :: st) y) ∧
  (∀ (L : ri_L) (st : List Value) (y : (gy × gy) × Nat), evm C0 b0 L0 xs0 232 (628, L, st) y = evm C0 b0 L0 xs0 232 (630, L, .int (Int32.ofInt 9) :: st) y) ∧
  (∀ (L : ri_L) (st : List Value) (y : (gy × gy) × Nat) (z x : Int32), evm C0 b0 L0 xs0 232 (630, L, .int z :: .int x :: st) y = if z = 0 then none else evm C0 b0 L0 xs0 232 (631, L, .int (x - x / z * z) :: st) y) ∧
  (∀ (L : ri_L) (st : List Value) (y : (gy × gy) × Nat) (z x : Int32), evm C0 b0 L0 xs0 232 (631, L, .int z :: .int x :: st) y = evm C0 b0 L0 xs0 232 (632, L, .int (x + z) :: st) y) ∧
  (∀ (L : ri_L) (st : List Value) (y : (gy × gy) × Nat), evm C0 b0 L0 xs0 232 (632, L, st) y = evm C0 b0 L0 xs0 232 (633, L, .int (Int32.ofInt 0) :: st) y) ∧
  (∀ (L : ri_L) (st : List Value) (y : (gy × gy) × Nat), evm C0 b0 L0 xs0 232 (633, L, st) y = evm C0 b0 L0 xs0 232 (634, L, .int (Int32.ofInt 0) :: st) y) ∧
  (∀ (L : ri_L) (y : (gy × gy) × Nat) (a0 : Nat) (a1 : Int32) (a2 : Int32) (a3 : Int32) (a4 : Int32), evm C0 b0 L0 xs0 232 (634, L, [.int a4, .int a3, .int a2, .int a1, .ref a0]) y = lm_n (calm C0 b0 L0 xs0 230 [.ref a0, .int a1, .int a2, .int a3, .int a4] y) fun v y => evm C0 b0 L0 xs0 232 (637, L, [v]) y) ∧
  (∀ (L : ri_L) (st : List Value) (y : (gy × gy) × Nat), evm C0 b0 L0 xs0 232 (637, L, st) y = evm C0 b0 L0 xs0 232 (639, L, .int (Int32.ofInt (-9999002)) :: st) y) ∧
  (∀ (L : ri_L) (st : List Value) (y : (gy × gy) × Nat) (z x : Int32), evm C0 b0 L0 xs0 232 (639, L, .int z :: .int x :: st) y = if ¬ x = z then evm C0 b0 L0 xs0 232 (824, L, st) y else evm C0 b0 L0 xs0 232 (642, L, st) y) ∧
  (∀ (l1 l2 l3 l4 l5 l6 l7 l8 : Option Value) (st : List Value) (y : (gy × gy) × Nat) (x : Nat), evm C0 b0 L0 xs0 232 (642, [some (.ref x), l1, l2, l3, l4, l5, l6, l7, l8], st) y = evm C0 b0 L0 xs0 232 (643, [some (.ref x), l1, l2, l3, l4, l5, l6, l7, l8], .ref x :: st) y) ∧
  (∀ (L : ri_L) (st : List Value) (y : (gy × gy) × Nat), evm C0 b0 L0 xs0 232 (643, L, st) y = evm C0 b0 L0 xs0 232 (645, L, .int (Int32.ofInt 15) :: st) y) ∧
  (∀ (l0 l1 l2 l3 l4 l5 l7 l8 : Option Value) (st : List Value) (y : (gy × gy) × Nat) (x : Int32), evm C0 b0 L0 xs0 232 (645, [l0, l1, l2, l3, l4, l5, some (.int x), l7, l8], st) y = evm C0 b0 L0 xs0 232 (647, [l0, l1, l2, l3, l4, l5, some (.int x), l7, l8], .int x :: st) y) ∧
  (∀ (L : ri_L) (st : List Value) (y : (gy × gy) × Nat), evm C0 b0 L0 xs0 232 (647, L, st) y = evm C0 b0 L0 xs0 232 (648, L, .int (Int32.ofInt 0) :: st) y) ∧
  (∀ (L : ri_L) (st : List Value) (y : (gy × gy) × Nat), evm C0 b0 L0 xs0 232 (648, L, st) y = evm C0 b0 L0 xs0 232 (649, L, .int (Int32.ofInt 0) :: st) y) ∧
  (∀ (L : ri_L) (y : (gy × gy) × Nat) (a0 : Nat) (a1 : Int32) (a2 : Int32) (a3 : Int32) (a4 : Int32), evm C0 b0 L0 xs0 232 (649, L, [.int a4, .int a3, .int a2, .int a1, .ref a0]) y = lm_n (calm C0 b0 L0 xs0 230 [.ref a0, .int a1, .int a2, .int a3, .int a4] y) fun v y => evm C0 b0 L0 xs0 232 (652, L, [v]) y) ∧
  (∀ (L : ri_L) (st : List Value) (y : (gy × gy) × Nat), evm C0 b0 L0 xs0 232 (652, L, st) y = evm C0 b0 L0 xs0 232 (654, L, .int (Int32.ofInt (-9999001)) :: st) y) ∧
  (∀ (L : ri_L) (st : List Value) (y : (gy × gy) × Nat) (z x : Int32), evm C0 b0 L0 xs0 232 (654, L, .int z :: .int x :: st) y = if ¬ x = z then evm C0 b0 L0 xs0 232 (824, L, st) y else evm C0 b0 L0 xs0 232 (657, L, st) y) ∧
  (∀ (l1 l2 l3 l4 l5 l6 l7 l8 : Option Value) (st : List Value) (y : (gy × gy) × Nat) (x : Nat), evm C0 b0 L0 xs0 232 (657, [some (.ref x), l1, l2, l3, l4, l5, l6, l7, l8], st) y = evm C0 b0 L0 xs0 232 (658, [some (.ref x), l1, l2, l3, l4, l5, l6, l7, l8], .ref x :: st) y) ∧
  (∀ (L : ri_L) (st : List Value) (y : (gy × gy) × Nat), evm C0 b0 L0 xs0 232 (658, L, st) y = evm C0 b0 L0 xs0 232 (660, L, .int (Int32.ofInt 15) :: st) y) ∧
  (∀ (L : ri_L) (st : List Value) (y : (gy × gy) × Nat), evm C0 b0 L0 xs0 232 (660, L, st) y = evm C0 b0 L0 xs0 232 (661, L, .int (Int32.ofInt 0) :: st) y) ∧
  (∀ (l0 l1 l2 l4 l5 l6 l7 l8 : Option Value) (st : List Value) (y : (gy × gy) × Nat) (x : Int32), evm C0 b0 L0 xs0 232 (661, [l0, l1, l2, some (.int x), l4, l5, l6, l7, l8], st) y = evm C0 b0 L0 xs0 232 (662, [l0, l1, l2, some (.int x), l4, l5, l6, l7, l8], .int x :: st) y) ∧
  (∀ (l0 l2 l3 l4 l5 l6 l7 l8 : Option Value) (st : List Value) (y : (gy × gy) × Nat) (x : Int32), evm C0 b0 L0 xs0 232 (662, [l0, some (.int x), l2, l3, l4, l5, l6, l7, l8], st) y = evm C0 b0 L0 xs0 232 (663, [l0, some (.int x), l2, l3, l4, l5, l6, l7, l8], .int x :: st) y) ∧
  (∀ (L : ri_L) (st : List Value) (y : (gy × gy) × Nat), evm C0 b0 L0 xs0 232 (663, L, st) y = evm C0 b0 L0 xs0 232 (665, L, .int (Int32.ofInt 9) :: st) y) ∧
  (∀ (L : ri_L) (st : List Value) (y : (gy × gy) × Nat) (z x : Int32), evm C0 b0 L0 xs0 232 (665, L, .int z :: .int x :: st) y = if z = 0 then none else evm C0 b0 L0 xs0 232 (666, L, .int (x - x / z * z) :: st) y) :=
  ⟨fun L st y => em_p rfl rfl,
   fun L st y z x => em_d rfl rfl,
   fun L st y z x => em_p rfl rfl,
   fun L st y => em_p rfl rfl,
   fun L y a0 a1 a2 a3 a4 => em_call rfl rfl rfl rfl rfl,
   fun L st y => em_p rfl rfl,
   fun L st y z x => em_b rfl rfl,
   fun l1 l2 l3 l4 l5 l6 l7 l8 st y x => em_p rfl rfl,
   fun L st y => em_p rfl rfl,
   fun l0 l2 l3 l4 l5 l6 l7 l8 st y x => em_p rfl rfl,
   fun L st y => em_p rfl rfl,
   fun L st y z x => em_d rfl rfl,
   fun L st y x => em_b rfl rfl,
   fun L st y => em_p rfl rfl,
   fun L st y => em_p rfl rfl,
   fun L st y => em_p rfl rfl,
   fun l0 l2 l3 l4 l5 l6 l7 l8 st y x => em_p rfl rfl,
   fun L st y => em_p rfl rfl,
   fun L st y z x => em_d rfl rfl,
   fun L st y z x => em_p rfl rfl,
   fun L st y => em_p rfl rfl,
   fun L st y => em_p rfl rfl,
   fun L y a0 a1 a2 a3 a4 => em_call rfl rfl rfl rfl rfl,
   fun L st y => em_p rfl rfl,
   fun L st y z x => em_b rfl rfl,
   fun l1 l2 l3 l4 l5 l6 l7 l8 st y x => em_p rfl rfl,
   fun L st y => em_p rfl rfl,
   fun l0 l1 l2 l3 l4 l5 l7 l8 st y x => em_p rfl rfl,
   fun L st y => em_p rfl rfl,
   fun L st y => em_p rfl rfl,
   fun L y a0 a1 a2 a3 a4 => em_call rfl rfl rfl rfl rfl,
   fun L st y => em_p rfl rfl,
   fun L st y z x => em_b rfl rfl,
   fun l1 l2 l3 l4 l5 l6 l7 l8 st y x => em_p rfl rfl,
   fun L st y => em_p rfl rfl,
   fun L st y => em_p rfl rfl,
   fun l0 l1 l2 l4 l5 l6 l7 l8 st y x => em_p rfl rfl,
   fun l0 l2 l3 l4 l5 l6 l7 l8 st y x => em_p rfl rfl,
   fun L st y => em_p rfl rfl,
   fun L st y z x => em_d rfl rfl⟩
set_option maxRecDepth 8000 in
theorem L_232_10 :
  (∀ (L : ri_L) (st : List Value) (y : (gy × gy) × Nat) (z x : Int32), evm C0 b0 L0 xs0 232 (666, L, .int z :: .int x :: st) y = evm C0 b0 L0 xs0 232 (667, L, .int (x + z) :: st) y) ∧
  (∀ (L : ri_L) (st : List Value) (y : (gy × gy) × Nat), evm C0 b0 L0 xs0 232 (667, L, st) y = evm C0 b0 L0 xs0 232 (668, L, .int (Int32.ofInt 0) :: st) y) ∧
  (∀ (L : ri_L) (y : (gy × gy) × Nat) (a0 : Nat) (a1 : Int32) (a2 : Int32) (a3 : Int32) (a4 : Int32), evm C0 b0 L0 xs0 232 (668, L, [.int a4, .int a3, .int a2, .int a1, .ref a0]) y = lm_n (calm C0 b0 L0 xs0 230 [.ref a0, .int a1, .int a2, .int a3, .int a4] y) fun v y => evm C0 b0 L0 xs0 232 (671, L, [v]) y) ∧
  (∀ (L : ri_L) (st : List Value) (y : (gy × gy) × Nat), evm C0 b0 L0 xs0 232 (671, L, st) y = evm C0 b0 L0 xs0 232 (673, L, .int (Int32.ofInt (-9999001)) :: st) y) ∧
  (∀ (L : ri_L) (st : List Value) (y : (gy × gy) × Nat) (z x : Int32), evm C0 b0 L0 xs0 232 (673, L, .int z :: .int x :: st) y = if ¬ x = z then evm C0 b0 L0 xs0 232 (824, L, st) y else evm C0 b0 L0 xs0 232 (676, L, st) y) ∧
  (∀ (l1 l2 l3 l4 l5 l6 l7 l8 : Option Value) (st : List Value) (y : (gy × gy) × Nat) (x : Nat), evm C0 b0 L0 xs0 232 (676, [some (.ref x), l1, l2, l3, l4, l5, l6, l7, l8], st) y = evm C0 b0 L0 xs0 232 (677, [some (.ref x), l1, l2, l3, l4, l5, l6, l7, l8], .ref x :: st) y) ∧
  (∀ (l0 l1 l2 l3 l4 l5 l7 l8 : Option Value) (st : List Value) (y : (gy × gy) × Nat) (x : Int32), evm C0 b0 L0 xs0 232 (677, [l0, l1, l2, l3, l4, l5, some (.int x), l7, l8], st) y = evm C0 b0 L0 xs0 232 (679, [l0, l1, l2, l3, l4, l5, some (.int x), l7, l8], .int x :: st) y) ∧
  (∀ (L : ri_L) (st : List Value) (y : (gy × gy) × Nat), evm C0 b0 L0 xs0 232 (679, L, st) y = evm C0 b0 L0 xs0 232 (680, L, .int (Int32.ofInt 0) :: st) y) ∧
  (∀ (L : ri_L) (st : List Value) (y : (gy × gy) × Nat), evm C0 b0 L0 xs0 232 (680, L, st) y = evm C0 b0 L0 xs0 232 (681, L, .int (Int32.ofInt 0) :: st) y) ∧
  (∀ (L : ri_L) (st : List Value) (y : (gy × gy) × Nat), evm C0 b0 L0 xs0 232 (681, L, st) y = evm C0 b0 L0 xs0 232 (683, L, .int (Int32.ofInt 9) :: st) y) ∧
  (∀ (L : ri_L) (y : (gy × gy) × Nat) (a0 : Nat) (a1 : Int32) (a2 : Int32) (a3 : Int32) (a4 : Int32), evm C0 b0 L0 xs0 232 (683, L, [.int a4, .int a3, .int a2, .int a1, .ref a0]) y = lm_n (calm C0 b0 L0 xs0 328 [.ref a0, .int a1, .int a2, .int a3, .int a4] y) fun v y => evm C0 b0 L0 xs0 232 (686, L, [v]) y) ∧
  (∀ (L : ri_L) (st : List Value) (y : (gy × gy) × Nat), evm C0 b0 L0 xs0 232 (686, L, st) y = evm C0 b0 L0 xs0 232 (688, L, .int (Int32.ofInt (-9999001)) :: st) y) ∧
  (∀ (L : ri_L) (st : List Value) (y : (gy × gy) × Nat) (z x : Int32), evm C0 b0 L0 xs0 232 (688, L, .int z :: .int x :: st) y = if ¬ x = z then evm C0 b0 L0 xs0 232 (824, L, st) y else evm C0 b0 L0 xs0 232 (691, L, st) y) ∧
  (∀ (l1 l2 l3 l4 l5 l6 l7 l8 : Option Value) (st : List Value) (y : (gy × gy) × Nat) (x : Nat), evm C0 b0 L0 xs0 232 (691, [some (.ref x), l1, l2, l3, l4, l5, l6, l7, l8], st) y = evm C0 b0 L0 xs0 232 (692, [some (.ref x), l1, l2, l3, l4, l5, l6, l7, l8], .ref x :: st) y) ∧
  (∀ (L : ri_L) (st : List Value) (y : (gy × gy) × Nat), evm C0 b0 L0 xs0 232 (692, L, st) y = evm C0 b0 L0 xs0 232 (694, L, .int (Int32.ofInt 16) :: st) y) ∧
  (∀ (l0 l1 l2 l3 l4 l5 l7 l8 : Option Value) (st : List Value) (y : (gy × gy) × Nat) (x : Int32), evm C0 b0 L0 xs0 232 (694, [l0, l1, l2, l3, l4, l5, some (.int x), l7, l8], st) y = evm C0 b0 L0 xs0 232 (696, [l0, l1, l2, l3, l4, l5, some (.int x), l7, l8], .int x :: st) y) ∧
  (∀ (L : ri_L) (st : List Value) (y : (gy × gy) × Nat), evm C0 b0 L0 xs0 232 (696, L, st) y = evm C0 b0 L0 xs0 232 (697, L, .int (Int32.ofInt 0) :: st) y) ∧
  (∀ (L : ri_L) (st : List Value) (y : (gy × gy) × Nat), evm C0 b0 L0 xs0 232 (697, L, st) y = evm C0 b0 L0 xs0 232 (698, L, .int (Int32.ofInt 0) :: st) y) ∧
  (∀ (L : ri_L) (y : (gy × gy) × Nat) (a0 : Nat) (a1 : Int32) (a2 : Int32) (a3 : Int32) (a4 : Int32), evm C0 b0 L0 xs0 232 (698, L, [.int a4, .int a3, .int a2, .int a1, .ref a0]) y = lm_n (calm C0 b0 L0 xs0 230 [.ref a0, .int a1, .int a2, .int a3, .int a4] y) fun v y => evm C0 b0 L0 xs0 232 (701, L, [v]) y) ∧
  (∀ (L : ri_L) (st : List Value) (y : (gy × gy) × Nat), evm C0 b0 L0 xs0 232 (701, L, st) y = evm C0 b0 L0 xs0 232 (703, L, .int (Int32.ofInt (-9999001)) :: st) y) ∧
  (∀ (L : ri_L) (st : List Value) (y : (gy × gy) × Nat) (z x : Int32), evm C0 b0 L0 xs0 232 (703, L, .int z :: .int x :: st) y = if ¬ x = z then evm C0 b0 L0 xs0 232 (824, L, st) y else evm C0 b0 L0 xs0 232 (706, L, st) y) ∧
  (∀ (l1 l2 l3 l4 l5 l6 l7 l8 : Option Value) (st : List Value) (y : (gy × gy) × Nat) (x : Nat), evm C0 b0 L0 xs0 232 (706, [some (.ref x), l1, l2, l3, l4, l5, l6, l7, l8], st) y = evm C0 b0 L0 xs0 232 (707, [some (.ref x), l1, l2, l3, l4, l5, l6, l7, l8], .ref x :: st) y) ∧
  (∀ (L : ri_L) (st : List Value) (y : (gy × gy) × Nat), evm C0 b0 L0 xs0 232 (707, L, st) y = evm C0 b0 L0 xs0 232 (709, L, .int (Int32.ofInt 16) :: st) y) ∧
  (∀ (L : ri_L) (st : List Value) (y : (gy × gy) × Nat), evm C0 b0 L0 xs0 232 (709, L, st) y = evm C0 b0 L0 xs0 232 (710, L, .int (Int32.ofInt 0) :: st) y) ∧
  (∀ (l0 l1 l2 l3 l4 l6 l7 l8 : Option Value) (st : List Value) (y : (gy × gy) × Nat) (x : Int32), evm C0 b0 L0 xs0 232 (710, [l0, l1, l2, l3, l4, some (.int x), l6, l7, l8], st) y = evm C0 b0 L0 xs0 232 (712, [l0, l1, l2, l3, l4, some (.int x), l6, l7, l8], .int x :: st) y) ∧
  (∀ (L : ri_L) (st : List Value) (y : (gy × gy) × Nat), evm C0 b0 L0 xs0 232 (712, L, st) y = evm C0 b0 L0 xs0 232 (713, L, .int (Int32.ofInt 0) :: st) y) ∧
  (∀ (L : ri_L) (y : (gy × gy) × Nat) (a0 : Nat) (a1 : Int32) (a2 : Int32) (a3 : Int32) (a4 : Int32), evm C0 b0 L0 xs0 232 (713, L, [.int a4, .int a3, .int a2, .int a1, .ref a0]) y = lm_n (calm C0 b0 L0 xs0 230 [.ref a0, .int a1, .int a2, .int a3, .int a4] y) fun v y => evm C0 b0 L0 xs0 232 (716, L, [v]) y) ∧
  (∀ (L : ri_L) (st : List Value) (y : (gy × gy) × Nat), evm C0 b0 L0 xs0 232 (716, L, st) y = evm C0 b0 L0 xs0 232 (718, L, .int (Int32.ofInt (-9999001)) :: st) y) ∧
  (∀ (L : ri_L) (st : List Value) (y : (gy × gy) × Nat) (z x : Int32), evm C0 b0 L0 xs0 232 (718, L, .int z :: .int x :: st) y = if ¬ x = z then evm C0 b0 L0 xs0 232 (824, L, st) y else evm C0 b0 L0 xs0 232 (721, L, st) y) ∧
  (∀ (l1 l2 l3 l4 l5 l6 l7 l8 : Option Value) (st : List Value) (y : (gy × gy) × Nat) (x : Nat), evm C0 b0 L0 xs0 232 (721, [some (.ref x), l1, l2, l3, l4, l5, l6, l7, l8], st) y = evm C0 b0 L0 xs0 232 (722, [some (.ref x), l1, l2, l3, l4, l5, l6, l7, l8], .ref x :: st) y) ∧
  (∀ (L : ri_L) (st : List Value) (y : (gy × gy) × Nat), evm C0 b0 L0 xs0 232 (722, L, st) y = evm C0 b0 L0 xs0 232 (724, L, .int (Int32.ofInt 17) :: st) y) ∧
  (∀ (l0 l1 l2 l3 l4 l5 l7 l8 : Option Value) (st : List Value) (y : (gy × gy) × Nat) (x : Int32), evm C0 b0 L0 xs0 232 (724, [l0, l1, l2, l3, l4, l5, some (.int x), l7, l8], st) y = evm C0 b0 L0 xs0 232 (726, [l0, l1, l2, l3, l4, l5, some (.int x), l7, l8], .int x :: st) y) ∧
  (∀ (L : ri_L) (st : List Value) (y : (gy × gy) × Nat), evm C0 b0 L0 xs0 232 (726, L, st) y = evm C0 b0 L0 xs0 232 (728, L, .int (Int32.ofInt 9) :: st) y) ∧
  (∀ (L : ri_L) (st : List Value) (y : (gy × gy) × Nat), evm C0 b0 L0 xs0 232 (728, L, st) y = evm C0 b0 L0 xs0 232 (729, L, .int (Int32.ofInt 0) :: st) y) ∧
  (∀ (L : ri_L) (y : (gy × gy) × Nat) (a0 : Nat) (a1 : Int32) (a2 : Int32) (a3 : Int32) (a4 : Int32), evm C0 b0 L0 xs0 232 (729, L, [.int a4, .int a3, .int a2, .int a1, .ref a0]) y = lm_n (calm C0 b0 L0 xs0 230 [.ref a0, .int a1, .int a2, .int a3, .int a4] y) fun v y => evm C0 b0 L0 xs0 232 (732, L, [v]) y) ∧
  (∀ (L : ri_L) (st : List Value) (y : (gy × gy) × Nat), evm C0 b0 L0 xs0 232 (732, L, st) y = evm C0 b0 L0 xs0 232 (734, L, .int (Int32.ofInt (-9999001)) :: st) y) ∧
  (∀ (L : ri_L) (st : List Value) (y : (gy × gy) × Nat) (z x : Int32), evm C0 b0 L0 xs0 232 (734, L, .int z :: .int x :: st) y = if ¬ x = z then evm C0 b0 L0 xs0 232 (824, L, st) y else evm C0 b0 L0 xs0 232 (737, L, st) y) ∧
  (∀ (l1 l2 l3 l4 l5 l6 l7 l8 : Option Value) (st : List Value) (y : (gy × gy) × Nat) (x : Nat), evm C0 b0 L0 xs0 232 (737, [some (.ref x), l1, l2, l3, l4, l5, l6, l7, l8], st) y = evm C0 b0 L0 xs0 232 (738, [some (.ref x), l1, l2, l3, l4, l5, l6, l7, l8], .ref x :: st) y) ∧
  (∀ (L : ri_L) (st : List Value) (y : (gy × gy) × Nat), evm C0 b0 L0 xs0 232 (738, L, st) y = evm C0 b0 L0 xs0 232 (740, L, .int (Int32.ofInt 18) :: st) y) ∧
  (∀ (L : ri_L) (st : List Value) (y : (gy × gy) × Nat), evm C0 b0 L0 xs0 232 (740, L, st) y = evm C0 b0 L0 xs0 232 (741, L, .int (Int32.ofInt 2) :: st) y) :=
  ⟨fun L st y z x => em_p rfl rfl,
   fun L st y => em_p rfl rfl,
   fun L y a0 a1 a2 a3 a4 => em_call rfl rfl rfl rfl rfl,
   fun L st y => em_p rfl rfl,
   fun L st y z x => em_b rfl rfl,
   fun l1 l2 l3 l4 l5 l6 l7 l8 st y x => em_p rfl rfl,
   fun l0 l1 l2 l3 l4 l5 l7 l8 st y x => em_p rfl rfl,
   fun L st y => em_p rfl rfl,
   fun L st y => em_p rfl rfl,
   fun L st y => em_p rfl rfl,
   fun L y a0 a1 a2 a3 a4 => em_call rfl rfl rfl rfl rfl,
   fun L st y => em_p rfl rfl,
   fun L st y z x => em_b rfl rfl,
   fun l1 l2 l3 l4 l5 l6 l7 l8 st y x => em_p rfl rfl,
   fun L st y => em_p rfl rfl,
   fun l0 l1 l2 l3 l4 l5 l7 l8 st y x => em_p rfl rfl,
   fun L st y => em_p rfl rfl,
   fun L st y => em_p rfl rfl,
   fun L y a0 a1 a2 a3 a4 => em_call rfl rfl rfl rfl rfl,
   fun L st y => em_p rfl rfl,
   fun L st y z x => em_b rfl rfl,
   fun l1 l2 l3 l4 l5 l6 l7 l8 st y x => em_p rfl rfl,
   fun L st y => em_p rfl rfl,
   fun L st y => em_p rfl rfl,
   fun l0 l1 l2 l3 l4 l6 l7 l8 st y x => em_p rfl rfl,
   fun L st y => em_p rfl rfl,
   fun L y a0 a1 a2 a3 a4 => em_call rfl rfl rfl rfl rfl,
   fun L st y => em_p rfl rfl,
   fun L st y z x => em_b rfl rfl,
   fun l1 l2 l3 l4 l5 l6 l7 l8 st y x => em_p rfl rfl,
   fun L st y => em_p rfl rfl,
   fun l0 l1 l2 l3 l4 l5 l7 l8 st y x => em_p rfl rfl,
   fun L st y => em_p rfl rfl,
   fun L st y => em_p rfl rfl,
   fun L y a0 a1 a2 a3 a4 => em_call rfl rfl rfl rfl rfl,
   fun L st y => em_p rfl rfl,
   fun L st y z x => em_b rfl rfl,
   fun l1 l2 l3 l4 l5 l6 l7 l8 st y x => em_p rfl rfl,
   fun L st y => em_p rfl rfl,
   fun L st y => em_p rfl rfl⟩
set_option maxRecDepth 8000 in
theorem L_232_11 :
  (∀ (l0 l2 l3 l4 l5 l6 l7 l8 : Option Value) (st : List Value) (y : (gy × gy) × Nat) (x : Int32), evm C0 b0 L0 xs0 232 (741, [l0, some (.int x), l2, l3, l4, l5, l6, l7, l8], st) y = evm C0 b0 L0 xs0 232 (742, [l0, some (.int x), l2, l3, l4, l5, l6, l7, l8], .int x :: st) y) ∧
  (∀ (L : ri_L) (st : List Value) (y : (gy × gy) × Nat), evm C0 b0 L0 xs0 232 (742, L, st) y = evm C0 b0 L0 xs0 232 (744, L, .int (Int32.ofInt 50) :: st) y) ∧
  (∀ (L : ri_L) (st : List Value) (y : (gy × gy) × Nat) (z x : Int32), evm C0 b0 L0 xs0 232 (744, L, .int z :: .int x :: st) y = if z = 0 then none else evm C0 b0 L0 xs0 232 (745, L, .int (x - x / z * z) :: st) y) ∧
  (∀ (L : ri_L) (st : List Value) (y : (gy × gy) × Nat) (z x : Int32), evm C0 b0 L0 xs0 232 (745, L, .int z :: .int x :: st) y = evm C0 b0 L0 xs0 232 (746, L, .int (x + z) :: st) y) ∧
  (∀ (L : ri_L) (st : List Value) (y : (gy × gy) × Nat), evm C0 b0 L0 xs0 232 (746, L, st) y = evm C0 b0 L0 xs0 232 (747, L, .int (Int32.ofInt 0) :: st) y) ∧
  (∀ (L : ri_L) (st : List Value) (y : (gy × gy) × Nat), evm C0 b0 L0 xs0 232 (747, L, st) y = evm C0 b0 L0 xs0 232 (748, L, .int (Int32.ofInt 0) :: st) y) ∧
  (∀ (L : ri_L) (y : (gy × gy) × Nat) (a0 : Nat) (a1 : Int32) (a2 : Int32) (a3 : Int32) (a4 : Int32), evm C0 b0 L0 xs0 232 (748, L, [.int a4, .int a3, .int a2, .int a1, .ref a0]) y = lm_n (calm C0 b0 L0 xs0 230 [.ref a0, .int a1, .int a2, .int a3, .int a4] y) fun v y => evm C0 b0 L0 xs0 232 (751, L, [v]) y) ∧
  (∀ (L : ri_L) (st : List Value) (y : (gy × gy) × Nat), evm C0 b0 L0 xs0 232 (751, L, st) y = evm C0 b0 L0 xs0 232 (753, L, .int (Int32.ofInt (-9999001)) :: st) y) ∧
  (∀ (L : ri_L) (st : List Value) (y : (gy × gy) × Nat) (z x : Int32), evm C0 b0 L0 xs0 232 (753, L, .int z :: .int x :: st) y = if ¬ x = z then evm C0 b0 L0 xs0 232 (824, L, st) y else evm C0 b0 L0 xs0 232 (756, L, st) y) ∧
  (∀ (l1 l2 l3 l4 l5 l6 l7 l8 : Option Value) (st : List Value) (y : (gy × gy) × Nat) (x : Nat), evm C0 b0 L0 xs0 232 (756, [some (.ref x), l1, l2, l3, l4, l5, l6, l7, l8], st) y = evm C0 b0 L0 xs0 232 (757, [some (.ref x), l1, l2, l3, l4, l5, l6, l7, l8], .ref x :: st) y) ∧
  (∀ (L : ri_L) (st : List Value) (y : (gy × gy) × Nat), evm C0 b0 L0 xs0 232 (757, L, st) y = evm C0 b0 L0 xs0 232 (759, L, .int (Int32.ofInt 19) :: st) y) ∧
  (∀ (L : ri_L) (st : List Value) (y : (gy × gy) × Nat), evm C0 b0 L0 xs0 232 (759, L, st) y = evm C0 b0 L0 xs0 232 (760, L, .int (Int32.ofInt (-1)) :: st) y) ∧
  (∀ (l0 l2 l3 l4 l5 l6 l7 l8 : Option Value) (st : List Value) (y : (gy × gy) × Nat) (x : Int32), evm C0 b0 L0 xs0 232 (760, [l0, some (.int x), l2, l3, l4, l5, l6, l7, l8], st) y = evm C0 b0 L0 xs0 232 (761, [l0, some (.int x), l2, l3, l4, l5, l6, l7, l8], .int x :: st) y) ∧
  (∀ (L : ri_L) (st : List Value) (y : (gy × gy) × Nat), evm C0 b0 L0 xs0 232 (761, L, st) y = evm C0 b0 L0 xs0 232 (763, L, .int (Int32.ofInt 9) :: st) y) ∧
  (∀ (L : ri_L) (st : List Value) (y : (gy × gy) × Nat) (z x : Int32), evm C0 b0 L0 xs0 232 (763, L, .int z :: .int x :: st) y = if z = 0 then none else evm C0 b0 L0 xs0 232 (764, L, .int (x - x / z * z) :: st) y) ∧
  (∀ (L : ri_L) (st : List Value) (y : (gy × gy) × Nat) (z x : Int32), evm C0 b0 L0 xs0 232 (764, L, .int z :: .int x :: st) y = evm C0 b0 L0 xs0 232 (765, L, .int (x - z) :: st) y) ∧
  (∀ (L : ri_L) (st : List Value) (y : (gy × gy) × Nat), evm C0 b0 L0 xs0 232 (765, L, st) y = evm C0 b0 L0 xs0 232 (766, L, .int (Int32.ofInt 0) :: st) y) ∧
  (∀ (L : ri_L) (st : List Value) (y : (gy × gy) × Nat), evm C0 b0 L0 xs0 232 (766, L, st) y = evm C0 b0 L0 xs0 232 (767, L, .int (Int32.ofInt 0) :: st) y) ∧
  (∀ (L : ri_L) (y : (gy × gy) × Nat) (a0 : Nat) (a1 : Int32) (a2 : Int32) (a3 : Int32) (a4 : Int32), evm C0 b0 L0 xs0 232 (767, L, [.int a4, .int a3, .int a2, .int a1, .ref a0]) y = lm_n (calm C0 b0 L0 xs0 230 [.ref a0, .int a1, .int a2, .int a3, .int a4] y) fun v y => evm C0 b0 L0 xs0 232 (770, L, [v]) y) ∧
  (∀ (L : ri_L) (st : List Value) (y : (gy × gy) × Nat), evm C0 b0 L0 xs0 232 (770, L, st) y = evm C0 b0 L0 xs0 232 (772, L, .int (Int32.ofInt (-9999001)) :: st) y) ∧
  (∀ (L : ri_L) (st : List Value) (y : (gy × gy) × Nat) (z x : Int32), evm C0 b0 L0 xs0 232 (772, L, .int z :: .int x :: st) y = if ¬ x = z then evm C0 b0 L0 xs0 232 (824, L, st) y else evm C0 b0 L0 xs0 232 (775, L, st) y) ∧
  (∀ (l1 l2 l3 l4 l5 l6 l7 l8 : Option Value) (st : List Value) (y : (gy × gy) × Nat) (x : Nat), evm C0 b0 L0 xs0 232 (775, [some (.ref x), l1, l2, l3, l4, l5, l6, l7, l8], st) y = evm C0 b0 L0 xs0 232 (776, [some (.ref x), l1, l2, l3, l4, l5, l6, l7, l8], .ref x :: st) y) ∧
  (∀ (L : ri_L) (st : List Value) (y : (gy × gy) × Nat), evm C0 b0 L0 xs0 232 (776, L, st) y = evm C0 b0 L0 xs0 232 (777, L, .int (Int32.ofInt 0) :: st) y) ∧
  (∀ (L : ri_L) (st : List Value) (y : (gy × gy) × Nat), evm C0 b0 L0 xs0 232 (777, L, st) y = evm C0 b0 L0 xs0 232 (778, L, .long (Int64.ofInt 0) :: st) y) ∧
  (∀ (L : ri_L) (y : (gy × gy) × Nat) (a0 : Nat) (a1 : Int32) (a2 : Int64), evm C0 b0 L0 xs0 232 (778, L, [.long a2, .int a1, .ref a0]) y = lm_n (calm C0 b0 L0 xs0 331 [.ref a0, .int a1, .long a2] y) fun v y => evm C0 b0 L0 xs0 232 (781, L, [v]) y) ∧
  (∀ (L : ri_L) (st : List Value) (y : (gy × gy) × Nat), evm C0 b0 L0 xs0 232 (781, L, st) y = evm C0 b0 L0 xs0 232 (783, L, .int (Int32.ofInt (-9999002)) :: st) y) ∧
  (∀ (L : ri_L) (st : List Value) (y : (gy × gy) × Nat) (z x : Int32), evm C0 b0 L0 xs0 232 (783, L, .int z :: .int x :: st) y = if ¬ x = z then evm C0 b0 L0 xs0 232 (824, L, st) y else evm C0 b0 L0 xs0 232 (786, L, st) y) ∧
  (∀ (l1 l2 l3 l4 l5 l6 l7 l8 : Option Value) (st : List Value) (y : (gy × gy) × Nat) (x : Nat), evm C0 b0 L0 xs0 232 (786, [some (.ref x), l1, l2, l3, l4, l5, l6, l7, l8], st) y = evm C0 b0 L0 xs0 232 (787, [some (.ref x), l1, l2, l3, l4, l5, l6, l7, l8], .ref x :: st) y) ∧
  (∀ (L : ri_L) (st : List Value) (y : (gy × gy) × Nat), evm C0 b0 L0 xs0 232 (787, L, st) y = evm C0 b0 L0 xs0 232 (788, L, .int (Int32.ofInt 1) :: st) y) ∧
  (∀ (L : ri_L) (st : List Value) (y : (gy × gy) × Nat), evm C0 b0 L0 xs0 232 (788, L, st) y = evm C0 b0 L0 xs0 232 (791, L, .long (Int64.ofInt 100000) :: st) y) ∧
  (∀ (l0 l2 l3 l4 l5 l6 l7 l8 : Option Value) (st : List Value) (y : (gy × gy) × Nat) (x : Int32), evm C0 b0 L0 xs0 232 (791, [l0, some (.int x), l2, l3, l4, l5, l6, l7, l8], st) y = evm C0 b0 L0 xs0 232 (792, [l0, some (.int x), l2, l3, l4, l5, l6, l7, l8], .int x :: st) y) ∧
  (∀ (L : ri_L) (st : List Value) (y : (gy × gy) × Nat) (x : Int32), evm C0 b0 L0 xs0 232 (792, L, .int x :: st) y = evm C0 b0 L0 xs0 232 (793, L, .long x.toInt64 :: st) y) ∧
  (∀ (L : ri_L) (st : List Value) (y : (gy × gy) × Nat) (z x : Int64), evm C0 b0 L0 xs0 232 (793, L, .long z :: .long x :: st) y = evm C0 b0 L0 xs0 232 (794, L, .long (x + z) :: st) y) ∧
  (∀ (L : ri_L) (y : (gy × gy) × Nat) (a0 : Nat) (a1 : Int32) (a2 : Int64), evm C0 b0 L0 xs0 232 (794, L, [.long a2, .int a1, .ref a0]) y = lm_n (calm C0 b0 L0 xs0 331 [.ref a0, .int a1, .long a2] y) fun v y => evm C0 b0 L0 xs0 232 (797, L, [v]) y) ∧
  (∀ (L : ri_L) (st : List Value) (y : (gy × gy) × Nat), evm C0 b0 L0 xs0 232 (797, L, st) y = evm C0 b0 L0 xs0 232 (799, L, .int (Int32.ofInt (-9999002)) :: st) y) ∧
  (∀ (L : ri_L) (st : List Value) (y : (gy × gy) × Nat) (z x : Int32), evm C0 b0 L0 xs0 232 (799, L, .int z :: .int x :: st) y = if ¬ x = z then evm C0 b0 L0 xs0 232 (824, L, st) y else evm C0 b0 L0 xs0 232 (802, L, st) y) ∧
  (∀ (l1 l2 l3 l4 l5 l6 l7 l8 : Option Value) (st : List Value) (y : (gy × gy) × Nat) (x : Nat), evm C0 b0 L0 xs0 232 (802, [some (.ref x), l1, l2, l3, l4, l5, l6, l7, l8], st) y = evm C0 b0 L0 xs0 232 (803, [some (.ref x), l1, l2, l3, l4, l5, l6, l7, l8], .ref x :: st) y) ∧
  (∀ (l0 l2 l3 l4 l5 l6 l7 l8 : Option Value) (st : List Value) (y : (gy × gy) × Nat) (x : Int32), evm C0 b0 L0 xs0 232 (803, [l0, some (.int x), l2, l3, l4, l5, l6, l7, l8], st) y = evm C0 b0 L0 xs0 232 (804, [l0, some (.int x), l2, l3, l4, l5, l6, l7, l8], .int x :: st) y) ∧
  (∀ (L : ri_L) (st : List Value) (y : (gy × gy) × Nat) (x : Int32), evm C0 b0 L0 xs0 232 (804, L, .int x :: st) y = evm C0 b0 L0 xs0 232 (805, L, .long x.toInt64 :: st) y) ∧
  (∀ (L : ri_L) (st : List Value) (y : (gy × gy) × Nat), evm C0 b0 L0 xs0 232 (805, L, st) y = evm C0 b0 L0 xs0 232 (807, L, .int (Int32.ofInt 61) :: st) y) :=
  ⟨fun l0 l2 l3 l4 l5 l6 l7 l8 st y x => em_p rfl rfl,
   fun L st y => em_p rfl rfl,
   fun L st y z x => em_d rfl rfl,
   fun L st y z x => em_p rfl rfl,
   fun L st y => em_p rfl rfl,
   fun L st y => em_p rfl rfl,
   fun L y a0 a1 a2 a3 a4 => em_call rfl rfl rfl rfl rfl,
   fun L st y => em_p rfl rfl,
   fun L st y z x => em_b rfl rfl,
   fun l1 l2 l3 l4 l5 l6 l7 l8 st y x => em_p rfl rfl,
   fun L st y => em_p rfl rfl,
   fun L st y => em_p rfl rfl,
   fun l0 l2 l3 l4 l5 l6 l7 l8 st y x => em_p rfl rfl,
   fun L st y => em_p rfl rfl,
   fun L st y z x => em_d rfl rfl,
   fun L st y z x => em_p rfl rfl,
   fun L st y => em_p rfl rfl,
   fun L st y => em_p rfl rfl,
   fun L y a0 a1 a2 a3 a4 => em_call rfl rfl rfl rfl rfl,
   fun L st y => em_p rfl rfl,
   fun L st y z x => em_b rfl rfl,
   fun l1 l2 l3 l4 l5 l6 l7 l8 st y x => em_p rfl rfl,
   fun L st y => em_p rfl rfl,
   fun L st y => em_p rfl rfl,
   fun L y a0 a1 a2 => em_call rfl rfl rfl rfl rfl,
   fun L st y => em_p rfl rfl,
   fun L st y z x => em_b rfl rfl,
   fun l1 l2 l3 l4 l5 l6 l7 l8 st y x => em_p rfl rfl,
   fun L st y => em_p rfl rfl,
   fun L st y => em_p rfl rfl,
   fun l0 l2 l3 l4 l5 l6 l7 l8 st y x => em_p rfl rfl,
   fun L st y x => em_p rfl rfl,
   fun L st y z x => em_p rfl rfl,
   fun L y a0 a1 a2 => em_call rfl rfl rfl rfl rfl,
   fun L st y => em_p rfl rfl,
   fun L st y z x => em_b rfl rfl,
   fun l1 l2 l3 l4 l5 l6 l7 l8 st y x => em_p rfl rfl,
   fun l0 l2 l3 l4 l5 l6 l7 l8 st y x => em_p rfl rfl,
   fun L st y x => em_p rfl rfl,
   fun L st y => em_p rfl rfl⟩
set_option maxRecDepth 8000 in
theorem L_232_12 :
  (∀ (l0 l2 l3 l4 l5 l6 l7 l8 : Option Value) (st : List Value) (y : (gy × gy) × Nat) (x : Int32), evm C0 b0 L0 xs0 232 (807, [l0, some (.int x), l2, l3, l4, l5, l6, l7, l8], st) y = evm C0 b0 L0 xs0 232 (808, [l0, some (.int x), l2, l3, l4, l5, l6, l7, l8], .int x :: st) y) ∧
  (∀ (L : ri_L) (st : List Value) (y : (gy × gy) × Nat), evm C0 b0 L0 xs0 232 (808, L, st) y = evm C0 b0 L0 xs0 232 (810, L, .int (Int32.ofInt 9) :: st) y) ∧
  (∀ (L : ri_L) (st : List Value) (y : (gy × gy) × Nat) (z x : Int32), evm C0 b0 L0 xs0 232 (810, L, .int z :: .int x :: st) y = if z = 0 then none else evm C0 b0 L0 xs0 232 (811, L, .int (x - x / z * z) :: st) y) ∧
  (∀ (L : ri_L) (st : List Value) (y : (gy × gy) × Nat) (z x : Int32), evm C0 b0 L0 xs0 232 (811, L, .int z :: .int x :: st) y = evm C0 b0 L0 xs0 232 (812, L, .int (x + z) :: st) y) ∧
  (∀ (L : ri_L) (y : (gy × gy) × Nat) (a0 : Nat) (a1 : Int64) (a2 : Int32), evm C0 b0 L0 xs0 232 (812, L, [.int a2, .long a1, .ref a0]) y = lm_n (calm C0 b0 L0 xs0 332 [.ref a0, .long a1, .int a2] y) fun v y => evm C0 b0 L0 xs0 232 (815, L, [v]) y) ∧
  (∀ (L : ri_L) (st : List Value) (y : (gy × gy) × Nat), evm C0 b0 L0 xs0 232 (815, L, st) y = evm C0 b0 L0 xs0 232 (817, L, .int (Int32.ofInt (-9999002)) :: st) y) ∧
  (∀ (L : ri_L) (st : List Value) (y : (gy × gy) × Nat) (z x : Int32), evm C0 b0 L0 xs0 232 (817, L, .int z :: .int x :: st) y = if ¬ x = z then evm C0 b0 L0 xs0 232 (824, L, st) y else evm C0 b0 L0 xs0 232 (820, L, st) y) ∧
  (∀ (L : ri_L) (st : List Value) (y : (gy × gy) × Nat), evm C0 b0 L0 xs0 232 (820, L, st) y = evm C0 b0 L0 xs0 232 (821, L, .int (Int32.ofInt 1) :: st) y) ∧
  (∀ (L : ri_L) (st : List Value) (y : (gy × gy) × Nat), evm C0 b0 L0 xs0 232 (821, L, st) y = evm C0 b0 L0 xs0 232 (825, L, st) y) ∧
  (∀ (L : ri_L) (st : List Value) (y : (gy × gy) × Nat), evm C0 b0 L0 xs0 232 (824, L, st) y = evm C0 b0 L0 xs0 232 (825, L, .int (Int32.ofInt 0) :: st) y) ∧
  (∀ (l0 l1 l2 l3 l4 l5 l6 l7 l8 : Option Value) (st : List Value) (y : (gy × gy) × Nat) (x : Int32), evm C0 b0 L0 xs0 232 (825, [l0, l1, l2, l3, l4, l5, l6, l7, l8], .int x :: st) y = evm C0 b0 L0 xs0 232 (827, [l0, l1, l2, l3, l4, l5, l6, ri_clr l7, some (.int x)], st) y) ∧
  (∀ (l0 l1 l2 l3 l4 l5 l6 l7 : Option Value) (st : List Value) (y : (gy × gy) × Nat) (x : Int32), evm C0 b0 L0 xs0 232 (827, [l0, l1, l2, l3, l4, l5, l6, l7, some (.int x)], st) y = evm C0 b0 L0 xs0 232 (829, [l0, l1, l2, l3, l4, l5, l6, l7, some (.int x)], .int x :: st) y) ∧
  (∀ (L : ri_L) (st : List Value) (y : (gy × gy) × Nat) (x : Int32), evm C0 b0 L0 xs0 232 (829, L, .int x :: st) y = if x = 0 then evm C0 b0 L0 xs0 232 (915, L, st) y else evm C0 b0 L0 xs0 232 (832, L, st) y) ∧
  (∀ (l1 l2 l3 l4 l5 l6 l7 l8 : Option Value) (st : List Value) (y : (gy × gy) × Nat) (x : Nat), evm C0 b0 L0 xs0 232 (832, [some (.ref x), l1, l2, l3, l4, l5, l6, l7, l8], st) y = evm C0 b0 L0 xs0 232 (833, [some (.ref x), l1, l2, l3, l4, l5, l6, l7, l8], .ref x :: st) y) ∧
  (∀ (L : ri_L) (st : List Value) (y : (gy × gy) × Nat), evm C0 b0 L0 xs0 232 (833, L, st) y = evm C0 b0 L0 xs0 232 (834, L, .int (Int32.ofInt 3) :: st) y) ∧
  (∀ (L : ri_L) (st : List Value) (y : (gy × gy) × Nat), evm C0 b0 L0 xs0 232 (834, L, st) y = evm C0 b0 L0 xs0 232 (835, L, .int (Int32.ofInt 0) :: st) y) ∧
  (∀ (L : ri_L) (st : List Value) (y : (gy × gy) × Nat), evm C0 b0 L0 xs0 232 (835, L, st) y = evm C0 b0 L0 xs0 232 (837, L, .int (Int32.ofInt 8) :: st) y) ∧
  (∀ (l0 l2 l3 l4 l5 l6 l7 l8 : Option Value) (st : List Value) (y : (gy × gy) × Nat) (x : Int32), evm C0 b0 L0 xs0 232 (837, [l0, some (.int x), l2, l3, l4, l5, l6, l7, l8], st) y = evm C0 b0 L0 xs0 232 (838, [l0, some (.int x), l2, l3, l4, l5, l6, l7, l8], .int x :: st) y) ∧
  (∀ (L : ri_L) (st : List Value) (y : (gy × gy) × Nat), evm C0 b0 L0 xs0 232 (838, L, st) y = evm C0 b0 L0 xs0 232 (840, L, .int (Int32.ofInt 9) :: st) y) ∧
  (∀ (L : ri_L) (st : List Value) (y : (gy × gy) × Nat) (z x : Int32), evm C0 b0 L0 xs0 232 (840, L, .int z :: .int x :: st) y = if z = 0 then none else evm C0 b0 L0 xs0 232 (841, L, .int (x - x / z * z) :: st) y) ∧
  (∀ (L : ri_L) (st : List Value) (y : (gy × gy) × Nat) (z x : Int32), evm C0 b0 L0 xs0 232 (841, L, .int z :: .int x :: st) y = evm C0 b0 L0 xs0 232 (842, L, .int (x + z) :: st) y) ∧
  (∀ (L : ri_L) (st : List Value) (y : (gy × gy) × Nat), evm C0 b0 L0 xs0 232 (842, L, st) y = evm C0 b0 L0 xs0 232 (843, L, .int (Int32.ofInt 0) :: st) y) ∧
  (∀ (L : ri_L) (y : (gy × gy) × Nat) (a0 : Nat) (a1 : Int32) (a2 : Int32) (a3 : Int32) (a4 : Int32), evm C0 b0 L0 xs0 232 (843, L, [.int a4, .int a3, .int a2, .int a1, .ref a0]) y = lm_n (calm C0 b0 L0 xs0 230 [.ref a0, .int a1, .int a2, .int a3, .int a4] y) fun v y => evm C0 b0 L0 xs0 232 (846, L, [v]) y) ∧
  (∀ (L : ri_L) (st : List Value) (y : (gy × gy) × Nat), evm C0 b0 L0 xs0 232 (846, L, st) y = evm C0 b0 L0 xs0 232 (848, L, .int (Int32.ofInt (-9999002)) :: st) y) ∧
  (∀ (L : ri_L) (st : List Value) (y : (gy × gy) × Nat) (z x : Int32), evm C0 b0 L0 xs0 232 (848, L, .int z :: .int x :: st) y = if ¬ x = z then evm C0 b0 L0 xs0 232 (915, L, st) y else evm C0 b0 L0 xs0 232 (851, L, st) y) ∧
  (∀ (l1 l2 l3 l4 l5 l6 l7 l8 : Option Value) (st : List Value) (y : (gy × gy) × Nat) (x : Nat), evm C0 b0 L0 xs0 232 (851, [some (.ref x), l1, l2, l3, l4, l5, l6, l7, l8], st) y = evm C0 b0 L0 xs0 232 (852, [some (.ref x), l1, l2, l3, l4, l5, l6, l7, l8], .ref x :: st) y) ∧
  (∀ (L : ri_L) (st : List Value) (y : (gy × gy) × Nat), evm C0 b0 L0 xs0 232 (852, L, st) y = evm C0 b0 L0 xs0 232 (854, L, .int (Int32.ofInt 6) :: st) y) ∧
  (∀ (L : ri_L) (st : List Value) (y : (gy × gy) × Nat), evm C0 b0 L0 xs0 232 (854, L, st) y = evm C0 b0 L0 xs0 232 (855, L, .int (Int32.ofInt 0) :: st) y) ∧
  (∀ (L : ri_L) (st : List Value) (y : (gy × gy) × Nat), evm C0 b0 L0 xs0 232 (855, L, st) y = evm C0 b0 L0 xs0 232 (856, L, .int (Int32.ofInt 0) :: st) y) ∧
  (∀ (L : ri_L) (st : List Value) (y : (gy × gy) × Nat), evm C0 b0 L0 xs0 232 (856, L, st) y = evm C0 b0 L0 xs0 232 (857, L, .int (Int32.ofInt 4) :: st) y) ∧
  (∀ (l0 l2 l3 l4 l5 l6 l7 l8 : Option Value) (st : List Value) (y : (gy × gy) × Nat) (x : Int32), evm C0 b0 L0 xs0 232 (857, [l0, some (.int x), l2, l3, l4, l5, l6, l7, l8], st) y = evm C0 b0 L0 xs0 232 (858, [l0, some (.int x), l2, l3, l4, l5, l6, l7, l8], .int x :: st) y) ∧
  (∀ (L : ri_L) (st : List Value) (y : (gy × gy) × Nat), evm C0 b0 L0 xs0 232 (858, L, st) y = evm C0 b0 L0 xs0 232 (860, L, .int (Int32.ofInt 9) :: st) y) ∧
  (∀ (L : ri_L) (st : List Value) (y : (gy × gy) × Nat) (z x : Int32), evm C0 b0 L0 xs0 232 (860, L, .int z :: .int x :: st) y = if z = 0 then none else evm C0 b0 L0 xs0 232 (861, L, .int (x - x / z * z) :: st) y) ∧
  (∀ (L : ri_L) (st : List Value) (y : (gy × gy) × Nat) (z x : Int32), evm C0 b0 L0 xs0 232 (861, L, .int z :: .int x :: st) y = evm C0 b0 L0 xs0 232 (862, L, .int (x + z) :: st) y) ∧
  (∀ (L : ri_L) (y : (gy × gy) × Nat) (a0 : Nat) (a1 : Int32) (a2 : Int32) (a3 : Int32) (a4 : Int32), evm C0 b0 L0 xs0 232 (862, L, [.int a4, .int a3, .int a2, .int a1, .ref a0]) y = lm_n (calm C0 b0 L0 xs0 230 [.ref a0, .int a1, .int a2, .int a3, .int a4] y) fun v y => evm C0 b0 L0 xs0 232 (865, L, [v]) y) ∧
  (∀ (L : ri_L) (st : List Value) (y : (gy × gy) × Nat), evm C0 b0 L0 xs0 232 (865, L, st) y = evm C0 b0 L0 xs0 232 (867, L, .int (Int32.ofInt (-9999002)) :: st) y) ∧
  (∀ (L : ri_L) (st : List Value) (y : (gy × gy) × Nat) (z x : Int32), evm C0 b0 L0 xs0 232 (867, L, .int z :: .int x :: st) y = if ¬ x = z then evm C0 b0 L0 xs0 232 (915, L, st) y else evm C0 b0 L0 xs0 232 (870, L, st) y) ∧
  (∀ (l0 l1 l3 l4 l5 l6 l7 l8 : Option Value) (st : List Value) (y : (gy × gy) × Nat) (x : Int32), evm C0 b0 L0 xs0 232 (870, [l0, l1, some (.int x), l3, l4, l5, l6, l7, l8], st) y = evm C0 b0 L0 xs0 232 (871, [l0, l1, some (.int x), l3, l4, l5, l6, l7, l8], .int x :: st) y) ∧
  (∀ (L : ri_L) (st : List Value) (y : (gy × gy) × Nat), evm C0 b0 L0 xs0 232 (871, L, st) y = evm C0 b0 L0 xs0 232 (872, L, .int (Int32.ofInt 3) :: st) y) ∧
  (∀ (L : ri_L) (st : List Value) (y : (gy × gy) × Nat) (z x : Int32), evm C0 b0 L0 xs0 232 (872, L, .int z :: .int x :: st) y = if x < z then evm C0 b0 L0 xs0 232 (889, L, st) y else evm C0 b0 L0 xs0 232 (875, L, st) y) :=
  ⟨fun l0 l2 l3 l4 l5 l6 l7 l8 st y x => em_p rfl rfl,
   fun L st y => em_p rfl rfl,
   fun L st y z x => em_d rfl rfl,
   fun L st y z x => em_p rfl rfl,
   fun L y a0 a1 a2 => em_call rfl rfl rfl rfl rfl,
   fun L st y => em_p rfl rfl,
   fun L st y z x => em_b rfl rfl,
   fun L st y => em_p rfl rfl,
   fun L st y => em_p rfl rfl,
   fun L st y => em_p rfl rfl,
   fun l0 l1 l2 l3 l4 l5 l6 l7 l8 st y x => em_p rfl rfl,
   fun l0 l1 l2 l3 l4 l5 l6 l7 st y x => em_p rfl rfl,
   fun L st y x => em_b rfl rfl,
   fun l1 l2 l3 l4 l5 l6 l7 l8 st y x => em_p rfl rfl,
   fun L st y => em_p rfl rfl,
   fun L st y => em_p rfl rfl,
   fun L st y => em_p rfl rfl,
   fun l0 l2 l3 l4 l5 l6 l7 l8 st y x => em_p rfl rfl,
   fun L st y => em_p rfl rfl,
   fun L st y z x => em_d rfl rfl,
   fun L st y z x => em_p rfl rfl,
   fun L st y => em_p rfl rfl,
   fun L y a0 a1 a2 a3 a4 => em_call rfl rfl rfl rfl rfl,
   fun L st y => em_p rfl rfl,
   fun L st y z x => em_b rfl rfl,
   fun l1 l2 l3 l4 l5 l6 l7 l8 st y x => em_p rfl rfl,
   fun L st y => em_p rfl rfl,
   fun L st y => em_p rfl rfl,
   fun L st y => em_p rfl rfl,
   fun L st y => em_p rfl rfl,
   fun l0 l2 l3 l4 l5 l6 l7 l8 st y x => em_p rfl rfl,
   fun L st y => em_p rfl rfl,
   fun L st y z x => em_d rfl rfl,
   fun L st y z x => em_p rfl rfl,
   fun L y a0 a1 a2 a3 a4 => em_call rfl rfl rfl rfl rfl,
   fun L st y => em_p rfl rfl,
   fun L st y z x => em_b rfl rfl,
   fun l0 l1 l3 l4 l5 l6 l7 l8 st y x => em_p rfl rfl,
   fun L st y => em_p rfl rfl,
   fun L st y z x => em_b rfl rfl⟩
set_option maxRecDepth 8000 in
theorem L_232_13 :
  (∀ (l1 l2 l3 l4 l5 l6 l7 l8 : Option Value) (st : List Value) (y : (gy × gy) × Nat) (x : Nat), evm C0 b0 L0 xs0 232 (875, [some (.ref x), l1, l2, l3, l4, l5, l6, l7, l8], st) y = evm C0 b0 L0 xs0 232 (876, [some (.ref x), l1, l2, l3, l4, l5, l6, l7, l8], .ref x :: st) y) ∧
  (∀ (L : ri_L) (st : List Value) (y : (gy × gy) × Nat), evm C0 b0 L0 xs0 232 (876, L, st) y = evm C0 b0 L0 xs0 232 (878, L, .int (Int32.ofInt 7) :: st) y) ∧
  (∀ (L : ri_L) (st : List Value) (y : (gy × gy) × Nat), evm C0 b0 L0 xs0 232 (878, L, st) y = evm C0 b0 L0 xs0 232 (879, L, .int (Int32.ofInt 3) :: st) y) ∧
  (∀ (L : ri_L) (st : List Value) (y : (gy × gy) × Nat), evm C0 b0 L0 xs0 232 (879, L, st) y = evm C0 b0 L0 xs0 232 (880, L, .int (Int32.ofInt 0) :: st) y) ∧
  (∀ (L : ri_L) (st : List Value) (y : (gy × gy) × Nat), evm C0 b0 L0 xs0 232 (880, L, st) y = evm C0 b0 L0 xs0 232 (881, L, .int (Int32.ofInt 0) :: st) y) ∧
  (∀ (L : ri_L) (y : (gy × gy) × Nat) (a0 : Nat) (a1 : Int32) (a2 : Int32) (a3 : Int32) (a4 : Int32), evm C0 b0 L0 xs0 232 (881, L, [.int a4, .int a3, .int a2, .int a1, .ref a0]) y = lm_n (calm C0 b0 L0 xs0 230 [.ref a0, .int a1, .int a2, .int a3, .int a4] y) fun v y => evm C0 b0 L0 xs0 232 (884, L, [v]) y) ∧
  (∀ (L : ri_L) (st : List Value) (y : (gy × gy) × Nat), evm C0 b0 L0 xs0 232 (884, L, st) y = evm C0 b0 L0 xs0 232 (886, L, .int (Int32.ofInt (-9999003)) :: st) y) ∧
  (∀ (L : ri_L) (st : List Value) (y : (gy × gy) × Nat) (z x : Int32), evm C0 b0 L0 xs0 232 (886, L, .int z :: .int x :: st) y = if ¬ x = z then evm C0 b0 L0 xs0 232 (915, L, st) y else evm C0 b0 L0 xs0 232 (889, L, st) y) ∧
  (∀ (l0 l1 l2 l4 l5 l6 l7 l8 : Option Value) (st : List Value) (y : (gy × gy) × Nat) (x : Int32), evm C0 b0 L0 xs0 232 (889, [l0, l1, l2, some (.int x), l4, l5, l6, l7, l8], st) y = evm C0 b0 L0 xs0 232 (890, [l0, l1, l2, some (.int x), l4, l5, l6, l7, l8], .int x :: st) y) ∧
  (∀ (L : ri_L) (st : List Value) (y : (gy × gy) × Nat) (x : Int32), evm C0 b0 L0 xs0 232 (890, L, .int x :: st) y = if x = 0 then evm C0 b0 L0 xs0 232 (911, L, st) y else evm C0 b0 L0 xs0 232 (893, L, st) y) ∧
  (∀ (l1 l2 l3 l4 l5 l6 l7 l8 : Option Value) (st : List Value) (y : (gy × gy) × Nat) (x : Nat), evm C0 b0 L0 xs0 232 (893, [some (.ref x), l1, l2, l3, l4, l5, l6, l7, l8], st) y = evm C0 b0 L0 xs0 232 (894, [some (.ref x), l1, l2, l3, l4, l5, l6, l7, l8], .ref x :: st) y) ∧
  (∀ (L : ri_L) (st : List Value) (y : (gy × gy) × Nat), evm C0 b0 L0 xs0 232 (894, L, st) y = evm C0 b0 L0 xs0 232 (895, L, .int (Int32.ofInt 5) :: st) y) ∧
  (∀ (L : ri_L) (st : List Value) (y : (gy × gy) × Nat), evm C0 b0 L0 xs0 232 (895, L, st) y = evm C0 b0 L0 xs0 232 (896, L, .int (Int32.ofInt 0) :: st) y) ∧
  (∀ (L : ri_L) (st : List Value) (y : (gy × gy) × Nat), evm C0 b0 L0 xs0 232 (896, L, st) y = evm C0 b0 L0 xs0 232 (897, L, .int (Int32.ofInt 4) :: st) y) ∧
  (∀ (l0 l2 l3 l4 l5 l6 l7 l8 : Option Value) (st : List Value) (y : (gy × gy) × Nat) (x : Int32), evm C0 b0 L0 xs0 232 (897, [l0, some (.int x), l2, l3, l4, l5, l6, l7, l8], st) y = evm C0 b0 L0 xs0 232 (898, [l0, some (.int x), l2, l3, l4, l5, l6, l7, l8], .int x :: st) y) ∧
  (∀ (L : ri_L) (st : List Value) (y : (gy × gy) × Nat), evm C0 b0 L0 xs0 232 (898, L, st) y = evm C0 b0 L0 xs0 232 (900, L, .int (Int32.ofInt 9) :: st) y) ∧
  (∀ (L : ri_L) (st : List Value) (y : (gy × gy) × Nat) (z x : Int32), evm C0 b0 L0 xs0 232 (900, L, .int z :: .int x :: st) y = if z = 0 then none else evm C0 b0 L0 xs0 232 (901, L, .int (x - x / z * z) :: st) y) ∧
  (∀ (L : ri_L) (st : List Value) (y : (gy × gy) × Nat) (z x : Int32), evm C0 b0 L0 xs0 232 (901, L, .int z :: .int x :: st) y = evm C0 b0 L0 xs0 232 (902, L, .int (x + z) :: st) y) ∧
  (∀ (L : ri_L) (st : List Value) (y : (gy × gy) × Nat), evm C0 b0 L0 xs0 232 (902, L, st) y = evm C0 b0 L0 xs0 232 (903, L, .int (Int32.ofInt 0) :: st) y) ∧
  (∀ (L : ri_L) (y : (gy × gy) × Nat) (a0 : Nat) (a1 : Int32) (a2 : Int32) (a3 : Int32) (a4 : Int32), evm C0 b0 L0 xs0 232 (903, L, [.int a4, .int a3, .int a2, .int a1, .ref a0]) y = lm_n (calm C0 b0 L0 xs0 230 [.ref a0, .int a1, .int a2, .int a3, .int a4] y) fun v y => evm C0 b0 L0 xs0 232 (906, L, [v]) y) ∧
  (∀ (L : ri_L) (st : List Value) (y : (gy × gy) × Nat), evm C0 b0 L0 xs0 232 (906, L, st) y = evm C0 b0 L0 xs0 232 (908, L, .int (Int32.ofInt (-9999002)) :: st) y) ∧
  (∀ (L : ri_L) (st : List Value) (y : (gy × gy) × Nat) (z x : Int32), evm C0 b0 L0 xs0 232 (908, L, .int z :: .int x :: st) y = if ¬ x = z then evm C0 b0 L0 xs0 232 (915, L, st) y else evm C0 b0 L0 xs0 232 (911, L, st) y) ∧
  (∀ (L : ri_L) (st : List Value) (y : (gy × gy) × Nat), evm C0 b0 L0 xs0 232 (911, L, st) y = evm C0 b0 L0 xs0 232 (912, L, .int (Int32.ofInt 1) :: st) y) ∧
  (∀ (L : ri_L) (st : List Value) (y : (gy × gy) × Nat), evm C0 b0 L0 xs0 232 (912, L, st) y = evm C0 b0 L0 xs0 232 (916, L, st) y) ∧
  (∀ (L : ri_L) (st : List Value) (y : (gy × gy) × Nat), evm C0 b0 L0 xs0 232 (915, L, st) y = evm C0 b0 L0 xs0 232 (916, L, .int (Int32.ofInt 0) :: st) y) ∧
  (∀ (l0 l1 l2 l3 l4 l5 l6 l7 l8 : Option Value) (st : List Value) (y : (gy × gy) × Nat) (x : Int32), evm C0 b0 L0 xs0 232 (916, [l0, l1, l2, l3, l4, l5, l6, l7, l8], .int x :: st) y = evm C0 b0 L0 xs0 232 (918, [l0, l1, l2, l3, l4, l5, l6, ri_clr l7, some (.int x)], st) y) ∧
  (∀ (l0 l1 l2 l3 l4 l5 l6 l7 : Option Value) (st : List Value) (y : (gy × gy) × Nat) (x : Int32), evm C0 b0 L0 xs0 232 (918, [l0, l1, l2, l3, l4, l5, l6, l7, some (.int x)], st) y = evm C0 b0 L0 xs0 232 (920, [l0, l1, l2, l3, l4, l5, l6, l7, some (.int x)], .int x :: st) y) ∧
  (∀ (L : ri_L) (st : List Value) (y : (gy × gy) × Nat) (x : Int32), evm C0 b0 L0 xs0 232 (920, L, .int x :: st) y = if x = 0 then evm C0 b0 L0 xs0 232 (1055, L, st) y else evm C0 b0 L0 xs0 232 (923, L, st) y) ∧
  (∀ (l0 l1 l2 l3 l5 l6 l7 l8 : Option Value) (st : List Value) (y : (gy × gy) × Nat) (x : Int32), evm C0 b0 L0 xs0 232 (923, [l0, l1, l2, l3, some (.int x), l5, l6, l7, l8], st) y = evm C0 b0 L0 xs0 232 (925, [l0, l1, l2, l3, some (.int x), l5, l6, l7, l8], .int x :: st) y) ∧
  (∀ (L : ri_L) (st : List Value) (y : (gy × gy) × Nat) (x : Int32), evm C0 b0 L0 xs0 232 (925, L, .int x :: st) y = if x = 0 then evm C0 b0 L0 xs0 232 (1051, L, st) y else evm C0 b0 L0 xs0 232 (928, L, st) y) ∧
  (∀ (l1 l2 l3 l4 l5 l6 l7 l8 : Option Value) (st : List Value) (y : (gy × gy) × Nat) (x : Nat), evm C0 b0 L0 xs0 232 (928, [some (.ref x), l1, l2, l3, l4, l5, l6, l7, l8], st) y = evm C0 b0 L0 xs0 232 (929, [some (.ref x), l1, l2, l3, l4, l5, l6, l7, l8], .ref x :: st) y) ∧
  (∀ (L : ri_L) (st : List Value) (y : (gy × gy) × Nat), evm C0 b0 L0 xs0 232 (929, L, st) y = evm C0 b0 L0 xs0 232 (930, L, .int (Int32.ofInt 4) :: st) y) ∧
  (∀ (L : ri_L) (st : List Value) (y : (gy × gy) × Nat), evm C0 b0 L0 xs0 232 (930, L, st) y = evm C0 b0 L0 xs0 232 (931, L, .int (Int32.ofInt 0) :: st) y) ∧
  (∀ (L : ri_L) (st : List Value) (y : (gy × gy) × Nat), evm C0 b0 L0 xs0 232 (931, L, st) y = evm C0 b0 L0 xs0 232 (933, L, .int (Int32.ofInt 6) :: st) y) ∧
  (∀ (l0 l2 l3 l4 l5 l6 l7 l8 : Option Value) (st : List Value) (y : (gy × gy) × Nat) (x : Int32), evm C0 b0 L0 xs0 232 (933, [l0, some (.int x), l2, l3, l4, l5, l6, l7, l8], st) y = evm C0 b0 L0 xs0 232 (934, [l0, some (.int x), l2, l3, l4, l5, l6, l7, l8], .int x :: st) y) ∧
  (∀ (L : ri_L) (st : List Value) (y : (gy × gy) × Nat), evm C0 b0 L0 xs0 232 (934, L, st) y = evm C0 b0 L0 xs0 232 (936, L, .int (Int32.ofInt 9) :: st) y) ∧
  (∀ (L : ri_L) (st : List Value) (y : (gy × gy) × Nat) (z x : Int32), evm C0 b0 L0 xs0 232 (936, L, .int z :: .int x :: st) y = if z = 0 then none else evm C0 b0 L0 xs0 232 (937, L, .int (x - x / z * z) :: st) y) ∧
  (∀ (L : ri_L) (st : List Value) (y : (gy × gy) × Nat) (z x : Int32), evm C0 b0 L0 xs0 232 (937, L, .int z :: .int x :: st) y = evm C0 b0 L0 xs0 232 (938, L, .int (x + z) :: st) y) ∧
  (∀ (L : ri_L) (st : List Value) (y : (gy × gy) × Nat), evm C0 b0 L0 xs0 232 (938, L, st) y = evm C0 b0 L0 xs0 232 (939, L, .int (Int32.ofInt 0) :: st) y) ∧
  (∀ (L : ri_L) (y : (gy × gy) × Nat) (a0 : Nat) (a1 : Int32) (a2 : Int32) (a3 : Int32) (a4 : Int32), evm C0 b0 L0 xs0 232 (939, L, [.int a4, .int a3, .int a2, .int a1, .ref a0]) y = lm_n (calm C0 b0 L0 xs0 230 [.ref a0, .int a1, .int a2, .int a3, .int a4] y) fun v y => evm C0 b0 L0 xs0 232 (942, L, [v]) y) :=
  ⟨fun l1 l2 l3 l4 l5 l6 l7 l8 st y x => em_p rfl rfl,
   fun L st y => em_p rfl rfl,
   fun L st y => em_p rfl rfl,
   fun L st y => em_p rfl rfl,
   fun L st y => em_p rfl rfl,
   fun L y a0 a1 a2 a3 a4 => em_call rfl rfl rfl rfl rfl,
   fun L st y => em_p rfl rfl,
   fun L st y z x => em_b rfl rfl,
   fun l0 l1 l2 l4 l5 l6 l7 l8 st y x => em_p rfl rfl,
   fun L st y x => em_b rfl rfl,
   fun l1 l2 l3 l4 l5 l6 l7 l8 st y x => em_p rfl rfl,
   fun L st y => em_p rfl rfl,
   fun L st y => em_p rfl rfl,
   fun L st y => em_p rfl rfl,
   fun l0 l2 l3 l4 l5 l6 l7 l8 st y x => em_p rfl rfl,
   fun L st y => em_p rfl rfl,
   fun L st y z x => em_d rfl rfl,
   fun L st y z x => em_p rfl rfl,
   fun L st y => em_p rfl rfl,
   fun L y a0 a1 a2 a3 a4 => em_call rfl rfl rfl rfl rfl,
   fun L st y => em_p rfl rfl,
   fun L st y z x => em_b rfl rfl,
   fun L st y => em_p rfl rfl,
   fun L st y => em_p rfl rfl,
   fun L st y => em_p rfl rfl,
   fun l0 l1 l2 l3 l4 l5 l6 l7 l8 st y x => em_p rfl rfl,
   fun l0 l1 l2 l3 l4 l5 l6 l7 st y x => em_p rfl rfl,
   fun L st y x => em_b rfl rfl,
   fun l0 l1 l2 l3 l5 l6 l7 l8 st y x => em_p rfl rfl,
   fun L st y x => em_b rfl rfl,
   fun l1 l2 l3 l4 l5 l6 l7 l8 st y x => em_p rfl rfl,
   fun L st y => em_p rfl rfl,
   fun L st y => em_p rfl rfl,
   fun L st y => em_p rfl rfl,
   fun l0 l2 l3 l4 l5 l6 l7 l8 st y x => em_p rfl rfl,
   fun L st y => em_p rfl rfl,
   fun L st y z x => em_d rfl rfl,
   fun L st y z x => em_p rfl rfl,
   fun L st y => em_p rfl rfl,
   fun L y a0 a1 a2 a3 a4 => em_call rfl rfl rfl rfl rfl⟩
set_option maxRecDepth 8000 in
theorem L_232_14 :
  (∀ (L : ri_L) (st : List Value) (y : (gy × gy) × Nat), evm C0 b0 L0 xs0 232 (942, L, st) y = evm C0 b0 L0 xs0 232 (944, L, .int (Int32.ofInt (-9999002)) :: st) y) ∧
  (∀ (L : ri_L) (st : List Value) (y : (gy × gy) × Nat) (z x : Int32), evm C0 b0 L0 xs0 232 (944, L, .int z :: .int x :: st) y = if ¬ x = z then evm C0 b0 L0 xs0 232 (1055, L, st) y else evm C0 b0 L0 xs0 232 (947, L, st) y) ∧
  (∀ (l1 l2 l3 l4 l5 l6 l7 l8 : Option Value) (st : List Value) (y : (gy × gy) × Nat) (x : Nat), evm C0 b0 L0 xs0 232 (947, [some (.ref x), l1, l2, l3, l4, l5, l6, l7, l8], st) y = evm C0 b0 L0 xs0 232 (948, [some (.ref x), l1, l2, l3, l4, l5, l6, l7, l8], .ref x :: st) y) ∧
  (∀ (L : ri_L) (st : List Value) (y : (gy × gy) × Nat), evm C0 b0 L0 xs0 232 (948, L, st) y = evm C0 b0 L0 xs0 232 (950, L, .int (Int32.ofInt 11) :: st) y) ∧
  (∀ (L : ri_L) (st : List Value) (y : (gy × gy) × Nat), evm C0 b0 L0 xs0 232 (950, L, st) y = evm C0 b0 L0 xs0 232 (951, L, .int (Int32.ofInt 0) :: st) y) ∧
  (∀ (l0 l2 l3 l4 l5 l6 l7 l8 : Option Value) (st : List Value) (y : (gy × gy) × Nat) (x : Int32), evm C0 b0 L0 xs0 232 (951, [l0, some (.int x), l2, l3, l4, l5, l6, l7, l8], st) y = evm C0 b0 L0 xs0 232 (952, [l0, some (.int x), l2, l3, l4, l5, l6, l7, l8], .int x :: st) y) ∧
  (∀ (L : ri_L) (st : List Value) (y : (gy × gy) × Nat), evm C0 b0 L0 xs0 232 (952, L, st) y = evm C0 b0 L0 xs0 232 (953, L, .int (Int32.ofInt 2) :: st) y) ∧
  (∀ (L : ri_L) (st : List Value) (y : (gy × gy) × Nat) (z x : Int32), evm C0 b0 L0 xs0 232 (953, L, .int z :: .int x :: st) y = if z = 0 then none else evm C0 b0 L0 xs0 232 (954, L, .int (x - x / z * z) :: st) y) ∧
  (∀ (L : ri_L) (st : List Value) (y : (gy × gy) × Nat) (x : Int32), evm C0 b0 L0 xs0 232 (954, L, .int x :: st) y = if ¬ x = 0 then evm C0 b0 L0 xs0 232 (961, L, st) y else evm C0 b0 L0 xs0 232 (957, L, st) y) ∧
  (∀ (L : ri_L) (st : List Value) (y : (gy × gy) × Nat), evm C0 b0 L0 xs0 232 (957, L, st) y = evm C0 b0 L0 xs0 232 (958, L, .int (Int32.ofInt 0) :: st) y) ∧
  (∀ (L : ri_L) (st : List Value) (y : (gy × gy) × Nat), evm C0 b0 L0 xs0 232 (958, L, st) y = evm C0 b0 L0 xs0 232 (967, L, st) y) ∧
  (∀ (L : ri_L) (st : List Value) (y : (gy × gy) × Nat), evm C0 b0 L0 xs0 232 (961, L, st) y = evm C0 b0 L0 xs0 232 (962, L, .int (Int32.ofInt 2) :: st) y) ∧
  (∀ (l0 l2 l3 l4 l5 l6 l7 l8 : Option Value) (st : List Value) (y : (gy × gy) × Nat) (x : Int32), evm C0 b0 L0 xs0 232 (962, [l0, some (.int x), l2, l3, l4, l5, l6, l7, l8], st) y = evm C0 b0 L0 xs0 232 (963, [l0, some (.int x), l2, l3, l4, l5, l6, l7, l8], .int x :: st) y) ∧
  (∀ (L : ri_L) (st : List Value) (y : (gy × gy) × Nat), evm C0 b0 L0 xs0 232 (963, L, st) y = evm C0 b0 L0 xs0 232 (965, L, .int (Int32.ofInt 9) :: st) y) ∧
  (∀ (L : ri_L) (st : List Value) (y : (gy × gy) × Nat) (z x : Int32), evm C0 b0 L0 xs0 232 (965, L, .int z :: .int x :: st) y = if z = 0 then none else evm C0 b0 L0 xs0 232 (966, L, .int (x - x / z * z) :: st) y) ∧
  (∀ (L : ri_L) (st : List Value) (y : (gy × gy) × Nat) (z x : Int32), evm C0 b0 L0 xs0 232 (966, L, .int z :: .int x :: st) y = evm C0 b0 L0 xs0 232 (967, L, .int (x + z) :: st) y) ∧
  (∀ (L : ri_L) (st : List Value) (y : (gy × gy) × Nat), evm C0 b0 L0 xs0 232 (967, L, st) y = evm C0 b0 L0 xs0 232 (968, L, .int (Int32.ofInt 0) :: st) y) ∧
  (∀ (L : ri_L) (y : (gy × gy) × Nat) (a0 : Nat) (a1 : Int32) (a2 : Int32) (a3 : Int32) (a4 : Int32), evm C0 b0 L0 xs0 232 (968, L, [.int a4, .int a3, .int a2, .int a1, .ref a0]) y = lm_n (calm C0 b0 L0 xs0 230 [.ref a0, .int a1, .int a2, .int a3, .int a4] y) fun v y => evm C0 b0 L0 xs0 232 (971, L, [v]) y) ∧
  (∀ (L : ri_L) (st : List Value) (y : (gy × gy) × Nat), evm C0 b0 L0 xs0 232 (971, L, st) y = evm C0 b0 L0 xs0 232 (973, L, .int (Int32.ofInt (-9999002)) :: st) y) ∧
  (∀ (L : ri_L) (st : List Value) (y : (gy × gy) × Nat) (z x : Int32), evm C0 b0 L0 xs0 232 (973, L, .int z :: .int x :: st) y = if ¬ x = z then evm C0 b0 L0 xs0 232 (1055, L, st) y else evm C0 b0 L0 xs0 232 (976, L, st) y) ∧
  (∀ (l1 l2 l3 l4 l5 l6 l7 l8 : Option Value) (st : List Value) (y : (gy × gy) × Nat) (x : Nat), evm C0 b0 L0 xs0 232 (976, [some (.ref x), l1, l2, l3, l4, l5, l6, l7, l8], st) y = evm C0 b0 L0 xs0 232 (977, [some (.ref x), l1, l2, l3, l4, l5, l6, l7, l8], .ref x :: st) y) ∧
  (∀ (L : ri_L) (st : List Value) (y : (gy × gy) × Nat), evm C0 b0 L0 xs0 232 (977, L, st) y = evm C0 b0 L0 xs0 232 (978, L, .int (Int32.ofInt 0) :: st) y) ∧
  (∀ (l0 l1 l2 l3 l4 l6 l7 l8 : Option Value) (st : List Value) (y : (gy × gy) × Nat) (x : Int32), evm C0 b0 L0 xs0 232 (978, [l0, l1, l2, l3, l4, some (.int x), l6, l7, l8], st) y = evm C0 b0 L0 xs0 232 (980, [l0, l1, l2, l3, l4, some (.int x), l6, l7, l8], .int x :: st) y) ∧
  (∀ (L : ri_L) (st : List Value) (y : (gy × gy) × Nat), evm C0 b0 L0 xs0 232 (980, L, st) y = evm C0 b0 L0 xs0 232 (981, L, .int (Int32.ofInt 0) :: st) y) ∧
  (∀ (L : ri_L) (st : List Value) (y : (gy × gy) × Nat), evm C0 b0 L0 xs0 232 (981, L, st) y = evm C0 b0 L0 xs0 232 (982, L, .int (Int32.ofInt 0) :: st) y) ∧
  (∀ (L : ri_L) (y : (gy × gy) × Nat) (a0 : Nat) (a1 : Int32) (a2 : Int32) (a3 : Int32) (a4 : Int32), evm C0 b0 L0 xs0 232 (982, L, [.int a4, .int a3, .int a2, .int a1, .ref a0]) y = lm_n (calm C0 b0 L0 xs0 328 [.ref a0, .int a1, .int a2, .int a3, .int a4] y) fun v y => evm C0 b0 L0 xs0 232 (985, L, [v]) y) ∧
  (∀ (L : ri_L) (st : List Value) (y : (gy × gy) × Nat), evm C0 b0 L0 xs0 232 (985, L, st) y = evm C0 b0 L0 xs0 232 (987, L, .int (Int32.ofInt (-9999001)) :: st) y) ∧
  (∀ (L : ri_L) (st : List Value) (y : (gy × gy) × Nat) (z x : Int32), evm C0 b0 L0 xs0 232 (987, L, .int z :: .int x :: st) y = if ¬ x = z then evm C0 b0 L0 xs0 232 (1055, L, st) y else evm C0 b0 L0 xs0 232 (990, L, st) y) ∧
  (∀ (l1 l2 l3 l4 l5 l6 l7 l8 : Option Value) (st : List Value) (y : (gy × gy) × Nat) (x : Nat), evm C0 b0 L0 xs0 232 (990, [some (.ref x), l1, l2, l3, l4, l5, l6, l7, l8], st) y = evm C0 b0 L0 xs0 232 (991, [some (.ref x), l1, l2, l3, l4, l5, l6, l7, l8], .ref x :: st) y) ∧
  (∀ (L : ri_L) (st : List Value) (y : (gy × gy) × Nat), evm C0 b0 L0 xs0 232 (991, L, st) y = evm C0 b0 L0 xs0 232 (992, L, .int (Int32.ofInt 0) :: st) y) ∧
  (∀ (L : ri_L) (st : List Value) (y : (gy × gy) × Nat), evm C0 b0 L0 xs0 232 (992, L, st) y = evm C0 b0 L0 xs0 232 (993, L, .int (Int32.ofInt 0) :: st) y) ∧
  (∀ (l0 l1 l2 l3 l4 l5 l6 l8 : Option Value) (st : List Value) (y : (gy × gy) × Nat) (x : Int32), evm C0 b0 L0 xs0 232 (993, [l0, l1, l2, l3, l4, l5, l6, some (.int x), l8], st) y = evm C0 b0 L0 xs0 232 (995, [l0, l1, l2, l3, l4, l5, l6, some (.int x), l8], .int x :: st) y) ∧
  (∀ (L : ri_L) (st : List Value) (y : (gy × gy) × Nat), evm C0 b0 L0 xs0 232 (995, L, st) y = evm C0 b0 L0 xs0 232 (996, L, .int (Int32.ofInt 0) :: st) y) ∧
  (∀ (L : ri_L) (y : (gy × gy) × Nat) (a0 : Nat) (a1 : Int32) (a2 : Int32) (a3 : Int32) (a4 : Int32), evm C0 b0 L0 xs0 232 (996, L, [.int a4, .int a3, .int a2, .int a1, .ref a0]) y = lm_n (calm C0 b0 L0 xs0 328 [.ref a0, .int a1, .int a2, .int a3, .int a4] y) fun v y => evm C0 b0 L0 xs0 232 (999, L, [v]) y) ∧
  (∀ (L : ri_L) (st : List Value) (y : (gy × gy) × Nat), evm C0 b0 L0 xs0 232 (999, L, st) y = evm C0 b0 L0 xs0 232 (1001, L, .int (Int32.ofInt (-9999001)) :: st) y) ∧
  (∀ (L : ri_L) (st : List Value) (y : (gy × gy) × Nat) (z x : Int32), evm C0 b0 L0 xs0 232 (1001, L, .int z :: .int x :: st) y = if ¬ x = z then evm C0 b0 L0 xs0 232 (1055, L, st) y else evm C0 b0 L0 xs0 232 (1004, L, st) y) ∧
  (∀ (l1 l2 l3 l4 l5 l6 l7 l8 : Option Value) (st : List Value) (y : (gy × gy) × Nat) (x : Nat), evm C0 b0 L0 xs0 232 (1004, [some (.ref x), l1, l2, l3, l4, l5, l6, l7, l8], st) y = evm C0 b0 L0 xs0 232 (1005, [some (.ref x), l1, l2, l3, l4, l5, l6, l7, l8], .ref x :: st) y) ∧
  (∀ (L : ri_L) (st : List Value) (y : (gy × gy) × Nat), evm C0 b0 L0 xs0 232 (1005, L, st) y = evm C0 b0 L0 xs0 232 (1006, L, .int (Int32.ofInt 0) :: st) y) ∧
  (∀ (L : ri_L) (st : List Value) (y : (gy × gy) × Nat), evm C0 b0 L0 xs0 232 (1006, L, st) y = evm C0 b0 L0 xs0 232 (1007, L, .int (Int32.ofInt 0) :: st) y) ∧
  (∀ (L : ri_L) (st : List Value) (y : (gy × gy) × Nat), evm C0 b0 L0 xs0 232 (1007, L, st) y = evm C0 b0 L0 xs0 232 (1008, L, .int (Int32.ofInt 0) :: st) y) :=
  ⟨fun L st y => em_p rfl rfl,
   fun L st y z x => em_b rfl rfl,
   fun l1 l2 l3 l4 l5 l6 l7 l8 st y x => em_p rfl rfl,
   fun L st y => em_p rfl rfl,
   fun L st y => em_p rfl rfl,
   fun l0 l2 l3 l4 l5 l6 l7 l8 st y x => em_p rfl rfl,
   fun L st y => em_p rfl rfl,
   fun L st y z x => em_d rfl rfl,
   fun L st y x => em_b rfl rfl,
   fun L st y => em_p rfl rfl,
   fun L st y => em_p rfl rfl,
   fun L st y => em_p rfl rfl,
   fun l0 l2 l3 l4 l5 l6 l7 l8 st y x => em_p rfl rfl,
   fun L st y => em_p rfl rfl,
   fun L st y z x => em_d rfl rfl,
   fun L st y z x => em_p rfl rfl,
   fun L st y => em_p rfl rfl,
   fun L y a0 a1 a2 a3 a4 => em_call rfl rfl rfl rfl rfl,
   fun L st y => em_p rfl rfl,
   fun L st y z x => em_b rfl rfl,
   fun l1 l2 l3 l4 l5 l6 l7 l8 st y x => em_p rfl rfl,
   fun L st y => em_p rfl rfl,
   fun l0 l1 l2 l3 l4 l6 l7 l8 st y x => em_p rfl rfl,
   fun L st y => em_p rfl rfl,
   fun L st y => em_p rfl rfl,
   fun L y a0 a1 a2 a3 a4 => em_call rfl rfl rfl rfl rfl,
   fun L st y => em_p rfl rfl,
   fun L st y z x => em_b rfl rfl,
   fun l1 l2 l3 l4 l5 l6 l7 l8 st y x => em_p rfl rfl,
   fun L st y => em_p rfl rfl,
   fun L st y => em_p rfl rfl,
   fun l0 l1 l2 l3 l4 l5 l6 l8 st y x => em_p rfl rfl,
   fun L st y => em_p rfl rfl,
   fun L y a0 a1 a2 a3 a4 => em_call rfl rfl rfl rfl rfl,
   fun L st y => em_p rfl rfl,
   fun L st y z x => em_b rfl rfl,
   fun l1 l2 l3 l4 l5 l6 l7 l8 st y x => em_p rfl rfl,
   fun L st y => em_p rfl rfl,
   fun L st y => em_p rfl rfl,
   fun L st y => em_p rfl rfl⟩
set_option maxRecDepth 8000 in
theorem L_232_15 :
  (∀ (L : ri_L) (st : List Value) (y : (gy × gy) × Nat), evm C0 b0 L0 xs0 232 (1008, L, st) y = evm C0 b0 L0 xs0 232 (1009, L, .int (Int32.ofInt 2) :: st) y) ∧
  (∀ (l0 l2 l3 l4 l5 l6 l7 l8 : Option Value) (st : List Value) (y : (gy × gy) × Nat) (x : Int32), evm C0 b0 L0 xs0 232 (1009, [l0, some (.int x), l2, l3, l4, l5, l6, l7, l8], st) y = evm C0 b0 L0 xs0 232 (1010, [l0, some (.int x), l2, l3, l4, l5, l6, l7, l8], .int x :: st) y) ∧
  (∀ (L : ri_L) (st : List Value) (y : (gy × gy) × Nat), evm C0 b0 L0 xs0 232 (1010, L, st) y = evm C0 b0 L0 xs0 232 (1012, L, .int (Int32.ofInt 9) :: st) y) ∧
  (∀ (L : ri_L) (st : List Value) (y : (gy × gy) × Nat) (z x : Int32), evm C0 b0 L0 xs0 232 (1012, L, .int z :: .int x :: st) y = if z = 0 then none else evm C0 b0 L0 xs0 232 (1013, L, .int (x - x / z * z) :: st) y) ∧
  (∀ (L : ri_L) (st : List Value) (y : (gy × gy) × Nat) (z x : Int32), evm C0 b0 L0 xs0 232 (1013, L, .int z :: .int x :: st) y = evm C0 b0 L0 xs0 232 (1014, L, .int (x + z) :: st) y) ∧
  (∀ (L : ri_L) (y : (gy × gy) × Nat) (a0 : Nat) (a1 : Int32) (a2 : Int32) (a3 : Int32) (a4 : Int32), evm C0 b0 L0 xs0 232 (1014, L, [.int a4, .int a3, .int a2, .int a1, .ref a0]) y = lm_n (calm C0 b0 L0 xs0 328 [.ref a0, .int a1, .int a2, .int a3, .int a4] y) fun v y => evm C0 b0 L0 xs0 232 (1017, L, [v]) y) ∧
  (∀ (L : ri_L) (st : List Value) (y : (gy × gy) × Nat), evm C0 b0 L0 xs0 232 (1017, L, st) y = evm C0 b0 L0 xs0 232 (1019, L, .int (Int32.ofInt (-9999002)) :: st) y) ∧
  (∀ (L : ri_L) (st : List Value) (y : (gy × gy) × Nat) (z x : Int32), evm C0 b0 L0 xs0 232 (1019, L, .int z :: .int x :: st) y = if ¬ x = z then evm C0 b0 L0 xs0 232 (1055, L, st) y else evm C0 b0 L0 xs0 232 (1022, L, st) y) ∧
  (∀ (l1 l2 l3 l4 l5 l6 l7 l8 : Option Value) (st : List Value) (y : (gy × gy) × Nat) (x : Nat), evm C0 b0 L0 xs0 232 (1022, [some (.ref x), l1, l2, l3, l4, l5, l6, l7, l8], st) y = evm C0 b0 L0 xs0 232 (1023, [some (.ref x), l1, l2, l3, l4, l5, l6, l7, l8], .ref x :: st) y) ∧
  (∀ (L : ri_L) (st : List Value) (y : (gy × gy) × Nat), evm C0 b0 L0 xs0 232 (1023, L, st) y = evm C0 b0 L0 xs0 232 (1025, L, .int (Int32.ofInt 17) :: st) y) ∧
  (∀ (L : ri_L) (st : List Value) (y : (gy × gy) × Nat), evm C0 b0 L0 xs0 232 (1025, L, st) y = evm C0 b0 L0 xs0 232 (1026, L, .int (Int32.ofInt 0) :: st) y) ∧
  (∀ (l0 l2 l3 l4 l5 l6 l7 l8 : Option Value) (st : List Value) (y : (gy × gy) × Nat) (x : Int32), evm C0 b0 L0 xs0 232 (1026, [l0, some (.int x), l2, l3, l4, l5, l6, l7, l8], st) y = evm C0 b0 L0 xs0 232 (1027, [l0, some (.int x), l2, l3, l4, l5, l6, l7, l8], .int x :: st) y) ∧
  (∀ (L : ri_L) (st : List Value) (y : (gy × gy) × Nat), evm C0 b0 L0 xs0 232 (1027, L, st) y = evm C0 b0 L0 xs0 232 (1028, L, .int (Int32.ofInt 2) :: st) y) ∧
  (∀ (L : ri_L) (st : List Value) (y : (gy × gy) × Nat) (z x : Int32), evm C0 b0 L0 xs0 232 (1028, L, .int z :: .int x :: st) y = if z = 0 then none else evm C0 b0 L0 xs0 232 (1029, L, .int (x - x / z * z) :: st) y) ∧
  (∀ (L : ri_L) (st : List Value) (y : (gy × gy) × Nat) (x : Int32), evm C0 b0 L0 xs0 232 (1029, L, .int x :: st) y = if ¬ x = 0 then evm C0 b0 L0 xs0 232 (1036, L, st) y else evm C0 b0 L0 xs0 232 (1032, L, st) y) ∧
  (∀ (L : ri_L) (st : List Value) (y : (gy × gy) × Nat), evm C0 b0 L0 xs0 232 (1032, L, st) y = evm C0 b0 L0 xs0 232 (1033, L, .int (Int32.ofInt 0) :: st) y) ∧
  (∀ (L : ri_L) (st : List Value) (y : (gy × gy) × Nat), evm C0 b0 L0 xs0 232 (1033, L, st) y = evm C0 b0 L0 xs0 232 (1042, L, st) y) ∧
  (∀ (L : ri_L) (st : List Value) (y : (gy × gy) × Nat), evm C0 b0 L0 xs0 232 (1036, L, st) y = evm C0 b0 L0 xs0 232 (1037, L, .int (Int32.ofInt 5) :: st) y) ∧
  (∀ (l0 l2 l3 l4 l5 l6 l7 l8 : Option Value) (st : List Value) (y : (gy × gy) × Nat) (x : Int32), evm C0 b0 L0 xs0 232 (1037, [l0, some (.int x), l2, l3, l4, l5, l6, l7, l8], st) y = evm C0 b0 L0 xs0 232 (1038, [l0, some (.int x), l2, l3, l4, l5, l6, l7, l8], .int x :: st) y) ∧
  (∀ (L : ri_L) (st : List Value) (y : (gy × gy) × Nat), evm C0 b0 L0 xs0 232 (1038, L, st) y = evm C0 b0 L0 xs0 232 (1040, L, .int (Int32.ofInt 9) :: st) y) ∧
  (∀ (L : ri_L) (st : List Value) (y : (gy × gy) × Nat) (z x : Int32), evm C0 b0 L0 xs0 232 (1040, L, .int z :: .int x :: st) y = if z = 0 then none else evm C0 b0 L0 xs0 232 (1041, L, .int (x - x / z * z) :: st) y) ∧
  (∀ (L : ri_L) (st : List Value) (y : (gy × gy) × Nat) (z x : Int32), evm C0 b0 L0 xs0 232 (1041, L, .int z :: .int x :: st) y = evm C0 b0 L0 xs0 232 (1042, L, .int (x + z) :: st) y) ∧
  (∀ (L : ri_L) (st : List Value) (y : (gy × gy) × Nat), evm C0 b0 L0 xs0 232 (1042, L, st) y = evm C0 b0 L0 xs0 232 (1043, L, .int (Int32.ofInt 0) :: st) y) ∧
  (∀ (L : ri_L) (y : (gy × gy) × Nat) (a0 : Nat) (a1 : Int32) (a2 : Int32) (a3 : Int32) (a4 : Int32), evm C0 b0 L0 xs0 232 (1043, L, [.int a4, .int a3, .int a2, .int a1, .ref a0]) y = lm_n (calm C0 b0 L0 xs0 230 [.ref a0, .int a1, .int a2, .int a3, .int a4] y) fun v y => evm C0 b0 L0 xs0 232 (1046, L, [v]) y) ∧
  (∀ (L : ri_L) (st : List Value) (y : (gy × gy) × Nat), evm C0 b0 L0 xs0 232 (1046, L, st) y = evm C0 b0 L0 xs0 232 (1048, L, .int (Int32.ofInt (-9999002)) :: st) y) ∧
  (∀ (L : ri_L) (st : List Value) (y : (gy × gy) × Nat) (z x : Int32), evm C0 b0 L0 xs0 232 (1048, L, .int z :: .int x :: st) y = if ¬ x = z then evm C0 b0 L0 xs0 232 (1055, L, st) y else evm C0 b0 L0 xs0 232 (1051, L, st) y) ∧
  (∀ (L : ri_L) (st : List Value) (y : (gy × gy) × Nat), evm C0 b0 L0 xs0 232 (1051, L, st) y = evm C0 b0 L0 xs0 232 (1052, L, .int (Int32.ofInt 1) :: st) y) ∧
  (∀ (L : ri_L) (st : List Value) (y : (gy × gy) × Nat), evm C0 b0 L0 xs0 232 (1052, L, st) y = evm C0 b0 L0 xs0 232 (1056, L, st) y) ∧
  (∀ (L : ri_L) (st : List Value) (y : (gy × gy) × Nat), evm C0 b0 L0 xs0 232 (1055, L, st) y = evm C0 b0 L0 xs0 232 (1056, L, .int (Int32.ofInt 0) :: st) y) ∧
  (∀ (L : ri_L) (y : (gy × gy) × Nat) (x : Int32), evm C0 b0 L0 xs0 232 (1056, L, [.int x]) y = lm_b x (some (.int x, y))) :=
  ⟨fun L st y => em_p rfl rfl,
   fun l0 l2 l3 l4 l5 l6 l7 l8 st y x => em_p rfl rfl,
   fun L st y => em_p rfl rfl,
   fun L st y z x => em_d rfl rfl,
   fun L st y z x => em_p rfl rfl,
   fun L y a0 a1 a2 a3 a4 => em_call rfl rfl rfl rfl rfl,
   fun L st y => em_p rfl rfl,
   fun L st y z x => em_b rfl rfl,
   fun l1 l2 l3 l4 l5 l6 l7 l8 st y x => em_p rfl rfl,
   fun L st y => em_p rfl rfl,
   fun L st y => em_p rfl rfl,
   fun l0 l2 l3 l4 l5 l6 l7 l8 st y x => em_p rfl rfl,
   fun L st y => em_p rfl rfl,
   fun L st y z x => em_d rfl rfl,
   fun L st y x => em_b rfl rfl,
   fun L st y => em_p rfl rfl,
   fun L st y => em_p rfl rfl,
   fun L st y => em_p rfl rfl,
   fun l0 l2 l3 l4 l5 l6 l7 l8 st y x => em_p rfl rfl,
   fun L st y => em_p rfl rfl,
   fun L st y z x => em_d rfl rfl,
   fun L st y z x => em_p rfl rfl,
   fun L st y => em_p rfl rfl,
   fun L y a0 a1 a2 a3 a4 => em_call rfl rfl rfl rfl rfl,
   fun L st y => em_p rfl rfl,
   fun L st y z x => em_b rfl rfl,
   fun L st y => em_p rfl rfl,
   fun L st y => em_p rfl rfl,
   fun L st y => em_p rfl rfl,
   fun L y x => em_r rfl rfl⟩
end EQM
