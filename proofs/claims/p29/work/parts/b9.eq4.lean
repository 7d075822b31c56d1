/-! How the law's methods read on. -/
section EQM
variable {C0 b0 L0 : Nat} {xs0 : Nat → Int32}
set_option maxRecDepth 8000 in
theorem G_240_41 (l0 l1 l2 l3 l4 l5 l7 l8 : Option Value) (st : List Value) (y : (gy × gy) × Nat) (x : Int32) : evm C0 b0 L0 xs0 240 (41, [l0, l1, l2, l3, l4, l5, some (.int x), l7, l8], st) y = evm C0 b0 L0 xs0 240 (43, [l0, l1, l2, l3, l4, l5, some (.int x), l7, l8], .int x :: st) y := em_p rfl rfl
set_option maxRecDepth 8000 in
theorem G_240_154 (l0 l1 l2 l3 l4 l5 l7 l8 : Option Value) (st : List Value) (y : (gy × gy) × Nat) (x : Int32) : evm C0 b0 L0 xs0 240 (154, [l0, l1, l2, l3, l4, l5, some (.int x), l7, l8], st) y = evm C0 b0 L0 xs0 240 (156, [l0, l1, l2, l3, l4, l5, some (.int x), l7, l8], .int x :: st) y := em_p rfl rfl
set_option maxRecDepth 8000 in
theorem L_240_0 :
  (∀ (L : ri_L) (st : List Value) (y : (gy × gy) × Nat), evm C0 b0 L0 xs0 240 (16, L, st) y = evm C0 b0 L0 xs0 240 (18, L, .int (Int32.ofInt 14) :: st) y) ∧
  (∀ (l1 l2 l3 l4 l5 l6 l7 l8 : Option Value) (st : List Value) (y : (gy × gy) × Nat) (x : Nat), evm C0 b0 L0 xs0 240 (18, [some (.ref x), l1, l2, l3, l4, l5, l6, l7, l8], st) y = evm C0 b0 L0 xs0 240 (19, [some (.ref x), l1, l2, l3, l4, l5, l6, l7, l8], .ref x :: st) y) ∧
  (∀ (L : ri_L) (st : List Value) (y : (gy × gy) × Nat), evm C0 b0 L0 xs0 240 (19, L, st) y = evm C0 b0 L0 xs0 240 (20, L, .int (Int32.ofInt 0) :: st) y) ∧
  (∀ (L : ri_L) (y : (gy × gy) × Nat) (a0 : Nat) (a1 : Int32) (s0 : Value), evm C0 b0 L0 xs0 240 (20, L, [.int a1, .ref a0, s0]) y = lm_n (calm C0 b0 L0 xs0 300 [.ref a0, .int a1] y) fun v y => evm C0 b0 L0 xs0 240 (23, L, [v, s0]) y) ∧
  (∀ (L : ri_L) (st : List Value) (y : (gy × gy) × Nat), evm C0 b0 L0 xs0 240 (23, L, st) y = evm C0 b0 L0 xs0 240 (25, L, .int (Int32.ofInt 27) :: st) y) ∧
  (∀ (L : ri_L) (st : List Value) (y : (gy × gy) × Nat) (z x : Int32), evm C0 b0 L0 xs0 240 (25, L, .int z :: .int x :: st) y = if z = 0 then none else evm C0 b0 L0 xs0 240 (26, L, .int (x - x / z * z) :: st) y) ∧
  (∀ (L : ri_L) (st : List Value) (y : (gy × gy) × Nat) (z x : Int32), evm C0 b0 L0 xs0 240 (26, L, .int z :: .int x :: st) y = evm C0 b0 L0 xs0 240 (27, L, .int (x + z) :: st) y) ∧
  (∀ (l0 l1 l2 l3 l4 l5 l6 l7 l8 : Option Value) (st : List Value) (y : (gy × gy) × Nat) (x : Int32), evm C0 b0 L0 xs0 240 (27, [l0, l1, l2, l3, l4, l5, l6, l7, l8], .int x :: st) y = evm C0 b0 L0 xs0 240 (28, [l0, l1, ri_clr l2, some (.int x), l4, l5, l6, l7, l8], st) y) ∧
  (∀ (l1 l2 l3 l4 l5 l6 l7 l8 : Option Value) (st : List Value) (y : (gy × gy) × Nat) (x : Nat), evm C0 b0 L0 xs0 240 (28, [some (.ref x), l1, l2, l3, l4, l5, l6, l7, l8], st) y = evm C0 b0 L0 xs0 240 (29, [some (.ref x), l1, l2, l3, l4, l5, l6, l7, l8], .ref x :: st) y) ∧
  (∀ (L : ri_L) (st : List Value) (y : (gy × gy) × Nat), evm C0 b0 L0 xs0 240 (29, L, st) y = evm C0 b0 L0 xs0 240 (30, L, .int (Int32.ofInt 1) :: st) y) ∧
  (∀ (L : ri_L) (y : (gy × gy) × Nat) (a0 : Nat) (a1 : Int32), evm C0 b0 L0 xs0 240 (30, L, [.int a1, .ref a0]) y = lm_n (calm C0 b0 L0 xs0 300 [.ref a0, .int a1] y) fun v y => evm C0 b0 L0 xs0 240 (33, L, [v]) y) ∧
  (∀ (l0 l1 l2 l3 l4 l5 l6 l7 l8 : Option Value) (st : List Value) (y : (gy × gy) × Nat) (x : Int32), evm C0 b0 L0 xs0 240 (33, [l0, l1, l2, l3, l4, l5, l6, l7, l8], .int x :: st) y = evm C0 b0 L0 xs0 240 (35, [l0, l1, l2, ri_clr l3, some (.int x), l5, l6, l7, l8], st) y) ∧
  (∀ (L : ri_L) (st : List Value) (y : (gy × gy) × Nat), evm C0 b0 L0 xs0 240 (35, L, st) y = evm C0 b0 L0 xs0 240 (36, L, .int (Int32.ofInt 1) :: st) y) ∧
  (∀ (l0 l1 l2 l3 l4 l5 l6 l7 l8 : Option Value) (st : List Value) (y : (gy × gy) × Nat) (x : Int32), evm C0 b0 L0 xs0 240 (36, [l0, l1, l2, l3, l4, l5, l6, l7, l8], .int x :: st) y = evm C0 b0 L0 xs0 240 (38, [l0, l1, l2, l3, ri_clr l4, some (.int x), l6, l7, l8], st) y) ∧
  (∀ (L : ri_L) (st : List Value) (y : (gy × gy) × Nat), evm C0 b0 L0 xs0 240 (38, L, st) y = evm C0 b0 L0 xs0 240 (39, L, .int (Int32.ofInt 0) :: st) y) ∧
  (∀ (l0 l1 l2 l3 l4 l5 l6 l7 l8 : Option Value) (st : List Value) (y : (gy × gy) × Nat) (x : Int32), evm C0 b0 L0 xs0 240 (39, [l0, l1, l2, l3, l4, l5, l6, l7, l8], .int x :: st) y = evm C0 b0 L0 xs0 240 (41, [l0, l1, l2, l3, l4, ri_clr l5, some (.int x), l7, l8], st) y) ∧
  (∀ (L : ri_L) (st : List Value) (y : (gy × gy) × Nat), evm C0 b0 L0 xs0 240 (43, L, st) y = evm C0 b0 L0 xs0 240 (44, L, .int (Int32.ofInt 2) :: st) y) ∧
  (∀ (L : ri_L) (st : List Value) (y : (gy × gy) × Nat) (z x : Int32), evm C0 b0 L0 xs0 240 (44, L, .int z :: .int x :: st) y = if z ≤ x then evm C0 b0 L0 xs0 240 (151, L, st) y else evm C0 b0 L0 xs0 240 (47, L, st) y) ∧
  (∀ (l0 l1 l2 l3 l4 l6 l7 l8 : Option Value) (st : List Value) (y : (gy × gy) × Nat) (x : Int32), evm C0 b0 L0 xs0 240 (47, [l0, l1, l2, l3, l4, some (.int x), l6, l7, l8], st) y = evm C0 b0 L0 xs0 240 (49, [l0, l1, l2, l3, l4, some (.int x), l6, l7, l8], .int x :: st) y) ∧
  (∀ (L : ri_L) (st : List Value) (y : (gy × gy) × Nat) (x : Int32), evm C0 b0 L0 xs0 240 (49, L, .int x :: st) y = if x = 0 then evm C0 b0 L0 xs0 240 (151, L, st) y else evm C0 b0 L0 xs0 240 (52, L, st) y) ∧
  (∀ (l0 l2 l3 l4 l5 l6 l7 l8 : Option Value) (st : List Value) (y : (gy × gy) × Nat) (x : Nat), evm C0 b0 L0 xs0 240 (52, [l0, some (.ref x), l2, l3, l4, l5, l6, l7, l8], st) y = evm C0 b0 L0 xs0 240 (53, [l0, some (.ref x), l2, l3, l4, l5, l6, l7, l8], .ref x :: st) y) ∧
  (∀ (L : ri_L) (st : List Value) (y : (gy × gy) × Nat), evm C0 b0 L0 xs0 240 (53, L, st) y = evm C0 b0 L0 xs0 240 (55, L, .int (Int32.ofInt 7) :: st) y) ∧
  (∀ (L : ri_L) (st : List Value) (y : (gy × gy) × Nat), evm C0 b0 L0 xs0 240 (55, L, st) y = evm C0 b0 L0 xs0 240 (56, L, .int (Int32.ofInt 3) :: st) y) ∧
  (∀ (l0 l1 l2 l3 l5 l6 l7 l8 : Option Value) (st : List Value) (y : (gy × gy) × Nat) (x : Int32), evm C0 b0 L0 xs0 240 (56, [l0, l1, l2, l3, some (.int x), l5, l6, l7, l8], st) y = evm C0 b0 L0 xs0 240 (58, [l0, l1, l2, l3, some (.int x), l5, l6, l7, l8], .int x :: st) y) ∧
  (∀ (l0 l1 l2 l3 l4 l5 l7 l8 : Option Value) (st : List Value) (y : (gy × gy) × Nat) (x : Int32), evm C0 b0 L0 xs0 240 (58, [l0, l1, l2, l3, l4, l5, some (.int x), l7, l8], st) y = evm C0 b0 L0 xs0 240 (60, [l0, l1, l2, l3, l4, l5, some (.int x), l7, l8], .int x :: st) y) ∧
  (∀ (L : ri_L) (st : List Value) (y : (gy × gy) × Nat) (z x : Int32), evm C0 b0 L0 xs0 240 (60, L, .int z :: .int x :: st) y = evm C0 b0 L0 xs0 240 (61, L, .int (x >>> (z &&& 31)) :: st) y) ∧
  (∀ (L : ri_L) (st : List Value) (y : (gy × gy) × Nat), evm C0 b0 L0 xs0 240 (61, L, st) y = evm C0 b0 L0 xs0 240 (63, L, .int (Int32.ofInt 7) :: st) y) ∧
  (∀ (L : ri_L) (st : List Value) (y : (gy × gy) × Nat) (z x : Int32), evm C0 b0 L0 xs0 240 (63, L, .int z :: .int x :: st) y = evm C0 b0 L0 xs0 240 (64, L, .int (x &&& z) :: st) y) ∧
  (∀ (L : ri_L) (st : List Value) (y : (gy × gy) × Nat), evm C0 b0 L0 xs0 240 (64, L, st) y = evm C0 b0 L0 xs0 240 (65, L, .int (Int32.ofInt 3) :: st) y) ∧
  (∀ (L : ri_L) (st : List Value) (y : (gy × gy) × Nat) (z x : Int32), evm C0 b0 L0 xs0 240 (65, L, .int z :: .int x :: st) y = if z = 0 then none else evm C0 b0 L0 xs0 240 (66, L, .int (x - x / z * z) :: st) y) ∧
  (∀ (L : ri_L) (st : List Value) (y : (gy × gy) × Nat) (z x : Int32), evm C0 b0 L0 xs0 240 (66, L, .int z :: .int x :: st) y = evm C0 b0 L0 xs0 240 (67, L, .int (x + z) :: st) y) ∧
  (∀ (l0 l1 l2 l3 l5 l6 l7 l8 : Option Value) (st : List Value) (y : (gy × gy) × Nat) (x : Int32), evm C0 b0 L0 xs0 240 (67, [l0, l1, l2, l3, some (.int x), l5, l6, l7, l8], st) y = evm C0 b0 L0 xs0 240 (69, [l0, l1, l2, l3, some (.int x), l5, l6, l7, l8], .int x :: st) y) ∧
  (∀ (L : ri_L) (st : List Value) (y : (gy × gy) × Nat), evm C0 b0 L0 xs0 240 (69, L, st) y = evm C0 b0 L0 xs0 240 (70, L, .int (Int32.ofInt 3) :: st) y) ∧
  (∀ (l0 l1 l2 l3 l4 l5 l7 l8 : Option Value) (st : List Value) (y : (gy × gy) × Nat) (x : Int32), evm C0 b0 L0 xs0 240 (70, [l0, l1, l2, l3, l4, l5, some (.int x), l7, l8], st) y = evm C0 b0 L0 xs0 240 (72, [l0, l1, l2, l3, l4, l5, some (.int x), l7, l8], .int x :: st) y) ∧
  (∀ (L : ri_L) (st : List Value) (y : (gy × gy) × Nat) (z x : Int32), evm C0 b0 L0 xs0 240 (72, L, .int z :: .int x :: st) y = evm C0 b0 L0 xs0 240 (73, L, .int (x * z) :: st) y) ∧
  (∀ (L : ri_L) (st : List Value) (y : (gy × gy) × Nat) (z x : Int32), evm C0 b0 L0 xs0 240 (73, L, .int z :: .int x :: st) y = evm C0 b0 L0 xs0 240 (74, L, .int (x >>> (z &&& 31)) :: st) y) ∧
  (∀ (L : ri_L) (st : List Value) (y : (gy × gy) × Nat), evm C0 b0 L0 xs0 240 (74, L, st) y = evm C0 b0 L0 xs0 240 (76, L, .int (Int32.ofInt 15) :: st) y) ∧
  (∀ (L : ri_L) (st : List Value) (y : (gy × gy) × Nat) (z x : Int32), evm C0 b0 L0 xs0 240 (76, L, .int z :: .int x :: st) y = evm C0 b0 L0 xs0 240 (77, L, .int (x &&& z) :: st) y) ∧
  (∀ (L : ri_L) (st : List Value) (y : (gy × gy) × Nat), evm C0 b0 L0 xs0 240 (77, L, st) y = evm C0 b0 L0 xs0 240 (79, L, .int (Int32.ofInt 9) :: st) y) ∧
  (∀ (L : ri_L) (st : List Value) (y : (gy × gy) × Nat) (z x : Int32), evm C0 b0 L0 xs0 240 (79, L, .int z :: .int x :: st) y = if z = 0 then none else evm C0 b0 L0 xs0 240 (80, L, .int (x - x / z * z) :: st) y) :=
  ⟨fun L st y => em_p rfl rfl,
   fun l1 l2 l3 l4 l5 l6 l7 l8 st y x => em_p rfl rfl,
   fun L st y => em_p rfl rfl,
   fun L y a0 a1 s0 => em_call rfl rfl rfl rfl rfl,
   fun L st y => em_p rfl rfl,
   fun L st y z x => em_d rfl rfl,
   fun L st y z x => em_p rfl rfl,
   fun l0 l1 l2 l3 l4 l5 l6 l7 l8 st y x => em_p rfl rfl,
   fun l1 l2 l3 l4 l5 l6 l7 l8 st y x => em_p rfl rfl,
   fun L st y => em_p rfl rfl,
   fun L y a0 a1 => em_call rfl rfl rfl rfl rfl,
   fun l0 l1 l2 l3 l4 l5 l6 l7 l8 st y x => em_p rfl rfl,
   fun L st y => em_p rfl rfl,
   fun l0 l1 l2 l3 l4 l5 l6 l7 l8 st y x => em_p rfl rfl,
   fun L st y => em_p rfl rfl,
   fun l0 l1 l2 l3 l4 l5 l6 l7 l8 st y x => em_p rfl rfl,
   fun L st y => em_p rfl rfl,
   fun L st y z x => em_b rfl rfl,
   fun l0 l1 l2 l3 l4 l6 l7 l8 st y x => em_p rfl rfl,
   fun L st y x => em_b rfl rfl,
   fun l0 l2 l3 l4 l5 l6 l7 l8 st y x => em_p rfl rfl,
   fun L st y => em_p rfl rfl,
   fun L st y => em_p rfl rfl,
   fun l0 l1 l2 l3 l5 l6 l7 l8 st y x => em_p rfl rfl,
   fun l0 l1 l2 l3 l4 l5 l7 l8 st y x => em_p rfl rfl,
   fun L st y z x => em_p rfl rfl,
   fun L st y => em_p rfl rfl,
   fun L st y z x => em_p rfl rfl,
   fun L st y => em_p rfl rfl,
   fun L st y z x => em_d rfl rfl,
   fun L st y z x => em_p rfl rfl,
   fun l0 l1 l2 l3 l5 l6 l7 l8 st y x => em_p rfl rfl,
   fun L st y => em_p rfl rfl,
   fun l0 l1 l2 l3 l4 l5 l7 l8 st y x => em_p rfl rfl,
   fun L st y z x => em_p rfl rfl,
   fun L st y z x => em_p rfl rfl,
   fun L st y => em_p rfl rfl,
   fun L st y z x => em_p rfl rfl,
   fun L st y => em_p rfl rfl,
   fun L st y z x => em_d rfl rfl⟩
set_option maxRecDepth 8000 in
theorem L_240_1 :
  (∀ (L : ri_L) (st : List Value) (y : (gy × gy) × Nat), evm C0 b0 L0 xs0 240 (80, L, st) y = evm C0 b0 L0 xs0 240 (81, L, .int (Int32.ofInt 4) :: st) y) ∧
  (∀ (L : ri_L) (st : List Value) (y : (gy × gy) × Nat) (z x : Int32), evm C0 b0 L0 xs0 240 (81, L, .int z :: .int x :: st) y = evm C0 b0 L0 xs0 240 (82, L, .int (x - z) :: st) y) ∧
  (∀ (L : ri_L) (st : List Value) (y : (gy × gy) × Nat), evm C0 b0 L0 xs0 240 (82, L, st) y = evm C0 b0 L0 xs0 240 (84, L, .int (Int32.ofInt 9) :: st) y) ∧
  (∀ (l0 l1 l2 l3 l4 l5 l7 l8 : Option Value) (st : List Value) (y : (gy × gy) × Nat) (x : Int32), evm C0 b0 L0 xs0 240 (84, [l0, l1, l2, l3, l4, l5, some (.int x), l7, l8], st) y = evm C0 b0 L0 xs0 240 (86, [l0, l1, l2, l3, l4, l5, some (.int x), l7, l8], .int x :: st) y) ∧
  (∀ (L : ri_L) (st : List Value) (y : (gy × gy) × Nat) (z x : Int32), evm C0 b0 L0 xs0 240 (86, L, .int z :: .int x :: st) y = evm C0 b0 L0 xs0 240 (87, L, .int (x * z) :: st) y) ∧
  (∀ (L : ri_L) (y : (gy × gy) × Nat) (a0 : Nat) (a1 : Int32) (a2 : Int32) (a3 : Int32) (a4 : Int32), evm C0 b0 L0 xs0 240 (87, L, [.int a4, .int a3, .int a2, .int a1, .ref a0]) y = lm_n (calm C0 b0 L0 xs0 230 [.ref a0, .int a1, .int a2, .int a3, .int a4] y) fun v y => evm C0 b0 L0 xs0 240 (90, L, [v]) y) ∧
  (∀ (l0 l1 l2 l3 l4 l5 l7 l8 : Option Value) (st : List Value) (y : (gy × gy) × Nat) (x : Int32), evm C0 b0 L0 xs0 240 (90, [l0, l1, l2, l3, l4, l5, some (.int x), l7, l8], st) y = evm C0 b0 L0 xs0 240 (92, [l0, l1, l2, l3, l4, l5, some (.int x), l7, l8], .int x :: st) y) ∧
  (∀ (L : ri_L) (st : List Value) (y : (gy × gy) × Nat) (z x : Int32), evm C0 b0 L0 xs0 240 (92, L, .int z :: .int x :: st) y = if ¬ x = z then evm C0 b0 L0 xs0 240 (142, L, st) y else evm C0 b0 L0 xs0 240 (95, L, st) y) ∧
  (∀ (l0 l1 l3 l4 l5 l6 l7 l8 : Option Value) (st : List Value) (y : (gy × gy) × Nat) (x : Nat), evm C0 b0 L0 xs0 240 (95, [l0, l1, some (.ref x), l3, l4, l5, l6, l7, l8], st) y = evm C0 b0 L0 xs0 240 (96, [l0, l1, some (.ref x), l3, l4, l5, l6, l7, l8], .ref x :: st) y) ∧
  (∀ (L : ri_L) (st : List Value) (y : (gy × gy) × Nat), evm C0 b0 L0 xs0 240 (96, L, st) y = evm C0 b0 L0 xs0 240 (98, L, .int (Int32.ofInt 7) :: st) y) ∧
  (∀ (L : ri_L) (st : List Value) (y : (gy × gy) × Nat), evm C0 b0 L0 xs0 240 (98, L, st) y = evm C0 b0 L0 xs0 240 (99, L, .int (Int32.ofInt 3) :: st) y) ∧
  (∀ (l0 l1 l2 l3 l5 l6 l7 l8 : Option Value) (st : List Value) (y : (gy × gy) × Nat) (x : Int32), evm C0 b0 L0 xs0 240 (99, [l0, l1, l2, l3, some (.int x), l5, l6, l7, l8], st) y = evm C0 b0 L0 xs0 240 (101, [l0, l1, l2, l3, some (.int x), l5, l6, l7, l8], .int x :: st) y) ∧
  (∀ (l0 l1 l2 l3 l4 l5 l7 l8 : Option Value) (st : List Value) (y : (gy × gy) × Nat) (x : Int32), evm C0 b0 L0 xs0 240 (101, [l0, l1, l2, l3, l4, l5, some (.int x), l7, l8], st) y = evm C0 b0 L0 xs0 240 (103, [l0, l1, l2, l3, l4, l5, some (.int x), l7, l8], .int x :: st) y) ∧
  (∀ (L : ri_L) (st : List Value) (y : (gy × gy) × Nat) (z x : Int32), evm C0 b0 L0 xs0 240 (103, L, .int z :: .int x :: st) y = evm C0 b0 L0 xs0 240 (104, L, .int (x >>> (z &&& 31)) :: st) y) ∧
  (∀ (L : ri_L) (st : List Value) (y : (gy × gy) × Nat), evm C0 b0 L0 xs0 240 (104, L, st) y = evm C0 b0 L0 xs0 240 (106, L, .int (Int32.ofInt 7) :: st) y) ∧
  (∀ (L : ri_L) (st : List Value) (y : (gy × gy) × Nat) (z x : Int32), evm C0 b0 L0 xs0 240 (106, L, .int z :: .int x :: st) y = evm C0 b0 L0 xs0 240 (107, L, .int (x &&& z) :: st) y) ∧
  (∀ (L : ri_L) (st : List Value) (y : (gy × gy) × Nat), evm C0 b0 L0 xs0 240 (107, L, st) y = evm C0 b0 L0 xs0 240 (108, L, .int (Int32.ofInt 3) :: st) y) ∧
  (∀ (L : ri_L) (st : List Value) (y : (gy × gy) × Nat) (z x : Int32), evm C0 b0 L0 xs0 240 (108, L, .int z :: .int x :: st) y = if z = 0 then none else evm C0 b0 L0 xs0 240 (109, L, .int (x - x / z * z) :: st) y) ∧
  (∀ (L : ri_L) (st : List Value) (y : (gy × gy) × Nat) (z x : Int32), evm C0 b0 L0 xs0 240 (109, L, .int z :: .int x :: st) y = evm C0 b0 L0 xs0 240 (110, L, .int (x + z) :: st) y) ∧
  (∀ (l0 l1 l2 l3 l5 l6 l7 l8 : Option Value) (st : List Value) (y : (gy × gy) × Nat) (x : Int32), evm C0 b0 L0 xs0 240 (110, [l0, l1, l2, l3, some (.int x), l5, l6, l7, l8], st) y = evm C0 b0 L0 xs0 240 (112, [l0, l1, l2, l3, some (.int x), l5, l6, l7, l8], .int x :: st) y) ∧
  (∀ (L : ri_L) (st : List Value) (y : (gy × gy) × Nat), evm C0 b0 L0 xs0 240 (112, L, st) y = evm C0 b0 L0 xs0 240 (113, L, .int (Int32.ofInt 3) :: st) y) ∧
  (∀ (l0 l1 l2 l3 l4 l5 l7 l8 : Option Value) (st : List Value) (y : (gy × gy) × Nat) (x : Int32), evm C0 b0 L0 xs0 240 (113, [l0, l1, l2, l3, l4, l5, some (.int x), l7, l8], st) y = evm C0 b0 L0 xs0 240 (115, [l0, l1, l2, l3, l4, l5, some (.int x), l7, l8], .int x :: st) y) ∧
  (∀ (L : ri_L) (st : List Value) (y : (gy × gy) × Nat) (z x : Int32), evm C0 b0 L0 xs0 240 (115, L, .int z :: .int x :: st) y = evm C0 b0 L0 xs0 240 (116, L, .int (x * z) :: st) y) ∧
  (∀ (L : ri_L) (st : List Value) (y : (gy × gy) × Nat) (z x : Int32), evm C0 b0 L0 xs0 240 (116, L, .int z :: .int x :: st) y = evm C0 b0 L0 xs0 240 (117, L, .int (x >>> (z &&& 31)) :: st) y) ∧
  (∀ (L : ri_L) (st : List Value) (y : (gy × gy) × Nat), evm C0 b0 L0 xs0 240 (117, L, st) y = evm C0 b0 L0 xs0 240 (119, L, .int (Int32.ofInt 15) :: st) y) ∧
  (∀ (L : ri_L) (st : List Value) (y : (gy × gy) × Nat) (z x : Int32), evm C0 b0 L0 xs0 240 (119, L, .int z :: .int x :: st) y = evm C0 b0 L0 xs0 240 (120, L, .int (x &&& z) :: st) y) ∧
  (∀ (L : ri_L) (st : List Value) (y : (gy × gy) × Nat), evm C0 b0 L0 xs0 240 (120, L, st) y = evm C0 b0 L0 xs0 240 (122, L, .int (Int32.ofInt 9) :: st) y) ∧
  (∀ (L : ri_L) (st : List Value) (y : (gy × gy) × Nat) (z x : Int32), evm C0 b0 L0 xs0 240 (122, L, .int z :: .int x :: st) y = if z = 0 then none else evm C0 b0 L0 xs0 240 (123, L, .int (x - x / z * z) :: st) y) ∧
  (∀ (L : ri_L) (st : List Value) (y : (gy × gy) × Nat), evm C0 b0 L0 xs0 240 (123, L, st) y = evm C0 b0 L0 xs0 240 (124, L, .int (Int32.ofInt 4) :: st) y) ∧
  (∀ (L : ri_L) (st : List Value) (y : (gy × gy) × Nat) (z x : Int32), evm C0 b0 L0 xs0 240 (124, L, .int z :: .int x :: st) y = evm C0 b0 L0 xs0 240 (125, L, .int (x - z) :: st) y) ∧
  (∀ (L : ri_L) (st : List Value) (y : (gy × gy) × Nat), evm C0 b0 L0 xs0 240 (125, L, st) y = evm C0 b0 L0 xs0 240 (127, L, .int (Int32.ofInt 9) :: st) y) ∧
  (∀ (l0 l1 l2 l3 l4 l5 l7 l8 : Option Value) (st : List Value) (y : (gy × gy) × Nat) (x : Int32), evm C0 b0 L0 xs0 240 (127, [l0, l1, l2, l3, l4, l5, some (.int x), l7, l8], st) y = evm C0 b0 L0 xs0 240 (129, [l0, l1, l2, l3, l4, l5, some (.int x), l7, l8], .int x :: st) y) ∧
  (∀ (L : ri_L) (st : List Value) (y : (gy × gy) × Nat) (z x : Int32), evm C0 b0 L0 xs0 240 (129, L, .int z :: .int x :: st) y = evm C0 b0 L0 xs0 240 (130, L, .int (x * z) :: st) y) ∧
  (∀ (L : ri_L) (y : (gy × gy) × Nat) (a0 : Nat) (a1 : Int32) (a2 : Int32) (a3 : Int32) (a4 : Int32), evm C0 b0 L0 xs0 240 (130, L, [.int a4, .int a3, .int a2, .int a1, .ref a0]) y = lm_n (calm C0 b0 L0 xs0 230 [.ref a0, .int a1, .int a2, .int a3, .int a4] y) fun v y => evm C0 b0 L0 xs0 240 (133, L, [v]) y) ∧
  (∀ (l0 l1 l2 l3 l4 l5 l7 l8 : Option Value) (st : List Value) (y : (gy × gy) × Nat) (x : Int32), evm C0 b0 L0 xs0 240 (133, [l0, l1, l2, l3, l4, l5, some (.int x), l7, l8], st) y = evm C0 b0 L0 xs0 240 (135, [l0, l1, l2, l3, l4, l5, some (.int x), l7, l8], .int x :: st) y) ∧
  (∀ (L : ri_L) (st : List Value) (y : (gy × gy) × Nat) (z x : Int32), evm C0 b0 L0 xs0 240 (135, L, .int z :: .int x :: st) y = if ¬ x = z then evm C0 b0 L0 xs0 240 (142, L, st) y else evm C0 b0 L0 xs0 240 (138, L, st) y) ∧
  (∀ (L : ri_L) (st : List Value) (y : (gy × gy) × Nat), evm C0 b0 L0 xs0 240 (138, L, st) y = evm C0 b0 L0 xs0 240 (139, L, .int (Int32.ofInt 1) :: st) y) ∧
  (∀ (L : ri_L) (st : List Value) (y : (gy × gy) × Nat), evm C0 b0 L0 xs0 240 (139, L, st) y = evm C0 b0 L0 xs0 240 (143, L, st) y) ∧
  (∀ (L : ri_L) (st : List Value) (y : (gy × gy) × Nat), evm C0 b0 L0 xs0 240 (142, L, st) y = evm C0 b0 L0 xs0 240 (143, L, .int (Int32.ofInt 0) :: st) y) ∧
  (∀ (l0 l1 l2 l3 l4 l5 l6 l7 l8 : Option Value) (st : List Value) (y : (gy × gy) × Nat) (x : Int32), evm C0 b0 L0 xs0 240 (143, [l0, l1, l2, l3, l4, l5, l6, l7, l8], .int x :: st) y = evm C0 b0 L0 xs0 240 (145, [l0, l1, l2, l3, ri_clr l4, some (.int x), l6, l7, l8], st) y) :=
  ⟨fun L st y => em_p rfl rfl,
   fun L st y z x => em_p rfl rfl,
   fun L st y => em_p rfl rfl,
   fun l0 l1 l2 l3 l4 l5 l7 l8 st y x => em_p rfl rfl,
   fun L st y z x => em_p rfl rfl,
   fun L y a0 a1 a2 a3 a4 => em_call rfl rfl rfl rfl rfl,
   fun l0 l1 l2 l3 l4 l5 l7 l8 st y x => em_p rfl rfl,
   fun L st y z x => em_b rfl rfl,
   fun l0 l1 l3 l4 l5 l6 l7 l8 st y x => em_p rfl rfl,
   fun L st y => em_p rfl rfl,
   fun L st y => em_p rfl rfl,
   fun l0 l1 l2 l3 l5 l6 l7 l8 st y x => em_p rfl rfl,
   fun l0 l1 l2 l3 l4 l5 l7 l8 st y x => em_p rfl rfl,
   fun L st y z x => em_p rfl rfl,
   fun L st y => em_p rfl rfl,
   fun L st y z x => em_p rfl rfl,
   fun L st y => em_p rfl rfl,
   fun L st y z x => em_d rfl rfl,
   fun L st y z x => em_p rfl rfl,
   fun l0 l1 l2 l3 l5 l6 l7 l8 st y x => em_p rfl rfl,
   fun L st y => em_p rfl rfl,
   fun l0 l1 l2 l3 l4 l5 l7 l8 st y x => em_p rfl rfl,
   fun L st y z x => em_p rfl rfl,
   fun L st y z x => em_p rfl rfl,
   fun L st y => em_p rfl rfl,
   fun L st y z x => em_p rfl rfl,
   fun L st y => em_p rfl rfl,
   fun L st y z x => em_d rfl rfl,
   fun L st y => em_p rfl rfl,
   fun L st y z x => em_p rfl rfl,
   fun L st y => em_p rfl rfl,
   fun l0 l1 l2 l3 l4 l5 l7 l8 st y x => em_p rfl rfl,
   fun L st y z x => em_p rfl rfl,
   fun L y a0 a1 a2 a3 a4 => em_call rfl rfl rfl rfl rfl,
   fun l0 l1 l2 l3 l4 l5 l7 l8 st y x => em_p rfl rfl,
   fun L st y z x => em_b rfl rfl,
   fun L st y => em_p rfl rfl,
   fun L st y => em_p rfl rfl,
   fun L st y => em_p rfl rfl,
   fun l0 l1 l2 l3 l4 l5 l6 l7 l8 st y x => em_p rfl rfl⟩
set_option maxRecDepth 8000 in
theorem L_240_2 :
  (∀ (l0 l1 l2 l3 l4 l5 l7 l8 : Option Value) (st : List Value) (y : (gy × gy) × Nat) (x : Int32), evm C0 b0 L0 xs0 240 (145, [l0, l1, l2, l3, l4, l5, some (.int x), l7, l8], st) y = evm C0 b0 L0 xs0 240 (148, [l0, l1, l2, l3, l4, ri_clr l5, some (.int (x + (Int32.ofInt 1))), l7, l8], st) y) ∧
  (∀ (L : ri_L) (st : List Value) (y : (gy × gy) × Nat), evm C0 b0 L0 xs0 240 (148, L, st) y = evm C0 b0 L0 xs0 240 (41, L, st) y) ∧
  (∀ (L : ri_L) (st : List Value) (y : (gy × gy) × Nat), evm C0 b0 L0 xs0 240 (151, L, st) y = evm C0 b0 L0 xs0 240 (152, L, .int (Int32.ofInt 0) :: st) y) ∧
  (∀ (l0 l1 l2 l3 l4 l5 l6 l7 l8 : Option Value) (st : List Value) (y : (gy × gy) × Nat) (x : Int32), evm C0 b0 L0 xs0 240 (152, [l0, l1, l2, l3, l4, l5, l6, l7, l8], .int x :: st) y = evm C0 b0 L0 xs0 240 (154, [l0, l1, l2, l3, l4, ri_clr l5, some (.int x), l7, l8], st) y) ∧
  (∀ (l0 l1 l2 l4 l5 l6 l7 l8 : Option Value) (st : List Value) (y : (gy × gy) × Nat) (x : Int32), evm C0 b0 L0 xs0 240 (156, [l0, l1, l2, some (.int x), l4, l5, l6, l7, l8], st) y = evm C0 b0 L0 xs0 240 (157, [l0, l1, l2, some (.int x), l4, l5, l6, l7, l8], .int x :: st) y) ∧
  (∀ (L : ri_L) (st : List Value) (y : (gy × gy) × Nat) (z x : Int32), evm C0 b0 L0 xs0 240 (157, L, .int z :: .int x :: st) y = if z ≤ x then evm C0 b0 L0 xs0 240 (323, L, st) y else evm C0 b0 L0 xs0 240 (160, L, st) y) ∧
  (∀ (l0 l1 l2 l3 l4 l6 l7 l8 : Option Value) (st : List Value) (y : (gy × gy) × Nat) (x : Int32), evm C0 b0 L0 xs0 240 (160, [l0, l1, l2, l3, l4, some (.int x), l6, l7, l8], st) y = evm C0 b0 L0 xs0 240 (162, [l0, l1, l2, l3, l4, some (.int x), l6, l7, l8], .int x :: st) y) ∧
  (∀ (L : ri_L) (st : List Value) (y : (gy × gy) × Nat) (x : Int32), evm C0 b0 L0 xs0 240 (162, L, .int x :: st) y = if x = 0 then evm C0 b0 L0 xs0 240 (323, L, st) y else evm C0 b0 L0 xs0 240 (165, L, st) y) ∧
  (∀ (l1 l2 l3 l4 l5 l6 l7 l8 : Option Value) (st : List Value) (y : (gy × gy) × Nat) (x : Nat), evm C0 b0 L0 xs0 240 (165, [some (.ref x), l1, l2, l3, l4, l5, l6, l7, l8], st) y = evm C0 b0 L0 xs0 240 (166, [some (.ref x), l1, l2, l3, l4, l5, l6, l7, l8], .ref x :: st) y) ∧
  (∀ (L : ri_L) (st : List Value) (y : (gy × gy) × Nat), evm C0 b0 L0 xs0 240 (166, L, st) y = evm C0 b0 L0 xs0 240 (167, L, .int (Int32.ofInt 2) :: st) y) ∧
  (∀ (l0 l1 l2 l3 l4 l5 l7 l8 : Option Value) (st : List Value) (y : (gy × gy) × Nat) (x : Int32), evm C0 b0 L0 xs0 240 (167, [l0, l1, l2, l3, l4, l5, some (.int x), l7, l8], st) y = evm C0 b0 L0 xs0 240 (169, [l0, l1, l2, l3, l4, l5, some (.int x), l7, l8], .int x :: st) y) ∧
  (∀ (L : ri_L) (st : List Value) (y : (gy × gy) × Nat) (z x : Int32), evm C0 b0 L0 xs0 240 (169, L, .int z :: .int x :: st) y = evm C0 b0 L0 xs0 240 (170, L, .int (x + z) :: st) y) ∧
  (∀ (L : ri_L) (y : (gy × gy) × Nat) (a0 : Nat) (a1 : Int32), evm C0 b0 L0 xs0 240 (170, L, [.int a1, .ref a0]) y = lm_n (calm C0 b0 L0 xs0 300 [.ref a0, .int a1] y) fun v y => evm C0 b0 L0 xs0 240 (173, L, [v]) y) ∧
  (∀ (l0 l1 l2 l3 l4 l5 l6 l7 l8 : Option Value) (st : List Value) (y : (gy × gy) × Nat) (x : Int32), evm C0 b0 L0 xs0 240 (173, [l0, l1, l2, l3, l4, l5, l6, l7, l8], .int x :: st) y = evm C0 b0 L0 xs0 240 (175, [l0, l1, l2, l3, l4, l5, ri_clr l6, some (.int x), l8], st) y) ∧
  (∀ (l0 l2 l3 l4 l5 l6 l7 l8 : Option Value) (st : List Value) (y : (gy × gy) × Nat) (x : Nat), evm C0 b0 L0 xs0 240 (175, [l0, some (.ref x), l2, l3, l4, l5, l6, l7, l8], st) y = evm C0 b0 L0 xs0 240 (176, [l0, some (.ref x), l2, l3, l4, l5, l6, l7, l8], .ref x :: st) y) ∧
  (∀ (l0 l1 l2 l3 l4 l5 l6 l8 : Option Value) (st : List Value) (y : (gy × gy) × Nat) (x : Int32), evm C0 b0 L0 xs0 240 (176, [l0, l1, l2, l3, l4, l5, l6, some (.int x), l8], st) y = evm C0 b0 L0 xs0 240 (178, [l0, l1, l2, l3, l4, l5, l6, some (.int x), l8], .int x :: st) y) ∧
  (∀ (L : ri_L) (y : (gy × gy) × Nat) (a0 : Nat) (a1 : Int32), evm C0 b0 L0 xs0 240 (178, L, [.int a1, .ref a0]) y = lm_n (calm C0 b0 L0 xs0 234 [.ref a0, .int a1] y) fun v y => evm C0 b0 L0 xs0 240 (181, L, [v]) y) ∧
  (∀ (l0 l1 l2 l3 l4 l5 l6 l7 l8 : Option Value) (st : List Value) (y : (gy × gy) × Nat) (x : Int32), evm C0 b0 L0 xs0 240 (181, [l0, l1, l2, l3, l4, l5, l6, l7, l8], .int x :: st) y = evm C0 b0 L0 xs0 240 (183, [l0, l1, l2, l3, l4, l5, l6, ri_clr l7, some (.int x)], st) y) ∧
  (∀ (l0 l1 l3 l4 l5 l6 l7 l8 : Option Value) (st : List Value) (y : (gy × gy) × Nat) (x : Nat), evm C0 b0 L0 xs0 240 (183, [l0, l1, some (.ref x), l3, l4, l5, l6, l7, l8], st) y = evm C0 b0 L0 xs0 240 (184, [l0, l1, some (.ref x), l3, l4, l5, l6, l7, l8], .ref x :: st) y) ∧
  (∀ (l0 l1 l2 l3 l4 l5 l6 l8 : Option Value) (st : List Value) (y : (gy × gy) × Nat) (x : Int32), evm C0 b0 L0 xs0 240 (184, [l0, l1, l2, l3, l4, l5, l6, some (.int x), l8], st) y = evm C0 b0 L0 xs0 240 (186, [l0, l1, l2, l3, l4, l5, l6, some (.int x), l8], .int x :: st) y) ∧
  (∀ (L : ri_L) (st : List Value) (y : (gy × gy) × Nat), evm C0 b0 L0 xs0 240 (186, L, st) y = evm C0 b0 L0 xs0 240 (188, L, .int (Int32.ofInt 100000) :: st) y) ∧
  (∀ (L : ri_L) (st : List Value) (y : (gy × gy) × Nat) (z x : Int32), evm C0 b0 L0 xs0 240 (188, L, .int z :: .int x :: st) y = if z = 0 then none else evm C0 b0 L0 xs0 240 (189, L, .int (x - x / z * z) :: st) y) ∧
  (∀ (L : ri_L) (y : (gy × gy) × Nat) (a0 : Nat) (a1 : Int32), evm C0 b0 L0 xs0 240 (189, L, [.int a1, .ref a0]) y = lm_n (calm C0 b0 L0 xs0 232 [.ref a0, .int a1] y) fun v y => evm C0 b0 L0 xs0 240 (192, L, [v]) y) ∧
  (∀ (L : ri_L) (st : List Value) (y : (gy × gy) × Nat) (x : Int32), evm C0 b0 L0 xs0 240 (192, L, .int x :: st) y = if x = 0 then evm C0 b0 L0 xs0 240 (314, L, st) y else evm C0 b0 L0 xs0 240 (195, L, st) y) ∧
  (∀ (l0 l1 l3 l4 l5 l6 l7 l8 : Option Value) (st : List Value) (y : (gy × gy) × Nat) (x : Nat), evm C0 b0 L0 xs0 240 (195, [l0, l1, some (.ref x), l3, l4, l5, l6, l7, l8], st) y = evm C0 b0 L0 xs0 240 (196, [l0, l1, some (.ref x), l3, l4, l5, l6, l7, l8], .ref x :: st) y) ∧
  (∀ (l0 l1 l2 l3 l4 l5 l6 l8 : Option Value) (st : List Value) (y : (gy × gy) × Nat) (x : Int32), evm C0 b0 L0 xs0 240 (196, [l0, l1, l2, l3, l4, l5, l6, some (.int x), l8], st) y = evm C0 b0 L0 xs0 240 (198, [l0, l1, l2, l3, l4, l5, l6, some (.int x), l8], .int x :: st) y) ∧
  (∀ (L : ri_L) (y : (gy × gy) × Nat) (a0 : Nat) (a1 : Int32), evm C0 b0 L0 xs0 240 (198, L, [.int a1, .ref a0]) y = lm_n (calm C0 b0 L0 xs0 234 [.ref a0, .int a1] y) fun v y => evm C0 b0 L0 xs0 240 (201, L, [v]) y) ∧
  (∀ (l0 l1 l2 l3 l4 l5 l6 l7 : Option Value) (st : List Value) (y : (gy × gy) × Nat) (x : Int32), evm C0 b0 L0 xs0 240 (201, [l0, l1, l2, l3, l4, l5, l6, l7, some (.int x)], st) y = evm C0 b0 L0 xs0 240 (203, [l0, l1, l2, l3, l4, l5, l6, l7, some (.int x)], .int x :: st) y) ∧
  (∀ (L : ri_L) (st : List Value) (y : (gy × gy) × Nat) (z x : Int32), evm C0 b0 L0 xs0 240 (203, L, .int z :: .int x :: st) y = if ¬ x = z then evm C0 b0 L0 xs0 240 (314, L, st) y else evm C0 b0 L0 xs0 240 (206, L, st) y) ∧
  (∀ (l0 l1 l3 l4 l5 l6 l7 l8 : Option Value) (st : List Value) (y : (gy × gy) × Nat) (x : Nat), evm C0 b0 L0 xs0 240 (206, [l0, l1, some (.ref x), l3, l4, l5, l6, l7, l8], st) y = evm C0 b0 L0 xs0 240 (207, [l0, l1, some (.ref x), l3, l4, l5, l6, l7, l8], .ref x :: st) y) ∧
  (∀ (l0 l1 l2 l3 l4 l5 l6 l8 : Option Value) (st : List Value) (y : (gy × gy) × Nat) (x : Int32), evm C0 b0 L0 xs0 240 (207, [l0, l1, l2, l3, l4, l5, l6, some (.int x), l8], st) y = evm C0 b0 L0 xs0 240 (209, [l0, l1, l2, l3, l4, l5, l6, some (.int x), l8], .int x :: st) y) ∧
  (∀ (L : ri_L) (st : List Value) (y : (gy × gy) × Nat), evm C0 b0 L0 xs0 240 (209, L, st) y = evm C0 b0 L0 xs0 240 (212, L, .int (Int32.ofInt 1000) :: st) y) ∧
  (∀ (L : ri_L) (st : List Value) (y : (gy × gy) × Nat) (z x : Int32), evm C0 b0 L0 xs0 240 (212, L, .int z :: .int x :: st) y = if z = 0 then none else evm C0 b0 L0 xs0 240 (213, L, .int (x - x / z * z) :: st) y) ∧
  (∀ (L : ri_L) (y : (gy × gy) × Nat) (a0 : Nat) (a1 : Int32), evm C0 b0 L0 xs0 240 (213, L, [.int a1, .ref a0]) y = lm_n (calm C0 b0 L0 xs0 232 [.ref a0, .int a1] y) fun v y => evm C0 b0 L0 xs0 240 (216, L, [v]) y) ∧
  (∀ (L : ri_L) (st : List Value) (y : (gy × gy) × Nat) (x : Int32), evm C0 b0 L0 xs0 240 (216, L, .int x :: st) y = if x = 0 then evm C0 b0 L0 xs0 240 (314, L, st) y else evm C0 b0 L0 xs0 240 (219, L, st) y) ∧
  (∀ (l0 l2 l3 l4 l5 l6 l7 l8 : Option Value) (st : List Value) (y : (gy × gy) × Nat) (x : Nat), evm C0 b0 L0 xs0 240 (219, [l0, some (.ref x), l2, l3, l4, l5, l6, l7, l8], st) y = evm C0 b0 L0 xs0 240 (220, [l0, some (.ref x), l2, l3, l4, l5, l6, l7, l8], .ref x :: st) y) ∧
  (∀ (l0 l1 l3 l4 l5 l6 l7 l8 : Option Value) (st : List Value) (y : (gy × gy) × Nat) (x : Nat), evm C0 b0 L0 xs0 240 (220, [l0, l1, some (.ref x), l3, l4, l5, l6, l7, l8], st) y = evm C0 b0 L0 xs0 240 (221, [l0, l1, some (.ref x), l3, l4, l5, l6, l7, l8], .ref x :: st) y) ∧
  (∀ (l0 l1 l2 l3 l4 l5 l6 l8 : Option Value) (st : List Value) (y : (gy × gy) × Nat) (x : Int32), evm C0 b0 L0 xs0 240 (221, [l0, l1, l2, l3, l4, l5, l6, some (.int x), l8], st) y = evm C0 b0 L0 xs0 240 (223, [l0, l1, l2, l3, l4, l5, l6, some (.int x), l8], .int x :: st) y) ∧
  (∀ (L : ri_L) (st : List Value) (y : (gy × gy) × Nat), evm C0 b0 L0 xs0 240 (223, L, st) y = evm C0 b0 L0 xs0 240 (226, L, .int (Int32.ofInt 5000) :: st) y) ∧
  (∀ (L : ri_L) (st : List Value) (y : (gy × gy) × Nat) (z x : Int32), evm C0 b0 L0 xs0 240 (226, L, .int z :: .int x :: st) y = if z = 0 then none else evm C0 b0 L0 xs0 240 (227, L, .int (x - x / z * z) :: st) y) :=
  ⟨fun l0 l1 l2 l3 l4 l5 l7 l8 st y x => em_p rfl rfl,
   fun L st y => em_p rfl rfl,
   fun L st y => em_p rfl rfl,
   fun l0 l1 l2 l3 l4 l5 l6 l7 l8 st y x => em_p rfl rfl,
   fun l0 l1 l2 l4 l5 l6 l7 l8 st y x => em_p rfl rfl,
   fun L st y z x => em_b rfl rfl,
   fun l0 l1 l2 l3 l4 l6 l7 l8 st y x => em_p rfl rfl,
   fun L st y x => em_b rfl rfl,
   fun l1 l2 l3 l4 l5 l6 l7 l8 st y x => em_p rfl rfl,
   fun L st y => em_p rfl rfl,
   fun l0 l1 l2 l3 l4 l5 l7 l8 st y x => em_p rfl rfl,
   fun L st y z x => em_p rfl rfl,
   fun L y a0 a1 => em_call rfl rfl rfl rfl rfl,
   fun l0 l1 l2 l3 l4 l5 l6 l7 l8 st y x => em_p rfl rfl,
   fun l0 l2 l3 l4 l5 l6 l7 l8 st y x => em_p rfl rfl,
   fun l0 l1 l2 l3 l4 l5 l6 l8 st y x => em_p rfl rfl,
   fun L y a0 a1 => em_call rfl rfl rfl rfl rfl,
   fun l0 l1 l2 l3 l4 l5 l6 l7 l8 st y x => em_p rfl rfl,
   fun l0 l1 l3 l4 l5 l6 l7 l8 st y x => em_p rfl rfl,
   fun l0 l1 l2 l3 l4 l5 l6 l8 st y x => em_p rfl rfl,
   fun L st y => em_p rfl rfl,
   fun L st y z x => em_d rfl rfl,
   fun L y a0 a1 => em_call rfl rfl rfl rfl rfl,
   fun L st y x => em_b rfl rfl,
   fun l0 l1 l3 l4 l5 l6 l7 l8 st y x => em_p rfl rfl,
   fun l0 l1 l2 l3 l4 l5 l6 l8 st y x => em_p rfl rfl,
   fun L y a0 a1 => em_call rfl rfl rfl rfl rfl,
   fun l0 l1 l2 l3 l4 l5 l6 l7 st y x => em_p rfl rfl,
   fun L st y z x => em_b rfl rfl,
   fun l0 l1 l3 l4 l5 l6 l7 l8 st y x => em_p rfl rfl,
   fun l0 l1 l2 l3 l4 l5 l6 l8 st y x => em_p rfl rfl,
   fun L st y => em_p rfl rfl,
   fun L st y z x => em_d rfl rfl,
   fun L y a0 a1 => em_call rfl rfl rfl rfl rfl,
   fun L st y x => em_b rfl rfl,
   fun l0 l2 l3 l4 l5 l6 l7 l8 st y x => em_p rfl rfl,
   fun l0 l1 l3 l4 l5 l6 l7 l8 st y x => em_p rfl rfl,
   fun l0 l1 l2 l3 l4 l5 l6 l8 st y x => em_p rfl rfl,
   fun L st y => em_p rfl rfl,
   fun L st y z x => em_d rfl rfl⟩
set_option maxRecDepth 8000 in
theorem L_240_3 :
  (∀ (L : ri_L) (y : (gy × gy) × Nat) (a0 : Nat) (a1 : Nat) (a2 : Int32), evm C0 b0 L0 xs0 240 (227, L, [.int a2, .ref a1, .ref a0]) y = lm_n (calm C0 b0 L0 xs0 235 [.ref a0, .ref a1, .int a2] y) fun v y => evm C0 b0 L0 xs0 240 (230, L, [v]) y) ∧
  (∀ (L : ri_L) (st : List Value) (y : (gy × gy) × Nat) (x : Int32), evm C0 b0 L0 xs0 240 (230, L, .int x :: st) y = if x = 0 then evm C0 b0 L0 xs0 240 (314, L, st) y else evm C0 b0 L0 xs0 240 (233, L, st) y) ∧
  (∀ (l0 l1 l2 l3 l4 l5 l7 l8 : Option Value) (st : List Value) (y : (gy × gy) × Nat) (x : Int32), evm C0 b0 L0 xs0 240 (233, [l0, l1, l2, l3, l4, l5, some (.int x), l7, l8], st) y = evm C0 b0 L0 xs0 240 (235, [l0, l1, l2, l3, l4, l5, some (.int x), l7, l8], .int x :: st) y) ∧
  (∀ (L : ri_L) (st : List Value) (y : (gy × gy) × Nat), evm C0 b0 L0 xs0 240 (235, L, st) y = evm C0 b0 L0 xs0 240 (236, L, .int (Int32.ofInt 2) :: st) y) ∧
  (∀ (L : ri_L) (st : List Value) (y : (gy × gy) × Nat) (z x : Int32), evm C0 b0 L0 xs0 240 (236, L, .int z :: .int x :: st) y = if z = 0 then none else evm C0 b0 L0 xs0 240 (237, L, .int (x - x / z * z) :: st) y) ∧
  (∀ (L : ri_L) (st : List Value) (y : (gy × gy) × Nat) (x : Int32), evm C0 b0 L0 xs0 240 (237, L, .int x :: st) y = if ¬ x = 0 then evm C0 b0 L0 xs0 240 (250, L, st) y else evm C0 b0 L0 xs0 240 (240, L, st) y) ∧
  (∀ (l0 l2 l3 l4 l5 l6 l7 l8 : Option Value) (st : List Value) (y : (gy × gy) × Nat) (x : Nat), evm C0 b0 L0 xs0 240 (240, [l0, some (.ref x), l2, l3, l4, l5, l6, l7, l8], st) y = evm C0 b0 L0 xs0 240 (241, [l0, some (.ref x), l2, l3, l4, l5, l6, l7, l8], .ref x :: st) y) ∧
  (∀ (L : ri_L) (y : (gy × gy) × Nat) (a0 : Nat), evm C0 b0 L0 xs0 240 (241, L, [.ref a0]) y = lm_n (calm C0 b0 L0 xs0 233 [.ref a0] y) fun v y => evm C0 b0 L0 xs0 240 (244, L, [v]) y) ∧
  (∀ (L : ri_L) (st : List Value) (y : (gy × gy) × Nat) (x : Int32), evm C0 b0 L0 xs0 240 (244, L, .int x :: st) y = if x = 0 then evm C0 b0 L0 xs0 240 (314, L, st) y else evm C0 b0 L0 xs0 240 (247, L, st) y) ∧
  (∀ (L : ri_L) (st : List Value) (y : (gy × gy) × Nat), evm C0 b0 L0 xs0 240 (247, L, st) y = evm C0 b0 L0 xs0 240 (257, L, st) y) ∧
  (∀ (l0 l1 l3 l4 l5 l6 l7 l8 : Option Value) (st : List Value) (y : (gy × gy) × Nat) (x : Nat), evm C0 b0 L0 xs0 240 (250, [l0, l1, some (.ref x), l3, l4, l5, l6, l7, l8], st) y = evm C0 b0 L0 xs0 240 (251, [l0, l1, some (.ref x), l3, l4, l5, l6, l7, l8], .ref x :: st) y) ∧
  (∀ (L : ri_L) (y : (gy × gy) × Nat) (a0 : Nat), evm C0 b0 L0 xs0 240 (251, L, [.ref a0]) y = lm_n (calm C0 b0 L0 xs0 233 [.ref a0] y) fun v y => evm C0 b0 L0 xs0 240 (254, L, [v]) y) ∧
  (∀ (L : ri_L) (st : List Value) (y : (gy × gy) × Nat) (x : Int32), evm C0 b0 L0 xs0 240 (254, L, .int x :: st) y = if x = 0 then evm C0 b0 L0 xs0 240 (314, L, st) y else evm C0 b0 L0 xs0 240 (257, L, st) y) ∧
  (∀ (l0 l2 l3 l4 l5 l6 l7 l8 : Option Value) (st : List Value) (y : (gy × gy) × Nat) (x : Nat), evm C0 b0 L0 xs0 240 (257, [l0, some (.ref x), l2, l3, l4, l5, l6, l7, l8], st) y = evm C0 b0 L0 xs0 240 (258, [l0, some (.ref x), l2, l3, l4, l5, l6, l7, l8], .ref x :: st) y) ∧
  (∀ (l0 l1 l3 l4 l5 l6 l7 l8 : Option Value) (st : List Value) (y : (gy × gy) × Nat) (x : Nat), evm C0 b0 L0 xs0 240 (258, [l0, l1, some (.ref x), l3, l4, l5, l6, l7, l8], st) y = evm C0 b0 L0 xs0 240 (259, [l0, l1, some (.ref x), l3, l4, l5, l6, l7, l8], .ref x :: st) y) ∧
  (∀ (l0 l1 l2 l3 l4 l5 l6 l8 : Option Value) (st : List Value) (y : (gy × gy) × Nat) (x : Int32), evm C0 b0 L0 xs0 240 (259, [l0, l1, l2, l3, l4, l5, l6, some (.int x), l8], st) y = evm C0 b0 L0 xs0 240 (261, [l0, l1, l2, l3, l4, l5, l6, some (.int x), l8], .int x :: st) y) ∧
  (∀ (L : ri_L) (st : List Value) (y : (gy × gy) × Nat), evm C0 b0 L0 xs0 240 (261, L, st) y = evm C0 b0 L0 xs0 240 (263, L, .int (Int32.ofInt 7) :: st) y) ∧
  (∀ (L : ri_L) (st : List Value) (y : (gy × gy) × Nat) (z x : Int32), evm C0 b0 L0 xs0 240 (263, L, .int z :: .int x :: st) y = if z = 0 then none else evm C0 b0 L0 xs0 240 (264, L, .int (x / z) :: st) y) ∧
  (∀ (L : ri_L) (y : (gy × gy) × Nat) (a0 : Nat) (a1 : Nat) (a2 : Int32), evm C0 b0 L0 xs0 240 (264, L, [.int a2, .ref a1, .ref a0]) y = lm_n (calm C0 b0 L0 xs0 236 [.ref a0, .ref a1, .int a2] y) fun v y => evm C0 b0 L0 xs0 240 (267, L, [v]) y) ∧
  (∀ (L : ri_L) (st : List Value) (y : (gy × gy) × Nat) (x : Int32), evm C0 b0 L0 xs0 240 (267, L, .int x :: st) y = if x = 0 then evm C0 b0 L0 xs0 240 (314, L, st) y else evm C0 b0 L0 xs0 240 (270, L, st) y) ∧
  (∀ (l0 l1 l2 l3 l4 l5 l7 l8 : Option Value) (st : List Value) (y : (gy × gy) × Nat) (x : Int32), evm C0 b0 L0 xs0 240 (270, [l0, l1, l2, l3, l4, l5, some (.int x), l7, l8], st) y = evm C0 b0 L0 xs0 240 (272, [l0, l1, l2, l3, l4, l5, some (.int x), l7, l8], .int x :: st) y) ∧
  (∀ (L : ri_L) (st : List Value) (y : (gy × gy) × Nat), evm C0 b0 L0 xs0 240 (272, L, st) y = evm C0 b0 L0 xs0 240 (273, L, .int (Int32.ofInt 3) :: st) y) ∧
  (∀ (L : ri_L) (st : List Value) (y : (gy × gy) × Nat) (z x : Int32), evm C0 b0 L0 xs0 240 (273, L, .int z :: .int x :: st) y = if z = 0 then none else evm C0 b0 L0 xs0 240 (274, L, .int (x - x / z * z) :: st) y) ∧
  (∀ (L : ri_L) (st : List Value) (y : (gy × gy) × Nat) (x : Int32), evm C0 b0 L0 xs0 240 (274, L, .int x :: st) y = if 0 < x then evm C0 b0 L0 xs0 240 (289, L, st) y else evm C0 b0 L0 xs0 240 (277, L, st) y) ∧
  (∀ (l0 l2 l3 l4 l5 l6 l7 l8 : Option Value) (st : List Value) (y : (gy × gy) × Nat) (x : Nat), evm C0 b0 L0 xs0 240 (277, [l0, some (.ref x), l2, l3, l4, l5, l6, l7, l8], st) y = evm C0 b0 L0 xs0 240 (278, [l0, some (.ref x), l2, l3, l4, l5, l6, l7, l8], .ref x :: st) y) ∧
  (∀ (l0 l1 l2 l3 l4 l5 l6 l8 : Option Value) (st : List Value) (y : (gy × gy) × Nat) (x : Int32), evm C0 b0 L0 xs0 240 (278, [l0, l1, l2, l3, l4, l5, l6, some (.int x), l8], st) y = evm C0 b0 L0 xs0 240 (280, [l0, l1, l2, l3, l4, l5, l6, some (.int x), l8], .int x :: st) y) ∧
  (∀ (L : ri_L) (st : List Value) (y : (gy × gy) × Nat), evm C0 b0 L0 xs0 240 (280, L, st) y = evm C0 b0 L0 xs0 240 (282, L, .int (Int32.ofInt 11) :: st) y) ∧
  (∀ (L : ri_L) (st : List Value) (y : (gy × gy) × Nat) (z x : Int32), evm C0 b0 L0 xs0 240 (282, L, .int z :: .int x :: st) y = if z = 0 then none else evm C0 b0 L0 xs0 240 (283, L, .int (x / z) :: st) y) ∧
  (∀ (L : ri_L) (y : (gy × gy) × Nat) (a0 : Nat) (a1 : Int32), evm C0 b0 L0 xs0 240 (283, L, [.int a1, .ref a0]) y = lm_n (calm C0 b0 L0 xs0 237 [.ref a0, .int a1] y) fun v y => evm C0 b0 L0 xs0 240 (286, L, [v]) y) ∧
  (∀ (L : ri_L) (st : List Value) (y : (gy × gy) × Nat) (x : Int32), evm C0 b0 L0 xs0 240 (286, L, .int x :: st) y = if x = 0 then evm C0 b0 L0 xs0 240 (314, L, st) y else evm C0 b0 L0 xs0 240 (289, L, st) y) ∧
  (∀ (l0 l1 l2 l3 l4 l5 l7 l8 : Option Value) (st : List Value) (y : (gy × gy) × Nat) (x : Int32), evm C0 b0 L0 xs0 240 (289, [l0, l1, l2, l3, l4, l5, some (.int x), l7, l8], st) y = evm C0 b0 L0 xs0 240 (291, [l0, l1, l2, l3, l4, l5, some (.int x), l7, l8], .int x :: st) y) ∧
  (∀ (L : ri_L) (st : List Value) (y : (gy × gy) × Nat), evm C0 b0 L0 xs0 240 (291, L, st) y = evm C0 b0 L0 xs0 240 (292, L, .int (Int32.ofInt 3) :: st) y) ∧
  (∀ (L : ri_L) (st : List Value) (y : (gy × gy) × Nat) (z x : Int32), evm C0 b0 L0 xs0 240 (292, L, .int z :: .int x :: st) y = if z = 0 then none else evm C0 b0 L0 xs0 240 (293, L, .int (x - x / z * z) :: st) y) ∧
  (∀ (L : ri_L) (st : List Value) (y : (gy × gy) × Nat), evm C0 b0 L0 xs0 240 (293, L, st) y = evm C0 b0 L0 xs0 240 (294, L, .int (Int32.ofInt 1) :: st) y) ∧
  (∀ (L : ri_L) (st : List Value) (y : (gy × gy) × Nat) (z x : Int32), evm C0 b0 L0 xs0 240 (294, L, .int z :: .int x :: st) y = if z < x then evm C0 b0 L0 xs0 240 (310, L, st) y else evm C0 b0 L0 xs0 240 (297, L, st) y) ∧
  (∀ (l0 l2 l3 l4 l5 l6 l7 l8 : Option Value) (st : List Value) (y : (gy × gy) × Nat) (x : Nat), evm C0 b0 L0 xs0 240 (297, [l0, some (.ref x), l2, l3, l4, l5, l6, l7, l8], st) y = evm C0 b0 L0 xs0 240 (298, [l0, some (.ref x), l2, l3, l4, l5, l6, l7, l8], .ref x :: st) y) ∧
  (∀ (l0 l1 l3 l4 l5 l6 l7 l8 : Option Value) (st : List Value) (y : (gy × gy) × Nat) (x : Nat), evm C0 b0 L0 xs0 240 (298, [l0, l1, some (.ref x), l3, l4, l5, l6, l7, l8], st) y = evm C0 b0 L0 xs0 240 (299, [l0, l1, some (.ref x), l3, l4, l5, l6, l7, l8], .ref x :: st) y) ∧
  (∀ (l0 l1 l2 l3 l4 l5 l6 l8 : Option Value) (st : List Value) (y : (gy × gy) × Nat) (x : Int32), evm C0 b0 L0 xs0 240 (299, [l0, l1, l2, l3, l4, l5, l6, some (.int x), l8], st) y = evm C0 b0 L0 xs0 240 (301, [l0, l1, l2, l3, l4, l5, l6, some (.int x), l8], .int x :: st) y) ∧
  (∀ (L : ri_L) (st : List Value) (y : (gy × gy) × Nat), evm C0 b0 L0 xs0 240 (301, L, st) y = evm C0 b0 L0 xs0 240 (303, L, .int (Int32.ofInt 13) :: st) y) ∧
  (∀ (L : ri_L) (st : List Value) (y : (gy × gy) × Nat) (z x : Int32), evm C0 b0 L0 xs0 240 (303, L, .int z :: .int x :: st) y = if z = 0 then none else evm C0 b0 L0 xs0 240 (304, L, .int (x / z) :: st) y) :=
  ⟨fun L y a0 a1 a2 => em_call rfl rfl rfl rfl rfl,
   fun L st y x => em_b rfl rfl,
   fun l0 l1 l2 l3 l4 l5 l7 l8 st y x => em_p rfl rfl,
   fun L st y => em_p rfl rfl,
   fun L st y z x => em_d rfl rfl,
   fun L st y x => em_b rfl rfl,
   fun l0 l2 l3 l4 l5 l6 l7 l8 st y x => em_p rfl rfl,
   fun L y a0 => em_call rfl rfl rfl rfl rfl,
   fun L st y x => em_b rfl rfl,
   fun L st y => em_p rfl rfl,
   fun l0 l1 l3 l4 l5 l6 l7 l8 st y x => em_p rfl rfl,
   fun L y a0 => em_call rfl rfl rfl rfl rfl,
   fun L st y x => em_b rfl rfl,
   fun l0 l2 l3 l4 l5 l6 l7 l8 st y x => em_p rfl rfl,
   fun l0 l1 l3 l4 l5 l6 l7 l8 st y x => em_p rfl rfl,
   fun l0 l1 l2 l3 l4 l5 l6 l8 st y x => em_p rfl rfl,
   fun L st y => em_p rfl rfl,
   fun L st y z x => em_d rfl rfl,
   fun L y a0 a1 a2 => em_call rfl rfl rfl rfl rfl,
   fun L st y x => em_b rfl rfl,
   fun l0 l1 l2 l3 l4 l5 l7 l8 st y x => em_p rfl rfl,
   fun L st y => em_p rfl rfl,
   fun L st y z x => em_d rfl rfl,
   fun L st y x => em_b rfl rfl,
   fun l0 l2 l3 l4 l5 l6 l7 l8 st y x => em_p rfl rfl,
   fun l0 l1 l2 l3 l4 l5 l6 l8 st y x => em_p rfl rfl,
   fun L st y => em_p rfl rfl,
   fun L st y z x => em_d rfl rfl,
   fun L y a0 a1 => em_call rfl rfl rfl rfl rfl,
   fun L st y x => em_b rfl rfl,
   fun l0 l1 l2 l3 l4 l5 l7 l8 st y x => em_p rfl rfl,
   fun L st y => em_p rfl rfl,
   fun L st y z x => em_d rfl rfl,
   fun L st y => em_p rfl rfl,
   fun L st y z x => em_b rfl rfl,
   fun l0 l2 l3 l4 l5 l6 l7 l8 st y x => em_p rfl rfl,
   fun l0 l1 l3 l4 l5 l6 l7 l8 st y x => em_p rfl rfl,
   fun l0 l1 l2 l3 l4 l5 l6 l8 st y x => em_p rfl rfl,
   fun L st y => em_p rfl rfl,
   fun L st y z x => em_d rfl rfl⟩
set_option maxRecDepth 8000 in
theorem L_240_4 :
  (∀ (L : ri_L) (y : (gy × gy) × Nat) (a0 : Nat) (a1 : Nat) (a2 : Int32), evm C0 b0 L0 xs0 240 (304, L, [.int a2, .ref a1, .ref a0]) y = lm_n (calm C0 b0 L0 xs0 238 [.ref a0, .ref a1, .int a2] y) fun v y => evm C0 b0 L0 xs0 240 (307, L, [v]) y) ∧
  (∀ (L : ri_L) (st : List Value) (y : (gy × gy) × Nat) (x : Int32), evm C0 b0 L0 xs0 240 (307, L, .int x :: st) y = if x = 0 then evm C0 b0 L0 xs0 240 (314, L, st) y else evm C0 b0 L0 xs0 240 (310, L, st) y) ∧
  (∀ (L : ri_L) (st : List Value) (y : (gy × gy) × Nat), evm C0 b0 L0 xs0 240 (310, L, st) y = evm C0 b0 L0 xs0 240 (311, L, .int (Int32.ofInt 1) :: st) y) ∧
  (∀ (L : ri_L) (st : List Value) (y : (gy × gy) × Nat), evm C0 b0 L0 xs0 240 (311, L, st) y = evm C0 b0 L0 xs0 240 (315, L, st) y) ∧
  (∀ (L : ri_L) (st : List Value) (y : (gy × gy) × Nat), evm C0 b0 L0 xs0 240 (314, L, st) y = evm C0 b0 L0 xs0 240 (315, L, .int (Int32.ofInt 0) :: st) y) ∧
  (∀ (l0 l1 l2 l3 l4 l5 l6 l7 l8 : Option Value) (st : List Value) (y : (gy × gy) × Nat) (x : Int32), evm C0 b0 L0 xs0 240 (315, [l0, l1, l2, l3, l4, l5, l6, l7, l8], .int x :: st) y = evm C0 b0 L0 xs0 240 (317, [l0, l1, l2, l3, ri_clr l4, some (.int x), l6, l7, l8], st) y) ∧
  (∀ (l0 l1 l2 l3 l4 l5 l7 l8 : Option Value) (st : List Value) (y : (gy × gy) × Nat) (x : Int32), evm C0 b0 L0 xs0 240 (317, [l0, l1, l2, l3, l4, l5, some (.int x), l7, l8], st) y = evm C0 b0 L0 xs0 240 (320, [l0, l1, l2, l3, l4, ri_clr l5, some (.int (x + (Int32.ofInt 1))), l7, l8], st) y) ∧
  (∀ (L : ri_L) (st : List Value) (y : (gy × gy) × Nat), evm C0 b0 L0 xs0 240 (320, L, st) y = evm C0 b0 L0 xs0 240 (154, L, st) y) ∧
  (∀ (l0 l1 l2 l3 l4 l6 l7 l8 : Option Value) (st : List Value) (y : (gy × gy) × Nat) (x : Int32), evm C0 b0 L0 xs0 240 (323, [l0, l1, l2, l3, l4, some (.int x), l6, l7, l8], st) y = evm C0 b0 L0 xs0 240 (325, [l0, l1, l2, l3, l4, some (.int x), l6, l7, l8], .int x :: st) y) ∧
  (∀ (L : ri_L) (y : (gy × gy) × Nat) (x : Int32), evm C0 b0 L0 xs0 240 (325, L, [.int x]) y = lm_b x (some (.int x, y))) :=
  ⟨fun L y a0 a1 a2 => em_call rfl rfl rfl rfl rfl,
   fun L st y x => em_b rfl rfl,
   fun L st y => em_p rfl rfl,
   fun L st y => em_p rfl rfl,
   fun L st y => em_p rfl rfl,
   fun l0 l1 l2 l3 l4 l5 l6 l7 l8 st y x => em_p rfl rfl,
   fun l0 l1 l2 l3 l4 l5 l7 l8 st y x => em_p rfl rfl,
   fun L st y => em_p rfl rfl,
   fun l0 l1 l2 l3 l4 l6 l7 l8 st y x => em_p rfl rfl,
   fun L y x => em_r rfl rfl⟩
end EQM
