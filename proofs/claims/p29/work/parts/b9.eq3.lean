/-! How the law's methods read on. -/
section EQM
variable {C0 b0 L0 : Nat} {xs0 : Nat → Int32}
theorem M_235 (x0 : Nat) (x1 : Nat) (x2 : Int32) (y : (gy × gy) × Nat) : calm C0 b0 L0 xs0 235 [.ref x0, .ref x1, .int x2] y = evm C0 b0 L0 xs0 235 (0, [some (.ref x0), some (.ref x1), some (.int x2), none, none], []) y := em_in rfl
set_option maxRecDepth 8000 in
theorem G_235_36 (l0 l1 l2 l3 : Option Value) (st : List Value) (y : (gy × gy) × Nat) (x : Int32) : evm C0 b0 L0 xs0 235 (36, [l0, l1, l2, l3, some (.int x)], st) y = evm C0 b0 L0 xs0 235 (38, [l0, l1, l2, l3, some (.int x)], .int x :: st) y := em_p rfl rfl
set_option maxRecDepth 8000 in
theorem L_235_0 :
  (∀ (l1 l2 l3 l4 : Option Value) (st : List Value) (y : (gy × gy) × Nat) (x : Nat), evm C0 b0 L0 xs0 235 (0, [some (.ref x), l1, l2, l3, l4], st) y = evm C0 b0 L0 xs0 235 (1, [some (.ref x), l1, l2, l3, l4], .ref x :: st) y) ∧
  (∀ (l0 l1 l3 l4 : Option Value) (st : List Value) (y : (gy × gy) × Nat) (x : Int32), evm C0 b0 L0 xs0 235 (1, [l0, l1, some (.int x), l3, l4], st) y = evm C0 b0 L0 xs0 235 (2, [l0, l1, some (.int x), l3, l4], .int x :: st) y) ∧
  (∀ (L : ri_L) (st : List Value) (y : (gy × gy) × Nat) (x : Int32), evm C0 b0 L0 xs0 235 (2, L, .int x :: st) y = evm C0 b0 L0 xs0 235 (3, L, .long x.toInt64 :: st) y) ∧
  (∀ (L : ri_L) (st : List Value) (y : (gy × gy) × Nat), evm C0 b0 L0 xs0 235 (3, L, st) y = evm C0 b0 L0 xs0 235 (4, L, .int (Int32.ofInt 1) :: st) y) ∧
  (∀ (l0 l1 l3 l4 : Option Value) (st : List Value) (y : (gy × gy) × Nat) (x : Int32), evm C0 b0 L0 xs0 235 (4, [l0, l1, some (.int x), l3, l4], st) y = evm C0 b0 L0 xs0 235 (5, [l0, l1, some (.int x), l3, l4], .int x :: st) y) ∧
  (∀ (L : ri_L) (st : List Value) (y : (gy × gy) × Nat), evm C0 b0 L0 xs0 235 (5, L, st) y = evm C0 b0 L0 xs0 235 (7, L, .int (Int32.ofInt 40) :: st) y) ∧
  (∀ (L : ri_L) (st : List Value) (y : (gy × gy) × Nat) (z x : Int32), evm C0 b0 L0 xs0 235 (7, L, .int z :: .int x :: st) y = if z = 0 then none else evm C0 b0 L0 xs0 235 (8, L, .int (x - x / z * z) :: st) y) ∧
  (∀ (L : ri_L) (st : List Value) (y : (gy × gy) × Nat) (z x : Int32), evm C0 b0 L0 xs0 235 (8, L, .int z :: .int x :: st) y = evm C0 b0 L0 xs0 235 (9, L, .int (x + z) :: st) y) ∧
  (∀ (L : ri_L) (y : (gy × gy) × Nat) (a0 : Nat) (a1 : Int64) (a2 : Int32), evm C0 b0 L0 xs0 235 (9, L, [.int a2, .long a1, .ref a0]) y = lm_n (calm C0 b0 L0 xs0 332 [.ref a0, .long a1, .int a2] y) fun v y => evm C0 b0 L0 xs0 235 (12, L, [v]) y) ∧
  (∀ (l0 l2 l3 l4 : Option Value) (st : List Value) (y : (gy × gy) × Nat) (x : Nat), evm C0 b0 L0 xs0 235 (12, [l0, some (.ref x), l2, l3, l4], st) y = evm C0 b0 L0 xs0 235 (13, [l0, some (.ref x), l2, l3, l4], .ref x :: st) y) ∧
  (∀ (l0 l1 l3 l4 : Option Value) (st : List Value) (y : (gy × gy) × Nat) (x : Int32), evm C0 b0 L0 xs0 235 (13, [l0, l1, some (.int x), l3, l4], st) y = evm C0 b0 L0 xs0 235 (14, [l0, l1, some (.int x), l3, l4], .int x :: st) y) ∧
  (∀ (L : ri_L) (st : List Value) (y : (gy × gy) × Nat) (x : Int32), evm C0 b0 L0 xs0 235 (14, L, .int x :: st) y = evm C0 b0 L0 xs0 235 (15, L, .long x.toInt64 :: st) y) ∧
  (∀ (L : ri_L) (st : List Value) (y : (gy × gy) × Nat), evm C0 b0 L0 xs0 235 (15, L, st) y = evm C0 b0 L0 xs0 235 (16, L, .int (Int32.ofInt 1) :: st) y) ∧
  (∀ (l0 l1 l3 l4 : Option Value) (st : List Value) (y : (gy × gy) × Nat) (x : Int32), evm C0 b0 L0 xs0 235 (16, [l0, l1, some (.int x), l3, l4], st) y = evm C0 b0 L0 xs0 235 (17, [l0, l1, some (.int x), l3, l4], .int x :: st) y) ∧
  (∀ (L : ri_L) (st : List Value) (y : (gy × gy) × Nat), evm C0 b0 L0 xs0 235 (17, L, st) y = evm C0 b0 L0 xs0 235 (19, L, .int (Int32.ofInt 40) :: st) y) ∧
  (∀ (L : ri_L) (st : List Value) (y : (gy × gy) × Nat) (z x : Int32), evm C0 b0 L0 xs0 235 (19, L, .int z :: .int x :: st) y = if z = 0 then none else evm C0 b0 L0 xs0 235 (20, L, .int (x - x / z * z) :: st) y) ∧
  (∀ (L : ri_L) (st : List Value) (y : (gy × gy) × Nat) (z x : Int32), evm C0 b0 L0 xs0 235 (20, L, .int z :: .int x :: st) y = evm C0 b0 L0 xs0 235 (21, L, .int (x + z) :: st) y) ∧
  (∀ (L : ri_L) (y : (gy × gy) × Nat) (a0 : Nat) (a1 : Int64) (a2 : Int32) (s0 : Value), evm C0 b0 L0 xs0 235 (21, L, [.int a2, .long a1, .ref a0, s0]) y = lm_n (calm C0 b0 L0 xs0 332 [.ref a0, .long a1, .int a2] y) fun v y => evm C0 b0 L0 xs0 235 (24, L, [v, s0]) y) ∧
  (∀ (L : ri_L) (st : List Value) (y : (gy × gy) × Nat) (z x : Int32), evm C0 b0 L0 xs0 235 (24, L, .int z :: .int x :: st) y = if ¬ x = z then evm C0 b0 L0 xs0 235 (31, L, st) y else evm C0 b0 L0 xs0 235 (27, L, st) y) ∧
  (∀ (L : ri_L) (st : List Value) (y : (gy × gy) × Nat), evm C0 b0 L0 xs0 235 (27, L, st) y = evm C0 b0 L0 xs0 235 (28, L, .int (Int32.ofInt 1) :: st) y) ∧
  (∀ (L : ri_L) (st : List Value) (y : (gy × gy) × Nat), evm C0 b0 L0 xs0 235 (28, L, st) y = evm C0 b0 L0 xs0 235 (32, L, st) y) ∧
  (∀ (L : ri_L) (st : List Value) (y : (gy × gy) × Nat), evm C0 b0 L0 xs0 235 (31, L, st) y = evm C0 b0 L0 xs0 235 (32, L, .int (Int32.ofInt 0) :: st) y) ∧
  (∀ (l0 l1 l2 l3 l4 : Option Value) (st : List Value) (y : (gy × gy) × Nat) (x : Int32), evm C0 b0 L0 xs0 235 (32, [l0, l1, l2, l3, l4], .int x :: st) y = evm C0 b0 L0 xs0 235 (33, [l0, l1, ri_clr l2, some (.int x), l4], st) y) ∧
  (∀ (L : ri_L) (st : List Value) (y : (gy × gy) × Nat), evm C0 b0 L0 xs0 235 (33, L, st) y = evm C0 b0 L0 xs0 235 (34, L, .int (Int32.ofInt 0) :: st) y) ∧
  (∀ (l0 l1 l2 l3 l4 : Option Value) (st : List Value) (y : (gy × gy) × Nat) (x : Int32), evm C0 b0 L0 xs0 235 (34, [l0, l1, l2, l3, l4], .int x :: st) y = evm C0 b0 L0 xs0 235 (36, [l0, l1, l2, ri_clr l3, some (.int x)], st) y) ∧
  (∀ (L : ri_L) (st : List Value) (y : (gy × gy) × Nat), evm C0 b0 L0 xs0 235 (38, L, st) y = evm C0 b0 L0 xs0 235 (40, L, .int (Int32.ofInt 11) :: st) y) ∧
  (∀ (L : ri_L) (st : List Value) (y : (gy × gy) × Nat) (z x : Int32), evm C0 b0 L0 xs0 235 (40, L, .int z :: .int x :: st) y = if z ≤ x then evm C0 b0 L0 xs0 235 (188, L, st) y else evm C0 b0 L0 xs0 235 (43, L, st) y) ∧
  (∀ (l0 l1 l2 l4 : Option Value) (st : List Value) (y : (gy × gy) × Nat) (x : Int32), evm C0 b0 L0 xs0 235 (43, [l0, l1, l2, some (.int x), l4], st) y = evm C0 b0 L0 xs0 235 (44, [l0, l1, l2, some (.int x), l4], .int x :: st) y) ∧
  (∀ (L : ri_L) (st : List Value) (y : (gy × gy) × Nat) (x : Int32), evm C0 b0 L0 xs0 235 (44, L, .int x :: st) y = if x = 0 then evm C0 b0 L0 xs0 235 (188, L, st) y else evm C0 b0 L0 xs0 235 (47, L, st) y) ∧
  (∀ (l1 l2 l3 l4 : Option Value) (st : List Value) (y : (gy × gy) × Nat) (x : Nat), evm C0 b0 L0 xs0 235 (47, [some (.ref x), l1, l2, l3, l4], st) y = evm C0 b0 L0 xs0 235 (48, [some (.ref x), l1, l2, l3, l4], .ref x :: st) y) ∧
  (∀ (L : ri_L) (st : List Value) (y : (gy × gy) × Nat), evm C0 b0 L0 xs0 235 (48, L, st) y = evm C0 b0 L0 xs0 235 (49, L, .int (Int32.ofInt 2) :: st) y) ∧
  (∀ (l0 l1 l2 l3 : Option Value) (st : List Value) (y : (gy × gy) × Nat) (x : Int32), evm C0 b0 L0 xs0 235 (49, [l0, l1, l2, l3, some (.int x)], st) y = evm C0 b0 L0 xs0 235 (51, [l0, l1, l2, l3, some (.int x)], .int x :: st) y) ∧
  (∀ (L : ri_L) (st : List Value) (y : (gy × gy) × Nat), evm C0 b0 L0 xs0 235 (51, L, st) y = evm C0 b0 L0 xs0 235 (52, L, .int (Int32.ofInt 0) :: st) y) ∧
  (∀ (L : ri_L) (st : List Value) (y : (gy × gy) × Nat), evm C0 b0 L0 xs0 235 (52, L, st) y = evm C0 b0 L0 xs0 235 (53, L, .int (Int32.ofInt 0) :: st) y) ∧
  (∀ (L : ri_L) (y : (gy × gy) × Nat) (a0 : Nat) (a1 : Int32) (a2 : Int32) (a3 : Int32) (a4 : Int32), evm C0 b0 L0 xs0 235 (53, L, [.int a4, .int a3, .int a2, .int a1, .ref a0]) y = lm_n (calm C0 b0 L0 xs0 230 [.ref a0, .int a1, .int a2, .int a3, .int a4] y) fun v y => evm C0 b0 L0 xs0 235 (56, L, [v]) y) ∧
  (∀ (l0 l2 l3 l4 : Option Value) (st : List Value) (y : (gy × gy) × Nat) (x : Nat), evm C0 b0 L0 xs0 235 (56, [l0, some (.ref x), l2, l3, l4], st) y = evm C0 b0 L0 xs0 235 (57, [l0, some (.ref x), l2, l3, l4], .ref x :: st) y) ∧
  (∀ (L : ri_L) (st : List Value) (y : (gy × gy) × Nat), evm C0 b0 L0 xs0 235 (57, L, st) y = evm C0 b0 L0 xs0 235 (58, L, .int (Int32.ofInt 2) :: st) y) ∧
  (∀ (l0 l1 l2 l3 : Option Value) (st : List Value) (y : (gy × gy) × Nat) (x : Int32), evm C0 b0 L0 xs0 235 (58, [l0, l1, l2, l3, some (.int x)], st) y = evm C0 b0 L0 xs0 235 (60, [l0, l1, l2, l3, some (.int x)], .int x :: st) y) ∧
  (∀ (L : ri_L) (st : List Value) (y : (gy × gy) × Nat), evm C0 b0 L0 xs0 235 (60, L, st) y = evm C0 b0 L0 xs0 235 (61, L, .int (Int32.ofInt 0) :: st) y) ∧
  (∀ (L : ri_L) (st : List Value) (y : (gy × gy) × Nat), evm C0 b0 L0 xs0 235 (61, L, st) y = evm C0 b0 L0 xs0 235 (62, L, .int (Int32.ofInt 0) :: st) y) :=
  ⟨fun l1 l2 l3 l4 st y x => em_p rfl rfl,
   fun l0 l1 l3 l4 st y x => em_p rfl rfl,
   fun L st y x => em_p rfl rfl,
   fun L st y => em_p rfl rfl,
   fun l0 l1 l3 l4 st y x => em_p rfl rfl,
   fun L st y => em_p rfl rfl,
   fun L st y z x => em_d rfl rfl,
   fun L st y z x => em_p rfl rfl,
   fun L y a0 a1 a2 => em_call rfl rfl rfl rfl rfl,
   fun l0 l2 l3 l4 st y x => em_p rfl rfl,
   fun l0 l1 l3 l4 st y x => em_p rfl rfl,
   fun L st y x => em_p rfl rfl,
   fun L st y => em_p rfl rfl,
   fun l0 l1 l3 l4 st y x => em_p rfl rfl,
   fun L st y => em_p rfl rfl,
   fun L st y z x => em_d rfl rfl,
   fun L st y z x => em_p rfl rfl,
   fun L y a0 a1 a2 s0 => em_call rfl rfl rfl rfl rfl,
   fun L st y z x => em_b rfl rfl,
   fun L st y => em_p rfl rfl,
   fun L st y => em_p rfl rfl,
   fun L st y => em_p rfl rfl,
   fun l0 l1 l2 l3 l4 st y x => em_p rfl rfl,
   fun L st y => em_p rfl rfl,
   fun l0 l1 l2 l3 l4 st y x => em_p rfl rfl,
   fun L st y => em_p rfl rfl,
   fun L st y z x => em_b rfl rfl,
   fun l0 l1 l2 l4 st y x => em_p rfl rfl,
   fun L st y x => em_b rfl rfl,
   fun l1 l2 l3 l4 st y x => em_p rfl rfl,
   fun L st y => em_p rfl rfl,
   fun l0 l1 l2 l3 st y x => em_p rfl rfl,
   fun L st y => em_p rfl rfl,
   fun L st y => em_p rfl rfl,
   fun L y a0 a1 a2 a3 a4 => em_call rfl rfl rfl rfl rfl,
   fun l0 l2 l3 l4 st y x => em_p rfl rfl,
   fun L st y => em_p rfl rfl,
   fun l0 l1 l2 l3 st y x => em_p rfl rfl,
   fun L st y => em_p rfl rfl,
   fun L st y => em_p rfl rfl⟩
set_option maxRecDepth 8000 in
theorem L_235_1 :
  (∀ (L : ri_L) (y : (gy × gy) × Nat) (a0 : Nat) (a1 : Int32) (a2 : Int32) (a3 : Int32) (a4 : Int32) (s0 : Value), evm C0 b0 L0 xs0 235 (62, L, [.int a4, .int a3, .int a2, .int a1, .ref a0, s0]) y = lm_n (calm C0 b0 L0 xs0 230 [.ref a0, .int a1, .int a2, .int a3, .int a4] y) fun v y => evm C0 b0 L0 xs0 235 (65, L, [v, s0]) y) ∧
  (∀ (L : ri_L) (st : List Value) (y : (gy × gy) × Nat) (z x : Int32), evm C0 b0 L0 xs0 235 (65, L, .int z :: .int x :: st) y = if ¬ x = z then evm C0 b0 L0 xs0 235 (180, L, st) y else evm C0 b0 L0 xs0 235 (68, L, st) y) ∧
  (∀ (l1 l2 l3 l4 : Option Value) (st : List Value) (y : (gy × gy) × Nat) (x : Nat), evm C0 b0 L0 xs0 235 (68, [some (.ref x), l1, l2, l3, l4], st) y = evm C0 b0 L0 xs0 235 (69, [some (.ref x), l1, l2, l3, l4], .ref x :: st) y) ∧
  (∀ (L : ri_L) (st : List Value) (y : (gy × gy) × Nat), evm C0 b0 L0 xs0 235 (69, L, st) y = evm C0 b0 L0 xs0 235 (70, L, .int (Int32.ofInt 3) :: st) y) ∧
  (∀ (l0 l1 l3 l4 : Option Value) (st : List Value) (y : (gy × gy) × Nat) (x : Int32), evm C0 b0 L0 xs0 235 (70, [l0, l1, some (.int x), l3, l4], st) y = evm C0 b0 L0 xs0 235 (71, [l0, l1, some (.int x), l3, l4], .int x :: st) y) ∧
  (∀ (L : ri_L) (st : List Value) (y : (gy × gy) × Nat), evm C0 b0 L0 xs0 235 (71, L, st) y = evm C0 b0 L0 xs0 235 (72, L, .int (Int32.ofInt 3) :: st) y) ∧
  (∀ (L : ri_L) (st : List Value) (y : (gy × gy) × Nat) (z x : Int32), evm C0 b0 L0 xs0 235 (72, L, .int z :: .int x :: st) y = if z = 0 then none else evm C0 b0 L0 xs0 235 (73, L, .int (x - x / z * z) :: st) y) ∧
  (∀ (l0 l1 l2 l3 : Option Value) (st : List Value) (y : (gy × gy) × Nat) (x : Int32), evm C0 b0 L0 xs0 235 (73, [l0, l1, l2, l3, some (.int x)], st) y = evm C0 b0 L0 xs0 235 (75, [l0, l1, l2, l3, some (.int x)], .int x :: st) y) ∧
  (∀ (L : ri_L) (st : List Value) (y : (gy × gy) × Nat), evm C0 b0 L0 xs0 235 (75, L, st) y = evm C0 b0 L0 xs0 235 (76, L, .int (Int32.ofInt 0) :: st) y) ∧
  (∀ (L : ri_L) (y : (gy × gy) × Nat) (a0 : Nat) (a1 : Int32) (a2 : Int32) (a3 : Int32) (a4 : Int32), evm C0 b0 L0 xs0 235 (76, L, [.int a4, .int a3, .int a2, .int a1, .ref a0]) y = lm_n (calm C0 b0 L0 xs0 230 [.ref a0, .int a1, .int a2, .int a3, .int a4] y) fun v y => evm C0 b0 L0 xs0 235 (79, L, [v]) y) ∧
  (∀ (l0 l2 l3 l4 : Option Value) (st : List Value) (y : (gy × gy) × Nat) (x : Nat), evm C0 b0 L0 xs0 235 (79, [l0, some (.ref x), l2, l3, l4], st) y = evm C0 b0 L0 xs0 235 (80, [l0, some (.ref x), l2, l3, l4], .ref x :: st) y) ∧
  (∀ (L : ri_L) (st : List Value) (y : (gy × gy) × Nat), evm C0 b0 L0 xs0 235 (80, L, st) y = evm C0 b0 L0 xs0 235 (81, L, .int (Int32.ofInt 3) :: st) y) ∧
  (∀ (l0 l1 l3 l4 : Option Value) (st : List Value) (y : (gy × gy) × Nat) (x : Int32), evm C0 b0 L0 xs0 235 (81, [l0, l1, some (.int x), l3, l4], st) y = evm C0 b0 L0 xs0 235 (82, [l0, l1, some (.int x), l3, l4], .int x :: st) y) ∧
  (∀ (L : ri_L) (st : List Value) (y : (gy × gy) × Nat), evm C0 b0 L0 xs0 235 (82, L, st) y = evm C0 b0 L0 xs0 235 (83, L, .int (Int32.ofInt 3) :: st) y) ∧
  (∀ (L : ri_L) (st : List Value) (y : (gy × gy) × Nat) (z x : Int32), evm C0 b0 L0 xs0 235 (83, L, .int z :: .int x :: st) y = if z = 0 then none else evm C0 b0 L0 xs0 235 (84, L, .int (x - x / z * z) :: st) y) ∧
  (∀ (l0 l1 l2 l3 : Option Value) (st : List Value) (y : (gy × gy) × Nat) (x : Int32), evm C0 b0 L0 xs0 235 (84, [l0, l1, l2, l3, some (.int x)], st) y = evm C0 b0 L0 xs0 235 (86, [l0, l1, l2, l3, some (.int x)], .int x :: st) y) ∧
  (∀ (L : ri_L) (st : List Value) (y : (gy × gy) × Nat), evm C0 b0 L0 xs0 235 (86, L, st) y = evm C0 b0 L0 xs0 235 (87, L, .int (Int32.ofInt 0) :: st) y) ∧
  (∀ (L : ri_L) (y : (gy × gy) × Nat) (a0 : Nat) (a1 : Int32) (a2 : Int32) (a3 : Int32) (a4 : Int32) (s0 : Value), evm C0 b0 L0 xs0 235 (87, L, [.int a4, .int a3, .int a2, .int a1, .ref a0, s0]) y = lm_n (calm C0 b0 L0 xs0 230 [.ref a0, .int a1, .int a2, .int a3, .int a4] y) fun v y => evm C0 b0 L0 xs0 235 (90, L, [v, s0]) y) ∧
  (∀ (L : ri_L) (st : List Value) (y : (gy × gy) × Nat) (z x : Int32), evm C0 b0 L0 xs0 235 (90, L, .int z :: .int x :: st) y = if ¬ x = z then evm C0 b0 L0 xs0 235 (180, L, st) y else evm C0 b0 L0 xs0 235 (93, L, st) y) ∧
  (∀ (l1 l2 l3 l4 : Option Value) (st : List Value) (y : (gy × gy) × Nat) (x : Nat), evm C0 b0 L0 xs0 235 (93, [some (.ref x), l1, l2, l3, l4], st) y = evm C0 b0 L0 xs0 235 (94, [some (.ref x), l1, l2, l3, l4], .ref x :: st) y) ∧
  (∀ (L : ri_L) (st : List Value) (y : (gy × gy) × Nat), evm C0 b0 L0 xs0 235 (94, L, st) y = evm C0 b0 L0 xs0 235 (96, L, .int (Int32.ofInt 6) :: st) y) ∧
  (∀ (l0 l1 l3 l4 : Option Value) (st : List Value) (y : (gy × gy) × Nat) (x : Int32), evm C0 b0 L0 xs0 235 (96, [l0, l1, some (.int x), l3, l4], st) y = evm C0 b0 L0 xs0 235 (97, [l0, l1, some (.int x), l3, l4], .int x :: st) y) ∧
  (∀ (L : ri_L) (st : List Value) (y : (gy × gy) × Nat), evm C0 b0 L0 xs0 235 (97, L, st) y = evm C0 b0 L0 xs0 235 (98, L, .int (Int32.ofInt 3) :: st) y) ∧
  (∀ (L : ri_L) (st : List Value) (y : (gy × gy) × Nat) (z x : Int32), evm C0 b0 L0 xs0 235 (98, L, .int z :: .int x :: st) y = if z = 0 then none else evm C0 b0 L0 xs0 235 (99, L, .int (x - x / z * z) :: st) y) ∧
  (∀ (l0 l1 l2 l3 : Option Value) (st : List Value) (y : (gy × gy) × Nat) (x : Int32), evm C0 b0 L0 xs0 235 (99, [l0, l1, l2, l3, some (.int x)], st) y = evm C0 b0 L0 xs0 235 (101, [l0, l1, l2, l3, some (.int x)], .int x :: st) y) ∧
  (∀ (l0 l1 l3 l4 : Option Value) (st : List Value) (y : (gy × gy) × Nat) (x : Int32), evm C0 b0 L0 xs0 235 (101, [l0, l1, some (.int x), l3, l4], st) y = evm C0 b0 L0 xs0 235 (102, [l0, l1, some (.int x), l3, l4], .int x :: st) y) ∧
  (∀ (L : ri_L) (st : List Value) (y : (gy × gy) × Nat), evm C0 b0 L0 xs0 235 (102, L, st) y = evm C0 b0 L0 xs0 235 (103, L, .int (Int32.ofInt 4) :: st) y) ∧
  (∀ (L : ri_L) (st : List Value) (y : (gy × gy) × Nat) (z x : Int32), evm C0 b0 L0 xs0 235 (103, L, .int z :: .int x :: st) y = if z = 0 then none else evm C0 b0 L0 xs0 235 (104, L, .int (x - x / z * z) :: st) y) ∧
  (∀ (L : ri_L) (y : (gy × gy) × Nat) (a0 : Nat) (a1 : Int32) (a2 : Int32) (a3 : Int32) (a4 : Int32), evm C0 b0 L0 xs0 235 (104, L, [.int a4, .int a3, .int a2, .int a1, .ref a0]) y = lm_n (calm C0 b0 L0 xs0 230 [.ref a0, .int a1, .int a2, .int a3, .int a4] y) fun v y => evm C0 b0 L0 xs0 235 (107, L, [v]) y) ∧
  (∀ (l0 l2 l3 l4 : Option Value) (st : List Value) (y : (gy × gy) × Nat) (x : Nat), evm C0 b0 L0 xs0 235 (107, [l0, some (.ref x), l2, l3, l4], st) y = evm C0 b0 L0 xs0 235 (108, [l0, some (.ref x), l2, l3, l4], .ref x :: st) y) ∧
  (∀ (L : ri_L) (st : List Value) (y : (gy × gy) × Nat), evm C0 b0 L0 xs0 235 (108, L, st) y = evm C0 b0 L0 xs0 235 (110, L, .int (Int32.ofInt 6) :: st) y) ∧
  (∀ (l0 l1 l3 l4 : Option Value) (st : List Value) (y : (gy × gy) × Nat) (x : Int32), evm C0 b0 L0 xs0 235 (110, [l0, l1, some (.int x), l3, l4], st) y = evm C0 b0 L0 xs0 235 (111, [l0, l1, some (.int x), l3, l4], .int x :: st) y) ∧
  (∀ (L : ri_L) (st : List Value) (y : (gy × gy) × Nat), evm C0 b0 L0 xs0 235 (111, L, st) y = evm C0 b0 L0 xs0 235 (112, L, .int (Int32.ofInt 3) :: st) y) ∧
  (∀ (L : ri_L) (st : List Value) (y : (gy × gy) × Nat) (z x : Int32), evm C0 b0 L0 xs0 235 (112, L, .int z :: .int x :: st) y = if z = 0 then none else evm C0 b0 L0 xs0 235 (113, L, .int (x - x / z * z) :: st) y) ∧
  (∀ (l0 l1 l2 l3 : Option Value) (st : List Value) (y : (gy × gy) × Nat) (x : Int32), evm C0 b0 L0 xs0 235 (113, [l0, l1, l2, l3, some (.int x)], st) y = evm C0 b0 L0 xs0 235 (115, [l0, l1, l2, l3, some (.int x)], .int x :: st) y) ∧
  (∀ (l0 l1 l3 l4 : Option Value) (st : List Value) (y : (gy × gy) × Nat) (x : Int32), evm C0 b0 L0 xs0 235 (115, [l0, l1, some (.int x), l3, l4], st) y = evm C0 b0 L0 xs0 235 (116, [l0, l1, some (.int x), l3, l4], .int x :: st) y) ∧
  (∀ (L : ri_L) (st : List Value) (y : (gy × gy) × Nat), evm C0 b0 L0 xs0 235 (116, L, st) y = evm C0 b0 L0 xs0 235 (117, L, .int (Int32.ofInt 4) :: st) y) ∧
  (∀ (L : ri_L) (st : List Value) (y : (gy × gy) × Nat) (z x : Int32), evm C0 b0 L0 xs0 235 (117, L, .int z :: .int x :: st) y = if z = 0 then none else evm C0 b0 L0 xs0 235 (118, L, .int (x - x / z * z) :: st) y) ∧
  (∀ (L : ri_L) (y : (gy × gy) × Nat) (a0 : Nat) (a1 : Int32) (a2 : Int32) (a3 : Int32) (a4 : Int32) (s0 : Value), evm C0 b0 L0 xs0 235 (118, L, [.int a4, .int a3, .int a2, .int a1, .ref a0, s0]) y = lm_n (calm C0 b0 L0 xs0 230 [.ref a0, .int a1, .int a2, .int a3, .int a4] y) fun v y => evm C0 b0 L0 xs0 235 (121, L, [v, s0]) y) ∧
  (∀ (L : ri_L) (st : List Value) (y : (gy × gy) × Nat) (z x : Int32), evm C0 b0 L0 xs0 235 (121, L, .int z :: .int x :: st) y = if ¬ x = z then evm C0 b0 L0 xs0 235 (180, L, st) y else evm C0 b0 L0 xs0 235 (124, L, st) y) :=
  ⟨fun L y a0 a1 a2 a3 a4 s0 => em_call rfl rfl rfl rfl rfl,
   fun L st y z x => em_b rfl rfl,
   fun l1 l2 l3 l4 st y x => em_p rfl rfl,
   fun L st y => em_p rfl rfl,
   fun l0 l1 l3 l4 st y x => em_p rfl rfl,
   fun L st y => em_p rfl rfl,
   fun L st y z x => em_d rfl rfl,
   fun l0 l1 l2 l3 st y x => em_p rfl rfl,
   fun L st y => em_p rfl rfl,
   fun L y a0 a1 a2 a3 a4 => em_call rfl rfl rfl rfl rfl,
   fun l0 l2 l3 l4 st y x => em_p rfl rfl,
   fun L st y => em_p rfl rfl,
   fun l0 l1 l3 l4 st y x => em_p rfl rfl,
   fun L st y => em_p rfl rfl,
   fun L st y z x => em_d rfl rfl,
   fun l0 l1 l2 l3 st y x => em_p rfl rfl,
   fun L st y => em_p rfl rfl,
   fun L y a0 a1 a2 a3 a4 s0 => em_call rfl rfl rfl rfl rfl,
   fun L st y z x => em_b rfl rfl,
   fun l1 l2 l3 l4 st y x => em_p rfl rfl,
   fun L st y => em_p rfl rfl,
   fun l0 l1 l3 l4 st y x => em_p rfl rfl,
   fun L st y => em_p rfl rfl,
   fun L st y z x => em_d rfl rfl,
   fun l0 l1 l2 l3 st y x => em_p rfl rfl,
   fun l0 l1 l3 l4 st y x => em_p rfl rfl,
   fun L st y => em_p rfl rfl,
   fun L st y z x => em_d rfl rfl,
   fun L y a0 a1 a2 a3 a4 => em_call rfl rfl rfl rfl rfl,
   fun l0 l2 l3 l4 st y x => em_p rfl rfl,
   fun L st y => em_p rfl rfl,
   fun l0 l1 l3 l4 st y x => em_p rfl rfl,
   fun L st y => em_p rfl rfl,
   fun L st y z x => em_d rfl rfl,
   fun l0 l1 l2 l3 st y x => em_p rfl rfl,
   fun l0 l1 l3 l4 st y x => em_p rfl rfl,
   fun L st y => em_p rfl rfl,
   fun L st y z x => em_d rfl rfl,
   fun L y a0 a1 a2 a3 a4 s0 => em_call rfl rfl rfl rfl rfl,
   fun L st y z x => em_b rfl rfl⟩
set_option maxRecDepth 8000 in
theorem L_235_2 :
  (∀ (l1 l2 l3 l4 : Option Value) (st : List Value) (y : (gy × gy) × Nat) (x : Nat), evm C0 b0 L0 xs0 235 (124, [some (.ref x), l1, l2, l3, l4], st) y = evm C0 b0 L0 xs0 235 (125, [some (.ref x), l1, l2, l3, l4], .ref x :: st) y) ∧
  (∀ (L : ri_L) (st : List Value) (y : (gy × gy) × Nat), evm C0 b0 L0 xs0 235 (125, L, st) y = evm C0 b0 L0 xs0 235 (126, L, .int (Int32.ofInt 4) :: st) y) ∧
  (∀ (l0 l1 l2 l3 : Option Value) (st : List Value) (y : (gy × gy) × Nat) (x : Int32), evm C0 b0 L0 xs0 235 (126, [l0, l1, l2, l3, some (.int x)], st) y = evm C0 b0 L0 xs0 235 (128, [l0, l1, l2, l3, some (.int x)], .int x :: st) y) ∧
  (∀ (l0 l1 l3 l4 : Option Value) (st : List Value) (y : (gy × gy) × Nat) (x : Int32), evm C0 b0 L0 xs0 235 (128, [l0, l1, some (.int x), l3, l4], st) y = evm C0 b0 L0 xs0 235 (129, [l0, l1, some (.int x), l3, l4], .int x :: st) y) ∧
  (∀ (L : ri_L) (st : List Value) (y : (gy × gy) × Nat), evm C0 b0 L0 xs0 235 (129, L, st) y = evm C0 b0 L0 xs0 235 (131, L, .int (Int32.ofInt 6) :: st) y) ∧
  (∀ (L : ri_L) (st : List Value) (y : (gy × gy) × Nat) (z x : Int32), evm C0 b0 L0 xs0 235 (131, L, .int z :: .int x :: st) y = if z = 0 then none else evm C0 b0 L0 xs0 235 (132, L, .int (x - x / z * z) :: st) y) ∧
  (∀ (L : ri_L) (st : List Value) (y : (gy × gy) × Nat), evm C0 b0 L0 xs0 235 (132, L, st) y = evm C0 b0 L0 xs0 235 (133, L, .int (Int32.ofInt 0) :: st) y) ∧
  (∀ (L : ri_L) (y : (gy × gy) × Nat) (a0 : Nat) (a1 : Int32) (a2 : Int32) (a3 : Int32) (a4 : Int32), evm C0 b0 L0 xs0 235 (133, L, [.int a4, .int a3, .int a2, .int a1, .ref a0]) y = lm_n (calm C0 b0 L0 xs0 230 [.ref a0, .int a1, .int a2, .int a3, .int a4] y) fun v y => evm C0 b0 L0 xs0 235 (136, L, [v]) y) ∧
  (∀ (l0 l2 l3 l4 : Option Value) (st : List Value) (y : (gy × gy) × Nat) (x : Nat), evm C0 b0 L0 xs0 235 (136, [l0, some (.ref x), l2, l3, l4], st) y = evm C0 b0 L0 xs0 235 (137, [l0, some (.ref x), l2, l3, l4], .ref x :: st) y) ∧
  (∀ (L : ri_L) (st : List Value) (y : (gy × gy) × Nat), evm C0 b0 L0 xs0 235 (137, L, st) y = evm C0 b0 L0 xs0 235 (138, L, .int (Int32.ofInt 4) :: st) y) ∧
  (∀ (l0 l1 l2 l3 : Option Value) (st : List Value) (y : (gy × gy) × Nat) (x : Int32), evm C0 b0 L0 xs0 235 (138, [l0, l1, l2, l3, some (.int x)], st) y = evm C0 b0 L0 xs0 235 (140, [l0, l1, l2, l3, some (.int x)], .int x :: st) y) ∧
  (∀ (l0 l1 l3 l4 : Option Value) (st : List Value) (y : (gy × gy) × Nat) (x : Int32), evm C0 b0 L0 xs0 235 (140, [l0, l1, some (.int x), l3, l4], st) y = evm C0 b0 L0 xs0 235 (141, [l0, l1, some (.int x), l3, l4], .int x :: st) y) ∧
  (∀ (L : ri_L) (st : List Value) (y : (gy × gy) × Nat), evm C0 b0 L0 xs0 235 (141, L, st) y = evm C0 b0 L0 xs0 235 (143, L, .int (Int32.ofInt 6) :: st) y) ∧
  (∀ (L : ri_L) (st : List Value) (y : (gy × gy) × Nat) (z x : Int32), evm C0 b0 L0 xs0 235 (143, L, .int z :: .int x :: st) y = if z = 0 then none else evm C0 b0 L0 xs0 235 (144, L, .int (x - x / z * z) :: st) y) ∧
  (∀ (L : ri_L) (st : List Value) (y : (gy × gy) × Nat), evm C0 b0 L0 xs0 235 (144, L, st) y = evm C0 b0 L0 xs0 235 (145, L, .int (Int32.ofInt 0) :: st) y) ∧
  (∀ (L : ri_L) (y : (gy × gy) × Nat) (a0 : Nat) (a1 : Int32) (a2 : Int32) (a3 : Int32) (a4 : Int32) (s0 : Value), evm C0 b0 L0 xs0 235 (145, L, [.int a4, .int a3, .int a2, .int a1, .ref a0, s0]) y = lm_n (calm C0 b0 L0 xs0 230 [.ref a0, .int a1, .int a2, .int a3, .int a4] y) fun v y => evm C0 b0 L0 xs0 235 (148, L, [v, s0]) y) ∧
  (∀ (L : ri_L) (st : List Value) (y : (gy × gy) × Nat) (z x : Int32), evm C0 b0 L0 xs0 235 (148, L, .int z :: .int x :: st) y = if ¬ x = z then evm C0 b0 L0 xs0 235 (180, L, st) y else evm C0 b0 L0 xs0 235 (151, L, st) y) ∧
  (∀ (l1 l2 l3 l4 : Option Value) (st : List Value) (y : (gy × gy) × Nat) (x : Nat), evm C0 b0 L0 xs0 235 (151, [some (.ref x), l1, l2, l3, l4], st) y = evm C0 b0 L0 xs0 235 (152, [some (.ref x), l1, l2, l3, l4], .ref x :: st) y) ∧
  (∀ (L : ri_L) (st : List Value) (y : (gy × gy) × Nat), evm C0 b0 L0 xs0 235 (152, L, st) y = evm C0 b0 L0 xs0 235 (153, L, .int (Int32.ofInt 5) :: st) y) ∧
  (∀ (l0 l1 l2 l3 : Option Value) (st : List Value) (y : (gy × gy) × Nat) (x : Int32), evm C0 b0 L0 xs0 235 (153, [l0, l1, l2, l3, some (.int x)], st) y = evm C0 b0 L0 xs0 235 (155, [l0, l1, l2, l3, some (.int x)], .int x :: st) y) ∧
  (∀ (l0 l1 l3 l4 : Option Value) (st : List Value) (y : (gy × gy) × Nat) (x : Int32), evm C0 b0 L0 xs0 235 (155, [l0, l1, some (.int x), l3, l4], st) y = evm C0 b0 L0 xs0 235 (156, [l0, l1, some (.int x), l3, l4], .int x :: st) y) ∧
  (∀ (L : ri_L) (st : List Value) (y : (gy × gy) × Nat), evm C0 b0 L0 xs0 235 (156, L, st) y = evm C0 b0 L0 xs0 235 (157, L, .int (Int32.ofInt 4) :: st) y) ∧
  (∀ (L : ri_L) (st : List Value) (y : (gy × gy) × Nat) (z x : Int32), evm C0 b0 L0 xs0 235 (157, L, .int z :: .int x :: st) y = if z = 0 then none else evm C0 b0 L0 xs0 235 (158, L, .int (x - x / z * z) :: st) y) ∧
  (∀ (L : ri_L) (st : List Value) (y : (gy × gy) × Nat), evm C0 b0 L0 xs0 235 (158, L, st) y = evm C0 b0 L0 xs0 235 (159, L, .int (Int32.ofInt 0) :: st) y) ∧
  (∀ (L : ri_L) (y : (gy × gy) × Nat) (a0 : Nat) (a1 : Int32) (a2 : Int32) (a3 : Int32) (a4 : Int32), evm C0 b0 L0 xs0 235 (159, L, [.int a4, .int a3, .int a2, .int a1, .ref a0]) y = lm_n (calm C0 b0 L0 xs0 230 [.ref a0, .int a1, .int a2, .int a3, .int a4] y) fun v y => evm C0 b0 L0 xs0 235 (162, L, [v]) y) ∧
  (∀ (l0 l2 l3 l4 : Option Value) (st : List Value) (y : (gy × gy) × Nat) (x : Nat), evm C0 b0 L0 xs0 235 (162, [l0, some (.ref x), l2, l3, l4], st) y = evm C0 b0 L0 xs0 235 (163, [l0, some (.ref x), l2, l3, l4], .ref x :: st) y) ∧
  (∀ (L : ri_L) (st : List Value) (y : (gy × gy) × Nat), evm C0 b0 L0 xs0 235 (163, L, st) y = evm C0 b0 L0 xs0 235 (164, L, .int (Int32.ofInt 5) :: st) y) ∧
  (∀ (l0 l1 l2 l3 : Option Value) (st : List Value) (y : (gy × gy) × Nat) (x : Int32), evm C0 b0 L0 xs0 235 (164, [l0, l1, l2, l3, some (.int x)], st) y = evm C0 b0 L0 xs0 235 (166, [l0, l1, l2, l3, some (.int x)], .int x :: st) y) ∧
  (∀ (l0 l1 l3 l4 : Option Value) (st : List Value) (y : (gy × gy) × Nat) (x : Int32), evm C0 b0 L0 xs0 235 (166, [l0, l1, some (.int x), l3, l4], st) y = evm C0 b0 L0 xs0 235 (167, [l0, l1, some (.int x), l3, l4], .int x :: st) y) ∧
  (∀ (L : ri_L) (st : List Value) (y : (gy × gy) × Nat), evm C0 b0 L0 xs0 235 (167, L, st) y = evm C0 b0 L0 xs0 235 (168, L, .int (Int32.ofInt 4) :: st) y) ∧
  (∀ (L : ri_L) (st : List Value) (y : (gy × gy) × Nat) (z x : Int32), evm C0 b0 L0 xs0 235 (168, L, .int z :: .int x :: st) y = if z = 0 then none else evm C0 b0 L0 xs0 235 (169, L, .int (x - x / z * z) :: st) y) ∧
  (∀ (L : ri_L) (st : List Value) (y : (gy × gy) × Nat), evm C0 b0 L0 xs0 235 (169, L, st) y = evm C0 b0 L0 xs0 235 (170, L, .int (Int32.ofInt 0) :: st) y) ∧
  (∀ (L : ri_L) (y : (gy × gy) × Nat) (a0 : Nat) (a1 : Int32) (a2 : Int32) (a3 : Int32) (a4 : Int32) (s0 : Value), evm C0 b0 L0 xs0 235 (170, L, [.int a4, .int a3, .int a2, .int a1, .ref a0, s0]) y = lm_n (calm C0 b0 L0 xs0 230 [.ref a0, .int a1, .int a2, .int a3, .int a4] y) fun v y => evm C0 b0 L0 xs0 235 (173, L, [v, s0]) y) ∧
  (∀ (L : ri_L) (st : List Value) (y : (gy × gy) × Nat) (z x : Int32), evm C0 b0 L0 xs0 235 (173, L, .int z :: .int x :: st) y = if ¬ x = z then evm C0 b0 L0 xs0 235 (180, L, st) y else evm C0 b0 L0 xs0 235 (176, L, st) y) ∧
  (∀ (L : ri_L) (st : List Value) (y : (gy × gy) × Nat), evm C0 b0 L0 xs0 235 (176, L, st) y = evm C0 b0 L0 xs0 235 (177, L, .int (Int32.ofInt 1) :: st) y) ∧
  (∀ (L : ri_L) (st : List Value) (y : (gy × gy) × Nat), evm C0 b0 L0 xs0 235 (177, L, st) y = evm C0 b0 L0 xs0 235 (181, L, st) y) ∧
  (∀ (L : ri_L) (st : List Value) (y : (gy × gy) × Nat), evm C0 b0 L0 xs0 235 (180, L, st) y = evm C0 b0 L0 xs0 235 (181, L, .int (Int32.ofInt 0) :: st) y) ∧
  (∀ (l0 l1 l2 l3 l4 : Option Value) (st : List Value) (y : (gy × gy) × Nat) (x : Int32), evm C0 b0 L0 xs0 235 (181, [l0, l1, l2, l3, l4], .int x :: st) y = evm C0 b0 L0 xs0 235 (182, [l0, l1, ri_clr l2, some (.int x), l4], st) y) ∧
  (∀ (l0 l1 l2 l3 : Option Value) (st : List Value) (y : (gy × gy) × Nat) (x : Int32), evm C0 b0 L0 xs0 235 (182, [l0, l1, l2, l3, some (.int x)], st) y = evm C0 b0 L0 xs0 235 (185, [l0, l1, l2, ri_clr l3, some (.int (x + (Int32.ofInt 1)))], st) y) ∧
  (∀ (L : ri_L) (st : List Value) (y : (gy × gy) × Nat), evm C0 b0 L0 xs0 235 (185, L, st) y = evm C0 b0 L0 xs0 235 (36, L, st) y) :=
  ⟨fun l1 l2 l3 l4 st y x => em_p rfl rfl,
   fun L st y => em_p rfl rfl,
   fun l0 l1 l2 l3 st y x => em_p rfl rfl,
   fun l0 l1 l3 l4 st y x => em_p rfl rfl,
   fun L st y => em_p rfl rfl,
   fun L st y z x => em_d rfl rfl,
   fun L st y => em_p rfl rfl,
   fun L y a0 a1 a2 a3 a4 => em_call rfl rfl rfl rfl rfl,
   fun l0 l2 l3 l4 st y x => em_p rfl rfl,
   fun L st y => em_p rfl rfl,
   fun l0 l1 l2 l3 st y x => em_p rfl rfl,
   fun l0 l1 l3 l4 st y x => em_p rfl rfl,
   fun L st y => em_p rfl rfl,
   fun L st y z x => em_d rfl rfl,
   fun L st y => em_p rfl rfl,
   fun L y a0 a1 a2 a3 a4 s0 => em_call rfl rfl rfl rfl rfl,
   fun L st y z x => em_b rfl rfl,
   fun l1 l2 l3 l4 st y x => em_p rfl rfl,
   fun L st y => em_p rfl rfl,
   fun l0 l1 l2 l3 st y x => em_p rfl rfl,
   fun l0 l1 l3 l4 st y x => em_p rfl rfl,
   fun L st y => em_p rfl rfl,
   fun L st y z x => em_d rfl rfl,
   fun L st y => em_p rfl rfl,
   fun L y a0 a1 a2 a3 a4 => em_call rfl rfl rfl rfl rfl,
   fun l0 l2 l3 l4 st y x => em_p rfl rfl,
   fun L st y => em_p rfl rfl,
   fun l0 l1 l2 l3 st y x => em_p rfl rfl,
   fun l0 l1 l3 l4 st y x => em_p rfl rfl,
   fun L st y => em_p rfl rfl,
   fun L st y z x => em_d rfl rfl,
   fun L st y => em_p rfl rfl,
   fun L y a0 a1 a2 a3 a4 s0 => em_call rfl rfl rfl rfl rfl,
   fun L st y z x => em_b rfl rfl,
   fun L st y => em_p rfl rfl,
   fun L st y => em_p rfl rfl,
   fun L st y => em_p rfl rfl,
   fun l0 l1 l2 l3 l4 st y x => em_p rfl rfl,
   fun l0 l1 l2 l3 st y x => em_p rfl rfl,
   fun L st y => em_p rfl rfl⟩
set_option maxRecDepth 8000 in
theorem L_235_3 :
  (∀ (l0 l1 l2 l4 : Option Value) (st : List Value) (y : (gy × gy) × Nat) (x : Int32), evm C0 b0 L0 xs0 235 (188, [l0, l1, l2, some (.int x), l4], st) y = evm C0 b0 L0 xs0 235 (189, [l0, l1, l2, some (.int x), l4], .int x :: st) y) ∧
  (∀ (L : ri_L) (y : (gy × gy) × Nat) (x : Int32), evm C0 b0 L0 xs0 235 (189, L, [.int x]) y = lm_b x (some (.int x, y))) :=
  ⟨fun l0 l1 l2 l4 st y x => em_p rfl rfl,
   fun L y x => em_r rfl rfl⟩
theorem M_236 (x0 : Nat) (x1 : Nat) (x2 : Int32) (y : (gy × gy) × Nat) : calm C0 b0 L0 xs0 236 [.ref x0, .ref x1, .int x2] y = evm C0 b0 L0 xs0 236 (0, [some (.ref x0), some (.ref x1), some (.int x2), none, none, none, none, none, none, none, none, none, none, none, none, none, none, none, none, none, none], []) y := em_in rfl
set_option maxRecDepth 8000 in
theorem L_236_0 :
  (∀ (l1 l2 l3 l4 l5 l6 l7 l8 l9 l10 l11 l12 l13 l14 l15 l16 l17 l18 l19 l20 : Option Value) (st : List Value) (y : (gy × gy) × Nat) (x : Nat), evm C0 b0 L0 xs0 236 (0, [some (.ref x), l1, l2, l3, l4, l5, l6, l7, l8, l9, l10, l11, l12, l13, l14, l15, l16, l17, l18, l19, l20], st) y = evm C0 b0 L0 xs0 236 (1, [some (.ref x), l1, l2, l3, l4, l5, l6, l7, l8, l9, l10, l11, l12, l13, l14, l15, l16, l17, l18, l19, l20], .ref x :: st) y) ∧
  (∀ (L : ri_L) (st : List Value) (y : (gy × gy) × Nat), evm C0 b0 L0 xs0 236 (1, L, st) y = evm C0 b0 L0 xs0 236 (2, L, .int (Int32.ofInt 2) :: st) y) ∧
  (∀ (L : ri_L) (st : List Value) (y : (gy × gy) × Nat), evm C0 b0 L0 xs0 236 (2, L, st) y = evm C0 b0 L0 xs0 236 (3, L, .int (Int32.ofInt 2) :: st) y) ∧
  (∀ (L : ri_L) (st : List Value) (y : (gy × gy) × Nat), evm C0 b0 L0 xs0 236 (3, L, st) y = evm C0 b0 L0 xs0 236 (4, L, .int (Int32.ofInt 0) :: st) y) ∧
  (∀ (L : ri_L) (st : List Value) (y : (gy × gy) × Nat), evm C0 b0 L0 xs0 236 (4, L, st) y = evm C0 b0 L0 xs0 236 (5, L, .int (Int32.ofInt 0) :: st) y) ∧
  (∀ (L : ri_L) (y : (gy × gy) × Nat) (a0 : Nat) (a1 : Int32) (a2 : Int32) (a3 : Int32) (a4 : Int32), evm C0 b0 L0 xs0 236 (5, L, [.int a4, .int a3, .int a2, .int a1, .ref a0]) y = lm_n (calm C0 b0 L0 xs0 230 [.ref a0, .int a1, .int a2, .int a3, .int a4] y) fun v y => evm C0 b0 L0 xs0 236 (8, L, [v]) y) ∧
  (∀ (l0 l1 l2 l3 l4 l5 l6 l7 l8 l9 l10 l11 l12 l13 l14 l15 l16 l17 l18 l19 l20 : Option Value) (st : List Value) (y : (gy × gy) × Nat) (x : Int32), evm C0 b0 L0 xs0 236 (8, [l0, l1, l2, l3, l4, l5, l6, l7, l8, l9, l10, l11, l12, l13, l14, l15, l16, l17, l18, l19, l20], .int x :: st) y = evm C0 b0 L0 xs0 236 (9, [l0, l1, ri_clr l2, some (.int x), l4, l5, l6, l7, l8, l9, l10, l11, l12, l13, l14, l15, l16, l17, l18, l19, l20], st) y) ∧
  (∀ (l1 l2 l3 l4 l5 l6 l7 l8 l9 l10 l11 l12 l13 l14 l15 l16 l17 l18 l19 l20 : Option Value) (st : List Value) (y : (gy × gy) × Nat) (x : Nat), evm C0 b0 L0 xs0 236 (9, [some (.ref x), l1, l2, l3, l4, l5, l6, l7, l8, l9, l10, l11, l12, l13, l14, l15, l16, l17, l18, l19, l20], st) y = evm C0 b0 L0 xs0 236 (10, [some (.ref x), l1, l2, l3, l4, l5, l6, l7, l8, l9, l10, l11, l12, l13, l14, l15, l16, l17, l18, l19, l20], .ref x :: st) y) ∧
  (∀ (L : ri_L) (st : List Value) (y : (gy × gy) × Nat), evm C0 b0 L0 xs0 236 (10, L, st) y = evm C0 b0 L0 xs0 236 (11, L, .int (Int32.ofInt 2) :: st) y) ∧
  (∀ (L : ri_L) (st : List Value) (y : (gy × gy) × Nat), evm C0 b0 L0 xs0 236 (11, L, st) y = evm C0 b0 L0 xs0 236 (12, L, .int (Int32.ofInt 1) :: st) y) ∧
  (∀ (L : ri_L) (st : List Value) (y : (gy × gy) × Nat), evm C0 b0 L0 xs0 236 (12, L, st) y = evm C0 b0 L0 xs0 236 (13, L, .int (Int32.ofInt 0) :: st) y) ∧
  (∀ (L : ri_L) (st : List Value) (y : (gy × gy) × Nat), evm C0 b0 L0 xs0 236 (13, L, st) y = evm C0 b0 L0 xs0 236 (14, L, .int (Int32.ofInt 0) :: st) y) ∧
  (∀ (L : ri_L) (y : (gy × gy) × Nat) (a0 : Nat) (a1 : Int32) (a2 : Int32) (a3 : Int32) (a4 : Int32), evm C0 b0 L0 xs0 236 (14, L, [.int a4, .int a3, .int a2, .int a1, .ref a0]) y = lm_n (calm C0 b0 L0 xs0 230 [.ref a0, .int a1, .int a2, .int a3, .int a4] y) fun v y => evm C0 b0 L0 xs0 236 (17, L, [v]) y) ∧
  (∀ (l0 l1 l2 l3 l4 l5 l6 l7 l8 l9 l10 l11 l12 l13 l14 l15 l16 l17 l18 l19 l20 : Option Value) (st : List Value) (y : (gy × gy) × Nat) (x : Int32), evm C0 b0 L0 xs0 236 (17, [l0, l1, l2, l3, l4, l5, l6, l7, l8, l9, l10, l11, l12, l13, l14, l15, l16, l17, l18, l19, l20], .int x :: st) y = evm C0 b0 L0 xs0 236 (19, [l0, l1, l2, ri_clr l3, some (.int x), l5, l6, l7, l8, l9, l10, l11, l12, l13, l14, l15, l16, l17, l18, l19, l20], st) y) ∧
  (∀ (l0 l1 l2 l4 l5 l6 l7 l8 l9 l10 l11 l12 l13 l14 l15 l16 l17 l18 l19 l20 : Option Value) (st : List Value) (y : (gy × gy) × Nat) (x : Int32), evm C0 b0 L0 xs0 236 (19, [l0, l1, l2, some (.int x), l4, l5, l6, l7, l8, l9, l10, l11, l12, l13, l14, l15, l16, l17, l18, l19, l20], st) y = evm C0 b0 L0 xs0 236 (20, [l0, l1, l2, some (.int x), l4, l5, l6, l7, l8, l9, l10, l11, l12, l13, l14, l15, l16, l17, l18, l19, l20], .int x :: st) y) ∧
  (∀ (L : ri_L) (st : List Value) (y : (gy × gy) × Nat) (x : Int32), evm C0 b0 L0 xs0 236 (20, L, .int x :: st) y = if x = 0 then evm C0 b0 L0 xs0 236 (28, L, st) y else evm C0 b0 L0 xs0 236 (23, L, st) y) ∧
  (∀ (l0 l1 l2 l3 l5 l6 l7 l8 l9 l10 l11 l12 l13 l14 l15 l16 l17 l18 l19 l20 : Option Value) (st : List Value) (y : (gy × gy) × Nat) (x : Int32), evm C0 b0 L0 xs0 236 (23, [l0, l1, l2, l3, some (.int x), l5, l6, l7, l8, l9, l10, l11, l12, l13, l14, l15, l16, l17, l18, l19, l20], st) y = evm C0 b0 L0 xs0 236 (25, [l0, l1, l2, l3, some (.int x), l5, l6, l7, l8, l9, l10, l11, l12, l13, l14, l15, l16, l17, l18, l19, l20], .int x :: st) y) ∧
  (∀ (L : ri_L) (st : List Value) (y : (gy × gy) × Nat) (x : Int32), evm C0 b0 L0 xs0 236 (25, L, .int x :: st) y = if ¬ x = 0 then evm C0 b0 L0 xs0 236 (48, L, st) y else evm C0 b0 L0 xs0 236 (28, L, st) y) ∧
  (∀ (l1 l2 l3 l4 l5 l6 l7 l8 l9 l10 l11 l12 l13 l14 l15 l16 l17 l18 l19 l20 : Option Value) (st : List Value) (y : (gy × gy) × Nat) (x : Nat), evm C0 b0 L0 xs0 236 (28, [some (.ref x), l1, l2, l3, l4, l5, l6, l7, l8, l9, l10, l11, l12, l13, l14, l15, l16, l17, l18, l19, l20], st) y = evm C0 b0 L0 xs0 236 (29, [some (.ref x), l1, l2, l3, l4, l5, l6, l7, l8, l9, l10, l11, l12, l13, l14, l15, l16, l17, l18, l19, l20], .ref x :: st) y) ∧
  (∀ (L : ri_L) (st : List Value) (y : (gy × gy) × Nat), evm C0 b0 L0 xs0 236 (29, L, st) y = evm C0 b0 L0 xs0 236 (31, L, .int (Int32.ofInt 15) :: st) y) ∧
  (∀ (L : ri_L) (st : List Value) (y : (gy × gy) × Nat), evm C0 b0 L0 xs0 236 (31, L, st) y = evm C0 b0 L0 xs0 236 (32, L, .int (Int32.ofInt 0) :: st) y) ∧
  (∀ (L : ri_L) (st : List Value) (y : (gy × gy) × Nat), evm C0 b0 L0 xs0 236 (32, L, st) y = evm C0 b0 L0 xs0 236 (33, L, .int (Int32.ofInt 0) :: st) y) ∧
  (∀ (L : ri_L) (st : List Value) (y : (gy × gy) × Nat), evm C0 b0 L0 xs0 236 (33, L, st) y = evm C0 b0 L0 xs0 236 (34, L, .int (Int32.ofInt 0) :: st) y) ∧
  (∀ (L : ri_L) (y : (gy × gy) × Nat) (a0 : Nat) (a1 : Int32) (a2 : Int32) (a3 : Int32) (a4 : Int32), evm C0 b0 L0 xs0 236 (34, L, [.int a4, .int a3, .int a2, .int a1, .ref a0]) y = lm_n (calm C0 b0 L0 xs0 230 [.ref a0, .int a1, .int a2, .int a3, .int a4] y) fun v y => evm C0 b0 L0 xs0 236 (37, L, [v]) y) ∧
  (∀ (L : ri_L) (st : List Value) (y : (gy × gy) × Nat), evm C0 b0 L0 xs0 236 (37, L, st) y = evm C0 b0 L0 xs0 236 (39, L, .int (Int32.ofInt (-9999001)) :: st) y) ∧
  (∀ (L : ri_L) (st : List Value) (y : (gy × gy) × Nat) (z x : Int32), evm C0 b0 L0 xs0 236 (39, L, .int z :: .int x :: st) y = if ¬ x = z then evm C0 b0 L0 xs0 236 (46, L, st) y else evm C0 b0 L0 xs0 236 (42, L, st) y) ∧
  (∀ (L : ri_L) (st : List Value) (y : (gy × gy) × Nat), evm C0 b0 L0 xs0 236 (42, L, st) y = evm C0 b0 L0 xs0 236 (43, L, .int (Int32.ofInt 1) :: st) y) ∧
  (∀ (L : ri_L) (st : List Value) (y : (gy × gy) × Nat), evm C0 b0 L0 xs0 236 (43, L, st) y = evm C0 b0 L0 xs0 236 (47, L, st) y) ∧
  (∀ (L : ri_L) (st : List Value) (y : (gy × gy) × Nat), evm C0 b0 L0 xs0 236 (46, L, st) y = evm C0 b0 L0 xs0 236 (47, L, .int (Int32.ofInt 0) :: st) y) ∧
  (∀ (L : ri_L) (y : (gy × gy) × Nat) (x : Int32), evm C0 b0 L0 xs0 236 (47, L, [.int x]) y = lm_b x (some (.int x, y))) ∧
  (∀ (l0 l1 l3 l4 l5 l6 l7 l8 l9 l10 l11 l12 l13 l14 l15 l16 l17 l18 l19 l20 : Option Value) (st : List Value) (y : (gy × gy) × Nat) (x : Int32), evm C0 b0 L0 xs0 236 (48, [l0, l1, some (.int x), l3, l4, l5, l6, l7, l8, l9, l10, l11, l12, l13, l14, l15, l16, l17, l18, l19, l20], st) y = evm C0 b0 L0 xs0 236 (49, [l0, l1, some (.int x), l3, l4, l5, l6, l7, l8, l9, l10, l11, l12, l13, l14, l15, l16, l17, l18, l19, l20], .int x :: st) y) ∧
  (∀ (l0 l1 l2 l4 l5 l6 l7 l8 l9 l10 l11 l12 l13 l14 l15 l16 l17 l18 l19 l20 : Option Value) (st : List Value) (y : (gy × gy) × Nat) (x : Int32), evm C0 b0 L0 xs0 236 (49, [l0, l1, l2, some (.int x), l4, l5, l6, l7, l8, l9, l10, l11, l12, l13, l14, l15, l16, l17, l18, l19, l20], st) y = evm C0 b0 L0 xs0 236 (50, [l0, l1, l2, some (.int x), l4, l5, l6, l7, l8, l9, l10, l11, l12, l13, l14, l15, l16, l17, l18, l19, l20], .int x :: st) y) ∧
  (∀ (L : ri_L) (st : List Value) (y : (gy × gy) × Nat) (z x : Int32), evm C0 b0 L0 xs0 236 (50, L, .int z :: .int x :: st) y = if z = 0 then none else evm C0 b0 L0 xs0 236 (51, L, .int (x - x / z * z) :: st) y) ∧
  (∀ (l0 l1 l2 l3 l4 l5 l6 l7 l8 l9 l10 l11 l12 l13 l14 l15 l16 l17 l18 l19 l20 : Option Value) (st : List Value) (y : (gy × gy) × Nat) (x : Int32), evm C0 b0 L0 xs0 236 (51, [l0, l1, l2, l3, l4, l5, l6, l7, l8, l9, l10, l11, l12, l13, l14, l15, l16, l17, l18, l19, l20], .int x :: st) y = evm C0 b0 L0 xs0 236 (53, [l0, l1, l2, l3, ri_clr l4, some (.int x), l6, l7, l8, l9, l10, l11, l12, l13, l14, l15, l16, l17, l18, l19, l20], st) y) ∧
  (∀ (l0 l1 l3 l4 l5 l6 l7 l8 l9 l10 l11 l12 l13 l14 l15 l16 l17 l18 l19 l20 : Option Value) (st : List Value) (y : (gy × gy) × Nat) (x : Int32), evm C0 b0 L0 xs0 236 (53, [l0, l1, some (.int x), l3, l4, l5, l6, l7, l8, l9, l10, l11, l12, l13, l14, l15, l16, l17, l18, l19, l20], st) y = evm C0 b0 L0 xs0 236 (54, [l0, l1, some (.int x), l3, l4, l5, l6, l7, l8, l9, l10, l11, l12, l13, l14, l15, l16, l17, l18, l19, l20], .int x :: st) y) ∧
  (∀ (L : ri_L) (st : List Value) (y : (gy × gy) × Nat), evm C0 b0 L0 xs0 236 (54, L, st) y = evm C0 b0 L0 xs0 236 (55, L, .int (Int32.ofInt 5) :: st) y) ∧
  (∀ (L : ri_L) (st : List Value) (y : (gy × gy) × Nat) (z x : Int32), evm C0 b0 L0 xs0 236 (55, L, .int z :: .int x :: st) y = if z = 0 then none else evm C0 b0 L0 xs0 236 (56, L, .int (x / z) :: st) y) ∧
  (∀ (l0 l1 l2 l3 l5 l6 l7 l8 l9 l10 l11 l12 l13 l14 l15 l16 l17 l18 l19 l20 : Option Value) (st : List Value) (y : (gy × gy) × Nat) (x : Int32), evm C0 b0 L0 xs0 236 (56, [l0, l1, l2, l3, some (.int x), l5, l6, l7, l8, l9, l10, l11, l12, l13, l14, l15, l16, l17, l18, l19, l20], st) y = evm C0 b0 L0 xs0 236 (58, [l0, l1, l2, l3, some (.int x), l5, l6, l7, l8, l9, l10, l11, l12, l13, l14, l15, l16, l17, l18, l19, l20], .int x :: st) y) ∧
  (∀ (L : ri_L) (st : List Value) (y : (gy × gy) × Nat) (z x : Int32), evm C0 b0 L0 xs0 236 (58, L, .int z :: .int x :: st) y = if z = 0 then none else evm C0 b0 L0 xs0 236 (59, L, .int (x - x / z * z) :: st) y) ∧
  (∀ (l0 l1 l2 l3 l4 l5 l6 l7 l8 l9 l10 l11 l12 l13 l14 l15 l16 l17 l18 l19 l20 : Option Value) (st : List Value) (y : (gy × gy) × Nat) (x : Int32), evm C0 b0 L0 xs0 236 (59, [l0, l1, l2, l3, l4, l5, l6, l7, l8, l9, l10, l11, l12, l13, l14, l15, l16, l17, l18, l19, l20], .int x :: st) y = evm C0 b0 L0 xs0 236 (61, [l0, l1, l2, l3, l4, ri_clr l5, some (.int x), l7, l8, l9, l10, l11, l12, l13, l14, l15, l16, l17, l18, l19, l20], st) y) :=
  ⟨fun l1 l2 l3 l4 l5 l6 l7 l8 l9 l10 l11 l12 l13 l14 l15 l16 l17 l18 l19 l20 st y x => em_p rfl rfl,
   fun L st y => em_p rfl rfl,
   fun L st y => em_p rfl rfl,
   fun L st y => em_p rfl rfl,
   fun L st y => em_p rfl rfl,
   fun L y a0 a1 a2 a3 a4 => em_call rfl rfl rfl rfl rfl,
   fun l0 l1 l2 l3 l4 l5 l6 l7 l8 l9 l10 l11 l12 l13 l14 l15 l16 l17 l18 l19 l20 st y x => em_p rfl rfl,
   fun l1 l2 l3 l4 l5 l6 l7 l8 l9 l10 l11 l12 l13 l14 l15 l16 l17 l18 l19 l20 st y x => em_p rfl rfl,
   fun L st y => em_p rfl rfl,
   fun L st y => em_p rfl rfl,
   fun L st y => em_p rfl rfl,
   fun L st y => em_p rfl rfl,
   fun L y a0 a1 a2 a3 a4 => em_call rfl rfl rfl rfl rfl,
   fun l0 l1 l2 l3 l4 l5 l6 l7 l8 l9 l10 l11 l12 l13 l14 l15 l16 l17 l18 l19 l20 st y x => em_p rfl rfl,
   fun l0 l1 l2 l4 l5 l6 l7 l8 l9 l10 l11 l12 l13 l14 l15 l16 l17 l18 l19 l20 st y x => em_p rfl rfl,
   fun L st y x => em_b rfl rfl,
   fun l0 l1 l2 l3 l5 l6 l7 l8 l9 l10 l11 l12 l13 l14 l15 l16 l17 l18 l19 l20 st y x => em_p rfl rfl,
   fun L st y x => em_b rfl rfl,
   fun l1 l2 l3 l4 l5 l6 l7 l8 l9 l10 l11 l12 l13 l14 l15 l16 l17 l18 l19 l20 st y x => em_p rfl rfl,
   fun L st y => em_p rfl rfl,
   fun L st y => em_p rfl rfl,
   fun L st y => em_p rfl rfl,
   fun L st y => em_p rfl rfl,
   fun L y a0 a1 a2 a3 a4 => em_call rfl rfl rfl rfl rfl,
   fun L st y => em_p rfl rfl,
   fun L st y z x => em_b rfl rfl,
   fun L st y => em_p rfl rfl,
   fun L st y => em_p rfl rfl,
   fun L st y => em_p rfl rfl,
   fun L y x => em_r rfl rfl,
   fun l0 l1 l3 l4 l5 l6 l7 l8 l9 l10 l11 l12 l13 l14 l15 l16 l17 l18 l19 l20 st y x => em_p rfl rfl,
   fun l0 l1 l2 l4 l5 l6 l7 l8 l9 l10 l11 l12 l13 l14 l15 l16 l17 l18 l19 l20 st y x => em_p rfl rfl,
   fun L st y z x => em_d rfl rfl,
   fun l0 l1 l2 l3 l4 l5 l6 l7 l8 l9 l10 l11 l12 l13 l14 l15 l16 l17 l18 l19 l20 st y x => em_p rfl rfl,
   fun l0 l1 l3 l4 l5 l6 l7 l8 l9 l10 l11 l12 l13 l14 l15 l16 l17 l18 l19 l20 st y x => em_p rfl rfl,
   fun L st y => em_p rfl rfl,
   fun L st y z x => em_d rfl rfl,
   fun l0 l1 l2 l3 l5 l6 l7 l8 l9 l10 l11 l12 l13 l14 l15 l16 l17 l18 l19 l20 st y x => em_p rfl rfl,
   fun L st y z x => em_d rfl rfl,
   fun l0 l1 l2 l3 l4 l5 l6 l7 l8 l9 l10 l11 l12 l13 l14 l15 l16 l17 l18 l19 l20 st y x => em_p rfl rfl⟩
set_option maxRecDepth 8000 in
theorem L_236_1 :
  (∀ (l1 l2 l3 l4 l5 l6 l7 l8 l9 l10 l11 l12 l13 l14 l15 l16 l17 l18 l19 l20 : Option Value) (st : List Value) (y : (gy × gy) × Nat) (x : Nat), evm C0 b0 L0 xs0 236 (61, [some (.ref x), l1, l2, l3, l4, l5, l6, l7, l8, l9, l10, l11, l12, l13, l14, l15, l16, l17, l18, l19, l20], st) y = evm C0 b0 L0 xs0 236 (62, [some (.ref x), l1, l2, l3, l4, l5, l6, l7, l8, l9, l10, l11, l12, l13, l14, l15, l16, l17, l18, l19, l20], .ref x :: st) y) ∧
  (∀ (L : ri_L) (st : List Value) (y : (gy × gy) × Nat), evm C0 b0 L0 xs0 236 (62, L, st) y = evm C0 b0 L0 xs0 236 (64, L, .int (Int32.ofInt 15) :: st) y) ∧
  (∀ (l0 l1 l2 l3 l4 l6 l7 l8 l9 l10 l11 l12 l13 l14 l15 l16 l17 l18 l19 l20 : Option Value) (st : List Value) (y : (gy × gy) × Nat) (x : Int32), evm C0 b0 L0 xs0 236 (64, [l0, l1, l2, l3, l4, some (.int x), l6, l7, l8, l9, l10, l11, l12, l13, l14, l15, l16, l17, l18, l19, l20], st) y = evm C0 b0 L0 xs0 236 (66, [l0, l1, l2, l3, l4, some (.int x), l6, l7, l8, l9, l10, l11, l12, l13, l14, l15, l16, l17, l18, l19, l20], .int x :: st) y) ∧
  (∀ (l0 l1 l2 l3 l4 l5 l7 l8 l9 l10 l11 l12 l13 l14 l15 l16 l17 l18 l19 l20 : Option Value) (st : List Value) (y : (gy × gy) × Nat) (x : Int32), evm C0 b0 L0 xs0 236 (66, [l0, l1, l2, l3, l4, l5, some (.int x), l7, l8, l9, l10, l11, l12, l13, l14, l15, l16, l17, l18, l19, l20], st) y = evm C0 b0 L0 xs0 236 (68, [l0, l1, l2, l3, l4, l5, some (.int x), l7, l8, l9, l10, l11, l12, l13, l14, l15, l16, l17, l18, l19, l20], .int x :: st) y) ∧
  (∀ (L : ri_L) (st : List Value) (y : (gy × gy) × Nat), evm C0 b0 L0 xs0 236 (68, L, st) y = evm C0 b0 L0 xs0 236 (69, L, .int (Int32.ofInt 0) :: st) y) ∧
  (∀ (L : ri_L) (y : (gy × gy) × Nat) (a0 : Nat) (a1 : Int32) (a2 : Int32) (a3 : Int32) (a4 : Int32), evm C0 b0 L0 xs0 236 (69, L, [.int a4, .int a3, .int a2, .int a1, .ref a0]) y = lm_n (calm C0 b0 L0 xs0 230 [.ref a0, .int a1, .int a2, .int a3, .int a4] y) fun v y => evm C0 b0 L0 xs0 236 (72, L, [v]) y) ∧
  (∀ (l0 l1 l2 l3 l4 l5 l6 l7 l8 l9 l10 l11 l12 l13 l14 l15 l16 l17 l18 l19 l20 : Option Value) (st : List Value) (y : (gy × gy) × Nat) (x : Int32), evm C0 b0 L0 xs0 236 (72, [l0, l1, l2, l3, l4, l5, l6, l7, l8, l9, l10, l11, l12, l13, l14, l15, l16, l17, l18, l19, l20], .int x :: st) y = evm C0 b0 L0 xs0 236 (74, [l0, l1, l2, l3, l4, l5, ri_clr l6, some (.int x), l8, l9, l10, l11, l12, l13, l14, l15, l16, l17, l18, l19, l20], st) y) ∧
  (∀ (l1 l2 l3 l4 l5 l6 l7 l8 l9 l10 l11 l12 l13 l14 l15 l16 l17 l18 l19 l20 : Option Value) (st : List Value) (y : (gy × gy) × Nat) (x : Nat), evm C0 b0 L0 xs0 236 (74, [some (.ref x), l1, l2, l3, l4, l5, l6, l7, l8, l9, l10, l11, l12, l13, l14, l15, l16, l17, l18, l19, l20], st) y = evm C0 b0 L0 xs0 236 (75, [some (.ref x), l1, l2, l3, l4, l5, l6, l7, l8, l9, l10, l11, l12, l13, l14, l15, l16, l17, l18, l19, l20], .ref x :: st) y) ∧
  (∀ (L : ri_L) (st : List Value) (y : (gy × gy) × Nat), evm C0 b0 L0 xs0 236 (75, L, st) y = evm C0 b0 L0 xs0 236 (76, L, .int (Int32.ofInt 2) :: st) y) ∧
  (∀ (L : ri_L) (st : List Value) (y : (gy × gy) × Nat), evm C0 b0 L0 xs0 236 (76, L, st) y = evm C0 b0 L0 xs0 236 (77, L, .int (Int32.ofInt 3) :: st) y) ∧
  (∀ (L : ri_L) (st : List Value) (y : (gy × gy) × Nat), evm C0 b0 L0 xs0 236 (77, L, st) y = evm C0 b0 L0 xs0 236 (78, L, .int (Int32.ofInt 0) :: st) y) ∧
  (∀ (L : ri_L) (st : List Value) (y : (gy × gy) × Nat), evm C0 b0 L0 xs0 236 (78, L, st) y = evm C0 b0 L0 xs0 236 (79, L, .int (Int32.ofInt 0) :: st) y) ∧
  (∀ (L : ri_L) (y : (gy × gy) × Nat) (a0 : Nat) (a1 : Int32) (a2 : Int32) (a3 : Int32) (a4 : Int32), evm C0 b0 L0 xs0 236 (79, L, [.int a4, .int a3, .int a2, .int a1, .ref a0]) y = lm_n (calm C0 b0 L0 xs0 230 [.ref a0, .int a1, .int a2, .int a3, .int a4] y) fun v y => evm C0 b0 L0 xs0 236 (82, L, [v]) y) ∧
  (∀ (l0 l1 l2 l3 l4 l5 l6 l7 l8 l9 l10 l11 l12 l13 l14 l15 l16 l17 l18 l19 l20 : Option Value) (st : List Value) (y : (gy × gy) × Nat) (x : Int32), evm C0 b0 L0 xs0 236 (82, [l0, l1, l2, l3, l4, l5, l6, l7, l8, l9, l10, l11, l12, l13, l14, l15, l16, l17, l18, l19, l20], .int x :: st) y = evm C0 b0 L0 xs0 236 (84, [l0, l1, l2, l3, l4, l5, l6, ri_clr l7, some (.int x), l9, l10, l11, l12, l13, l14, l15, l16, l17, l18, l19, l20], st) y) ∧
  (∀ (l1 l2 l3 l4 l5 l6 l7 l8 l9 l10 l11 l12 l13 l14 l15 l16 l17 l18 l19 l20 : Option Value) (st : List Value) (y : (gy × gy) × Nat) (x : Nat), evm C0 b0 L0 xs0 236 (84, [some (.ref x), l1, l2, l3, l4, l5, l6, l7, l8, l9, l10, l11, l12, l13, l14, l15, l16, l17, l18, l19, l20], st) y = evm C0 b0 L0 xs0 236 (85, [some (.ref x), l1, l2, l3, l4, l5, l6, l7, l8, l9, l10, l11, l12, l13, l14, l15, l16, l17, l18, l19, l20], .ref x :: st) y) ∧
  (∀ (L : ri_L) (st : List Value) (y : (gy × gy) × Nat), evm C0 b0 L0 xs0 236 (85, L, st) y = evm C0 b0 L0 xs0 236 (86, L, .int (Int32.ofInt 2) :: st) y) ∧
  (∀ (L : ri_L) (st : List Value) (y : (gy × gy) × Nat), evm C0 b0 L0 xs0 236 (86, L, st) y = evm C0 b0 L0 xs0 236 (88, L, .int (Int32.ofInt 7) :: st) y) ∧
  (∀ (L : ri_L) (st : List Value) (y : (gy × gy) × Nat), evm C0 b0 L0 xs0 236 (88, L, st) y = evm C0 b0 L0 xs0 236 (89, L, .int (Int32.ofInt 0) :: st) y) ∧
  (∀ (L : ri_L) (st : List Value) (y : (gy × gy) × Nat), evm C0 b0 L0 xs0 236 (89, L, st) y = evm C0 b0 L0 xs0 236 (90, L, .int (Int32.ofInt 0) :: st) y) ∧
  (∀ (L : ri_L) (y : (gy × gy) × Nat) (a0 : Nat) (a1 : Int32) (a2 : Int32) (a3 : Int32) (a4 : Int32), evm C0 b0 L0 xs0 236 (90, L, [.int a4, .int a3, .int a2, .int a1, .ref a0]) y = lm_n (calm C0 b0 L0 xs0 230 [.ref a0, .int a1, .int a2, .int a3, .int a4] y) fun v y => evm C0 b0 L0 xs0 236 (93, L, [v]) y) ∧
  (∀ (l0 l1 l2 l3 l4 l5 l6 l7 l8 l9 l10 l11 l12 l13 l14 l15 l16 l17 l18 l19 l20 : Option Value) (st : List Value) (y : (gy × gy) × Nat) (x : Int32), evm C0 b0 L0 xs0 236 (93, [l0, l1, l2, l3, l4, l5, l6, l7, l8, l9, l10, l11, l12, l13, l14, l15, l16, l17, l18, l19, l20], .int x :: st) y = evm C0 b0 L0 xs0 236 (95, [l0, l1, l2, l3, l4, l5, l6, l7, ri_clr l8, some (.int x), l10, l11, l12, l13, l14, l15, l16, l17, l18, l19, l20], st) y) ∧
  (∀ (l1 l2 l3 l4 l5 l6 l7 l8 l9 l10 l11 l12 l13 l14 l15 l16 l17 l18 l19 l20 : Option Value) (st : List Value) (y : (gy × gy) × Nat) (x : Nat), evm C0 b0 L0 xs0 236 (95, [some (.ref x), l1, l2, l3, l4, l5, l6, l7, l8, l9, l10, l11, l12, l13, l14, l15, l16, l17, l18, l19, l20], st) y = evm C0 b0 L0 xs0 236 (96, [some (.ref x), l1, l2, l3, l4, l5, l6, l7, l8, l9, l10, l11, l12, l13, l14, l15, l16, l17, l18, l19, l20], .ref x :: st) y) ∧
  (∀ (L : ri_L) (st : List Value) (y : (gy × gy) × Nat), evm C0 b0 L0 xs0 236 (96, L, st) y = evm C0 b0 L0 xs0 236 (97, L, .int (Int32.ofInt 4) :: st) y) ∧
  (∀ (l0 l1 l2 l3 l4 l6 l7 l8 l9 l10 l11 l12 l13 l14 l15 l16 l17 l18 l19 l20 : Option Value) (st : List Value) (y : (gy × gy) × Nat) (x : Int32), evm C0 b0 L0 xs0 236 (97, [l0, l1, l2, l3, l4, some (.int x), l6, l7, l8, l9, l10, l11, l12, l13, l14, l15, l16, l17, l18, l19, l20], st) y = evm C0 b0 L0 xs0 236 (99, [l0, l1, l2, l3, l4, some (.int x), l6, l7, l8, l9, l10, l11, l12, l13, l14, l15, l16, l17, l18, l19, l20], .int x :: st) y) ∧
  (∀ (L : ri_L) (st : List Value) (y : (gy × gy) × Nat), evm C0 b0 L0 xs0 236 (99, L, st) y = evm C0 b0 L0 xs0 236 (100, L, .int (Int32.ofInt 1) :: st) y) ∧
  (∀ (L : ri_L) (st : List Value) (y : (gy × gy) × Nat), evm C0 b0 L0 xs0 236 (100, L, st) y = evm C0 b0 L0 xs0 236 (101, L, .int (Int32.ofInt 0) :: st) y) ∧
  (∀ (L : ri_L) (y : (gy × gy) × Nat) (a0 : Nat) (a1 : Int32) (a2 : Int32) (a3 : Int32) (a4 : Int32), evm C0 b0 L0 xs0 236 (101, L, [.int a4, .int a3, .int a2, .int a1, .ref a0]) y = lm_n (calm C0 b0 L0 xs0 230 [.ref a0, .int a1, .int a2, .int a3, .int a4] y) fun v y => evm C0 b0 L0 xs0 236 (104, L, [v]) y) ∧
  (∀ (l0 l1 l2 l3 l4 l5 l6 l7 l8 l9 l10 l11 l12 l13 l14 l15 l16 l17 l18 l19 l20 : Option Value) (st : List Value) (y : (gy × gy) × Nat) (x : Int32), evm C0 b0 L0 xs0 236 (104, [l0, l1, l2, l3, l4, l5, l6, l7, l8, l9, l10, l11, l12, l13, l14, l15, l16, l17, l18, l19, l20], .int x :: st) y = evm C0 b0 L0 xs0 236 (106, [l0, l1, l2, l3, l4, l5, l6, l7, l8, ri_clr l9, some (.int x), l11, l12, l13, l14, l15, l16, l17, l18, l19, l20], st) y) ∧
  (∀ (l1 l2 l3 l4 l5 l6 l7 l8 l9 l10 l11 l12 l13 l14 l15 l16 l17 l18 l19 l20 : Option Value) (st : List Value) (y : (gy × gy) × Nat) (x : Nat), evm C0 b0 L0 xs0 236 (106, [some (.ref x), l1, l2, l3, l4, l5, l6, l7, l8, l9, l10, l11, l12, l13, l14, l15, l16, l17, l18, l19, l20], st) y = evm C0 b0 L0 xs0 236 (107, [some (.ref x), l1, l2, l3, l4, l5, l6, l7, l8, l9, l10, l11, l12, l13, l14, l15, l16, l17, l18, l19, l20], .ref x :: st) y) ∧
  (∀ (L : ri_L) (st : List Value) (y : (gy × gy) × Nat), evm C0 b0 L0 xs0 236 (107, L, st) y = evm C0 b0 L0 xs0 236 (108, L, .int (Int32.ofInt 4) :: st) y) ∧
  (∀ (l0 l1 l2 l3 l4 l6 l7 l8 l9 l10 l11 l12 l13 l14 l15 l16 l17 l18 l19 l20 : Option Value) (st : List Value) (y : (gy × gy) × Nat) (x : Int32), evm C0 b0 L0 xs0 236 (108, [l0, l1, l2, l3, l4, some (.int x), l6, l7, l8, l9, l10, l11, l12, l13, l14, l15, l16, l17, l18, l19, l20], st) y = evm C0 b0 L0 xs0 236 (110, [l0, l1, l2, l3, l4, some (.int x), l6, l7, l8, l9, l10, l11, l12, l13, l14, l15, l16, l17, l18, l19, l20], .int x :: st) y) ∧
  (∀ (L : ri_L) (st : List Value) (y : (gy × gy) × Nat), evm C0 b0 L0 xs0 236 (110, L, st) y = evm C0 b0 L0 xs0 236 (111, L, .int (Int32.ofInt 3) :: st) y) ∧
  (∀ (L : ri_L) (st : List Value) (y : (gy × gy) × Nat), evm C0 b0 L0 xs0 236 (111, L, st) y = evm C0 b0 L0 xs0 236 (112, L, .int (Int32.ofInt 0) :: st) y) ∧
  (∀ (L : ri_L) (y : (gy × gy) × Nat) (a0 : Nat) (a1 : Int32) (a2 : Int32) (a3 : Int32) (a4 : Int32), evm C0 b0 L0 xs0 236 (112, L, [.int a4, .int a3, .int a2, .int a1, .ref a0]) y = lm_n (calm C0 b0 L0 xs0 230 [.ref a0, .int a1, .int a2, .int a3, .int a4] y) fun v y => evm C0 b0 L0 xs0 236 (115, L, [v]) y) ∧
  (∀ (l0 l1 l2 l3 l4 l5 l6 l7 l8 l9 l10 l11 l12 l13 l14 l15 l16 l17 l18 l19 l20 : Option Value) (st : List Value) (y : (gy × gy) × Nat) (x : Int32), evm C0 b0 L0 xs0 236 (115, [l0, l1, l2, l3, l4, l5, l6, l7, l8, l9, l10, l11, l12, l13, l14, l15, l16, l17, l18, l19, l20], .int x :: st) y = evm C0 b0 L0 xs0 236 (117, [l0, l1, l2, l3, l4, l5, l6, l7, l8, l9, ri_clr l10, some (.int x), l12, l13, l14, l15, l16, l17, l18, l19, l20], st) y) ∧
  (∀ (l1 l2 l3 l4 l5 l6 l7 l8 l9 l10 l11 l12 l13 l14 l15 l16 l17 l18 l19 l20 : Option Value) (st : List Value) (y : (gy × gy) × Nat) (x : Nat), evm C0 b0 L0 xs0 236 (117, [some (.ref x), l1, l2, l3, l4, l5, l6, l7, l8, l9, l10, l11, l12, l13, l14, l15, l16, l17, l18, l19, l20], st) y = evm C0 b0 L0 xs0 236 (118, [some (.ref x), l1, l2, l3, l4, l5, l6, l7, l8, l9, l10, l11, l12, l13, l14, l15, l16, l17, l18, l19, l20], .ref x :: st) y) ∧
  (∀ (L : ri_L) (st : List Value) (y : (gy × gy) × Nat), evm C0 b0 L0 xs0 236 (118, L, st) y = evm C0 b0 L0 xs0 236 (119, L, .int (Int32.ofInt 3) :: st) y) ∧
  (∀ (l0 l1 l2 l3 l4 l5 l6 l7 l8 l9 l11 l12 l13 l14 l15 l16 l17 l18 l19 l20 : Option Value) (st : List Value) (y : (gy × gy) × Nat) (x : Int32), evm C0 b0 L0 xs0 236 (119, [l0, l1, l2, l3, l4, l5, l6, l7, l8, l9, some (.int x), l11, l12, l13, l14, l15, l16, l17, l18, l19, l20], st) y = evm C0 b0 L0 xs0 236 (121, [l0, l1, l2, l3, l4, l5, l6, l7, l8, l9, some (.int x), l11, l12, l13, l14, l15, l16, l17, l18, l19, l20], .int x :: st) y) ∧
  (∀ (L : ri_L) (st : List Value) (y : (gy × gy) × Nat), evm C0 b0 L0 xs0 236 (121, L, st) y = evm C0 b0 L0 xs0 236 (122, L, .int (Int32.ofInt 3) :: st) y) ∧
  (∀ (L : ri_L) (st : List Value) (y : (gy × gy) × Nat), evm C0 b0 L0 xs0 236 (122, L, st) y = evm C0 b0 L0 xs0 236 (123, L, .int (Int32.ofInt 0) :: st) y) :=
  ⟨fun l1 l2 l3 l4 l5 l6 l7 l8 l9 l10 l11 l12 l13 l14 l15 l16 l17 l18 l19 l20 st y x => em_p rfl rfl,
   fun L st y => em_p rfl rfl,
   fun l0 l1 l2 l3 l4 l6 l7 l8 l9 l10 l11 l12 l13 l14 l15 l16 l17 l18 l19 l20 st y x => em_p rfl rfl,
   fun l0 l1 l2 l3 l4 l5 l7 l8 l9 l10 l11 l12 l13 l14 l15 l16 l17 l18 l19 l20 st y x => em_p rfl rfl,
   fun L st y => em_p rfl rfl,
   fun L y a0 a1 a2 a3 a4 => em_call rfl rfl rfl rfl rfl,
   fun l0 l1 l2 l3 l4 l5 l6 l7 l8 l9 l10 l11 l12 l13 l14 l15 l16 l17 l18 l19 l20 st y x => em_p rfl rfl,
   fun l1 l2 l3 l4 l5 l6 l7 l8 l9 l10 l11 l12 l13 l14 l15 l16 l17 l18 l19 l20 st y x => em_p rfl rfl,
   fun L st y => em_p rfl rfl,
   fun L st y => em_p rfl rfl,
   fun L st y => em_p rfl rfl,
   fun L st y => em_p rfl rfl,
   fun L y a0 a1 a2 a3 a4 => em_call rfl rfl rfl rfl rfl,
   fun l0 l1 l2 l3 l4 l5 l6 l7 l8 l9 l10 l11 l12 l13 l14 l15 l16 l17 l18 l19 l20 st y x => em_p rfl rfl,
   fun l1 l2 l3 l4 l5 l6 l7 l8 l9 l10 l11 l12 l13 l14 l15 l16 l17 l18 l19 l20 st y x => em_p rfl rfl,
   fun L st y => em_p rfl rfl,
   fun L st y => em_p rfl rfl,
   fun L st y => em_p rfl rfl,
   fun L st y => em_p rfl rfl,
   fun L y a0 a1 a2 a3 a4 => em_call rfl rfl rfl rfl rfl,
   fun l0 l1 l2 l3 l4 l5 l6 l7 l8 l9 l10 l11 l12 l13 l14 l15 l16 l17 l18 l19 l20 st y x => em_p rfl rfl,
   fun l1 l2 l3 l4 l5 l6 l7 l8 l9 l10 l11 l12 l13 l14 l15 l16 l17 l18 l19 l20 st y x => em_p rfl rfl,
   fun L st y => em_p rfl rfl,
   fun l0 l1 l2 l3 l4 l6 l7 l8 l9 l10 l11 l12 l13 l14 l15 l16 l17 l18 l19 l20 st y x => em_p rfl rfl,
   fun L st y => em_p rfl rfl,
   fun L st y => em_p rfl rfl,
   fun L y a0 a1 a2 a3 a4 => em_call rfl rfl rfl rfl rfl,
   fun l0 l1 l2 l3 l4 l5 l6 l7 l8 l9 l10 l11 l12 l13 l14 l15 l16 l17 l18 l19 l20 st y x => em_p rfl rfl,
   fun l1 l2 l3 l4 l5 l6 l7 l8 l9 l10 l11 l12 l13 l14 l15 l16 l17 l18 l19 l20 st y x => em_p rfl rfl,
   fun L st y => em_p rfl rfl,
   fun l0 l1 l2 l3 l4 l6 l7 l8 l9 l10 l11 l12 l13 l14 l15 l16 l17 l18 l19 l20 st y x => em_p rfl rfl,
   fun L st y => em_p rfl rfl,
   fun L st y => em_p rfl rfl,
   fun L y a0 a1 a2 a3 a4 => em_call rfl rfl rfl rfl rfl,
   fun l0 l1 l2 l3 l4 l5 l6 l7 l8 l9 l10 l11 l12 l13 l14 l15 l16 l17 l18 l19 l20 st y x => em_p rfl rfl,
   fun l1 l2 l3 l4 l5 l6 l7 l8 l9 l10 l11 l12 l13 l14 l15 l16 l17 l18 l19 l20 st y x => em_p rfl rfl,
   fun L st y => em_p rfl rfl,
   fun l0 l1 l2 l3 l4 l5 l6 l7 l8 l9 l11 l12 l13 l14 l15 l16 l17 l18 l19 l20 st y x => em_p rfl rfl,
   fun L st y => em_p rfl rfl,
   fun L st y => em_p rfl rfl⟩
set_option maxRecDepth 8000 in
theorem L_236_2 :
  (∀ (L : ri_L) (y : (gy × gy) × Nat) (a0 : Nat) (a1 : Int32) (a2 : Int32) (a3 : Int32) (a4 : Int32), evm C0 b0 L0 xs0 236 (123, L, [.int a4, .int a3, .int a2, .int a1, .ref a0]) y = lm_n (calm C0 b0 L0 xs0 230 [.ref a0, .int a1, .int a2, .int a3, .int a4] y) fun v y => evm C0 b0 L0 xs0 236 (126, L, [v]) y) ∧
  (∀ (l0 l1 l2 l3 l4 l5 l6 l7 l8 l9 l10 l11 l12 l13 l14 l15 l16 l17 l18 l19 l20 : Option Value) (st : List Value) (y : (gy × gy) × Nat) (x : Int32), evm C0 b0 L0 xs0 236 (126, [l0, l1, l2, l3, l4, l5, l6, l7, l8, l9, l10, l11, l12, l13, l14, l15, l16, l17, l18, l19, l20], .int x :: st) y = evm C0 b0 L0 xs0 236 (128, [l0, l1, l2, l3, l4, l5, l6, l7, l8, l9, l10, ri_clr l11, some (.int x), l13, l14, l15, l16, l17, l18, l19, l20], st) y) ∧
  (∀ (l1 l2 l3 l4 l5 l6 l7 l8 l9 l10 l11 l12 l13 l14 l15 l16 l17 l18 l19 l20 : Option Value) (st : List Value) (y : (gy × gy) × Nat) (x : Nat), evm C0 b0 L0 xs0 236 (128, [some (.ref x), l1, l2, l3, l4, l5, l6, l7, l8, l9, l10, l11, l12, l13, l14, l15, l16, l17, l18, l19, l20], st) y = evm C0 b0 L0 xs0 236 (129, [some (.ref x), l1, l2, l3, l4, l5, l6, l7, l8, l9, l10, l11, l12, l13, l14, l15, l16, l17, l18, l19, l20], .ref x :: st) y) ∧
  (∀ (L : ri_L) (st : List Value) (y : (gy × gy) × Nat), evm C0 b0 L0 xs0 236 (129, L, st) y = evm C0 b0 L0 xs0 236 (130, L, .int (Int32.ofInt 3) :: st) y) ∧
  (∀ (l0 l1 l2 l3 l4 l5 l6 l7 l8 l9 l11 l12 l13 l14 l15 l16 l17 l18 l19 l20 : Option Value) (st : List Value) (y : (gy × gy) × Nat) (x : Int32), evm C0 b0 L0 xs0 236 (130, [l0, l1, l2, l3, l4, l5, l6, l7, l8, l9, some (.int x), l11, l12, l13, l14, l15, l16, l17, l18, l19, l20], st) y = evm C0 b0 L0 xs0 236 (132, [l0, l1, l2, l3, l4, l5, l6, l7, l8, l9, some (.int x), l11, l12, l13, l14, l15, l16, l17, l18, l19, l20], .int x :: st) y) ∧
  (∀ (L : ri_L) (st : List Value) (y : (gy × gy) × Nat), evm C0 b0 L0 xs0 236 (132, L, st) y = evm C0 b0 L0 xs0 236 (133, L, .int (Int32.ofInt 4) :: st) y) ∧
  (∀ (L : ri_L) (st : List Value) (y : (gy × gy) × Nat), evm C0 b0 L0 xs0 236 (133, L, st) y = evm C0 b0 L0 xs0 236 (134, L, .int (Int32.ofInt 0) :: st) y) ∧
  (∀ (L : ri_L) (y : (gy × gy) × Nat) (a0 : Nat) (a1 : Int32) (a2 : Int32) (a3 : Int32) (a4 : Int32), evm C0 b0 L0 xs0 236 (134, L, [.int a4, .int a3, .int a2, .int a1, .ref a0]) y = lm_n (calm C0 b0 L0 xs0 230 [.ref a0, .int a1, .int a2, .int a3, .int a4] y) fun v y => evm C0 b0 L0 xs0 236 (137, L, [v]) y) ∧
  (∀ (l1 l2 l3 l4 l5 l6 l7 l8 l9 l10 l11 l12 l13 l14 l15 l16 l17 l18 l19 l20 : Option Value) (st : List Value) (y : (gy × gy) × Nat) (x : Nat), evm C0 b0 L0 xs0 236 (137, [some (.ref x), l1, l2, l3, l4, l5, l6, l7, l8, l9, l10, l11, l12, l13, l14, l15, l16, l17, l18, l19, l20], st) y = evm C0 b0 L0 xs0 236 (138, [some (.ref x), l1, l2, l3, l4, l5, l6, l7, l8, l9, l10, l11, l12, l13, l14, l15, l16, l17, l18, l19, l20], .ref x :: st) y) ∧
  (∀ (L : ri_L) (st : List Value) (y : (gy × gy) × Nat), evm C0 b0 L0 xs0 236 (138, L, st) y = evm C0 b0 L0 xs0 236 (139, L, .int (Int32.ofInt 4) :: st) y) ∧
  (∀ (l0 l1 l2 l3 l4 l6 l7 l8 l9 l10 l11 l12 l13 l14 l15 l16 l17 l18 l19 l20 : Option Value) (st : List Value) (y : (gy × gy) × Nat) (x : Int32), evm C0 b0 L0 xs0 236 (139, [l0, l1, l2, l3, l4, some (.int x), l6, l7, l8, l9, l10, l11, l12, l13, l14, l15, l16, l17, l18, l19, l20], st) y = evm C0 b0 L0 xs0 236 (141, [l0, l1, l2, l3, l4, some (.int x), l6, l7, l8, l9, l10, l11, l12, l13, l14, l15, l16, l17, l18, l19, l20], .int x :: st) y) ∧
  (∀ (L : ri_L) (st : List Value) (y : (gy × gy) × Nat), evm C0 b0 L0 xs0 236 (141, L, st) y = evm C0 b0 L0 xs0 236 (142, L, .int (Int32.ofInt 0) :: st) y) ∧
  (∀ (L : ri_L) (st : List Value) (y : (gy × gy) × Nat), evm C0 b0 L0 xs0 236 (142, L, st) y = evm C0 b0 L0 xs0 236 (143, L, .int (Int32.ofInt 0) :: st) y) ∧
  (∀ (L : ri_L) (y : (gy × gy) × Nat) (a0 : Nat) (a1 : Int32) (a2 : Int32) (a3 : Int32) (a4 : Int32) (s0 : Value), evm C0 b0 L0 xs0 236 (143, L, [.int a4, .int a3, .int a2, .int a1, .ref a0, s0]) y = lm_n (calm C0 b0 L0 xs0 230 [.ref a0, .int a1, .int a2, .int a3, .int a4] y) fun v y => evm C0 b0 L0 xs0 236 (146, L, [v, s0]) y) ∧
  (∀ (L : ri_L) (st : List Value) (y : (gy × gy) × Nat) (z x : Int32), evm C0 b0 L0 xs0 236 (146, L, .int z :: .int x :: st) y = evm C0 b0 L0 xs0 236 (147, L, .int (x - z) :: st) y) ∧
  (∀ (l0 l1 l2 l3 l4 l5 l6 l7 l8 l9 l10 l11 l12 l13 l14 l15 l16 l17 l18 l19 l20 : Option Value) (st : List Value) (y : (gy × gy) × Nat) (x : Int32), evm C0 b0 L0 xs0 236 (147, [l0, l1, l2, l3, l4, l5, l6, l7, l8, l9, l10, l11, l12, l13, l14, l15, l16, l17, l18, l19, l20], .int x :: st) y = evm C0 b0 L0 xs0 236 (149, [l0, l1, l2, l3, l4, l5, l6, l7, l8, l9, l10, l11, ri_clr l12, some (.int x), l14, l15, l16, l17, l18, l19, l20], st) y) ∧
  (∀ (l1 l2 l3 l4 l5 l6 l7 l8 l9 l10 l11 l12 l13 l14 l15 l16 l17 l18 l19 l20 : Option Value) (st : List Value) (y : (gy × gy) × Nat) (x : Nat), evm C0 b0 L0 xs0 236 (149, [some (.ref x), l1, l2, l3, l4, l5, l6, l7, l8, l9, l10, l11, l12, l13, l14, l15, l16, l17, l18, l19, l20], st) y = evm C0 b0 L0 xs0 236 (150, [some (.ref x), l1, l2, l3, l4, l5, l6, l7, l8, l9, l10, l11, l12, l13, l14, l15, l16, l17, l18, l19, l20], .ref x :: st) y) ∧
  (∀ (L : ri_L) (st : List Value) (y : (gy × gy) × Nat), evm C0 b0 L0 xs0 236 (150, L, st) y = evm C0 b0 L0 xs0 236 (151, L, .int (Int32.ofInt 5) :: st) y) ∧
  (∀ (l0 l1 l2 l3 l4 l5 l7 l8 l9 l10 l11 l12 l13 l14 l15 l16 l17 l18 l19 l20 : Option Value) (st : List Value) (y : (gy × gy) × Nat) (x : Int32), evm C0 b0 L0 xs0 236 (151, [l0, l1, l2, l3, l4, l5, some (.int x), l7, l8, l9, l10, l11, l12, l13, l14, l15, l16, l17, l18, l19, l20], st) y = evm C0 b0 L0 xs0 236 (153, [l0, l1, l2, l3, l4, l5, some (.int x), l7, l8, l9, l10, l11, l12, l13, l14, l15, l16, l17, l18, l19, l20], .int x :: st) y) ∧
  (∀ (L : ri_L) (st : List Value) (y : (gy × gy) × Nat), evm C0 b0 L0 xs0 236 (153, L, st) y = evm C0 b0 L0 xs0 236 (154, L, .int (Int32.ofInt 0) :: st) y) ∧
  (∀ (L : ri_L) (st : List Value) (y : (gy × gy) × Nat), evm C0 b0 L0 xs0 236 (154, L, st) y = evm C0 b0 L0 xs0 236 (155, L, .int (Int32.ofInt 0) :: st) y) ∧
  (∀ (L : ri_L) (y : (gy × gy) × Nat) (a0 : Nat) (a1 : Int32) (a2 : Int32) (a3 : Int32) (a4 : Int32), evm C0 b0 L0 xs0 236 (155, L, [.int a4, .int a3, .int a2, .int a1, .ref a0]) y = lm_n (calm C0 b0 L0 xs0 230 [.ref a0, .int a1, .int a2, .int a3, .int a4] y) fun v y => evm C0 b0 L0 xs0 236 (158, L, [v]) y) ∧
  (∀ (l0 l1 l2 l3 l4 l5 l6 l7 l8 l9 l11 l12 l13 l14 l15 l16 l17 l18 l19 l20 : Option Value) (st : List Value) (y : (gy × gy) × Nat) (x : Int32), evm C0 b0 L0 xs0 236 (158, [l0, l1, l2, l3, l4, l5, l6, l7, l8, l9, some (.int x), l11, l12, l13, l14, l15, l16, l17, l18, l19, l20], st) y = evm C0 b0 L0 xs0 236 (160, [l0, l1, l2, l3, l4, l5, l6, l7, l8, l9, some (.int x), l11, l12, l13, l14, l15, l16, l17, l18, l19, l20], .int x :: st) y) ∧
  (∀ (L : ri_L) (st : List Value) (y : (gy × gy) × Nat) (z x : Int32), evm C0 b0 L0 xs0 236 (160, L, .int z :: .int x :: st) y = if ¬ x = z then evm C0 b0 L0 xs0 236 (181, L, st) y else evm C0 b0 L0 xs0 236 (163, L, st) y) ∧
  (∀ (l1 l2 l3 l4 l5 l6 l7 l8 l9 l10 l11 l12 l13 l14 l15 l16 l17 l18 l19 l20 : Option Value) (st : List Value) (y : (gy × gy) × Nat) (x : Nat), evm C0 b0 L0 xs0 236 (163, [some (.ref x), l1, l2, l3, l4, l5, l6, l7, l8, l9, l10, l11, l12, l13, l14, l15, l16, l17, l18, l19, l20], st) y = evm C0 b0 L0 xs0 236 (164, [some (.ref x), l1, l2, l3, l4, l5, l6, l7, l8, l9, l10, l11, l12, l13, l14, l15, l16, l17, l18, l19, l20], .ref x :: st) y) ∧
  (∀ (L : ri_L) (st : List Value) (y : (gy × gy) × Nat), evm C0 b0 L0 xs0 236 (164, L, st) y = evm C0 b0 L0 xs0 236 (165, L, .int (Int32.ofInt 5) :: st) y) ∧
  (∀ (l0 l1 l2 l3 l4 l5 l7 l8 l9 l10 l11 l12 l13 l14 l15 l16 l17 l18 l19 l20 : Option Value) (st : List Value) (y : (gy × gy) × Nat) (x : Int32), evm C0 b0 L0 xs0 236 (165, [l0, l1, l2, l3, l4, l5, some (.int x), l7, l8, l9, l10, l11, l12, l13, l14, l15, l16, l17, l18, l19, l20], st) y = evm C0 b0 L0 xs0 236 (167, [l0, l1, l2, l3, l4, l5, some (.int x), l7, l8, l9, l10, l11, l12, l13, l14, l15, l16, l17, l18, l19, l20], .int x :: st) y) ∧
  (∀ (L : ri_L) (st : List Value) (y : (gy × gy) × Nat), evm C0 b0 L0 xs0 236 (167, L, st) y = evm C0 b0 L0 xs0 236 (168, L, .int (Int32.ofInt 1) :: st) y) ∧
  (∀ (L : ri_L) (st : List Value) (y : (gy × gy) × Nat), evm C0 b0 L0 xs0 236 (168, L, st) y = evm C0 b0 L0 xs0 236 (169, L, .int (Int32.ofInt 0) :: st) y) ∧
  (∀ (L : ri_L) (y : (gy × gy) × Nat) (a0 : Nat) (a1 : Int32) (a2 : Int32) (a3 : Int32) (a4 : Int32), evm C0 b0 L0 xs0 236 (169, L, [.int a4, .int a3, .int a2, .int a1, .ref a0]) y = lm_n (calm C0 b0 L0 xs0 230 [.ref a0, .int a1, .int a2, .int a3, .int a4] y) fun v y => evm C0 b0 L0 xs0 236 (172, L, [v]) y) ∧
  (∀ (l0 l1 l2 l3 l4 l5 l6 l7 l8 l9 l10 l12 l13 l14 l15 l16 l17 l18 l19 l20 : Option Value) (st : List Value) (y : (gy × gy) × Nat) (x : Int32), evm C0 b0 L0 xs0 236 (172, [l0, l1, l2, l3, l4, l5, l6, l7, l8, l9, l10, some (.int x), l12, l13, l14, l15, l16, l17, l18, l19, l20], st) y = evm C0 b0 L0 xs0 236 (174, [l0, l1, l2, l3, l4, l5, l6, l7, l8, l9, l10, some (.int x), l12, l13, l14, l15, l16, l17, l18, l19, l20], .int x :: st) y) ∧
  (∀ (L : ri_L) (st : List Value) (y : (gy × gy) × Nat) (z x : Int32), evm C0 b0 L0 xs0 236 (174, L, .int z :: .int x :: st) y = if ¬ x = z then evm C0 b0 L0 xs0 236 (181, L, st) y else evm C0 b0 L0 xs0 236 (177, L, st) y) ∧
  (∀ (L : ri_L) (st : List Value) (y : (gy × gy) × Nat), evm C0 b0 L0 xs0 236 (177, L, st) y = evm C0 b0 L0 xs0 236 (178, L, .int (Int32.ofInt 2) :: st) y) ∧
  (∀ (L : ri_L) (st : List Value) (y : (gy × gy) × Nat), evm C0 b0 L0 xs0 236 (178, L, st) y = evm C0 b0 L0 xs0 236 (182, L, st) y) ∧
  (∀ (L : ri_L) (st : List Value) (y : (gy × gy) × Nat), evm C0 b0 L0 xs0 236 (181, L, st) y = evm C0 b0 L0 xs0 236 (182, L, .int (Int32.ofInt 0) :: st) y) ∧
  (∀ (l0 l1 l2 l3 l4 l5 l6 l7 l8 l9 l10 l11 l12 l13 l14 l15 l16 l17 l18 l19 l20 : Option Value) (st : List Value) (y : (gy × gy) × Nat) (x : Int32), evm C0 b0 L0 xs0 236 (182, [l0, l1, l2, l3, l4, l5, l6, l7, l8, l9, l10, l11, l12, l13, l14, l15, l16, l17, l18, l19, l20], .int x :: st) y = evm C0 b0 L0 xs0 236 (184, [l0, l1, l2, l3, l4, l5, l6, l7, l8, l9, l10, l11, l12, ri_clr l13, some (.int x), l15, l16, l17, l18, l19, l20], st) y) ∧
  (∀ (l1 l2 l3 l4 l5 l6 l7 l8 l9 l10 l11 l12 l13 l14 l15 l16 l17 l18 l19 l20 : Option Value) (st : List Value) (y : (gy × gy) × Nat) (x : Nat), evm C0 b0 L0 xs0 236 (184, [some (.ref x), l1, l2, l3, l4, l5, l6, l7, l8, l9, l10, l11, l12, l13, l14, l15, l16, l17, l18, l19, l20], st) y = evm C0 b0 L0 xs0 236 (185, [some (.ref x), l1, l2, l3, l4, l5, l6, l7, l8, l9, l10, l11, l12, l13, l14, l15, l16, l17, l18, l19, l20], .ref x :: st) y) ∧
  (∀ (L : ri_L) (st : List Value) (y : (gy × gy) × Nat), evm C0 b0 L0 xs0 236 (185, L, st) y = evm C0 b0 L0 xs0 236 (186, L, .int (Int32.ofInt 5) :: st) y) ∧
  (∀ (l0 l1 l2 l3 l4 l5 l7 l8 l9 l10 l11 l12 l13 l14 l15 l16 l17 l18 l19 l20 : Option Value) (st : List Value) (y : (gy × gy) × Nat) (x : Int32), evm C0 b0 L0 xs0 236 (186, [l0, l1, l2, l3, l4, l5, some (.int x), l7, l8, l9, l10, l11, l12, l13, l14, l15, l16, l17, l18, l19, l20], st) y = evm C0 b0 L0 xs0 236 (188, [l0, l1, l2, l3, l4, l5, some (.int x), l7, l8, l9, l10, l11, l12, l13, l14, l15, l16, l17, l18, l19, l20], .int x :: st) y) ∧
  (∀ (l0 l1 l2 l3 l4 l5 l6 l7 l8 l9 l10 l11 l12 l13 l15 l16 l17 l18 l19 l20 : Option Value) (st : List Value) (y : (gy × gy) × Nat) (x : Int32), evm C0 b0 L0 xs0 236 (188, [l0, l1, l2, l3, l4, l5, l6, l7, l8, l9, l10, l11, l12, l13, some (.int x), l15, l16, l17, l18, l19, l20], st) y = evm C0 b0 L0 xs0 236 (190, [l0, l1, l2, l3, l4, l5, l6, l7, l8, l9, l10, l11, l12, l13, some (.int x), l15, l16, l17, l18, l19, l20], .int x :: st) y) :=
  ⟨fun L y a0 a1 a2 a3 a4 => em_call rfl rfl rfl rfl rfl,
   fun l0 l1 l2 l3 l4 l5 l6 l7 l8 l9 l10 l11 l12 l13 l14 l15 l16 l17 l18 l19 l20 st y x => em_p rfl rfl,
   fun l1 l2 l3 l4 l5 l6 l7 l8 l9 l10 l11 l12 l13 l14 l15 l16 l17 l18 l19 l20 st y x => em_p rfl rfl,
   fun L st y => em_p rfl rfl,
   fun l0 l1 l2 l3 l4 l5 l6 l7 l8 l9 l11 l12 l13 l14 l15 l16 l17 l18 l19 l20 st y x => em_p rfl rfl,
   fun L st y => em_p rfl rfl,
   fun L st y => em_p rfl rfl,
   fun L y a0 a1 a2 a3 a4 => em_call rfl rfl rfl rfl rfl,
   fun l1 l2 l3 l4 l5 l6 l7 l8 l9 l10 l11 l12 l13 l14 l15 l16 l17 l18 l19 l20 st y x => em_p rfl rfl,
   fun L st y => em_p rfl rfl,
   fun l0 l1 l2 l3 l4 l6 l7 l8 l9 l10 l11 l12 l13 l14 l15 l16 l17 l18 l19 l20 st y x => em_p rfl rfl,
   fun L st y => em_p rfl rfl,
   fun L st y => em_p rfl rfl,
   fun L y a0 a1 a2 a3 a4 s0 => em_call rfl rfl rfl rfl rfl,
   fun L st y z x => em_p rfl rfl,
   fun l0 l1 l2 l3 l4 l5 l6 l7 l8 l9 l10 l11 l12 l13 l14 l15 l16 l17 l18 l19 l20 st y x => em_p rfl rfl,
   fun l1 l2 l3 l4 l5 l6 l7 l8 l9 l10 l11 l12 l13 l14 l15 l16 l17 l18 l19 l20 st y x => em_p rfl rfl,
   fun L st y => em_p rfl rfl,
   fun l0 l1 l2 l3 l4 l5 l7 l8 l9 l10 l11 l12 l13 l14 l15 l16 l17 l18 l19 l20 st y x => em_p rfl rfl,
   fun L st y => em_p rfl rfl,
   fun L st y => em_p rfl rfl,
   fun L y a0 a1 a2 a3 a4 => em_call rfl rfl rfl rfl rfl,
   fun l0 l1 l2 l3 l4 l5 l6 l7 l8 l9 l11 l12 l13 l14 l15 l16 l17 l18 l19 l20 st y x => em_p rfl rfl,
   fun L st y z x => em_b rfl rfl,
   fun l1 l2 l3 l4 l5 l6 l7 l8 l9 l10 l11 l12 l13 l14 l15 l16 l17 l18 l19 l20 st y x => em_p rfl rfl,
   fun L st y => em_p rfl rfl,
   fun l0 l1 l2 l3 l4 l5 l7 l8 l9 l10 l11 l12 l13 l14 l15 l16 l17 l18 l19 l20 st y x => em_p rfl rfl,
   fun L st y => em_p rfl rfl,
   fun L st y => em_p rfl rfl,
   fun L y a0 a1 a2 a3 a4 => em_call rfl rfl rfl rfl rfl,
   fun l0 l1 l2 l3 l4 l5 l6 l7 l8 l9 l10 l12 l13 l14 l15 l16 l17 l18 l19 l20 st y x => em_p rfl rfl,
   fun L st y z x => em_b rfl rfl,
   fun L st y => em_p rfl rfl,
   fun L st y => em_p rfl rfl,
   fun L st y => em_p rfl rfl,
   fun l0 l1 l2 l3 l4 l5 l6 l7 l8 l9 l10 l11 l12 l13 l14 l15 l16 l17 l18 l19 l20 st y x => em_p rfl rfl,
   fun l1 l2 l3 l4 l5 l6 l7 l8 l9 l10 l11 l12 l13 l14 l15 l16 l17 l18 l19 l20 st y x => em_p rfl rfl,
   fun L st y => em_p rfl rfl,
   fun l0 l1 l2 l3 l4 l5 l7 l8 l9 l10 l11 l12 l13 l14 l15 l16 l17 l18 l19 l20 st y x => em_p rfl rfl,
   fun l0 l1 l2 l3 l4 l5 l6 l7 l8 l9 l10 l11 l12 l13 l15 l16 l17 l18 l19 l20 st y x => em_p rfl rfl⟩
set_option maxRecDepth 8000 in
theorem L_236_3 :
  (∀ (L : ri_L) (st : List Value) (y : (gy × gy) × Nat), evm C0 b0 L0 xs0 236 (190, L, st) y = evm C0 b0 L0 xs0 236 (191, L, .int (Int32.ofInt 0) :: st) y) ∧
  (∀ (L : ri_L) (y : (gy × gy) × Nat) (a0 : Nat) (a1 : Int32) (a2 : Int32) (a3 : Int32) (a4 : Int32), evm C0 b0 L0 xs0 236 (191, L, [.int a4, .int a3, .int a2, .int a1, .ref a0]) y = lm_n (calm C0 b0 L0 xs0 230 [.ref a0, .int a1, .int a2, .int a3, .int a4] y) fun v y => evm C0 b0 L0 xs0 236 (194, L, [v]) y) ∧
  (∀ (l0 l1 l2 l3 l4 l5 l6 l7 l8 l9 l10 l11 l12 l13 l14 l15 l16 l17 l18 l19 l20 : Option Value) (st : List Value) (y : (gy × gy) × Nat) (x : Int32), evm C0 b0 L0 xs0 236 (194, [l0, l1, l2, l3, l4, l5, l6, l7, l8, l9, l10, l11, l12, l13, l14, l15, l16, l17, l18, l19, l20], .int x :: st) y = evm C0 b0 L0 xs0 236 (196, [l0, l1, l2, l3, l4, l5, l6, l7, l8, l9, l10, l11, l12, l13, ri_clr l14, some (.int x), l16, l17, l18, l19, l20], st) y) ∧
  (∀ (l1 l2 l3 l4 l5 l6 l7 l8 l9 l10 l11 l12 l13 l14 l15 l16 l17 l18 l19 l20 : Option Value) (st : List Value) (y : (gy × gy) × Nat) (x : Nat), evm C0 b0 L0 xs0 236 (196, [some (.ref x), l1, l2, l3, l4, l5, l6, l7, l8, l9, l10, l11, l12, l13, l14, l15, l16, l17, l18, l19, l20], st) y = evm C0 b0 L0 xs0 236 (197, [some (.ref x), l1, l2, l3, l4, l5, l6, l7, l8, l9, l10, l11, l12, l13, l14, l15, l16, l17, l18, l19, l20], .ref x :: st) y) ∧
  (∀ (L : ri_L) (st : List Value) (y : (gy × gy) × Nat), evm C0 b0 L0 xs0 236 (197, L, st) y = evm C0 b0 L0 xs0 236 (198, L, .int (Int32.ofInt 5) :: st) y) ∧
  (∀ (l0 l1 l2 l3 l4 l5 l7 l8 l9 l10 l11 l12 l13 l14 l15 l16 l17 l18 l19 l20 : Option Value) (st : List Value) (y : (gy × gy) × Nat) (x : Int32), evm C0 b0 L0 xs0 236 (198, [l0, l1, l2, l3, l4, l5, some (.int x), l7, l8, l9, l10, l11, l12, l13, l14, l15, l16, l17, l18, l19, l20], st) y = evm C0 b0 L0 xs0 236 (200, [l0, l1, l2, l3, l4, l5, some (.int x), l7, l8, l9, l10, l11, l12, l13, l14, l15, l16, l17, l18, l19, l20], .int x :: st) y) ∧
  (∀ (l0 l1 l2 l3 l4 l5 l6 l7 l8 l9 l10 l11 l12 l13 l15 l16 l17 l18 l19 l20 : Option Value) (st : List Value) (y : (gy × gy) × Nat) (x : Int32), evm C0 b0 L0 xs0 236 (200, [l0, l1, l2, l3, l4, l5, l6, l7, l8, l9, l10, l11, l12, l13, some (.int x), l15, l16, l17, l18, l19, l20], st) y = evm C0 b0 L0 xs0 236 (202, [l0, l1, l2, l3, l4, l5, l6, l7, l8, l9, l10, l11, l12, l13, some (.int x), l15, l16, l17, l18, l19, l20], .int x :: st) y) ∧
  (∀ (L : ri_L) (st : List Value) (y : (gy × gy) × Nat), evm C0 b0 L0 xs0 236 (202, L, st) y = evm C0 b0 L0 xs0 236 (203, L, .int (Int32.ofInt 1) :: st) y) ∧
  (∀ (L : ri_L) (st : List Value) (y : (gy × gy) × Nat) (z x : Int32), evm C0 b0 L0 xs0 236 (203, L, .int z :: .int x :: st) y = evm C0 b0 L0 xs0 236 (204, L, .int (x + z) :: st) y) ∧
  (∀ (L : ri_L) (st : List Value) (y : (gy × gy) × Nat), evm C0 b0 L0 xs0 236 (204, L, st) y = evm C0 b0 L0 xs0 236 (205, L, .int (Int32.ofInt 0) :: st) y) ∧
  (∀ (L : ri_L) (y : (gy × gy) × Nat) (a0 : Nat) (a1 : Int32) (a2 : Int32) (a3 : Int32) (a4 : Int32), evm C0 b0 L0 xs0 236 (205, L, [.int a4, .int a3, .int a2, .int a1, .ref a0]) y = lm_n (calm C0 b0 L0 xs0 230 [.ref a0, .int a1, .int a2, .int a3, .int a4] y) fun v y => evm C0 b0 L0 xs0 236 (208, L, [v]) y) ∧
  (∀ (l0 l1 l2 l3 l4 l5 l6 l7 l8 l9 l10 l11 l12 l13 l14 l15 l16 l17 l18 l19 l20 : Option Value) (st : List Value) (y : (gy × gy) × Nat) (x : Int32), evm C0 b0 L0 xs0 236 (208, [l0, l1, l2, l3, l4, l5, l6, l7, l8, l9, l10, l11, l12, l13, l14, l15, l16, l17, l18, l19, l20], .int x :: st) y = evm C0 b0 L0 xs0 236 (210, [l0, l1, l2, l3, l4, l5, l6, l7, l8, l9, l10, l11, l12, l13, l14, ri_clr l15, some (.int x), l17, l18, l19, l20], st) y) ∧
  (∀ (l1 l2 l3 l4 l5 l6 l7 l8 l9 l10 l11 l12 l13 l14 l15 l16 l17 l18 l19 l20 : Option Value) (st : List Value) (y : (gy × gy) × Nat) (x : Nat), evm C0 b0 L0 xs0 236 (210, [some (.ref x), l1, l2, l3, l4, l5, l6, l7, l8, l9, l10, l11, l12, l13, l14, l15, l16, l17, l18, l19, l20], st) y = evm C0 b0 L0 xs0 236 (211, [some (.ref x), l1, l2, l3, l4, l5, l6, l7, l8, l9, l10, l11, l12, l13, l14, l15, l16, l17, l18, l19, l20], .ref x :: st) y) ∧
  (∀ (l0 l1 l2 l3 l4 l6 l7 l8 l9 l10 l11 l12 l13 l14 l15 l16 l17 l18 l19 l20 : Option Value) (st : List Value) (y : (gy × gy) × Nat) (x : Int32), evm C0 b0 L0 xs0 236 (211, [l0, l1, l2, l3, l4, some (.int x), l6, l7, l8, l9, l10, l11, l12, l13, l14, l15, l16, l17, l18, l19, l20], st) y = evm C0 b0 L0 xs0 236 (213, [l0, l1, l2, l3, l4, some (.int x), l6, l7, l8, l9, l10, l11, l12, l13, l14, l15, l16, l17, l18, l19, l20], .int x :: st) y) ∧
  (∀ (l0 l1 l2 l3 l4 l5 l6 l7 l8 l9 l10 l11 l12 l13 l14 l16 l17 l18 l19 l20 : Option Value) (st : List Value) (y : (gy × gy) × Nat) (x : Int32), evm C0 b0 L0 xs0 236 (213, [l0, l1, l2, l3, l4, l5, l6, l7, l8, l9, l10, l11, l12, l13, l14, some (.int x), l16, l17, l18, l19, l20], st) y = evm C0 b0 L0 xs0 236 (215, [l0, l1, l2, l3, l4, l5, l6, l7, l8, l9, l10, l11, l12, l13, l14, some (.int x), l16, l17, l18, l19, l20], .int x :: st) y) ∧
  (∀ (l0 l1 l2 l3 l4 l5 l6 l7 l8 l9 l10 l11 l12 l13 l14 l15 l17 l18 l19 l20 : Option Value) (st : List Value) (y : (gy × gy) × Nat) (x : Int32), evm C0 b0 L0 xs0 236 (215, [l0, l1, l2, l3, l4, l5, l6, l7, l8, l9, l10, l11, l12, l13, l14, l15, some (.int x), l17, l18, l19, l20], st) y = evm C0 b0 L0 xs0 236 (217, [l0, l1, l2, l3, l4, l5, l6, l7, l8, l9, l10, l11, l12, l13, l14, l15, some (.int x), l17, l18, l19, l20], .int x :: st) y) ∧
  (∀ (L : ri_L) (st : List Value) (y : (gy × gy) × Nat), evm C0 b0 L0 xs0 236 (217, L, st) y = evm C0 b0 L0 xs0 236 (218, L, .int (Int32.ofInt 0) :: st) y) ∧
  (∀ (L : ri_L) (y : (gy × gy) × Nat) (a0 : Nat) (a1 : Int32) (a2 : Int32) (a3 : Int32) (a4 : Int32), evm C0 b0 L0 xs0 236 (218, L, [.int a4, .int a3, .int a2, .int a1, .ref a0]) y = lm_n (calm C0 b0 L0 xs0 328 [.ref a0, .int a1, .int a2, .int a3, .int a4] y) fun v y => evm C0 b0 L0 xs0 236 (221, L, [v]) y) ∧
  (∀ (l0 l1 l2 l3 l4 l5 l6 l7 l8 l9 l10 l11 l12 l13 l14 l15 l16 l17 l18 l19 l20 : Option Value) (st : List Value) (y : (gy × gy) × Nat) (x : Int32), evm C0 b0 L0 xs0 236 (221, [l0, l1, l2, l3, l4, l5, l6, l7, l8, l9, l10, l11, l12, l13, l14, l15, l16, l17, l18, l19, l20], .int x :: st) y = evm C0 b0 L0 xs0 236 (223, [l0, l1, l2, l3, l4, l5, l6, l7, l8, l9, l10, l11, l12, l13, l14, l15, ri_clr l16, some (.int x), l18, l19, l20], st) y) ∧
  (∀ (l1 l2 l3 l4 l5 l6 l7 l8 l9 l10 l11 l12 l13 l14 l15 l16 l17 l18 l19 l20 : Option Value) (st : List Value) (y : (gy × gy) × Nat) (x : Nat), evm C0 b0 L0 xs0 236 (223, [some (.ref x), l1, l2, l3, l4, l5, l6, l7, l8, l9, l10, l11, l12, l13, l14, l15, l16, l17, l18, l19, l20], st) y = evm C0 b0 L0 xs0 236 (224, [some (.ref x), l1, l2, l3, l4, l5, l6, l7, l8, l9, l10, l11, l12, l13, l14, l15, l16, l17, l18, l19, l20], .ref x :: st) y) ∧
  (∀ (L : ri_L) (st : List Value) (y : (gy × gy) × Nat), evm C0 b0 L0 xs0 236 (224, L, st) y = evm C0 b0 L0 xs0 236 (226, L, .int (Int32.ofInt 10) :: st) y) ∧
  (∀ (l0 l1 l2 l3 l4 l6 l7 l8 l9 l10 l11 l12 l13 l14 l15 l16 l17 l18 l19 l20 : Option Value) (st : List Value) (y : (gy × gy) × Nat) (x : Int32), evm C0 b0 L0 xs0 236 (226, [l0, l1, l2, l3, l4, some (.int x), l6, l7, l8, l9, l10, l11, l12, l13, l14, l15, l16, l17, l18, l19, l20], st) y = evm C0 b0 L0 xs0 236 (228, [l0, l1, l2, l3, l4, some (.int x), l6, l7, l8, l9, l10, l11, l12, l13, l14, l15, l16, l17, l18, l19, l20], .int x :: st) y) ∧
  (∀ (l0 l1 l2 l3 l4 l5 l7 l8 l9 l10 l11 l12 l13 l14 l15 l16 l17 l18 l19 l20 : Option Value) (st : List Value) (y : (gy × gy) × Nat) (x : Int32), evm C0 b0 L0 xs0 236 (228, [l0, l1, l2, l3, l4, l5, some (.int x), l7, l8, l9, l10, l11, l12, l13, l14, l15, l16, l17, l18, l19, l20], st) y = evm C0 b0 L0 xs0 236 (230, [l0, l1, l2, l3, l4, l5, some (.int x), l7, l8, l9, l10, l11, l12, l13, l14, l15, l16, l17, l18, l19, l20], .int x :: st) y) ∧
  (∀ (L : ri_L) (st : List Value) (y : (gy × gy) × Nat), evm C0 b0 L0 xs0 236 (230, L, st) y = evm C0 b0 L0 xs0 236 (231, L, .int (Int32.ofInt 0) :: st) y) ∧
  (∀ (L : ri_L) (y : (gy × gy) × Nat) (a0 : Nat) (a1 : Int32) (a2 : Int32) (a3 : Int32) (a4 : Int32), evm C0 b0 L0 xs0 236 (231, L, [.int a4, .int a3, .int a2, .int a1, .ref a0]) y = lm_n (calm C0 b0 L0 xs0 230 [.ref a0, .int a1, .int a2, .int a3, .int a4] y) fun v y => evm C0 b0 L0 xs0 236 (234, L, [v]) y) ∧
  (∀ (l0 l1 l2 l3 l4 l5 l6 l8 l9 l10 l11 l12 l13 l14 l15 l16 l17 l18 l19 l20 : Option Value) (st : List Value) (y : (gy × gy) × Nat) (x : Int32), evm C0 b0 L0 xs0 236 (234, [l0, l1, l2, l3, l4, l5, l6, some (.int x), l8, l9, l10, l11, l12, l13, l14, l15, l16, l17, l18, l19, l20], st) y = evm C0 b0 L0 xs0 236 (236, [l0, l1, l2, l3, l4, l5, l6, some (.int x), l8, l9, l10, l11, l12, l13, l14, l15, l16, l17, l18, l19, l20], .int x :: st) y) ∧
  (∀ (L : ri_L) (st : List Value) (y : (gy × gy) × Nat) (z x : Int32), evm C0 b0 L0 xs0 236 (236, L, .int z :: .int x :: st) y = if ¬ x = z then evm C0 b0 L0 xs0 236 (259, L, st) y else evm C0 b0 L0 xs0 236 (239, L, st) y) ∧
  (∀ (l0 l2 l3 l4 l5 l6 l7 l8 l9 l10 l11 l12 l13 l14 l15 l16 l17 l18 l19 l20 : Option Value) (st : List Value) (y : (gy × gy) × Nat) (x : Nat), evm C0 b0 L0 xs0 236 (239, [l0, some (.ref x), l2, l3, l4, l5, l6, l7, l8, l9, l10, l11, l12, l13, l14, l15, l16, l17, l18, l19, l20], st) y = evm C0 b0 L0 xs0 236 (240, [l0, some (.ref x), l2, l3, l4, l5, l6, l7, l8, l9, l10, l11, l12, l13, l14, l15, l16, l17, l18, l19, l20], .ref x :: st) y) ∧
  (∀ (L : ri_L) (st : List Value) (y : (gy × gy) × Nat), evm C0 b0 L0 xs0 236 (240, L, st) y = evm C0 b0 L0 xs0 236 (242, L, .int (Int32.ofInt 10) :: st) y) ∧
  (∀ (l0 l1 l2 l3 l4 l6 l7 l8 l9 l10 l11 l12 l13 l14 l15 l16 l17 l18 l19 l20 : Option Value) (st : List Value) (y : (gy × gy) × Nat) (x : Int32), evm C0 b0 L0 xs0 236 (242, [l0, l1, l2, l3, l4, some (.int x), l6, l7, l8, l9, l10, l11, l12, l13, l14, l15, l16, l17, l18, l19, l20], st) y = evm C0 b0 L0 xs0 236 (244, [l0, l1, l2, l3, l4, some (.int x), l6, l7, l8, l9, l10, l11, l12, l13, l14, l15, l16, l17, l18, l19, l20], .int x :: st) y) ∧
  (∀ (l0 l1 l2 l3 l4 l5 l7 l8 l9 l10 l11 l12 l13 l14 l15 l16 l17 l18 l19 l20 : Option Value) (st : List Value) (y : (gy × gy) × Nat) (x : Int32), evm C0 b0 L0 xs0 236 (244, [l0, l1, l2, l3, l4, l5, some (.int x), l7, l8, l9, l10, l11, l12, l13, l14, l15, l16, l17, l18, l19, l20], st) y = evm C0 b0 L0 xs0 236 (246, [l0, l1, l2, l3, l4, l5, some (.int x), l7, l8, l9, l10, l11, l12, l13, l14, l15, l16, l17, l18, l19, l20], .int x :: st) y) ∧
  (∀ (L : ri_L) (st : List Value) (y : (gy × gy) × Nat), evm C0 b0 L0 xs0 236 (246, L, st) y = evm C0 b0 L0 xs0 236 (247, L, .int (Int32.ofInt 0) :: st) y) ∧
  (∀ (L : ri_L) (y : (gy × gy) × Nat) (a0 : Nat) (a1 : Int32) (a2 : Int32) (a3 : Int32) (a4 : Int32), evm C0 b0 L0 xs0 236 (247, L, [.int a4, .int a3, .int a2, .int a1, .ref a0]) y = lm_n (calm C0 b0 L0 xs0 230 [.ref a0, .int a1, .int a2, .int a3, .int a4] y) fun v y => evm C0 b0 L0 xs0 236 (250, L, [v]) y) ∧
  (∀ (l0 l1 l2 l3 l4 l5 l6 l8 l9 l10 l11 l12 l13 l14 l15 l16 l17 l18 l19 l20 : Option Value) (st : List Value) (y : (gy × gy) × Nat) (x : Int32), evm C0 b0 L0 xs0 236 (250, [l0, l1, l2, l3, l4, l5, l6, some (.int x), l8, l9, l10, l11, l12, l13, l14, l15, l16, l17, l18, l19, l20], st) y = evm C0 b0 L0 xs0 236 (252, [l0, l1, l2, l3, l4, l5, l6, some (.int x), l8, l9, l10, l11, l12, l13, l14, l15, l16, l17, l18, l19, l20], .int x :: st) y) ∧
  (∀ (L : ri_L) (st : List Value) (y : (gy × gy) × Nat) (z x : Int32), evm C0 b0 L0 xs0 236 (252, L, .int z :: .int x :: st) y = if ¬ x = z then evm C0 b0 L0 xs0 236 (259, L, st) y else evm C0 b0 L0 xs0 236 (255, L, st) y) ∧
  (∀ (L : ri_L) (st : List Value) (y : (gy × gy) × Nat), evm C0 b0 L0 xs0 236 (255, L, st) y = evm C0 b0 L0 xs0 236 (256, L, .int (Int32.ofInt 1) :: st) y) ∧
  (∀ (L : ri_L) (st : List Value) (y : (gy × gy) × Nat), evm C0 b0 L0 xs0 236 (256, L, st) y = evm C0 b0 L0 xs0 236 (260, L, st) y) ∧
  (∀ (L : ri_L) (st : List Value) (y : (gy × gy) × Nat), evm C0 b0 L0 xs0 236 (259, L, st) y = evm C0 b0 L0 xs0 236 (260, L, .int (Int32.ofInt 0) :: st) y) ∧
  (∀ (l0 l1 l2 l3 l4 l5 l6 l7 l8 l9 l10 l11 l12 l13 l14 l15 l16 l17 l18 l19 l20 : Option Value) (st : List Value) (y : (gy × gy) × Nat) (x : Int32), evm C0 b0 L0 xs0 236 (260, [l0, l1, l2, l3, l4, l5, l6, l7, l8, l9, l10, l11, l12, l13, l14, l15, l16, l17, l18, l19, l20], .int x :: st) y = evm C0 b0 L0 xs0 236 (262, [l0, l1, l2, l3, l4, l5, l6, l7, l8, l9, l10, l11, l12, l13, l14, l15, l16, ri_clr l17, some (.int x), l19, l20], st) y) ∧
  (∀ (l0 l1 l2 l3 l4 l5 l6 l8 l9 l10 l11 l12 l13 l14 l15 l16 l17 l18 l19 l20 : Option Value) (st : List Value) (y : (gy × gy) × Nat) (x : Int32), evm C0 b0 L0 xs0 236 (262, [l0, l1, l2, l3, l4, l5, l6, some (.int x), l8, l9, l10, l11, l12, l13, l14, l15, l16, l17, l18, l19, l20], st) y = evm C0 b0 L0 xs0 236 (264, [l0, l1, l2, l3, l4, l5, l6, some (.int x), l8, l9, l10, l11, l12, l13, l14, l15, l16, l17, l18, l19, l20], .int x :: st) y) :=
  ⟨fun L st y => em_p rfl rfl,
   fun L y a0 a1 a2 a3 a4 => em_call rfl rfl rfl rfl rfl,
   fun l0 l1 l2 l3 l4 l5 l6 l7 l8 l9 l10 l11 l12 l13 l14 l15 l16 l17 l18 l19 l20 st y x => em_p rfl rfl,
   fun l1 l2 l3 l4 l5 l6 l7 l8 l9 l10 l11 l12 l13 l14 l15 l16 l17 l18 l19 l20 st y x => em_p rfl rfl,
   fun L st y => em_p rfl rfl,
   fun l0 l1 l2 l3 l4 l5 l7 l8 l9 l10 l11 l12 l13 l14 l15 l16 l17 l18 l19 l20 st y x => em_p rfl rfl,
   fun l0 l1 l2 l3 l4 l5 l6 l7 l8 l9 l10 l11 l12 l13 l15 l16 l17 l18 l19 l20 st y x => em_p rfl rfl,
   fun L st y => em_p rfl rfl,
   fun L st y z x => em_p rfl rfl,
   fun L st y => em_p rfl rfl,
   fun L y a0 a1 a2 a3 a4 => em_call rfl rfl rfl rfl rfl,
   fun l0 l1 l2 l3 l4 l5 l6 l7 l8 l9 l10 l11 l12 l13 l14 l15 l16 l17 l18 l19 l20 st y x => em_p rfl rfl,
   fun l1 l2 l3 l4 l5 l6 l7 l8 l9 l10 l11 l12 l13 l14 l15 l16 l17 l18 l19 l20 st y x => em_p rfl rfl,
   fun l0 l1 l2 l3 l4 l6 l7 l8 l9 l10 l11 l12 l13 l14 l15 l16 l17 l18 l19 l20 st y x => em_p rfl rfl,
   fun l0 l1 l2 l3 l4 l5 l6 l7 l8 l9 l10 l11 l12 l13 l14 l16 l17 l18 l19 l20 st y x => em_p rfl rfl,
   fun l0 l1 l2 l3 l4 l5 l6 l7 l8 l9 l10 l11 l12 l13 l14 l15 l17 l18 l19 l20 st y x => em_p rfl rfl,
   fun L st y => em_p rfl rfl,
   fun L y a0 a1 a2 a3 a4 => em_call rfl rfl rfl rfl rfl,
   fun l0 l1 l2 l3 l4 l5 l6 l7 l8 l9 l10 l11 l12 l13 l14 l15 l16 l17 l18 l19 l20 st y x => em_p rfl rfl,
   fun l1 l2 l3 l4 l5 l6 l7 l8 l9 l10 l11 l12 l13 l14 l15 l16 l17 l18 l19 l20 st y x => em_p rfl rfl,
   fun L st y => em_p rfl rfl,
   fun l0 l1 l2 l3 l4 l6 l7 l8 l9 l10 l11 l12 l13 l14 l15 l16 l17 l18 l19 l20 st y x => em_p rfl rfl,
   fun l0 l1 l2 l3 l4 l5 l7 l8 l9 l10 l11 l12 l13 l14 l15 l16 l17 l18 l19 l20 st y x => em_p rfl rfl,
   fun L st y => em_p rfl rfl,
   fun L y a0 a1 a2 a3 a4 => em_call rfl rfl rfl rfl rfl,
   fun l0 l1 l2 l3 l4 l5 l6 l8 l9 l10 l11 l12 l13 l14 l15 l16 l17 l18 l19 l20 st y x => em_p rfl rfl,
   fun L st y z x => em_b rfl rfl,
   fun l0 l2 l3 l4 l5 l6 l7 l8 l9 l10 l11 l12 l13 l14 l15 l16 l17 l18 l19 l20 st y x => em_p rfl rfl,
   fun L st y => em_p rfl rfl,
   fun l0 l1 l2 l3 l4 l6 l7 l8 l9 l10 l11 l12 l13 l14 l15 l16 l17 l18 l19 l20 st y x => em_p rfl rfl,
   fun l0 l1 l2 l3 l4 l5 l7 l8 l9 l10 l11 l12 l13 l14 l15 l16 l17 l18 l19 l20 st y x => em_p rfl rfl,
   fun L st y => em_p rfl rfl,
   fun L y a0 a1 a2 a3 a4 => em_call rfl rfl rfl rfl rfl,
   fun l0 l1 l2 l3 l4 l5 l6 l8 l9 l10 l11 l12 l13 l14 l15 l16 l17 l18 l19 l20 st y x => em_p rfl rfl,
   fun L st y z x => em_b rfl rfl,
   fun L st y => em_p rfl rfl,
   fun L st y => em_p rfl rfl,
   fun L st y => em_p rfl rfl,
   fun l0 l1 l2 l3 l4 l5 l6 l7 l8 l9 l10 l11 l12 l13 l14 l15 l16 l17 l18 l19 l20 st y x => em_p rfl rfl,
   fun l0 l1 l2 l3 l4 l5 l6 l8 l9 l10 l11 l12 l13 l14 l15 l16 l17 l18 l19 l20 st y x => em_p rfl rfl⟩
set_option maxRecDepth 8000 in
theorem L_236_4 :
  (∀ (L : ri_L) (st : List Value) (y : (gy × gy) × Nat) (x : Int32), evm C0 b0 L0 xs0 236 (264, L, .int x :: st) y = if ¬ x = 0 then evm C0 b0 L0 xs0 236 (456, L, st) y else evm C0 b0 L0 xs0 236 (267, L, st) y) ∧
  (∀ (l1 l2 l3 l4 l5 l6 l7 l8 l9 l10 l11 l12 l13 l14 l15 l16 l17 l18 l19 l20 : Option Value) (st : List Value) (y : (gy × gy) × Nat) (x : Nat), evm C0 b0 L0 xs0 236 (267, [some (.ref x), l1, l2, l3, l4, l5, l6, l7, l8, l9, l10, l11, l12, l13, l14, l15, l16, l17, l18, l19, l20], st) y = evm C0 b0 L0 xs0 236 (268, [some (.ref x), l1, l2, l3, l4, l5, l6, l7, l8, l9, l10, l11, l12, l13, l14, l15, l16, l17, l18, l19, l20], .ref x :: st) y) ∧
  (∀ (L : ri_L) (st : List Value) (y : (gy × gy) × Nat), evm C0 b0 L0 xs0 236 (268, L, st) y = evm C0 b0 L0 xs0 236 (269, L, .int (Int32.ofInt 3) :: st) y) ∧
  (∀ (l0 l1 l2 l3 l4 l5 l6 l7 l8 l9 l11 l12 l13 l14 l15 l16 l17 l18 l19 l20 : Option Value) (st : List Value) (y : (gy × gy) × Nat) (x : Int32), evm C0 b0 L0 xs0 236 (269, [l0, l1, l2, l3, l4, l5, l6, l7, l8, l9, some (.int x), l11, l12, l13, l14, l15, l16, l17, l18, l19, l20], st) y = evm C0 b0 L0 xs0 236 (271, [l0, l1, l2, l3, l4, l5, l6, l7, l8, l9, some (.int x), l11, l12, l13, l14, l15, l16, l17, l18, l19, l20], .int x :: st) y) ∧
  (∀ (L : ri_L) (st : List Value) (y : (gy × gy) × Nat), evm C0 b0 L0 xs0 236 (271, L, st) y = evm C0 b0 L0 xs0 236 (272, L, .int (Int32.ofInt 0) :: st) y) ∧
  (∀ (L : ri_L) (st : List Value) (y : (gy × gy) × Nat), evm C0 b0 L0 xs0 236 (272, L, st) y = evm C0 b0 L0 xs0 236 (273, L, .int (Int32.ofInt 0) :: st) y) ∧
  (∀ (L : ri_L) (y : (gy × gy) × Nat) (a0 : Nat) (a1 : Int32) (a2 : Int32) (a3 : Int32) (a4 : Int32), evm C0 b0 L0 xs0 236 (273, L, [.int a4, .int a3, .int a2, .int a1, .ref a0]) y = lm_n (calm C0 b0 L0 xs0 230 [.ref a0, .int a1, .int a2, .int a3, .int a4] y) fun v y => evm C0 b0 L0 xs0 236 (276, L, [v]) y) ∧
  (∀ (l0 l1 l2 l3 l4 l5 l6 l7 l8 l9 l10 l11 l12 l13 l14 l15 l16 l17 l18 l19 l20 : Option Value) (st : List Value) (y : (gy × gy) × Nat) (x : Int32), evm C0 b0 L0 xs0 236 (276, [l0, l1, l2, l3, l4, l5, l6, l7, l8, l9, l10, l11, l12, l13, l14, l15, l16, l17, l18, l19, l20], .int x :: st) y = evm C0 b0 L0 xs0 236 (278, [l0, l1, l2, l3, l4, l5, l6, l7, l8, l9, l10, l11, l12, l13, l14, l15, l16, l17, ri_clr l18, some (.int x), l20], st) y) ∧
  (∀ (l0 l1 l2 l3 l4 l5 l6 l7 l8 l9 l10 l11 l12 l14 l15 l16 l17 l18 l19 l20 : Option Value) (st : List Value) (y : (gy × gy) × Nat) (x : Int32), evm C0 b0 L0 xs0 236 (278, [l0, l1, l2, l3, l4, l5, l6, l7, l8, l9, l10, l11, l12, some (.int x), l14, l15, l16, l17, l18, l19, l20], st) y = evm C0 b0 L0 xs0 236 (280, [l0, l1, l2, l3, l4, l5, l6, l7, l8, l9, l10, l11, l12, some (.int x), l14, l15, l16, l17, l18, l19, l20], .int x :: st) y) ∧
  (∀ (l1 l2 l3 l4 l5 l6 l7 l8 l9 l10 l11 l12 l13 l14 l15 l16 l17 l18 l19 l20 : Option Value) (st : List Value) (y : (gy × gy) × Nat) (x : Nat), evm C0 b0 L0 xs0 236 (280, [some (.ref x), l1, l2, l3, l4, l5, l6, l7, l8, l9, l10, l11, l12, l13, l14, l15, l16, l17, l18, l19, l20], st) y = evm C0 b0 L0 xs0 236 (281, [some (.ref x), l1, l2, l3, l4, l5, l6, l7, l8, l9, l10, l11, l12, l13, l14, l15, l16, l17, l18, l19, l20], .ref x :: st) y) ∧
  (∀ (L : ri_L) (st : List Value) (y : (gy × gy) × Nat), evm C0 b0 L0 xs0 236 (281, L, st) y = evm C0 b0 L0 xs0 236 (282, L, .int (Int32.ofInt 3) :: st) y) ∧
  (∀ (l0 l1 l2 l3 l4 l5 l6 l7 l8 l9 l11 l12 l13 l14 l15 l16 l17 l18 l19 l20 : Option Value) (st : List Value) (y : (gy × gy) × Nat) (x : Int32), evm C0 b0 L0 xs0 236 (282, [l0, l1, l2, l3, l4, l5, l6, l7, l8, l9, some (.int x), l11, l12, l13, l14, l15, l16, l17, l18, l19, l20], st) y = evm C0 b0 L0 xs0 236 (284, [l0, l1, l2, l3, l4, l5, l6, l7, l8, l9, some (.int x), l11, l12, l13, l14, l15, l16, l17, l18, l19, l20], .int x :: st) y) ∧
  (∀ (L : ri_L) (st : List Value) (y : (gy × gy) × Nat), evm C0 b0 L0 xs0 236 (284, L, st) y = evm C0 b0 L0 xs0 236 (285, L, .int (Int32.ofInt 2) :: st) y) ∧
  (∀ (L : ri_L) (st : List Value) (y : (gy × gy) × Nat), evm C0 b0 L0 xs0 236 (285, L, st) y = evm C0 b0 L0 xs0 236 (286, L, .int (Int32.ofInt 0) :: st) y) ∧
  (∀ (L : ri_L) (y : (gy × gy) × Nat) (a0 : Nat) (a1 : Int32) (a2 : Int32) (a3 : Int32) (a4 : Int32) (s0 : Value), evm C0 b0 L0 xs0 236 (286, L, [.int a4, .int a3, .int a2, .int a1, .ref a0, s0]) y = lm_n (calm C0 b0 L0 xs0 230 [.ref a0, .int a1, .int a2, .int a3, .int a4] y) fun v y => evm C0 b0 L0 xs0 236 (289, L, [v, s0]) y) ∧
  (∀ (L : ri_L) (st : List Value) (y : (gy × gy) × Nat) (z x : Int32), evm C0 b0 L0 xs0 236 (289, L, .int z :: .int x :: st) y = if z < x then evm C0 b0 L0 xs0 236 (313, L, st) y else evm C0 b0 L0 xs0 236 (292, L, st) y) ∧
  (∀ (l0 l1 l2 l3 l4 l5 l6 l7 l8 l9 l10 l11 l13 l14 l15 l16 l17 l18 l19 l20 : Option Value) (st : List Value) (y : (gy × gy) × Nat) (x : Int32), evm C0 b0 L0 xs0 236 (292, [l0, l1, l2, l3, l4, l5, l6, l7, l8, l9, l10, l11, some (.int x), l13, l14, l15, l16, l17, l18, l19, l20], st) y = evm C0 b0 L0 xs0 236 (294, [l0, l1, l2, l3, l4, l5, l6, l7, l8, l9, l10, l11, some (.int x), l13, l14, l15, l16, l17, l18, l19, l20], .int x :: st) y) ∧
  (∀ (l1 l2 l3 l4 l5 l6 l7 l8 l9 l10 l11 l12 l13 l14 l15 l16 l17 l18 l19 l20 : Option Value) (st : List Value) (y : (gy × gy) × Nat) (x : Nat), evm C0 b0 L0 xs0 236 (294, [some (.ref x), l1, l2, l3, l4, l5, l6, l7, l8, l9, l10, l11, l12, l13, l14, l15, l16, l17, l18, l19, l20], st) y = evm C0 b0 L0 xs0 236 (295, [some (.ref x), l1, l2, l3, l4, l5, l6, l7, l8, l9, l10, l11, l12, l13, l14, l15, l16, l17, l18, l19, l20], .ref x :: st) y) ∧
  (∀ (L : ri_L) (st : List Value) (y : (gy × gy) × Nat), evm C0 b0 L0 xs0 236 (295, L, st) y = evm C0 b0 L0 xs0 236 (296, L, .int (Int32.ofInt 3) :: st) y) ∧
  (∀ (l0 l1 l2 l3 l4 l5 l6 l7 l8 l9 l11 l12 l13 l14 l15 l16 l17 l18 l19 l20 : Option Value) (st : List Value) (y : (gy × gy) × Nat) (x : Int32), evm C0 b0 L0 xs0 236 (296, [l0, l1, l2, l3, l4, l5, l6, l7, l8, l9, some (.int x), l11, l12, l13, l14, l15, l16, l17, l18, l19, l20], st) y = evm C0 b0 L0 xs0 236 (298, [l0, l1, l2, l3, l4, l5, l6, l7, l8, l9, some (.int x), l11, l12, l13, l14, l15, l16, l17, l18, l19, l20], .int x :: st) y) ∧
  (∀ (L : ri_L) (st : List Value) (y : (gy × gy) × Nat), evm C0 b0 L0 xs0 236 (298, L, st) y = evm C0 b0 L0 xs0 236 (299, L, .int (Int32.ofInt 1) :: st) y) ∧
  (∀ (L : ri_L) (st : List Value) (y : (gy × gy) × Nat), evm C0 b0 L0 xs0 236 (299, L, st) y = evm C0 b0 L0 xs0 236 (300, L, .int (Int32.ofInt 0) :: st) y) ∧
  (∀ (L : ri_L) (y : (gy × gy) × Nat) (a0 : Nat) (a1 : Int32) (a2 : Int32) (a3 : Int32) (a4 : Int32) (s0 : Value), evm C0 b0 L0 xs0 236 (300, L, [.int a4, .int a3, .int a2, .int a1, .ref a0, s0]) y = lm_n (calm C0 b0 L0 xs0 230 [.ref a0, .int a1, .int a2, .int a3, .int a4] y) fun v y => evm C0 b0 L0 xs0 236 (303, L, [v, s0]) y) ∧
  (∀ (L : ri_L) (st : List Value) (y : (gy × gy) × Nat) (z x : Int32), evm C0 b0 L0 xs0 236 (303, L, .int z :: .int x :: st) y = evm C0 b0 L0 xs0 236 (304, L, .int (x + z) :: st) y) ∧
  (∀ (l0 l1 l2 l3 l4 l5 l6 l7 l8 l9 l10 l11 l12 l13 l14 l15 l16 l17 l18 l20 : Option Value) (st : List Value) (y : (gy × gy) × Nat) (x : Int32), evm C0 b0 L0 xs0 236 (304, [l0, l1, l2, l3, l4, l5, l6, l7, l8, l9, l10, l11, l12, l13, l14, l15, l16, l17, l18, some (.int x), l20], st) y = evm C0 b0 L0 xs0 236 (306, [l0, l1, l2, l3, l4, l5, l6, l7, l8, l9, l10, l11, l12, l13, l14, l15, l16, l17, l18, some (.int x), l20], .int x :: st) y) ∧
  (∀ (L : ri_L) (st : List Value) (y : (gy × gy) × Nat) (z x : Int32), evm C0 b0 L0 xs0 236 (306, L, .int z :: .int x :: st) y = evm C0 b0 L0 xs0 236 (307, L, .int (x + z) :: st) y) ∧
  (∀ (l0 l1 l2 l3 l4 l5 l6 l7 l8 l9 l10 l11 l12 l13 l14 l15 l16 l17 l18 l20 : Option Value) (st : List Value) (y : (gy × gy) × Nat) (x : Int32), evm C0 b0 L0 xs0 236 (307, [l0, l1, l2, l3, l4, l5, l6, l7, l8, l9, l10, l11, l12, l13, l14, l15, l16, l17, l18, some (.int x), l20], st) y = evm C0 b0 L0 xs0 236 (309, [l0, l1, l2, l3, l4, l5, l6, l7, l8, l9, l10, l11, l12, l13, l14, l15, l16, l17, l18, some (.int x), l20], .int x :: st) y) ∧
  (∀ (L : ri_L) (st : List Value) (y : (gy × gy) × Nat) (z x : Int32), evm C0 b0 L0 xs0 236 (309, L, .int z :: .int x :: st) y = if z = 0 then none else evm C0 b0 L0 xs0 236 (310, L, .int (x - x / z * z) :: st) y) ∧
  (∀ (L : ri_L) (st : List Value) (y : (gy × gy) × Nat), evm C0 b0 L0 xs0 236 (310, L, st) y = evm C0 b0 L0 xs0 236 (315, L, st) y) ∧
  (∀ (l0 l1 l2 l3 l4 l5 l6 l7 l8 l9 l10 l11 l13 l14 l15 l16 l17 l18 l19 l20 : Option Value) (st : List Value) (y : (gy × gy) × Nat) (x : Int32), evm C0 b0 L0 xs0 236 (313, [l0, l1, l2, l3, l4, l5, l6, l7, l8, l9, l10, l11, some (.int x), l13, l14, l15, l16, l17, l18, l19, l20], st) y = evm C0 b0 L0 xs0 236 (315, [l0, l1, l2, l3, l4, l5, l6, l7, l8, l9, l10, l11, some (.int x), l13, l14, l15, l16, l17, l18, l19, l20], .int x :: st) y) ∧
  (∀ (l0 l1 l2 l3 l4 l5 l6 l7 l8 l9 l10 l11 l12 l13 l14 l15 l16 l17 l18 l19 l20 : Option Value) (st : List Value) (y : (gy × gy) × Nat) (x : Int32), evm C0 b0 L0 xs0 236 (315, [l0, l1, l2, l3, l4, l5, l6, l7, l8, l9, l10, l11, l12, l13, l14, l15, l16, l17, l18, l19, l20], .int x :: st) y = evm C0 b0 L0 xs0 236 (317, [l0, l1, l2, l3, l4, l5, l6, l7, l8, l9, l10, l11, l12, l13, l14, l15, l16, l17, l18, ri_clr l19, some (.int x)], st) y) ∧
  (∀ (l0 l1 l2 l3 l4 l5 l6 l7 l8 l9 l10 l11 l12 l13 l14 l15 l16 l17 l18 l19 : Option Value) (st : List Value) (y : (gy × gy) × Nat) (x : Int32), evm C0 b0 L0 xs0 236 (317, [l0, l1, l2, l3, l4, l5, l6, l7, l8, l9, l10, l11, l12, l13, l14, l15, l16, l17, l18, l19, some (.int x)], st) y = evm C0 b0 L0 xs0 236 (319, [l0, l1, l2, l3, l4, l5, l6, l7, l8, l9, l10, l11, l12, l13, l14, l15, l16, l17, l18, l19, some (.int x)], .int x :: st) y) ∧
  (∀ (L : ri_L) (st : List Value) (y : (gy × gy) × Nat) (x : Int32), evm C0 b0 L0 xs0 236 (319, L, .int x :: st) y = if 0 ≤ x then evm C0 b0 L0 xs0 236 (330, L, st) y else evm C0 b0 L0 xs0 236 (322, L, st) y) ∧
  (∀ (l0 l1 l2 l3 l4 l5 l6 l7 l8 l9 l10 l11 l12 l13 l14 l15 l16 l17 l18 l19 : Option Value) (st : List Value) (y : (gy × gy) × Nat) (x : Int32), evm C0 b0 L0 xs0 236 (322, [l0, l1, l2, l3, l4, l5, l6, l7, l8, l9, l10, l11, l12, l13, l14, l15, l16, l17, l18, l19, some (.int x)], st) y = evm C0 b0 L0 xs0 236 (324, [l0, l1, l2, l3, l4, l5, l6, l7, l8, l9, l10, l11, l12, l13, l14, l15, l16, l17, l18, l19, some (.int x)], .int x :: st) y) ∧
  (∀ (l0 l1 l2 l3 l4 l5 l6 l7 l8 l9 l10 l11 l12 l13 l14 l15 l16 l17 l18 l20 : Option Value) (st : List Value) (y : (gy × gy) × Nat) (x : Int32), evm C0 b0 L0 xs0 236 (324, [l0, l1, l2, l3, l4, l5, l6, l7, l8, l9, l10, l11, l12, l13, l14, l15, l16, l17, l18, some (.int x), l20], st) y = evm C0 b0 L0 xs0 236 (326, [l0, l1, l2, l3, l4, l5, l6, l7, l8, l9, l10, l11, l12, l13, l14, l15, l16, l17, l18, some (.int x), l20], .int x :: st) y) ∧
  (∀ (L : ri_L) (st : List Value) (y : (gy × gy) × Nat) (z x : Int32), evm C0 b0 L0 xs0 236 (326, L, .int z :: .int x :: st) y = evm C0 b0 L0 xs0 236 (327, L, .int (x + z) :: st) y) ∧
  (∀ (L : ri_L) (st : List Value) (y : (gy × gy) × Nat), evm C0 b0 L0 xs0 236 (327, L, st) y = evm C0 b0 L0 xs0 236 (332, L, st) y) ∧
  (∀ (l0 l1 l2 l3 l4 l5 l6 l7 l8 l9 l10 l11 l12 l13 l14 l15 l16 l17 l18 l19 : Option Value) (st : List Value) (y : (gy × gy) × Nat) (x : Int32), evm C0 b0 L0 xs0 236 (330, [l0, l1, l2, l3, l4, l5, l6, l7, l8, l9, l10, l11, l12, l13, l14, l15, l16, l17, l18, l19, some (.int x)], st) y = evm C0 b0 L0 xs0 236 (332, [l0, l1, l2, l3, l4, l5, l6, l7, l8, l9, l10, l11, l12, l13, l14, l15, l16, l17, l18, l19, some (.int x)], .int x :: st) y) ∧
  (∀ (l0 l1 l2 l3 l4 l5 l6 l7 l8 l9 l10 l11 l12 l13 l14 l15 l16 l17 l18 l19 l20 : Option Value) (st : List Value) (y : (gy × gy) × Nat) (x : Int32), evm C0 b0 L0 xs0 236 (332, [l0, l1, l2, l3, l4, l5, l6, l7, l8, l9, l10, l11, l12, l13, l14, l15, l16, l17, l18, l19, l20], .int x :: st) y = evm C0 b0 L0 xs0 236 (334, [l0, l1, l2, l3, l4, l5, l6, l7, l8, l9, l10, l11, l12, l13, l14, l15, l16, l17, l18, ri_clr l19, some (.int x)], st) y) ∧
  (∀ (l0 l1 l2 l3 l4 l5 l6 l7 l8 l9 l10 l11 l12 l13 l14 l15 l16 l17 l19 l20 : Option Value) (st : List Value) (y : (gy × gy) × Nat) (x : Int32), evm C0 b0 L0 xs0 236 (334, [l0, l1, l2, l3, l4, l5, l6, l7, l8, l9, l10, l11, l12, l13, l14, l15, l16, l17, some (.int x), l19, l20], st) y = evm C0 b0 L0 xs0 236 (336, [l0, l1, l2, l3, l4, l5, l6, l7, l8, l9, l10, l11, l12, l13, l14, l15, l16, l17, some (.int x), l19, l20], .int x :: st) y) :=
  ⟨fun L st y x => em_b rfl rfl,
   fun l1 l2 l3 l4 l5 l6 l7 l8 l9 l10 l11 l12 l13 l14 l15 l16 l17 l18 l19 l20 st y x => em_p rfl rfl,
   fun L st y => em_p rfl rfl,
   fun l0 l1 l2 l3 l4 l5 l6 l7 l8 l9 l11 l12 l13 l14 l15 l16 l17 l18 l19 l20 st y x => em_p rfl rfl,
   fun L st y => em_p rfl rfl,
   fun L st y => em_p rfl rfl,
   fun L y a0 a1 a2 a3 a4 => em_call rfl rfl rfl rfl rfl,
   fun l0 l1 l2 l3 l4 l5 l6 l7 l8 l9 l10 l11 l12 l13 l14 l15 l16 l17 l18 l19 l20 st y x => em_p rfl rfl,
   fun l0 l1 l2 l3 l4 l5 l6 l7 l8 l9 l10 l11 l12 l14 l15 l16 l17 l18 l19 l20 st y x => em_p rfl rfl,
   fun l1 l2 l3 l4 l5 l6 l7 l8 l9 l10 l11 l12 l13 l14 l15 l16 l17 l18 l19 l20 st y x => em_p rfl rfl,
   fun L st y => em_p rfl rfl,
   fun l0 l1 l2 l3 l4 l5 l6 l7 l8 l9 l11 l12 l13 l14 l15 l16 l17 l18 l19 l20 st y x => em_p rfl rfl,
   fun L st y => em_p rfl rfl,
   fun L st y => em_p rfl rfl,
   fun L y a0 a1 a2 a3 a4 s0 => em_call rfl rfl rfl rfl rfl,
   fun L st y z x => em_b rfl rfl,
   fun l0 l1 l2 l3 l4 l5 l6 l7 l8 l9 l10 l11 l13 l14 l15 l16 l17 l18 l19 l20 st y x => em_p rfl rfl,
   fun l1 l2 l3 l4 l5 l6 l7 l8 l9 l10 l11 l12 l13 l14 l15 l16 l17 l18 l19 l20 st y x => em_p rfl rfl,
   fun L st y => em_p rfl rfl,
   fun l0 l1 l2 l3 l4 l5 l6 l7 l8 l9 l11 l12 l13 l14 l15 l16 l17 l18 l19 l20 st y x => em_p rfl rfl,
   fun L st y => em_p rfl rfl,
   fun L st y => em_p rfl rfl,
   fun L y a0 a1 a2 a3 a4 s0 => em_call rfl rfl rfl rfl rfl,
   fun L st y z x => em_p rfl rfl,
   fun l0 l1 l2 l3 l4 l5 l6 l7 l8 l9 l10 l11 l12 l13 l14 l15 l16 l17 l18 l20 st y x => em_p rfl rfl,
   fun L st y z x => em_p rfl rfl,
   fun l0 l1 l2 l3 l4 l5 l6 l7 l8 l9 l10 l11 l12 l13 l14 l15 l16 l17 l18 l20 st y x => em_p rfl rfl,
   fun L st y z x => em_d rfl rfl,
   fun L st y => em_p rfl rfl,
   fun l0 l1 l2 l3 l4 l5 l6 l7 l8 l9 l10 l11 l13 l14 l15 l16 l17 l18 l19 l20 st y x => em_p rfl rfl,
   fun l0 l1 l2 l3 l4 l5 l6 l7 l8 l9 l10 l11 l12 l13 l14 l15 l16 l17 l18 l19 l20 st y x => em_p rfl rfl,
   fun l0 l1 l2 l3 l4 l5 l6 l7 l8 l9 l10 l11 l12 l13 l14 l15 l16 l17 l18 l19 st y x => em_p rfl rfl,
   fun L st y x => em_b rfl rfl,
   fun l0 l1 l2 l3 l4 l5 l6 l7 l8 l9 l10 l11 l12 l13 l14 l15 l16 l17 l18 l19 st y x => em_p rfl rfl,
   fun l0 l1 l2 l3 l4 l5 l6 l7 l8 l9 l10 l11 l12 l13 l14 l15 l16 l17 l18 l20 st y x => em_p rfl rfl,
   fun L st y z x => em_p rfl rfl,
   fun L st y => em_p rfl rfl,
   fun l0 l1 l2 l3 l4 l5 l6 l7 l8 l9 l10 l11 l12 l13 l14 l15 l16 l17 l18 l19 st y x => em_p rfl rfl,
   fun l0 l1 l2 l3 l4 l5 l6 l7 l8 l9 l10 l11 l12 l13 l14 l15 l16 l17 l18 l19 l20 st y x => em_p rfl rfl,
   fun l0 l1 l2 l3 l4 l5 l6 l7 l8 l9 l10 l11 l12 l13 l14 l15 l16 l17 l19 l20 st y x => em_p rfl rfl⟩
set_option maxRecDepth 8000 in
theorem L_236_5 :
  (∀ (L : ri_L) (st : List Value) (y : (gy × gy) × Nat) (x : Int32), evm C0 b0 L0 xs0 236 (336, L, .int x :: st) y = if x = 0 then evm C0 b0 L0 xs0 236 (450, L, st) y else evm C0 b0 L0 xs0 236 (339, L, st) y) ∧
  (∀ (l0 l1 l2 l3 l4 l5 l6 l7 l8 l9 l10 l11 l12 l13 l14 l15 l16 l18 l19 l20 : Option Value) (st : List Value) (y : (gy × gy) × Nat) (x : Int32), evm C0 b0 L0 xs0 236 (339, [l0, l1, l2, l3, l4, l5, l6, l7, l8, l9, l10, l11, l12, l13, l14, l15, l16, some (.int x), l18, l19, l20], st) y = evm C0 b0 L0 xs0 236 (341, [l0, l1, l2, l3, l4, l5, l6, l7, l8, l9, l10, l11, l12, l13, l14, l15, l16, some (.int x), l18, l19, l20], .int x :: st) y) ∧
  (∀ (L : ri_L) (st : List Value) (y : (gy × gy) × Nat), evm C0 b0 L0 xs0 236 (341, L, st) y = evm C0 b0 L0 xs0 236 (342, L, .int (Int32.ofInt 1) :: st) y) ∧
  (∀ (L : ri_L) (st : List Value) (y : (gy × gy) × Nat) (z x : Int32), evm C0 b0 L0 xs0 236 (342, L, .int z :: .int x :: st) y = if ¬ x = z then evm C0 b0 L0 xs0 236 (450, L, st) y else evm C0 b0 L0 xs0 236 (345, L, st) y) ∧
  (∀ (l1 l2 l3 l4 l5 l6 l7 l8 l9 l10 l11 l12 l13 l14 l15 l16 l17 l18 l19 l20 : Option Value) (st : List Value) (y : (gy × gy) × Nat) (x : Nat), evm C0 b0 L0 xs0 236 (345, [some (.ref x), l1, l2, l3, l4, l5, l6, l7, l8, l9, l10, l11, l12, l13, l14, l15, l16, l17, l18, l19, l20], st) y = evm C0 b0 L0 xs0 236 (346, [some (.ref x), l1, l2, l3, l4, l5, l6, l7, l8, l9, l10, l11, l12, l13, l14, l15, l16, l17, l18, l19, l20], .ref x :: st) y) ∧
  (∀ (L : ri_L) (st : List Value) (y : (gy × gy) × Nat), evm C0 b0 L0 xs0 236 (346, L, st) y = evm C0 b0 L0 xs0 236 (347, L, .int (Int32.ofInt 4) :: st) y) ∧
  (∀ (l0 l1 l2 l3 l4 l6 l7 l8 l9 l10 l11 l12 l13 l14 l15 l16 l17 l18 l19 l20 : Option Value) (st : List Value) (y : (gy × gy) × Nat) (x : Int32), evm C0 b0 L0 xs0 236 (347, [l0, l1, l2, l3, l4, some (.int x), l6, l7, l8, l9, l10, l11, l12, l13, l14, l15, l16, l17, l18, l19, l20], st) y = evm C0 b0 L0 xs0 236 (349, [l0, l1, l2, l3, l4, some (.int x), l6, l7, l8, l9, l10, l11, l12, l13, l14, l15, l16, l17, l18, l19, l20], .int x :: st) y) ∧
  (∀ (L : ri_L) (st : List Value) (y : (gy × gy) × Nat), evm C0 b0 L0 xs0 236 (349, L, st) y = evm C0 b0 L0 xs0 236 (350, L, .int (Int32.ofInt 1) :: st) y) ∧
  (∀ (L : ri_L) (st : List Value) (y : (gy × gy) × Nat), evm C0 b0 L0 xs0 236 (350, L, st) y = evm C0 b0 L0 xs0 236 (351, L, .int (Int32.ofInt 0) :: st) y) ∧
  (∀ (L : ri_L) (y : (gy × gy) × Nat) (a0 : Nat) (a1 : Int32) (a2 : Int32) (a3 : Int32) (a4 : Int32), evm C0 b0 L0 xs0 236 (351, L, [.int a4, .int a3, .int a2, .int a1, .ref a0]) y = lm_n (calm C0 b0 L0 xs0 230 [.ref a0, .int a1, .int a2, .int a3, .int a4] y) fun v y => evm C0 b0 L0 xs0 236 (354, L, [v]) y) ∧
  (∀ (l0 l1 l2 l3 l4 l5 l6 l7 l8 l9 l10 l11 l12 l13 l14 l16 l17 l18 l19 l20 : Option Value) (st : List Value) (y : (gy × gy) × Nat) (x : Int32), evm C0 b0 L0 xs0 236 (354, [l0, l1, l2, l3, l4, l5, l6, l7, l8, l9, l10, l11, l12, l13, l14, some (.int x), l16, l17, l18, l19, l20], st) y = evm C0 b0 L0 xs0 236 (356, [l0, l1, l2, l3, l4, l5, l6, l7, l8, l9, l10, l11, l12, l13, l14, some (.int x), l16, l17, l18, l19, l20], .int x :: st) y) ∧
  (∀ (L : ri_L) (st : List Value) (y : (gy × gy) × Nat) (z x : Int32), evm C0 b0 L0 xs0 236 (356, L, .int z :: .int x :: st) y = if ¬ x = z then evm C0 b0 L0 xs0 236 (450, L, st) y else evm C0 b0 L0 xs0 236 (359, L, st) y) ∧
  (∀ (l1 l2 l3 l4 l5 l6 l7 l8 l9 l10 l11 l12 l13 l14 l15 l16 l17 l18 l19 l20 : Option Value) (st : List Value) (y : (gy × gy) × Nat) (x : Nat), evm C0 b0 L0 xs0 236 (359, [some (.ref x), l1, l2, l3, l4, l5, l6, l7, l8, l9, l10, l11, l12, l13, l14, l15, l16, l17, l18, l19, l20], st) y = evm C0 b0 L0 xs0 236 (360, [some (.ref x), l1, l2, l3, l4, l5, l6, l7, l8, l9, l10, l11, l12, l13, l14, l15, l16, l17, l18, l19, l20], .ref x :: st) y) ∧
  (∀ (L : ri_L) (st : List Value) (y : (gy × gy) × Nat), evm C0 b0 L0 xs0 236 (360, L, st) y = evm C0 b0 L0 xs0 236 (361, L, .int (Int32.ofInt 4) :: st) y) ∧
  (∀ (l0 l1 l2 l3 l4 l6 l7 l8 l9 l10 l11 l12 l13 l14 l15 l16 l17 l18 l19 l20 : Option Value) (st : List Value) (y : (gy × gy) × Nat) (x : Int32), evm C0 b0 L0 xs0 236 (361, [l0, l1, l2, l3, l4, some (.int x), l6, l7, l8, l9, l10, l11, l12, l13, l14, l15, l16, l17, l18, l19, l20], st) y = evm C0 b0 L0 xs0 236 (363, [l0, l1, l2, l3, l4, some (.int x), l6, l7, l8, l9, l10, l11, l12, l13, l14, l15, l16, l17, l18, l19, l20], .int x :: st) y) ∧
  (∀ (L : ri_L) (st : List Value) (y : (gy × gy) × Nat), evm C0 b0 L0 xs0 236 (363, L, st) y = evm C0 b0 L0 xs0 236 (364, L, .int (Int32.ofInt 3) :: st) y) ∧
  (∀ (L : ri_L) (st : List Value) (y : (gy × gy) × Nat), evm C0 b0 L0 xs0 236 (364, L, st) y = evm C0 b0 L0 xs0 236 (365, L, .int (Int32.ofInt 0) :: st) y) ∧
  (∀ (L : ri_L) (y : (gy × gy) × Nat) (a0 : Nat) (a1 : Int32) (a2 : Int32) (a3 : Int32) (a4 : Int32), evm C0 b0 L0 xs0 236 (365, L, [.int a4, .int a3, .int a2, .int a1, .ref a0]) y = lm_n (calm C0 b0 L0 xs0 230 [.ref a0, .int a1, .int a2, .int a3, .int a4] y) fun v y => evm C0 b0 L0 xs0 236 (368, L, [v]) y) ∧
  (∀ (l0 l1 l2 l3 l4 l5 l6 l7 l8 l9 l10 l11 l12 l13 l14 l15 l17 l18 l19 l20 : Option Value) (st : List Value) (y : (gy × gy) × Nat) (x : Int32), evm C0 b0 L0 xs0 236 (368, [l0, l1, l2, l3, l4, l5, l6, l7, l8, l9, l10, l11, l12, l13, l14, l15, some (.int x), l17, l18, l19, l20], st) y = evm C0 b0 L0 xs0 236 (370, [l0, l1, l2, l3, l4, l5, l6, l7, l8, l9, l10, l11, l12, l13, l14, l15, some (.int x), l17, l18, l19, l20], .int x :: st) y) ∧
  (∀ (L : ri_L) (st : List Value) (y : (gy × gy) × Nat) (z x : Int32), evm C0 b0 L0 xs0 236 (370, L, .int z :: .int x :: st) y = if ¬ x = z then evm C0 b0 L0 xs0 236 (450, L, st) y else evm C0 b0 L0 xs0 236 (373, L, st) y) ∧
  (∀ (l1 l2 l3 l4 l5 l6 l7 l8 l9 l10 l11 l12 l13 l14 l15 l16 l17 l18 l19 l20 : Option Value) (st : List Value) (y : (gy × gy) × Nat) (x : Nat), evm C0 b0 L0 xs0 236 (373, [some (.ref x), l1, l2, l3, l4, l5, l6, l7, l8, l9, l10, l11, l12, l13, l14, l15, l16, l17, l18, l19, l20], st) y = evm C0 b0 L0 xs0 236 (374, [some (.ref x), l1, l2, l3, l4, l5, l6, l7, l8, l9, l10, l11, l12, l13, l14, l15, l16, l17, l18, l19, l20], .ref x :: st) y) ∧
  (∀ (L : ri_L) (st : List Value) (y : (gy × gy) × Nat), evm C0 b0 L0 xs0 236 (374, L, st) y = evm C0 b0 L0 xs0 236 (375, L, .int (Int32.ofInt 3) :: st) y) ∧
  (∀ (l0 l1 l2 l3 l4 l5 l6 l7 l8 l9 l11 l12 l13 l14 l15 l16 l17 l18 l19 l20 : Option Value) (st : List Value) (y : (gy × gy) × Nat) (x : Int32), evm C0 b0 L0 xs0 236 (375, [l0, l1, l2, l3, l4, l5, l6, l7, l8, l9, some (.int x), l11, l12, l13, l14, l15, l16, l17, l18, l19, l20], st) y = evm C0 b0 L0 xs0 236 (377, [l0, l1, l2, l3, l4, l5, l6, l7, l8, l9, some (.int x), l11, l12, l13, l14, l15, l16, l17, l18, l19, l20], .int x :: st) y) ∧
  (∀ (L : ri_L) (st : List Value) (y : (gy × gy) × Nat), evm C0 b0 L0 xs0 236 (377, L, st) y = evm C0 b0 L0 xs0 236 (378, L, .int (Int32.ofInt 3) :: st) y) ∧
  (∀ (L : ri_L) (st : List Value) (y : (gy × gy) × Nat), evm C0 b0 L0 xs0 236 (378, L, st) y = evm C0 b0 L0 xs0 236 (379, L, .int (Int32.ofInt 0) :: st) y) ∧
  (∀ (L : ri_L) (y : (gy × gy) × Nat) (a0 : Nat) (a1 : Int32) (a2 : Int32) (a3 : Int32) (a4 : Int32), evm C0 b0 L0 xs0 236 (379, L, [.int a4, .int a3, .int a2, .int a1, .ref a0]) y = lm_n (calm C0 b0 L0 xs0 230 [.ref a0, .int a1, .int a2, .int a3, .int a4] y) fun v y => evm C0 b0 L0 xs0 236 (382, L, [v]) y) ∧
  (∀ (l0 l1 l2 l3 l4 l5 l6 l7 l8 l9 l10 l11 l12 l13 l14 l15 l16 l17 l18 l19 : Option Value) (st : List Value) (y : (gy × gy) × Nat) (x : Int32), evm C0 b0 L0 xs0 236 (382, [l0, l1, l2, l3, l4, l5, l6, l7, l8, l9, l10, l11, l12, l13, l14, l15, l16, l17, l18, l19, some (.int x)], st) y = evm C0 b0 L0 xs0 236 (384, [l0, l1, l2, l3, l4, l5, l6, l7, l8, l9, l10, l11, l12, l13, l14, l15, l16, l17, l18, l19, some (.int x)], .int x :: st) y) ∧
  (∀ (L : ri_L) (st : List Value) (y : (gy × gy) × Nat) (z x : Int32), evm C0 b0 L0 xs0 236 (384, L, .int z :: .int x :: st) y = if ¬ x = z then evm C0 b0 L0 xs0 236 (450, L, st) y else evm C0 b0 L0 xs0 236 (387, L, st) y) ∧
  (∀ (l1 l2 l3 l4 l5 l6 l7 l8 l9 l10 l11 l12 l13 l14 l15 l16 l17 l18 l19 l20 : Option Value) (st : List Value) (y : (gy × gy) × Nat) (x : Nat), evm C0 b0 L0 xs0 236 (387, [some (.ref x), l1, l2, l3, l4, l5, l6, l7, l8, l9, l10, l11, l12, l13, l14, l15, l16, l17, l18, l19, l20], st) y = evm C0 b0 L0 xs0 236 (388, [some (.ref x), l1, l2, l3, l4, l5, l6, l7, l8, l9, l10, l11, l12, l13, l14, l15, l16, l17, l18, l19, l20], .ref x :: st) y) ∧
  (∀ (L : ri_L) (st : List Value) (y : (gy × gy) × Nat), evm C0 b0 L0 xs0 236 (388, L, st) y = evm C0 b0 L0 xs0 236 (389, L, .int (Int32.ofInt 2) :: st) y) ∧
  (∀ (L : ri_L) (st : List Value) (y : (gy × gy) × Nat), evm C0 b0 L0 xs0 236 (389, L, st) y = evm C0 b0 L0 xs0 236 (390, L, .int (Int32.ofInt 3) :: st) y) ∧
  (∀ (L : ri_L) (st : List Value) (y : (gy × gy) × Nat), evm C0 b0 L0 xs0 236 (390, L, st) y = evm C0 b0 L0 xs0 236 (391, L, .int (Int32.ofInt 0) :: st) y) ∧
  (∀ (L : ri_L) (st : List Value) (y : (gy × gy) × Nat), evm C0 b0 L0 xs0 236 (391, L, st) y = evm C0 b0 L0 xs0 236 (392, L, .int (Int32.ofInt 0) :: st) y) ∧
  (∀ (L : ri_L) (y : (gy × gy) × Nat) (a0 : Nat) (a1 : Int32) (a2 : Int32) (a3 : Int32) (a4 : Int32), evm C0 b0 L0 xs0 236 (392, L, [.int a4, .int a3, .int a2, .int a1, .ref a0]) y = lm_n (calm C0 b0 L0 xs0 230 [.ref a0, .int a1, .int a2, .int a3, .int a4] y) fun v y => evm C0 b0 L0 xs0 236 (395, L, [v]) y) ∧
  (∀ (l0 l1 l2 l3 l4 l5 l6 l7 l9 l10 l11 l12 l13 l14 l15 l16 l17 l18 l19 l20 : Option Value) (st : List Value) (y : (gy × gy) × Nat) (x : Int32), evm C0 b0 L0 xs0 236 (395, [l0, l1, l2, l3, l4, l5, l6, l7, some (.int x), l9, l10, l11, l12, l13, l14, l15, l16, l17, l18, l19, l20], st) y = evm C0 b0 L0 xs0 236 (397, [l0, l1, l2, l3, l4, l5, l6, l7, some (.int x), l9, l10, l11, l12, l13, l14, l15, l16, l17, l18, l19, l20], .int x :: st) y) ∧
  (∀ (L : ri_L) (st : List Value) (y : (gy × gy) × Nat), evm C0 b0 L0 xs0 236 (397, L, st) y = evm C0 b0 L0 xs0 236 (398, L, .int (Int32.ofInt 1) :: st) y) ∧
  (∀ (L : ri_L) (st : List Value) (y : (gy × gy) × Nat) (z x : Int32), evm C0 b0 L0 xs0 236 (398, L, .int z :: .int x :: st) y = evm C0 b0 L0 xs0 236 (399, L, .int (x + z) :: st) y) ∧
  (∀ (L : ri_L) (st : List Value) (y : (gy × gy) × Nat) (z x : Int32), evm C0 b0 L0 xs0 236 (399, L, .int z :: .int x :: st) y = if ¬ x = z then evm C0 b0 L0 xs0 236 (450, L, st) y else evm C0 b0 L0 xs0 236 (402, L, st) y) ∧
  (∀ (l1 l2 l3 l4 l5 l6 l7 l8 l9 l10 l11 l12 l13 l14 l15 l16 l17 l18 l19 l20 : Option Value) (st : List Value) (y : (gy × gy) × Nat) (x : Nat), evm C0 b0 L0 xs0 236 (402, [some (.ref x), l1, l2, l3, l4, l5, l6, l7, l8, l9, l10, l11, l12, l13, l14, l15, l16, l17, l18, l19, l20], st) y = evm C0 b0 L0 xs0 236 (403, [some (.ref x), l1, l2, l3, l4, l5, l6, l7, l8, l9, l10, l11, l12, l13, l14, l15, l16, l17, l18, l19, l20], .ref x :: st) y) ∧
  (∀ (L : ri_L) (st : List Value) (y : (gy × gy) × Nat), evm C0 b0 L0 xs0 236 (403, L, st) y = evm C0 b0 L0 xs0 236 (404, L, .int (Int32.ofInt 2) :: st) y) :=
  ⟨fun L st y x => em_b rfl rfl,
   fun l0 l1 l2 l3 l4 l5 l6 l7 l8 l9 l10 l11 l12 l13 l14 l15 l16 l18 l19 l20 st y x => em_p rfl rfl,
   fun L st y => em_p rfl rfl,
   fun L st y z x => em_b rfl rfl,
   fun l1 l2 l3 l4 l5 l6 l7 l8 l9 l10 l11 l12 l13 l14 l15 l16 l17 l18 l19 l20 st y x => em_p rfl rfl,
   fun L st y => em_p rfl rfl,
   fun l0 l1 l2 l3 l4 l6 l7 l8 l9 l10 l11 l12 l13 l14 l15 l16 l17 l18 l19 l20 st y x => em_p rfl rfl,
   fun L st y => em_p rfl rfl,
   fun L st y => em_p rfl rfl,
   fun L y a0 a1 a2 a3 a4 => em_call rfl rfl rfl rfl rfl,
   fun l0 l1 l2 l3 l4 l5 l6 l7 l8 l9 l10 l11 l12 l13 l14 l16 l17 l18 l19 l20 st y x => em_p rfl rfl,
   fun L st y z x => em_b rfl rfl,
   fun l1 l2 l3 l4 l5 l6 l7 l8 l9 l10 l11 l12 l13 l14 l15 l16 l17 l18 l19 l20 st y x => em_p rfl rfl,
   fun L st y => em_p rfl rfl,
   fun l0 l1 l2 l3 l4 l6 l7 l8 l9 l10 l11 l12 l13 l14 l15 l16 l17 l18 l19 l20 st y x => em_p rfl rfl,
   fun L st y => em_p rfl rfl,
   fun L st y => em_p rfl rfl,
   fun L y a0 a1 a2 a3 a4 => em_call rfl rfl rfl rfl rfl,
   fun l0 l1 l2 l3 l4 l5 l6 l7 l8 l9 l10 l11 l12 l13 l14 l15 l17 l18 l19 l20 st y x => em_p rfl rfl,
   fun L st y z x => em_b rfl rfl,
   fun l1 l2 l3 l4 l5 l6 l7 l8 l9 l10 l11 l12 l13 l14 l15 l16 l17 l18 l19 l20 st y x => em_p rfl rfl,
   fun L st y => em_p rfl rfl,
   fun l0 l1 l2 l3 l4 l5 l6 l7 l8 l9 l11 l12 l13 l14 l15 l16 l17 l18 l19 l20 st y x => em_p rfl rfl,
   fun L st y => em_p rfl rfl,
   fun L st y => em_p rfl rfl,
   fun L y a0 a1 a2 a3 a4 => em_call rfl rfl rfl rfl rfl,
   fun l0 l1 l2 l3 l4 l5 l6 l7 l8 l9 l10 l11 l12 l13 l14 l15 l16 l17 l18 l19 st y x => em_p rfl rfl,
   fun L st y z x => em_b rfl rfl,
   fun l1 l2 l3 l4 l5 l6 l7 l8 l9 l10 l11 l12 l13 l14 l15 l16 l17 l18 l19 l20 st y x => em_p rfl rfl,
   fun L st y => em_p rfl rfl,
   fun L st y => em_p rfl rfl,
   fun L st y => em_p rfl rfl,
   fun L st y => em_p rfl rfl,
   fun L y a0 a1 a2 a3 a4 => em_call rfl rfl rfl rfl rfl,
   fun l0 l1 l2 l3 l4 l5 l6 l7 l9 l10 l11 l12 l13 l14 l15 l16 l17 l18 l19 l20 st y x => em_p rfl rfl,
   fun L st y => em_p rfl rfl,
   fun L st y z x => em_p rfl rfl,
   fun L st y z x => em_b rfl rfl,
   fun l1 l2 l3 l4 l5 l6 l7 l8 l9 l10 l11 l12 l13 l14 l15 l16 l17 l18 l19 l20 st y x => em_p rfl rfl,
   fun L st y => em_p rfl rfl⟩
set_option maxRecDepth 8000 in
theorem L_236_6 :
  (∀ (L : ri_L) (st : List Value) (y : (gy × gy) × Nat), evm C0 b0 L0 xs0 236 (404, L, st) y = evm C0 b0 L0 xs0 236 (406, L, .int (Int32.ofInt 7) :: st) y) ∧
  (∀ (L : ri_L) (st : List Value) (y : (gy × gy) × Nat), evm C0 b0 L0 xs0 236 (406, L, st) y = evm C0 b0 L0 xs0 236 (407, L, .int (Int32.ofInt 0) :: st) y) ∧
  (∀ (L : ri_L) (st : List Value) (y : (gy × gy) × Nat), evm C0 b0 L0 xs0 236 (407, L, st) y = evm C0 b0 L0 xs0 236 (408, L, .int (Int32.ofInt 0) :: st) y) ∧
  (∀ (L : ri_L) (y : (gy × gy) × Nat) (a0 : Nat) (a1 : Int32) (a2 : Int32) (a3 : Int32) (a4 : Int32), evm C0 b0 L0 xs0 236 (408, L, [.int a4, .int a3, .int a2, .int a1, .ref a0]) y = lm_n (calm C0 b0 L0 xs0 230 [.ref a0, .int a1, .int a2, .int a3, .int a4] y) fun v y => evm C0 b0 L0 xs0 236 (411, L, [v]) y) ∧
  (∀ (l0 l1 l2 l3 l4 l5 l6 l7 l8 l10 l11 l12 l13 l14 l15 l16 l17 l18 l19 l20 : Option Value) (st : List Value) (y : (gy × gy) × Nat) (x : Int32), evm C0 b0 L0 xs0 236 (411, [l0, l1, l2, l3, l4, l5, l6, l7, l8, some (.int x), l10, l11, l12, l13, l14, l15, l16, l17, l18, l19, l20], st) y = evm C0 b0 L0 xs0 236 (413, [l0, l1, l2, l3, l4, l5, l6, l7, l8, some (.int x), l10, l11, l12, l13, l14, l15, l16, l17, l18, l19, l20], .int x :: st) y) ∧
  (∀ (L : ri_L) (st : List Value) (y : (gy × gy) × Nat), evm C0 b0 L0 xs0 236 (413, L, st) y = evm C0 b0 L0 xs0 236 (414, L, .int (Int32.ofInt 1) :: st) y) ∧
  (∀ (L : ri_L) (st : List Value) (y : (gy × gy) × Nat) (z x : Int32), evm C0 b0 L0 xs0 236 (414, L, .int z :: .int x :: st) y = evm C0 b0 L0 xs0 236 (415, L, .int (x + z) :: st) y) ∧
  (∀ (L : ri_L) (st : List Value) (y : (gy × gy) × Nat) (z x : Int32), evm C0 b0 L0 xs0 236 (415, L, .int z :: .int x :: st) y = if ¬ x = z then evm C0 b0 L0 xs0 236 (450, L, st) y else evm C0 b0 L0 xs0 236 (418, L, st) y) ∧
  (∀ (l1 l2 l3 l4 l5 l6 l7 l8 l9 l10 l11 l12 l13 l14 l15 l16 l17 l18 l19 l20 : Option Value) (st : List Value) (y : (gy × gy) × Nat) (x : Nat), evm C0 b0 L0 xs0 236 (418, [some (.ref x), l1, l2, l3, l4, l5, l6, l7, l8, l9, l10, l11, l12, l13, l14, l15, l16, l17, l18, l19, l20], st) y = evm C0 b0 L0 xs0 236 (419, [some (.ref x), l1, l2, l3, l4, l5, l6, l7, l8, l9, l10, l11, l12, l13, l14, l15, l16, l17, l18, l19, l20], .ref x :: st) y) ∧
  (∀ (L : ri_L) (st : List Value) (y : (gy × gy) × Nat), evm C0 b0 L0 xs0 236 (419, L, st) y = evm C0 b0 L0 xs0 236 (420, L, .int (Int32.ofInt 2) :: st) y) ∧
  (∀ (L : ri_L) (st : List Value) (y : (gy × gy) × Nat), evm C0 b0 L0 xs0 236 (420, L, st) y = evm C0 b0 L0 xs0 236 (422, L, .int (Int32.ofInt 8) :: st) y) ∧
  (∀ (L : ri_L) (st : List Value) (y : (gy × gy) × Nat), evm C0 b0 L0 xs0 236 (422, L, st) y = evm C0 b0 L0 xs0 236 (423, L, .int (Int32.ofInt 0) :: st) y) ∧
  (∀ (L : ri_L) (st : List Value) (y : (gy × gy) × Nat), evm C0 b0 L0 xs0 236 (423, L, st) y = evm C0 b0 L0 xs0 236 (424, L, .int (Int32.ofInt 0) :: st) y) ∧
  (∀ (L : ri_L) (y : (gy × gy) × Nat) (a0 : Nat) (a1 : Int32) (a2 : Int32) (a3 : Int32) (a4 : Int32), evm C0 b0 L0 xs0 236 (424, L, [.int a4, .int a3, .int a2, .int a1, .ref a0]) y = lm_n (calm C0 b0 L0 xs0 230 [.ref a0, .int a1, .int a2, .int a3, .int a4] y) fun v y => evm C0 b0 L0 xs0 236 (427, L, [v]) y) ∧
  (∀ (l0 l1 l2 l3 l4 l6 l7 l8 l9 l10 l11 l12 l13 l14 l15 l16 l17 l18 l19 l20 : Option Value) (st : List Value) (y : (gy × gy) × Nat) (x : Int32), evm C0 b0 L0 xs0 236 (427, [l0, l1, l2, l3, l4, some (.int x), l6, l7, l8, l9, l10, l11, l12, l13, l14, l15, l16, l17, l18, l19, l20], st) y = evm C0 b0 L0 xs0 236 (429, [l0, l1, l2, l3, l4, some (.int x), l6, l7, l8, l9, l10, l11, l12, l13, l14, l15, l16, l17, l18, l19, l20], .int x :: st) y) ∧
  (∀ (L : ri_L) (st : List Value) (y : (gy × gy) × Nat) (z x : Int32), evm C0 b0 L0 xs0 236 (429, L, .int z :: .int x :: st) y = if ¬ x = z then evm C0 b0 L0 xs0 236 (450, L, st) y else evm C0 b0 L0 xs0 236 (432, L, st) y) ∧
  (∀ (l1 l2 l3 l4 l5 l6 l7 l8 l9 l10 l11 l12 l13 l14 l15 l16 l17 l18 l19 l20 : Option Value) (st : List Value) (y : (gy × gy) × Nat) (x : Nat), evm C0 b0 L0 xs0 236 (432, [some (.ref x), l1, l2, l3, l4, l5, l6, l7, l8, l9, l10, l11, l12, l13, l14, l15, l16, l17, l18, l19, l20], st) y = evm C0 b0 L0 xs0 236 (433, [some (.ref x), l1, l2, l3, l4, l5, l6, l7, l8, l9, l10, l11, l12, l13, l14, l15, l16, l17, l18, l19, l20], .ref x :: st) y) ∧
  (∀ (L : ri_L) (st : List Value) (y : (gy × gy) × Nat), evm C0 b0 L0 xs0 236 (433, L, st) y = evm C0 b0 L0 xs0 236 (434, L, .int (Int32.ofInt 3) :: st) y) ∧
  (∀ (l0 l1 l2 l3 l4 l5 l6 l7 l8 l9 l11 l12 l13 l14 l15 l16 l17 l18 l19 l20 : Option Value) (st : List Value) (y : (gy × gy) × Nat) (x : Int32), evm C0 b0 L0 xs0 236 (434, [l0, l1, l2, l3, l4, l5, l6, l7, l8, l9, some (.int x), l11, l12, l13, l14, l15, l16, l17, l18, l19, l20], st) y = evm C0 b0 L0 xs0 236 (436, [l0, l1, l2, l3, l4, l5, l6, l7, l8, l9, some (.int x), l11, l12, l13, l14, l15, l16, l17, l18, l19, l20], .int x :: st) y) ∧
  (∀ (L : ri_L) (st : List Value) (y : (gy × gy) × Nat), evm C0 b0 L0 xs0 236 (436, L, st) y = evm C0 b0 L0 xs0 236 (437, L, .int (Int32.ofInt 4) :: st) y) ∧
  (∀ (L : ri_L) (st : List Value) (y : (gy × gy) × Nat), evm C0 b0 L0 xs0 236 (437, L, st) y = evm C0 b0 L0 xs0 236 (438, L, .int (Int32.ofInt 0) :: st) y) ∧
  (∀ (L : ri_L) (y : (gy × gy) × Nat) (a0 : Nat) (a1 : Int32) (a2 : Int32) (a3 : Int32) (a4 : Int32), evm C0 b0 L0 xs0 236 (438, L, [.int a4, .int a3, .int a2, .int a1, .ref a0]) y = lm_n (calm C0 b0 L0 xs0 230 [.ref a0, .int a1, .int a2, .int a3, .int a4] y) fun v y => evm C0 b0 L0 xs0 236 (441, L, [v]) y) ∧
  (∀ (l0 l1 l2 l3 l4 l5 l6 l7 l8 l9 l10 l11 l12 l14 l15 l16 l17 l18 l19 l20 : Option Value) (st : List Value) (y : (gy × gy) × Nat) (x : Int32), evm C0 b0 L0 xs0 236 (441, [l0, l1, l2, l3, l4, l5, l6, l7, l8, l9, l10, l11, l12, some (.int x), l14, l15, l16, l17, l18, l19, l20], st) y = evm C0 b0 L0 xs0 236 (443, [l0, l1, l2, l3, l4, l5, l6, l7, l8, l9, l10, l11, l12, some (.int x), l14, l15, l16, l17, l18, l19, l20], .int x :: st) y) ∧
  (∀ (L : ri_L) (st : List Value) (y : (gy × gy) × Nat) (z x : Int32), evm C0 b0 L0 xs0 236 (443, L, .int z :: .int x :: st) y = if ¬ x = z then evm C0 b0 L0 xs0 236 (450, L, st) y else evm C0 b0 L0 xs0 236 (446, L, st) y) ∧
  (∀ (L : ri_L) (st : List Value) (y : (gy × gy) × Nat), evm C0 b0 L0 xs0 236 (446, L, st) y = evm C0 b0 L0 xs0 236 (447, L, .int (Int32.ofInt 1) :: st) y) ∧
  (∀ (L : ri_L) (st : List Value) (y : (gy × gy) × Nat), evm C0 b0 L0 xs0 236 (447, L, st) y = evm C0 b0 L0 xs0 236 (451, L, st) y) ∧
  (∀ (L : ri_L) (st : List Value) (y : (gy × gy) × Nat), evm C0 b0 L0 xs0 236 (450, L, st) y = evm C0 b0 L0 xs0 236 (451, L, .int (Int32.ofInt 0) :: st) y) ∧
  (∀ (l0 l1 l2 l3 l4 l5 l6 l7 l8 l9 l10 l11 l12 l13 l14 l15 l16 l17 l18 l19 l20 : Option Value) (st : List Value) (y : (gy × gy) × Nat) (x : Int32), evm C0 b0 L0 xs0 236 (451, [l0, l1, l2, l3, l4, l5, l6, l7, l8, l9, l10, l11, l12, l13, l14, l15, l16, l17, l18, l19, l20], .int x :: st) y = evm C0 b0 L0 xs0 236 (453, [l0, l1, l2, l3, l4, l5, l6, l7, l8, l9, l10, l11, l12, l13, l14, l15, l16, ri_clr l17, some (.int x), l19, l20], st) y) ∧
  (∀ (L : ri_L) (st : List Value) (y : (gy × gy) × Nat), evm C0 b0 L0 xs0 236 (453, L, st) y = evm C0 b0 L0 xs0 236 (509, L, st) y) ∧
  (∀ (l0 l1 l2 l3 l4 l5 l6 l7 l8 l9 l10 l11 l12 l13 l14 l15 l16 l17 l19 l20 : Option Value) (st : List Value) (y : (gy × gy) × Nat) (x : Int32), evm C0 b0 L0 xs0 236 (456, [l0, l1, l2, l3, l4, l5, l6, l7, l8, l9, l10, l11, l12, l13, l14, l15, l16, l17, some (.int x), l19, l20], st) y = evm C0 b0 L0 xs0 236 (458, [l0, l1, l2, l3, l4, l5, l6, l7, l8, l9, l10, l11, l12, l13, l14, l15, l16, l17, some (.int x), l19, l20], .int x :: st) y) ∧
  (∀ (L : ri_L) (st : List Value) (y : (gy × gy) × Nat) (x : Int32), evm C0 b0 L0 xs0 236 (458, L, .int x :: st) y = if x = 0 then evm C0 b0 L0 xs0 236 (506, L, st) y else evm C0 b0 L0 xs0 236 (461, L, st) y) ∧
  (∀ (l1 l2 l3 l4 l5 l6 l7 l8 l9 l10 l11 l12 l13 l14 l15 l16 l17 l18 l19 l20 : Option Value) (st : List Value) (y : (gy × gy) × Nat) (x : Nat), evm C0 b0 L0 xs0 236 (461, [some (.ref x), l1, l2, l3, l4, l5, l6, l7, l8, l9, l10, l11, l12, l13, l14, l15, l16, l17, l18, l19, l20], st) y = evm C0 b0 L0 xs0 236 (462, [some (.ref x), l1, l2, l3, l4, l5, l6, l7, l8, l9, l10, l11, l12, l13, l14, l15, l16, l17, l18, l19, l20], .ref x :: st) y) ∧
  (∀ (L : ri_L) (st : List Value) (y : (gy × gy) × Nat), evm C0 b0 L0 xs0 236 (462, L, st) y = evm C0 b0 L0 xs0 236 (463, L, .int (Int32.ofInt 4) :: st) y) ∧
  (∀ (l0 l1 l2 l3 l4 l6 l7 l8 l9 l10 l11 l12 l13 l14 l15 l16 l17 l18 l19 l20 : Option Value) (st : List Value) (y : (gy × gy) × Nat) (x : Int32), evm C0 b0 L0 xs0 236 (463, [l0, l1, l2, l3, l4, some (.int x), l6, l7, l8, l9, l10, l11, l12, l13, l14, l15, l16, l17, l18, l19, l20], st) y = evm C0 b0 L0 xs0 236 (465, [l0, l1, l2, l3, l4, some (.int x), l6, l7, l8, l9, l10, l11, l12, l13, l14, l15, l16, l17, l18, l19, l20], .int x :: st) y) ∧
  (∀ (L : ri_L) (st : List Value) (y : (gy × gy) × Nat), evm C0 b0 L0 xs0 236 (465, L, st) y = evm C0 b0 L0 xs0 236 (466, L, .int (Int32.ofInt 1) :: st) y) ∧
  (∀ (L : ri_L) (st : List Value) (y : (gy × gy) × Nat), evm C0 b0 L0 xs0 236 (466, L, st) y = evm C0 b0 L0 xs0 236 (467, L, .int (Int32.ofInt 0) :: st) y) ∧
  (∀ (L : ri_L) (y : (gy × gy) × Nat) (a0 : Nat) (a1 : Int32) (a2 : Int32) (a3 : Int32) (a4 : Int32), evm C0 b0 L0 xs0 236 (467, L, [.int a4, .int a3, .int a2, .int a1, .ref a0]) y = lm_n (calm C0 b0 L0 xs0 230 [.ref a0, .int a1, .int a2, .int a3, .int a4] y) fun v y => evm C0 b0 L0 xs0 236 (470, L, [v]) y) ∧
  (∀ (l0 l1 l2 l3 l4 l5 l6 l7 l8 l9 l11 l12 l13 l14 l15 l16 l17 l18 l19 l20 : Option Value) (st : List Value) (y : (gy × gy) × Nat) (x : Int32), evm C0 b0 L0 xs0 236 (470, [l0, l1, l2, l3, l4, l5, l6, l7, l8, l9, some (.int x), l11, l12, l13, l14, l15, l16, l17, l18, l19, l20], st) y = evm C0 b0 L0 xs0 236 (472, [l0, l1, l2, l3, l4, l5, l6, l7, l8, l9, some (.int x), l11, l12, l13, l14, l15, l16, l17, l18, l19, l20], .int x :: st) y) ∧
  (∀ (L : ri_L) (st : List Value) (y : (gy × gy) × Nat) (z x : Int32), evm C0 b0 L0 xs0 236 (472, L, .int z :: .int x :: st) y = if ¬ x = z then evm C0 b0 L0 xs0 236 (506, L, st) y else evm C0 b0 L0 xs0 236 (475, L, st) y) ∧
  (∀ (l1 l2 l3 l4 l5 l6 l7 l8 l9 l10 l11 l12 l13 l14 l15 l16 l17 l18 l19 l20 : Option Value) (st : List Value) (y : (gy × gy) × Nat) (x : Nat), evm C0 b0 L0 xs0 236 (475, [some (.ref x), l1, l2, l3, l4, l5, l6, l7, l8, l9, l10, l11, l12, l13, l14, l15, l16, l17, l18, l19, l20], st) y = evm C0 b0 L0 xs0 236 (476, [some (.ref x), l1, l2, l3, l4, l5, l6, l7, l8, l9, l10, l11, l12, l13, l14, l15, l16, l17, l18, l19, l20], .ref x :: st) y) :=
  ⟨fun L st y => em_p rfl rfl,
   fun L st y => em_p rfl rfl,
   fun L st y => em_p rfl rfl,
   fun L y a0 a1 a2 a3 a4 => em_call rfl rfl rfl rfl rfl,
   fun l0 l1 l2 l3 l4 l5 l6 l7 l8 l10 l11 l12 l13 l14 l15 l16 l17 l18 l19 l20 st y x => em_p rfl rfl,
   fun L st y => em_p rfl rfl,
   fun L st y z x => em_p rfl rfl,
   fun L st y z x => em_b rfl rfl,
   fun l1 l2 l3 l4 l5 l6 l7 l8 l9 l10 l11 l12 l13 l14 l15 l16 l17 l18 l19 l20 st y x => em_p rfl rfl,
   fun L st y => em_p rfl rfl,
   fun L st y => em_p rfl rfl,
   fun L st y => em_p rfl rfl,
   fun L st y => em_p rfl rfl,
   fun L y a0 a1 a2 a3 a4 => em_call rfl rfl rfl rfl rfl,
   fun l0 l1 l2 l3 l4 l6 l7 l8 l9 l10 l11 l12 l13 l14 l15 l16 l17 l18 l19 l20 st y x => em_p rfl rfl,
   fun L st y z x => em_b rfl rfl,
   fun l1 l2 l3 l4 l5 l6 l7 l8 l9 l10 l11 l12 l13 l14 l15 l16 l17 l18 l19 l20 st y x => em_p rfl rfl,
   fun L st y => em_p rfl rfl,
   fun l0 l1 l2 l3 l4 l5 l6 l7 l8 l9 l11 l12 l13 l14 l15 l16 l17 l18 l19 l20 st y x => em_p rfl rfl,
   fun L st y => em_p rfl rfl,
   fun L st y => em_p rfl rfl,
   fun L y a0 a1 a2 a3 a4 => em_call rfl rfl rfl rfl rfl,
   fun l0 l1 l2 l3 l4 l5 l6 l7 l8 l9 l10 l11 l12 l14 l15 l16 l17 l18 l19 l20 st y x => em_p rfl rfl,
   fun L st y z x => em_b rfl rfl,
   fun L st y => em_p rfl rfl,
   fun L st y => em_p rfl rfl,
   fun L st y => em_p rfl rfl,
   fun l0 l1 l2 l3 l4 l5 l6 l7 l8 l9 l10 l11 l12 l13 l14 l15 l16 l17 l18 l19 l20 st y x => em_p rfl rfl,
   fun L st y => em_p rfl rfl,
   fun l0 l1 l2 l3 l4 l5 l6 l7 l8 l9 l10 l11 l12 l13 l14 l15 l16 l17 l19 l20 st y x => em_p rfl rfl,
   fun L st y x => em_b rfl rfl,
   fun l1 l2 l3 l4 l5 l6 l7 l8 l9 l10 l11 l12 l13 l14 l15 l16 l17 l18 l19 l20 st y x => em_p rfl rfl,
   fun L st y => em_p rfl rfl,
   fun l0 l1 l2 l3 l4 l6 l7 l8 l9 l10 l11 l12 l13 l14 l15 l16 l17 l18 l19 l20 st y x => em_p rfl rfl,
   fun L st y => em_p rfl rfl,
   fun L st y => em_p rfl rfl,
   fun L y a0 a1 a2 a3 a4 => em_call rfl rfl rfl rfl rfl,
   fun l0 l1 l2 l3 l4 l5 l6 l7 l8 l9 l11 l12 l13 l14 l15 l16 l17 l18 l19 l20 st y x => em_p rfl rfl,
   fun L st y z x => em_b rfl rfl,
   fun l1 l2 l3 l4 l5 l6 l7 l8 l9 l10 l11 l12 l13 l14 l15 l16 l17 l18 l19 l20 st y x => em_p rfl rfl⟩
set_option maxRecDepth 8000 in
theorem L_236_7 :
  (∀ (L : ri_L) (st : List Value) (y : (gy × gy) × Nat), evm C0 b0 L0 xs0 236 (476, L, st) y = evm C0 b0 L0 xs0 236 (477, L, .int (Int32.ofInt 4) :: st) y) ∧
  (∀ (l0 l1 l2 l3 l4 l6 l7 l8 l9 l10 l11 l12 l13 l14 l15 l16 l17 l18 l19 l20 : Option Value) (st : List Value) (y : (gy × gy) × Nat) (x : Int32), evm C0 b0 L0 xs0 236 (477, [l0, l1, l2, l3, l4, some (.int x), l6, l7, l8, l9, l10, l11, l12, l13, l14, l15, l16, l17, l18, l19, l20], st) y = evm C0 b0 L0 xs0 236 (479, [l0, l1, l2, l3, l4, some (.int x), l6, l7, l8, l9, l10, l11, l12, l13, l14, l15, l16, l17, l18, l19, l20], .int x :: st) y) ∧
  (∀ (L : ri_L) (st : List Value) (y : (gy × gy) × Nat), evm C0 b0 L0 xs0 236 (479, L, st) y = evm C0 b0 L0 xs0 236 (480, L, .int (Int32.ofInt 3) :: st) y) ∧
  (∀ (L : ri_L) (st : List Value) (y : (gy × gy) × Nat), evm C0 b0 L0 xs0 236 (480, L, st) y = evm C0 b0 L0 xs0 236 (481, L, .int (Int32.ofInt 0) :: st) y) ∧
  (∀ (L : ri_L) (y : (gy × gy) × Nat) (a0 : Nat) (a1 : Int32) (a2 : Int32) (a3 : Int32) (a4 : Int32), evm C0 b0 L0 xs0 236 (481, L, [.int a4, .int a3, .int a2, .int a1, .ref a0]) y = lm_n (calm C0 b0 L0 xs0 230 [.ref a0, .int a1, .int a2, .int a3, .int a4] y) fun v y => evm C0 b0 L0 xs0 236 (484, L, [v]) y) ∧
  (∀ (l0 l1 l2 l3 l4 l5 l6 l7 l8 l9 l10 l12 l13 l14 l15 l16 l17 l18 l19 l20 : Option Value) (st : List Value) (y : (gy × gy) × Nat) (x : Int32), evm C0 b0 L0 xs0 236 (484, [l0, l1, l2, l3, l4, l5, l6, l7, l8, l9, l10, some (.int x), l12, l13, l14, l15, l16, l17, l18, l19, l20], st) y = evm C0 b0 L0 xs0 236 (486, [l0, l1, l2, l3, l4, l5, l6, l7, l8, l9, l10, some (.int x), l12, l13, l14, l15, l16, l17, l18, l19, l20], .int x :: st) y) ∧
  (∀ (L : ri_L) (st : List Value) (y : (gy × gy) × Nat) (z x : Int32), evm C0 b0 L0 xs0 236 (486, L, .int z :: .int x :: st) y = if ¬ x = z then evm C0 b0 L0 xs0 236 (506, L, st) y else evm C0 b0 L0 xs0 236 (489, L, st) y) ∧
  (∀ (l1 l2 l3 l4 l5 l6 l7 l8 l9 l10 l11 l12 l13 l14 l15 l16 l17 l18 l19 l20 : Option Value) (st : List Value) (y : (gy × gy) × Nat) (x : Nat), evm C0 b0 L0 xs0 236 (489, [some (.ref x), l1, l2, l3, l4, l5, l6, l7, l8, l9, l10, l11, l12, l13, l14, l15, l16, l17, l18, l19, l20], st) y = evm C0 b0 L0 xs0 236 (490, [some (.ref x), l1, l2, l3, l4, l5, l6, l7, l8, l9, l10, l11, l12, l13, l14, l15, l16, l17, l18, l19, l20], .ref x :: st) y) ∧
  (∀ (L : ri_L) (st : List Value) (y : (gy × gy) × Nat), evm C0 b0 L0 xs0 236 (490, L, st) y = evm C0 b0 L0 xs0 236 (491, L, .int (Int32.ofInt 2) :: st) y) ∧
  (∀ (L : ri_L) (st : List Value) (y : (gy × gy) × Nat), evm C0 b0 L0 xs0 236 (491, L, st) y = evm C0 b0 L0 xs0 236 (492, L, .int (Int32.ofInt 3) :: st) y) ∧
  (∀ (L : ri_L) (st : List Value) (y : (gy × gy) × Nat), evm C0 b0 L0 xs0 236 (492, L, st) y = evm C0 b0 L0 xs0 236 (493, L, .int (Int32.ofInt 0) :: st) y) ∧
  (∀ (L : ri_L) (st : List Value) (y : (gy × gy) × Nat), evm C0 b0 L0 xs0 236 (493, L, st) y = evm C0 b0 L0 xs0 236 (494, L, .int (Int32.ofInt 0) :: st) y) ∧
  (∀ (L : ri_L) (y : (gy × gy) × Nat) (a0 : Nat) (a1 : Int32) (a2 : Int32) (a3 : Int32) (a4 : Int32), evm C0 b0 L0 xs0 236 (494, L, [.int a4, .int a3, .int a2, .int a1, .ref a0]) y = lm_n (calm C0 b0 L0 xs0 230 [.ref a0, .int a1, .int a2, .int a3, .int a4] y) fun v y => evm C0 b0 L0 xs0 236 (497, L, [v]) y) ∧
  (∀ (l0 l1 l2 l3 l4 l5 l6 l7 l9 l10 l11 l12 l13 l14 l15 l16 l17 l18 l19 l20 : Option Value) (st : List Value) (y : (gy × gy) × Nat) (x : Int32), evm C0 b0 L0 xs0 236 (497, [l0, l1, l2, l3, l4, l5, l6, l7, some (.int x), l9, l10, l11, l12, l13, l14, l15, l16, l17, l18, l19, l20], st) y = evm C0 b0 L0 xs0 236 (499, [l0, l1, l2, l3, l4, l5, l6, l7, some (.int x), l9, l10, l11, l12, l13, l14, l15, l16, l17, l18, l19, l20], .int x :: st) y) ∧
  (∀ (L : ri_L) (st : List Value) (y : (gy × gy) × Nat) (z x : Int32), evm C0 b0 L0 xs0 236 (499, L, .int z :: .int x :: st) y = if ¬ x = z then evm C0 b0 L0 xs0 236 (506, L, st) y else evm C0 b0 L0 xs0 236 (502, L, st) y) ∧
  (∀ (L : ri_L) (st : List Value) (y : (gy × gy) × Nat), evm C0 b0 L0 xs0 236 (502, L, st) y = evm C0 b0 L0 xs0 236 (503, L, .int (Int32.ofInt 1) :: st) y) ∧
  (∀ (L : ri_L) (st : List Value) (y : (gy × gy) × Nat), evm C0 b0 L0 xs0 236 (503, L, st) y = evm C0 b0 L0 xs0 236 (507, L, st) y) ∧
  (∀ (L : ri_L) (st : List Value) (y : (gy × gy) × Nat), evm C0 b0 L0 xs0 236 (506, L, st) y = evm C0 b0 L0 xs0 236 (507, L, .int (Int32.ofInt 0) :: st) y) ∧
  (∀ (l0 l1 l2 l3 l4 l5 l6 l7 l8 l9 l10 l11 l12 l13 l14 l15 l16 l17 l18 l19 l20 : Option Value) (st : List Value) (y : (gy × gy) × Nat) (x : Int32), evm C0 b0 L0 xs0 236 (507, [l0, l1, l2, l3, l4, l5, l6, l7, l8, l9, l10, l11, l12, l13, l14, l15, l16, l17, l18, l19, l20], .int x :: st) y = evm C0 b0 L0 xs0 236 (509, [l0, l1, l2, l3, l4, l5, l6, l7, l8, l9, l10, l11, l12, l13, l14, l15, l16, ri_clr l17, some (.int x), l19, l20], st) y) ∧
  (∀ (l0 l1 l2 l3 l4 l5 l6 l7 l8 l9 l10 l11 l12 l13 l14 l15 l16 l17 l19 l20 : Option Value) (st : List Value) (y : (gy × gy) × Nat) (x : Int32), evm C0 b0 L0 xs0 236 (509, [l0, l1, l2, l3, l4, l5, l6, l7, l8, l9, l10, l11, l12, l13, l14, l15, l16, l17, some (.int x), l19, l20], st) y = evm C0 b0 L0 xs0 236 (511, [l0, l1, l2, l3, l4, l5, l6, l7, l8, l9, l10, l11, l12, l13, l14, l15, l16, l17, some (.int x), l19, l20], .int x :: st) y) ∧
  (∀ (L : ri_L) (st : List Value) (y : (gy × gy) × Nat) (x : Int32), evm C0 b0 L0 xs0 236 (511, L, .int x :: st) y = if x = 0 then evm C0 b0 L0 xs0 236 (589, L, st) y else evm C0 b0 L0 xs0 236 (514, L, st) y) ∧
  (∀ (l1 l2 l3 l4 l5 l6 l7 l8 l9 l10 l11 l12 l13 l14 l15 l16 l17 l18 l19 l20 : Option Value) (st : List Value) (y : (gy × gy) × Nat) (x : Nat), evm C0 b0 L0 xs0 236 (514, [some (.ref x), l1, l2, l3, l4, l5, l6, l7, l8, l9, l10, l11, l12, l13, l14, l15, l16, l17, l18, l19, l20], st) y = evm C0 b0 L0 xs0 236 (515, [some (.ref x), l1, l2, l3, l4, l5, l6, l7, l8, l9, l10, l11, l12, l13, l14, l15, l16, l17, l18, l19, l20], .ref x :: st) y) ∧
  (∀ (L : ri_L) (st : List Value) (y : (gy × gy) × Nat), evm C0 b0 L0 xs0 236 (515, L, st) y = evm C0 b0 L0 xs0 236 (517, L, .int (Int32.ofInt 14) :: st) y) ∧
  (∀ (L : ri_L) (st : List Value) (y : (gy × gy) × Nat), evm C0 b0 L0 xs0 236 (517, L, st) y = evm C0 b0 L0 xs0 236 (518, L, .int (Int32.ofInt 0) :: st) y) ∧
  (∀ (L : ri_L) (st : List Value) (y : (gy × gy) × Nat), evm C0 b0 L0 xs0 236 (518, L, st) y = evm C0 b0 L0 xs0 236 (519, L, .int (Int32.ofInt 0) :: st) y) ∧
  (∀ (L : ri_L) (st : List Value) (y : (gy × gy) × Nat), evm C0 b0 L0 xs0 236 (519, L, st) y = evm C0 b0 L0 xs0 236 (520, L, .int (Int32.ofInt 0) :: st) y) ∧
  (∀ (L : ri_L) (y : (gy × gy) × Nat) (a0 : Nat) (a1 : Int32) (a2 : Int32) (a3 : Int32) (a4 : Int32), evm C0 b0 L0 xs0 236 (520, L, [.int a4, .int a3, .int a2, .int a1, .ref a0]) y = lm_n (calm C0 b0 L0 xs0 230 [.ref a0, .int a1, .int a2, .int a3, .int a4] y) fun v y => evm C0 b0 L0 xs0 236 (523, L, [v]) y) ∧
  (∀ (L : ri_L) (y : (gy × gy) × Nat) (a0 : Int32), evm C0 b0 L0 xs0 236 (523, L, [.int a0]) y = lm_n (calm C0 b0 L0 xs0 231 [.int a0] y) fun v y => evm C0 b0 L0 xs0 236 (526, L, [v]) y) ∧
  (∀ (L : ri_L) (st : List Value) (y : (gy × gy) × Nat) (x : Int32), evm C0 b0 L0 xs0 236 (526, L, .int x :: st) y = if ¬ x = 0 then evm C0 b0 L0 xs0 236 (589, L, st) y else evm C0 b0 L0 xs0 236 (529, L, st) y) ∧
  (∀ (l0 l2 l3 l4 l5 l6 l7 l8 l9 l10 l11 l12 l13 l14 l15 l16 l17 l18 l19 l20 : Option Value) (st : List Value) (y : (gy × gy) × Nat) (x : Nat), evm C0 b0 L0 xs0 236 (529, [l0, some (.ref x), l2, l3, l4, l5, l6, l7, l8, l9, l10, l11, l12, l13, l14, l15, l16, l17, l18, l19, l20], st) y = evm C0 b0 L0 xs0 236 (530, [l0, some (.ref x), l2, l3, l4, l5, l6, l7, l8, l9, l10, l11, l12, l13, l14, l15, l16, l17, l18, l19, l20], .ref x :: st) y) ∧
  (∀ (L : ri_L) (st : List Value) (y : (gy × gy) × Nat), evm C0 b0 L0 xs0 236 (530, L, st) y = evm C0 b0 L0 xs0 236 (532, L, .int (Int32.ofInt 14) :: st) y) ∧
  (∀ (L : ri_L) (st : List Value) (y : (gy × gy) × Nat), evm C0 b0 L0 xs0 236 (532, L, st) y = evm C0 b0 L0 xs0 236 (533, L, .int (Int32.ofInt 0) :: st) y) ∧
  (∀ (L : ri_L) (st : List Value) (y : (gy × gy) × Nat), evm C0 b0 L0 xs0 236 (533, L, st) y = evm C0 b0 L0 xs0 236 (534, L, .int (Int32.ofInt 0) :: st) y) ∧
  (∀ (L : ri_L) (st : List Value) (y : (gy × gy) × Nat), evm C0 b0 L0 xs0 236 (534, L, st) y = evm C0 b0 L0 xs0 236 (535, L, .int (Int32.ofInt 0) :: st) y) ∧
  (∀ (L : ri_L) (y : (gy × gy) × Nat) (a0 : Nat) (a1 : Int32) (a2 : Int32) (a3 : Int32) (a4 : Int32), evm C0 b0 L0 xs0 236 (535, L, [.int a4, .int a3, .int a2, .int a1, .ref a0]) y = lm_n (calm C0 b0 L0 xs0 230 [.ref a0, .int a1, .int a2, .int a3, .int a4] y) fun v y => evm C0 b0 L0 xs0 236 (538, L, [v]) y) ∧
  (∀ (L : ri_L) (y : (gy × gy) × Nat) (a0 : Int32), evm C0 b0 L0 xs0 236 (538, L, [.int a0]) y = lm_n (calm C0 b0 L0 xs0 231 [.int a0] y) fun v y => evm C0 b0 L0 xs0 236 (541, L, [v]) y) ∧
  (∀ (L : ri_L) (st : List Value) (y : (gy × gy) × Nat) (x : Int32), evm C0 b0 L0 xs0 236 (541, L, .int x :: st) y = if ¬ x = 0 then evm C0 b0 L0 xs0 236 (589, L, st) y else evm C0 b0 L0 xs0 236 (544, L, st) y) ∧
  (∀ (l1 l2 l3 l4 l5 l6 l7 l8 l9 l10 l11 l12 l13 l14 l15 l16 l17 l18 l19 l20 : Option Value) (st : List Value) (y : (gy × gy) × Nat) (x : Nat), evm C0 b0 L0 xs0 236 (544, [some (.ref x), l1, l2, l3, l4, l5, l6, l7, l8, l9, l10, l11, l12, l13, l14, l15, l16, l17, l18, l19, l20], st) y = evm C0 b0 L0 xs0 236 (545, [some (.ref x), l1, l2, l3, l4, l5, l6, l7, l8, l9, l10, l11, l12, l13, l14, l15, l16, l17, l18, l19, l20], .ref x :: st) y) ∧
  (∀ (L : ri_L) (st : List Value) (y : (gy × gy) × Nat), evm C0 b0 L0 xs0 236 (545, L, st) y = evm C0 b0 L0 xs0 236 (546, L, .int (Int32.ofInt 2) :: st) y) ∧
  (∀ (L : ri_L) (st : List Value) (y : (gy × gy) × Nat), evm C0 b0 L0 xs0 236 (546, L, st) y = evm C0 b0 L0 xs0 236 (547, L, .int (Int32.ofInt 3) :: st) y) :=
  ⟨fun L st y => em_p rfl rfl,
   fun l0 l1 l2 l3 l4 l6 l7 l8 l9 l10 l11 l12 l13 l14 l15 l16 l17 l18 l19 l20 st y x => em_p rfl rfl,
   fun L st y => em_p rfl rfl,
   fun L st y => em_p rfl rfl,
   fun L y a0 a1 a2 a3 a4 => em_call rfl rfl rfl rfl rfl,
   fun l0 l1 l2 l3 l4 l5 l6 l7 l8 l9 l10 l12 l13 l14 l15 l16 l17 l18 l19 l20 st y x => em_p rfl rfl,
   fun L st y z x => em_b rfl rfl,
   fun l1 l2 l3 l4 l5 l6 l7 l8 l9 l10 l11 l12 l13 l14 l15 l16 l17 l18 l19 l20 st y x => em_p rfl rfl,
   fun L st y => em_p rfl rfl,
   fun L st y => em_p rfl rfl,
   fun L st y => em_p rfl rfl,
   fun L st y => em_p rfl rfl,
   fun L y a0 a1 a2 a3 a4 => em_call rfl rfl rfl rfl rfl,
   fun l0 l1 l2 l3 l4 l5 l6 l7 l9 l10 l11 l12 l13 l14 l15 l16 l17 l18 l19 l20 st y x => em_p rfl rfl,
   fun L st y z x => em_b rfl rfl,
   fun L st y => em_p rfl rfl,
   fun L st y => em_p rfl rfl,
   fun L st y => em_p rfl rfl,
   fun l0 l1 l2 l3 l4 l5 l6 l7 l8 l9 l10 l11 l12 l13 l14 l15 l16 l17 l18 l19 l20 st y x => em_p rfl rfl,
   fun l0 l1 l2 l3 l4 l5 l6 l7 l8 l9 l10 l11 l12 l13 l14 l15 l16 l17 l19 l20 st y x => em_p rfl rfl,
   fun L st y x => em_b rfl rfl,
   fun l1 l2 l3 l4 l5 l6 l7 l8 l9 l10 l11 l12 l13 l14 l15 l16 l17 l18 l19 l20 st y x => em_p rfl rfl,
   fun L st y => em_p rfl rfl,
   fun L st y => em_p rfl rfl,
   fun L st y => em_p rfl rfl,
   fun L st y => em_p rfl rfl,
   fun L y a0 a1 a2 a3 a4 => em_call rfl rfl rfl rfl rfl,
   fun L y a0 => em_call rfl rfl rfl rfl rfl,
   fun L st y x => em_b rfl rfl,
   fun l0 l2 l3 l4 l5 l6 l7 l8 l9 l10 l11 l12 l13 l14 l15 l16 l17 l18 l19 l20 st y x => em_p rfl rfl,
   fun L st y => em_p rfl rfl,
   fun L st y => em_p rfl rfl,
   fun L st y => em_p rfl rfl,
   fun L st y => em_p rfl rfl,
   fun L y a0 a1 a2 a3 a4 => em_call rfl rfl rfl rfl rfl,
   fun L y a0 => em_call rfl rfl rfl rfl rfl,
   fun L st y x => em_b rfl rfl,
   fun l1 l2 l3 l4 l5 l6 l7 l8 l9 l10 l11 l12 l13 l14 l15 l16 l17 l18 l19 l20 st y x => em_p rfl rfl,
   fun L st y => em_p rfl rfl,
   fun L st y => em_p rfl rfl⟩
set_option maxRecDepth 8000 in
theorem L_236_8 :
  (∀ (L : ri_L) (st : List Value) (y : (gy × gy) × Nat), evm C0 b0 L0 xs0 236 (547, L, st) y = evm C0 b0 L0 xs0 236 (548, L, .int (Int32.ofInt 0) :: st) y) ∧
  (∀ (L : ri_L) (st : List Value) (y : (gy × gy) × Nat), evm C0 b0 L0 xs0 236 (548, L, st) y = evm C0 b0 L0 xs0 236 (549, L, .int (Int32.ofInt 0) :: st) y) ∧
  (∀ (L : ri_L) (y : (gy × gy) × Nat) (a0 : Nat) (a1 : Int32) (a2 : Int32) (a3 : Int32) (a4 : Int32), evm C0 b0 L0 xs0 236 (549, L, [.int a4, .int a3, .int a2, .int a1, .ref a0]) y = lm_n (calm C0 b0 L0 xs0 230 [.ref a0, .int a1, .int a2, .int a3, .int a4] y) fun v y => evm C0 b0 L0 xs0 236 (552, L, [v]) y) ∧
  (∀ (l0 l1 l2 l3 l4 l5 l6 l7 l9 l10 l11 l12 l13 l14 l15 l16 l17 l18 l19 l20 : Option Value) (st : List Value) (y : (gy × gy) × Nat) (x : Int32), evm C0 b0 L0 xs0 236 (552, [l0, l1, l2, l3, l4, l5, l6, l7, some (.int x), l9, l10, l11, l12, l13, l14, l15, l16, l17, l18, l19, l20], st) y = evm C0 b0 L0 xs0 236 (554, [l0, l1, l2, l3, l4, l5, l6, l7, some (.int x), l9, l10, l11, l12, l13, l14, l15, l16, l17, l18, l19, l20], .int x :: st) y) ∧
  (∀ (L : ri_L) (st : List Value) (y : (gy × gy) × Nat) (z x : Int32), evm C0 b0 L0 xs0 236 (554, L, .int z :: .int x :: st) y = if ¬ x = z then evm C0 b0 L0 xs0 236 (589, L, st) y else evm C0 b0 L0 xs0 236 (557, L, st) y) ∧
  (∀ (l1 l2 l3 l4 l5 l6 l7 l8 l9 l10 l11 l12 l13 l14 l15 l16 l17 l18 l19 l20 : Option Value) (st : List Value) (y : (gy × gy) × Nat) (x : Nat), evm C0 b0 L0 xs0 236 (557, [some (.ref x), l1, l2, l3, l4, l5, l6, l7, l8, l9, l10, l11, l12, l13, l14, l15, l16, l17, l18, l19, l20], st) y = evm C0 b0 L0 xs0 236 (558, [some (.ref x), l1, l2, l3, l4, l5, l6, l7, l8, l9, l10, l11, l12, l13, l14, l15, l16, l17, l18, l19, l20], .ref x :: st) y) ∧
  (∀ (L : ri_L) (st : List Value) (y : (gy × gy) × Nat), evm C0 b0 L0 xs0 236 (558, L, st) y = evm C0 b0 L0 xs0 236 (559, L, .int (Int32.ofInt 4) :: st) y) ∧
  (∀ (l0 l1 l2 l3 l4 l6 l7 l8 l9 l10 l11 l12 l13 l14 l15 l16 l17 l18 l19 l20 : Option Value) (st : List Value) (y : (gy × gy) × Nat) (x : Int32), evm C0 b0 L0 xs0 236 (559, [l0, l1, l2, l3, l4, some (.int x), l6, l7, l8, l9, l10, l11, l12, l13, l14, l15, l16, l17, l18, l19, l20], st) y = evm C0 b0 L0 xs0 236 (561, [l0, l1, l2, l3, l4, some (.int x), l6, l7, l8, l9, l10, l11, l12, l13, l14, l15, l16, l17, l18, l19, l20], .int x :: st) y) ∧
  (∀ (L : ri_L) (st : List Value) (y : (gy × gy) × Nat), evm C0 b0 L0 xs0 236 (561, L, st) y = evm C0 b0 L0 xs0 236 (562, L, .int (Int32.ofInt 1) :: st) y) ∧
  (∀ (L : ri_L) (st : List Value) (y : (gy × gy) × Nat), evm C0 b0 L0 xs0 236 (562, L, st) y = evm C0 b0 L0 xs0 236 (563, L, .int (Int32.ofInt 0) :: st) y) ∧
  (∀ (L : ri_L) (y : (gy × gy) × Nat) (a0 : Nat) (a1 : Int32) (a2 : Int32) (a3 : Int32) (a4 : Int32), evm C0 b0 L0 xs0 236 (563, L, [.int a4, .int a3, .int a2, .int a1, .ref a0]) y = lm_n (calm C0 b0 L0 xs0 230 [.ref a0, .int a1, .int a2, .int a3, .int a4] y) fun v y => evm C0 b0 L0 xs0 236 (566, L, [v]) y) ∧
  (∀ (l0 l1 l2 l3 l4 l5 l6 l7 l8 l9 l11 l12 l13 l14 l15 l16 l17 l18 l19 l20 : Option Value) (st : List Value) (y : (gy × gy) × Nat) (x : Int32), evm C0 b0 L0 xs0 236 (566, [l0, l1, l2, l3, l4, l5, l6, l7, l8, l9, some (.int x), l11, l12, l13, l14, l15, l16, l17, l18, l19, l20], st) y = evm C0 b0 L0 xs0 236 (568, [l0, l1, l2, l3, l4, l5, l6, l7, l8, l9, some (.int x), l11, l12, l13, l14, l15, l16, l17, l18, l19, l20], .int x :: st) y) ∧
  (∀ (L : ri_L) (st : List Value) (y : (gy × gy) × Nat) (z x : Int32), evm C0 b0 L0 xs0 236 (568, L, .int z :: .int x :: st) y = if ¬ x = z then evm C0 b0 L0 xs0 236 (589, L, st) y else evm C0 b0 L0 xs0 236 (571, L, st) y) ∧
  (∀ (l1 l2 l3 l4 l5 l6 l7 l8 l9 l10 l11 l12 l13 l14 l15 l16 l17 l18 l19 l20 : Option Value) (st : List Value) (y : (gy × gy) × Nat) (x : Nat), evm C0 b0 L0 xs0 236 (571, [some (.ref x), l1, l2, l3, l4, l5, l6, l7, l8, l9, l10, l11, l12, l13, l14, l15, l16, l17, l18, l19, l20], st) y = evm C0 b0 L0 xs0 236 (572, [some (.ref x), l1, l2, l3, l4, l5, l6, l7, l8, l9, l10, l11, l12, l13, l14, l15, l16, l17, l18, l19, l20], .ref x :: st) y) ∧
  (∀ (L : ri_L) (st : List Value) (y : (gy × gy) × Nat), evm C0 b0 L0 xs0 236 (572, L, st) y = evm C0 b0 L0 xs0 236 (573, L, .int (Int32.ofInt 3) :: st) y) ∧
  (∀ (l0 l1 l2 l3 l4 l5 l6 l7 l8 l9 l11 l12 l13 l14 l15 l16 l17 l18 l19 l20 : Option Value) (st : List Value) (y : (gy × gy) × Nat) (x : Int32), evm C0 b0 L0 xs0 236 (573, [l0, l1, l2, l3, l4, l5, l6, l7, l8, l9, some (.int x), l11, l12, l13, l14, l15, l16, l17, l18, l19, l20], st) y = evm C0 b0 L0 xs0 236 (575, [l0, l1, l2, l3, l4, l5, l6, l7, l8, l9, some (.int x), l11, l12, l13, l14, l15, l16, l17, l18, l19, l20], .int x :: st) y) ∧
  (∀ (L : ri_L) (st : List Value) (y : (gy × gy) × Nat), evm C0 b0 L0 xs0 236 (575, L, st) y = evm C0 b0 L0 xs0 236 (576, L, .int (Int32.ofInt 3) :: st) y) ∧
  (∀ (L : ri_L) (st : List Value) (y : (gy × gy) × Nat), evm C0 b0 L0 xs0 236 (576, L, st) y = evm C0 b0 L0 xs0 236 (577, L, .int (Int32.ofInt 0) :: st) y) ∧
  (∀ (L : ri_L) (y : (gy × gy) × Nat) (a0 : Nat) (a1 : Int32) (a2 : Int32) (a3 : Int32) (a4 : Int32), evm C0 b0 L0 xs0 236 (577, L, [.int a4, .int a3, .int a2, .int a1, .ref a0]) y = lm_n (calm C0 b0 L0 xs0 230 [.ref a0, .int a1, .int a2, .int a3, .int a4] y) fun v y => evm C0 b0 L0 xs0 236 (580, L, [v]) y) ∧
  (∀ (l0 l1 l2 l3 l4 l5 l6 l7 l8 l9 l10 l11 l13 l14 l15 l16 l17 l18 l19 l20 : Option Value) (st : List Value) (y : (gy × gy) × Nat) (x : Int32), evm C0 b0 L0 xs0 236 (580, [l0, l1, l2, l3, l4, l5, l6, l7, l8, l9, l10, l11, some (.int x), l13, l14, l15, l16, l17, l18, l19, l20], st) y = evm C0 b0 L0 xs0 236 (582, [l0, l1, l2, l3, l4, l5, l6, l7, l8, l9, l10, l11, some (.int x), l13, l14, l15, l16, l17, l18, l19, l20], .int x :: st) y) ∧
  (∀ (L : ri_L) (st : List Value) (y : (gy × gy) × Nat) (z x : Int32), evm C0 b0 L0 xs0 236 (582, L, .int z :: .int x :: st) y = if ¬ x = z then evm C0 b0 L0 xs0 236 (589, L, st) y else evm C0 b0 L0 xs0 236 (585, L, st) y) ∧
  (∀ (L : ri_L) (st : List Value) (y : (gy × gy) × Nat), evm C0 b0 L0 xs0 236 (585, L, st) y = evm C0 b0 L0 xs0 236 (586, L, .int (Int32.ofInt 1) :: st) y) ∧
  (∀ (L : ri_L) (st : List Value) (y : (gy × gy) × Nat), evm C0 b0 L0 xs0 236 (586, L, st) y = evm C0 b0 L0 xs0 236 (590, L, st) y) ∧
  (∀ (L : ri_L) (st : List Value) (y : (gy × gy) × Nat), evm C0 b0 L0 xs0 236 (589, L, st) y = evm C0 b0 L0 xs0 236 (590, L, .int (Int32.ofInt 0) :: st) y) ∧
  (∀ (L : ri_L) (y : (gy × gy) × Nat) (x : Int32), evm C0 b0 L0 xs0 236 (590, L, [.int x]) y = lm_b x (some (.int x, y))) :=
  ⟨fun L st y => em_p rfl rfl,
   fun L st y => em_p rfl rfl,
   fun L y a0 a1 a2 a3 a4 => em_call rfl rfl rfl rfl rfl,
   fun l0 l1 l2 l3 l4 l5 l6 l7 l9 l10 l11 l12 l13 l14 l15 l16 l17 l18 l19 l20 st y x => em_p rfl rfl,
   fun L st y z x => em_b rfl rfl,
   fun l1 l2 l3 l4 l5 l6 l7 l8 l9 l10 l11 l12 l13 l14 l15 l16 l17 l18 l19 l20 st y x => em_p rfl rfl,
   fun L st y => em_p rfl rfl,
   fun l0 l1 l2 l3 l4 l6 l7 l8 l9 l10 l11 l12 l13 l14 l15 l16 l17 l18 l19 l20 st y x => em_p rfl rfl,
   fun L st y => em_p rfl rfl,
   fun L st y => em_p rfl rfl,
   fun L y a0 a1 a2 a3 a4 => em_call rfl rfl rfl rfl rfl,
   fun l0 l1 l2 l3 l4 l5 l6 l7 l8 l9 l11 l12 l13 l14 l15 l16 l17 l18 l19 l20 st y x => em_p rfl rfl,
   fun L st y z x => em_b rfl rfl,
   fun l1 l2 l3 l4 l5 l6 l7 l8 l9 l10 l11 l12 l13 l14 l15 l16 l17 l18 l19 l20 st y x => em_p rfl rfl,
   fun L st y => em_p rfl rfl,
   fun l0 l1 l2 l3 l4 l5 l6 l7 l8 l9 l11 l12 l13 l14 l15 l16 l17 l18 l19 l20 st y x => em_p rfl rfl,
   fun L st y => em_p rfl rfl,
   fun L st y => em_p rfl rfl,
   fun L y a0 a1 a2 a3 a4 => em_call rfl rfl rfl rfl rfl,
   fun l0 l1 l2 l3 l4 l5 l6 l7 l8 l9 l10 l11 l13 l14 l15 l16 l17 l18 l19 l20 st y x => em_p rfl rfl,
   fun L st y z x => em_b rfl rfl,
   fun L st y => em_p rfl rfl,
   fun L st y => em_p rfl rfl,
   fun L st y => em_p rfl rfl,
   fun L y x => em_r rfl rfl⟩
theorem M_237 (x0 : Nat) (x1 : Int32) (y : (gy × gy) × Nat) : calm C0 b0 L0 xs0 237 [.ref x0, .int x1] y = evm C0 b0 L0 xs0 237 (0, [some (.ref x0), some (.int x1), none, none, none, none, none, none, none, none, none, none], []) y := em_in rfl
set_option maxRecDepth 8000 in
theorem G_237_24 (l0 l1 l2 l3 l4 l6 l7 l8 l9 l10 l11 : Option Value) (st : List Value) (y : (gy × gy) × Nat) (x : Int32) : evm C0 b0 L0 xs0 237 (24, [l0, l1, l2, l3, l4, some (.int x), l6, l7, l8, l9, l10, l11], st) y = evm C0 b0 L0 xs0 237 (26, [l0, l1, l2, l3, l4, some (.int x), l6, l7, l8, l9, l10, l11], .int x :: st) y := em_p rfl rfl
set_option maxRecDepth 8000 in
theorem G_237_61 (l0 l1 l2 l3 l4 l5 l6 l7 l8 l10 l11 : Option Value) (st : List Value) (y : (gy × gy) × Nat) (x : Int32) : evm C0 b0 L0 xs0 237 (61, [l0, l1, l2, l3, l4, l5, l6, l7, l8, some (.int x), l10, l11], st) y = evm C0 b0 L0 xs0 237 (63, [l0, l1, l2, l3, l4, l5, l6, l7, l8, some (.int x), l10, l11], .int x :: st) y := em_p rfl rfl
set_option maxRecDepth 8000 in
theorem L_237_0 :
  (∀ (l1 l2 l3 l4 l5 l6 l7 l8 l9 l10 l11 : Option Value) (st : List Value) (y : (gy × gy) × Nat) (x : Nat), evm C0 b0 L0 xs0 237 (0, [some (.ref x), l1, l2, l3, l4, l5, l6, l7, l8, l9, l10, l11], st) y = evm C0 b0 L0 xs0 237 (1, [some (.ref x), l1, l2, l3, l4, l5, l6, l7, l8, l9, l10, l11], .ref x :: st) y) ∧
  (∀ (L : ri_L) (st : List Value) (y : (gy × gy) × Nat), evm C0 b0 L0 xs0 237 (1, L, st) y = evm C0 b0 L0 xs0 237 (2, L, .int (Int32.ofInt 2) :: st) y) ∧
  (∀ (L : ri_L) (st : List Value) (y : (gy × gy) × Nat), evm C0 b0 L0 xs0 237 (2, L, st) y = evm C0 b0 L0 xs0 237 (3, L, .int (Int32.ofInt 2) :: st) y) ∧
  (∀ (L : ri_L) (st : List Value) (y : (gy × gy) × Nat), evm C0 b0 L0 xs0 237 (3, L, st) y = evm C0 b0 L0 xs0 237 (4, L, .int (Int32.ofInt 0) :: st) y) ∧
  (∀ (L : ri_L) (st : List Value) (y : (gy × gy) × Nat), evm C0 b0 L0 xs0 237 (4, L, st) y = evm C0 b0 L0 xs0 237 (5, L, .int (Int32.ofInt 0) :: st) y) ∧
  (∀ (L : ri_L) (y : (gy × gy) × Nat) (a0 : Nat) (a1 : Int32) (a2 : Int32) (a3 : Int32) (a4 : Int32), evm C0 b0 L0 xs0 237 (5, L, [.int a4, .int a3, .int a2, .int a1, .ref a0]) y = lm_n (calm C0 b0 L0 xs0 230 [.ref a0, .int a1, .int a2, .int a3, .int a4] y) fun v y => evm C0 b0 L0 xs0 237 (8, L, [v]) y) ∧
  (∀ (l0 l1 l2 l3 l4 l5 l6 l7 l8 l9 l10 l11 : Option Value) (st : List Value) (y : (gy × gy) × Nat) (x : Int32), evm C0 b0 L0 xs0 237 (8, [l0, l1, l2, l3, l4, l5, l6, l7, l8, l9, l10, l11], .int x :: st) y = evm C0 b0 L0 xs0 237 (9, [l0, ri_clr l1, some (.int x), l3, l4, l5, l6, l7, l8, l9, l10, l11], st) y) ∧
  (∀ (l1 l2 l3 l4 l5 l6 l7 l8 l9 l10 l11 : Option Value) (st : List Value) (y : (gy × gy) × Nat) (x : Nat), evm C0 b0 L0 xs0 237 (9, [some (.ref x), l1, l2, l3, l4, l5, l6, l7, l8, l9, l10, l11], st) y = evm C0 b0 L0 xs0 237 (10, [some (.ref x), l1, l2, l3, l4, l5, l6, l7, l8, l9, l10, l11], .ref x :: st) y) ∧
  (∀ (L : ri_L) (st : List Value) (y : (gy × gy) × Nat), evm C0 b0 L0 xs0 237 (10, L, st) y = evm C0 b0 L0 xs0 237 (11, L, .int (Int32.ofInt 2) :: st) y) ∧
  (∀ (L : ri_L) (st : List Value) (y : (gy × gy) × Nat), evm C0 b0 L0 xs0 237 (11, L, st) y = evm C0 b0 L0 xs0 237 (12, L, .int (Int32.ofInt 0) :: st) y) ∧
  (∀ (L : ri_L) (st : List Value) (y : (gy × gy) × Nat), evm C0 b0 L0 xs0 237 (12, L, st) y = evm C0 b0 L0 xs0 237 (13, L, .int (Int32.ofInt 0) :: st) y) ∧
  (∀ (L : ri_L) (st : List Value) (y : (gy × gy) × Nat), evm C0 b0 L0 xs0 237 (13, L, st) y = evm C0 b0 L0 xs0 237 (14, L, .int (Int32.ofInt 0) :: st) y) ∧
  (∀ (L : ri_L) (y : (gy × gy) × Nat) (a0 : Nat) (a1 : Int32) (a2 : Int32) (a3 : Int32) (a4 : Int32), evm C0 b0 L0 xs0 237 (14, L, [.int a4, .int a3, .int a2, .int a1, .ref a0]) y = lm_n (calm C0 b0 L0 xs0 230 [.ref a0, .int a1, .int a2, .int a3, .int a4] y) fun v y => evm C0 b0 L0 xs0 237 (17, L, [v]) y) ∧
  (∀ (l0 l1 l2 l3 l4 l5 l6 l7 l8 l9 l10 l11 : Option Value) (st : List Value) (y : (gy × gy) × Nat) (x : Int32), evm C0 b0 L0 xs0 237 (17, [l0, l1, l2, l3, l4, l5, l6, l7, l8, l9, l10, l11], .int x :: st) y = evm C0 b0 L0 xs0 237 (18, [l0, l1, ri_clr l2, some (.int x), l4, l5, l6, l7, l8, l9, l10, l11], st) y) ∧
  (∀ (L : ri_L) (st : List Value) (y : (gy × gy) × Nat), evm C0 b0 L0 xs0 237 (18, L, st) y = evm C0 b0 L0 xs0 237 (19, L, .int (Int32.ofInt 1) :: st) y) ∧
  (∀ (l0 l1 l2 l3 l4 l5 l6 l7 l8 l9 l10 l11 : Option Value) (st : List Value) (y : (gy × gy) × Nat) (x : Int32), evm C0 b0 L0 xs0 237 (19, [l0, l1, l2, l3, l4, l5, l6, l7, l8, l9, l10, l11], .int x :: st) y = evm C0 b0 L0 xs0 237 (21, [l0, l1, l2, ri_clr l3, some (.int x), l5, l6, l7, l8, l9, l10, l11], st) y) ∧
  (∀ (L : ri_L) (st : List Value) (y : (gy × gy) × Nat), evm C0 b0 L0 xs0 237 (21, L, st) y = evm C0 b0 L0 xs0 237 (22, L, .int (Int32.ofInt 0) :: st) y) ∧
  (∀ (l0 l1 l2 l3 l4 l5 l6 l7 l8 l9 l10 l11 : Option Value) (st : List Value) (y : (gy × gy) × Nat) (x : Int32), evm C0 b0 L0 xs0 237 (22, [l0, l1, l2, l3, l4, l5, l6, l7, l8, l9, l10, l11], .int x :: st) y = evm C0 b0 L0 xs0 237 (24, [l0, l1, l2, l3, ri_clr l4, some (.int x), l6, l7, l8, l9, l10, l11], st) y) ∧
  (∀ (l0 l1 l2 l4 l5 l6 l7 l8 l9 l10 l11 : Option Value) (st : List Value) (y : (gy × gy) × Nat) (x : Int32), evm C0 b0 L0 xs0 237 (26, [l0, l1, l2, some (.int x), l4, l5, l6, l7, l8, l9, l10, l11], st) y = evm C0 b0 L0 xs0 237 (27, [l0, l1, l2, some (.int x), l4, l5, l6, l7, l8, l9, l10, l11], .int x :: st) y) ∧
  (∀ (L : ri_L) (st : List Value) (y : (gy × gy) × Nat) (z x : Int32), evm C0 b0 L0 xs0 237 (27, L, .int z :: .int x :: st) y = if z ≤ x then evm C0 b0 L0 xs0 237 (224, L, st) y else evm C0 b0 L0 xs0 237 (30, L, st) y) ∧
  (∀ (l0 l1 l2 l3 l5 l6 l7 l8 l9 l10 l11 : Option Value) (st : List Value) (y : (gy × gy) × Nat) (x : Int32), evm C0 b0 L0 xs0 237 (30, [l0, l1, l2, l3, some (.int x), l5, l6, l7, l8, l9, l10, l11], st) y = evm C0 b0 L0 xs0 237 (32, [l0, l1, l2, l3, some (.int x), l5, l6, l7, l8, l9, l10, l11], .int x :: st) y) ∧
  (∀ (L : ri_L) (st : List Value) (y : (gy × gy) × Nat) (x : Int32), evm C0 b0 L0 xs0 237 (32, L, .int x :: st) y = if x = 0 then evm C0 b0 L0 xs0 237 (224, L, st) y else evm C0 b0 L0 xs0 237 (35, L, st) y) ∧
  (∀ (l0 l1 l3 l4 l5 l6 l7 l8 l9 l10 l11 : Option Value) (st : List Value) (y : (gy × gy) × Nat) (x : Int32), evm C0 b0 L0 xs0 237 (35, [l0, l1, some (.int x), l3, l4, l5, l6, l7, l8, l9, l10, l11], st) y = evm C0 b0 L0 xs0 237 (36, [l0, l1, some (.int x), l3, l4, l5, l6, l7, l8, l9, l10, l11], .int x :: st) y) ∧
  (∀ (L : ri_L) (st : List Value) (y : (gy × gy) × Nat) (x : Int32), evm C0 b0 L0 xs0 237 (36, L, .int x :: st) y = if x ≤ 0 then evm C0 b0 L0 xs0 237 (224, L, st) y else evm C0 b0 L0 xs0 237 (39, L, st) y) ∧
  (∀ (l0 l2 l3 l4 l5 l6 l7 l8 l9 l10 l11 : Option Value) (st : List Value) (y : (gy × gy) × Nat) (x : Int32), evm C0 b0 L0 xs0 237 (39, [l0, some (.int x), l2, l3, l4, l5, l6, l7, l8, l9, l10, l11], st) y = evm C0 b0 L0 xs0 237 (40, [l0, some (.int x), l2, l3, l4, l5, l6, l7, l8, l9, l10, l11], .int x :: st) y) ∧
  (∀ (l0 l1 l3 l4 l5 l6 l7 l8 l9 l10 l11 : Option Value) (st : List Value) (y : (gy × gy) × Nat) (x : Int32), evm C0 b0 L0 xs0 237 (40, [l0, l1, some (.int x), l3, l4, l5, l6, l7, l8, l9, l10, l11], st) y = evm C0 b0 L0 xs0 237 (41, [l0, l1, some (.int x), l3, l4, l5, l6, l7, l8, l9, l10, l11], .int x :: st) y) ∧
  (∀ (L : ri_L) (st : List Value) (y : (gy × gy) × Nat) (z x : Int32), evm C0 b0 L0 xs0 237 (41, L, .int z :: .int x :: st) y = if z = 0 then none else evm C0 b0 L0 xs0 237 (42, L, .int (x - x / z * z) :: st) y) ∧
  (∀ (l0 l1 l2 l3 l4 l5 l6 l7 l8 l9 l10 l11 : Option Value) (st : List Value) (y : (gy × gy) × Nat) (x : Int32), evm C0 b0 L0 xs0 237 (42, [l0, l1, l2, l3, l4, l5, l6, l7, l8, l9, l10, l11], .int x :: st) y = evm C0 b0 L0 xs0 237 (44, [l0, l1, l2, l3, l4, ri_clr l5, some (.int x), l7, l8, l9, l10, l11], st) y) ∧
  (∀ (L : ri_L) (st : List Value) (y : (gy × gy) × Nat), evm C0 b0 L0 xs0 237 (44, L, st) y = evm C0 b0 L0 xs0 237 (45, L, .int (Int32.ofInt 0) :: st) y) ∧
  (∀ (l0 l1 l2 l3 l4 l5 l6 l7 l8 l9 l10 l11 : Option Value) (st : List Value) (y : (gy × gy) × Nat) (x : Int32), evm C0 b0 L0 xs0 237 (45, [l0, l1, l2, l3, l4, l5, l6, l7, l8, l9, l10, l11], .int x :: st) y = evm C0 b0 L0 xs0 237 (47, [l0, l1, l2, l3, l4, l5, ri_clr l6, some (.int x), l8, l9, l10, l11], st) y) ∧
  (∀ (l1 l2 l3 l4 l5 l6 l7 l8 l9 l10 l11 : Option Value) (st : List Value) (y : (gy × gy) × Nat) (x : Nat), evm C0 b0 L0 xs0 237 (47, [some (.ref x), l1, l2, l3, l4, l5, l6, l7, l8, l9, l10, l11], st) y = evm C0 b0 L0 xs0 237 (48, [some (.ref x), l1, l2, l3, l4, l5, l6, l7, l8, l9, l10, l11], .ref x :: st) y) ∧
  (∀ (L : ri_L) (st : List Value) (y : (gy × gy) × Nat), evm C0 b0 L0 xs0 237 (48, L, st) y = evm C0 b0 L0 xs0 237 (49, L, .int (Int32.ofInt 3) :: st) y) ∧
  (∀ (l0 l1 l2 l3 l4 l6 l7 l8 l9 l10 l11 : Option Value) (st : List Value) (y : (gy × gy) × Nat) (x : Int32), evm C0 b0 L0 xs0 237 (49, [l0, l1, l2, l3, l4, some (.int x), l6, l7, l8, l9, l10, l11], st) y = evm C0 b0 L0 xs0 237 (51, [l0, l1, l2, l3, l4, some (.int x), l6, l7, l8, l9, l10, l11], .int x :: st) y) ∧
  (∀ (L : ri_L) (st : List Value) (y : (gy × gy) × Nat), evm C0 b0 L0 xs0 237 (51, L, st) y = evm C0 b0 L0 xs0 237 (52, L, .int (Int32.ofInt 0) :: st) y) ∧
  (∀ (L : ri_L) (st : List Value) (y : (gy × gy) × Nat), evm C0 b0 L0 xs0 237 (52, L, st) y = evm C0 b0 L0 xs0 237 (53, L, .int (Int32.ofInt 0) :: st) y) ∧
  (∀ (L : ri_L) (y : (gy × gy) × Nat) (a0 : Nat) (a1 : Int32) (a2 : Int32) (a3 : Int32) (a4 : Int32), evm C0 b0 L0 xs0 237 (53, L, [.int a4, .int a3, .int a2, .int a1, .ref a0]) y = lm_n (calm C0 b0 L0 xs0 230 [.ref a0, .int a1, .int a2, .int a3, .int a4] y) fun v y => evm C0 b0 L0 xs0 237 (56, L, [v]) y) ∧
  (∀ (l0 l1 l2 l3 l4 l5 l6 l7 l8 l9 l10 l11 : Option Value) (st : List Value) (y : (gy × gy) × Nat) (x : Int32), evm C0 b0 L0 xs0 237 (56, [l0, l1, l2, l3, l4, l5, l6, l7, l8, l9, l10, l11], .int x :: st) y = evm C0 b0 L0 xs0 237 (58, [l0, l1, l2, l3, l4, l5, l6, ri_clr l7, some (.int x), l9, l10, l11], st) y) ∧
  (∀ (L : ri_L) (st : List Value) (y : (gy × gy) × Nat), evm C0 b0 L0 xs0 237 (58, L, st) y = evm C0 b0 L0 xs0 237 (59, L, .int (Int32.ofInt 0) :: st) y) ∧
  (∀ (l0 l1 l2 l3 l4 l5 l6 l7 l8 l9 l10 l11 : Option Value) (st : List Value) (y : (gy × gy) × Nat) (x : Int32), evm C0 b0 L0 xs0 237 (59, [l0, l1, l2, l3, l4, l5, l6, l7, l8, l9, l10, l11], .int x :: st) y = evm C0 b0 L0 xs0 237 (61, [l0, l1, l2, l3, l4, l5, l6, l7, ri_clr l8, some (.int x), l10, l11], st) y) ∧
  (∀ (l0 l1 l2 l3 l4 l5 l6 l7 l9 l10 l11 : Option Value) (st : List Value) (y : (gy × gy) × Nat) (x : Int32), evm C0 b0 L0 xs0 237 (63, [l0, l1, l2, l3, l4, l5, l6, l7, some (.int x), l9, l10, l11], st) y = evm C0 b0 L0 xs0 237 (65, [l0, l1, l2, l3, l4, l5, l6, l7, some (.int x), l9, l10, l11], .int x :: st) y) :=
  ⟨fun l1 l2 l3 l4 l5 l6 l7 l8 l9 l10 l11 st y x => em_p rfl rfl,
   fun L st y => em_p rfl rfl,
   fun L st y => em_p rfl rfl,
   fun L st y => em_p rfl rfl,
   fun L st y => em_p rfl rfl,
   fun L y a0 a1 a2 a3 a4 => em_call rfl rfl rfl rfl rfl,
   fun l0 l1 l2 l3 l4 l5 l6 l7 l8 l9 l10 l11 st y x => em_p rfl rfl,
   fun l1 l2 l3 l4 l5 l6 l7 l8 l9 l10 l11 st y x => em_p rfl rfl,
   fun L st y => em_p rfl rfl,
   fun L st y => em_p rfl rfl,
   fun L st y => em_p rfl rfl,
   fun L st y => em_p rfl rfl,
   fun L y a0 a1 a2 a3 a4 => em_call rfl rfl rfl rfl rfl,
   fun l0 l1 l2 l3 l4 l5 l6 l7 l8 l9 l10 l11 st y x => em_p rfl rfl,
   fun L st y => em_p rfl rfl,
   fun l0 l1 l2 l3 l4 l5 l6 l7 l8 l9 l10 l11 st y x => em_p rfl rfl,
   fun L st y => em_p rfl rfl,
   fun l0 l1 l2 l3 l4 l5 l6 l7 l8 l9 l10 l11 st y x => em_p rfl rfl,
   fun l0 l1 l2 l4 l5 l6 l7 l8 l9 l10 l11 st y x => em_p rfl rfl,
   fun L st y z x => em_b rfl rfl,
   fun l0 l1 l2 l3 l5 l6 l7 l8 l9 l10 l11 st y x => em_p rfl rfl,
   fun L st y x => em_b rfl rfl,
   fun l0 l1 l3 l4 l5 l6 l7 l8 l9 l10 l11 st y x => em_p rfl rfl,
   fun L st y x => em_b rfl rfl,
   fun l0 l2 l3 l4 l5 l6 l7 l8 l9 l10 l11 st y x => em_p rfl rfl,
   fun l0 l1 l3 l4 l5 l6 l7 l8 l9 l10 l11 st y x => em_p rfl rfl,
   fun L st y z x => em_d rfl rfl,
   fun l0 l1 l2 l3 l4 l5 l6 l7 l8 l9 l10 l11 st y x => em_p rfl rfl,
   fun L st y => em_p rfl rfl,
   fun l0 l1 l2 l3 l4 l5 l6 l7 l8 l9 l10 l11 st y x => em_p rfl rfl,
   fun l1 l2 l3 l4 l5 l6 l7 l8 l9 l10 l11 st y x => em_p rfl rfl,
   fun L st y => em_p rfl rfl,
   fun l0 l1 l2 l3 l4 l6 l7 l8 l9 l10 l11 st y x => em_p rfl rfl,
   fun L st y => em_p rfl rfl,
   fun L st y => em_p rfl rfl,
   fun L y a0 a1 a2 a3 a4 => em_call rfl rfl rfl rfl rfl,
   fun l0 l1 l2 l3 l4 l5 l6 l7 l8 l9 l10 l11 st y x => em_p rfl rfl,
   fun L st y => em_p rfl rfl,
   fun l0 l1 l2 l3 l4 l5 l6 l7 l8 l9 l10 l11 st y x => em_p rfl rfl,
   fun l0 l1 l2 l3 l4 l5 l6 l7 l9 l10 l11 st y x => em_p rfl rfl⟩
set_option maxRecDepth 8000 in
theorem L_237_1 :
  (∀ (L : ri_L) (st : List Value) (y : (gy × gy) × Nat) (z x : Int32), evm C0 b0 L0 xs0 237 (65, L, .int z :: .int x :: st) y = if z ≤ x then evm C0 b0 L0 xs0 237 (190, L, st) y else evm C0 b0 L0 xs0 237 (68, L, st) y) ∧
  (∀ (l0 l1 l2 l3 l5 l6 l7 l8 l9 l10 l11 : Option Value) (st : List Value) (y : (gy × gy) × Nat) (x : Int32), evm C0 b0 L0 xs0 237 (68, [l0, l1, l2, l3, some (.int x), l5, l6, l7, l8, l9, l10, l11], st) y = evm C0 b0 L0 xs0 237 (70, [l0, l1, l2, l3, some (.int x), l5, l6, l7, l8, l9, l10, l11], .int x :: st) y) ∧
  (∀ (L : ri_L) (st : List Value) (y : (gy × gy) × Nat) (x : Int32), evm C0 b0 L0 xs0 237 (70, L, .int x :: st) y = if x = 0 then evm C0 b0 L0 xs0 237 (190, L, st) y else evm C0 b0 L0 xs0 237 (73, L, st) y) ∧
  (∀ (l1 l2 l3 l4 l5 l6 l7 l8 l9 l10 l11 : Option Value) (st : List Value) (y : (gy × gy) × Nat) (x : Nat), evm C0 b0 L0 xs0 237 (73, [some (.ref x), l1, l2, l3, l4, l5, l6, l7, l8, l9, l10, l11], st) y = evm C0 b0 L0 xs0 237 (74, [some (.ref x), l1, l2, l3, l4, l5, l6, l7, l8, l9, l10, l11], .ref x :: st) y) ∧
  (∀ (l0 l1 l2 l3 l4 l5 l7 l8 l9 l10 l11 : Option Value) (st : List Value) (y : (gy × gy) × Nat) (x : Int32), evm C0 b0 L0 xs0 237 (74, [l0, l1, l2, l3, l4, l5, some (.int x), l7, l8, l9, l10, l11], st) y = evm C0 b0 L0 xs0 237 (76, [l0, l1, l2, l3, l4, l5, some (.int x), l7, l8, l9, l10, l11], .int x :: st) y) ∧
  (∀ (l0 l1 l2 l3 l4 l6 l7 l8 l9 l10 l11 : Option Value) (st : List Value) (y : (gy × gy) × Nat) (x : Int32), evm C0 b0 L0 xs0 237 (76, [l0, l1, l2, l3, l4, some (.int x), l6, l7, l8, l9, l10, l11], st) y = evm C0 b0 L0 xs0 237 (78, [l0, l1, l2, l3, l4, some (.int x), l6, l7, l8, l9, l10, l11], .int x :: st) y) ∧
  (∀ (l0 l1 l2 l3 l4 l5 l6 l7 l8 l10 l11 : Option Value) (st : List Value) (y : (gy × gy) × Nat) (x : Int32), evm C0 b0 L0 xs0 237 (78, [l0, l1, l2, l3, l4, l5, l6, l7, l8, some (.int x), l10, l11], st) y = evm C0 b0 L0 xs0 237 (80, [l0, l1, l2, l3, l4, l5, l6, l7, l8, some (.int x), l10, l11], .int x :: st) y) ∧
  (∀ (L : ri_L) (st : List Value) (y : (gy × gy) × Nat), evm C0 b0 L0 xs0 237 (80, L, st) y = evm C0 b0 L0 xs0 237 (81, L, .int (Int32.ofInt 0) :: st) y) ∧
  (∀ (L : ri_L) (y : (gy × gy) × Nat) (a0 : Nat) (a1 : Int32) (a2 : Int32) (a3 : Int32) (a4 : Int32), evm C0 b0 L0 xs0 237 (81, L, [.int a4, .int a3, .int a2, .int a1, .ref a0]) y = lm_n (calm C0 b0 L0 xs0 328 [.ref a0, .int a1, .int a2, .int a3, .int a4] y) fun v y => evm C0 b0 L0 xs0 237 (84, L, [v]) y) ∧
  (∀ (l0 l1 l2 l3 l4 l5 l6 l7 l8 l9 l10 l11 : Option Value) (st : List Value) (y : (gy × gy) × Nat) (x : Int32), evm C0 b0 L0 xs0 237 (84, [l0, l1, l2, l3, l4, l5, l6, l7, l8, l9, l10, l11], .int x :: st) y = evm C0 b0 L0 xs0 237 (86, [l0, l1, l2, l3, l4, l5, l6, l7, l8, ri_clr l9, some (.int x), l11], st) y) ∧
  (∀ (l1 l2 l3 l4 l5 l6 l7 l8 l9 l10 l11 : Option Value) (st : List Value) (y : (gy × gy) × Nat) (x : Nat), evm C0 b0 L0 xs0 237 (86, [some (.ref x), l1, l2, l3, l4, l5, l6, l7, l8, l9, l10, l11], st) y = evm C0 b0 L0 xs0 237 (87, [some (.ref x), l1, l2, l3, l4, l5, l6, l7, l8, l9, l10, l11], .ref x :: st) y) ∧
  (∀ (L : ri_L) (st : List Value) (y : (gy × gy) × Nat), evm C0 b0 L0 xs0 237 (87, L, st) y = evm C0 b0 L0 xs0 237 (88, L, .int (Int32.ofInt 4) :: st) y) ∧
  (∀ (l0 l1 l2 l3 l4 l5 l7 l8 l9 l10 l11 : Option Value) (st : List Value) (y : (gy × gy) × Nat) (x : Int32), evm C0 b0 L0 xs0 237 (88, [l0, l1, l2, l3, l4, l5, some (.int x), l7, l8, l9, l10, l11], st) y = evm C0 b0 L0 xs0 237 (90, [l0, l1, l2, l3, l4, l5, some (.int x), l7, l8, l9, l10, l11], .int x :: st) y) ∧
  (∀ (L : ri_L) (st : List Value) (y : (gy × gy) × Nat), evm C0 b0 L0 xs0 237 (90, L, st) y = evm C0 b0 L0 xs0 237 (91, L, .int (Int32.ofInt 1) :: st) y) ∧
  (∀ (L : ri_L) (st : List Value) (y : (gy × gy) × Nat), evm C0 b0 L0 xs0 237 (91, L, st) y = evm C0 b0 L0 xs0 237 (92, L, .int (Int32.ofInt 0) :: st) y) ∧
  (∀ (L : ri_L) (y : (gy × gy) × Nat) (a0 : Nat) (a1 : Int32) (a2 : Int32) (a3 : Int32) (a4 : Int32), evm C0 b0 L0 xs0 237 (92, L, [.int a4, .int a3, .int a2, .int a1, .ref a0]) y = lm_n (calm C0 b0 L0 xs0 230 [.ref a0, .int a1, .int a2, .int a3, .int a4] y) fun v y => evm C0 b0 L0 xs0 237 (95, L, [v]) y) ∧
  (∀ (l0 l1 l2 l3 l4 l6 l7 l8 l9 l10 l11 : Option Value) (st : List Value) (y : (gy × gy) × Nat) (x : Int32), evm C0 b0 L0 xs0 237 (95, [l0, l1, l2, l3, l4, some (.int x), l6, l7, l8, l9, l10, l11], st) y = evm C0 b0 L0 xs0 237 (97, [l0, l1, l2, l3, l4, some (.int x), l6, l7, l8, l9, l10, l11], .int x :: st) y) ∧
  (∀ (L : ri_L) (st : List Value) (y : (gy × gy) × Nat) (z x : Int32), evm C0 b0 L0 xs0 237 (97, L, .int z :: .int x :: st) y = if ¬ x = z then evm C0 b0 L0 xs0 237 (118, L, st) y else evm C0 b0 L0 xs0 237 (100, L, st) y) ∧
  (∀ (l1 l2 l3 l4 l5 l6 l7 l8 l9 l10 l11 : Option Value) (st : List Value) (y : (gy × gy) × Nat) (x : Nat), evm C0 b0 L0 xs0 237 (100, [some (.ref x), l1, l2, l3, l4, l5, l6, l7, l8, l9, l10, l11], st) y = evm C0 b0 L0 xs0 237 (101, [some (.ref x), l1, l2, l3, l4, l5, l6, l7, l8, l9, l10, l11], .ref x :: st) y) ∧
  (∀ (L : ri_L) (st : List Value) (y : (gy × gy) × Nat), evm C0 b0 L0 xs0 237 (101, L, st) y = evm C0 b0 L0 xs0 237 (102, L, .int (Int32.ofInt 4) :: st) y) ∧
  (∀ (l0 l1 l2 l3 l4 l5 l7 l8 l9 l10 l11 : Option Value) (st : List Value) (y : (gy × gy) × Nat) (x : Int32), evm C0 b0 L0 xs0 237 (102, [l0, l1, l2, l3, l4, l5, some (.int x), l7, l8, l9, l10, l11], st) y = evm C0 b0 L0 xs0 237 (104, [l0, l1, l2, l3, l4, l5, some (.int x), l7, l8, l9, l10, l11], .int x :: st) y) ∧
  (∀ (L : ri_L) (st : List Value) (y : (gy × gy) × Nat), evm C0 b0 L0 xs0 237 (104, L, st) y = evm C0 b0 L0 xs0 237 (105, L, .int (Int32.ofInt 3) :: st) y) ∧
  (∀ (L : ri_L) (st : List Value) (y : (gy × gy) × Nat), evm C0 b0 L0 xs0 237 (105, L, st) y = evm C0 b0 L0 xs0 237 (106, L, .int (Int32.ofInt 0) :: st) y) ∧
  (∀ (L : ri_L) (y : (gy × gy) × Nat) (a0 : Nat) (a1 : Int32) (a2 : Int32) (a3 : Int32) (a4 : Int32), evm C0 b0 L0 xs0 237 (106, L, [.int a4, .int a3, .int a2, .int a1, .ref a0]) y = lm_n (calm C0 b0 L0 xs0 230 [.ref a0, .int a1, .int a2, .int a3, .int a4] y) fun v y => evm C0 b0 L0 xs0 237 (109, L, [v]) y) ∧
  (∀ (l0 l1 l2 l3 l4 l5 l6 l7 l8 l10 l11 : Option Value) (st : List Value) (y : (gy × gy) × Nat) (x : Int32), evm C0 b0 L0 xs0 237 (109, [l0, l1, l2, l3, l4, l5, l6, l7, l8, some (.int x), l10, l11], st) y = evm C0 b0 L0 xs0 237 (111, [l0, l1, l2, l3, l4, l5, l6, l7, l8, some (.int x), l10, l11], .int x :: st) y) ∧
  (∀ (L : ri_L) (st : List Value) (y : (gy × gy) × Nat) (z x : Int32), evm C0 b0 L0 xs0 237 (111, L, .int z :: .int x :: st) y = if ¬ x = z then evm C0 b0 L0 xs0 237 (118, L, st) y else evm C0 b0 L0 xs0 237 (114, L, st) y) ∧
  (∀ (L : ri_L) (st : List Value) (y : (gy × gy) × Nat), evm C0 b0 L0 xs0 237 (114, L, st) y = evm C0 b0 L0 xs0 237 (115, L, .int (Int32.ofInt 1) :: st) y) ∧
  (∀ (L : ri_L) (st : List Value) (y : (gy × gy) × Nat), evm C0 b0 L0 xs0 237 (115, L, st) y = evm C0 b0 L0 xs0 237 (119, L, st) y) ∧
  (∀ (L : ri_L) (st : List Value) (y : (gy × gy) × Nat), evm C0 b0 L0 xs0 237 (118, L, st) y = evm C0 b0 L0 xs0 237 (119, L, .int (Int32.ofInt 0) :: st) y) ∧
  (∀ (l0 l1 l2 l3 l4 l5 l6 l7 l8 l9 l10 l11 : Option Value) (st : List Value) (y : (gy × gy) × Nat) (x : Int32), evm C0 b0 L0 xs0 237 (119, [l0, l1, l2, l3, l4, l5, l6, l7, l8, l9, l10, l11], .int x :: st) y = evm C0 b0 L0 xs0 237 (121, [l0, l1, l2, l3, l4, l5, l6, l7, l8, l9, ri_clr l10, some (.int x)], st) y) ∧
  (∀ (l0 l1 l2 l3 l4 l5 l6 l8 l9 l10 l11 : Option Value) (st : List Value) (y : (gy × gy) × Nat) (x : Int32), evm C0 b0 L0 xs0 237 (121, [l0, l1, l2, l3, l4, l5, l6, some (.int x), l8, l9, l10, l11], st) y = evm C0 b0 L0 xs0 237 (123, [l0, l1, l2, l3, l4, l5, l6, some (.int x), l8, l9, l10, l11], .int x :: st) y) ∧
  (∀ (l0 l1 l2 l3 l4 l5 l6 l7 l8 l9 l11 : Option Value) (st : List Value) (y : (gy × gy) × Nat) (x : Int32), evm C0 b0 L0 xs0 237 (123, [l0, l1, l2, l3, l4, l5, l6, l7, l8, l9, some (.int x), l11], st) y = evm C0 b0 L0 xs0 237 (125, [l0, l1, l2, l3, l4, l5, l6, l7, l8, l9, some (.int x), l11], .int x :: st) y) ∧
  (∀ (L : ri_L) (st : List Value) (y : (gy × gy) × Nat), evm C0 b0 L0 xs0 237 (125, L, st) y = evm C0 b0 L0 xs0 237 (126, L, .int (Int32.ofInt (-1)) :: st) y) ∧
  (∀ (L : ri_L) (st : List Value) (y : (gy × gy) × Nat) (z x : Int32), evm C0 b0 L0 xs0 237 (126, L, .int z :: .int x :: st) y = if ¬ x = z then evm C0 b0 L0 xs0 237 (133, L, st) y else evm C0 b0 L0 xs0 237 (129, L, st) y) ∧
  (∀ (L : ri_L) (st : List Value) (y : (gy × gy) × Nat), evm C0 b0 L0 xs0 237 (129, L, st) y = evm C0 b0 L0 xs0 237 (130, L, .int (Int32.ofInt 0) :: st) y) ∧
  (∀ (L : ri_L) (st : List Value) (y : (gy × gy) × Nat), evm C0 b0 L0 xs0 237 (130, L, st) y = evm C0 b0 L0 xs0 237 (137, L, st) y) ∧
  (∀ (L : ri_L) (st : List Value) (y : (gy × gy) × Nat), evm C0 b0 L0 xs0 237 (133, L, st) y = evm C0 b0 L0 xs0 237 (134, L, .int (Int32.ofInt 1) :: st) y) ∧
  (∀ (l0 l1 l2 l3 l4 l5 l6 l7 l8 l10 l11 : Option Value) (st : List Value) (y : (gy × gy) × Nat) (x : Int32), evm C0 b0 L0 xs0 237 (134, [l0, l1, l2, l3, l4, l5, l6, l7, l8, some (.int x), l10, l11], st) y = evm C0 b0 L0 xs0 237 (136, [l0, l1, l2, l3, l4, l5, l6, l7, l8, some (.int x), l10, l11], .int x :: st) y) ∧
  (∀ (L : ri_L) (st : List Value) (y : (gy × gy) × Nat) (z x : Int32), evm C0 b0 L0 xs0 237 (136, L, .int z :: .int x :: st) y = evm C0 b0 L0 xs0 237 (137, L, .int (x <<< (z &&& 31)) :: st) y) ∧
  (∀ (L : ri_L) (st : List Value) (y : (gy × gy) × Nat) (z x : Int32), evm C0 b0 L0 xs0 237 (137, L, .int z :: .int x :: st) y = evm C0 b0 L0 xs0 237 (138, L, .int (x ||| z) :: st) y) :=
  ⟨fun L st y z x => em_b rfl rfl,
   fun l0 l1 l2 l3 l5 l6 l7 l8 l9 l10 l11 st y x => em_p rfl rfl,
   fun L st y x => em_b rfl rfl,
   fun l1 l2 l3 l4 l5 l6 l7 l8 l9 l10 l11 st y x => em_p rfl rfl,
   fun l0 l1 l2 l3 l4 l5 l7 l8 l9 l10 l11 st y x => em_p rfl rfl,
   fun l0 l1 l2 l3 l4 l6 l7 l8 l9 l10 l11 st y x => em_p rfl rfl,
   fun l0 l1 l2 l3 l4 l5 l6 l7 l8 l10 l11 st y x => em_p rfl rfl,
   fun L st y => em_p rfl rfl,
   fun L y a0 a1 a2 a3 a4 => em_call rfl rfl rfl rfl rfl,
   fun l0 l1 l2 l3 l4 l5 l6 l7 l8 l9 l10 l11 st y x => em_p rfl rfl,
   fun l1 l2 l3 l4 l5 l6 l7 l8 l9 l10 l11 st y x => em_p rfl rfl,
   fun L st y => em_p rfl rfl,
   fun l0 l1 l2 l3 l4 l5 l7 l8 l9 l10 l11 st y x => em_p rfl rfl,
   fun L st y => em_p rfl rfl,
   fun L st y => em_p rfl rfl,
   fun L y a0 a1 a2 a3 a4 => em_call rfl rfl rfl rfl rfl,
   fun l0 l1 l2 l3 l4 l6 l7 l8 l9 l10 l11 st y x => em_p rfl rfl,
   fun L st y z x => em_b rfl rfl,
   fun l1 l2 l3 l4 l5 l6 l7 l8 l9 l10 l11 st y x => em_p rfl rfl,
   fun L st y => em_p rfl rfl,
   fun l0 l1 l2 l3 l4 l5 l7 l8 l9 l10 l11 st y x => em_p rfl rfl,
   fun L st y => em_p rfl rfl,
   fun L st y => em_p rfl rfl,
   fun L y a0 a1 a2 a3 a4 => em_call rfl rfl rfl rfl rfl,
   fun l0 l1 l2 l3 l4 l5 l6 l7 l8 l10 l11 st y x => em_p rfl rfl,
   fun L st y z x => em_b rfl rfl,
   fun L st y => em_p rfl rfl,
   fun L st y => em_p rfl rfl,
   fun L st y => em_p rfl rfl,
   fun l0 l1 l2 l3 l4 l5 l6 l7 l8 l9 l10 l11 st y x => em_p rfl rfl,
   fun l0 l1 l2 l3 l4 l5 l6 l8 l9 l10 l11 st y x => em_p rfl rfl,
   fun l0 l1 l2 l3 l4 l5 l6 l7 l8 l9 l11 st y x => em_p rfl rfl,
   fun L st y => em_p rfl rfl,
   fun L st y z x => em_b rfl rfl,
   fun L st y => em_p rfl rfl,
   fun L st y => em_p rfl rfl,
   fun L st y => em_p rfl rfl,
   fun l0 l1 l2 l3 l4 l5 l6 l7 l8 l10 l11 st y x => em_p rfl rfl,
   fun L st y z x => em_p rfl rfl,
   fun L st y z x => em_p rfl rfl⟩
set_option maxRecDepth 8000 in
theorem L_237_2 :
  (∀ (l0 l1 l2 l3 l4 l5 l6 l7 l8 l9 l10 l11 : Option Value) (st : List Value) (y : (gy × gy) × Nat) (x : Int32), evm C0 b0 L0 xs0 237 (138, [l0, l1, l2, l3, l4, l5, l6, l7, l8, l9, l10, l11], .int x :: st) y = evm C0 b0 L0 xs0 237 (140, [l0, l1, l2, l3, l4, l5, ri_clr l6, some (.int x), l8, l9, l10, l11], st) y) ∧
  (∀ (l0 l1 l2 l3 l4 l5 l6 l7 l8 l9 l11 : Option Value) (st : List Value) (y : (gy × gy) × Nat) (x : Int32), evm C0 b0 L0 xs0 237 (140, [l0, l1, l2, l3, l4, l5, l6, l7, l8, l9, some (.int x), l11], st) y = evm C0 b0 L0 xs0 237 (142, [l0, l1, l2, l3, l4, l5, l6, l7, l8, l9, some (.int x), l11], .int x :: st) y) ∧
  (∀ (l1 l2 l3 l4 l5 l6 l7 l8 l9 l10 l11 : Option Value) (st : List Value) (y : (gy × gy) × Nat) (x : Nat), evm C0 b0 L0 xs0 237 (142, [some (.ref x), l1, l2, l3, l4, l5, l6, l7, l8, l9, l10, l11], st) y = evm C0 b0 L0 xs0 237 (143, [some (.ref x), l1, l2, l3, l4, l5, l6, l7, l8, l9, l10, l11], .ref x :: st) y) ∧
  (∀ (l0 l1 l2 l3 l4 l5 l7 l8 l9 l10 l11 : Option Value) (st : List Value) (y : (gy × gy) × Nat) (x : Int32), evm C0 b0 L0 xs0 237 (143, [l0, l1, l2, l3, l4, l5, some (.int x), l7, l8, l9, l10, l11], st) y = evm C0 b0 L0 xs0 237 (145, [l0, l1, l2, l3, l4, l5, some (.int x), l7, l8, l9, l10, l11], .int x :: st) y) ∧
  (∀ (l0 l1 l2 l3 l4 l6 l7 l8 l9 l10 l11 : Option Value) (st : List Value) (y : (gy × gy) × Nat) (x : Int32), evm C0 b0 L0 xs0 237 (145, [l0, l1, l2, l3, l4, some (.int x), l6, l7, l8, l9, l10, l11], st) y = evm C0 b0 L0 xs0 237 (147, [l0, l1, l2, l3, l4, some (.int x), l6, l7, l8, l9, l10, l11], .int x :: st) y) ∧
  (∀ (l0 l1 l2 l3 l4 l5 l6 l7 l8 l10 l11 : Option Value) (st : List Value) (y : (gy × gy) × Nat) (x : Int32), evm C0 b0 L0 xs0 237 (147, [l0, l1, l2, l3, l4, l5, l6, l7, l8, some (.int x), l10, l11], st) y = evm C0 b0 L0 xs0 237 (149, [l0, l1, l2, l3, l4, l5, l6, l7, l8, some (.int x), l10, l11], .int x :: st) y) ∧
  (∀ (L : ri_L) (st : List Value) (y : (gy × gy) × Nat), evm C0 b0 L0 xs0 237 (149, L, st) y = evm C0 b0 L0 xs0 237 (150, L, .int (Int32.ofInt 1) :: st) y) ∧
  (∀ (L : ri_L) (y : (gy × gy) × Nat) (a0 : Nat) (a1 : Int32) (a2 : Int32) (a3 : Int32) (a4 : Int32) (s0 : Value), evm C0 b0 L0 xs0 237 (150, L, [.int a4, .int a3, .int a2, .int a1, .ref a0, s0]) y = lm_n (calm C0 b0 L0 xs0 328 [.ref a0, .int a1, .int a2, .int a3, .int a4] y) fun v y => evm C0 b0 L0 xs0 237 (153, L, [v, s0]) y) ∧
  (∀ (L : ri_L) (st : List Value) (y : (gy × gy) × Nat) (z x : Int32), evm C0 b0 L0 xs0 237 (153, L, .int z :: .int x :: st) y = if ¬ x = z then evm C0 b0 L0 xs0 237 (181, L, st) y else evm C0 b0 L0 xs0 237 (156, L, st) y) ∧
  (∀ (l0 l1 l2 l3 l4 l5 l6 l7 l8 l9 l11 : Option Value) (st : List Value) (y : (gy × gy) × Nat) (x : Int32), evm C0 b0 L0 xs0 237 (156, [l0, l1, l2, l3, l4, l5, l6, l7, l8, l9, some (.int x), l11], st) y = evm C0 b0 L0 xs0 237 (158, [l0, l1, l2, l3, l4, l5, l6, l7, l8, l9, some (.int x), l11], .int x :: st) y) ∧
  (∀ (L : ri_L) (st : List Value) (y : (gy × gy) × Nat), evm C0 b0 L0 xs0 237 (158, L, st) y = evm C0 b0 L0 xs0 237 (159, L, .int (Int32.ofInt (-1)) :: st) y) ∧
  (∀ (L : ri_L) (st : List Value) (y : (gy × gy) × Nat) (z x : Int32), evm C0 b0 L0 xs0 237 (159, L, .int z :: .int x :: st) y = if x < z then evm C0 b0 L0 xs0 237 (181, L, st) y else evm C0 b0 L0 xs0 237 (162, L, st) y) ∧
  (∀ (l0 l1 l2 l3 l4 l5 l6 l7 l8 l9 l11 : Option Value) (st : List Value) (y : (gy × gy) × Nat) (x : Int32), evm C0 b0 L0 xs0 237 (162, [l0, l1, l2, l3, l4, l5, l6, l7, l8, l9, some (.int x), l11], st) y = evm C0 b0 L0 xs0 237 (164, [l0, l1, l2, l3, l4, l5, l6, l7, l8, l9, some (.int x), l11], .int x :: st) y) ∧
  (∀ (L : ri_L) (st : List Value) (y : (gy × gy) × Nat) (x : Int32), evm C0 b0 L0 xs0 237 (164, L, .int x :: st) y = if ¬ x = 0 then evm C0 b0 L0 xs0 237 (171, L, st) y else evm C0 b0 L0 xs0 237 (167, L, st) y) ∧
  (∀ (L : ri_L) (st : List Value) (y : (gy × gy) × Nat), evm C0 b0 L0 xs0 237 (167, L, st) y = evm C0 b0 L0 xs0 237 (168, L, .int (Int32.ofInt 1) :: st) y) ∧
  (∀ (L : ri_L) (st : List Value) (y : (gy × gy) × Nat), evm C0 b0 L0 xs0 237 (168, L, st) y = evm C0 b0 L0 xs0 237 (172, L, st) y) ∧
  (∀ (L : ri_L) (st : List Value) (y : (gy × gy) × Nat), evm C0 b0 L0 xs0 237 (171, L, st) y = evm C0 b0 L0 xs0 237 (172, L, .int (Int32.ofInt 0) :: st) y) ∧
  (∀ (l0 l1 l2 l3 l4 l5 l6 l7 l8 l9 l10 : Option Value) (st : List Value) (y : (gy × gy) × Nat) (x : Int32), evm C0 b0 L0 xs0 237 (172, [l0, l1, l2, l3, l4, l5, l6, l7, l8, l9, l10, some (.int x)], st) y = evm C0 b0 L0 xs0 237 (174, [l0, l1, l2, l3, l4, l5, l6, l7, l8, l9, l10, some (.int x)], .int x :: st) y) ∧
  (∀ (L : ri_L) (st : List Value) (y : (gy × gy) × Nat) (z x : Int32), evm C0 b0 L0 xs0 237 (174, L, .int z :: .int x :: st) y = if ¬ x = z then evm C0 b0 L0 xs0 237 (181, L, st) y else evm C0 b0 L0 xs0 237 (177, L, st) y) ∧
  (∀ (L : ri_L) (st : List Value) (y : (gy × gy) × Nat), evm C0 b0 L0 xs0 237 (177, L, st) y = evm C0 b0 L0 xs0 237 (178, L, .int (Int32.ofInt 1) :: st) y) ∧
  (∀ (L : ri_L) (st : List Value) (y : (gy × gy) × Nat), evm C0 b0 L0 xs0 237 (178, L, st) y = evm C0 b0 L0 xs0 237 (182, L, st) y) ∧
  (∀ (L : ri_L) (st : List Value) (y : (gy × gy) × Nat), evm C0 b0 L0 xs0 237 (181, L, st) y = evm C0 b0 L0 xs0 237 (182, L, .int (Int32.ofInt 0) :: st) y) ∧
  (∀ (l0 l1 l2 l3 l4 l5 l6 l7 l8 l9 l10 l11 : Option Value) (st : List Value) (y : (gy × gy) × Nat) (x : Int32), evm C0 b0 L0 xs0 237 (182, [l0, l1, l2, l3, l4, l5, l6, l7, l8, l9, l10, l11], .int x :: st) y = evm C0 b0 L0 xs0 237 (184, [l0, l1, l2, ri_clr l3, some (.int x), l5, l6, l7, l8, l9, l10, l11], st) y) ∧
  (∀ (l0 l1 l2 l3 l4 l5 l6 l7 l8 l10 l11 : Option Value) (st : List Value) (y : (gy × gy) × Nat) (x : Int32), evm C0 b0 L0 xs0 237 (184, [l0, l1, l2, l3, l4, l5, l6, l7, l8, some (.int x), l10, l11], st) y = evm C0 b0 L0 xs0 237 (187, [l0, l1, l2, l3, l4, l5, l6, l7, ri_clr l8, some (.int (x + (Int32.ofInt 1))), l10, l11], st) y) ∧
  (∀ (L : ri_L) (st : List Value) (y : (gy × gy) × Nat), evm C0 b0 L0 xs0 237 (187, L, st) y = evm C0 b0 L0 xs0 237 (61, L, st) y) ∧
  (∀ (l0 l1 l2 l3 l5 l6 l7 l8 l9 l10 l11 : Option Value) (st : List Value) (y : (gy × gy) × Nat) (x : Int32), evm C0 b0 L0 xs0 237 (190, [l0, l1, l2, l3, some (.int x), l5, l6, l7, l8, l9, l10, l11], st) y = evm C0 b0 L0 xs0 237 (192, [l0, l1, l2, l3, some (.int x), l5, l6, l7, l8, l9, l10, l11], .int x :: st) y) ∧
  (∀ (L : ri_L) (st : List Value) (y : (gy × gy) × Nat) (x : Int32), evm C0 b0 L0 xs0 237 (192, L, .int x :: st) y = if x = 0 then evm C0 b0 L0 xs0 237 (215, L, st) y else evm C0 b0 L0 xs0 237 (195, L, st) y) ∧
  (∀ (l0 l1 l2 l3 l4 l5 l6 l8 l9 l10 l11 : Option Value) (st : List Value) (y : (gy × gy) × Nat) (x : Int32), evm C0 b0 L0 xs0 237 (195, [l0, l1, l2, l3, l4, l5, l6, some (.int x), l8, l9, l10, l11], st) y = evm C0 b0 L0 xs0 237 (197, [l0, l1, l2, l3, l4, l5, l6, some (.int x), l8, l9, l10, l11], .int x :: st) y) ∧
  (∀ (l1 l2 l3 l4 l5 l6 l7 l8 l9 l10 l11 : Option Value) (st : List Value) (y : (gy × gy) × Nat) (x : Nat), evm C0 b0 L0 xs0 237 (197, [some (.ref x), l1, l2, l3, l4, l5, l6, l7, l8, l9, l10, l11], st) y = evm C0 b0 L0 xs0 237 (198, [some (.ref x), l1, l2, l3, l4, l5, l6, l7, l8, l9, l10, l11], .ref x :: st) y) ∧
  (∀ (L : ri_L) (st : List Value) (y : (gy × gy) × Nat), evm C0 b0 L0 xs0 237 (198, L, st) y = evm C0 b0 L0 xs0 237 (200, L, .int (Int32.ofInt 16) :: st) y) ∧
  (∀ (l0 l1 l2 l3 l4 l5 l7 l8 l9 l10 l11 : Option Value) (st : List Value) (y : (gy × gy) × Nat) (x : Int32), evm C0 b0 L0 xs0 237 (200, [l0, l1, l2, l3, l4, l5, some (.int x), l7, l8, l9, l10, l11], st) y = evm C0 b0 L0 xs0 237 (202, [l0, l1, l2, l3, l4, l5, some (.int x), l7, l8, l9, l10, l11], .int x :: st) y) ∧
  (∀ (l0 l1 l2 l3 l4 l6 l7 l8 l9 l10 l11 : Option Value) (st : List Value) (y : (gy × gy) × Nat) (x : Int32), evm C0 b0 L0 xs0 237 (202, [l0, l1, l2, l3, l4, some (.int x), l6, l7, l8, l9, l10, l11], st) y = evm C0 b0 L0 xs0 237 (204, [l0, l1, l2, l3, l4, some (.int x), l6, l7, l8, l9, l10, l11], .int x :: st) y) ∧
  (∀ (L : ri_L) (st : List Value) (y : (gy × gy) × Nat), evm C0 b0 L0 xs0 237 (204, L, st) y = evm C0 b0 L0 xs0 237 (205, L, .int (Int32.ofInt 0) :: st) y) ∧
  (∀ (L : ri_L) (y : (gy × gy) × Nat) (a0 : Nat) (a1 : Int32) (a2 : Int32) (a3 : Int32) (a4 : Int32) (s0 : Value), evm C0 b0 L0 xs0 237 (205, L, [.int a4, .int a3, .int a2, .int a1, .ref a0, s0]) y = lm_n (calm C0 b0 L0 xs0 230 [.ref a0, .int a1, .int a2, .int a3, .int a4] y) fun v y => evm C0 b0 L0 xs0 237 (208, L, [v, s0]) y) ∧
  (∀ (L : ri_L) (st : List Value) (y : (gy × gy) × Nat) (z x : Int32), evm C0 b0 L0 xs0 237 (208, L, .int z :: .int x :: st) y = if ¬ x = z then evm C0 b0 L0 xs0 237 (215, L, st) y else evm C0 b0 L0 xs0 237 (211, L, st) y) ∧
  (∀ (L : ri_L) (st : List Value) (y : (gy × gy) × Nat), evm C0 b0 L0 xs0 237 (211, L, st) y = evm C0 b0 L0 xs0 237 (212, L, .int (Int32.ofInt 1) :: st) y) ∧
  (∀ (L : ri_L) (st : List Value) (y : (gy × gy) × Nat), evm C0 b0 L0 xs0 237 (212, L, st) y = evm C0 b0 L0 xs0 237 (216, L, st) y) ∧
  (∀ (L : ri_L) (st : List Value) (y : (gy × gy) × Nat), evm C0 b0 L0 xs0 237 (215, L, st) y = evm C0 b0 L0 xs0 237 (216, L, .int (Int32.ofInt 0) :: st) y) ∧
  (∀ (l0 l1 l2 l3 l4 l5 l6 l7 l8 l9 l10 l11 : Option Value) (st : List Value) (y : (gy × gy) × Nat) (x : Int32), evm C0 b0 L0 xs0 237 (216, [l0, l1, l2, l3, l4, l5, l6, l7, l8, l9, l10, l11], .int x :: st) y = evm C0 b0 L0 xs0 237 (218, [l0, l1, l2, ri_clr l3, some (.int x), l5, l6, l7, l8, l9, l10, l11], st) y) ∧
  (∀ (l0 l1 l2 l3 l4 l6 l7 l8 l9 l10 l11 : Option Value) (st : List Value) (y : (gy × gy) × Nat) (x : Int32), evm C0 b0 L0 xs0 237 (218, [l0, l1, l2, l3, l4, some (.int x), l6, l7, l8, l9, l10, l11], st) y = evm C0 b0 L0 xs0 237 (221, [l0, l1, l2, l3, ri_clr l4, some (.int (x + (Int32.ofInt 1))), l6, l7, l8, l9, l10, l11], st) y) :=
  ⟨fun l0 l1 l2 l3 l4 l5 l6 l7 l8 l9 l10 l11 st y x => em_p rfl rfl,
   fun l0 l1 l2 l3 l4 l5 l6 l7 l8 l9 l11 st y x => em_p rfl rfl,
   fun l1 l2 l3 l4 l5 l6 l7 l8 l9 l10 l11 st y x => em_p rfl rfl,
   fun l0 l1 l2 l3 l4 l5 l7 l8 l9 l10 l11 st y x => em_p rfl rfl,
   fun l0 l1 l2 l3 l4 l6 l7 l8 l9 l10 l11 st y x => em_p rfl rfl,
   fun l0 l1 l2 l3 l4 l5 l6 l7 l8 l10 l11 st y x => em_p rfl rfl,
   fun L st y => em_p rfl rfl,
   fun L y a0 a1 a2 a3 a4 s0 => em_call rfl rfl rfl rfl rfl,
   fun L st y z x => em_b rfl rfl,
   fun l0 l1 l2 l3 l4 l5 l6 l7 l8 l9 l11 st y x => em_p rfl rfl,
   fun L st y => em_p rfl rfl,
   fun L st y z x => em_b rfl rfl,
   fun l0 l1 l2 l3 l4 l5 l6 l7 l8 l9 l11 st y x => em_p rfl rfl,
   fun L st y x => em_b rfl rfl,
   fun L st y => em_p rfl rfl,
   fun L st y => em_p rfl rfl,
   fun L st y => em_p rfl rfl,
   fun l0 l1 l2 l3 l4 l5 l6 l7 l8 l9 l10 st y x => em_p rfl rfl,
   fun L st y z x => em_b rfl rfl,
   fun L st y => em_p rfl rfl,
   fun L st y => em_p rfl rfl,
   fun L st y => em_p rfl rfl,
   fun l0 l1 l2 l3 l4 l5 l6 l7 l8 l9 l10 l11 st y x => em_p rfl rfl,
   fun l0 l1 l2 l3 l4 l5 l6 l7 l8 l10 l11 st y x => em_p rfl rfl,
   fun L st y => em_p rfl rfl,
   fun l0 l1 l2 l3 l5 l6 l7 l8 l9 l10 l11 st y x => em_p rfl rfl,
   fun L st y x => em_b rfl rfl,
   fun l0 l1 l2 l3 l4 l5 l6 l8 l9 l10 l11 st y x => em_p rfl rfl,
   fun l1 l2 l3 l4 l5 l6 l7 l8 l9 l10 l11 st y x => em_p rfl rfl,
   fun L st y => em_p rfl rfl,
   fun l0 l1 l2 l3 l4 l5 l7 l8 l9 l10 l11 st y x => em_p rfl rfl,
   fun l0 l1 l2 l3 l4 l6 l7 l8 l9 l10 l11 st y x => em_p rfl rfl,
   fun L st y => em_p rfl rfl,
   fun L y a0 a1 a2 a3 a4 s0 => em_call rfl rfl rfl rfl rfl,
   fun L st y z x => em_b rfl rfl,
   fun L st y => em_p rfl rfl,
   fun L st y => em_p rfl rfl,
   fun L st y => em_p rfl rfl,
   fun l0 l1 l2 l3 l4 l5 l6 l7 l8 l9 l10 l11 st y x => em_p rfl rfl,
   fun l0 l1 l2 l3 l4 l6 l7 l8 l9 l10 l11 st y x => em_p rfl rfl⟩
set_option maxRecDepth 8000 in
theorem L_237_3 :
  (∀ (L : ri_L) (st : List Value) (y : (gy × gy) × Nat), evm C0 b0 L0 xs0 237 (221, L, st) y = evm C0 b0 L0 xs0 237 (24, L, st) y) ∧
  (∀ (l0 l1 l2 l3 l5 l6 l7 l8 l9 l10 l11 : Option Value) (st : List Value) (y : (gy × gy) × Nat) (x : Int32), evm C0 b0 L0 xs0 237 (224, [l0, l1, l2, l3, some (.int x), l5, l6, l7, l8, l9, l10, l11], st) y = evm C0 b0 L0 xs0 237 (226, [l0, l1, l2, l3, some (.int x), l5, l6, l7, l8, l9, l10, l11], .int x :: st) y) ∧
  (∀ (L : ri_L) (y : (gy × gy) × Nat) (x : Int32), evm C0 b0 L0 xs0 237 (226, L, [.int x]) y = lm_b x (some (.int x, y))) :=
  ⟨fun L st y => em_p rfl rfl,
   fun l0 l1 l2 l3 l5 l6 l7 l8 l9 l10 l11 st y x => em_p rfl rfl,
   fun L y x => em_r rfl rfl⟩
theorem M_238 (x0 : Nat) (x1 : Nat) (x2 : Int32) (y : (gy × gy) × Nat) : calm C0 b0 L0 xs0 238 [.ref x0, .ref x1, .int x2] y = evm C0 b0 L0 xs0 238 (0, [some (.ref x0), some (.ref x1), some (.int x2), none, none, none, none, none, none, none, none, none, none, none, none, none, none], []) y := em_in rfl
set_option maxRecDepth 8000 in
theorem G_238_126 (l0 l1 l2 l3 l4 l5 l6 l7 l8 l9 l10 l12 l13 l14 l15 l16 : Option Value) (st : List Value) (y : (gy × gy) × Nat) (x : Int32) : evm C0 b0 L0 xs0 238 (126, [l0, l1, l2, l3, l4, l5, l6, l7, l8, l9, l10, some (.int x), l12, l13, l14, l15, l16], st) y = evm C0 b0 L0 xs0 238 (128, [l0, l1, l2, l3, l4, l5, l6, l7, l8, l9, l10, some (.int x), l12, l13, l14, l15, l16], .int x :: st) y := em_p rfl rfl
set_option maxRecDepth 8000 in
theorem L_238_0 :
  (∀ (l1 l2 l3 l4 l5 l6 l7 l8 l9 l10 l11 l12 l13 l14 l15 l16 : Option Value) (st : List Value) (y : (gy × gy) × Nat) (x : Nat), evm C0 b0 L0 xs0 238 (0, [some (.ref x), l1, l2, l3, l4, l5, l6, l7, l8, l9, l10, l11, l12, l13, l14, l15, l16], st) y = evm C0 b0 L0 xs0 238 (1, [some (.ref x), l1, l2, l3, l4, l5, l6, l7, l8, l9, l10, l11, l12, l13, l14, l15, l16], .ref x :: st) y) ∧
  (∀ (L : ri_L) (st : List Value) (y : (gy × gy) × Nat), evm C0 b0 L0 xs0 238 (1, L, st) y = evm C0 b0 L0 xs0 238 (2, L, .int (Int32.ofInt 2) :: st) y) ∧
  (∀ (L : ri_L) (st : List Value) (y : (gy × gy) × Nat), evm C0 b0 L0 xs0 238 (2, L, st) y = evm C0 b0 L0 xs0 238 (3, L, .int (Int32.ofInt 2) :: st) y) ∧
  (∀ (L : ri_L) (st : List Value) (y : (gy × gy) × Nat), evm C0 b0 L0 xs0 238 (3, L, st) y = evm C0 b0 L0 xs0 238 (4, L, .int (Int32.ofInt 0) :: st) y) ∧
  (∀ (L : ri_L) (st : List Value) (y : (gy × gy) × Nat), evm C0 b0 L0 xs0 238 (4, L, st) y = evm C0 b0 L0 xs0 238 (5, L, .int (Int32.ofInt 0) :: st) y) ∧
  (∀ (L : ri_L) (y : (gy × gy) × Nat) (a0 : Nat) (a1 : Int32) (a2 : Int32) (a3 : Int32) (a4 : Int32), evm C0 b0 L0 xs0 238 (5, L, [.int a4, .int a3, .int a2, .int a1, .ref a0]) y = lm_n (calm C0 b0 L0 xs0 230 [.ref a0, .int a1, .int a2, .int a3, .int a4] y) fun v y => evm C0 b0 L0 xs0 238 (8, L, [v]) y) ∧
  (∀ (l0 l1 l2 l3 l4 l5 l6 l7 l8 l9 l10 l11 l12 l13 l14 l15 l16 : Option Value) (st : List Value) (y : (gy × gy) × Nat) (x : Int32), evm C0 b0 L0 xs0 238 (8, [l0, l1, l2, l3, l4, l5, l6, l7, l8, l9, l10, l11, l12, l13, l14, l15, l16], .int x :: st) y = evm C0 b0 L0 xs0 238 (9, [l0, l1, ri_clr l2, some (.int x), l4, l5, l6, l7, l8, l9, l10, l11, l12, l13, l14, l15, l16], st) y) ∧
  (∀ (l0 l1 l2 l4 l5 l6 l7 l8 l9 l10 l11 l12 l13 l14 l15 l16 : Option Value) (st : List Value) (y : (gy × gy) × Nat) (x : Int32), evm C0 b0 L0 xs0 238 (9, [l0, l1, l2, some (.int x), l4, l5, l6, l7, l8, l9, l10, l11, l12, l13, l14, l15, l16], st) y = evm C0 b0 L0 xs0 238 (10, [l0, l1, l2, some (.int x), l4, l5, l6, l7, l8, l9, l10, l11, l12, l13, l14, l15, l16], .int x :: st) y) ∧
  (∀ (L : ri_L) (st : List Value) (y : (gy × gy) × Nat) (x : Int32), evm C0 b0 L0 xs0 238 (10, L, .int x :: st) y = if ¬ x = 0 then evm C0 b0 L0 xs0 238 (15, L, st) y else evm C0 b0 L0 xs0 238 (13, L, st) y) ∧
  (∀ (L : ri_L) (st : List Value) (y : (gy × gy) × Nat), evm C0 b0 L0 xs0 238 (13, L, st) y = evm C0 b0 L0 xs0 238 (14, L, .int (Int32.ofInt 1) :: st) y) ∧
  (∀ (L : ri_L) (y : (gy × gy) × Nat) (x : Int32), evm C0 b0 L0 xs0 238 (14, L, [.int x]) y = lm_b x (some (.int x, y))) ∧
  (∀ (l0 l1 l3 l4 l5 l6 l7 l8 l9 l10 l11 l12 l13 l14 l15 l16 : Option Value) (st : List Value) (y : (gy × gy) × Nat) (x : Int32), evm C0 b0 L0 xs0 238 (15, [l0, l1, some (.int x), l3, l4, l5, l6, l7, l8, l9, l10, l11, l12, l13, l14, l15, l16], st) y = evm C0 b0 L0 xs0 238 (16, [l0, l1, some (.int x), l3, l4, l5, l6, l7, l8, l9, l10, l11, l12, l13, l14, l15, l16], .int x :: st) y) ∧
  (∀ (l0 l1 l2 l4 l5 l6 l7 l8 l9 l10 l11 l12 l13 l14 l15 l16 : Option Value) (st : List Value) (y : (gy × gy) × Nat) (x : Int32), evm C0 b0 L0 xs0 238 (16, [l0, l1, l2, some (.int x), l4, l5, l6, l7, l8, l9, l10, l11, l12, l13, l14, l15, l16], st) y = evm C0 b0 L0 xs0 238 (17, [l0, l1, l2, some (.int x), l4, l5, l6, l7, l8, l9, l10, l11, l12, l13, l14, l15, l16], .int x :: st) y) ∧
  (∀ (L : ri_L) (st : List Value) (y : (gy × gy) × Nat) (z x : Int32), evm C0 b0 L0 xs0 238 (17, L, .int z :: .int x :: st) y = if z = 0 then none else evm C0 b0 L0 xs0 238 (18, L, .int (x - x / z * z) :: st) y) ∧
  (∀ (l0 l1 l2 l3 l4 l5 l6 l7 l8 l9 l10 l11 l12 l13 l14 l15 l16 : Option Value) (st : List Value) (y : (gy × gy) × Nat) (x : Int32), evm C0 b0 L0 xs0 238 (18, [l0, l1, l2, l3, l4, l5, l6, l7, l8, l9, l10, l11, l12, l13, l14, l15, l16], .int x :: st) y = evm C0 b0 L0 xs0 238 (20, [l0, l1, l2, ri_clr l3, some (.int x), l5, l6, l7, l8, l9, l10, l11, l12, l13, l14, l15, l16], st) y) ∧
  (∀ (l1 l2 l3 l4 l5 l6 l7 l8 l9 l10 l11 l12 l13 l14 l15 l16 : Option Value) (st : List Value) (y : (gy × gy) × Nat) (x : Nat), evm C0 b0 L0 xs0 238 (20, [some (.ref x), l1, l2, l3, l4, l5, l6, l7, l8, l9, l10, l11, l12, l13, l14, l15, l16], st) y = evm C0 b0 L0 xs0 238 (21, [some (.ref x), l1, l2, l3, l4, l5, l6, l7, l8, l9, l10, l11, l12, l13, l14, l15, l16], .ref x :: st) y) ∧
  (∀ (L : ri_L) (st : List Value) (y : (gy × gy) × Nat), evm C0 b0 L0 xs0 238 (21, L, st) y = evm C0 b0 L0 xs0 238 (23, L, .int (Int32.ofInt 17) :: st) y) ∧
  (∀ (l0 l1 l2 l3 l5 l6 l7 l8 l9 l10 l11 l12 l13 l14 l15 l16 : Option Value) (st : List Value) (y : (gy × gy) × Nat) (x : Int32), evm C0 b0 L0 xs0 238 (23, [l0, l1, l2, l3, some (.int x), l5, l6, l7, l8, l9, l10, l11, l12, l13, l14, l15, l16], st) y = evm C0 b0 L0 xs0 238 (25, [l0, l1, l2, l3, some (.int x), l5, l6, l7, l8, l9, l10, l11, l12, l13, l14, l15, l16], .int x :: st) y) ∧
  (∀ (L : ri_L) (st : List Value) (y : (gy × gy) × Nat), evm C0 b0 L0 xs0 238 (25, L, st) y = evm C0 b0 L0 xs0 238 (26, L, .int (Int32.ofInt 1) :: st) y) ∧
  (∀ (L : ri_L) (st : List Value) (y : (gy × gy) × Nat), evm C0 b0 L0 xs0 238 (26, L, st) y = evm C0 b0 L0 xs0 238 (27, L, .int (Int32.ofInt 0) :: st) y) ∧
  (∀ (L : ri_L) (y : (gy × gy) × Nat) (a0 : Nat) (a1 : Int32) (a2 : Int32) (a3 : Int32) (a4 : Int32), evm C0 b0 L0 xs0 238 (27, L, [.int a4, .int a3, .int a2, .int a1, .ref a0]) y = lm_n (calm C0 b0 L0 xs0 230 [.ref a0, .int a1, .int a2, .int a3, .int a4] y) fun v y => evm C0 b0 L0 xs0 238 (30, L, [v]) y) ∧
  (∀ (l0 l1 l2 l3 l4 l5 l6 l7 l8 l9 l10 l11 l12 l13 l14 l15 l16 : Option Value) (st : List Value) (y : (gy × gy) × Nat) (x : Int32), evm C0 b0 L0 xs0 238 (30, [l0, l1, l2, l3, l4, l5, l6, l7, l8, l9, l10, l11, l12, l13, l14, l15, l16], .int x :: st) y = evm C0 b0 L0 xs0 238 (32, [l0, l1, l2, l3, ri_clr l4, some (.int x), l6, l7, l8, l9, l10, l11, l12, l13, l14, l15, l16], st) y) ∧
  (∀ (l1 l2 l3 l4 l5 l6 l7 l8 l9 l10 l11 l12 l13 l14 l15 l16 : Option Value) (st : List Value) (y : (gy × gy) × Nat) (x : Nat), evm C0 b0 L0 xs0 238 (32, [some (.ref x), l1, l2, l3, l4, l5, l6, l7, l8, l9, l10, l11, l12, l13, l14, l15, l16], st) y = evm C0 b0 L0 xs0 238 (33, [some (.ref x), l1, l2, l3, l4, l5, l6, l7, l8, l9, l10, l11, l12, l13, l14, l15, l16], .ref x :: st) y) ∧
  (∀ (L : ri_L) (st : List Value) (y : (gy × gy) × Nat), evm C0 b0 L0 xs0 238 (33, L, st) y = evm C0 b0 L0 xs0 238 (35, L, .int (Int32.ofInt 17) :: st) y) ∧
  (∀ (l0 l1 l2 l3 l5 l6 l7 l8 l9 l10 l11 l12 l13 l14 l15 l16 : Option Value) (st : List Value) (y : (gy × gy) × Nat) (x : Int32), evm C0 b0 L0 xs0 238 (35, [l0, l1, l2, l3, some (.int x), l5, l6, l7, l8, l9, l10, l11, l12, l13, l14, l15, l16], st) y = evm C0 b0 L0 xs0 238 (37, [l0, l1, l2, l3, some (.int x), l5, l6, l7, l8, l9, l10, l11, l12, l13, l14, l15, l16], .int x :: st) y) ∧
  (∀ (L : ri_L) (st : List Value) (y : (gy × gy) × Nat), evm C0 b0 L0 xs0 238 (37, L, st) y = evm C0 b0 L0 xs0 238 (38, L, .int (Int32.ofInt 2) :: st) y) ∧
  (∀ (L : ri_L) (st : List Value) (y : (gy × gy) × Nat), evm C0 b0 L0 xs0 238 (38, L, st) y = evm C0 b0 L0 xs0 238 (39, L, .int (Int32.ofInt 0) :: st) y) ∧
  (∀ (L : ri_L) (y : (gy × gy) × Nat) (a0 : Nat) (a1 : Int32) (a2 : Int32) (a3 : Int32) (a4 : Int32), evm C0 b0 L0 xs0 238 (39, L, [.int a4, .int a3, .int a2, .int a1, .ref a0]) y = lm_n (calm C0 b0 L0 xs0 230 [.ref a0, .int a1, .int a2, .int a3, .int a4] y) fun v y => evm C0 b0 L0 xs0 238 (42, L, [v]) y) ∧
  (∀ (l0 l1 l2 l3 l4 l5 l6 l7 l8 l9 l10 l11 l12 l13 l14 l15 l16 : Option Value) (st : List Value) (y : (gy × gy) × Nat) (x : Int32), evm C0 b0 L0 xs0 238 (42, [l0, l1, l2, l3, l4, l5, l6, l7, l8, l9, l10, l11, l12, l13, l14, l15, l16], .int x :: st) y = evm C0 b0 L0 xs0 238 (44, [l0, l1, l2, l3, l4, ri_clr l5, some (.int x), l7, l8, l9, l10, l11, l12, l13, l14, l15, l16], st) y) ∧
  (∀ (l1 l2 l3 l4 l5 l6 l7 l8 l9 l10 l11 l12 l13 l14 l15 l16 : Option Value) (st : List Value) (y : (gy × gy) × Nat) (x : Nat), evm C0 b0 L0 xs0 238 (44, [some (.ref x), l1, l2, l3, l4, l5, l6, l7, l8, l9, l10, l11, l12, l13, l14, l15, l16], st) y = evm C0 b0 L0 xs0 238 (45, [some (.ref x), l1, l2, l3, l4, l5, l6, l7, l8, l9, l10, l11, l12, l13, l14, l15, l16], .ref x :: st) y) ∧
  (∀ (L : ri_L) (st : List Value) (y : (gy × gy) × Nat), evm C0 b0 L0 xs0 238 (45, L, st) y = evm C0 b0 L0 xs0 238 (47, L, .int (Int32.ofInt 17) :: st) y) ∧
  (∀ (l0 l1 l2 l3 l5 l6 l7 l8 l9 l10 l11 l12 l13 l14 l15 l16 : Option Value) (st : List Value) (y : (gy × gy) × Nat) (x : Int32), evm C0 b0 L0 xs0 238 (47, [l0, l1, l2, l3, some (.int x), l5, l6, l7, l8, l9, l10, l11, l12, l13, l14, l15, l16], st) y = evm C0 b0 L0 xs0 238 (49, [l0, l1, l2, l3, some (.int x), l5, l6, l7, l8, l9, l10, l11, l12, l13, l14, l15, l16], .int x :: st) y) ∧
  (∀ (L : ri_L) (st : List Value) (y : (gy × gy) × Nat), evm C0 b0 L0 xs0 238 (49, L, st) y = evm C0 b0 L0 xs0 238 (50, L, .int (Int32.ofInt 3) :: st) y) ∧
  (∀ (L : ri_L) (st : List Value) (y : (gy × gy) × Nat), evm C0 b0 L0 xs0 238 (50, L, st) y = evm C0 b0 L0 xs0 238 (51, L, .int (Int32.ofInt 0) :: st) y) ∧
  (∀ (L : ri_L) (y : (gy × gy) × Nat) (a0 : Nat) (a1 : Int32) (a2 : Int32) (a3 : Int32) (a4 : Int32), evm C0 b0 L0 xs0 238 (51, L, [.int a4, .int a3, .int a2, .int a1, .ref a0]) y = lm_n (calm C0 b0 L0 xs0 230 [.ref a0, .int a1, .int a2, .int a3, .int a4] y) fun v y => evm C0 b0 L0 xs0 238 (54, L, [v]) y) ∧
  (∀ (l0 l1 l2 l3 l4 l5 l6 l7 l8 l9 l10 l11 l12 l13 l14 l15 l16 : Option Value) (st : List Value) (y : (gy × gy) × Nat) (x : Int32), evm C0 b0 L0 xs0 238 (54, [l0, l1, l2, l3, l4, l5, l6, l7, l8, l9, l10, l11, l12, l13, l14, l15, l16], .int x :: st) y = evm C0 b0 L0 xs0 238 (56, [l0, l1, l2, l3, l4, l5, ri_clr l6, some (.int x), l8, l9, l10, l11, l12, l13, l14, l15, l16], st) y) ∧
  (∀ (l1 l2 l3 l4 l5 l6 l7 l8 l9 l10 l11 l12 l13 l14 l15 l16 : Option Value) (st : List Value) (y : (gy × gy) × Nat) (x : Nat), evm C0 b0 L0 xs0 238 (56, [some (.ref x), l1, l2, l3, l4, l5, l6, l7, l8, l9, l10, l11, l12, l13, l14, l15, l16], st) y = evm C0 b0 L0 xs0 238 (57, [some (.ref x), l1, l2, l3, l4, l5, l6, l7, l8, l9, l10, l11, l12, l13, l14, l15, l16], .ref x :: st) y) ∧
  (∀ (L : ri_L) (st : List Value) (y : (gy × gy) × Nat), evm C0 b0 L0 xs0 238 (57, L, st) y = evm C0 b0 L0 xs0 238 (59, L, .int (Int32.ofInt 13) :: st) y) ∧
  (∀ (L : ri_L) (st : List Value) (y : (gy × gy) × Nat), evm C0 b0 L0 xs0 238 (59, L, st) y = evm C0 b0 L0 xs0 238 (60, L, .int (Int32.ofInt 0) :: st) y) ∧
  (∀ (L : ri_L) (st : List Value) (y : (gy × gy) × Nat), evm C0 b0 L0 xs0 238 (60, L, st) y = evm C0 b0 L0 xs0 238 (61, L, .int (Int32.ofInt 0) :: st) y) :=
  ⟨fun l1 l2 l3 l4 l5 l6 l7 l8 l9 l10 l11 l12 l13 l14 l15 l16 st y x => em_p rfl rfl,
   fun L st y => em_p rfl rfl,
   fun L st y => em_p rfl rfl,
   fun L st y => em_p rfl rfl,
   fun L st y => em_p rfl rfl,
   fun L y a0 a1 a2 a3 a4 => em_call rfl rfl rfl rfl rfl,
   fun l0 l1 l2 l3 l4 l5 l6 l7 l8 l9 l10 l11 l12 l13 l14 l15 l16 st y x => em_p rfl rfl,
   fun l0 l1 l2 l4 l5 l6 l7 l8 l9 l10 l11 l12 l13 l14 l15 l16 st y x => em_p rfl rfl,
   fun L st y x => em_b rfl rfl,
   fun L st y => em_p rfl rfl,
   fun L y x => em_r rfl rfl,
   fun l0 l1 l3 l4 l5 l6 l7 l8 l9 l10 l11 l12 l13 l14 l15 l16 st y x => em_p rfl rfl,
   fun l0 l1 l2 l4 l5 l6 l7 l8 l9 l10 l11 l12 l13 l14 l15 l16 st y x => em_p rfl rfl,
   fun L st y z x => em_d rfl rfl,
   fun l0 l1 l2 l3 l4 l5 l6 l7 l8 l9 l10 l11 l12 l13 l14 l15 l16 st y x => em_p rfl rfl,
   fun l1 l2 l3 l4 l5 l6 l7 l8 l9 l10 l11 l12 l13 l14 l15 l16 st y x => em_p rfl rfl,
   fun L st y => em_p rfl rfl,
   fun l0 l1 l2 l3 l5 l6 l7 l8 l9 l10 l11 l12 l13 l14 l15 l16 st y x => em_p rfl rfl,
   fun L st y => em_p rfl rfl,
   fun L st y => em_p rfl rfl,
   fun L y a0 a1 a2 a3 a4 => em_call rfl rfl rfl rfl rfl,
   fun l0 l1 l2 l3 l4 l5 l6 l7 l8 l9 l10 l11 l12 l13 l14 l15 l16 st y x => em_p rfl rfl,
   fun l1 l2 l3 l4 l5 l6 l7 l8 l9 l10 l11 l12 l13 l14 l15 l16 st y x => em_p rfl rfl,
   fun L st y => em_p rfl rfl,
   fun l0 l1 l2 l3 l5 l6 l7 l8 l9 l10 l11 l12 l13 l14 l15 l16 st y x => em_p rfl rfl,
   fun L st y => em_p rfl rfl,
   fun L st y => em_p rfl rfl,
   fun L y a0 a1 a2 a3 a4 => em_call rfl rfl rfl rfl rfl,
   fun l0 l1 l2 l3 l4 l5 l6 l7 l8 l9 l10 l11 l12 l13 l14 l15 l16 st y x => em_p rfl rfl,
   fun l1 l2 l3 l4 l5 l6 l7 l8 l9 l10 l11 l12 l13 l14 l15 l16 st y x => em_p rfl rfl,
   fun L st y => em_p rfl rfl,
   fun l0 l1 l2 l3 l5 l6 l7 l8 l9 l10 l11 l12 l13 l14 l15 l16 st y x => em_p rfl rfl,
   fun L st y => em_p rfl rfl,
   fun L st y => em_p rfl rfl,
   fun L y a0 a1 a2 a3 a4 => em_call rfl rfl rfl rfl rfl,
   fun l0 l1 l2 l3 l4 l5 l6 l7 l8 l9 l10 l11 l12 l13 l14 l15 l16 st y x => em_p rfl rfl,
   fun l1 l2 l3 l4 l5 l6 l7 l8 l9 l10 l11 l12 l13 l14 l15 l16 st y x => em_p rfl rfl,
   fun L st y => em_p rfl rfl,
   fun L st y => em_p rfl rfl,
   fun L st y => em_p rfl rfl⟩
set_option maxRecDepth 8000 in
theorem L_238_1 :
  (∀ (L : ri_L) (st : List Value) (y : (gy × gy) × Nat), evm C0 b0 L0 xs0 238 (61, L, st) y = evm C0 b0 L0 xs0 238 (62, L, .int (Int32.ofInt 0) :: st) y) ∧
  (∀ (L : ri_L) (y : (gy × gy) × Nat) (a0 : Nat) (a1 : Int32) (a2 : Int32) (a3 : Int32) (a4 : Int32), evm C0 b0 L0 xs0 238 (62, L, [.int a4, .int a3, .int a2, .int a1, .ref a0]) y = lm_n (calm C0 b0 L0 xs0 230 [.ref a0, .int a1, .int a2, .int a3, .int a4] y) fun v y => evm C0 b0 L0 xs0 238 (65, L, [v]) y) ∧
  (∀ (l0 l1 l2 l3 l4 l5 l6 l7 l8 l9 l10 l11 l12 l13 l14 l15 l16 : Option Value) (st : List Value) (y : (gy × gy) × Nat) (x : Int32), evm C0 b0 L0 xs0 238 (65, [l0, l1, l2, l3, l4, l5, l6, l7, l8, l9, l10, l11, l12, l13, l14, l15, l16], .int x :: st) y = evm C0 b0 L0 xs0 238 (67, [l0, l1, l2, l3, l4, l5, l6, ri_clr l7, some (.int x), l9, l10, l11, l12, l13, l14, l15, l16], st) y) ∧
  (∀ (l0 l1 l2 l3 l4 l6 l7 l8 l9 l10 l11 l12 l13 l14 l15 l16 : Option Value) (st : List Value) (y : (gy × gy) × Nat) (x : Int32), evm C0 b0 L0 xs0 238 (67, [l0, l1, l2, l3, l4, some (.int x), l6, l7, l8, l9, l10, l11, l12, l13, l14, l15, l16], st) y = evm C0 b0 L0 xs0 238 (69, [l0, l1, l2, l3, l4, some (.int x), l6, l7, l8, l9, l10, l11, l12, l13, l14, l15, l16], .int x :: st) y) ∧
  (∀ (L : ri_L) (st : List Value) (y : (gy × gy) × Nat) (x : Int32), evm C0 b0 L0 xs0 238 (69, L, .int x :: st) y = if x < 0 then evm C0 b0 L0 xs0 238 (117, L, st) y else evm C0 b0 L0 xs0 238 (72, L, st) y) ∧
  (∀ (l0 l1 l2 l3 l4 l5 l7 l8 l9 l10 l11 l12 l13 l14 l15 l16 : Option Value) (st : List Value) (y : (gy × gy) × Nat) (x : Int32), evm C0 b0 L0 xs0 238 (72, [l0, l1, l2, l3, l4, l5, some (.int x), l7, l8, l9, l10, l11, l12, l13, l14, l15, l16], st) y = evm C0 b0 L0 xs0 238 (74, [l0, l1, l2, l3, l4, l5, some (.int x), l7, l8, l9, l10, l11, l12, l13, l14, l15, l16], .int x :: st) y) ∧
  (∀ (l0 l1 l2 l3 l4 l6 l7 l8 l9 l10 l11 l12 l13 l14 l15 l16 : Option Value) (st : List Value) (y : (gy × gy) × Nat) (x : Int32), evm C0 b0 L0 xs0 238 (74, [l0, l1, l2, l3, l4, some (.int x), l6, l7, l8, l9, l10, l11, l12, l13, l14, l15, l16], st) y = evm C0 b0 L0 xs0 238 (76, [l0, l1, l2, l3, l4, some (.int x), l6, l7, l8, l9, l10, l11, l12, l13, l14, l15, l16], .int x :: st) y) ∧
  (∀ (L : ri_L) (st : List Value) (y : (gy × gy) × Nat) (z x : Int32), evm C0 b0 L0 xs0 238 (76, L, .int z :: .int x :: st) y = if x < z then evm C0 b0 L0 xs0 238 (117, L, st) y else evm C0 b0 L0 xs0 238 (79, L, st) y) ∧
  (∀ (l0 l1 l2 l3 l4 l5 l6 l8 l9 l10 l11 l12 l13 l14 l15 l16 : Option Value) (st : List Value) (y : (gy × gy) × Nat) (x : Int32), evm C0 b0 L0 xs0 238 (79, [l0, l1, l2, l3, l4, l5, l6, some (.int x), l8, l9, l10, l11, l12, l13, l14, l15, l16], st) y = evm C0 b0 L0 xs0 238 (81, [l0, l1, l2, l3, l4, l5, l6, some (.int x), l8, l9, l10, l11, l12, l13, l14, l15, l16], .int x :: st) y) ∧
  (∀ (l0 l1 l2 l3 l4 l5 l7 l8 l9 l10 l11 l12 l13 l14 l15 l16 : Option Value) (st : List Value) (y : (gy × gy) × Nat) (x : Int32), evm C0 b0 L0 xs0 238 (81, [l0, l1, l2, l3, l4, l5, some (.int x), l7, l8, l9, l10, l11, l12, l13, l14, l15, l16], st) y = evm C0 b0 L0 xs0 238 (83, [l0, l1, l2, l3, l4, l5, some (.int x), l7, l8, l9, l10, l11, l12, l13, l14, l15, l16], .int x :: st) y) ∧
  (∀ (L : ri_L) (st : List Value) (y : (gy × gy) × Nat) (z x : Int32), evm C0 b0 L0 xs0 238 (83, L, .int z :: .int x :: st) y = if x < z then evm C0 b0 L0 xs0 238 (117, L, st) y else evm C0 b0 L0 xs0 238 (86, L, st) y) ∧
  (∀ (l0 l1 l2 l3 l4 l5 l6 l8 l9 l10 l11 l12 l13 l14 l15 l16 : Option Value) (st : List Value) (y : (gy × gy) × Nat) (x : Int32), evm C0 b0 L0 xs0 238 (86, [l0, l1, l2, l3, l4, l5, l6, some (.int x), l8, l9, l10, l11, l12, l13, l14, l15, l16], st) y = evm C0 b0 L0 xs0 238 (88, [l0, l1, l2, l3, l4, l5, l6, some (.int x), l8, l9, l10, l11, l12, l13, l14, l15, l16], .int x :: st) y) ∧
  (∀ (l1 l2 l3 l4 l5 l6 l7 l8 l9 l10 l11 l12 l13 l14 l15 l16 : Option Value) (st : List Value) (y : (gy × gy) × Nat) (x : Nat), evm C0 b0 L0 xs0 238 (88, [some (.ref x), l1, l2, l3, l4, l5, l6, l7, l8, l9, l10, l11, l12, l13, l14, l15, l16], st) y = evm C0 b0 L0 xs0 238 (89, [some (.ref x), l1, l2, l3, l4, l5, l6, l7, l8, l9, l10, l11, l12, l13, l14, l15, l16], .ref x :: st) y) ∧
  (∀ (L : ri_L) (st : List Value) (y : (gy × gy) × Nat), evm C0 b0 L0 xs0 238 (89, L, st) y = evm C0 b0 L0 xs0 238 (90, L, .int (Int32.ofInt 2) :: st) y) ∧
  (∀ (L : ri_L) (st : List Value) (y : (gy × gy) × Nat), evm C0 b0 L0 xs0 238 (90, L, st) y = evm C0 b0 L0 xs0 238 (91, L, .int (Int32.ofInt 4) :: st) y) ∧
  (∀ (L : ri_L) (st : List Value) (y : (gy × gy) × Nat), evm C0 b0 L0 xs0 238 (91, L, st) y = evm C0 b0 L0 xs0 238 (92, L, .int (Int32.ofInt 0) :: st) y) ∧
  (∀ (L : ri_L) (st : List Value) (y : (gy × gy) × Nat), evm C0 b0 L0 xs0 238 (92, L, st) y = evm C0 b0 L0 xs0 238 (93, L, .int (Int32.ofInt 0) :: st) y) ∧
  (∀ (L : ri_L) (y : (gy × gy) × Nat) (a0 : Nat) (a1 : Int32) (a2 : Int32) (a3 : Int32) (a4 : Int32) (s0 : Value), evm C0 b0 L0 xs0 238 (93, L, [.int a4, .int a3, .int a2, .int a1, .ref a0, s0]) y = lm_n (calm C0 b0 L0 xs0 230 [.ref a0, .int a1, .int a2, .int a3, .int a4] y) fun v y => evm C0 b0 L0 xs0 238 (96, L, [v, s0]) y) ∧
  (∀ (L : ri_L) (st : List Value) (y : (gy × gy) × Nat) (z x : Int32), evm C0 b0 L0 xs0 238 (96, L, .int z :: .int x :: st) y = if z < x then evm C0 b0 L0 xs0 238 (117, L, st) y else evm C0 b0 L0 xs0 238 (99, L, st) y) ∧
  (∀ (l0 l2 l3 l4 l5 l6 l7 l8 l9 l10 l11 l12 l13 l14 l15 l16 : Option Value) (st : List Value) (y : (gy × gy) × Nat) (x : Nat), evm C0 b0 L0 xs0 238 (99, [l0, some (.ref x), l2, l3, l4, l5, l6, l7, l8, l9, l10, l11, l12, l13, l14, l15, l16], st) y = evm C0 b0 L0 xs0 238 (100, [l0, some (.ref x), l2, l3, l4, l5, l6, l7, l8, l9, l10, l11, l12, l13, l14, l15, l16], .ref x :: st) y) ∧
  (∀ (L : ri_L) (st : List Value) (y : (gy × gy) × Nat), evm C0 b0 L0 xs0 238 (100, L, st) y = evm C0 b0 L0 xs0 238 (102, L, .int (Int32.ofInt 13) :: st) y) ∧
  (∀ (L : ri_L) (st : List Value) (y : (gy × gy) × Nat), evm C0 b0 L0 xs0 238 (102, L, st) y = evm C0 b0 L0 xs0 238 (103, L, .int (Int32.ofInt 0) :: st) y) ∧
  (∀ (L : ri_L) (st : List Value) (y : (gy × gy) × Nat), evm C0 b0 L0 xs0 238 (103, L, st) y = evm C0 b0 L0 xs0 238 (104, L, .int (Int32.ofInt 0) :: st) y) ∧
  (∀ (L : ri_L) (st : List Value) (y : (gy × gy) × Nat), evm C0 b0 L0 xs0 238 (104, L, st) y = evm C0 b0 L0 xs0 238 (105, L, .int (Int32.ofInt 0) :: st) y) ∧
  (∀ (L : ri_L) (y : (gy × gy) × Nat) (a0 : Nat) (a1 : Int32) (a2 : Int32) (a3 : Int32) (a4 : Int32), evm C0 b0 L0 xs0 238 (105, L, [.int a4, .int a3, .int a2, .int a1, .ref a0]) y = lm_n (calm C0 b0 L0 xs0 230 [.ref a0, .int a1, .int a2, .int a3, .int a4] y) fun v y => evm C0 b0 L0 xs0 238 (108, L, [v]) y) ∧
  (∀ (l0 l1 l2 l3 l4 l5 l6 l7 l9 l10 l11 l12 l13 l14 l15 l16 : Option Value) (st : List Value) (y : (gy × gy) × Nat) (x : Int32), evm C0 b0 L0 xs0 238 (108, [l0, l1, l2, l3, l4, l5, l6, l7, some (.int x), l9, l10, l11, l12, l13, l14, l15, l16], st) y = evm C0 b0 L0 xs0 238 (110, [l0, l1, l2, l3, l4, l5, l6, l7, some (.int x), l9, l10, l11, l12, l13, l14, l15, l16], .int x :: st) y) ∧
  (∀ (L : ri_L) (st : List Value) (y : (gy × gy) × Nat) (z x : Int32), evm C0 b0 L0 xs0 238 (110, L, .int z :: .int x :: st) y = if ¬ x = z then evm C0 b0 L0 xs0 238 (117, L, st) y else evm C0 b0 L0 xs0 238 (113, L, st) y) ∧
  (∀ (L : ri_L) (st : List Value) (y : (gy × gy) × Nat), evm C0 b0 L0 xs0 238 (113, L, st) y = evm C0 b0 L0 xs0 238 (114, L, .int (Int32.ofInt 1) :: st) y) ∧
  (∀ (L : ri_L) (st : List Value) (y : (gy × gy) × Nat), evm C0 b0 L0 xs0 238 (114, L, st) y = evm C0 b0 L0 xs0 238 (118, L, st) y) ∧
  (∀ (L : ri_L) (st : List Value) (y : (gy × gy) × Nat), evm C0 b0 L0 xs0 238 (117, L, st) y = evm C0 b0 L0 xs0 238 (118, L, .int (Int32.ofInt 0) :: st) y) ∧
  (∀ (l0 l1 l2 l3 l4 l5 l6 l7 l8 l9 l10 l11 l12 l13 l14 l15 l16 : Option Value) (st : List Value) (y : (gy × gy) × Nat) (x : Int32), evm C0 b0 L0 xs0 238 (118, [l0, l1, l2, l3, l4, l5, l6, l7, l8, l9, l10, l11, l12, l13, l14, l15, l16], .int x :: st) y = evm C0 b0 L0 xs0 238 (120, [l0, l1, l2, l3, l4, l5, l6, l7, ri_clr l8, some (.int x), l10, l11, l12, l13, l14, l15, l16], st) y) ∧
  (∀ (L : ri_L) (st : List Value) (y : (gy × gy) × Nat), evm C0 b0 L0 xs0 238 (120, L, st) y = evm C0 b0 L0 xs0 238 (121, L, .int (Int32.ofInt 0) :: st) y) ∧
  (∀ (l0 l1 l2 l3 l4 l5 l6 l7 l8 l9 l10 l11 l12 l13 l14 l15 l16 : Option Value) (st : List Value) (y : (gy × gy) × Nat) (x : Int32), evm C0 b0 L0 xs0 238 (121, [l0, l1, l2, l3, l4, l5, l6, l7, l8, l9, l10, l11, l12, l13, l14, l15, l16], .int x :: st) y = evm C0 b0 L0 xs0 238 (123, [l0, l1, l2, l3, l4, l5, l6, l7, l8, ri_clr l9, some (.int x), l11, l12, l13, l14, l15, l16], st) y) ∧
  (∀ (L : ri_L) (st : List Value) (y : (gy × gy) × Nat), evm C0 b0 L0 xs0 238 (123, L, st) y = evm C0 b0 L0 xs0 238 (124, L, .int (Int32.ofInt 0) :: st) y) ∧
  (∀ (l0 l1 l2 l3 l4 l5 l6 l7 l8 l9 l10 l11 l12 l13 l14 l15 l16 : Option Value) (st : List Value) (y : (gy × gy) × Nat) (x : Int32), evm C0 b0 L0 xs0 238 (124, [l0, l1, l2, l3, l4, l5, l6, l7, l8, l9, l10, l11, l12, l13, l14, l15, l16], .int x :: st) y = evm C0 b0 L0 xs0 238 (126, [l0, l1, l2, l3, l4, l5, l6, l7, l8, l9, ri_clr l10, some (.int x), l12, l13, l14, l15, l16], st) y) ∧
  (∀ (L : ri_L) (st : List Value) (y : (gy × gy) × Nat), evm C0 b0 L0 xs0 238 (128, L, st) y = evm C0 b0 L0 xs0 238 (129, L, .int (Int32.ofInt 2) :: st) y) ∧
  (∀ (l1 l2 l3 l4 l5 l6 l7 l8 l9 l10 l11 l12 l13 l14 l15 l16 : Option Value) (st : List Value) (y : (gy × gy) × Nat) (x : Nat), evm C0 b0 L0 xs0 238 (129, [some (.ref x), l1, l2, l3, l4, l5, l6, l7, l8, l9, l10, l11, l12, l13, l14, l15, l16], st) y = evm C0 b0 L0 xs0 238 (130, [some (.ref x), l1, l2, l3, l4, l5, l6, l7, l8, l9, l10, l11, l12, l13, l14, l15, l16], .ref x :: st) y) ∧
  (∀ (L : ri_L) (st : List Value) (y : (gy × gy) × Nat), evm C0 b0 L0 xs0 238 (130, L, st) y = evm C0 b0 L0 xs0 238 (131, L, .int (Int32.ofInt 2) :: st) y) ∧
  (∀ (L : ri_L) (st : List Value) (y : (gy × gy) × Nat), evm C0 b0 L0 xs0 238 (131, L, st) y = evm C0 b0 L0 xs0 238 (132, L, .int (Int32.ofInt 1) :: st) y) ∧
  (∀ (L : ri_L) (st : List Value) (y : (gy × gy) × Nat), evm C0 b0 L0 xs0 238 (132, L, st) y = evm C0 b0 L0 xs0 238 (133, L, .int (Int32.ofInt 0) :: st) y) :=
  ⟨fun L st y => em_p rfl rfl,
   fun L y a0 a1 a2 a3 a4 => em_call rfl rfl rfl rfl rfl,
   fun l0 l1 l2 l3 l4 l5 l6 l7 l8 l9 l10 l11 l12 l13 l14 l15 l16 st y x => em_p rfl rfl,
   fun l0 l1 l2 l3 l4 l6 l7 l8 l9 l10 l11 l12 l13 l14 l15 l16 st y x => em_p rfl rfl,
   fun L st y x => em_b rfl rfl,
   fun l0 l1 l2 l3 l4 l5 l7 l8 l9 l10 l11 l12 l13 l14 l15 l16 st y x => em_p rfl rfl,
   fun l0 l1 l2 l3 l4 l6 l7 l8 l9 l10 l11 l12 l13 l14 l15 l16 st y x => em_p rfl rfl,
   fun L st y z x => em_b rfl rfl,
   fun l0 l1 l2 l3 l4 l5 l6 l8 l9 l10 l11 l12 l13 l14 l15 l16 st y x => em_p rfl rfl,
   fun l0 l1 l2 l3 l4 l5 l7 l8 l9 l10 l11 l12 l13 l14 l15 l16 st y x => em_p rfl rfl,
   fun L st y z x => em_b rfl rfl,
   fun l0 l1 l2 l3 l4 l5 l6 l8 l9 l10 l11 l12 l13 l14 l15 l16 st y x => em_p rfl rfl,
   fun l1 l2 l3 l4 l5 l6 l7 l8 l9 l10 l11 l12 l13 l14 l15 l16 st y x => em_p rfl rfl,
   fun L st y => em_p rfl rfl,
   fun L st y => em_p rfl rfl,
   fun L st y => em_p rfl rfl,
   fun L st y => em_p rfl rfl,
   fun L y a0 a1 a2 a3 a4 s0 => em_call rfl rfl rfl rfl rfl,
   fun L st y z x => em_b rfl rfl,
   fun l0 l2 l3 l4 l5 l6 l7 l8 l9 l10 l11 l12 l13 l14 l15 l16 st y x => em_p rfl rfl,
   fun L st y => em_p rfl rfl,
   fun L st y => em_p rfl rfl,
   fun L st y => em_p rfl rfl,
   fun L st y => em_p rfl rfl,
   fun L y a0 a1 a2 a3 a4 => em_call rfl rfl rfl rfl rfl,
   fun l0 l1 l2 l3 l4 l5 l6 l7 l9 l10 l11 l12 l13 l14 l15 l16 st y x => em_p rfl rfl,
   fun L st y z x => em_b rfl rfl,
   fun L st y => em_p rfl rfl,
   fun L st y => em_p rfl rfl,
   fun L st y => em_p rfl rfl,
   fun l0 l1 l2 l3 l4 l5 l6 l7 l8 l9 l10 l11 l12 l13 l14 l15 l16 st y x => em_p rfl rfl,
   fun L st y => em_p rfl rfl,
   fun l0 l1 l2 l3 l4 l5 l6 l7 l8 l9 l10 l11 l12 l13 l14 l15 l16 st y x => em_p rfl rfl,
   fun L st y => em_p rfl rfl,
   fun l0 l1 l2 l3 l4 l5 l6 l7 l8 l9 l10 l11 l12 l13 l14 l15 l16 st y x => em_p rfl rfl,
   fun L st y => em_p rfl rfl,
   fun l1 l2 l3 l4 l5 l6 l7 l8 l9 l10 l11 l12 l13 l14 l15 l16 st y x => em_p rfl rfl,
   fun L st y => em_p rfl rfl,
   fun L st y => em_p rfl rfl,
   fun L st y => em_p rfl rfl⟩
set_option maxRecDepth 8000 in
theorem L_238_2 :
  (∀ (L : ri_L) (st : List Value) (y : (gy × gy) × Nat), evm C0 b0 L0 xs0 238 (133, L, st) y = evm C0 b0 L0 xs0 238 (134, L, .int (Int32.ofInt 0) :: st) y) ∧
  (∀ (L : ri_L) (y : (gy × gy) × Nat) (a0 : Nat) (a1 : Int32) (a2 : Int32) (a3 : Int32) (a4 : Int32) (s0 s1 : Value), evm C0 b0 L0 xs0 238 (134, L, [.int a4, .int a3, .int a2, .int a1, .ref a0, s0, s1]) y = lm_n (calm C0 b0 L0 xs0 230 [.ref a0, .int a1, .int a2, .int a3, .int a4] y) fun v y => evm C0 b0 L0 xs0 238 (137, L, [v, s0, s1]) y) ∧
  (∀ (L : ri_L) (st : List Value) (y : (gy × gy) × Nat) (z x : Int32), evm C0 b0 L0 xs0 238 (137, L, .int z :: .int x :: st) y = evm C0 b0 L0 xs0 238 (138, L, .int (x + z) :: st) y) ∧
  (∀ (L : ri_L) (st : List Value) (y : (gy × gy) × Nat) (z x : Int32), evm C0 b0 L0 xs0 238 (138, L, .int z :: .int x :: st) y = if z ≤ x then evm C0 b0 L0 xs0 238 (370, L, st) y else evm C0 b0 L0 xs0 238 (141, L, st) y) ∧
  (∀ (l0 l1 l2 l3 l4 l5 l6 l7 l8 l10 l11 l12 l13 l14 l15 l16 : Option Value) (st : List Value) (y : (gy × gy) × Nat) (x : Int32), evm C0 b0 L0 xs0 238 (141, [l0, l1, l2, l3, l4, l5, l6, l7, l8, some (.int x), l10, l11, l12, l13, l14, l15, l16], st) y = evm C0 b0 L0 xs0 238 (143, [l0, l1, l2, l3, l4, l5, l6, l7, l8, some (.int x), l10, l11, l12, l13, l14, l15, l16], .int x :: st) y) ∧
  (∀ (L : ri_L) (st : List Value) (y : (gy × gy) × Nat) (x : Int32), evm C0 b0 L0 xs0 238 (143, L, .int x :: st) y = if x = 0 then evm C0 b0 L0 xs0 238 (370, L, st) y else evm C0 b0 L0 xs0 238 (146, L, st) y) ∧
  (∀ (l1 l2 l3 l4 l5 l6 l7 l8 l9 l10 l11 l12 l13 l14 l15 l16 : Option Value) (st : List Value) (y : (gy × gy) × Nat) (x : Nat), evm C0 b0 L0 xs0 238 (146, [some (.ref x), l1, l2, l3, l4, l5, l6, l7, l8, l9, l10, l11, l12, l13, l14, l15, l16], st) y = evm C0 b0 L0 xs0 238 (147, [some (.ref x), l1, l2, l3, l4, l5, l6, l7, l8, l9, l10, l11, l12, l13, l14, l15, l16], .ref x :: st) y) ∧
  (∀ (L : ri_L) (st : List Value) (y : (gy × gy) × Nat), evm C0 b0 L0 xs0 238 (147, L, st) y = evm C0 b0 L0 xs0 238 (148, L, .int (Int32.ofInt 4) :: st) y) ∧
  (∀ (l0 l1 l2 l3 l5 l6 l7 l8 l9 l10 l11 l12 l13 l14 l15 l16 : Option Value) (st : List Value) (y : (gy × gy) × Nat) (x : Int32), evm C0 b0 L0 xs0 238 (148, [l0, l1, l2, l3, some (.int x), l5, l6, l7, l8, l9, l10, l11, l12, l13, l14, l15, l16], st) y = evm C0 b0 L0 xs0 238 (150, [l0, l1, l2, l3, some (.int x), l5, l6, l7, l8, l9, l10, l11, l12, l13, l14, l15, l16], .int x :: st) y) ∧
  (∀ (L : ri_L) (st : List Value) (y : (gy × gy) × Nat), evm C0 b0 L0 xs0 238 (150, L, st) y = evm C0 b0 L0 xs0 238 (151, L, .int (Int32.ofInt 1) :: st) y) ∧
  (∀ (L : ri_L) (st : List Value) (y : (gy × gy) × Nat), evm C0 b0 L0 xs0 238 (151, L, st) y = evm C0 b0 L0 xs0 238 (152, L, .int (Int32.ofInt 0) :: st) y) ∧
  (∀ (L : ri_L) (y : (gy × gy) × Nat) (a0 : Nat) (a1 : Int32) (a2 : Int32) (a3 : Int32) (a4 : Int32), evm C0 b0 L0 xs0 238 (152, L, [.int a4, .int a3, .int a2, .int a1, .ref a0]) y = lm_n (calm C0 b0 L0 xs0 230 [.ref a0, .int a1, .int a2, .int a3, .int a4] y) fun v y => evm C0 b0 L0 xs0 238 (155, L, [v]) y) ∧
  (∀ (l0 l1 l2 l3 l4 l5 l6 l7 l8 l9 l10 l11 l12 l13 l14 l15 l16 : Option Value) (st : List Value) (y : (gy × gy) × Nat) (x : Int32), evm C0 b0 L0 xs0 238 (155, [l0, l1, l2, l3, l4, l5, l6, l7, l8, l9, l10, l11, l12, l13, l14, l15, l16], .int x :: st) y = evm C0 b0 L0 xs0 238 (157, [l0, l1, l2, l3, l4, l5, l6, l7, l8, l9, l10, ri_clr l11, some (.int x), l13, l14, l15, l16], st) y) ∧
  (∀ (l1 l2 l3 l4 l5 l6 l7 l8 l9 l10 l11 l12 l13 l14 l15 l16 : Option Value) (st : List Value) (y : (gy × gy) × Nat) (x : Nat), evm C0 b0 L0 xs0 238 (157, [some (.ref x), l1, l2, l3, l4, l5, l6, l7, l8, l9, l10, l11, l12, l13, l14, l15, l16], st) y = evm C0 b0 L0 xs0 238 (158, [some (.ref x), l1, l2, l3, l4, l5, l6, l7, l8, l9, l10, l11, l12, l13, l14, l15, l16], .ref x :: st) y) ∧
  (∀ (L : ri_L) (st : List Value) (y : (gy × gy) × Nat), evm C0 b0 L0 xs0 238 (158, L, st) y = evm C0 b0 L0 xs0 238 (159, L, .int (Int32.ofInt 3) :: st) y) ∧
  (∀ (l0 l1 l2 l3 l4 l5 l6 l7 l8 l9 l10 l11 l13 l14 l15 l16 : Option Value) (st : List Value) (y : (gy × gy) × Nat) (x : Int32), evm C0 b0 L0 xs0 238 (159, [l0, l1, l2, l3, l4, l5, l6, l7, l8, l9, l10, l11, some (.int x), l13, l14, l15, l16], st) y = evm C0 b0 L0 xs0 238 (161, [l0, l1, l2, l3, l4, l5, l6, l7, l8, l9, l10, l11, some (.int x), l13, l14, l15, l16], .int x :: st) y) ∧
  (∀ (L : ri_L) (st : List Value) (y : (gy × gy) × Nat), evm C0 b0 L0 xs0 238 (161, L, st) y = evm C0 b0 L0 xs0 238 (162, L, .int (Int32.ofInt 0) :: st) y) ∧
  (∀ (L : ri_L) (st : List Value) (y : (gy × gy) × Nat), evm C0 b0 L0 xs0 238 (162, L, st) y = evm C0 b0 L0 xs0 238 (163, L, .int (Int32.ofInt 0) :: st) y) ∧
  (∀ (L : ri_L) (y : (gy × gy) × Nat) (a0 : Nat) (a1 : Int32) (a2 : Int32) (a3 : Int32) (a4 : Int32), evm C0 b0 L0 xs0 238 (163, L, [.int a4, .int a3, .int a2, .int a1, .ref a0]) y = lm_n (calm C0 b0 L0 xs0 230 [.ref a0, .int a1, .int a2, .int a3, .int a4] y) fun v y => evm C0 b0 L0 xs0 238 (166, L, [v]) y) ∧
  (∀ (l0 l1 l2 l3 l4 l5 l6 l7 l8 l9 l10 l11 l12 l13 l14 l15 l16 : Option Value) (st : List Value) (y : (gy × gy) × Nat) (x : Int32), evm C0 b0 L0 xs0 238 (166, [l0, l1, l2, l3, l4, l5, l6, l7, l8, l9, l10, l11, l12, l13, l14, l15, l16], .int x :: st) y = evm C0 b0 L0 xs0 238 (168, [l0, l1, l2, l3, l4, l5, l6, l7, l8, l9, l10, l11, ri_clr l12, some (.int x), l14, l15, l16], st) y) ∧
  (∀ (l1 l2 l3 l4 l5 l6 l7 l8 l9 l10 l11 l12 l13 l14 l15 l16 : Option Value) (st : List Value) (y : (gy × gy) × Nat) (x : Nat), evm C0 b0 L0 xs0 238 (168, [some (.ref x), l1, l2, l3, l4, l5, l6, l7, l8, l9, l10, l11, l12, l13, l14, l15, l16], st) y = evm C0 b0 L0 xs0 238 (169, [some (.ref x), l1, l2, l3, l4, l5, l6, l7, l8, l9, l10, l11, l12, l13, l14, l15, l16], .ref x :: st) y) ∧
  (∀ (L : ri_L) (st : List Value) (y : (gy × gy) × Nat), evm C0 b0 L0 xs0 238 (169, L, st) y = evm C0 b0 L0 xs0 238 (170, L, .int (Int32.ofInt 4) :: st) y) ∧
  (∀ (l0 l1 l2 l3 l5 l6 l7 l8 l9 l10 l11 l12 l13 l14 l15 l16 : Option Value) (st : List Value) (y : (gy × gy) × Nat) (x : Int32), evm C0 b0 L0 xs0 238 (170, [l0, l1, l2, l3, some (.int x), l5, l6, l7, l8, l9, l10, l11, l12, l13, l14, l15, l16], st) y = evm C0 b0 L0 xs0 238 (172, [l0, l1, l2, l3, some (.int x), l5, l6, l7, l8, l9, l10, l11, l12, l13, l14, l15, l16], .int x :: st) y) ∧
  (∀ (L : ri_L) (st : List Value) (y : (gy × gy) × Nat), evm C0 b0 L0 xs0 238 (172, L, st) y = evm C0 b0 L0 xs0 238 (173, L, .int (Int32.ofInt 3) :: st) y) ∧
  (∀ (L : ri_L) (st : List Value) (y : (gy × gy) × Nat), evm C0 b0 L0 xs0 238 (173, L, st) y = evm C0 b0 L0 xs0 238 (174, L, .int (Int32.ofInt 0) :: st) y) ∧
  (∀ (L : ri_L) (y : (gy × gy) × Nat) (a0 : Nat) (a1 : Int32) (a2 : Int32) (a3 : Int32) (a4 : Int32), evm C0 b0 L0 xs0 238 (174, L, [.int a4, .int a3, .int a2, .int a1, .ref a0]) y = lm_n (calm C0 b0 L0 xs0 230 [.ref a0, .int a1, .int a2, .int a3, .int a4] y) fun v y => evm C0 b0 L0 xs0 238 (177, L, [v]) y) ∧
  (∀ (l0 l1 l2 l3 l4 l5 l6 l7 l8 l9 l10 l11 l12 l13 l14 l15 l16 : Option Value) (st : List Value) (y : (gy × gy) × Nat) (x : Int32), evm C0 b0 L0 xs0 238 (177, [l0, l1, l2, l3, l4, l5, l6, l7, l8, l9, l10, l11, l12, l13, l14, l15, l16], .int x :: st) y = evm C0 b0 L0 xs0 238 (179, [l0, l1, l2, l3, l4, l5, l6, l7, l8, l9, l10, l11, l12, ri_clr l13, some (.int x), l15, l16], st) y) ∧
  (∀ (l0 l1 l2 l3 l4 l5 l6 l7 l8 l9 l10 l12 l13 l14 l15 l16 : Option Value) (st : List Value) (y : (gy × gy) × Nat) (x : Int32), evm C0 b0 L0 xs0 238 (179, [l0, l1, l2, l3, l4, l5, l6, l7, l8, l9, l10, some (.int x), l12, l13, l14, l15, l16], st) y = evm C0 b0 L0 xs0 238 (181, [l0, l1, l2, l3, l4, l5, l6, l7, l8, l9, l10, some (.int x), l12, l13, l14, l15, l16], .int x :: st) y) ∧
  (∀ (L : ri_L) (st : List Value) (y : (gy × gy) × Nat), evm C0 b0 L0 xs0 238 (181, L, st) y = evm C0 b0 L0 xs0 238 (182, L, .int (Int32.ofInt 2) :: st) y) ∧
  (∀ (L : ri_L) (st : List Value) (y : (gy × gy) × Nat) (z x : Int32), evm C0 b0 L0 xs0 238 (182, L, .int z :: .int x :: st) y = if z ≤ x then evm C0 b0 L0 xs0 238 (258, L, st) y else evm C0 b0 L0 xs0 238 (185, L, st) y) ∧
  (∀ (l0 l1 l2 l3 l4 l5 l6 l7 l8 l9 l10 l11 l12 l13 l15 l16 : Option Value) (st : List Value) (y : (gy × gy) × Nat) (x : Int32), evm C0 b0 L0 xs0 238 (185, [l0, l1, l2, l3, l4, l5, l6, l7, l8, l9, l10, l11, l12, l13, some (.int x), l15, l16], st) y = evm C0 b0 L0 xs0 238 (187, [l0, l1, l2, l3, l4, l5, l6, l7, l8, l9, l10, l11, l12, l13, some (.int x), l15, l16], .int x :: st) y) ∧
  (∀ (l0 l1 l2 l3 l4 l5 l6 l7 l8 l9 l10 l12 l13 l14 l15 l16 : Option Value) (st : List Value) (y : (gy × gy) × Nat) (x : Int32), evm C0 b0 L0 xs0 238 (187, [l0, l1, l2, l3, l4, l5, l6, l7, l8, l9, l10, some (.int x), l12, l13, l14, l15, l16], st) y = evm C0 b0 L0 xs0 238 (189, [l0, l1, l2, l3, l4, l5, l6, l7, l8, l9, l10, some (.int x), l12, l13, l14, l15, l16], .int x :: st) y) ∧
  (∀ (L : ri_L) (st : List Value) (y : (gy × gy) × Nat) (x : Int32), evm C0 b0 L0 xs0 238 (189, L, .int x :: st) y = if ¬ x = 0 then evm C0 b0 L0 xs0 238 (196, L, st) y else evm C0 b0 L0 xs0 238 (192, L, st) y) ∧
  (∀ (L : ri_L) (st : List Value) (y : (gy × gy) × Nat), evm C0 b0 L0 xs0 238 (192, L, st) y = evm C0 b0 L0 xs0 238 (193, L, .int (Int32.ofInt 1) :: st) y) ∧
  (∀ (L : ri_L) (st : List Value) (y : (gy × gy) × Nat), evm C0 b0 L0 xs0 238 (193, L, st) y = evm C0 b0 L0 xs0 238 (200, L, st) y) ∧
  (∀ (l0 l1 l2 l3 l4 l5 l6 l7 l8 l9 l10 l11 l12 l14 l15 l16 : Option Value) (st : List Value) (y : (gy × gy) × Nat) (x : Int32), evm C0 b0 L0 xs0 238 (196, [l0, l1, l2, l3, l4, l5, l6, l7, l8, l9, l10, l11, l12, some (.int x), l14, l15, l16], st) y = evm C0 b0 L0 xs0 238 (198, [l0, l1, l2, l3, l4, l5, l6, l7, l8, l9, l10, l11, l12, some (.int x), l14, l15, l16], .int x :: st) y) ∧
  (∀ (L : ri_L) (st : List Value) (y : (gy × gy) × Nat), evm C0 b0 L0 xs0 238 (198, L, st) y = evm C0 b0 L0 xs0 238 (199, L, .int (Int32.ofInt 1) :: st) y) ∧
  (∀ (L : ri_L) (st : List Value) (y : (gy × gy) × Nat) (z x : Int32), evm C0 b0 L0 xs0 238 (199, L, .int z :: .int x :: st) y = evm C0 b0 L0 xs0 238 (200, L, .int (x - z) :: st) y) ∧
  (∀ (L : ri_L) (st : List Value) (y : (gy × gy) × Nat) (z x : Int32), evm C0 b0 L0 xs0 238 (200, L, .int z :: .int x :: st) y = evm C0 b0 L0 xs0 238 (201, L, .int (x + z) :: st) y) ∧
  (∀ (l0 l1 l2 l3 l4 l5 l6 l7 l8 l9 l10 l11 l12 l14 l15 l16 : Option Value) (st : List Value) (y : (gy × gy) × Nat) (x : Int32), evm C0 b0 L0 xs0 238 (201, [l0, l1, l2, l3, l4, l5, l6, l7, l8, l9, l10, l11, l12, some (.int x), l14, l15, l16], st) y = evm C0 b0 L0 xs0 238 (203, [l0, l1, l2, l3, l4, l5, l6, l7, l8, l9, l10, l11, l12, some (.int x), l14, l15, l16], .int x :: st) y) :=
  ⟨fun L st y => em_p rfl rfl,
   fun L y a0 a1 a2 a3 a4 s0 s1 => em_call rfl rfl rfl rfl rfl,
   fun L st y z x => em_p rfl rfl,
   fun L st y z x => em_b rfl rfl,
   fun l0 l1 l2 l3 l4 l5 l6 l7 l8 l10 l11 l12 l13 l14 l15 l16 st y x => em_p rfl rfl,
   fun L st y x => em_b rfl rfl,
   fun l1 l2 l3 l4 l5 l6 l7 l8 l9 l10 l11 l12 l13 l14 l15 l16 st y x => em_p rfl rfl,
   fun L st y => em_p rfl rfl,
   fun l0 l1 l2 l3 l5 l6 l7 l8 l9 l10 l11 l12 l13 l14 l15 l16 st y x => em_p rfl rfl,
   fun L st y => em_p rfl rfl,
   fun L st y => em_p rfl rfl,
   fun L y a0 a1 a2 a3 a4 => em_call rfl rfl rfl rfl rfl,
   fun l0 l1 l2 l3 l4 l5 l6 l7 l8 l9 l10 l11 l12 l13 l14 l15 l16 st y x => em_p rfl rfl,
   fun l1 l2 l3 l4 l5 l6 l7 l8 l9 l10 l11 l12 l13 l14 l15 l16 st y x => em_p rfl rfl,
   fun L st y => em_p rfl rfl,
   fun l0 l1 l2 l3 l4 l5 l6 l7 l8 l9 l10 l11 l13 l14 l15 l16 st y x => em_p rfl rfl,
   fun L st y => em_p rfl rfl,
   fun L st y => em_p rfl rfl,
   fun L y a0 a1 a2 a3 a4 => em_call rfl rfl rfl rfl rfl,
   fun l0 l1 l2 l3 l4 l5 l6 l7 l8 l9 l10 l11 l12 l13 l14 l15 l16 st y x => em_p rfl rfl,
   fun l1 l2 l3 l4 l5 l6 l7 l8 l9 l10 l11 l12 l13 l14 l15 l16 st y x => em_p rfl rfl,
   fun L st y => em_p rfl rfl,
   fun l0 l1 l2 l3 l5 l6 l7 l8 l9 l10 l11 l12 l13 l14 l15 l16 st y x => em_p rfl rfl,
   fun L st y => em_p rfl rfl,
   fun L st y => em_p rfl rfl,
   fun L y a0 a1 a2 a3 a4 => em_call rfl rfl rfl rfl rfl,
   fun l0 l1 l2 l3 l4 l5 l6 l7 l8 l9 l10 l11 l12 l13 l14 l15 l16 st y x => em_p rfl rfl,
   fun l0 l1 l2 l3 l4 l5 l6 l7 l8 l9 l10 l12 l13 l14 l15 l16 st y x => em_p rfl rfl,
   fun L st y => em_p rfl rfl,
   fun L st y z x => em_b rfl rfl,
   fun l0 l1 l2 l3 l4 l5 l6 l7 l8 l9 l10 l11 l12 l13 l15 l16 st y x => em_p rfl rfl,
   fun l0 l1 l2 l3 l4 l5 l6 l7 l8 l9 l10 l12 l13 l14 l15 l16 st y x => em_p rfl rfl,
   fun L st y x => em_b rfl rfl,
   fun L st y => em_p rfl rfl,
   fun L st y => em_p rfl rfl,
   fun l0 l1 l2 l3 l4 l5 l6 l7 l8 l9 l10 l11 l12 l14 l15 l16 st y x => em_p rfl rfl,
   fun L st y => em_p rfl rfl,
   fun L st y z x => em_p rfl rfl,
   fun L st y z x => em_p rfl rfl,
   fun l0 l1 l2 l3 l4 l5 l6 l7 l8 l9 l10 l11 l12 l14 l15 l16 st y x => em_p rfl rfl⟩
set_option maxRecDepth 8000 in
theorem L_238_3 :
  (∀ (L : ri_L) (st : List Value) (y : (gy × gy) × Nat) (z x : Int32), evm C0 b0 L0 xs0 238 (203, L, .int z :: .int x :: st) y = if z = 0 then none else evm C0 b0 L0 xs0 238 (204, L, .int (x - x / z * z) :: st) y) ∧
  (∀ (l0 l1 l2 l3 l4 l5 l6 l7 l8 l9 l10 l11 l12 l13 l14 l15 l16 : Option Value) (st : List Value) (y : (gy × gy) × Nat) (x : Int32), evm C0 b0 L0 xs0 238 (204, [l0, l1, l2, l3, l4, l5, l6, l7, l8, l9, l10, l11, l12, l13, l14, l15, l16], .int x :: st) y = evm C0 b0 L0 xs0 238 (206, [l0, l1, l2, l3, l4, l5, l6, l7, l8, l9, l10, l11, l12, l13, ri_clr l14, some (.int x), l16], st) y) ∧
  (∀ (l1 l2 l3 l4 l5 l6 l7 l8 l9 l10 l11 l12 l13 l14 l15 l16 : Option Value) (st : List Value) (y : (gy × gy) × Nat) (x : Nat), evm C0 b0 L0 xs0 238 (206, [some (.ref x), l1, l2, l3, l4, l5, l6, l7, l8, l9, l10, l11, l12, l13, l14, l15, l16], st) y = evm C0 b0 L0 xs0 238 (207, [some (.ref x), l1, l2, l3, l4, l5, l6, l7, l8, l9, l10, l11, l12, l13, l14, l15, l16], .ref x :: st) y) ∧
  (∀ (L : ri_L) (st : List Value) (y : (gy × gy) × Nat), evm C0 b0 L0 xs0 238 (207, L, st) y = evm C0 b0 L0 xs0 238 (209, L, .int (Int32.ofInt 6) :: st) y) ∧
  (∀ (l0 l1 l2 l3 l4 l5 l6 l7 l8 l9 l10 l11 l13 l14 l15 l16 : Option Value) (st : List Value) (y : (gy × gy) × Nat) (x : Int32), evm C0 b0 L0 xs0 238 (209, [l0, l1, l2, l3, l4, l5, l6, l7, l8, l9, l10, l11, some (.int x), l13, l14, l15, l16], st) y = evm C0 b0 L0 xs0 238 (211, [l0, l1, l2, l3, l4, l5, l6, l7, l8, l9, l10, l11, some (.int x), l13, l14, l15, l16], .int x :: st) y) ∧
  (∀ (l0 l1 l2 l3 l4 l5 l6 l7 l8 l9 l10 l11 l12 l13 l14 l16 : Option Value) (st : List Value) (y : (gy × gy) × Nat) (x : Int32), evm C0 b0 L0 xs0 238 (211, [l0, l1, l2, l3, l4, l5, l6, l7, l8, l9, l10, l11, l12, l13, l14, some (.int x), l16], st) y = evm C0 b0 L0 xs0 238 (213, [l0, l1, l2, l3, l4, l5, l6, l7, l8, l9, l10, l11, l12, l13, l14, some (.int x), l16], .int x :: st) y) ∧
  (∀ (L : ri_L) (st : List Value) (y : (gy × gy) × Nat), evm C0 b0 L0 xs0 238 (213, L, st) y = evm C0 b0 L0 xs0 238 (214, L, .int (Int32.ofInt 2) :: st) y) ∧
  (∀ (L : ri_L) (y : (gy × gy) × Nat) (a0 : Nat) (a1 : Int32) (a2 : Int32) (a3 : Int32) (a4 : Int32), evm C0 b0 L0 xs0 238 (214, L, [.int a4, .int a3, .int a2, .int a1, .ref a0]) y = lm_n (calm C0 b0 L0 xs0 230 [.ref a0, .int a1, .int a2, .int a3, .int a4] y) fun v y => evm C0 b0 L0 xs0 238 (217, L, [v]) y) ∧
  (∀ (L : ri_L) (st : List Value) (y : (gy × gy) × Nat), evm C0 b0 L0 xs0 238 (217, L, st) y = evm C0 b0 L0 xs0 238 (218, L, .int (Int32.ofInt (-1)) :: st) y) ∧
  (∀ (L : ri_L) (st : List Value) (y : (gy × gy) × Nat) (z x : Int32), evm C0 b0 L0 xs0 238 (218, L, .int z :: .int x :: st) y = if ¬ x = z then evm C0 b0 L0 xs0 238 (251, L, st) y else evm C0 b0 L0 xs0 238 (221, L, st) y) ∧
  (∀ (l1 l2 l3 l4 l5 l6 l7 l8 l9 l10 l11 l12 l13 l14 l15 l16 : Option Value) (st : List Value) (y : (gy × gy) × Nat) (x : Nat), evm C0 b0 L0 xs0 238 (221, [some (.ref x), l1, l2, l3, l4, l5, l6, l7, l8, l9, l10, l11, l12, l13, l14, l15, l16], st) y = evm C0 b0 L0 xs0 238 (222, [some (.ref x), l1, l2, l3, l4, l5, l6, l7, l8, l9, l10, l11, l12, l13, l14, l15, l16], .ref x :: st) y) ∧
  (∀ (L : ri_L) (st : List Value) (y : (gy × gy) × Nat), evm C0 b0 L0 xs0 238 (222, L, st) y = evm C0 b0 L0 xs0 238 (224, L, .int (Int32.ofInt 6) :: st) y) ∧
  (∀ (l0 l1 l2 l3 l4 l5 l6 l7 l8 l9 l10 l11 l13 l14 l15 l16 : Option Value) (st : List Value) (y : (gy × gy) × Nat) (x : Int32), evm C0 b0 L0 xs0 238 (224, [l0, l1, l2, l3, l4, l5, l6, l7, l8, l9, l10, l11, some (.int x), l13, l14, l15, l16], st) y = evm C0 b0 L0 xs0 238 (226, [l0, l1, l2, l3, l4, l5, l6, l7, l8, l9, l10, l11, some (.int x), l13, l14, l15, l16], .int x :: st) y) ∧
  (∀ (l0 l1 l2 l3 l4 l5 l6 l7 l8 l9 l10 l11 l12 l13 l14 l16 : Option Value) (st : List Value) (y : (gy × gy) × Nat) (x : Int32), evm C0 b0 L0 xs0 238 (226, [l0, l1, l2, l3, l4, l5, l6, l7, l8, l9, l10, l11, l12, l13, l14, some (.int x), l16], st) y = evm C0 b0 L0 xs0 238 (228, [l0, l1, l2, l3, l4, l5, l6, l7, l8, l9, l10, l11, l12, l13, l14, some (.int x), l16], .int x :: st) y) ∧
  (∀ (L : ri_L) (st : List Value) (y : (gy × gy) × Nat), evm C0 b0 L0 xs0 238 (228, L, st) y = evm C0 b0 L0 xs0 238 (229, L, .int (Int32.ofInt 1) :: st) y) ∧
  (∀ (L : ri_L) (y : (gy × gy) × Nat) (a0 : Nat) (a1 : Int32) (a2 : Int32) (a3 : Int32) (a4 : Int32), evm C0 b0 L0 xs0 238 (229, L, [.int a4, .int a3, .int a2, .int a1, .ref a0]) y = lm_n (calm C0 b0 L0 xs0 230 [.ref a0, .int a1, .int a2, .int a3, .int a4] y) fun v y => evm C0 b0 L0 xs0 238 (232, L, [v]) y) ∧
  (∀ (l0 l1 l2 l3 l4 l5 l6 l7 l8 l9 l11 l12 l13 l14 l15 l16 : Option Value) (st : List Value) (y : (gy × gy) × Nat) (x : Int32), evm C0 b0 L0 xs0 238 (232, [l0, l1, l2, l3, l4, l5, l6, l7, l8, l9, some (.int x), l11, l12, l13, l14, l15, l16], st) y = evm C0 b0 L0 xs0 238 (234, [l0, l1, l2, l3, l4, l5, l6, l7, l8, l9, some (.int x), l11, l12, l13, l14, l15, l16], .int x :: st) y) ∧
  (∀ (L : ri_L) (st : List Value) (y : (gy × gy) × Nat) (z x : Int32), evm C0 b0 L0 xs0 238 (234, L, .int z :: .int x :: st) y = if x ≤ z then evm C0 b0 L0 xs0 238 (251, L, st) y else evm C0 b0 L0 xs0 238 (237, L, st) y) ∧
  (∀ (l1 l2 l3 l4 l5 l6 l7 l8 l9 l10 l11 l12 l13 l14 l15 l16 : Option Value) (st : List Value) (y : (gy × gy) × Nat) (x : Nat), evm C0 b0 L0 xs0 238 (237, [some (.ref x), l1, l2, l3, l4, l5, l6, l7, l8, l9, l10, l11, l12, l13, l14, l15, l16], st) y = evm C0 b0 L0 xs0 238 (238, [some (.ref x), l1, l2, l3, l4, l5, l6, l7, l8, l9, l10, l11, l12, l13, l14, l15, l16], .ref x :: st) y) ∧
  (∀ (L : ri_L) (st : List Value) (y : (gy × gy) × Nat), evm C0 b0 L0 xs0 238 (238, L, st) y = evm C0 b0 L0 xs0 238 (240, L, .int (Int32.ofInt 6) :: st) y) ∧
  (∀ (l0 l1 l2 l3 l4 l5 l6 l7 l8 l9 l10 l11 l13 l14 l15 l16 : Option Value) (st : List Value) (y : (gy × gy) × Nat) (x : Int32), evm C0 b0 L0 xs0 238 (240, [l0, l1, l2, l3, l4, l5, l6, l7, l8, l9, l10, l11, some (.int x), l13, l14, l15, l16], st) y = evm C0 b0 L0 xs0 238 (242, [l0, l1, l2, l3, l4, l5, l6, l7, l8, l9, l10, l11, some (.int x), l13, l14, l15, l16], .int x :: st) y) ∧
  (∀ (l0 l1 l2 l3 l4 l5 l6 l7 l8 l9 l10 l11 l12 l13 l14 l16 : Option Value) (st : List Value) (y : (gy × gy) × Nat) (x : Int32), evm C0 b0 L0 xs0 238 (242, [l0, l1, l2, l3, l4, l5, l6, l7, l8, l9, l10, l11, l12, l13, l14, some (.int x), l16], st) y = evm C0 b0 L0 xs0 238 (244, [l0, l1, l2, l3, l4, l5, l6, l7, l8, l9, l10, l11, l12, l13, l14, some (.int x), l16], .int x :: st) y) ∧
  (∀ (L : ri_L) (st : List Value) (y : (gy × gy) × Nat), evm C0 b0 L0 xs0 238 (244, L, st) y = evm C0 b0 L0 xs0 238 (245, L, .int (Int32.ofInt 1) :: st) y) ∧
  (∀ (L : ri_L) (y : (gy × gy) × Nat) (a0 : Nat) (a1 : Int32) (a2 : Int32) (a3 : Int32) (a4 : Int32), evm C0 b0 L0 xs0 238 (245, L, [.int a4, .int a3, .int a2, .int a1, .ref a0]) y = lm_n (calm C0 b0 L0 xs0 230 [.ref a0, .int a1, .int a2, .int a3, .int a4] y) fun v y => evm C0 b0 L0 xs0 238 (248, L, [v]) y) ∧
  (∀ (L : ri_L) (st : List Value) (y : (gy × gy) × Nat), evm C0 b0 L0 xs0 238 (248, L, st) y = evm C0 b0 L0 xs0 238 (253, L, st) y) ∧
  (∀ (l0 l1 l2 l3 l4 l5 l6 l7 l8 l9 l11 l12 l13 l14 l15 l16 : Option Value) (st : List Value) (y : (gy × gy) × Nat) (x : Int32), evm C0 b0 L0 xs0 238 (251, [l0, l1, l2, l3, l4, l5, l6, l7, l8, l9, some (.int x), l11, l12, l13, l14, l15, l16], st) y = evm C0 b0 L0 xs0 238 (253, [l0, l1, l2, l3, l4, l5, l6, l7, l8, l9, some (.int x), l11, l12, l13, l14, l15, l16], .int x :: st) y) ∧
  (∀ (l0 l1 l2 l3 l4 l5 l6 l7 l8 l9 l10 l11 l12 l13 l14 l15 l16 : Option Value) (st : List Value) (y : (gy × gy) × Nat) (x : Int32), evm C0 b0 L0 xs0 238 (253, [l0, l1, l2, l3, l4, l5, l6, l7, l8, l9, l10, l11, l12, l13, l14, l15, l16], .int x :: st) y = evm C0 b0 L0 xs0 238 (255, [l0, l1, l2, l3, l4, l5, l6, l7, l8, ri_clr l9, some (.int x), l11, l12, l13, l14, l15, l16], st) y) ∧
  (∀ (L : ri_L) (st : List Value) (y : (gy × gy) × Nat), evm C0 b0 L0 xs0 238 (255, L, st) y = evm C0 b0 L0 xs0 238 (364, L, st) y) ∧
  (∀ (l1 l2 l3 l4 l5 l6 l7 l8 l9 l10 l11 l12 l13 l14 l15 l16 : Option Value) (st : List Value) (y : (gy × gy) × Nat) (x : Nat), evm C0 b0 L0 xs0 238 (258, [some (.ref x), l1, l2, l3, l4, l5, l6, l7, l8, l9, l10, l11, l12, l13, l14, l15, l16], st) y = evm C0 b0 L0 xs0 238 (259, [some (.ref x), l1, l2, l3, l4, l5, l6, l7, l8, l9, l10, l11, l12, l13, l14, l15, l16], .ref x :: st) y) ∧
  (∀ (L : ri_L) (st : List Value) (y : (gy × gy) × Nat), evm C0 b0 L0 xs0 238 (259, L, st) y = evm C0 b0 L0 xs0 238 (261, L, .int (Int32.ofInt 15) :: st) y) ∧
  (∀ (l0 l1 l2 l3 l5 l6 l7 l8 l9 l10 l11 l12 l13 l14 l15 l16 : Option Value) (st : List Value) (y : (gy × gy) × Nat) (x : Int32), evm C0 b0 L0 xs0 238 (261, [l0, l1, l2, l3, some (.int x), l5, l6, l7, l8, l9, l10, l11, l12, l13, l14, l15, l16], st) y = evm C0 b0 L0 xs0 238 (263, [l0, l1, l2, l3, some (.int x), l5, l6, l7, l8, l9, l10, l11, l12, l13, l14, l15, l16], .int x :: st) y) ∧
  (∀ (l0 l1 l2 l3 l4 l5 l6 l7 l8 l9 l10 l12 l13 l14 l15 l16 : Option Value) (st : List Value) (y : (gy × gy) × Nat) (x : Int32), evm C0 b0 L0 xs0 238 (263, [l0, l1, l2, l3, l4, l5, l6, l7, l8, l9, l10, some (.int x), l12, l13, l14, l15, l16], st) y = evm C0 b0 L0 xs0 238 (265, [l0, l1, l2, l3, l4, l5, l6, l7, l8, l9, l10, some (.int x), l12, l13, l14, l15, l16], .int x :: st) y) ∧
  (∀ (L : ri_L) (st : List Value) (y : (gy × gy) × Nat), evm C0 b0 L0 xs0 238 (265, L, st) y = evm C0 b0 L0 xs0 238 (266, L, .int (Int32.ofInt 2) :: st) y) ∧
  (∀ (L : ri_L) (st : List Value) (y : (gy × gy) × Nat) (z x : Int32), evm C0 b0 L0 xs0 238 (266, L, .int z :: .int x :: st) y = evm C0 b0 L0 xs0 238 (267, L, .int (x - z) :: st) y) ∧
  (∀ (L : ri_L) (st : List Value) (y : (gy × gy) × Nat), evm C0 b0 L0 xs0 238 (267, L, st) y = evm C0 b0 L0 xs0 238 (268, L, .int (Int32.ofInt 0) :: st) y) ∧
  (∀ (L : ri_L) (y : (gy × gy) × Nat) (a0 : Nat) (a1 : Int32) (a2 : Int32) (a3 : Int32) (a4 : Int32), evm C0 b0 L0 xs0 238 (268, L, [.int a4, .int a3, .int a2, .int a1, .ref a0]) y = lm_n (calm C0 b0 L0 xs0 230 [.ref a0, .int a1, .int a2, .int a3, .int a4] y) fun v y => evm C0 b0 L0 xs0 238 (271, L, [v]) y) ∧
  (∀ (L : ri_L) (st : List Value) (y : (gy × gy) × Nat) (x : Int32), evm C0 b0 L0 xs0 238 (271, L, .int x :: st) y = if ¬ x = 0 then evm C0 b0 L0 xs0 238 (364, L, st) y else evm C0 b0 L0 xs0 238 (274, L, st) y) ∧
  (∀ (l1 l2 l3 l4 l5 l6 l7 l8 l9 l10 l11 l12 l13 l14 l15 l16 : Option Value) (st : List Value) (y : (gy × gy) × Nat) (x : Nat), evm C0 b0 L0 xs0 238 (274, [some (.ref x), l1, l2, l3, l4, l5, l6, l7, l8, l9, l10, l11, l12, l13, l14, l15, l16], st) y = evm C0 b0 L0 xs0 238 (275, [some (.ref x), l1, l2, l3, l4, l5, l6, l7, l8, l9, l10, l11, l12, l13, l14, l15, l16], .ref x :: st) y) ∧
  (∀ (L : ri_L) (st : List Value) (y : (gy × gy) × Nat), evm C0 b0 L0 xs0 238 (275, L, st) y = evm C0 b0 L0 xs0 238 (276, L, .int (Int32.ofInt 5) :: st) y) ∧
  (∀ (l0 l1 l2 l3 l4 l5 l6 l7 l8 l9 l10 l12 l13 l14 l15 l16 : Option Value) (st : List Value) (y : (gy × gy) × Nat) (x : Int32), evm C0 b0 L0 xs0 238 (276, [l0, l1, l2, l3, l4, l5, l6, l7, l8, l9, l10, some (.int x), l12, l13, l14, l15, l16], st) y = evm C0 b0 L0 xs0 238 (278, [l0, l1, l2, l3, l4, l5, l6, l7, l8, l9, l10, some (.int x), l12, l13, l14, l15, l16], .int x :: st) y) :=
  ⟨fun L st y z x => em_d rfl rfl,
   fun l0 l1 l2 l3 l4 l5 l6 l7 l8 l9 l10 l11 l12 l13 l14 l15 l16 st y x => em_p rfl rfl,
   fun l1 l2 l3 l4 l5 l6 l7 l8 l9 l10 l11 l12 l13 l14 l15 l16 st y x => em_p rfl rfl,
   fun L st y => em_p rfl rfl,
   fun l0 l1 l2 l3 l4 l5 l6 l7 l8 l9 l10 l11 l13 l14 l15 l16 st y x => em_p rfl rfl,
   fun l0 l1 l2 l3 l4 l5 l6 l7 l8 l9 l10 l11 l12 l13 l14 l16 st y x => em_p rfl rfl,
   fun L st y => em_p rfl rfl,
   fun L y a0 a1 a2 a3 a4 => em_call rfl rfl rfl rfl rfl,
   fun L st y => em_p rfl rfl,
   fun L st y z x => em_b rfl rfl,
   fun l1 l2 l3 l4 l5 l6 l7 l8 l9 l10 l11 l12 l13 l14 l15 l16 st y x => em_p rfl rfl,
   fun L st y => em_p rfl rfl,
   fun l0 l1 l2 l3 l4 l5 l6 l7 l8 l9 l10 l11 l13 l14 l15 l16 st y x => em_p rfl rfl,
   fun l0 l1 l2 l3 l4 l5 l6 l7 l8 l9 l10 l11 l12 l13 l14 l16 st y x => em_p rfl rfl,
   fun L st y => em_p rfl rfl,
   fun L y a0 a1 a2 a3 a4 => em_call rfl rfl rfl rfl rfl,
   fun l0 l1 l2 l3 l4 l5 l6 l7 l8 l9 l11 l12 l13 l14 l15 l16 st y x => em_p rfl rfl,
   fun L st y z x => em_b rfl rfl,
   fun l1 l2 l3 l4 l5 l6 l7 l8 l9 l10 l11 l12 l13 l14 l15 l16 st y x => em_p rfl rfl,
   fun L st y => em_p rfl rfl,
   fun l0 l1 l2 l3 l4 l5 l6 l7 l8 l9 l10 l11 l13 l14 l15 l16 st y x => em_p rfl rfl,
   fun l0 l1 l2 l3 l4 l5 l6 l7 l8 l9 l10 l11 l12 l13 l14 l16 st y x => em_p rfl rfl,
   fun L st y => em_p rfl rfl,
   fun L y a0 a1 a2 a3 a4 => em_call rfl rfl rfl rfl rfl,
   fun L st y => em_p rfl rfl,
   fun l0 l1 l2 l3 l4 l5 l6 l7 l8 l9 l11 l12 l13 l14 l15 l16 st y x => em_p rfl rfl,
   fun l0 l1 l2 l3 l4 l5 l6 l7 l8 l9 l10 l11 l12 l13 l14 l15 l16 st y x => em_p rfl rfl,
   fun L st y => em_p rfl rfl,
   fun l1 l2 l3 l4 l5 l6 l7 l8 l9 l10 l11 l12 l13 l14 l15 l16 st y x => em_p rfl rfl,
   fun L st y => em_p rfl rfl,
   fun l0 l1 l2 l3 l5 l6 l7 l8 l9 l10 l11 l12 l13 l14 l15 l16 st y x => em_p rfl rfl,
   fun l0 l1 l2 l3 l4 l5 l6 l7 l8 l9 l10 l12 l13 l14 l15 l16 st y x => em_p rfl rfl,
   fun L st y => em_p rfl rfl,
   fun L st y z x => em_p rfl rfl,
   fun L st y => em_p rfl rfl,
   fun L y a0 a1 a2 a3 a4 => em_call rfl rfl rfl rfl rfl,
   fun L st y x => em_b rfl rfl,
   fun l1 l2 l3 l4 l5 l6 l7 l8 l9 l10 l11 l12 l13 l14 l15 l16 st y x => em_p rfl rfl,
   fun L st y => em_p rfl rfl,
   fun l0 l1 l2 l3 l4 l5 l6 l7 l8 l9 l10 l12 l13 l14 l15 l16 st y x => em_p rfl rfl⟩
set_option maxRecDepth 8000 in
theorem L_238_4 :
  (∀ (L : ri_L) (st : List Value) (y : (gy × gy) × Nat), evm C0 b0 L0 xs0 238 (278, L, st) y = evm C0 b0 L0 xs0 238 (279, L, .int (Int32.ofInt 2) :: st) y) ∧
  (∀ (L : ri_L) (st : List Value) (y : (gy × gy) × Nat) (z x : Int32), evm C0 b0 L0 xs0 238 (279, L, .int z :: .int x :: st) y = evm C0 b0 L0 xs0 238 (280, L, .int (x - z) :: st) y) ∧
  (∀ (L : ri_L) (st : List Value) (y : (gy × gy) × Nat), evm C0 b0 L0 xs0 238 (280, L, st) y = evm C0 b0 L0 xs0 238 (281, L, .int (Int32.ofInt 0) :: st) y) ∧
  (∀ (L : ri_L) (st : List Value) (y : (gy × gy) × Nat), evm C0 b0 L0 xs0 238 (281, L, st) y = evm C0 b0 L0 xs0 238 (282, L, .int (Int32.ofInt 0) :: st) y) ∧
  (∀ (L : ri_L) (y : (gy × gy) × Nat) (a0 : Nat) (a1 : Int32) (a2 : Int32) (a3 : Int32) (a4 : Int32), evm C0 b0 L0 xs0 238 (282, L, [.int a4, .int a3, .int a2, .int a1, .ref a0]) y = lm_n (calm C0 b0 L0 xs0 230 [.ref a0, .int a1, .int a2, .int a3, .int a4] y) fun v y => evm C0 b0 L0 xs0 238 (285, L, [v]) y) ∧
  (∀ (l0 l1 l2 l3 l4 l5 l6 l7 l8 l9 l10 l11 l13 l14 l15 l16 : Option Value) (st : List Value) (y : (gy × gy) × Nat) (x : Int32), evm C0 b0 L0 xs0 238 (285, [l0, l1, l2, l3, l4, l5, l6, l7, l8, l9, l10, l11, some (.int x), l13, l14, l15, l16], st) y = evm C0 b0 L0 xs0 238 (287, [l0, l1, l2, l3, l4, l5, l6, l7, l8, l9, l10, l11, some (.int x), l13, l14, l15, l16], .int x :: st) y) ∧
  (∀ (L : ri_L) (st : List Value) (y : (gy × gy) × Nat) (z x : Int32), evm C0 b0 L0 xs0 238 (287, L, .int z :: .int x :: st) y = if ¬ x = z then evm C0 b0 L0 xs0 238 (310, L, st) y else evm C0 b0 L0 xs0 238 (290, L, st) y) ∧
  (∀ (l1 l2 l3 l4 l5 l6 l7 l8 l9 l10 l11 l12 l13 l14 l15 l16 : Option Value) (st : List Value) (y : (gy × gy) × Nat) (x : Nat), evm C0 b0 L0 xs0 238 (290, [some (.ref x), l1, l2, l3, l4, l5, l6, l7, l8, l9, l10, l11, l12, l13, l14, l15, l16], st) y = evm C0 b0 L0 xs0 238 (291, [some (.ref x), l1, l2, l3, l4, l5, l6, l7, l8, l9, l10, l11, l12, l13, l14, l15, l16], .ref x :: st) y) ∧
  (∀ (L : ri_L) (st : List Value) (y : (gy × gy) × Nat), evm C0 b0 L0 xs0 238 (291, L, st) y = evm C0 b0 L0 xs0 238 (292, L, .int (Int32.ofInt 5) :: st) y) ∧
  (∀ (l0 l1 l2 l3 l4 l5 l6 l7 l8 l9 l10 l12 l13 l14 l15 l16 : Option Value) (st : List Value) (y : (gy × gy) × Nat) (x : Int32), evm C0 b0 L0 xs0 238 (292, [l0, l1, l2, l3, l4, l5, l6, l7, l8, l9, l10, some (.int x), l12, l13, l14, l15, l16], st) y = evm C0 b0 L0 xs0 238 (294, [l0, l1, l2, l3, l4, l5, l6, l7, l8, l9, l10, some (.int x), l12, l13, l14, l15, l16], .int x :: st) y) ∧
  (∀ (L : ri_L) (st : List Value) (y : (gy × gy) × Nat), evm C0 b0 L0 xs0 238 (294, L, st) y = evm C0 b0 L0 xs0 238 (295, L, .int (Int32.ofInt 2) :: st) y) ∧
  (∀ (L : ri_L) (st : List Value) (y : (gy × gy) × Nat) (z x : Int32), evm C0 b0 L0 xs0 238 (295, L, .int z :: .int x :: st) y = evm C0 b0 L0 xs0 238 (296, L, .int (x - z) :: st) y) ∧
  (∀ (L : ri_L) (st : List Value) (y : (gy × gy) × Nat), evm C0 b0 L0 xs0 238 (296, L, st) y = evm C0 b0 L0 xs0 238 (297, L, .int (Int32.ofInt 1) :: st) y) ∧
  (∀ (L : ri_L) (st : List Value) (y : (gy × gy) × Nat), evm C0 b0 L0 xs0 238 (297, L, st) y = evm C0 b0 L0 xs0 238 (298, L, .int (Int32.ofInt 0) :: st) y) ∧
  (∀ (L : ri_L) (y : (gy × gy) × Nat) (a0 : Nat) (a1 : Int32) (a2 : Int32) (a3 : Int32) (a4 : Int32), evm C0 b0 L0 xs0 238 (298, L, [.int a4, .int a3, .int a2, .int a1, .ref a0]) y = lm_n (calm C0 b0 L0 xs0 230 [.ref a0, .int a1, .int a2, .int a3, .int a4] y) fun v y => evm C0 b0 L0 xs0 238 (301, L, [v]) y) ∧
  (∀ (l0 l1 l2 l3 l4 l5 l6 l7 l8 l9 l10 l11 l12 l13 l15 l16 : Option Value) (st : List Value) (y : (gy × gy) × Nat) (x : Int32), evm C0 b0 L0 xs0 238 (301, [l0, l1, l2, l3, l4, l5, l6, l7, l8, l9, l10, l11, l12, l13, some (.int x), l15, l16], st) y = evm C0 b0 L0 xs0 238 (303, [l0, l1, l2, l3, l4, l5, l6, l7, l8, l9, l10, l11, l12, l13, some (.int x), l15, l16], .int x :: st) y) ∧
  (∀ (L : ri_L) (st : List Value) (y : (gy × gy) × Nat) (z x : Int32), evm C0 b0 L0 xs0 238 (303, L, .int z :: .int x :: st) y = if ¬ x = z then evm C0 b0 L0 xs0 238 (310, L, st) y else evm C0 b0 L0 xs0 238 (306, L, st) y) ∧
  (∀ (L : ri_L) (st : List Value) (y : (gy × gy) × Nat), evm C0 b0 L0 xs0 238 (306, L, st) y = evm C0 b0 L0 xs0 238 (307, L, .int (Int32.ofInt 2) :: st) y) ∧
  (∀ (L : ri_L) (st : List Value) (y : (gy × gy) × Nat), evm C0 b0 L0 xs0 238 (307, L, st) y = evm C0 b0 L0 xs0 238 (311, L, st) y) ∧
  (∀ (L : ri_L) (st : List Value) (y : (gy × gy) × Nat), evm C0 b0 L0 xs0 238 (310, L, st) y = evm C0 b0 L0 xs0 238 (311, L, .int (Int32.ofInt 0) :: st) y) ∧
  (∀ (l0 l1 l2 l3 l4 l5 l6 l7 l8 l9 l10 l11 l12 l13 l14 l15 l16 : Option Value) (st : List Value) (y : (gy × gy) × Nat) (x : Int32), evm C0 b0 L0 xs0 238 (311, [l0, l1, l2, l3, l4, l5, l6, l7, l8, l9, l10, l11, l12, l13, l14, l15, l16], .int x :: st) y = evm C0 b0 L0 xs0 238 (313, [l0, l1, l2, l3, l4, l5, l6, l7, l8, l9, l10, l11, l12, l13, ri_clr l14, some (.int x), l16], st) y) ∧
  (∀ (l1 l2 l3 l4 l5 l6 l7 l8 l9 l10 l11 l12 l13 l14 l15 l16 : Option Value) (st : List Value) (y : (gy × gy) × Nat) (x : Nat), evm C0 b0 L0 xs0 238 (313, [some (.ref x), l1, l2, l3, l4, l5, l6, l7, l8, l9, l10, l11, l12, l13, l14, l15, l16], st) y = evm C0 b0 L0 xs0 238 (314, [some (.ref x), l1, l2, l3, l4, l5, l6, l7, l8, l9, l10, l11, l12, l13, l14, l15, l16], .ref x :: st) y) ∧
  (∀ (L : ri_L) (st : List Value) (y : (gy × gy) × Nat), evm C0 b0 L0 xs0 238 (314, L, st) y = evm C0 b0 L0 xs0 238 (316, L, .int (Int32.ofInt 6) :: st) y) ∧
  (∀ (l1 l2 l3 l4 l5 l6 l7 l8 l9 l10 l11 l12 l13 l14 l15 l16 : Option Value) (st : List Value) (y : (gy × gy) × Nat) (x : Nat), evm C0 b0 L0 xs0 238 (316, [some (.ref x), l1, l2, l3, l4, l5, l6, l7, l8, l9, l10, l11, l12, l13, l14, l15, l16], st) y = evm C0 b0 L0 xs0 238 (317, [some (.ref x), l1, l2, l3, l4, l5, l6, l7, l8, l9, l10, l11, l12, l13, l14, l15, l16], .ref x :: st) y) ∧
  (∀ (L : ri_L) (st : List Value) (y : (gy × gy) × Nat), evm C0 b0 L0 xs0 238 (317, L, st) y = evm C0 b0 L0 xs0 238 (318, L, .int (Int32.ofInt 5) :: st) y) ∧
  (∀ (l0 l1 l2 l3 l4 l5 l6 l7 l8 l9 l10 l12 l13 l14 l15 l16 : Option Value) (st : List Value) (y : (gy × gy) × Nat) (x : Int32), evm C0 b0 L0 xs0 238 (318, [l0, l1, l2, l3, l4, l5, l6, l7, l8, l9, l10, some (.int x), l12, l13, l14, l15, l16], st) y = evm C0 b0 L0 xs0 238 (320, [l0, l1, l2, l3, l4, l5, l6, l7, l8, l9, l10, some (.int x), l12, l13, l14, l15, l16], .int x :: st) y) ∧
  (∀ (L : ri_L) (st : List Value) (y : (gy × gy) × Nat), evm C0 b0 L0 xs0 238 (320, L, st) y = evm C0 b0 L0 xs0 238 (321, L, .int (Int32.ofInt 2) :: st) y) ∧
  (∀ (L : ri_L) (st : List Value) (y : (gy × gy) × Nat) (z x : Int32), evm C0 b0 L0 xs0 238 (321, L, .int z :: .int x :: st) y = evm C0 b0 L0 xs0 238 (322, L, .int (x - z) :: st) y) ∧
  (∀ (l0 l1 l2 l3 l4 l5 l6 l7 l8 l9 l10 l11 l12 l13 l14 l16 : Option Value) (st : List Value) (y : (gy × gy) × Nat) (x : Int32), evm C0 b0 L0 xs0 238 (322, [l0, l1, l2, l3, l4, l5, l6, l7, l8, l9, l10, l11, l12, l13, l14, some (.int x), l16], st) y = evm C0 b0 L0 xs0 238 (324, [l0, l1, l2, l3, l4, l5, l6, l7, l8, l9, l10, l11, l12, l13, l14, some (.int x), l16], .int x :: st) y) ∧
  (∀ (L : ri_L) (st : List Value) (y : (gy × gy) × Nat), evm C0 b0 L0 xs0 238 (324, L, st) y = evm C0 b0 L0 xs0 238 (325, L, .int (Int32.ofInt 0) :: st) y) ∧
  (∀ (L : ri_L) (y : (gy × gy) × Nat) (a0 : Nat) (a1 : Int32) (a2 : Int32) (a3 : Int32) (a4 : Int32) (s0 s1 : Value), evm C0 b0 L0 xs0 238 (325, L, [.int a4, .int a3, .int a2, .int a1, .ref a0, s0, s1]) y = lm_n (calm C0 b0 L0 xs0 230 [.ref a0, .int a1, .int a2, .int a3, .int a4] y) fun v y => evm C0 b0 L0 xs0 238 (328, L, [v, s0, s1]) y) ∧
  (∀ (l1 l2 l3 l4 l5 l6 l7 l8 l9 l10 l11 l12 l13 l14 l15 l16 : Option Value) (st : List Value) (y : (gy × gy) × Nat) (x : Nat), evm C0 b0 L0 xs0 238 (328, [some (.ref x), l1, l2, l3, l4, l5, l6, l7, l8, l9, l10, l11, l12, l13, l14, l15, l16], st) y = evm C0 b0 L0 xs0 238 (329, [some (.ref x), l1, l2, l3, l4, l5, l6, l7, l8, l9, l10, l11, l12, l13, l14, l15, l16], .ref x :: st) y) ∧
  (∀ (L : ri_L) (st : List Value) (y : (gy × gy) × Nat), evm C0 b0 L0 xs0 238 (329, L, st) y = evm C0 b0 L0 xs0 238 (330, L, .int (Int32.ofInt 5) :: st) y) ∧
  (∀ (l0 l1 l2 l3 l4 l5 l6 l7 l8 l9 l10 l12 l13 l14 l15 l16 : Option Value) (st : List Value) (y : (gy × gy) × Nat) (x : Int32), evm C0 b0 L0 xs0 238 (330, [l0, l1, l2, l3, l4, l5, l6, l7, l8, l9, l10, some (.int x), l12, l13, l14, l15, l16], st) y = evm C0 b0 L0 xs0 238 (332, [l0, l1, l2, l3, l4, l5, l6, l7, l8, l9, l10, some (.int x), l12, l13, l14, l15, l16], .int x :: st) y) ∧
  (∀ (L : ri_L) (st : List Value) (y : (gy × gy) × Nat), evm C0 b0 L0 xs0 238 (332, L, st) y = evm C0 b0 L0 xs0 238 (333, L, .int (Int32.ofInt 2) :: st) y) ∧
  (∀ (L : ri_L) (st : List Value) (y : (gy × gy) × Nat) (z x : Int32), evm C0 b0 L0 xs0 238 (333, L, .int z :: .int x :: st) y = evm C0 b0 L0 xs0 238 (334, L, .int (x - z) :: st) y) ∧
  (∀ (l0 l1 l2 l3 l4 l5 l6 l7 l8 l9 l10 l11 l12 l13 l14 l16 : Option Value) (st : List Value) (y : (gy × gy) × Nat) (x : Int32), evm C0 b0 L0 xs0 238 (334, [l0, l1, l2, l3, l4, l5, l6, l7, l8, l9, l10, l11, l12, l13, l14, some (.int x), l16], st) y = evm C0 b0 L0 xs0 238 (336, [l0, l1, l2, l3, l4, l5, l6, l7, l8, l9, l10, l11, l12, l13, l14, some (.int x), l16], .int x :: st) y) ∧
  (∀ (L : ri_L) (st : List Value) (y : (gy × gy) × Nat), evm C0 b0 L0 xs0 238 (336, L, st) y = evm C0 b0 L0 xs0 238 (337, L, .int (Int32.ofInt 1) :: st) y) ∧
  (∀ (L : ri_L) (st : List Value) (y : (gy × gy) × Nat) (z x : Int32), evm C0 b0 L0 xs0 238 (337, L, .int z :: .int x :: st) y = evm C0 b0 L0 xs0 238 (338, L, .int (x + z) :: st) y) ∧
  (∀ (L : ri_L) (st : List Value) (y : (gy × gy) × Nat), evm C0 b0 L0 xs0 238 (338, L, st) y = evm C0 b0 L0 xs0 238 (339, L, .int (Int32.ofInt 0) :: st) y) :=
  ⟨fun L st y => em_p rfl rfl,
   fun L st y z x => em_p rfl rfl,
   fun L st y => em_p rfl rfl,
   fun L st y => em_p rfl rfl,
   fun L y a0 a1 a2 a3 a4 => em_call rfl rfl rfl rfl rfl,
   fun l0 l1 l2 l3 l4 l5 l6 l7 l8 l9 l10 l11 l13 l14 l15 l16 st y x => em_p rfl rfl,
   fun L st y z x => em_b rfl rfl,
   fun l1 l2 l3 l4 l5 l6 l7 l8 l9 l10 l11 l12 l13 l14 l15 l16 st y x => em_p rfl rfl,
   fun L st y => em_p rfl rfl,
   fun l0 l1 l2 l3 l4 l5 l6 l7 l8 l9 l10 l12 l13 l14 l15 l16 st y x => em_p rfl rfl,
   fun L st y => em_p rfl rfl,
   fun L st y z x => em_p rfl rfl,
   fun L st y => em_p rfl rfl,
   fun L st y => em_p rfl rfl,
   fun L y a0 a1 a2 a3 a4 => em_call rfl rfl rfl rfl rfl,
   fun l0 l1 l2 l3 l4 l5 l6 l7 l8 l9 l10 l11 l12 l13 l15 l16 st y x => em_p rfl rfl,
   fun L st y z x => em_b rfl rfl,
   fun L st y => em_p rfl rfl,
   fun L st y => em_p rfl rfl,
   fun L st y => em_p rfl rfl,
   fun l0 l1 l2 l3 l4 l5 l6 l7 l8 l9 l10 l11 l12 l13 l14 l15 l16 st y x => em_p rfl rfl,
   fun l1 l2 l3 l4 l5 l6 l7 l8 l9 l10 l11 l12 l13 l14 l15 l16 st y x => em_p rfl rfl,
   fun L st y => em_p rfl rfl,
   fun l1 l2 l3 l4 l5 l6 l7 l8 l9 l10 l11 l12 l13 l14 l15 l16 st y x => em_p rfl rfl,
   fun L st y => em_p rfl rfl,
   fun l0 l1 l2 l3 l4 l5 l6 l7 l8 l9 l10 l12 l13 l14 l15 l16 st y x => em_p rfl rfl,
   fun L st y => em_p rfl rfl,
   fun L st y z x => em_p rfl rfl,
   fun l0 l1 l2 l3 l4 l5 l6 l7 l8 l9 l10 l11 l12 l13 l14 l16 st y x => em_p rfl rfl,
   fun L st y => em_p rfl rfl,
   fun L y a0 a1 a2 a3 a4 s0 s1 => em_call rfl rfl rfl rfl rfl,
   fun l1 l2 l3 l4 l5 l6 l7 l8 l9 l10 l11 l12 l13 l14 l15 l16 st y x => em_p rfl rfl,
   fun L st y => em_p rfl rfl,
   fun l0 l1 l2 l3 l4 l5 l6 l7 l8 l9 l10 l12 l13 l14 l15 l16 st y x => em_p rfl rfl,
   fun L st y => em_p rfl rfl,
   fun L st y z x => em_p rfl rfl,
   fun l0 l1 l2 l3 l4 l5 l6 l7 l8 l9 l10 l11 l12 l13 l14 l16 st y x => em_p rfl rfl,
   fun L st y => em_p rfl rfl,
   fun L st y z x => em_p rfl rfl,
   fun L st y => em_p rfl rfl⟩
set_option maxRecDepth 8000 in
theorem L_238_5 :
  (∀ (L : ri_L) (y : (gy × gy) × Nat) (a0 : Nat) (a1 : Int32) (a2 : Int32) (a3 : Int32) (a4 : Int32) (s0 s1 s2 : Value), evm C0 b0 L0 xs0 238 (339, L, [.int a4, .int a3, .int a2, .int a1, .ref a0, s0, s1, s2]) y = lm_n (calm C0 b0 L0 xs0 230 [.ref a0, .int a1, .int a2, .int a3, .int a4] y) fun v y => evm C0 b0 L0 xs0 238 (342, L, [v, s0, s1, s2]) y) ∧
  (∀ (L : ri_L) (st : List Value) (y : (gy × gy) × Nat), evm C0 b0 L0 xs0 238 (342, L, st) y = evm C0 b0 L0 xs0 238 (343, L, .int (Int32.ofInt 1) :: st) y) ∧
  (∀ (L : ri_L) (y : (gy × gy) × Nat) (a0 : Nat) (a1 : Int32) (a2 : Int32) (a3 : Int32) (a4 : Int32), evm C0 b0 L0 xs0 238 (343, L, [.int a4, .int a3, .int a2, .int a1, .ref a0]) y = lm_n (calm C0 b0 L0 xs0 230 [.ref a0, .int a1, .int a2, .int a3, .int a4] y) fun v y => evm C0 b0 L0 xs0 238 (346, L, [v]) y) ∧
  (∀ (l0 l1 l2 l3 l4 l5 l6 l7 l8 l9 l10 l11 l12 l13 l14 l15 l16 : Option Value) (st : List Value) (y : (gy × gy) × Nat) (x : Int32), evm C0 b0 L0 xs0 238 (346, [l0, l1, l2, l3, l4, l5, l6, l7, l8, l9, l10, l11, l12, l13, l14, l15, l16], .int x :: st) y = evm C0 b0 L0 xs0 238 (348, [l0, l1, l2, l3, l4, l5, l6, l7, l8, l9, l10, l11, l12, l13, l14, ri_clr l15, some (.int x)], st) y) ∧
  (∀ (l0 l1 l2 l3 l4 l5 l6 l7 l8 l9 l10 l11 l12 l13 l14 l15 : Option Value) (st : List Value) (y : (gy × gy) × Nat) (x : Int32), evm C0 b0 L0 xs0 238 (348, [l0, l1, l2, l3, l4, l5, l6, l7, l8, l9, l10, l11, l12, l13, l14, l15, some (.int x)], st) y = evm C0 b0 L0 xs0 238 (350, [l0, l1, l2, l3, l4, l5, l6, l7, l8, l9, l10, l11, l12, l13, l14, l15, some (.int x)], .int x :: st) y) ∧
  (∀ (l0 l1 l2 l3 l4 l5 l6 l7 l8 l9 l11 l12 l13 l14 l15 l16 : Option Value) (st : List Value) (y : (gy × gy) × Nat) (x : Int32), evm C0 b0 L0 xs0 238 (350, [l0, l1, l2, l3, l4, l5, l6, l7, l8, l9, some (.int x), l11, l12, l13, l14, l15, l16], st) y = evm C0 b0 L0 xs0 238 (352, [l0, l1, l2, l3, l4, l5, l6, l7, l8, l9, some (.int x), l11, l12, l13, l14, l15, l16], .int x :: st) y) ∧
  (∀ (L : ri_L) (st : List Value) (y : (gy × gy) × Nat) (z x : Int32), evm C0 b0 L0 xs0 238 (352, L, .int z :: .int x :: st) y = if x ≤ z then evm C0 b0 L0 xs0 238 (360, L, st) y else evm C0 b0 L0 xs0 238 (355, L, st) y) ∧
  (∀ (l0 l1 l2 l3 l4 l5 l6 l7 l8 l9 l10 l11 l12 l13 l14 l15 : Option Value) (st : List Value) (y : (gy × gy) × Nat) (x : Int32), evm C0 b0 L0 xs0 238 (355, [l0, l1, l2, l3, l4, l5, l6, l7, l8, l9, l10, l11, l12, l13, l14, l15, some (.int x)], st) y = evm C0 b0 L0 xs0 238 (357, [l0, l1, l2, l3, l4, l5, l6, l7, l8, l9, l10, l11, l12, l13, l14, l15, some (.int x)], .int x :: st) y) ∧
  (∀ (L : ri_L) (st : List Value) (y : (gy × gy) × Nat), evm C0 b0 L0 xs0 238 (357, L, st) y = evm C0 b0 L0 xs0 238 (362, L, st) y) ∧
  (∀ (l0 l1 l2 l3 l4 l5 l6 l7 l8 l9 l11 l12 l13 l14 l15 l16 : Option Value) (st : List Value) (y : (gy × gy) × Nat) (x : Int32), evm C0 b0 L0 xs0 238 (360, [l0, l1, l2, l3, l4, l5, l6, l7, l8, l9, some (.int x), l11, l12, l13, l14, l15, l16], st) y = evm C0 b0 L0 xs0 238 (362, [l0, l1, l2, l3, l4, l5, l6, l7, l8, l9, some (.int x), l11, l12, l13, l14, l15, l16], .int x :: st) y) ∧
  (∀ (l0 l1 l2 l3 l4 l5 l6 l7 l8 l9 l10 l11 l12 l13 l14 l15 l16 : Option Value) (st : List Value) (y : (gy × gy) × Nat) (x : Int32), evm C0 b0 L0 xs0 238 (362, [l0, l1, l2, l3, l4, l5, l6, l7, l8, l9, l10, l11, l12, l13, l14, l15, l16], .int x :: st) y = evm C0 b0 L0 xs0 238 (364, [l0, l1, l2, l3, l4, l5, l6, l7, l8, ri_clr l9, some (.int x), l11, l12, l13, l14, l15, l16], st) y) ∧
  (∀ (l0 l1 l2 l3 l4 l5 l6 l7 l8 l9 l10 l12 l13 l14 l15 l16 : Option Value) (st : List Value) (y : (gy × gy) × Nat) (x : Int32), evm C0 b0 L0 xs0 238 (364, [l0, l1, l2, l3, l4, l5, l6, l7, l8, l9, l10, some (.int x), l12, l13, l14, l15, l16], st) y = evm C0 b0 L0 xs0 238 (367, [l0, l1, l2, l3, l4, l5, l6, l7, l8, l9, ri_clr l10, some (.int (x + (Int32.ofInt 1))), l12, l13, l14, l15, l16], st) y) ∧
  (∀ (L : ri_L) (st : List Value) (y : (gy × gy) × Nat), evm C0 b0 L0 xs0 238 (367, L, st) y = evm C0 b0 L0 xs0 238 (126, L, st) y) ∧
  (∀ (l0 l1 l2 l3 l4 l5 l6 l7 l8 l10 l11 l12 l13 l14 l15 l16 : Option Value) (st : List Value) (y : (gy × gy) × Nat) (x : Int32), evm C0 b0 L0 xs0 238 (370, [l0, l1, l2, l3, l4, l5, l6, l7, l8, some (.int x), l10, l11, l12, l13, l14, l15, l16], st) y = evm C0 b0 L0 xs0 238 (372, [l0, l1, l2, l3, l4, l5, l6, l7, l8, some (.int x), l10, l11, l12, l13, l14, l15, l16], .int x :: st) y) ∧
  (∀ (L : ri_L) (st : List Value) (y : (gy × gy) × Nat) (x : Int32), evm C0 b0 L0 xs0 238 (372, L, .int x :: st) y = if x = 0 then evm C0 b0 L0 xs0 238 (430, L, st) y else evm C0 b0 L0 xs0 238 (375, L, st) y) ∧
  (∀ (l0 l1 l2 l3 l4 l5 l6 l7 l8 l9 l11 l12 l13 l14 l15 l16 : Option Value) (st : List Value) (y : (gy × gy) × Nat) (x : Int32), evm C0 b0 L0 xs0 238 (375, [l0, l1, l2, l3, l4, l5, l6, l7, l8, l9, some (.int x), l11, l12, l13, l14, l15, l16], st) y = evm C0 b0 L0 xs0 238 (377, [l0, l1, l2, l3, l4, l5, l6, l7, l8, l9, some (.int x), l11, l12, l13, l14, l15, l16], .int x :: st) y) ∧
  (∀ (l0 l1 l2 l3 l4 l6 l7 l8 l9 l10 l11 l12 l13 l14 l15 l16 : Option Value) (st : List Value) (y : (gy × gy) × Nat) (x : Int32), evm C0 b0 L0 xs0 238 (377, [l0, l1, l2, l3, l4, some (.int x), l6, l7, l8, l9, l10, l11, l12, l13, l14, l15, l16], st) y = evm C0 b0 L0 xs0 238 (379, [l0, l1, l2, l3, l4, some (.int x), l6, l7, l8, l9, l10, l11, l12, l13, l14, l15, l16], .int x :: st) y) ∧
  (∀ (L : ri_L) (st : List Value) (y : (gy × gy) × Nat) (z x : Int32), evm C0 b0 L0 xs0 238 (379, L, .int z :: .int x :: st) y = if ¬ x = z then evm C0 b0 L0 xs0 238 (430, L, st) y else evm C0 b0 L0 xs0 238 (382, L, st) y) ∧
  (∀ (l1 l2 l3 l4 l5 l6 l7 l8 l9 l10 l11 l12 l13 l14 l15 l16 : Option Value) (st : List Value) (y : (gy × gy) × Nat) (x : Nat), evm C0 b0 L0 xs0 238 (382, [some (.ref x), l1, l2, l3, l4, l5, l6, l7, l8, l9, l10, l11, l12, l13, l14, l15, l16], st) y = evm C0 b0 L0 xs0 238 (383, [some (.ref x), l1, l2, l3, l4, l5, l6, l7, l8, l9, l10, l11, l12, l13, l14, l15, l16], .ref x :: st) y) ∧
  (∀ (L : ri_L) (st : List Value) (y : (gy × gy) × Nat), evm C0 b0 L0 xs0 238 (383, L, st) y = evm C0 b0 L0 xs0 238 (385, L, .int (Int32.ofInt 14) :: st) y) ∧
  (∀ (L : ri_L) (st : List Value) (y : (gy × gy) × Nat), evm C0 b0 L0 xs0 238 (385, L, st) y = evm C0 b0 L0 xs0 238 (386, L, .int (Int32.ofInt 0) :: st) y) ∧
  (∀ (L : ri_L) (st : List Value) (y : (gy × gy) × Nat), evm C0 b0 L0 xs0 238 (386, L, st) y = evm C0 b0 L0 xs0 238 (387, L, .int (Int32.ofInt 0) :: st) y) ∧
  (∀ (L : ri_L) (st : List Value) (y : (gy × gy) × Nat), evm C0 b0 L0 xs0 238 (387, L, st) y = evm C0 b0 L0 xs0 238 (388, L, .int (Int32.ofInt 0) :: st) y) ∧
  (∀ (L : ri_L) (y : (gy × gy) × Nat) (a0 : Nat) (a1 : Int32) (a2 : Int32) (a3 : Int32) (a4 : Int32), evm C0 b0 L0 xs0 238 (388, L, [.int a4, .int a3, .int a2, .int a1, .ref a0]) y = lm_n (calm C0 b0 L0 xs0 230 [.ref a0, .int a1, .int a2, .int a3, .int a4] y) fun v y => evm C0 b0 L0 xs0 238 (391, L, [v]) y) ∧
  (∀ (L : ri_L) (y : (gy × gy) × Nat) (a0 : Int32), evm C0 b0 L0 xs0 238 (391, L, [.int a0]) y = lm_n (calm C0 b0 L0 xs0 231 [.int a0] y) fun v y => evm C0 b0 L0 xs0 238 (394, L, [v]) y) ∧
  (∀ (L : ri_L) (st : List Value) (y : (gy × gy) × Nat) (x : Int32), evm C0 b0 L0 xs0 238 (394, L, .int x :: st) y = if ¬ x = 0 then evm C0 b0 L0 xs0 238 (430, L, st) y else evm C0 b0 L0 xs0 238 (397, L, st) y) ∧
  (∀ (l0 l2 l3 l4 l5 l6 l7 l8 l9 l10 l11 l12 l13 l14 l15 l16 : Option Value) (st : List Value) (y : (gy × gy) × Nat) (x : Nat), evm C0 b0 L0 xs0 238 (397, [l0, some (.ref x), l2, l3, l4, l5, l6, l7, l8, l9, l10, l11, l12, l13, l14, l15, l16], st) y = evm C0 b0 L0 xs0 238 (398, [l0, some (.ref x), l2, l3, l4, l5, l6, l7, l8, l9, l10, l11, l12, l13, l14, l15, l16], .ref x :: st) y) ∧
  (∀ (L : ri_L) (st : List Value) (y : (gy × gy) × Nat), evm C0 b0 L0 xs0 238 (398, L, st) y = evm C0 b0 L0 xs0 238 (400, L, .int (Int32.ofInt 14) :: st) y) ∧
  (∀ (L : ri_L) (st : List Value) (y : (gy × gy) × Nat), evm C0 b0 L0 xs0 238 (400, L, st) y = evm C0 b0 L0 xs0 238 (401, L, .int (Int32.ofInt 0) :: st) y) ∧
  (∀ (L : ri_L) (st : List Value) (y : (gy × gy) × Nat), evm C0 b0 L0 xs0 238 (401, L, st) y = evm C0 b0 L0 xs0 238 (402, L, .int (Int32.ofInt 0) :: st) y) ∧
  (∀ (L : ri_L) (st : List Value) (y : (gy × gy) × Nat), evm C0 b0 L0 xs0 238 (402, L, st) y = evm C0 b0 L0 xs0 238 (403, L, .int (Int32.ofInt 0) :: st) y) ∧
  (∀ (L : ri_L) (y : (gy × gy) × Nat) (a0 : Nat) (a1 : Int32) (a2 : Int32) (a3 : Int32) (a4 : Int32), evm C0 b0 L0 xs0 238 (403, L, [.int a4, .int a3, .int a2, .int a1, .ref a0]) y = lm_n (calm C0 b0 L0 xs0 230 [.ref a0, .int a1, .int a2, .int a3, .int a4] y) fun v y => evm C0 b0 L0 xs0 238 (406, L, [v]) y) ∧
  (∀ (L : ri_L) (y : (gy × gy) × Nat) (a0 : Int32), evm C0 b0 L0 xs0 238 (406, L, [.int a0]) y = lm_n (calm C0 b0 L0 xs0 231 [.int a0] y) fun v y => evm C0 b0 L0 xs0 238 (409, L, [v]) y) ∧
  (∀ (L : ri_L) (st : List Value) (y : (gy × gy) × Nat) (x : Int32), evm C0 b0 L0 xs0 238 (409, L, .int x :: st) y = if ¬ x = 0 then evm C0 b0 L0 xs0 238 (430, L, st) y else evm C0 b0 L0 xs0 238 (412, L, st) y) ∧
  (∀ (l1 l2 l3 l4 l5 l6 l7 l8 l9 l10 l11 l12 l13 l14 l15 l16 : Option Value) (st : List Value) (y : (gy × gy) × Nat) (x : Nat), evm C0 b0 L0 xs0 238 (412, [some (.ref x), l1, l2, l3, l4, l5, l6, l7, l8, l9, l10, l11, l12, l13, l14, l15, l16], st) y = evm C0 b0 L0 xs0 238 (413, [some (.ref x), l1, l2, l3, l4, l5, l6, l7, l8, l9, l10, l11, l12, l13, l14, l15, l16], .ref x :: st) y) ∧
  (∀ (L : ri_L) (st : List Value) (y : (gy × gy) × Nat), evm C0 b0 L0 xs0 238 (413, L, st) y = evm C0 b0 L0 xs0 238 (414, L, .int (Int32.ofInt 2) :: st) y) ∧
  (∀ (L : ri_L) (st : List Value) (y : (gy × gy) × Nat), evm C0 b0 L0 xs0 238 (414, L, st) y = evm C0 b0 L0 xs0 238 (416, L, .int (Int32.ofInt 9) :: st) y) ∧
  (∀ (L : ri_L) (st : List Value) (y : (gy × gy) × Nat), evm C0 b0 L0 xs0 238 (416, L, st) y = evm C0 b0 L0 xs0 238 (417, L, .int (Int32.ofInt 0) :: st) y) ∧
  (∀ (L : ri_L) (st : List Value) (y : (gy × gy) × Nat), evm C0 b0 L0 xs0 238 (417, L, st) y = evm C0 b0 L0 xs0 238 (418, L, .int (Int32.ofInt 0) :: st) y) ∧
  (∀ (L : ri_L) (y : (gy × gy) × Nat) (a0 : Nat) (a1 : Int32) (a2 : Int32) (a3 : Int32) (a4 : Int32), evm C0 b0 L0 xs0 238 (418, L, [.int a4, .int a3, .int a2, .int a1, .ref a0]) y = lm_n (calm C0 b0 L0 xs0 230 [.ref a0, .int a1, .int a2, .int a3, .int a4] y) fun v y => evm C0 b0 L0 xs0 238 (421, L, [v]) y) :=
  ⟨fun L y a0 a1 a2 a3 a4 s0 s1 s2 => em_call rfl rfl rfl rfl rfl,
   fun L st y => em_p rfl rfl,
   fun L y a0 a1 a2 a3 a4 => em_call rfl rfl rfl rfl rfl,
   fun l0 l1 l2 l3 l4 l5 l6 l7 l8 l9 l10 l11 l12 l13 l14 l15 l16 st y x => em_p rfl rfl,
   fun l0 l1 l2 l3 l4 l5 l6 l7 l8 l9 l10 l11 l12 l13 l14 l15 st y x => em_p rfl rfl,
   fun l0 l1 l2 l3 l4 l5 l6 l7 l8 l9 l11 l12 l13 l14 l15 l16 st y x => em_p rfl rfl,
   fun L st y z x => em_b rfl rfl,
   fun l0 l1 l2 l3 l4 l5 l6 l7 l8 l9 l10 l11 l12 l13 l14 l15 st y x => em_p rfl rfl,
   fun L st y => em_p rfl rfl,
   fun l0 l1 l2 l3 l4 l5 l6 l7 l8 l9 l11 l12 l13 l14 l15 l16 st y x => em_p rfl rfl,
   fun l0 l1 l2 l3 l4 l5 l6 l7 l8 l9 l10 l11 l12 l13 l14 l15 l16 st y x => em_p rfl rfl,
   fun l0 l1 l2 l3 l4 l5 l6 l7 l8 l9 l10 l12 l13 l14 l15 l16 st y x => em_p rfl rfl,
   fun L st y => em_p rfl rfl,
   fun l0 l1 l2 l3 l4 l5 l6 l7 l8 l10 l11 l12 l13 l14 l15 l16 st y x => em_p rfl rfl,
   fun L st y x => em_b rfl rfl,
   fun l0 l1 l2 l3 l4 l5 l6 l7 l8 l9 l11 l12 l13 l14 l15 l16 st y x => em_p rfl rfl,
   fun l0 l1 l2 l3 l4 l6 l7 l8 l9 l10 l11 l12 l13 l14 l15 l16 st y x => em_p rfl rfl,
   fun L st y z x => em_b rfl rfl,
   fun l1 l2 l3 l4 l5 l6 l7 l8 l9 l10 l11 l12 l13 l14 l15 l16 st y x => em_p rfl rfl,
   fun L st y => em_p rfl rfl,
   fun L st y => em_p rfl rfl,
   fun L st y => em_p rfl rfl,
   fun L st y => em_p rfl rfl,
   fun L y a0 a1 a2 a3 a4 => em_call rfl rfl rfl rfl rfl,
   fun L y a0 => em_call rfl rfl rfl rfl rfl,
   fun L st y x => em_b rfl rfl,
   fun l0 l2 l3 l4 l5 l6 l7 l8 l9 l10 l11 l12 l13 l14 l15 l16 st y x => em_p rfl rfl,
   fun L st y => em_p rfl rfl,
   fun L st y => em_p rfl rfl,
   fun L st y => em_p rfl rfl,
   fun L st y => em_p rfl rfl,
   fun L y a0 a1 a2 a3 a4 => em_call rfl rfl rfl rfl rfl,
   fun L y a0 => em_call rfl rfl rfl rfl rfl,
   fun L st y x => em_b rfl rfl,
   fun l1 l2 l3 l4 l5 l6 l7 l8 l9 l10 l11 l12 l13 l14 l15 l16 st y x => em_p rfl rfl,
   fun L st y => em_p rfl rfl,
   fun L st y => em_p rfl rfl,
   fun L st y => em_p rfl rfl,
   fun L st y => em_p rfl rfl,
   fun L y a0 a1 a2 a3 a4 => em_call rfl rfl rfl rfl rfl⟩
set_option maxRecDepth 8000 in
theorem L_238_6 :
  (∀ (l0 l1 l2 l3 l4 l5 l6 l7 l9 l10 l11 l12 l13 l14 l15 l16 : Option Value) (st : List Value) (y : (gy × gy) × Nat) (x : Int32), evm C0 b0 L0 xs0 238 (421, [l0, l1, l2, l3, l4, l5, l6, l7, some (.int x), l9, l10, l11, l12, l13, l14, l15, l16], st) y = evm C0 b0 L0 xs0 238 (423, [l0, l1, l2, l3, l4, l5, l6, l7, some (.int x), l9, l10, l11, l12, l13, l14, l15, l16], .int x :: st) y) ∧
  (∀ (L : ri_L) (st : List Value) (y : (gy × gy) × Nat) (z x : Int32), evm C0 b0 L0 xs0 238 (423, L, .int z :: .int x :: st) y = if ¬ x = z then evm C0 b0 L0 xs0 238 (430, L, st) y else evm C0 b0 L0 xs0 238 (426, L, st) y) ∧
  (∀ (L : ri_L) (st : List Value) (y : (gy × gy) × Nat), evm C0 b0 L0 xs0 238 (426, L, st) y = evm C0 b0 L0 xs0 238 (427, L, .int (Int32.ofInt 1) :: st) y) ∧
  (∀ (L : ri_L) (st : List Value) (y : (gy × gy) × Nat), evm C0 b0 L0 xs0 238 (427, L, st) y = evm C0 b0 L0 xs0 238 (431, L, st) y) ∧
  (∀ (L : ri_L) (st : List Value) (y : (gy × gy) × Nat), evm C0 b0 L0 xs0 238 (430, L, st) y = evm C0 b0 L0 xs0 238 (431, L, .int (Int32.ofInt 0) :: st) y) ∧
  (∀ (L : ri_L) (y : (gy × gy) × Nat) (x : Int32), evm C0 b0 L0 xs0 238 (431, L, [.int x]) y = lm_b x (some (.int x, y))) :=
  ⟨fun l0 l1 l2 l3 l4 l5 l6 l7 l9 l10 l11 l12 l13 l14 l15 l16 st y x => em_p rfl rfl,
   fun L st y z x => em_b rfl rfl,
   fun L st y => em_p rfl rfl,
   fun L st y => em_p rfl rfl,
   fun L st y => em_p rfl rfl,
   fun L y x => em_r rfl rfl⟩
end EQM
