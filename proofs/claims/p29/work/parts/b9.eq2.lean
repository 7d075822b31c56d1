/-! How the law's methods read on. -/
section EQM
variable {C0 b0 L0 : Nat} {xs0 : Nat → Int32}
theorem M_233 (x0 : Nat) (y : (gy × gy) × Nat) : calm C0 b0 L0 xs0 233 [.ref x0] y = evm C0 b0 L0 xs0 233 (0, [some (.ref x0), none, none, none, none, none, none, none, none, none, none, none, none, none, none, none, none, none, none, none, none], []) y := em_in rfl
set_option maxRecDepth 8000 in
theorem G_233_68 (l0 l1 l2 l3 l4 l5 l6 l7 l8 l9 l11 l12 l13 l14 l15 l16 l17 l18 l19 l20 : Option Value) (st : List Value) (y : (gy × gy) × Nat) (x : Int32) : evm C0 b0 L0 xs0 233 (68, [l0, l1, l2, l3, l4, l5, l6, l7, l8, l9, some (.int x), l11, l12, l13, l14, l15, l16, l17, l18, l19, l20], st) y = evm C0 b0 L0 xs0 233 (70, [l0, l1, l2, l3, l4, l5, l6, l7, l8, l9, some (.int x), l11, l12, l13, l14, l15, l16, l17, l18, l19, l20], .int x :: st) y := em_p rfl rfl
set_option maxRecDepth 8000 in
theorem G_233_124 (l0 l1 l2 l3 l4 l5 l6 l7 l8 l9 l10 l11 l12 l13 l14 l15 l16 l18 l19 l20 : Option Value) (st : List Value) (y : (gy × gy) × Nat) (x : Int32) : evm C0 b0 L0 xs0 233 (124, [l0, l1, l2, l3, l4, l5, l6, l7, l8, l9, l10, l11, l12, l13, l14, l15, l16, some (.int x), l18, l19, l20], st) y = evm C0 b0 L0 xs0 233 (126, [l0, l1, l2, l3, l4, l5, l6, l7, l8, l9, l10, l11, l12, l13, l14, l15, l16, some (.int x), l18, l19, l20], .int x :: st) y := em_p rfl rfl
set_option maxRecDepth 8000 in
theorem G_233_511 (l0 l1 l2 l3 l4 l5 l6 l7 l8 l9 l10 l12 l13 l14 l15 l16 l17 l18 l19 l20 : Option Value) (st : List Value) (y : (gy × gy) × Nat) (x : Int32) : evm C0 b0 L0 xs0 233 (511, [l0, l1, l2, l3, l4, l5, l6, l7, l8, l9, l10, some (.int x), l12, l13, l14, l15, l16, l17, l18, l19, l20], st) y = evm C0 b0 L0 xs0 233 (513, [l0, l1, l2, l3, l4, l5, l6, l7, l8, l9, l10, some (.int x), l12, l13, l14, l15, l16, l17, l18, l19, l20], .int x :: st) y := em_p rfl rfl
set_option maxRecDepth 8000 in
theorem G_233_556 (l0 l1 l2 l3 l4 l5 l6 l7 l8 l9 l10 l11 l12 l14 l15 l16 l17 l18 l19 l20 : Option Value) (st : List Value) (y : (gy × gy) × Nat) (x : Int32) : evm C0 b0 L0 xs0 233 (556, [l0, l1, l2, l3, l4, l5, l6, l7, l8, l9, l10, l11, l12, some (.int x), l14, l15, l16, l17, l18, l19, l20], st) y = evm C0 b0 L0 xs0 233 (558, [l0, l1, l2, l3, l4, l5, l6, l7, l8, l9, l10, l11, l12, some (.int x), l14, l15, l16, l17, l18, l19, l20], .int x :: st) y := em_p rfl rfl
set_option maxRecDepth 8000 in
theorem L_233_0 :
  (∀ (l1 l2 l3 l4 l5 l6 l7 l8 l9 l10 l11 l12 l13 l14 l15 l16 l17 l18 l19 l20 : Option Value) (st : List Value) (y : (gy × gy) × Nat) (x : Nat), evm C0 b0 L0 xs0 233 (0, [some (.ref x), l1, l2, l3, l4, l5, l6, l7, l8, l9, l10, l11, l12, l13, l14, l15, l16, l17, l18, l19, l20], st) y = evm C0 b0 L0 xs0 233 (1, [some (.ref x), l1, l2, l3, l4, l5, l6, l7, l8, l9, l10, l11, l12, l13, l14, l15, l16, l17, l18, l19, l20], .ref x :: st) y) ∧
  (∀ (L : ri_L) (st : List Value) (y : (gy × gy) × Nat), evm C0 b0 L0 xs0 233 (1, L, st) y = evm C0 b0 L0 xs0 233 (2, L, .int (Int32.ofInt 2) :: st) y) ∧
  (∀ (L : ri_L) (st : List Value) (y : (gy × gy) × Nat), evm C0 b0 L0 xs0 233 (2, L, st) y = evm C0 b0 L0 xs0 233 (3, L, .int (Int32.ofInt 0) :: st) y) ∧
  (∀ (L : ri_L) (st : List Value) (y : (gy × gy) × Nat), evm C0 b0 L0 xs0 233 (3, L, st) y = evm C0 b0 L0 xs0 233 (4, L, .int (Int32.ofInt 0) :: st) y) ∧
  (∀ (L : ri_L) (st : List Value) (y : (gy × gy) × Nat), evm C0 b0 L0 xs0 233 (4, L, st) y = evm C0 b0 L0 xs0 233 (5, L, .int (Int32.ofInt 0) :: st) y) ∧
  (∀ (L : ri_L) (y : (gy × gy) × Nat) (a0 : Nat) (a1 : Int32) (a2 : Int32) (a3 : Int32) (a4 : Int32), evm C0 b0 L0 xs0 233 (5, L, [.int a4, .int a3, .int a2, .int a1, .ref a0]) y = lm_n (calm C0 b0 L0 xs0 230 [.ref a0, .int a1, .int a2, .int a3, .int a4] y) fun v y => evm C0 b0 L0 xs0 233 (8, L, [v]) y) ∧
  (∀ (l0 l1 l2 l3 l4 l5 l6 l7 l8 l9 l10 l11 l12 l13 l14 l15 l16 l17 l18 l19 l20 : Option Value) (st : List Value) (y : (gy × gy) × Nat) (x : Int32), evm C0 b0 L0 xs0 233 (8, [l0, l1, l2, l3, l4, l5, l6, l7, l8, l9, l10, l11, l12, l13, l14, l15, l16, l17, l18, l19, l20], .int x :: st) y = evm C0 b0 L0 xs0 233 (9, [ri_clr l0, some (.int x), l2, l3, l4, l5, l6, l7, l8, l9, l10, l11, l12, l13, l14, l15, l16, l17, l18, l19, l20], st) y) ∧
  (∀ (l1 l2 l3 l4 l5 l6 l7 l8 l9 l10 l11 l12 l13 l14 l15 l16 l17 l18 l19 l20 : Option Value) (st : List Value) (y : (gy × gy) × Nat) (x : Nat), evm C0 b0 L0 xs0 233 (9, [some (.ref x), l1, l2, l3, l4, l5, l6, l7, l8, l9, l10, l11, l12, l13, l14, l15, l16, l17, l18, l19, l20], st) y = evm C0 b0 L0 xs0 233 (10, [some (.ref x), l1, l2, l3, l4, l5, l6, l7, l8, l9, l10, l11, l12, l13, l14, l15, l16, l17, l18, l19, l20], .ref x :: st) y) ∧
  (∀ (L : ri_L) (st : List Value) (y : (gy × gy) × Nat), evm C0 b0 L0 xs0 233 (10, L, st) y = evm C0 b0 L0 xs0 233 (11, L, .int (Int32.ofInt 2) :: st) y) ∧
  (∀ (L : ri_L) (st : List Value) (y : (gy × gy) × Nat), evm C0 b0 L0 xs0 233 (11, L, st) y = evm C0 b0 L0 xs0 233 (12, L, .int (Int32.ofInt 1) :: st) y) ∧
  (∀ (L : ri_L) (st : List Value) (y : (gy × gy) × Nat), evm C0 b0 L0 xs0 233 (12, L, st) y = evm C0 b0 L0 xs0 233 (13, L, .int (Int32.ofInt 0) :: st) y) ∧
  (∀ (L : ri_L) (st : List Value) (y : (gy × gy) × Nat), evm C0 b0 L0 xs0 233 (13, L, st) y = evm C0 b0 L0 xs0 233 (14, L, .int (Int32.ofInt 0) :: st) y) ∧
  (∀ (L : ri_L) (y : (gy × gy) × Nat) (a0 : Nat) (a1 : Int32) (a2 : Int32) (a3 : Int32) (a4 : Int32), evm C0 b0 L0 xs0 233 (14, L, [.int a4, .int a3, .int a2, .int a1, .ref a0]) y = lm_n (calm C0 b0 L0 xs0 230 [.ref a0, .int a1, .int a2, .int a3, .int a4] y) fun v y => evm C0 b0 L0 xs0 233 (17, L, [v]) y) ∧
  (∀ (l0 l1 l2 l3 l4 l5 l6 l7 l8 l9 l10 l11 l12 l13 l14 l15 l16 l17 l18 l19 l20 : Option Value) (st : List Value) (y : (gy × gy) × Nat) (x : Int32), evm C0 b0 L0 xs0 233 (17, [l0, l1, l2, l3, l4, l5, l6, l7, l8, l9, l10, l11, l12, l13, l14, l15, l16, l17, l18, l19, l20], .int x :: st) y = evm C0 b0 L0 xs0 233 (18, [l0, ri_clr l1, some (.int x), l3, l4, l5, l6, l7, l8, l9, l10, l11, l12, l13, l14, l15, l16, l17, l18, l19, l20], st) y) ∧
  (∀ (l1 l2 l3 l4 l5 l6 l7 l8 l9 l10 l11 l12 l13 l14 l15 l16 l17 l18 l19 l20 : Option Value) (st : List Value) (y : (gy × gy) × Nat) (x : Nat), evm C0 b0 L0 xs0 233 (18, [some (.ref x), l1, l2, l3, l4, l5, l6, l7, l8, l9, l10, l11, l12, l13, l14, l15, l16, l17, l18, l19, l20], st) y = evm C0 b0 L0 xs0 233 (19, [some (.ref x), l1, l2, l3, l4, l5, l6, l7, l8, l9, l10, l11, l12, l13, l14, l15, l16, l17, l18, l19, l20], .ref x :: st) y) ∧
  (∀ (L : ri_L) (st : List Value) (y : (gy × gy) × Nat), evm C0 b0 L0 xs0 233 (19, L, st) y = evm C0 b0 L0 xs0 233 (20, L, .int (Int32.ofInt 2) :: st) y) ∧
  (∀ (L : ri_L) (st : List Value) (y : (gy × gy) × Nat), evm C0 b0 L0 xs0 233 (20, L, st) y = evm C0 b0 L0 xs0 233 (21, L, .int (Int32.ofInt 2) :: st) y) ∧
  (∀ (L : ri_L) (st : List Value) (y : (gy × gy) × Nat), evm C0 b0 L0 xs0 233 (21, L, st) y = evm C0 b0 L0 xs0 233 (22, L, .int (Int32.ofInt 0) :: st) y) ∧
  (∀ (L : ri_L) (st : List Value) (y : (gy × gy) × Nat), evm C0 b0 L0 xs0 233 (22, L, st) y = evm C0 b0 L0 xs0 233 (23, L, .int (Int32.ofInt 0) :: st) y) ∧
  (∀ (L : ri_L) (y : (gy × gy) × Nat) (a0 : Nat) (a1 : Int32) (a2 : Int32) (a3 : Int32) (a4 : Int32), evm C0 b0 L0 xs0 233 (23, L, [.int a4, .int a3, .int a2, .int a1, .ref a0]) y = lm_n (calm C0 b0 L0 xs0 230 [.ref a0, .int a1, .int a2, .int a3, .int a4] y) fun v y => evm C0 b0 L0 xs0 233 (26, L, [v]) y) ∧
  (∀ (l0 l1 l2 l3 l4 l5 l6 l7 l8 l9 l10 l11 l12 l13 l14 l15 l16 l17 l18 l19 l20 : Option Value) (st : List Value) (y : (gy × gy) × Nat) (x : Int32), evm C0 b0 L0 xs0 233 (26, [l0, l1, l2, l3, l4, l5, l6, l7, l8, l9, l10, l11, l12, l13, l14, l15, l16, l17, l18, l19, l20], .int x :: st) y = evm C0 b0 L0 xs0 233 (27, [l0, l1, ri_clr l2, some (.int x), l4, l5, l6, l7, l8, l9, l10, l11, l12, l13, l14, l15, l16, l17, l18, l19, l20], st) y) ∧
  (∀ (L : ri_L) (st : List Value) (y : (gy × gy) × Nat), evm C0 b0 L0 xs0 233 (27, L, st) y = evm C0 b0 L0 xs0 233 (28, L, .int (Int32.ofInt 0) :: st) y) ∧
  (∀ (l0 l1 l2 l3 l4 l5 l6 l7 l8 l9 l10 l11 l12 l13 l14 l15 l16 l17 l18 l19 l20 : Option Value) (st : List Value) (y : (gy × gy) × Nat) (x : Int32), evm C0 b0 L0 xs0 233 (28, [l0, l1, l2, l3, l4, l5, l6, l7, l8, l9, l10, l11, l12, l13, l14, l15, l16, l17, l18, l19, l20], .int x :: st) y = evm C0 b0 L0 xs0 233 (30, [l0, l1, l2, ri_clr l3, some (.int x), l5, l6, l7, l8, l9, l10, l11, l12, l13, l14, l15, l16, l17, l18, l19, l20], st) y) ∧
  (∀ (L : ri_L) (st : List Value) (y : (gy × gy) × Nat), evm C0 b0 L0 xs0 233 (30, L, st) y = evm C0 b0 L0 xs0 233 (31, L, .int (Int32.ofInt 0) :: st) y) ∧
  (∀ (l0 l1 l2 l3 l4 l5 l6 l7 l8 l9 l10 l11 l12 l13 l14 l15 l16 l17 l18 l19 l20 : Option Value) (st : List Value) (y : (gy × gy) × Nat) (x : Int32), evm C0 b0 L0 xs0 233 (31, [l0, l1, l2, l3, l4, l5, l6, l7, l8, l9, l10, l11, l12, l13, l14, l15, l16, l17, l18, l19, l20], .int x :: st) y = evm C0 b0 L0 xs0 233 (33, [l0, l1, l2, l3, ri_clr l4, some (.int x), l6, l7, l8, l9, l10, l11, l12, l13, l14, l15, l16, l17, l18, l19, l20], st) y) ∧
  (∀ (L : ri_L) (st : List Value) (y : (gy × gy) × Nat), evm C0 b0 L0 xs0 233 (33, L, st) y = evm C0 b0 L0 xs0 233 (34, L, .int (Int32.ofInt 0) :: st) y) ∧
  (∀ (l0 l1 l2 l3 l4 l5 l6 l7 l8 l9 l10 l11 l12 l13 l14 l15 l16 l17 l18 l19 l20 : Option Value) (st : List Value) (y : (gy × gy) × Nat) (x : Int32), evm C0 b0 L0 xs0 233 (34, [l0, l1, l2, l3, l4, l5, l6, l7, l8, l9, l10, l11, l12, l13, l14, l15, l16, l17, l18, l19, l20], .int x :: st) y = evm C0 b0 L0 xs0 233 (36, [l0, l1, l2, l3, l4, ri_clr l5, some (.int x), l7, l8, l9, l10, l11, l12, l13, l14, l15, l16, l17, l18, l19, l20], st) y) ∧
  (∀ (L : ri_L) (st : List Value) (y : (gy × gy) × Nat), evm C0 b0 L0 xs0 233 (36, L, st) y = evm C0 b0 L0 xs0 233 (37, L, .int (Int32.ofInt 0) :: st) y) ∧
  (∀ (l0 l1 l2 l3 l4 l5 l6 l7 l8 l9 l10 l11 l12 l13 l14 l15 l16 l17 l18 l19 l20 : Option Value) (st : List Value) (y : (gy × gy) × Nat) (x : Int32), evm C0 b0 L0 xs0 233 (37, [l0, l1, l2, l3, l4, l5, l6, l7, l8, l9, l10, l11, l12, l13, l14, l15, l16, l17, l18, l19, l20], .int x :: st) y = evm C0 b0 L0 xs0 233 (39, [l0, l1, l2, l3, l4, l5, ri_clr l6, some (.int x), l8, l9, l10, l11, l12, l13, l14, l15, l16, l17, l18, l19, l20], st) y) ∧
  (∀ (L : ri_L) (st : List Value) (y : (gy × gy) × Nat), evm C0 b0 L0 xs0 233 (39, L, st) y = evm C0 b0 L0 xs0 233 (40, L, .int (Int32.ofInt 0) :: st) y) ∧
  (∀ (l0 l1 l2 l3 l4 l5 l6 l7 l8 l9 l10 l11 l12 l13 l14 l15 l16 l17 l18 l19 l20 : Option Value) (st : List Value) (y : (gy × gy) × Nat) (x : Int32), evm C0 b0 L0 xs0 233 (40, [l0, l1, l2, l3, l4, l5, l6, l7, l8, l9, l10, l11, l12, l13, l14, l15, l16, l17, l18, l19, l20], .int x :: st) y = evm C0 b0 L0 xs0 233 (42, [l0, l1, l2, l3, l4, l5, l6, ri_clr l7, some (.int x), l9, l10, l11, l12, l13, l14, l15, l16, l17, l18, l19, l20], st) y) ∧
  (∀ (l0 l2 l3 l4 l5 l6 l7 l8 l9 l10 l11 l12 l13 l14 l15 l16 l17 l18 l19 l20 : Option Value) (st : List Value) (y : (gy × gy) × Nat) (x : Int32), evm C0 b0 L0 xs0 233 (42, [l0, some (.int x), l2, l3, l4, l5, l6, l7, l8, l9, l10, l11, l12, l13, l14, l15, l16, l17, l18, l19, l20], st) y = evm C0 b0 L0 xs0 233 (43, [l0, some (.int x), l2, l3, l4, l5, l6, l7, l8, l9, l10, l11, l12, l13, l14, l15, l16, l17, l18, l19, l20], .int x :: st) y) ∧
  (∀ (L : ri_L) (st : List Value) (y : (gy × gy) × Nat), evm C0 b0 L0 xs0 233 (43, L, st) y = evm C0 b0 L0 xs0 233 (44, L, .int (Int32.ofInt 3) :: st) y) ∧
  (∀ (L : ri_L) (st : List Value) (y : (gy × gy) × Nat) (z x : Int32), evm C0 b0 L0 xs0 233 (44, L, .int z :: .int x :: st) y = if z < x then evm C0 b0 L0 xs0 233 (62, L, st) y else evm C0 b0 L0 xs0 233 (47, L, st) y) ∧
  (∀ (l0 l1 l3 l4 l5 l6 l7 l8 l9 l10 l11 l12 l13 l14 l15 l16 l17 l18 l19 l20 : Option Value) (st : List Value) (y : (gy × gy) × Nat) (x : Int32), evm C0 b0 L0 xs0 233 (47, [l0, l1, some (.int x), l3, l4, l5, l6, l7, l8, l9, l10, l11, l12, l13, l14, l15, l16, l17, l18, l19, l20], st) y = evm C0 b0 L0 xs0 233 (48, [l0, l1, some (.int x), l3, l4, l5, l6, l7, l8, l9, l10, l11, l12, l13, l14, l15, l16, l17, l18, l19, l20], .int x :: st) y) ∧
  (∀ (L : ri_L) (st : List Value) (y : (gy × gy) × Nat), evm C0 b0 L0 xs0 233 (48, L, st) y = evm C0 b0 L0 xs0 233 (50, L, .int (Int32.ofInt 8) :: st) y) ∧
  (∀ (L : ri_L) (st : List Value) (y : (gy × gy) × Nat) (z x : Int32), evm C0 b0 L0 xs0 233 (50, L, .int z :: .int x :: st) y = if z < x then evm C0 b0 L0 xs0 233 (62, L, st) y else evm C0 b0 L0 xs0 233 (53, L, st) y) ∧
  (∀ (l0 l1 l2 l4 l5 l6 l7 l8 l9 l10 l11 l12 l13 l14 l15 l16 l17 l18 l19 l20 : Option Value) (st : List Value) (y : (gy × gy) × Nat) (x : Int32), evm C0 b0 L0 xs0 233 (53, [l0, l1, l2, some (.int x), l4, l5, l6, l7, l8, l9, l10, l11, l12, l13, l14, l15, l16, l17, l18, l19, l20], st) y = evm C0 b0 L0 xs0 233 (54, [l0, l1, l2, some (.int x), l4, l5, l6, l7, l8, l9, l10, l11, l12, l13, l14, l15, l16, l17, l18, l19, l20], .int x :: st) y) ∧
  (∀ (L : ri_L) (st : List Value) (y : (gy × gy) × Nat), evm C0 b0 L0 xs0 233 (54, L, st) y = evm C0 b0 L0 xs0 233 (55, L, .int (Int32.ofInt 5) :: st) y) ∧
  (∀ (L : ri_L) (st : List Value) (y : (gy × gy) × Nat) (z x : Int32), evm C0 b0 L0 xs0 233 (55, L, .int z :: .int x :: st) y = if z < x then evm C0 b0 L0 xs0 233 (62, L, st) y else evm C0 b0 L0 xs0 233 (58, L, st) y) :=
  ⟨fun l1 l2 l3 l4 l5 l6 l7 l8 l9 l10 l11 l12 l13 l14 l15 l16 l17 l18 l19 l20 st y x => em_p rfl rfl,
   fun L st y => em_p rfl rfl,
   fun L st y => em_p rfl rfl,
   fun L st y => em_p rfl rfl,
   fun L st y => em_p rfl rfl,
   fun L y a0 a1 a2 a3 a4 => em_call rfl rfl rfl rfl rfl,
   fun l0 l1 l2 l3 l4 l5 l6 l7 l8 l9 l10 l11 l12 l13 l14 l15 l16 l17 l18 l19 l20 st y x => em_p rfl rfl,
   fun l1 l2 l3 l4 l5 l6 l7 l8 l9 l10 l11 l12 l13 l14 l15 l16 l17 l18 l19 l20 st y x => em_p rfl rfl,
   fun L st y => em_p rfl rfl,
   fun L st y => em_p rfl rfl,
   fun L st y => em_p rfl rfl,
   fun L st y => em_p rfl rfl,
   fun L y a0 a1 a2 a3 a4 => em_call rfl rfl rfl rfl rfl,
   fun l0 l1 l2 l3 l4 l5 l6 l7 l8 l9 l10 l11 l12 l13 l14 l15 l16 l17 l18 l19 l20 st y x => em_p rfl rfl,
   fun l1 l2 l3 l4 l5 l6 l7 l8 l9 l10 l11 l12 l13 l14 l15 l16 l17 l18 l19 l20 st y x => em_p rfl rfl,
   fun L st y => em_p rfl rfl,
   fun L st y => em_p rfl rfl,
   fun L st y => em_p rfl rfl,
   fun L st y => em_p rfl rfl,
   fun L y a0 a1 a2 a3 a4 => em_call rfl rfl rfl rfl rfl,
   fun l0 l1 l2 l3 l4 l5 l6 l7 l8 l9 l10 l11 l12 l13 l14 l15 l16 l17 l18 l19 l20 st y x => em_p rfl rfl,
   fun L st y => em_p rfl rfl,
   fun l0 l1 l2 l3 l4 l5 l6 l7 l8 l9 l10 l11 l12 l13 l14 l15 l16 l17 l18 l19 l20 st y x => em_p rfl rfl,
   fun L st y => em_p rfl rfl,
   fun l0 l1 l2 l3 l4 l5 l6 l7 l8 l9 l10 l11 l12 l13 l14 l15 l16 l17 l18 l19 l20 st y x => em_p rfl rfl,
   fun L st y => em_p rfl rfl,
   fun l0 l1 l2 l3 l4 l5 l6 l7 l8 l9 l10 l11 l12 l13 l14 l15 l16 l17 l18 l19 l20 st y x => em_p rfl rfl,
   fun L st y => em_p rfl rfl,
   fun l0 l1 l2 l3 l4 l5 l6 l7 l8 l9 l10 l11 l12 l13 l14 l15 l16 l17 l18 l19 l20 st y x => em_p rfl rfl,
   fun L st y => em_p rfl rfl,
   fun l0 l1 l2 l3 l4 l5 l6 l7 l8 l9 l10 l11 l12 l13 l14 l15 l16 l17 l18 l19 l20 st y x => em_p rfl rfl,
   fun l0 l2 l3 l4 l5 l6 l7 l8 l9 l10 l11 l12 l13 l14 l15 l16 l17 l18 l19 l20 st y x => em_p rfl rfl,
   fun L st y => em_p rfl rfl,
   fun L st y z x => em_b rfl rfl,
   fun l0 l1 l3 l4 l5 l6 l7 l8 l9 l10 l11 l12 l13 l14 l15 l16 l17 l18 l19 l20 st y x => em_p rfl rfl,
   fun L st y => em_p rfl rfl,
   fun L st y z x => em_b rfl rfl,
   fun l0 l1 l2 l4 l5 l6 l7 l8 l9 l10 l11 l12 l13 l14 l15 l16 l17 l18 l19 l20 st y x => em_p rfl rfl,
   fun L st y => em_p rfl rfl,
   fun L st y z x => em_b rfl rfl⟩
set_option maxRecDepth 8000 in
theorem L_233_1 :
  (∀ (L : ri_L) (st : List Value) (y : (gy × gy) × Nat), evm C0 b0 L0 xs0 233 (58, L, st) y = evm C0 b0 L0 xs0 233 (59, L, .int (Int32.ofInt 1) :: st) y) ∧
  (∀ (L : ri_L) (st : List Value) (y : (gy × gy) × Nat), evm C0 b0 L0 xs0 233 (59, L, st) y = evm C0 b0 L0 xs0 233 (63, L, st) y) ∧
  (∀ (L : ri_L) (st : List Value) (y : (gy × gy) × Nat), evm C0 b0 L0 xs0 233 (62, L, st) y = evm C0 b0 L0 xs0 233 (63, L, .int (Int32.ofInt 0) :: st) y) ∧
  (∀ (l0 l1 l2 l3 l4 l5 l6 l7 l8 l9 l10 l11 l12 l13 l14 l15 l16 l17 l18 l19 l20 : Option Value) (st : List Value) (y : (gy × gy) × Nat) (x : Int32), evm C0 b0 L0 xs0 233 (63, [l0, l1, l2, l3, l4, l5, l6, l7, l8, l9, l10, l11, l12, l13, l14, l15, l16, l17, l18, l19, l20], .int x :: st) y = evm C0 b0 L0 xs0 233 (65, [l0, l1, l2, l3, l4, l5, l6, l7, ri_clr l8, some (.int x), l10, l11, l12, l13, l14, l15, l16, l17, l18, l19, l20], st) y) ∧
  (∀ (L : ri_L) (st : List Value) (y : (gy × gy) × Nat), evm C0 b0 L0 xs0 233 (65, L, st) y = evm C0 b0 L0 xs0 233 (66, L, .int (Int32.ofInt 0) :: st) y) ∧
  (∀ (l0 l1 l2 l3 l4 l5 l6 l7 l8 l9 l10 l11 l12 l13 l14 l15 l16 l17 l18 l19 l20 : Option Value) (st : List Value) (y : (gy × gy) × Nat) (x : Int32), evm C0 b0 L0 xs0 233 (66, [l0, l1, l2, l3, l4, l5, l6, l7, l8, l9, l10, l11, l12, l13, l14, l15, l16, l17, l18, l19, l20], .int x :: st) y = evm C0 b0 L0 xs0 233 (68, [l0, l1, l2, l3, l4, l5, l6, l7, l8, ri_clr l9, some (.int x), l11, l12, l13, l14, l15, l16, l17, l18, l19, l20], st) y) ∧
  (∀ (l0 l2 l3 l4 l5 l6 l7 l8 l9 l10 l11 l12 l13 l14 l15 l16 l17 l18 l19 l20 : Option Value) (st : List Value) (y : (gy × gy) × Nat) (x : Int32), evm C0 b0 L0 xs0 233 (70, [l0, some (.int x), l2, l3, l4, l5, l6, l7, l8, l9, l10, l11, l12, l13, l14, l15, l16, l17, l18, l19, l20], st) y = evm C0 b0 L0 xs0 233 (71, [l0, some (.int x), l2, l3, l4, l5, l6, l7, l8, l9, l10, l11, l12, l13, l14, l15, l16, l17, l18, l19, l20], .int x :: st) y) ∧
  (∀ (L : ri_L) (st : List Value) (y : (gy × gy) × Nat) (z x : Int32), evm C0 b0 L0 xs0 233 (71, L, .int z :: .int x :: st) y = if z ≤ x then evm C0 b0 L0 xs0 233 (505, L, st) y else evm C0 b0 L0 xs0 233 (74, L, st) y) ∧
  (∀ (l0 l1 l2 l3 l4 l5 l6 l7 l8 l10 l11 l12 l13 l14 l15 l16 l17 l18 l19 l20 : Option Value) (st : List Value) (y : (gy × gy) × Nat) (x : Int32), evm C0 b0 L0 xs0 233 (74, [l0, l1, l2, l3, l4, l5, l6, l7, l8, some (.int x), l10, l11, l12, l13, l14, l15, l16, l17, l18, l19, l20], st) y = evm C0 b0 L0 xs0 233 (76, [l0, l1, l2, l3, l4, l5, l6, l7, l8, some (.int x), l10, l11, l12, l13, l14, l15, l16, l17, l18, l19, l20], .int x :: st) y) ∧
  (∀ (L : ri_L) (st : List Value) (y : (gy × gy) × Nat) (x : Int32), evm C0 b0 L0 xs0 233 (76, L, .int x :: st) y = if x = 0 then evm C0 b0 L0 xs0 233 (505, L, st) y else evm C0 b0 L0 xs0 233 (79, L, st) y) ∧
  (∀ (l1 l2 l3 l4 l5 l6 l7 l8 l9 l10 l11 l12 l13 l14 l15 l16 l17 l18 l19 l20 : Option Value) (st : List Value) (y : (gy × gy) × Nat) (x : Nat), evm C0 b0 L0 xs0 233 (79, [some (.ref x), l1, l2, l3, l4, l5, l6, l7, l8, l9, l10, l11, l12, l13, l14, l15, l16, l17, l18, l19, l20], st) y = evm C0 b0 L0 xs0 233 (80, [some (.ref x), l1, l2, l3, l4, l5, l6, l7, l8, l9, l10, l11, l12, l13, l14, l15, l16, l17, l18, l19, l20], .ref x :: st) y) ∧
  (∀ (L : ri_L) (st : List Value) (y : (gy × gy) × Nat), evm C0 b0 L0 xs0 233 (80, L, st) y = evm C0 b0 L0 xs0 233 (81, L, .int (Int32.ofInt 3) :: st) y) ∧
  (∀ (l0 l1 l2 l3 l4 l5 l6 l7 l8 l9 l11 l12 l13 l14 l15 l16 l17 l18 l19 l20 : Option Value) (st : List Value) (y : (gy × gy) × Nat) (x : Int32), evm C0 b0 L0 xs0 233 (81, [l0, l1, l2, l3, l4, l5, l6, l7, l8, l9, some (.int x), l11, l12, l13, l14, l15, l16, l17, l18, l19, l20], st) y = evm C0 b0 L0 xs0 233 (83, [l0, l1, l2, l3, l4, l5, l6, l7, l8, l9, some (.int x), l11, l12, l13, l14, l15, l16, l17, l18, l19, l20], .int x :: st) y) ∧
  (∀ (L : ri_L) (st : List Value) (y : (gy × gy) × Nat), evm C0 b0 L0 xs0 233 (83, L, st) y = evm C0 b0 L0 xs0 233 (84, L, .int (Int32.ofInt 0) :: st) y) ∧
  (∀ (L : ri_L) (st : List Value) (y : (gy × gy) × Nat), evm C0 b0 L0 xs0 233 (84, L, st) y = evm C0 b0 L0 xs0 233 (85, L, .int (Int32.ofInt 0) :: st) y) ∧
  (∀ (L : ri_L) (y : (gy × gy) × Nat) (a0 : Nat) (a1 : Int32) (a2 : Int32) (a3 : Int32) (a4 : Int32), evm C0 b0 L0 xs0 233 (85, L, [.int a4, .int a3, .int a2, .int a1, .ref a0]) y = lm_n (calm C0 b0 L0 xs0 230 [.ref a0, .int a1, .int a2, .int a3, .int a4] y) fun v y => evm C0 b0 L0 xs0 233 (88, L, [v]) y) ∧
  (∀ (l0 l1 l2 l3 l4 l5 l6 l7 l8 l9 l10 l11 l12 l13 l14 l15 l16 l17 l18 l19 l20 : Option Value) (st : List Value) (y : (gy × gy) × Nat) (x : Int32), evm C0 b0 L0 xs0 233 (88, [l0, l1, l2, l3, l4, l5, l6, l7, l8, l9, l10, l11, l12, l13, l14, l15, l16, l17, l18, l19, l20], .int x :: st) y = evm C0 b0 L0 xs0 233 (90, [l0, l1, l2, l3, l4, l5, l6, l7, l8, l9, ri_clr l10, some (.int x), l12, l13, l14, l15, l16, l17, l18, l19, l20], st) y) ∧
  (∀ (l1 l2 l3 l4 l5 l6 l7 l8 l9 l10 l11 l12 l13 l14 l15 l16 l17 l18 l19 l20 : Option Value) (st : List Value) (y : (gy × gy) × Nat) (x : Nat), evm C0 b0 L0 xs0 233 (90, [some (.ref x), l1, l2, l3, l4, l5, l6, l7, l8, l9, l10, l11, l12, l13, l14, l15, l16, l17, l18, l19, l20], st) y = evm C0 b0 L0 xs0 233 (91, [some (.ref x), l1, l2, l3, l4, l5, l6, l7, l8, l9, l10, l11, l12, l13, l14, l15, l16, l17, l18, l19, l20], .ref x :: st) y) ∧
  (∀ (L : ri_L) (st : List Value) (y : (gy × gy) × Nat), evm C0 b0 L0 xs0 233 (91, L, st) y = evm C0 b0 L0 xs0 233 (92, L, .int (Int32.ofInt 3) :: st) y) ∧
  (∀ (l0 l1 l2 l3 l4 l5 l6 l7 l8 l9 l11 l12 l13 l14 l15 l16 l17 l18 l19 l20 : Option Value) (st : List Value) (y : (gy × gy) × Nat) (x : Int32), evm C0 b0 L0 xs0 233 (92, [l0, l1, l2, l3, l4, l5, l6, l7, l8, l9, some (.int x), l11, l12, l13, l14, l15, l16, l17, l18, l19, l20], st) y = evm C0 b0 L0 xs0 233 (94, [l0, l1, l2, l3, l4, l5, l6, l7, l8, l9, some (.int x), l11, l12, l13, l14, l15, l16, l17, l18, l19, l20], .int x :: st) y) ∧
  (∀ (L : ri_L) (st : List Value) (y : (gy × gy) × Nat), evm C0 b0 L0 xs0 233 (94, L, st) y = evm C0 b0 L0 xs0 233 (95, L, .int (Int32.ofInt 1) :: st) y) ∧
  (∀ (L : ri_L) (st : List Value) (y : (gy × gy) × Nat), evm C0 b0 L0 xs0 233 (95, L, st) y = evm C0 b0 L0 xs0 233 (96, L, .int (Int32.ofInt 0) :: st) y) ∧
  (∀ (L : ri_L) (y : (gy × gy) × Nat) (a0 : Nat) (a1 : Int32) (a2 : Int32) (a3 : Int32) (a4 : Int32), evm C0 b0 L0 xs0 233 (96, L, [.int a4, .int a3, .int a2, .int a1, .ref a0]) y = lm_n (calm C0 b0 L0 xs0 230 [.ref a0, .int a1, .int a2, .int a3, .int a4] y) fun v y => evm C0 b0 L0 xs0 233 (99, L, [v]) y) ∧
  (∀ (l0 l1 l2 l3 l4 l5 l6 l7 l8 l9 l10 l11 l12 l13 l14 l15 l16 l17 l18 l19 l20 : Option Value) (st : List Value) (y : (gy × gy) × Nat) (x : Int32), evm C0 b0 L0 xs0 233 (99, [l0, l1, l2, l3, l4, l5, l6, l7, l8, l9, l10, l11, l12, l13, l14, l15, l16, l17, l18, l19, l20], .int x :: st) y = evm C0 b0 L0 xs0 233 (101, [l0, l1, l2, l3, l4, l5, l6, l7, l8, l9, l10, ri_clr l11, some (.int x), l13, l14, l15, l16, l17, l18, l19, l20], st) y) ∧
  (∀ (l1 l2 l3 l4 l5 l6 l7 l8 l9 l10 l11 l12 l13 l14 l15 l16 l17 l18 l19 l20 : Option Value) (st : List Value) (y : (gy × gy) × Nat) (x : Nat), evm C0 b0 L0 xs0 233 (101, [some (.ref x), l1, l2, l3, l4, l5, l6, l7, l8, l9, l10, l11, l12, l13, l14, l15, l16, l17, l18, l19, l20], st) y = evm C0 b0 L0 xs0 233 (102, [some (.ref x), l1, l2, l3, l4, l5, l6, l7, l8, l9, l10, l11, l12, l13, l14, l15, l16, l17, l18, l19, l20], .ref x :: st) y) ∧
  (∀ (L : ri_L) (st : List Value) (y : (gy × gy) × Nat), evm C0 b0 L0 xs0 233 (102, L, st) y = evm C0 b0 L0 xs0 233 (103, L, .int (Int32.ofInt 3) :: st) y) ∧
  (∀ (l0 l1 l2 l3 l4 l5 l6 l7 l8 l9 l11 l12 l13 l14 l15 l16 l17 l18 l19 l20 : Option Value) (st : List Value) (y : (gy × gy) × Nat) (x : Int32), evm C0 b0 L0 xs0 233 (103, [l0, l1, l2, l3, l4, l5, l6, l7, l8, l9, some (.int x), l11, l12, l13, l14, l15, l16, l17, l18, l19, l20], st) y = evm C0 b0 L0 xs0 233 (105, [l0, l1, l2, l3, l4, l5, l6, l7, l8, l9, some (.int x), l11, l12, l13, l14, l15, l16, l17, l18, l19, l20], .int x :: st) y) ∧
  (∀ (L : ri_L) (st : List Value) (y : (gy × gy) × Nat), evm C0 b0 L0 xs0 233 (105, L, st) y = evm C0 b0 L0 xs0 233 (106, L, .int (Int32.ofInt 3) :: st) y) ∧
  (∀ (L : ri_L) (st : List Value) (y : (gy × gy) × Nat), evm C0 b0 L0 xs0 233 (106, L, st) y = evm C0 b0 L0 xs0 233 (107, L, .int (Int32.ofInt 0) :: st) y) ∧
  (∀ (L : ri_L) (y : (gy × gy) × Nat) (a0 : Nat) (a1 : Int32) (a2 : Int32) (a3 : Int32) (a4 : Int32), evm C0 b0 L0 xs0 233 (107, L, [.int a4, .int a3, .int a2, .int a1, .ref a0]) y = lm_n (calm C0 b0 L0 xs0 230 [.ref a0, .int a1, .int a2, .int a3, .int a4] y) fun v y => evm C0 b0 L0 xs0 233 (110, L, [v]) y) ∧
  (∀ (l0 l1 l2 l3 l4 l5 l6 l7 l8 l9 l10 l11 l12 l13 l14 l15 l16 l17 l18 l19 l20 : Option Value) (st : List Value) (y : (gy × gy) × Nat) (x : Int32), evm C0 b0 L0 xs0 233 (110, [l0, l1, l2, l3, l4, l5, l6, l7, l8, l9, l10, l11, l12, l13, l14, l15, l16, l17, l18, l19, l20], .int x :: st) y = evm C0 b0 L0 xs0 233 (112, [l0, l1, l2, l3, l4, l5, l6, l7, l8, l9, l10, l11, ri_clr l12, some (.int x), l14, l15, l16, l17, l18, l19, l20], st) y) ∧
  (∀ (L : ri_L) (st : List Value) (y : (gy × gy) × Nat), evm C0 b0 L0 xs0 233 (112, L, st) y = evm C0 b0 L0 xs0 233 (113, L, .int (Int32.ofInt 0) :: st) y) ∧
  (∀ (l0 l1 l2 l3 l4 l5 l6 l7 l8 l9 l10 l11 l12 l13 l14 l15 l16 l17 l18 l19 l20 : Option Value) (st : List Value) (y : (gy × gy) × Nat) (x : Int32), evm C0 b0 L0 xs0 233 (113, [l0, l1, l2, l3, l4, l5, l6, l7, l8, l9, l10, l11, l12, l13, l14, l15, l16, l17, l18, l19, l20], .int x :: st) y = evm C0 b0 L0 xs0 233 (115, [l0, l1, l2, l3, l4, l5, l6, l7, l8, l9, l10, l11, l12, ri_clr l13, some (.int x), l15, l16, l17, l18, l19, l20], st) y) ∧
  (∀ (L : ri_L) (st : List Value) (y : (gy × gy) × Nat), evm C0 b0 L0 xs0 233 (115, L, st) y = evm C0 b0 L0 xs0 233 (116, L, .int (Int32.ofInt 0) :: st) y) ∧
  (∀ (l0 l1 l2 l3 l4 l5 l6 l7 l8 l9 l10 l11 l12 l13 l14 l15 l16 l17 l18 l19 l20 : Option Value) (st : List Value) (y : (gy × gy) × Nat) (x : Int32), evm C0 b0 L0 xs0 233 (116, [l0, l1, l2, l3, l4, l5, l6, l7, l8, l9, l10, l11, l12, l13, l14, l15, l16, l17, l18, l19, l20], .int x :: st) y = evm C0 b0 L0 xs0 233 (118, [l0, l1, l2, l3, l4, l5, l6, l7, l8, l9, l10, l11, l12, l13, ri_clr l14, some (.int x), l16, l17, l18, l19, l20], st) y) ∧
  (∀ (L : ri_L) (st : List Value) (y : (gy × gy) × Nat), evm C0 b0 L0 xs0 233 (118, L, st) y = evm C0 b0 L0 xs0 233 (119, L, .int (Int32.ofInt 0) :: st) y) ∧
  (∀ (l0 l1 l2 l3 l4 l5 l6 l7 l8 l9 l10 l11 l12 l13 l14 l15 l16 l17 l18 l19 l20 : Option Value) (st : List Value) (y : (gy × gy) × Nat) (x : Int32), evm C0 b0 L0 xs0 233 (119, [l0, l1, l2, l3, l4, l5, l6, l7, l8, l9, l10, l11, l12, l13, l14, l15, l16, l17, l18, l19, l20], .int x :: st) y = evm C0 b0 L0 xs0 233 (121, [l0, l1, l2, l3, l4, l5, l6, l7, l8, l9, l10, l11, l12, l13, l14, ri_clr l15, some (.int x), l17, l18, l19, l20], st) y) ∧
  (∀ (L : ri_L) (st : List Value) (y : (gy × gy) × Nat), evm C0 b0 L0 xs0 233 (121, L, st) y = evm C0 b0 L0 xs0 233 (122, L, .int (Int32.ofInt 0) :: st) y) ∧
  (∀ (l0 l1 l2 l3 l4 l5 l6 l7 l8 l9 l10 l11 l12 l13 l14 l15 l16 l17 l18 l19 l20 : Option Value) (st : List Value) (y : (gy × gy) × Nat) (x : Int32), evm C0 b0 L0 xs0 233 (122, [l0, l1, l2, l3, l4, l5, l6, l7, l8, l9, l10, l11, l12, l13, l14, l15, l16, l17, l18, l19, l20], .int x :: st) y = evm C0 b0 L0 xs0 233 (124, [l0, l1, l2, l3, l4, l5, l6, l7, l8, l9, l10, l11, l12, l13, l14, l15, ri_clr l16, some (.int x), l18, l19, l20], st) y) ∧
  (∀ (l0 l1 l2 l3 l4 l5 l6 l7 l8 l9 l10 l12 l13 l14 l15 l16 l17 l18 l19 l20 : Option Value) (st : List Value) (y : (gy × gy) × Nat) (x : Int32), evm C0 b0 L0 xs0 233 (126, [l0, l1, l2, l3, l4, l5, l6, l7, l8, l9, l10, some (.int x), l12, l13, l14, l15, l16, l17, l18, l19, l20], st) y = evm C0 b0 L0 xs0 233 (128, [l0, l1, l2, l3, l4, l5, l6, l7, l8, l9, l10, some (.int x), l12, l13, l14, l15, l16, l17, l18, l19, l20], .int x :: st) y) :=
  ⟨fun L st y => em_p rfl rfl,
   fun L st y => em_p rfl rfl,
   fun L st y => em_p rfl rfl,
   fun l0 l1 l2 l3 l4 l5 l6 l7 l8 l9 l10 l11 l12 l13 l14 l15 l16 l17 l18 l19 l20 st y x => em_p rfl rfl,
   fun L st y => em_p rfl rfl,
   fun l0 l1 l2 l3 l4 l5 l6 l7 l8 l9 l10 l11 l12 l13 l14 l15 l16 l17 l18 l19 l20 st y x => em_p rfl rfl,
   fun l0 l2 l3 l4 l5 l6 l7 l8 l9 l10 l11 l12 l13 l14 l15 l16 l17 l18 l19 l20 st y x => em_p rfl rfl,
   fun L st y z x => em_b rfl rfl,
   fun l0 l1 l2 l3 l4 l5 l6 l7 l8 l10 l11 l12 l13 l14 l15 l16 l17 l18 l19 l20 st y x => em_p rfl rfl,
   fun L st y x => em_b rfl rfl,
   fun l1 l2 l3 l4 l5 l6 l7 l8 l9 l10 l11 l12 l13 l14 l15 l16 l17 l18 l19 l20 st y x => em_p rfl rfl,
   fun L st y => em_p rfl rfl,
   fun l0 l1 l2 l3 l4 l5 l6 l7 l8 l9 l11 l12 l13 l14 l15 l16 l17 l18 l19 l20 st y x => em_p rfl rfl,
   fun L st y => em_p rfl rfl,
   fun L st y => em_p rfl rfl,
   fun L y a0 a1 a2 a3 a4 => em_call rfl rfl rfl rfl rfl,
   fun l0 l1 l2 l3 l4 l5 l6 l7 l8 l9 l10 l11 l12 l13 l14 l15 l16 l17 l18 l19 l20 st y x => em_p rfl rfl,
   fun l1 l2 l3 l4 l5 l6 l7 l8 l9 l10 l11 l12 l13 l14 l15 l16 l17 l18 l19 l20 st y x => em_p rfl rfl,
   fun L st y => em_p rfl rfl,
   fun l0 l1 l2 l3 l4 l5 l6 l7 l8 l9 l11 l12 l13 l14 l15 l16 l17 l18 l19 l20 st y x => em_p rfl rfl,
   fun L st y => em_p rfl rfl,
   fun L st y => em_p rfl rfl,
   fun L y a0 a1 a2 a3 a4 => em_call rfl rfl rfl rfl rfl,
   fun l0 l1 l2 l3 l4 l5 l6 l7 l8 l9 l10 l11 l12 l13 l14 l15 l16 l17 l18 l19 l20 st y x => em_p rfl rfl,
   fun l1 l2 l3 l4 l5 l6 l7 l8 l9 l10 l11 l12 l13 l14 l15 l16 l17 l18 l19 l20 st y x => em_p rfl rfl,
   fun L st y => em_p rfl rfl,
   fun l0 l1 l2 l3 l4 l5 l6 l7 l8 l9 l11 l12 l13 l14 l15 l16 l17 l18 l19 l20 st y x => em_p rfl rfl,
   fun L st y => em_p rfl rfl,
   fun L st y => em_p rfl rfl,
   fun L y a0 a1 a2 a3 a4 => em_call rfl rfl rfl rfl rfl,
   fun l0 l1 l2 l3 l4 l5 l6 l7 l8 l9 l10 l11 l12 l13 l14 l15 l16 l17 l18 l19 l20 st y x => em_p rfl rfl,
   fun L st y => em_p rfl rfl,
   fun l0 l1 l2 l3 l4 l5 l6 l7 l8 l9 l10 l11 l12 l13 l14 l15 l16 l17 l18 l19 l20 st y x => em_p rfl rfl,
   fun L st y => em_p rfl rfl,
   fun l0 l1 l2 l3 l4 l5 l6 l7 l8 l9 l10 l11 l12 l13 l14 l15 l16 l17 l18 l19 l20 st y x => em_p rfl rfl,
   fun L st y => em_p rfl rfl,
   fun l0 l1 l2 l3 l4 l5 l6 l7 l8 l9 l10 l11 l12 l13 l14 l15 l16 l17 l18 l19 l20 st y x => em_p rfl rfl,
   fun L st y => em_p rfl rfl,
   fun l0 l1 l2 l3 l4 l5 l6 l7 l8 l9 l10 l11 l12 l13 l14 l15 l16 l17 l18 l19 l20 st y x => em_p rfl rfl,
   fun l0 l1 l2 l3 l4 l5 l6 l7 l8 l9 l10 l12 l13 l14 l15 l16 l17 l18 l19 l20 st y x => em_p rfl rfl⟩
set_option maxRecDepth 8000 in
theorem L_233_2 :
  (∀ (L : ri_L) (st : List Value) (y : (gy × gy) × Nat) (z x : Int32), evm C0 b0 L0 xs0 233 (128, L, .int z :: .int x :: st) y = if z ≤ x then evm C0 b0 L0 xs0 233 (351, L, st) y else evm C0 b0 L0 xs0 233 (131, L, st) y) ∧
  (∀ (l0 l1 l2 l3 l4 l5 l6 l7 l8 l10 l11 l12 l13 l14 l15 l16 l17 l18 l19 l20 : Option Value) (st : List Value) (y : (gy × gy) × Nat) (x : Int32), evm C0 b0 L0 xs0 233 (131, [l0, l1, l2, l3, l4, l5, l6, l7, l8, some (.int x), l10, l11, l12, l13, l14, l15, l16, l17, l18, l19, l20], st) y = evm C0 b0 L0 xs0 233 (133, [l0, l1, l2, l3, l4, l5, l6, l7, l8, some (.int x), l10, l11, l12, l13, l14, l15, l16, l17, l18, l19, l20], .int x :: st) y) ∧
  (∀ (L : ri_L) (st : List Value) (y : (gy × gy) × Nat) (x : Int32), evm C0 b0 L0 xs0 233 (133, L, .int x :: st) y = if x = 0 then evm C0 b0 L0 xs0 233 (351, L, st) y else evm C0 b0 L0 xs0 233 (136, L, st) y) ∧
  (∀ (l1 l2 l3 l4 l5 l6 l7 l8 l9 l10 l11 l12 l13 l14 l15 l16 l17 l18 l19 l20 : Option Value) (st : List Value) (y : (gy × gy) × Nat) (x : Nat), evm C0 b0 L0 xs0 233 (136, [some (.ref x), l1, l2, l3, l4, l5, l6, l7, l8, l9, l10, l11, l12, l13, l14, l15, l16, l17, l18, l19, l20], st) y = evm C0 b0 L0 xs0 233 (137, [some (.ref x), l1, l2, l3, l4, l5, l6, l7, l8, l9, l10, l11, l12, l13, l14, l15, l16, l17, l18, l19, l20], .ref x :: st) y) ∧
  (∀ (L : ri_L) (st : List Value) (y : (gy × gy) × Nat), evm C0 b0 L0 xs0 233 (137, L, st) y = evm C0 b0 L0 xs0 233 (139, L, .int (Int32.ofInt 6) :: st) y) ∧
  (∀ (l0 l1 l2 l3 l4 l5 l6 l7 l8 l9 l11 l12 l13 l14 l15 l16 l17 l18 l19 l20 : Option Value) (st : List Value) (y : (gy × gy) × Nat) (x : Int32), evm C0 b0 L0 xs0 233 (139, [l0, l1, l2, l3, l4, l5, l6, l7, l8, l9, some (.int x), l11, l12, l13, l14, l15, l16, l17, l18, l19, l20], st) y = evm C0 b0 L0 xs0 233 (141, [l0, l1, l2, l3, l4, l5, l6, l7, l8, l9, some (.int x), l11, l12, l13, l14, l15, l16, l17, l18, l19, l20], .int x :: st) y) ∧
  (∀ (l0 l1 l2 l3 l4 l5 l6 l7 l8 l9 l10 l11 l12 l13 l14 l15 l16 l18 l19 l20 : Option Value) (st : List Value) (y : (gy × gy) × Nat) (x : Int32), evm C0 b0 L0 xs0 233 (141, [l0, l1, l2, l3, l4, l5, l6, l7, l8, l9, l10, l11, l12, l13, l14, l15, l16, some (.int x), l18, l19, l20], st) y = evm C0 b0 L0 xs0 233 (143, [l0, l1, l2, l3, l4, l5, l6, l7, l8, l9, l10, l11, l12, l13, l14, l15, l16, some (.int x), l18, l19, l20], .int x :: st) y) ∧
  (∀ (L : ri_L) (st : List Value) (y : (gy × gy) × Nat), evm C0 b0 L0 xs0 233 (143, L, st) y = evm C0 b0 L0 xs0 233 (144, L, .int (Int32.ofInt 0) :: st) y) ∧
  (∀ (L : ri_L) (y : (gy × gy) × Nat) (a0 : Nat) (a1 : Int32) (a2 : Int32) (a3 : Int32) (a4 : Int32), evm C0 b0 L0 xs0 233 (144, L, [.int a4, .int a3, .int a2, .int a1, .ref a0]) y = lm_n (calm C0 b0 L0 xs0 230 [.ref a0, .int a1, .int a2, .int a3, .int a4] y) fun v y => evm C0 b0 L0 xs0 233 (147, L, [v]) y) ∧
  (∀ (l0 l1 l2 l3 l4 l5 l6 l7 l8 l9 l10 l11 l12 l13 l14 l15 l16 l17 l18 l19 l20 : Option Value) (st : List Value) (y : (gy × gy) × Nat) (x : Int32), evm C0 b0 L0 xs0 233 (147, [l0, l1, l2, l3, l4, l5, l6, l7, l8, l9, l10, l11, l12, l13, l14, l15, l16, l17, l18, l19, l20], .int x :: st) y = evm C0 b0 L0 xs0 233 (149, [l0, l1, l2, l3, l4, l5, l6, l7, l8, l9, l10, l11, l12, l13, l14, l15, l16, ri_clr l17, some (.int x), l19, l20], st) y) ∧
  (∀ (l1 l2 l3 l4 l5 l6 l7 l8 l9 l10 l11 l12 l13 l14 l15 l16 l17 l18 l19 l20 : Option Value) (st : List Value) (y : (gy × gy) × Nat) (x : Nat), evm C0 b0 L0 xs0 233 (149, [some (.ref x), l1, l2, l3, l4, l5, l6, l7, l8, l9, l10, l11, l12, l13, l14, l15, l16, l17, l18, l19, l20], st) y = evm C0 b0 L0 xs0 233 (150, [some (.ref x), l1, l2, l3, l4, l5, l6, l7, l8, l9, l10, l11, l12, l13, l14, l15, l16, l17, l18, l19, l20], .ref x :: st) y) ∧
  (∀ (L : ri_L) (st : List Value) (y : (gy × gy) × Nat), evm C0 b0 L0 xs0 233 (150, L, st) y = evm C0 b0 L0 xs0 233 (152, L, .int (Int32.ofInt 6) :: st) y) ∧
  (∀ (l0 l1 l2 l3 l4 l5 l6 l7 l8 l9 l11 l12 l13 l14 l15 l16 l17 l18 l19 l20 : Option Value) (st : List Value) (y : (gy × gy) × Nat) (x : Int32), evm C0 b0 L0 xs0 233 (152, [l0, l1, l2, l3, l4, l5, l6, l7, l8, l9, some (.int x), l11, l12, l13, l14, l15, l16, l17, l18, l19, l20], st) y = evm C0 b0 L0 xs0 233 (154, [l0, l1, l2, l3, l4, l5, l6, l7, l8, l9, some (.int x), l11, l12, l13, l14, l15, l16, l17, l18, l19, l20], .int x :: st) y) ∧
  (∀ (l0 l1 l2 l3 l4 l5 l6 l7 l8 l9 l10 l11 l12 l13 l14 l15 l16 l18 l19 l20 : Option Value) (st : List Value) (y : (gy × gy) × Nat) (x : Int32), evm C0 b0 L0 xs0 233 (154, [l0, l1, l2, l3, l4, l5, l6, l7, l8, l9, l10, l11, l12, l13, l14, l15, l16, some (.int x), l18, l19, l20], st) y = evm C0 b0 L0 xs0 233 (156, [l0, l1, l2, l3, l4, l5, l6, l7, l8, l9, l10, l11, l12, l13, l14, l15, l16, some (.int x), l18, l19, l20], .int x :: st) y) ∧
  (∀ (L : ri_L) (st : List Value) (y : (gy × gy) × Nat), evm C0 b0 L0 xs0 233 (156, L, st) y = evm C0 b0 L0 xs0 233 (157, L, .int (Int32.ofInt 2) :: st) y) ∧
  (∀ (L : ri_L) (y : (gy × gy) × Nat) (a0 : Nat) (a1 : Int32) (a2 : Int32) (a3 : Int32) (a4 : Int32), evm C0 b0 L0 xs0 233 (157, L, [.int a4, .int a3, .int a2, .int a1, .ref a0]) y = lm_n (calm C0 b0 L0 xs0 230 [.ref a0, .int a1, .int a2, .int a3, .int a4] y) fun v y => evm C0 b0 L0 xs0 233 (160, L, [v]) y) ∧
  (∀ (l0 l1 l2 l3 l4 l5 l6 l7 l8 l9 l10 l11 l12 l13 l14 l15 l16 l17 l18 l19 l20 : Option Value) (st : List Value) (y : (gy × gy) × Nat) (x : Int32), evm C0 b0 L0 xs0 233 (160, [l0, l1, l2, l3, l4, l5, l6, l7, l8, l9, l10, l11, l12, l13, l14, l15, l16, l17, l18, l19, l20], .int x :: st) y = evm C0 b0 L0 xs0 233 (162, [l0, l1, l2, l3, l4, l5, l6, l7, l8, l9, l10, l11, l12, l13, l14, l15, l16, l17, ri_clr l18, some (.int x), l20], st) y) ∧
  (∀ (l1 l2 l3 l4 l5 l6 l7 l8 l9 l10 l11 l12 l13 l14 l15 l16 l17 l18 l19 l20 : Option Value) (st : List Value) (y : (gy × gy) × Nat) (x : Nat), evm C0 b0 L0 xs0 233 (162, [some (.ref x), l1, l2, l3, l4, l5, l6, l7, l8, l9, l10, l11, l12, l13, l14, l15, l16, l17, l18, l19, l20], st) y = evm C0 b0 L0 xs0 233 (163, [some (.ref x), l1, l2, l3, l4, l5, l6, l7, l8, l9, l10, l11, l12, l13, l14, l15, l16, l17, l18, l19, l20], .ref x :: st) y) ∧
  (∀ (L : ri_L) (st : List Value) (y : (gy × gy) × Nat), evm C0 b0 L0 xs0 233 (163, L, st) y = evm C0 b0 L0 xs0 233 (165, L, .int (Int32.ofInt 6) :: st) y) ∧
  (∀ (l0 l1 l2 l3 l4 l5 l6 l7 l8 l9 l11 l12 l13 l14 l15 l16 l17 l18 l19 l20 : Option Value) (st : List Value) (y : (gy × gy) × Nat) (x : Int32), evm C0 b0 L0 xs0 233 (165, [l0, l1, l2, l3, l4, l5, l6, l7, l8, l9, some (.int x), l11, l12, l13, l14, l15, l16, l17, l18, l19, l20], st) y = evm C0 b0 L0 xs0 233 (167, [l0, l1, l2, l3, l4, l5, l6, l7, l8, l9, some (.int x), l11, l12, l13, l14, l15, l16, l17, l18, l19, l20], .int x :: st) y) ∧
  (∀ (l0 l1 l2 l3 l4 l5 l6 l7 l8 l9 l10 l11 l12 l13 l14 l15 l16 l18 l19 l20 : Option Value) (st : List Value) (y : (gy × gy) × Nat) (x : Int32), evm C0 b0 L0 xs0 233 (167, [l0, l1, l2, l3, l4, l5, l6, l7, l8, l9, l10, l11, l12, l13, l14, l15, l16, some (.int x), l18, l19, l20], st) y = evm C0 b0 L0 xs0 233 (169, [l0, l1, l2, l3, l4, l5, l6, l7, l8, l9, l10, l11, l12, l13, l14, l15, l16, some (.int x), l18, l19, l20], .int x :: st) y) ∧
  (∀ (L : ri_L) (st : List Value) (y : (gy × gy) × Nat), evm C0 b0 L0 xs0 233 (169, L, st) y = evm C0 b0 L0 xs0 233 (170, L, .int (Int32.ofInt 1) :: st) y) ∧
  (∀ (L : ri_L) (y : (gy × gy) × Nat) (a0 : Nat) (a1 : Int32) (a2 : Int32) (a3 : Int32) (a4 : Int32), evm C0 b0 L0 xs0 233 (170, L, [.int a4, .int a3, .int a2, .int a1, .ref a0]) y = lm_n (calm C0 b0 L0 xs0 230 [.ref a0, .int a1, .int a2, .int a3, .int a4] y) fun v y => evm C0 b0 L0 xs0 233 (173, L, [v]) y) ∧
  (∀ (l0 l1 l2 l3 l4 l5 l6 l7 l8 l9 l10 l11 l12 l13 l14 l15 l16 l17 l18 l19 l20 : Option Value) (st : List Value) (y : (gy × gy) × Nat) (x : Int32), evm C0 b0 L0 xs0 233 (173, [l0, l1, l2, l3, l4, l5, l6, l7, l8, l9, l10, l11, l12, l13, l14, l15, l16, l17, l18, l19, l20], .int x :: st) y = evm C0 b0 L0 xs0 233 (175, [l0, l1, l2, l3, l4, l5, l6, l7, l8, l9, l10, l11, l12, l13, l14, l15, l16, l17, l18, ri_clr l19, some (.int x)], st) y) ∧
  (∀ (l0 l1 l2 l3 l4 l5 l6 l7 l8 l9 l10 l11 l12 l13 l14 l15 l16 l17 l19 l20 : Option Value) (st : List Value) (y : (gy × gy) × Nat) (x : Int32), evm C0 b0 L0 xs0 233 (175, [l0, l1, l2, l3, l4, l5, l6, l7, l8, l9, l10, l11, l12, l13, l14, l15, l16, l17, some (.int x), l19, l20], st) y = evm C0 b0 L0 xs0 233 (177, [l0, l1, l2, l3, l4, l5, l6, l7, l8, l9, l10, l11, l12, l13, l14, l15, l16, l17, some (.int x), l19, l20], .int x :: st) y) ∧
  (∀ (L : ri_L) (st : List Value) (y : (gy × gy) × Nat) (x : Int32), evm C0 b0 L0 xs0 233 (177, L, .int x :: st) y = if x < 0 then evm C0 b0 L0 xs0 233 (270, L, st) y else evm C0 b0 L0 xs0 233 (180, L, st) y) ∧
  (∀ (l0 l1 l2 l3 l4 l5 l6 l7 l8 l9 l10 l11 l12 l13 l14 l15 l16 l17 l19 l20 : Option Value) (st : List Value) (y : (gy × gy) × Nat) (x : Int32), evm C0 b0 L0 xs0 233 (180, [l0, l1, l2, l3, l4, l5, l6, l7, l8, l9, l10, l11, l12, l13, l14, l15, l16, l17, some (.int x), l19, l20], st) y = evm C0 b0 L0 xs0 233 (182, [l0, l1, l2, l3, l4, l5, l6, l7, l8, l9, l10, l11, l12, l13, l14, l15, l16, l17, some (.int x), l19, l20], .int x :: st) y) ∧
  (∀ (l0 l1 l2 l3 l4 l5 l6 l7 l8 l9 l10 l12 l13 l14 l15 l16 l17 l18 l19 l20 : Option Value) (st : List Value) (y : (gy × gy) × Nat) (x : Int32), evm C0 b0 L0 xs0 233 (182, [l0, l1, l2, l3, l4, l5, l6, l7, l8, l9, l10, some (.int x), l12, l13, l14, l15, l16, l17, l18, l19, l20], st) y = evm C0 b0 L0 xs0 233 (184, [l0, l1, l2, l3, l4, l5, l6, l7, l8, l9, l10, some (.int x), l12, l13, l14, l15, l16, l17, l18, l19, l20], .int x :: st) y) ∧
  (∀ (L : ri_L) (st : List Value) (y : (gy × gy) × Nat) (z x : Int32), evm C0 b0 L0 xs0 233 (184, L, .int z :: .int x :: st) y = if z ≤ x then evm C0 b0 L0 xs0 233 (270, L, st) y else evm C0 b0 L0 xs0 233 (187, L, st) y) ∧
  (∀ (l0 l1 l2 l3 l4 l5 l6 l7 l8 l9 l10 l11 l12 l13 l14 l15 l16 l17 l19 l20 : Option Value) (st : List Value) (y : (gy × gy) × Nat) (x : Int32), evm C0 b0 L0 xs0 233 (187, [l0, l1, l2, l3, l4, l5, l6, l7, l8, l9, l10, l11, l12, l13, l14, l15, l16, l17, some (.int x), l19, l20], st) y = evm C0 b0 L0 xs0 233 (189, [l0, l1, l2, l3, l4, l5, l6, l7, l8, l9, l10, l11, l12, l13, l14, l15, l16, l17, some (.int x), l19, l20], .int x :: st) y) ∧
  (∀ (l0 l1 l2 l3 l4 l5 l6 l7 l8 l9 l10 l11 l12 l14 l15 l16 l17 l18 l19 l20 : Option Value) (st : List Value) (y : (gy × gy) × Nat) (x : Int32), evm C0 b0 L0 xs0 233 (189, [l0, l1, l2, l3, l4, l5, l6, l7, l8, l9, l10, l11, l12, some (.int x), l14, l15, l16, l17, l18, l19, l20], st) y = evm C0 b0 L0 xs0 233 (191, [l0, l1, l2, l3, l4, l5, l6, l7, l8, l9, l10, l11, l12, some (.int x), l14, l15, l16, l17, l18, l19, l20], .int x :: st) y) ∧
  (∀ (L : ri_L) (st : List Value) (y : (gy × gy) × Nat) (z x : Int32), evm C0 b0 L0 xs0 233 (191, L, .int z :: .int x :: st) y = evm C0 b0 L0 xs0 233 (192, L, .int (x + z) :: st) y) ∧
  (∀ (l0 l1 l2 l3 l4 l5 l6 l7 l8 l9 l10 l12 l13 l14 l15 l16 l17 l18 l19 l20 : Option Value) (st : List Value) (y : (gy × gy) × Nat) (x : Int32), evm C0 b0 L0 xs0 233 (192, [l0, l1, l2, l3, l4, l5, l6, l7, l8, l9, l10, some (.int x), l12, l13, l14, l15, l16, l17, l18, l19, l20], st) y = evm C0 b0 L0 xs0 233 (194, [l0, l1, l2, l3, l4, l5, l6, l7, l8, l9, l10, some (.int x), l12, l13, l14, l15, l16, l17, l18, l19, l20], .int x :: st) y) ∧
  (∀ (L : ri_L) (st : List Value) (y : (gy × gy) × Nat) (z x : Int32), evm C0 b0 L0 xs0 233 (194, L, .int z :: .int x :: st) y = if z = 0 then none else evm C0 b0 L0 xs0 233 (195, L, .int (x - x / z * z) :: st) y) ∧
  (∀ (l0 l1 l2 l3 l4 l5 l6 l7 l8 l9 l10 l11 l12 l13 l14 l15 l16 l18 l19 l20 : Option Value) (st : List Value) (y : (gy × gy) × Nat) (x : Int32), evm C0 b0 L0 xs0 233 (195, [l0, l1, l2, l3, l4, l5, l6, l7, l8, l9, l10, l11, l12, l13, l14, l15, l16, some (.int x), l18, l19, l20], st) y = evm C0 b0 L0 xs0 233 (197, [l0, l1, l2, l3, l4, l5, l6, l7, l8, l9, l10, l11, l12, l13, l14, l15, l16, some (.int x), l18, l19, l20], .int x :: st) y) ∧
  (∀ (L : ri_L) (st : List Value) (y : (gy × gy) × Nat) (z x : Int32), evm C0 b0 L0 xs0 233 (197, L, .int z :: .int x :: st) y = if ¬ x = z then evm C0 b0 L0 xs0 233 (270, L, st) y else evm C0 b0 L0 xs0 233 (200, L, st) y) ∧
  (∀ (l0 l1 l2 l3 l4 l5 l6 l7 l8 l9 l10 l11 l12 l13 l14 l15 l16 l17 l18 l19 : Option Value) (st : List Value) (y : (gy × gy) × Nat) (x : Int32), evm C0 b0 L0 xs0 233 (200, [l0, l1, l2, l3, l4, l5, l6, l7, l8, l9, l10, l11, l12, l13, l14, l15, l16, l17, l18, l19, some (.int x)], st) y = evm C0 b0 L0 xs0 233 (202, [l0, l1, l2, l3, l4, l5, l6, l7, l8, l9, l10, l11, l12, l13, l14, l15, l16, l17, l18, l19, some (.int x)], .int x :: st) y) ∧
  (∀ (L : ri_L) (st : List Value) (y : (gy × gy) × Nat) (x : Int32), evm C0 b0 L0 xs0 233 (202, L, .int x :: st) y = if x < 0 then evm C0 b0 L0 xs0 233 (270, L, st) y else evm C0 b0 L0 xs0 233 (205, L, st) y) ∧
  (∀ (l0 l1 l2 l3 l4 l5 l6 l7 l8 l9 l10 l11 l12 l13 l14 l15 l16 l17 l18 l19 : Option Value) (st : List Value) (y : (gy × gy) × Nat) (x : Int32), evm C0 b0 L0 xs0 233 (205, [l0, l1, l2, l3, l4, l5, l6, l7, l8, l9, l10, l11, l12, l13, l14, l15, l16, l17, l18, l19, some (.int x)], st) y = evm C0 b0 L0 xs0 233 (207, [l0, l1, l2, l3, l4, l5, l6, l7, l8, l9, l10, l11, l12, l13, l14, l15, l16, l17, l18, l19, some (.int x)], .int x :: st) y) ∧
  (∀ (L : ri_L) (st : List Value) (y : (gy × gy) × Nat), evm C0 b0 L0 xs0 233 (207, L, st) y = evm C0 b0 L0 xs0 233 (209, L, .int (Int32.ofInt 9) :: st) y) :=
  ⟨fun L st y z x => em_b rfl rfl,
   fun l0 l1 l2 l3 l4 l5 l6 l7 l8 l10 l11 l12 l13 l14 l15 l16 l17 l18 l19 l20 st y x => em_p rfl rfl,
   fun L st y x => em_b rfl rfl,
   fun l1 l2 l3 l4 l5 l6 l7 l8 l9 l10 l11 l12 l13 l14 l15 l16 l17 l18 l19 l20 st y x => em_p rfl rfl,
   fun L st y => em_p rfl rfl,
   fun l0 l1 l2 l3 l4 l5 l6 l7 l8 l9 l11 l12 l13 l14 l15 l16 l17 l18 l19 l20 st y x => em_p rfl rfl,
   fun l0 l1 l2 l3 l4 l5 l6 l7 l8 l9 l10 l11 l12 l13 l14 l15 l16 l18 l19 l20 st y x => em_p rfl rfl,
   fun L st y => em_p rfl rfl,
   fun L y a0 a1 a2 a3 a4 => em_call rfl rfl rfl rfl rfl,
   fun l0 l1 l2 l3 l4 l5 l6 l7 l8 l9 l10 l11 l12 l13 l14 l15 l16 l17 l18 l19 l20 st y x => em_p rfl rfl,
   fun l1 l2 l3 l4 l5 l6 l7 l8 l9 l10 l11 l12 l13 l14 l15 l16 l17 l18 l19 l20 st y x => em_p rfl rfl,
   fun L st y => em_p rfl rfl,
   fun l0 l1 l2 l3 l4 l5 l6 l7 l8 l9 l11 l12 l13 l14 l15 l16 l17 l18 l19 l20 st y x => em_p rfl rfl,
   fun l0 l1 l2 l3 l4 l5 l6 l7 l8 l9 l10 l11 l12 l13 l14 l15 l16 l18 l19 l20 st y x => em_p rfl rfl,
   fun L st y => em_p rfl rfl,
   fun L y a0 a1 a2 a3 a4 => em_call rfl rfl rfl rfl rfl,
   fun l0 l1 l2 l3 l4 l5 l6 l7 l8 l9 l10 l11 l12 l13 l14 l15 l16 l17 l18 l19 l20 st y x => em_p rfl rfl,
   fun l1 l2 l3 l4 l5 l6 l7 l8 l9 l10 l11 l12 l13 l14 l15 l16 l17 l18 l19 l20 st y x => em_p rfl rfl,
   fun L st y => em_p rfl rfl,
   fun l0 l1 l2 l3 l4 l5 l6 l7 l8 l9 l11 l12 l13 l14 l15 l16 l17 l18 l19 l20 st y x => em_p rfl rfl,
   fun l0 l1 l2 l3 l4 l5 l6 l7 l8 l9 l10 l11 l12 l13 l14 l15 l16 l18 l19 l20 st y x => em_p rfl rfl,
   fun L st y => em_p rfl rfl,
   fun L y a0 a1 a2 a3 a4 => em_call rfl rfl rfl rfl rfl,
   fun l0 l1 l2 l3 l4 l5 l6 l7 l8 l9 l10 l11 l12 l13 l14 l15 l16 l17 l18 l19 l20 st y x => em_p rfl rfl,
   fun l0 l1 l2 l3 l4 l5 l6 l7 l8 l9 l10 l11 l12 l13 l14 l15 l16 l17 l19 l20 st y x => em_p rfl rfl,
   fun L st y x => em_b rfl rfl,
   fun l0 l1 l2 l3 l4 l5 l6 l7 l8 l9 l10 l11 l12 l13 l14 l15 l16 l17 l19 l20 st y x => em_p rfl rfl,
   fun l0 l1 l2 l3 l4 l5 l6 l7 l8 l9 l10 l12 l13 l14 l15 l16 l17 l18 l19 l20 st y x => em_p rfl rfl,
   fun L st y z x => em_b rfl rfl,
   fun l0 l1 l2 l3 l4 l5 l6 l7 l8 l9 l10 l11 l12 l13 l14 l15 l16 l17 l19 l20 st y x => em_p rfl rfl,
   fun l0 l1 l2 l3 l4 l5 l6 l7 l8 l9 l10 l11 l12 l14 l15 l16 l17 l18 l19 l20 st y x => em_p rfl rfl,
   fun L st y z x => em_p rfl rfl,
   fun l0 l1 l2 l3 l4 l5 l6 l7 l8 l9 l10 l12 l13 l14 l15 l16 l17 l18 l19 l20 st y x => em_p rfl rfl,
   fun L st y z x => em_d rfl rfl,
   fun l0 l1 l2 l3 l4 l5 l6 l7 l8 l9 l10 l11 l12 l13 l14 l15 l16 l18 l19 l20 st y x => em_p rfl rfl,
   fun L st y z x => em_b rfl rfl,
   fun l0 l1 l2 l3 l4 l5 l6 l7 l8 l9 l10 l11 l12 l13 l14 l15 l16 l17 l18 l19 st y x => em_p rfl rfl,
   fun L st y x => em_b rfl rfl,
   fun l0 l1 l2 l3 l4 l5 l6 l7 l8 l9 l10 l11 l12 l13 l14 l15 l16 l17 l18 l19 st y x => em_p rfl rfl,
   fun L st y => em_p rfl rfl⟩
set_option maxRecDepth 8000 in
theorem L_233_3 :
  (∀ (L : ri_L) (st : List Value) (y : (gy × gy) × Nat) (z x : Int32), evm C0 b0 L0 xs0 233 (209, L, .int z :: .int x :: st) y = if z < x then evm C0 b0 L0 xs0 233 (270, L, st) y else evm C0 b0 L0 xs0 233 (212, L, st) y) ∧
  (∀ (l0 l1 l2 l3 l4 l5 l6 l7 l8 l9 l10 l11 l12 l13 l14 l15 l16 l17 l18 l20 : Option Value) (st : List Value) (y : (gy × gy) × Nat) (x : Int32), evm C0 b0 L0 xs0 233 (212, [l0, l1, l2, l3, l4, l5, l6, l7, l8, l9, l10, l11, l12, l13, l14, l15, l16, l17, l18, some (.int x), l20], st) y = evm C0 b0 L0 xs0 233 (214, [l0, l1, l2, l3, l4, l5, l6, l7, l8, l9, l10, l11, l12, l13, l14, l15, l16, l17, l18, some (.int x), l20], .int x :: st) y) ∧
  (∀ (l0 l1 l2 l4 l5 l6 l7 l8 l9 l10 l11 l12 l13 l14 l15 l16 l17 l18 l19 l20 : Option Value) (st : List Value) (y : (gy × gy) × Nat) (x : Int32), evm C0 b0 L0 xs0 233 (214, [l0, l1, l2, some (.int x), l4, l5, l6, l7, l8, l9, l10, l11, l12, l13, l14, l15, l16, l17, l18, l19, l20], st) y = evm C0 b0 L0 xs0 233 (215, [l0, l1, l2, some (.int x), l4, l5, l6, l7, l8, l9, l10, l11, l12, l13, l14, l15, l16, l17, l18, l19, l20], .int x :: st) y) ∧
  (∀ (L : ri_L) (st : List Value) (y : (gy × gy) × Nat) (z x : Int32), evm C0 b0 L0 xs0 233 (215, L, .int z :: .int x :: st) y = if z ≤ x then evm C0 b0 L0 xs0 233 (270, L, st) y else evm C0 b0 L0 xs0 233 (218, L, st) y) ∧
  (∀ (l0 l1 l2 l3 l4 l5 l6 l7 l8 l9 l10 l11 l12 l13 l14 l15 l16 l17 l18 l20 : Option Value) (st : List Value) (y : (gy × gy) × Nat) (x : Int32), evm C0 b0 L0 xs0 233 (218, [l0, l1, l2, l3, l4, l5, l6, l7, l8, l9, l10, l11, l12, l13, l14, l15, l16, l17, l18, some (.int x), l20], st) y = evm C0 b0 L0 xs0 233 (220, [l0, l1, l2, l3, l4, l5, l6, l7, l8, l9, l10, l11, l12, l13, l14, l15, l16, l17, l18, some (.int x), l20], .int x :: st) y) ∧
  (∀ (L : ri_L) (st : List Value) (y : (gy × gy) × Nat), evm C0 b0 L0 xs0 233 (220, L, st) y = evm C0 b0 L0 xs0 233 (221, L, .int (Int32.ofInt (-1)) :: st) y) ∧
  (∀ (L : ri_L) (st : List Value) (y : (gy × gy) × Nat) (z x : Int32), evm C0 b0 L0 xs0 233 (221, L, .int z :: .int x :: st) y = if x = z then evm C0 b0 L0 xs0 233 (266, L, st) y else evm C0 b0 L0 xs0 233 (224, L, st) y) ∧
  (∀ (l1 l2 l3 l4 l5 l6 l7 l8 l9 l10 l11 l12 l13 l14 l15 l16 l17 l18 l19 l20 : Option Value) (st : List Value) (y : (gy × gy) × Nat) (x : Nat), evm C0 b0 L0 xs0 233 (224, [some (.ref x), l1, l2, l3, l4, l5, l6, l7, l8, l9, l10, l11, l12, l13, l14, l15, l16, l17, l18, l19, l20], st) y = evm C0 b0 L0 xs0 233 (225, [some (.ref x), l1, l2, l3, l4, l5, l6, l7, l8, l9, l10, l11, l12, l13, l14, l15, l16, l17, l18, l19, l20], .ref x :: st) y) ∧
  (∀ (L : ri_L) (st : List Value) (y : (gy × gy) × Nat), evm C0 b0 L0 xs0 233 (225, L, st) y = evm C0 b0 L0 xs0 233 (226, L, .int (Int32.ofInt 4) :: st) y) ∧
  (∀ (l0 l1 l2 l3 l4 l5 l6 l7 l8 l9 l10 l11 l12 l13 l14 l15 l16 l17 l18 l20 : Option Value) (st : List Value) (y : (gy × gy) × Nat) (x : Int32), evm C0 b0 L0 xs0 233 (226, [l0, l1, l2, l3, l4, l5, l6, l7, l8, l9, l10, l11, l12, l13, l14, l15, l16, l17, l18, some (.int x), l20], st) y = evm C0 b0 L0 xs0 233 (228, [l0, l1, l2, l3, l4, l5, l6, l7, l8, l9, l10, l11, l12, l13, l14, l15, l16, l17, l18, some (.int x), l20], .int x :: st) y) ∧
  (∀ (L : ri_L) (st : List Value) (y : (gy × gy) × Nat), evm C0 b0 L0 xs0 233 (228, L, st) y = evm C0 b0 L0 xs0 233 (229, L, .int (Int32.ofInt 1) :: st) y) ∧
  (∀ (L : ri_L) (st : List Value) (y : (gy × gy) × Nat), evm C0 b0 L0 xs0 233 (229, L, st) y = evm C0 b0 L0 xs0 233 (230, L, .int (Int32.ofInt 0) :: st) y) ∧
  (∀ (L : ri_L) (y : (gy × gy) × Nat) (a0 : Nat) (a1 : Int32) (a2 : Int32) (a3 : Int32) (a4 : Int32), evm C0 b0 L0 xs0 233 (230, L, [.int a4, .int a3, .int a2, .int a1, .ref a0]) y = lm_n (calm C0 b0 L0 xs0 230 [.ref a0, .int a1, .int a2, .int a3, .int a4] y) fun v y => evm C0 b0 L0 xs0 233 (233, L, [v]) y) ∧
  (∀ (l0 l1 l2 l3 l4 l5 l6 l7 l8 l9 l11 l12 l13 l14 l15 l16 l17 l18 l19 l20 : Option Value) (st : List Value) (y : (gy × gy) × Nat) (x : Int32), evm C0 b0 L0 xs0 233 (233, [l0, l1, l2, l3, l4, l5, l6, l7, l8, l9, some (.int x), l11, l12, l13, l14, l15, l16, l17, l18, l19, l20], st) y = evm C0 b0 L0 xs0 233 (235, [l0, l1, l2, l3, l4, l5, l6, l7, l8, l9, some (.int x), l11, l12, l13, l14, l15, l16, l17, l18, l19, l20], .int x :: st) y) ∧
  (∀ (L : ri_L) (st : List Value) (y : (gy × gy) × Nat) (z x : Int32), evm C0 b0 L0 xs0 233 (235, L, .int z :: .int x :: st) y = if ¬ x = z then evm C0 b0 L0 xs0 233 (270, L, st) y else evm C0 b0 L0 xs0 233 (238, L, st) y) ∧
  (∀ (l1 l2 l3 l4 l5 l6 l7 l8 l9 l10 l11 l12 l13 l14 l15 l16 l17 l18 l19 l20 : Option Value) (st : List Value) (y : (gy × gy) × Nat) (x : Nat), evm C0 b0 L0 xs0 233 (238, [some (.ref x), l1, l2, l3, l4, l5, l6, l7, l8, l9, l10, l11, l12, l13, l14, l15, l16, l17, l18, l19, l20], st) y = evm C0 b0 L0 xs0 233 (239, [some (.ref x), l1, l2, l3, l4, l5, l6, l7, l8, l9, l10, l11, l12, l13, l14, l15, l16, l17, l18, l19, l20], .ref x :: st) y) ∧
  (∀ (L : ri_L) (st : List Value) (y : (gy × gy) × Nat), evm C0 b0 L0 xs0 233 (239, L, st) y = evm C0 b0 L0 xs0 233 (240, L, .int (Int32.ofInt 4) :: st) y) ∧
  (∀ (l0 l1 l2 l3 l4 l5 l6 l7 l8 l9 l10 l11 l12 l13 l14 l15 l16 l17 l18 l20 : Option Value) (st : List Value) (y : (gy × gy) × Nat) (x : Int32), evm C0 b0 L0 xs0 233 (240, [l0, l1, l2, l3, l4, l5, l6, l7, l8, l9, l10, l11, l12, l13, l14, l15, l16, l17, l18, some (.int x), l20], st) y = evm C0 b0 L0 xs0 233 (242, [l0, l1, l2, l3, l4, l5, l6, l7, l8, l9, l10, l11, l12, l13, l14, l15, l16, l17, l18, some (.int x), l20], .int x :: st) y) ∧
  (∀ (L : ri_L) (st : List Value) (y : (gy × gy) × Nat), evm C0 b0 L0 xs0 233 (242, L, st) y = evm C0 b0 L0 xs0 233 (243, L, .int (Int32.ofInt 2) :: st) y) ∧
  (∀ (L : ri_L) (st : List Value) (y : (gy × gy) × Nat), evm C0 b0 L0 xs0 233 (243, L, st) y = evm C0 b0 L0 xs0 233 (244, L, .int (Int32.ofInt 0) :: st) y) ∧
  (∀ (L : ri_L) (y : (gy × gy) × Nat) (a0 : Nat) (a1 : Int32) (a2 : Int32) (a3 : Int32) (a4 : Int32), evm C0 b0 L0 xs0 233 (244, L, [.int a4, .int a3, .int a2, .int a1, .ref a0]) y = lm_n (calm C0 b0 L0 xs0 230 [.ref a0, .int a1, .int a2, .int a3, .int a4] y) fun v y => evm C0 b0 L0 xs0 233 (247, L, [v]) y) ∧
  (∀ (l0 l1 l2 l3 l4 l5 l6 l7 l8 l9 l10 l11 l12 l13 l14 l15 l16 l17 l19 l20 : Option Value) (st : List Value) (y : (gy × gy) × Nat) (x : Int32), evm C0 b0 L0 xs0 233 (247, [l0, l1, l2, l3, l4, l5, l6, l7, l8, l9, l10, l11, l12, l13, l14, l15, l16, l17, some (.int x), l19, l20], st) y = evm C0 b0 L0 xs0 233 (249, [l0, l1, l2, l3, l4, l5, l6, l7, l8, l9, l10, l11, l12, l13, l14, l15, l16, l17, some (.int x), l19, l20], .int x :: st) y) ∧
  (∀ (L : ri_L) (st : List Value) (y : (gy × gy) × Nat) (z x : Int32), evm C0 b0 L0 xs0 233 (249, L, .int z :: .int x :: st) y = if ¬ x = z then evm C0 b0 L0 xs0 233 (270, L, st) y else evm C0 b0 L0 xs0 233 (252, L, st) y) ∧
  (∀ (l1 l2 l3 l4 l5 l6 l7 l8 l9 l10 l11 l12 l13 l14 l15 l16 l17 l18 l19 l20 : Option Value) (st : List Value) (y : (gy × gy) × Nat) (x : Nat), evm C0 b0 L0 xs0 233 (252, [some (.ref x), l1, l2, l3, l4, l5, l6, l7, l8, l9, l10, l11, l12, l13, l14, l15, l16, l17, l18, l19, l20], st) y = evm C0 b0 L0 xs0 233 (253, [some (.ref x), l1, l2, l3, l4, l5, l6, l7, l8, l9, l10, l11, l12, l13, l14, l15, l16, l17, l18, l19, l20], .ref x :: st) y) ∧
  (∀ (L : ri_L) (st : List Value) (y : (gy × gy) × Nat), evm C0 b0 L0 xs0 233 (253, L, st) y = evm C0 b0 L0 xs0 233 (254, L, .int (Int32.ofInt 4) :: st) y) ∧
  (∀ (l0 l1 l2 l3 l4 l5 l6 l7 l8 l9 l10 l11 l12 l13 l14 l15 l16 l17 l18 l20 : Option Value) (st : List Value) (y : (gy × gy) × Nat) (x : Int32), evm C0 b0 L0 xs0 233 (254, [l0, l1, l2, l3, l4, l5, l6, l7, l8, l9, l10, l11, l12, l13, l14, l15, l16, l17, l18, some (.int x), l20], st) y = evm C0 b0 L0 xs0 233 (256, [l0, l1, l2, l3, l4, l5, l6, l7, l8, l9, l10, l11, l12, l13, l14, l15, l16, l17, l18, some (.int x), l20], .int x :: st) y) ∧
  (∀ (L : ri_L) (st : List Value) (y : (gy × gy) × Nat), evm C0 b0 L0 xs0 233 (256, L, st) y = evm C0 b0 L0 xs0 233 (257, L, .int (Int32.ofInt 3) :: st) y) ∧
  (∀ (L : ri_L) (st : List Value) (y : (gy × gy) × Nat), evm C0 b0 L0 xs0 233 (257, L, st) y = evm C0 b0 L0 xs0 233 (258, L, .int (Int32.ofInt 0) :: st) y) ∧
  (∀ (L : ri_L) (y : (gy × gy) × Nat) (a0 : Nat) (a1 : Int32) (a2 : Int32) (a3 : Int32) (a4 : Int32), evm C0 b0 L0 xs0 233 (258, L, [.int a4, .int a3, .int a2, .int a1, .ref a0]) y = lm_n (calm C0 b0 L0 xs0 230 [.ref a0, .int a1, .int a2, .int a3, .int a4] y) fun v y => evm C0 b0 L0 xs0 233 (261, L, [v]) y) ∧
  (∀ (l0 l1 l2 l3 l4 l5 l6 l7 l8 l9 l10 l11 l12 l13 l14 l15 l16 l18 l19 l20 : Option Value) (st : List Value) (y : (gy × gy) × Nat) (x : Int32), evm C0 b0 L0 xs0 233 (261, [l0, l1, l2, l3, l4, l5, l6, l7, l8, l9, l10, l11, l12, l13, l14, l15, l16, some (.int x), l18, l19, l20], st) y = evm C0 b0 L0 xs0 233 (263, [l0, l1, l2, l3, l4, l5, l6, l7, l8, l9, l10, l11, l12, l13, l14, l15, l16, some (.int x), l18, l19, l20], .int x :: st) y) ∧
  (∀ (L : ri_L) (st : List Value) (y : (gy × gy) × Nat) (z x : Int32), evm C0 b0 L0 xs0 233 (263, L, .int z :: .int x :: st) y = if ¬ x = z then evm C0 b0 L0 xs0 233 (270, L, st) y else evm C0 b0 L0 xs0 233 (266, L, st) y) ∧
  (∀ (L : ri_L) (st : List Value) (y : (gy × gy) × Nat), evm C0 b0 L0 xs0 233 (266, L, st) y = evm C0 b0 L0 xs0 233 (267, L, .int (Int32.ofInt 1) :: st) y) ∧
  (∀ (L : ri_L) (st : List Value) (y : (gy × gy) × Nat), evm C0 b0 L0 xs0 233 (267, L, st) y = evm C0 b0 L0 xs0 233 (271, L, st) y) ∧
  (∀ (L : ri_L) (st : List Value) (y : (gy × gy) × Nat), evm C0 b0 L0 xs0 233 (270, L, st) y = evm C0 b0 L0 xs0 233 (271, L, .int (Int32.ofInt 0) :: st) y) ∧
  (∀ (l0 l1 l2 l3 l4 l5 l6 l7 l8 l9 l10 l11 l12 l13 l14 l15 l16 l17 l18 l19 l20 : Option Value) (st : List Value) (y : (gy × gy) × Nat) (x : Int32), evm C0 b0 L0 xs0 233 (271, [l0, l1, l2, l3, l4, l5, l6, l7, l8, l9, l10, l11, l12, l13, l14, l15, l16, l17, l18, l19, l20], .int x :: st) y = evm C0 b0 L0 xs0 233 (273, [l0, l1, l2, l3, l4, l5, l6, l7, ri_clr l8, some (.int x), l10, l11, l12, l13, l14, l15, l16, l17, l18, l19, l20], st) y) ∧
  (∀ (l0 l1 l2 l3 l4 l5 l6 l7 l8 l9 l10 l11 l12 l13 l14 l15 l17 l18 l19 l20 : Option Value) (st : List Value) (y : (gy × gy) × Nat) (x : Int32), evm C0 b0 L0 xs0 233 (273, [l0, l1, l2, l3, l4, l5, l6, l7, l8, l9, l10, l11, l12, l13, l14, l15, some (.int x), l17, l18, l19, l20], st) y = evm C0 b0 L0 xs0 233 (275, [l0, l1, l2, l3, l4, l5, l6, l7, l8, l9, l10, l11, l12, l13, l14, l15, some (.int x), l17, l18, l19, l20], .int x :: st) y) ∧
  (∀ (L : ri_L) (st : List Value) (y : (gy × gy) × Nat), evm C0 b0 L0 xs0 233 (275, L, st) y = evm C0 b0 L0 xs0 233 (276, L, .int (Int32.ofInt 1) :: st) y) ∧
  (∀ (l0 l1 l2 l3 l4 l5 l6 l7 l8 l9 l10 l11 l12 l13 l14 l15 l16 l17 l19 l20 : Option Value) (st : List Value) (y : (gy × gy) × Nat) (x : Int32), evm C0 b0 L0 xs0 233 (276, [l0, l1, l2, l3, l4, l5, l6, l7, l8, l9, l10, l11, l12, l13, l14, l15, l16, l17, some (.int x), l19, l20], st) y = evm C0 b0 L0 xs0 233 (278, [l0, l1, l2, l3, l4, l5, l6, l7, l8, l9, l10, l11, l12, l13, l14, l15, l16, l17, some (.int x), l19, l20], .int x :: st) y) ∧
  (∀ (L : ri_L) (st : List Value) (y : (gy × gy) × Nat) (z x : Int32), evm C0 b0 L0 xs0 233 (278, L, .int z :: .int x :: st) y = evm C0 b0 L0 xs0 233 (279, L, .int (x <<< (z &&& 31)) :: st) y) ∧
  (∀ (L : ri_L) (st : List Value) (y : (gy × gy) × Nat) (z x : Int32), evm C0 b0 L0 xs0 233 (279, L, .int z :: .int x :: st) y = evm C0 b0 L0 xs0 233 (280, L, .int (x ||| z) :: st) y) :=
  ⟨fun L st y z x => em_b rfl rfl,
   fun l0 l1 l2 l3 l4 l5 l6 l7 l8 l9 l10 l11 l12 l13 l14 l15 l16 l17 l18 l20 st y x => em_p rfl rfl,
   fun l0 l1 l2 l4 l5 l6 l7 l8 l9 l10 l11 l12 l13 l14 l15 l16 l17 l18 l19 l20 st y x => em_p rfl rfl,
   fun L st y z x => em_b rfl rfl,
   fun l0 l1 l2 l3 l4 l5 l6 l7 l8 l9 l10 l11 l12 l13 l14 l15 l16 l17 l18 l20 st y x => em_p rfl rfl,
   fun L st y => em_p rfl rfl,
   fun L st y z x => em_b rfl rfl,
   fun l1 l2 l3 l4 l5 l6 l7 l8 l9 l10 l11 l12 l13 l14 l15 l16 l17 l18 l19 l20 st y x => em_p rfl rfl,
   fun L st y => em_p rfl rfl,
   fun l0 l1 l2 l3 l4 l5 l6 l7 l8 l9 l10 l11 l12 l13 l14 l15 l16 l17 l18 l20 st y x => em_p rfl rfl,
   fun L st y => em_p rfl rfl,
   fun L st y => em_p rfl rfl,
   fun L y a0 a1 a2 a3 a4 => em_call rfl rfl rfl rfl rfl,
   fun l0 l1 l2 l3 l4 l5 l6 l7 l8 l9 l11 l12 l13 l14 l15 l16 l17 l18 l19 l20 st y x => em_p rfl rfl,
   fun L st y z x => em_b rfl rfl,
   fun l1 l2 l3 l4 l5 l6 l7 l8 l9 l10 l11 l12 l13 l14 l15 l16 l17 l18 l19 l20 st y x => em_p rfl rfl,
   fun L st y => em_p rfl rfl,
   fun l0 l1 l2 l3 l4 l5 l6 l7 l8 l9 l10 l11 l12 l13 l14 l15 l16 l17 l18 l20 st y x => em_p rfl rfl,
   fun L st y => em_p rfl rfl,
   fun L st y => em_p rfl rfl,
   fun L y a0 a1 a2 a3 a4 => em_call rfl rfl rfl rfl rfl,
   fun l0 l1 l2 l3 l4 l5 l6 l7 l8 l9 l10 l11 l12 l13 l14 l15 l16 l17 l19 l20 st y x => em_p rfl rfl,
   fun L st y z x => em_b rfl rfl,
   fun l1 l2 l3 l4 l5 l6 l7 l8 l9 l10 l11 l12 l13 l14 l15 l16 l17 l18 l19 l20 st y x => em_p rfl rfl,
   fun L st y => em_p rfl rfl,
   fun l0 l1 l2 l3 l4 l5 l6 l7 l8 l9 l10 l11 l12 l13 l14 l15 l16 l17 l18 l20 st y x => em_p rfl rfl,
   fun L st y => em_p rfl rfl,
   fun L st y => em_p rfl rfl,
   fun L y a0 a1 a2 a3 a4 => em_call rfl rfl rfl rfl rfl,
   fun l0 l1 l2 l3 l4 l5 l6 l7 l8 l9 l10 l11 l12 l13 l14 l15 l16 l18 l19 l20 st y x => em_p rfl rfl,
   fun L st y z x => em_b rfl rfl,
   fun L st y => em_p rfl rfl,
   fun L st y => em_p rfl rfl,
   fun L st y => em_p rfl rfl,
   fun l0 l1 l2 l3 l4 l5 l6 l7 l8 l9 l10 l11 l12 l13 l14 l15 l16 l17 l18 l19 l20 st y x => em_p rfl rfl,
   fun l0 l1 l2 l3 l4 l5 l6 l7 l8 l9 l10 l11 l12 l13 l14 l15 l17 l18 l19 l20 st y x => em_p rfl rfl,
   fun L st y => em_p rfl rfl,
   fun l0 l1 l2 l3 l4 l5 l6 l7 l8 l9 l10 l11 l12 l13 l14 l15 l16 l17 l19 l20 st y x => em_p rfl rfl,
   fun L st y z x => em_p rfl rfl,
   fun L st y z x => em_p rfl rfl⟩
set_option maxRecDepth 8000 in
theorem L_233_4 :
  (∀ (l0 l1 l2 l3 l4 l5 l6 l7 l8 l9 l10 l11 l12 l13 l14 l15 l16 l17 l18 l19 l20 : Option Value) (st : List Value) (y : (gy × gy) × Nat) (x : Int32), evm C0 b0 L0 xs0 233 (280, [l0, l1, l2, l3, l4, l5, l6, l7, l8, l9, l10, l11, l12, l13, l14, l15, l16, l17, l18, l19, l20], .int x :: st) y = evm C0 b0 L0 xs0 233 (282, [l0, l1, l2, l3, l4, l5, l6, l7, l8, l9, l10, l11, l12, l13, l14, ri_clr l15, some (.int x), l17, l18, l19, l20], st) y) ∧
  (∀ (l0 l1 l2 l3 l4 l5 l6 l7 l8 l9 l10 l11 l12 l13 l15 l16 l17 l18 l19 l20 : Option Value) (st : List Value) (y : (gy × gy) × Nat) (x : Int32), evm C0 b0 L0 xs0 233 (282, [l0, l1, l2, l3, l4, l5, l6, l7, l8, l9, l10, l11, l12, l13, some (.int x), l15, l16, l17, l18, l19, l20], st) y = evm C0 b0 L0 xs0 233 (284, [l0, l1, l2, l3, l4, l5, l6, l7, l8, l9, l10, l11, l12, l13, some (.int x), l15, l16, l17, l18, l19, l20], .int x :: st) y) ∧
  (∀ (l0 l1 l2 l3 l4 l5 l6 l7 l8 l9 l10 l11 l12 l13 l14 l15 l16 l17 l18 l19 : Option Value) (st : List Value) (y : (gy × gy) × Nat) (x : Int32), evm C0 b0 L0 xs0 233 (284, [l0, l1, l2, l3, l4, l5, l6, l7, l8, l9, l10, l11, l12, l13, l14, l15, l16, l17, l18, l19, some (.int x)], st) y = evm C0 b0 L0 xs0 233 (286, [l0, l1, l2, l3, l4, l5, l6, l7, l8, l9, l10, l11, l12, l13, l14, l15, l16, l17, l18, l19, some (.int x)], .int x :: st) y) ∧
  (∀ (L : ri_L) (st : List Value) (y : (gy × gy) × Nat) (z x : Int32), evm C0 b0 L0 xs0 233 (286, L, .int z :: .int x :: st) y = evm C0 b0 L0 xs0 233 (287, L, .int (x + z) :: st) y) ∧
  (∀ (l0 l1 l2 l3 l4 l5 l6 l7 l8 l9 l10 l11 l12 l13 l14 l15 l16 l17 l18 l19 l20 : Option Value) (st : List Value) (y : (gy × gy) × Nat) (x : Int32), evm C0 b0 L0 xs0 233 (287, [l0, l1, l2, l3, l4, l5, l6, l7, l8, l9, l10, l11, l12, l13, l14, l15, l16, l17, l18, l19, l20], .int x :: st) y = evm C0 b0 L0 xs0 233 (289, [l0, l1, l2, l3, l4, l5, l6, l7, l8, l9, l10, l11, l12, ri_clr l13, some (.int x), l15, l16, l17, l18, l19, l20], st) y) ∧
  (∀ (l0 l1 l2 l3 l4 l5 l6 l8 l9 l10 l11 l12 l13 l14 l15 l16 l17 l18 l19 l20 : Option Value) (st : List Value) (y : (gy × gy) × Nat) (x : Int32), evm C0 b0 L0 xs0 233 (289, [l0, l1, l2, l3, l4, l5, l6, some (.int x), l8, l9, l10, l11, l12, l13, l14, l15, l16, l17, l18, l19, l20], st) y = evm C0 b0 L0 xs0 233 (291, [l0, l1, l2, l3, l4, l5, l6, some (.int x), l8, l9, l10, l11, l12, l13, l14, l15, l16, l17, l18, l19, l20], .int x :: st) y) ∧
  (∀ (l0 l1 l2 l3 l4 l5 l6 l7 l8 l9 l10 l11 l12 l13 l14 l15 l16 l17 l18 l20 : Option Value) (st : List Value) (y : (gy × gy) × Nat) (x : Int32), evm C0 b0 L0 xs0 233 (291, [l0, l1, l2, l3, l4, l5, l6, l7, l8, l9, l10, l11, l12, l13, l14, l15, l16, l17, l18, some (.int x), l20], st) y = evm C0 b0 L0 xs0 233 (293, [l0, l1, l2, l3, l4, l5, l6, l7, l8, l9, l10, l11, l12, l13, l14, l15, l16, l17, l18, some (.int x), l20], .int x :: st) y) ∧
  (∀ (L : ri_L) (st : List Value) (y : (gy × gy) × Nat), evm C0 b0 L0 xs0 233 (293, L, st) y = evm C0 b0 L0 xs0 233 (294, L, .int (Int32.ofInt (-1)) :: st) y) ∧
  (∀ (L : ri_L) (st : List Value) (y : (gy × gy) × Nat) (z x : Int32), evm C0 b0 L0 xs0 233 (294, L, .int z :: .int x :: st) y = if ¬ x = z then evm C0 b0 L0 xs0 233 (301, L, st) y else evm C0 b0 L0 xs0 233 (297, L, st) y) ∧
  (∀ (L : ri_L) (st : List Value) (y : (gy × gy) × Nat), evm C0 b0 L0 xs0 233 (297, L, st) y = evm C0 b0 L0 xs0 233 (298, L, .int (Int32.ofInt 0) :: st) y) ∧
  (∀ (L : ri_L) (st : List Value) (y : (gy × gy) × Nat), evm C0 b0 L0 xs0 233 (298, L, st) y = evm C0 b0 L0 xs0 233 (302, L, st) y) ∧
  (∀ (L : ri_L) (st : List Value) (y : (gy × gy) × Nat), evm C0 b0 L0 xs0 233 (301, L, st) y = evm C0 b0 L0 xs0 233 (302, L, .int (Int32.ofInt 1) :: st) y) ∧
  (∀ (L : ri_L) (st : List Value) (y : (gy × gy) × Nat) (z x : Int32), evm C0 b0 L0 xs0 233 (302, L, .int z :: .int x :: st) y = evm C0 b0 L0 xs0 233 (303, L, .int (x + z) :: st) y) ∧
  (∀ (l0 l1 l2 l3 l4 l5 l6 l7 l8 l9 l10 l11 l12 l13 l14 l15 l16 l17 l18 l19 l20 : Option Value) (st : List Value) (y : (gy × gy) × Nat) (x : Int32), evm C0 b0 L0 xs0 233 (303, [l0, l1, l2, l3, l4, l5, l6, l7, l8, l9, l10, l11, l12, l13, l14, l15, l16, l17, l18, l19, l20], .int x :: st) y = evm C0 b0 L0 xs0 233 (305, [l0, l1, l2, l3, l4, l5, ri_clr l6, some (.int x), l8, l9, l10, l11, l12, l13, l14, l15, l16, l17, l18, l19, l20], st) y) ∧
  (∀ (l0 l1 l2 l3 l4 l5 l6 l7 l8 l9 l10 l11 l12 l13 l14 l16 l17 l18 l19 l20 : Option Value) (st : List Value) (y : (gy × gy) × Nat) (x : Int32), evm C0 b0 L0 xs0 233 (305, [l0, l1, l2, l3, l4, l5, l6, l7, l8, l9, l10, l11, l12, l13, l14, some (.int x), l16, l17, l18, l19, l20], st) y = evm C0 b0 L0 xs0 233 (307, [l0, l1, l2, l3, l4, l5, l6, l7, l8, l9, l10, l11, l12, l13, l14, some (.int x), l16, l17, l18, l19, l20], .int x :: st) y) ∧
  (∀ (l0 l1 l2 l3 l4 l5 l6 l7 l8 l9 l10 l11 l12 l13 l14 l15 l16 l17 l18 l20 : Option Value) (st : List Value) (y : (gy × gy) × Nat) (x : Int32), evm C0 b0 L0 xs0 233 (307, [l0, l1, l2, l3, l4, l5, l6, l7, l8, l9, l10, l11, l12, l13, l14, l15, l16, l17, l18, some (.int x), l20], st) y = evm C0 b0 L0 xs0 233 (309, [l0, l1, l2, l3, l4, l5, l6, l7, l8, l9, l10, l11, l12, l13, l14, l15, l16, l17, l18, some (.int x), l20], .int x :: st) y) ∧
  (∀ (L : ri_L) (st : List Value) (y : (gy × gy) × Nat), evm C0 b0 L0 xs0 233 (309, L, st) y = evm C0 b0 L0 xs0 233 (310, L, .int (Int32.ofInt (-1)) :: st) y) ∧
  (∀ (L : ri_L) (st : List Value) (y : (gy × gy) × Nat) (z x : Int32), evm C0 b0 L0 xs0 233 (310, L, .int z :: .int x :: st) y = if ¬ x = z then evm C0 b0 L0 xs0 233 (317, L, st) y else evm C0 b0 L0 xs0 233 (313, L, st) y) ∧
  (∀ (L : ri_L) (st : List Value) (y : (gy × gy) × Nat), evm C0 b0 L0 xs0 233 (313, L, st) y = evm C0 b0 L0 xs0 233 (314, L, .int (Int32.ofInt 0) :: st) y) ∧
  (∀ (L : ri_L) (st : List Value) (y : (gy × gy) × Nat), evm C0 b0 L0 xs0 233 (314, L, st) y = evm C0 b0 L0 xs0 233 (326, L, st) y) ∧
  (∀ (l1 l2 l3 l4 l5 l6 l7 l8 l9 l10 l11 l12 l13 l14 l15 l16 l17 l18 l19 l20 : Option Value) (st : List Value) (y : (gy × gy) × Nat) (x : Nat), evm C0 b0 L0 xs0 233 (317, [some (.ref x), l1, l2, l3, l4, l5, l6, l7, l8, l9, l10, l11, l12, l13, l14, l15, l16, l17, l18, l19, l20], st) y = evm C0 b0 L0 xs0 233 (318, [some (.ref x), l1, l2, l3, l4, l5, l6, l7, l8, l9, l10, l11, l12, l13, l14, l15, l16, l17, l18, l19, l20], .ref x :: st) y) ∧
  (∀ (L : ri_L) (st : List Value) (y : (gy × gy) × Nat), evm C0 b0 L0 xs0 233 (318, L, st) y = evm C0 b0 L0 xs0 233 (319, L, .int (Int32.ofInt 4) :: st) y) ∧
  (∀ (l0 l1 l2 l3 l4 l5 l6 l7 l8 l9 l10 l11 l12 l13 l14 l15 l16 l17 l18 l20 : Option Value) (st : List Value) (y : (gy × gy) × Nat) (x : Int32), evm C0 b0 L0 xs0 233 (319, [l0, l1, l2, l3, l4, l5, l6, l7, l8, l9, l10, l11, l12, l13, l14, l15, l16, l17, l18, some (.int x), l20], st) y = evm C0 b0 L0 xs0 233 (321, [l0, l1, l2, l3, l4, l5, l6, l7, l8, l9, l10, l11, l12, l13, l14, l15, l16, l17, l18, some (.int x), l20], .int x :: st) y) ∧
  (∀ (L : ri_L) (st : List Value) (y : (gy × gy) × Nat), evm C0 b0 L0 xs0 233 (321, L, st) y = evm C0 b0 L0 xs0 233 (322, L, .int (Int32.ofInt 0) :: st) y) ∧
  (∀ (L : ri_L) (st : List Value) (y : (gy × gy) × Nat), evm C0 b0 L0 xs0 233 (322, L, st) y = evm C0 b0 L0 xs0 233 (323, L, .int (Int32.ofInt 0) :: st) y) ∧
  (∀ (L : ri_L) (y : (gy × gy) × Nat) (a0 : Nat) (a1 : Int32) (a2 : Int32) (a3 : Int32) (a4 : Int32) (s0 : Value), evm C0 b0 L0 xs0 233 (323, L, [.int a4, .int a3, .int a2, .int a1, .ref a0, s0]) y = lm_n (calm C0 b0 L0 xs0 230 [.ref a0, .int a1, .int a2, .int a3, .int a4] y) fun v y => evm C0 b0 L0 xs0 233 (326, L, [v, s0]) y) ∧
  (∀ (L : ri_L) (st : List Value) (y : (gy × gy) × Nat) (z x : Int32), evm C0 b0 L0 xs0 233 (326, L, .int z :: .int x :: st) y = evm C0 b0 L0 xs0 233 (327, L, .int (x + z) :: st) y) ∧
  (∀ (l0 l1 l2 l3 l4 l5 l6 l7 l8 l9 l10 l11 l12 l13 l14 l15 l16 l17 l18 l19 l20 : Option Value) (st : List Value) (y : (gy × gy) × Nat) (x : Int32), evm C0 b0 L0 xs0 233 (327, [l0, l1, l2, l3, l4, l5, l6, l7, l8, l9, l10, l11, l12, l13, l14, l15, l16, l17, l18, l19, l20], .int x :: st) y = evm C0 b0 L0 xs0 233 (329, [l0, l1, l2, l3, l4, l5, l6, l7, l8, l9, l10, l11, l12, l13, ri_clr l14, some (.int x), l16, l17, l18, l19, l20], st) y) ∧
  (∀ (l0 l1 l2 l3 l4 l5 l6 l7 l9 l10 l11 l12 l13 l14 l15 l16 l17 l18 l19 l20 : Option Value) (st : List Value) (y : (gy × gy) × Nat) (x : Int32), evm C0 b0 L0 xs0 233 (329, [l0, l1, l2, l3, l4, l5, l6, l7, some (.int x), l9, l10, l11, l12, l13, l14, l15, l16, l17, l18, l19, l20], st) y = evm C0 b0 L0 xs0 233 (331, [l0, l1, l2, l3, l4, l5, l6, l7, some (.int x), l9, l10, l11, l12, l13, l14, l15, l16, l17, l18, l19, l20], .int x :: st) y) ∧
  (∀ (l1 l2 l3 l4 l5 l6 l7 l8 l9 l10 l11 l12 l13 l14 l15 l16 l17 l18 l19 l20 : Option Value) (st : List Value) (y : (gy × gy) × Nat) (x : Nat), evm C0 b0 L0 xs0 233 (331, [some (.ref x), l1, l2, l3, l4, l5, l6, l7, l8, l9, l10, l11, l12, l13, l14, l15, l16, l17, l18, l19, l20], st) y = evm C0 b0 L0 xs0 233 (332, [some (.ref x), l1, l2, l3, l4, l5, l6, l7, l8, l9, l10, l11, l12, l13, l14, l15, l16, l17, l18, l19, l20], .ref x :: st) y) ∧
  (∀ (L : ri_L) (st : List Value) (y : (gy × gy) × Nat), evm C0 b0 L0 xs0 233 (332, L, st) y = evm C0 b0 L0 xs0 233 (334, L, .int (Int32.ofInt 6) :: st) y) ∧
  (∀ (l0 l1 l2 l3 l4 l5 l6 l7 l8 l9 l11 l12 l13 l14 l15 l16 l17 l18 l19 l20 : Option Value) (st : List Value) (y : (gy × gy) × Nat) (x : Int32), evm C0 b0 L0 xs0 233 (334, [l0, l1, l2, l3, l4, l5, l6, l7, l8, l9, some (.int x), l11, l12, l13, l14, l15, l16, l17, l18, l19, l20], st) y = evm C0 b0 L0 xs0 233 (336, [l0, l1, l2, l3, l4, l5, l6, l7, l8, l9, some (.int x), l11, l12, l13, l14, l15, l16, l17, l18, l19, l20], .int x :: st) y) ∧
  (∀ (l0 l1 l2 l3 l4 l5 l6 l7 l8 l9 l10 l11 l12 l13 l14 l15 l16 l18 l19 l20 : Option Value) (st : List Value) (y : (gy × gy) × Nat) (x : Int32), evm C0 b0 L0 xs0 233 (336, [l0, l1, l2, l3, l4, l5, l6, l7, l8, l9, l10, l11, l12, l13, l14, l15, l16, some (.int x), l18, l19, l20], st) y = evm C0 b0 L0 xs0 233 (338, [l0, l1, l2, l3, l4, l5, l6, l7, l8, l9, l10, l11, l12, l13, l14, l15, l16, some (.int x), l18, l19, l20], .int x :: st) y) ∧
  (∀ (L : ri_L) (st : List Value) (y : (gy × gy) × Nat), evm C0 b0 L0 xs0 233 (338, L, st) y = evm C0 b0 L0 xs0 233 (339, L, .int (Int32.ofInt 3) :: st) y) ∧
  (∀ (L : ri_L) (y : (gy × gy) × Nat) (a0 : Nat) (a1 : Int32) (a2 : Int32) (a3 : Int32) (a4 : Int32) (s0 : Value), evm C0 b0 L0 xs0 233 (339, L, [.int a4, .int a3, .int a2, .int a1, .ref a0, s0]) y = lm_n (calm C0 b0 L0 xs0 230 [.ref a0, .int a1, .int a2, .int a3, .int a4] y) fun v y => evm C0 b0 L0 xs0 233 (342, L, [v, s0]) y) ∧
  (∀ (L : ri_L) (st : List Value) (y : (gy × gy) × Nat) (z x : Int32), evm C0 b0 L0 xs0 233 (342, L, .int z :: .int x :: st) y = evm C0 b0 L0 xs0 233 (343, L, .int (x + z) :: st) y) ∧
  (∀ (l0 l1 l2 l3 l4 l5 l6 l7 l8 l9 l10 l11 l12 l13 l14 l15 l16 l17 l18 l19 l20 : Option Value) (st : List Value) (y : (gy × gy) × Nat) (x : Int32), evm C0 b0 L0 xs0 233 (343, [l0, l1, l2, l3, l4, l5, l6, l7, l8, l9, l10, l11, l12, l13, l14, l15, l16, l17, l18, l19, l20], .int x :: st) y = evm C0 b0 L0 xs0 233 (345, [l0, l1, l2, l3, l4, l5, l6, ri_clr l7, some (.int x), l9, l10, l11, l12, l13, l14, l15, l16, l17, l18, l19, l20], st) y) ∧
  (∀ (l0 l1 l2 l3 l4 l5 l6 l7 l8 l9 l10 l11 l12 l13 l14 l15 l16 l18 l19 l20 : Option Value) (st : List Value) (y : (gy × gy) × Nat) (x : Int32), evm C0 b0 L0 xs0 233 (345, [l0, l1, l2, l3, l4, l5, l6, l7, l8, l9, l10, l11, l12, l13, l14, l15, l16, some (.int x), l18, l19, l20], st) y = evm C0 b0 L0 xs0 233 (348, [l0, l1, l2, l3, l4, l5, l6, l7, l8, l9, l10, l11, l12, l13, l14, l15, ri_clr l16, some (.int (x + (Int32.ofInt 1))), l18, l19, l20], st) y) ∧
  (∀ (L : ri_L) (st : List Value) (y : (gy × gy) × Nat), evm C0 b0 L0 xs0 233 (348, L, st) y = evm C0 b0 L0 xs0 233 (124, L, st) y) ∧
  (∀ (l0 l1 l2 l3 l4 l5 l7 l8 l9 l10 l11 l12 l13 l14 l15 l16 l17 l18 l19 l20 : Option Value) (st : List Value) (y : (gy × gy) × Nat) (x : Int32), evm C0 b0 L0 xs0 233 (351, [l0, l1, l2, l3, l4, l5, some (.int x), l7, l8, l9, l10, l11, l12, l13, l14, l15, l16, l17, l18, l19, l20], st) y = evm C0 b0 L0 xs0 233 (353, [l0, l1, l2, l3, l4, l5, some (.int x), l7, l8, l9, l10, l11, l12, l13, l14, l15, l16, l17, l18, l19, l20], .int x :: st) y) :=
  ⟨fun l0 l1 l2 l3 l4 l5 l6 l7 l8 l9 l10 l11 l12 l13 l14 l15 l16 l17 l18 l19 l20 st y x => em_p rfl rfl,
   fun l0 l1 l2 l3 l4 l5 l6 l7 l8 l9 l10 l11 l12 l13 l15 l16 l17 l18 l19 l20 st y x => em_p rfl rfl,
   fun l0 l1 l2 l3 l4 l5 l6 l7 l8 l9 l10 l11 l12 l13 l14 l15 l16 l17 l18 l19 st y x => em_p rfl rfl,
   fun L st y z x => em_p rfl rfl,
   fun l0 l1 l2 l3 l4 l5 l6 l7 l8 l9 l10 l11 l12 l13 l14 l15 l16 l17 l18 l19 l20 st y x => em_p rfl rfl,
   fun l0 l1 l2 l3 l4 l5 l6 l8 l9 l10 l11 l12 l13 l14 l15 l16 l17 l18 l19 l20 st y x => em_p rfl rfl,
   fun l0 l1 l2 l3 l4 l5 l6 l7 l8 l9 l10 l11 l12 l13 l14 l15 l16 l17 l18 l20 st y x => em_p rfl rfl,
   fun L st y => em_p rfl rfl,
   fun L st y z x => em_b rfl rfl,
   fun L st y => em_p rfl rfl,
   fun L st y => em_p rfl rfl,
   fun L st y => em_p rfl rfl,
   fun L st y z x => em_p rfl rfl,
   fun l0 l1 l2 l3 l4 l5 l6 l7 l8 l9 l10 l11 l12 l13 l14 l15 l16 l17 l18 l19 l20 st y x => em_p rfl rfl,
   fun l0 l1 l2 l3 l4 l5 l6 l7 l8 l9 l10 l11 l12 l13 l14 l16 l17 l18 l19 l20 st y x => em_p rfl rfl,
   fun l0 l1 l2 l3 l4 l5 l6 l7 l8 l9 l10 l11 l12 l13 l14 l15 l16 l17 l18 l20 st y x => em_p rfl rfl,
   fun L st y => em_p rfl rfl,
   fun L st y z x => em_b rfl rfl,
   fun L st y => em_p rfl rfl,
   fun L st y => em_p rfl rfl,
   fun l1 l2 l3 l4 l5 l6 l7 l8 l9 l10 l11 l12 l13 l14 l15 l16 l17 l18 l19 l20 st y x => em_p rfl rfl,
   fun L st y => em_p rfl rfl,
   fun l0 l1 l2 l3 l4 l5 l6 l7 l8 l9 l10 l11 l12 l13 l14 l15 l16 l17 l18 l20 st y x => em_p rfl rfl,
   fun L st y => em_p rfl rfl,
   fun L st y => em_p rfl rfl,
   fun L y a0 a1 a2 a3 a4 s0 => em_call rfl rfl rfl rfl rfl,
   fun L st y z x => em_p rfl rfl,
   fun l0 l1 l2 l3 l4 l5 l6 l7 l8 l9 l10 l11 l12 l13 l14 l15 l16 l17 l18 l19 l20 st y x => em_p rfl rfl,
   fun l0 l1 l2 l3 l4 l5 l6 l7 l9 l10 l11 l12 l13 l14 l15 l16 l17 l18 l19 l20 st y x => em_p rfl rfl,
   fun l1 l2 l3 l4 l5 l6 l7 l8 l9 l10 l11 l12 l13 l14 l15 l16 l17 l18 l19 l20 st y x => em_p rfl rfl,
   fun L st y => em_p rfl rfl,
   fun l0 l1 l2 l3 l4 l5 l6 l7 l8 l9 l11 l12 l13 l14 l15 l16 l17 l18 l19 l20 st y x => em_p rfl rfl,
   fun l0 l1 l2 l3 l4 l5 l6 l7 l8 l9 l10 l11 l12 l13 l14 l15 l16 l18 l19 l20 st y x => em_p rfl rfl,
   fun L st y => em_p rfl rfl,
   fun L y a0 a1 a2 a3 a4 s0 => em_call rfl rfl rfl rfl rfl,
   fun L st y z x => em_p rfl rfl,
   fun l0 l1 l2 l3 l4 l5 l6 l7 l8 l9 l10 l11 l12 l13 l14 l15 l16 l17 l18 l19 l20 st y x => em_p rfl rfl,
   fun l0 l1 l2 l3 l4 l5 l6 l7 l8 l9 l10 l11 l12 l13 l14 l15 l16 l18 l19 l20 st y x => em_p rfl rfl,
   fun L st y => em_p rfl rfl,
   fun l0 l1 l2 l3 l4 l5 l7 l8 l9 l10 l11 l12 l13 l14 l15 l16 l17 l18 l19 l20 st y x => em_p rfl rfl⟩
set_option maxRecDepth 8000 in
theorem L_233_5 :
  (∀ (l0 l1 l2 l3 l4 l5 l6 l7 l8 l9 l10 l11 l12 l13 l15 l16 l17 l18 l19 l20 : Option Value) (st : List Value) (y : (gy × gy) × Nat) (x : Int32), evm C0 b0 L0 xs0 233 (353, [l0, l1, l2, l3, l4, l5, l6, l7, l8, l9, l10, l11, l12, l13, some (.int x), l15, l16, l17, l18, l19, l20], st) y = evm C0 b0 L0 xs0 233 (355, [l0, l1, l2, l3, l4, l5, l6, l7, l8, l9, l10, l11, l12, l13, some (.int x), l15, l16, l17, l18, l19, l20], .int x :: st) y) ∧
  (∀ (L : ri_L) (st : List Value) (y : (gy × gy) × Nat) (z x : Int32), evm C0 b0 L0 xs0 233 (355, L, .int z :: .int x :: st) y = evm C0 b0 L0 xs0 233 (356, L, .int (x + z) :: st) y) ∧
  (∀ (l0 l1 l2 l3 l4 l5 l6 l7 l8 l9 l10 l11 l12 l13 l14 l15 l16 l17 l18 l19 l20 : Option Value) (st : List Value) (y : (gy × gy) × Nat) (x : Int32), evm C0 b0 L0 xs0 233 (356, [l0, l1, l2, l3, l4, l5, l6, l7, l8, l9, l10, l11, l12, l13, l14, l15, l16, l17, l18, l19, l20], .int x :: st) y = evm C0 b0 L0 xs0 233 (358, [l0, l1, l2, l3, l4, ri_clr l5, some (.int x), l7, l8, l9, l10, l11, l12, l13, l14, l15, l16, l17, l18, l19, l20], st) y) ∧
  (∀ (l1 l2 l3 l4 l5 l6 l7 l8 l9 l10 l11 l12 l13 l14 l15 l16 l17 l18 l19 l20 : Option Value) (st : List Value) (y : (gy × gy) × Nat) (x : Nat), evm C0 b0 L0 xs0 233 (358, [some (.ref x), l1, l2, l3, l4, l5, l6, l7, l8, l9, l10, l11, l12, l13, l14, l15, l16, l17, l18, l19, l20], st) y = evm C0 b0 L0 xs0 233 (359, [some (.ref x), l1, l2, l3, l4, l5, l6, l7, l8, l9, l10, l11, l12, l13, l14, l15, l16, l17, l18, l19, l20], .ref x :: st) y) ∧
  (∀ (L : ri_L) (st : List Value) (y : (gy × gy) × Nat), evm C0 b0 L0 xs0 233 (359, L, st) y = evm C0 b0 L0 xs0 233 (360, L, .int (Int32.ofInt 3) :: st) y) ∧
  (∀ (l0 l1 l2 l3 l4 l5 l6 l7 l8 l9 l11 l12 l13 l14 l15 l16 l17 l18 l19 l20 : Option Value) (st : List Value) (y : (gy × gy) × Nat) (x : Int32), evm C0 b0 L0 xs0 233 (360, [l0, l1, l2, l3, l4, l5, l6, l7, l8, l9, some (.int x), l11, l12, l13, l14, l15, l16, l17, l18, l19, l20], st) y = evm C0 b0 L0 xs0 233 (362, [l0, l1, l2, l3, l4, l5, l6, l7, l8, l9, some (.int x), l11, l12, l13, l14, l15, l16, l17, l18, l19, l20], .int x :: st) y) ∧
  (∀ (L : ri_L) (st : List Value) (y : (gy × gy) × Nat), evm C0 b0 L0 xs0 233 (362, L, st) y = evm C0 b0 L0 xs0 233 (364, L, .int (Int32.ofInt 6) :: st) y) ∧
  (∀ (L : ri_L) (st : List Value) (y : (gy × gy) × Nat), evm C0 b0 L0 xs0 233 (364, L, st) y = evm C0 b0 L0 xs0 233 (365, L, .int (Int32.ofInt 0) :: st) y) ∧
  (∀ (L : ri_L) (y : (gy × gy) × Nat) (a0 : Nat) (a1 : Int32) (a2 : Int32) (a3 : Int32) (a4 : Int32), evm C0 b0 L0 xs0 233 (365, L, [.int a4, .int a3, .int a2, .int a1, .ref a0]) y = lm_n (calm C0 b0 L0 xs0 230 [.ref a0, .int a1, .int a2, .int a3, .int a4] y) fun v y => evm C0 b0 L0 xs0 233 (368, L, [v]) y) ∧
  (∀ (l0 l1 l2 l3 l4 l5 l6 l7 l8 l9 l10 l11 l12 l13 l14 l15 l16 l17 l18 l19 l20 : Option Value) (st : List Value) (y : (gy × gy) × Nat) (x : Int32), evm C0 b0 L0 xs0 233 (368, [l0, l1, l2, l3, l4, l5, l6, l7, l8, l9, l10, l11, l12, l13, l14, l15, l16, l17, l18, l19, l20], .int x :: st) y = evm C0 b0 L0 xs0 233 (370, [l0, l1, l2, l3, l4, l5, l6, l7, l8, l9, l10, l11, l12, l13, l14, l15, ri_clr l16, some (.int x), l18, l19, l20], st) y) ∧
  (∀ (l0 l1 l2 l3 l4 l5 l6 l7 l8 l10 l11 l12 l13 l14 l15 l16 l17 l18 l19 l20 : Option Value) (st : List Value) (y : (gy × gy) × Nat) (x : Int32), evm C0 b0 L0 xs0 233 (370, [l0, l1, l2, l3, l4, l5, l6, l7, l8, some (.int x), l10, l11, l12, l13, l14, l15, l16, l17, l18, l19, l20], st) y = evm C0 b0 L0 xs0 233 (372, [l0, l1, l2, l3, l4, l5, l6, l7, l8, some (.int x), l10, l11, l12, l13, l14, l15, l16, l17, l18, l19, l20], .int x :: st) y) ∧
  (∀ (L : ri_L) (st : List Value) (y : (gy × gy) × Nat) (x : Int32), evm C0 b0 L0 xs0 233 (372, L, .int x :: st) y = if x = 0 then evm C0 b0 L0 xs0 233 (496, L, st) y else evm C0 b0 L0 xs0 233 (375, L, st) y) ∧
  (∀ (l0 l1 l2 l3 l4 l5 l6 l7 l8 l9 l10 l11 l12 l13 l14 l15 l17 l18 l19 l20 : Option Value) (st : List Value) (y : (gy × gy) × Nat) (x : Int32), evm C0 b0 L0 xs0 233 (375, [l0, l1, l2, l3, l4, l5, l6, l7, l8, l9, l10, l11, l12, l13, l14, l15, some (.int x), l17, l18, l19, l20], st) y = evm C0 b0 L0 xs0 233 (377, [l0, l1, l2, l3, l4, l5, l6, l7, l8, l9, l10, l11, l12, l13, l14, l15, some (.int x), l17, l18, l19, l20], .int x :: st) y) ∧
  (∀ (L : ri_L) (st : List Value) (y : (gy × gy) × Nat), evm C0 b0 L0 xs0 233 (377, L, st) y = evm C0 b0 L0 xs0 233 (378, L, .int (Int32.ofInt 1) :: st) y) ∧
  (∀ (l0 l1 l2 l3 l4 l5 l6 l7 l8 l9 l10 l12 l13 l14 l15 l16 l17 l18 l19 l20 : Option Value) (st : List Value) (y : (gy × gy) × Nat) (x : Int32), evm C0 b0 L0 xs0 233 (378, [l0, l1, l2, l3, l4, l5, l6, l7, l8, l9, l10, some (.int x), l12, l13, l14, l15, l16, l17, l18, l19, l20], st) y = evm C0 b0 L0 xs0 233 (380, [l0, l1, l2, l3, l4, l5, l6, l7, l8, l9, l10, some (.int x), l12, l13, l14, l15, l16, l17, l18, l19, l20], .int x :: st) y) ∧
  (∀ (L : ri_L) (st : List Value) (y : (gy × gy) × Nat) (z x : Int32), evm C0 b0 L0 xs0 233 (380, L, .int z :: .int x :: st) y = evm C0 b0 L0 xs0 233 (381, L, .int (x <<< (z &&& 31)) :: st) y) ∧
  (∀ (L : ri_L) (st : List Value) (y : (gy × gy) × Nat), evm C0 b0 L0 xs0 233 (381, L, st) y = evm C0 b0 L0 xs0 233 (382, L, .int (Int32.ofInt 1) :: st) y) ∧
  (∀ (L : ri_L) (st : List Value) (y : (gy × gy) × Nat) (z x : Int32), evm C0 b0 L0 xs0 233 (382, L, .int z :: .int x :: st) y = evm C0 b0 L0 xs0 233 (383, L, .int (x - z) :: st) y) ∧
  (∀ (L : ri_L) (st : List Value) (y : (gy × gy) × Nat) (z x : Int32), evm C0 b0 L0 xs0 233 (383, L, .int z :: .int x :: st) y = if ¬ x = z then evm C0 b0 L0 xs0 233 (496, L, st) y else evm C0 b0 L0 xs0 233 (386, L, st) y) ∧
  (∀ (l0 l1 l2 l3 l4 l5 l6 l7 l8 l9 l10 l11 l12 l14 l15 l16 l17 l18 l19 l20 : Option Value) (st : List Value) (y : (gy × gy) × Nat) (x : Int32), evm C0 b0 L0 xs0 233 (386, [l0, l1, l2, l3, l4, l5, l6, l7, l8, l9, l10, l11, l12, some (.int x), l14, l15, l16, l17, l18, l19, l20], st) y = evm C0 b0 L0 xs0 233 (388, [l0, l1, l2, l3, l4, l5, l6, l7, l8, l9, l10, l11, l12, some (.int x), l14, l15, l16, l17, l18, l19, l20], .int x :: st) y) ∧
  (∀ (L : ri_L) (st : List Value) (y : (gy × gy) × Nat) (x : Int32), evm C0 b0 L0 xs0 233 (388, L, .int x :: st) y = if x < 0 then evm C0 b0 L0 xs0 233 (496, L, st) y else evm C0 b0 L0 xs0 233 (391, L, st) y) ∧
  (∀ (l0 l1 l2 l3 l4 l5 l6 l7 l8 l9 l10 l11 l12 l14 l15 l16 l17 l18 l19 l20 : Option Value) (st : List Value) (y : (gy × gy) × Nat) (x : Int32), evm C0 b0 L0 xs0 233 (391, [l0, l1, l2, l3, l4, l5, l6, l7, l8, l9, l10, l11, l12, some (.int x), l14, l15, l16, l17, l18, l19, l20], st) y = evm C0 b0 L0 xs0 233 (393, [l0, l1, l2, l3, l4, l5, l6, l7, l8, l9, l10, l11, l12, some (.int x), l14, l15, l16, l17, l18, l19, l20], .int x :: st) y) ∧
  (∀ (l0 l1 l2 l3 l4 l5 l6 l7 l8 l9 l10 l12 l13 l14 l15 l16 l17 l18 l19 l20 : Option Value) (st : List Value) (y : (gy × gy) × Nat) (x : Int32), evm C0 b0 L0 xs0 233 (393, [l0, l1, l2, l3, l4, l5, l6, l7, l8, l9, l10, some (.int x), l12, l13, l14, l15, l16, l17, l18, l19, l20], st) y = evm C0 b0 L0 xs0 233 (395, [l0, l1, l2, l3, l4, l5, l6, l7, l8, l9, l10, some (.int x), l12, l13, l14, l15, l16, l17, l18, l19, l20], .int x :: st) y) ∧
  (∀ (L : ri_L) (st : List Value) (y : (gy × gy) × Nat) (z x : Int32), evm C0 b0 L0 xs0 233 (395, L, .int z :: .int x :: st) y = if z ≤ x then evm C0 b0 L0 xs0 233 (496, L, st) y else evm C0 b0 L0 xs0 233 (398, L, st) y) ∧
  (∀ (l0 l1 l2 l3 l4 l5 l6 l7 l8 l9 l10 l11 l12 l13 l15 l16 l17 l18 l19 l20 : Option Value) (st : List Value) (y : (gy × gy) × Nat) (x : Int32), evm C0 b0 L0 xs0 233 (398, [l0, l1, l2, l3, l4, l5, l6, l7, l8, l9, l10, l11, l12, l13, some (.int x), l15, l16, l17, l18, l19, l20], st) y = evm C0 b0 L0 xs0 233 (400, [l0, l1, l2, l3, l4, l5, l6, l7, l8, l9, l10, l11, l12, l13, some (.int x), l15, l16, l17, l18, l19, l20], .int x :: st) y) ∧
  (∀ (l1 l2 l3 l4 l5 l6 l7 l8 l9 l10 l11 l12 l13 l14 l15 l16 l17 l18 l19 l20 : Option Value) (st : List Value) (y : (gy × gy) × Nat) (x : Nat), evm C0 b0 L0 xs0 233 (400, [some (.ref x), l1, l2, l3, l4, l5, l6, l7, l8, l9, l10, l11, l12, l13, l14, l15, l16, l17, l18, l19, l20], st) y = evm C0 b0 L0 xs0 233 (401, [some (.ref x), l1, l2, l3, l4, l5, l6, l7, l8, l9, l10, l11, l12, l13, l14, l15, l16, l17, l18, l19, l20], .ref x :: st) y) ∧
  (∀ (L : ri_L) (st : List Value) (y : (gy × gy) × Nat), evm C0 b0 L0 xs0 233 (401, L, st) y = evm C0 b0 L0 xs0 233 (402, L, .int (Int32.ofInt 3) :: st) y) ∧
  (∀ (l0 l1 l2 l3 l4 l5 l6 l7 l8 l9 l11 l12 l13 l14 l15 l16 l17 l18 l19 l20 : Option Value) (st : List Value) (y : (gy × gy) × Nat) (x : Int32), evm C0 b0 L0 xs0 233 (402, [l0, l1, l2, l3, l4, l5, l6, l7, l8, l9, some (.int x), l11, l12, l13, l14, l15, l16, l17, l18, l19, l20], st) y = evm C0 b0 L0 xs0 233 (404, [l0, l1, l2, l3, l4, l5, l6, l7, l8, l9, some (.int x), l11, l12, l13, l14, l15, l16, l17, l18, l19, l20], .int x :: st) y) ∧
  (∀ (L : ri_L) (st : List Value) (y : (gy × gy) × Nat), evm C0 b0 L0 xs0 233 (404, L, st) y = evm C0 b0 L0 xs0 233 (405, L, .int (Int32.ofInt 5) :: st) y) ∧
  (∀ (L : ri_L) (st : List Value) (y : (gy × gy) × Nat), evm C0 b0 L0 xs0 233 (405, L, st) y = evm C0 b0 L0 xs0 233 (406, L, .int (Int32.ofInt 0) :: st) y) ∧
  (∀ (L : ri_L) (y : (gy × gy) × Nat) (a0 : Nat) (a1 : Int32) (a2 : Int32) (a3 : Int32) (a4 : Int32) (s0 : Value), evm C0 b0 L0 xs0 233 (406, L, [.int a4, .int a3, .int a2, .int a1, .ref a0, s0]) y = lm_n (calm C0 b0 L0 xs0 230 [.ref a0, .int a1, .int a2, .int a3, .int a4] y) fun v y => evm C0 b0 L0 xs0 233 (409, L, [v, s0]) y) ∧
  (∀ (L : ri_L) (st : List Value) (y : (gy × gy) × Nat) (z x : Int32), evm C0 b0 L0 xs0 233 (409, L, .int z :: .int x :: st) y = if ¬ x = z then evm C0 b0 L0 xs0 233 (496, L, st) y else evm C0 b0 L0 xs0 233 (412, L, st) y) ∧
  (∀ (l0 l1 l2 l3 l4 l5 l6 l7 l8 l9 l10 l11 l12 l13 l14 l16 l17 l18 l19 l20 : Option Value) (st : List Value) (y : (gy × gy) × Nat) (x : Int32), evm C0 b0 L0 xs0 233 (412, [l0, l1, l2, l3, l4, l5, l6, l7, l8, l9, l10, l11, l12, l13, l14, some (.int x), l16, l17, l18, l19, l20], st) y = evm C0 b0 L0 xs0 233 (414, [l0, l1, l2, l3, l4, l5, l6, l7, l8, l9, l10, l11, l12, l13, l14, some (.int x), l16, l17, l18, l19, l20], .int x :: st) y) ∧
  (∀ (l1 l2 l3 l4 l5 l6 l7 l8 l9 l10 l11 l12 l13 l14 l15 l16 l17 l18 l19 l20 : Option Value) (st : List Value) (y : (gy × gy) × Nat) (x : Nat), evm C0 b0 L0 xs0 233 (414, [some (.ref x), l1, l2, l3, l4, l5, l6, l7, l8, l9, l10, l11, l12, l13, l14, l15, l16, l17, l18, l19, l20], st) y = evm C0 b0 L0 xs0 233 (415, [some (.ref x), l1, l2, l3, l4, l5, l6, l7, l8, l9, l10, l11, l12, l13, l14, l15, l16, l17, l18, l19, l20], .ref x :: st) y) ∧
  (∀ (L : ri_L) (st : List Value) (y : (gy × gy) × Nat), evm C0 b0 L0 xs0 233 (415, L, st) y = evm C0 b0 L0 xs0 233 (416, L, .int (Int32.ofInt 3) :: st) y) ∧
  (∀ (l0 l1 l2 l3 l4 l5 l6 l7 l8 l9 l11 l12 l13 l14 l15 l16 l17 l18 l19 l20 : Option Value) (st : List Value) (y : (gy × gy) × Nat) (x : Int32), evm C0 b0 L0 xs0 233 (416, [l0, l1, l2, l3, l4, l5, l6, l7, l8, l9, some (.int x), l11, l12, l13, l14, l15, l16, l17, l18, l19, l20], st) y = evm C0 b0 L0 xs0 233 (418, [l0, l1, l2, l3, l4, l5, l6, l7, l8, l9, some (.int x), l11, l12, l13, l14, l15, l16, l17, l18, l19, l20], .int x :: st) y) ∧
  (∀ (L : ri_L) (st : List Value) (y : (gy × gy) × Nat), evm C0 b0 L0 xs0 233 (418, L, st) y = evm C0 b0 L0 xs0 233 (419, L, .int (Int32.ofInt 4) :: st) y) ∧
  (∀ (L : ri_L) (st : List Value) (y : (gy × gy) × Nat), evm C0 b0 L0 xs0 233 (419, L, st) y = evm C0 b0 L0 xs0 233 (420, L, .int (Int32.ofInt 0) :: st) y) ∧
  (∀ (L : ri_L) (y : (gy × gy) × Nat) (a0 : Nat) (a1 : Int32) (a2 : Int32) (a3 : Int32) (a4 : Int32) (s0 : Value), evm C0 b0 L0 xs0 233 (420, L, [.int a4, .int a3, .int a2, .int a1, .ref a0, s0]) y = lm_n (calm C0 b0 L0 xs0 230 [.ref a0, .int a1, .int a2, .int a3, .int a4] y) fun v y => evm C0 b0 L0 xs0 233 (423, L, [v, s0]) y) ∧
  (∀ (L : ri_L) (st : List Value) (y : (gy × gy) × Nat) (z x : Int32), evm C0 b0 L0 xs0 233 (423, L, .int z :: .int x :: st) y = if ¬ x = z then evm C0 b0 L0 xs0 233 (496, L, st) y else evm C0 b0 L0 xs0 233 (426, L, st) y) :=
  ⟨fun l0 l1 l2 l3 l4 l5 l6 l7 l8 l9 l10 l11 l12 l13 l15 l16 l17 l18 l19 l20 st y x => em_p rfl rfl,
   fun L st y z x => em_p rfl rfl,
   fun l0 l1 l2 l3 l4 l5 l6 l7 l8 l9 l10 l11 l12 l13 l14 l15 l16 l17 l18 l19 l20 st y x => em_p rfl rfl,
   fun l1 l2 l3 l4 l5 l6 l7 l8 l9 l10 l11 l12 l13 l14 l15 l16 l17 l18 l19 l20 st y x => em_p rfl rfl,
   fun L st y => em_p rfl rfl,
   fun l0 l1 l2 l3 l4 l5 l6 l7 l8 l9 l11 l12 l13 l14 l15 l16 l17 l18 l19 l20 st y x => em_p rfl rfl,
   fun L st y => em_p rfl rfl,
   fun L st y => em_p rfl rfl,
   fun L y a0 a1 a2 a3 a4 => em_call rfl rfl rfl rfl rfl,
   fun l0 l1 l2 l3 l4 l5 l6 l7 l8 l9 l10 l11 l12 l13 l14 l15 l16 l17 l18 l19 l20 st y x => em_p rfl rfl,
   fun l0 l1 l2 l3 l4 l5 l6 l7 l8 l10 l11 l12 l13 l14 l15 l16 l17 l18 l19 l20 st y x => em_p rfl rfl,
   fun L st y x => em_b rfl rfl,
   fun l0 l1 l2 l3 l4 l5 l6 l7 l8 l9 l10 l11 l12 l13 l14 l15 l17 l18 l19 l20 st y x => em_p rfl rfl,
   fun L st y => em_p rfl rfl,
   fun l0 l1 l2 l3 l4 l5 l6 l7 l8 l9 l10 l12 l13 l14 l15 l16 l17 l18 l19 l20 st y x => em_p rfl rfl,
   fun L st y z x => em_p rfl rfl,
   fun L st y => em_p rfl rfl,
   fun L st y z x => em_p rfl rfl,
   fun L st y z x => em_b rfl rfl,
   fun l0 l1 l2 l3 l4 l5 l6 l7 l8 l9 l10 l11 l12 l14 l15 l16 l17 l18 l19 l20 st y x => em_p rfl rfl,
   fun L st y x => em_b rfl rfl,
   fun l0 l1 l2 l3 l4 l5 l6 l7 l8 l9 l10 l11 l12 l14 l15 l16 l17 l18 l19 l20 st y x => em_p rfl rfl,
   fun l0 l1 l2 l3 l4 l5 l6 l7 l8 l9 l10 l12 l13 l14 l15 l16 l17 l18 l19 l20 st y x => em_p rfl rfl,
   fun L st y z x => em_b rfl rfl,
   fun l0 l1 l2 l3 l4 l5 l6 l7 l8 l9 l10 l11 l12 l13 l15 l16 l17 l18 l19 l20 st y x => em_p rfl rfl,
   fun l1 l2 l3 l4 l5 l6 l7 l8 l9 l10 l11 l12 l13 l14 l15 l16 l17 l18 l19 l20 st y x => em_p rfl rfl,
   fun L st y => em_p rfl rfl,
   fun l0 l1 l2 l3 l4 l5 l6 l7 l8 l9 l11 l12 l13 l14 l15 l16 l17 l18 l19 l20 st y x => em_p rfl rfl,
   fun L st y => em_p rfl rfl,
   fun L st y => em_p rfl rfl,
   fun L y a0 a1 a2 a3 a4 s0 => em_call rfl rfl rfl rfl rfl,
   fun L st y z x => em_b rfl rfl,
   fun l0 l1 l2 l3 l4 l5 l6 l7 l8 l9 l10 l11 l12 l13 l14 l16 l17 l18 l19 l20 st y x => em_p rfl rfl,
   fun l1 l2 l3 l4 l5 l6 l7 l8 l9 l10 l11 l12 l13 l14 l15 l16 l17 l18 l19 l20 st y x => em_p rfl rfl,
   fun L st y => em_p rfl rfl,
   fun l0 l1 l2 l3 l4 l5 l6 l7 l8 l9 l11 l12 l13 l14 l15 l16 l17 l18 l19 l20 st y x => em_p rfl rfl,
   fun L st y => em_p rfl rfl,
   fun L st y => em_p rfl rfl,
   fun L y a0 a1 a2 a3 a4 s0 => em_call rfl rfl rfl rfl rfl,
   fun L st y z x => em_b rfl rfl⟩
set_option maxRecDepth 8000 in
theorem L_233_6 :
  (∀ (l0 l1 l2 l3 l4 l5 l6 l7 l8 l9 l10 l11 l12 l13 l14 l15 l16 l18 l19 l20 : Option Value) (st : List Value) (y : (gy × gy) × Nat) (x : Int32), evm C0 b0 L0 xs0 233 (426, [l0, l1, l2, l3, l4, l5, l6, l7, l8, l9, l10, l11, l12, l13, l14, l15, l16, some (.int x), l18, l19, l20], st) y = evm C0 b0 L0 xs0 233 (428, [l0, l1, l2, l3, l4, l5, l6, l7, l8, l9, l10, l11, l12, l13, l14, l15, l16, some (.int x), l18, l19, l20], .int x :: st) y) ∧
  (∀ (L : ri_L) (st : List Value) (y : (gy × gy) × Nat) (x : Int32), evm C0 b0 L0 xs0 233 (428, L, .int x :: st) y = if x ≤ 0 then evm C0 b0 L0 xs0 233 (496, L, st) y else evm C0 b0 L0 xs0 233 (431, L, st) y) ∧
  (∀ (l0 l1 l2 l3 l4 l5 l6 l7 l8 l9 l10 l11 l12 l13 l14 l15 l16 l18 l19 l20 : Option Value) (st : List Value) (y : (gy × gy) × Nat) (x : Int32), evm C0 b0 L0 xs0 233 (431, [l0, l1, l2, l3, l4, l5, l6, l7, l8, l9, l10, l11, l12, l13, l14, l15, l16, some (.int x), l18, l19, l20], st) y = evm C0 b0 L0 xs0 233 (433, [l0, l1, l2, l3, l4, l5, l6, l7, l8, l9, l10, l11, l12, l13, l14, l15, l16, some (.int x), l18, l19, l20], .int x :: st) y) ∧
  (∀ (l0 l1 l2 l3 l4 l5 l6 l7 l8 l9 l10 l12 l13 l14 l15 l16 l17 l18 l19 l20 : Option Value) (st : List Value) (y : (gy × gy) × Nat) (x : Int32), evm C0 b0 L0 xs0 233 (433, [l0, l1, l2, l3, l4, l5, l6, l7, l8, l9, l10, some (.int x), l12, l13, l14, l15, l16, l17, l18, l19, l20], st) y = evm C0 b0 L0 xs0 233 (435, [l0, l1, l2, l3, l4, l5, l6, l7, l8, l9, l10, some (.int x), l12, l13, l14, l15, l16, l17, l18, l19, l20], .int x :: st) y) ∧
  (∀ (L : ri_L) (st : List Value) (y : (gy × gy) × Nat) (z x : Int32), evm C0 b0 L0 xs0 233 (435, L, .int z :: .int x :: st) y = if z < x then evm C0 b0 L0 xs0 233 (496, L, st) y else evm C0 b0 L0 xs0 233 (438, L, st) y) ∧
  (∀ (l0 l1 l2 l3 l4 l5 l6 l7 l8 l9 l10 l11 l12 l13 l14 l15 l16 l18 l19 l20 : Option Value) (st : List Value) (y : (gy × gy) × Nat) (x : Int32), evm C0 b0 L0 xs0 233 (438, [l0, l1, l2, l3, l4, l5, l6, l7, l8, l9, l10, l11, l12, l13, l14, l15, l16, some (.int x), l18, l19, l20], st) y = evm C0 b0 L0 xs0 233 (440, [l0, l1, l2, l3, l4, l5, l6, l7, l8, l9, l10, l11, l12, l13, l14, l15, l16, some (.int x), l18, l19, l20], .int x :: st) y) ∧
  (∀ (l0 l1 l2 l3 l4 l5 l6 l7 l8 l9 l10 l11 l13 l14 l15 l16 l17 l18 l19 l20 : Option Value) (st : List Value) (y : (gy × gy) × Nat) (x : Int32), evm C0 b0 L0 xs0 233 (440, [l0, l1, l2, l3, l4, l5, l6, l7, l8, l9, l10, l11, some (.int x), l13, l14, l15, l16, l17, l18, l19, l20], st) y = evm C0 b0 L0 xs0 233 (442, [l0, l1, l2, l3, l4, l5, l6, l7, l8, l9, l10, l11, some (.int x), l13, l14, l15, l16, l17, l18, l19, l20], .int x :: st) y) ∧
  (∀ (L : ri_L) (st : List Value) (y : (gy × gy) × Nat) (z x : Int32), evm C0 b0 L0 xs0 233 (442, L, .int z :: .int x :: st) y = evm C0 b0 L0 xs0 233 (443, L, .int (x * z) :: st) y) ∧
  (∀ (l0 l1 l2 l3 l4 l5 l6 l7 l8 l9 l10 l12 l13 l14 l15 l16 l17 l18 l19 l20 : Option Value) (st : List Value) (y : (gy × gy) × Nat) (x : Int32), evm C0 b0 L0 xs0 233 (443, [l0, l1, l2, l3, l4, l5, l6, l7, l8, l9, l10, some (.int x), l12, l13, l14, l15, l16, l17, l18, l19, l20], st) y = evm C0 b0 L0 xs0 233 (445, [l0, l1, l2, l3, l4, l5, l6, l7, l8, l9, l10, some (.int x), l12, l13, l14, l15, l16, l17, l18, l19, l20], .int x :: st) y) ∧
  (∀ (L : ri_L) (st : List Value) (y : (gy × gy) × Nat) (z x : Int32), evm C0 b0 L0 xs0 233 (445, L, .int z :: .int x :: st) y = if z = 0 then none else evm C0 b0 L0 xs0 233 (446, L, .int (x - x / z * z) :: st) y) ∧
  (∀ (L : ri_L) (st : List Value) (y : (gy × gy) × Nat) (x : Int32), evm C0 b0 L0 xs0 233 (446, L, .int x :: st) y = if ¬ x = 0 then evm C0 b0 L0 xs0 233 (496, L, st) y else evm C0 b0 L0 xs0 233 (449, L, st) y) ∧
  (∀ (l0 l1 l2 l3 l4 l5 l6 l7 l8 l9 l10 l11 l12 l13 l14 l15 l16 l18 l19 l20 : Option Value) (st : List Value) (y : (gy × gy) × Nat) (x : Int32), evm C0 b0 L0 xs0 233 (449, [l0, l1, l2, l3, l4, l5, l6, l7, l8, l9, l10, l11, l12, l13, l14, l15, l16, some (.int x), l18, l19, l20], st) y = evm C0 b0 L0 xs0 233 (451, [l0, l1, l2, l3, l4, l5, l6, l7, l8, l9, l10, l11, l12, l13, l14, l15, l16, some (.int x), l18, l19, l20], .int x :: st) y) ∧
  (∀ (L : ri_L) (st : List Value) (y : (gy × gy) × Nat), evm C0 b0 L0 xs0 233 (451, L, st) y = evm C0 b0 L0 xs0 233 (452, L, .int (Int32.ofInt 1) :: st) y) ∧
  (∀ (L : ri_L) (st : List Value) (y : (gy × gy) × Nat) (z x : Int32), evm C0 b0 L0 xs0 233 (452, L, .int z :: .int x :: st) y = if x = z then evm C0 b0 L0 xs0 233 (471, L, st) y else evm C0 b0 L0 xs0 233 (455, L, st) y) ∧
  (∀ (l0 l1 l2 l3 l4 l5 l6 l7 l8 l9 l10 l12 l13 l14 l15 l16 l17 l18 l19 l20 : Option Value) (st : List Value) (y : (gy × gy) × Nat) (x : Int32), evm C0 b0 L0 xs0 233 (455, [l0, l1, l2, l3, l4, l5, l6, l7, l8, l9, l10, some (.int x), l12, l13, l14, l15, l16, l17, l18, l19, l20], st) y = evm C0 b0 L0 xs0 233 (457, [l0, l1, l2, l3, l4, l5, l6, l7, l8, l9, l10, some (.int x), l12, l13, l14, l15, l16, l17, l18, l19, l20], .int x :: st) y) ∧
  (∀ (l0 l1 l2 l3 l4 l5 l6 l7 l8 l9 l10 l11 l12 l13 l14 l15 l16 l18 l19 l20 : Option Value) (st : List Value) (y : (gy × gy) × Nat) (x : Int32), evm C0 b0 L0 xs0 233 (457, [l0, l1, l2, l3, l4, l5, l6, l7, l8, l9, l10, l11, l12, l13, l14, l15, l16, some (.int x), l18, l19, l20], st) y = evm C0 b0 L0 xs0 233 (459, [l0, l1, l2, l3, l4, l5, l6, l7, l8, l9, l10, l11, l12, l13, l14, l15, l16, some (.int x), l18, l19, l20], .int x :: st) y) ∧
  (∀ (L : ri_L) (st : List Value) (y : (gy × gy) × Nat) (z x : Int32), evm C0 b0 L0 xs0 233 (459, L, .int z :: .int x :: st) y = if z = 0 then none else evm C0 b0 L0 xs0 233 (460, L, .int (x - x / z * z) :: st) y) ∧
  (∀ (L : ri_L) (st : List Value) (y : (gy × gy) × Nat) (x : Int32), evm C0 b0 L0 xs0 233 (460, L, .int x :: st) y = if ¬ x = 0 then evm C0 b0 L0 xs0 233 (496, L, st) y else evm C0 b0 L0 xs0 233 (463, L, st) y) ∧
  (∀ (l0 l1 l2 l3 l4 l5 l6 l7 l8 l9 l10 l11 l13 l14 l15 l16 l17 l18 l19 l20 : Option Value) (st : List Value) (y : (gy × gy) × Nat) (x : Int32), evm C0 b0 L0 xs0 233 (463, [l0, l1, l2, l3, l4, l5, l6, l7, l8, l9, l10, l11, some (.int x), l13, l14, l15, l16, l17, l18, l19, l20], st) y = evm C0 b0 L0 xs0 233 (465, [l0, l1, l2, l3, l4, l5, l6, l7, l8, l9, l10, l11, some (.int x), l13, l14, l15, l16, l17, l18, l19, l20], .int x :: st) y) ∧
  (∀ (l0 l1 l2 l3 l4 l5 l6 l7 l8 l9 l10 l12 l13 l14 l15 l16 l17 l18 l19 l20 : Option Value) (st : List Value) (y : (gy × gy) × Nat) (x : Int32), evm C0 b0 L0 xs0 233 (465, [l0, l1, l2, l3, l4, l5, l6, l7, l8, l9, l10, some (.int x), l12, l13, l14, l15, l16, l17, l18, l19, l20], st) y = evm C0 b0 L0 xs0 233 (467, [l0, l1, l2, l3, l4, l5, l6, l7, l8, l9, l10, some (.int x), l12, l13, l14, l15, l16, l17, l18, l19, l20], .int x :: st) y) ∧
  (∀ (L : ri_L) (st : List Value) (y : (gy × gy) × Nat) (z x : Int32), evm C0 b0 L0 xs0 233 (467, L, .int z :: .int x :: st) y = if z = 0 then none else evm C0 b0 L0 xs0 233 (468, L, .int (x - x / z * z) :: st) y) ∧
  (∀ (L : ri_L) (st : List Value) (y : (gy × gy) × Nat) (x : Int32), evm C0 b0 L0 xs0 233 (468, L, .int x :: st) y = if x = 0 then evm C0 b0 L0 xs0 233 (496, L, st) y else evm C0 b0 L0 xs0 233 (471, L, st) y) ∧
  (∀ (l1 l2 l3 l4 l5 l6 l7 l8 l9 l10 l11 l12 l13 l14 l15 l16 l17 l18 l19 l20 : Option Value) (st : List Value) (y : (gy × gy) × Nat) (x : Nat), evm C0 b0 L0 xs0 233 (471, [some (.ref x), l1, l2, l3, l4, l5, l6, l7, l8, l9, l10, l11, l12, l13, l14, l15, l16, l17, l18, l19, l20], st) y = evm C0 b0 L0 xs0 233 (472, [some (.ref x), l1, l2, l3, l4, l5, l6, l7, l8, l9, l10, l11, l12, l13, l14, l15, l16, l17, l18, l19, l20], .ref x :: st) y) ∧
  (∀ (L : ri_L) (st : List Value) (y : (gy × gy) × Nat), evm C0 b0 L0 xs0 233 (472, L, st) y = evm C0 b0 L0 xs0 233 (473, L, .int (Int32.ofInt 3) :: st) y) ∧
  (∀ (l0 l1 l2 l3 l4 l5 l6 l7 l8 l9 l11 l12 l13 l14 l15 l16 l17 l18 l19 l20 : Option Value) (st : List Value) (y : (gy × gy) × Nat) (x : Int32), evm C0 b0 L0 xs0 233 (473, [l0, l1, l2, l3, l4, l5, l6, l7, l8, l9, some (.int x), l11, l12, l13, l14, l15, l16, l17, l18, l19, l20], st) y = evm C0 b0 L0 xs0 233 (475, [l0, l1, l2, l3, l4, l5, l6, l7, l8, l9, some (.int x), l11, l12, l13, l14, l15, l16, l17, l18, l19, l20], .int x :: st) y) ∧
  (∀ (L : ri_L) (st : List Value) (y : (gy × gy) × Nat), evm C0 b0 L0 xs0 233 (475, L, st) y = evm C0 b0 L0 xs0 233 (477, L, .int (Int32.ofInt 7) :: st) y) ∧
  (∀ (L : ri_L) (st : List Value) (y : (gy × gy) × Nat), evm C0 b0 L0 xs0 233 (477, L, st) y = evm C0 b0 L0 xs0 233 (478, L, .int (Int32.ofInt 0) :: st) y) ∧
  (∀ (L : ri_L) (y : (gy × gy) × Nat) (a0 : Nat) (a1 : Int32) (a2 : Int32) (a3 : Int32) (a4 : Int32), evm C0 b0 L0 xs0 233 (478, L, [.int a4, .int a3, .int a2, .int a1, .ref a0]) y = lm_n (calm C0 b0 L0 xs0 230 [.ref a0, .int a1, .int a2, .int a3, .int a4] y) fun v y => evm C0 b0 L0 xs0 233 (481, L, [v]) y) ∧
  (∀ (l1 l2 l3 l4 l5 l6 l7 l8 l9 l10 l11 l12 l13 l14 l15 l16 l17 l18 l19 l20 : Option Value) (st : List Value) (y : (gy × gy) × Nat) (x : Nat), evm C0 b0 L0 xs0 233 (481, [some (.ref x), l1, l2, l3, l4, l5, l6, l7, l8, l9, l10, l11, l12, l13, l14, l15, l16, l17, l18, l19, l20], st) y = evm C0 b0 L0 xs0 233 (482, [some (.ref x), l1, l2, l3, l4, l5, l6, l7, l8, l9, l10, l11, l12, l13, l14, l15, l16, l17, l18, l19, l20], .ref x :: st) y) ∧
  (∀ (L : ri_L) (st : List Value) (y : (gy × gy) × Nat), evm C0 b0 L0 xs0 233 (482, L, st) y = evm C0 b0 L0 xs0 233 (483, L, .int (Int32.ofInt 2) :: st) y) ∧
  (∀ (L : ri_L) (st : List Value) (y : (gy × gy) × Nat), evm C0 b0 L0 xs0 233 (483, L, st) y = evm C0 b0 L0 xs0 233 (484, L, .int (Int32.ofInt 3) :: st) y) ∧
  (∀ (L : ri_L) (st : List Value) (y : (gy × gy) × Nat), evm C0 b0 L0 xs0 233 (484, L, st) y = evm C0 b0 L0 xs0 233 (485, L, .int (Int32.ofInt 0) :: st) y) ∧
  (∀ (L : ri_L) (st : List Value) (y : (gy × gy) × Nat), evm C0 b0 L0 xs0 233 (485, L, st) y = evm C0 b0 L0 xs0 233 (486, L, .int (Int32.ofInt 0) :: st) y) ∧
  (∀ (L : ri_L) (y : (gy × gy) × Nat) (a0 : Nat) (a1 : Int32) (a2 : Int32) (a3 : Int32) (a4 : Int32) (s0 : Value), evm C0 b0 L0 xs0 233 (486, L, [.int a4, .int a3, .int a2, .int a1, .ref a0, s0]) y = lm_n (calm C0 b0 L0 xs0 230 [.ref a0, .int a1, .int a2, .int a3, .int a4] y) fun v y => evm C0 b0 L0 xs0 233 (489, L, [v, s0]) y) ∧
  (∀ (L : ri_L) (st : List Value) (y : (gy × gy) × Nat) (z x : Int32), evm C0 b0 L0 xs0 233 (489, L, .int z :: .int x :: st) y = if z < x then evm C0 b0 L0 xs0 233 (496, L, st) y else evm C0 b0 L0 xs0 233 (492, L, st) y) ∧
  (∀ (L : ri_L) (st : List Value) (y : (gy × gy) × Nat), evm C0 b0 L0 xs0 233 (492, L, st) y = evm C0 b0 L0 xs0 233 (493, L, .int (Int32.ofInt 1) :: st) y) ∧
  (∀ (L : ri_L) (st : List Value) (y : (gy × gy) × Nat), evm C0 b0 L0 xs0 233 (493, L, st) y = evm C0 b0 L0 xs0 233 (497, L, st) y) ∧
  (∀ (L : ri_L) (st : List Value) (y : (gy × gy) × Nat), evm C0 b0 L0 xs0 233 (496, L, st) y = evm C0 b0 L0 xs0 233 (497, L, .int (Int32.ofInt 0) :: st) y) ∧
  (∀ (l0 l1 l2 l3 l4 l5 l6 l7 l8 l9 l10 l11 l12 l13 l14 l15 l16 l17 l18 l19 l20 : Option Value) (st : List Value) (y : (gy × gy) × Nat) (x : Int32), evm C0 b0 L0 xs0 233 (497, [l0, l1, l2, l3, l4, l5, l6, l7, l8, l9, l10, l11, l12, l13, l14, l15, l16, l17, l18, l19, l20], .int x :: st) y = evm C0 b0 L0 xs0 233 (499, [l0, l1, l2, l3, l4, l5, l6, l7, ri_clr l8, some (.int x), l10, l11, l12, l13, l14, l15, l16, l17, l18, l19, l20], st) y) ∧
  (∀ (l0 l1 l2 l3 l4 l5 l6 l7 l8 l9 l11 l12 l13 l14 l15 l16 l17 l18 l19 l20 : Option Value) (st : List Value) (y : (gy × gy) × Nat) (x : Int32), evm C0 b0 L0 xs0 233 (499, [l0, l1, l2, l3, l4, l5, l6, l7, l8, l9, some (.int x), l11, l12, l13, l14, l15, l16, l17, l18, l19, l20], st) y = evm C0 b0 L0 xs0 233 (502, [l0, l1, l2, l3, l4, l5, l6, l7, l8, ri_clr l9, some (.int (x + (Int32.ofInt 1))), l11, l12, l13, l14, l15, l16, l17, l18, l19, l20], st) y) :=
  ⟨fun l0 l1 l2 l3 l4 l5 l6 l7 l8 l9 l10 l11 l12 l13 l14 l15 l16 l18 l19 l20 st y x => em_p rfl rfl,
   fun L st y x => em_b rfl rfl,
   fun l0 l1 l2 l3 l4 l5 l6 l7 l8 l9 l10 l11 l12 l13 l14 l15 l16 l18 l19 l20 st y x => em_p rfl rfl,
   fun l0 l1 l2 l3 l4 l5 l6 l7 l8 l9 l10 l12 l13 l14 l15 l16 l17 l18 l19 l20 st y x => em_p rfl rfl,
   fun L st y z x => em_b rfl rfl,
   fun l0 l1 l2 l3 l4 l5 l6 l7 l8 l9 l10 l11 l12 l13 l14 l15 l16 l18 l19 l20 st y x => em_p rfl rfl,
   fun l0 l1 l2 l3 l4 l5 l6 l7 l8 l9 l10 l11 l13 l14 l15 l16 l17 l18 l19 l20 st y x => em_p rfl rfl,
   fun L st y z x => em_p rfl rfl,
   fun l0 l1 l2 l3 l4 l5 l6 l7 l8 l9 l10 l12 l13 l14 l15 l16 l17 l18 l19 l20 st y x => em_p rfl rfl,
   fun L st y z x => em_d rfl rfl,
   fun L st y x => em_b rfl rfl,
   fun l0 l1 l2 l3 l4 l5 l6 l7 l8 l9 l10 l11 l12 l13 l14 l15 l16 l18 l19 l20 st y x => em_p rfl rfl,
   fun L st y => em_p rfl rfl,
   fun L st y z x => em_b rfl rfl,
   fun l0 l1 l2 l3 l4 l5 l6 l7 l8 l9 l10 l12 l13 l14 l15 l16 l17 l18 l19 l20 st y x => em_p rfl rfl,
   fun l0 l1 l2 l3 l4 l5 l6 l7 l8 l9 l10 l11 l12 l13 l14 l15 l16 l18 l19 l20 st y x => em_p rfl rfl,
   fun L st y z x => em_d rfl rfl,
   fun L st y x => em_b rfl rfl,
   fun l0 l1 l2 l3 l4 l5 l6 l7 l8 l9 l10 l11 l13 l14 l15 l16 l17 l18 l19 l20 st y x => em_p rfl rfl,
   fun l0 l1 l2 l3 l4 l5 l6 l7 l8 l9 l10 l12 l13 l14 l15 l16 l17 l18 l19 l20 st y x => em_p rfl rfl,
   fun L st y z x => em_d rfl rfl,
   fun L st y x => em_b rfl rfl,
   fun l1 l2 l3 l4 l5 l6 l7 l8 l9 l10 l11 l12 l13 l14 l15 l16 l17 l18 l19 l20 st y x => em_p rfl rfl,
   fun L st y => em_p rfl rfl,
   fun l0 l1 l2 l3 l4 l5 l6 l7 l8 l9 l11 l12 l13 l14 l15 l16 l17 l18 l19 l20 st y x => em_p rfl rfl,
   fun L st y => em_p rfl rfl,
   fun L st y => em_p rfl rfl,
   fun L y a0 a1 a2 a3 a4 => em_call rfl rfl rfl rfl rfl,
   fun l1 l2 l3 l4 l5 l6 l7 l8 l9 l10 l11 l12 l13 l14 l15 l16 l17 l18 l19 l20 st y x => em_p rfl rfl,
   fun L st y => em_p rfl rfl,
   fun L st y => em_p rfl rfl,
   fun L st y => em_p rfl rfl,
   fun L st y => em_p rfl rfl,
   fun L y a0 a1 a2 a3 a4 s0 => em_call rfl rfl rfl rfl rfl,
   fun L st y z x => em_b rfl rfl,
   fun L st y => em_p rfl rfl,
   fun L st y => em_p rfl rfl,
   fun L st y => em_p rfl rfl,
   fun l0 l1 l2 l3 l4 l5 l6 l7 l8 l9 l10 l11 l12 l13 l14 l15 l16 l17 l18 l19 l20 st y x => em_p rfl rfl,
   fun l0 l1 l2 l3 l4 l5 l6 l7 l8 l9 l11 l12 l13 l14 l15 l16 l17 l18 l19 l20 st y x => em_p rfl rfl⟩
set_option maxRecDepth 8000 in
theorem L_233_7 :
  (∀ (L : ri_L) (st : List Value) (y : (gy × gy) × Nat), evm C0 b0 L0 xs0 233 (502, L, st) y = evm C0 b0 L0 xs0 233 (68, L, st) y) ∧
  (∀ (L : ri_L) (st : List Value) (y : (gy × gy) × Nat), evm C0 b0 L0 xs0 233 (505, L, st) y = evm C0 b0 L0 xs0 233 (506, L, .int (Int32.ofInt 0) :: st) y) ∧
  (∀ (l0 l1 l2 l3 l4 l5 l6 l7 l8 l9 l10 l11 l12 l13 l14 l15 l16 l17 l18 l19 l20 : Option Value) (st : List Value) (y : (gy × gy) × Nat) (x : Int32), evm C0 b0 L0 xs0 233 (506, [l0, l1, l2, l3, l4, l5, l6, l7, l8, l9, l10, l11, l12, l13, l14, l15, l16, l17, l18, l19, l20], .int x :: st) y = evm C0 b0 L0 xs0 233 (508, [l0, l1, l2, l3, l4, l5, l6, l7, l8, ri_clr l9, some (.int x), l11, l12, l13, l14, l15, l16, l17, l18, l19, l20], st) y) ∧
  (∀ (L : ri_L) (st : List Value) (y : (gy × gy) × Nat), evm C0 b0 L0 xs0 233 (508, L, st) y = evm C0 b0 L0 xs0 233 (509, L, .int (Int32.ofInt 0) :: st) y) ∧
  (∀ (l0 l1 l2 l3 l4 l5 l6 l7 l8 l9 l10 l11 l12 l13 l14 l15 l16 l17 l18 l19 l20 : Option Value) (st : List Value) (y : (gy × gy) × Nat) (x : Int32), evm C0 b0 L0 xs0 233 (509, [l0, l1, l2, l3, l4, l5, l6, l7, l8, l9, l10, l11, l12, l13, l14, l15, l16, l17, l18, l19, l20], .int x :: st) y = evm C0 b0 L0 xs0 233 (511, [l0, l1, l2, l3, l4, l5, l6, l7, l8, l9, ri_clr l10, some (.int x), l12, l13, l14, l15, l16, l17, l18, l19, l20], st) y) ∧
  (∀ (l0 l1 l2 l4 l5 l6 l7 l8 l9 l10 l11 l12 l13 l14 l15 l16 l17 l18 l19 l20 : Option Value) (st : List Value) (y : (gy × gy) × Nat) (x : Int32), evm C0 b0 L0 xs0 233 (513, [l0, l1, l2, some (.int x), l4, l5, l6, l7, l8, l9, l10, l11, l12, l13, l14, l15, l16, l17, l18, l19, l20], st) y = evm C0 b0 L0 xs0 233 (514, [l0, l1, l2, some (.int x), l4, l5, l6, l7, l8, l9, l10, l11, l12, l13, l14, l15, l16, l17, l18, l19, l20], .int x :: st) y) ∧
  (∀ (L : ri_L) (st : List Value) (y : (gy × gy) × Nat) (z x : Int32), evm C0 b0 L0 xs0 233 (514, L, .int z :: .int x :: st) y = if z ≤ x then evm C0 b0 L0 xs0 233 (899, L, st) y else evm C0 b0 L0 xs0 233 (517, L, st) y) ∧
  (∀ (l0 l1 l2 l3 l4 l5 l6 l7 l8 l10 l11 l12 l13 l14 l15 l16 l17 l18 l19 l20 : Option Value) (st : List Value) (y : (gy × gy) × Nat) (x : Int32), evm C0 b0 L0 xs0 233 (517, [l0, l1, l2, l3, l4, l5, l6, l7, l8, some (.int x), l10, l11, l12, l13, l14, l15, l16, l17, l18, l19, l20], st) y = evm C0 b0 L0 xs0 233 (519, [l0, l1, l2, l3, l4, l5, l6, l7, l8, some (.int x), l10, l11, l12, l13, l14, l15, l16, l17, l18, l19, l20], .int x :: st) y) ∧
  (∀ (L : ri_L) (st : List Value) (y : (gy × gy) × Nat) (x : Int32), evm C0 b0 L0 xs0 233 (519, L, .int x :: st) y = if x = 0 then evm C0 b0 L0 xs0 233 (899, L, st) y else evm C0 b0 L0 xs0 233 (522, L, st) y) ∧
  (∀ (L : ri_L) (st : List Value) (y : (gy × gy) × Nat), evm C0 b0 L0 xs0 233 (522, L, st) y = evm C0 b0 L0 xs0 233 (523, L, .int (Int32.ofInt 0) :: st) y) ∧
  (∀ (l0 l1 l2 l3 l4 l5 l6 l7 l8 l9 l10 l11 l12 l13 l14 l15 l16 l17 l18 l19 l20 : Option Value) (st : List Value) (y : (gy × gy) × Nat) (x : Int32), evm C0 b0 L0 xs0 233 (523, [l0, l1, l2, l3, l4, l5, l6, l7, l8, l9, l10, l11, l12, l13, l14, l15, l16, l17, l18, l19, l20], .int x :: st) y = evm C0 b0 L0 xs0 233 (525, [l0, l1, l2, l3, l4, l5, l6, l7, l8, l9, l10, ri_clr l11, some (.int x), l13, l14, l15, l16, l17, l18, l19, l20], st) y) ∧
  (∀ (l0 l1 l2 l3 l5 l6 l7 l8 l9 l10 l11 l12 l13 l14 l15 l16 l17 l18 l19 l20 : Option Value) (st : List Value) (y : (gy × gy) × Nat) (x : Int32), evm C0 b0 L0 xs0 233 (525, [l0, l1, l2, l3, some (.int x), l5, l6, l7, l8, l9, l10, l11, l12, l13, l14, l15, l16, l17, l18, l19, l20], st) y = evm C0 b0 L0 xs0 233 (527, [l0, l1, l2, l3, some (.int x), l5, l6, l7, l8, l9, l10, l11, l12, l13, l14, l15, l16, l17, l18, l19, l20], .int x :: st) y) ∧
  (∀ (l1 l2 l3 l4 l5 l6 l7 l8 l9 l10 l11 l12 l13 l14 l15 l16 l17 l18 l19 l20 : Option Value) (st : List Value) (y : (gy × gy) × Nat) (x : Nat), evm C0 b0 L0 xs0 233 (527, [some (.ref x), l1, l2, l3, l4, l5, l6, l7, l8, l9, l10, l11, l12, l13, l14, l15, l16, l17, l18, l19, l20], st) y = evm C0 b0 L0 xs0 233 (528, [some (.ref x), l1, l2, l3, l4, l5, l6, l7, l8, l9, l10, l11, l12, l13, l14, l15, l16, l17, l18, l19, l20], .ref x :: st) y) ∧
  (∀ (L : ri_L) (st : List Value) (y : (gy × gy) × Nat), evm C0 b0 L0 xs0 233 (528, L, st) y = evm C0 b0 L0 xs0 233 (529, L, .int (Int32.ofInt 4) :: st) y) ∧
  (∀ (l0 l1 l2 l3 l4 l5 l6 l7 l8 l9 l10 l12 l13 l14 l15 l16 l17 l18 l19 l20 : Option Value) (st : List Value) (y : (gy × gy) × Nat) (x : Int32), evm C0 b0 L0 xs0 233 (529, [l0, l1, l2, l3, l4, l5, l6, l7, l8, l9, l10, some (.int x), l12, l13, l14, l15, l16, l17, l18, l19, l20], st) y = evm C0 b0 L0 xs0 233 (531, [l0, l1, l2, l3, l4, l5, l6, l7, l8, l9, l10, some (.int x), l12, l13, l14, l15, l16, l17, l18, l19, l20], .int x :: st) y) ∧
  (∀ (L : ri_L) (st : List Value) (y : (gy × gy) × Nat), evm C0 b0 L0 xs0 233 (531, L, st) y = evm C0 b0 L0 xs0 233 (532, L, .int (Int32.ofInt 5) :: st) y) ∧
  (∀ (L : ri_L) (st : List Value) (y : (gy × gy) × Nat), evm C0 b0 L0 xs0 233 (532, L, st) y = evm C0 b0 L0 xs0 233 (533, L, .int (Int32.ofInt 0) :: st) y) ∧
  (∀ (L : ri_L) (y : (gy × gy) × Nat) (a0 : Nat) (a1 : Int32) (a2 : Int32) (a3 : Int32) (a4 : Int32) (s0 : Value), evm C0 b0 L0 xs0 233 (533, L, [.int a4, .int a3, .int a2, .int a1, .ref a0, s0]) y = lm_n (calm C0 b0 L0 xs0 230 [.ref a0, .int a1, .int a2, .int a3, .int a4] y) fun v y => evm C0 b0 L0 xs0 233 (536, L, [v, s0]) y) ∧
  (∀ (L : ri_L) (st : List Value) (y : (gy × gy) × Nat) (z x : Int32), evm C0 b0 L0 xs0 233 (536, L, .int z :: .int x :: st) y = evm C0 b0 L0 xs0 233 (537, L, .int (x + z) :: st) y) ∧
  (∀ (l0 l1 l2 l3 l4 l5 l6 l7 l8 l9 l10 l11 l12 l13 l14 l15 l16 l17 l18 l19 l20 : Option Value) (st : List Value) (y : (gy × gy) × Nat) (x : Int32), evm C0 b0 L0 xs0 233 (537, [l0, l1, l2, l3, l4, l5, l6, l7, l8, l9, l10, l11, l12, l13, l14, l15, l16, l17, l18, l19, l20], .int x :: st) y = evm C0 b0 L0 xs0 233 (539, [l0, l1, l2, ri_clr l3, some (.int x), l5, l6, l7, l8, l9, l10, l11, l12, l13, l14, l15, l16, l17, l18, l19, l20], st) y) ∧
  (∀ (l0 l1 l2 l3 l4 l6 l7 l8 l9 l10 l11 l12 l13 l14 l15 l16 l17 l18 l19 l20 : Option Value) (st : List Value) (y : (gy × gy) × Nat) (x : Int32), evm C0 b0 L0 xs0 233 (539, [l0, l1, l2, l3, l4, some (.int x), l6, l7, l8, l9, l10, l11, l12, l13, l14, l15, l16, l17, l18, l19, l20], st) y = evm C0 b0 L0 xs0 233 (541, [l0, l1, l2, l3, l4, some (.int x), l6, l7, l8, l9, l10, l11, l12, l13, l14, l15, l16, l17, l18, l19, l20], .int x :: st) y) ∧
  (∀ (l1 l2 l3 l4 l5 l6 l7 l8 l9 l10 l11 l12 l13 l14 l15 l16 l17 l18 l19 l20 : Option Value) (st : List Value) (y : (gy × gy) × Nat) (x : Nat), evm C0 b0 L0 xs0 233 (541, [some (.ref x), l1, l2, l3, l4, l5, l6, l7, l8, l9, l10, l11, l12, l13, l14, l15, l16, l17, l18, l19, l20], st) y = evm C0 b0 L0 xs0 233 (542, [some (.ref x), l1, l2, l3, l4, l5, l6, l7, l8, l9, l10, l11, l12, l13, l14, l15, l16, l17, l18, l19, l20], .ref x :: st) y) ∧
  (∀ (L : ri_L) (st : List Value) (y : (gy × gy) × Nat), evm C0 b0 L0 xs0 233 (542, L, st) y = evm C0 b0 L0 xs0 233 (543, L, .int (Int32.ofInt 4) :: st) y) ∧
  (∀ (l0 l1 l2 l3 l4 l5 l6 l7 l8 l9 l10 l12 l13 l14 l15 l16 l17 l18 l19 l20 : Option Value) (st : List Value) (y : (gy × gy) × Nat) (x : Int32), evm C0 b0 L0 xs0 233 (543, [l0, l1, l2, l3, l4, l5, l6, l7, l8, l9, l10, some (.int x), l12, l13, l14, l15, l16, l17, l18, l19, l20], st) y = evm C0 b0 L0 xs0 233 (545, [l0, l1, l2, l3, l4, l5, l6, l7, l8, l9, l10, some (.int x), l12, l13, l14, l15, l16, l17, l18, l19, l20], .int x :: st) y) ∧
  (∀ (L : ri_L) (st : List Value) (y : (gy × gy) × Nat), evm C0 b0 L0 xs0 233 (545, L, st) y = evm C0 b0 L0 xs0 233 (546, L, .int (Int32.ofInt 4) :: st) y) ∧
  (∀ (L : ri_L) (st : List Value) (y : (gy × gy) × Nat), evm C0 b0 L0 xs0 233 (546, L, st) y = evm C0 b0 L0 xs0 233 (547, L, .int (Int32.ofInt 0) :: st) y) ∧
  (∀ (L : ri_L) (y : (gy × gy) × Nat) (a0 : Nat) (a1 : Int32) (a2 : Int32) (a3 : Int32) (a4 : Int32) (s0 : Value), evm C0 b0 L0 xs0 233 (547, L, [.int a4, .int a3, .int a2, .int a1, .ref a0, s0]) y = lm_n (calm C0 b0 L0 xs0 230 [.ref a0, .int a1, .int a2, .int a3, .int a4] y) fun v y => evm C0 b0 L0 xs0 233 (550, L, [v, s0]) y) ∧
  (∀ (L : ri_L) (st : List Value) (y : (gy × gy) × Nat) (z x : Int32), evm C0 b0 L0 xs0 233 (550, L, .int z :: .int x :: st) y = evm C0 b0 L0 xs0 233 (551, L, .int (x + z) :: st) y) ∧
  (∀ (l0 l1 l2 l3 l4 l5 l6 l7 l8 l9 l10 l11 l12 l13 l14 l15 l16 l17 l18 l19 l20 : Option Value) (st : List Value) (y : (gy × gy) × Nat) (x : Int32), evm C0 b0 L0 xs0 233 (551, [l0, l1, l2, l3, l4, l5, l6, l7, l8, l9, l10, l11, l12, l13, l14, l15, l16, l17, l18, l19, l20], .int x :: st) y = evm C0 b0 L0 xs0 233 (553, [l0, l1, l2, l3, ri_clr l4, some (.int x), l6, l7, l8, l9, l10, l11, l12, l13, l14, l15, l16, l17, l18, l19, l20], st) y) ∧
  (∀ (L : ri_L) (st : List Value) (y : (gy × gy) × Nat), evm C0 b0 L0 xs0 233 (553, L, st) y = evm C0 b0 L0 xs0 233 (554, L, .int (Int32.ofInt 0) :: st) y) ∧
  (∀ (l0 l1 l2 l3 l4 l5 l6 l7 l8 l9 l10 l11 l12 l13 l14 l15 l16 l17 l18 l19 l20 : Option Value) (st : List Value) (y : (gy × gy) × Nat) (x : Int32), evm C0 b0 L0 xs0 233 (554, [l0, l1, l2, l3, l4, l5, l6, l7, l8, l9, l10, l11, l12, l13, l14, l15, l16, l17, l18, l19, l20], .int x :: st) y = evm C0 b0 L0 xs0 233 (556, [l0, l1, l2, l3, l4, l5, l6, l7, l8, l9, l10, l11, ri_clr l12, some (.int x), l14, l15, l16, l17, l18, l19, l20], st) y) ∧
  (∀ (l0 l1 l3 l4 l5 l6 l7 l8 l9 l10 l11 l12 l13 l14 l15 l16 l17 l18 l19 l20 : Option Value) (st : List Value) (y : (gy × gy) × Nat) (x : Int32), evm C0 b0 L0 xs0 233 (558, [l0, l1, some (.int x), l3, l4, l5, l6, l7, l8, l9, l10, l11, l12, l13, l14, l15, l16, l17, l18, l19, l20], st) y = evm C0 b0 L0 xs0 233 (559, [l0, l1, some (.int x), l3, l4, l5, l6, l7, l8, l9, l10, l11, l12, l13, l14, l15, l16, l17, l18, l19, l20], .int x :: st) y) ∧
  (∀ (L : ri_L) (st : List Value) (y : (gy × gy) × Nat) (z x : Int32), evm C0 b0 L0 xs0 233 (559, L, .int z :: .int x :: st) y = if z ≤ x then evm C0 b0 L0 xs0 233 (878, L, st) y else evm C0 b0 L0 xs0 233 (562, L, st) y) ∧
  (∀ (l0 l1 l2 l3 l4 l5 l6 l7 l8 l10 l11 l12 l13 l14 l15 l16 l17 l18 l19 l20 : Option Value) (st : List Value) (y : (gy × gy) × Nat) (x : Int32), evm C0 b0 L0 xs0 233 (562, [l0, l1, l2, l3, l4, l5, l6, l7, l8, some (.int x), l10, l11, l12, l13, l14, l15, l16, l17, l18, l19, l20], st) y = evm C0 b0 L0 xs0 233 (564, [l0, l1, l2, l3, l4, l5, l6, l7, l8, some (.int x), l10, l11, l12, l13, l14, l15, l16, l17, l18, l19, l20], .int x :: st) y) ∧
  (∀ (L : ri_L) (st : List Value) (y : (gy × gy) × Nat) (x : Int32), evm C0 b0 L0 xs0 233 (564, L, .int x :: st) y = if x = 0 then evm C0 b0 L0 xs0 233 (878, L, st) y else evm C0 b0 L0 xs0 233 (567, L, st) y) ∧
  (∀ (l1 l2 l3 l4 l5 l6 l7 l8 l9 l10 l11 l12 l13 l14 l15 l16 l17 l18 l19 l20 : Option Value) (st : List Value) (y : (gy × gy) × Nat) (x : Nat), evm C0 b0 L0 xs0 233 (567, [some (.ref x), l1, l2, l3, l4, l5, l6, l7, l8, l9, l10, l11, l12, l13, l14, l15, l16, l17, l18, l19, l20], st) y = evm C0 b0 L0 xs0 233 (568, [some (.ref x), l1, l2, l3, l4, l5, l6, l7, l8, l9, l10, l11, l12, l13, l14, l15, l16, l17, l18, l19, l20], .ref x :: st) y) ∧
  (∀ (L : ri_L) (st : List Value) (y : (gy × gy) × Nat), evm C0 b0 L0 xs0 233 (568, L, st) y = evm C0 b0 L0 xs0 233 (570, L, .int (Int32.ofInt 15) :: st) y) ∧
  (∀ (l0 l1 l2 l3 l4 l5 l6 l7 l8 l9 l10 l12 l13 l14 l15 l16 l17 l18 l19 l20 : Option Value) (st : List Value) (y : (gy × gy) × Nat) (x : Int32), evm C0 b0 L0 xs0 233 (570, [l0, l1, l2, l3, l4, l5, l6, l7, l8, l9, l10, some (.int x), l12, l13, l14, l15, l16, l17, l18, l19, l20], st) y = evm C0 b0 L0 xs0 233 (572, [l0, l1, l2, l3, l4, l5, l6, l7, l8, l9, l10, some (.int x), l12, l13, l14, l15, l16, l17, l18, l19, l20], .int x :: st) y) ∧
  (∀ (l0 l1 l2 l3 l4 l5 l6 l7 l8 l9 l10 l11 l12 l14 l15 l16 l17 l18 l19 l20 : Option Value) (st : List Value) (y : (gy × gy) × Nat) (x : Int32), evm C0 b0 L0 xs0 233 (572, [l0, l1, l2, l3, l4, l5, l6, l7, l8, l9, l10, l11, l12, some (.int x), l14, l15, l16, l17, l18, l19, l20], st) y = evm C0 b0 L0 xs0 233 (574, [l0, l1, l2, l3, l4, l5, l6, l7, l8, l9, l10, l11, l12, some (.int x), l14, l15, l16, l17, l18, l19, l20], .int x :: st) y) ∧
  (∀ (L : ri_L) (st : List Value) (y : (gy × gy) × Nat), evm C0 b0 L0 xs0 233 (574, L, st) y = evm C0 b0 L0 xs0 233 (575, L, .int (Int32.ofInt 0) :: st) y) :=
  ⟨fun L st y => em_p rfl rfl,
   fun L st y => em_p rfl rfl,
   fun l0 l1 l2 l3 l4 l5 l6 l7 l8 l9 l10 l11 l12 l13 l14 l15 l16 l17 l18 l19 l20 st y x => em_p rfl rfl,
   fun L st y => em_p rfl rfl,
   fun l0 l1 l2 l3 l4 l5 l6 l7 l8 l9 l10 l11 l12 l13 l14 l15 l16 l17 l18 l19 l20 st y x => em_p rfl rfl,
   fun l0 l1 l2 l4 l5 l6 l7 l8 l9 l10 l11 l12 l13 l14 l15 l16 l17 l18 l19 l20 st y x => em_p rfl rfl,
   fun L st y z x => em_b rfl rfl,
   fun l0 l1 l2 l3 l4 l5 l6 l7 l8 l10 l11 l12 l13 l14 l15 l16 l17 l18 l19 l20 st y x => em_p rfl rfl,
   fun L st y x => em_b rfl rfl,
   fun L st y => em_p rfl rfl,
   fun l0 l1 l2 l3 l4 l5 l6 l7 l8 l9 l10 l11 l12 l13 l14 l15 l16 l17 l18 l19 l20 st y x => em_p rfl rfl,
   fun l0 l1 l2 l3 l5 l6 l7 l8 l9 l10 l11 l12 l13 l14 l15 l16 l17 l18 l19 l20 st y x => em_p rfl rfl,
   fun l1 l2 l3 l4 l5 l6 l7 l8 l9 l10 l11 l12 l13 l14 l15 l16 l17 l18 l19 l20 st y x => em_p rfl rfl,
   fun L st y => em_p rfl rfl,
   fun l0 l1 l2 l3 l4 l5 l6 l7 l8 l9 l10 l12 l13 l14 l15 l16 l17 l18 l19 l20 st y x => em_p rfl rfl,
   fun L st y => em_p rfl rfl,
   fun L st y => em_p rfl rfl,
   fun L y a0 a1 a2 a3 a4 s0 => em_call rfl rfl rfl rfl rfl,
   fun L st y z x => em_p rfl rfl,
   fun l0 l1 l2 l3 l4 l5 l6 l7 l8 l9 l10 l11 l12 l13 l14 l15 l16 l17 l18 l19 l20 st y x => em_p rfl rfl,
   fun l0 l1 l2 l3 l4 l6 l7 l8 l9 l10 l11 l12 l13 l14 l15 l16 l17 l18 l19 l20 st y x => em_p rfl rfl,
   fun l1 l2 l3 l4 l5 l6 l7 l8 l9 l10 l11 l12 l13 l14 l15 l16 l17 l18 l19 l20 st y x => em_p rfl rfl,
   fun L st y => em_p rfl rfl,
   fun l0 l1 l2 l3 l4 l5 l6 l7 l8 l9 l10 l12 l13 l14 l15 l16 l17 l18 l19 l20 st y x => em_p rfl rfl,
   fun L st y => em_p rfl rfl,
   fun L st y => em_p rfl rfl,
   fun L y a0 a1 a2 a3 a4 s0 => em_call rfl rfl rfl rfl rfl,
   fun L st y z x => em_p rfl rfl,
   fun l0 l1 l2 l3 l4 l5 l6 l7 l8 l9 l10 l11 l12 l13 l14 l15 l16 l17 l18 l19 l20 st y x => em_p rfl rfl,
   fun L st y => em_p rfl rfl,
   fun l0 l1 l2 l3 l4 l5 l6 l7 l8 l9 l10 l11 l12 l13 l14 l15 l16 l17 l18 l19 l20 st y x => em_p rfl rfl,
   fun l0 l1 l3 l4 l5 l6 l7 l8 l9 l10 l11 l12 l13 l14 l15 l16 l17 l18 l19 l20 st y x => em_p rfl rfl,
   fun L st y z x => em_b rfl rfl,
   fun l0 l1 l2 l3 l4 l5 l6 l7 l8 l10 l11 l12 l13 l14 l15 l16 l17 l18 l19 l20 st y x => em_p rfl rfl,
   fun L st y x => em_b rfl rfl,
   fun l1 l2 l3 l4 l5 l6 l7 l8 l9 l10 l11 l12 l13 l14 l15 l16 l17 l18 l19 l20 st y x => em_p rfl rfl,
   fun L st y => em_p rfl rfl,
   fun l0 l1 l2 l3 l4 l5 l6 l7 l8 l9 l10 l12 l13 l14 l15 l16 l17 l18 l19 l20 st y x => em_p rfl rfl,
   fun l0 l1 l2 l3 l4 l5 l6 l7 l8 l9 l10 l11 l12 l14 l15 l16 l17 l18 l19 l20 st y x => em_p rfl rfl,
   fun L st y => em_p rfl rfl⟩
set_option maxRecDepth 8000 in
theorem L_233_8 :
  (∀ (L : ri_L) (y : (gy × gy) × Nat) (a0 : Nat) (a1 : Int32) (a2 : Int32) (a3 : Int32) (a4 : Int32), evm C0 b0 L0 xs0 233 (575, L, [.int a4, .int a3, .int a2, .int a1, .ref a0]) y = lm_n (calm C0 b0 L0 xs0 230 [.ref a0, .int a1, .int a2, .int a3, .int a4] y) fun v y => evm C0 b0 L0 xs0 233 (578, L, [v]) y) ∧
  (∀ (l0 l1 l2 l3 l4 l5 l6 l7 l8 l9 l10 l11 l12 l13 l14 l15 l16 l17 l18 l19 l20 : Option Value) (st : List Value) (y : (gy × gy) × Nat) (x : Int32), evm C0 b0 L0 xs0 233 (578, [l0, l1, l2, l3, l4, l5, l6, l7, l8, l9, l10, l11, l12, l13, l14, l15, l16, l17, l18, l19, l20], .int x :: st) y = evm C0 b0 L0 xs0 233 (580, [l0, l1, l2, l3, l4, l5, l6, l7, l8, l9, l10, l11, l12, ri_clr l13, some (.int x), l15, l16, l17, l18, l19, l20], st) y) ∧
  (∀ (l1 l2 l3 l4 l5 l6 l7 l8 l9 l10 l11 l12 l13 l14 l15 l16 l17 l18 l19 l20 : Option Value) (st : List Value) (y : (gy × gy) × Nat) (x : Nat), evm C0 b0 L0 xs0 233 (580, [some (.ref x), l1, l2, l3, l4, l5, l6, l7, l8, l9, l10, l11, l12, l13, l14, l15, l16, l17, l18, l19, l20], st) y = evm C0 b0 L0 xs0 233 (581, [some (.ref x), l1, l2, l3, l4, l5, l6, l7, l8, l9, l10, l11, l12, l13, l14, l15, l16, l17, l18, l19, l20], .ref x :: st) y) ∧
  (∀ (L : ri_L) (st : List Value) (y : (gy × gy) × Nat), evm C0 b0 L0 xs0 233 (581, L, st) y = evm C0 b0 L0 xs0 233 (582, L, .int (Int32.ofInt 5) :: st) y) ∧
  (∀ (l0 l1 l2 l3 l4 l5 l6 l7 l8 l9 l10 l11 l12 l14 l15 l16 l17 l18 l19 l20 : Option Value) (st : List Value) (y : (gy × gy) × Nat) (x : Int32), evm C0 b0 L0 xs0 233 (582, [l0, l1, l2, l3, l4, l5, l6, l7, l8, l9, l10, l11, l12, some (.int x), l14, l15, l16, l17, l18, l19, l20], st) y = evm C0 b0 L0 xs0 233 (584, [l0, l1, l2, l3, l4, l5, l6, l7, l8, l9, l10, l11, l12, some (.int x), l14, l15, l16, l17, l18, l19, l20], .int x :: st) y) ∧
  (∀ (L : ri_L) (st : List Value) (y : (gy × gy) × Nat), evm C0 b0 L0 xs0 233 (584, L, st) y = evm C0 b0 L0 xs0 233 (585, L, .int (Int32.ofInt 0) :: st) y) ∧
  (∀ (L : ri_L) (st : List Value) (y : (gy × gy) × Nat), evm C0 b0 L0 xs0 233 (585, L, st) y = evm C0 b0 L0 xs0 233 (586, L, .int (Int32.ofInt 0) :: st) y) ∧
  (∀ (L : ri_L) (y : (gy × gy) × Nat) (a0 : Nat) (a1 : Int32) (a2 : Int32) (a3 : Int32) (a4 : Int32), evm C0 b0 L0 xs0 233 (586, L, [.int a4, .int a3, .int a2, .int a1, .ref a0]) y = lm_n (calm C0 b0 L0 xs0 230 [.ref a0, .int a1, .int a2, .int a3, .int a4] y) fun v y => evm C0 b0 L0 xs0 233 (589, L, [v]) y) ∧
  (∀ (l1 l2 l3 l4 l5 l6 l7 l8 l9 l10 l11 l12 l13 l14 l15 l16 l17 l18 l19 l20 : Option Value) (st : List Value) (y : (gy × gy) × Nat) (x : Nat), evm C0 b0 L0 xs0 233 (589, [some (.ref x), l1, l2, l3, l4, l5, l6, l7, l8, l9, l10, l11, l12, l13, l14, l15, l16, l17, l18, l19, l20], st) y = evm C0 b0 L0 xs0 233 (590, [some (.ref x), l1, l2, l3, l4, l5, l6, l7, l8, l9, l10, l11, l12, l13, l14, l15, l16, l17, l18, l19, l20], .ref x :: st) y) ∧
  (∀ (L : ri_L) (st : List Value) (y : (gy × gy) × Nat), evm C0 b0 L0 xs0 233 (590, L, st) y = evm C0 b0 L0 xs0 233 (591, L, .int (Int32.ofInt 4) :: st) y) ∧
  (∀ (l0 l1 l2 l3 l4 l5 l6 l7 l8 l9 l10 l12 l13 l14 l15 l16 l17 l18 l19 l20 : Option Value) (st : List Value) (y : (gy × gy) × Nat) (x : Int32), evm C0 b0 L0 xs0 233 (591, [l0, l1, l2, l3, l4, l5, l6, l7, l8, l9, l10, some (.int x), l12, l13, l14, l15, l16, l17, l18, l19, l20], st) y = evm C0 b0 L0 xs0 233 (593, [l0, l1, l2, l3, l4, l5, l6, l7, l8, l9, l10, some (.int x), l12, l13, l14, l15, l16, l17, l18, l19, l20], .int x :: st) y) ∧
  (∀ (L : ri_L) (st : List Value) (y : (gy × gy) × Nat), evm C0 b0 L0 xs0 233 (593, L, st) y = evm C0 b0 L0 xs0 233 (594, L, .int (Int32.ofInt 1) :: st) y) ∧
  (∀ (L : ri_L) (st : List Value) (y : (gy × gy) × Nat), evm C0 b0 L0 xs0 233 (594, L, st) y = evm C0 b0 L0 xs0 233 (595, L, .int (Int32.ofInt 0) :: st) y) ∧
  (∀ (L : ri_L) (y : (gy × gy) × Nat) (a0 : Nat) (a1 : Int32) (a2 : Int32) (a3 : Int32) (a4 : Int32) (s0 : Value), evm C0 b0 L0 xs0 233 (595, L, [.int a4, .int a3, .int a2, .int a1, .ref a0, s0]) y = lm_n (calm C0 b0 L0 xs0 230 [.ref a0, .int a1, .int a2, .int a3, .int a4] y) fun v y => evm C0 b0 L0 xs0 233 (598, L, [v, s0]) y) ∧
  (∀ (L : ri_L) (st : List Value) (y : (gy × gy) × Nat) (z x : Int32), evm C0 b0 L0 xs0 233 (598, L, .int z :: .int x :: st) y = if ¬ x = z then evm C0 b0 L0 xs0 233 (626, L, st) y else evm C0 b0 L0 xs0 233 (601, L, st) y) ∧
  (∀ (l1 l2 l3 l4 l5 l6 l7 l8 l9 l10 l11 l12 l13 l14 l15 l16 l17 l18 l19 l20 : Option Value) (st : List Value) (y : (gy × gy) × Nat) (x : Nat), evm C0 b0 L0 xs0 233 (601, [some (.ref x), l1, l2, l3, l4, l5, l6, l7, l8, l9, l10, l11, l12, l13, l14, l15, l16, l17, l18, l19, l20], st) y = evm C0 b0 L0 xs0 233 (602, [some (.ref x), l1, l2, l3, l4, l5, l6, l7, l8, l9, l10, l11, l12, l13, l14, l15, l16, l17, l18, l19, l20], .ref x :: st) y) ∧
  (∀ (L : ri_L) (st : List Value) (y : (gy × gy) × Nat), evm C0 b0 L0 xs0 233 (602, L, st) y = evm C0 b0 L0 xs0 233 (603, L, .int (Int32.ofInt 5) :: st) y) ∧
  (∀ (l0 l1 l2 l3 l4 l5 l6 l7 l8 l9 l10 l11 l12 l14 l15 l16 l17 l18 l19 l20 : Option Value) (st : List Value) (y : (gy × gy) × Nat) (x : Int32), evm C0 b0 L0 xs0 233 (603, [l0, l1, l2, l3, l4, l5, l6, l7, l8, l9, l10, l11, l12, some (.int x), l14, l15, l16, l17, l18, l19, l20], st) y = evm C0 b0 L0 xs0 233 (605, [l0, l1, l2, l3, l4, l5, l6, l7, l8, l9, l10, l11, l12, some (.int x), l14, l15, l16, l17, l18, l19, l20], .int x :: st) y) ∧
  (∀ (L : ri_L) (st : List Value) (y : (gy × gy) × Nat), evm C0 b0 L0 xs0 233 (605, L, st) y = evm C0 b0 L0 xs0 233 (606, L, .int (Int32.ofInt 1) :: st) y) ∧
  (∀ (L : ri_L) (st : List Value) (y : (gy × gy) × Nat), evm C0 b0 L0 xs0 233 (606, L, st) y = evm C0 b0 L0 xs0 233 (607, L, .int (Int32.ofInt 0) :: st) y) ∧
  (∀ (L : ri_L) (y : (gy × gy) × Nat) (a0 : Nat) (a1 : Int32) (a2 : Int32) (a3 : Int32) (a4 : Int32), evm C0 b0 L0 xs0 233 (607, L, [.int a4, .int a3, .int a2, .int a1, .ref a0]) y = lm_n (calm C0 b0 L0 xs0 230 [.ref a0, .int a1, .int a2, .int a3, .int a4] y) fun v y => evm C0 b0 L0 xs0 233 (610, L, [v]) y) ∧
  (∀ (l1 l2 l3 l4 l5 l6 l7 l8 l9 l10 l11 l12 l13 l14 l15 l16 l17 l18 l19 l20 : Option Value) (st : List Value) (y : (gy × gy) × Nat) (x : Nat), evm C0 b0 L0 xs0 233 (610, [some (.ref x), l1, l2, l3, l4, l5, l6, l7, l8, l9, l10, l11, l12, l13, l14, l15, l16, l17, l18, l19, l20], st) y = evm C0 b0 L0 xs0 233 (611, [some (.ref x), l1, l2, l3, l4, l5, l6, l7, l8, l9, l10, l11, l12, l13, l14, l15, l16, l17, l18, l19, l20], .ref x :: st) y) ∧
  (∀ (L : ri_L) (st : List Value) (y : (gy × gy) × Nat), evm C0 b0 L0 xs0 233 (611, L, st) y = evm C0 b0 L0 xs0 233 (612, L, .int (Int32.ofInt 4) :: st) y) ∧
  (∀ (l0 l1 l2 l3 l4 l5 l6 l7 l8 l9 l10 l12 l13 l14 l15 l16 l17 l18 l19 l20 : Option Value) (st : List Value) (y : (gy × gy) × Nat) (x : Int32), evm C0 b0 L0 xs0 233 (612, [l0, l1, l2, l3, l4, l5, l6, l7, l8, l9, l10, some (.int x), l12, l13, l14, l15, l16, l17, l18, l19, l20], st) y = evm C0 b0 L0 xs0 233 (614, [l0, l1, l2, l3, l4, l5, l6, l7, l8, l9, l10, some (.int x), l12, l13, l14, l15, l16, l17, l18, l19, l20], .int x :: st) y) ∧
  (∀ (L : ri_L) (st : List Value) (y : (gy × gy) × Nat), evm C0 b0 L0 xs0 233 (614, L, st) y = evm C0 b0 L0 xs0 233 (615, L, .int (Int32.ofInt 3) :: st) y) ∧
  (∀ (L : ri_L) (st : List Value) (y : (gy × gy) × Nat), evm C0 b0 L0 xs0 233 (615, L, st) y = evm C0 b0 L0 xs0 233 (616, L, .int (Int32.ofInt 0) :: st) y) ∧
  (∀ (L : ri_L) (y : (gy × gy) × Nat) (a0 : Nat) (a1 : Int32) (a2 : Int32) (a3 : Int32) (a4 : Int32) (s0 : Value), evm C0 b0 L0 xs0 233 (616, L, [.int a4, .int a3, .int a2, .int a1, .ref a0, s0]) y = lm_n (calm C0 b0 L0 xs0 230 [.ref a0, .int a1, .int a2, .int a3, .int a4] y) fun v y => evm C0 b0 L0 xs0 233 (619, L, [v, s0]) y) ∧
  (∀ (L : ri_L) (st : List Value) (y : (gy × gy) × Nat) (z x : Int32), evm C0 b0 L0 xs0 233 (619, L, .int z :: .int x :: st) y = if ¬ x = z then evm C0 b0 L0 xs0 233 (626, L, st) y else evm C0 b0 L0 xs0 233 (622, L, st) y) ∧
  (∀ (L : ri_L) (st : List Value) (y : (gy × gy) × Nat), evm C0 b0 L0 xs0 233 (622, L, st) y = evm C0 b0 L0 xs0 233 (623, L, .int (Int32.ofInt 2) :: st) y) ∧
  (∀ (L : ri_L) (st : List Value) (y : (gy × gy) × Nat), evm C0 b0 L0 xs0 233 (623, L, st) y = evm C0 b0 L0 xs0 233 (673, L, st) y) ∧
  (∀ (l1 l2 l3 l4 l5 l6 l7 l8 l9 l10 l11 l12 l13 l14 l15 l16 l17 l18 l19 l20 : Option Value) (st : List Value) (y : (gy × gy) × Nat) (x : Nat), evm C0 b0 L0 xs0 233 (626, [some (.ref x), l1, l2, l3, l4, l5, l6, l7, l8, l9, l10, l11, l12, l13, l14, l15, l16, l17, l18, l19, l20], st) y = evm C0 b0 L0 xs0 233 (627, [some (.ref x), l1, l2, l3, l4, l5, l6, l7, l8, l9, l10, l11, l12, l13, l14, l15, l16, l17, l18, l19, l20], .ref x :: st) y) ∧
  (∀ (L : ri_L) (st : List Value) (y : (gy × gy) × Nat), evm C0 b0 L0 xs0 233 (627, L, st) y = evm C0 b0 L0 xs0 233 (628, L, .int (Int32.ofInt 5) :: st) y) ∧
  (∀ (l0 l1 l2 l3 l4 l5 l6 l7 l8 l9 l10 l11 l12 l14 l15 l16 l17 l18 l19 l20 : Option Value) (st : List Value) (y : (gy × gy) × Nat) (x : Int32), evm C0 b0 L0 xs0 233 (628, [l0, l1, l2, l3, l4, l5, l6, l7, l8, l9, l10, l11, l12, some (.int x), l14, l15, l16, l17, l18, l19, l20], st) y = evm C0 b0 L0 xs0 233 (630, [l0, l1, l2, l3, l4, l5, l6, l7, l8, l9, l10, l11, l12, some (.int x), l14, l15, l16, l17, l18, l19, l20], .int x :: st) y) ∧
  (∀ (L : ri_L) (st : List Value) (y : (gy × gy) × Nat), evm C0 b0 L0 xs0 233 (630, L, st) y = evm C0 b0 L0 xs0 233 (631, L, .int (Int32.ofInt 2) :: st) y) ∧
  (∀ (L : ri_L) (st : List Value) (y : (gy × gy) × Nat), evm C0 b0 L0 xs0 233 (631, L, st) y = evm C0 b0 L0 xs0 233 (632, L, .int (Int32.ofInt 0) :: st) y) ∧
  (∀ (L : ri_L) (y : (gy × gy) × Nat) (a0 : Nat) (a1 : Int32) (a2 : Int32) (a3 : Int32) (a4 : Int32), evm C0 b0 L0 xs0 233 (632, L, [.int a4, .int a3, .int a2, .int a1, .ref a0]) y = lm_n (calm C0 b0 L0 xs0 230 [.ref a0, .int a1, .int a2, .int a3, .int a4] y) fun v y => evm C0 b0 L0 xs0 233 (635, L, [v]) y) ∧
  (∀ (l1 l2 l3 l4 l5 l6 l7 l8 l9 l10 l11 l12 l13 l14 l15 l16 l17 l18 l19 l20 : Option Value) (st : List Value) (y : (gy × gy) × Nat) (x : Nat), evm C0 b0 L0 xs0 233 (635, [some (.ref x), l1, l2, l3, l4, l5, l6, l7, l8, l9, l10, l11, l12, l13, l14, l15, l16, l17, l18, l19, l20], st) y = evm C0 b0 L0 xs0 233 (636, [some (.ref x), l1, l2, l3, l4, l5, l6, l7, l8, l9, l10, l11, l12, l13, l14, l15, l16, l17, l18, l19, l20], .ref x :: st) y) ∧
  (∀ (L : ri_L) (st : List Value) (y : (gy × gy) × Nat), evm C0 b0 L0 xs0 233 (636, L, st) y = evm C0 b0 L0 xs0 233 (637, L, .int (Int32.ofInt 4) :: st) y) ∧
  (∀ (l0 l1 l2 l3 l4 l5 l6 l7 l8 l9 l10 l12 l13 l14 l15 l16 l17 l18 l19 l20 : Option Value) (st : List Value) (y : (gy × gy) × Nat) (x : Int32), evm C0 b0 L0 xs0 233 (637, [l0, l1, l2, l3, l4, l5, l6, l7, l8, l9, l10, some (.int x), l12, l13, l14, l15, l16, l17, l18, l19, l20], st) y = evm C0 b0 L0 xs0 233 (639, [l0, l1, l2, l3, l4, l5, l6, l7, l8, l9, l10, some (.int x), l12, l13, l14, l15, l16, l17, l18, l19, l20], .int x :: st) y) ∧
  (∀ (L : ri_L) (st : List Value) (y : (gy × gy) × Nat), evm C0 b0 L0 xs0 233 (639, L, st) y = evm C0 b0 L0 xs0 233 (640, L, .int (Int32.ofInt 1) :: st) y) :=
  ⟨fun L y a0 a1 a2 a3 a4 => em_call rfl rfl rfl rfl rfl,
   fun l0 l1 l2 l3 l4 l5 l6 l7 l8 l9 l10 l11 l12 l13 l14 l15 l16 l17 l18 l19 l20 st y x => em_p rfl rfl,
   fun l1 l2 l3 l4 l5 l6 l7 l8 l9 l10 l11 l12 l13 l14 l15 l16 l17 l18 l19 l20 st y x => em_p rfl rfl,
   fun L st y => em_p rfl rfl,
   fun l0 l1 l2 l3 l4 l5 l6 l7 l8 l9 l10 l11 l12 l14 l15 l16 l17 l18 l19 l20 st y x => em_p rfl rfl,
   fun L st y => em_p rfl rfl,
   fun L st y => em_p rfl rfl,
   fun L y a0 a1 a2 a3 a4 => em_call rfl rfl rfl rfl rfl,
   fun l1 l2 l3 l4 l5 l6 l7 l8 l9 l10 l11 l12 l13 l14 l15 l16 l17 l18 l19 l20 st y x => em_p rfl rfl,
   fun L st y => em_p rfl rfl,
   fun l0 l1 l2 l3 l4 l5 l6 l7 l8 l9 l10 l12 l13 l14 l15 l16 l17 l18 l19 l20 st y x => em_p rfl rfl,
   fun L st y => em_p rfl rfl,
   fun L st y => em_p rfl rfl,
   fun L y a0 a1 a2 a3 a4 s0 => em_call rfl rfl rfl rfl rfl,
   fun L st y z x => em_b rfl rfl,
   fun l1 l2 l3 l4 l5 l6 l7 l8 l9 l10 l11 l12 l13 l14 l15 l16 l17 l18 l19 l20 st y x => em_p rfl rfl,
   fun L st y => em_p rfl rfl,
   fun l0 l1 l2 l3 l4 l5 l6 l7 l8 l9 l10 l11 l12 l14 l15 l16 l17 l18 l19 l20 st y x => em_p rfl rfl,
   fun L st y => em_p rfl rfl,
   fun L st y => em_p rfl rfl,
   fun L y a0 a1 a2 a3 a4 => em_call rfl rfl rfl rfl rfl,
   fun l1 l2 l3 l4 l5 l6 l7 l8 l9 l10 l11 l12 l13 l14 l15 l16 l17 l18 l19 l20 st y x => em_p rfl rfl,
   fun L st y => em_p rfl rfl,
   fun l0 l1 l2 l3 l4 l5 l6 l7 l8 l9 l10 l12 l13 l14 l15 l16 l17 l18 l19 l20 st y x => em_p rfl rfl,
   fun L st y => em_p rfl rfl,
   fun L st y => em_p rfl rfl,
   fun L y a0 a1 a2 a3 a4 s0 => em_call rfl rfl rfl rfl rfl,
   fun L st y z x => em_b rfl rfl,
   fun L st y => em_p rfl rfl,
   fun L st y => em_p rfl rfl,
   fun l1 l2 l3 l4 l5 l6 l7 l8 l9 l10 l11 l12 l13 l14 l15 l16 l17 l18 l19 l20 st y x => em_p rfl rfl,
   fun L st y => em_p rfl rfl,
   fun l0 l1 l2 l3 l4 l5 l6 l7 l8 l9 l10 l11 l12 l14 l15 l16 l17 l18 l19 l20 st y x => em_p rfl rfl,
   fun L st y => em_p rfl rfl,
   fun L st y => em_p rfl rfl,
   fun L y a0 a1 a2 a3 a4 => em_call rfl rfl rfl rfl rfl,
   fun l1 l2 l3 l4 l5 l6 l7 l8 l9 l10 l11 l12 l13 l14 l15 l16 l17 l18 l19 l20 st y x => em_p rfl rfl,
   fun L st y => em_p rfl rfl,
   fun l0 l1 l2 l3 l4 l5 l6 l7 l8 l9 l10 l12 l13 l14 l15 l16 l17 l18 l19 l20 st y x => em_p rfl rfl,
   fun L st y => em_p rfl rfl⟩
set_option maxRecDepth 8000 in
theorem L_233_9 :
  (∀ (L : ri_L) (st : List Value) (y : (gy × gy) × Nat), evm C0 b0 L0 xs0 233 (640, L, st) y = evm C0 b0 L0 xs0 233 (641, L, .int (Int32.ofInt 0) :: st) y) ∧
  (∀ (L : ri_L) (y : (gy × gy) × Nat) (a0 : Nat) (a1 : Int32) (a2 : Int32) (a3 : Int32) (a4 : Int32) (s0 : Value), evm C0 b0 L0 xs0 233 (641, L, [.int a4, .int a3, .int a2, .int a1, .ref a0, s0]) y = lm_n (calm C0 b0 L0 xs0 230 [.ref a0, .int a1, .int a2, .int a3, .int a4] y) fun v y => evm C0 b0 L0 xs0 233 (644, L, [v, s0]) y) ∧
  (∀ (L : ri_L) (st : List Value) (y : (gy × gy) × Nat) (z x : Int32), evm C0 b0 L0 xs0 233 (644, L, .int z :: .int x :: st) y = if ¬ x = z then evm C0 b0 L0 xs0 233 (672, L, st) y else evm C0 b0 L0 xs0 233 (647, L, st) y) ∧
  (∀ (l1 l2 l3 l4 l5 l6 l7 l8 l9 l10 l11 l12 l13 l14 l15 l16 l17 l18 l19 l20 : Option Value) (st : List Value) (y : (gy × gy) × Nat) (x : Nat), evm C0 b0 L0 xs0 233 (647, [some (.ref x), l1, l2, l3, l4, l5, l6, l7, l8, l9, l10, l11, l12, l13, l14, l15, l16, l17, l18, l19, l20], st) y = evm C0 b0 L0 xs0 233 (648, [some (.ref x), l1, l2, l3, l4, l5, l6, l7, l8, l9, l10, l11, l12, l13, l14, l15, l16, l17, l18, l19, l20], .ref x :: st) y) ∧
  (∀ (L : ri_L) (st : List Value) (y : (gy × gy) × Nat), evm C0 b0 L0 xs0 233 (648, L, st) y = evm C0 b0 L0 xs0 233 (649, L, .int (Int32.ofInt 5) :: st) y) ∧
  (∀ (l0 l1 l2 l3 l4 l5 l6 l7 l8 l9 l10 l11 l12 l14 l15 l16 l17 l18 l19 l20 : Option Value) (st : List Value) (y : (gy × gy) × Nat) (x : Int32), evm C0 b0 L0 xs0 233 (649, [l0, l1, l2, l3, l4, l5, l6, l7, l8, l9, l10, l11, l12, some (.int x), l14, l15, l16, l17, l18, l19, l20], st) y = evm C0 b0 L0 xs0 233 (651, [l0, l1, l2, l3, l4, l5, l6, l7, l8, l9, l10, l11, l12, some (.int x), l14, l15, l16, l17, l18, l19, l20], .int x :: st) y) ∧
  (∀ (L : ri_L) (st : List Value) (y : (gy × gy) × Nat), evm C0 b0 L0 xs0 233 (651, L, st) y = evm C0 b0 L0 xs0 233 (652, L, .int (Int32.ofInt 3) :: st) y) ∧
  (∀ (L : ri_L) (st : List Value) (y : (gy × gy) × Nat), evm C0 b0 L0 xs0 233 (652, L, st) y = evm C0 b0 L0 xs0 233 (653, L, .int (Int32.ofInt 0) :: st) y) ∧
  (∀ (L : ri_L) (y : (gy × gy) × Nat) (a0 : Nat) (a1 : Int32) (a2 : Int32) (a3 : Int32) (a4 : Int32), evm C0 b0 L0 xs0 233 (653, L, [.int a4, .int a3, .int a2, .int a1, .ref a0]) y = lm_n (calm C0 b0 L0 xs0 230 [.ref a0, .int a1, .int a2, .int a3, .int a4] y) fun v y => evm C0 b0 L0 xs0 233 (656, L, [v]) y) ∧
  (∀ (l1 l2 l3 l4 l5 l6 l7 l8 l9 l10 l11 l12 l13 l14 l15 l16 l17 l18 l19 l20 : Option Value) (st : List Value) (y : (gy × gy) × Nat) (x : Nat), evm C0 b0 L0 xs0 233 (656, [some (.ref x), l1, l2, l3, l4, l5, l6, l7, l8, l9, l10, l11, l12, l13, l14, l15, l16, l17, l18, l19, l20], st) y = evm C0 b0 L0 xs0 233 (657, [some (.ref x), l1, l2, l3, l4, l5, l6, l7, l8, l9, l10, l11, l12, l13, l14, l15, l16, l17, l18, l19, l20], .ref x :: st) y) ∧
  (∀ (L : ri_L) (st : List Value) (y : (gy × gy) × Nat), evm C0 b0 L0 xs0 233 (657, L, st) y = evm C0 b0 L0 xs0 233 (658, L, .int (Int32.ofInt 4) :: st) y) ∧
  (∀ (l0 l1 l2 l3 l4 l5 l6 l7 l8 l9 l10 l12 l13 l14 l15 l16 l17 l18 l19 l20 : Option Value) (st : List Value) (y : (gy × gy) × Nat) (x : Int32), evm C0 b0 L0 xs0 233 (658, [l0, l1, l2, l3, l4, l5, l6, l7, l8, l9, l10, some (.int x), l12, l13, l14, l15, l16, l17, l18, l19, l20], st) y = evm C0 b0 L0 xs0 233 (660, [l0, l1, l2, l3, l4, l5, l6, l7, l8, l9, l10, some (.int x), l12, l13, l14, l15, l16, l17, l18, l19, l20], .int x :: st) y) ∧
  (∀ (L : ri_L) (st : List Value) (y : (gy × gy) × Nat), evm C0 b0 L0 xs0 233 (660, L, st) y = evm C0 b0 L0 xs0 233 (661, L, .int (Int32.ofInt 3) :: st) y) ∧
  (∀ (L : ri_L) (st : List Value) (y : (gy × gy) × Nat), evm C0 b0 L0 xs0 233 (661, L, st) y = evm C0 b0 L0 xs0 233 (662, L, .int (Int32.ofInt 0) :: st) y) ∧
  (∀ (L : ri_L) (y : (gy × gy) × Nat) (a0 : Nat) (a1 : Int32) (a2 : Int32) (a3 : Int32) (a4 : Int32) (s0 : Value), evm C0 b0 L0 xs0 233 (662, L, [.int a4, .int a3, .int a2, .int a1, .ref a0, s0]) y = lm_n (calm C0 b0 L0 xs0 230 [.ref a0, .int a1, .int a2, .int a3, .int a4] y) fun v y => evm C0 b0 L0 xs0 233 (665, L, [v, s0]) y) ∧
  (∀ (L : ri_L) (st : List Value) (y : (gy × gy) × Nat) (z x : Int32), evm C0 b0 L0 xs0 233 (665, L, .int z :: .int x :: st) y = if ¬ x = z then evm C0 b0 L0 xs0 233 (672, L, st) y else evm C0 b0 L0 xs0 233 (668, L, st) y) ∧
  (∀ (L : ri_L) (st : List Value) (y : (gy × gy) × Nat), evm C0 b0 L0 xs0 233 (668, L, st) y = evm C0 b0 L0 xs0 233 (669, L, .int (Int32.ofInt 0) :: st) y) ∧
  (∀ (L : ri_L) (st : List Value) (y : (gy × gy) × Nat), evm C0 b0 L0 xs0 233 (669, L, st) y = evm C0 b0 L0 xs0 233 (673, L, st) y) ∧
  (∀ (L : ri_L) (st : List Value) (y : (gy × gy) × Nat), evm C0 b0 L0 xs0 233 (672, L, st) y = evm C0 b0 L0 xs0 233 (673, L, .int (Int32.ofInt (-1)) :: st) y) ∧
  (∀ (l0 l1 l2 l3 l4 l5 l6 l7 l8 l9 l10 l11 l12 l13 l14 l15 l16 l17 l18 l19 l20 : Option Value) (st : List Value) (y : (gy × gy) × Nat) (x : Int32), evm C0 b0 L0 xs0 233 (673, [l0, l1, l2, l3, l4, l5, l6, l7, l8, l9, l10, l11, l12, l13, l14, l15, l16, l17, l18, l19, l20], .int x :: st) y = evm C0 b0 L0 xs0 233 (675, [l0, l1, l2, l3, l4, l5, l6, l7, l8, l9, l10, l11, l12, l13, ri_clr l14, some (.int x), l16, l17, l18, l19, l20], st) y) ∧
  (∀ (l0 l1 l2 l3 l4 l5 l6 l7 l8 l9 l10 l11 l13 l14 l15 l16 l17 l18 l19 l20 : Option Value) (st : List Value) (y : (gy × gy) × Nat) (x : Int32), evm C0 b0 L0 xs0 233 (675, [l0, l1, l2, l3, l4, l5, l6, l7, l8, l9, l10, l11, some (.int x), l13, l14, l15, l16, l17, l18, l19, l20], st) y = evm C0 b0 L0 xs0 233 (677, [l0, l1, l2, l3, l4, l5, l6, l7, l8, l9, l10, l11, some (.int x), l13, l14, l15, l16, l17, l18, l19, l20], .int x :: st) y) ∧
  (∀ (L : ri_L) (st : List Value) (y : (gy × gy) × Nat) (x : Int32), evm C0 b0 L0 xs0 233 (677, L, .int x :: st) y = if ¬ x = 0 then evm C0 b0 L0 xs0 233 (685, L, st) y else evm C0 b0 L0 xs0 233 (680, L, st) y) ∧
  (∀ (l0 l1 l2 l3 l4 l5 l6 l7 l8 l9 l10 l11 l12 l13 l15 l16 l17 l18 l19 l20 : Option Value) (st : List Value) (y : (gy × gy) × Nat) (x : Int32), evm C0 b0 L0 xs0 233 (680, [l0, l1, l2, l3, l4, l5, l6, l7, l8, l9, l10, l11, l12, l13, some (.int x), l15, l16, l17, l18, l19, l20], st) y = evm C0 b0 L0 xs0 233 (682, [l0, l1, l2, l3, l4, l5, l6, l7, l8, l9, l10, l11, l12, l13, some (.int x), l15, l16, l17, l18, l19, l20], .int x :: st) y) ∧
  (∀ (L : ri_L) (st : List Value) (y : (gy × gy) × Nat) (x : Int32), evm C0 b0 L0 xs0 233 (682, L, .int x :: st) y = if ¬ x = 0 then evm C0 b0 L0 xs0 233 (689, L, st) y else evm C0 b0 L0 xs0 233 (685, L, st) y) ∧
  (∀ (L : ri_L) (st : List Value) (y : (gy × gy) × Nat), evm C0 b0 L0 xs0 233 (685, L, st) y = evm C0 b0 L0 xs0 233 (686, L, .int (Int32.ofInt 1) :: st) y) ∧
  (∀ (L : ri_L) (st : List Value) (y : (gy × gy) × Nat), evm C0 b0 L0 xs0 233 (686, L, st) y = evm C0 b0 L0 xs0 233 (690, L, st) y) ∧
  (∀ (L : ri_L) (st : List Value) (y : (gy × gy) × Nat), evm C0 b0 L0 xs0 233 (689, L, st) y = evm C0 b0 L0 xs0 233 (690, L, .int (Int32.ofInt 0) :: st) y) ∧
  (∀ (l0 l1 l2 l3 l4 l5 l6 l7 l8 l9 l10 l11 l12 l13 l14 l15 l16 l17 l18 l19 l20 : Option Value) (st : List Value) (y : (gy × gy) × Nat) (x : Int32), evm C0 b0 L0 xs0 233 (690, [l0, l1, l2, l3, l4, l5, l6, l7, l8, l9, l10, l11, l12, l13, l14, l15, l16, l17, l18, l19, l20], .int x :: st) y = evm C0 b0 L0 xs0 233 (692, [l0, l1, l2, l3, l4, l5, l6, l7, l8, l9, l10, ri_clr l11, some (.int x), l13, l14, l15, l16, l17, l18, l19, l20], st) y) ∧
  (∀ (l0 l1 l2 l3 l4 l5 l6 l7 l8 l9 l10 l11 l12 l13 l15 l16 l17 l18 l19 l20 : Option Value) (st : List Value) (y : (gy × gy) × Nat) (x : Int32), evm C0 b0 L0 xs0 233 (692, [l0, l1, l2, l3, l4, l5, l6, l7, l8, l9, l10, l11, l12, l13, some (.int x), l15, l16, l17, l18, l19, l20], st) y = evm C0 b0 L0 xs0 233 (694, [l0, l1, l2, l3, l4, l5, l6, l7, l8, l9, l10, l11, l12, l13, some (.int x), l15, l16, l17, l18, l19, l20], .int x :: st) y) ∧
  (∀ (L : ri_L) (st : List Value) (y : (gy × gy) × Nat) (x : Int32), evm C0 b0 L0 xs0 233 (694, L, .int x :: st) y = if x < 0 then evm C0 b0 L0 xs0 233 (753, L, st) y else evm C0 b0 L0 xs0 233 (697, L, st) y) ∧
  (∀ (l0 l1 l2 l3 l4 l5 l6 l7 l8 l9 l10 l11 l12 l13 l15 l16 l17 l18 l19 l20 : Option Value) (st : List Value) (y : (gy × gy) × Nat) (x : Int32), evm C0 b0 L0 xs0 233 (697, [l0, l1, l2, l3, l4, l5, l6, l7, l8, l9, l10, l11, l12, l13, some (.int x), l15, l16, l17, l18, l19, l20], st) y = evm C0 b0 L0 xs0 233 (699, [l0, l1, l2, l3, l4, l5, l6, l7, l8, l9, l10, l11, l12, l13, some (.int x), l15, l16, l17, l18, l19, l20], .int x :: st) y) ∧
  (∀ (L : ri_L) (st : List Value) (y : (gy × gy) × Nat), evm C0 b0 L0 xs0 233 (699, L, st) y = evm C0 b0 L0 xs0 233 (700, L, .int (Int32.ofInt 4) :: st) y) ∧
  (∀ (L : ri_L) (st : List Value) (y : (gy × gy) × Nat) (z x : Int32), evm C0 b0 L0 xs0 233 (700, L, .int z :: .int x :: st) y = if z ≤ x then evm C0 b0 L0 xs0 233 (753, L, st) y else evm C0 b0 L0 xs0 233 (703, L, st) y) ∧
  (∀ (l0 l1 l2 l3 l4 l5 l6 l7 l8 l9 l10 l11 l12 l13 l15 l16 l17 l18 l19 l20 : Option Value) (st : List Value) (y : (gy × gy) × Nat) (x : Int32), evm C0 b0 L0 xs0 233 (703, [l0, l1, l2, l3, l4, l5, l6, l7, l8, l9, l10, l11, l12, l13, some (.int x), l15, l16, l17, l18, l19, l20], st) y = evm C0 b0 L0 xs0 233 (705, [l0, l1, l2, l3, l4, l5, l6, l7, l8, l9, l10, l11, l12, l13, some (.int x), l15, l16, l17, l18, l19, l20], .int x :: st) y) ∧
  (∀ (L : ri_L) (st : List Value) (y : (gy × gy) × Nat), evm C0 b0 L0 xs0 233 (705, L, st) y = evm C0 b0 L0 xs0 233 (706, L, .int (Int32.ofInt 1) :: st) y) ∧
  (∀ (L : ri_L) (st : List Value) (y : (gy × gy) × Nat) (z x : Int32), evm C0 b0 L0 xs0 233 (706, L, .int z :: .int x :: st) y = if ¬ x = z then evm C0 b0 L0 xs0 233 (713, L, st) y else evm C0 b0 L0 xs0 233 (709, L, st) y) ∧
  (∀ (L : ri_L) (st : List Value) (y : (gy × gy) × Nat), evm C0 b0 L0 xs0 233 (709, L, st) y = evm C0 b0 L0 xs0 233 (710, L, .int (Int32.ofInt 1) :: st) y) ∧
  (∀ (L : ri_L) (st : List Value) (y : (gy × gy) × Nat), evm C0 b0 L0 xs0 233 (710, L, st) y = evm C0 b0 L0 xs0 233 (714, L, st) y) ∧
  (∀ (L : ri_L) (st : List Value) (y : (gy × gy) × Nat), evm C0 b0 L0 xs0 233 (713, L, st) y = evm C0 b0 L0 xs0 233 (714, L, .int (Int32.ofInt 0) :: st) y) ∧
  (∀ (l0 l1 l2 l3 l4 l5 l6 l7 l8 l9 l10 l11 l12 l13 l14 l16 l17 l18 l19 l20 : Option Value) (st : List Value) (y : (gy × gy) × Nat) (x : Int32), evm C0 b0 L0 xs0 233 (714, [l0, l1, l2, l3, l4, l5, l6, l7, l8, l9, l10, l11, l12, l13, l14, some (.int x), l16, l17, l18, l19, l20], st) y = evm C0 b0 L0 xs0 233 (716, [l0, l1, l2, l3, l4, l5, l6, l7, l8, l9, l10, l11, l12, l13, l14, some (.int x), l16, l17, l18, l19, l20], .int x :: st) y) :=
  ⟨fun L st y => em_p rfl rfl,
   fun L y a0 a1 a2 a3 a4 s0 => em_call rfl rfl rfl rfl rfl,
   fun L st y z x => em_b rfl rfl,
   fun l1 l2 l3 l4 l5 l6 l7 l8 l9 l10 l11 l12 l13 l14 l15 l16 l17 l18 l19 l20 st y x => em_p rfl rfl,
   fun L st y => em_p rfl rfl,
   fun l0 l1 l2 l3 l4 l5 l6 l7 l8 l9 l10 l11 l12 l14 l15 l16 l17 l18 l19 l20 st y x => em_p rfl rfl,
   fun L st y => em_p rfl rfl,
   fun L st y => em_p rfl rfl,
   fun L y a0 a1 a2 a3 a4 => em_call rfl rfl rfl rfl rfl,
   fun l1 l2 l3 l4 l5 l6 l7 l8 l9 l10 l11 l12 l13 l14 l15 l16 l17 l18 l19 l20 st y x => em_p rfl rfl,
   fun L st y => em_p rfl rfl,
   fun l0 l1 l2 l3 l4 l5 l6 l7 l8 l9 l10 l12 l13 l14 l15 l16 l17 l18 l19 l20 st y x => em_p rfl rfl,
   fun L st y => em_p rfl rfl,
   fun L st y => em_p rfl rfl,
   fun L y a0 a1 a2 a3 a4 s0 => em_call rfl rfl rfl rfl rfl,
   fun L st y z x => em_b rfl rfl,
   fun L st y => em_p rfl rfl,
   fun L st y => em_p rfl rfl,
   fun L st y => em_p rfl rfl,
   fun l0 l1 l2 l3 l4 l5 l6 l7 l8 l9 l10 l11 l12 l13 l14 l15 l16 l17 l18 l19 l20 st y x => em_p rfl rfl,
   fun l0 l1 l2 l3 l4 l5 l6 l7 l8 l9 l10 l11 l13 l14 l15 l16 l17 l18 l19 l20 st y x => em_p rfl rfl,
   fun L st y x => em_b rfl rfl,
   fun l0 l1 l2 l3 l4 l5 l6 l7 l8 l9 l10 l11 l12 l13 l15 l16 l17 l18 l19 l20 st y x => em_p rfl rfl,
   fun L st y x => em_b rfl rfl,
   fun L st y => em_p rfl rfl,
   fun L st y => em_p rfl rfl,
   fun L st y => em_p rfl rfl,
   fun l0 l1 l2 l3 l4 l5 l6 l7 l8 l9 l10 l11 l12 l13 l14 l15 l16 l17 l18 l19 l20 st y x => em_p rfl rfl,
   fun l0 l1 l2 l3 l4 l5 l6 l7 l8 l9 l10 l11 l12 l13 l15 l16 l17 l18 l19 l20 st y x => em_p rfl rfl,
   fun L st y x => em_b rfl rfl,
   fun l0 l1 l2 l3 l4 l5 l6 l7 l8 l9 l10 l11 l12 l13 l15 l16 l17 l18 l19 l20 st y x => em_p rfl rfl,
   fun L st y => em_p rfl rfl,
   fun L st y z x => em_b rfl rfl,
   fun l0 l1 l2 l3 l4 l5 l6 l7 l8 l9 l10 l11 l12 l13 l15 l16 l17 l18 l19 l20 st y x => em_p rfl rfl,
   fun L st y => em_p rfl rfl,
   fun L st y z x => em_b rfl rfl,
   fun L st y => em_p rfl rfl,
   fun L st y => em_p rfl rfl,
   fun L st y => em_p rfl rfl,
   fun l0 l1 l2 l3 l4 l5 l6 l7 l8 l9 l10 l11 l12 l13 l14 l16 l17 l18 l19 l20 st y x => em_p rfl rfl⟩
set_option maxRecDepth 8000 in
theorem L_233_10 :
  (∀ (L : ri_L) (st : List Value) (y : (gy × gy) × Nat), evm C0 b0 L0 xs0 233 (716, L, st) y = evm C0 b0 L0 xs0 233 (717, L, .int (Int32.ofInt (-1)) :: st) y) ∧
  (∀ (L : ri_L) (st : List Value) (y : (gy × gy) × Nat) (z x : Int32), evm C0 b0 L0 xs0 233 (717, L, .int z :: .int x :: st) y = if ¬ x = z then evm C0 b0 L0 xs0 233 (724, L, st) y else evm C0 b0 L0 xs0 233 (720, L, st) y) ∧
  (∀ (L : ri_L) (st : List Value) (y : (gy × gy) × Nat), evm C0 b0 L0 xs0 233 (720, L, st) y = evm C0 b0 L0 xs0 233 (721, L, .int (Int32.ofInt 1) :: st) y) ∧
  (∀ (L : ri_L) (st : List Value) (y : (gy × gy) × Nat), evm C0 b0 L0 xs0 233 (721, L, st) y = evm C0 b0 L0 xs0 233 (725, L, st) y) ∧
  (∀ (L : ri_L) (st : List Value) (y : (gy × gy) × Nat), evm C0 b0 L0 xs0 233 (724, L, st) y = evm C0 b0 L0 xs0 233 (725, L, .int (Int32.ofInt 0) :: st) y) ∧
  (∀ (L : ri_L) (st : List Value) (y : (gy × gy) × Nat) (z x : Int32), evm C0 b0 L0 xs0 233 (725, L, .int z :: .int x :: st) y = if ¬ x = z then evm C0 b0 L0 xs0 233 (753, L, st) y else evm C0 b0 L0 xs0 233 (728, L, st) y) ∧
  (∀ (l1 l2 l3 l4 l5 l6 l7 l8 l9 l10 l11 l12 l13 l14 l15 l16 l17 l18 l19 l20 : Option Value) (st : List Value) (y : (gy × gy) × Nat) (x : Nat), evm C0 b0 L0 xs0 233 (728, [some (.ref x), l1, l2, l3, l4, l5, l6, l7, l8, l9, l10, l11, l12, l13, l14, l15, l16, l17, l18, l19, l20], st) y = evm C0 b0 L0 xs0 233 (729, [some (.ref x), l1, l2, l3, l4, l5, l6, l7, l8, l9, l10, l11, l12, l13, l14, l15, l16, l17, l18, l19, l20], .ref x :: st) y) ∧
  (∀ (L : ri_L) (st : List Value) (y : (gy × gy) × Nat), evm C0 b0 L0 xs0 233 (729, L, st) y = evm C0 b0 L0 xs0 233 (730, L, .int (Int32.ofInt 5) :: st) y) ∧
  (∀ (l0 l1 l2 l3 l4 l5 l6 l7 l8 l9 l10 l11 l12 l14 l15 l16 l17 l18 l19 l20 : Option Value) (st : List Value) (y : (gy × gy) × Nat) (x : Int32), evm C0 b0 L0 xs0 233 (730, [l0, l1, l2, l3, l4, l5, l6, l7, l8, l9, l10, l11, l12, some (.int x), l14, l15, l16, l17, l18, l19, l20], st) y = evm C0 b0 L0 xs0 233 (732, [l0, l1, l2, l3, l4, l5, l6, l7, l8, l9, l10, l11, l12, some (.int x), l14, l15, l16, l17, l18, l19, l20], .int x :: st) y) ∧
  (∀ (L : ri_L) (st : List Value) (y : (gy × gy) × Nat), evm C0 b0 L0 xs0 233 (732, L, st) y = evm C0 b0 L0 xs0 233 (733, L, .int (Int32.ofInt 0) :: st) y) ∧
  (∀ (L : ri_L) (st : List Value) (y : (gy × gy) × Nat), evm C0 b0 L0 xs0 233 (733, L, st) y = evm C0 b0 L0 xs0 233 (734, L, .int (Int32.ofInt 0) :: st) y) ∧
  (∀ (L : ri_L) (y : (gy × gy) × Nat) (a0 : Nat) (a1 : Int32) (a2 : Int32) (a3 : Int32) (a4 : Int32), evm C0 b0 L0 xs0 233 (734, L, [.int a4, .int a3, .int a2, .int a1, .ref a0]) y = lm_n (calm C0 b0 L0 xs0 230 [.ref a0, .int a1, .int a2, .int a3, .int a4] y) fun v y => evm C0 b0 L0 xs0 233 (737, L, [v]) y) ∧
  (∀ (l1 l2 l3 l4 l5 l6 l7 l8 l9 l10 l11 l12 l13 l14 l15 l16 l17 l18 l19 l20 : Option Value) (st : List Value) (y : (gy × gy) × Nat) (x : Nat), evm C0 b0 L0 xs0 233 (737, [some (.ref x), l1, l2, l3, l4, l5, l6, l7, l8, l9, l10, l11, l12, l13, l14, l15, l16, l17, l18, l19, l20], st) y = evm C0 b0 L0 xs0 233 (738, [some (.ref x), l1, l2, l3, l4, l5, l6, l7, l8, l9, l10, l11, l12, l13, l14, l15, l16, l17, l18, l19, l20], .ref x :: st) y) ∧
  (∀ (L : ri_L) (st : List Value) (y : (gy × gy) × Nat), evm C0 b0 L0 xs0 233 (738, L, st) y = evm C0 b0 L0 xs0 233 (739, L, .int (Int32.ofInt 5) :: st) y) ∧
  (∀ (l0 l1 l2 l3 l4 l5 l6 l7 l8 l9 l10 l11 l12 l14 l15 l16 l17 l18 l19 l20 : Option Value) (st : List Value) (y : (gy × gy) × Nat) (x : Int32), evm C0 b0 L0 xs0 233 (739, [l0, l1, l2, l3, l4, l5, l6, l7, l8, l9, l10, l11, l12, some (.int x), l14, l15, l16, l17, l18, l19, l20], st) y = evm C0 b0 L0 xs0 233 (741, [l0, l1, l2, l3, l4, l5, l6, l7, l8, l9, l10, l11, l12, some (.int x), l14, l15, l16, l17, l18, l19, l20], .int x :: st) y) ∧
  (∀ (L : ri_L) (st : List Value) (y : (gy × gy) × Nat), evm C0 b0 L0 xs0 233 (741, L, st) y = evm C0 b0 L0 xs0 233 (742, L, .int (Int32.ofInt 2) :: st) y) ∧
  (∀ (L : ri_L) (st : List Value) (y : (gy × gy) × Nat), evm C0 b0 L0 xs0 233 (742, L, st) y = evm C0 b0 L0 xs0 233 (743, L, .int (Int32.ofInt 0) :: st) y) ∧
  (∀ (L : ri_L) (y : (gy × gy) × Nat) (a0 : Nat) (a1 : Int32) (a2 : Int32) (a3 : Int32) (a4 : Int32) (s0 : Value), evm C0 b0 L0 xs0 233 (743, L, [.int a4, .int a3, .int a2, .int a1, .ref a0, s0]) y = lm_n (calm C0 b0 L0 xs0 230 [.ref a0, .int a1, .int a2, .int a3, .int a4] y) fun v y => evm C0 b0 L0 xs0 233 (746, L, [v, s0]) y) ∧
  (∀ (L : ri_L) (st : List Value) (y : (gy × gy) × Nat) (z x : Int32), evm C0 b0 L0 xs0 233 (746, L, .int z :: .int x :: st) y = if x = z then evm C0 b0 L0 xs0 233 (753, L, st) y else evm C0 b0 L0 xs0 233 (749, L, st) y) ∧
  (∀ (L : ri_L) (st : List Value) (y : (gy × gy) × Nat), evm C0 b0 L0 xs0 233 (749, L, st) y = evm C0 b0 L0 xs0 233 (750, L, .int (Int32.ofInt 1) :: st) y) ∧
  (∀ (L : ri_L) (st : List Value) (y : (gy × gy) × Nat), evm C0 b0 L0 xs0 233 (750, L, st) y = evm C0 b0 L0 xs0 233 (754, L, st) y) ∧
  (∀ (L : ri_L) (st : List Value) (y : (gy × gy) × Nat), evm C0 b0 L0 xs0 233 (753, L, st) y = evm C0 b0 L0 xs0 233 (754, L, .int (Int32.ofInt 0) :: st) y) ∧
  (∀ (l0 l1 l2 l3 l4 l5 l6 l7 l8 l9 l10 l11 l12 l13 l14 l15 l16 l17 l18 l19 l20 : Option Value) (st : List Value) (y : (gy × gy) × Nat) (x : Int32), evm C0 b0 L0 xs0 233 (754, [l0, l1, l2, l3, l4, l5, l6, l7, l8, l9, l10, l11, l12, l13, l14, l15, l16, l17, l18, l19, l20], .int x :: st) y = evm C0 b0 L0 xs0 233 (756, [l0, l1, l2, l3, l4, l5, l6, l7, ri_clr l8, some (.int x), l10, l11, l12, l13, l14, l15, l16, l17, l18, l19, l20], st) y) ∧
  (∀ (l0 l1 l2 l3 l4 l5 l6 l7 l8 l10 l11 l12 l13 l14 l15 l16 l17 l18 l19 l20 : Option Value) (st : List Value) (y : (gy × gy) × Nat) (x : Int32), evm C0 b0 L0 xs0 233 (756, [l0, l1, l2, l3, l4, l5, l6, l7, l8, some (.int x), l10, l11, l12, l13, l14, l15, l16, l17, l18, l19, l20], st) y = evm C0 b0 L0 xs0 233 (758, [l0, l1, l2, l3, l4, l5, l6, l7, l8, some (.int x), l10, l11, l12, l13, l14, l15, l16, l17, l18, l19, l20], .int x :: st) y) ∧
  (∀ (L : ri_L) (st : List Value) (y : (gy × gy) × Nat) (x : Int32), evm C0 b0 L0 xs0 233 (758, L, .int x :: st) y = if x = 0 then evm C0 b0 L0 xs0 233 (872, L, st) y else evm C0 b0 L0 xs0 233 (761, L, st) y) ∧
  (∀ (l0 l1 l2 l3 l4 l5 l6 l7 l8 l9 l10 l11 l12 l13 l14 l16 l17 l18 l19 l20 : Option Value) (st : List Value) (y : (gy × gy) × Nat) (x : Int32), evm C0 b0 L0 xs0 233 (761, [l0, l1, l2, l3, l4, l5, l6, l7, l8, l9, l10, l11, l12, l13, l14, some (.int x), l16, l17, l18, l19, l20], st) y = evm C0 b0 L0 xs0 233 (763, [l0, l1, l2, l3, l4, l5, l6, l7, l8, l9, l10, l11, l12, l13, l14, some (.int x), l16, l17, l18, l19, l20], .int x :: st) y) ∧
  (∀ (L : ri_L) (st : List Value) (y : (gy × gy) × Nat), evm C0 b0 L0 xs0 233 (763, L, st) y = evm C0 b0 L0 xs0 233 (764, L, .int (Int32.ofInt (-1)) :: st) y) ∧
  (∀ (L : ri_L) (st : List Value) (y : (gy × gy) × Nat) (z x : Int32), evm C0 b0 L0 xs0 233 (764, L, .int z :: .int x :: st) y = if x = z then evm C0 b0 L0 xs0 233 (872, L, st) y else evm C0 b0 L0 xs0 233 (767, L, st) y) ∧
  (∀ (l1 l2 l3 l4 l5 l6 l7 l8 l9 l10 l11 l12 l13 l14 l15 l16 l17 l18 l19 l20 : Option Value) (st : List Value) (y : (gy × gy) × Nat) (x : Nat), evm C0 b0 L0 xs0 233 (767, [some (.ref x), l1, l2, l3, l4, l5, l6, l7, l8, l9, l10, l11, l12, l13, l14, l15, l16, l17, l18, l19, l20], st) y = evm C0 b0 L0 xs0 233 (768, [some (.ref x), l1, l2, l3, l4, l5, l6, l7, l8, l9, l10, l11, l12, l13, l14, l15, l16, l17, l18, l19, l20], .ref x :: st) y) ∧
  (∀ (L : ri_L) (st : List Value) (y : (gy × gy) × Nat), evm C0 b0 L0 xs0 233 (768, L, st) y = evm C0 b0 L0 xs0 233 (770, L, .int (Int32.ofInt 6) :: st) y) ∧
  (∀ (l1 l2 l3 l4 l5 l6 l7 l8 l9 l10 l11 l12 l13 l14 l15 l16 l17 l18 l19 l20 : Option Value) (st : List Value) (y : (gy × gy) × Nat) (x : Nat), evm C0 b0 L0 xs0 233 (770, [some (.ref x), l1, l2, l3, l4, l5, l6, l7, l8, l9, l10, l11, l12, l13, l14, l15, l16, l17, l18, l19, l20], st) y = evm C0 b0 L0 xs0 233 (771, [some (.ref x), l1, l2, l3, l4, l5, l6, l7, l8, l9, l10, l11, l12, l13, l14, l15, l16, l17, l18, l19, l20], .ref x :: st) y) ∧
  (∀ (L : ri_L) (st : List Value) (y : (gy × gy) × Nat), evm C0 b0 L0 xs0 233 (771, L, st) y = evm C0 b0 L0 xs0 233 (772, L, .int (Int32.ofInt 5) :: st) y) ∧
  (∀ (l0 l1 l2 l3 l4 l5 l6 l7 l8 l9 l10 l11 l12 l14 l15 l16 l17 l18 l19 l20 : Option Value) (st : List Value) (y : (gy × gy) × Nat) (x : Int32), evm C0 b0 L0 xs0 233 (772, [l0, l1, l2, l3, l4, l5, l6, l7, l8, l9, l10, l11, l12, some (.int x), l14, l15, l16, l17, l18, l19, l20], st) y = evm C0 b0 L0 xs0 233 (774, [l0, l1, l2, l3, l4, l5, l6, l7, l8, l9, l10, l11, l12, some (.int x), l14, l15, l16, l17, l18, l19, l20], .int x :: st) y) ∧
  (∀ (l0 l1 l2 l3 l4 l5 l6 l7 l8 l9 l10 l11 l12 l13 l14 l16 l17 l18 l19 l20 : Option Value) (st : List Value) (y : (gy × gy) × Nat) (x : Int32), evm C0 b0 L0 xs0 233 (774, [l0, l1, l2, l3, l4, l5, l6, l7, l8, l9, l10, l11, l12, l13, l14, some (.int x), l16, l17, l18, l19, l20], st) y = evm C0 b0 L0 xs0 233 (776, [l0, l1, l2, l3, l4, l5, l6, l7, l8, l9, l10, l11, l12, l13, l14, some (.int x), l16, l17, l18, l19, l20], .int x :: st) y) ∧
  (∀ (L : ri_L) (st : List Value) (y : (gy × gy) × Nat), evm C0 b0 L0 xs0 233 (776, L, st) y = evm C0 b0 L0 xs0 233 (777, L, .int (Int32.ofInt 0) :: st) y) ∧
  (∀ (L : ri_L) (y : (gy × gy) × Nat) (a0 : Nat) (a1 : Int32) (a2 : Int32) (a3 : Int32) (a4 : Int32) (s0 s1 : Value), evm C0 b0 L0 xs0 233 (777, L, [.int a4, .int a3, .int a2, .int a1, .ref a0, s0, s1]) y = lm_n (calm C0 b0 L0 xs0 230 [.ref a0, .int a1, .int a2, .int a3, .int a4] y) fun v y => evm C0 b0 L0 xs0 233 (780, L, [v, s0, s1]) y) ∧
  (∀ (l1 l2 l3 l4 l5 l6 l7 l8 l9 l10 l11 l12 l13 l14 l15 l16 l17 l18 l19 l20 : Option Value) (st : List Value) (y : (gy × gy) × Nat) (x : Nat), evm C0 b0 L0 xs0 233 (780, [some (.ref x), l1, l2, l3, l4, l5, l6, l7, l8, l9, l10, l11, l12, l13, l14, l15, l16, l17, l18, l19, l20], st) y = evm C0 b0 L0 xs0 233 (781, [some (.ref x), l1, l2, l3, l4, l5, l6, l7, l8, l9, l10, l11, l12, l13, l14, l15, l16, l17, l18, l19, l20], .ref x :: st) y) ∧
  (∀ (L : ri_L) (st : List Value) (y : (gy × gy) × Nat), evm C0 b0 L0 xs0 233 (781, L, st) y = evm C0 b0 L0 xs0 233 (782, L, .int (Int32.ofInt 5) :: st) y) ∧
  (∀ (l0 l1 l2 l3 l4 l5 l6 l7 l8 l9 l10 l11 l12 l14 l15 l16 l17 l18 l19 l20 : Option Value) (st : List Value) (y : (gy × gy) × Nat) (x : Int32), evm C0 b0 L0 xs0 233 (782, [l0, l1, l2, l3, l4, l5, l6, l7, l8, l9, l10, l11, l12, some (.int x), l14, l15, l16, l17, l18, l19, l20], st) y = evm C0 b0 L0 xs0 233 (784, [l0, l1, l2, l3, l4, l5, l6, l7, l8, l9, l10, l11, l12, some (.int x), l14, l15, l16, l17, l18, l19, l20], .int x :: st) y) ∧
  (∀ (l0 l1 l2 l3 l4 l5 l6 l7 l8 l9 l10 l11 l12 l13 l14 l16 l17 l18 l19 l20 : Option Value) (st : List Value) (y : (gy × gy) × Nat) (x : Int32), evm C0 b0 L0 xs0 233 (784, [l0, l1, l2, l3, l4, l5, l6, l7, l8, l9, l10, l11, l12, l13, l14, some (.int x), l16, l17, l18, l19, l20], st) y = evm C0 b0 L0 xs0 233 (786, [l0, l1, l2, l3, l4, l5, l6, l7, l8, l9, l10, l11, l12, l13, l14, some (.int x), l16, l17, l18, l19, l20], .int x :: st) y) :=
  ⟨fun L st y => em_p rfl rfl,
   fun L st y z x => em_b rfl rfl,
   fun L st y => em_p rfl rfl,
   fun L st y => em_p rfl rfl,
   fun L st y => em_p rfl rfl,
   fun L st y z x => em_b rfl rfl,
   fun l1 l2 l3 l4 l5 l6 l7 l8 l9 l10 l11 l12 l13 l14 l15 l16 l17 l18 l19 l20 st y x => em_p rfl rfl,
   fun L st y => em_p rfl rfl,
   fun l0 l1 l2 l3 l4 l5 l6 l7 l8 l9 l10 l11 l12 l14 l15 l16 l17 l18 l19 l20 st y x => em_p rfl rfl,
   fun L st y => em_p rfl rfl,
   fun L st y => em_p rfl rfl,
   fun L y a0 a1 a2 a3 a4 => em_call rfl rfl rfl rfl rfl,
   fun l1 l2 l3 l4 l5 l6 l7 l8 l9 l10 l11 l12 l13 l14 l15 l16 l17 l18 l19 l20 st y x => em_p rfl rfl,
   fun L st y => em_p rfl rfl,
   fun l0 l1 l2 l3 l4 l5 l6 l7 l8 l9 l10 l11 l12 l14 l15 l16 l17 l18 l19 l20 st y x => em_p rfl rfl,
   fun L st y => em_p rfl rfl,
   fun L st y => em_p rfl rfl,
   fun L y a0 a1 a2 a3 a4 s0 => em_call rfl rfl rfl rfl rfl,
   fun L st y z x => em_b rfl rfl,
   fun L st y => em_p rfl rfl,
   fun L st y => em_p rfl rfl,
   fun L st y => em_p rfl rfl,
   fun l0 l1 l2 l3 l4 l5 l6 l7 l8 l9 l10 l11 l12 l13 l14 l15 l16 l17 l18 l19 l20 st y x => em_p rfl rfl,
   fun l0 l1 l2 l3 l4 l5 l6 l7 l8 l10 l11 l12 l13 l14 l15 l16 l17 l18 l19 l20 st y x => em_p rfl rfl,
   fun L st y x => em_b rfl rfl,
   fun l0 l1 l2 l3 l4 l5 l6 l7 l8 l9 l10 l11 l12 l13 l14 l16 l17 l18 l19 l20 st y x => em_p rfl rfl,
   fun L st y => em_p rfl rfl,
   fun L st y z x => em_b rfl rfl,
   fun l1 l2 l3 l4 l5 l6 l7 l8 l9 l10 l11 l12 l13 l14 l15 l16 l17 l18 l19 l20 st y x => em_p rfl rfl,
   fun L st y => em_p rfl rfl,
   fun l1 l2 l3 l4 l5 l6 l7 l8 l9 l10 l11 l12 l13 l14 l15 l16 l17 l18 l19 l20 st y x => em_p rfl rfl,
   fun L st y => em_p rfl rfl,
   fun l0 l1 l2 l3 l4 l5 l6 l7 l8 l9 l10 l11 l12 l14 l15 l16 l17 l18 l19 l20 st y x => em_p rfl rfl,
   fun l0 l1 l2 l3 l4 l5 l6 l7 l8 l9 l10 l11 l12 l13 l14 l16 l17 l18 l19 l20 st y x => em_p rfl rfl,
   fun L st y => em_p rfl rfl,
   fun L y a0 a1 a2 a3 a4 s0 s1 => em_call rfl rfl rfl rfl rfl,
   fun l1 l2 l3 l4 l5 l6 l7 l8 l9 l10 l11 l12 l13 l14 l15 l16 l17 l18 l19 l20 st y x => em_p rfl rfl,
   fun L st y => em_p rfl rfl,
   fun l0 l1 l2 l3 l4 l5 l6 l7 l8 l9 l10 l11 l12 l14 l15 l16 l17 l18 l19 l20 st y x => em_p rfl rfl,
   fun l0 l1 l2 l3 l4 l5 l6 l7 l8 l9 l10 l11 l12 l13 l14 l16 l17 l18 l19 l20 st y x => em_p rfl rfl⟩
set_option maxRecDepth 8000 in
theorem L_233_11 :
  (∀ (L : ri_L) (st : List Value) (y : (gy × gy) × Nat), evm C0 b0 L0 xs0 233 (786, L, st) y = evm C0 b0 L0 xs0 233 (787, L, .int (Int32.ofInt 1) :: st) y) ∧
  (∀ (L : ri_L) (st : List Value) (y : (gy × gy) × Nat) (z x : Int32), evm C0 b0 L0 xs0 233 (787, L, .int z :: .int x :: st) y = evm C0 b0 L0 xs0 233 (788, L, .int (x + z) :: st) y) ∧
  (∀ (L : ri_L) (st : List Value) (y : (gy × gy) × Nat), evm C0 b0 L0 xs0 233 (788, L, st) y = evm C0 b0 L0 xs0 233 (789, L, .int (Int32.ofInt 0) :: st) y) ∧
  (∀ (L : ri_L) (y : (gy × gy) × Nat) (a0 : Nat) (a1 : Int32) (a2 : Int32) (a3 : Int32) (a4 : Int32) (s0 s1 s2 : Value), evm C0 b0 L0 xs0 233 (789, L, [.int a4, .int a3, .int a2, .int a1, .ref a0, s0, s1, s2]) y = lm_n (calm C0 b0 L0 xs0 230 [.ref a0, .int a1, .int a2, .int a3, .int a4] y) fun v y => evm C0 b0 L0 xs0 233 (792, L, [v, s0, s1, s2]) y) ∧
  (∀ (L : ri_L) (st : List Value) (y : (gy × gy) × Nat), evm C0 b0 L0 xs0 233 (792, L, st) y = evm C0 b0 L0 xs0 233 (793, L, .int (Int32.ofInt 2) :: st) y) ∧
  (∀ (L : ri_L) (y : (gy × gy) × Nat) (a0 : Nat) (a1 : Int32) (a2 : Int32) (a3 : Int32) (a4 : Int32), evm C0 b0 L0 xs0 233 (793, L, [.int a4, .int a3, .int a2, .int a1, .ref a0]) y = lm_n (calm C0 b0 L0 xs0 230 [.ref a0, .int a1, .int a2, .int a3, .int a4] y) fun v y => evm C0 b0 L0 xs0 233 (796, L, [v]) y) ∧
  (∀ (L : ri_L) (st : List Value) (y : (gy × gy) × Nat), evm C0 b0 L0 xs0 233 (796, L, st) y = evm C0 b0 L0 xs0 233 (797, L, .int (Int32.ofInt (-1)) :: st) y) ∧
  (∀ (L : ri_L) (st : List Value) (y : (gy × gy) × Nat) (z x : Int32), evm C0 b0 L0 xs0 233 (797, L, .int z :: .int x :: st) y = if x = z then evm C0 b0 L0 xs0 233 (804, L, st) y else evm C0 b0 L0 xs0 233 (800, L, st) y) ∧
  (∀ (L : ri_L) (st : List Value) (y : (gy × gy) × Nat), evm C0 b0 L0 xs0 233 (800, L, st) y = evm C0 b0 L0 xs0 233 (801, L, .int (Int32.ofInt 1) :: st) y) ∧
  (∀ (L : ri_L) (st : List Value) (y : (gy × gy) × Nat), evm C0 b0 L0 xs0 233 (801, L, st) y = evm C0 b0 L0 xs0 233 (805, L, st) y) ∧
  (∀ (L : ri_L) (st : List Value) (y : (gy × gy) × Nat), evm C0 b0 L0 xs0 233 (804, L, st) y = evm C0 b0 L0 xs0 233 (805, L, .int (Int32.ofInt 0) :: st) y) ∧
  (∀ (l0 l1 l2 l3 l4 l5 l6 l7 l8 l9 l10 l11 l12 l13 l14 l15 l16 l17 l18 l19 l20 : Option Value) (st : List Value) (y : (gy × gy) × Nat) (x : Int32), evm C0 b0 L0 xs0 233 (805, [l0, l1, l2, l3, l4, l5, l6, l7, l8, l9, l10, l11, l12, l13, l14, l15, l16, l17, l18, l19, l20], .int x :: st) y = evm C0 b0 L0 xs0 233 (807, [l0, l1, l2, l3, l4, l5, l6, l7, l8, l9, l10, l11, l12, l13, l14, ri_clr l15, some (.int x), l17, l18, l19, l20], st) y) ∧
  (∀ (l1 l2 l3 l4 l5 l6 l7 l8 l9 l10 l11 l12 l13 l14 l15 l16 l17 l18 l19 l20 : Option Value) (st : List Value) (y : (gy × gy) × Nat) (x : Nat), evm C0 b0 L0 xs0 233 (807, [some (.ref x), l1, l2, l3, l4, l5, l6, l7, l8, l9, l10, l11, l12, l13, l14, l15, l16, l17, l18, l19, l20], st) y = evm C0 b0 L0 xs0 233 (808, [some (.ref x), l1, l2, l3, l4, l5, l6, l7, l8, l9, l10, l11, l12, l13, l14, l15, l16, l17, l18, l19, l20], .ref x :: st) y) ∧
  (∀ (L : ri_L) (st : List Value) (y : (gy × gy) × Nat), evm C0 b0 L0 xs0 233 (808, L, st) y = evm C0 b0 L0 xs0 233 (809, L, .int (Int32.ofInt 2) :: st) y) ∧
  (∀ (L : ri_L) (st : List Value) (y : (gy × gy) × Nat), evm C0 b0 L0 xs0 233 (809, L, st) y = evm C0 b0 L0 xs0 233 (811, L, .int (Int32.ofInt 9) :: st) y) ∧
  (∀ (L : ri_L) (st : List Value) (y : (gy × gy) × Nat), evm C0 b0 L0 xs0 233 (811, L, st) y = evm C0 b0 L0 xs0 233 (812, L, .int (Int32.ofInt 0) :: st) y) ∧
  (∀ (L : ri_L) (st : List Value) (y : (gy × gy) × Nat), evm C0 b0 L0 xs0 233 (812, L, st) y = evm C0 b0 L0 xs0 233 (813, L, .int (Int32.ofInt 0) :: st) y) ∧
  (∀ (L : ri_L) (y : (gy × gy) × Nat) (a0 : Nat) (a1 : Int32) (a2 : Int32) (a3 : Int32) (a4 : Int32), evm C0 b0 L0 xs0 233 (813, L, [.int a4, .int a3, .int a2, .int a1, .ref a0]) y = lm_n (calm C0 b0 L0 xs0 230 [.ref a0, .int a1, .int a2, .int a3, .int a4] y) fun v y => evm C0 b0 L0 xs0 233 (816, L, [v]) y) ∧
  (∀ (L : ri_L) (st : List Value) (y : (gy × gy) × Nat), evm C0 b0 L0 xs0 233 (816, L, st) y = evm C0 b0 L0 xs0 233 (817, L, .int (Int32.ofInt 1) :: st) y) ∧
  (∀ (L : ri_L) (st : List Value) (y : (gy × gy) × Nat) (z x : Int32), evm C0 b0 L0 xs0 233 (817, L, .int z :: .int x :: st) y = if ¬ x = z then evm C0 b0 L0 xs0 233 (838, L, st) y else evm C0 b0 L0 xs0 233 (820, L, st) y) ∧
  (∀ (l1 l2 l3 l4 l5 l6 l7 l8 l9 l10 l11 l12 l13 l14 l15 l16 l17 l18 l19 l20 : Option Value) (st : List Value) (y : (gy × gy) × Nat) (x : Nat), evm C0 b0 L0 xs0 233 (820, [some (.ref x), l1, l2, l3, l4, l5, l6, l7, l8, l9, l10, l11, l12, l13, l14, l15, l16, l17, l18, l19, l20], st) y = evm C0 b0 L0 xs0 233 (821, [some (.ref x), l1, l2, l3, l4, l5, l6, l7, l8, l9, l10, l11, l12, l13, l14, l15, l16, l17, l18, l19, l20], .ref x :: st) y) ∧
  (∀ (L : ri_L) (st : List Value) (y : (gy × gy) × Nat), evm C0 b0 L0 xs0 233 (821, L, st) y = evm C0 b0 L0 xs0 233 (822, L, .int (Int32.ofInt 2) :: st) y) ∧
  (∀ (L : ri_L) (st : List Value) (y : (gy × gy) × Nat), evm C0 b0 L0 xs0 233 (822, L, st) y = evm C0 b0 L0 xs0 233 (824, L, .int (Int32.ofInt 8) :: st) y) ∧
  (∀ (L : ri_L) (st : List Value) (y : (gy × gy) × Nat), evm C0 b0 L0 xs0 233 (824, L, st) y = evm C0 b0 L0 xs0 233 (825, L, .int (Int32.ofInt 0) :: st) y) ∧
  (∀ (L : ri_L) (st : List Value) (y : (gy × gy) × Nat), evm C0 b0 L0 xs0 233 (825, L, st) y = evm C0 b0 L0 xs0 233 (826, L, .int (Int32.ofInt 0) :: st) y) ∧
  (∀ (L : ri_L) (y : (gy × gy) × Nat) (a0 : Nat) (a1 : Int32) (a2 : Int32) (a3 : Int32) (a4 : Int32), evm C0 b0 L0 xs0 233 (826, L, [.int a4, .int a3, .int a2, .int a1, .ref a0]) y = lm_n (calm C0 b0 L0 xs0 230 [.ref a0, .int a1, .int a2, .int a3, .int a4] y) fun v y => evm C0 b0 L0 xs0 233 (829, L, [v]) y) ∧
  (∀ (l0 l1 l2 l3 l4 l5 l6 l7 l8 l9 l10 l12 l13 l14 l15 l16 l17 l18 l19 l20 : Option Value) (st : List Value) (y : (gy × gy) × Nat) (x : Int32), evm C0 b0 L0 xs0 233 (829, [l0, l1, l2, l3, l4, l5, l6, l7, l8, l9, l10, some (.int x), l12, l13, l14, l15, l16, l17, l18, l19, l20], st) y = evm C0 b0 L0 xs0 233 (831, [l0, l1, l2, l3, l4, l5, l6, l7, l8, l9, l10, some (.int x), l12, l13, l14, l15, l16, l17, l18, l19, l20], .int x :: st) y) ∧
  (∀ (L : ri_L) (st : List Value) (y : (gy × gy) × Nat) (z x : Int32), evm C0 b0 L0 xs0 233 (831, L, .int z :: .int x :: st) y = if ¬ x = z then evm C0 b0 L0 xs0 233 (838, L, st) y else evm C0 b0 L0 xs0 233 (834, L, st) y) ∧
  (∀ (L : ri_L) (st : List Value) (y : (gy × gy) × Nat), evm C0 b0 L0 xs0 233 (834, L, st) y = evm C0 b0 L0 xs0 233 (835, L, .int (Int32.ofInt 1) :: st) y) ∧
  (∀ (L : ri_L) (st : List Value) (y : (gy × gy) × Nat), evm C0 b0 L0 xs0 233 (835, L, st) y = evm C0 b0 L0 xs0 233 (839, L, st) y) ∧
  (∀ (L : ri_L) (st : List Value) (y : (gy × gy) × Nat), evm C0 b0 L0 xs0 233 (838, L, st) y = evm C0 b0 L0 xs0 233 (839, L, .int (Int32.ofInt 0) :: st) y) ∧
  (∀ (l0 l1 l2 l3 l4 l5 l6 l7 l8 l9 l10 l11 l12 l13 l14 l15 l16 l17 l18 l19 l20 : Option Value) (st : List Value) (y : (gy × gy) × Nat) (x : Int32), evm C0 b0 L0 xs0 233 (839, [l0, l1, l2, l3, l4, l5, l6, l7, l8, l9, l10, l11, l12, l13, l14, l15, l16, l17, l18, l19, l20], .int x :: st) y = evm C0 b0 L0 xs0 233 (841, [l0, l1, l2, l3, l4, l5, l6, l7, l8, l9, l10, l11, l12, l13, l14, l15, ri_clr l16, some (.int x), l18, l19, l20], st) y) ∧
  (∀ (l0 l1 l2 l3 l4 l5 l6 l7 l8 l9 l10 l11 l12 l13 l15 l16 l17 l18 l19 l20 : Option Value) (st : List Value) (y : (gy × gy) × Nat) (x : Int32), evm C0 b0 L0 xs0 233 (841, [l0, l1, l2, l3, l4, l5, l6, l7, l8, l9, l10, l11, l12, l13, some (.int x), l15, l16, l17, l18, l19, l20], st) y = evm C0 b0 L0 xs0 233 (843, [l0, l1, l2, l3, l4, l5, l6, l7, l8, l9, l10, l11, l12, l13, some (.int x), l15, l16, l17, l18, l19, l20], .int x :: st) y) ∧
  (∀ (l0 l1 l2 l3 l4 l5 l6 l7 l8 l9 l10 l11 l12 l13 l14 l15 l17 l18 l19 l20 : Option Value) (st : List Value) (y : (gy × gy) × Nat) (x : Int32), evm C0 b0 L0 xs0 233 (843, [l0, l1, l2, l3, l4, l5, l6, l7, l8, l9, l10, l11, l12, l13, l14, l15, some (.int x), l17, l18, l19, l20], st) y = evm C0 b0 L0 xs0 233 (845, [l0, l1, l2, l3, l4, l5, l6, l7, l8, l9, l10, l11, l12, l13, l14, l15, some (.int x), l17, l18, l19, l20], .int x :: st) y) ∧
  (∀ (L : ri_L) (st : List Value) (y : (gy × gy) × Nat) (x : Int32), evm C0 b0 L0 xs0 233 (845, L, .int x :: st) y = if x = 0 then evm C0 b0 L0 xs0 233 (852, L, st) y else evm C0 b0 L0 xs0 233 (848, L, st) y) ∧
  (∀ (L : ri_L) (st : List Value) (y : (gy × gy) × Nat), evm C0 b0 L0 xs0 233 (848, L, st) y = evm C0 b0 L0 xs0 233 (849, L, .int (Int32.ofInt 2) :: st) y) ∧
  (∀ (L : ri_L) (st : List Value) (y : (gy × gy) × Nat), evm C0 b0 L0 xs0 233 (849, L, st) y = evm C0 b0 L0 xs0 233 (862, L, st) y) ∧
  (∀ (l0 l1 l2 l3 l4 l5 l6 l7 l8 l9 l10 l11 l12 l13 l14 l15 l16 l18 l19 l20 : Option Value) (st : List Value) (y : (gy × gy) × Nat) (x : Int32), evm C0 b0 L0 xs0 233 (852, [l0, l1, l2, l3, l4, l5, l6, l7, l8, l9, l10, l11, l12, l13, l14, l15, l16, some (.int x), l18, l19, l20], st) y = evm C0 b0 L0 xs0 233 (854, [l0, l1, l2, l3, l4, l5, l6, l7, l8, l9, l10, l11, l12, l13, l14, l15, l16, some (.int x), l18, l19, l20], .int x :: st) y) ∧
  (∀ (L : ri_L) (st : List Value) (y : (gy × gy) × Nat) (x : Int32), evm C0 b0 L0 xs0 233 (854, L, .int x :: st) y = if x = 0 then evm C0 b0 L0 xs0 233 (861, L, st) y else evm C0 b0 L0 xs0 233 (857, L, st) y) ∧
  (∀ (L : ri_L) (st : List Value) (y : (gy × gy) × Nat), evm C0 b0 L0 xs0 233 (857, L, st) y = evm C0 b0 L0 xs0 233 (858, L, .int (Int32.ofInt 3) :: st) y) :=
  ⟨fun L st y => em_p rfl rfl,
   fun L st y z x => em_p rfl rfl,
   fun L st y => em_p rfl rfl,
   fun L y a0 a1 a2 a3 a4 s0 s1 s2 => em_call rfl rfl rfl rfl rfl,
   fun L st y => em_p rfl rfl,
   fun L y a0 a1 a2 a3 a4 => em_call rfl rfl rfl rfl rfl,
   fun L st y => em_p rfl rfl,
   fun L st y z x => em_b rfl rfl,
   fun L st y => em_p rfl rfl,
   fun L st y => em_p rfl rfl,
   fun L st y => em_p rfl rfl,
   fun l0 l1 l2 l3 l4 l5 l6 l7 l8 l9 l10 l11 l12 l13 l14 l15 l16 l17 l18 l19 l20 st y x => em_p rfl rfl,
   fun l1 l2 l3 l4 l5 l6 l7 l8 l9 l10 l11 l12 l13 l14 l15 l16 l17 l18 l19 l20 st y x => em_p rfl rfl,
   fun L st y => em_p rfl rfl,
   fun L st y => em_p rfl rfl,
   fun L st y => em_p rfl rfl,
   fun L st y => em_p rfl rfl,
   fun L y a0 a1 a2 a3 a4 => em_call rfl rfl rfl rfl rfl,
   fun L st y => em_p rfl rfl,
   fun L st y z x => em_b rfl rfl,
   fun l1 l2 l3 l4 l5 l6 l7 l8 l9 l10 l11 l12 l13 l14 l15 l16 l17 l18 l19 l20 st y x => em_p rfl rfl,
   fun L st y => em_p rfl rfl,
   fun L st y => em_p rfl rfl,
   fun L st y => em_p rfl rfl,
   fun L st y => em_p rfl rfl,
   fun L y a0 a1 a2 a3 a4 => em_call rfl rfl rfl rfl rfl,
   fun l0 l1 l2 l3 l4 l5 l6 l7 l8 l9 l10 l12 l13 l14 l15 l16 l17 l18 l19 l20 st y x => em_p rfl rfl,
   fun L st y z x => em_b rfl rfl,
   fun L st y => em_p rfl rfl,
   fun L st y => em_p rfl rfl,
   fun L st y => em_p rfl rfl,
   fun l0 l1 l2 l3 l4 l5 l6 l7 l8 l9 l10 l11 l12 l13 l14 l15 l16 l17 l18 l19 l20 st y x => em_p rfl rfl,
   fun l0 l1 l2 l3 l4 l5 l6 l7 l8 l9 l10 l11 l12 l13 l15 l16 l17 l18 l19 l20 st y x => em_p rfl rfl,
   fun l0 l1 l2 l3 l4 l5 l6 l7 l8 l9 l10 l11 l12 l13 l14 l15 l17 l18 l19 l20 st y x => em_p rfl rfl,
   fun L st y x => em_b rfl rfl,
   fun L st y => em_p rfl rfl,
   fun L st y => em_p rfl rfl,
   fun l0 l1 l2 l3 l4 l5 l6 l7 l8 l9 l10 l11 l12 l13 l14 l15 l16 l18 l19 l20 st y x => em_p rfl rfl,
   fun L st y x => em_b rfl rfl,
   fun L st y => em_p rfl rfl⟩
set_option maxRecDepth 8000 in
theorem L_233_12 :
  (∀ (L : ri_L) (st : List Value) (y : (gy × gy) × Nat), evm C0 b0 L0 xs0 233 (858, L, st) y = evm C0 b0 L0 xs0 233 (862, L, st) y) ∧
  (∀ (L : ri_L) (st : List Value) (y : (gy × gy) × Nat), evm C0 b0 L0 xs0 233 (861, L, st) y = evm C0 b0 L0 xs0 233 (862, L, .int (Int32.ofInt 0) :: st) y) ∧
  (∀ (L : ri_L) (st : List Value) (y : (gy × gy) × Nat) (z x : Int32), evm C0 b0 L0 xs0 233 (862, L, .int z :: .int x :: st) y = if ¬ x = z then evm C0 b0 L0 xs0 233 (869, L, st) y else evm C0 b0 L0 xs0 233 (865, L, st) y) ∧
  (∀ (L : ri_L) (st : List Value) (y : (gy × gy) × Nat), evm C0 b0 L0 xs0 233 (865, L, st) y = evm C0 b0 L0 xs0 233 (866, L, .int (Int32.ofInt 1) :: st) y) ∧
  (∀ (L : ri_L) (st : List Value) (y : (gy × gy) × Nat), evm C0 b0 L0 xs0 233 (866, L, st) y = evm C0 b0 L0 xs0 233 (870, L, st) y) ∧
  (∀ (L : ri_L) (st : List Value) (y : (gy × gy) × Nat), evm C0 b0 L0 xs0 233 (869, L, st) y = evm C0 b0 L0 xs0 233 (870, L, .int (Int32.ofInt 0) :: st) y) ∧
  (∀ (l0 l1 l2 l3 l4 l5 l6 l7 l8 l9 l10 l11 l12 l13 l14 l15 l16 l17 l18 l19 l20 : Option Value) (st : List Value) (y : (gy × gy) × Nat) (x : Int32), evm C0 b0 L0 xs0 233 (870, [l0, l1, l2, l3, l4, l5, l6, l7, l8, l9, l10, l11, l12, l13, l14, l15, l16, l17, l18, l19, l20], .int x :: st) y = evm C0 b0 L0 xs0 233 (872, [l0, l1, l2, l3, l4, l5, l6, l7, ri_clr l8, some (.int x), l10, l11, l12, l13, l14, l15, l16, l17, l18, l19, l20], st) y) ∧
  (∀ (l0 l1 l2 l3 l4 l5 l6 l7 l8 l9 l10 l11 l12 l14 l15 l16 l17 l18 l19 l20 : Option Value) (st : List Value) (y : (gy × gy) × Nat) (x : Int32), evm C0 b0 L0 xs0 233 (872, [l0, l1, l2, l3, l4, l5, l6, l7, l8, l9, l10, l11, l12, some (.int x), l14, l15, l16, l17, l18, l19, l20], st) y = evm C0 b0 L0 xs0 233 (875, [l0, l1, l2, l3, l4, l5, l6, l7, l8, l9, l10, l11, ri_clr l12, some (.int (x + (Int32.ofInt 1))), l14, l15, l16, l17, l18, l19, l20], st) y) ∧
  (∀ (L : ri_L) (st : List Value) (y : (gy × gy) × Nat), evm C0 b0 L0 xs0 233 (875, L, st) y = evm C0 b0 L0 xs0 233 (556, L, st) y) ∧
  (∀ (l0 l1 l2 l3 l4 l5 l6 l7 l8 l9 l11 l12 l13 l14 l15 l16 l17 l18 l19 l20 : Option Value) (st : List Value) (y : (gy × gy) × Nat) (x : Int32), evm C0 b0 L0 xs0 233 (878, [l0, l1, l2, l3, l4, l5, l6, l7, l8, l9, some (.int x), l11, l12, l13, l14, l15, l16, l17, l18, l19, l20], st) y = evm C0 b0 L0 xs0 233 (880, [l0, l1, l2, l3, l4, l5, l6, l7, l8, l9, some (.int x), l11, l12, l13, l14, l15, l16, l17, l18, l19, l20], .int x :: st) y) ∧
  (∀ (l0 l1 l2 l3 l4 l5 l6 l7 l8 l9 l10 l11 l13 l14 l15 l16 l17 l18 l19 l20 : Option Value) (st : List Value) (y : (gy × gy) × Nat) (x : Int32), evm C0 b0 L0 xs0 233 (880, [l0, l1, l2, l3, l4, l5, l6, l7, l8, l9, l10, l11, some (.int x), l13, l14, l15, l16, l17, l18, l19, l20], st) y = evm C0 b0 L0 xs0 233 (882, [l0, l1, l2, l3, l4, l5, l6, l7, l8, l9, l10, l11, some (.int x), l13, l14, l15, l16, l17, l18, l19, l20], .int x :: st) y) ∧
  (∀ (L : ri_L) (st : List Value) (y : (gy × gy) × Nat) (x : Int32), evm C0 b0 L0 xs0 233 (882, L, .int x :: st) y = if x = 0 then evm C0 b0 L0 xs0 233 (889, L, st) y else evm C0 b0 L0 xs0 233 (885, L, st) y) ∧
  (∀ (L : ri_L) (st : List Value) (y : (gy × gy) × Nat), evm C0 b0 L0 xs0 233 (885, L, st) y = evm C0 b0 L0 xs0 233 (886, L, .int (Int32.ofInt 1) :: st) y) ∧
  (∀ (L : ri_L) (st : List Value) (y : (gy × gy) × Nat), evm C0 b0 L0 xs0 233 (886, L, st) y = evm C0 b0 L0 xs0 233 (890, L, st) y) ∧
  (∀ (L : ri_L) (st : List Value) (y : (gy × gy) × Nat), evm C0 b0 L0 xs0 233 (889, L, st) y = evm C0 b0 L0 xs0 233 (890, L, .int (Int32.ofInt 0) :: st) y) ∧
  (∀ (L : ri_L) (st : List Value) (y : (gy × gy) × Nat) (z x : Int32), evm C0 b0 L0 xs0 233 (890, L, .int z :: .int x :: st) y = evm C0 b0 L0 xs0 233 (891, L, .int (x + z) :: st) y) ∧
  (∀ (l0 l1 l2 l3 l4 l5 l6 l7 l8 l9 l10 l11 l12 l13 l14 l15 l16 l17 l18 l19 l20 : Option Value) (st : List Value) (y : (gy × gy) × Nat) (x : Int32), evm C0 b0 L0 xs0 233 (891, [l0, l1, l2, l3, l4, l5, l6, l7, l8, l9, l10, l11, l12, l13, l14, l15, l16, l17, l18, l19, l20], .int x :: st) y = evm C0 b0 L0 xs0 233 (893, [l0, l1, l2, l3, l4, l5, l6, l7, l8, ri_clr l9, some (.int x), l11, l12, l13, l14, l15, l16, l17, l18, l19, l20], st) y) ∧
  (∀ (l0 l1 l2 l3 l4 l5 l6 l7 l8 l9 l10 l12 l13 l14 l15 l16 l17 l18 l19 l20 : Option Value) (st : List Value) (y : (gy × gy) × Nat) (x : Int32), evm C0 b0 L0 xs0 233 (893, [l0, l1, l2, l3, l4, l5, l6, l7, l8, l9, l10, some (.int x), l12, l13, l14, l15, l16, l17, l18, l19, l20], st) y = evm C0 b0 L0 xs0 233 (896, [l0, l1, l2, l3, l4, l5, l6, l7, l8, l9, ri_clr l10, some (.int (x + (Int32.ofInt 1))), l12, l13, l14, l15, l16, l17, l18, l19, l20], st) y) ∧
  (∀ (L : ri_L) (st : List Value) (y : (gy × gy) × Nat), evm C0 b0 L0 xs0 233 (896, L, st) y = evm C0 b0 L0 xs0 233 (511, L, st) y) ∧
  (∀ (l0 l1 l2 l3 l4 l5 l6 l7 l8 l10 l11 l12 l13 l14 l15 l16 l17 l18 l19 l20 : Option Value) (st : List Value) (y : (gy × gy) × Nat) (x : Int32), evm C0 b0 L0 xs0 233 (899, [l0, l1, l2, l3, l4, l5, l6, l7, l8, some (.int x), l10, l11, l12, l13, l14, l15, l16, l17, l18, l19, l20], st) y = evm C0 b0 L0 xs0 233 (901, [l0, l1, l2, l3, l4, l5, l6, l7, l8, some (.int x), l10, l11, l12, l13, l14, l15, l16, l17, l18, l19, l20], .int x :: st) y) ∧
  (∀ (L : ri_L) (st : List Value) (y : (gy × gy) × Nat) (x : Int32), evm C0 b0 L0 xs0 233 (901, L, .int x :: st) y = if x = 0 then evm C0 b0 L0 xs0 233 (1047, L, st) y else evm C0 b0 L0 xs0 233 (904, L, st) y) ∧
  (∀ (l0 l1 l2 l3 l4 l5 l6 l8 l9 l10 l11 l12 l13 l14 l15 l16 l17 l18 l19 l20 : Option Value) (st : List Value) (y : (gy × gy) × Nat) (x : Int32), evm C0 b0 L0 xs0 233 (904, [l0, l1, l2, l3, l4, l5, l6, some (.int x), l8, l9, l10, l11, l12, l13, l14, l15, l16, l17, l18, l19, l20], st) y = evm C0 b0 L0 xs0 233 (906, [l0, l1, l2, l3, l4, l5, l6, some (.int x), l8, l9, l10, l11, l12, l13, l14, l15, l16, l17, l18, l19, l20], .int x :: st) y) ∧
  (∀ (l0 l1 l2 l4 l5 l6 l7 l8 l9 l10 l11 l12 l13 l14 l15 l16 l17 l18 l19 l20 : Option Value) (st : List Value) (y : (gy × gy) × Nat) (x : Int32), evm C0 b0 L0 xs0 233 (906, [l0, l1, l2, some (.int x), l4, l5, l6, l7, l8, l9, l10, l11, l12, l13, l14, l15, l16, l17, l18, l19, l20], st) y = evm C0 b0 L0 xs0 233 (907, [l0, l1, l2, some (.int x), l4, l5, l6, l7, l8, l9, l10, l11, l12, l13, l14, l15, l16, l17, l18, l19, l20], .int x :: st) y) ∧
  (∀ (L : ri_L) (st : List Value) (y : (gy × gy) × Nat) (z x : Int32), evm C0 b0 L0 xs0 233 (907, L, .int z :: .int x :: st) y = if ¬ x = z then evm C0 b0 L0 xs0 233 (1047, L, st) y else evm C0 b0 L0 xs0 233 (910, L, st) y) ∧
  (∀ (l0 l1 l2 l3 l4 l5 l6 l7 l9 l10 l11 l12 l13 l14 l15 l16 l17 l18 l19 l20 : Option Value) (st : List Value) (y : (gy × gy) × Nat) (x : Int32), evm C0 b0 L0 xs0 233 (910, [l0, l1, l2, l3, l4, l5, l6, l7, some (.int x), l9, l10, l11, l12, l13, l14, l15, l16, l17, l18, l19, l20], st) y = evm C0 b0 L0 xs0 233 (912, [l0, l1, l2, l3, l4, l5, l6, l7, some (.int x), l9, l10, l11, l12, l13, l14, l15, l16, l17, l18, l19, l20], .int x :: st) y) ∧
  (∀ (L : ri_L) (st : List Value) (y : (gy × gy) × Nat), evm C0 b0 L0 xs0 233 (912, L, st) y = evm C0 b0 L0 xs0 233 (913, L, .int (Int32.ofInt 2) :: st) y) ∧
  (∀ (l0 l1 l3 l4 l5 l6 l7 l8 l9 l10 l11 l12 l13 l14 l15 l16 l17 l18 l19 l20 : Option Value) (st : List Value) (y : (gy × gy) × Nat) (x : Int32), evm C0 b0 L0 xs0 233 (913, [l0, l1, some (.int x), l3, l4, l5, l6, l7, l8, l9, l10, l11, l12, l13, l14, l15, l16, l17, l18, l19, l20], st) y = evm C0 b0 L0 xs0 233 (914, [l0, l1, some (.int x), l3, l4, l5, l6, l7, l8, l9, l10, l11, l12, l13, l14, l15, l16, l17, l18, l19, l20], .int x :: st) y) ∧
  (∀ (L : ri_L) (st : List Value) (y : (gy × gy) × Nat) (z x : Int32), evm C0 b0 L0 xs0 233 (914, L, .int z :: .int x :: st) y = evm C0 b0 L0 xs0 233 (915, L, .int (x * z) :: st) y) ∧
  (∀ (L : ri_L) (st : List Value) (y : (gy × gy) × Nat) (z x : Int32), evm C0 b0 L0 xs0 233 (915, L, .int z :: .int x :: st) y = if ¬ x = z then evm C0 b0 L0 xs0 233 (1047, L, st) y else evm C0 b0 L0 xs0 233 (918, L, st) y) ∧
  (∀ (l0 l1 l2 l3 l5 l6 l7 l8 l9 l10 l11 l12 l13 l14 l15 l16 l17 l18 l19 l20 : Option Value) (st : List Value) (y : (gy × gy) × Nat) (x : Int32), evm C0 b0 L0 xs0 233 (918, [l0, l1, l2, l3, some (.int x), l5, l6, l7, l8, l9, l10, l11, l12, l13, l14, l15, l16, l17, l18, l19, l20], st) y = evm C0 b0 L0 xs0 233 (920, [l0, l1, l2, l3, some (.int x), l5, l6, l7, l8, l9, l10, l11, l12, l13, l14, l15, l16, l17, l18, l19, l20], .int x :: st) y) ∧
  (∀ (l1 l2 l3 l4 l5 l6 l7 l8 l9 l10 l11 l12 l13 l14 l15 l16 l17 l18 l19 l20 : Option Value) (st : List Value) (y : (gy × gy) × Nat) (x : Nat), evm C0 b0 L0 xs0 233 (920, [some (.ref x), l1, l2, l3, l4, l5, l6, l7, l8, l9, l10, l11, l12, l13, l14, l15, l16, l17, l18, l19, l20], st) y = evm C0 b0 L0 xs0 233 (921, [some (.ref x), l1, l2, l3, l4, l5, l6, l7, l8, l9, l10, l11, l12, l13, l14, l15, l16, l17, l18, l19, l20], .ref x :: st) y) ∧
  (∀ (L : ri_L) (st : List Value) (y : (gy × gy) × Nat), evm C0 b0 L0 xs0 233 (921, L, st) y = evm C0 b0 L0 xs0 233 (922, L, .int (Int32.ofInt 2) :: st) y) ∧
  (∀ (L : ri_L) (st : List Value) (y : (gy × gy) × Nat), evm C0 b0 L0 xs0 233 (922, L, st) y = evm C0 b0 L0 xs0 233 (923, L, .int (Int32.ofInt 3) :: st) y) ∧
  (∀ (L : ri_L) (st : List Value) (y : (gy × gy) × Nat), evm C0 b0 L0 xs0 233 (923, L, st) y = evm C0 b0 L0 xs0 233 (924, L, .int (Int32.ofInt 0) :: st) y) ∧
  (∀ (L : ri_L) (st : List Value) (y : (gy × gy) × Nat), evm C0 b0 L0 xs0 233 (924, L, st) y = evm C0 b0 L0 xs0 233 (925, L, .int (Int32.ofInt 0) :: st) y) ∧
  (∀ (L : ri_L) (y : (gy × gy) × Nat) (a0 : Nat) (a1 : Int32) (a2 : Int32) (a3 : Int32) (a4 : Int32) (s0 : Value), evm C0 b0 L0 xs0 233 (925, L, [.int a4, .int a3, .int a2, .int a1, .ref a0, s0]) y = lm_n (calm C0 b0 L0 xs0 230 [.ref a0, .int a1, .int a2, .int a3, .int a4] y) fun v y => evm C0 b0 L0 xs0 233 (928, L, [v, s0]) y) ∧
  (∀ (L : ri_L) (st : List Value) (y : (gy × gy) × Nat) (z x : Int32), evm C0 b0 L0 xs0 233 (928, L, .int z :: .int x :: st) y = if ¬ x = z then evm C0 b0 L0 xs0 233 (1047, L, st) y else evm C0 b0 L0 xs0 233 (931, L, st) y) ∧
  (∀ (l0 l1 l2 l3 l4 l6 l7 l8 l9 l10 l11 l12 l13 l14 l15 l16 l17 l18 l19 l20 : Option Value) (st : List Value) (y : (gy × gy) × Nat) (x : Int32), evm C0 b0 L0 xs0 233 (931, [l0, l1, l2, l3, l4, some (.int x), l6, l7, l8, l9, l10, l11, l12, l13, l14, l15, l16, l17, l18, l19, l20], st) y = evm C0 b0 L0 xs0 233 (933, [l0, l1, l2, l3, l4, some (.int x), l6, l7, l8, l9, l10, l11, l12, l13, l14, l15, l16, l17, l18, l19, l20], .int x :: st) y) ∧
  (∀ (l1 l2 l3 l4 l5 l6 l7 l8 l9 l10 l11 l12 l13 l14 l15 l16 l17 l18 l19 l20 : Option Value) (st : List Value) (y : (gy × gy) × Nat) (x : Nat), evm C0 b0 L0 xs0 233 (933, [some (.ref x), l1, l2, l3, l4, l5, l6, l7, l8, l9, l10, l11, l12, l13, l14, l15, l16, l17, l18, l19, l20], st) y = evm C0 b0 L0 xs0 233 (934, [some (.ref x), l1, l2, l3, l4, l5, l6, l7, l8, l9, l10, l11, l12, l13, l14, l15, l16, l17, l18, l19, l20], .ref x :: st) y) ∧
  (∀ (L : ri_L) (st : List Value) (y : (gy × gy) × Nat), evm C0 b0 L0 xs0 233 (934, L, st) y = evm C0 b0 L0 xs0 233 (935, L, .int (Int32.ofInt 2) :: st) y) :=
  ⟨fun L st y => em_p rfl rfl,
   fun L st y => em_p rfl rfl,
   fun L st y z x => em_b rfl rfl,
   fun L st y => em_p rfl rfl,
   fun L st y => em_p rfl rfl,
   fun L st y => em_p rfl rfl,
   fun l0 l1 l2 l3 l4 l5 l6 l7 l8 l9 l10 l11 l12 l13 l14 l15 l16 l17 l18 l19 l20 st y x => em_p rfl rfl,
   fun l0 l1 l2 l3 l4 l5 l6 l7 l8 l9 l10 l11 l12 l14 l15 l16 l17 l18 l19 l20 st y x => em_p rfl rfl,
   fun L st y => em_p rfl rfl,
   fun l0 l1 l2 l3 l4 l5 l6 l7 l8 l9 l11 l12 l13 l14 l15 l16 l17 l18 l19 l20 st y x => em_p rfl rfl,
   fun l0 l1 l2 l3 l4 l5 l6 l7 l8 l9 l10 l11 l13 l14 l15 l16 l17 l18 l19 l20 st y x => em_p rfl rfl,
   fun L st y x => em_b rfl rfl,
   fun L st y => em_p rfl rfl,
   fun L st y => em_p rfl rfl,
   fun L st y => em_p rfl rfl,
   fun L st y z x => em_p rfl rfl,
   fun l0 l1 l2 l3 l4 l5 l6 l7 l8 l9 l10 l11 l12 l13 l14 l15 l16 l17 l18 l19 l20 st y x => em_p rfl rfl,
   fun l0 l1 l2 l3 l4 l5 l6 l7 l8 l9 l10 l12 l13 l14 l15 l16 l17 l18 l19 l20 st y x => em_p rfl rfl,
   fun L st y => em_p rfl rfl,
   fun l0 l1 l2 l3 l4 l5 l6 l7 l8 l10 l11 l12 l13 l14 l15 l16 l17 l18 l19 l20 st y x => em_p rfl rfl,
   fun L st y x => em_b rfl rfl,
   fun l0 l1 l2 l3 l4 l5 l6 l8 l9 l10 l11 l12 l13 l14 l15 l16 l17 l18 l19 l20 st y x => em_p rfl rfl,
   fun l0 l1 l2 l4 l5 l6 l7 l8 l9 l10 l11 l12 l13 l14 l15 l16 l17 l18 l19 l20 st y x => em_p rfl rfl,
   fun L st y z x => em_b rfl rfl,
   fun l0 l1 l2 l3 l4 l5 l6 l7 l9 l10 l11 l12 l13 l14 l15 l16 l17 l18 l19 l20 st y x => em_p rfl rfl,
   fun L st y => em_p rfl rfl,
   fun l0 l1 l3 l4 l5 l6 l7 l8 l9 l10 l11 l12 l13 l14 l15 l16 l17 l18 l19 l20 st y x => em_p rfl rfl,
   fun L st y z x => em_p rfl rfl,
   fun L st y z x => em_b rfl rfl,
   fun l0 l1 l2 l3 l5 l6 l7 l8 l9 l10 l11 l12 l13 l14 l15 l16 l17 l18 l19 l20 st y x => em_p rfl rfl,
   fun l1 l2 l3 l4 l5 l6 l7 l8 l9 l10 l11 l12 l13 l14 l15 l16 l17 l18 l19 l20 st y x => em_p rfl rfl,
   fun L st y => em_p rfl rfl,
   fun L st y => em_p rfl rfl,
   fun L st y => em_p rfl rfl,
   fun L st y => em_p rfl rfl,
   fun L y a0 a1 a2 a3 a4 s0 => em_call rfl rfl rfl rfl rfl,
   fun L st y z x => em_b rfl rfl,
   fun l0 l1 l2 l3 l4 l6 l7 l8 l9 l10 l11 l12 l13 l14 l15 l16 l17 l18 l19 l20 st y x => em_p rfl rfl,
   fun l1 l2 l3 l4 l5 l6 l7 l8 l9 l10 l11 l12 l13 l14 l15 l16 l17 l18 l19 l20 st y x => em_p rfl rfl,
   fun L st y => em_p rfl rfl⟩
set_option maxRecDepth 8000 in
theorem L_233_13 :
  (∀ (L : ri_L) (st : List Value) (y : (gy × gy) × Nat), evm C0 b0 L0 xs0 233 (935, L, st) y = evm C0 b0 L0 xs0 233 (936, L, .int (Int32.ofInt 5) :: st) y) ∧
  (∀ (L : ri_L) (st : List Value) (y : (gy × gy) × Nat), evm C0 b0 L0 xs0 233 (936, L, st) y = evm C0 b0 L0 xs0 233 (937, L, .int (Int32.ofInt 0) :: st) y) ∧
  (∀ (L : ri_L) (st : List Value) (y : (gy × gy) × Nat), evm C0 b0 L0 xs0 233 (937, L, st) y = evm C0 b0 L0 xs0 233 (938, L, .int (Int32.ofInt 0) :: st) y) ∧
  (∀ (L : ri_L) (y : (gy × gy) × Nat) (a0 : Nat) (a1 : Int32) (a2 : Int32) (a3 : Int32) (a4 : Int32) (s0 : Value), evm C0 b0 L0 xs0 233 (938, L, [.int a4, .int a3, .int a2, .int a1, .ref a0, s0]) y = lm_n (calm C0 b0 L0 xs0 230 [.ref a0, .int a1, .int a2, .int a3, .int a4] y) fun v y => evm C0 b0 L0 xs0 233 (941, L, [v, s0]) y) ∧
  (∀ (L : ri_L) (st : List Value) (y : (gy × gy) × Nat) (z x : Int32), evm C0 b0 L0 xs0 233 (941, L, .int z :: .int x :: st) y = if ¬ x = z then evm C0 b0 L0 xs0 233 (1047, L, st) y else evm C0 b0 L0 xs0 233 (944, L, st) y) ∧
  (∀ (l0 l1 l2 l3 l4 l5 l7 l8 l9 l10 l11 l12 l13 l14 l15 l16 l17 l18 l19 l20 : Option Value) (st : List Value) (y : (gy × gy) × Nat) (x : Int32), evm C0 b0 L0 xs0 233 (944, [l0, l1, l2, l3, l4, l5, some (.int x), l7, l8, l9, l10, l11, l12, l13, l14, l15, l16, l17, l18, l19, l20], st) y = evm C0 b0 L0 xs0 233 (946, [l0, l1, l2, l3, l4, l5, some (.int x), l7, l8, l9, l10, l11, l12, l13, l14, l15, l16, l17, l18, l19, l20], .int x :: st) y) ∧
  (∀ (l1 l2 l3 l4 l5 l6 l7 l8 l9 l10 l11 l12 l13 l14 l15 l16 l17 l18 l19 l20 : Option Value) (st : List Value) (y : (gy × gy) × Nat) (x : Nat), evm C0 b0 L0 xs0 233 (946, [some (.ref x), l1, l2, l3, l4, l5, l6, l7, l8, l9, l10, l11, l12, l13, l14, l15, l16, l17, l18, l19, l20], st) y = evm C0 b0 L0 xs0 233 (947, [some (.ref x), l1, l2, l3, l4, l5, l6, l7, l8, l9, l10, l11, l12, l13, l14, l15, l16, l17, l18, l19, l20], .ref x :: st) y) ∧
  (∀ (L : ri_L) (st : List Value) (y : (gy × gy) × Nat), evm C0 b0 L0 xs0 233 (947, L, st) y = evm C0 b0 L0 xs0 233 (948, L, .int (Int32.ofInt 2) :: st) y) ∧
  (∀ (L : ri_L) (st : List Value) (y : (gy × gy) × Nat), evm C0 b0 L0 xs0 233 (948, L, st) y = evm C0 b0 L0 xs0 233 (949, L, .int (Int32.ofInt 4) :: st) y) ∧
  (∀ (L : ri_L) (st : List Value) (y : (gy × gy) × Nat), evm C0 b0 L0 xs0 233 (949, L, st) y = evm C0 b0 L0 xs0 233 (950, L, .int (Int32.ofInt 0) :: st) y) ∧
  (∀ (L : ri_L) (st : List Value) (y : (gy × gy) × Nat), evm C0 b0 L0 xs0 233 (950, L, st) y = evm C0 b0 L0 xs0 233 (951, L, .int (Int32.ofInt 0) :: st) y) ∧
  (∀ (L : ri_L) (y : (gy × gy) × Nat) (a0 : Nat) (a1 : Int32) (a2 : Int32) (a3 : Int32) (a4 : Int32) (s0 : Value), evm C0 b0 L0 xs0 233 (951, L, [.int a4, .int a3, .int a2, .int a1, .ref a0, s0]) y = lm_n (calm C0 b0 L0 xs0 230 [.ref a0, .int a1, .int a2, .int a3, .int a4] y) fun v y => evm C0 b0 L0 xs0 233 (954, L, [v, s0]) y) ∧
  (∀ (L : ri_L) (st : List Value) (y : (gy × gy) × Nat) (z x : Int32), evm C0 b0 L0 xs0 233 (954, L, .int z :: .int x :: st) y = if ¬ x = z then evm C0 b0 L0 xs0 233 (1047, L, st) y else evm C0 b0 L0 xs0 233 (957, L, st) y) ∧
  (∀ (l0 l1 l2 l3 l4 l5 l6 l7 l8 l9 l11 l12 l13 l14 l15 l16 l17 l18 l19 l20 : Option Value) (st : List Value) (y : (gy × gy) × Nat) (x : Int32), evm C0 b0 L0 xs0 233 (957, [l0, l1, l2, l3, l4, l5, l6, l7, l8, l9, some (.int x), l11, l12, l13, l14, l15, l16, l17, l18, l19, l20], st) y = evm C0 b0 L0 xs0 233 (959, [l0, l1, l2, l3, l4, l5, l6, l7, l8, l9, some (.int x), l11, l12, l13, l14, l15, l16, l17, l18, l19, l20], .int x :: st) y) ∧
  (∀ (l1 l2 l3 l4 l5 l6 l7 l8 l9 l10 l11 l12 l13 l14 l15 l16 l17 l18 l19 l20 : Option Value) (st : List Value) (y : (gy × gy) × Nat) (x : Nat), evm C0 b0 L0 xs0 233 (959, [some (.ref x), l1, l2, l3, l4, l5, l6, l7, l8, l9, l10, l11, l12, l13, l14, l15, l16, l17, l18, l19, l20], st) y = evm C0 b0 L0 xs0 233 (960, [some (.ref x), l1, l2, l3, l4, l5, l6, l7, l8, l9, l10, l11, l12, l13, l14, l15, l16, l17, l18, l19, l20], .ref x :: st) y) ∧
  (∀ (L : ri_L) (st : List Value) (y : (gy × gy) × Nat), evm C0 b0 L0 xs0 233 (960, L, st) y = evm C0 b0 L0 xs0 233 (961, L, .int (Int32.ofInt 2) :: st) y) ∧
  (∀ (L : ri_L) (st : List Value) (y : (gy × gy) × Nat), evm C0 b0 L0 xs0 233 (961, L, st) y = evm C0 b0 L0 xs0 233 (963, L, .int (Int32.ofInt 10) :: st) y) ∧
  (∀ (L : ri_L) (st : List Value) (y : (gy × gy) × Nat), evm C0 b0 L0 xs0 233 (963, L, st) y = evm C0 b0 L0 xs0 233 (964, L, .int (Int32.ofInt 0) :: st) y) ∧
  (∀ (L : ri_L) (st : List Value) (y : (gy × gy) × Nat), evm C0 b0 L0 xs0 233 (964, L, st) y = evm C0 b0 L0 xs0 233 (965, L, .int (Int32.ofInt 0) :: st) y) ∧
  (∀ (L : ri_L) (y : (gy × gy) × Nat) (a0 : Nat) (a1 : Int32) (a2 : Int32) (a3 : Int32) (a4 : Int32) (s0 : Value), evm C0 b0 L0 xs0 233 (965, L, [.int a4, .int a3, .int a2, .int a1, .ref a0, s0]) y = lm_n (calm C0 b0 L0 xs0 230 [.ref a0, .int a1, .int a2, .int a3, .int a4] y) fun v y => evm C0 b0 L0 xs0 233 (968, L, [v, s0]) y) ∧
  (∀ (L : ri_L) (st : List Value) (y : (gy × gy) × Nat) (z x : Int32), evm C0 b0 L0 xs0 233 (968, L, .int z :: .int x :: st) y = if ¬ x = z then evm C0 b0 L0 xs0 233 (1047, L, st) y else evm C0 b0 L0 xs0 233 (971, L, st) y) ∧
  (∀ (l0 l1 l2 l3 l4 l5 l7 l8 l9 l10 l11 l12 l13 l14 l15 l16 l17 l18 l19 l20 : Option Value) (st : List Value) (y : (gy × gy) × Nat) (x : Int32), evm C0 b0 L0 xs0 233 (971, [l0, l1, l2, l3, l4, l5, some (.int x), l7, l8, l9, l10, l11, l12, l13, l14, l15, l16, l17, l18, l19, l20], st) y = evm C0 b0 L0 xs0 233 (973, [l0, l1, l2, l3, l4, l5, some (.int x), l7, l8, l9, l10, l11, l12, l13, l14, l15, l16, l17, l18, l19, l20], .int x :: st) y) ∧
  (∀ (l0 l1 l2 l3 l4 l6 l7 l8 l9 l10 l11 l12 l13 l14 l15 l16 l17 l18 l19 l20 : Option Value) (st : List Value) (y : (gy × gy) × Nat) (x : Int32), evm C0 b0 L0 xs0 233 (973, [l0, l1, l2, l3, l4, some (.int x), l6, l7, l8, l9, l10, l11, l12, l13, l14, l15, l16, l17, l18, l19, l20], st) y = evm C0 b0 L0 xs0 233 (975, [l0, l1, l2, l3, l4, some (.int x), l6, l7, l8, l9, l10, l11, l12, l13, l14, l15, l16, l17, l18, l19, l20], .int x :: st) y) ∧
  (∀ (L : ri_L) (st : List Value) (y : (gy × gy) × Nat) (z x : Int32), evm C0 b0 L0 xs0 233 (975, L, .int z :: .int x :: st) y = evm C0 b0 L0 xs0 233 (976, L, .int (x + z) :: st) y) ∧
  (∀ (l1 l2 l3 l4 l5 l6 l7 l8 l9 l10 l11 l12 l13 l14 l15 l16 l17 l18 l19 l20 : Option Value) (st : List Value) (y : (gy × gy) × Nat) (x : Nat), evm C0 b0 L0 xs0 233 (976, [some (.ref x), l1, l2, l3, l4, l5, l6, l7, l8, l9, l10, l11, l12, l13, l14, l15, l16, l17, l18, l19, l20], st) y = evm C0 b0 L0 xs0 233 (977, [some (.ref x), l1, l2, l3, l4, l5, l6, l7, l8, l9, l10, l11, l12, l13, l14, l15, l16, l17, l18, l19, l20], .ref x :: st) y) ∧
  (∀ (L : ri_L) (st : List Value) (y : (gy × gy) × Nat), evm C0 b0 L0 xs0 233 (977, L, st) y = evm C0 b0 L0 xs0 233 (978, L, .int (Int32.ofInt 2) :: st) y) ∧
  (∀ (L : ri_L) (st : List Value) (y : (gy × gy) × Nat), evm C0 b0 L0 xs0 233 (978, L, st) y = evm C0 b0 L0 xs0 233 (980, L, .int (Int32.ofInt 6) :: st) y) ∧
  (∀ (L : ri_L) (st : List Value) (y : (gy × gy) × Nat), evm C0 b0 L0 xs0 233 (980, L, st) y = evm C0 b0 L0 xs0 233 (981, L, .int (Int32.ofInt 0) :: st) y) ∧
  (∀ (L : ri_L) (st : List Value) (y : (gy × gy) × Nat), evm C0 b0 L0 xs0 233 (981, L, st) y = evm C0 b0 L0 xs0 233 (982, L, .int (Int32.ofInt 0) :: st) y) ∧
  (∀ (L : ri_L) (y : (gy × gy) × Nat) (a0 : Nat) (a1 : Int32) (a2 : Int32) (a3 : Int32) (a4 : Int32) (s0 : Value), evm C0 b0 L0 xs0 233 (982, L, [.int a4, .int a3, .int a2, .int a1, .ref a0, s0]) y = lm_n (calm C0 b0 L0 xs0 230 [.ref a0, .int a1, .int a2, .int a3, .int a4] y) fun v y => evm C0 b0 L0 xs0 233 (985, L, [v, s0]) y) ∧
  (∀ (L : ri_L) (st : List Value) (y : (gy × gy) × Nat) (z x : Int32), evm C0 b0 L0 xs0 233 (985, L, .int z :: .int x :: st) y = evm C0 b0 L0 xs0 233 (986, L, .int (x + z) :: st) y) ∧
  (∀ (l1 l2 l3 l4 l5 l6 l7 l8 l9 l10 l11 l12 l13 l14 l15 l16 l17 l18 l19 l20 : Option Value) (st : List Value) (y : (gy × gy) × Nat) (x : Nat), evm C0 b0 L0 xs0 233 (986, [some (.ref x), l1, l2, l3, l4, l5, l6, l7, l8, l9, l10, l11, l12, l13, l14, l15, l16, l17, l18, l19, l20], st) y = evm C0 b0 L0 xs0 233 (987, [some (.ref x), l1, l2, l3, l4, l5, l6, l7, l8, l9, l10, l11, l12, l13, l14, l15, l16, l17, l18, l19, l20], .ref x :: st) y) ∧
  (∀ (L : ri_L) (st : List Value) (y : (gy × gy) × Nat), evm C0 b0 L0 xs0 233 (987, L, st) y = evm C0 b0 L0 xs0 233 (988, L, .int (Int32.ofInt 2) :: st) y) ∧
  (∀ (L : ri_L) (st : List Value) (y : (gy × gy) × Nat), evm C0 b0 L0 xs0 233 (988, L, st) y = evm C0 b0 L0 xs0 233 (990, L, .int (Int32.ofInt 7) :: st) y) ∧
  (∀ (L : ri_L) (st : List Value) (y : (gy × gy) × Nat), evm C0 b0 L0 xs0 233 (990, L, st) y = evm C0 b0 L0 xs0 233 (991, L, .int (Int32.ofInt 0) :: st) y) ∧
  (∀ (L : ri_L) (st : List Value) (y : (gy × gy) × Nat), evm C0 b0 L0 xs0 233 (991, L, st) y = evm C0 b0 L0 xs0 233 (992, L, .int (Int32.ofInt 0) :: st) y) ∧
  (∀ (L : ri_L) (y : (gy × gy) × Nat) (a0 : Nat) (a1 : Int32) (a2 : Int32) (a3 : Int32) (a4 : Int32) (s0 : Value), evm C0 b0 L0 xs0 233 (992, L, [.int a4, .int a3, .int a2, .int a1, .ref a0, s0]) y = lm_n (calm C0 b0 L0 xs0 230 [.ref a0, .int a1, .int a2, .int a3, .int a4] y) fun v y => evm C0 b0 L0 xs0 233 (995, L, [v, s0]) y) ∧
  (∀ (L : ri_L) (st : List Value) (y : (gy × gy) × Nat) (z x : Int32), evm C0 b0 L0 xs0 233 (995, L, .int z :: .int x :: st) y = if ¬ x = z then evm C0 b0 L0 xs0 233 (1047, L, st) y else evm C0 b0 L0 xs0 233 (998, L, st) y) ∧
  (∀ (l1 l2 l3 l4 l5 l6 l7 l8 l9 l10 l11 l12 l13 l14 l15 l16 l17 l18 l19 l20 : Option Value) (st : List Value) (y : (gy × gy) × Nat) (x : Nat), evm C0 b0 L0 xs0 233 (998, [some (.ref x), l1, l2, l3, l4, l5, l6, l7, l8, l9, l10, l11, l12, l13, l14, l15, l16, l17, l18, l19, l20], st) y = evm C0 b0 L0 xs0 233 (999, [some (.ref x), l1, l2, l3, l4, l5, l6, l7, l8, l9, l10, l11, l12, l13, l14, l15, l16, l17, l18, l19, l20], .ref x :: st) y) ∧
  (∀ (L : ri_L) (st : List Value) (y : (gy × gy) × Nat), evm C0 b0 L0 xs0 233 (999, L, st) y = evm C0 b0 L0 xs0 233 (1000, L, .int (Int32.ofInt 2) :: st) y) :=
  ⟨fun L st y => em_p rfl rfl,
   fun L st y => em_p rfl rfl,
   fun L st y => em_p rfl rfl,
   fun L y a0 a1 a2 a3 a4 s0 => em_call rfl rfl rfl rfl rfl,
   fun L st y z x => em_b rfl rfl,
   fun l0 l1 l2 l3 l4 l5 l7 l8 l9 l10 l11 l12 l13 l14 l15 l16 l17 l18 l19 l20 st y x => em_p rfl rfl,
   fun l1 l2 l3 l4 l5 l6 l7 l8 l9 l10 l11 l12 l13 l14 l15 l16 l17 l18 l19 l20 st y x => em_p rfl rfl,
   fun L st y => em_p rfl rfl,
   fun L st y => em_p rfl rfl,
   fun L st y => em_p rfl rfl,
   fun L st y => em_p rfl rfl,
   fun L y a0 a1 a2 a3 a4 s0 => em_call rfl rfl rfl rfl rfl,
   fun L st y z x => em_b rfl rfl,
   fun l0 l1 l2 l3 l4 l5 l6 l7 l8 l9 l11 l12 l13 l14 l15 l16 l17 l18 l19 l20 st y x => em_p rfl rfl,
   fun l1 l2 l3 l4 l5 l6 l7 l8 l9 l10 l11 l12 l13 l14 l15 l16 l17 l18 l19 l20 st y x => em_p rfl rfl,
   fun L st y => em_p rfl rfl,
   fun L st y => em_p rfl rfl,
   fun L st y => em_p rfl rfl,
   fun L st y => em_p rfl rfl,
   fun L y a0 a1 a2 a3 a4 s0 => em_call rfl rfl rfl rfl rfl,
   fun L st y z x => em_b rfl rfl,
   fun l0 l1 l2 l3 l4 l5 l7 l8 l9 l10 l11 l12 l13 l14 l15 l16 l17 l18 l19 l20 st y x => em_p rfl rfl,
   fun l0 l1 l2 l3 l4 l6 l7 l8 l9 l10 l11 l12 l13 l14 l15 l16 l17 l18 l19 l20 st y x => em_p rfl rfl,
   fun L st y z x => em_p rfl rfl,
   fun l1 l2 l3 l4 l5 l6 l7 l8 l9 l10 l11 l12 l13 l14 l15 l16 l17 l18 l19 l20 st y x => em_p rfl rfl,
   fun L st y => em_p rfl rfl,
   fun L st y => em_p rfl rfl,
   fun L st y => em_p rfl rfl,
   fun L st y => em_p rfl rfl,
   fun L y a0 a1 a2 a3 a4 s0 => em_call rfl rfl rfl rfl rfl,
   fun L st y z x => em_p rfl rfl,
   fun l1 l2 l3 l4 l5 l6 l7 l8 l9 l10 l11 l12 l13 l14 l15 l16 l17 l18 l19 l20 st y x => em_p rfl rfl,
   fun L st y => em_p rfl rfl,
   fun L st y => em_p rfl rfl,
   fun L st y => em_p rfl rfl,
   fun L st y => em_p rfl rfl,
   fun L y a0 a1 a2 a3 a4 s0 => em_call rfl rfl rfl rfl rfl,
   fun L st y z x => em_b rfl rfl,
   fun l1 l2 l3 l4 l5 l6 l7 l8 l9 l10 l11 l12 l13 l14 l15 l16 l17 l18 l19 l20 st y x => em_p rfl rfl,
   fun L st y => em_p rfl rfl⟩
set_option maxRecDepth 8000 in
theorem L_233_14 :
  (∀ (L : ri_L) (st : List Value) (y : (gy × gy) × Nat), evm C0 b0 L0 xs0 233 (1000, L, st) y = evm C0 b0 L0 xs0 233 (1002, L, .int (Int32.ofInt 7) :: st) y) ∧
  (∀ (L : ri_L) (st : List Value) (y : (gy × gy) × Nat), evm C0 b0 L0 xs0 233 (1002, L, st) y = evm C0 b0 L0 xs0 233 (1003, L, .int (Int32.ofInt 0) :: st) y) ∧
  (∀ (L : ri_L) (st : List Value) (y : (gy × gy) × Nat), evm C0 b0 L0 xs0 233 (1003, L, st) y = evm C0 b0 L0 xs0 233 (1004, L, .int (Int32.ofInt 0) :: st) y) ∧
  (∀ (L : ri_L) (y : (gy × gy) × Nat) (a0 : Nat) (a1 : Int32) (a2 : Int32) (a3 : Int32) (a4 : Int32), evm C0 b0 L0 xs0 233 (1004, L, [.int a4, .int a3, .int a2, .int a1, .ref a0]) y = lm_n (calm C0 b0 L0 xs0 230 [.ref a0, .int a1, .int a2, .int a3, .int a4] y) fun v y => evm C0 b0 L0 xs0 233 (1007, L, [v]) y) ∧
  (∀ (l0 l1 l2 l3 l5 l6 l7 l8 l9 l10 l11 l12 l13 l14 l15 l16 l17 l18 l19 l20 : Option Value) (st : List Value) (y : (gy × gy) × Nat) (x : Int32), evm C0 b0 L0 xs0 233 (1007, [l0, l1, l2, l3, some (.int x), l5, l6, l7, l8, l9, l10, l11, l12, l13, l14, l15, l16, l17, l18, l19, l20], st) y = evm C0 b0 L0 xs0 233 (1009, [l0, l1, l2, l3, some (.int x), l5, l6, l7, l8, l9, l10, l11, l12, l13, l14, l15, l16, l17, l18, l19, l20], .int x :: st) y) ∧
  (∀ (L : ri_L) (st : List Value) (y : (gy × gy) × Nat) (z x : Int32), evm C0 b0 L0 xs0 233 (1009, L, .int z :: .int x :: st) y = if x < z then evm C0 b0 L0 xs0 233 (1047, L, st) y else evm C0 b0 L0 xs0 233 (1012, L, st) y) ∧
  (∀ (l1 l2 l3 l4 l5 l6 l7 l8 l9 l10 l11 l12 l13 l14 l15 l16 l17 l18 l19 l20 : Option Value) (st : List Value) (y : (gy × gy) × Nat) (x : Nat), evm C0 b0 L0 xs0 233 (1012, [some (.ref x), l1, l2, l3, l4, l5, l6, l7, l8, l9, l10, l11, l12, l13, l14, l15, l16, l17, l18, l19, l20], st) y = evm C0 b0 L0 xs0 233 (1013, [some (.ref x), l1, l2, l3, l4, l5, l6, l7, l8, l9, l10, l11, l12, l13, l14, l15, l16, l17, l18, l19, l20], .ref x :: st) y) ∧
  (∀ (L : ri_L) (st : List Value) (y : (gy × gy) × Nat), evm C0 b0 L0 xs0 233 (1013, L, st) y = evm C0 b0 L0 xs0 233 (1014, L, .int (Int32.ofInt 2) :: st) y) ∧
  (∀ (L : ri_L) (st : List Value) (y : (gy × gy) × Nat), evm C0 b0 L0 xs0 233 (1014, L, st) y = evm C0 b0 L0 xs0 233 (1016, L, .int (Int32.ofInt 8) :: st) y) ∧
  (∀ (L : ri_L) (st : List Value) (y : (gy × gy) × Nat), evm C0 b0 L0 xs0 233 (1016, L, st) y = evm C0 b0 L0 xs0 233 (1017, L, .int (Int32.ofInt 0) :: st) y) ∧
  (∀ (L : ri_L) (st : List Value) (y : (gy × gy) × Nat), evm C0 b0 L0 xs0 233 (1017, L, st) y = evm C0 b0 L0 xs0 233 (1018, L, .int (Int32.ofInt 0) :: st) y) ∧
  (∀ (L : ri_L) (y : (gy × gy) × Nat) (a0 : Nat) (a1 : Int32) (a2 : Int32) (a3 : Int32) (a4 : Int32), evm C0 b0 L0 xs0 233 (1018, L, [.int a4, .int a3, .int a2, .int a1, .ref a0]) y = lm_n (calm C0 b0 L0 xs0 230 [.ref a0, .int a1, .int a2, .int a3, .int a4] y) fun v y => evm C0 b0 L0 xs0 233 (1021, L, [v]) y) ∧
  (∀ (L : ri_L) (st : List Value) (y : (gy × gy) × Nat), evm C0 b0 L0 xs0 233 (1021, L, st) y = evm C0 b0 L0 xs0 233 (1022, L, .int (Int32.ofInt (-1)) :: st) y) ∧
  (∀ (L : ri_L) (st : List Value) (y : (gy × gy) × Nat) (z x : Int32), evm C0 b0 L0 xs0 233 (1022, L, .int z :: .int x :: st) y = if ¬ x = z then evm C0 b0 L0 xs0 233 (1029, L, st) y else evm C0 b0 L0 xs0 233 (1025, L, st) y) ∧
  (∀ (L : ri_L) (st : List Value) (y : (gy × gy) × Nat), evm C0 b0 L0 xs0 233 (1025, L, st) y = evm C0 b0 L0 xs0 233 (1026, L, .int (Int32.ofInt 1) :: st) y) ∧
  (∀ (L : ri_L) (st : List Value) (y : (gy × gy) × Nat), evm C0 b0 L0 xs0 233 (1026, L, st) y = evm C0 b0 L0 xs0 233 (1030, L, st) y) ∧
  (∀ (L : ri_L) (st : List Value) (y : (gy × gy) × Nat), evm C0 b0 L0 xs0 233 (1029, L, st) y = evm C0 b0 L0 xs0 233 (1030, L, .int (Int32.ofInt 0) :: st) y) ∧
  (∀ (l0 l1 l2 l3 l5 l6 l7 l8 l9 l10 l11 l12 l13 l14 l15 l16 l17 l18 l19 l20 : Option Value) (st : List Value) (y : (gy × gy) × Nat) (x : Int32), evm C0 b0 L0 xs0 233 (1030, [l0, l1, l2, l3, some (.int x), l5, l6, l7, l8, l9, l10, l11, l12, l13, l14, l15, l16, l17, l18, l19, l20], st) y = evm C0 b0 L0 xs0 233 (1032, [l0, l1, l2, l3, some (.int x), l5, l6, l7, l8, l9, l10, l11, l12, l13, l14, l15, l16, l17, l18, l19, l20], .int x :: st) y) ∧
  (∀ (L : ri_L) (st : List Value) (y : (gy × gy) × Nat) (x : Int32), evm C0 b0 L0 xs0 233 (1032, L, .int x :: st) y = if ¬ x = 0 then evm C0 b0 L0 xs0 233 (1039, L, st) y else evm C0 b0 L0 xs0 233 (1035, L, st) y) ∧
  (∀ (L : ri_L) (st : List Value) (y : (gy × gy) × Nat), evm C0 b0 L0 xs0 233 (1035, L, st) y = evm C0 b0 L0 xs0 233 (1036, L, .int (Int32.ofInt 1) :: st) y) ∧
  (∀ (L : ri_L) (st : List Value) (y : (gy × gy) × Nat), evm C0 b0 L0 xs0 233 (1036, L, st) y = evm C0 b0 L0 xs0 233 (1040, L, st) y) ∧
  (∀ (L : ri_L) (st : List Value) (y : (gy × gy) × Nat), evm C0 b0 L0 xs0 233 (1039, L, st) y = evm C0 b0 L0 xs0 233 (1040, L, .int (Int32.ofInt 0) :: st) y) ∧
  (∀ (L : ri_L) (st : List Value) (y : (gy × gy) × Nat) (z x : Int32), evm C0 b0 L0 xs0 233 (1040, L, .int z :: .int x :: st) y = if ¬ x = z then evm C0 b0 L0 xs0 233 (1047, L, st) y else evm C0 b0 L0 xs0 233 (1043, L, st) y) ∧
  (∀ (L : ri_L) (st : List Value) (y : (gy × gy) × Nat), evm C0 b0 L0 xs0 233 (1043, L, st) y = evm C0 b0 L0 xs0 233 (1044, L, .int (Int32.ofInt 1) :: st) y) ∧
  (∀ (L : ri_L) (st : List Value) (y : (gy × gy) × Nat), evm C0 b0 L0 xs0 233 (1044, L, st) y = evm C0 b0 L0 xs0 233 (1048, L, st) y) ∧
  (∀ (L : ri_L) (st : List Value) (y : (gy × gy) × Nat), evm C0 b0 L0 xs0 233 (1047, L, st) y = evm C0 b0 L0 xs0 233 (1048, L, .int (Int32.ofInt 0) :: st) y) ∧
  (∀ (L : ri_L) (y : (gy × gy) × Nat) (x : Int32), evm C0 b0 L0 xs0 233 (1048, L, [.int x]) y = lm_b x (some (.int x, y))) :=
  ⟨fun L st y => em_p rfl rfl,
   fun L st y => em_p rfl rfl,
   fun L st y => em_p rfl rfl,
   fun L y a0 a1 a2 a3 a4 => em_call rfl rfl rfl rfl rfl,
   fun l0 l1 l2 l3 l5 l6 l7 l8 l9 l10 l11 l12 l13 l14 l15 l16 l17 l18 l19 l20 st y x => em_p rfl rfl,
   fun L st y z x => em_b rfl rfl,
   fun l1 l2 l3 l4 l5 l6 l7 l8 l9 l10 l11 l12 l13 l14 l15 l16 l17 l18 l19 l20 st y x => em_p rfl rfl,
   fun L st y => em_p rfl rfl,
   fun L st y => em_p rfl rfl,
   fun L st y => em_p rfl rfl,
   fun L st y => em_p rfl rfl,
   fun L y a0 a1 a2 a3 a4 => em_call rfl rfl rfl rfl rfl,
   fun L st y => em_p rfl rfl,
   fun L st y z x => em_b rfl rfl,
   fun L st y => em_p rfl rfl,
   fun L st y => em_p rfl rfl,
   fun L st y => em_p rfl rfl,
   fun l0 l1 l2 l3 l5 l6 l7 l8 l9 l10 l11 l12 l13 l14 l15 l16 l17 l18 l19 l20 st y x => em_p rfl rfl,
   fun L st y x => em_b rfl rfl,
   fun L st y => em_p rfl rfl,
   fun L st y => em_p rfl rfl,
   fun L st y => em_p rfl rfl,
   fun L st y z x => em_b rfl rfl,
   fun L st y => em_p rfl rfl,
   fun L st y => em_p rfl rfl,
   fun L st y => em_p rfl rfl,
   fun L y x => em_r rfl rfl⟩
theorem M_234 (x0 : Nat) (x1 : Int32) (y : (gy × gy) × Nat) : calm C0 b0 L0 xs0 234 [.ref x0, .int x1] y = evm C0 b0 L0 xs0 234 (0, [some (.ref x0), some (.int x1), none, none, none, none, none, none, none], []) y := em_in rfl
set_option maxRecDepth 8000 in
theorem L_234_0 :
  (∀ (l0 l2 l3 l4 l5 l6 l7 l8 : Option Value) (st : List Value) (y : (gy × gy) × Nat) (x : Int32), evm C0 b0 L0 xs0 234 (0, [l0, some (.int x), l2, l3, l4, l5, l6, l7, l8], st) y = evm C0 b0 L0 xs0 234 (1, [l0, some (.int x), l2, l3, l4, l5, l6, l7, l8], .int x :: st) y) ∧
  (∀ (L : ri_L) (st : List Value) (y : (gy × gy) × Nat), evm C0 b0 L0 xs0 234 (1, L, st) y = evm C0 b0 L0 xs0 234 (3, L, .int (Int32.ofInt 16) :: st) y) ∧
  (∀ (L : ri_L) (st : List Value) (y : (gy × gy) × Nat) (z x : Int32), evm C0 b0 L0 xs0 234 (3, L, .int z :: .int x :: st) y = if z = 0 then none else evm C0 b0 L0 xs0 234 (4, L, .int (x / z) :: st) y) ∧
  (∀ (l0 l1 l2 l3 l4 l5 l6 l7 l8 : Option Value) (st : List Value) (y : (gy × gy) × Nat) (x : Int32), evm C0 b0 L0 xs0 234 (4, [l0, l1, l2, l3, l4, l5, l6, l7, l8], .int x :: st) y = evm C0 b0 L0 xs0 234 (5, [l0, ri_clr l1, some (.int x), l3, l4, l5, l6, l7, l8], st) y) ∧
  (∀ (l1 l2 l3 l4 l5 l6 l7 l8 : Option Value) (st : List Value) (y : (gy × gy) × Nat) (x : Nat), evm C0 b0 L0 xs0 234 (5, [some (.ref x), l1, l2, l3, l4, l5, l6, l7, l8], st) y = evm C0 b0 L0 xs0 234 (6, [some (.ref x), l1, l2, l3, l4, l5, l6, l7, l8], .ref x :: st) y) ∧
  (∀ (L : ri_L) (st : List Value) (y : (gy × gy) × Nat), evm C0 b0 L0 xs0 234 (6, L, st) y = evm C0 b0 L0 xs0 234 (7, L, .int (Int32.ofInt 2) :: st) y) ∧
  (∀ (L : ri_L) (st : List Value) (y : (gy × gy) × Nat), evm C0 b0 L0 xs0 234 (7, L, st) y = evm C0 b0 L0 xs0 234 (8, L, .int (Int32.ofInt 0) :: st) y) ∧
  (∀ (L : ri_L) (st : List Value) (y : (gy × gy) × Nat), evm C0 b0 L0 xs0 234 (8, L, st) y = evm C0 b0 L0 xs0 234 (9, L, .int (Int32.ofInt 0) :: st) y) ∧
  (∀ (L : ri_L) (st : List Value) (y : (gy × gy) × Nat), evm C0 b0 L0 xs0 234 (9, L, st) y = evm C0 b0 L0 xs0 234 (10, L, .int (Int32.ofInt 0) :: st) y) ∧
  (∀ (L : ri_L) (y : (gy × gy) × Nat) (a0 : Nat) (a1 : Int32) (a2 : Int32) (a3 : Int32) (a4 : Int32), evm C0 b0 L0 xs0 234 (10, L, [.int a4, .int a3, .int a2, .int a1, .ref a0]) y = lm_n (calm C0 b0 L0 xs0 230 [.ref a0, .int a1, .int a2, .int a3, .int a4] y) fun v y => evm C0 b0 L0 xs0 234 (13, L, [v]) y) ∧
  (∀ (l0 l1 l2 l3 l4 l5 l6 l7 l8 : Option Value) (st : List Value) (y : (gy × gy) × Nat) (x : Int32), evm C0 b0 L0 xs0 234 (13, [l0, l1, l2, l3, l4, l5, l6, l7, l8], .int x :: st) y = evm C0 b0 L0 xs0 234 (14, [l0, l1, ri_clr l2, some (.int x), l4, l5, l6, l7, l8], st) y) ∧
  (∀ (l1 l2 l3 l4 l5 l6 l7 l8 : Option Value) (st : List Value) (y : (gy × gy) × Nat) (x : Nat), evm C0 b0 L0 xs0 234 (14, [some (.ref x), l1, l2, l3, l4, l5, l6, l7, l8], st) y = evm C0 b0 L0 xs0 234 (15, [some (.ref x), l1, l2, l3, l4, l5, l6, l7, l8], .ref x :: st) y) ∧
  (∀ (L : ri_L) (st : List Value) (y : (gy × gy) × Nat), evm C0 b0 L0 xs0 234 (15, L, st) y = evm C0 b0 L0 xs0 234 (16, L, .int (Int32.ofInt 2) :: st) y) ∧
  (∀ (L : ri_L) (st : List Value) (y : (gy × gy) × Nat), evm C0 b0 L0 xs0 234 (16, L, st) y = evm C0 b0 L0 xs0 234 (17, L, .int (Int32.ofInt 1) :: st) y) ∧
  (∀ (L : ri_L) (st : List Value) (y : (gy × gy) × Nat), evm C0 b0 L0 xs0 234 (17, L, st) y = evm C0 b0 L0 xs0 234 (18, L, .int (Int32.ofInt 0) :: st) y) ∧
  (∀ (L : ri_L) (st : List Value) (y : (gy × gy) × Nat), evm C0 b0 L0 xs0 234 (18, L, st) y = evm C0 b0 L0 xs0 234 (19, L, .int (Int32.ofInt 0) :: st) y) ∧
  (∀ (L : ri_L) (y : (gy × gy) × Nat) (a0 : Nat) (a1 : Int32) (a2 : Int32) (a3 : Int32) (a4 : Int32), evm C0 b0 L0 xs0 234 (19, L, [.int a4, .int a3, .int a2, .int a1, .ref a0]) y = lm_n (calm C0 b0 L0 xs0 230 [.ref a0, .int a1, .int a2, .int a3, .int a4] y) fun v y => evm C0 b0 L0 xs0 234 (22, L, [v]) y) ∧
  (∀ (l0 l1 l2 l3 l4 l5 l6 l7 l8 : Option Value) (st : List Value) (y : (gy × gy) × Nat) (x : Int32), evm C0 b0 L0 xs0 234 (22, [l0, l1, l2, l3, l4, l5, l6, l7, l8], .int x :: st) y = evm C0 b0 L0 xs0 234 (24, [l0, l1, l2, ri_clr l3, some (.int x), l5, l6, l7, l8], st) y) ∧
  (∀ (l1 l2 l3 l4 l5 l6 l7 l8 : Option Value) (st : List Value) (y : (gy × gy) × Nat) (x : Nat), evm C0 b0 L0 xs0 234 (24, [some (.ref x), l1, l2, l3, l4, l5, l6, l7, l8], st) y = evm C0 b0 L0 xs0 234 (25, [some (.ref x), l1, l2, l3, l4, l5, l6, l7, l8], .ref x :: st) y) ∧
  (∀ (L : ri_L) (st : List Value) (y : (gy × gy) × Nat), evm C0 b0 L0 xs0 234 (25, L, st) y = evm C0 b0 L0 xs0 234 (26, L, .int (Int32.ofInt 2) :: st) y) ∧
  (∀ (L : ri_L) (st : List Value) (y : (gy × gy) × Nat), evm C0 b0 L0 xs0 234 (26, L, st) y = evm C0 b0 L0 xs0 234 (27, L, .int (Int32.ofInt 2) :: st) y) ∧
  (∀ (L : ri_L) (st : List Value) (y : (gy × gy) × Nat), evm C0 b0 L0 xs0 234 (27, L, st) y = evm C0 b0 L0 xs0 234 (28, L, .int (Int32.ofInt 0) :: st) y) ∧
  (∀ (L : ri_L) (st : List Value) (y : (gy × gy) × Nat), evm C0 b0 L0 xs0 234 (28, L, st) y = evm C0 b0 L0 xs0 234 (29, L, .int (Int32.ofInt 0) :: st) y) ∧
  (∀ (L : ri_L) (y : (gy × gy) × Nat) (a0 : Nat) (a1 : Int32) (a2 : Int32) (a3 : Int32) (a4 : Int32), evm C0 b0 L0 xs0 234 (29, L, [.int a4, .int a3, .int a2, .int a1, .ref a0]) y = lm_n (calm C0 b0 L0 xs0 230 [.ref a0, .int a1, .int a2, .int a3, .int a4] y) fun v y => evm C0 b0 L0 xs0 234 (32, L, [v]) y) ∧
  (∀ (l0 l1 l2 l3 l4 l5 l6 l7 l8 : Option Value) (st : List Value) (y : (gy × gy) × Nat) (x : Int32), evm C0 b0 L0 xs0 234 (32, [l0, l1, l2, l3, l4, l5, l6, l7, l8], .int x :: st) y = evm C0 b0 L0 xs0 234 (34, [l0, l1, l2, l3, ri_clr l4, some (.int x), l6, l7, l8], st) y) ∧
  (∀ (l0 l1 l3 l4 l5 l6 l7 l8 : Option Value) (st : List Value) (y : (gy × gy) × Nat) (x : Int32), evm C0 b0 L0 xs0 234 (34, [l0, l1, some (.int x), l3, l4, l5, l6, l7, l8], st) y = evm C0 b0 L0 xs0 234 (35, [l0, l1, some (.int x), l3, l4, l5, l6, l7, l8], .int x :: st) y) ∧
  (∀ (l0 l1 l2 l4 l5 l6 l7 l8 : Option Value) (st : List Value) (y : (gy × gy) × Nat) (x : Int32), evm C0 b0 L0 xs0 234 (35, [l0, l1, l2, some (.int x), l4, l5, l6, l7, l8], st) y = evm C0 b0 L0 xs0 234 (36, [l0, l1, l2, some (.int x), l4, l5, l6, l7, l8], .int x :: st) y) ∧
  (∀ (L : ri_L) (st : List Value) (y : (gy × gy) × Nat) (z x : Int32), evm C0 b0 L0 xs0 234 (36, L, .int z :: .int x :: st) y = if z = 0 then none else evm C0 b0 L0 xs0 234 (37, L, .int (x - x / z * z) :: st) y) ∧
  (∀ (l0 l1 l2 l3 l4 l5 l6 l7 l8 : Option Value) (st : List Value) (y : (gy × gy) × Nat) (x : Int32), evm C0 b0 L0 xs0 234 (37, [l0, l1, l2, l3, l4, l5, l6, l7, l8], .int x :: st) y = evm C0 b0 L0 xs0 234 (39, [l0, l1, l2, l3, l4, ri_clr l5, some (.int x), l7, l8], st) y) ∧
  (∀ (l0 l1 l2 l3 l4 l6 l7 l8 : Option Value) (st : List Value) (y : (gy × gy) × Nat) (x : Int32), evm C0 b0 L0 xs0 234 (39, [l0, l1, l2, l3, l4, some (.int x), l6, l7, l8], st) y = evm C0 b0 L0 xs0 234 (41, [l0, l1, l2, l3, l4, some (.int x), l6, l7, l8], .int x :: st) y) ∧
  (∀ (L : ri_L) (st : List Value) (y : (gy × gy) × Nat) (x : Int32), evm C0 b0 L0 xs0 234 (41, L, .int x :: st) y = if ¬ x = 0 then evm C0 b0 L0 xs0 234 (48, L, st) y else evm C0 b0 L0 xs0 234 (44, L, st) y) ∧
  (∀ (L : ri_L) (st : List Value) (y : (gy × gy) × Nat), evm C0 b0 L0 xs0 234 (44, L, st) y = evm C0 b0 L0 xs0 234 (45, L, .int (Int32.ofInt 0) :: st) y) ∧
  (∀ (L : ri_L) (st : List Value) (y : (gy × gy) × Nat), evm C0 b0 L0 xs0 234 (45, L, st) y = evm C0 b0 L0 xs0 234 (52, L, st) y) ∧
  (∀ (l0 l1 l3 l4 l5 l6 l7 l8 : Option Value) (st : List Value) (y : (gy × gy) × Nat) (x : Int32), evm C0 b0 L0 xs0 234 (48, [l0, l1, some (.int x), l3, l4, l5, l6, l7, l8], st) y = evm C0 b0 L0 xs0 234 (49, [l0, l1, some (.int x), l3, l4, l5, l6, l7, l8], .int x :: st) y) ∧
  (∀ (l0 l1 l2 l3 l4 l6 l7 l8 : Option Value) (st : List Value) (y : (gy × gy) × Nat) (x : Int32), evm C0 b0 L0 xs0 234 (49, [l0, l1, l2, l3, l4, some (.int x), l6, l7, l8], st) y = evm C0 b0 L0 xs0 234 (51, [l0, l1, l2, l3, l4, some (.int x), l6, l7, l8], .int x :: st) y) ∧
  (∀ (L : ri_L) (st : List Value) (y : (gy × gy) × Nat) (z x : Int32), evm C0 b0 L0 xs0 234 (51, L, .int z :: .int x :: st) y = if z = 0 then none else evm C0 b0 L0 xs0 234 (52, L, .int (x - x / z * z) :: st) y) ∧
  (∀ (l0 l1 l2 l3 l4 l5 l6 l7 l8 : Option Value) (st : List Value) (y : (gy × gy) × Nat) (x : Int32), evm C0 b0 L0 xs0 234 (52, [l0, l1, l2, l3, l4, l5, l6, l7, l8], .int x :: st) y = evm C0 b0 L0 xs0 234 (54, [l0, l1, l2, l3, l4, l5, ri_clr l6, some (.int x), l8], st) y) ∧
  (∀ (l0 l1 l2 l3 l5 l6 l7 l8 : Option Value) (st : List Value) (y : (gy × gy) × Nat) (x : Int32), evm C0 b0 L0 xs0 234 (54, [l0, l1, l2, l3, some (.int x), l5, l6, l7, l8], st) y = evm C0 b0 L0 xs0 234 (56, [l0, l1, l2, l3, some (.int x), l5, l6, l7, l8], .int x :: st) y) ∧
  (∀ (L : ri_L) (st : List Value) (y : (gy × gy) × Nat) (x : Int32), evm C0 b0 L0 xs0 234 (56, L, .int x :: st) y = if ¬ x = 0 then evm C0 b0 L0 xs0 234 (63, L, st) y else evm C0 b0 L0 xs0 234 (59, L, st) y) ∧
  (∀ (L : ri_L) (st : List Value) (y : (gy × gy) × Nat), evm C0 b0 L0 xs0 234 (59, L, st) y = evm C0 b0 L0 xs0 234 (60, L, .int (Int32.ofInt 0) :: st) y) :=
  ⟨fun l0 l2 l3 l4 l5 l6 l7 l8 st y x => em_p rfl rfl,
   fun L st y => em_p rfl rfl,
   fun L st y z x => em_d rfl rfl,
   fun l0 l1 l2 l3 l4 l5 l6 l7 l8 st y x => em_p rfl rfl,
   fun l1 l2 l3 l4 l5 l6 l7 l8 st y x => em_p rfl rfl,
   fun L st y => em_p rfl rfl,
   fun L st y => em_p rfl rfl,
   fun L st y => em_p rfl rfl,
   fun L st y => em_p rfl rfl,
   fun L y a0 a1 a2 a3 a4 => em_call rfl rfl rfl rfl rfl,
   fun l0 l1 l2 l3 l4 l5 l6 l7 l8 st y x => em_p rfl rfl,
   fun l1 l2 l3 l4 l5 l6 l7 l8 st y x => em_p rfl rfl,
   fun L st y => em_p rfl rfl,
   fun L st y => em_p rfl rfl,
   fun L st y => em_p rfl rfl,
   fun L st y => em_p rfl rfl,
   fun L y a0 a1 a2 a3 a4 => em_call rfl rfl rfl rfl rfl,
   fun l0 l1 l2 l3 l4 l5 l6 l7 l8 st y x => em_p rfl rfl,
   fun l1 l2 l3 l4 l5 l6 l7 l8 st y x => em_p rfl rfl,
   fun L st y => em_p rfl rfl,
   fun L st y => em_p rfl rfl,
   fun L st y => em_p rfl rfl,
   fun L st y => em_p rfl rfl,
   fun L y a0 a1 a2 a3 a4 => em_call rfl rfl rfl rfl rfl,
   fun l0 l1 l2 l3 l4 l5 l6 l7 l8 st y x => em_p rfl rfl,
   fun l0 l1 l3 l4 l5 l6 l7 l8 st y x => em_p rfl rfl,
   fun l0 l1 l2 l4 l5 l6 l7 l8 st y x => em_p rfl rfl,
   fun L st y z x => em_d rfl rfl,
   fun l0 l1 l2 l3 l4 l5 l6 l7 l8 st y x => em_p rfl rfl,
   fun l0 l1 l2 l3 l4 l6 l7 l8 st y x => em_p rfl rfl,
   fun L st y x => em_b rfl rfl,
   fun L st y => em_p rfl rfl,
   fun L st y => em_p rfl rfl,
   fun l0 l1 l3 l4 l5 l6 l7 l8 st y x => em_p rfl rfl,
   fun l0 l1 l2 l3 l4 l6 l7 l8 st y x => em_p rfl rfl,
   fun L st y z x => em_d rfl rfl,
   fun l0 l1 l2 l3 l4 l5 l6 l7 l8 st y x => em_p rfl rfl,
   fun l0 l1 l2 l3 l5 l6 l7 l8 st y x => em_p rfl rfl,
   fun L st y x => em_b rfl rfl,
   fun L st y => em_p rfl rfl⟩
set_option maxRecDepth 8000 in
theorem L_234_1 :
  (∀ (L : ri_L) (st : List Value) (y : (gy × gy) × Nat), evm C0 b0 L0 xs0 234 (60, L, st) y = evm C0 b0 L0 xs0 234 (69, L, st) y) ∧
  (∀ (l0 l1 l3 l4 l5 l6 l7 l8 : Option Value) (st : List Value) (y : (gy × gy) × Nat) (x : Int32), evm C0 b0 L0 xs0 234 (63, [l0, l1, some (.int x), l3, l4, l5, l6, l7, l8], st) y = evm C0 b0 L0 xs0 234 (64, [l0, l1, some (.int x), l3, l4, l5, l6, l7, l8], .int x :: st) y) ∧
  (∀ (L : ri_L) (st : List Value) (y : (gy × gy) × Nat), evm C0 b0 L0 xs0 234 (64, L, st) y = evm C0 b0 L0 xs0 234 (65, L, .int (Int32.ofInt 5) :: st) y) ∧
  (∀ (L : ri_L) (st : List Value) (y : (gy × gy) × Nat) (z x : Int32), evm C0 b0 L0 xs0 234 (65, L, .int z :: .int x :: st) y = if z = 0 then none else evm C0 b0 L0 xs0 234 (66, L, .int (x / z) :: st) y) ∧
  (∀ (l0 l1 l2 l3 l5 l6 l7 l8 : Option Value) (st : List Value) (y : (gy × gy) × Nat) (x : Int32), evm C0 b0 L0 xs0 234 (66, [l0, l1, l2, l3, some (.int x), l5, l6, l7, l8], st) y = evm C0 b0 L0 xs0 234 (68, [l0, l1, l2, l3, some (.int x), l5, l6, l7, l8], .int x :: st) y) ∧
  (∀ (L : ri_L) (st : List Value) (y : (gy × gy) × Nat) (z x : Int32), evm C0 b0 L0 xs0 234 (68, L, .int z :: .int x :: st) y = if z = 0 then none else evm C0 b0 L0 xs0 234 (69, L, .int (x - x / z * z) :: st) y) ∧
  (∀ (l0 l1 l2 l3 l4 l5 l6 l7 l8 : Option Value) (st : List Value) (y : (gy × gy) × Nat) (x : Int32), evm C0 b0 L0 xs0 234 (69, [l0, l1, l2, l3, l4, l5, l6, l7, l8], .int x :: st) y = evm C0 b0 L0 xs0 234 (71, [l0, l1, l2, l3, l4, l5, l6, ri_clr l7, some (.int x)], st) y) ∧
  (∀ (l0 l2 l3 l4 l5 l6 l7 l8 : Option Value) (st : List Value) (y : (gy × gy) × Nat) (x : Int32), evm C0 b0 L0 xs0 234 (71, [l0, some (.int x), l2, l3, l4, l5, l6, l7, l8], st) y = evm C0 b0 L0 xs0 234 (72, [l0, some (.int x), l2, l3, l4, l5, l6, l7, l8], .int x :: st) y) ∧
  (∀ (L : ri_L) (st : List Value) (y : (gy × gy) × Nat), evm C0 b0 L0 xs0 234 (72, L, st) y = evm C0 b0 L0 xs0 234 (74, L, .int (Int32.ofInt 16) :: st) y) ∧
  (∀ (L : ri_L) (st : List Value) (y : (gy × gy) × Nat) (z x : Int32), evm C0 b0 L0 xs0 234 (74, L, .int z :: .int x :: st) y = if z = 0 then none else evm C0 b0 L0 xs0 234 (75, L, .int (x - x / z * z) :: st) y) ∧
  (∀ (L : ri_L) (st : List Value) (y : (gy × gy) × Nat) (x : Int32), evm C0 b0 L0 xs0 234 (75, L, .int x :: st) y = evm C0 b0 L0 xs0 234 (ri_tab [136, 163, 163, 187, 210, 233, 251, 263, 289, 325, 325, 325] (Int32.ofInt 0) 348 x, L, st) y) ∧
  (∀ (l1 l2 l3 l4 l5 l6 l7 l8 : Option Value) (st : List Value) (y : (gy × gy) × Nat) (x : Nat), evm C0 b0 L0 xs0 234 (136, [some (.ref x), l1, l2, l3, l4, l5, l6, l7, l8], st) y = evm C0 b0 L0 xs0 234 (137, [some (.ref x), l1, l2, l3, l4, l5, l6, l7, l8], .ref x :: st) y) ∧
  (∀ (L : ri_L) (st : List Value) (y : (gy × gy) × Nat), evm C0 b0 L0 xs0 234 (137, L, st) y = evm C0 b0 L0 xs0 234 (139, L, .int (Int32.ofInt 7) :: st) y) ∧
  (∀ (L : ri_L) (st : List Value) (y : (gy × gy) × Nat), evm C0 b0 L0 xs0 234 (139, L, st) y = evm C0 b0 L0 xs0 234 (140, L, .int (Int32.ofInt 3) :: st) y) ∧
  (∀ (l0 l1 l3 l4 l5 l6 l7 l8 : Option Value) (st : List Value) (y : (gy × gy) × Nat) (x : Int32), evm C0 b0 L0 xs0 234 (140, [l0, l1, some (.int x), l3, l4, l5, l6, l7, l8], st) y = evm C0 b0 L0 xs0 234 (141, [l0, l1, some (.int x), l3, l4, l5, l6, l7, l8], .int x :: st) y) ∧
  (∀ (L : ri_L) (st : List Value) (y : (gy × gy) × Nat), evm C0 b0 L0 xs0 234 (141, L, st) y = evm C0 b0 L0 xs0 234 (142, L, .int (Int32.ofInt 3) :: st) y) ∧
  (∀ (L : ri_L) (st : List Value) (y : (gy × gy) × Nat) (z x : Int32), evm C0 b0 L0 xs0 234 (142, L, .int z :: .int x :: st) y = if z = 0 then none else evm C0 b0 L0 xs0 234 (143, L, .int (x - x / z * z) :: st) y) ∧
  (∀ (L : ri_L) (st : List Value) (y : (gy × gy) × Nat) (z x : Int32), evm C0 b0 L0 xs0 234 (143, L, .int z :: .int x :: st) y = evm C0 b0 L0 xs0 234 (144, L, .int (x + z) :: st) y) ∧
  (∀ (l0 l1 l3 l4 l5 l6 l7 l8 : Option Value) (st : List Value) (y : (gy × gy) × Nat) (x : Int32), evm C0 b0 L0 xs0 234 (144, [l0, l1, some (.int x), l3, l4, l5, l6, l7, l8], st) y = evm C0 b0 L0 xs0 234 (145, [l0, l1, some (.int x), l3, l4, l5, l6, l7, l8], .int x :: st) y) ∧
  (∀ (L : ri_L) (st : List Value) (y : (gy × gy) × Nat), evm C0 b0 L0 xs0 234 (145, L, st) y = evm C0 b0 L0 xs0 234 (146, L, .int (Int32.ofInt 3) :: st) y) ∧
  (∀ (L : ri_L) (st : List Value) (y : (gy × gy) × Nat) (z x : Int32), evm C0 b0 L0 xs0 234 (146, L, .int z :: .int x :: st) y = if z = 0 then none else evm C0 b0 L0 xs0 234 (147, L, .int (x / z) :: st) y) ∧
  (∀ (L : ri_L) (st : List Value) (y : (gy × gy) × Nat), evm C0 b0 L0 xs0 234 (147, L, st) y = evm C0 b0 L0 xs0 234 (149, L, .int (Int32.ofInt 9) :: st) y) ∧
  (∀ (L : ri_L) (st : List Value) (y : (gy × gy) × Nat) (z x : Int32), evm C0 b0 L0 xs0 234 (149, L, .int z :: .int x :: st) y = if z = 0 then none else evm C0 b0 L0 xs0 234 (150, L, .int (x - x / z * z) :: st) y) ∧
  (∀ (L : ri_L) (st : List Value) (y : (gy × gy) × Nat), evm C0 b0 L0 xs0 234 (150, L, st) y = evm C0 b0 L0 xs0 234 (151, L, .int (Int32.ofInt 4) :: st) y) ∧
  (∀ (L : ri_L) (st : List Value) (y : (gy × gy) × Nat) (z x : Int32), evm C0 b0 L0 xs0 234 (151, L, .int z :: .int x :: st) y = evm C0 b0 L0 xs0 234 (152, L, .int (x - z) :: st) y) ∧
  (∀ (l0 l1 l3 l4 l5 l6 l7 l8 : Option Value) (st : List Value) (y : (gy × gy) × Nat) (x : Int32), evm C0 b0 L0 xs0 234 (152, [l0, l1, some (.int x), l3, l4, l5, l6, l7, l8], st) y = evm C0 b0 L0 xs0 234 (153, [l0, l1, some (.int x), l3, l4, l5, l6, l7, l8], .int x :: st) y) ∧
  (∀ (L : ri_L) (st : List Value) (y : (gy × gy) × Nat), evm C0 b0 L0 xs0 234 (153, L, st) y = evm C0 b0 L0 xs0 234 (155, L, .int (Int32.ofInt 27) :: st) y) ∧
  (∀ (L : ri_L) (st : List Value) (y : (gy × gy) × Nat) (z x : Int32), evm C0 b0 L0 xs0 234 (155, L, .int z :: .int x :: st) y = if z = 0 then none else evm C0 b0 L0 xs0 234 (156, L, .int (x / z) :: st) y) ∧
  (∀ (L : ri_L) (st : List Value) (y : (gy × gy) × Nat), evm C0 b0 L0 xs0 234 (156, L, st) y = evm C0 b0 L0 xs0 234 (158, L, .int (Int32.ofInt 20) :: st) y) ∧
  (∀ (L : ri_L) (st : List Value) (y : (gy × gy) × Nat) (z x : Int32), evm C0 b0 L0 xs0 234 (158, L, .int z :: .int x :: st) y = if z = 0 then none else evm C0 b0 L0 xs0 234 (159, L, .int (x - x / z * z) :: st) y) ∧
  (∀ (L : ri_L) (y : (gy × gy) × Nat) (a0 : Nat) (a1 : Int32) (a2 : Int32) (a3 : Int32) (a4 : Int32), evm C0 b0 L0 xs0 234 (159, L, [.int a4, .int a3, .int a2, .int a1, .ref a0]) y = lm_n (calm C0 b0 L0 xs0 230 [.ref a0, .int a1, .int a2, .int a3, .int a4] y) fun v y => evm C0 b0 L0 xs0 234 (162, L, [v]) y) ∧
  (∀ (L : ri_L) (y : (gy × gy) × Nat) (x : Int32), evm C0 b0 L0 xs0 234 (162, L, [.int x]) y = some (.int x, y)) ∧
  (∀ (l1 l2 l3 l4 l5 l6 l7 l8 : Option Value) (st : List Value) (y : (gy × gy) × Nat) (x : Nat), evm C0 b0 L0 xs0 234 (163, [some (.ref x), l1, l2, l3, l4, l5, l6, l7, l8], st) y = evm C0 b0 L0 xs0 234 (164, [some (.ref x), l1, l2, l3, l4, l5, l6, l7, l8], .ref x :: st) y) ∧
  (∀ (l0 l1 l2 l3 l4 l5 l7 l8 : Option Value) (st : List Value) (y : (gy × gy) × Nat) (x : Int32), evm C0 b0 L0 xs0 234 (164, [l0, l1, l2, l3, l4, l5, some (.int x), l7, l8], st) y = evm C0 b0 L0 xs0 234 (166, [l0, l1, l2, l3, l4, l5, some (.int x), l7, l8], .int x :: st) y) ∧
  (∀ (l0 l1 l3 l4 l5 l6 l7 l8 : Option Value) (st : List Value) (y : (gy × gy) × Nat) (x : Int32), evm C0 b0 L0 xs0 234 (166, [l0, l1, some (.int x), l3, l4, l5, l6, l7, l8], st) y = evm C0 b0 L0 xs0 234 (167, [l0, l1, some (.int x), l3, l4, l5, l6, l7, l8], .int x :: st) y) ∧
  (∀ (L : ri_L) (st : List Value) (y : (gy × gy) × Nat), evm C0 b0 L0 xs0 234 (167, L, st) y = evm C0 b0 L0 xs0 234 (168, L, .int (Int32.ofInt 3) :: st) y) ∧
  (∀ (L : ri_L) (st : List Value) (y : (gy × gy) × Nat) (z x : Int32), evm C0 b0 L0 xs0 234 (168, L, .int z :: .int x :: st) y = if z = 0 then none else evm C0 b0 L0 xs0 234 (169, L, .int (x / z) :: st) y) ∧
  (∀ (L : ri_L) (st : List Value) (y : (gy × gy) × Nat), evm C0 b0 L0 xs0 234 (169, L, st) y = evm C0 b0 L0 xs0 234 (170, L, .int (Int32.ofInt 5) :: st) y) ∧
  (∀ (L : ri_L) (st : List Value) (y : (gy × gy) × Nat) (z x : Int32), evm C0 b0 L0 xs0 234 (170, L, .int z :: .int x :: st) y = if z = 0 then none else evm C0 b0 L0 xs0 234 (171, L, .int (x - x / z * z) :: st) y) ∧
  (∀ (l0 l1 l2 l3 l4 l5 l7 l8 : Option Value) (st : List Value) (y : (gy × gy) × Nat) (x : Int32), evm C0 b0 L0 xs0 234 (171, [l0, l1, l2, l3, l4, l5, some (.int x), l7, l8], st) y = evm C0 b0 L0 xs0 234 (173, [l0, l1, l2, l3, l4, l5, some (.int x), l7, l8], .int x :: st) y) :=
  ⟨fun L st y => em_p rfl rfl,
   fun l0 l1 l3 l4 l5 l6 l7 l8 st y x => em_p rfl rfl,
   fun L st y => em_p rfl rfl,
   fun L st y z x => em_d rfl rfl,
   fun l0 l1 l2 l3 l5 l6 l7 l8 st y x => em_p rfl rfl,
   fun L st y z x => em_d rfl rfl,
   fun l0 l1 l2 l3 l4 l5 l6 l7 l8 st y x => em_p rfl rfl,
   fun l0 l2 l3 l4 l5 l6 l7 l8 st y x => em_p rfl rfl,
   fun L st y => em_p rfl rfl,
   fun L st y z x => em_d rfl rfl,
   fun L st y x => em_p rfl rfl,
   fun l1 l2 l3 l4 l5 l6 l7 l8 st y x => em_p rfl rfl,
   fun L st y => em_p rfl rfl,
   fun L st y => em_p rfl rfl,
   fun l0 l1 l3 l4 l5 l6 l7 l8 st y x => em_p rfl rfl,
   fun L st y => em_p rfl rfl,
   fun L st y z x => em_d rfl rfl,
   fun L st y z x => em_p rfl rfl,
   fun l0 l1 l3 l4 l5 l6 l7 l8 st y x => em_p rfl rfl,
   fun L st y => em_p rfl rfl,
   fun L st y z x => em_d rfl rfl,
   fun L st y => em_p rfl rfl,
   fun L st y z x => em_d rfl rfl,
   fun L st y => em_p rfl rfl,
   fun L st y z x => em_p rfl rfl,
   fun l0 l1 l3 l4 l5 l6 l7 l8 st y x => em_p rfl rfl,
   fun L st y => em_p rfl rfl,
   fun L st y z x => em_d rfl rfl,
   fun L st y => em_p rfl rfl,
   fun L st y z x => em_d rfl rfl,
   fun L y a0 a1 a2 a3 a4 => em_call rfl rfl rfl rfl rfl,
   fun L y x => em_r rfl rfl,
   fun l1 l2 l3 l4 l5 l6 l7 l8 st y x => em_p rfl rfl,
   fun l0 l1 l2 l3 l4 l5 l7 l8 st y x => em_p rfl rfl,
   fun l0 l1 l3 l4 l5 l6 l7 l8 st y x => em_p rfl rfl,
   fun L st y => em_p rfl rfl,
   fun L st y z x => em_d rfl rfl,
   fun L st y => em_p rfl rfl,
   fun L st y z x => em_d rfl rfl,
   fun l0 l1 l2 l3 l4 l5 l7 l8 st y x => em_p rfl rfl⟩
set_option maxRecDepth 8000 in
theorem L_234_2 :
  (∀ (L : ri_L) (st : List Value) (y : (gy × gy) × Nat), evm C0 b0 L0 xs0 234 (173, L, st) y = evm C0 b0 L0 xs0 234 (174, L, .int (Int32.ofInt 1) :: st) y) ∧
  (∀ (L : ri_L) (st : List Value) (y : (gy × gy) × Nat) (z x : Int32), evm C0 b0 L0 xs0 234 (174, L, .int z :: .int x :: st) y = evm C0 b0 L0 xs0 234 (175, L, .int (x + z) :: st) y) ∧
  (∀ (l0 l1 l2 l4 l5 l6 l7 l8 : Option Value) (st : List Value) (y : (gy × gy) × Nat) (x : Int32), evm C0 b0 L0 xs0 234 (175, [l0, l1, l2, some (.int x), l4, l5, l6, l7, l8], st) y = evm C0 b0 L0 xs0 234 (176, [l0, l1, l2, some (.int x), l4, l5, l6, l7, l8], .int x :: st) y) ∧
  (∀ (L : ri_L) (st : List Value) (y : (gy × gy) × Nat) (z x : Int32), evm C0 b0 L0 xs0 234 (176, L, .int z :: .int x :: st) y = if z = 0 then none else evm C0 b0 L0 xs0 234 (177, L, .int (x - x / z * z) :: st) y) ∧
  (∀ (l0 l1 l3 l4 l5 l6 l7 l8 : Option Value) (st : List Value) (y : (gy × gy) × Nat) (x : Int32), evm C0 b0 L0 xs0 234 (177, [l0, l1, some (.int x), l3, l4, l5, l6, l7, l8], st) y = evm C0 b0 L0 xs0 234 (178, [l0, l1, some (.int x), l3, l4, l5, l6, l7, l8], .int x :: st) y) ∧
  (∀ (L : ri_L) (st : List Value) (y : (gy × gy) × Nat), evm C0 b0 L0 xs0 234 (178, L, st) y = evm C0 b0 L0 xs0 234 (180, L, .int (Int32.ofInt 15) :: st) y) ∧
  (∀ (L : ri_L) (st : List Value) (y : (gy × gy) × Nat) (z x : Int32), evm C0 b0 L0 xs0 234 (180, L, .int z :: .int x :: st) y = if z = 0 then none else evm C0 b0 L0 xs0 234 (181, L, .int (x / z) :: st) y) ∧
  (∀ (L : ri_L) (st : List Value) (y : (gy × gy) × Nat), evm C0 b0 L0 xs0 234 (181, L, st) y = evm C0 b0 L0 xs0 234 (182, L, .int (Int32.ofInt 5) :: st) y) ∧
  (∀ (L : ri_L) (st : List Value) (y : (gy × gy) × Nat) (z x : Int32), evm C0 b0 L0 xs0 234 (182, L, .int z :: .int x :: st) y = if z = 0 then none else evm C0 b0 L0 xs0 234 (183, L, .int (x - x / z * z) :: st) y) ∧
  (∀ (L : ri_L) (y : (gy × gy) × Nat) (a0 : Nat) (a1 : Int32) (a2 : Int32) (a3 : Int32) (a4 : Int32), evm C0 b0 L0 xs0 234 (183, L, [.int a4, .int a3, .int a2, .int a1, .ref a0]) y = lm_n (calm C0 b0 L0 xs0 319 [.ref a0, .int a1, .int a2, .int a3, .int a4] y) fun v y => evm C0 b0 L0 xs0 234 (186, L, [v]) y) ∧
  (∀ (L : ri_L) (y : (gy × gy) × Nat) (x : Int32), evm C0 b0 L0 xs0 234 (186, L, [.int x]) y = some (.int x, y)) ∧
  (∀ (l1 l2 l3 l4 l5 l6 l7 l8 : Option Value) (st : List Value) (y : (gy × gy) × Nat) (x : Nat), evm C0 b0 L0 xs0 234 (187, [some (.ref x), l1, l2, l3, l4, l5, l6, l7, l8], st) y = evm C0 b0 L0 xs0 234 (188, [some (.ref x), l1, l2, l3, l4, l5, l6, l7, l8], .ref x :: st) y) ∧
  (∀ (L : ri_L) (st : List Value) (y : (gy × gy) × Nat), evm C0 b0 L0 xs0 234 (188, L, st) y = evm C0 b0 L0 xs0 234 (190, L, .int (Int32.ofInt 8) :: st) y) ∧
  (∀ (l0 l1 l2 l3 l4 l5 l7 l8 : Option Value) (st : List Value) (y : (gy × gy) × Nat) (x : Int32), evm C0 b0 L0 xs0 234 (190, [l0, l1, l2, l3, l4, l5, some (.int x), l7, l8], st) y = evm C0 b0 L0 xs0 234 (192, [l0, l1, l2, l3, l4, l5, some (.int x), l7, l8], .int x :: st) y) ∧
  (∀ (l0 l1 l3 l4 l5 l6 l7 l8 : Option Value) (st : List Value) (y : (gy × gy) × Nat) (x : Int32), evm C0 b0 L0 xs0 234 (192, [l0, l1, some (.int x), l3, l4, l5, l6, l7, l8], st) y = evm C0 b0 L0 xs0 234 (193, [l0, l1, some (.int x), l3, l4, l5, l6, l7, l8], .int x :: st) y) ∧
  (∀ (L : ri_L) (st : List Value) (y : (gy × gy) × Nat), evm C0 b0 L0 xs0 234 (193, L, st) y = evm C0 b0 L0 xs0 234 (194, L, .int (Int32.ofInt 3) :: st) y) ∧
  (∀ (L : ri_L) (st : List Value) (y : (gy × gy) × Nat) (z x : Int32), evm C0 b0 L0 xs0 234 (194, L, .int z :: .int x :: st) y = if z = 0 then none else evm C0 b0 L0 xs0 234 (195, L, .int (x / z) :: st) y) ∧
  (∀ (L : ri_L) (st : List Value) (y : (gy × gy) × Nat), evm C0 b0 L0 xs0 234 (195, L, st) y = evm C0 b0 L0 xs0 234 (196, L, .int (Int32.ofInt 5) :: st) y) ∧
  (∀ (L : ri_L) (st : List Value) (y : (gy × gy) × Nat) (z x : Int32), evm C0 b0 L0 xs0 234 (196, L, .int z :: .int x :: st) y = if z = 0 then none else evm C0 b0 L0 xs0 234 (197, L, .int (x - x / z * z) :: st) y) ∧
  (∀ (L : ri_L) (st : List Value) (y : (gy × gy) × Nat), evm C0 b0 L0 xs0 234 (197, L, st) y = evm C0 b0 L0 xs0 234 (198, L, .int (Int32.ofInt 1) :: st) y) ∧
  (∀ (l0 l1 l3 l4 l5 l6 l7 l8 : Option Value) (st : List Value) (y : (gy × gy) × Nat) (x : Int32), evm C0 b0 L0 xs0 234 (198, [l0, l1, some (.int x), l3, l4, l5, l6, l7, l8], st) y = evm C0 b0 L0 xs0 234 (199, [l0, l1, some (.int x), l3, l4, l5, l6, l7, l8], .int x :: st) y) ∧
  (∀ (L : ri_L) (st : List Value) (y : (gy × gy) × Nat), evm C0 b0 L0 xs0 234 (199, L, st) y = evm C0 b0 L0 xs0 234 (201, L, .int (Int32.ofInt 15) :: st) y) ∧
  (∀ (L : ri_L) (st : List Value) (y : (gy × gy) × Nat) (z x : Int32), evm C0 b0 L0 xs0 234 (201, L, .int z :: .int x :: st) y = if z = 0 then none else evm C0 b0 L0 xs0 234 (202, L, .int (x / z) :: st) y) ∧
  (∀ (L : ri_L) (st : List Value) (y : (gy × gy) × Nat), evm C0 b0 L0 xs0 234 (202, L, st) y = evm C0 b0 L0 xs0 234 (204, L, .int (Int32.ofInt 9) :: st) y) ∧
  (∀ (L : ri_L) (st : List Value) (y : (gy × gy) × Nat) (z x : Int32), evm C0 b0 L0 xs0 234 (204, L, .int z :: .int x :: st) y = if z = 0 then none else evm C0 b0 L0 xs0 234 (205, L, .int (x - x / z * z) :: st) y) ∧
  (∀ (L : ri_L) (st : List Value) (y : (gy × gy) × Nat) (z x : Int32), evm C0 b0 L0 xs0 234 (205, L, .int z :: .int x :: st) y = evm C0 b0 L0 xs0 234 (206, L, .int (x + z) :: st) y) ∧
  (∀ (L : ri_L) (y : (gy × gy) × Nat) (a0 : Nat) (a1 : Int32) (a2 : Int32) (a3 : Int32) (a4 : Int32), evm C0 b0 L0 xs0 234 (206, L, [.int a4, .int a3, .int a2, .int a1, .ref a0]) y = lm_n (calm C0 b0 L0 xs0 230 [.ref a0, .int a1, .int a2, .int a3, .int a4] y) fun v y => evm C0 b0 L0 xs0 234 (209, L, [v]) y) ∧
  (∀ (L : ri_L) (y : (gy × gy) × Nat) (x : Int32), evm C0 b0 L0 xs0 234 (209, L, [.int x]) y = some (.int x, y)) ∧
  (∀ (l1 l2 l3 l4 l5 l6 l7 l8 : Option Value) (st : List Value) (y : (gy × gy) × Nat) (x : Nat), evm C0 b0 L0 xs0 234 (210, [some (.ref x), l1, l2, l3, l4, l5, l6, l7, l8], st) y = evm C0 b0 L0 xs0 234 (211, [some (.ref x), l1, l2, l3, l4, l5, l6, l7, l8], .ref x :: st) y) ∧
  (∀ (L : ri_L) (st : List Value) (y : (gy × gy) × Nat), evm C0 b0 L0 xs0 234 (211, L, st) y = evm C0 b0 L0 xs0 234 (213, L, .int (Int32.ofInt 9) :: st) y) ∧
  (∀ (l0 l1 l2 l3 l4 l5 l7 l8 : Option Value) (st : List Value) (y : (gy × gy) × Nat) (x : Int32), evm C0 b0 L0 xs0 234 (213, [l0, l1, l2, l3, l4, l5, some (.int x), l7, l8], st) y = evm C0 b0 L0 xs0 234 (215, [l0, l1, l2, l3, l4, l5, some (.int x), l7, l8], .int x :: st) y) ∧
  (∀ (l0 l1 l3 l4 l5 l6 l7 l8 : Option Value) (st : List Value) (y : (gy × gy) × Nat) (x : Int32), evm C0 b0 L0 xs0 234 (215, [l0, l1, some (.int x), l3, l4, l5, l6, l7, l8], st) y = evm C0 b0 L0 xs0 234 (216, [l0, l1, some (.int x), l3, l4, l5, l6, l7, l8], .int x :: st) y) ∧
  (∀ (L : ri_L) (st : List Value) (y : (gy × gy) × Nat), evm C0 b0 L0 xs0 234 (216, L, st) y = evm C0 b0 L0 xs0 234 (217, L, .int (Int32.ofInt 3) :: st) y) ∧
  (∀ (L : ri_L) (st : List Value) (y : (gy × gy) × Nat) (z x : Int32), evm C0 b0 L0 xs0 234 (217, L, .int z :: .int x :: st) y = if z = 0 then none else evm C0 b0 L0 xs0 234 (218, L, .int (x / z) :: st) y) ∧
  (∀ (L : ri_L) (st : List Value) (y : (gy × gy) × Nat), evm C0 b0 L0 xs0 234 (218, L, st) y = evm C0 b0 L0 xs0 234 (219, L, .int (Int32.ofInt 5) :: st) y) ∧
  (∀ (L : ri_L) (st : List Value) (y : (gy × gy) × Nat) (z x : Int32), evm C0 b0 L0 xs0 234 (219, L, .int z :: .int x :: st) y = if z = 0 then none else evm C0 b0 L0 xs0 234 (220, L, .int (x - x / z * z) :: st) y) ∧
  (∀ (L : ri_L) (st : List Value) (y : (gy × gy) × Nat), evm C0 b0 L0 xs0 234 (220, L, st) y = evm C0 b0 L0 xs0 234 (221, L, .int (Int32.ofInt 1) :: st) y) ∧
  (∀ (l0 l1 l3 l4 l5 l6 l7 l8 : Option Value) (st : List Value) (y : (gy × gy) × Nat) (x : Int32), evm C0 b0 L0 xs0 234 (221, [l0, l1, some (.int x), l3, l4, l5, l6, l7, l8], st) y = evm C0 b0 L0 xs0 234 (222, [l0, l1, some (.int x), l3, l4, l5, l6, l7, l8], .int x :: st) y) ∧
  (∀ (L : ri_L) (st : List Value) (y : (gy × gy) × Nat), evm C0 b0 L0 xs0 234 (222, L, st) y = evm C0 b0 L0 xs0 234 (224, L, .int (Int32.ofInt 15) :: st) y) ∧
  (∀ (L : ri_L) (st : List Value) (y : (gy × gy) × Nat) (z x : Int32), evm C0 b0 L0 xs0 234 (224, L, .int z :: .int x :: st) y = if z = 0 then none else evm C0 b0 L0 xs0 234 (225, L, .int (x / z) :: st) y) :=
  ⟨fun L st y => em_p rfl rfl,
   fun L st y z x => em_p rfl rfl,
   fun l0 l1 l2 l4 l5 l6 l7 l8 st y x => em_p rfl rfl,
   fun L st y z x => em_d rfl rfl,
   fun l0 l1 l3 l4 l5 l6 l7 l8 st y x => em_p rfl rfl,
   fun L st y => em_p rfl rfl,
   fun L st y z x => em_d rfl rfl,
   fun L st y => em_p rfl rfl,
   fun L st y z x => em_d rfl rfl,
   fun L y a0 a1 a2 a3 a4 => em_call rfl rfl rfl rfl rfl,
   fun L y x => em_r rfl rfl,
   fun l1 l2 l3 l4 l5 l6 l7 l8 st y x => em_p rfl rfl,
   fun L st y => em_p rfl rfl,
   fun l0 l1 l2 l3 l4 l5 l7 l8 st y x => em_p rfl rfl,
   fun l0 l1 l3 l4 l5 l6 l7 l8 st y x => em_p rfl rfl,
   fun L st y => em_p rfl rfl,
   fun L st y z x => em_d rfl rfl,
   fun L st y => em_p rfl rfl,
   fun L st y z x => em_d rfl rfl,
   fun L st y => em_p rfl rfl,
   fun l0 l1 l3 l4 l5 l6 l7 l8 st y x => em_p rfl rfl,
   fun L st y => em_p rfl rfl,
   fun L st y z x => em_d rfl rfl,
   fun L st y => em_p rfl rfl,
   fun L st y z x => em_d rfl rfl,
   fun L st y z x => em_p rfl rfl,
   fun L y a0 a1 a2 a3 a4 => em_call rfl rfl rfl rfl rfl,
   fun L y x => em_r rfl rfl,
   fun l1 l2 l3 l4 l5 l6 l7 l8 st y x => em_p rfl rfl,
   fun L st y => em_p rfl rfl,
   fun l0 l1 l2 l3 l4 l5 l7 l8 st y x => em_p rfl rfl,
   fun l0 l1 l3 l4 l5 l6 l7 l8 st y x => em_p rfl rfl,
   fun L st y => em_p rfl rfl,
   fun L st y z x => em_d rfl rfl,
   fun L st y => em_p rfl rfl,
   fun L st y z x => em_d rfl rfl,
   fun L st y => em_p rfl rfl,
   fun l0 l1 l3 l4 l5 l6 l7 l8 st y x => em_p rfl rfl,
   fun L st y => em_p rfl rfl,
   fun L st y z x => em_d rfl rfl⟩
set_option maxRecDepth 8000 in
theorem L_234_3 :
  (∀ (L : ri_L) (st : List Value) (y : (gy × gy) × Nat), evm C0 b0 L0 xs0 234 (225, L, st) y = evm C0 b0 L0 xs0 234 (227, L, .int (Int32.ofInt 9) :: st) y) ∧
  (∀ (L : ri_L) (st : List Value) (y : (gy × gy) × Nat) (z x : Int32), evm C0 b0 L0 xs0 234 (227, L, .int z :: .int x :: st) y = if z = 0 then none else evm C0 b0 L0 xs0 234 (228, L, .int (x - x / z * z) :: st) y) ∧
  (∀ (L : ri_L) (st : List Value) (y : (gy × gy) × Nat) (z x : Int32), evm C0 b0 L0 xs0 234 (228, L, .int z :: .int x :: st) y = evm C0 b0 L0 xs0 234 (229, L, .int (x + z) :: st) y) ∧
  (∀ (L : ri_L) (y : (gy × gy) × Nat) (a0 : Nat) (a1 : Int32) (a2 : Int32) (a3 : Int32) (a4 : Int32), evm C0 b0 L0 xs0 234 (229, L, [.int a4, .int a3, .int a2, .int a1, .ref a0]) y = lm_n (calm C0 b0 L0 xs0 230 [.ref a0, .int a1, .int a2, .int a3, .int a4] y) fun v y => evm C0 b0 L0 xs0 234 (232, L, [v]) y) ∧
  (∀ (L : ri_L) (y : (gy × gy) × Nat) (x : Int32), evm C0 b0 L0 xs0 234 (232, L, [.int x]) y = some (.int x, y)) ∧
  (∀ (l1 l2 l3 l4 l5 l6 l7 l8 : Option Value) (st : List Value) (y : (gy × gy) × Nat) (x : Nat), evm C0 b0 L0 xs0 234 (233, [some (.ref x), l1, l2, l3, l4, l5, l6, l7, l8], st) y = evm C0 b0 L0 xs0 234 (234, [some (.ref x), l1, l2, l3, l4, l5, l6, l7, l8], .ref x :: st) y) ∧
  (∀ (L : ri_L) (st : List Value) (y : (gy × gy) × Nat), evm C0 b0 L0 xs0 234 (234, L, st) y = evm C0 b0 L0 xs0 234 (236, L, .int (Int32.ofInt 12) :: st) y) ∧
  (∀ (l0 l1 l2 l3 l4 l5 l7 l8 : Option Value) (st : List Value) (y : (gy × gy) × Nat) (x : Int32), evm C0 b0 L0 xs0 234 (236, [l0, l1, l2, l3, l4, l5, some (.int x), l7, l8], st) y = evm C0 b0 L0 xs0 234 (238, [l0, l1, l2, l3, l4, l5, some (.int x), l7, l8], .int x :: st) y) ∧
  (∀ (l0 l1 l3 l4 l5 l6 l7 l8 : Option Value) (st : List Value) (y : (gy × gy) × Nat) (x : Int32), evm C0 b0 L0 xs0 234 (238, [l0, l1, some (.int x), l3, l4, l5, l6, l7, l8], st) y = evm C0 b0 L0 xs0 234 (239, [l0, l1, some (.int x), l3, l4, l5, l6, l7, l8], .int x :: st) y) ∧
  (∀ (L : ri_L) (st : List Value) (y : (gy × gy) × Nat), evm C0 b0 L0 xs0 234 (239, L, st) y = evm C0 b0 L0 xs0 234 (240, L, .int (Int32.ofInt 3) :: st) y) ∧
  (∀ (L : ri_L) (st : List Value) (y : (gy × gy) × Nat) (z x : Int32), evm C0 b0 L0 xs0 234 (240, L, .int z :: .int x :: st) y = if z = 0 then none else evm C0 b0 L0 xs0 234 (241, L, .int (x / z) :: st) y) ∧
  (∀ (L : ri_L) (st : List Value) (y : (gy × gy) × Nat), evm C0 b0 L0 xs0 234 (241, L, st) y = evm C0 b0 L0 xs0 234 (243, L, .int (Int32.ofInt 9) :: st) y) ∧
  (∀ (L : ri_L) (st : List Value) (y : (gy × gy) × Nat) (z x : Int32), evm C0 b0 L0 xs0 234 (243, L, .int z :: .int x :: st) y = if z = 0 then none else evm C0 b0 L0 xs0 234 (244, L, .int (x - x / z * z) :: st) y) ∧
  (∀ (L : ri_L) (st : List Value) (y : (gy × gy) × Nat), evm C0 b0 L0 xs0 234 (244, L, st) y = evm C0 b0 L0 xs0 234 (245, L, .int (Int32.ofInt 4) :: st) y) ∧
  (∀ (L : ri_L) (st : List Value) (y : (gy × gy) × Nat) (z x : Int32), evm C0 b0 L0 xs0 234 (245, L, .int z :: .int x :: st) y = evm C0 b0 L0 xs0 234 (246, L, .int (x - z) :: st) y) ∧
  (∀ (L : ri_L) (st : List Value) (y : (gy × gy) × Nat), evm C0 b0 L0 xs0 234 (246, L, st) y = evm C0 b0 L0 xs0 234 (247, L, .int (Int32.ofInt 0) :: st) y) ∧
  (∀ (L : ri_L) (y : (gy × gy) × Nat) (a0 : Nat) (a1 : Int32) (a2 : Int32) (a3 : Int32) (a4 : Int32), evm C0 b0 L0 xs0 234 (247, L, [.int a4, .int a3, .int a2, .int a1, .ref a0]) y = lm_n (calm C0 b0 L0 xs0 230 [.ref a0, .int a1, .int a2, .int a3, .int a4] y) fun v y => evm C0 b0 L0 xs0 234 (250, L, [v]) y) ∧
  (∀ (L : ri_L) (y : (gy × gy) × Nat) (x : Int32), evm C0 b0 L0 xs0 234 (250, L, [.int x]) y = some (.int x, y)) ∧
  (∀ (l1 l2 l3 l4 l5 l6 l7 l8 : Option Value) (st : List Value) (y : (gy × gy) × Nat) (x : Nat), evm C0 b0 L0 xs0 234 (251, [some (.ref x), l1, l2, l3, l4, l5, l6, l7, l8], st) y = evm C0 b0 L0 xs0 234 (252, [some (.ref x), l1, l2, l3, l4, l5, l6, l7, l8], .ref x :: st) y) ∧
  (∀ (L : ri_L) (st : List Value) (y : (gy × gy) × Nat), evm C0 b0 L0 xs0 234 (252, L, st) y = evm C0 b0 L0 xs0 234 (254, L, .int (Int32.ofInt 13) :: st) y) ∧
  (∀ (l0 l1 l3 l4 l5 l6 l7 l8 : Option Value) (st : List Value) (y : (gy × gy) × Nat) (x : Int32), evm C0 b0 L0 xs0 234 (254, [l0, l1, some (.int x), l3, l4, l5, l6, l7, l8], st) y = evm C0 b0 L0 xs0 234 (255, [l0, l1, some (.int x), l3, l4, l5, l6, l7, l8], .int x :: st) y) ∧
  (∀ (L : ri_L) (st : List Value) (y : (gy × gy) × Nat), evm C0 b0 L0 xs0 234 (255, L, st) y = evm C0 b0 L0 xs0 234 (256, L, .int (Int32.ofInt 2) :: st) y) ∧
  (∀ (L : ri_L) (st : List Value) (y : (gy × gy) × Nat) (z x : Int32), evm C0 b0 L0 xs0 234 (256, L, .int z :: .int x :: st) y = if z = 0 then none else evm C0 b0 L0 xs0 234 (257, L, .int (x - x / z * z) :: st) y) ∧
  (∀ (L : ri_L) (st : List Value) (y : (gy × gy) × Nat), evm C0 b0 L0 xs0 234 (257, L, st) y = evm C0 b0 L0 xs0 234 (258, L, .int (Int32.ofInt 0) :: st) y) ∧
  (∀ (L : ri_L) (st : List Value) (y : (gy × gy) × Nat), evm C0 b0 L0 xs0 234 (258, L, st) y = evm C0 b0 L0 xs0 234 (259, L, .int (Int32.ofInt 0) :: st) y) ∧
  (∀ (L : ri_L) (y : (gy × gy) × Nat) (a0 : Nat) (a1 : Int32) (a2 : Int32) (a3 : Int32) (a4 : Int32), evm C0 b0 L0 xs0 234 (259, L, [.int a4, .int a3, .int a2, .int a1, .ref a0]) y = lm_n (calm C0 b0 L0 xs0 230 [.ref a0, .int a1, .int a2, .int a3, .int a4] y) fun v y => evm C0 b0 L0 xs0 234 (262, L, [v]) y) ∧
  (∀ (L : ri_L) (y : (gy × gy) × Nat) (x : Int32), evm C0 b0 L0 xs0 234 (262, L, [.int x]) y = some (.int x, y)) ∧
  (∀ (l1 l2 l3 l4 l5 l6 l7 l8 : Option Value) (st : List Value) (y : (gy × gy) × Nat) (x : Nat), evm C0 b0 L0 xs0 234 (263, [some (.ref x), l1, l2, l3, l4, l5, l6, l7, l8], st) y = evm C0 b0 L0 xs0 234 (264, [some (.ref x), l1, l2, l3, l4, l5, l6, l7, l8], .ref x :: st) y) ∧
  (∀ (L : ri_L) (st : List Value) (y : (gy × gy) × Nat), evm C0 b0 L0 xs0 234 (264, L, st) y = evm C0 b0 L0 xs0 234 (265, L, .int (Int32.ofInt 2) :: st) y) ∧
  (∀ (L : ri_L) (st : List Value) (y : (gy × gy) × Nat), evm C0 b0 L0 xs0 234 (265, L, st) y = evm C0 b0 L0 xs0 234 (266, L, .int (Int32.ofInt 3) :: st) y) ∧
  (∀ (L : ri_L) (st : List Value) (y : (gy × gy) × Nat), evm C0 b0 L0 xs0 234 (266, L, st) y = evm C0 b0 L0 xs0 234 (267, L, .int (Int32.ofInt 0) :: st) y) ∧
  (∀ (L : ri_L) (st : List Value) (y : (gy × gy) × Nat), evm C0 b0 L0 xs0 234 (267, L, st) y = evm C0 b0 L0 xs0 234 (268, L, .int (Int32.ofInt 0) :: st) y) ∧
  (∀ (L : ri_L) (y : (gy × gy) × Nat) (a0 : Nat) (a1 : Int32) (a2 : Int32) (a3 : Int32) (a4 : Int32), evm C0 b0 L0 xs0 234 (268, L, [.int a4, .int a3, .int a2, .int a1, .ref a0]) y = lm_n (calm C0 b0 L0 xs0 230 [.ref a0, .int a1, .int a2, .int a3, .int a4] y) fun v y => evm C0 b0 L0 xs0 234 (271, L, [v]) y) ∧
  (∀ (L : ri_L) (st : List Value) (y : (gy × gy) × Nat), evm C0 b0 L0 xs0 234 (271, L, st) y = evm C0 b0 L0 xs0 234 (272, L, .int (Int32.ofInt 2) :: st) y) ∧
  (∀ (L : ri_L) (st : List Value) (y : (gy × gy) × Nat) (z x : Int32), evm C0 b0 L0 xs0 234 (272, L, .int z :: .int x :: st) y = if z ≤ x then evm C0 b0 L0 xs0 234 (279, L, st) y else evm C0 b0 L0 xs0 234 (275, L, st) y) ∧
  (∀ (L : ri_L) (st : List Value) (y : (gy × gy) × Nat), evm C0 b0 L0 xs0 234 (275, L, st) y = evm C0 b0 L0 xs0 234 (276, L, .int (Int32.ofInt (-1)) :: st) y) ∧
  (∀ (L : ri_L) (st : List Value) (y : (gy × gy) × Nat), evm C0 b0 L0 xs0 234 (276, L, st) y = evm C0 b0 L0 xs0 234 (288, L, st) y) ∧
  (∀ (l1 l2 l3 l4 l5 l6 l7 l8 : Option Value) (st : List Value) (y : (gy × gy) × Nat) (x : Nat), evm C0 b0 L0 xs0 234 (279, [some (.ref x), l1, l2, l3, l4, l5, l6, l7, l8], st) y = evm C0 b0 L0 xs0 234 (280, [some (.ref x), l1, l2, l3, l4, l5, l6, l7, l8], .ref x :: st) y) ∧
  (∀ (L : ri_L) (st : List Value) (y : (gy × gy) × Nat), evm C0 b0 L0 xs0 234 (280, L, st) y = evm C0 b0 L0 xs0 234 (282, L, .int (Int32.ofInt 14) :: st) y) ∧
  (∀ (L : ri_L) (st : List Value) (y : (gy × gy) × Nat), evm C0 b0 L0 xs0 234 (282, L, st) y = evm C0 b0 L0 xs0 234 (283, L, .int (Int32.ofInt 0) :: st) y) :=
  ⟨fun L st y => em_p rfl rfl,
   fun L st y z x => em_d rfl rfl,
   fun L st y z x => em_p rfl rfl,
   fun L y a0 a1 a2 a3 a4 => em_call rfl rfl rfl rfl rfl,
   fun L y x => em_r rfl rfl,
   fun l1 l2 l3 l4 l5 l6 l7 l8 st y x => em_p rfl rfl,
   fun L st y => em_p rfl rfl,
   fun l0 l1 l2 l3 l4 l5 l7 l8 st y x => em_p rfl rfl,
   fun l0 l1 l3 l4 l5 l6 l7 l8 st y x => em_p rfl rfl,
   fun L st y => em_p rfl rfl,
   fun L st y z x => em_d rfl rfl,
   fun L st y => em_p rfl rfl,
   fun L st y z x => em_d rfl rfl,
   fun L st y => em_p rfl rfl,
   fun L st y z x => em_p rfl rfl,
   fun L st y => em_p rfl rfl,
   fun L y a0 a1 a2 a3 a4 => em_call rfl rfl rfl rfl rfl,
   fun L y x => em_r rfl rfl,
   fun l1 l2 l3 l4 l5 l6 l7 l8 st y x => em_p rfl rfl,
   fun L st y => em_p rfl rfl,
   fun l0 l1 l3 l4 l5 l6 l7 l8 st y x => em_p rfl rfl,
   fun L st y => em_p rfl rfl,
   fun L st y z x => em_d rfl rfl,
   fun L st y => em_p rfl rfl,
   fun L st y => em_p rfl rfl,
   fun L y a0 a1 a2 a3 a4 => em_call rfl rfl rfl rfl rfl,
   fun L y x => em_r rfl rfl,
   fun l1 l2 l3 l4 l5 l6 l7 l8 st y x => em_p rfl rfl,
   fun L st y => em_p rfl rfl,
   fun L st y => em_p rfl rfl,
   fun L st y => em_p rfl rfl,
   fun L st y => em_p rfl rfl,
   fun L y a0 a1 a2 a3 a4 => em_call rfl rfl rfl rfl rfl,
   fun L st y => em_p rfl rfl,
   fun L st y z x => em_b rfl rfl,
   fun L st y => em_p rfl rfl,
   fun L st y => em_p rfl rfl,
   fun l1 l2 l3 l4 l5 l6 l7 l8 st y x => em_p rfl rfl,
   fun L st y => em_p rfl rfl,
   fun L st y => em_p rfl rfl⟩
set_option maxRecDepth 8000 in
theorem L_234_4 :
  (∀ (L : ri_L) (st : List Value) (y : (gy × gy) × Nat), evm C0 b0 L0 xs0 234 (283, L, st) y = evm C0 b0 L0 xs0 234 (284, L, .int (Int32.ofInt 0) :: st) y) ∧
  (∀ (L : ri_L) (st : List Value) (y : (gy × gy) × Nat), evm C0 b0 L0 xs0 234 (284, L, st) y = evm C0 b0 L0 xs0 234 (285, L, .int (Int32.ofInt 0) :: st) y) ∧
  (∀ (L : ri_L) (y : (gy × gy) × Nat) (a0 : Nat) (a1 : Int32) (a2 : Int32) (a3 : Int32) (a4 : Int32), evm C0 b0 L0 xs0 234 (285, L, [.int a4, .int a3, .int a2, .int a1, .ref a0]) y = lm_n (calm C0 b0 L0 xs0 230 [.ref a0, .int a1, .int a2, .int a3, .int a4] y) fun v y => evm C0 b0 L0 xs0 234 (288, L, [v]) y) ∧
  (∀ (L : ri_L) (y : (gy × gy) × Nat) (x : Int32), evm C0 b0 L0 xs0 234 (288, L, [.int x]) y = some (.int x, y)) ∧
  (∀ (l0 l1 l3 l4 l5 l6 l7 l8 : Option Value) (st : List Value) (y : (gy × gy) × Nat) (x : Int32), evm C0 b0 L0 xs0 234 (289, [l0, l1, some (.int x), l3, l4, l5, l6, l7, l8], st) y = evm C0 b0 L0 xs0 234 (290, [l0, l1, some (.int x), l3, l4, l5, l6, l7, l8], .int x :: st) y) ∧
  (∀ (L : ri_L) (st : List Value) (y : (gy × gy) × Nat), evm C0 b0 L0 xs0 234 (290, L, st) y = evm C0 b0 L0 xs0 234 (291, L, .int (Int32.ofInt 2) :: st) y) ∧
  (∀ (L : ri_L) (st : List Value) (y : (gy × gy) × Nat) (z x : Int32), evm C0 b0 L0 xs0 234 (291, L, .int z :: .int x :: st) y = if z = 0 then none else evm C0 b0 L0 xs0 234 (292, L, .int (x - x / z * z) :: st) y) ∧
  (∀ (L : ri_L) (st : List Value) (y : (gy × gy) × Nat) (x : Int32), evm C0 b0 L0 xs0 234 (292, L, .int x :: st) y = if ¬ x = 0 then evm C0 b0 L0 xs0 234 (311, L, st) y else evm C0 b0 L0 xs0 234 (295, L, st) y) ∧
  (∀ (l1 l2 l3 l4 l5 l6 l7 l8 : Option Value) (st : List Value) (y : (gy × gy) × Nat) (x : Nat), evm C0 b0 L0 xs0 234 (295, [some (.ref x), l1, l2, l3, l4, l5, l6, l7, l8], st) y = evm C0 b0 L0 xs0 234 (296, [some (.ref x), l1, l2, l3, l4, l5, l6, l7, l8], .ref x :: st) y) ∧
  (∀ (L : ri_L) (st : List Value) (y : (gy × gy) × Nat), evm C0 b0 L0 xs0 234 (296, L, st) y = evm C0 b0 L0 xs0 234 (298, L, .int (Int32.ofInt 18) :: st) y) ∧
  (∀ (l0 l1 l3 l4 l5 l6 l7 l8 : Option Value) (st : List Value) (y : (gy × gy) × Nat) (x : Int32), evm C0 b0 L0 xs0 234 (298, [l0, l1, some (.int x), l3, l4, l5, l6, l7, l8], st) y = evm C0 b0 L0 xs0 234 (299, [l0, l1, some (.int x), l3, l4, l5, l6, l7, l8], .int x :: st) y) ∧
  (∀ (L : ri_L) (st : List Value) (y : (gy × gy) × Nat), evm C0 b0 L0 xs0 234 (299, L, st) y = evm C0 b0 L0 xs0 234 (300, L, .int (Int32.ofInt 2) :: st) y) ∧
  (∀ (L : ri_L) (st : List Value) (y : (gy × gy) × Nat) (z x : Int32), evm C0 b0 L0 xs0 234 (300, L, .int z :: .int x :: st) y = if z = 0 then none else evm C0 b0 L0 xs0 234 (301, L, .int (x / z) :: st) y) ∧
  (∀ (L : ri_L) (st : List Value) (y : (gy × gy) × Nat), evm C0 b0 L0 xs0 234 (301, L, st) y = evm C0 b0 L0 xs0 234 (302, L, .int (Int32.ofInt 2) :: st) y) ∧
  (∀ (L : ri_L) (st : List Value) (y : (gy × gy) × Nat) (z x : Int32), evm C0 b0 L0 xs0 234 (302, L, .int z :: .int x :: st) y = if z = 0 then none else evm C0 b0 L0 xs0 234 (303, L, .int (x - x / z * z) :: st) y) ∧
  (∀ (L : ri_L) (st : List Value) (y : (gy × gy) × Nat), evm C0 b0 L0 xs0 234 (303, L, st) y = evm C0 b0 L0 xs0 234 (304, L, .int (Int32.ofInt 0) :: st) y) ∧
  (∀ (L : ri_L) (st : List Value) (y : (gy × gy) × Nat), evm C0 b0 L0 xs0 234 (304, L, st) y = evm C0 b0 L0 xs0 234 (305, L, .int (Int32.ofInt 0) :: st) y) ∧
  (∀ (L : ri_L) (y : (gy × gy) × Nat) (a0 : Nat) (a1 : Int32) (a2 : Int32) (a3 : Int32) (a4 : Int32), evm C0 b0 L0 xs0 234 (305, L, [.int a4, .int a3, .int a2, .int a1, .ref a0]) y = lm_n (calm C0 b0 L0 xs0 230 [.ref a0, .int a1, .int a2, .int a3, .int a4] y) fun v y => evm C0 b0 L0 xs0 234 (308, L, [v]) y) ∧
  (∀ (L : ri_L) (st : List Value) (y : (gy × gy) × Nat), evm C0 b0 L0 xs0 234 (308, L, st) y = evm C0 b0 L0 xs0 234 (324, L, st) y) ∧
  (∀ (l1 l2 l3 l4 l5 l6 l7 l8 : Option Value) (st : List Value) (y : (gy × gy) × Nat) (x : Nat), evm C0 b0 L0 xs0 234 (311, [some (.ref x), l1, l2, l3, l4, l5, l6, l7, l8], st) y = evm C0 b0 L0 xs0 234 (312, [some (.ref x), l1, l2, l3, l4, l5, l6, l7, l8], .ref x :: st) y) ∧
  (∀ (L : ri_L) (st : List Value) (y : (gy × gy) × Nat), evm C0 b0 L0 xs0 234 (312, L, st) y = evm C0 b0 L0 xs0 234 (314, L, .int (Int32.ofInt 19) :: st) y) ∧
  (∀ (l0 l1 l3 l4 l5 l6 l7 l8 : Option Value) (st : List Value) (y : (gy × gy) × Nat) (x : Int32), evm C0 b0 L0 xs0 234 (314, [l0, l1, some (.int x), l3, l4, l5, l6, l7, l8], st) y = evm C0 b0 L0 xs0 234 (315, [l0, l1, some (.int x), l3, l4, l5, l6, l7, l8], .int x :: st) y) ∧
  (∀ (L : ri_L) (st : List Value) (y : (gy × gy) × Nat), evm C0 b0 L0 xs0 234 (315, L, st) y = evm C0 b0 L0 xs0 234 (316, L, .int (Int32.ofInt 2) :: st) y) ∧
  (∀ (L : ri_L) (st : List Value) (y : (gy × gy) × Nat) (z x : Int32), evm C0 b0 L0 xs0 234 (316, L, .int z :: .int x :: st) y = if z = 0 then none else evm C0 b0 L0 xs0 234 (317, L, .int (x / z) :: st) y) ∧
  (∀ (L : ri_L) (st : List Value) (y : (gy × gy) × Nat), evm C0 b0 L0 xs0 234 (317, L, st) y = evm C0 b0 L0 xs0 234 (318, L, .int (Int32.ofInt 2) :: st) y) ∧
  (∀ (L : ri_L) (st : List Value) (y : (gy × gy) × Nat) (z x : Int32), evm C0 b0 L0 xs0 234 (318, L, .int z :: .int x :: st) y = if z = 0 then none else evm C0 b0 L0 xs0 234 (319, L, .int (x - x / z * z) :: st) y) ∧
  (∀ (L : ri_L) (st : List Value) (y : (gy × gy) × Nat), evm C0 b0 L0 xs0 234 (319, L, st) y = evm C0 b0 L0 xs0 234 (320, L, .int (Int32.ofInt 0) :: st) y) ∧
  (∀ (L : ri_L) (st : List Value) (y : (gy × gy) × Nat), evm C0 b0 L0 xs0 234 (320, L, st) y = evm C0 b0 L0 xs0 234 (321, L, .int (Int32.ofInt 0) :: st) y) ∧
  (∀ (L : ri_L) (y : (gy × gy) × Nat) (a0 : Nat) (a1 : Int32) (a2 : Int32) (a3 : Int32) (a4 : Int32), evm C0 b0 L0 xs0 234 (321, L, [.int a4, .int a3, .int a2, .int a1, .ref a0]) y = lm_n (calm C0 b0 L0 xs0 230 [.ref a0, .int a1, .int a2, .int a3, .int a4] y) fun v y => evm C0 b0 L0 xs0 234 (324, L, [v]) y) ∧
  (∀ (L : ri_L) (y : (gy × gy) × Nat) (x : Int32), evm C0 b0 L0 xs0 234 (324, L, [.int x]) y = some (.int x, y)) ∧
  (∀ (l1 l2 l3 l4 l5 l6 l7 l8 : Option Value) (st : List Value) (y : (gy × gy) × Nat) (x : Nat), evm C0 b0 L0 xs0 234 (325, [some (.ref x), l1, l2, l3, l4, l5, l6, l7, l8], st) y = evm C0 b0 L0 xs0 234 (326, [some (.ref x), l1, l2, l3, l4, l5, l6, l7, l8], .ref x :: st) y) ∧
  (∀ (L : ri_L) (st : List Value) (y : (gy × gy) × Nat), evm C0 b0 L0 xs0 234 (326, L, st) y = evm C0 b0 L0 xs0 234 (328, L, .int (Int32.ofInt 11) :: st) y) ∧
  (∀ (l0 l1 l2 l3 l4 l5 l6 l8 : Option Value) (st : List Value) (y : (gy × gy) × Nat) (x : Int32), evm C0 b0 L0 xs0 234 (328, [l0, l1, l2, l3, l4, l5, l6, some (.int x), l8], st) y = evm C0 b0 L0 xs0 234 (330, [l0, l1, l2, l3, l4, l5, l6, some (.int x), l8], .int x :: st) y) ∧
  (∀ (l0 l1 l3 l4 l5 l6 l7 l8 : Option Value) (st : List Value) (y : (gy × gy) × Nat) (x : Int32), evm C0 b0 L0 xs0 234 (330, [l0, l1, some (.int x), l3, l4, l5, l6, l7, l8], st) y = evm C0 b0 L0 xs0 234 (331, [l0, l1, some (.int x), l3, l4, l5, l6, l7, l8], .int x :: st) y) ∧
  (∀ (L : ri_L) (st : List Value) (y : (gy × gy) × Nat), evm C0 b0 L0 xs0 234 (331, L, st) y = evm C0 b0 L0 xs0 234 (332, L, .int (Int32.ofInt 5) :: st) y) ∧
  (∀ (L : ri_L) (st : List Value) (y : (gy × gy) × Nat) (z x : Int32), evm C0 b0 L0 xs0 234 (332, L, .int z :: .int x :: st) y = if z = 0 then none else evm C0 b0 L0 xs0 234 (333, L, .int (x / z) :: st) y) ∧
  (∀ (L : ri_L) (st : List Value) (y : (gy × gy) × Nat), evm C0 b0 L0 xs0 234 (333, L, st) y = evm C0 b0 L0 xs0 234 (334, L, .int (Int32.ofInt 2) :: st) y) ∧
  (∀ (L : ri_L) (st : List Value) (y : (gy × gy) × Nat) (z x : Int32), evm C0 b0 L0 xs0 234 (334, L, .int z :: .int x :: st) y = if z = 0 then none else evm C0 b0 L0 xs0 234 (335, L, .int (x - x / z * z) :: st) y) ∧
  (∀ (L : ri_L) (st : List Value) (y : (gy × gy) × Nat) (x : Int32), evm C0 b0 L0 xs0 234 (335, L, .int x :: st) y = if ¬ x = 0 then evm C0 b0 L0 xs0 234 (342, L, st) y else evm C0 b0 L0 xs0 234 (338, L, st) y) ∧
  (∀ (L : ri_L) (st : List Value) (y : (gy × gy) × Nat), evm C0 b0 L0 xs0 234 (338, L, st) y = evm C0 b0 L0 xs0 234 (339, L, .int (Int32.ofInt 1) :: st) y) :=
  ⟨fun L st y => em_p rfl rfl,
   fun L st y => em_p rfl rfl,
   fun L y a0 a1 a2 a3 a4 => em_call rfl rfl rfl rfl rfl,
   fun L y x => em_r rfl rfl,
   fun l0 l1 l3 l4 l5 l6 l7 l8 st y x => em_p rfl rfl,
   fun L st y => em_p rfl rfl,
   fun L st y z x => em_d rfl rfl,
   fun L st y x => em_b rfl rfl,
   fun l1 l2 l3 l4 l5 l6 l7 l8 st y x => em_p rfl rfl,
   fun L st y => em_p rfl rfl,
   fun l0 l1 l3 l4 l5 l6 l7 l8 st y x => em_p rfl rfl,
   fun L st y => em_p rfl rfl,
   fun L st y z x => em_d rfl rfl,
   fun L st y => em_p rfl rfl,
   fun L st y z x => em_d rfl rfl,
   fun L st y => em_p rfl rfl,
   fun L st y => em_p rfl rfl,
   fun L y a0 a1 a2 a3 a4 => em_call rfl rfl rfl rfl rfl,
   fun L st y => em_p rfl rfl,
   fun l1 l2 l3 l4 l5 l6 l7 l8 st y x => em_p rfl rfl,
   fun L st y => em_p rfl rfl,
   fun l0 l1 l3 l4 l5 l6 l7 l8 st y x => em_p rfl rfl,
   fun L st y => em_p rfl rfl,
   fun L st y z x => em_d rfl rfl,
   fun L st y => em_p rfl rfl,
   fun L st y z x => em_d rfl rfl,
   fun L st y => em_p rfl rfl,
   fun L st y => em_p rfl rfl,
   fun L y a0 a1 a2 a3 a4 => em_call rfl rfl rfl rfl rfl,
   fun L y x => em_r rfl rfl,
   fun l1 l2 l3 l4 l5 l6 l7 l8 st y x => em_p rfl rfl,
   fun L st y => em_p rfl rfl,
   fun l0 l1 l2 l3 l4 l5 l6 l8 st y x => em_p rfl rfl,
   fun l0 l1 l3 l4 l5 l6 l7 l8 st y x => em_p rfl rfl,
   fun L st y => em_p rfl rfl,
   fun L st y z x => em_d rfl rfl,
   fun L st y => em_p rfl rfl,
   fun L st y z x => em_d rfl rfl,
   fun L st y x => em_b rfl rfl,
   fun L st y => em_p rfl rfl⟩
set_option maxRecDepth 8000 in
theorem L_234_5 :
  (∀ (L : ri_L) (st : List Value) (y : (gy × gy) × Nat), evm C0 b0 L0 xs0 234 (339, L, st) y = evm C0 b0 L0 xs0 234 (343, L, st) y) ∧
  (∀ (L : ri_L) (st : List Value) (y : (gy × gy) × Nat), evm C0 b0 L0 xs0 234 (342, L, st) y = evm C0 b0 L0 xs0 234 (343, L, .int (Int32.ofInt (-1)) :: st) y) ∧
  (∀ (L : ri_L) (st : List Value) (y : (gy × gy) × Nat), evm C0 b0 L0 xs0 234 (343, L, st) y = evm C0 b0 L0 xs0 234 (344, L, .int (Int32.ofInt 0) :: st) y) ∧
  (∀ (L : ri_L) (y : (gy × gy) × Nat) (a0 : Nat) (a1 : Int32) (a2 : Int32) (a3 : Int32) (a4 : Int32), evm C0 b0 L0 xs0 234 (344, L, [.int a4, .int a3, .int a2, .int a1, .ref a0]) y = lm_n (calm C0 b0 L0 xs0 230 [.ref a0, .int a1, .int a2, .int a3, .int a4] y) fun v y => evm C0 b0 L0 xs0 234 (347, L, [v]) y) ∧
  (∀ (L : ri_L) (y : (gy × gy) × Nat) (x : Int32), evm C0 b0 L0 xs0 234 (347, L, [.int x]) y = some (.int x, y)) ∧
  (∀ (l1 l2 l3 l4 l5 l6 l7 l8 : Option Value) (st : List Value) (y : (gy × gy) × Nat) (x : Nat), evm C0 b0 L0 xs0 234 (348, [some (.ref x), l1, l2, l3, l4, l5, l6, l7, l8], st) y = evm C0 b0 L0 xs0 234 (349, [some (.ref x), l1, l2, l3, l4, l5, l6, l7, l8], .ref x :: st) y) ∧
  (∀ (L : ri_L) (st : List Value) (y : (gy × gy) × Nat), evm C0 b0 L0 xs0 234 (349, L, st) y = evm C0 b0 L0 xs0 234 (351, L, .int (Int32.ofInt 10) :: st) y) ∧
  (∀ (l0 l1 l2 l3 l4 l5 l6 l8 : Option Value) (st : List Value) (y : (gy × gy) × Nat) (x : Int32), evm C0 b0 L0 xs0 234 (351, [l0, l1, l2, l3, l4, l5, l6, some (.int x), l8], st) y = evm C0 b0 L0 xs0 234 (353, [l0, l1, l2, l3, l4, l5, l6, some (.int x), l8], .int x :: st) y) ∧
  (∀ (l0 l1 l2 l3 l4 l5 l6 l7 : Option Value) (st : List Value) (y : (gy × gy) × Nat) (x : Int32), evm C0 b0 L0 xs0 234 (353, [l0, l1, l2, l3, l4, l5, l6, l7, some (.int x)], st) y = evm C0 b0 L0 xs0 234 (355, [l0, l1, l2, l3, l4, l5, l6, l7, some (.int x)], .int x :: st) y) ∧
  (∀ (L : ri_L) (st : List Value) (y : (gy × gy) × Nat), evm C0 b0 L0 xs0 234 (355, L, st) y = evm C0 b0 L0 xs0 234 (356, L, .int (Int32.ofInt 0) :: st) y) ∧
  (∀ (L : ri_L) (y : (gy × gy) × Nat) (a0 : Nat) (a1 : Int32) (a2 : Int32) (a3 : Int32) (a4 : Int32), evm C0 b0 L0 xs0 234 (356, L, [.int a4, .int a3, .int a2, .int a1, .ref a0]) y = lm_n (calm C0 b0 L0 xs0 230 [.ref a0, .int a1, .int a2, .int a3, .int a4] y) fun v y => evm C0 b0 L0 xs0 234 (359, L, [v]) y) ∧
  (∀ (L : ri_L) (y : (gy × gy) × Nat) (x : Int32), evm C0 b0 L0 xs0 234 (359, L, [.int x]) y = some (.int x, y)) :=
  ⟨fun L st y => em_p rfl rfl,
   fun L st y => em_p rfl rfl,
   fun L st y => em_p rfl rfl,
   fun L y a0 a1 a2 a3 a4 => em_call rfl rfl rfl rfl rfl,
   fun L y x => em_r rfl rfl,
   fun l1 l2 l3 l4 l5 l6 l7 l8 st y x => em_p rfl rfl,
   fun L st y => em_p rfl rfl,
   fun l0 l1 l2 l3 l4 l5 l6 l8 st y x => em_p rfl rfl,
   fun l0 l1 l2 l3 l4 l5 l6 l7 st y x => em_p rfl rfl,
   fun L st y => em_p rfl rfl,
   fun L y a0 a1 a2 a3 a4 => em_call rfl rfl rfl rfl rfl,
   fun L y x => em_r rfl rfl⟩
end EQM
