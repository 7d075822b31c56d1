/-! Two ponds alike answer alike. -/
theorem qq_Y {F v : Int} {Y : gy} : (qq F v Y Y).2.1 = Y := by
  unfold qq
  split <;> rfl
section ALIKE
variable {C0 b0 L0 : Nat} {xs0 : Nat → Int32} {yy : gy × gy} {i : Bool} {n : Nat} {Y : gy} {K : Int}
theorem cq_113 {a : Int} {u1 : Int32} {u2 : Int32} (hY : gg yy i = Y) (hk : gk Y) (a1 : -2147483648 ≤ a) (a2 : a < 2147483648) : calm C0 b0 L0 xs0 230 [.ref (gi C0 i), .int (Int32.ofInt 2), .int (Int32.ofInt a), .int u1, .int u2] (yy, n) = some (.int (Int32.ofInt (q113 Y a).1), (yy, n + (q113 Y a).2.2)) := by
  have h := ce_113 (C0 := C0) (b0 := b0) (L0 := L0) (xs0 := xs0) (n := n) (u1 := u1) (u2 := u2) hY hk a1 a2
  rwa [show (q113 Y a).2.1 = Y from qq_Y, ← hY, gz_gg, hY] at h
theorem cq_114 {a b : Int} {u2 : Int32} (hY : gg yy i = Y) (hk : gk Y) (a1 : -2147483648 ≤ a) (a2 : a < 2147483648) (b1 : -2147483648 ≤ b) (b2 : b < 2147483648) : calm C0 b0 L0 xs0 230 [.ref (gi C0 i), .int (Int32.ofInt 3), .int (Int32.ofInt a), .int (Int32.ofInt b), .int u2] (yy, n) = some (.int (Int32.ofInt (q114 Y a b).1), (yy, n + (q114 Y a b).2.2)) := by
  have h := ce_114 (C0 := C0) (b0 := b0) (L0 := L0) (xs0 := xs0) (n := n) (u2 := u2) hY hk a1 a2 b1 b2
  rwa [show (q114 Y a b).2.1 = Y from qq_Y, ← hY, gz_gg, hY] at h
theorem cq_115 {a b c : Int}  (hY : gg yy i = Y) (hk : gk Y) (a1 : -2147483648 ≤ a) (a2 : a < 2147483648) (b1 : -2147483648 ≤ b) (b2 : b < 2147483648) (c1 : -2147483648 ≤ c) (c2 : c < 2147483648) : calm C0 b0 L0 xs0 230 [.ref (gi C0 i), .int (Int32.ofInt 6), .int (Int32.ofInt a), .int (Int32.ofInt b), .int (Int32.ofInt c)] (yy, n) = some (.int (Int32.ofInt (q115 Y a b c).1), (yy, n + (q115 Y a b c).2.2)) := by
  have h := ce_115 (C0 := C0) (b0 := b0) (L0 := L0) (xs0 := xs0) (n := n)  hY hk a1 a2 b1 b2 c1 c2
  rwa [show (q115 Y a b c).2.1 = Y from qq_Y, ← hY, gz_gg, hY] at h
theorem cq_116 {a b : Int} {u2 : Int32} (hY : gg yy i = Y) (hk : gk Y) (a1 : -2147483648 ≤ a) (a2 : a < 2147483648) (b1 : -2147483648 ≤ b) (b2 : b < 2147483648) : calm C0 b0 L0 xs0 230 [.ref (gi C0 i), .int (Int32.ofInt 4), .int (Int32.ofInt a), .int (Int32.ofInt b), .int u2] (yy, n) = some (.int (Int32.ofInt (q116 Y a b).1), (yy, n + (q116 Y a b).2.2)) := by
  have h := ce_116 (C0 := C0) (b0 := b0) (L0 := L0) (xs0 := xs0) (n := n) (u2 := u2) hY hk a1 a2 b1 b2
  rwa [show (q116 Y a b).2.1 = Y from qq_Y, ← hY, gz_gg, hY] at h
theorem cq_117 {a b : Int} {u2 : Int32} (hY : gg yy i = Y) (hk : gk Y) (a1 : -2147483648 ≤ a) (a2 : a < 2147483648) (b1 : -2147483648 ≤ b) (b2 : b < 2147483648) : calm C0 b0 L0 xs0 230 [.ref (gi C0 i), .int (Int32.ofInt 5), .int (Int32.ofInt a), .int (Int32.ofInt b), .int u2] (yy, n) = some (.int (Int32.ofInt (q117 Y a b).1), (yy, n + (q117 Y a b).2.2)) := by
  have h := ce_117 (C0 := C0) (b0 := b0) (L0 := L0) (xs0 := xs0) (n := n) (u2 := u2) hY hk a1 a2 b1 b2
  rwa [show (q117 Y a b).2.1 = Y from qq_Y, ← hY, gz_gg, hY] at h
theorem cq_132 {s : Int64} {a : Int} (hY : gg yy i = Y) (hk : gk Y) (a1 : -2147483648 ≤ a) (a2 : a < 2147483648) : calm C0 b0 L0 xs0 332 [.ref (gi C0 i), .long s, .int (Int32.ofInt a)] (yy, n) = some (.int (Int32.ofInt (q132 Y s a).1), (yy, n + (q132 Y s a).2.2)) := by
  have h := cp_132 (C0 := C0) (b0 := b0) (L0 := L0) (xs0 := xs0) (yy := yy) (i := i) (n := n) (s := s) (a := a) (by rw [hY]; exact hk) a1 a2
  unfold can at h
  rwa [hY, show (q132 Y s a).2.1 = Y from qq_Y, ← hY, gz_gg, hY] at h
def r235_L (C0 : Nat) (x k : Int) : ri_L := [some (.ref (gi C0 false)), some (.ref (gi C0 true)), some (.int (Int32.ofInt x)), some (.int (Int32.ofInt 1)), some (.int (Int32.ofInt k))]
theorem r235_1 {x k : Int} (h0 : gg yy false = Y) (h1 : gg yy true = Y) (hk : gk Y) (x1 : 0 ≤ x) (x2 : x < 1000000) (k0 : 0 ≤ k) (k1 : k < 11) : ∃ t, t ≤ 10 ∧ evm C0 b0 L0 xs0 235 (36, r235_L C0 x k, []) (yy, n) = evm C0 b0 L0 xs0 235 (36, r235_L C0 x (k + 1), []) (yy, n + t) := by
  have e1 : (q113 Y k).2.2 ≤ 1 := qq_le
  have e2 : (q114 Y (x % 3) k).2.2 ≤ 1 := qq_le
  have e3 : (q115 Y (x % 3) k (x % 4)).2.2 ≤ 1 := qq_le
  have e4 : (q116 Y k (x % 6)).2.2 ≤ 1 := qq_le
  have e5 : (q117 Y k (x % 4)).2.2 ≤ 1 := qq_le
  unfold r235_L
  refine ⟨(q113 Y k).2.2 + ((q113 Y k).2.2 + ((q114 Y (x % 3) k).2.2 + ((q114 Y (x % 3) k).2.2 + ((q115 Y (x % 3) k (x % 4)).2.2 + ((q115 Y (x % 3) k (x % 4)).2.2 + ((q116 Y k (x % 6)).2.2 + ((q116 Y k (x % 6)).2.2 + ((q117 Y k (x % 4)).2.2 + (q117 Y k (x % 4)).2.2)))))))), by omega, ?_⟩
  rw [G_235_36]
  simp (disch := omega) only [Int.reduceAdd, Int.reduceMul, Int.reduceSub, Int.reduceNeg, na_add, na_sub, na_mul, na_neg, na_lt, na_le, na_eq, na_ofNat, bo_some, tl_some, tl_none, rc_int, rc_ref, rc_null, rc_none, rc_long, tb_0, tb_1, ↓mr_g0, mr_r0, mr_get, mr_upd, mr_at, mr_wr, Classical.not_not, not_true_eq_false, not_false_eq_true, na_l0, na_l1, na_l2, na_l3, na_l4, na_l5, na_l6, na_l7, na_l8, na_l9, na_l10, na_l14, na_l15, na_l16, na_l25, na_l30, na_l31, na_l32, na_l33, na_l39, na_l43, na_l45, na_l48, na_l49, na_l50, na_l51, na_l52, na_l53, na_l55, na_l56, na_l57, na_l60, na_l64, na_l71, na_l80, na_l96, na_l100, na_l101, na_l102, na_l103, na_l104, na_l105, na_l106, na_l107, na_l108, na_l109, na_l110, na_l111, na_l112, na_l113, na_l114, na_l115, na_l116, na_l117, na_l118, na_l119, na_l120, na_l121, na_l125, na_l128, na_l150, na_l192, na_l255, na_l999, na_l1000, na_l1248, na_l1344, na_l1875, na_l10000, ↓reduceIte, pf_and, pe_le, pf_le, pe_lt, pf_lt, pe_eq, pf_eq, true_and, and_true, false_and, and_false, true_or, or_true, false_or, or_false, ln_some, lb_0, lb_1, na_div, na_rem, Nat.add_assoc, Nat.reduceAdd, L_235_0, L_235_1, L_235_2, L_235_3, cq_113 h0 hk, cq_113 h1 hk, cq_114 h0 hk, cq_114 h1 hk, cq_115 h0 hk, cq_115 h1 hk, cq_116 h0 hk, cq_116 h1 hk, cq_117 h0 hk, cq_117 h1 hk, cq_132 h0 hk, cq_132 h1 hk, eq_self, ite_true, if_true]
theorem r235_n {x : Int} (h0 : gg yy false = Y) (h1 : gg yy true = Y) (hk : gk Y) (x1 : 0 ≤ x) (x2 : x < 1000000) : ∀ (m : Nat) (k : Int) (n : Nat), 0 ≤ k → k + m = 11 → ∃ t, t ≤ 10 * m ∧ evm C0 b0 L0 xs0 235 (36, r235_L C0 x k, []) (yy, n) = some (.int (Int32.ofInt 1), (yy, n + t)) := by
  intro m
  induction m with
  | zero =>
    intro k n k0 k1
    refine ⟨0, Nat.le_refl _, ?_⟩
    unfold r235_L
    rw [G_235_36]
    simp (disch := omega) only [Int.reduceAdd, Int.reduceMul, Int.reduceSub, Int.reduceNeg, na_add, na_sub, na_mul, na_neg, na_lt, na_le, na_eq, na_ofNat, bo_some, tl_some, tl_none, rc_int, rc_ref, rc_null, rc_none, rc_long, tb_0, tb_1, ↓mr_g0, mr_r0, mr_get, mr_upd, mr_at, mr_wr, Classical.not_not, not_true_eq_false, not_false_eq_true, na_l0, na_l1, na_l2, na_l3, na_l4, na_l5, na_l6, na_l7, na_l8, na_l9, na_l10, na_l14, na_l15, na_l16, na_l25, na_l30, na_l31, na_l32, na_l33, na_l39, na_l43, na_l45, na_l48, na_l49, na_l50, na_l51, na_l52, na_l53, na_l55, na_l56, na_l57, na_l60, na_l64, na_l71, na_l80, na_l96, na_l100, na_l101, na_l102, na_l103, na_l104, na_l105, na_l106, na_l107, na_l108, na_l109, na_l110, na_l111, na_l112, na_l113, na_l114, na_l115, na_l116, na_l117, na_l118, na_l119, na_l120, na_l121, na_l125, na_l128, na_l150, na_l192, na_l255, na_l999, na_l1000, na_l1248, na_l1344, na_l1875, na_l10000, ↓reduceIte, pf_and, pe_le, pf_le, pe_lt, pf_lt, pe_eq, pf_eq, true_and, and_true, false_and, and_false, true_or, or_true, false_or, or_false, ln_some, lb_0, lb_1, na_div, na_rem, Nat.add_assoc, Nat.reduceAdd, L_235_0, L_235_1, L_235_2, L_235_3, Nat.add_zero]
  | succ m ih =>
    intro k n k0 k1
    obtain ⟨t, ht, h⟩ := r235_1 (C0 := C0) (b0 := b0) (L0 := L0) (xs0 := xs0) (n := n) h0 h1 hk x1 x2 k0 (show k < 11 by omega)
    obtain ⟨t2, ht2, h2⟩ := ih (k + 1) (n + t) (by omega) (by omega)
    refine ⟨t + t2, by omega, ?_⟩
    rw [h, h2, Nat.add_assoc]
theorem r235 {x : Int} (h0 : gg yy false = Y) (h1 : gg yy true = Y) (hk : gk Y) (x1 : 0 ≤ x) (x2 : x < 1000000) : ∃ t, t ≤ 120 ∧ calm C0 b0 L0 xs0 235 [.ref (gi C0 false), .ref (gi C0 true), .int (Int32.ofInt x)] (yy, n) = some (.int (Int32.ofInt 1), (yy, n + t)) := by
  have e1 : (q132 Y (Int64.ofInt x) (1 + x % 40)).2.2 ≤ 1 := qq_le
  obtain ⟨t, ht, h⟩ := r235_n (C0 := C0) (b0 := b0) (L0 := L0) (xs0 := xs0) h0 h1 hk x1 x2 11 0 (n + ((q132 Y (Int64.ofInt x) (1 + x % 40)).2.2 + (q132 Y (Int64.ofInt x) (1 + x % 40)).2.2)) (by decide) (by decide)
  refine ⟨(q132 Y (Int64.ofInt x) (1 + x % 40)).2.2 + ((q132 Y (Int64.ofInt x) (1 + x % 40)).2.2 + t), by omega, ?_⟩
  rw [← Nat.add_assoc, ← Nat.add_assoc, Nat.add_assoc n, ← h]
  unfold r235_L
  rw [M_235]
  simp (disch := omega) only [Int.reduceAdd, Int.reduceMul, Int.reduceSub, Int.reduceNeg, na_add, na_sub, na_mul, na_neg, na_lt, na_le, na_eq, na_ofNat, bo_some, tl_some, tl_none, rc_int, rc_ref, rc_null, rc_none, rc_long, tb_0, tb_1, ↓mr_g0, mr_r0, mr_get, mr_upd, mr_at, mr_wr, Classical.not_not, not_true_eq_false, not_false_eq_true, na_l0, na_l1, na_l2, na_l3, na_l4, na_l5, na_l6, na_l7, na_l8, na_l9, na_l10, na_l14, na_l15, na_l16, na_l25, na_l30, na_l31, na_l32, na_l33, na_l39, na_l43, na_l45, na_l48, na_l49, na_l50, na_l51, na_l52, na_l53, na_l55, na_l56, na_l57, na_l60, na_l64, na_l71, na_l80, na_l96, na_l100, na_l101, na_l102, na_l103, na_l104, na_l105, na_l106, na_l107, na_l108, na_l109, na_l110, na_l111, na_l112, na_l113, na_l114, na_l115, na_l116, na_l117, na_l118, na_l119, na_l120, na_l121, na_l125, na_l128, na_l150, na_l192, na_l255, na_l999, na_l1000, na_l1248, na_l1344, na_l1875, na_l10000, ↓reduceIte, pf_and, pe_le, pf_le, pe_lt, pf_lt, pe_eq, pf_eq, true_and, and_true, false_and, and_false, true_or, or_true, false_or, or_false, ln_some, lb_0, lb_1, na_div, na_rem, Nat.add_assoc, Nat.reduceAdd, L_235_0, L_235_1, L_235_2, L_235_3, cq_113 h0 hk, cq_113 h1 hk, cq_114 h0 hk, cq_114 h1 hk, cq_115 h0 hk, cq_115 h1 hk, cq_116 h0 hk, cq_116 h1 hk, cq_117 h0 hk, cq_117 h1 hk, cq_132 h0 hk, cq_132 h1 hk, nb_wide, eq_self, ite_true, if_true]
end ALIKE
