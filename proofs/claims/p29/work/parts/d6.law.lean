/-! The law. -/
theorem mi_none {K : Int} (h0 : 0 ≤ K) (h : K ≤ 1000000) : mi K (fun _ => 0) := by
  refine ⟨⟨h, ?_⟩, ?_, ?_, ?_, ?_, ?_, ?_⟩
  · show ((0 : Int) ≤ 0 ∧ (0 : Int) ≤ 3) ∧ ((0 : Int) ≤ 0 ∧ (0 : Int) ≤ 8) ∧ ((0 : Int) ≤ 0 ∧ (0 : Int) ≤ 5) ∧ ((0 : Int) ≤ 0 ∧ 0 ≤ K) ∧ ((0 : Int) ≤ 0 ∧ 0 ≤ K) ∧ ((0 : Int) ≤ 0 ∧ 0 ≤ K) ∧ ((0 : Int) ≤ 0 ∧ 0 ≤ K) ∧ ((0 : Int) ≤ 0 ∧ (0 : Int) ≤ 0) ∧ ((0 : Int) ≤ 0 ∧ (0 : Int) ≤ 1)
    omega
  · intro w h1 h2
    have h2 : w < 0 := h2
    omega
  · intro w k h1 h2
    have h2 : w < 0 := h2
    omega
  · intro w h1 h2
    have h2 : w < 0 := h2
    omega
  · intro w h1 h2
    have h2 : w < 0 := h2
    omega
  · intro u g h1 h2
    have h2 : u < 0 := h2
    omega
  · intro i _
    rfl
theorem and_m (a : Int32) {m : Int} (m0 : 0 ≤ m) (m1 : m < 2147483648) : ∃ d : Int, a &&& Int32.ofInt m = Int32.ofInt d ∧ 0 ≤ d ∧ d ≤ m := by
  have hb : (a &&& Int32.ofInt m).toBitVec.toNat ≤ m.toNat := by
    have e : (a &&& Int32.ofInt m).toBitVec = a.toBitVec &&& BitVec.ofInt 32 m := rfl
    rw [e, BitVec.toNat_and]
    refine Nat.le_trans Nat.and_le_right ?_
    rw [BitVec.toNat_ofInt]
    have h2 : ((2 ^ 32 : Nat) : Int) = 4294967296 := by decide
    have h3 : (m % ((2 ^ 32 : Nat) : Int)) = m := Int.emod_eq_of_lt m0 (by rw [h2]; omega)
    rw [h3]
    exact Nat.le_refl _
  have hi : (a &&& Int32.ofInt m).toInt = ((a &&& Int32.ofInt m).toBitVec.toNat : Int) := by
    show (a &&& Int32.ofInt m).toBitVec.toInt = _
    exact BitVec.toInt_eq_toNat_of_lt (by omega)
  exact ⟨(a &&& Int32.ofInt m).toInt, (Int32.ofInt_toInt _).symm, by omega, by omega⟩
theorem cell_ok (L0 : Nat) (xs0 : Nat → Int32) (k : Int) : ∃ c : Int, cellv L0 xs0 k = Int32.ofInt c ∧ 0 ≤ c ∧ c < 2147483648 := by
  obtain ⟨d, e, d0, d1⟩ := and_m (if k < (L0 : Int) then xs0 k.toNat else Int32.ofInt 15519767 * (Int32.ofInt k + Int32.ofInt 3) + Int32.ofInt 11779) (m := 2147483647) (by decide) (by decide)
  exact ⟨d, e, d0, by omega⟩
section LAW
variable {C0 b0 L0 : Nat} {xs0 : Nat → Int32} {n : Nat} {Y : gy} {K : Int}
theorem ce_300 {k : Int} {y : (gy × gy) × Nat} (h1 : 0 ≤ k) (h2 : k < 2147483648) : calm C0 b0 L0 xs0 300 [.ref b0, .int (Int32.ofInt k)] y = some (.int (cellv L0 xs0 k), y) := by
  rw [em_pr rfl]
  exact lpr_cell h1 h2
theorem aq_le {x : Int} : (aq Y x).2.2 ≤ 1 := by
  have e0 : (0 : Nat) ≤ 1 := by decide
  unfold aq
  (repeat' split) <;> first | exact e0 | exact qq_le
theorem r234e {yy : gy × gy} {i : Bool} {x : Int} (hY : gg yy i = Y) (hG : gG K Y) (hK : K + 20 ≤ 100000) (x1 : 0 ≤ x) (x2 : x < 2147483648) : ∃ n1, n ≤ n1 ∧ n1 ≤ n + 1 ∧ calm C0 b0 L0 xs0 234 [.ref (gi C0 i), .int (Int32.ofInt x)] (yy, n) = some (.int (Int32.ofInt (aq Y x).1), (gz yy i (aq Y x).2.1, n1)) := by
  have h := aq_le (Y := Y) (x := x)
  exact ⟨_, by omega, by omega, r234 hY (hG.gk (by omega)) hG.i hG.1.2 x1 x2⟩
theorem r232e {yy : gy × gy} {i : Bool} {x : Int} (hY : gg yy i = Y) (hG : gG K Y) (hK : K + 20 ≤ 100000) (x1 : 0 ≤ x) (x2 : x < 100000) : ∃ n1, n ≤ n1 ∧ n1 ≤ n + 48 ∧ calm C0 b0 L0 xs0 232 [.ref (gi C0 i), .int (Int32.ofInt x)] (yy, n) = some (.int (Int32.ofInt 1), (yy, n1)) := by
  obtain ⟨t, ht, h⟩ := r232 (C0 := C0) (b0 := b0) (L0 := L0) (xs0 := xs0) (n := n) hY (hG.gk (by omega)) hG.i hG.1.2 x1 x2
  exact ⟨n + t, by omega, by omega, h⟩
theorem r235e {x : Int} (hG : gG K Y) (hK : K + 20 ≤ 100000) (x1 : 0 ≤ x) (x2 : x < 1000000) : ∃ n1, n ≤ n1 ∧ n1 ≤ n + 120 ∧ calm C0 b0 L0 xs0 235 [.ref (gi C0 false), .ref (gi C0 true), .int (Int32.ofInt x)] ((Y, Y), n) = some (.int (Int32.ofInt 1), ((Y, Y), n1)) := by
  obtain ⟨t, ht, h⟩ := r235 (C0 := C0) (b0 := b0) (L0 := L0) (xs0 := xs0) (n := n) (yy := (Y, Y)) (Y := Y) rfl rfl (hG.gk (by omega)) x1 x2
  exact ⟨n + t, by omega, by omega, h⟩
theorem r236e {x : Int} (hG : gG K Y) (hK : K + 20 ≤ 100000) (x1 : 0 ≤ x) (x2 : x < 2147483648) : ∃ n1 Y2, n ≤ n1 ∧ n1 ≤ n + 1 ∧ gG K Y2 ∧ calm C0 b0 L0 xs0 236 [.ref (gi C0 false), .ref (gi C0 true), .int (Int32.ofInt x)] ((Y, Y), n) = some (.int (Int32.ofInt 1), ((Y2, Y2), n1)) := by
  by_cases h : Y.1 2 = 0 ∨ Y.1 1 = 0
  · exact ⟨n + 1, Y, by omega, by omega, hG, r236_0 hG hK h⟩
  · exact ⟨n, gz1 Y, by omega, by omega, gG_1 hG, r236 hG hK x1 x2 h⟩
theorem r238e {x : Int} (hG : gG K Y) (hK : K + 20 ≤ 100000) (x1 : 0 ≤ x) (x2 : x < 2147483648) : ∃ Y2, gG K Y2 ∧ calm C0 b0 L0 xs0 238 [.ref (gi C0 false), .ref (gi C0 true), .int (Int32.ofInt x)] ((Y, Y), n) = some (.int (Int32.ofInt 1), ((Y2, Y2), n)) := by
  by_cases h : Y.1 2 = 0
  · exact ⟨Y, hG, r238_0 hG hK h⟩
  · exact ⟨gz1 Y, gG_1 hG, r238 hG hK x1 x2 h⟩
def r240_L (b0 C0 : Nat) (turns x0 k : Int) (a b : Option Value) : ri_L := [some (.ref b0), some (.ref (gi C0 false)), some (.ref (gi C0 true)), some (.int (Int32.ofInt turns)), some (.int (Int32.ofInt x0)), some (.int (Int32.ofInt 1)), some (.int (Int32.ofInt k)), a, b]
theorem r240_k {turns x0 k : Int} {a b : Option Value} (hG : gG K Y) (hK : K + 40 ≤ 100000) (k0 : 0 ≤ k) (k1 : k < turns) (k2 : turns ≤ 40) : ∃ n1 Y2 a2 b2, n ≤ n1 ∧ n1 ≤ n + 219 ∧ gG (K + 20) Y2 ∧ evm C0 b0 L0 xs0 240 (154, r240_L b0 C0 turns x0 k a b, []) ((Y, Y), n) = evm C0 b0 L0 xs0 240 (154, r240_L b0 C0 turns x0 (k + 1) a2 b2, []) ((Y2, Y2), n1) := by
  obtain ⟨c, hc, c0, c1⟩ := cell_ok L0 xs0 (2 + k)
  obtain ⟨n1, n1a, n1b, h1⟩ := r234e (C0 := C0) (b0 := b0) (L0 := L0) (xs0 := xs0) (n := n) (yy := (Y, Y)) (i := false) (Y := Y) (x := c) rfl hG (by omega) c0 c1
  have hG1 := aq_G (x := c) hG (by omega)
  generalize hv : (aq Y c).1 = v at *
  generalize hy1 : (aq Y c).2.1 = Y1 at *
  obtain ⟨n2, n2a, n2b, h2⟩ := r232e (C0 := C0) (b0 := b0) (L0 := L0) (xs0 := xs0) (n := n1) (yy := (Y1, Y)) (i := true) (Y := Y) (x := c % 100000) rfl hG (by omega) (by omega) (by omega)
  obtain ⟨n3, n3a, n3b, h3⟩ := r234e (C0 := C0) (b0 := b0) (L0 := L0) (xs0 := xs0) (n := n2) (yy := (Y1, Y)) (i := true) (Y := Y) (x := c) rfl hG (by omega) c0 c1
  rw [hv, hy1] at h3
  obtain ⟨n4, n4a, n4b, h4⟩ := r232e (C0 := C0) (b0 := b0) (L0 := L0) (xs0 := xs0) (n := n3) (yy := (Y1, Y1)) (i := true) (Y := Y1) (x := c % 1000) rfl hG1 (by omega) (by omega) (by omega)
  obtain ⟨n5, n5a, n5b, h5⟩ := r235e (C0 := C0) (b0 := b0) (L0 := L0) (xs0 := xs0) (n := n4) (x := c % 5000) hG1 (by omega) (by omega) (by omega)
  have h6 := r233 (C0 := C0) (b0 := b0) (L0 := L0) (xs0 := xs0) (n := n5) (yy := (Y1, Y1)) (i := false) (Y := Y1) rfl (hG1.gk (by omega)) hG1.i hG1.1.1.2
  have h7 := r233 (C0 := C0) (b0 := b0) (L0 := L0) (xs0 := xs0) (n := n5) (yy := (Y1, Y1)) (i := true) (Y := Y1) rfl (hG1.gk (by omega)) hG1.i hG1.1.1.2
  obtain ⟨n8, Y8, n8a, n8b, hG8, h8⟩ := r236e (C0 := C0) (b0 := b0) (L0 := L0) (xs0 := xs0) (n := n5) (x := c / 7) hG1 (by omega) (by omega) (by omega)
  have h9 := r237 (C0 := C0) (b0 := b0) (L0 := L0) (xs0 := xs0) (n := n8) (yy := (Y8, Y8)) (i := false) (Y := Y8) (x := c / 11) rfl (hG8.gk (by omega)) hG8.i (by omega) (by omega)
  obtain ⟨Y10, hG10, h10⟩ := r238e (C0 := C0) (b0 := b0) (L0 := L0) (xs0 := xs0) (n := n8) (x := c / 13) hG8 (by omega) (by omega) (by omega)
  have hk3 : k % 3 = 0 ∨ k % 3 = 1 ∨ k % 3 = 2 := by omega
  have hk2 : k % 2 = 0 ∨ k % 2 = 1 := by omega
  unfold r240_L
  rcases hk3 with q3 | q3 | q3
  · refine ⟨n8, Y10, some (.int (Int32.ofInt c)), some (.int (Int32.ofInt v)), by omega, by omega, hG10, ?_⟩
    rcases hk2 with q2 | q2
    · rw [G_240_154]
      simp (disch := omega) only [Int.reduceAdd, Int.reduceMul, Int.reduceSub, Int.reduceNeg, na_add, na_sub, na_mul, na_neg, na_lt, na_le, na_eq, na_ofNat, bo_some, tl_some, tl_none, rc_int, rc_ref, rc_null, rc_none, rc_long, tb_0, tb_1, ↓mr_g0, mr_r0, mr_get, mr_upd, mr_at, mr_wr, Classical.not_not, not_true_eq_false, not_false_eq_true, na_l0, na_l1, na_l2, na_l3, na_l4, na_l5, na_l6, na_l7, na_l8, na_l9, na_l10, na_l14, na_l15, na_l16, na_l25, na_l30, na_l31, na_l32, na_l33, na_l39, na_l43, na_l45, na_l48, na_l49, na_l50, na_l51, na_l52, na_l53, na_l55, na_l56, na_l57, na_l60, na_l64, na_l71, na_l80, na_l96, na_l100, na_l101, na_l102, na_l103, na_l104, na_l105, na_l106, na_l107, na_l108, na_l109, na_l110, na_l111, na_l112, na_l113, na_l114, na_l115, na_l116, na_l117, na_l118, na_l119, na_l120, na_l121, na_l125, na_l128, na_l150, na_l192, na_l255, na_l999, na_l1000, na_l1248, na_l1344, na_l1875, na_l10000, ↓reduceIte, pf_and, pe_le, pf_le, pe_lt, pf_lt, pe_eq, pf_eq, true_and, and_true, false_and, and_false, true_or, or_true, false_or, or_false, ln_some, lb_0, lb_1, na_div, na_rem, L_240_0, L_240_1, L_240_2, L_240_3, L_240_4, gz_f, gz_t, Nat.add_zero, eq_self, ite_true, if_true, ce_300, hc, h1, h2, h3, h4, h5, h6, h7, h8, h9, h10]
    · rw [G_240_154]
      simp (disch := omega) only [Int.reduceAdd, Int.reduceMul, Int.reduceSub, Int.reduceNeg, na_add, na_sub, na_mul, na_neg, na_lt, na_le, na_eq, na_ofNat, bo_some, tl_some, tl_none, rc_int, rc_ref, rc_null, rc_none, rc_long, tb_0, tb_1, ↓mr_g0, mr_r0, mr_get, mr_upd, mr_at, mr_wr, Classical.not_not, not_true_eq_false, not_false_eq_true, na_l0, na_l1, na_l2, na_l3, na_l4, na_l5, na_l6, na_l7, na_l8, na_l9, na_l10, na_l14, na_l15, na_l16, na_l25, na_l30, na_l31, na_l32, na_l33, na_l39, na_l43, na_l45, na_l48, na_l49, na_l50, na_l51, na_l52, na_l53, na_l55, na_l56, na_l57, na_l60, na_l64, na_l71, na_l80, na_l96, na_l100, na_l101, na_l102, na_l103, na_l104, na_l105, na_l106, na_l107, na_l108, na_l109, na_l110, na_l111, na_l112, na_l113, na_l114, na_l115, na_l116, na_l117, na_l118, na_l119, na_l120, na_l121, na_l125, na_l128, na_l150, na_l192, na_l255, na_l999, na_l1000, na_l1248, na_l1344, na_l1875, na_l10000, ↓reduceIte, pf_and, pe_le, pf_le, pe_lt, pf_lt, pe_eq, pf_eq, true_and, and_true, false_and, and_false, true_or, or_true, false_or, or_false, ln_some, lb_0, lb_1, na_div, na_rem, L_240_0, L_240_1, L_240_2, L_240_3, L_240_4, gz_f, gz_t, Nat.add_zero, eq_self, ite_true, if_true, ce_300, hc, h1, h2, h3, h4, h5, h6, h7, h8, h9, h10]
  · refine ⟨n8, Y10, some (.int (Int32.ofInt c)), some (.int (Int32.ofInt v)), by omega, by omega, hG10, ?_⟩
    rcases hk2 with q2 | q2
    · rw [G_240_154]
      simp (disch := omega) only [Int.reduceAdd, Int.reduceMul, Int.reduceSub, Int.reduceNeg, na_add, na_sub, na_mul, na_neg, na_lt, na_le, na_eq, na_ofNat, bo_some, tl_some, tl_none, rc_int, rc_ref, rc_null, rc_none, rc_long, tb_0, tb_1, ↓mr_g0, mr_r0, mr_get, mr_upd, mr_at, mr_wr, Classical.not_not, not_true_eq_false, not_false_eq_true, na_l0, na_l1, na_l2, na_l3, na_l4, na_l5, na_l6, na_l7, na_l8, na_l9, na_l10, na_l14, na_l15, na_l16, na_l25, na_l30, na_l31, na_l32, na_l33, na_l39, na_l43, na_l45, na_l48, na_l49, na_l50, na_l51, na_l52, na_l53, na_l55, na_l56, na_l57, na_l60, na_l64, na_l71, na_l80, na_l96, na_l100, na_l101, na_l102, na_l103, na_l104, na_l105, na_l106, na_l107, na_l108, na_l109, na_l110, na_l111, na_l112, na_l113, na_l114, na_l115, na_l116, na_l117, na_l118, na_l119, na_l120, na_l121, na_l125, na_l128, na_l150, na_l192, na_l255, na_l999, na_l1000, na_l1248, na_l1344, na_l1875, na_l10000, ↓reduceIte, pf_and, pe_le, pf_le, pe_lt, pf_lt, pe_eq, pf_eq, true_and, and_true, false_and, and_false, true_or, or_true, false_or, or_false, ln_some, lb_0, lb_1, na_div, na_rem, L_240_0, L_240_1, L_240_2, L_240_3, L_240_4, gz_f, gz_t, Nat.add_zero, eq_self, ite_true, if_true, ce_300, hc, h1, h2, h3, h4, h5, h6, h7, h8, h9, h10]
    · rw [G_240_154]
      simp (disch := omega) only [Int.reduceAdd, Int.reduceMul, Int.reduceSub, Int.reduceNeg, na_add, na_sub, na_mul, na_neg, na_lt, na_le, na_eq, na_ofNat, bo_some, tl_some, tl_none, rc_int, rc_ref, rc_null, rc_none, rc_long, tb_0, tb_1, ↓mr_g0, mr_r0, mr_get, mr_upd, mr_at, mr_wr, Classical.not_not, not_true_eq_false, not_false_eq_true, na_l0, na_l1, na_l2, na_l3, na_l4, na_l5, na_l6, na_l7, na_l8, na_l9, na_l10, na_l14, na_l15, na_l16, na_l25, na_l30, na_l31, na_l32, na_l33, na_l39, na_l43, na_l45, na_l48, na_l49, na_l50, na_l51, na_l52, na_l53, na_l55, na_l56, na_l57, na_l60, na_l64, na_l71, na_l80, na_l96, na_l100, na_l101, na_l102, na_l103, na_l104, na_l105, na_l106, na_l107, na_l108, na_l109, na_l110, na_l111, na_l112, na_l113, na_l114, na_l115, na_l116, na_l117, na_l118, na_l119, na_l120, na_l121, na_l125, na_l128, na_l150, na_l192, na_l255, na_l999, na_l1000, na_l1248, na_l1344, na_l1875, na_l10000, ↓reduceIte, pf_and, pe_le, pf_le, pe_lt, pf_lt, pe_eq, pf_eq, true_and, and_true, false_and, and_false, true_or, or_true, false_or, or_false, ln_some, lb_0, lb_1, na_div, na_rem, L_240_0, L_240_1, L_240_2, L_240_3, L_240_4, gz_f, gz_t, Nat.add_zero, eq_self, ite_true, if_true, ce_300, hc, h1, h2, h3, h4, h5, h6, h7, h8, h9, h10]
  · refine ⟨n8, Y8, some (.int (Int32.ofInt c)), some (.int (Int32.ofInt v)), by omega, by omega, hG8, ?_⟩
    rcases hk2 with q2 | q2
    · rw [G_240_154]
      simp (disch := omega) only [Int.reduceAdd, Int.reduceMul, Int.reduceSub, Int.reduceNeg, na_add, na_sub, na_mul, na_neg, na_lt, na_le, na_eq, na_ofNat, bo_some, tl_some, tl_none, rc_int, rc_ref, rc_null, rc_none, rc_long, tb_0, tb_1, ↓mr_g0, mr_r0, mr_get, mr_upd, mr_at, mr_wr, Classical.not_not, not_true_eq_false, not_false_eq_true, na_l0, na_l1, na_l2, na_l3, na_l4, na_l5, na_l6, na_l7, na_l8, na_l9, na_l10, na_l14, na_l15, na_l16, na_l25, na_l30, na_l31, na_l32, na_l33, na_l39, na_l43, na_l45, na_l48, na_l49, na_l50, na_l51, na_l52, na_l53, na_l55, na_l56, na_l57, na_l60, na_l64, na_l71, na_l80, na_l96, na_l100, na_l101, na_l102, na_l103, na_l104, na_l105, na_l106, na_l107, na_l108, na_l109, na_l110, na_l111, na_l112, na_l113, na_l114, na_l115, na_l116, na_l117, na_l118, na_l119, na_l120, na_l121, na_l125, na_l128, na_l150, na_l192, na_l255, na_l999, na_l1000, na_l1248, na_l1344, na_l1875, na_l10000, ↓reduceIte, pf_and, pe_le, pf_le, pe_lt, pf_lt, pe_eq, pf_eq, true_and, and_true, false_and, and_false, true_or, or_true, false_or, or_false, ln_some, lb_0, lb_1, na_div, na_rem, L_240_0, L_240_1, L_240_2, L_240_3, L_240_4, gz_f, gz_t, Nat.add_zero, eq_self, ite_true, if_true, ce_300, hc, h1, h2, h3, h4, h5, h6, h7, h8, h9, h10]
    · rw [G_240_154]
      simp (disch := omega) only [Int.reduceAdd, Int.reduceMul, Int.reduceSub, Int.reduceNeg, na_add, na_sub, na_mul, na_neg, na_lt, na_le, na_eq, na_ofNat, bo_some, tl_some, tl_none, rc_int, rc_ref, rc_null, rc_none, rc_long, tb_0, tb_1, ↓mr_g0, mr_r0, mr_get, mr_upd, mr_at, mr_wr, Classical.not_not, not_true_eq_false, not_false_eq_true, na_l0, na_l1, na_l2, na_l3, na_l4, na_l5, na_l6, na_l7, na_l8, na_l9, na_l10, na_l14, na_l15, na_l16, na_l25, na_l30, na_l31, na_l32, na_l33, na_l39, na_l43, na_l45, na_l48, na_l49, na_l50, na_l51, na_l52, na_l53, na_l55, na_l56, na_l57, na_l60, na_l64, na_l71, na_l80, na_l96, na_l100, na_l101, na_l102, na_l103, na_l104, na_l105, na_l106, na_l107, na_l108, na_l109, na_l110, na_l111, na_l112, na_l113, na_l114, na_l115, na_l116, na_l117, na_l118, na_l119, na_l120, na_l121, na_l125, na_l128, na_l150, na_l192, na_l255, na_l999, na_l1000, na_l1248, na_l1344, na_l1875, na_l10000, ↓reduceIte, pf_and, pe_le, pf_le, pe_lt, pf_lt, pe_eq, pf_eq, true_and, and_true, false_and, and_false, true_or, or_true, false_or, or_false, ln_some, lb_0, lb_1, na_div, na_rem, L_240_0, L_240_1, L_240_2, L_240_3, L_240_4, gz_f, gz_t, Nat.add_zero, eq_self, ite_true, if_true, ce_300, hc, h1, h2, h3, h4, h5, h6, h7, h8, h9, h10]
theorem r240_ks {turns x0 : Int} (k2 : turns ≤ 40) : ∀ (m : Nat) (k K : Int) (n : Nat) (Y : gy) (a b : Option Value), 0 ≤ k → k + m = turns → gG K Y → K ≤ 20 * k → ∃ n1 Y2, n ≤ n1 ∧ n1 ≤ n + 219 * m ∧ evm C0 b0 L0 xs0 240 (154, r240_L b0 C0 turns x0 k a b, []) ((Y, Y), n) = some (.int (Int32.ofInt 1), ((Y2, Y2), n1)) := by
  intro m
  induction m with
  | zero =>
    intro k K n Y a b k0 e hG hK
    refine ⟨n, Y, Nat.le_refl _, by omega, ?_⟩
    unfold r240_L
    rw [G_240_154]
    simp (disch := omega) only [Int.reduceAdd, Int.reduceMul, Int.reduceSub, Int.reduceNeg, na_add, na_sub, na_mul, na_neg, na_lt, na_le, na_eq, na_ofNat, bo_some, tl_some, tl_none, rc_int, rc_ref, rc_null, rc_none, rc_long, tb_0, tb_1, ↓mr_g0, mr_r0, mr_get, mr_upd, mr_at, mr_wr, Classical.not_not, not_true_eq_false, not_false_eq_true, na_l0, na_l1, na_l2, na_l3, na_l4, na_l5, na_l6, na_l7, na_l8, na_l9, na_l10, na_l14, na_l15, na_l16, na_l25, na_l30, na_l31, na_l32, na_l33, na_l39, na_l43, na_l45, na_l48, na_l49, na_l50, na_l51, na_l52, na_l53, na_l55, na_l56, na_l57, na_l60, na_l64, na_l71, na_l80, na_l96, na_l100, na_l101, na_l102, na_l103, na_l104, na_l105, na_l106, na_l107, na_l108, na_l109, na_l110, na_l111, na_l112, na_l113, na_l114, na_l115, na_l116, na_l117, na_l118, na_l119, na_l120, na_l121, na_l125, na_l128, na_l150, na_l192, na_l255, na_l999, na_l1000, na_l1248, na_l1344, na_l1875, na_l10000, ↓reduceIte, pf_and, pe_le, pf_le, pe_lt, pf_lt, pe_eq, pf_eq, true_and, and_true, false_and, and_false, true_or, or_true, false_or, or_false, ln_some, lb_0, lb_1, na_div, na_rem, L_240_0, L_240_1, L_240_2, L_240_3, L_240_4, gz_f, gz_t, Nat.add_zero, eq_self, ite_true, if_true]
  | succ m ih =>
    intro k K n Y a b k0 e hG hK
    obtain ⟨n1, Y1, a1, b1, u1, u2, hG1, h1⟩ := r240_k (C0 := C0) (b0 := b0) (L0 := L0) (xs0 := xs0) (n := n) (x0 := x0) (a := a) (b := b) hG (by omega) k0 (show k < turns by omega) k2
    obtain ⟨n2, Y2, v1, v2, h2⟩ := ih (k + 1) (K + 20) n1 Y1 a1 b1 (by omega) (by omega) hG1 (by omega)
    exact ⟨n2, Y2, by omega, by omega, h1.trans h2⟩
theorem cv_118 {yy : gy × gy} {i : Bool} {a b c : Int} (hY : gg yy i = Y) (hk : gk Y) (q : (3 ≤ a ∧ a ≤ 5) ∧ (-4 ≤ b ∧ b ≤ 4) ∧ (0 ≤ c ∧ c ≤ 30)) (h3 : Y.1 0 < 3) : calm C0 b0 L0 xs0 230 [.ref (gi C0 i), .int (Int32.ofInt 7), .int (Int32.ofInt a), .int (Int32.ofInt b), .int (Int32.ofInt c)] (yy, n) = some (.int (Int32.ofInt (Y.1 0)), (gz yy i (ga Y (mg_wheel Y.1 a b c)), n)) := by
  have h := cp_118 (C0 := C0) (b0 := b0) (L0 := L0) (xs0 := xs0) (yy := yy) (i := i) (n := n) (a := a) (b := b) (c := c) (by rw [hY]; exact hk) (by omega) (by omega) (by omega) (by omega) (by omega) (by omega)
  rw [hY] at h
  have e : f118 Y.1 a b c = 0 := by
    unfold f118 mf_fW
    rw [if_pos q, if_pos h3]
  exact can_ok h e
theorem r240_b {turns x0 k : Int} {a b : Option Value} (hk : gk Y) (k0 : 0 ≤ k) (k1 : k < 2) (h0 : Y.1 0 = k) : ∃ u v w, ((3 ≤ u ∧ u ≤ 5) ∧ (-4 ≤ v ∧ v ≤ 4) ∧ (0 ≤ w ∧ w ≤ 30)) ∧ evm C0 b0 L0 xs0 240 (41, r240_L b0 C0 turns x0 k a b, []) ((Y, Y), n) = evm C0 b0 L0 xs0 240 (41, r240_L b0 C0 turns x0 (k + 1) a b, []) ((ga Y (mg_wheel Y.1 u v w), ga Y (mg_wheel Y.1 u v w)), n) := by
  obtain ⟨d, hd, d0, d1⟩ := and_m (Int32.ofInt x0 >>> (Int32.ofInt k &&& Int32.ofInt 31)) (m := 7) (by decide) (by decide)
  obtain ⟨e, he, e0, e1⟩ := and_m (Int32.ofInt x0 >>> (Int32.ofInt (3 * k) &&& Int32.ofInt 31)) (m := 15) (by decide) (by decide)
  refine ⟨3 + d % 3, e % 9 - 4, 9 * k, by omega, ?_⟩
  have hA := cv_118 (C0 := C0) (b0 := b0) (L0 := L0) (xs0 := xs0) (n := n) (yy := (Y, Y)) (i := false) (Y := Y) (a := 3 + d % 3) (b := e % 9 - 4) (c := 9 * k) rfl hk (by omega) (by omega)
  have hB := cv_118 (C0 := C0) (b0 := b0) (L0 := L0) (xs0 := xs0) (n := n) (yy := (ga Y (mg_wheel Y.1 (3 + d % 3) (e % 9 - 4) (9 * k)), Y)) (i := true) (Y := Y) (a := 3 + d % 3) (b := e % 9 - 4) (c := 9 * k) rfl hk (by omega) (by omega)
  rw [h0] at hA hB
  unfold r240_L
  rw [G_240_41]
  simp (disch := omega) only [Int.reduceAdd, Int.reduceMul, Int.reduceSub, Int.reduceNeg, na_add, na_sub, na_mul, na_neg, na_lt, na_le, na_eq, na_ofNat, bo_some, tl_some, tl_none, rc_int, rc_ref, rc_null, rc_none, rc_long, tb_0, tb_1, ↓mr_g0, mr_r0, mr_get, mr_upd, mr_at, mr_wr, Classical.not_not, not_true_eq_false, not_false_eq_true, na_l0, na_l1, na_l2, na_l3, na_l4, na_l5, na_l6, na_l7, na_l8, na_l9, na_l10, na_l14, na_l15, na_l16, na_l25, na_l30, na_l31, na_l32, na_l33, na_l39, na_l43, na_l45, na_l48, na_l49, na_l50, na_l51, na_l52, na_l53, na_l55, na_l56, na_l57, na_l60, na_l64, na_l71, na_l80, na_l96, na_l100, na_l101, na_l102, na_l103, na_l104, na_l105, na_l106, na_l107, na_l108, na_l109, na_l110, na_l111, na_l112, na_l113, na_l114, na_l115, na_l116, na_l117, na_l118, na_l119, na_l120, na_l121, na_l125, na_l128, na_l150, na_l192, na_l255, na_l999, na_l1000, na_l1248, na_l1344, na_l1875, na_l10000, ↓reduceIte, pf_and, pe_le, pf_le, pe_lt, pf_lt, pe_eq, pf_eq, true_and, and_true, false_and, and_false, true_or, or_true, false_or, or_false, ln_some, lb_0, lb_1, na_div, na_rem, L_240_0, L_240_1, L_240_2, L_240_3, L_240_4, gz_f, gz_t, Nat.add_zero, eq_self, ite_true, if_true, hd, he, hA, hB]
def Y_0 : gy := (m0, ([], fun _ => none))
theorem r240 : ∃ n1 Y2, n1 ≤ 8760 ∧ evm C0 b0 L0 xs0 240 (16, [some (.ref b0), some (.ref (gi C0 false)), some (.ref (gi C0 true)), none, none, none, none, none, none], []) ((Y_0, Y_0), 0) = some (.int (Int32.ofInt 1), ((Y2, Y2), n1)) := by
  have z0 : gq 0 m0 := ⟨mi_none (by decide) (by decide), by
    refine ⟨⟨rfl, rfl⟩, ⟨rfl, Int.le_refl _⟩, fun w w0 w1 => ?_, Iff.rfl⟩
    exact Int.le_refl _⟩
  obtain ⟨c, hc, c0, c1⟩ := cell_ok L0 xs0 0
  obtain ⟨x0, hx, x1, x2⟩ := cell_ok L0 xs0 1
  have k0 : gk Y_0 := ⟨mi_mono z0.1 (by decide) (by decide), (fun R hR => nomatch hR), (fun i R hR => nomatch hR)⟩
  obtain ⟨u, v, w, q, h1⟩ := r240_b (C0 := C0) (b0 := b0) (L0 := L0) (xs0 := xs0) (n := 0) (Y := Y_0) (turns := 14 + c % 27) (x0 := x0) (k := 0) (a := none) (b := none) k0 (by decide) (by decide) rfl
  have z1 := gq_wheel z0 q (by decide)
  have e1 : ga Y_0 (mg_wheel Y_0.1 u v w) = (mg_wheel m0 u v w, ([m0], fun _ => none)) := rfl
  have w1 : mg_wheel m0 u v w 0 = 1 := z1.2.1
  have w3 : mg_wheel m0 u v w 3 = 0 := z1.2.2
  rw [e1] at h1
  have z1 := z1.1
  generalize mg_wheel m0 u v w = R1 at *
  have k1 : gk (R1, ([m0], fun _ => none)) := ⟨mi_mono z1.1 (by decide) (by decide), fun R hR => by
    rw [List.mem_singleton.mp hR]
    exact mi_mono z0.1 (by decide) (by decide), (fun i R hR => nomatch hR)⟩
  obtain ⟨u2, v2, w2, q2, h2⟩ := r240_b (C0 := C0) (b0 := b0) (L0 := L0) (xs0 := xs0) (n := 0) (Y := (R1, ([m0], fun _ => none))) (turns := 14 + c % 27) (x0 := x0) (k := 1) (a := none) (b := none) k1 (by decide) (by decide) w1
  have z2 := gq_wheel z1 q2 (by omega)
  have e2 : ga ((R1, ([m0], fun _ => none)) : gy) (mg_wheel R1 u2 v2 w2) = (mg_wheel R1 u2 v2 w2, ([R1, m0], fun _ => none)) := rfl
  have w4 : mg_wheel R1 u2 v2 w2 0 = 2 := by rw [z2.2.1, w1]; rfl
  have w5 : mg_wheel R1 u2 v2 w2 3 = 0 := z2.2.2.trans w3
  rw [e2] at h2
  have z2 := z2.1
  generalize mg_wheel R1 u2 v2 w2 = R2 at *
  have hG : gG 0 (R2, ([R1, m0], fun _ => none)) := by
    refine ⟨⟨z2, by show 2 ≤ R2 0; omega⟩, fun R hR => ?_, (fun i R hR => nomatch hR), ⟨Or.inr (by show R2 3 ≤ 1; omega), Or.inr (by show R1 3 ≤ 1; omega), trivial⟩, by show (((2 : Nat)) : Int) ≤ 14; decide⟩
    rcases List.mem_cons.mp hR with e | e
    · rw [e]
      exact z1
    · rw [List.mem_singleton.mp e]
      exact z0
  obtain ⟨n1, Y2, a1, a2, h3⟩ := r240_ks (C0 := C0) (b0 := b0) (L0 := L0) (xs0 := xs0) (turns := 14 + c % 27) (x0 := x0) (by omega) (14 + c % 27).toNat 0 0 0 _ none none (by decide) (by omega) hG (by decide)
  refine ⟨n1, Y2, by omega, ?_⟩
  rw [← h3]
  have hA : evm C0 b0 L0 xs0 240 (16, [some (.ref b0), some (.ref (gi C0 false)), some (.ref (gi C0 true)), none, none, none, none, none, none], []) ((Y_0, Y_0), 0) = evm C0 b0 L0 xs0 240 (41, r240_L b0 C0 (14 + c % 27) x0 0 none none, []) ((Y_0, Y_0), 0) := by
    unfold r240_L
    simp (disch := omega) only [Int.reduceAdd, Int.reduceMul, Int.reduceSub, Int.reduceNeg, na_add, na_sub, na_mul, na_neg, na_lt, na_le, na_eq, na_ofNat, bo_some, tl_some, tl_none, rc_int, rc_ref, rc_null, rc_none, rc_long, tb_0, tb_1, ↓mr_g0, mr_r0, mr_get, mr_upd, mr_at, mr_wr, Classical.not_not, not_true_eq_false, not_false_eq_true, na_l0, na_l1, na_l2, na_l3, na_l4, na_l5, na_l6, na_l7, na_l8, na_l9, na_l10, na_l14, na_l15, na_l16, na_l25, na_l30, na_l31, na_l32, na_l33, na_l39, na_l43, na_l45, na_l48, na_l49, na_l50, na_l51, na_l52, na_l53, na_l55, na_l56, na_l57, na_l60, na_l64, na_l71, na_l80, na_l96, na_l100, na_l101, na_l102, na_l103, na_l104, na_l105, na_l106, na_l107, na_l108, na_l109, na_l110, na_l111, na_l112, na_l113, na_l114, na_l115, na_l116, na_l117, na_l118, na_l119, na_l120, na_l121, na_l125, na_l128, na_l150, na_l192, na_l255, na_l999, na_l1000, na_l1248, na_l1344, na_l1875, na_l10000, ↓reduceIte, pf_and, pe_le, pf_le, pe_lt, pf_lt, pe_eq, pf_eq, true_and, and_true, false_and, and_false, true_or, or_true, false_or, or_false, ln_some, lb_0, lb_1, na_div, na_rem, L_240_0, L_240_1, L_240_2, L_240_3, L_240_4, gz_f, gz_t, Nat.add_zero, eq_self, ite_true, if_true, ce_300, hc, hx]
  rw [hA, h1]
  refine Eq.trans h2 ?_
  unfold r240_L
  rw [G_240_41]
  simp (disch := omega) only [Int.reduceAdd, Int.reduceMul, Int.reduceSub, Int.reduceNeg, na_add, na_sub, na_mul, na_neg, na_lt, na_le, na_eq, na_ofNat, bo_some, tl_some, tl_none, rc_int, rc_ref, rc_null, rc_none, rc_long, tb_0, tb_1, ↓mr_g0, mr_r0, mr_get, mr_upd, mr_at, mr_wr, Classical.not_not, not_true_eq_false, not_false_eq_true, na_l0, na_l1, na_l2, na_l3, na_l4, na_l5, na_l6, na_l7, na_l8, na_l9, na_l10, na_l14, na_l15, na_l16, na_l25, na_l30, na_l31, na_l32, na_l33, na_l39, na_l43, na_l45, na_l48, na_l49, na_l50, na_l51, na_l52, na_l53, na_l55, na_l56, na_l57, na_l60, na_l64, na_l71, na_l80, na_l96, na_l100, na_l101, na_l102, na_l103, na_l104, na_l105, na_l106, na_l107, na_l108, na_l109, na_l110, na_l111, na_l112, na_l113, na_l114, na_l115, na_l116, na_l117, na_l118, na_l119, na_l120, na_l121, na_l125, na_l128, na_l150, na_l192, na_l255, na_l999, na_l1000, na_l1248, na_l1344, na_l1875, na_l10000, ↓reduceIte, pf_and, pe_le, pf_le, pe_lt, pf_lt, pe_eq, pf_eq, true_and, and_true, false_and, and_false, true_or, or_true, false_or, or_false, ln_some, lb_0, lb_1, na_div, na_rem, L_240_0, L_240_1, L_240_2, L_240_3, L_240_4, gz_f, gz_t, Nat.add_zero, eq_self, ite_true, if_true]
end LAW
