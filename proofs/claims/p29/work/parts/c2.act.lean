/-! What the law does to a pond, by a number. -/
section ACT
variable {C0 b0 L0 : Nat} {xs0 : Nat → Int32} {yy : gy × gy} {i : Bool} {n : Nat} {Y : gy} {K : Int}
theorem ce_113 {a : Int} {u1 : Int32} {u2 : Int32} (hY : gg yy i = Y) (hk : gk Y) (a1 : -2147483648 ≤ a) (a2 : a < 2147483648) : calm C0 b0 L0 xs0 230 [.ref (gi C0 i), .int (Int32.ofInt 2), .int (Int32.ofInt a), .int u1, .int u2] (yy, n) = some (.int (Int32.ofInt (q113 Y a).1), (gz yy i (q113 Y a).2.1, n + (q113 Y a).2.2)) := by
  subst hY
  exact cp_113 hk a1 a2
theorem ce_114 {a b : Int} {u2 : Int32} (hY : gg yy i = Y) (hk : gk Y) (a1 : -2147483648 ≤ a) (a2 : a < 2147483648) (b1 : -2147483648 ≤ b) (b2 : b < 2147483648) : calm C0 b0 L0 xs0 230 [.ref (gi C0 i), .int (Int32.ofInt 3), .int (Int32.ofInt a), .int (Int32.ofInt b), .int u2] (yy, n) = some (.int (Int32.ofInt (q114 Y a b).1), (gz yy i (q114 Y a b).2.1, n + (q114 Y a b).2.2)) := by
  subst hY
  exact cp_114 hk a1 a2 b1 b2
theorem ce_115 {a b c : Int}  (hY : gg yy i = Y) (hk : gk Y) (a1 : -2147483648 ≤ a) (a2 : a < 2147483648) (b1 : -2147483648 ≤ b) (b2 : b < 2147483648) (c1 : -2147483648 ≤ c) (c2 : c < 2147483648) : calm C0 b0 L0 xs0 230 [.ref (gi C0 i), .int (Int32.ofInt 6), .int (Int32.ofInt a), .int (Int32.ofInt b), .int (Int32.ofInt c)] (yy, n) = some (.int (Int32.ofInt (q115 Y a b c).1), (gz yy i (q115 Y a b c).2.1, n + (q115 Y a b c).2.2)) := by
  subst hY
  exact cp_115 hk a1 a2 b1 b2 c1 c2
theorem ce_116 {a b : Int} {u2 : Int32} (hY : gg yy i = Y) (hk : gk Y) (a1 : -2147483648 ≤ a) (a2 : a < 2147483648) (b1 : -2147483648 ≤ b) (b2 : b < 2147483648) : calm C0 b0 L0 xs0 230 [.ref (gi C0 i), .int (Int32.ofInt 4), .int (Int32.ofInt a), .int (Int32.ofInt b), .int u2] (yy, n) = some (.int (Int32.ofInt (q116 Y a b).1), (gz yy i (q116 Y a b).2.1, n + (q116 Y a b).2.2)) := by
  subst hY
  exact cp_116 hk a1 a2 b1 b2
theorem ce_117 {a b : Int} {u2 : Int32} (hY : gg yy i = Y) (hk : gk Y) (a1 : -2147483648 ≤ a) (a2 : a < 2147483648) (b1 : -2147483648 ≤ b) (b2 : b < 2147483648) : calm C0 b0 L0 xs0 230 [.ref (gi C0 i), .int (Int32.ofInt 5), .int (Int32.ofInt a), .int (Int32.ofInt b), .int u2] (yy, n) = some (.int (Int32.ofInt (q117 Y a b).1), (gz yy i (q117 Y a b).2.1, n + (q117 Y a b).2.2)) := by
  subst hY
  exact cp_117 hk a1 a2 b1 b2
theorem ce_118 {a b c : Int}  (hY : gg yy i = Y) (hk : gk Y) (a1 : -2147483648 ≤ a) (a2 : a < 2147483648) (b1 : -2147483648 ≤ b) (b2 : b < 2147483648) (c1 : -2147483648 ≤ c) (c2 : c < 2147483648) : calm C0 b0 L0 xs0 230 [.ref (gi C0 i), .int (Int32.ofInt 7), .int (Int32.ofInt a), .int (Int32.ofInt b), .int (Int32.ofInt c)] (yy, n) = some (.int (Int32.ofInt (q118 Y a b c).1), (gz yy i (q118 Y a b c).2.1, n + (q118 Y a b c).2.2)) := by
  subst hY
  exact cp_118 hk a1 a2 b1 b2 c1 c2
theorem ce_119 {a b c d : Int}  (hY : gg yy i = Y) (hk : gk Y) (a1 : -2147483648 ≤ a) (a2 : a < 2147483648) (b1 : -2147483648 ≤ b) (b2 : b < 2147483648) (c1 : -2147483648 ≤ c) (c2 : c < 2147483648) (d1 : -2147483648 ≤ d) (d2 : d < 2147483648) : calm C0 b0 L0 xs0 319 [.ref (gi C0 i), .int (Int32.ofInt a), .int (Int32.ofInt b), .int (Int32.ofInt c), .int (Int32.ofInt d)] (yy, n) = some (.int (Int32.ofInt (q119 Y a b c d).1), (gz yy i (q119 Y a b c d).2.1, n + (q119 Y a b c d).2.2)) := by
  subst hY
  exact cp_119 hk a1 a2 b1 b2 c1 c2 d1 d2
theorem ce_120 {a b c : Int}  (hY : gg yy i = Y) (hk : gk Y) (a1 : -2147483648 ≤ a) (a2 : a < 2147483648) (b1 : -2147483648 ≤ b) (b2 : b < 2147483648) (c1 : -2147483648 ≤ c) (c2 : c < 2147483648) : calm C0 b0 L0 xs0 230 [.ref (gi C0 i), .int (Int32.ofInt 8), .int (Int32.ofInt a), .int (Int32.ofInt b), .int (Int32.ofInt c)] (yy, n) = some (.int (Int32.ofInt (q120 Y a b c).1), (gz yy i (q120 Y a b c).2.1, n + (q120 Y a b c).2.2)) := by
  subst hY
  exact cp_120 hk a1 a2 b1 b2 c1 c2
theorem ce_121 {a b c : Int}  (hY : gg yy i = Y) (hk : gk Y) (a1 : -2147483648 ≤ a) (a2 : a < 2147483648) (b1 : -2147483648 ≤ b) (b2 : b < 2147483648) (c1 : -2147483648 ≤ c) (c2 : c < 2147483648) : calm C0 b0 L0 xs0 230 [.ref (gi C0 i), .int (Int32.ofInt 9), .int (Int32.ofInt a), .int (Int32.ofInt b), .int (Int32.ofInt c)] (yy, n) = some (.int (Int32.ofInt (q121 Y a b c).1), (gz yy i (q121 Y a b c).2.1, n + (q121 Y a b c).2.2)) := by
  subst hY
  exact cp_121 hk a1 a2 b1 b2 c1 c2
theorem ce_122 {a b : Int} {u2 : Int32} (hY : gg yy i = Y) (hk : gk Y) (a1 : -2147483648 ≤ a) (a2 : a < 2147483648) (b1 : -2147483648 ≤ b) (b2 : b < 2147483648) : calm C0 b0 L0 xs0 230 [.ref (gi C0 i), .int (Int32.ofInt 10), .int (Int32.ofInt a), .int (Int32.ofInt b), .int u2] (yy, n) = some (.int (Int32.ofInt (q122 Y a b).1), (gz yy i (q122 Y a b).2.1, n + (q122 Y a b).2.2)) := by
  subst hY
  exact cp_122 hk a1 a2 b1 b2
theorem ce_123 {a b : Int} {u2 : Int32} (hY : gg yy i = Y) (hk : gk Y) (a1 : -2147483648 ≤ a) (a2 : a < 2147483648) (b1 : -2147483648 ≤ b) (b2 : b < 2147483648) : calm C0 b0 L0 xs0 230 [.ref (gi C0 i), .int (Int32.ofInt 11), .int (Int32.ofInt a), .int (Int32.ofInt b), .int u2] (yy, n) = some (.int (Int32.ofInt (q123 Y a b).1), (gz yy i (q123 Y a b).2.1, n + (q123 Y a b).2.2)) := by
  subst hY
  exact cp_123 hk a1 a2 b1 b2
theorem ce_124 {a b : Int} {u2 : Int32} (hY : gg yy i = Y) (hk : gk Y) (a1 : -2147483648 ≤ a) (a2 : a < 2147483648) (b1 : -2147483648 ≤ b) (b2 : b < 2147483648) : calm C0 b0 L0 xs0 230 [.ref (gi C0 i), .int (Int32.ofInt 12), .int (Int32.ofInt a), .int (Int32.ofInt b), .int u2] (yy, n) = some (.int (Int32.ofInt (q124 Y a b).1), (gz yy i (q124 Y a b).2.1, n + (q124 Y a b).2.2)) := by
  subst hY
  exact cp_124 hk a1 a2 b1 b2
theorem ce_125 {a : Int} {u1 : Int32} {u2 : Int32} (hY : gg yy i = Y) (hk : gk Y) (a1 : -2147483648 ≤ a) (a2 : a < 2147483648) : calm C0 b0 L0 xs0 230 [.ref (gi C0 i), .int (Int32.ofInt 13), .int (Int32.ofInt a), .int u1, .int u2] (yy, n) = some (.int (Int32.ofInt (q125 Y a).1), (gz yy i (q125 Y a).2.1, n + (q125 Y a).2.2)) := by
  subst hY
  exact cp_125 hk a1 a2
theorem ce_126 {u0 : Int32} {u1 : Int32} {u2 : Int32} (hY : gg yy i = Y) (hk : gk Y)  : calm C0 b0 L0 xs0 230 [.ref (gi C0 i), .int (Int32.ofInt 14), .int u0, .int u1, .int u2] (yy, n) = some (.int (Int32.ofInt (q126 Y).1), (gz yy i (q126 Y).2.1, n + (q126 Y).2.2)) := by
  subst hY
  exact cp_126 hk 
theorem ce_133 {a : Int} {u1 : Int32} {u2 : Int32} (hY : gg yy i = Y) (hk : gk Y) (a1 : -2147483648 ≤ a) (a2 : a < 2147483648) : calm C0 b0 L0 xs0 230 [.ref (gi C0 i), .int (Int32.ofInt 18), .int (Int32.ofInt a), .int u1, .int u2] (yy, n) = some (.int (Int32.ofInt (q133 Y a).1), (gz yy i (q133 Y a).2.1, n + (q133 Y a).2.2)) := by
  subst hY
  exact cp_133 hk a1 a2
theorem ce_134 {a : Int} {u1 : Int32} {u2 : Int32} (hY : gg yy i = Y) (hk : gk Y) (a1 : -2147483648 ≤ a) (a2 : a < 2147483648) : calm C0 b0 L0 xs0 230 [.ref (gi C0 i), .int (Int32.ofInt 19), .int (Int32.ofInt a), .int u1, .int u2] (yy, n) = some (.int (Int32.ofInt (q134 Y a).1), (gz yy i (q134 Y a).2.1, n + (q134 Y a).2.2)) := by
  subst hY
  exact cp_134 hk a1 a2
/-- what is done by the number x -/
def aq (Y : gy) (x : Int) : Int × (gy × Nat) :=
  if x % 16 = 0 then q118 Y (3 + x / 16 % 3) (x / 16 / 3 % 9 - 4) (x / 16 / 27 % 20)
  else if x % 16 = 1 ∨ x % 16 = 2 then q119 Y (x / 16 % Y.1 0) (x / 16 / 3 % 5) ((x / 16 % Y.1 0 + 1) % Y.1 0) (x / 16 / 15 % 5)
  else if x % 16 = 3 then q120 Y (x / 16 % Y.1 0) (x / 16 / 3 % 5) (1 + x / 16 / 15 % 9)
  else if x % 16 = 4 then q121 Y (x / 16 % Y.1 0) (x / 16 / 3 % 5) (1 + x / 16 / 15 % 9)
  else if x % 16 = 5 then q124 Y (x / 16 % Y.1 0) (x / 16 / 3 % 9 - 4)
  else if x % 16 = 6 then q125 Y (x / 16 % 2)
  else if x % 16 = 7 then (if Y.1 3 < 2 then (-1, (Y, 0)) else q126 Y)
  else if x % 16 = 8 then (if x / 16 % 2 = 0 then q133 Y (x / 16 / 2 % 2) else q134 Y (x / 16 / 2 % 2))
  else if x % 16 = 9 ∨ x % 16 = 10 ∨ x % 16 = 11 then q123 Y (if Y.1 2 = 0 then 0 else x / 16 % Y.1 2) (if x / 16 / 5 % 2 = 0 then 1 else -1)
  else q122 Y (if Y.1 2 = 0 then 0 else x / 16 % Y.1 2) (if Y.1 1 = 0 then 0 else x / 16 / 5 % Y.1 1)
def r234_L (C0 : Nat) (i : Bool) (Y : gy) (x w f l : Int) : ri_L := [some (.ref (gi C0 i)), some (.int (Int32.ofInt x)), some (.int (Int32.ofInt (x / 16))), some (.int (Int32.ofInt (Y.1 0))), some (.int (Int32.ofInt (Y.1 1))), some (.int (Int32.ofInt (Y.1 2))), some (.int (Int32.ofInt w)), some (.int (Int32.ofInt f)), some (.int (Int32.ofInt l))]
def aqs (Y : gy) (x w f l : Int) : Int × (gy × Nat) :=
  if x % 16 = 0 then q118 Y (3 + x / 16 % 3) (x / 16 / 3 % 9 - 4) (x / 16 / 27 % 20)
  else if x % 16 = 1 ∨ x % 16 = 2 then q119 Y w (x / 16 / 3 % 5) ((w + 1) % Y.1 0) (x / 16 / 15 % 5)
  else if x % 16 = 3 then q120 Y w (x / 16 / 3 % 5) (1 + x / 16 / 15 % 9)
  else if x % 16 = 4 then q121 Y w (x / 16 / 3 % 5) (1 + x / 16 / 15 % 9)
  else if x % 16 = 5 then q124 Y w (x / 16 / 3 % 9 - 4)
  else if x % 16 = 6 then q125 Y (x / 16 % 2)
  else if x % 16 = 7 then (if Y.1 3 < 2 then (-1, (Y, 0)) else q126 Y)
  else if x % 16 = 8 then (if x / 16 % 2 = 0 then q133 Y (x / 16 / 2 % 2) else q134 Y (x / 16 / 2 % 2))
  else if x % 16 = 9 ∨ x % 16 = 10 ∨ x % 16 = 11 then q123 Y f (if x / 16 / 5 % 2 = 0 then 1 else -1)
  else q122 Y f l
theorem aqs_eq {x : Int} : aqs Y x (x / 16 % Y.1 0) (if Y.1 2 = 0 then 0 else x / 16 % Y.1 2) (if Y.1 1 = 0 then 0 else x / 16 / 5 % Y.1 1) = aq Y x := rfl
theorem r234_s {x w f l : Int} (hY : gg yy i = Y) (hk : gk Y) (hi : mi K Y.1) (h2 : 2 ≤ Y.1 0) (x1 : 0 ≤ x) (x2 : x < 2147483648) (w1 : 0 ≤ w ∧ w < Y.1 0) (f1 : 0 ≤ f ∧ f ≤ 5) (l1 : 0 ≤ l ∧ l ≤ 8) {c : Int} (hc9 : x % 16 = c) (r : Int × (gy × Nat)) (hr : aqs Y x w f l = r) : evm C0 b0 L0 xs0 234 (ri_tab [136, 163, 163, 187, 210, 233, 251, 263, 289, 325, 325, 325] (Int32.ofInt 0) 348 (Int32.ofInt c), r234_L C0 i Y x w f l, []) (yy, n) = some (.int (Int32.ofInt r.1), (gz yy i r.2.1, n + r.2.2)) := by
  have hc := hi.c
  have hkk := hi.k
  have b1 : 0 ≤ (w + 1) % Y.1 0 ∧ (w + 1) % Y.1 0 < Y.1 0 := ⟨Int.emod_nonneg _ (by omega), Int.emod_lt_of_pos _ (by omega)⟩
  unfold r234_L
  have hcc : c = 0 ∨ (c = 1 ∨ c = 2) ∨ c = 3 ∨ c = 4 ∨ c = 5 ∨ c = 6 ∨ c = 7 ∨ c = 8 ∨ (c = 9 ∨ c = 10 ∨ c = 11) ∨ (c = 12 ∨ c = 13 ∨ c = 14 ∨ c = 15) := by omega
  unfold aqs at hr
  rw [hc9] at hr
  rcases hcc with e | e | e | e | e | e | e | e | e | e
  · rw [if_pos e] at hr
    subst hr
    subst e
    simp (disch := omega) only [Int.reduceAdd, Int.reduceMul, Int.reduceSub, Int.reduceNeg, na_add, na_sub, na_mul, na_neg, na_lt, na_le, na_eq, na_ofNat, bo_some, tl_some, tl_none, rc_int, rc_ref, rc_null, rc_none, rc_long, tb_0, tb_1, ↓mr_g0, mr_r0, mr_get, mr_upd, mr_at, mr_wr, Classical.not_not, not_true_eq_false, not_false_eq_true, na_l0, na_l1, na_l2, na_l3, na_l4, na_l5, na_l6, na_l7, na_l8, na_l9, na_l10, na_l14, na_l15, na_l16, na_l25, na_l30, na_l31, na_l32, na_l33, na_l39, na_l43, na_l45, na_l48, na_l49, na_l50, na_l51, na_l52, na_l53, na_l55, na_l56, na_l57, na_l60, na_l64, na_l71, na_l80, na_l96, na_l100, na_l101, na_l102, na_l103, na_l104, na_l105, na_l106, na_l107, na_l108, na_l109, na_l110, na_l111, na_l112, na_l113, na_l114, na_l115, na_l116, na_l117, na_l118, na_l119, na_l120, na_l121, na_l125, na_l128, na_l150, na_l192, na_l255, na_l999, na_l1000, na_l1248, na_l1344, na_l1875, na_l10000, ↓reduceIte, pf_and, pe_le, pf_le, pe_lt, pf_lt, pe_eq, pf_eq, true_and, and_true, false_and, and_false, true_or, or_true, false_or, or_false, ln_some, lb_0, lb_1, na_div, na_rem, Nat.add_assoc, Nat.reduceAdd, cv_113 hY hk, cv_114 hY hk, cv_115 hY hk, cv_116 hY hk, cv_117 hY hk, cv_127 hY hk, cv_128 hY hk, cv_129 hY hk, cv_130 hY hk, L_234_0, L_234_1, L_234_2, L_234_3, L_234_4, L_234_5, em_tab, em_tab0, nA_3, ce_118 hY hk, ce_119 hY hk, ce_120 hY hk, ce_121 hY hk, ce_122 hY hk, ce_123 hY hk, ce_124 hY hk, ce_125 hY hk, ce_126 hY hk, ce_133 hY hk, ce_134 hY hk]
  ·
    rw [if_neg (by omega)] at hr
    rw [if_pos e] at hr
    subst hr
    rcases e with e | e <;> subst e <;> simp (disch := omega) only [Int.reduceAdd, Int.reduceMul, Int.reduceSub, Int.reduceNeg, na_add, na_sub, na_mul, na_neg, na_lt, na_le, na_eq, na_ofNat, bo_some, tl_some, tl_none, rc_int, rc_ref, rc_null, rc_none, rc_long, tb_0, tb_1, ↓mr_g0, mr_r0, mr_get, mr_upd, mr_at, mr_wr, Classical.not_not, not_true_eq_false, not_false_eq_true, na_l0, na_l1, na_l2, na_l3, na_l4, na_l5, na_l6, na_l7, na_l8, na_l9, na_l10, na_l14, na_l15, na_l16, na_l25, na_l30, na_l31, na_l32, na_l33, na_l39, na_l43, na_l45, na_l48, na_l49, na_l50, na_l51, na_l52, na_l53, na_l55, na_l56, na_l57, na_l60, na_l64, na_l71, na_l80, na_l96, na_l100, na_l101, na_l102, na_l103, na_l104, na_l105, na_l106, na_l107, na_l108, na_l109, na_l110, na_l111, na_l112, na_l113, na_l114, na_l115, na_l116, na_l117, na_l118, na_l119, na_l120, na_l121, na_l125, na_l128, na_l150, na_l192, na_l255, na_l999, na_l1000, na_l1248, na_l1344, na_l1875, na_l10000, ↓reduceIte, pf_and, pe_le, pf_le, pe_lt, pf_lt, pe_eq, pf_eq, true_and, and_true, false_and, and_false, true_or, or_true, false_or, or_false, ln_some, lb_0, lb_1, na_div, na_rem, Nat.add_assoc, Nat.reduceAdd, cv_113 hY hk, cv_114 hY hk, cv_115 hY hk, cv_116 hY hk, cv_117 hY hk, cv_127 hY hk, cv_128 hY hk, cv_129 hY hk, cv_130 hY hk, L_234_0, L_234_1, L_234_2, L_234_3, L_234_4, L_234_5, em_tab, em_tab0, nA_3, ce_118 hY hk, ce_119 hY hk, ce_120 hY hk, ce_121 hY hk, ce_122 hY hk, ce_123 hY hk, ce_124 hY hk, ce_125 hY hk, ce_126 hY hk, ce_133 hY hk, ce_134 hY hk]
  ·
    rw [if_neg (by omega)] at hr
    rw [if_neg (by omega)] at hr
    rw [if_pos e] at hr
    subst hr
    subst e <;> simp (disch := omega) only [Int.reduceAdd, Int.reduceMul, Int.reduceSub, Int.reduceNeg, na_add, na_sub, na_mul, na_neg, na_lt, na_le, na_eq, na_ofNat, bo_some, tl_some, tl_none, rc_int, rc_ref, rc_null, rc_none, rc_long, tb_0, tb_1, ↓mr_g0, mr_r0, mr_get, mr_upd, mr_at, mr_wr, Classical.not_not, not_true_eq_false, not_false_eq_true, na_l0, na_l1, na_l2, na_l3, na_l4, na_l5, na_l6, na_l7, na_l8, na_l9, na_l10, na_l14, na_l15, na_l16, na_l25, na_l30, na_l31, na_l32, na_l33, na_l39, na_l43, na_l45, na_l48, na_l49, na_l50, na_l51, na_l52, na_l53, na_l55, na_l56, na_l57, na_l60, na_l64, na_l71, na_l80, na_l96, na_l100, na_l101, na_l102, na_l103, na_l104, na_l105, na_l106, na_l107, na_l108, na_l109, na_l110, na_l111, na_l112, na_l113, na_l114, na_l115, na_l116, na_l117, na_l118, na_l119, na_l120, na_l121, na_l125, na_l128, na_l150, na_l192, na_l255, na_l999, na_l1000, na_l1248, na_l1344, na_l1875, na_l10000, ↓reduceIte, pf_and, pe_le, pf_le, pe_lt, pf_lt, pe_eq, pf_eq, true_and, and_true, false_and, and_false, true_or, or_true, false_or, or_false, ln_some, lb_0, lb_1, na_div, na_rem, Nat.add_assoc, Nat.reduceAdd, cv_113 hY hk, cv_114 hY hk, cv_115 hY hk, cv_116 hY hk, cv_117 hY hk, cv_127 hY hk, cv_128 hY hk, cv_129 hY hk, cv_130 hY hk, L_234_0, L_234_1, L_234_2, L_234_3, L_234_4, L_234_5, em_tab, em_tab0, nA_3, ce_118 hY hk, ce_119 hY hk, ce_120 hY hk, ce_121 hY hk, ce_122 hY hk, ce_123 hY hk, ce_124 hY hk, ce_125 hY hk, ce_126 hY hk, ce_133 hY hk, ce_134 hY hk]
  ·
    rw [if_neg (by omega)] at hr
    rw [if_neg (by omega)] at hr
    rw [if_neg (by omega)] at hr
    rw [if_pos e] at hr
    subst hr
    subst e <;> simp (disch := omega) only [Int.reduceAdd, Int.reduceMul, Int.reduceSub, Int.reduceNeg, na_add, na_sub, na_mul, na_neg, na_lt, na_le, na_eq, na_ofNat, bo_some, tl_some, tl_none, rc_int, rc_ref, rc_null, rc_none, rc_long, tb_0, tb_1, ↓mr_g0, mr_r0, mr_get, mr_upd, mr_at, mr_wr, Classical.not_not, not_true_eq_false, not_false_eq_true, na_l0, na_l1, na_l2, na_l3, na_l4, na_l5, na_l6, na_l7, na_l8, na_l9, na_l10, na_l14, na_l15, na_l16, na_l25, na_l30, na_l31, na_l32, na_l33, na_l39, na_l43, na_l45, na_l48, na_l49, na_l50, na_l51, na_l52, na_l53, na_l55, na_l56, na_l57, na_l60, na_l64, na_l71, na_l80, na_l96, na_l100, na_l101, na_l102, na_l103, na_l104, na_l105, na_l106, na_l107, na_l108, na_l109, na_l110, na_l111, na_l112, na_l113, na_l114, na_l115, na_l116, na_l117, na_l118, na_l119, na_l120, na_l121, na_l125, na_l128, na_l150, na_l192, na_l255, na_l999, na_l1000, na_l1248, na_l1344, na_l1875, na_l10000, ↓reduceIte, pf_and, pe_le, pf_le, pe_lt, pf_lt, pe_eq, pf_eq, true_and, and_true, false_and, and_false, true_or, or_true, false_or, or_false, ln_some, lb_0, lb_1, na_div, na_rem, Nat.add_assoc, Nat.reduceAdd, cv_113 hY hk, cv_114 hY hk, cv_115 hY hk, cv_116 hY hk, cv_117 hY hk, cv_127 hY hk, cv_128 hY hk, cv_129 hY hk, cv_130 hY hk, L_234_0, L_234_1, L_234_2, L_234_3, L_234_4, L_234_5, em_tab, em_tab0, nA_3, ce_118 hY hk, ce_119 hY hk, ce_120 hY hk, ce_121 hY hk, ce_122 hY hk, ce_123 hY hk, ce_124 hY hk, ce_125 hY hk, ce_126 hY hk, ce_133 hY hk, ce_134 hY hk]
  ·
    rw [if_neg (by omega)] at hr
    rw [if_neg (by omega)] at hr
    rw [if_neg (by omega)] at hr
    rw [if_neg (by omega)] at hr
    rw [if_pos e] at hr
    subst hr
    subst e <;> simp (disch := omega) only [Int.reduceAdd, Int.reduceMul, Int.reduceSub, Int.reduceNeg, na_add, na_sub, na_mul, na_neg, na_lt, na_le, na_eq, na_ofNat, bo_some, tl_some, tl_none, rc_int, rc_ref, rc_null, rc_none, rc_long, tb_0, tb_1, ↓mr_g0, mr_r0, mr_get, mr_upd, mr_at, mr_wr, Classical.not_not, not_true_eq_false, not_false_eq_true, na_l0, na_l1, na_l2, na_l3, na_l4, na_l5, na_l6, na_l7, na_l8, na_l9, na_l10, na_l14, na_l15, na_l16, na_l25, na_l30, na_l31, na_l32, na_l33, na_l39, na_l43, na_l45, na_l48, na_l49, na_l50, na_l51, na_l52, na_l53, na_l55, na_l56, na_l57, na_l60, na_l64, na_l71, na_l80, na_l96, na_l100, na_l101, na_l102, na_l103, na_l104, na_l105, na_l106, na_l107, na_l108, na_l109, na_l110, na_l111, na_l112, na_l113, na_l114, na_l115, na_l116, na_l117, na_l118, na_l119, na_l120, na_l121, na_l125, na_l128, na_l150, na_l192, na_l255, na_l999, na_l1000, na_l1248, na_l1344, na_l1875, na_l10000, ↓reduceIte, pf_and, pe_le, pf_le, pe_lt, pf_lt, pe_eq, pf_eq, true_and, and_true, false_and, and_false, true_or, or_true, false_or, or_false, ln_some, lb_0, lb_1, na_div, na_rem, Nat.add_assoc, Nat.reduceAdd, cv_113 hY hk, cv_114 hY hk, cv_115 hY hk, cv_116 hY hk, cv_117 hY hk, cv_127 hY hk, cv_128 hY hk, cv_129 hY hk, cv_130 hY hk, L_234_0, L_234_1, L_234_2, L_234_3, L_234_4, L_234_5, em_tab, em_tab0, nA_3, ce_118 hY hk, ce_119 hY hk, ce_120 hY hk, ce_121 hY hk, ce_122 hY hk, ce_123 hY hk, ce_124 hY hk, ce_125 hY hk, ce_126 hY hk, ce_133 hY hk, ce_134 hY hk]
  ·
    rw [if_neg (by omega)] at hr
    rw [if_neg (by omega)] at hr
    rw [if_neg (by omega)] at hr
    rw [if_neg (by omega)] at hr
    rw [if_neg (by omega)] at hr
    rw [if_pos e] at hr
    subst hr
    subst e <;> simp (disch := omega) only [Int.reduceAdd, Int.reduceMul, Int.reduceSub, Int.reduceNeg, na_add, na_sub, na_mul, na_neg, na_lt, na_le, na_eq, na_ofNat, bo_some, tl_some, tl_none, rc_int, rc_ref, rc_null, rc_none, rc_long, tb_0, tb_1, ↓mr_g0, mr_r0, mr_get, mr_upd, mr_at, mr_wr, Classical.not_not, not_true_eq_false, not_false_eq_true, na_l0, na_l1, na_l2, na_l3, na_l4, na_l5, na_l6, na_l7, na_l8, na_l9, na_l10, na_l14, na_l15, na_l16, na_l25, na_l30, na_l31, na_l32, na_l33, na_l39, na_l43, na_l45, na_l48, na_l49, na_l50, na_l51, na_l52, na_l53, na_l55, na_l56, na_l57, na_l60, na_l64, na_l71, na_l80, na_l96, na_l100, na_l101, na_l102, na_l103, na_l104, na_l105, na_l106, na_l107, na_l108, na_l109, na_l110, na_l111, na_l112, na_l113, na_l114, na_l115, na_l116, na_l117, na_l118, na_l119, na_l120, na_l121, na_l125, na_l128, na_l150, na_l192, na_l255, na_l999, na_l1000, na_l1248, na_l1344, na_l1875, na_l10000, ↓reduceIte, pf_and, pe_le, pf_le, pe_lt, pf_lt, pe_eq, pf_eq, true_and, and_true, false_and, and_false, true_or, or_true, false_or, or_false, ln_some, lb_0, lb_1, na_div, na_rem, Nat.add_assoc, Nat.reduceAdd, cv_113 hY hk, cv_114 hY hk, cv_115 hY hk, cv_116 hY hk, cv_117 hY hk, cv_127 hY hk, cv_128 hY hk, cv_129 hY hk, cv_130 hY hk, L_234_0, L_234_1, L_234_2, L_234_3, L_234_4, L_234_5, em_tab, em_tab0, nA_3, ce_118 hY hk, ce_119 hY hk, ce_120 hY hk, ce_121 hY hk, ce_122 hY hk, ce_123 hY hk, ce_124 hY hk, ce_125 hY hk, ce_126 hY hk, ce_133 hY hk, ce_134 hY hk]
  ·
    rw [if_neg (by omega)] at hr
    rw [if_neg (by omega)] at hr
    rw [if_neg (by omega)] at hr
    rw [if_neg (by omega)] at hr
    rw [if_neg (by omega)] at hr
    rw [if_neg (by omega)] at hr
    rw [if_pos e] at hr
    subst e
    by_cases q : Y.1 3 < 2
    · rw [if_pos q] at hr
      subst hr
      rw [← hY, gz_gg, hY]
      simp (disch := omega) only [Int.reduceAdd, Int.reduceMul, Int.reduceSub, Int.reduceNeg, na_add, na_sub, na_mul, na_neg, na_lt, na_le, na_eq, na_ofNat, bo_some, tl_some, tl_none, rc_int, rc_ref, rc_null, rc_none, rc_long, tb_0, tb_1, ↓mr_g0, mr_r0, mr_get, mr_upd, mr_at, mr_wr, Classical.not_not, not_true_eq_false, not_false_eq_true, na_l0, na_l1, na_l2, na_l3, na_l4, na_l5, na_l6, na_l7, na_l8, na_l9, na_l10, na_l14, na_l15, na_l16, na_l25, na_l30, na_l31, na_l32, na_l33, na_l39, na_l43, na_l45, na_l48, na_l49, na_l50, na_l51, na_l52, na_l53, na_l55, na_l56, na_l57, na_l60, na_l64, na_l71, na_l80, na_l96, na_l100, na_l101, na_l102, na_l103, na_l104, na_l105, na_l106, na_l107, na_l108, na_l109, na_l110, na_l111, na_l112, na_l113, na_l114, na_l115, na_l116, na_l117, na_l118, na_l119, na_l120, na_l121, na_l125, na_l128, na_l150, na_l192, na_l255, na_l999, na_l1000, na_l1248, na_l1344, na_l1875, na_l10000, ↓reduceIte, pf_and, pe_le, pf_le, pe_lt, pf_lt, pe_eq, pf_eq, true_and, and_true, false_and, and_false, true_or, or_true, false_or, or_false, ln_some, lb_0, lb_1, na_div, na_rem, Nat.add_assoc, Nat.reduceAdd, cv_113 hY hk, cv_114 hY hk, cv_115 hY hk, cv_116 hY hk, cv_117 hY hk, cv_127 hY hk, cv_128 hY hk, cv_129 hY hk, cv_130 hY hk, L_234_0, L_234_1, L_234_2, L_234_3, L_234_4, L_234_5, em_tab, em_tab0, nA_3, ce_118 hY hk, ce_119 hY hk, ce_120 hY hk, ce_121 hY hk, ce_122 hY hk, ce_123 hY hk, ce_124 hY hk, ce_125 hY hk, ce_126 hY hk, ce_133 hY hk, ce_134 hY hk, Nat.add_zero]
    · rw [if_neg q] at hr
      subst hr
      simp (disch := omega) only [Int.reduceAdd, Int.reduceMul, Int.reduceSub, Int.reduceNeg, na_add, na_sub, na_mul, na_neg, na_lt, na_le, na_eq, na_ofNat, bo_some, tl_some, tl_none, rc_int, rc_ref, rc_null, rc_none, rc_long, tb_0, tb_1, ↓mr_g0, mr_r0, mr_get, mr_upd, mr_at, mr_wr, Classical.not_not, not_true_eq_false, not_false_eq_true, na_l0, na_l1, na_l2, na_l3, na_l4, na_l5, na_l6, na_l7, na_l8, na_l9, na_l10, na_l14, na_l15, na_l16, na_l25, na_l30, na_l31, na_l32, na_l33, na_l39, na_l43, na_l45, na_l48, na_l49, na_l50, na_l51, na_l52, na_l53, na_l55, na_l56, na_l57, na_l60, na_l64, na_l71, na_l80, na_l96, na_l100, na_l101, na_l102, na_l103, na_l104, na_l105, na_l106, na_l107, na_l108, na_l109, na_l110, na_l111, na_l112, na_l113, na_l114, na_l115, na_l116, na_l117, na_l118, na_l119, na_l120, na_l121, na_l125, na_l128, na_l150, na_l192, na_l255, na_l999, na_l1000, na_l1248, na_l1344, na_l1875, na_l10000, ↓reduceIte, pf_and, pe_le, pf_le, pe_lt, pf_lt, pe_eq, pf_eq, true_and, and_true, false_and, and_false, true_or, or_true, false_or, or_false, ln_some, lb_0, lb_1, na_div, na_rem, Nat.add_assoc, Nat.reduceAdd, cv_113 hY hk, cv_114 hY hk, cv_115 hY hk, cv_116 hY hk, cv_117 hY hk, cv_127 hY hk, cv_128 hY hk, cv_129 hY hk, cv_130 hY hk, L_234_0, L_234_1, L_234_2, L_234_3, L_234_4, L_234_5, em_tab, em_tab0, nA_3, ce_118 hY hk, ce_119 hY hk, ce_120 hY hk, ce_121 hY hk, ce_122 hY hk, ce_123 hY hk, ce_124 hY hk, ce_125 hY hk, ce_126 hY hk, ce_133 hY hk, ce_134 hY hk]
  ·
    rw [if_neg (by omega)] at hr
    rw [if_neg (by omega)] at hr
    rw [if_neg (by omega)] at hr
    rw [if_neg (by omega)] at hr
    rw [if_neg (by omega)] at hr
    rw [if_neg (by omega)] at hr
    rw [if_neg (by omega)] at hr
    rw [if_pos e] at hr
    subst e
    by_cases q : x / 16 % 2 = 0
    · rw [if_pos q] at hr
      subst hr
      simp (disch := omega) only [Int.reduceAdd, Int.reduceMul, Int.reduceSub, Int.reduceNeg, na_add, na_sub, na_mul, na_neg, na_lt, na_le, na_eq, na_ofNat, bo_some, tl_some, tl_none, rc_int, rc_ref, rc_null, rc_none, rc_long, tb_0, tb_1, ↓mr_g0, mr_r0, mr_get, mr_upd, mr_at, mr_wr, Classical.not_not, not_true_eq_false, not_false_eq_true, na_l0, na_l1, na_l2, na_l3, na_l4, na_l5, na_l6, na_l7, na_l8, na_l9, na_l10, na_l14, na_l15, na_l16, na_l25, na_l30, na_l31, na_l32, na_l33, na_l39, na_l43, na_l45, na_l48, na_l49, na_l50, na_l51, na_l52, na_l53, na_l55, na_l56, na_l57, na_l60, na_l64, na_l71, na_l80, na_l96, na_l100, na_l101, na_l102, na_l103, na_l104, na_l105, na_l106, na_l107, na_l108, na_l109, na_l110, na_l111, na_l112, na_l113, na_l114, na_l115, na_l116, na_l117, na_l118, na_l119, na_l120, na_l121, na_l125, na_l128, na_l150, na_l192, na_l255, na_l999, na_l1000, na_l1248, na_l1344, na_l1875, na_l10000, ↓reduceIte, pf_and, pe_le, pf_le, pe_lt, pf_lt, pe_eq, pf_eq, true_and, and_true, false_and, and_false, true_or, or_true, false_or, or_false, ln_some, lb_0, lb_1, na_div, na_rem, Nat.add_assoc, Nat.reduceAdd, cv_113 hY hk, cv_114 hY hk, cv_115 hY hk, cv_116 hY hk, cv_117 hY hk, cv_127 hY hk, cv_128 hY hk, cv_129 hY hk, cv_130 hY hk, L_234_0, L_234_1, L_234_2, L_234_3, L_234_4, L_234_5, em_tab, em_tab0, nA_3, ce_118 hY hk, ce_119 hY hk, ce_120 hY hk, ce_121 hY hk, ce_122 hY hk, ce_123 hY hk, ce_124 hY hk, ce_125 hY hk, ce_126 hY hk, ce_133 hY hk, ce_134 hY hk]
    · rw [if_neg q] at hr
      subst hr
      simp (disch := omega) only [Int.reduceAdd, Int.reduceMul, Int.reduceSub, Int.reduceNeg, na_add, na_sub, na_mul, na_neg, na_lt, na_le, na_eq, na_ofNat, bo_some, tl_some, tl_none, rc_int, rc_ref, rc_null, rc_none, rc_long, tb_0, tb_1, ↓mr_g0, mr_r0, mr_get, mr_upd, mr_at, mr_wr, Classical.not_not, not_true_eq_false, not_false_eq_true, na_l0, na_l1, na_l2, na_l3, na_l4, na_l5, na_l6, na_l7, na_l8, na_l9, na_l10, na_l14, na_l15, na_l16, na_l25, na_l30, na_l31, na_l32, na_l33, na_l39, na_l43, na_l45, na_l48, na_l49, na_l50, na_l51, na_l52, na_l53, na_l55, na_l56, na_l57, na_l60, na_l64, na_l71, na_l80, na_l96, na_l100, na_l101, na_l102, na_l103, na_l104, na_l105, na_l106, na_l107, na_l108, na_l109, na_l110, na_l111, na_l112, na_l113, na_l114, na_l115, na_l116, na_l117, na_l118, na_l119, na_l120, na_l121, na_l125, na_l128, na_l150, na_l192, na_l255, na_l999, na_l1000, na_l1248, na_l1344, na_l1875, na_l10000, ↓reduceIte, pf_and, pe_le, pf_le, pe_lt, pf_lt, pe_eq, pf_eq, true_and, and_true, false_and, and_false, true_or, or_true, false_or, or_false, ln_some, lb_0, lb_1, na_div, na_rem, Nat.add_assoc, Nat.reduceAdd, cv_113 hY hk, cv_114 hY hk, cv_115 hY hk, cv_116 hY hk, cv_117 hY hk, cv_127 hY hk, cv_128 hY hk, cv_129 hY hk, cv_130 hY hk, L_234_0, L_234_1, L_234_2, L_234_3, L_234_4, L_234_5, em_tab, em_tab0, nA_3, ce_118 hY hk, ce_119 hY hk, ce_120 hY hk, ce_121 hY hk, ce_122 hY hk, ce_123 hY hk, ce_124 hY hk, ce_125 hY hk, ce_126 hY hk, ce_133 hY hk, ce_134 hY hk]
  ·
    rw [if_neg (by omega)] at hr
    rw [if_neg (by omega)] at hr
    rw [if_neg (by omega)] at hr
    rw [if_neg (by omega)] at hr
    rw [if_neg (by omega)] at hr
    rw [if_neg (by omega)] at hr
    rw [if_neg (by omega)] at hr
    rw [if_neg (by omega)] at hr
    rw [if_pos e] at hr
    by_cases q : x / 16 / 5 % 2 = 0
    · rw [if_pos q] at hr
      subst hr
      rcases e with e | e | e <;> subst e <;> simp (disch := omega) only [Int.reduceAdd, Int.reduceMul, Int.reduceSub, Int.reduceNeg, na_add, na_sub, na_mul, na_neg, na_lt, na_le, na_eq, na_ofNat, bo_some, tl_some, tl_none, rc_int, rc_ref, rc_null, rc_none, rc_long, tb_0, tb_1, ↓mr_g0, mr_r0, mr_get, mr_upd, mr_at, mr_wr, Classical.not_not, not_true_eq_false, not_false_eq_true, na_l0, na_l1, na_l2, na_l3, na_l4, na_l5, na_l6, na_l7, na_l8, na_l9, na_l10, na_l14, na_l15, na_l16, na_l25, na_l30, na_l31, na_l32, na_l33, na_l39, na_l43, na_l45, na_l48, na_l49, na_l50, na_l51, na_l52, na_l53, na_l55, na_l56, na_l57, na_l60, na_l64, na_l71, na_l80, na_l96, na_l100, na_l101, na_l102, na_l103, na_l104, na_l105, na_l106, na_l107, na_l108, na_l109, na_l110, na_l111, na_l112, na_l113, na_l114, na_l115, na_l116, na_l117, na_l118, na_l119, na_l120, na_l121, na_l125, na_l128, na_l150, na_l192, na_l255, na_l999, na_l1000, na_l1248, na_l1344, na_l1875, na_l10000, ↓reduceIte, pf_and, pe_le, pf_le, pe_lt, pf_lt, pe_eq, pf_eq, true_and, and_true, false_and, and_false, true_or, or_true, false_or, or_false, ln_some, lb_0, lb_1, na_div, na_rem, Nat.add_assoc, Nat.reduceAdd, cv_113 hY hk, cv_114 hY hk, cv_115 hY hk, cv_116 hY hk, cv_117 hY hk, cv_127 hY hk, cv_128 hY hk, cv_129 hY hk, cv_130 hY hk, L_234_0, L_234_1, L_234_2, L_234_3, L_234_4, L_234_5, em_tab, em_tab0, nA_3, ce_118 hY hk, ce_119 hY hk, ce_120 hY hk, ce_121 hY hk, ce_122 hY hk, ce_123 hY hk, ce_124 hY hk, ce_125 hY hk, ce_126 hY hk, ce_133 hY hk, ce_134 hY hk]
    · rw [if_neg q] at hr
      subst hr
      rcases e with e | e | e <;> subst e <;> simp (disch := omega) only [Int.reduceAdd, Int.reduceMul, Int.reduceSub, Int.reduceNeg, na_add, na_sub, na_mul, na_neg, na_lt, na_le, na_eq, na_ofNat, bo_some, tl_some, tl_none, rc_int, rc_ref, rc_null, rc_none, rc_long, tb_0, tb_1, ↓mr_g0, mr_r0, mr_get, mr_upd, mr_at, mr_wr, Classical.not_not, not_true_eq_false, not_false_eq_true, na_l0, na_l1, na_l2, na_l3, na_l4, na_l5, na_l6, na_l7, na_l8, na_l9, na_l10, na_l14, na_l15, na_l16, na_l25, na_l30, na_l31, na_l32, na_l33, na_l39, na_l43, na_l45, na_l48, na_l49, na_l50, na_l51, na_l52, na_l53, na_l55, na_l56, na_l57, na_l60, na_l64, na_l71, na_l80, na_l96, na_l100, na_l101, na_l102, na_l103, na_l104, na_l105, na_l106, na_l107, na_l108, na_l109, na_l110, na_l111, na_l112, na_l113, na_l114, na_l115, na_l116, na_l117, na_l118, na_l119, na_l120, na_l121, na_l125, na_l128, na_l150, na_l192, na_l255, na_l999, na_l1000, na_l1248, na_l1344, na_l1875, na_l10000, ↓reduceIte, pf_and, pe_le, pf_le, pe_lt, pf_lt, pe_eq, pf_eq, true_and, and_true, false_and, and_false, true_or, or_true, false_or, or_false, ln_some, lb_0, lb_1, na_div, na_rem, Nat.add_assoc, Nat.reduceAdd, cv_113 hY hk, cv_114 hY hk, cv_115 hY hk, cv_116 hY hk, cv_117 hY hk, cv_127 hY hk, cv_128 hY hk, cv_129 hY hk, cv_130 hY hk, L_234_0, L_234_1, L_234_2, L_234_3, L_234_4, L_234_5, em_tab, em_tab0, nA_3, ce_118 hY hk, ce_119 hY hk, ce_120 hY hk, ce_121 hY hk, ce_122 hY hk, ce_123 hY hk, ce_124 hY hk, ce_125 hY hk, ce_126 hY hk, ce_133 hY hk, ce_134 hY hk]
  ·
    rw [if_neg (by omega)] at hr
    rw [if_neg (by omega)] at hr
    rw [if_neg (by omega)] at hr
    rw [if_neg (by omega)] at hr
    rw [if_neg (by omega)] at hr
    rw [if_neg (by omega)] at hr
    rw [if_neg (by omega)] at hr
    rw [if_neg (by omega)] at hr
    rw [if_neg (by omega)] at hr
    subst hr
    rcases e with e | e | e | e <;> subst e <;> simp (disch := omega) only [Int.reduceAdd, Int.reduceMul, Int.reduceSub, Int.reduceNeg, na_add, na_sub, na_mul, na_neg, na_lt, na_le, na_eq, na_ofNat, bo_some, tl_some, tl_none, rc_int, rc_ref, rc_null, rc_none, rc_long, tb_0, tb_1, ↓mr_g0, mr_r0, mr_get, mr_upd, mr_at, mr_wr, Classical.not_not, not_true_eq_false, not_false_eq_true, na_l0, na_l1, na_l2, na_l3, na_l4, na_l5, na_l6, na_l7, na_l8, na_l9, na_l10, na_l14, na_l15, na_l16, na_l25, na_l30, na_l31, na_l32, na_l33, na_l39, na_l43, na_l45, na_l48, na_l49, na_l50, na_l51, na_l52, na_l53, na_l55, na_l56, na_l57, na_l60, na_l64, na_l71, na_l80, na_l96, na_l100, na_l101, na_l102, na_l103, na_l104, na_l105, na_l106, na_l107, na_l108, na_l109, na_l110, na_l111, na_l112, na_l113, na_l114, na_l115, na_l116, na_l117, na_l118, na_l119, na_l120, na_l121, na_l125, na_l128, na_l150, na_l192, na_l255, na_l999, na_l1000, na_l1248, na_l1344, na_l1875, na_l10000, ↓reduceIte, pf_and, pe_le, pf_le, pe_lt, pf_lt, pe_eq, pf_eq, true_and, and_true, false_and, and_false, true_or, or_true, false_or, or_false, ln_some, lb_0, lb_1, na_div, na_rem, Nat.add_assoc, Nat.reduceAdd, cv_113 hY hk, cv_114 hY hk, cv_115 hY hk, cv_116 hY hk, cv_117 hY hk, cv_127 hY hk, cv_128 hY hk, cv_129 hY hk, cv_130 hY hk, L_234_0, L_234_1, L_234_2, L_234_3, L_234_4, L_234_5, em_tab, em_tab0, nA_3, ce_118 hY hk, ce_119 hY hk, ce_120 hY hk, ce_121 hY hk, ce_122 hY hk, ce_123 hY hk, ce_124 hY hk, ce_125 hY hk, ce_126 hY hk, ce_133 hY hk, ce_134 hY hk]
theorem r234 {x : Int} (hY : gg yy i = Y) (hk : gk Y) (hi : mi K Y.1) (h2 : 2 ≤ Y.1 0) (x1 : 0 ≤ x) (x2 : x < 2147483648) : calm C0 b0 L0 xs0 234 [.ref (gi C0 i), .int (Int32.ofInt x)] (yy, n) = some (.int (Int32.ofInt (aq Y x).1), (gz yy i (aq Y x).2.1, n + (aq Y x).2.2)) := by
  have hc := hi.c
  have hkk := hi.k
  have b1 : 0 ≤ x / 16 % Y.1 0 ∧ x / 16 % Y.1 0 < Y.1 0 := ⟨Int.emod_nonneg _ (by omega), Int.emod_lt_of_pos _ (by omega)⟩
  obtain ⟨f, hf⟩ : ∃ f, (if Y.1 2 = 0 then 0 else x / 16 % Y.1 2) = f := ⟨_, rfl⟩
  obtain ⟨l, hl⟩ : ∃ l, (if Y.1 1 = 0 then 0 else x / 16 / 5 % Y.1 1) = l := ⟨_, rfl⟩
  have f1 : 0 ≤ f ∧ f ≤ 5 := by
    by_cases q : Y.1 2 = 0
    · rw [if_pos q] at hf
      omega
    · rw [if_neg q] at hf
      have c1 : 0 ≤ x / 16 % Y.1 2 := Int.emod_nonneg _ (by omega)
      have c2 : x / 16 % Y.1 2 < Y.1 2 := Int.emod_lt_of_pos _ (by omega)
      omega
  have l1 : 0 ≤ l ∧ l ≤ 8 := by
    by_cases q : Y.1 1 = 0
    · rw [if_pos q] at hl
      omega
    · rw [if_neg q] at hl
      have c1 : 0 ≤ x / 16 / 5 % Y.1 1 := Int.emod_nonneg _ (by omega)
      have c2 : x / 16 / 5 % Y.1 1 < Y.1 1 := Int.emod_lt_of_pos _ (by omega)
      omega
  have e9 : aqs Y x (x / 16 % Y.1 0) f l = aq Y x := by rw [← hf, ← hl]; rfl
  have hs := r234_s (C0 := C0) (b0 := b0) (L0 := L0) (xs0 := xs0) (n := n) hY hk hi h2 x1 x2 b1 f1 l1 rfl _ e9
  obtain ⟨X, hX⟩ : ∃ X, some (Value.int (Int32.ofInt (aq Y x).1), (gz yy i (aq Y x).2.1, n + (aq Y x).2.2)) = X := ⟨_, rfl⟩
  rw [hX] at hs ⊢
  unfold r234_L at hs
  rw [M_234]
  by_cases q2 : Y.1 2 = 0 <;> by_cases q1 : Y.1 1 = 0
  · rw [if_pos q2] at hf
    rw [if_pos q1] at hl
    subst hf
    subst hl
    simp (disch := omega) only [Int.reduceAdd, Int.reduceMul, Int.reduceSub, Int.reduceNeg, na_add, na_sub, na_mul, na_neg, na_lt, na_le, na_eq, na_ofNat, bo_some, tl_some, tl_none, rc_int, rc_ref, rc_null, rc_none, rc_long, tb_0, tb_1, ↓mr_g0, mr_r0, mr_get, mr_upd, mr_at, mr_wr, Classical.not_not, not_true_eq_false, not_false_eq_true, na_l0, na_l1, na_l2, na_l3, na_l4, na_l5, na_l6, na_l7, na_l8, na_l9, na_l10, na_l14, na_l15, na_l16, na_l25, na_l30, na_l31, na_l32, na_l33, na_l39, na_l43, na_l45, na_l48, na_l49, na_l50, na_l51, na_l52, na_l53, na_l55, na_l56, na_l57, na_l60, na_l64, na_l71, na_l80, na_l96, na_l100, na_l101, na_l102, na_l103, na_l104, na_l105, na_l106, na_l107, na_l108, na_l109, na_l110, na_l111, na_l112, na_l113, na_l114, na_l115, na_l116, na_l117, na_l118, na_l119, na_l120, na_l121, na_l125, na_l128, na_l150, na_l192, na_l255, na_l999, na_l1000, na_l1248, na_l1344, na_l1875, na_l10000, ↓reduceIte, pf_and, pe_le, pf_le, pe_lt, pf_lt, pe_eq, pf_eq, true_and, and_true, false_and, and_false, true_or, or_true, false_or, or_false, ln_some, lb_0, lb_1, na_div, na_rem, Nat.add_assoc, Nat.reduceAdd, cv_113 hY hk, cv_114 hY hk, cv_115 hY hk, cv_116 hY hk, cv_117 hY hk, cv_127 hY hk, cv_128 hY hk, cv_129 hY hk, cv_130 hY hk, nA_0, nA_1, nA_2, L_234_0, L_234_1, L_234_2, L_234_3, L_234_4, L_234_5, ↓hs]
  · rw [if_pos q2] at hf
    rw [if_neg q1] at hl
    subst hf
    subst hl
    simp (disch := omega) only [Int.reduceAdd, Int.reduceMul, Int.reduceSub, Int.reduceNeg, na_add, na_sub, na_mul, na_neg, na_lt, na_le, na_eq, na_ofNat, bo_some, tl_some, tl_none, rc_int, rc_ref, rc_null, rc_none, rc_long, tb_0, tb_1, ↓mr_g0, mr_r0, mr_get, mr_upd, mr_at, mr_wr, Classical.not_not, not_true_eq_false, not_false_eq_true, na_l0, na_l1, na_l2, na_l3, na_l4, na_l5, na_l6, na_l7, na_l8, na_l9, na_l10, na_l14, na_l15, na_l16, na_l25, na_l30, na_l31, na_l32, na_l33, na_l39, na_l43, na_l45, na_l48, na_l49, na_l50, na_l51, na_l52, na_l53, na_l55, na_l56, na_l57, na_l60, na_l64, na_l71, na_l80, na_l96, na_l100, na_l101, na_l102, na_l103, na_l104, na_l105, na_l106, na_l107, na_l108, na_l109, na_l110, na_l111, na_l112, na_l113, na_l114, na_l115, na_l116, na_l117, na_l118, na_l119, na_l120, na_l121, na_l125, na_l128, na_l150, na_l192, na_l255, na_l999, na_l1000, na_l1248, na_l1344, na_l1875, na_l10000, ↓reduceIte, pf_and, pe_le, pf_le, pe_lt, pf_lt, pe_eq, pf_eq, true_and, and_true, false_and, and_false, true_or, or_true, false_or, or_false, ln_some, lb_0, lb_1, na_div, na_rem, Nat.add_assoc, Nat.reduceAdd, cv_113 hY hk, cv_114 hY hk, cv_115 hY hk, cv_116 hY hk, cv_117 hY hk, cv_127 hY hk, cv_128 hY hk, cv_129 hY hk, cv_130 hY hk, nA_0, nA_1, nA_2, L_234_0, L_234_1, L_234_2, L_234_3, L_234_4, L_234_5, ↓hs]
  · rw [if_neg q2] at hf
    rw [if_pos q1] at hl
    subst hf
    subst hl
    simp (disch := omega) only [Int.reduceAdd, Int.reduceMul, Int.reduceSub, Int.reduceNeg, na_add, na_sub, na_mul, na_neg, na_lt, na_le, na_eq, na_ofNat, bo_some, tl_some, tl_none, rc_int, rc_ref, rc_null, rc_none, rc_long, tb_0, tb_1, ↓mr_g0, mr_r0, mr_get, mr_upd, mr_at, mr_wr, Classical.not_not, not_true_eq_false, not_false_eq_true, na_l0, na_l1, na_l2, na_l3, na_l4, na_l5, na_l6, na_l7, na_l8, na_l9, na_l10, na_l14, na_l15, na_l16, na_l25, na_l30, na_l31, na_l32, na_l33, na_l39, na_l43, na_l45, na_l48, na_l49, na_l50, na_l51, na_l52, na_l53, na_l55, na_l56, na_l57, na_l60, na_l64, na_l71, na_l80, na_l96, na_l100, na_l101, na_l102, na_l103, na_l104, na_l105, na_l106, na_l107, na_l108, na_l109, na_l110, na_l111, na_l112, na_l113, na_l114, na_l115, na_l116, na_l117, na_l118, na_l119, na_l120, na_l121, na_l125, na_l128, na_l150, na_l192, na_l255, na_l999, na_l1000, na_l1248, na_l1344, na_l1875, na_l10000, ↓reduceIte, pf_and, pe_le, pf_le, pe_lt, pf_lt, pe_eq, pf_eq, true_and, and_true, false_and, and_false, true_or, or_true, false_or, or_false, ln_some, lb_0, lb_1, na_div, na_rem, Nat.add_assoc, Nat.reduceAdd, cv_113 hY hk, cv_114 hY hk, cv_115 hY hk, cv_116 hY hk, cv_117 hY hk, cv_127 hY hk, cv_128 hY hk, cv_129 hY hk, cv_130 hY hk, nA_0, nA_1, nA_2, L_234_0, L_234_1, L_234_2, L_234_3, L_234_4, L_234_5, ↓hs]
  · rw [if_neg q2] at hf
    rw [if_neg q1] at hl
    subst hf
    subst hl
    simp (disch := omega) only [Int.reduceAdd, Int.reduceMul, Int.reduceSub, Int.reduceNeg, na_add, na_sub, na_mul, na_neg, na_lt, na_le, na_eq, na_ofNat, bo_some, tl_some, tl_none, rc_int, rc_ref, rc_null, rc_none, rc_long, tb_0, tb_1, ↓mr_g0, mr_r0, mr_get, mr_upd, mr_at, mr_wr, Classical.not_not, not_true_eq_false, not_false_eq_true, na_l0, na_l1, na_l2, na_l3, na_l4, na_l5, na_l6, na_l7, na_l8, na_l9, na_l10, na_l14, na_l15, na_l16, na_l25, na_l30, na_l31, na_l32, na_l33, na_l39, na_l43, na_l45, na_l48, na_l49, na_l50, na_l51, na_l52, na_l53, na_l55, na_l56, na_l57, na_l60, na_l64, na_l71, na_l80, na_l96, na_l100, na_l101, na_l102, na_l103, na_l104, na_l105, na_l106, na_l107, na_l108, na_l109, na_l110, na_l111, na_l112, na_l113, na_l114, na_l115, na_l116, na_l117, na_l118, na_l119, na_l120, na_l121, na_l125, na_l128, na_l150, na_l192, na_l255, na_l999, na_l1000, na_l1248, na_l1344, na_l1875, na_l10000, ↓reduceIte, pf_and, pe_le, pf_le, pe_lt, pf_lt, pe_eq, pf_eq, true_and, and_true, false_and, and_false, true_or, or_true, false_or, or_false, ln_some, lb_0, lb_1, na_div, na_rem, Nat.add_assoc, Nat.reduceAdd, cv_113 hY hk, cv_114 hY hk, cv_115 hY hk, cv_116 hY hk, cv_117 hY hk, cv_127 hY hk, cv_128 hY hk, cv_129 hY hk, cv_130 hY hk, nA_0, nA_1, nA_2, L_234_0, L_234_1, L_234_2, L_234_3, L_234_4, L_234_5, ↓hs]
end ACT
