/-! Simulations. -/
/-- the number drawn from x -/
def sx_r (x : Int64) : Int := ((x.toUInt64 >>> ((Int32.ofInt 33).toInt64.toUInt64 &&& Int64.toUInt64 63)).toInt64).toInt32.toInt
theorem sx_of (x : Int64) : ((x.toUInt64 >>> ((Int32.ofInt 33).toInt64.toUInt64 &&& Int64.toUInt64 63)).toInt64).toInt32 = Int32.ofInt (sx_r x) := (Int32.ofInt_toInt _).symm
theorem sx_of2 (x : Int64) : ((x.toUInt64 >>> ((Int64.ofInt 33).toUInt64 &&& Int64.toUInt64 63)).toInt64).toInt32 = Int32.ofInt (sx_r x) := sx_of x
theorem sx_bd (x : Int64) : 0 ≤ sx_r x ∧ sx_r x < 2147483648 := by
  have hs : ((Int32.ofInt 33).toInt64.toUInt64 &&& Int64.toUInt64 63).toNat % 64 = 33 := by decide
  unfold sx_r
  have hu : (x.toUInt64 >>> ((Int32.ofInt 33).toInt64.toUInt64 &&& Int64.toUInt64 63)).toNat < 2147483648 := by
    rw [UInt64.toNat_shiftRight, hs, Nat.shiftRight_eq_div_pow]
    have := x.toUInt64.toNat_lt
    omega
  generalize x.toUInt64 >>> ((Int32.ofInt 33).toInt64.toUInt64 &&& Int64.toUInt64 63) = u at *
  have e : u.toInt64.toInt = (u.toNat : Int) := by
    show u.toBitVec.toInt = _
    have hn : u.toBitVec.toNat = u.toNat := rfl
    rw [BitVec.toInt_eq_toNat_cond, if_pos (by omega), hn]
  rw [Int64.toInt_toInt32, e]
  have : ((u.toNat : Int)).bmod (2 ^ 32) = (u.toNat : Int) := Int.bmod_eq_of_le (by omega) (by omega)
  rw [this]
  omega
/-- a turn of a simulation -/
def mg_tt (R : mr_R) (q k : Int) : mr_R :=
  if k = 0 then mg_tW R (3 + q % 3) (q / 4 % 9 - 4) (q / 64 % 31)
  else if k ≤ 2 then mg_tL R (q % 3) (q / 4 % 5) (q / 32 % 3) (q / 128 % 5)
  else if k = 3 then mg_tF R (q % 3) (q / 4 % 5) (1 + q / 32 % 9)
  else if k = 4 then mg_tY R (q % 3) (q / 4 % 5) (1 + q / 32 % 9)
  else if k = 5 then mg_tT R (q % 3) (q / 4 % 9 - 4)
  else if k ≤ 9 then (if q % 5 < R 2 then mg_hop R (q % 5) (2 * (q / 8 % 2) - 1) else R)
  else (if q % 5 < R 2 ∧ q / 8 % 8 < R 1 then mg_leap R (q % 5) (q / 8 % 8) else R)
def sx_n (x : Int64) : Int64 := x * 6364136223846793005 + 1442695040888963407
def mg_sF (f : Int64 → Int64) (g : Int64 → Int) : Nat → Int64 → mr_R → mr_R
  | 0, _, R => R
  | n + 1, x, R => mg_sF f g n (f x) (mg_tt R (g (f x) / 16) (g (f x) % 16))
theorem mg_sF0 {f : Int64 → Int64} {g : Int64 → Int} {x : Int64} {R : mr_R} : mg_sF f g 0 x R = R := rfl
theorem mg_sFS {f : Int64 → Int64} {g : Int64 → Int} {n : Nat} {x : Int64} {R : mr_R} : mg_sF f g (n + 1) x R = mg_sF f g n (f x) (mg_tt R (g (f x) / 16) (g (f x) % 16)) := rfl
theorem mi_tt {K : Int} {R : mr_R} (hi : mi K R) (hk : K + 20 ≤ 1000000) (hk0 : 0 ≤ K) {q k : Int} (hq : 0 ≤ q) : mi (K + 20) (mg_tt R q k) := by
  unfold mg_tt
  split
  · unfold mg_tW
    split
    · rename_i a
      exact mi_mono (mi_wheel hi (mf_fW_0 a).1 (mf_fW_0 a).2) (by omega) hk
    · exact mi_mono hi (by omega) hk
  split
  · unfold mg_tL
    split
    · rename_i a
      exact mi_mono (mi_line hi (mf_fL_0 a)) (by omega) hk
    · exact mi_mono hi (by omega) hk
  split
  · unfold mg_tF
    split
    · rename_i a
      exact mi_mono (mi_frog hi hk0 (mf_fF_0 a).1 (mf_fF_0 a).2) (by omega) hk
    · exact mi_mono hi (by omega) hk
  split
  · unfold mg_tY
    split
    · rename_i a
      have b := mf_fY_0 a
      exact mi_mono (mi_bring hi (by omega) b.1.1 b.1.2.1 (by omega) (by omega)) (by omega) hk
    · exact mi_mono hi (by omega) hk
  split
  · unfold mg_tT
    split
    · rename_i a
      have b := mf_fT_0 a
      exact mi_mono (mi_turn2 hi b.1.1 b.1.2) (by omega) hk
    · exact mi_mono hi (by omega) hk
  split
  · split
    · exact mi_hop hi (by omega) (by omega) hk
    · exact mi_mono hi (by omega) hk
  · split
    · exact mi_leap hi (by omega) (by omega) (by omega) (by omega) hk
    · exact mi_mono hi (by omega) hk
theorem mi_sF {f : Int64 → Int64} {g : Int64 → Int} (hg : ∀ x, 0 ≤ g x) : ∀ (n : Nat) (x : Int64) {K : Int} {R : mr_R}, mi K R → 0 ≤ K → K + 20 * n ≤ 1000000 → mi (K + 20 * n) (mg_sF f g n x R) := by
  intro n
  induction n with
  | zero => intro x K R hi h0 hk; rw [mg_sF0]; exact mi_mono hi (by omega) hk
  | succ n ih =>
    intro x K R hi h0 hk
    rw [mg_sFS]
    have hb := hg (f x)
    exact mi_mono (ih _ (mi_tt hi (by omega) h0 (by omega)) (by omega) (by omega)) (by omega) hk
section CP
variable {K : Int} {B : Nat} {R Z : mr_R} {σ : ri_S}
theorem c79 {r q k : Int} (hi : mi K R) (hk : K + 20 ≤ 1000000) (hr : 0 ≤ r ∧ r < 2147483648) (eq : r / 16 = q) (ek : r % 16 = k) : cal 79 [.ref B, .int (Int32.ofInt r)] (mp B R Z σ) = some (none, mp B (mg_tt R q k) Z σ) := by
  have hc := hi.c
  have hq : 0 ≤ q ∧ q < 200000000 := by omega
  have hkk : 0 ≤ k ∧ k < 16 := by omega
  have x1 : 0 ≤ q % 3 ∧ q % 3 < 3 := by omega
  have x2 : 0 ≤ q / 4 % 5 ∧ q / 4 % 5 < 5 := by omega
  have x3 : 0 ≤ q / 4 % 9 ∧ q / 4 % 9 < 9 := by omega
  have x4 : 0 ≤ q / 64 % 31 ∧ q / 64 % 31 < 31 := by omega
  have x5 : 0 ≤ q / 32 % 3 ∧ q / 32 % 3 < 3 := by omega
  have x6 : 0 ≤ q / 128 % 5 ∧ q / 128 % 5 < 5 := by omega
  have x7 : 0 ≤ q / 32 % 9 ∧ q / 32 % 9 < 9 := by omega
  have x8 : 0 ≤ q % 5 ∧ q % 5 < 5 := by omega
  have x9 : 0 ≤ q / 8 % 2 ∧ q / 8 % 2 < 2 := by omega
  have x10 : 0 ≤ q / 8 % 8 ∧ q / 8 % 8 < 8 := by omega
  have e30 := c30 (B := B) (Z := Z) (σ := σ) (n := 3 + q % 3) (no := q / 4 % 9 - 4) (s := q / 64 % 31) (by omega) (by omega) (by omega) (by omega) (by omega) (by omega) hi
  have e31 := c31 (B := B) (Z := Z) (σ := σ) (w := q % 3) (p := q / 4 % 5) (w2 := q / 32 % 3) (p2 := q / 128 % 5) (by omega) (by omega) (by omega) (by omega) (by omega) (by omega) (by omega) (by omega) hi
  have e32 := c32 (B := B) (Z := Z) (σ := σ) (w := q % 3) (p := q / 4 % 5) (g := 1 + q / 32 % 9) (by omega) (by omega) (by omega) (by omega) (by omega) (by omega) hi
  have e33 := c33 (B := B) (Z := Z) (σ := σ) (w := q % 3) (p := q / 4 % 5) (n := 1 + q / 32 % 9) (by omega) (by omega) (by omega) (by omega) (by omega) (by omega) hi
  have e34 := c34 (B := B) (Z := Z) (σ := σ) (w := q % 3) (k := q / 4 % 9 - 4) (by omega) (by omega) (by omega) (by omega) hi
  have e42 : cal 42 [.ref B, .int (Int32.ofInt (q % 5)), .int (Int32.ofInt (2 * (q / 8 % 2) - 1))] (mp B R Z σ) = some (some (.int (Int32.ofInt (if q % 5 < R 2 then mf_hwhy R (q % 5) (2 * (q / 8 % 2) - 1) else -1))), mp B (if q % 5 < R 2 then mg_hop R (q % 5) (2 * (q / 8 % 2) - 1) else R) Z σ) := by
    by_cases c : q % 5 < R 2
    · rw [if_pos c, if_pos c]
      exact c42 hi hk x8.1 c (by omega)
    · rw [if_neg c, if_neg c]
      exact c42n (by omega) (by omega) (by omega) (by omega) hi (by omega)
  have e41 : cal 41 [.ref B, .int (Int32.ofInt (q % 5)), .int (Int32.ofInt (q / 8 % 8))] (mp B R Z σ) = some (some (.int (Int32.ofInt (if q % 5 < R 2 ∧ q / 8 % 8 < R 1 then mf_why R (q % 5) (q / 8 % 8) else -1))), mp B (if q % 5 < R 2 ∧ q / 8 % 8 < R 1 then mg_leap R (q % 5) (q / 8 % 8) else R) Z σ) := by
    by_cases c : q % 5 < R 2 ∧ q / 8 % 8 < R 1
    · rw [if_pos c, if_pos c]
      exact c41 hi hk x8.1 c.1 x10.1 c.2
    · rw [if_neg c, if_neg c]
      exact c41n (by omega) (by omega) (by omega) (by omega) hi (by omega)
  rw [E_79]
  unfold mg_tt
  have hn : ∀ a : Int, 0 ≤ a → a < 2147483648 → ∀ b : Int, 0 < b → b < 2147483648 → 0 ≤ a / b ∧ a / b ≤ a := fun a h1 h2 b h3 h4 => ⟨Int.ediv_nonneg h1 (by omega), Int.ediv_le_self _ h1⟩
  by_cases k0 : k = 0
  · simp (disch := omega) only [Int.reduceAdd, Int.reduceMul, Int.reduceSub, Int.reduceNeg, na_add, na_sub, na_mul, na_neg, na_lt, na_le, na_eq, na_ofNat, bo_some, tl_some, tl_none, rc_int, rc_ref, rc_null, rc_none, rc_long, tb_0, tb_1, ↓mr_g0, mr_r0, mr_get, mr_upd, mr_at, mr_wr, Classical.not_not, not_true_eq_false, not_false_eq_true, na_l0, na_l1, na_l2, na_l3, na_l4, na_l5, na_l6, na_l7, na_l8, na_l9, na_l10, na_l14, na_l15, na_l16, na_l25, na_l30, na_l31, na_l32, na_l33, na_l39, na_l43, na_l45, na_l48, na_l49, na_l50, na_l51, na_l52, na_l53, na_l55, na_l56, na_l57, na_l60, na_l64, na_l71, na_l80, na_l96, na_l100, na_l101, na_l102, na_l103, na_l104, na_l105, na_l106, na_l107, na_l108, na_l109, na_l110, na_l111, na_l112, na_l113, na_l114, na_l115, na_l116, na_l117, na_l118, na_l119, na_l120, na_l121, na_l125, na_l128, na_l150, na_l192, na_l255, na_l999, na_l1000, na_l1248, na_l1344, na_l1875, na_l10000, ↓reduceIte, pf_and, pe_le, pf_le, pe_lt, pf_lt, pe_eq, pf_eq, true_and, and_true, false_and, and_false, true_or, or_true, false_or, or_false, na_div, na_rem, ↓mpk_0, I_79_0, I_79_1, I_79_2, I_79_3, eq, ek, e30]
  · by_cases k2 : k ≤ 2
    · simp (disch := omega) only [Int.reduceAdd, Int.reduceMul, Int.reduceSub, Int.reduceNeg, na_add, na_sub, na_mul, na_neg, na_lt, na_le, na_eq, na_ofNat, bo_some, tl_some, tl_none, rc_int, rc_ref, rc_null, rc_none, rc_long, tb_0, tb_1, ↓mr_g0, mr_r0, mr_get, mr_upd, mr_at, mr_wr, Classical.not_not, not_true_eq_false, not_false_eq_true, na_l0, na_l1, na_l2, na_l3, na_l4, na_l5, na_l6, na_l7, na_l8, na_l9, na_l10, na_l14, na_l15, na_l16, na_l25, na_l30, na_l31, na_l32, na_l33, na_l39, na_l43, na_l45, na_l48, na_l49, na_l50, na_l51, na_l52, na_l53, na_l55, na_l56, na_l57, na_l60, na_l64, na_l71, na_l80, na_l96, na_l100, na_l101, na_l102, na_l103, na_l104, na_l105, na_l106, na_l107, na_l108, na_l109, na_l110, na_l111, na_l112, na_l113, na_l114, na_l115, na_l116, na_l117, na_l118, na_l119, na_l120, na_l121, na_l125, na_l128, na_l150, na_l192, na_l255, na_l999, na_l1000, na_l1248, na_l1344, na_l1875, na_l10000, ↓reduceIte, pf_and, pe_le, pf_le, pe_lt, pf_lt, pe_eq, pf_eq, true_and, and_true, false_and, and_false, true_or, or_true, false_or, or_false, na_div, na_rem, ↓mpk_0, I_79_0, I_79_1, I_79_2, I_79_3, eq, ek, e31]
    · by_cases k3 : k = 3
      · simp (disch := omega) only [Int.reduceAdd, Int.reduceMul, Int.reduceSub, Int.reduceNeg, na_add, na_sub, na_mul, na_neg, na_lt, na_le, na_eq, na_ofNat, bo_some, tl_some, tl_none, rc_int, rc_ref, rc_null, rc_none, rc_long, tb_0, tb_1, ↓mr_g0, mr_r0, mr_get, mr_upd, mr_at, mr_wr, Classical.not_not, not_true_eq_false, not_false_eq_true, na_l0, na_l1, na_l2, na_l3, na_l4, na_l5, na_l6, na_l7, na_l8, na_l9, na_l10, na_l14, na_l15, na_l16, na_l25, na_l30, na_l31, na_l32, na_l33, na_l39, na_l43, na_l45, na_l48, na_l49, na_l50, na_l51, na_l52, na_l53, na_l55, na_l56, na_l57, na_l60, na_l64, na_l71, na_l80, na_l96, na_l100, na_l101, na_l102, na_l103, na_l104, na_l105, na_l106, na_l107, na_l108, na_l109, na_l110, na_l111, na_l112, na_l113, na_l114, na_l115, na_l116, na_l117, na_l118, na_l119, na_l120, na_l121, na_l125, na_l128, na_l150, na_l192, na_l255, na_l999, na_l1000, na_l1248, na_l1344, na_l1875, na_l10000, ↓reduceIte, pf_and, pe_le, pf_le, pe_lt, pf_lt, pe_eq, pf_eq, true_and, and_true, false_and, and_false, true_or, or_true, false_or, or_false, na_div, na_rem, ↓mpk_0, I_79_0, I_79_1, I_79_2, I_79_3, eq, ek, e32]
      · by_cases k4 : k = 4
        · simp (disch := omega) only [Int.reduceAdd, Int.reduceMul, Int.reduceSub, Int.reduceNeg, na_add, na_sub, na_mul, na_neg, na_lt, na_le, na_eq, na_ofNat, bo_some, tl_some, tl_none, rc_int, rc_ref, rc_null, rc_none, rc_long, tb_0, tb_1, ↓mr_g0, mr_r0, mr_get, mr_upd, mr_at, mr_wr, Classical.not_not, not_true_eq_false, not_false_eq_true, na_l0, na_l1, na_l2, na_l3, na_l4, na_l5, na_l6, na_l7, na_l8, na_l9, na_l10, na_l14, na_l15, na_l16, na_l25, na_l30, na_l31, na_l32, na_l33, na_l39, na_l43, na_l45, na_l48, na_l49, na_l50, na_l51, na_l52, na_l53, na_l55, na_l56, na_l57, na_l60, na_l64, na_l71, na_l80, na_l96, na_l100, na_l101, na_l102, na_l103, na_l104, na_l105, na_l106, na_l107, na_l108, na_l109, na_l110, na_l111, na_l112, na_l113, na_l114, na_l115, na_l116, na_l117, na_l118, na_l119, na_l120, na_l121, na_l125, na_l128, na_l150, na_l192, na_l255, na_l999, na_l1000, na_l1248, na_l1344, na_l1875, na_l10000, ↓reduceIte, pf_and, pe_le, pf_le, pe_lt, pf_lt, pe_eq, pf_eq, true_and, and_true, false_and, and_false, true_or, or_true, false_or, or_false, na_div, na_rem, ↓mpk_0, I_79_0, I_79_1, I_79_2, I_79_3, eq, ek, e33]
        · by_cases k5 : k = 5
          · simp (disch := omega) only [Int.reduceAdd, Int.reduceMul, Int.reduceSub, Int.reduceNeg, na_add, na_sub, na_mul, na_neg, na_lt, na_le, na_eq, na_ofNat, bo_some, tl_some, tl_none, rc_int, rc_ref, rc_null, rc_none, rc_long, tb_0, tb_1, ↓mr_g0, mr_r0, mr_get, mr_upd, mr_at, mr_wr, Classical.not_not, not_true_eq_false, not_false_eq_true, na_l0, na_l1, na_l2, na_l3, na_l4, na_l5, na_l6, na_l7, na_l8, na_l9, na_l10, na_l14, na_l15, na_l16, na_l25, na_l30, na_l31, na_l32, na_l33, na_l39, na_l43, na_l45, na_l48, na_l49, na_l50, na_l51, na_l52, na_l53, na_l55, na_l56, na_l57, na_l60, na_l64, na_l71, na_l80, na_l96, na_l100, na_l101, na_l102, na_l103, na_l104, na_l105, na_l106, na_l107, na_l108, na_l109, na_l110, na_l111, na_l112, na_l113, na_l114, na_l115, na_l116, na_l117, na_l118, na_l119, na_l120, na_l121, na_l125, na_l128, na_l150, na_l192, na_l255, na_l999, na_l1000, na_l1248, na_l1344, na_l1875, na_l10000, ↓reduceIte, pf_and, pe_le, pf_le, pe_lt, pf_lt, pe_eq, pf_eq, true_and, and_true, false_and, and_false, true_or, or_true, false_or, or_false, na_div, na_rem, ↓mpk_0, I_79_0, I_79_1, I_79_2, I_79_3, eq, ek, e34]
          · by_cases k9 : k ≤ 9
            · simp (disch := omega) only [Int.reduceAdd, Int.reduceMul, Int.reduceSub, Int.reduceNeg, na_add, na_sub, na_mul, na_neg, na_lt, na_le, na_eq, na_ofNat, bo_some, tl_some, tl_none, rc_int, rc_ref, rc_null, rc_none, rc_long, tb_0, tb_1, ↓mr_g0, mr_r0, mr_get, mr_upd, mr_at, mr_wr, Classical.not_not, not_true_eq_false, not_false_eq_true, na_l0, na_l1, na_l2, na_l3, na_l4, na_l5, na_l6, na_l7, na_l8, na_l9, na_l10, na_l14, na_l15, na_l16, na_l25, na_l30, na_l31, na_l32, na_l33, na_l39, na_l43, na_l45, na_l48, na_l49, na_l50, na_l51, na_l52, na_l53, na_l55, na_l56, na_l57, na_l60, na_l64, na_l71, na_l80, na_l96, na_l100, na_l101, na_l102, na_l103, na_l104, na_l105, na_l106, na_l107, na_l108, na_l109, na_l110, na_l111, na_l112, na_l113, na_l114, na_l115, na_l116, na_l117, na_l118, na_l119, na_l120, na_l121, na_l125, na_l128, na_l150, na_l192, na_l255, na_l999, na_l1000, na_l1248, na_l1344, na_l1875, na_l10000, ↓reduceIte, pf_and, pe_le, pf_le, pe_lt, pf_lt, pe_eq, pf_eq, true_and, and_true, false_and, and_false, true_or, or_true, false_or, or_false, na_div, na_rem, ↓mpk_0, I_79_0, I_79_1, I_79_2, I_79_3, eq, ek]
              rw [e42]
              simp (disch := omega) only [Int.reduceAdd, Int.reduceMul, Int.reduceSub, Int.reduceNeg, na_add, na_sub, na_mul, na_neg, na_lt, na_le, na_eq, na_ofNat, bo_some, tl_some, tl_none, rc_int, rc_ref, rc_null, rc_none, rc_long, tb_0, tb_1, ↓mr_g0, mr_r0, mr_get, mr_upd, mr_at, mr_wr, Classical.not_not, not_true_eq_false, not_false_eq_true, na_l0, na_l1, na_l2, na_l3, na_l4, na_l5, na_l6, na_l7, na_l8, na_l9, na_l10, na_l14, na_l15, na_l16, na_l25, na_l30, na_l31, na_l32, na_l33, na_l39, na_l43, na_l45, na_l48, na_l49, na_l50, na_l51, na_l52, na_l53, na_l55, na_l56, na_l57, na_l60, na_l64, na_l71, na_l80, na_l96, na_l100, na_l101, na_l102, na_l103, na_l104, na_l105, na_l106, na_l107, na_l108, na_l109, na_l110, na_l111, na_l112, na_l113, na_l114, na_l115, na_l116, na_l117, na_l118, na_l119, na_l120, na_l121, na_l125, na_l128, na_l150, na_l192, na_l255, na_l999, na_l1000, na_l1248, na_l1344, na_l1875, na_l10000, ↓reduceIte, pf_and, pe_le, pf_le, pe_lt, pf_lt, pe_eq, pf_eq, true_and, and_true, false_and, and_false, true_or, or_true, false_or, or_false, ↓mpk_0, I_79_0, I_79_1, I_79_2, I_79_3]
            · simp (disch := omega) only [Int.reduceAdd, Int.reduceMul, Int.reduceSub, Int.reduceNeg, na_add, na_sub, na_mul, na_neg, na_lt, na_le, na_eq, na_ofNat, bo_some, tl_some, tl_none, rc_int, rc_ref, rc_null, rc_none, rc_long, tb_0, tb_1, ↓mr_g0, mr_r0, mr_get, mr_upd, mr_at, mr_wr, Classical.not_not, not_true_eq_false, not_false_eq_true, na_l0, na_l1, na_l2, na_l3, na_l4, na_l5, na_l6, na_l7, na_l8, na_l9, na_l10, na_l14, na_l15, na_l16, na_l25, na_l30, na_l31, na_l32, na_l33, na_l39, na_l43, na_l45, na_l48, na_l49, na_l50, na_l51, na_l52, na_l53, na_l55, na_l56, na_l57, na_l60, na_l64, na_l71, na_l80, na_l96, na_l100, na_l101, na_l102, na_l103, na_l104, na_l105, na_l106, na_l107, na_l108, na_l109, na_l110, na_l111, na_l112, na_l113, na_l114, na_l115, na_l116, na_l117, na_l118, na_l119, na_l120, na_l121, na_l125, na_l128, na_l150, na_l192, na_l255, na_l999, na_l1000, na_l1248, na_l1344, na_l1875, na_l10000, ↓reduceIte, pf_and, pe_le, pf_le, pe_lt, pf_lt, pe_eq, pf_eq, true_and, and_true, false_and, and_false, true_or, or_true, false_or, or_false, na_div, na_rem, ↓mpk_0, I_79_0, I_79_1, I_79_2, I_79_3, eq, ek]
              rw [e41]
              simp (disch := omega) only [Int.reduceAdd, Int.reduceMul, Int.reduceSub, Int.reduceNeg, na_add, na_sub, na_mul, na_neg, na_lt, na_le, na_eq, na_ofNat, bo_some, tl_some, tl_none, rc_int, rc_ref, rc_null, rc_none, rc_long, tb_0, tb_1, ↓mr_g0, mr_r0, mr_get, mr_upd, mr_at, mr_wr, Classical.not_not, not_true_eq_false, not_false_eq_true, na_l0, na_l1, na_l2, na_l3, na_l4, na_l5, na_l6, na_l7, na_l8, na_l9, na_l10, na_l14, na_l15, na_l16, na_l25, na_l30, na_l31, na_l32, na_l33, na_l39, na_l43, na_l45, na_l48, na_l49, na_l50, na_l51, na_l52, na_l53, na_l55, na_l56, na_l57, na_l60, na_l64, na_l71, na_l80, na_l96, na_l100, na_l101, na_l102, na_l103, na_l104, na_l105, na_l106, na_l107, na_l108, na_l109, na_l110, na_l111, na_l112, na_l113, na_l114, na_l115, na_l116, na_l117, na_l118, na_l119, na_l120, na_l121, na_l125, na_l128, na_l150, na_l192, na_l255, na_l999, na_l1000, na_l1248, na_l1344, na_l1875, na_l10000, ↓reduceIte, pf_and, pe_le, pf_le, pe_lt, pf_lt, pe_eq, pf_eq, true_and, and_true, false_and, and_false, true_or, or_true, false_or, or_false, ↓mpk_0, I_79_0, I_79_1, I_79_2, I_79_3]
end CP
