/-! Scripts. -/
def mf_c (R : mr_R) (g : Int) : Int := mf_cmd R (g / 10000) (g / 1000 % 10) (g / 100 % 10) (g / 10 % 10) (g % 10)
def mg_c (R : mr_R) (g : Int) : mr_R := mg_cmd R (g / 10000) (g / 1000 % 10) (g / 100 % 10) (g / 10 % 10) (g % 10)
def mf_rs (R : mr_R) : List Int → Int → Int
  | [], _ => -1
  | g :: gs, i => if mf_c R g = 0 then i else mf_rs (mg_c R g) gs (i + 1)
def mg_rs (R : mr_R) : List Int → mr_R
  | [] => R
  | g :: gs => if mf_c R g = 0 then mg_c R g else mg_rs (mg_c R g) gs
def mf_gs (n a : Int) : List Int := if n = 1 then [a / 1 % 100000] else if n = 2 then [a / 100000 % 100000, a / 1 % 100000] else [a / 10000000000 % 100000, a / 100000 % 100000, a / 1 % 100000]
def mf_all (n : Int) : Int := if n = 1 then 100000 else if n = 2 then 10000000000 else 1000000000000000
theorem mf_c_or (R : mr_R) (g : Int) : mf_c R g = 0 ∨ mf_c R g = 1 := by
  unfold mf_c mf_cmd
  repeat' split
  all_goals omega
theorem mi_c {K : Int} {R : mr_R} (hi : mi K R) (hk : K + 20 ≤ 1000000) (g : Int) : mi (K + 20) (mg_c R g) := mi_cmd hi hk (by omega) (by omega) (by omega) (by omega)
theorem mi_rs : ∀ (gs : List Int) {K : Int} {R : mr_R}, mi K R → K + 20 * gs.length ≤ 1000000 → mi (K + 20 * gs.length) (mg_rs R gs) := by
  intro gs
  induction gs with
  | nil => intro K R hi hk; exact mi_mono hi (by simp) hk
  | cons g gs ih =>
    intro K R hi hk
    simp only [List.length_cons] at hk ⊢
    have h1 := mi_c hi (by omega) g
    simp only [mg_rs]
    split
    · exact mi_mono h1 (by omega) (by omega)
    · exact mi_mono (ih h1 (by omega)) (by omega) (by omega)
theorem mc_id {K : Int} {F G : mr_R} (hi : mi K F) (hz : mi_Z G) : mc_cp F 0 G 0 96 = F := by
  funext i
  unfold mc_cp
  by_cases q : 0 ≤ i ∧ i < 0 + 96
  · rw [if_pos q, show 0 + (i - 0) = i by omega]
  · rw [if_neg q, hz i (by omega), hi.z (by omega)]
section CP
variable {K : Int} {B : Nat} {R Z : mr_R} {σ : ri_S}
theorem c54g {g : Int} (hi : mi K R) (hk : K + 20 ≤ 1000000) (hg : 0 ≤ g ∧ g < 100000) : cal 54 [.ref B, .int (Int32.ofInt g)] (mp B R Z σ) = some (some (.int (Int32.ofInt (mf_c R g))), mp B (mg_c R g) Z σ) := c54 hi hk hg rfl rfl rfl rfl rfl (by omega) (by omega) (by omega) (by omega) (by omega)
theorem c52 : cal 52 [.int (Int32.ofInt 0)] σ = some (some (.long (Int64.ofInt 1)), σ) ∧ cal 52 [.int (Int32.ofInt 1)] σ = some (some (.long (Int64.ofInt 100000)), σ) ∧ cal 52 [.int (Int32.ofInt 2)] σ = some (some (.long (Int64.ofInt 10000000000)), σ) ∧ cal 52 [.int (Int32.ofInt 3)] σ = some (some (.long (Int64.ofInt 1000000000000000)), σ) := by
  refine ⟨?_, ?_, ?_, ?_⟩ <;> rw [E_52] <;> simp (disch := omega) only [Int.reduceAdd, Int.reduceMul, Int.reduceSub, Int.reduceNeg, na_add, na_sub, na_mul, na_neg, na_lt, na_le, na_eq, na_ofNat, bo_some, tl_some, tl_none, rc_int, rc_ref, rc_null, rc_none, rc_long, tb_0, tb_1, ↓mr_g0, mr_r0, mr_get, mr_upd, mr_at, mr_wr, Classical.not_not, not_true_eq_false, not_false_eq_true, na_l0, na_l1, na_l2, na_l3, na_l4, na_l5, na_l6, na_l7, na_l8, na_l9, na_l10, na_l14, na_l15, na_l16, na_l25, na_l30, na_l31, na_l32, na_l33, na_l39, na_l43, na_l45, na_l48, na_l49, na_l50, na_l51, na_l52, na_l53, na_l55, na_l56, na_l57, na_l60, na_l64, na_l71, na_l80, na_l96, na_l100, na_l101, na_l102, na_l103, na_l104, na_l105, na_l106, na_l107, na_l108, na_l109, na_l110, na_l111, na_l112, na_l113, na_l114, na_l115, na_l116, na_l117, na_l118, na_l119, na_l120, na_l121, na_l125, na_l128, na_l150, na_l192, na_l255, na_l999, na_l1000, na_l1248, na_l1344, na_l1875, na_l10000, ↓reduceIte, pf_and, pe_le, pf_le, pe_lt, pf_lt, pe_eq, pf_eq, true_and, and_true, false_and, and_false, true_or, or_true, false_or, or_false, nb_sub, nb_mul, nb_32, nb_div, nb_le0, nb_le1, nb_eq, nb_l100000, nb_neg, nb_wide, nb_lt, nb_gt, nb_l0, nb_l1, nb_l3, nb_l4, nb_l5, nb_l7, nb_l9, nb_l10, nb_l30, nb_l60, nb_l255, I_52, H_52_4]
theorem c51 {n a : Int} (h1 : -2147483648 ≤ n) (h2 : n < 2147483648) (h3 : -9223372036854775808 ≤ a) (h4 : a < 9223372036854775808) : cal 51 [.int (Int32.ofInt n), .long (Int64.ofInt a)] σ = some (some (.int (Int32.ofInt (if (1 ≤ n ∧ n ≤ 3) ∧ 0 ≤ a ∧ a < mf_all n then 0 else 2))), σ) := by
  rw [E_51]
  by_cases q : 1 ≤ n ∧ n ≤ 3
  · by_cases q2 : 0 ≤ a
    · have e : n = 1 ∨ n = 2 ∨ n = 3 := by omega
      unfold mf_all
      rcases e with e | e | e <;> subst e
      · by_cases q3 : a < 100000 <;> simp (disch := omega) only [Int.reduceAdd, Int.reduceMul, Int.reduceSub, Int.reduceNeg, na_add, na_sub, na_mul, na_neg, na_lt, na_le, na_eq, na_ofNat, bo_some, tl_some, tl_none, rc_int, rc_ref, rc_null, rc_none, rc_long, tb_0, tb_1, ↓mr_g0, mr_r0, mr_get, mr_upd, mr_at, mr_wr, Classical.not_not, not_true_eq_false, not_false_eq_true, na_l0, na_l1, na_l2, na_l3, na_l4, na_l5, na_l6, na_l7, na_l8, na_l9, na_l10, na_l14, na_l15, na_l16, na_l25, na_l30, na_l31, na_l32, na_l33, na_l39, na_l43, na_l45, na_l48, na_l49, na_l50, na_l51, na_l52, na_l53, na_l55, na_l56, na_l57, na_l60, na_l64, na_l71, na_l80, na_l96, na_l100, na_l101, na_l102, na_l103, na_l104, na_l105, na_l106, na_l107, na_l108, na_l109, na_l110, na_l111, na_l112, na_l113, na_l114, na_l115, na_l116, na_l117, na_l118, na_l119, na_l120, na_l121, na_l125, na_l128, na_l150, na_l192, na_l255, na_l999, na_l1000, na_l1248, na_l1344, na_l1875, na_l10000, ↓reduceIte, pf_and, pe_le, pf_le, pe_lt, pf_lt, pe_eq, pf_eq, true_and, and_true, false_and, and_false, true_or, or_true, false_or, or_false, nb_sub, nb_mul, nb_32, nb_div, nb_le0, nb_le1, nb_eq, nb_l100000, nb_neg, nb_wide, nb_lt, nb_gt, nb_l0, nb_l1, nb_l3, nb_l4, nb_l5, nb_l7, nb_l9, nb_l10, nb_l30, nb_l60, nb_l255, I_51, c137, c52]
      · by_cases q3 : a < 10000000000 <;> simp (disch := omega) only [Int.reduceAdd, Int.reduceMul, Int.reduceSub, Int.reduceNeg, na_add, na_sub, na_mul, na_neg, na_lt, na_le, na_eq, na_ofNat, bo_some, tl_some, tl_none, rc_int, rc_ref, rc_null, rc_none, rc_long, tb_0, tb_1, ↓mr_g0, mr_r0, mr_get, mr_upd, mr_at, mr_wr, Classical.not_not, not_true_eq_false, not_false_eq_true, na_l0, na_l1, na_l2, na_l3, na_l4, na_l5, na_l6, na_l7, na_l8, na_l9, na_l10, na_l14, na_l15, na_l16, na_l25, na_l30, na_l31, na_l32, na_l33, na_l39, na_l43, na_l45, na_l48, na_l49, na_l50, na_l51, na_l52, na_l53, na_l55, na_l56, na_l57, na_l60, na_l64, na_l71, na_l80, na_l96, na_l100, na_l101, na_l102, na_l103, na_l104, na_l105, na_l106, na_l107, na_l108, na_l109, na_l110, na_l111, na_l112, na_l113, na_l114, na_l115, na_l116, na_l117, na_l118, na_l119, na_l120, na_l121, na_l125, na_l128, na_l150, na_l192, na_l255, na_l999, na_l1000, na_l1248, na_l1344, na_l1875, na_l10000, ↓reduceIte, pf_and, pe_le, pf_le, pe_lt, pf_lt, pe_eq, pf_eq, true_and, and_true, false_and, and_false, true_or, or_true, false_or, or_false, nb_sub, nb_mul, nb_32, nb_div, nb_le0, nb_le1, nb_eq, nb_l100000, nb_neg, nb_wide, nb_lt, nb_gt, nb_l0, nb_l1, nb_l3, nb_l4, nb_l5, nb_l7, nb_l9, nb_l10, nb_l30, nb_l60, nb_l255, I_51, c137, c52]
      · by_cases q3 : a < 1000000000000000 <;> simp (disch := omega) only [Int.reduceAdd, Int.reduceMul, Int.reduceSub, Int.reduceNeg, na_add, na_sub, na_mul, na_neg, na_lt, na_le, na_eq, na_ofNat, bo_some, tl_some, tl_none, rc_int, rc_ref, rc_null, rc_none, rc_long, tb_0, tb_1, ↓mr_g0, mr_r0, mr_get, mr_upd, mr_at, mr_wr, Classical.not_not, not_true_eq_false, not_false_eq_true, na_l0, na_l1, na_l2, na_l3, na_l4, na_l5, na_l6, na_l7, na_l8, na_l9, na_l10, na_l14, na_l15, na_l16, na_l25, na_l30, na_l31, na_l32, na_l33, na_l39, na_l43, na_l45, na_l48, na_l49, na_l50, na_l51, na_l52, na_l53, na_l55, na_l56, na_l57, na_l60, na_l64, na_l71, na_l80, na_l96, na_l100, na_l101, na_l102, na_l103, na_l104, na_l105, na_l106, na_l107, na_l108, na_l109, na_l110, na_l111, na_l112, na_l113, na_l114, na_l115, na_l116, na_l117, na_l118, na_l119, na_l120, na_l121, na_l125, na_l128, na_l150, na_l192, na_l255, na_l999, na_l1000, na_l1248, na_l1344, na_l1875, na_l10000, ↓reduceIte, pf_and, pe_le, pf_le, pe_lt, pf_lt, pe_eq, pf_eq, true_and, and_true, false_and, and_false, true_or, or_true, false_or, or_false, nb_sub, nb_mul, nb_32, nb_div, nb_le0, nb_le1, nb_eq, nb_l100000, nb_neg, nb_wide, nb_lt, nb_gt, nb_l0, nb_l1, nb_l3, nb_l4, nb_l5, nb_l7, nb_l9, nb_l10, nb_l30, nb_l60, nb_l255, I_51, c137, c52]
    · simp (disch := omega) only [Int.reduceAdd, Int.reduceMul, Int.reduceSub, Int.reduceNeg, na_add, na_sub, na_mul, na_neg, na_lt, na_le, na_eq, na_ofNat, bo_some, tl_some, tl_none, rc_int, rc_ref, rc_null, rc_none, rc_long, tb_0, tb_1, ↓mr_g0, mr_r0, mr_get, mr_upd, mr_at, mr_wr, Classical.not_not, not_true_eq_false, not_false_eq_true, na_l0, na_l1, na_l2, na_l3, na_l4, na_l5, na_l6, na_l7, na_l8, na_l9, na_l10, na_l14, na_l15, na_l16, na_l25, na_l30, na_l31, na_l32, na_l33, na_l39, na_l43, na_l45, na_l48, na_l49, na_l50, na_l51, na_l52, na_l53, na_l55, na_l56, na_l57, na_l60, na_l64, na_l71, na_l80, na_l96, na_l100, na_l101, na_l102, na_l103, na_l104, na_l105, na_l106, na_l107, na_l108, na_l109, na_l110, na_l111, na_l112, na_l113, na_l114, na_l115, na_l116, na_l117, na_l118, na_l119, na_l120, na_l121, na_l125, na_l128, na_l150, na_l192, na_l255, na_l999, na_l1000, na_l1248, na_l1344, na_l1875, na_l10000, ↓reduceIte, pf_and, pe_le, pf_le, pe_lt, pf_lt, pe_eq, pf_eq, true_and, and_true, false_and, and_false, true_or, or_true, false_or, or_false, nb_sub, nb_mul, nb_32, nb_div, nb_le0, nb_le1, nb_eq, nb_l100000, nb_neg, nb_wide, nb_lt, nb_gt, nb_l0, nb_l1, nb_l3, nb_l4, nb_l5, nb_l7, nb_l9, nb_l10, nb_l30, nb_l60, nb_l255, I_51, c137]
  · simp (disch := omega) only [Int.reduceAdd, Int.reduceMul, Int.reduceSub, Int.reduceNeg, na_add, na_sub, na_mul, na_neg, na_lt, na_le, na_eq, na_ofNat, bo_some, tl_some, tl_none, rc_int, rc_ref, rc_null, rc_none, rc_long, tb_0, tb_1, ↓mr_g0, mr_r0, mr_get, mr_upd, mr_at, mr_wr, Classical.not_not, not_true_eq_false, not_false_eq_true, na_l0, na_l1, na_l2, na_l3, na_l4, na_l5, na_l6, na_l7, na_l8, na_l9, na_l10, na_l14, na_l15, na_l16, na_l25, na_l30, na_l31, na_l32, na_l33, na_l39, na_l43, na_l45, na_l48, na_l49, na_l50, na_l51, na_l52, na_l53, na_l55, na_l56, na_l57, na_l60, na_l64, na_l71, na_l80, na_l96, na_l100, na_l101, na_l102, na_l103, na_l104, na_l105, na_l106, na_l107, na_l108, na_l109, na_l110, na_l111, na_l112, na_l113, na_l114, na_l115, na_l116, na_l117, na_l118, na_l119, na_l120, na_l121, na_l125, na_l128, na_l150, na_l192, na_l255, na_l999, na_l1000, na_l1248, na_l1344, na_l1875, na_l10000, ↓reduceIte, pf_and, pe_le, pf_le, pe_lt, pf_lt, pe_eq, pf_eq, true_and, and_true, false_and, and_false, true_or, or_true, false_or, or_false, nb_sub, nb_mul, nb_32, nb_div, nb_le0, nb_le1, nb_eq, nb_l100000, nb_neg, nb_wide, nb_lt, nb_gt, nb_l0, nb_l1, nb_l3, nb_l4, nb_l5, nb_l7, nb_l9, nb_l10, nb_l30, nb_l60, nb_l255, I_51, c137]
theorem h53 {n i a D : Int} {l5 l6 : Option Value} (hi : mi K R) (hk : K + 20 ≤ 1000000) (h1 : 0 ≤ i) (h2 : i < n) (h3 : n ≤ 3) (h4 : 0 ≤ a) (h5 : a < 1000000000000000) (hD : 0 < D ∧ D < 1000000000000000) (hc : ∀ s, cal 52 [.int (Int32.ofInt (n - 1 - i))] s = some (some (.long (Int64.ofInt D)), s)) : ev 53 (3, [some (.ref B), some (.int (Int32.ofInt n)), some (.long (Int64.ofInt a)), none, some (.int (Int32.ofInt i)), l5, l6], []) (mp B R Z σ) = if mf_c R (a / D % 100000) = 0 then some (some (.int (Int32.ofInt i)), mp B (mg_c R (a / D % 100000)) Z σ) else ev 53 (3, [some (.ref B), some (.int (Int32.ofInt n)), some (.long (Int64.ofInt a)), none, some (.int (Int32.ofInt (i + 1))), some (.long (Int64.ofInt D)), none], []) (mp B (mg_c R (a / D % 100000)) Z σ) := by
  have hq : 0 ≤ a / D := Int.ediv_nonneg h4 (by omega)
  have hq2 : a / D ≤ a := Int.ediv_le_self _ h4
  have hg : 0 ≤ a / D % 100000 ∧ a / D % 100000 < 100000 := by omega
  have e := c54g (B := B) (Z := Z) (σ := σ) hi hk hg
  have hor := mf_c_or R (a / D % 100000)
  rw [H_53_3]
  generalize hG : a / D % 100000 = g at *
  rcases hor with q | q
  · rw [q] at e
    simp (disch := omega) only [Int.reduceAdd, Int.reduceMul, Int.reduceSub, Int.reduceNeg, na_add, na_sub, na_mul, na_neg, na_lt, na_le, na_eq, na_ofNat, bo_some, tl_some, tl_none, rc_int, rc_ref, rc_null, rc_none, rc_long, tb_0, tb_1, ↓mr_g0, mr_r0, mr_get, mr_upd, mr_at, mr_wr, Classical.not_not, not_true_eq_false, not_false_eq_true, na_l0, na_l1, na_l2, na_l3, na_l4, na_l5, na_l6, na_l7, na_l8, na_l9, na_l10, na_l14, na_l15, na_l16, na_l25, na_l30, na_l31, na_l32, na_l33, na_l39, na_l43, na_l45, na_l48, na_l49, na_l50, na_l51, na_l52, na_l53, na_l55, na_l56, na_l57, na_l60, na_l64, na_l71, na_l80, na_l96, na_l100, na_l101, na_l102, na_l103, na_l104, na_l105, na_l106, na_l107, na_l108, na_l109, na_l110, na_l111, na_l112, na_l113, na_l114, na_l115, na_l116, na_l117, na_l118, na_l119, na_l120, na_l121, na_l125, na_l128, na_l150, na_l192, na_l255, na_l999, na_l1000, na_l1248, na_l1344, na_l1875, na_l10000, ↓reduceIte, pf_and, pe_le, pf_le, pe_lt, pf_lt, pe_eq, pf_eq, true_and, and_true, false_and, and_false, true_or, or_true, false_or, or_false, nb_sub, nb_mul, nb_32, nb_div, nb_le0, nb_le1, nb_eq, nb_l100000, nb_neg, nb_wide, nb_lt, nb_gt, nb_l0, nb_l1, nb_l3, nb_l4, nb_l5, nb_l7, nb_l9, nb_l10, nb_l30, nb_l60, nb_l255, I_53, hc, na_rem, hG, e, q]
  · rw [q] at e
    simp (disch := omega) only [Int.reduceAdd, Int.reduceMul, Int.reduceSub, Int.reduceNeg, na_add, na_sub, na_mul, na_neg, na_lt, na_le, na_eq, na_ofNat, bo_some, tl_some, tl_none, rc_int, rc_ref, rc_null, rc_none, rc_long, tb_0, tb_1, ↓mr_g0, mr_r0, mr_get, mr_upd, mr_at, mr_wr, Classical.not_not, not_true_eq_false, not_false_eq_true, na_l0, na_l1, na_l2, na_l3, na_l4, na_l5, na_l6, na_l7, na_l8, na_l9, na_l10, na_l14, na_l15, na_l16, na_l25, na_l30, na_l31, na_l32, na_l33, na_l39, na_l43, na_l45, na_l48, na_l49, na_l50, na_l51, na_l52, na_l53, na_l55, na_l56, na_l57, na_l60, na_l64, na_l71, na_l80, na_l96, na_l100, na_l101, na_l102, na_l103, na_l104, na_l105, na_l106, na_l107, na_l108, na_l109, na_l110, na_l111, na_l112, na_l113, na_l114, na_l115, na_l116, na_l117, na_l118, na_l119, na_l120, na_l121, na_l125, na_l128, na_l150, na_l192, na_l255, na_l999, na_l1000, na_l1248, na_l1344, na_l1875, na_l10000, ↓reduceIte, pf_and, pe_le, pf_le, pe_lt, pf_lt, pe_eq, pf_eq, true_and, and_true, false_and, and_false, true_or, or_true, false_or, or_false, nb_sub, nb_mul, nb_32, nb_div, nb_le0, nb_le1, nb_eq, nb_l100000, nb_neg, nb_wide, nb_lt, nb_gt, nb_l0, nb_l1, nb_l3, nb_l4, nb_l5, nb_l7, nb_l9, nb_l10, nb_l30, nb_l60, nb_l255, I_53, hc, na_rem, hG, e, q]
theorem h53e {n a : Int} {l5 l6 : Option Value} (h2 : 0 ≤ n) (h3 : n ≤ 3) : ev 53 (3, [some (.ref B), some (.int (Int32.ofInt n)), some (.long (Int64.ofInt a)), none, some (.int (Int32.ofInt n)), l5, l6], []) σ = some (some (.int (Int32.ofInt (-1))), σ) := by
  rw [H_53_3]
  simp (disch := omega) only [Int.reduceAdd, Int.reduceMul, Int.reduceSub, Int.reduceNeg, na_add, na_sub, na_mul, na_neg, na_lt, na_le, na_eq, na_ofNat, bo_some, tl_some, tl_none, rc_int, rc_ref, rc_null, rc_none, rc_long, tb_0, tb_1, ↓mr_g0, mr_r0, mr_get, mr_upd, mr_at, mr_wr, Classical.not_not, not_true_eq_false, not_false_eq_true, na_l0, na_l1, na_l2, na_l3, na_l4, na_l5, na_l6, na_l7, na_l8, na_l9, na_l10, na_l14, na_l15, na_l16, na_l25, na_l30, na_l31, na_l32, na_l33, na_l39, na_l43, na_l45, na_l48, na_l49, na_l50, na_l51, na_l52, na_l53, na_l55, na_l56, na_l57, na_l60, na_l64, na_l71, na_l80, na_l96, na_l100, na_l101, na_l102, na_l103, na_l104, na_l105, na_l106, na_l107, na_l108, na_l109, na_l110, na_l111, na_l112, na_l113, na_l114, na_l115, na_l116, na_l117, na_l118, na_l119, na_l120, na_l121, na_l125, na_l128, na_l150, na_l192, na_l255, na_l999, na_l1000, na_l1248, na_l1344, na_l1875, na_l10000, ↓reduceIte, pf_and, pe_le, pf_le, pe_lt, pf_lt, pe_eq, pf_eq, true_and, and_true, false_and, and_false, true_or, or_true, false_or, or_false, I_53]
theorem c53 {n a : Int} (hi : mi K R) (hk : K + 60 ≤ 1000000) (h1 : 1 ≤ n ∧ n ≤ 3) (h4 : 0 ≤ a) (h5 : a < 1000000000000000) : cal 53 [.ref B, .int (Int32.ofInt n), .long (Int64.ofInt a)] (mp B R Z σ) = some (some (.int (Int32.ofInt (mf_rs R (mf_gs n a) 0))), mp B (mg_rs R (mf_gs n a)) Z σ) := by
  rw [E_53]
  have st : ∀ X, ev 53 (0, [some (.ref B), some (.int (Int32.ofInt n)), some (.long (Int64.ofInt a)), none, none, none, none], []) (mp B R Z σ) = X ↔ ev 53 (3, [some (.ref B), some (.int (Int32.ofInt n)), some (.long (Int64.ofInt a)), none, some (.int (Int32.ofInt 0)), none, none], []) (mp B R Z σ) = X := fun X => by
    simp (disch := omega) only [Int.reduceAdd, Int.reduceMul, Int.reduceSub, Int.reduceNeg, na_add, na_sub, na_mul, na_neg, na_lt, na_le, na_eq, na_ofNat, bo_some, tl_some, tl_none, rc_int, rc_ref, rc_null, rc_none, rc_long, tb_0, tb_1, ↓mr_g0, mr_r0, mr_get, mr_upd, mr_at, mr_wr, Classical.not_not, not_true_eq_false, not_false_eq_true, na_l0, na_l1, na_l2, na_l3, na_l4, na_l5, na_l6, na_l7, na_l8, na_l9, na_l10, na_l14, na_l15, na_l16, na_l25, na_l30, na_l31, na_l32, na_l33, na_l39, na_l43, na_l45, na_l48, na_l49, na_l50, na_l51, na_l52, na_l53, na_l55, na_l56, na_l57, na_l60, na_l64, na_l71, na_l80, na_l96, na_l100, na_l101, na_l102, na_l103, na_l104, na_l105, na_l106, na_l107, na_l108, na_l109, na_l110, na_l111, na_l112, na_l113, na_l114, na_l115, na_l116, na_l117, na_l118, na_l119, na_l120, na_l121, na_l125, na_l128, na_l150, na_l192, na_l255, na_l999, na_l1000, na_l1248, na_l1344, na_l1875, na_l10000, ↓reduceIte, pf_and, pe_le, pf_le, pe_lt, pf_lt, pe_eq, pf_eq, true_and, and_true, false_and, and_false, true_or, or_true, false_or, or_false, I_53]
  rw [st]
  have e : n = 1 ∨ n = 2 ∨ n = 3 := by omega
  unfold mf_gs
  rcases e with e | e | e <;> subst e
  · rw [if_pos rfl, h53 hi (by omega) (by omega) (by omega) (by omega) h4 h5 (D := 1) (by omega) (fun s => c52.1)]
    simp only [mf_rs, mg_rs]
    split
    · rfl
    · exact h53e (by omega) (by omega)
  · rw [if_neg (by omega), if_pos rfl, h53 hi (by omega) (by omega) (by omega) (by omega) h4 h5 (D := 100000) (by omega) (fun s => c52.2.1)]
    simp only [mf_rs, mg_rs]
    split
    · rfl
    · rw [h53 (mi_c hi (by omega) _) (by omega) (by omega) (by omega) (by omega) h4 h5 (D := 1) (by omega) (fun s => c52.1)]
      split
      · rfl
      · exact h53e (by omega) (by omega)
  · rw [if_neg (by omega), if_neg (by omega), h53 hi (by omega) (by omega) (by omega) (by omega) h4 h5 (D := 10000000000) (by omega) (fun s => c52.2.2.1)]
    simp only [mf_rs, mg_rs]
    split
    · rfl
    · rw [h53 (mi_c hi (by omega) _) (by omega) (by omega) (by omega) (by omega) h4 h5 (D := 100000) (by omega) (fun s => c52.2.1)]
      split
      · rfl
      · rw [h53 (mi_c (mi_c hi (by omega) _) (by omega) _) (by omega) (by omega) (by omega) (by omega) h4 h5 (D := 1) (by omega) (fun s => c52.1)]
        split
        · rfl
        · exact h53e (by omega) (by omega)
end CP
section CSB
variable {C : Nat} {V : mr_R} {PR PZ X : Nat → mr_R} {σ : ri_S} {K : Int}
theorem c131 {n a : Int} (hi : mi K (PR 0)) (hk : K + 60 ≤ 1000000) (hP : cs_P PR) (h1 : 1 ≤ n ∧ n ≤ 3) (h4 : 0 ≤ a) (h5 : a < mf_all n) : cal 131 [.ref C, .int (Int32.ofInt n), .long (Int64.ofInt a)] (cs C V PR PZ X σ) = some (some (.int (Int32.ofInt (mf_rs (PR 0) (mf_gs n a) 0))), cs C V (ms_a PR 1 (mg_rs (PR 0) (mf_gs n a))) (ms_a PZ 1 (PZ 0)) X σ) := by
  have ha : a < 1000000000000000 := by
    unfold mf_all at h5
    repeat' split at h5
    all_goals omega
  have e1 := c51 (σ := cs C V PR PZ X σ) (n := n) (a := a) (by omega) (by omega) (by omega) (by omega)
  rw [if_pos ⟨h1, h4, h5⟩] at e1
  have e2 := c22s (C := C) (V := V) (PR := PR) (PZ := PZ) (X := X) (σ := σ) hP (i := 1) (j := 0) (by omega) (by omega) (by omega)
  rw [cs_b0, cs_b1] at e2
  have e3 := c53 (B := C + 20) (R := PR 0) (Z := PZ 0) (σ := cs C V (ms_a PR 1 (PR 0)) (ms_a PZ 1 (PZ 0)) X σ) (n := n) (a := a) hi hk h1 h4 ha
  have z0 := cm_1 (C := C) (V := V) (PR := ms_a PR 1 (PR 0)) (PZ := ms_a PZ 1 (PZ 0)) (X := X) (σ := σ)
  have z1 := cw_1 (C := C) (V := V) (PR := ms_a PR 1 (PR 0)) (PZ := ms_a PZ 1 (PZ 0)) (X := X) (σ := σ) (R := mg_rs (PR 0) (mf_gs n a))
  rw [sa_eq rfl, sa_eq rfl] at z0
  rw [sa_eq rfl, sa_up] at z1
  rw [z0, z1] at e3
  rw [E_131]
  simp (disch := omega) only [Int.reduceAdd, Int.reduceMul, Int.reduceSub, Int.reduceNeg, na_add, na_sub, na_mul, na_neg, na_lt, na_le, na_eq, na_ofNat, bo_some, tl_some, tl_none, rc_int, rc_ref, rc_null, rc_none, rc_long, tb_0, tb_1, ↓mr_g0, mr_r0, mr_get, mr_upd, mr_at, mr_wr, Classical.not_not, not_true_eq_false, not_false_eq_true, na_l0, na_l1, na_l2, na_l3, na_l4, na_l5, na_l6, na_l7, na_l8, na_l9, na_l10, na_l14, na_l15, na_l16, na_l25, na_l30, na_l31, na_l32, na_l33, na_l39, na_l43, na_l45, na_l48, na_l49, na_l50, na_l51, na_l52, na_l53, na_l55, na_l56, na_l57, na_l60, na_l64, na_l71, na_l80, na_l96, na_l100, na_l101, na_l102, na_l103, na_l104, na_l105, na_l106, na_l107, na_l108, na_l109, na_l110, na_l111, na_l112, na_l113, na_l114, na_l115, na_l116, na_l117, na_l118, na_l119, na_l120, na_l121, na_l125, na_l128, na_l150, na_l192, na_l255, na_l999, na_l1000, na_l1248, na_l1344, na_l1875, na_l10000, ↓reduceIte, pf_and, pe_le, pf_le, pe_lt, pf_lt, pe_eq, pf_eq, true_and, and_true, false_and, and_false, true_or, or_true, false_or, or_false, ↓csk_0, ↓cso_0_0, ↓cso_0_1, ↓cso_0_2, ↓cso_0_3, ↓cso_0_4, ↓cso_0_5, ↓csk_1, ↓cso_1_0, ↓cso_1_1, ↓csk_37, ↓cso_37_0, ↓cso_37_1, ↓cso_37_2, ↓csk_277, ↓cso_277_0, ↓cso_277_1, ↓csk_314, ↓cso_314_0, ↓cso_314_1, ↓cso_314_2, ↓cso_314_3, ↓cso_314_4, ↓cso_314_5, ↓cso_314_6, ↓cso_314_7, ↓cso_314_8, ↓cso_314_9, ↓csg_2, ↓csn_2, ↓csg_279, ↓csn_279, ↓csg_315, ↓csn_315, ↓csg_316, ↓csn_316, ↓csg_317, ↓csn_317, ↓csg_318, ↓csn_318, ↓csg_319, ↓csn_319, ↓csg_320, ↓csn_320, ↓csg_321, ↓csn_321, ↓csg_322, ↓csn_322, ↓csg_323, ↓csn_323, ↓csq_38, ↓csm_38, ↓csq_278, ↓csm_278, ↓cpk0_0, ↓cpk0_1, ↓cpk0_8, ↓cpk0_11, ↓cpo0_0, ↓cpo0_1, ↓cpo0_2, ↓cpo0_3, ↓cpo0_4, ↓cpo0_5, ↓cpo0_6, ↓cpo0_7, ↓cpo0_8, ↓cpk1_0, ↓cpk1_1, ↓cpk1_8, ↓cpk1_11, ↓cpo1_0, ↓cpo1_1, ↓cpo1_2, ↓cpo1_3, ↓cpo1_4, ↓cpo1_5, ↓cpo1_6, ↓cpo1_7, ↓cpo1_8, I_131, c135, e1, cskb1, e2, e3]
end CSB
