/-! The model's search: the standing. -/
def sm_t (R : mr_R) (w : Int) : Int := if w < R 0 then R (9 + 10 * w + 3) else 0
def sm_T (R : mr_R) : Int := 5 * (5 * (5 * 0 + sm_t R 0) + sm_t R 1) + sm_t R 2
def sm_n (R : mr_R) (f : Int) : Int := 15 * sm_T R + 5 * R (71 + 5 * f + 1) + R (71 + 5 * f + 2)
theorem sm_t_bd {K : Int} {R : mr_R} (hi : mi K R) {w : Int} (h1 : 0 ≤ w) (h2 : w < 3) : 0 ≤ sm_t R w ∧ sm_t R w < 5 := by
  have hc := hi.c
  unfold sm_t
  split
  · have hw := hi.w h1 (by assumption)
    omega
  · omega
section MMB
variable {M : Nat} {S : mr_R} {A : Nat → mr_R} {σ : ri_S} {K : Int}
theorem h214 {f s w : Int} (hi : mi K (A 3)) (h1 : 0 ≤ w) (h2 : w < 3) (h3 : 0 ≤ s) (h4 : s < 1000) : ev 214 (4, [some (.ref M), some (.int (Int32.ofInt f)), some (.int (Int32.ofInt s)), some (.int (Int32.ofInt w))], []) (mm M S A σ) = ev 214 (4, [some (.ref M), some (.int (Int32.ofInt f)), some (.int (Int32.ofInt (5 * s + sm_t (A 3) w))), some (.int (Int32.ofInt (w + 1)))], []) (mm M S A σ) := by
  have hc := hi.c
  unfold sm_t
  rw [H_214_4]
  by_cases q : w < A 3 0
  · have e := c149 (a := M + 3) (R := A 3) (σ := mm M S A σ) (w := w) (k := 3) (by omega) (by omega) (by omega) (by omega)
    rw [mms_3] at e
    rw [if_pos q]
    simp (disch := omega) only [Int.reduceAdd, Int.reduceMul, Int.reduceSub, Int.reduceNeg, na_add, na_sub, na_mul, na_neg, na_lt, na_le, na_eq, na_ofNat, bo_some, tl_some, tl_none, rc_int, rc_ref, rc_null, rc_none, rc_long, tb_0, tb_1, ↓mr_g0, mr_r0, mr_get, mr_upd, mr_at, mr_wr, Classical.not_not, not_true_eq_false, not_false_eq_true, na_l0, na_l1, na_l2, na_l3, na_l4, na_l5, na_l6, na_l7, na_l8, na_l9, na_l10, na_l14, na_l15, na_l16, na_l25, na_l30, na_l31, na_l32, na_l33, na_l39, na_l43, na_l45, na_l48, na_l49, na_l50, na_l51, na_l52, na_l53, na_l55, na_l56, na_l57, na_l60, na_l64, na_l71, na_l80, na_l96, na_l100, na_l101, na_l102, na_l103, na_l104, na_l105, na_l106, na_l107, na_l108, na_l109, na_l110, na_l111, na_l112, na_l113, na_l114, na_l115, na_l116, na_l117, na_l118, na_l119, na_l120, na_l121, na_l125, na_l128, na_l150, na_l192, na_l255, na_l999, na_l1000, na_l1248, na_l1344, na_l1875, na_l10000, ↓reduceIte, pf_and, pe_le, pf_le, pe_lt, pf_lt, pe_eq, pf_eq, true_and, and_true, false_and, and_false, true_or, or_true, false_or, or_false, ↓mmk, ↓mmo_0, ↓mmo_1, ↓mmo_2, ↓mmo_3, ↓mmo_4, ↓mmo_5, ↓mmo_6, ↓mmo_7, ↓mmo_8, ↓mmo_9, ↓mmo_10, ↓mmo_11, ↓mmo_12, ↓mmv_0, ↓mmv_2, ↓mmv_6, ↓mmv_11, ↓mmv_12, ↓mmg_1, ↓mmg_2, ↓mmg_3, ↓mmg_4, ↓mmg_5, ↓mmg_6, ↓mmg_7, ↓mmg_8, mma_1, mma_2, mma_3, mma_4, mma_5, mma_6, mma_7, mma_8, mmu_0, mmu_2, mmu_6, mmu_11, mmu_12, sa_eq, sa_ne, sa_up, I_214_0, I_214_1, e, q]
  · rw [if_neg q]
    simp (disch := omega) only [Int.reduceAdd, Int.reduceMul, Int.reduceSub, Int.reduceNeg, na_add, na_sub, na_mul, na_neg, na_lt, na_le, na_eq, na_ofNat, bo_some, tl_some, tl_none, rc_int, rc_ref, rc_null, rc_none, rc_long, tb_0, tb_1, ↓mr_g0, mr_r0, mr_get, mr_upd, mr_at, mr_wr, Classical.not_not, not_true_eq_false, not_false_eq_true, na_l0, na_l1, na_l2, na_l3, na_l4, na_l5, na_l6, na_l7, na_l8, na_l9, na_l10, na_l14, na_l15, na_l16, na_l25, na_l30, na_l31, na_l32, na_l33, na_l39, na_l43, na_l45, na_l48, na_l49, na_l50, na_l51, na_l52, na_l53, na_l55, na_l56, na_l57, na_l60, na_l64, na_l71, na_l80, na_l96, na_l100, na_l101, na_l102, na_l103, na_l104, na_l105, na_l106, na_l107, na_l108, na_l109, na_l110, na_l111, na_l112, na_l113, na_l114, na_l115, na_l116, na_l117, na_l118, na_l119, na_l120, na_l121, na_l125, na_l128, na_l150, na_l192, na_l255, na_l999, na_l1000, na_l1248, na_l1344, na_l1875, na_l10000, ↓reduceIte, pf_and, pe_le, pf_le, pe_lt, pf_lt, pe_eq, pf_eq, true_and, and_true, false_and, and_false, true_or, or_true, false_or, or_false, ↓mmk, ↓mmo_0, ↓mmo_1, ↓mmo_2, ↓mmo_3, ↓mmo_4, ↓mmo_5, ↓mmo_6, ↓mmo_7, ↓mmo_8, ↓mmo_9, ↓mmo_10, ↓mmo_11, ↓mmo_12, ↓mmv_0, ↓mmv_2, ↓mmv_6, ↓mmv_11, ↓mmv_12, ↓mmg_1, ↓mmg_2, ↓mmg_3, ↓mmg_4, ↓mmg_5, ↓mmg_6, ↓mmg_7, ↓mmg_8, mma_1, mma_2, mma_3, mma_4, mma_5, mma_6, mma_7, mma_8, mmu_0, mmu_2, mmu_6, mmu_11, mmu_12, sa_eq, sa_ne, sa_up, I_214_0, I_214_1, q]
theorem c214 {f : Int} (hi : mi K (A 3)) (h1 : 0 ≤ f) (h2 : f < A 3 2) : cal 214 [.ref M, .int (Int32.ofInt f)] (mm M S A σ) = some (some (.int (Int32.ofInt (sm_n (A 3) f))), mm M S A σ) := by
  have hc := hi.c
  have hf := hi.f h1 h2
  have b0 := sm_t_bd hi (w := 0) (by omega) (by omega)
  have b1 := sm_t_bd hi (w := 1) (by omega) (by omega)
  have b2 := sm_t_bd hi (w := 2) (by omega) (by omega)
  have e0 := h214 (M := M) (S := S) (σ := σ) (f := f) (s := 0) (w := 0) hi (by omega) (by omega) (by omega) (by omega)
  have e1 := h214 (M := M) (S := S) (σ := σ) (f := f) (s := 5 * 0 + sm_t (A 3) 0) (w := 1) hi (by omega) (by omega) (by omega) (by omega)
  have e2 := h214 (M := M) (S := S) (σ := σ) (f := f) (s := 5 * (5 * 0 + sm_t (A 3) 0) + sm_t (A 3) 1) (w := 2) hi (by omega) (by omega) (by omega) (by omega)
  have g1 := c150 (a := M + 3) (R := A 3) (σ := mm M S A σ) (f := f) (k := 1) (by omega) (by omega) (by omega) (by omega)
  have g2 := c150 (a := M + 3) (R := A 3) (σ := mm M S A σ) (f := f) (k := 2) (by omega) (by omega) (by omega) (by omega)
  rw [mms_3] at g1 g2
  rw [show (0 : Int) + 1 = 1 from rfl] at e0
  rw [show (1 : Int) + 1 = 2 from rfl] at e1
  have hd := e0.trans (e1.trans e2)
  have hs : sm_n (A 3) f = 15 * (5 * (5 * (5 * 0 + sm_t (A 3) 0) + sm_t (A 3) 1) + sm_t (A 3) 2) + 5 * A 3 (71 + 5 * f + 1) + A 3 (71 + 5 * f + 2) := rfl
  rw [hs]
  generalize sm_t (A 3) 0 = t0 at *
  generalize sm_t (A 3) 1 = t1 at *
  generalize sm_t (A 3) 2 = t2 at *
  rw [E_214]
  have st : ev 214 (0, [some (.ref M), some (.int (Int32.ofInt f)), none, none], []) (mm M S A σ) = ev 214 (4, [some (.ref M), some (.int (Int32.ofInt f)), some (.int (Int32.ofInt 0)), some (.int (Int32.ofInt 0))], []) (mm M S A σ) := by
    simp (disch := omega) only [Int.reduceAdd, Int.reduceMul, Int.reduceSub, Int.reduceNeg, na_add, na_sub, na_mul, na_neg, na_lt, na_le, na_eq, na_ofNat, bo_some, tl_some, tl_none, rc_int, rc_ref, rc_null, rc_none, rc_long, tb_0, tb_1, ↓mr_g0, mr_r0, mr_get, mr_upd, mr_at, mr_wr, Classical.not_not, not_true_eq_false, not_false_eq_true, na_l0, na_l1, na_l2, na_l3, na_l4, na_l5, na_l6, na_l7, na_l8, na_l9, na_l10, na_l14, na_l15, na_l16, na_l25, na_l30, na_l31, na_l32, na_l33, na_l39, na_l43, na_l45, na_l48, na_l49, na_l50, na_l51, na_l52, na_l53, na_l55, na_l56, na_l57, na_l60, na_l64, na_l71, na_l80, na_l96, na_l100, na_l101, na_l102, na_l103, na_l104, na_l105, na_l106, na_l107, na_l108, na_l109, na_l110, na_l111, na_l112, na_l113, na_l114, na_l115, na_l116, na_l117, na_l118, na_l119, na_l120, na_l121, na_l125, na_l128, na_l150, na_l192, na_l255, na_l999, na_l1000, na_l1248, na_l1344, na_l1875, na_l10000, ↓reduceIte, pf_and, pe_le, pf_le, pe_lt, pf_lt, pe_eq, pf_eq, true_and, and_true, false_and, and_false, true_or, or_true, false_or, or_false, I_214_0, I_214_1]
  rw [st, hd, H_214_4]
  simp (disch := omega) only [Int.reduceAdd, Int.reduceMul, Int.reduceSub, Int.reduceNeg, na_add, na_sub, na_mul, na_neg, na_lt, na_le, na_eq, na_ofNat, bo_some, tl_some, tl_none, rc_int, rc_ref, rc_null, rc_none, rc_long, tb_0, tb_1, ↓mr_g0, mr_r0, mr_get, mr_upd, mr_at, mr_wr, Classical.not_not, not_true_eq_false, not_false_eq_true, na_l0, na_l1, na_l2, na_l3, na_l4, na_l5, na_l6, na_l7, na_l8, na_l9, na_l10, na_l14, na_l15, na_l16, na_l25, na_l30, na_l31, na_l32, na_l33, na_l39, na_l43, na_l45, na_l48, na_l49, na_l50, na_l51, na_l52, na_l53, na_l55, na_l56, na_l57, na_l60, na_l64, na_l71, na_l80, na_l96, na_l100, na_l101, na_l102, na_l103, na_l104, na_l105, na_l106, na_l107, na_l108, na_l109, na_l110, na_l111, na_l112, na_l113, na_l114, na_l115, na_l116, na_l117, na_l118, na_l119, na_l120, na_l121, na_l125, na_l128, na_l150, na_l192, na_l255, na_l999, na_l1000, na_l1248, na_l1344, na_l1875, na_l10000, ↓reduceIte, pf_and, pe_le, pf_le, pe_lt, pf_lt, pe_eq, pf_eq, true_and, and_true, false_and, and_false, true_or, or_true, false_or, or_false, ↓mmk, ↓mmo_0, ↓mmo_1, ↓mmo_2, ↓mmo_3, ↓mmo_4, ↓mmo_5, ↓mmo_6, ↓mmo_7, ↓mmo_8, ↓mmo_9, ↓mmo_10, ↓mmo_11, ↓mmo_12, ↓mmv_0, ↓mmv_2, ↓mmv_6, ↓mmv_11, ↓mmv_12, ↓mmg_1, ↓mmg_2, ↓mmg_3, ↓mmg_4, ↓mmg_5, ↓mmg_6, ↓mmg_7, ↓mmg_8, mma_1, mma_2, mma_3, mma_4, mma_5, mma_6, mma_7, mma_8, mmu_0, mmu_2, mmu_6, mmu_11, mmu_12, sa_eq, sa_ne, sa_up, I_214_0, I_214_1, g1, g2]
end MMB
