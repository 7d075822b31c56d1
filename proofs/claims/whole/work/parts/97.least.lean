/-! The model's least. -/
theorem bf_first2 {N : Int} {nx : Int → Int → Int} {nw : Int → Int} {s0 kk k : Int} {z : bf_Z} {P : Int → Prop} (hG : ∀ n v k, bf_D nx nw s0 n v → 0 ≤ k → k < nw v → nx v k ≠ -1 → 0 ≤ nx v k ∧ nx v k < N) (h00 : 0 ≤ s0 ∧ s0 < N) (h : bf_J N nx nw s0 z.2.2 kk z) (k0 : 0 ≤ k) (hk : k < z.2.2) (hP : P (z.2.1 k)) (hn : ∀ j, 0 ≤ j → j < k → ¬ P (z.2.1 j)) : bf_L nx nw s0 P (z.1 (z.2.1 k)) := by
  have hh := h
  obtain ⟨h0, h2, h3, h4, h5, h6, h7, h8, h9⟩ := h
  have ri := h3 k k0 hk
  refine Or.inr ⟨ri.2.2.1, ⟨_, ri.2.2.2.2, hP⟩, ?_⟩
  intro n s hs hp
  obtain ⟨j, j1, j2, j3, j4⟩ := bf_near hG h00 hh n s hs (Or.inl rfl)
  have hkj : k ≤ j := by
    refine Int.not_lt.mp fun b => hn j j1 b (by rw [j3]; exact hp)
  have := h6 k j k0 hkj j2
  rw [j3] at this
  omega
section MMB
variable {M : Nat} {S : mr_R} {σ : ri_S} {K K2 : Int}
/-- the state but for the trial -/
def wt (A A2 : Nat → mr_R) : Prop := ∀ j, j ≠ 3 → A2 j = A j
theorem h218 {R : mr_R} {f s0 w p : Int} {z : bf_Z} (hR : mi K2 R) (hk2 : K2 + 20 ≤ 1000000) (h8 : R 8 = 0) (h1 : 0 ≤ f) (h2 : f < R 2) (hg : sm_g R f s0) (hJ : bf_J 1875 (sm_x R f) (fun _ => 10) s0 z.2.2 0 z) (hw1 : 0 ≤ w) (hw2 : w < 3) (hp1 : 0 ≤ p) (hp2 : p < 5) : ∀ (n : Nat) (k : Int) (A : Nat → mr_R), 0 ≤ k → k + n = z.2.2 → mi K (A 3) → sq R f (A 3) → A 7 = z.1 → A 8 = z.2.1 → (∀ j, 0 ≤ j → j < k → ¬ sm_mp R (z.2.1 j) = w * 5 + p) → ∃ r A2, wt A A2 ∧ mi K (A2 3) ∧ sq R f (A2 3) ∧ bf_L (sm_x R f) (fun _ => 10) s0 (fun s => sm_mp R s = w * 5 + p) r ∧ (-1 ≤ r ∧ r < 1875) ∧ ev 218 (3, [some (.ref M), some (.int (Int32.ofInt f)), some (.int (Int32.ofInt z.2.2)), some (.int (Int32.ofInt w)), some (.int (Int32.ofInt p)), some (.int (Int32.ofInt k))], []) (mm M S A σ) = some (some (.int (Int32.ofInt r)), mm M S A2 σ) := by
  have hle := bf_le hJ (by omega)
  have hG := sm_G hR hk2 h8 h1 h2 hg
  have bs := sm_g_bd hg h1 h2
  intro n
  induction n with
  | zero =>
    intro k A k1 k2 hi hq e7 e8 hno
    obtain rfl : k = z.2.2 := by omega
    refine ⟨-1, A, fun _ _ => rfl, hi, hq, bf_none hG bs hJ hno, by omega, ?_⟩
    rw [H_218_3]
    simp (disch := omega) only [Int.reduceAdd, Int.reduceMul, Int.reduceSub, Int.reduceNeg, na_add, na_sub, na_mul, na_neg, na_lt, na_le, na_eq, na_ofNat, bo_some, tl_some, tl_none, rc_int, rc_ref, rc_null, rc_none, rc_long, tb_0, tb_1, ↓mr_g0, mr_r0, mr_get, mr_upd, mr_at, mr_wr, Classical.not_not, not_true_eq_false, not_false_eq_true, na_l0, na_l1, na_l2, na_l3, na_l4, na_l5, na_l6, na_l7, na_l8, na_l9, na_l10, na_l14, na_l15, na_l16, na_l25, na_l30, na_l31, na_l32, na_l33, na_l39, na_l43, na_l45, na_l48, na_l49, na_l50, na_l51, na_l52, na_l53, na_l55, na_l56, na_l57, na_l60, na_l64, na_l71, na_l80, na_l96, na_l100, na_l101, na_l102, na_l103, na_l104, na_l105, na_l106, na_l107, na_l108, na_l109, na_l110, na_l111, na_l112, na_l113, na_l114, na_l115, na_l116, na_l117, na_l118, na_l119, na_l120, na_l121, na_l125, na_l128, na_l150, na_l192, na_l255, na_l999, na_l1000, na_l1248, na_l1344, na_l1875, na_l10000, ↓reduceIte, pf_and, pe_le, pf_le, pe_lt, pf_lt, pe_eq, pf_eq, true_and, and_true, false_and, and_false, true_or, or_true, false_or, or_false, I_218]
  | succ n ih =>
    intro k A k1 k2 hi hq e7 e8 hno
    have hb2 : R 2 ≤ 5 := by have := hi.c; rw [← hq.1.2.2.1]; omega
    have hkz : k < z.2.2 := by omega
    have hj := hJ.2.2.1 k k1 hkz
    obtain ⟨u, hu⟩ : ∃ u, z.2.1 k = u := ⟨_, rfl⟩
    rw [hu] at hj
    have hgu : sm_g R f u := sm_gD hR hk2 h8 h1 h2 hg _ _ hj.2.2.2.2
    obtain ⟨t1, t2, t3⟩ := sm_stand hi hq hgu h1 h2
    have h2t : f < (sm_st (A 3) f u) 2 := by rw [t2.1.2.2.1]; exact h2
    have r8 : A 8 k = u := by rw [e8]; exact hu
    have r7 : A 7 u = z.1 u := by rw [e7]
    have s215 := c215 (M := M) (S := S) (A := A) (σ := σ) (f := f) (s := u) h1 (by omega) hj.1 hj.2.1
    have g1 := c150 (a := M + 3) (R := sm_st (A 3) f u) (σ := mm M S (ms_a A 3 (sm_st (A 3) f u)) σ) (f := f) (k := 1) (by omega) (by omega) (by omega) (by omega)
    have g2 := c158 (a := M + 3) (R := sm_st (A 3) f u) (σ := mm M S (ms_a A 3 (sm_st (A 3) f u)) σ) (f := f) t1 h1 h2t
    rw [mmr_3, sa_up] at g1 g2
    have hd := sm_dec t1 h1 h2t t3
    have hpl := sm_plc t1 t2 h1 h2 t3
    rw [← hd.2.2.1] at g1
    have bplc : mf_place (sm_st (A 3) f u) f < 5 := by omega
    by_cases c : sm_mp R u = w * 5 + p
    · have c1 : u % 15 / 5 = w ∧ mf_place (sm_st (A 3) f u) f = p := by omega
      refine ⟨z.1 u, ms_a A 3 (sm_st (A 3) f u), fun j j1 => sa_ne j1, by rw [sa_eq rfl]; exact t1, by rw [sa_eq rfl]; exact t2, ?_, by omega, ?_⟩
      · rw [← hu]
        exact bf_first2 (P := fun s => sm_mp R s = w * 5 + p) hG bs hJ k1 hkz (by rw [hu]; exact c) hno
      · rw [c1.1] at g1
        rw [c1.2] at g2
        rw [H_218_3]
        simp (disch := first | omega | decide) only [Int.reduceAdd, Int.reduceMul, Int.reduceSub, Int.reduceNeg, na_add, na_sub, na_mul, na_neg, na_lt, na_le, na_eq, na_ofNat, bo_some, tl_some, tl_none, rc_int, rc_ref, rc_null, rc_none, rc_long, tb_0, tb_1, ↓mr_g0, mr_r0, mr_get, mr_upd, mr_at, mr_wr, Classical.not_not, not_true_eq_false, not_false_eq_true, na_l0, na_l1, na_l2, na_l3, na_l4, na_l5, na_l6, na_l7, na_l8, na_l9, na_l10, na_l14, na_l15, na_l16, na_l25, na_l30, na_l31, na_l32, na_l33, na_l39, na_l43, na_l45, na_l48, na_l49, na_l50, na_l51, na_l52, na_l53, na_l55, na_l56, na_l57, na_l60, na_l64, na_l71, na_l80, na_l96, na_l100, na_l101, na_l102, na_l103, na_l104, na_l105, na_l106, na_l107, na_l108, na_l109, na_l110, na_l111, na_l112, na_l113, na_l114, na_l115, na_l116, na_l117, na_l118, na_l119, na_l120, na_l121, na_l125, na_l128, na_l150, na_l192, na_l255, na_l999, na_l1000, na_l1248, na_l1344, na_l1875, na_l10000, ↓reduceIte, pf_and, pe_le, pf_le, pe_lt, pf_lt, pe_eq, pf_eq, true_and, and_true, false_and, and_false, true_or, or_true, false_or, or_false, ↓mmk, ↓mmo_0, ↓mmo_1, ↓mmo_2, ↓mmo_3, ↓mmo_4, ↓mmo_5, ↓mmo_6, ↓mmo_7, ↓mmo_8, ↓mmo_9, ↓mmo_10, ↓mmo_11, ↓mmo_12, ↓mmv_0, ↓mmv_2, ↓mmv_6, ↓mmv_11, ↓mmv_12, ↓mmg_1, ↓mmg_2, ↓mmg_3, ↓mmg_4, ↓mmg_5, ↓mmg_6, ↓mmg_7, ↓mmg_8, mma_1, mma_2, mma_3, mma_4, mma_5, mma_6, mma_7, mma_8, mmu_0, mmu_2, mmu_6, mmu_11, mmu_12, sa_eq, sa_ne, sa_up, I_218, r8, s215, g1, g2, r7]
    · have hno2 : ∀ j, 0 ≤ j → j < k + 1 → ¬ sm_mp R (z.2.1 j) = w * 5 + p := by
        intro j j1 j2
        by_cases e : j = k
        · rw [e, hu]; exact c
        · exact hno j j1 (by omega)
      obtain ⟨r, A2, b1, b2, b3, b4, b5, b6⟩ := ih (k + 1) (ms_a A 3 (sm_st (A 3) f u)) (by omega) (by omega) (by rw [sa_eq rfl]; exact t1) (by rw [sa_eq rfl]; exact t2) (by rw [sa_ne (by decide)]; exact e7) (by rw [sa_ne (by decide)]; exact e8) hno2
      refine ⟨r, A2, fun j j1 => by rw [b1 j j1, sa_ne j1], b2, b3, b4, b5, Eq.trans ?_ b6⟩
      generalize hQ : ev 218 (3, [some (.ref M), some (.int (Int32.ofInt f)), some (.int (Int32.ofInt z.2.2)), some (.int (Int32.ofInt w)), some (.int (Int32.ofInt p)), some (.int (Int32.ofInt (k + 1)))], []) (mm M S (ms_a A 3 (sm_st (A 3) f u)) σ) = Q
      by_cases c2 : u % 15 / 5 = w
      · have c3 : ¬ mf_place (sm_st (A 3) f u) f = p := by omega
        rw [c2] at g1
        rw [H_218_3]
        simp (disch := first | omega | decide) only [Int.reduceAdd, Int.reduceMul, Int.reduceSub, Int.reduceNeg, na_add, na_sub, na_mul, na_neg, na_lt, na_le, na_eq, na_ofNat, bo_some, tl_some, tl_none, rc_int, rc_ref, rc_null, rc_none, rc_long, tb_0, tb_1, ↓mr_g0, mr_r0, mr_get, mr_upd, mr_at, mr_wr, Classical.not_not, not_true_eq_false, not_false_eq_true, na_l0, na_l1, na_l2, na_l3, na_l4, na_l5, na_l6, na_l7, na_l8, na_l9, na_l10, na_l14, na_l15, na_l16, na_l25, na_l30, na_l31, na_l32, na_l33, na_l39, na_l43, na_l45, na_l48, na_l49, na_l50, na_l51, na_l52, na_l53, na_l55, na_l56, na_l57, na_l60, na_l64, na_l71, na_l80, na_l96, na_l100, na_l101, na_l102, na_l103, na_l104, na_l105, na_l106, na_l107, na_l108, na_l109, na_l110, na_l111, na_l112, na_l113, na_l114, na_l115, na_l116, na_l117, na_l118, na_l119, na_l120, na_l121, na_l125, na_l128, na_l150, na_l192, na_l255, na_l999, na_l1000, na_l1248, na_l1344, na_l1875, na_l10000, ↓reduceIte, pf_and, pe_le, pf_le, pe_lt, pf_lt, pe_eq, pf_eq, true_and, and_true, false_and, and_false, true_or, or_true, false_or, or_false, ↓mmk, ↓mmo_0, ↓mmo_1, ↓mmo_2, ↓mmo_3, ↓mmo_4, ↓mmo_5, ↓mmo_6, ↓mmo_7, ↓mmo_8, ↓mmo_9, ↓mmo_10, ↓mmo_11, ↓mmo_12, ↓mmv_0, ↓mmv_2, ↓mmv_6, ↓mmv_11, ↓mmv_12, ↓mmg_1, ↓mmg_2, ↓mmg_3, ↓mmg_4, ↓mmg_5, ↓mmg_6, ↓mmg_7, ↓mmg_8, mma_1, mma_2, mma_3, mma_4, mma_5, mma_6, mma_7, mma_8, mmu_0, mmu_2, mmu_6, mmu_11, mmu_12, sa_eq, sa_ne, sa_up, I_218, r8, s215, g1, g2, c3, hQ]
      · rw [H_218_3]
        simp (disch := first | omega | decide) only [Int.reduceAdd, Int.reduceMul, Int.reduceSub, Int.reduceNeg, na_add, na_sub, na_mul, na_neg, na_lt, na_le, na_eq, na_ofNat, bo_some, tl_some, tl_none, rc_int, rc_ref, rc_null, rc_none, rc_long, tb_0, tb_1, ↓mr_g0, mr_r0, mr_get, mr_upd, mr_at, mr_wr, Classical.not_not, not_true_eq_false, not_false_eq_true, na_l0, na_l1, na_l2, na_l3, na_l4, na_l5, na_l6, na_l7, na_l8, na_l9, na_l10, na_l14, na_l15, na_l16, na_l25, na_l30, na_l31, na_l32, na_l33, na_l39, na_l43, na_l45, na_l48, na_l49, na_l50, na_l51, na_l52, na_l53, na_l55, na_l56, na_l57, na_l60, na_l64, na_l71, na_l80, na_l96, na_l100, na_l101, na_l102, na_l103, na_l104, na_l105, na_l106, na_l107, na_l108, na_l109, na_l110, na_l111, na_l112, na_l113, na_l114, na_l115, na_l116, na_l117, na_l118, na_l119, na_l120, na_l121, na_l125, na_l128, na_l150, na_l192, na_l255, na_l999, na_l1000, na_l1248, na_l1344, na_l1875, na_l10000, ↓reduceIte, pf_and, pe_le, pf_le, pe_lt, pf_lt, pe_eq, pf_eq, true_and, and_true, false_and, and_false, true_or, or_true, false_or, or_false, ↓mmk, ↓mmo_0, ↓mmo_1, ↓mmo_2, ↓mmo_3, ↓mmo_4, ↓mmo_5, ↓mmo_6, ↓mmo_7, ↓mmo_8, ↓mmo_9, ↓mmo_10, ↓mmo_11, ↓mmo_12, ↓mmv_0, ↓mmv_2, ↓mmv_6, ↓mmv_11, ↓mmv_12, ↓mmg_1, ↓mmg_2, ↓mmg_3, ↓mmg_4, ↓mmg_5, ↓mmg_6, ↓mmg_7, ↓mmg_8, mma_1, mma_2, mma_3, mma_4, mma_5, mma_6, mma_7, mma_8, mmu_0, mmu_2, mmu_6, mmu_11, mmu_12, sa_eq, sa_ne, sa_up, I_218, r8, s215, g1, g2, c2, hQ]
theorem c218 {A : Nat → mr_R} {R : mr_R} {f s0 w p : Int} {z : bf_Z} (hi : mi K (A 3)) (hq : sq R f (A 3)) (e7 : A 7 = z.1) (e8 : A 8 = z.2.1) (hR : mi K2 R) (hk2 : K2 + 20 ≤ 1000000) (h8 : R 8 = 0) (h1 : 0 ≤ f) (h2 : f < R 2) (hg : sm_g R f s0) (hJ : bf_J 1875 (sm_x R f) (fun _ => 10) s0 z.2.2 0 z) (hw1 : 0 ≤ w) (hw2 : w < 3) (hp1 : 0 ≤ p) (hp2 : p < 5) : ∃ r A2, wt A A2 ∧ mi K (A2 3) ∧ sq R f (A2 3) ∧ bf_L (sm_x R f) (fun _ => 10) s0 (fun s => sm_mp R s = w * 5 + p) r ∧ (-1 ≤ r ∧ r < 1875) ∧ cal 218 [.ref M, .int (Int32.ofInt f), .int (Int32.ofInt z.2.2), .int (Int32.ofInt w), .int (Int32.ofInt p)] (mm M S A σ) = some (some (.int (Int32.ofInt r)), mm M S A2 σ) := by
  have hj0 := hJ.1
  obtain ⟨r, A2, b1, b2, b3, b4, b5, b6⟩ := h218 (M := M) (S := S) (σ := σ) (K := K) (z := z) hR hk2 h8 h1 h2 hg hJ hw1 hw2 hp1 hp2 z.2.2.toNat 0 A (by omega) (by omega) hi hq e7 e8 (fun j j1 j2 => by omega)
  refine ⟨r, A2, b1, b2, b3, b4, b5, Eq.trans ?_ b6⟩
  rw [E_218]
  simp (disch := omega) only [Int.reduceAdd, Int.reduceMul, Int.reduceSub, Int.reduceNeg, na_add, na_sub, na_mul, na_neg, na_lt, na_le, na_eq, na_ofNat, bo_some, tl_some, tl_none, rc_int, rc_ref, rc_null, rc_none, rc_long, tb_0, tb_1, ↓mr_g0, mr_r0, mr_get, mr_upd, mr_at, mr_wr, Classical.not_not, not_true_eq_false, not_false_eq_true, na_l0, na_l1, na_l2, na_l3, na_l4, na_l5, na_l6, na_l7, na_l8, na_l9, na_l10, na_l14, na_l15, na_l16, na_l25, na_l30, na_l31, na_l32, na_l33, na_l39, na_l43, na_l45, na_l48, na_l49, na_l50, na_l51, na_l52, na_l53, na_l55, na_l56, na_l57, na_l60, na_l64, na_l71, na_l80, na_l96, na_l100, na_l101, na_l102, na_l103, na_l104, na_l105, na_l106, na_l107, na_l108, na_l109, na_l110, na_l111, na_l112, na_l113, na_l114, na_l115, na_l116, na_l117, na_l118, na_l119, na_l120, na_l121, na_l125, na_l128, na_l150, na_l192, na_l255, na_l999, na_l1000, na_l1248, na_l1344, na_l1875, na_l10000, ↓reduceIte, pf_and, pe_le, pf_le, pe_lt, pf_lt, pe_eq, pf_eq, true_and, and_true, false_and, and_false, true_or, or_true, false_or, or_false, I_218]
end MMB
