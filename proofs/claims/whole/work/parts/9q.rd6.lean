/-! The model reads: errorPosition and load. -/
def tx_e (X : mr_R) (n : Int) : Int × (mr_R × Int) := if n = 0 ∨ ¬ X 0 = 80 then (0, (fun _ => 0, 0)) else tx_rn X n 120 1 (fun _ => 0, 0)
theorem mi_none {K : Int} (h0 : 0 ≤ K) (h : K ≤ 1000000) : mi K (fun _ => 0) := by
  refine ⟨⟨h, ?_⟩, ?_, ?_, ?_, ?_, ?_, ?_⟩
  · show ((0 : Int) ≤ 0 ∧ (0 : Int) ≤ 3) ∧ ((0 : Int) ≤ 0 ∧ (0 : Int) ≤ 8) ∧ ((0 : Int) ≤ 0 ∧ (0 : Int) ≤ 5) ∧ ((0 : Int) ≤ 0 ∧ 0 ≤ K) ∧ ((0 : Int) ≤ 0 ∧ 0 ≤ K) ∧ ((0 : Int) ≤ 0 ∧ 0 ≤ K) ∧ ((0 : Int) ≤ 0 ∧ 0 ≤ K) ∧ ((0 : Int) ≤ 0 ∧ (0 : Int) ≤ 0) ∧ ((0 : Int) ≤ 0 ∧ (0 : Int) ≤ 1)
    omega
  · intro w h1 h2
    have h2 : w < 0 := h2
    omega
  · intro w k h1 h2
    have h2 : w < 0 := h2
    omega
  · intro w h1 h2
    have h2 : w < 0 := h2
    omega
  · intro w h1 h2
    have h2 : w < 0 := h2
    omega
  · intro u g h1 h2
    have h2 : u < 0 := h2
    omega
  · intro i _
    rfl
section MMB
variable {M : Nat} {S : mr_R} {A : Nat → mr_R} {σ : ri_S} {K : Int}
theorem c193 (ht : (0 ≤ S 1 ∧ S 1 ≤ 120) ∧ ∀ i, 0 ≤ i → i < S 1 → 0 ≤ A 1 i ∧ A 1 i ≤ 255) (hz : mi_Z (A 3)) : ∃ j, mi 2400 (tx_e (A 1) (S 1)).2.1 ∧ (0 ≤ (tx_e (A 1) (S 1)).2.2 ∧ (tx_e (A 1) (S 1)).2.2 ≤ 121) ∧ (-1 ≤ (tx_e (A 1) (S 1)).1 ∧ (tx_e (A 1) (S 1)).1 ≤ 120) ∧ cal 193 [.ref M, .ref (M + 3)] (mm M S A σ) = some (some (.int (Int32.ofInt (tx_e (A 1) (S 1)).1)), mm M (mr_st (mr_st S 4 (tx_e (A 1) (S 1)).2.2) 3 j) (ms_a A 3 (tx_e (A 1) (S 1)).2.1) σ) := by
  have ecl : mc_cl (A 3) 96 = fun _ => 0 := by
    funext i
    unfold mc_cl
    by_cases q : 0 ≤ i ∧ i < 96
    · rw [if_pos q]
    · rw [if_neg q, hz i (by omega)]
  have ec := c148 (a := M + 3) (R := A 3) (σ := mm M S A σ)
  rw [mms_3, mmr_3, ecl] at ec
  have st : cal 193 [.ref M, .ref (M + 3)] (mm M S A σ) = ev 193 (4, [some (.ref M), some (.ref (M + 3))], []) (mm M S (ms_a A 3 fun _ => 0) σ) := by
    obtain ⟨r0, r1, -⟩ := I_193
    rw [E_193, r0, r1, ec]
    rfl
  rw [st]
  clear st
  obtain ⟨T, hT⟩ : ∃ T, mr_st S 4 0 = T := ⟨_, rfl⟩
  obtain ⟨T2, hT2⟩ : ∃ T2, mr_st T 3 0 = T2 := ⟨_, rfl⟩
  have t1 : T2 1 = S 1 := by rw [← hT2, ← hT, ms_ne (by omega), ms_ne (by omega)]
  have b1 := ht.1
  unfold tx_e
  by_cases q : S 1 = 0
  · rw [if_pos (Or.inl q)]
    refine ⟨0, mi_none (by omega) (by omega), ⟨by show (0 : Int) ≤ 0; omega, by show (0 : Int) ≤ 121; omega⟩, ⟨by show (-1 : Int) ≤ 0; omega, by show (0 : Int) ≤ 120; omega⟩, ?_⟩
    show _ = some (some (Value.int (Int32.ofInt 0)), mm M (mr_st (mr_st S 4 0) 3 0) (ms_a A 3 (fun _ => 0)) σ)
    rw [hT, hT2]
    simp (disch := omega) only [Int.reduceAdd, Int.reduceMul, Int.reduceSub, Int.reduceNeg, na_add, na_sub, na_mul, na_neg, na_lt, na_le, na_eq, na_ofNat, bo_some, tl_some, tl_none, rc_int, rc_ref, rc_null, rc_none, rc_long, tb_0, tb_1, ↓mr_g0, mr_r0, mr_get, mr_upd, mr_at, mr_wr, Classical.not_not, not_true_eq_false, not_false_eq_true, na_l0, na_l1, na_l2, na_l3, na_l4, na_l5, na_l6, na_l7, na_l8, na_l9, na_l10, na_l14, na_l15, na_l16, na_l25, na_l30, na_l31, na_l32, na_l33, na_l39, na_l43, na_l45, na_l48, na_l49, na_l50, na_l51, na_l52, na_l53, na_l55, na_l56, na_l57, na_l60, na_l64, na_l71, na_l80, na_l96, na_l100, na_l101, na_l102, na_l103, na_l104, na_l105, na_l106, na_l107, na_l108, na_l109, na_l110, na_l111, na_l112, na_l113, na_l114, na_l115, na_l116, na_l117, na_l118, na_l119, na_l120, na_l121, na_l125, na_l128, na_l150, na_l192, na_l255, na_l999, na_l1000, na_l1248, na_l1344, na_l1875, na_l10000, ↓reduceIte, pf_and, pe_le, pf_le, pe_lt, pf_lt, pe_eq, pf_eq, true_and, and_true, false_and, and_false, true_or, or_true, false_or, or_false, ↓mmk, ↓mmo_0, ↓mmo_1, ↓mmo_2, ↓mmo_3, ↓mmo_4, ↓mmo_5, ↓mmo_6, ↓mmo_7, ↓mmo_8, ↓mmo_9, ↓mmo_10, ↓mmo_11, ↓mmo_12, ↓mmv_0, ↓mmv_2, ↓mmv_6, ↓mmv_11, ↓mmv_12, ↓mmg_1, ↓mmg_2, ↓mmg_3, ↓mmg_4, ↓mmg_5, ↓mmg_6, ↓mmg_7, ↓mmg_8, mma_1, mma_2, mma_3, mma_4, mma_5, mma_6, mma_7, mma_8, mmu_0, mmu_2, mmu_6, mmu_11, mmu_12, sa_eq, sa_ne, sa_up, I_193, hT, hT2]
  · have bx := ht.2 0 (by omega) (by omega)
    obtain ⟨x, hx⟩ : ∃ x, A 1 0 = x := ⟨_, rfl⟩
    rw [hx] at bx ⊢
    by_cases q2 : x = 80
    · rw [if_neg (fun z => z.elim q (fun y => y q2))]
      obtain ⟨j, a1, a2, a3, a4⟩ := h193 (M := M) (S := S) (A := A) (σ := σ) ht 120 1 0 (fun _ => 0) 0 (by omega) (by omega) (by omega) (by omega) (by omega) (mi_none (by omega) (by omega)) (by omega) (by omega)
      refine ⟨j, a1, a2, a3, Eq.trans ?_ a4⟩
      have t2u : mr_st T2 3 1 = mr_st (mr_st S 4 0) 3 1 := by rw [← hT2, ← hT, ms_up]
      rw [← t2u]
      generalize hQ : ev 193 (39, [some (.ref M), some (.ref (M + 3))], []) (mm M (mr_st T2 3 1) (ms_a A 3 fun _ => 0) σ) = Q
      simp (disch := omega) only [Int.reduceAdd, Int.reduceMul, Int.reduceSub, Int.reduceNeg, na_add, na_sub, na_mul, na_neg, na_lt, na_le, na_eq, na_ofNat, bo_some, tl_some, tl_none, rc_int, rc_ref, rc_null, rc_none, rc_long, tb_0, tb_1, ↓mr_g0, mr_r0, mr_get, mr_upd, mr_at, mr_wr, Classical.not_not, not_true_eq_false, not_false_eq_true, na_l0, na_l1, na_l2, na_l3, na_l4, na_l5, na_l6, na_l7, na_l8, na_l9, na_l10, na_l14, na_l15, na_l16, na_l25, na_l30, na_l31, na_l32, na_l33, na_l39, na_l43, na_l45, na_l48, na_l49, na_l50, na_l51, na_l52, na_l53, na_l55, na_l56, na_l57, na_l60, na_l64, na_l71, na_l80, na_l96, na_l100, na_l101, na_l102, na_l103, na_l104, na_l105, na_l106, na_l107, na_l108, na_l109, na_l110, na_l111, na_l112, na_l113, na_l114, na_l115, na_l116, na_l117, na_l118, na_l119, na_l120, na_l121, na_l125, na_l128, na_l150, na_l192, na_l255, na_l999, na_l1000, na_l1248, na_l1344, na_l1875, na_l10000, ↓reduceIte, pf_and, pe_le, pf_le, pe_lt, pf_lt, pe_eq, pf_eq, true_and, and_true, false_and, and_false, true_or, or_true, false_or, or_false, ↓mmk, ↓mmo_0, ↓mmo_1, ↓mmo_2, ↓mmo_3, ↓mmo_4, ↓mmo_5, ↓mmo_6, ↓mmo_7, ↓mmo_8, ↓mmo_9, ↓mmo_10, ↓mmo_11, ↓mmo_12, ↓mmv_0, ↓mmv_2, ↓mmv_6, ↓mmv_11, ↓mmv_12, ↓mmg_1, ↓mmg_2, ↓mmg_3, ↓mmg_4, ↓mmg_5, ↓mmg_6, ↓mmg_7, ↓mmg_8, mma_1, mma_2, mma_3, mma_4, mma_5, mma_6, mma_7, mma_8, mmu_0, mmu_2, mmu_6, mmu_11, mmu_12, sa_eq, sa_ne, sa_up, I_193, hT, hT2, hx, hQ]
    · rw [if_pos (Or.inr q2)]
      refine ⟨0, mi_none (by omega) (by omega), ⟨by show (0 : Int) ≤ 0; omega, by show (0 : Int) ≤ 121; omega⟩, ⟨by show (-1 : Int) ≤ 0; omega, by show (0 : Int) ≤ 120; omega⟩, ?_⟩
      show _ = some (some (Value.int (Int32.ofInt 0)), mm M (mr_st (mr_st S 4 0) 3 0) (ms_a A 3 (fun _ => 0)) σ)
      rw [hT, hT2]
      simp (disch := omega) only [Int.reduceAdd, Int.reduceMul, Int.reduceSub, Int.reduceNeg, na_add, na_sub, na_mul, na_neg, na_lt, na_le, na_eq, na_ofNat, bo_some, tl_some, tl_none, rc_int, rc_ref, rc_null, rc_none, rc_long, tb_0, tb_1, ↓mr_g0, mr_r0, mr_get, mr_upd, mr_at, mr_wr, Classical.not_not, not_true_eq_false, not_false_eq_true, na_l0, na_l1, na_l2, na_l3, na_l4, na_l5, na_l6, na_l7, na_l8, na_l9, na_l10, na_l14, na_l15, na_l16, na_l25, na_l30, na_l31, na_l32, na_l33, na_l39, na_l43, na_l45, na_l48, na_l49, na_l50, na_l51, na_l52, na_l53, na_l55, na_l56, na_l57, na_l60, na_l64, na_l71, na_l80, na_l96, na_l100, na_l101, na_l102, na_l103, na_l104, na_l105, na_l106, na_l107, na_l108, na_l109, na_l110, na_l111, na_l112, na_l113, na_l114, na_l115, na_l116, na_l117, na_l118, na_l119, na_l120, na_l121, na_l125, na_l128, na_l150, na_l192, na_l255, na_l999, na_l1000, na_l1248, na_l1344, na_l1875, na_l10000, ↓reduceIte, pf_and, pe_le, pf_le, pe_lt, pf_lt, pe_eq, pf_eq, true_and, and_true, false_and, and_false, true_or, or_true, false_or, or_false, ↓mmk, ↓mmo_0, ↓mmo_1, ↓mmo_2, ↓mmo_3, ↓mmo_4, ↓mmo_5, ↓mmo_6, ↓mmo_7, ↓mmo_8, ↓mmo_9, ↓mmo_10, ↓mmo_11, ↓mmo_12, ↓mmv_0, ↓mmv_2, ↓mmv_6, ↓mmv_11, ↓mmv_12, ↓mmg_1, ↓mmg_2, ↓mmg_3, ↓mmg_4, ↓mmg_5, ↓mmg_6, ↓mmg_7, ↓mmg_8, mma_1, mma_2, mma_3, mma_4, mma_5, mma_6, mma_7, mma_8, mmu_0, mmu_2, mmu_6, mmu_11, mmu_12, sa_eq, sa_ne, sa_up, I_193, hT, hT2, hx]
theorem c194 (ht : (0 ≤ S 1 ∧ S 1 ≤ 120) ∧ ∀ i, 0 ≤ i → i < S 1 → 0 ≤ A 1 i ∧ A 1 i ≤ 255) (hz : mi_Z (A 3)) : ∃ j, mi 2400 (tx_e (A 1) (S 1)).2.1 ∧ (-1 ≤ (tx_e (A 1) (S 1)).1 ∧ (tx_e (A 1) (S 1)).1 ≤ 120) ∧ cal 194 [.ref M] (mm M S A σ) = some (some (.int (Int32.ofInt (tx_e (A 1) (S 1)).1)), mm M (mr_st (mr_st (mr_st S 0 0) 4 (tx_e (A 1) (S 1)).2.2) 3 j) (ms_a A 3 (tx_e (A 1) (S 1)).2.1) σ) := by
  have s1 : mr_st S 0 0 1 = S 1 := ms_ne (by omega)
  obtain ⟨j, a1, a2, a3, a4⟩ := c193 (M := M) (S := mr_st S 0 0) (A := A) (σ := σ) (by rw [s1]; exact ht) hz
  rw [s1] at a1 a2 a3 a4
  refine ⟨j, a1, a3, ?_⟩
  rw [E_194]
  simp (disch := omega) only [Int.reduceAdd, Int.reduceMul, Int.reduceSub, Int.reduceNeg, na_add, na_sub, na_mul, na_neg, na_lt, na_le, na_eq, na_ofNat, bo_some, tl_some, tl_none, rc_int, rc_ref, rc_null, rc_none, rc_long, tb_0, tb_1, ↓mr_g0, mr_r0, mr_get, mr_upd, mr_at, mr_wr, Classical.not_not, not_true_eq_false, not_false_eq_true, na_l0, na_l1, na_l2, na_l3, na_l4, na_l5, na_l6, na_l7, na_l8, na_l9, na_l10, na_l14, na_l15, na_l16, na_l25, na_l30, na_l31, na_l32, na_l33, na_l39, na_l43, na_l45, na_l48, na_l49, na_l50, na_l51, na_l52, na_l53, na_l55, na_l56, na_l57, na_l60, na_l64, na_l71, na_l80, na_l96, na_l100, na_l101, na_l102, na_l103, na_l104, na_l105, na_l106, na_l107, na_l108, na_l109, na_l110, na_l111, na_l112, na_l113, na_l114, na_l115, na_l116, na_l117, na_l118, na_l119, na_l120, na_l121, na_l125, na_l128, na_l150, na_l192, na_l255, na_l999, na_l1000, na_l1248, na_l1344, na_l1875, na_l10000, ↓reduceIte, pf_and, pe_le, pf_le, pe_lt, pf_lt, pe_eq, pf_eq, true_and, and_true, false_and, and_false, true_or, or_true, false_or, or_false, ↓mmk, ↓mmo_0, ↓mmo_1, ↓mmo_2, ↓mmo_3, ↓mmo_4, ↓mmo_5, ↓mmo_6, ↓mmo_7, ↓mmo_8, ↓mmo_9, ↓mmo_10, ↓mmo_11, ↓mmo_12, ↓mmv_0, ↓mmv_2, ↓mmv_6, ↓mmv_11, ↓mmv_12, ↓mmg_1, ↓mmg_2, ↓mmg_3, ↓mmg_4, ↓mmg_5, ↓mmg_6, ↓mmg_7, ↓mmg_8, mma_1, mma_2, mma_3, mma_4, mma_5, mma_6, mma_7, mma_8, mmu_0, mmu_2, mmu_6, mmu_11, mmu_12, sa_eq, sa_ne, sa_up, I_194, a4]
theorem c195 (ht : (0 ≤ S 1 ∧ S 1 ≤ 120) ∧ ∀ i, 0 ≤ i → i < S 1 → 0 ≤ A 1 i ∧ A 1 i ≤ 255) (hz : mi_Z (A 3)) (hi2 : mi K (A 2)) : ∃ S2, mi 2400 (tx_e (A 1) (S 1)).2.1 ∧ (0 ≤ (tx_e (A 1) (S 1)).2.2 ∧ (tx_e (A 1) (S 1)).2.2 ≤ 121) ∧ (∀ j, j ≠ 0 → j ≠ 2 → j ≠ 3 → j ≠ 4 → S2 j = S j) ∧ ((tx_e (A 1) (S 1)).1 = -1 → S2 0 = 0 ∧ S2 2 = 0 ∧ cal 195 [.ref M] (mm M S A σ) = some (some (.int (Int32.ofInt (tx_e (A 1) (S 1)).2.2)), mm M S2 (ms_a (ms_a (ms_a A 3 (tx_e (A 1) (S 1)).2.1) 2 (tx_e (A 1) (S 1)).2.1) 6 (mr_st (mr_st (A 6) 0 0) 1 0)) σ)) ∧ (¬ (tx_e (A 1) (S 1)).1 = -1 → S2 0 = 1 ∧ S2 2 = S 2 ∧ cal 195 [.ref M] (mm M S A σ) = some (some (.int (Int32.ofInt 0)), mm M S2 (ms_a A 3 (tx_e (A 1) (S 1)).2.1) σ)) := by
  obtain ⟨j, a1, a2, a3, a4⟩ := c193 (M := M) (S := S) (A := A) (σ := σ) ht hz
  obtain ⟨e, he⟩ : ∃ e, tx_e (A 1) (S 1) = e := ⟨_, rfl⟩
  rw [he] at a1 a2 a3 a4 ⊢
  obtain ⟨T, hT⟩ : ∃ T, mr_st (mr_st S 4 e.2.2) 3 j = T := ⟨_, rfl⟩
  rw [hT] at a4
  have tt : ∀ k, k ≠ 3 → k ≠ 4 → T k = S k := fun k k1 k2 => by rw [← hT, ms_ne k1, ms_ne k2]
  have t4 : T 4 = e.2.2 := by rw [← hT, ms_ne (by omega), ms_eq rfl]
  by_cases c : e.1 = -1
  · have ey := y147_32 (M := M) (S := mr_st T 0 0) (A := ms_a A 3 e.2.1) (σ := σ) (p := 0) (q := 0) (by omega) (by omega) (by omega) (by omega)
    rw [sa_eq rfl, sa_ne (show (2 : Nat) ≠ 3 by decide), mc_id a1 hi2.2.2.2.2.2.2] at ey
    have eb : vp_nar .boolean (Int32.ofInt 0) = Int32.ofInt 0 := by decide
    refine ⟨mr_st (mr_st T 0 0) 2 0, a1, a2, fun k k1 k2 k3 k4 => by rw [ms_ne k2, ms_ne k1, tt k k3 k4], fun _ => ⟨by rw [ms_ne (by omega), ms_eq rfl], ms_eq rfl, ?_⟩, fun z => absurd c z⟩
    rw [c] at a4
    have st1 : cal 195 [.ref M] (mm M S A σ) = ev 195 (39, [some (.ref M)], []) (mm M (mr_st T 0 0) (ms_a (ms_a A 3 e.2.1) 2 e.2.1) σ) := by
      obtain ⟨r1, r2, r3, r4, r5, r6, r7, r8, r9, r10, r11, r12, r13, r14, r15, r16, r17, r18, r19, r20, r21, -⟩ := I_195
      rw [E_195]
      simp (disch := omega) only [Int.reduceAdd, Int.reduceMul, Int.reduceSub, Int.reduceNeg, na_add, na_sub, na_mul, na_neg, na_lt, na_le, na_eq, na_ofNat, bo_some, tl_some, tl_none, rc_int, rc_ref, rc_null, rc_none, rc_long, tb_0, tb_1, ↓mr_g0, mr_r0, mr_get, mr_upd, mr_at, mr_wr, Classical.not_not, not_true_eq_false, not_false_eq_true, na_l0, na_l1, na_l2, na_l3, na_l4, na_l5, na_l6, na_l7, na_l8, na_l9, na_l10, na_l14, na_l15, na_l16, na_l25, na_l30, na_l31, na_l32, na_l33, na_l39, na_l43, na_l45, na_l48, na_l49, na_l50, na_l51, na_l52, na_l53, na_l55, na_l56, na_l57, na_l60, na_l64, na_l71, na_l80, na_l96, na_l100, na_l101, na_l102, na_l103, na_l104, na_l105, na_l106, na_l107, na_l108, na_l109, na_l110, na_l111, na_l112, na_l113, na_l114, na_l115, na_l116, na_l117, na_l118, na_l119, na_l120, na_l121, na_l125, na_l128, na_l150, na_l192, na_l255, na_l999, na_l1000, na_l1248, na_l1344, na_l1875, na_l10000, ↓reduceIte, pf_and, pe_le, pf_le, pe_lt, pf_lt, pe_eq, pf_eq, true_and, and_true, false_and, and_false, true_or, or_true, false_or, or_false, ↓mmk, ↓mmo_0, ↓mmo_1, ↓mmo_2, ↓mmo_3, ↓mmo_4, ↓mmo_5, ↓mmo_6, ↓mmo_7, ↓mmo_8, ↓mmo_9, ↓mmo_10, ↓mmo_11, ↓mmo_12, ↓mmv_0, ↓mmv_2, ↓mmv_6, ↓mmv_11, ↓mmv_12, ↓mmg_1, ↓mmg_2, ↓mmg_3, ↓mmg_4, ↓mmg_5, ↓mmg_6, ↓mmg_7, ↓mmg_8, mma_1, mma_2, mma_3, mma_4, mma_5, mma_6, mma_7, mma_8, mmu_0, mmu_2, mmu_6, mmu_11, mmu_12, sa_eq, sa_ne, sa_up, r1, r2, r3, r4, r5, r6, r7, r8, r9, r10, r11, r12, r13, r14, r15, r16, r17, r18, r19, r20, r21, a4, c145, ey]
    rw [st1, ← t4]
    clear st1 ey a4
    obtain ⟨T0, hT0⟩ : ∃ T0, mr_st T 0 0 = T0 := ⟨_, rfl⟩
    have t04 : T 4 = T0 4 := by rw [← hT0, ms_ne (by omega)]
    obtain ⟨A1, hA1⟩ : ∃ A1, ms_a (ms_a A 3 e.2.1) 2 e.2.1 = A1 := ⟨_, rfl⟩
    have a16 : A 6 = A1 6 := by rw [← hA1, sa_ne (by decide), sa_ne (by decide)]
    have t24 : mr_st T0 2 0 4 = T0 4 := ms_ne (by omega)
    rw [hT0, hA1, t04, a16]
    simp (disch := first | omega | decide) only [Int.reduceAdd, Int.reduceMul, Int.reduceSub, Int.reduceNeg, na_add, na_sub, na_mul, na_neg, na_lt, na_le, na_eq, na_ofNat, bo_some, tl_some, tl_none, rc_int, rc_ref, rc_null, rc_none, rc_long, tb_0, tb_1, ↓mr_g0, mr_r0, mr_get, mr_upd, mr_at, mr_wr, Classical.not_not, not_true_eq_false, not_false_eq_true, na_l0, na_l1, na_l2, na_l3, na_l4, na_l5, na_l6, na_l7, na_l8, na_l9, na_l10, na_l14, na_l15, na_l16, na_l25, na_l30, na_l31, na_l32, na_l33, na_l39, na_l43, na_l45, na_l48, na_l49, na_l50, na_l51, na_l52, na_l53, na_l55, na_l56, na_l57, na_l60, na_l64, na_l71, na_l80, na_l96, na_l100, na_l101, na_l102, na_l103, na_l104, na_l105, na_l106, na_l107, na_l108, na_l109, na_l110, na_l111, na_l112, na_l113, na_l114, na_l115, na_l116, na_l117, na_l118, na_l119, na_l120, na_l121, na_l125, na_l128, na_l150, na_l192, na_l255, na_l999, na_l1000, na_l1248, na_l1344, na_l1875, na_l10000, ↓reduceIte, pf_and, pe_le, pf_le, pe_lt, pf_lt, pe_eq, pf_eq, true_and, and_true, false_and, and_false, true_or, or_true, false_or, or_false, ↓mmk, ↓mmo_0, ↓mmo_1, ↓mmo_2, ↓mmo_3, ↓mmo_4, ↓mmo_5, ↓mmo_6, ↓mmo_7, ↓mmo_8, ↓mmo_9, ↓mmo_10, ↓mmo_11, ↓mmo_12, ↓mmv_0, ↓mmv_2, ↓mmv_6, ↓mmv_11, ↓mmv_12, ↓mmg_1, ↓mmg_2, ↓mmg_3, ↓mmg_4, ↓mmg_5, ↓mmg_6, ↓mmg_7, ↓mmg_8, mma_1, mma_2, mma_3, mma_4, mma_5, mma_6, mma_7, mma_8, mmu_0, mmu_2, mmu_6, mmu_11, mmu_12, sa_eq, sa_ne, sa_up, I_195, eb, t24]
  · refine ⟨mr_st T 0 1, a1, a2, fun k k1 k2 k3 k4 => by rw [ms_ne k1, tt k k3 k4], fun z => absurd z c, fun _ => ⟨ms_eq rfl, by rw [ms_ne (by omega), tt 2 (by omega) (by omega)], ?_⟩⟩
    rw [E_195]
    simp (disch := omega) only [Int.reduceAdd, Int.reduceMul, Int.reduceSub, Int.reduceNeg, na_add, na_sub, na_mul, na_neg, na_lt, na_le, na_eq, na_ofNat, bo_some, tl_some, tl_none, rc_int, rc_ref, rc_null, rc_none, rc_long, tb_0, tb_1, ↓mr_g0, mr_r0, mr_get, mr_upd, mr_at, mr_wr, Classical.not_not, not_true_eq_false, not_false_eq_true, na_l0, na_l1, na_l2, na_l3, na_l4, na_l5, na_l6, na_l7, na_l8, na_l9, na_l10, na_l14, na_l15, na_l16, na_l25, na_l30, na_l31, na_l32, na_l33, na_l39, na_l43, na_l45, na_l48, na_l49, na_l50, na_l51, na_l52, na_l53, na_l55, na_l56, na_l57, na_l60, na_l64, na_l71, na_l80, na_l96, na_l100, na_l101, na_l102, na_l103, na_l104, na_l105, na_l106, na_l107, na_l108, na_l109, na_l110, na_l111, na_l112, na_l113, na_l114, na_l115, na_l116, na_l117, na_l118, na_l119, na_l120, na_l121, na_l125, na_l128, na_l150, na_l192, na_l255, na_l999, na_l1000, na_l1248, na_l1344, na_l1875, na_l10000, ↓reduceIte, pf_and, pe_le, pf_le, pe_lt, pf_lt, pe_eq, pf_eq, true_and, and_true, false_and, and_false, true_or, or_true, false_or, or_false, ↓mmk, ↓mmo_0, ↓mmo_1, ↓mmo_2, ↓mmo_3, ↓mmo_4, ↓mmo_5, ↓mmo_6, ↓mmo_7, ↓mmo_8, ↓mmo_9, ↓mmo_10, ↓mmo_11, ↓mmo_12, ↓mmv_0, ↓mmv_2, ↓mmv_6, ↓mmv_11, ↓mmv_12, ↓mmg_1, ↓mmg_2, ↓mmg_3, ↓mmg_4, ↓mmg_5, ↓mmg_6, ↓mmg_7, ↓mmg_8, mma_1, mma_2, mma_3, mma_4, mma_5, mma_6, mma_7, mma_8, mmu_0, mmu_2, mmu_6, mmu_11, mmu_12, sa_eq, sa_ne, sa_up, I_195, a4, c145]
end MMB
