/-! The model reads: lines, frogs, flies. -/
section MMB
variable {M : Nat} {S : mr_R} {A : Nat → mr_R} {σ : ri_S} {K : Int}
/-- readLine -/
theorem c189 {j : Int} (hi : mi K (A 3)) (j1 : 0 ≤ j) (j2 : j ≤ 800) (ht : mt_ok S (A 1)) : cal 189 [.ref M, .ref (M + 3)] (mm M (mr_st S 3 j) A σ) = if (tx_wk (A 1) (S 1) [119, 112, 119, 112] j).2 = true then some (some (.int (Int32.ofInt 1)), mm M (mr_st (mr_st S 3 (j + 4)) 4 (S 4 + if mf_fL (A 3) (A 1 j - 48) (A 1 (j + 1) - 48) (A 1 (j + 2) - 48) (A 1 (j + 3) - 48) = 0 then 0 else 1)) (ms_a A 3 (mg_tL (A 3) (A 1 j - 48) (A 1 (j + 1) - 48) (A 1 (j + 2) - 48) (A 1 (j + 3) - 48))) σ) else some (some (.int (Int32.ofInt 0)), mm M (mr_st S 3 (tx_wk (A 1) (S 1) [119, 112, 119, 112] j).1) A σ) := by
  have hc := hi.c
  have f0 := fy186 (M := M) (S := S) (A := A) (σ := σ) (a := 0) (j := j) (by omega) (by omega) j1 (by omega) ht
  rw [E_189]
  by_cases p0 : j < S 1 ∧ 48 ≤ A 1 j ∧ A 1 j ≤ 50
  · have e0 := f0.1 p0
    rw [wk_y ⟨p0.1, al_119.mpr p0.2⟩]
    have f1 := fy187 (M := M) (S := S) (A := A) (σ := σ) (a := A 1 j - 48) (j := j + 1) (by omega) (by omega) (by omega) (by omega) ht
    by_cases p1 : j + 1 < S 1 ∧ 48 ≤ A 1 (j + 1) ∧ A 1 (j + 1) ≤ 52
    · have e1 := f1.1 p1
      rw [wk_y ⟨p1.1, al_112.mpr p1.2⟩, show j + 1 + 1 = j + 2 by omega]
      rw [show j + 1 + 1 = j + 2 by omega] at e1
      have f2 := fy186 (M := M) (S := S) (A := A) (σ := σ) (a := A 1 (j + 1) - 48) (j := j + 2) (by omega) (by omega) (by omega) (by omega) ht
      by_cases p2 : j + 2 < S 1 ∧ 48 ≤ A 1 (j + 2) ∧ A 1 (j + 2) ≤ 50
      · have e2 := f2.1 p2
        rw [wk_y ⟨p2.1, al_119.mpr p2.2⟩, show j + 2 + 1 = j + 3 by omega]
        rw [show j + 2 + 1 = j + 3 by omega] at e2
        have f3 := fy187 (M := M) (S := S) (A := A) (σ := σ) (a := A 1 (j + 2) - 48) (j := j + 3) (by omega) (by omega) (by omega) (by omega) ht
        by_cases p3 : j + 3 < S 1 ∧ 48 ≤ A 1 (j + 3) ∧ A 1 (j + 3) ≤ 52
        · have e3 := f3.1 p3
          rw [wk_y ⟨p3.1, al_112.mpr p3.2⟩, wk_0, if_pos rfl]
          rw [show j + 3 + 1 = j + 4 by omega] at e3
          have ec := c176 (a := M + 3) (R := A 3) (σ := mm M (mr_st S 3 (j + 4)) A σ) (w := A 1 j - 48) (p := A 1 (j + 1) - 48) (w2 := A 1 (j + 2) - 48) (p2 := A 1 (j + 3) - 48) (by omega) (by omega) (by omega) (by omega) (by omega) (by omega) (by omega) (by omega) hi
          rw [mms_3] at ec
          have el := c177 (a := M + 3) (R := A 3) (σ := mm M (mr_st S 3 (j + 4)) A σ) (w := A 1 j - 48) (p := A 1 (j + 1) - 48) (w2 := A 1 (j + 2) - 48) (p2 := A 1 (j + 3) - 48) hc.2.1.1
          rw [mms_3, mmr_3] at el
          have d1 := fy185a (M := M) (S := S) (A := A) (σ := σ) (b := 1) (j := j + 4) (B := mg_line (A 3) (A 1 j - 48) (A 1 (j + 1) - 48) (A 1 (j + 2) - 48) (A 1 (j + 3) - 48)) (Or.inr rfl) ht
          have d0 := fy185 (M := M) (S := S) (A := A) (σ := σ) (b := 0) (j := j + 4) (Or.inl rfl) ht
          unfold mg_tL
          have k0 : mf_fL (A 3) (A 1 j - 48) (A 1 (j + 1) - 48) (A 1 (j + 2) - 48) (A 1 (j + 3) - 48) = 0 ↔ (0 ≤ A 1 j - 48 ∧ A 1 j - 48 < (A 3) 0 ∧ 0 ≤ A 1 (j + 1) - 48 ∧ A 1 (j + 1) - 48 < (A 3) (9 + 10 * (A 1 j - 48) + 0)) ∧ (0 ≤ A 1 (j + 2) - 48 ∧ A 1 (j + 2) - 48 < (A 3) 0 ∧ 0 ≤ A 1 (j + 3) - 48 ∧ A 1 (j + 3) - 48 < (A 3) (9 + 10 * (A 1 (j + 2) - 48) + 0)) ∧ A 1 j - 48 ≠ A 1 (j + 2) - 48 ∧ (A 3) 1 < 8 := by
            unfold mf_fL
            constructor
            · intro h
              by_cases z1 : (0 ≤ A 1 j - 48 ∧ A 1 j - 48 < (A 3) 0 ∧ 0 ≤ A 1 (j + 1) - 48 ∧ A 1 (j + 1) - 48 < (A 3) (9 + 10 * (A 1 j - 48) + 0)) ∧ (0 ≤ A 1 (j + 2) - 48 ∧ A 1 (j + 2) - 48 < (A 3) 0 ∧ 0 ≤ A 1 (j + 3) - 48 ∧ A 1 (j + 3) - 48 < (A 3) (9 + 10 * (A 1 (j + 2) - 48) + 0))
              · rw [if_pos z1] at h
                by_cases z2 : A 1 j - 48 = A 1 (j + 2) - 48
                · rw [if_pos z2] at h; exact absurd h (by decide)
                · rw [if_neg z2] at h
                  by_cases z3 : (A 3) 1 < 8
                  · exact ⟨z1.1, z1.2, z2, z3⟩
                  · rw [if_neg z3] at h; exact absurd h (by decide)
              · rw [if_neg z1] at h; exact absurd h (by decide)
            · rintro ⟨z1, z2, z3, z4⟩
              rw [if_pos ⟨z1, z2⟩, if_neg z3, if_pos z4]
          by_cases q : mf_fL (A 3) (A 1 j - 48) (A 1 (j + 1) - 48) (A 1 (j + 2) - 48) (A 1 (j + 3) - 48) = 0
          · rw [if_pos q, if_pos q]
            rw [if_pos (k0.mp q)] at ec
            have el := el (k0.mp q).2.2.2
            have hr1 := hc.2.1
            simp (disch := omega) only [Int.reduceAdd, Int.reduceMul, Int.reduceSub, Int.reduceNeg, na_add, na_sub, na_mul, na_neg, na_lt, na_le, na_eq, na_ofNat, bo_some, tl_some, tl_none, rc_int, rc_ref, rc_null, rc_none, rc_long, tb_0, tb_1, ↓mr_g0, mr_r0, mr_get, mr_upd, mr_at, mr_wr, Classical.not_not, not_true_eq_false, not_false_eq_true, na_l0, na_l1, na_l2, na_l3, na_l4, na_l5, na_l6, na_l7, na_l8, na_l9, na_l10, na_l14, na_l15, na_l16, na_l25, na_l30, na_l31, na_l32, na_l33, na_l39, na_l43, na_l45, na_l48, na_l49, na_l50, na_l51, na_l52, na_l53, na_l55, na_l56, na_l57, na_l60, na_l64, na_l71, na_l80, na_l96, na_l100, na_l101, na_l102, na_l103, na_l104, na_l105, na_l106, na_l107, na_l108, na_l109, na_l110, na_l111, na_l112, na_l113, na_l114, na_l115, na_l116, na_l117, na_l118, na_l119, na_l120, na_l121, na_l125, na_l128, na_l150, na_l192, na_l255, na_l999, na_l1000, na_l1248, na_l1344, na_l1875, na_l10000, ↓reduceIte, pf_and, pe_le, pf_le, pe_lt, pf_lt, pe_eq, pf_eq, true_and, and_true, false_and, and_false, true_or, or_true, false_or, or_false, ↓mmk, ↓mmo_0, ↓mmo_1, ↓mmo_2, ↓mmo_3, ↓mmo_4, ↓mmo_5, ↓mmo_6, ↓mmo_7, ↓mmo_8, ↓mmo_9, ↓mmo_10, ↓mmo_11, ↓mmo_12, ↓mmv_0, ↓mmv_2, ↓mmv_6, ↓mmv_11, ↓mmv_12, ↓mmg_1, ↓mmg_2, ↓mmg_3, ↓mmg_4, ↓mmg_5, ↓mmg_6, ↓mmg_7, ↓mmg_8, mma_1, mma_2, mma_3, mma_4, mma_5, mma_6, mma_7, mma_8, mmu_0, mmu_2, mmu_6, mmu_11, mmu_12, sa_eq, sa_ne, sa_up, I_189_0, I_189_1, e0, e1, e2, e3, ec, el, d1]
          · rw [if_neg q, if_neg q]
            rw [if_neg (fun z => q (k0.mpr z))] at ec
            simp (disch := omega) only [Int.reduceAdd, Int.reduceMul, Int.reduceSub, Int.reduceNeg, na_add, na_sub, na_mul, na_neg, na_lt, na_le, na_eq, na_ofNat, bo_some, tl_some, tl_none, rc_int, rc_ref, rc_null, rc_none, rc_long, tb_0, tb_1, ↓mr_g0, mr_r0, mr_get, mr_upd, mr_at, mr_wr, Classical.not_not, not_true_eq_false, not_false_eq_true, na_l0, na_l1, na_l2, na_l3, na_l4, na_l5, na_l6, na_l7, na_l8, na_l9, na_l10, na_l14, na_l15, na_l16, na_l25, na_l30, na_l31, na_l32, na_l33, na_l39, na_l43, na_l45, na_l48, na_l49, na_l50, na_l51, na_l52, na_l53, na_l55, na_l56, na_l57, na_l60, na_l64, na_l71, na_l80, na_l96, na_l100, na_l101, na_l102, na_l103, na_l104, na_l105, na_l106, na_l107, na_l108, na_l109, na_l110, na_l111, na_l112, na_l113, na_l114, na_l115, na_l116, na_l117, na_l118, na_l119, na_l120, na_l121, na_l125, na_l128, na_l150, na_l192, na_l255, na_l999, na_l1000, na_l1248, na_l1344, na_l1875, na_l10000, ↓reduceIte, pf_and, pe_le, pf_le, pe_lt, pf_lt, pe_eq, pf_eq, true_and, and_true, false_and, and_false, true_or, or_true, false_or, or_false, ↓mmk, ↓mmo_0, ↓mmo_1, ↓mmo_2, ↓mmo_3, ↓mmo_4, ↓mmo_5, ↓mmo_6, ↓mmo_7, ↓mmo_8, ↓mmo_9, ↓mmo_10, ↓mmo_11, ↓mmo_12, ↓mmv_0, ↓mmv_2, ↓mmv_6, ↓mmv_11, ↓mmv_12, ↓mmg_1, ↓mmg_2, ↓mmg_3, ↓mmg_4, ↓mmg_5, ↓mmg_6, ↓mmg_7, ↓mmg_8, mma_1, mma_2, mma_3, mma_4, mma_5, mma_6, mma_7, mma_8, mmu_0, mmu_2, mmu_6, mmu_11, mmu_12, sa_eq, sa_ne, sa_up, I_189_0, I_189_1, e0, e1, e2, e3, ec, d0, sa_id]
        · have e3 := f3.2 p3
          rw [wk_n (fun z => p3 ⟨z.1, al_112.mp z.2⟩), if_neg Bool.false_ne_true]
          simp (disch := omega) only [Int.reduceAdd, Int.reduceMul, Int.reduceSub, Int.reduceNeg, na_add, na_sub, na_mul, na_neg, na_lt, na_le, na_eq, na_ofNat, bo_some, tl_some, tl_none, rc_int, rc_ref, rc_null, rc_none, rc_long, tb_0, tb_1, ↓mr_g0, mr_r0, mr_get, mr_upd, mr_at, mr_wr, Classical.not_not, not_true_eq_false, not_false_eq_true, na_l0, na_l1, na_l2, na_l3, na_l4, na_l5, na_l6, na_l7, na_l8, na_l9, na_l10, na_l14, na_l15, na_l16, na_l25, na_l30, na_l31, na_l32, na_l33, na_l39, na_l43, na_l45, na_l48, na_l49, na_l50, na_l51, na_l52, na_l53, na_l55, na_l56, na_l57, na_l60, na_l64, na_l71, na_l80, na_l96, na_l100, na_l101, na_l102, na_l103, na_l104, na_l105, na_l106, na_l107, na_l108, na_l109, na_l110, na_l111, na_l112, na_l113, na_l114, na_l115, na_l116, na_l117, na_l118, na_l119, na_l120, na_l121, na_l125, na_l128, na_l150, na_l192, na_l255, na_l999, na_l1000, na_l1248, na_l1344, na_l1875, na_l10000, ↓reduceIte, pf_and, pe_le, pf_le, pe_lt, pf_lt, pe_eq, pf_eq, true_and, and_true, false_and, and_false, true_or, or_true, false_or, or_false, ↓mmk, ↓mmo_0, ↓mmo_1, ↓mmo_2, ↓mmo_3, ↓mmo_4, ↓mmo_5, ↓mmo_6, ↓mmo_7, ↓mmo_8, ↓mmo_9, ↓mmo_10, ↓mmo_11, ↓mmo_12, ↓mmv_0, ↓mmv_2, ↓mmv_6, ↓mmv_11, ↓mmv_12, ↓mmg_1, ↓mmg_2, ↓mmg_3, ↓mmg_4, ↓mmg_5, ↓mmg_6, ↓mmg_7, ↓mmg_8, mma_1, mma_2, mma_3, mma_4, mma_5, mma_6, mma_7, mma_8, mmu_0, mmu_2, mmu_6, mmu_11, mmu_12, sa_eq, sa_ne, sa_up, I_189_0, I_189_1, e0, e1, e2, e3]
      · have e2 := f2.2 p2
        rw [wk_n (fun z => p2 ⟨z.1, al_119.mp z.2⟩), if_neg Bool.false_ne_true]
        simp (disch := omega) only [Int.reduceAdd, Int.reduceMul, Int.reduceSub, Int.reduceNeg, na_add, na_sub, na_mul, na_neg, na_lt, na_le, na_eq, na_ofNat, bo_some, tl_some, tl_none, rc_int, rc_ref, rc_null, rc_none, rc_long, tb_0, tb_1, ↓mr_g0, mr_r0, mr_get, mr_upd, mr_at, mr_wr, Classical.not_not, not_true_eq_false, not_false_eq_true, na_l0, na_l1, na_l2, na_l3, na_l4, na_l5, na_l6, na_l7, na_l8, na_l9, na_l10, na_l14, na_l15, na_l16, na_l25, na_l30, na_l31, na_l32, na_l33, na_l39, na_l43, na_l45, na_l48, na_l49, na_l50, na_l51, na_l52, na_l53, na_l55, na_l56, na_l57, na_l60, na_l64, na_l71, na_l80, na_l96, na_l100, na_l101, na_l102, na_l103, na_l104, na_l105, na_l106, na_l107, na_l108, na_l109, na_l110, na_l111, na_l112, na_l113, na_l114, na_l115, na_l116, na_l117, na_l118, na_l119, na_l120, na_l121, na_l125, na_l128, na_l150, na_l192, na_l255, na_l999, na_l1000, na_l1248, na_l1344, na_l1875, na_l10000, ↓reduceIte, pf_and, pe_le, pf_le, pe_lt, pf_lt, pe_eq, pf_eq, true_and, and_true, false_and, and_false, true_or, or_true, false_or, or_false, ↓mmk, ↓mmo_0, ↓mmo_1, ↓mmo_2, ↓mmo_3, ↓mmo_4, ↓mmo_5, ↓mmo_6, ↓mmo_7, ↓mmo_8, ↓mmo_9, ↓mmo_10, ↓mmo_11, ↓mmo_12, ↓mmv_0, ↓mmv_2, ↓mmv_6, ↓mmv_11, ↓mmv_12, ↓mmg_1, ↓mmg_2, ↓mmg_3, ↓mmg_4, ↓mmg_5, ↓mmg_6, ↓mmg_7, ↓mmg_8, mma_1, mma_2, mma_3, mma_4, mma_5, mma_6, mma_7, mma_8, mmu_0, mmu_2, mmu_6, mmu_11, mmu_12, sa_eq, sa_ne, sa_up, I_189_0, I_189_1, e0, e1, e2, c187n]
    · have e1 := f1.2 p1
      rw [wk_n (fun z => p1 ⟨z.1, al_112.mp z.2⟩), if_neg Bool.false_ne_true]
      simp (disch := omega) only [Int.reduceAdd, Int.reduceMul, Int.reduceSub, Int.reduceNeg, na_add, na_sub, na_mul, na_neg, na_lt, na_le, na_eq, na_ofNat, bo_some, tl_some, tl_none, rc_int, rc_ref, rc_null, rc_none, rc_long, tb_0, tb_1, ↓mr_g0, mr_r0, mr_get, mr_upd, mr_at, mr_wr, Classical.not_not, not_true_eq_false, not_false_eq_true, na_l0, na_l1, na_l2, na_l3, na_l4, na_l5, na_l6, na_l7, na_l8, na_l9, na_l10, na_l14, na_l15, na_l16, na_l25, na_l30, na_l31, na_l32, na_l33, na_l39, na_l43, na_l45, na_l48, na_l49, na_l50, na_l51, na_l52, na_l53, na_l55, na_l56, na_l57, na_l60, na_l64, na_l71, na_l80, na_l96, na_l100, na_l101, na_l102, na_l103, na_l104, na_l105, na_l106, na_l107, na_l108, na_l109, na_l110, na_l111, na_l112, na_l113, na_l114, na_l115, na_l116, na_l117, na_l118, na_l119, na_l120, na_l121, na_l125, na_l128, na_l150, na_l192, na_l255, na_l999, na_l1000, na_l1248, na_l1344, na_l1875, na_l10000, ↓reduceIte, pf_and, pe_le, pf_le, pe_lt, pf_lt, pe_eq, pf_eq, true_and, and_true, false_and, and_false, true_or, or_true, false_or, or_false, ↓mmk, ↓mmo_0, ↓mmo_1, ↓mmo_2, ↓mmo_3, ↓mmo_4, ↓mmo_5, ↓mmo_6, ↓mmo_7, ↓mmo_8, ↓mmo_9, ↓mmo_10, ↓mmo_11, ↓mmo_12, ↓mmv_0, ↓mmv_2, ↓mmv_6, ↓mmv_11, ↓mmv_12, ↓mmg_1, ↓mmg_2, ↓mmg_3, ↓mmg_4, ↓mmg_5, ↓mmg_6, ↓mmg_7, ↓mmg_8, mma_1, mma_2, mma_3, mma_4, mma_5, mma_6, mma_7, mma_8, mmu_0, mmu_2, mmu_6, mmu_11, mmu_12, sa_eq, sa_ne, sa_up, I_189_0, I_189_1, e0, e1, c186n, c187n]
  · have e0 := f0.2 p0
    rw [wk_n (fun z => p0 ⟨z.1, al_119.mp z.2⟩), if_neg Bool.false_ne_true]
    simp (disch := omega) only [Int.reduceAdd, Int.reduceMul, Int.reduceSub, Int.reduceNeg, na_add, na_sub, na_mul, na_neg, na_lt, na_le, na_eq, na_ofNat, bo_some, tl_some, tl_none, rc_int, rc_ref, rc_null, rc_none, rc_long, tb_0, tb_1, ↓mr_g0, mr_r0, mr_get, mr_upd, mr_at, mr_wr, Classical.not_not, not_true_eq_false, not_false_eq_true, na_l0, na_l1, na_l2, na_l3, na_l4, na_l5, na_l6, na_l7, na_l8, na_l9, na_l10, na_l14, na_l15, na_l16, na_l25, na_l30, na_l31, na_l32, na_l33, na_l39, na_l43, na_l45, na_l48, na_l49, na_l50, na_l51, na_l52, na_l53, na_l55, na_l56, na_l57, na_l60, na_l64, na_l71, na_l80, na_l96, na_l100, na_l101, na_l102, na_l103, na_l104, na_l105, na_l106, na_l107, na_l108, na_l109, na_l110, na_l111, na_l112, na_l113, na_l114, na_l115, na_l116, na_l117, na_l118, na_l119, na_l120, na_l121, na_l125, na_l128, na_l150, na_l192, na_l255, na_l999, na_l1000, na_l1248, na_l1344, na_l1875, na_l10000, ↓reduceIte, pf_and, pe_le, pf_le, pe_lt, pf_lt, pe_eq, pf_eq, true_and, and_true, false_and, and_false, true_or, or_true, false_or, or_false, ↓mmk, ↓mmo_0, ↓mmo_1, ↓mmo_2, ↓mmo_3, ↓mmo_4, ↓mmo_5, ↓mmo_6, ↓mmo_7, ↓mmo_8, ↓mmo_9, ↓mmo_10, ↓mmo_11, ↓mmo_12, ↓mmv_0, ↓mmv_2, ↓mmv_6, ↓mmv_11, ↓mmv_12, ↓mmg_1, ↓mmg_2, ↓mmg_3, ↓mmg_4, ↓mmg_5, ↓mmg_6, ↓mmg_7, ↓mmg_8, mma_1, mma_2, mma_3, mma_4, mma_5, mma_6, mma_7, mma_8, mmu_0, mmu_2, mmu_6, mmu_11, mmu_12, sa_eq, sa_ne, sa_up, I_189_0, I_189_1, e0, c186n, c187n]
/-- readThing -/
theorem c190 {j b : Int} (hi : mi K (A 3)) (hb : b = 0 ∨ b = 1) (j1 : 0 ≤ j) (j2 : j ≤ 800) (ht : mt_ok S (A 1)) : cal 190 [.ref M, .ref (M + 3), .int (Int32.ofInt b)] (mm M (mr_st S 3 j) A σ) = if (tx_wk (A 1) (S 1) [119, 112, 100] j).2 = true then some (some (.int (Int32.ofInt 1)), mm M (mr_st (mr_st S 3 (j + 3)) 4 (S 4 + if (if b = 1 then mf_fF (A 3) (A 1 j - 48) (A 1 (j + 1) - 48) (A 1 (j + 2) - 48) else mf_fY (A 3) (A 1 j - 48) (A 1 (j + 1) - 48) (A 1 (j + 2) - 48)) = 0 then 0 else 1)) (ms_a A 3 (if b = 1 then mg_tF (A 3) (A 1 j - 48) (A 1 (j + 1) - 48) (A 1 (j + 2) - 48) else mg_tY (A 3) (A 1 j - 48) (A 1 (j + 1) - 48) (A 1 (j + 2) - 48))) σ) else some (some (.int (Int32.ofInt 0)), mm M (mr_st S 3 (tx_wk (A 1) (S 1) [119, 112, 100] j).1) A σ) := by
  have hc := hi.c
  have f0 := fy186 (M := M) (S := S) (A := A) (σ := σ) (a := 0) (j := j) (by omega) (by omega) j1 (by omega) ht
  rw [E_190]
  by_cases p0 : j < S 1 ∧ 48 ≤ A 1 j ∧ A 1 j ≤ 50
  · have e0 := f0.1 p0
    rw [wk_y ⟨p0.1, al_119.mpr p0.2⟩]
    have f1 := fy187 (M := M) (S := S) (A := A) (σ := σ) (a := A 1 j - 48) (j := j + 1) (by omega) (by omega) (by omega) (by omega) ht
    by_cases p1 : j + 1 < S 1 ∧ 48 ≤ A 1 (j + 1) ∧ A 1 (j + 1) ≤ 52
    · have e1 := f1.1 p1
      rw [wk_y ⟨p1.1, al_112.mpr p1.2⟩, show j + 1 + 1 = j + 2 by omega]
      rw [show j + 1 + 1 = j + 2 by omega] at e1
      have f2 := fy184 (M := M) (S := S) (A := A) (σ := σ) (a := A 1 (j + 1) - 48) (lo := 1) (hi := 9) (j := j + 2) (by omega) (by omega) (by omega) (by omega) (by omega) (by omega) (by omega) (by omega) ht
      by_cases p2 : j + 2 < S 1 ∧ 49 ≤ A 1 (j + 2) ∧ A 1 (j + 2) ≤ 57
      · have e2 := f2.1 p2
        rw [wk_y ⟨p2.1, al_100.mpr p2.2⟩, wk_0, if_pos rfl]
        rw [show j + 2 + 1 = j + 3 by omega] at e2
        obtain ⟨w, hw⟩ : ∃ w, A 1 j - 48 = w := ⟨_, rfl⟩
        obtain ⟨p, hp⟩ : ∃ p, A 1 (j + 1) - 48 = p := ⟨_, rfl⟩
        obtain ⟨g, hg⟩ : ∃ g, A 1 (j + 2) - 48 = g := ⟨_, rfl⟩
        have bw : 0 ≤ w ∧ w ≤ 2 := by omega
        have bp : 0 ≤ p ∧ p ≤ 4 := by omega
        have bg : 1 ≤ g ∧ g ≤ 9 := by omega
        rw [hw] at e0 e1
        rw [hp] at e1 e2
        rw [hg] at e2
        rw [hw, hp, hg]
        have d0 := fy185 (M := M) (S := S) (A := A) (σ := σ) (b := 0) (j := j + 3) (Or.inl rfl) ht
        rcases hb with rfl | rfl
        · simp only [show ¬ (0 : Int) = 1 by decide, if_false]
          have ec := c153 (a := M + 3) (R := A 3) (σ := mm M (mr_st S 3 (j + 3)) A σ) (w := w) (p := p) (by omega) (by omega) (by omega) (by omega) hi
          rw [mms_3] at ec
          have d1 := fy185a (M := M) (S := S) (A := A) (σ := σ) (b := 1) (j := j + 3) (B := mg_bring (A 3) w p g) (Or.inr rfl) ht
          unfold mg_tY
          have k0 : mf_fY (A 3) w p g = 0 ↔ (0 ≤ w ∧ w < (A 3) 0 ∧ 0 ≤ p ∧ p < (A 3) (9 + 10 * w + 0)) := by
            unfold mf_fY
            constructor
            · intro h
              by_cases z : 0 ≤ w ∧ w < (A 3) 0 ∧ 0 ≤ p ∧ p < (A 3) (9 + 10 * w + 0)
              · exact z
              · rw [if_neg z] at h; exact absurd h (by decide)
            · intro h
              rw [if_pos h, if_pos bg]
          by_cases q : mf_fY (A 3) w p g = 0
          · rw [if_pos q, if_pos q]
            have qk := k0.mp q
            rw [if_pos qk] at ec
            have el := c180 (a := M + 3) (R := A 3) (σ := mm M (mr_st S 3 (j + 3)) A σ) (w := w) (p := p) (n := g) hi qk.1 qk.2.1 qk.2.2.1 (by omega) (by omega) (by omega)
            rw [mms_3, mmr_3] at el
            have hww := hi.w qk.1 qk.2.1
            have hpb := mf_pad_bd (R := A 3) (w := w) p (by omega)
            have hy := hi.y (w := w) (k := mf_pad (A 3) w p) qk.1 qk.2.1 hpb.1 (by omega)
            have hm : 0 ≤ (A 3) (9 + 10 * w + 5 + mf_pad (A 3) w p) + g - mf_more (A 3) w p g ∧ (A 3) (9 + 10 * w + 5 + mf_pad (A 3) w p) + g - mf_more (A 3) w p g ≤ 9 := by
              unfold mf_more
              split <;> omega
            obtain ⟨rr, hrr⟩ : ∃ rr, (A 3) (9 + 10 * w + 5 + mf_pad (A 3) w p) + g - mf_more (A 3) w p g = rr := ⟨_, rfl⟩
            rw [hrr] at el hm
            simp (disch := omega) only [Int.reduceAdd, Int.reduceMul, Int.reduceSub, Int.reduceNeg, na_add, na_sub, na_mul, na_neg, na_lt, na_le, na_eq, na_ofNat, bo_some, tl_some, tl_none, rc_int, rc_ref, rc_null, rc_none, rc_long, tb_0, tb_1, ↓mr_g0, mr_r0, mr_get, mr_upd, mr_at, mr_wr, Classical.not_not, not_true_eq_false, not_false_eq_true, na_l0, na_l1, na_l2, na_l3, na_l4, na_l5, na_l6, na_l7, na_l8, na_l9, na_l10, na_l14, na_l15, na_l16, na_l25, na_l30, na_l31, na_l32, na_l33, na_l39, na_l43, na_l45, na_l48, na_l49, na_l50, na_l51, na_l52, na_l53, na_l55, na_l56, na_l57, na_l60, na_l64, na_l71, na_l80, na_l96, na_l100, na_l101, na_l102, na_l103, na_l104, na_l105, na_l106, na_l107, na_l108, na_l109, na_l110, na_l111, na_l112, na_l113, na_l114, na_l115, na_l116, na_l117, na_l118, na_l119, na_l120, na_l121, na_l125, na_l128, na_l150, na_l192, na_l255, na_l999, na_l1000, na_l1248, na_l1344, na_l1875, na_l10000, ↓reduceIte, pf_and, pe_le, pf_le, pe_lt, pf_lt, pe_eq, pf_eq, true_and, and_true, false_and, and_false, true_or, or_true, false_or, or_false, ↓mmk, ↓mmo_0, ↓mmo_1, ↓mmo_2, ↓mmo_3, ↓mmo_4, ↓mmo_5, ↓mmo_6, ↓mmo_7, ↓mmo_8, ↓mmo_9, ↓mmo_10, ↓mmo_11, ↓mmo_12, ↓mmv_0, ↓mmv_2, ↓mmv_6, ↓mmv_11, ↓mmv_12, ↓mmg_1, ↓mmg_2, ↓mmg_3, ↓mmg_4, ↓mmg_5, ↓mmg_6, ↓mmg_7, ↓mmg_8, mma_1, mma_2, mma_3, mma_4, mma_5, mma_6, mma_7, mma_8, mmu_0, mmu_2, mmu_6, mmu_11, mmu_12, sa_eq, sa_ne, sa_up, I_190_0, I_190_1, e0, e1, e2, ec, el, d1]
          · rw [if_neg q, if_neg q]
            rw [if_neg (fun z => q (k0.mpr z))] at ec
            simp (disch := omega) only [Int.reduceAdd, Int.reduceMul, Int.reduceSub, Int.reduceNeg, na_add, na_sub, na_mul, na_neg, na_lt, na_le, na_eq, na_ofNat, bo_some, tl_some, tl_none, rc_int, rc_ref, rc_null, rc_none, rc_long, tb_0, tb_1, ↓mr_g0, mr_r0, mr_get, mr_upd, mr_at, mr_wr, Classical.not_not, not_true_eq_false, not_false_eq_true, na_l0, na_l1, na_l2, na_l3, na_l4, na_l5, na_l6, na_l7, na_l8, na_l9, na_l10, na_l14, na_l15, na_l16, na_l25, na_l30, na_l31, na_l32, na_l33, na_l39, na_l43, na_l45, na_l48, na_l49, na_l50, na_l51, na_l52, na_l53, na_l55, na_l56, na_l57, na_l60, na_l64, na_l71, na_l80, na_l96, na_l100, na_l101, na_l102, na_l103, na_l104, na_l105, na_l106, na_l107, na_l108, na_l109, na_l110, na_l111, na_l112, na_l113, na_l114, na_l115, na_l116, na_l117, na_l118, na_l119, na_l120, na_l121, na_l125, na_l128, na_l150, na_l192, na_l255, na_l999, na_l1000, na_l1248, na_l1344, na_l1875, na_l10000, ↓reduceIte, pf_and, pe_le, pf_le, pe_lt, pf_lt, pe_eq, pf_eq, true_and, and_true, false_and, and_false, true_or, or_true, false_or, or_false, ↓mmk, ↓mmo_0, ↓mmo_1, ↓mmo_2, ↓mmo_3, ↓mmo_4, ↓mmo_5, ↓mmo_6, ↓mmo_7, ↓mmo_8, ↓mmo_9, ↓mmo_10, ↓mmo_11, ↓mmo_12, ↓mmv_0, ↓mmv_2, ↓mmv_6, ↓mmv_11, ↓mmv_12, ↓mmg_1, ↓mmg_2, ↓mmg_3, ↓mmg_4, ↓mmg_5, ↓mmg_6, ↓mmg_7, ↓mmg_8, mma_1, mma_2, mma_3, mma_4, mma_5, mma_6, mma_7, mma_8, mmu_0, mmu_2, mmu_6, mmu_11, mmu_12, sa_eq, sa_ne, sa_up, I_190_0, I_190_1, e0, e1, e2, ec, d0, sa_id]
        · rw [if_pos rfl, if_pos rfl]
          have ec := c178 (a := M + 3) (R := A 3) (σ := mm M (mr_st S 3 (j + 3)) A σ) (w := w) (p := p) (by omega) (by omega) (by omega) (by omega) hi
          rw [mms_3] at ec
          have d1 := fy185a (M := M) (S := S) (A := A) (σ := σ) (b := 1) (j := j + 3) (B := mg_frog (A 3) w p g) (Or.inr rfl) ht
          unfold mg_tF
          have k0 : mf_fF (A 3) w p g = 0 ↔ (0 ≤ w ∧ w < (A 3) 0 ∧ 0 ≤ p ∧ p < (A 3) (9 + 10 * w + 0)) ∧ mf_on (A 3) w (mf_pad (A 3) w p) = -1 ∧ (A 3) 2 < 5 := by
            unfold mf_fF
            constructor
            · intro h
              by_cases z : 0 ≤ w ∧ w < (A 3) 0 ∧ 0 ≤ p ∧ p < (A 3) (9 + 10 * w + 0)
              · rw [if_pos z, if_pos bg] at h
                by_cases z2 : mf_on (A 3) w (mf_pad (A 3) w p) = -1 ∧ (A 3) 2 < 5
                · exact ⟨z, z2⟩
                · rw [if_neg z2] at h; exact absurd h (by decide)
              · rw [if_neg z] at h; exact absurd h (by decide)
            · rintro ⟨z, z2⟩
              rw [if_pos z, if_pos bg, if_pos z2]
          by_cases q : mf_fF (A 3) w p g = 0
          · rw [if_pos q, if_pos q]
            have qk := k0.mp q
            rw [if_pos qk] at ec
            have el := c179 (a := M + 3) (R := A 3) (σ := mm M (mr_st S 3 (j + 3)) A σ) (w := w) (p := p) (g := g) hi qk.1.1 qk.1.2.1 qk.1.2.2.1 (by omega) qk.2.2
            rw [mms_3, mmr_3] at el
            have hr2 := hc.2.2.1
            simp (disch := omega) only [Int.reduceAdd, Int.reduceMul, Int.reduceSub, Int.reduceNeg, na_add, na_sub, na_mul, na_neg, na_lt, na_le, na_eq, na_ofNat, bo_some, tl_some, tl_none, rc_int, rc_ref, rc_null, rc_none, rc_long, tb_0, tb_1, ↓mr_g0, mr_r0, mr_get, mr_upd, mr_at, mr_wr, Classical.not_not, not_true_eq_false, not_false_eq_true, na_l0, na_l1, na_l2, na_l3, na_l4, na_l5, na_l6, na_l7, na_l8, na_l9, na_l10, na_l14, na_l15, na_l16, na_l25, na_l30, na_l31, na_l32, na_l33, na_l39, na_l43, na_l45, na_l48, na_l49, na_l50, na_l51, na_l52, na_l53, na_l55, na_l56, na_l57, na_l60, na_l64, na_l71, na_l80, na_l96, na_l100, na_l101, na_l102, na_l103, na_l104, na_l105, na_l106, na_l107, na_l108, na_l109, na_l110, na_l111, na_l112, na_l113, na_l114, na_l115, na_l116, na_l117, na_l118, na_l119, na_l120, na_l121, na_l125, na_l128, na_l150, na_l192, na_l255, na_l999, na_l1000, na_l1248, na_l1344, na_l1875, na_l10000, ↓reduceIte, pf_and, pe_le, pf_le, pe_lt, pf_lt, pe_eq, pf_eq, true_and, and_true, false_and, and_false, true_or, or_true, false_or, or_false, ↓mmk, ↓mmo_0, ↓mmo_1, ↓mmo_2, ↓mmo_3, ↓mmo_4, ↓mmo_5, ↓mmo_6, ↓mmo_7, ↓mmo_8, ↓mmo_9, ↓mmo_10, ↓mmo_11, ↓mmo_12, ↓mmv_0, ↓mmv_2, ↓mmv_6, ↓mmv_11, ↓mmv_12, ↓mmg_1, ↓mmg_2, ↓mmg_3, ↓mmg_4, ↓mmg_5, ↓mmg_6, ↓mmg_7, ↓mmg_8, mma_1, mma_2, mma_3, mma_4, mma_5, mma_6, mma_7, mma_8, mmu_0, mmu_2, mmu_6, mmu_11, mmu_12, sa_eq, sa_ne, sa_up, I_190_0, I_190_1, e0, e1, e2, ec, el, d1]
          · rw [if_neg q, if_neg q]
            rw [if_neg (fun z => q (k0.mpr z))] at ec
            simp (disch := omega) only [Int.reduceAdd, Int.reduceMul, Int.reduceSub, Int.reduceNeg, na_add, na_sub, na_mul, na_neg, na_lt, na_le, na_eq, na_ofNat, bo_some, tl_some, tl_none, rc_int, rc_ref, rc_null, rc_none, rc_long, tb_0, tb_1, ↓mr_g0, mr_r0, mr_get, mr_upd, mr_at, mr_wr, Classical.not_not, not_true_eq_false, not_false_eq_true, na_l0, na_l1, na_l2, na_l3, na_l4, na_l5, na_l6, na_l7, na_l8, na_l9, na_l10, na_l14, na_l15, na_l16, na_l25, na_l30, na_l31, na_l32, na_l33, na_l39, na_l43, na_l45, na_l48, na_l49, na_l50, na_l51, na_l52, na_l53, na_l55, na_l56, na_l57, na_l60, na_l64, na_l71, na_l80, na_l96, na_l100, na_l101, na_l102, na_l103, na_l104, na_l105, na_l106, na_l107, na_l108, na_l109, na_l110, na_l111, na_l112, na_l113, na_l114, na_l115, na_l116, na_l117, na_l118, na_l119, na_l120, na_l121, na_l125, na_l128, na_l150, na_l192, na_l255, na_l999, na_l1000, na_l1248, na_l1344, na_l1875, na_l10000, ↓reduceIte, pf_and, pe_le, pf_le, pe_lt, pf_lt, pe_eq, pf_eq, true_and, and_true, false_and, and_false, true_or, or_true, false_or, or_false, ↓mmk, ↓mmo_0, ↓mmo_1, ↓mmo_2, ↓mmo_3, ↓mmo_4, ↓mmo_5, ↓mmo_6, ↓mmo_7, ↓mmo_8, ↓mmo_9, ↓mmo_10, ↓mmo_11, ↓mmo_12, ↓mmv_0, ↓mmv_2, ↓mmv_6, ↓mmv_11, ↓mmv_12, ↓mmg_1, ↓mmg_2, ↓mmg_3, ↓mmg_4, ↓mmg_5, ↓mmg_6, ↓mmg_7, ↓mmg_8, mma_1, mma_2, mma_3, mma_4, mma_5, mma_6, mma_7, mma_8, mmu_0, mmu_2, mmu_6, mmu_11, mmu_12, sa_eq, sa_ne, sa_up, I_190_0, I_190_1, e0, e1, e2, ec, d0, sa_id]
      · have e2 := f2.2 p2
        rw [wk_n (fun z => p2 ⟨z.1, al_100.mp z.2⟩), if_neg Bool.false_ne_true]
        simp (disch := omega) only [Int.reduceAdd, Int.reduceMul, Int.reduceSub, Int.reduceNeg, na_add, na_sub, na_mul, na_neg, na_lt, na_le, na_eq, na_ofNat, bo_some, tl_some, tl_none, rc_int, rc_ref, rc_null, rc_none, rc_long, tb_0, tb_1, ↓mr_g0, mr_r0, mr_get, mr_upd, mr_at, mr_wr, Classical.not_not, not_true_eq_false, not_false_eq_true, na_l0, na_l1, na_l2, na_l3, na_l4, na_l5, na_l6, na_l7, na_l8, na_l9, na_l10, na_l14, na_l15, na_l16, na_l25, na_l30, na_l31, na_l32, na_l33, na_l39, na_l43, na_l45, na_l48, na_l49, na_l50, na_l51, na_l52, na_l53, na_l55, na_l56, na_l57, na_l60, na_l64, na_l71, na_l80, na_l96, na_l100, na_l101, na_l102, na_l103, na_l104, na_l105, na_l106, na_l107, na_l108, na_l109, na_l110, na_l111, na_l112, na_l113, na_l114, na_l115, na_l116, na_l117, na_l118, na_l119, na_l120, na_l121, na_l125, na_l128, na_l150, na_l192, na_l255, na_l999, na_l1000, na_l1248, na_l1344, na_l1875, na_l10000, ↓reduceIte, pf_and, pe_le, pf_le, pe_lt, pf_lt, pe_eq, pf_eq, true_and, and_true, false_and, and_false, true_or, or_true, false_or, or_false, ↓mmk, ↓mmo_0, ↓mmo_1, ↓mmo_2, ↓mmo_3, ↓mmo_4, ↓mmo_5, ↓mmo_6, ↓mmo_7, ↓mmo_8, ↓mmo_9, ↓mmo_10, ↓mmo_11, ↓mmo_12, ↓mmv_0, ↓mmv_2, ↓mmv_6, ↓mmv_11, ↓mmv_12, ↓mmg_1, ↓mmg_2, ↓mmg_3, ↓mmg_4, ↓mmg_5, ↓mmg_6, ↓mmg_7, ↓mmg_8, mma_1, mma_2, mma_3, mma_4, mma_5, mma_6, mma_7, mma_8, mmu_0, mmu_2, mmu_6, mmu_11, mmu_12, sa_eq, sa_ne, sa_up, I_190_0, I_190_1, e0, e1, e2]
    · have e1 := f1.2 p1
      rw [wk_n (fun z => p1 ⟨z.1, al_112.mp z.2⟩), if_neg Bool.false_ne_true]
      simp (disch := omega) only [Int.reduceAdd, Int.reduceMul, Int.reduceSub, Int.reduceNeg, na_add, na_sub, na_mul, na_neg, na_lt, na_le, na_eq, na_ofNat, bo_some, tl_some, tl_none, rc_int, rc_ref, rc_null, rc_none, rc_long, tb_0, tb_1, ↓mr_g0, mr_r0, mr_get, mr_upd, mr_at, mr_wr, Classical.not_not, not_true_eq_false, not_false_eq_true, na_l0, na_l1, na_l2, na_l3, na_l4, na_l5, na_l6, na_l7, na_l8, na_l9, na_l10, na_l14, na_l15, na_l16, na_l25, na_l30, na_l31, na_l32, na_l33, na_l39, na_l43, na_l45, na_l48, na_l49, na_l50, na_l51, na_l52, na_l53, na_l55, na_l56, na_l57, na_l60, na_l64, na_l71, na_l80, na_l96, na_l100, na_l101, na_l102, na_l103, na_l104, na_l105, na_l106, na_l107, na_l108, na_l109, na_l110, na_l111, na_l112, na_l113, na_l114, na_l115, na_l116, na_l117, na_l118, na_l119, na_l120, na_l121, na_l125, na_l128, na_l150, na_l192, na_l255, na_l999, na_l1000, na_l1248, na_l1344, na_l1875, na_l10000, ↓reduceIte, pf_and, pe_le, pf_le, pe_lt, pf_lt, pe_eq, pf_eq, true_and, and_true, false_and, and_false, true_or, or_true, false_or, or_false, ↓mmk, ↓mmo_0, ↓mmo_1, ↓mmo_2, ↓mmo_3, ↓mmo_4, ↓mmo_5, ↓mmo_6, ↓mmo_7, ↓mmo_8, ↓mmo_9, ↓mmo_10, ↓mmo_11, ↓mmo_12, ↓mmv_0, ↓mmv_2, ↓mmv_6, ↓mmv_11, ↓mmv_12, ↓mmg_1, ↓mmg_2, ↓mmg_3, ↓mmg_4, ↓mmg_5, ↓mmg_6, ↓mmg_7, ↓mmg_8, mma_1, mma_2, mma_3, mma_4, mma_5, mma_6, mma_7, mma_8, mmu_0, mmu_2, mmu_6, mmu_11, mmu_12, sa_eq, sa_ne, sa_up, I_190_0, I_190_1, e0, e1, c184n]
  · have e0 := f0.2 p0
    rw [wk_n (fun z => p0 ⟨z.1, al_119.mp z.2⟩), if_neg Bool.false_ne_true]
    simp (disch := omega) only [Int.reduceAdd, Int.reduceMul, Int.reduceSub, Int.reduceNeg, na_add, na_sub, na_mul, na_neg, na_lt, na_le, na_eq, na_ofNat, bo_some, tl_some, tl_none, rc_int, rc_ref, rc_null, rc_none, rc_long, tb_0, tb_1, ↓mr_g0, mr_r0, mr_get, mr_upd, mr_at, mr_wr, Classical.not_not, not_true_eq_false, not_false_eq_true, na_l0, na_l1, na_l2, na_l3, na_l4, na_l5, na_l6, na_l7, na_l8, na_l9, na_l10, na_l14, na_l15, na_l16, na_l25, na_l30, na_l31, na_l32, na_l33, na_l39, na_l43, na_l45, na_l48, na_l49, na_l50, na_l51, na_l52, na_l53, na_l55, na_l56, na_l57, na_l60, na_l64, na_l71, na_l80, na_l96, na_l100, na_l101, na_l102, na_l103, na_l104, na_l105, na_l106, na_l107, na_l108, na_l109, na_l110, na_l111, na_l112, na_l113, na_l114, na_l115, na_l116, na_l117, na_l118, na_l119, na_l120, na_l121, na_l125, na_l128, na_l150, na_l192, na_l255, na_l999, na_l1000, na_l1248, na_l1344, na_l1875, na_l10000, ↓reduceIte, pf_and, pe_le, pf_le, pe_lt, pf_lt, pe_eq, pf_eq, true_and, and_true, false_and, and_false, true_or, or_true, false_or, or_false, ↓mmk, ↓mmo_0, ↓mmo_1, ↓mmo_2, ↓mmo_3, ↓mmo_4, ↓mmo_5, ↓mmo_6, ↓mmo_7, ↓mmo_8, ↓mmo_9, ↓mmo_10, ↓mmo_11, ↓mmo_12, ↓mmv_0, ↓mmv_2, ↓mmv_6, ↓mmv_11, ↓mmv_12, ↓mmg_1, ↓mmg_2, ↓mmg_3, ↓mmg_4, ↓mmg_5, ↓mmg_6, ↓mmg_7, ↓mmg_8, mma_1, mma_2, mma_3, mma_4, mma_5, mma_6, mma_7, mma_8, mmu_0, mmu_2, mmu_6, mmu_11, mmu_12, sa_eq, sa_ne, sa_up, I_190_0, I_190_1, e0, c187n, c184n]
end MMB
