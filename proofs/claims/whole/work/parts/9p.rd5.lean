/-! The model reads: a text. -/
section TX
variable {X : mr_R} {n : Int} {K : Int} {z : mr_R × Int} {i : Int}
theorem tx_al0 {k j : Int} (h : tx_al X k j = true) (hk : k = 102 ∨ k = 108) : 48 ≤ X j := by
  rcases hk with e | e
  · subst e; exact (al_102.mp h).1
  · subst e; exact (al_108.mp h).1
theorem tx_two {k l : Int} (h : (tx_wk X n [k, l] i).2 = true) : (i < n ∧ tx_al X k i = true) ∧ (i + 1 < n ∧ tx_al X l (i + 1) = true) := by
  by_cases p : i < n ∧ tx_al X k i = true
  · rw [wk_y p] at h
    by_cases q : i + 1 < n ∧ tx_al X l (i + 1) = true
    · exact ⟨p, q⟩
    · rw [wk_n q] at h
      exact absurd h Bool.false_ne_true
  · rw [wk_n p] at h
    exact absurd h Bool.false_ne_true
theorem tx_mi (hi : mi K z.1) (hk : K + 20 ≤ 1000000) (hk0 : 0 ≤ K) (hok : (tx_cm X n i).2 = true) : mi (K + 20) (tx_do X i z).1 := by
  unfold tx_do
  split
  · unfold mg_tW
    show mi (K + 20) (if _ then _ else _)
    split
    · rename_i a
      exact mi_mono (mi_wheel hi (mf_fW_0 a).1 (mf_fW_0 a).2) (by omega) hk
    · exact mi_mono hi (by omega) hk
  split
  · unfold mg_tL
    show mi (K + 20) (if _ then _ else _)
    split
    · rename_i a
      exact mi_mono (mi_line hi (mf_fL_0 a)) (by omega) hk
    · exact mi_mono hi (by omega) hk
  split
  · unfold mg_tF
    show mi (K + 20) (if _ then _ else _)
    split
    · rename_i a
      exact mi_mono (mi_frog hi hk0 (mf_fF_0 a).1 (mf_fF_0 a).2) (by omega) hk
    · exact mi_mono hi (by omega) hk
  split
  · unfold mg_tY
    show mi (K + 20) (if _ then _ else _)
    split
    · rename_i a
      have b := mf_fY_0 a
      exact mi_mono (mi_bring hi (by omega) b.1.1 b.1.2.1 (by omega) (by omega)) (by omega) hk
    · exact mi_mono hi (by omega) hk
  split
  · rename_i e
    unfold tx_cm at hok
    rw [e, show tx_fm 106 = [102, 108] from rfl, if_neg (List.cons_ne_nil _ _)] at hok
    have h2 := tx_two hok
    have b1 := (al_102.mp h2.1.2).1
    have b2 := (al_108.mp h2.2.2).1
    rw [show i + 1 + 1 = i + 2 by omega] at b2
    split
    · exact mi_leap hi (by omega) (by omega) (by omega) (by omega) hk
    · exact mi_mono hi (by omega) hk
  split
  · rename_i e
    unfold tx_cm at hok
    rw [e, show tx_fm 104 = [102, 115] from rfl, if_neg (List.cons_ne_nil _ _)] at hok
    have h2 := tx_two hok
    have b1 := (al_102.mp h2.1.2).1
    split
    · exact mi_hop hi (by omega) (by omega) hk
    · exact mi_mono hi (by omega) hk
  · unfold mg_tT
    show mi (K + 20) (if _ then _ else _)
    split
    · rename_i a
      have b := mf_fT_0 a
      exact mi_mono (mi_turn2 hi b.1.1 b.1.2) (by omega) hk
    · exact mi_mono hi (by omega) hk
theorem tx_out : z.2 ≤ (tx_do X i z).2 ∧ (tx_do X i z).2 ≤ z.2 + 1 := by
  have h : ∀ (P : Prop) (d : Decidable P), z.2 ≤ z.2 + @ite Int P d 0 1 ∧ z.2 + @ite Int P d 0 1 ≤ z.2 + 1 := by
    intro P d
    by_cases q : P
    · rw [if_pos q]; omega
    · rw [if_neg q]; omega
  unfold tx_do
  split
  · exact h _ _
  split
  · exact h _ _
  split
  · exact h _ _
  split
  · exact h _ _
  split
  · split
    · exact h _ _
    · show z.2 ≤ z.2 + 1 ∧ z.2 + 1 ≤ z.2 + 1
      omega
  split
  · split
    · exact h _ _
    · show z.2 ≤ z.2 + 1 ∧ z.2 + 1 ≤ z.2 + 1
      omega
  · exact h _ _
end TX
section MMB
variable {M : Nat} {S : mr_R} {A : Nat → mr_R} {σ : ri_S}
theorem h193 (ht : (0 ≤ S 1 ∧ S 1 ≤ 120) ∧ ∀ i, 0 ≤ i → i < S 1 → 0 ≤ A 1 i ∧ A 1 i ≤ 255) : ∀ (m : Nat) (i o : Int) (R : mr_R) (K : Int), 1 ≤ i → S 1 - i ≤ m → 0 ≤ o → o ≤ i → i ≤ 121 → mi K R → 0 ≤ K → K + 20 * m ≤ 1000000 → ∃ j, mi (K + 20 * m) (tx_rn (A 1) (S 1) m i (R, o)).2.1 ∧ (0 ≤ (tx_rn (A 1) (S 1) m i (R, o)).2.2 ∧ (tx_rn (A 1) (S 1) m i (R, o)).2.2 ≤ 121) ∧ (-1 ≤ (tx_rn (A 1) (S 1) m i (R, o)).1 ∧ (tx_rn (A 1) (S 1) m i (R, o)).1 ≤ 120) ∧ ev 193 (39, [some (.ref M), some (.ref (M + 3))], []) (mm M (mr_st (mr_st S 4 o) 3 i) (ms_a A 3 R) σ) = some (some (.int (Int32.ofInt (tx_rn (A 1) (S 1) m i (R, o)).1)), mm M (mr_st (mr_st S 4 (tx_rn (A 1) (S 1) m i (R, o)).2.2) 3 j) (ms_a A 3 (tx_rn (A 1) (S 1) m i (R, o)).2.1) σ) := by
  intro m
  induction m with
  | zero =>
    intro i o R K h1 h2 h3 h4 h5 hi hk0 hk
    refine ⟨i, ?_, ⟨h3, by show o ≤ 121; omega⟩, ⟨by show (-1 : Int) ≤ -1; omega, by show (-1 : Int) ≤ 120; omega⟩, ?_⟩
    · rw [show K + 20 * ((0 : Nat) : Int) = K by omega]; exact hi
    · obtain ⟨T, hT⟩ : ∃ T, mr_st (mr_st S 4 o) 3 i = T := ⟨_, rfl⟩
      have t3 : T 3 = i := by rw [← hT]; exact ms_eq rfl
      have t1 : T 1 = S 1 := by rw [← hT, ms_ne (by omega), ms_ne (by omega)]
      show _ = some (some (Value.int (Int32.ofInt (-1))), mm M (mr_st (mr_st S 4 o) 3 i) (ms_a A 3 R) σ)
      rw [hT, H_193_39]
      simp (disch := omega) only [Int.reduceAdd, Int.reduceMul, Int.reduceSub, Int.reduceNeg, na_add, na_sub, na_mul, na_neg, na_lt, na_le, na_eq, na_ofNat, bo_some, tl_some, tl_none, rc_int, rc_ref, rc_null, rc_none, rc_long, tb_0, tb_1, ↓mr_g0, mr_r0, mr_get, mr_upd, mr_at, mr_wr, Classical.not_not, not_true_eq_false, not_false_eq_true, na_l0, na_l1, na_l2, na_l3, na_l4, na_l5, na_l6, na_l7, na_l8, na_l9, na_l10, na_l14, na_l15, na_l16, na_l25, na_l30, na_l31, na_l32, na_l33, na_l39, na_l43, na_l45, na_l48, na_l49, na_l50, na_l51, na_l52, na_l53, na_l55, na_l56, na_l57, na_l60, na_l64, na_l71, na_l80, na_l96, na_l100, na_l101, na_l102, na_l103, na_l104, na_l105, na_l106, na_l107, na_l108, na_l109, na_l110, na_l111, na_l112, na_l113, na_l114, na_l115, na_l116, na_l117, na_l118, na_l119, na_l120, na_l121, na_l125, na_l128, na_l150, na_l192, na_l255, na_l999, na_l1000, na_l1248, na_l1344, na_l1875, na_l10000, ↓reduceIte, pf_and, pe_le, pf_le, pe_lt, pf_lt, pe_eq, pf_eq, true_and, and_true, false_and, and_false, true_or, or_true, false_or, or_false, ↓mmk, ↓mmo_0, ↓mmo_1, ↓mmo_2, ↓mmo_3, ↓mmo_4, ↓mmo_5, ↓mmo_6, ↓mmo_7, ↓mmo_8, ↓mmo_9, ↓mmo_10, ↓mmo_11, ↓mmo_12, ↓mmv_0, ↓mmv_2, ↓mmv_6, ↓mmv_11, ↓mmv_12, ↓mmg_1, ↓mmg_2, ↓mmg_3, ↓mmg_4, ↓mmg_5, ↓mmg_6, ↓mmg_7, ↓mmg_8, mma_1, mma_2, mma_3, mma_4, mma_5, mma_6, mma_7, mma_8, mmu_0, mmu_2, mmu_6, mmu_11, mmu_12, sa_eq, sa_ne, sa_up, I_193]
  | succ m ih =>
    intro i o R K h1 h2 h3 h4 h5 hi hk0 hk
    obtain ⟨T, hT⟩ : ∃ T, mr_st (mr_st S 4 o) 3 i = T := ⟨_, rfl⟩
    have t3 : T 3 = i := by rw [← hT]; exact ms_eq rfl
    have t1 : T 1 = S 1 := by rw [← hT, ms_ne (by omega), ms_ne (by omega)]
    by_cases q : i < S 1
    · have s1 : mr_st S 4 o 1 = S 1 := ms_ne (by omega)
      have s4 : mr_st S 4 o 4 = o := ms_eq rfl
      have ec := c192 (M := M) (S := mr_st S 4 o) (A := ms_a A 3 R) (σ := σ) (K := K) (i := i) (by rw [sa_eq rfl]; exact hi) (by omega) (by omega) (by rw [s1]; exact q) ⟨by rw [s1]; exact ht.1, by rw [s4]; omega, by rw [s1, sa_ne (by decide)]; exact ht.2⟩
      rw [s1, s4, sa_ne (show (1 : Nat) ≠ 3 by decide), sa_eq rfl] at ec
      have hle := tx_cm_le (X := A 1) q
      unfold tx_rn
      rw [if_pos q]
      by_cases c : (tx_cm (A 1) (S 1) i).2 = true
      · have hm := tx_mi (X := A 1) (n := S 1) (i := i) (z := (R, o)) hi (by omega) hk0 c
        have ho := tx_out (X := A 1) (i := i) (z := (R, o))
        have hc := hle.2.2 c
        rw [if_pos c] at ec ⊢
        obtain ⟨z2, hz2⟩ : ∃ z2, tx_do (A 1) i (R, o) = z2 := ⟨_, rfl⟩
        rw [hz2] at hm ho ec ⊢
        obtain ⟨j, a1, a2, a3, a4⟩ := ih (tx_cm (A 1) (S 1) i).1 z2.2 z2.1 (K + 20) (by omega) (by omega) (by have : o ≤ z2.2 := ho.1; omega) (by have : z2.2 ≤ o + 1 := ho.2; omega) (by omega) hm (by omega) (by omega)
        refine ⟨j, ?_, a2, a3, Eq.trans ?_ a4⟩
        · rw [show K + 20 * ((m + 1 : Nat) : Int) = K + 20 + 20 * (m : Int) by omega]; exact a1
        · have es : mr_st (mr_st (mr_st S 4 o) 3 (tx_cm (A 1) (S 1) i).1) 4 z2.2 = mr_st (mr_st S 4 z2.2) 3 (tx_cm (A 1) (S 1) i).1 := by
            rw [ms_cm (show (3 : Int) ≠ 4 by omega), ms_up]
          rw [es, sa_up, hT] at ec
          rw [hT]
          generalize hQ : ev 193 (39, [some (.ref M), some (.ref (M + 3))], []) (mm M (mr_st (mr_st S 4 z2.2) 3 (tx_cm (A 1) (S 1) i).1) (ms_a A 3 z2.1) σ) = Q
          rw [H_193_39]
          simp (disch := omega) only [Int.reduceAdd, Int.reduceMul, Int.reduceSub, Int.reduceNeg, na_add, na_sub, na_mul, na_neg, na_lt, na_le, na_eq, na_ofNat, bo_some, tl_some, tl_none, rc_int, rc_ref, rc_null, rc_none, rc_long, tb_0, tb_1, ↓mr_g0, mr_r0, mr_get, mr_upd, mr_at, mr_wr, Classical.not_not, not_true_eq_false, not_false_eq_true, na_l0, na_l1, na_l2, na_l3, na_l4, na_l5, na_l6, na_l7, na_l8, na_l9, na_l10, na_l14, na_l15, na_l16, na_l25, na_l30, na_l31, na_l32, na_l33, na_l39, na_l43, na_l45, na_l48, na_l49, na_l50, na_l51, na_l52, na_l53, na_l55, na_l56, na_l57, na_l60, na_l64, na_l71, na_l80, na_l96, na_l100, na_l101, na_l102, na_l103, na_l104, na_l105, na_l106, na_l107, na_l108, na_l109, na_l110, na_l111, na_l112, na_l113, na_l114, na_l115, na_l116, na_l117, na_l118, na_l119, na_l120, na_l121, na_l125, na_l128, na_l150, na_l192, na_l255, na_l999, na_l1000, na_l1248, na_l1344, na_l1875, na_l10000, ↓reduceIte, pf_and, pe_le, pf_le, pe_lt, pf_lt, pe_eq, pf_eq, true_and, and_true, false_and, and_false, true_or, or_true, false_or, or_false, ↓mmk, ↓mmo_0, ↓mmo_1, ↓mmo_2, ↓mmo_3, ↓mmo_4, ↓mmo_5, ↓mmo_6, ↓mmo_7, ↓mmo_8, ↓mmo_9, ↓mmo_10, ↓mmo_11, ↓mmo_12, ↓mmv_0, ↓mmv_2, ↓mmv_6, ↓mmv_11, ↓mmv_12, ↓mmg_1, ↓mmg_2, ↓mmg_3, ↓mmg_4, ↓mmg_5, ↓mmg_6, ↓mmg_7, ↓mmg_8, mma_1, mma_2, mma_3, mma_4, mma_5, mma_6, mma_7, mma_8, mmu_0, mmu_2, mmu_6, mmu_11, mmu_12, sa_eq, sa_ne, sa_up, I_193, ec, hQ]
      · rw [if_neg c] at ec ⊢
        refine ⟨(tx_cm (A 1) (S 1) i).1, mi_mono hi (by omega) hk, ⟨h3, by show o ≤ 121; omega⟩, ⟨by show -1 ≤ (tx_cm (A 1) (S 1) i).1; omega, by show (tx_cm (A 1) (S 1) i).1 ≤ 120; omega⟩, ?_⟩
        show _ = some (some (Value.int (Int32.ofInt (tx_cm (A 1) (S 1) i).1)), mm M (mr_st (mr_st S 4 o) 3 (tx_cm (A 1) (S 1) i).1) (ms_a A 3 R) σ)
        obtain ⟨T2, hT2⟩ : ∃ T2, mr_st (mr_st S 4 o) 3 (tx_cm (A 1) (S 1) i).1 = T2 := ⟨_, rfl⟩
        have t23 : T2 3 = (tx_cm (A 1) (S 1) i).1 := by rw [← hT2]; exact ms_eq rfl
        rw [hT2, hT] at ec
        rw [hT, hT2, ← t23, H_193_39]
        simp (disch := omega) only [Int.reduceAdd, Int.reduceMul, Int.reduceSub, Int.reduceNeg, na_add, na_sub, na_mul, na_neg, na_lt, na_le, na_eq, na_ofNat, bo_some, tl_some, tl_none, rc_int, rc_ref, rc_null, rc_none, rc_long, tb_0, tb_1, ↓mr_g0, mr_r0, mr_get, mr_upd, mr_at, mr_wr, Classical.not_not, not_true_eq_false, not_false_eq_true, na_l0, na_l1, na_l2, na_l3, na_l4, na_l5, na_l6, na_l7, na_l8, na_l9, na_l10, na_l14, na_l15, na_l16, na_l25, na_l30, na_l31, na_l32, na_l33, na_l39, na_l43, na_l45, na_l48, na_l49, na_l50, na_l51, na_l52, na_l53, na_l55, na_l56, na_l57, na_l60, na_l64, na_l71, na_l80, na_l96, na_l100, na_l101, na_l102, na_l103, na_l104, na_l105, na_l106, na_l107, na_l108, na_l109, na_l110, na_l111, na_l112, na_l113, na_l114, na_l115, na_l116, na_l117, na_l118, na_l119, na_l120, na_l121, na_l125, na_l128, na_l150, na_l192, na_l255, na_l999, na_l1000, na_l1248, na_l1344, na_l1875, na_l10000, ↓reduceIte, pf_and, pe_le, pf_le, pe_lt, pf_lt, pe_eq, pf_eq, true_and, and_true, false_and, and_false, true_or, or_true, false_or, or_false, ↓mmk, ↓mmo_0, ↓mmo_1, ↓mmo_2, ↓mmo_3, ↓mmo_4, ↓mmo_5, ↓mmo_6, ↓mmo_7, ↓mmo_8, ↓mmo_9, ↓mmo_10, ↓mmo_11, ↓mmo_12, ↓mmv_0, ↓mmv_2, ↓mmv_6, ↓mmv_11, ↓mmv_12, ↓mmg_1, ↓mmg_2, ↓mmg_3, ↓mmg_4, ↓mmg_5, ↓mmg_6, ↓mmg_7, ↓mmg_8, mma_1, mma_2, mma_3, mma_4, mma_5, mma_6, mma_7, mma_8, mmu_0, mmu_2, mmu_6, mmu_11, mmu_12, sa_eq, sa_ne, sa_up, I_193, ec]
    · unfold tx_rn
      rw [if_neg q]
      refine ⟨i, mi_mono hi (by omega) hk, ⟨h3, by show o ≤ 121; omega⟩, ⟨by show (-1 : Int) ≤ -1; omega, by show (-1 : Int) ≤ 120; omega⟩, ?_⟩
      show _ = some (some (Value.int (Int32.ofInt (-1))), mm M (mr_st (mr_st S 4 o) 3 i) (ms_a A 3 R) σ)
      rw [hT, H_193_39]
      simp (disch := omega) only [Int.reduceAdd, Int.reduceMul, Int.reduceSub, Int.reduceNeg, na_add, na_sub, na_mul, na_neg, na_lt, na_le, na_eq, na_ofNat, bo_some, tl_some, tl_none, rc_int, rc_ref, rc_null, rc_none, rc_long, tb_0, tb_1, ↓mr_g0, mr_r0, mr_get, mr_upd, mr_at, mr_wr, Classical.not_not, not_true_eq_false, not_false_eq_true, na_l0, na_l1, na_l2, na_l3, na_l4, na_l5, na_l6, na_l7, na_l8, na_l9, na_l10, na_l14, na_l15, na_l16, na_l25, na_l30, na_l31, na_l32, na_l33, na_l39, na_l43, na_l45, na_l48, na_l49, na_l50, na_l51, na_l52, na_l53, na_l55, na_l56, na_l57, na_l60, na_l64, na_l71, na_l80, na_l96, na_l100, na_l101, na_l102, na_l103, na_l104, na_l105, na_l106, na_l107, na_l108, na_l109, na_l110, na_l111, na_l112, na_l113, na_l114, na_l115, na_l116, na_l117, na_l118, na_l119, na_l120, na_l121, na_l125, na_l128, na_l150, na_l192, na_l255, na_l999, na_l1000, na_l1248, na_l1344, na_l1875, na_l10000, ↓reduceIte, pf_and, pe_le, pf_le, pe_lt, pf_lt, pe_eq, pf_eq, true_and, and_true, false_and, and_false, true_or, or_true, false_or, or_false, ↓mmk, ↓mmo_0, ↓mmo_1, ↓mmo_2, ↓mmo_3, ↓mmo_4, ↓mmo_5, ↓mmo_6, ↓mmo_7, ↓mmo_8, ↓mmo_9, ↓mmo_10, ↓mmo_11, ↓mmo_12, ↓mmv_0, ↓mmv_2, ↓mmv_6, ↓mmv_11, ↓mmv_12, ↓mmg_1, ↓mmg_2, ↓mmg_3, ↓mmg_4, ↓mmg_5, ↓mmg_6, ↓mmg_7, ↓mmg_8, mma_1, mma_2, mma_3, mma_4, mma_5, mma_6, mma_7, mma_8, mmu_0, mmu_2, mmu_6, mmu_11, mmu_12, sa_eq, sa_ne, sa_up, I_193]
end MMB
