/-! The model reads: wheels and lines. -/
def mt_ok (S X : mr_R) : Prop := (0 ≤ S 1 ∧ S 1 ≤ 120) ∧ (0 ≤ S 4 ∧ S 4 ≤ 900) ∧ ∀ i, 0 ≤ i → i < S 1 → 0 ≤ X i ∧ X i ≤ 255
section AL
variable {X : mr_R} {n j k : Int} {l : List Int}
theorem al_110 : tx_al X 110 j = true ↔ 51 ≤ X j ∧ X j ≤ 53 := decide_eq_true_iff
theorem al_111 : tx_al X 111 j = true ↔ 48 ≤ X j ∧ X j ≤ 56 := decide_eq_true_iff
theorem al_116 : tx_al X 116 j = true ↔ 48 ≤ X j ∧ X j ≤ 51 := decide_eq_true_iff
theorem al_117 : tx_al X 117 j = true ↔ 48 ≤ X j ∧ X j ≤ (if X (j - 1) = 51 then 48 else 57) := decide_eq_true_iff
theorem al_119 : tx_al X 119 j = true ↔ 48 ≤ X j ∧ X j ≤ 50 := decide_eq_true_iff
theorem al_112 : tx_al X 112 j = true ↔ 48 ≤ X j ∧ X j ≤ 52 := decide_eq_true_iff
theorem al_102 : tx_al X 102 j = true ↔ 48 ≤ X j ∧ X j ≤ 52 := decide_eq_true_iff
theorem al_100 : tx_al X 100 j = true ↔ 49 ≤ X j ∧ X j ≤ 57 := decide_eq_true_iff
theorem al_108 : tx_al X 108 j = true ↔ 48 ≤ X j ∧ X j ≤ 55 := decide_eq_true_iff
theorem al_107 : tx_al X 107 j = true ↔ 49 ≤ X j ∧ X j ≤ 52 := decide_eq_true_iff
theorem al_115 : tx_al X 115 j = true ↔ X j = 43 ∨ X j = 45 := decide_eq_true_iff
theorem wk_y (h : j < n ∧ tx_al X k j = true) : tx_wk X n (k :: l) j = tx_wk X n l (j + 1) := if_pos h
theorem wk_n (h : ¬ (j < n ∧ tx_al X k j = true)) : tx_wk X n (k :: l) j = (j, false) := if_neg h
theorem wk_0 : tx_wk X n [] j = (j, true) := rfl
end AL
section MMB
variable {M : Nat} {S : mr_R} {A : Nat → mr_R} {σ : ri_S} {K : Int}
theorem fy184 {a lo hi j : Int} (a1 : 0 ≤ a) (a2 : a ≤ 1000) (l1 : 0 ≤ lo) (l2 : lo ≤ 9) (g1 : 0 ≤ hi) (g2 : hi ≤ 9) (j1 : 0 ≤ j) (j2 : j ≤ 900) (ht : mt_ok S (A 1)) : (j < S 1 ∧ 48 + lo ≤ A 1 j ∧ A 1 j ≤ 48 + hi → cal 184 [.ref M, .int (Int32.ofInt a), .int (Int32.ofInt 1), .int (Int32.ofInt lo), .int (Int32.ofInt hi)] (mm M (mr_st S 3 j) A σ) = some (some (.int (Int32.ofInt (A 1 j - 48))), mm M (mr_st S 3 (j + 1)) A σ)) ∧ (¬ (j < S 1 ∧ 48 + lo ≤ A 1 j ∧ A 1 j ≤ 48 + hi) → cal 184 [.ref M, .int (Int32.ofInt a), .int (Int32.ofInt 1), .int (Int32.ofInt lo), .int (Int32.ofInt hi)] (mm M (mr_st S 3 j) A σ) = some (some (.int (Int32.ofInt (-1))), mm M (mr_st S 3 j) A σ)) := by
  have s3 : mr_st S 3 j 3 = j := ms_eq rfl
  have s1 : mr_st S 3 j 1 = S 1 := ms_ne (by omega)
  have e := c184a (M := M) (S := mr_st S 3 j) (A := A) (σ := σ) a1 a2 l1 l2 g1 g2 (by rw [s3]; exact j1) (by rw [s3]; omega) (by rw [s1]; exact ht.1.1) (by rw [s1]; exact ht.1.2) (by rw [s1]; exact ht.2.2)
  rw [s3, s1, ms_up] at e
  exact ⟨fun h => by rw [e, if_pos h], fun h => by rw [e, if_neg h]⟩
theorem fy186 {a j : Int} (a1 : 0 ≤ a) (a2 : a ≤ 1000) (j1 : 0 ≤ j) (j2 : j ≤ 900) (ht : mt_ok S (A 1)) : (j < S 1 ∧ 48 ≤ A 1 j ∧ A 1 j ≤ 50 → cal 186 [.ref M, .int (Int32.ofInt a)] (mm M (mr_st S 3 j) A σ) = some (some (.int (Int32.ofInt (A 1 j - 48))), mm M (mr_st S 3 (j + 1)) A σ)) ∧ (¬ (j < S 1 ∧ 48 ≤ A 1 j ∧ A 1 j ≤ 50) → cal 186 [.ref M, .int (Int32.ofInt a)] (mm M (mr_st S 3 j) A σ) = some (some (.int (Int32.ofInt (-1))), mm M (mr_st S 3 j) A σ)) := by
  have s3 : mr_st S 3 j 3 = j := ms_eq rfl
  have s1 : mr_st S 3 j 1 = S 1 := ms_ne (by omega)
  have e := c186 (M := M) (S := mr_st S 3 j) (A := A) (σ := σ) a1 a2 (by rw [s3]; exact j1) (by rw [s3]; omega) (by rw [s1]; exact ht.1.1) (by rw [s1]; exact ht.1.2) (by rw [s1]; exact ht.2.2)
  rw [s3, s1, ms_up] at e
  exact ⟨fun h => by rw [e, if_pos h], fun h => by rw [e, if_neg h]⟩
theorem fy187 {a j : Int} (a1 : 0 ≤ a) (a2 : a ≤ 1000) (j1 : 0 ≤ j) (j2 : j ≤ 900) (ht : mt_ok S (A 1)) : (j < S 1 ∧ 48 ≤ A 1 j ∧ A 1 j ≤ 52 → cal 187 [.ref M, .int (Int32.ofInt a)] (mm M (mr_st S 3 j) A σ) = some (some (.int (Int32.ofInt (A 1 j - 48))), mm M (mr_st S 3 (j + 1)) A σ)) ∧ (¬ (j < S 1 ∧ 48 ≤ A 1 j ∧ A 1 j ≤ 52) → cal 187 [.ref M, .int (Int32.ofInt a)] (mm M (mr_st S 3 j) A σ) = some (some (.int (Int32.ofInt (-1))), mm M (mr_st S 3 j) A σ)) := by
  have s3 : mr_st S 3 j 3 = j := ms_eq rfl
  have s1 : mr_st S 3 j 1 = S 1 := ms_ne (by omega)
  have e := c187 (M := M) (S := mr_st S 3 j) (A := A) (σ := σ) a1 a2 (by rw [s3]; exact j1) (by rw [s3]; omega) (by rw [s1]; exact ht.1.1) (by rw [s1]; exact ht.1.2) (by rw [s1]; exact ht.2.2)
  rw [s3, s1, ms_up] at e
  exact ⟨fun h => by rw [e, if_pos h], fun h => by rw [e, if_neg h]⟩
theorem fy185 {b j : Int} (h : b = 0 ∨ b = 1) (ht : mt_ok S (A 1)) : cal 185 [.ref M, .int (Int32.ofInt b)] (mm M (mr_st S 3 j) A σ) = some (some (.int (Int32.ofInt 1)), mm M (mr_st (mr_st S 3 j) 4 (S 4 + (1 - b))) A σ) := by
  have s4 : mr_st S 3 j 4 = S 4 := ms_ne (by omega)
  have e := c185 (M := M) (S := mr_st S 3 j) (A := A) (σ := σ) h (by rw [s4]; exact ht.2.1.1) (by rw [s4]; have := ht.2.1.2; omega)
  rw [s4] at e
  exact e
theorem fy185a {b j : Int} {B : mr_R} (h : b = 0 ∨ b = 1) (ht : mt_ok S (A 1)) : cal 185 [.ref M, .int (Int32.ofInt b)] (mm M (mr_st S 3 j) (ms_a A 3 B) σ) = some (some (.int (Int32.ofInt 1)), mm M (mr_st (mr_st S 3 j) 4 (S 4 + (1 - b))) (ms_a A 3 B) σ) := fy185 (A := ms_a A 3 B) h (by rw [sa_ne (by decide)]; exact ht)
/-- readWheel -/
theorem c188 {j : Int} (hi : mi K (A 3)) (j1 : 0 ≤ j) (j2 : j ≤ 800) (ht : mt_ok S (A 1)) : cal 188 [.ref M, .ref (M + 3)] (mm M (mr_st S 3 j) A σ) = if (tx_wk (A 1) (S 1) [110, 111, 116, 117] j).2 = true then some (some (.int (Int32.ofInt 1)), mm M (mr_st (mr_st S 3 (j + 4)) 4 (S 4 + if mf_fW (A 3) (A 1 j - 48) (A 1 (j + 1) - 48 - 4) (10 * (A 1 (j + 2) - 48) + (A 1 (j + 3) - 48)) = 0 then 0 else 1)) (ms_a A 3 (mg_tW (A 3) (A 1 j - 48) (A 1 (j + 1) - 48 - 4) (10 * (A 1 (j + 2) - 48) + (A 1 (j + 3) - 48)))) σ) else some (some (.int (Int32.ofInt 0)), mm M (mr_st S 3 (tx_wk (A 1) (S 1) [110, 111, 116, 117] j).1) A σ) := by
  have hc := hi.c
  have f0 := fy184 (M := M) (S := S) (A := A) (σ := σ) (a := 0) (lo := 3) (hi := 5) (j := j) (by omega) (by omega) (by omega) (by omega) (by omega) (by omega) j1 (by omega) ht
  rw [E_188]
  by_cases p0 : j < S 1 ∧ 51 ≤ A 1 j ∧ A 1 j ≤ 53
  · have e0 := f0.1 p0
    rw [wk_y ⟨p0.1, al_110.mpr p0.2⟩]
    have f1 := fy184 (M := M) (S := S) (A := A) (σ := σ) (a := A 1 j - 48) (lo := 0) (hi := 8) (j := j + 1) (by omega) (by omega) (by omega) (by omega) (by omega) (by omega) (by omega) (by omega) ht
    by_cases p1 : j + 1 < S 1 ∧ 48 ≤ A 1 (j + 1) ∧ A 1 (j + 1) ≤ 56
    · have e1 := f1.1 p1
      rw [wk_y ⟨p1.1, al_111.mpr p1.2⟩, show j + 1 + 1 = j + 2 by omega]
      rw [show j + 1 + 1 = j + 2 by omega] at e1
      have s3 : mr_st S 3 (j + 2) 3 = j + 2 := ms_eq rfl
      have s1 : mr_st S 3 (j + 2) 1 = S 1 := ms_ne (by omega)
      have e2 := c184c (M := M) (S := mr_st S 3 (j + 2)) (A := A) (σ := σ) (a := A 1 (j + 1) - 48) (by omega) (by omega) (by rw [s3]; omega) (by rw [s3]; omega) (by rw [s1]; exact ht.1.1) (by rw [s1]; exact ht.1.2) (by rw [s1]; exact ht.2.2)
      rw [s3, s1, ms_up, ms_up, show j + 2 + 1 = j + 3 by omega, show j + 2 + 2 = j + 4 by omega] at e2
      by_cases p2 : j + 2 < S 1 ∧ 48 ≤ A 1 (j + 2) ∧ A 1 (j + 2) ≤ 51
      · rw [wk_y ⟨p2.1, al_116.mpr p2.2⟩, show j + 2 + 1 = j + 3 by omega]
        rw [if_pos p2] at e2
        by_cases p3 : j + 3 < S 1 ∧ 48 ≤ A 1 (j + 3) ∧ A 1 (j + 3) ≤ (if A 1 (j + 2) = 51 then 48 else 57)
        · rw [wk_y ⟨p3.1, al_117.mpr (by rw [show j + 3 - 1 = j + 2 by omega]; exact p3.2)⟩, wk_0]
          rw [if_pos p3] at e2
          have b3 : A 1 (j + 3) ≤ 57 ∧ (A 1 (j + 2) = 51 → A 1 (j + 3) ≤ 48) := by
            have := p3.2.2
            by_cases e : A 1 (j + 2) = 51
            · rw [if_pos e] at this; exact ⟨by omega, fun _ => this⟩
            · rw [if_neg e] at this; exact ⟨this, fun z => absurd z e⟩
          have bx := ht.1
          obtain ⟨b3a, b3b⟩ := b3
          have hs : 10 * (A 1 (j + 2) - 48) + (A 1 (j + 3) - 48) ≤ 30 := by
            by_cases e : A 1 (j + 2) = 51
            · have := b3b e; omega
            · omega
          have hp2 := p2.2
          have hp3 := p3.2.1
          clear p3 b3b e0 f0 f1
          have e0 := (fy184 (M := M) (S := S) (A := A) (σ := σ) (a := 0) (lo := 3) (hi := 5) (j := j) (by omega) (by omega) (by omega) (by omega) (by omega) (by omega) j1 (by omega) ht).1 p0
          rw [if_pos rfl]
          have c175' := c175 (a := M + 3) (R := A 3) (σ := mm M (mr_st S 3 (j + 4)) A σ) (n := A 1 j - 48) (no := A 1 (j + 1) - 48 - 4) (s := 10 * (A 1 (j + 2) - 48) + (A 1 (j + 3) - 48)) hc.1.1
          rw [mms_3, mmr_3] at c175'
          have k0 : mf_fW (A 3) (A 1 j - 48) (A 1 (j + 1) - 48 - 4) (10 * (A 1 (j + 2) - 48) + (A 1 (j + 3) - 48)) = if A 3 0 < 3 then 0 else 3 := by
            unfold mf_fW
            rw [if_pos ⟨by omega, by omega, by omega⟩]
          unfold mg_tW
          rw [k0]
          obtain ⟨ss, hss⟩ : ∃ ss, 10 * (A 1 (j + 2) - 48) + (A 1 (j + 3) - 48) = ss := ⟨_, rfl⟩
          have b0 : 0 ≤ ss := by omega
          rw [hss] at e2 c175' hs ⊢
          have d1 := fy185a (M := M) (S := S) (A := A) (σ := σ) (b := 1) (j := j + 4) (B := mg_wheel (A 3) (A 1 j - 48) (A 1 (j + 1) - 48 - 4) ss) (Or.inr rfl) ht
          have d0 := fy185 (M := M) (S := S) (A := A) (σ := σ) (b := 0) (j := j + 4) (Or.inl rfl) ht
          by_cases q : A 3 0 < 3
          · have c175'' := c175' q
            rw [if_pos q, if_pos rfl, if_pos rfl]
            simp (disch := omega) only [Int.reduceAdd, Int.reduceMul, Int.reduceSub, Int.reduceNeg, na_add, na_sub, na_mul, na_neg, na_lt, na_le, na_eq, na_ofNat, bo_some, tl_some, tl_none, rc_int, rc_ref, rc_null, rc_none, rc_long, tb_0, tb_1, ↓mr_g0, mr_r0, mr_get, mr_upd, mr_at, mr_wr, Classical.not_not, not_true_eq_false, not_false_eq_true, na_l0, na_l1, na_l2, na_l3, na_l4, na_l5, na_l6, na_l7, na_l8, na_l9, na_l10, na_l14, na_l15, na_l16, na_l25, na_l30, na_l31, na_l32, na_l33, na_l39, na_l43, na_l45, na_l48, na_l49, na_l50, na_l51, na_l52, na_l53, na_l55, na_l56, na_l57, na_l60, na_l64, na_l71, na_l80, na_l96, na_l100, na_l101, na_l102, na_l103, na_l104, na_l105, na_l106, na_l107, na_l108, na_l109, na_l110, na_l111, na_l112, na_l113, na_l114, na_l115, na_l116, na_l117, na_l118, na_l119, na_l120, na_l121, na_l125, na_l128, na_l150, na_l192, na_l255, na_l999, na_l1000, na_l1248, na_l1344, na_l1875, na_l10000, ↓reduceIte, pf_and, pe_le, pf_le, pe_lt, pf_lt, pe_eq, pf_eq, true_and, and_true, false_and, and_false, true_or, or_true, false_or, or_false, ↓mmk, ↓mmo_0, ↓mmo_1, ↓mmo_2, ↓mmo_3, ↓mmo_4, ↓mmo_5, ↓mmo_6, ↓mmo_7, ↓mmo_8, ↓mmo_9, ↓mmo_10, ↓mmo_11, ↓mmo_12, ↓mmv_0, ↓mmv_2, ↓mmv_6, ↓mmv_11, ↓mmv_12, ↓mmg_1, ↓mmg_2, ↓mmg_3, ↓mmg_4, ↓mmg_5, ↓mmg_6, ↓mmg_7, ↓mmg_8, mma_1, mma_2, mma_3, mma_4, mma_5, mma_6, mma_7, mma_8, mmu_0, mmu_2, mmu_6, mmu_11, mmu_12, sa_eq, sa_ne, sa_up, I_188_0, I_188_1, e0, e1, e2, c175'', d1]
          · have hq : A 3 0 = 3 := by omega
            rw [if_neg q, if_neg (by decide), if_neg (by decide)]
            simp (disch := omega) only [Int.reduceAdd, Int.reduceMul, Int.reduceSub, Int.reduceNeg, na_add, na_sub, na_mul, na_neg, na_lt, na_le, na_eq, na_ofNat, bo_some, tl_some, tl_none, rc_int, rc_ref, rc_null, rc_none, rc_long, tb_0, tb_1, ↓mr_g0, mr_r0, mr_get, mr_upd, mr_at, mr_wr, Classical.not_not, not_true_eq_false, not_false_eq_true, na_l0, na_l1, na_l2, na_l3, na_l4, na_l5, na_l6, na_l7, na_l8, na_l9, na_l10, na_l14, na_l15, na_l16, na_l25, na_l30, na_l31, na_l32, na_l33, na_l39, na_l43, na_l45, na_l48, na_l49, na_l50, na_l51, na_l52, na_l53, na_l55, na_l56, na_l57, na_l60, na_l64, na_l71, na_l80, na_l96, na_l100, na_l101, na_l102, na_l103, na_l104, na_l105, na_l106, na_l107, na_l108, na_l109, na_l110, na_l111, na_l112, na_l113, na_l114, na_l115, na_l116, na_l117, na_l118, na_l119, na_l120, na_l121, na_l125, na_l128, na_l150, na_l192, na_l255, na_l999, na_l1000, na_l1248, na_l1344, na_l1875, na_l10000, ↓reduceIte, pf_and, pe_le, pf_le, pe_lt, pf_lt, pe_eq, pf_eq, true_and, and_true, false_and, and_false, true_or, or_true, false_or, or_false, ↓mmk, ↓mmo_0, ↓mmo_1, ↓mmo_2, ↓mmo_3, ↓mmo_4, ↓mmo_5, ↓mmo_6, ↓mmo_7, ↓mmo_8, ↓mmo_9, ↓mmo_10, ↓mmo_11, ↓mmo_12, ↓mmv_0, ↓mmv_2, ↓mmv_6, ↓mmv_11, ↓mmv_12, ↓mmg_1, ↓mmg_2, ↓mmg_3, ↓mmg_4, ↓mmg_5, ↓mmg_6, ↓mmg_7, ↓mmg_8, mma_1, mma_2, mma_3, mma_4, mma_5, mma_6, mma_7, mma_8, mmu_0, mmu_2, mmu_6, mmu_11, mmu_12, sa_eq, sa_ne, sa_up, I_188_0, I_188_1, e0, e1, e2, hq, d0, sa_id]
        · rw [wk_n (fun z => p3 ⟨z.1, by have := al_117.mp z.2; rw [show j + 3 - 1 = j + 2 by omega] at this; exact this⟩)]
          rw [if_neg p3] at e2
          rw [if_neg Bool.false_ne_true]
          clear p3
          simp (disch := omega) only [Int.reduceAdd, Int.reduceMul, Int.reduceSub, Int.reduceNeg, na_add, na_sub, na_mul, na_neg, na_lt, na_le, na_eq, na_ofNat, bo_some, tl_some, tl_none, rc_int, rc_ref, rc_null, rc_none, rc_long, tb_0, tb_1, ↓mr_g0, mr_r0, mr_get, mr_upd, mr_at, mr_wr, Classical.not_not, not_true_eq_false, not_false_eq_true, na_l0, na_l1, na_l2, na_l3, na_l4, na_l5, na_l6, na_l7, na_l8, na_l9, na_l10, na_l14, na_l15, na_l16, na_l25, na_l30, na_l31, na_l32, na_l33, na_l39, na_l43, na_l45, na_l48, na_l49, na_l50, na_l51, na_l52, na_l53, na_l55, na_l56, na_l57, na_l60, na_l64, na_l71, na_l80, na_l96, na_l100, na_l101, na_l102, na_l103, na_l104, na_l105, na_l106, na_l107, na_l108, na_l109, na_l110, na_l111, na_l112, na_l113, na_l114, na_l115, na_l116, na_l117, na_l118, na_l119, na_l120, na_l121, na_l125, na_l128, na_l150, na_l192, na_l255, na_l999, na_l1000, na_l1248, na_l1344, na_l1875, na_l10000, ↓reduceIte, pf_and, pe_le, pf_le, pe_lt, pf_lt, pe_eq, pf_eq, true_and, and_true, false_and, and_false, true_or, or_true, false_or, or_false, ↓mmk, ↓mmo_0, ↓mmo_1, ↓mmo_2, ↓mmo_3, ↓mmo_4, ↓mmo_5, ↓mmo_6, ↓mmo_7, ↓mmo_8, ↓mmo_9, ↓mmo_10, ↓mmo_11, ↓mmo_12, ↓mmv_0, ↓mmv_2, ↓mmv_6, ↓mmv_11, ↓mmv_12, ↓mmg_1, ↓mmg_2, ↓mmg_3, ↓mmg_4, ↓mmg_5, ↓mmg_6, ↓mmg_7, ↓mmg_8, mma_1, mma_2, mma_3, mma_4, mma_5, mma_6, mma_7, mma_8, mmu_0, mmu_2, mmu_6, mmu_11, mmu_12, sa_eq, sa_ne, sa_up, I_188_0, I_188_1, e0, e1, e2]
      · rw [wk_n (fun z => p2 ⟨z.1, al_116.mp z.2⟩)]
        rw [if_neg p2] at e2
        rw [if_neg Bool.false_ne_true]
        simp (disch := omega) only [Int.reduceAdd, Int.reduceMul, Int.reduceSub, Int.reduceNeg, na_add, na_sub, na_mul, na_neg, na_lt, na_le, na_eq, na_ofNat, bo_some, tl_some, tl_none, rc_int, rc_ref, rc_null, rc_none, rc_long, tb_0, tb_1, ↓mr_g0, mr_r0, mr_get, mr_upd, mr_at, mr_wr, Classical.not_not, not_true_eq_false, not_false_eq_true, na_l0, na_l1, na_l2, na_l3, na_l4, na_l5, na_l6, na_l7, na_l8, na_l9, na_l10, na_l14, na_l15, na_l16, na_l25, na_l30, na_l31, na_l32, na_l33, na_l39, na_l43, na_l45, na_l48, na_l49, na_l50, na_l51, na_l52, na_l53, na_l55, na_l56, na_l57, na_l60, na_l64, na_l71, na_l80, na_l96, na_l100, na_l101, na_l102, na_l103, na_l104, na_l105, na_l106, na_l107, na_l108, na_l109, na_l110, na_l111, na_l112, na_l113, na_l114, na_l115, na_l116, na_l117, na_l118, na_l119, na_l120, na_l121, na_l125, na_l128, na_l150, na_l192, na_l255, na_l999, na_l1000, na_l1248, na_l1344, na_l1875, na_l10000, ↓reduceIte, pf_and, pe_le, pf_le, pe_lt, pf_lt, pe_eq, pf_eq, true_and, and_true, false_and, and_false, true_or, or_true, false_or, or_false, ↓mmk, ↓mmo_0, ↓mmo_1, ↓mmo_2, ↓mmo_3, ↓mmo_4, ↓mmo_5, ↓mmo_6, ↓mmo_7, ↓mmo_8, ↓mmo_9, ↓mmo_10, ↓mmo_11, ↓mmo_12, ↓mmv_0, ↓mmv_2, ↓mmv_6, ↓mmv_11, ↓mmv_12, ↓mmg_1, ↓mmg_2, ↓mmg_3, ↓mmg_4, ↓mmg_5, ↓mmg_6, ↓mmg_7, ↓mmg_8, mma_1, mma_2, mma_3, mma_4, mma_5, mma_6, mma_7, mma_8, mmu_0, mmu_2, mmu_6, mmu_11, mmu_12, sa_eq, sa_ne, sa_up, I_188_0, I_188_1, e0, e1, e2]
    · have e1 := f1.2 p1
      rw [wk_n (fun z => p1 ⟨z.1, al_111.mp z.2⟩), if_neg Bool.false_ne_true]
      simp (disch := omega) only [Int.reduceAdd, Int.reduceMul, Int.reduceSub, Int.reduceNeg, na_add, na_sub, na_mul, na_neg, na_lt, na_le, na_eq, na_ofNat, bo_some, tl_some, tl_none, rc_int, rc_ref, rc_null, rc_none, rc_long, tb_0, tb_1, ↓mr_g0, mr_r0, mr_get, mr_upd, mr_at, mr_wr, Classical.not_not, not_true_eq_false, not_false_eq_true, na_l0, na_l1, na_l2, na_l3, na_l4, na_l5, na_l6, na_l7, na_l8, na_l9, na_l10, na_l14, na_l15, na_l16, na_l25, na_l30, na_l31, na_l32, na_l33, na_l39, na_l43, na_l45, na_l48, na_l49, na_l50, na_l51, na_l52, na_l53, na_l55, na_l56, na_l57, na_l60, na_l64, na_l71, na_l80, na_l96, na_l100, na_l101, na_l102, na_l103, na_l104, na_l105, na_l106, na_l107, na_l108, na_l109, na_l110, na_l111, na_l112, na_l113, na_l114, na_l115, na_l116, na_l117, na_l118, na_l119, na_l120, na_l121, na_l125, na_l128, na_l150, na_l192, na_l255, na_l999, na_l1000, na_l1248, na_l1344, na_l1875, na_l10000, ↓reduceIte, pf_and, pe_le, pf_le, pe_lt, pf_lt, pe_eq, pf_eq, true_and, and_true, false_and, and_false, true_or, or_true, false_or, or_false, ↓mmk, ↓mmo_0, ↓mmo_1, ↓mmo_2, ↓mmo_3, ↓mmo_4, ↓mmo_5, ↓mmo_6, ↓mmo_7, ↓mmo_8, ↓mmo_9, ↓mmo_10, ↓mmo_11, ↓mmo_12, ↓mmv_0, ↓mmv_2, ↓mmv_6, ↓mmv_11, ↓mmv_12, ↓mmg_1, ↓mmg_2, ↓mmg_3, ↓mmg_4, ↓mmg_5, ↓mmg_6, ↓mmg_7, ↓mmg_8, mma_1, mma_2, mma_3, mma_4, mma_5, mma_6, mma_7, mma_8, mmu_0, mmu_2, mmu_6, mmu_11, mmu_12, sa_eq, sa_ne, sa_up, I_188_0, I_188_1, e0, e1, c184n]
  · have e0 := f0.2 p0
    rw [wk_n (fun z => p0 ⟨z.1, al_110.mp z.2⟩), if_neg Bool.false_ne_true]
    simp (disch := omega) only [Int.reduceAdd, Int.reduceMul, Int.reduceSub, Int.reduceNeg, na_add, na_sub, na_mul, na_neg, na_lt, na_le, na_eq, na_ofNat, bo_some, tl_some, tl_none, rc_int, rc_ref, rc_null, rc_none, rc_long, tb_0, tb_1, ↓mr_g0, mr_r0, mr_get, mr_upd, mr_at, mr_wr, Classical.not_not, not_true_eq_false, not_false_eq_true, na_l0, na_l1, na_l2, na_l3, na_l4, na_l5, na_l6, na_l7, na_l8, na_l9, na_l10, na_l14, na_l15, na_l16, na_l25, na_l30, na_l31, na_l32, na_l33, na_l39, na_l43, na_l45, na_l48, na_l49, na_l50, na_l51, na_l52, na_l53, na_l55, na_l56, na_l57, na_l60, na_l64, na_l71, na_l80, na_l96, na_l100, na_l101, na_l102, na_l103, na_l104, na_l105, na_l106, na_l107, na_l108, na_l109, na_l110, na_l111, na_l112, na_l113, na_l114, na_l115, na_l116, na_l117, na_l118, na_l119, na_l120, na_l121, na_l125, na_l128, na_l150, na_l192, na_l255, na_l999, na_l1000, na_l1248, na_l1344, na_l1875, na_l10000, ↓reduceIte, pf_and, pe_le, pf_le, pe_lt, pf_lt, pe_eq, pf_eq, true_and, and_true, false_and, and_false, true_or, or_true, false_or, or_false, ↓mmk, ↓mmo_0, ↓mmo_1, ↓mmo_2, ↓mmo_3, ↓mmo_4, ↓mmo_5, ↓mmo_6, ↓mmo_7, ↓mmo_8, ↓mmo_9, ↓mmo_10, ↓mmo_11, ↓mmo_12, ↓mmv_0, ↓mmv_2, ↓mmv_6, ↓mmv_11, ↓mmv_12, ↓mmg_1, ↓mmg_2, ↓mmg_3, ↓mmg_4, ↓mmg_5, ↓mmg_6, ↓mmg_7, ↓mmg_8, mma_1, mma_2, mma_3, mma_4, mma_5, mma_6, mma_7, mma_8, mmu_0, mmu_2, mmu_6, mmu_11, mmu_12, sa_eq, sa_ne, sa_up, I_188_0, I_188_1, e0, c184n]
end MMB
