/-! Most flies of the model: the call; the agreement. -/
section MMB
variable {M : Nat} {S : mr_R} {A : Nat → mr_R} {σ : ri_S} {K : Int}
theorem mo_Yok {R : mr_R} (hi : mi K R) : be_Y R (mo_y R) := by
  intro a ha
  have hy := hi.y (w := a / 5) (k := a % 5) (by unfold be_ok at ha; omega) ha.2.2 (by omega) (by omega)
  unfold mo_y
  omega
theorem c221 {f n K0 : Int} (hi : mi K (A 2)) (hz : mi K0 (A 3)) (hk : K + 1000 ≤ 1000000) (h1 : 0 ≤ f) (h2 : f < A 2 2) (n1 : 1 ≤ n) (n2 : n ≤ 4) : ∃ r A2 K', wt A A2 ∧ mi K' (A2 3) ∧ be_M (sm_x (mr_st (A 2) 8 0) f) (fun _ => 10) (fun v => v % 15) n.toNat (sm_n (mr_st (A 2) 8 0) f) (mo_y (mr_st (A 2) 8 0)) r ∧ (0 ≤ r ∧ r ≤ 36) ∧ cal 221 [.ref M, .int (Int32.ofInt f), .int (Int32.ofInt n)] (mm M S A σ) = some (some (.int (Int32.ofInt r)), mm M (mr_st S 0 0) A2 σ) := by
  have hc := hi.c
  obtain ⟨R, hR⟩ : ∃ R, mr_st (A 2) 8 0 = R := ⟨_, rfl⟩
  have hRi : mi K R := by rw [← hR]; exact mi_set hi (by omega) (by omega)
  have h8 : R 8 = 0 := by rw [← hR]; exact ms_eq rfl
  have e2 : R 2 = A 2 2 := by rw [← hR]; exact ms_ne (by omega)
  have h2R : f < R 2 := by rw [e2]; exact h2
  have hg : sm_g R f (sm_n R f) := ⟨K, R, hRi, sq_rfl, rfl⟩
  have hY := mo_Yok hRi
  obtain ⟨nn, hnn⟩ : ∃ nn, n.toNat = nn := ⟨_, rfl⟩
  have n4 : nn ≤ 4 := by omega
  have hG := mo_G hRi (by omega) h8 h1 h2R
  have hbd : ∀ c, 0 ≤ c → 0 ≤ mo_w R f nn (sm_n R f) (mo_y R) c ∧ mo_w R f nn (sm_n R f) (mo_y R) c ≤ 36 := by
    intro c c0
    have := be_bd (G := sm_g R f) (ok := be_ok R) hG nn (sm_n R f) (mo_y R) _ hg hY (mo_E hRi (by omega) h8 h1 h2R nn (sm_n R f) c (mo_y R) c0)
    omega
  have hal : mo_p nn ≤ 10000 := by
    have e : nn = 1 ∨ nn = 2 ∨ nn = 3 ∨ nn = 4 := by omega
    rcases e with e | e | e | e <;> subst e <;> decide
  have hap := mo_pp nn
  obtain ⟨r, A2, K2, b1, b2, b3, b4, b5⟩ := h221 (M := M) (S := mr_st S 0 0) (A := A) (σ := σ) (al := mo_p nn) (n := nn) hi hk h1 h2 hR n4 hal hbd (mo_p nn).toNat 0 0 K0 A none none none rfl (by omega) (by omega) (fun _ _ => rfl) hz ⟨Or.inl rfl, fun c c0 c1 => by omega, by omega⟩ (by omega)
  rw [hR, hnn]
  refine ⟨r, A2, K2, b1, b2, ⟨?_, ?_⟩, ⟨b3.2.2, b4⟩, Eq.trans ?_ b5⟩
  · rcases b3.1 with e | ⟨c, c0, c1, e⟩
    · rw [e]; exact be_E0
    · rw [e]; exact mo_E hRi (by omega) h8 h1 h2R nn (sm_n R f) c (mo_y R) c0
  · intro t ht
    obtain ⟨c, c0, c1, c2⟩ := mo_ge hRi (by omega) h8 h1 h2R nn (sm_n R f) t (mo_y R) hg hY ht
    have := b3.2.1 c c0 c1
    have c2 : t ≤ mo_w R f nn (sm_n R f) (mo_y R) c := c2
    have this : mo_w R f nn (sm_n R f) (mo_y R) c ≤ r := this
    omega
  · have ea := c154 (a := M + 2) (R := A 2) (σ := mm M S A σ) (f := f) (by omega) (by omega) (by omega) (by omega)
    rw [if_pos ⟨h1, h2⟩, mms_2] at ea
    have e : n = 1 ∨ n = 2 ∨ n = 3 ∨ n = 4 := by omega
    have p1 : mo_p 1 = 10 := rfl
    have p2 : mo_p 2 = 100 := rfl
    have p3 : mo_p 3 = 1000 := rfl
    have p4 : mo_p 4 = 10000 := rfl
    rcases e with e | e | e | e
    · subst e
      have hn1 : nn = 1 := by omega
      subst hn1
      rw [p1]
      generalize hQ : ev 221 (69, [some (.ref M), some (.int (Int32.ofInt f)), some (.int (Int32.ofInt ((1 : Nat) : Int))), some (.int (Int32.ofInt 10)), some (.int (Int32.ofInt 0)), some (.int (Int32.ofInt 0)), none, none, none], []) (mm M (mr_st S 0 0) A σ) = Q
      rw [show ((1 : Nat) : Int) = 1 from rfl] at hQ
      rw [E_221]
      simp (disch := omega) only [Int.reduceAdd, Int.reduceMul, Int.reduceSub, Int.reduceNeg, na_add, na_sub, na_mul, na_neg, na_lt, na_le, na_eq, na_ofNat, bo_some, tl_some, tl_none, rc_int, rc_ref, rc_null, rc_none, rc_long, tb_0, tb_1, ↓mr_g0, mr_r0, mr_get, mr_upd, mr_at, mr_wr, Classical.not_not, not_true_eq_false, not_false_eq_true, na_l0, na_l1, na_l2, na_l3, na_l4, na_l5, na_l6, na_l7, na_l8, na_l9, na_l10, na_l14, na_l15, na_l16, na_l25, na_l30, na_l31, na_l32, na_l33, na_l39, na_l43, na_l45, na_l48, na_l49, na_l50, na_l51, na_l52, na_l53, na_l55, na_l56, na_l57, na_l60, na_l64, na_l71, na_l80, na_l96, na_l100, na_l101, na_l102, na_l103, na_l104, na_l105, na_l106, na_l107, na_l108, na_l109, na_l110, na_l111, na_l112, na_l113, na_l114, na_l115, na_l116, na_l117, na_l118, na_l119, na_l120, na_l121, na_l125, na_l128, na_l150, na_l192, na_l255, na_l999, na_l1000, na_l1248, na_l1344, na_l1875, na_l10000, ↓reduceIte, pf_and, pe_le, pf_le, pe_lt, pf_lt, pe_eq, pf_eq, true_and, and_true, false_and, and_false, true_or, or_true, false_or, or_false, nb_sub, nb_mul, nb_32, nb_div, nb_le0, nb_le1, nb_eq, nb_l100000, nb_neg, nb_wide, nb_lt, nb_gt, nb_l0, nb_l1, nb_l3, nb_l4, nb_l5, nb_l7, nb_l9, nb_l10, nb_l30, nb_l60, nb_l255, ↓mmk, ↓mmo_0, ↓mmo_1, ↓mmo_2, ↓mmo_3, ↓mmo_4, ↓mmo_5, ↓mmo_6, ↓mmo_7, ↓mmo_8, ↓mmo_9, ↓mmo_10, ↓mmo_11, ↓mmo_12, ↓mmv_0, ↓mmv_2, ↓mmv_6, ↓mmv_11, ↓mmv_12, ↓mmg_1, ↓mmg_2, ↓mmg_3, ↓mmg_4, ↓mmg_5, ↓mmg_6, ↓mmg_7, ↓mmg_8, mma_1, mma_2, mma_3, mma_4, mma_5, mma_6, mma_7, mma_8, mmu_0, mmu_2, mmu_6, mmu_11, mmu_12, sa_eq, sa_ne, sa_up, I_221_0, I_221_1, I_221_2, H_221_46, ea, c146, c145, hQ]
    · subst e
      have hn1 : nn = 2 := by omega
      subst hn1
      rw [p2]
      generalize hQ : ev 221 (69, [some (.ref M), some (.int (Int32.ofInt f)), some (.int (Int32.ofInt ((2 : Nat) : Int))), some (.int (Int32.ofInt 100)), some (.int (Int32.ofInt 0)), some (.int (Int32.ofInt 0)), none, none, none], []) (mm M (mr_st S 0 0) A σ) = Q
      rw [show ((2 : Nat) : Int) = 2 from rfl] at hQ
      rw [E_221]
      simp (disch := omega) only [Int.reduceAdd, Int.reduceMul, Int.reduceSub, Int.reduceNeg, na_add, na_sub, na_mul, na_neg, na_lt, na_le, na_eq, na_ofNat, bo_some, tl_some, tl_none, rc_int, rc_ref, rc_null, rc_none, rc_long, tb_0, tb_1, ↓mr_g0, mr_r0, mr_get, mr_upd, mr_at, mr_wr, Classical.not_not, not_true_eq_false, not_false_eq_true, na_l0, na_l1, na_l2, na_l3, na_l4, na_l5, na_l6, na_l7, na_l8, na_l9, na_l10, na_l14, na_l15, na_l16, na_l25, na_l30, na_l31, na_l32, na_l33, na_l39, na_l43, na_l45, na_l48, na_l49, na_l50, na_l51, na_l52, na_l53, na_l55, na_l56, na_l57, na_l60, na_l64, na_l71, na_l80, na_l96, na_l100, na_l101, na_l102, na_l103, na_l104, na_l105, na_l106, na_l107, na_l108, na_l109, na_l110, na_l111, na_l112, na_l113, na_l114, na_l115, na_l116, na_l117, na_l118, na_l119, na_l120, na_l121, na_l125, na_l128, na_l150, na_l192, na_l255, na_l999, na_l1000, na_l1248, na_l1344, na_l1875, na_l10000, ↓reduceIte, pf_and, pe_le, pf_le, pe_lt, pf_lt, pe_eq, pf_eq, true_and, and_true, false_and, and_false, true_or, or_true, false_or, or_false, nb_sub, nb_mul, nb_32, nb_div, nb_le0, nb_le1, nb_eq, nb_l100000, nb_neg, nb_wide, nb_lt, nb_gt, nb_l0, nb_l1, nb_l3, nb_l4, nb_l5, nb_l7, nb_l9, nb_l10, nb_l30, nb_l60, nb_l255, ↓mmk, ↓mmo_0, ↓mmo_1, ↓mmo_2, ↓mmo_3, ↓mmo_4, ↓mmo_5, ↓mmo_6, ↓mmo_7, ↓mmo_8, ↓mmo_9, ↓mmo_10, ↓mmo_11, ↓mmo_12, ↓mmv_0, ↓mmv_2, ↓mmv_6, ↓mmv_11, ↓mmv_12, ↓mmg_1, ↓mmg_2, ↓mmg_3, ↓mmg_4, ↓mmg_5, ↓mmg_6, ↓mmg_7, ↓mmg_8, mma_1, mma_2, mma_3, mma_4, mma_5, mma_6, mma_7, mma_8, mmu_0, mmu_2, mmu_6, mmu_11, mmu_12, sa_eq, sa_ne, sa_up, I_221_0, I_221_1, I_221_2, H_221_46, ea, c146, c145, hQ]
    · subst e
      have hn1 : nn = 3 := by omega
      subst hn1
      rw [p3]
      generalize hQ : ev 221 (69, [some (.ref M), some (.int (Int32.ofInt f)), some (.int (Int32.ofInt ((3 : Nat) : Int))), some (.int (Int32.ofInt 1000)), some (.int (Int32.ofInt 0)), some (.int (Int32.ofInt 0)), none, none, none], []) (mm M (mr_st S 0 0) A σ) = Q
      rw [show ((3 : Nat) : Int) = 3 from rfl] at hQ
      rw [E_221]
      simp (disch := omega) only [Int.reduceAdd, Int.reduceMul, Int.reduceSub, Int.reduceNeg, na_add, na_sub, na_mul, na_neg, na_lt, na_le, na_eq, na_ofNat, bo_some, tl_some, tl_none, rc_int, rc_ref, rc_null, rc_none, rc_long, tb_0, tb_1, ↓mr_g0, mr_r0, mr_get, mr_upd, mr_at, mr_wr, Classical.not_not, not_true_eq_false, not_false_eq_true, na_l0, na_l1, na_l2, na_l3, na_l4, na_l5, na_l6, na_l7, na_l8, na_l9, na_l10, na_l14, na_l15, na_l16, na_l25, na_l30, na_l31, na_l32, na_l33, na_l39, na_l43, na_l45, na_l48, na_l49, na_l50, na_l51, na_l52, na_l53, na_l55, na_l56, na_l57, na_l60, na_l64, na_l71, na_l80, na_l96, na_l100, na_l101, na_l102, na_l103, na_l104, na_l105, na_l106, na_l107, na_l108, na_l109, na_l110, na_l111, na_l112, na_l113, na_l114, na_l115, na_l116, na_l117, na_l118, na_l119, na_l120, na_l121, na_l125, na_l128, na_l150, na_l192, na_l255, na_l999, na_l1000, na_l1248, na_l1344, na_l1875, na_l10000, ↓reduceIte, pf_and, pe_le, pf_le, pe_lt, pf_lt, pe_eq, pf_eq, true_and, and_true, false_and, and_false, true_or, or_true, false_or, or_false, nb_sub, nb_mul, nb_32, nb_div, nb_le0, nb_le1, nb_eq, nb_l100000, nb_neg, nb_wide, nb_lt, nb_gt, nb_l0, nb_l1, nb_l3, nb_l4, nb_l5, nb_l7, nb_l9, nb_l10, nb_l30, nb_l60, nb_l255, ↓mmk, ↓mmo_0, ↓mmo_1, ↓mmo_2, ↓mmo_3, ↓mmo_4, ↓mmo_5, ↓mmo_6, ↓mmo_7, ↓mmo_8, ↓mmo_9, ↓mmo_10, ↓mmo_11, ↓mmo_12, ↓mmv_0, ↓mmv_2, ↓mmv_6, ↓mmv_11, ↓mmv_12, ↓mmg_1, ↓mmg_2, ↓mmg_3, ↓mmg_4, ↓mmg_5, ↓mmg_6, ↓mmg_7, ↓mmg_8, mma_1, mma_2, mma_3, mma_4, mma_5, mma_6, mma_7, mma_8, mmu_0, mmu_2, mmu_6, mmu_11, mmu_12, sa_eq, sa_ne, sa_up, I_221_0, I_221_1, I_221_2, H_221_46, ea, c146, c145, hQ]
    · subst e
      have hn1 : nn = 4 := by omega
      subst hn1
      rw [p4]
      generalize hQ : ev 221 (69, [some (.ref M), some (.int (Int32.ofInt f)), some (.int (Int32.ofInt ((4 : Nat) : Int))), some (.int (Int32.ofInt 10000)), some (.int (Int32.ofInt 0)), some (.int (Int32.ofInt 0)), none, none, none], []) (mm M (mr_st S 0 0) A σ) = Q
      rw [show ((4 : Nat) : Int) = 4 from rfl] at hQ
      rw [E_221]
      simp (disch := omega) only [Int.reduceAdd, Int.reduceMul, Int.reduceSub, Int.reduceNeg, na_add, na_sub, na_mul, na_neg, na_lt, na_le, na_eq, na_ofNat, bo_some, tl_some, tl_none, rc_int, rc_ref, rc_null, rc_none, rc_long, tb_0, tb_1, ↓mr_g0, mr_r0, mr_get, mr_upd, mr_at, mr_wr, Classical.not_not, not_true_eq_false, not_false_eq_true, na_l0, na_l1, na_l2, na_l3, na_l4, na_l5, na_l6, na_l7, na_l8, na_l9, na_l10, na_l14, na_l15, na_l16, na_l25, na_l30, na_l31, na_l32, na_l33, na_l39, na_l43, na_l45, na_l48, na_l49, na_l50, na_l51, na_l52, na_l53, na_l55, na_l56, na_l57, na_l60, na_l64, na_l71, na_l80, na_l96, na_l100, na_l101, na_l102, na_l103, na_l104, na_l105, na_l106, na_l107, na_l108, na_l109, na_l110, na_l111, na_l112, na_l113, na_l114, na_l115, na_l116, na_l117, na_l118, na_l119, na_l120, na_l121, na_l125, na_l128, na_l150, na_l192, na_l255, na_l999, na_l1000, na_l1248, na_l1344, na_l1875, na_l10000, ↓reduceIte, pf_and, pe_le, pf_le, pe_lt, pf_lt, pe_eq, pf_eq, true_and, and_true, false_and, and_false, true_or, or_true, false_or, or_false, nb_sub, nb_mul, nb_32, nb_div, nb_le0, nb_le1, nb_eq, nb_l100000, nb_neg, nb_wide, nb_lt, nb_gt, nb_l0, nb_l1, nb_l3, nb_l4, nb_l5, nb_l7, nb_l9, nb_l10, nb_l30, nb_l60, nb_l255, ↓mmk, ↓mmo_0, ↓mmo_1, ↓mmo_2, ↓mmo_3, ↓mmo_4, ↓mmo_5, ↓mmo_6, ↓mmo_7, ↓mmo_8, ↓mmo_9, ↓mmo_10, ↓mmo_11, ↓mmo_12, ↓mmv_0, ↓mmv_2, ↓mmv_6, ↓mmv_11, ↓mmv_12, ↓mmg_1, ↓mmg_2, ↓mmg_3, ↓mmg_4, ↓mmg_5, ↓mmg_6, ↓mmg_7, ↓mmg_8, mma_1, mma_2, mma_3, mma_4, mma_5, mma_6, mma_7, mma_8, mmu_0, mmu_2, mmu_6, mmu_11, mmu_12, sa_eq, sa_ne, sa_up, I_221_0, I_221_1, I_221_2, H_221_46, ea, c146, c145, hQ]
theorem c221n {f n : Int} (hi : mi K (A 2)) (f1 : -2147483648 ≤ f) (f2 : f < 2147483648) (n1 : -2147483648 ≤ n) (n2 : n < 2147483648) : (¬ (0 ≤ f ∧ f < A 2 2) → cal 221 [.ref M, .int (Int32.ofInt f), .int (Int32.ofInt n)] (mm M S A σ) = some (some (.int (Int32.ofInt 0)), mm M (mr_st S 0 1) A σ)) ∧ (0 ≤ f ∧ f < A 2 2 → ¬ (1 ≤ n ∧ n ≤ 4) → cal 221 [.ref M, .int (Int32.ofInt f), .int (Int32.ofInt n)] (mm M S A σ) = some (some (.int (Int32.ofInt 0)), mm M (mr_st S 0 2) A σ)) := by
  have hc := hi.c
  have ea := c154 (a := M + 2) (R := A 2) (σ := mm M S A σ) (f := f) (by omega) (by omega) (by omega) (by omega)
  rw [mms_2] at ea
  rw [E_221]
  by_cases q : 0 ≤ f ∧ f < A 2 2
  · rw [if_pos q] at ea
    refine ⟨fun a => absurd q a, fun _ a => ?_⟩
    by_cases q3 : n < 1
    · simp (disch := omega) only [Int.reduceAdd, Int.reduceMul, Int.reduceSub, Int.reduceNeg, na_add, na_sub, na_mul, na_neg, na_lt, na_le, na_eq, na_ofNat, bo_some, tl_some, tl_none, rc_int, rc_ref, rc_null, rc_none, rc_long, tb_0, tb_1, ↓mr_g0, mr_r0, mr_get, mr_upd, mr_at, mr_wr, Classical.not_not, not_true_eq_false, not_false_eq_true, na_l0, na_l1, na_l2, na_l3, na_l4, na_l5, na_l6, na_l7, na_l8, na_l9, na_l10, na_l14, na_l15, na_l16, na_l25, na_l30, na_l31, na_l32, na_l33, na_l39, na_l43, na_l45, na_l48, na_l49, na_l50, na_l51, na_l52, na_l53, na_l55, na_l56, na_l57, na_l60, na_l64, na_l71, na_l80, na_l96, na_l100, na_l101, na_l102, na_l103, na_l104, na_l105, na_l106, na_l107, na_l108, na_l109, na_l110, na_l111, na_l112, na_l113, na_l114, na_l115, na_l116, na_l117, na_l118, na_l119, na_l120, na_l121, na_l125, na_l128, na_l150, na_l192, na_l255, na_l999, na_l1000, na_l1248, na_l1344, na_l1875, na_l10000, ↓reduceIte, pf_and, pe_le, pf_le, pe_lt, pf_lt, pe_eq, pf_eq, true_and, and_true, false_and, and_false, true_or, or_true, false_or, or_false, nb_sub, nb_mul, nb_32, nb_div, nb_le0, nb_le1, nb_eq, nb_l100000, nb_neg, nb_wide, nb_lt, nb_gt, nb_l0, nb_l1, nb_l3, nb_l4, nb_l5, nb_l7, nb_l9, nb_l10, nb_l30, nb_l60, nb_l255, ↓mmk, ↓mmo_0, ↓mmo_1, ↓mmo_2, ↓mmo_3, ↓mmo_4, ↓mmo_5, ↓mmo_6, ↓mmo_7, ↓mmo_8, ↓mmo_9, ↓mmo_10, ↓mmo_11, ↓mmo_12, ↓mmv_0, ↓mmv_2, ↓mmv_6, ↓mmv_11, ↓mmv_12, ↓mmg_1, ↓mmg_2, ↓mmg_3, ↓mmg_4, ↓mmg_5, ↓mmg_6, ↓mmg_7, ↓mmg_8, mma_1, mma_2, mma_3, mma_4, mma_5, mma_6, mma_7, mma_8, mmu_0, mmu_2, mmu_6, mmu_11, mmu_12, sa_eq, sa_ne, sa_up, I_221_0, I_221_1, I_221_2, ea, c146, c145]
    · have q4 : 4 < n := by omega
      simp (disch := omega) only [Int.reduceAdd, Int.reduceMul, Int.reduceSub, Int.reduceNeg, na_add, na_sub, na_mul, na_neg, na_lt, na_le, na_eq, na_ofNat, bo_some, tl_some, tl_none, rc_int, rc_ref, rc_null, rc_none, rc_long, tb_0, tb_1, ↓mr_g0, mr_r0, mr_get, mr_upd, mr_at, mr_wr, Classical.not_not, not_true_eq_false, not_false_eq_true, na_l0, na_l1, na_l2, na_l3, na_l4, na_l5, na_l6, na_l7, na_l8, na_l9, na_l10, na_l14, na_l15, na_l16, na_l25, na_l30, na_l31, na_l32, na_l33, na_l39, na_l43, na_l45, na_l48, na_l49, na_l50, na_l51, na_l52, na_l53, na_l55, na_l56, na_l57, na_l60, na_l64, na_l71, na_l80, na_l96, na_l100, na_l101, na_l102, na_l103, na_l104, na_l105, na_l106, na_l107, na_l108, na_l109, na_l110, na_l111, na_l112, na_l113, na_l114, na_l115, na_l116, na_l117, na_l118, na_l119, na_l120, na_l121, na_l125, na_l128, na_l150, na_l192, na_l255, na_l999, na_l1000, na_l1248, na_l1344, na_l1875, na_l10000, ↓reduceIte, pf_and, pe_le, pf_le, pe_lt, pf_lt, pe_eq, pf_eq, true_and, and_true, false_and, and_false, true_or, or_true, false_or, or_false, nb_sub, nb_mul, nb_32, nb_div, nb_le0, nb_le1, nb_eq, nb_l100000, nb_neg, nb_wide, nb_lt, nb_gt, nb_l0, nb_l1, nb_l3, nb_l4, nb_l5, nb_l7, nb_l9, nb_l10, nb_l30, nb_l60, nb_l255, ↓mmk, ↓mmo_0, ↓mmo_1, ↓mmo_2, ↓mmo_3, ↓mmo_4, ↓mmo_5, ↓mmo_6, ↓mmo_7, ↓mmo_8, ↓mmo_9, ↓mmo_10, ↓mmo_11, ↓mmo_12, ↓mmv_0, ↓mmv_2, ↓mmv_6, ↓mmv_11, ↓mmv_12, ↓mmg_1, ↓mmg_2, ↓mmg_3, ↓mmg_4, ↓mmg_5, ↓mmg_6, ↓mmg_7, ↓mmg_8, mma_1, mma_2, mma_3, mma_4, mma_5, mma_6, mma_7, mma_8, mmu_0, mmu_2, mmu_6, mmu_11, mmu_12, sa_eq, sa_ne, sa_up, I_221_0, I_221_1, I_221_2, ea, c146, c145]
  · rw [if_neg q] at ea
    refine ⟨fun _ => ?_, fun a => absurd a q⟩
    simp (disch := omega) only [Int.reduceAdd, Int.reduceMul, Int.reduceSub, Int.reduceNeg, na_add, na_sub, na_mul, na_neg, na_lt, na_le, na_eq, na_ofNat, bo_some, tl_some, tl_none, rc_int, rc_ref, rc_null, rc_none, rc_long, tb_0, tb_1, ↓mr_g0, mr_r0, mr_get, mr_upd, mr_at, mr_wr, Classical.not_not, not_true_eq_false, not_false_eq_true, na_l0, na_l1, na_l2, na_l3, na_l4, na_l5, na_l6, na_l7, na_l8, na_l9, na_l10, na_l14, na_l15, na_l16, na_l25, na_l30, na_l31, na_l32, na_l33, na_l39, na_l43, na_l45, na_l48, na_l49, na_l50, na_l51, na_l52, na_l53, na_l55, na_l56, na_l57, na_l60, na_l64, na_l71, na_l80, na_l96, na_l100, na_l101, na_l102, na_l103, na_l104, na_l105, na_l106, na_l107, na_l108, na_l109, na_l110, na_l111, na_l112, na_l113, na_l114, na_l115, na_l116, na_l117, na_l118, na_l119, na_l120, na_l121, na_l125, na_l128, na_l150, na_l192, na_l255, na_l999, na_l1000, na_l1248, na_l1344, na_l1875, na_l10000, ↓reduceIte, pf_and, pe_le, pf_le, pe_lt, pf_lt, pe_eq, pf_eq, true_and, and_true, false_and, and_false, true_or, or_true, false_or, or_false, nb_sub, nb_mul, nb_32, nb_div, nb_le0, nb_le1, nb_eq, nb_l100000, nb_neg, nb_wide, nb_lt, nb_gt, nb_l0, nb_l1, nb_l3, nb_l4, nb_l5, nb_l7, nb_l9, nb_l10, nb_l30, nb_l60, nb_l255, ↓mmk, ↓mmo_0, ↓mmo_1, ↓mmo_2, ↓mmo_3, ↓mmo_4, ↓mmo_5, ↓mmo_6, ↓mmo_7, ↓mmo_8, ↓mmo_9, ↓mmo_10, ↓mmo_11, ↓mmo_12, ↓mmv_0, ↓mmv_2, ↓mmv_6, ↓mmv_11, ↓mmv_12, ↓mmg_1, ↓mmg_2, ↓mmg_3, ↓mmg_4, ↓mmg_5, ↓mmg_6, ↓mmg_7, ↓mmg_8, mma_1, mma_2, mma_3, mma_4, mma_5, mma_6, mma_7, mma_8, mmu_0, mmu_2, mmu_6, mmu_11, mmu_12, sa_eq, sa_ne, sa_up, I_221_0, I_221_1, I_221_2, ea, c145]
end MMB
section AG
variable {K : Int} {R : mr_R} {X : Nat → mr_R} {f : Int}
theorem sz_pd {v : Int} (hR : mi K R) (hI : sb_I R f X) (hg : sm_g R f v) (h1 : 0 ≤ f) (h2 : f < R 2) (h : X 5 (sz_c R v) ≠ -1) : X 5 (sz_c R v) = v % 15 := by
  have hc := hR.c
  have hz := sz_g hR hg h1 h2
  have hd := st_d (T := v / 15) hz.2.2.2.2.2.2.2.1 hz.2.2.2.2.2.2.2.2
  have e : X 5 (sz_c R v) = sp_v R X (v / 15) (v % 15 / 5) (sm_mp R v % 5) := by
    unfold sz_c
    rw [hI.2.2.2 _ (by omega) (by omega), hd.1, hd.2.1, hd.2.2, hz.2.2.2.2.1]
  have hww := hR.w (w := v % 15 / 5) (by omega) hz.2.1.1
  rw [e] at h ⊢
  have h5 := (sp_iff hR).mp h
  have ep : sm_mp R v % 5 = (v % 5 + sg_t (v / 15) (v % 15 / 5)) % R (9 + 10 * (v % 15 / 5) + 0) := by
    have b1 := Int.emod_nonneg (v % 5 + sg_t (v / 15) (v % 15 / 5)) (show R (9 + 10 * (v % 15 / 5) + 0) ≠ 0 by omega)
    have b2 := Int.emod_lt_of_pos (v % 5 + sg_t (v / 15) (v % 15 / 5)) (show 0 < R (9 + 10 * (v % 15 / 5) + 0) by omega)
    unfold sm_mp
    omega
  unfold sp_v
  rw [if_pos h5, ep, sx_pad (by omega) (by omega) hz.2.2.1]
  omega
theorem ag_most {n : Nat} {Y : mr_R} {r r2 : Int} (hi : mi K R) (hk : K + 20 ≤ 1000000) (h1 : 0 ≤ f) (h2 : f < R 2) (hI : sb_I R f X) (hY : ∀ a, be_ok R a → Y a = R (9 + 10 * (a / 5) + 5 + a % 5)) (hm : be_M (sm_x (mr_st R 8 0) f) (fun _ => 10) (fun v => v % 15) n (sm_n (mr_st R 8 0) f) (mo_y (mr_st R 8 0)) r) (hc : be_M (sn_x X) (sn_w X) (X 5) n (sg_n R f) Y r2) : r = r2 := by
  have hc0 := hi.c
  have hn := sz_now hi h1 h2 hI
  have hRi : mi K (mr_st R 8 0) := mi_set hi (by omega) (by omega)
  have h8 : mr_st R 8 0 8 = 0 := ms_eq rfl
  have e0 : mr_st R 8 0 0 = R 0 := ms_ne (by omega)
  have h2R : f < mr_st R 8 0 2 := by rw [ms_ne (by omega)]; exact h2
  have hI8 := sb_8 hi hI hRi
  have hy : ∀ a, be_ok R a → Y a = mo_y (mr_st R 8 0) a := by
    intro a ha
    rw [hY a ha]
    unfold be_ok at ha
    unfold mo_y
    rw [ms_ne (by omega)]
  have hnow := sn_now hi h1 h2 hI
  have hg : sm_g (mr_st R 8 0) f (sm_n (mr_st R 8 0) f) := ⟨K, _, hRi, sq_rfl, rfl⟩
  rw [← hn.1] at hc hnow
  generalize mr_st R 8 0 = R8 at *
  have pads : ∀ s k, sm_g R8 f s → 0 ≤ k → k < sn_w X (sz_c R8 s) → sn_x X (sz_c R8 s) k ≠ -1 → ∀ v, sm_g R8 f v → sz_c R8 v = sn_x X (sz_c R8 s) k → v % 15 = X 5 (sn_x X (sz_c R8 s) k) := by
    intro s k hs k1 k2 k3 v hv e
    have hz := sz_g hRi hs h1 h2R
    have h5 := sn_V hRi hI8 (s := sz_c R8 s) (k := k) (by unfold sz_c; omega) (by unfold sz_c; omega) k1 k2 k3
    rw [← e] at h5 ⊢
    exact (sz_pd hRi hI8 hv h1 h2R h5).symm
  have fwd := be_sim (nx := sm_x R8 f) (nw := fun _ => 10) (pd := fun v => v % 15) (nx2 := sn_x X) (nw2 := sn_w X) (pd2 := X 5) (ρ := fun s c => sm_g R8 f s ∧ sc_T X (s / 15) ∧ c = sz_c R8 s) (by
    rintro s c k ⟨a1, a2, rfl⟩ k1 k2 k3
    obtain ⟨b1, k', b2, b3, b4, b5⟩ := sz_fwd hRi hk h8 hI8 a1 h1 h2R a2 k1 k2 k3
    have g := sm_gx hRi hk h8 h1 h2R a1 k1 k2 k3
    exact ⟨k', b2, b3, b4, ⟨g, b1, b5.symm⟩, pads s k' a1 b2 b3 b4 _ g b5⟩)
  have bwd := be_sim (nx := sn_x X) (nw := sn_w X) (pd := X 5) (nx2 := sm_x R8 f) (nw2 := fun _ => 10) (pd2 := fun v => v % 15) (ρ := fun c s => sm_g R8 f s ∧ sc_T X (s / 15) ∧ c = sz_c R8 s) (by
    rintro c s k ⟨a1, a2, rfl⟩ k1 k2 k3
    obtain ⟨y, b1, b2, b3, b4, b5⟩ := sz_bwd hRi hk h8 hI8 a1 h1 h2R a2 k1 k2 k3
    have g := sm_gx hRi hk h8 h1 h2R a1 b1 b2 b3
    exact ⟨y, b1, b2, b3, ⟨g, b5, b4.symm⟩, (pads s k a1 k1 k2 k3 _ g b4).symm⟩)
  have cg := fun Y1 Y2 t => be_cg (G := fun s => 0 ≤ s ∧ s < 1875) (ok := be_ok R) (be_G hi hI) n (sz_c R8 (sm_n R8 f)) Y1 Y2 t hnow.1
  have k1 := cg _ _ r (fun a ha => (hy a ha).symm) (fwd n (sm_n R8 f) (sz_c R8 (sm_n R8 f)) (mo_y R8) r ⟨hg, hn.2, rfl⟩ hm.1)
  have k2 := bwd n (sz_c R8 (sm_n R8 f)) (sm_n R8 f) (mo_y R8) r2 ⟨hg, hn.2, rfl⟩ (cg _ _ r2 hy hc.1)
  have := hc.2 _ k1
  have := hm.2 _ k2
  omega
end AG
