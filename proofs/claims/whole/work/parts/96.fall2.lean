/-! The model finds all standings: the loops. -/
section MMB
variable {M : Nat} {S : mr_R} {σ : ri_S} {K2 : Int}
theorem h217k {A0 : Nat → mr_R} {R : mr_R} {f i u s0 : Int} (hR : mi K2 R) (hk2 : K2 + 20 ≤ 1000000) (h8 : R 8 = 0) (h1 : 0 ≤ f) (h2 : f < R 2) (hg : sm_g R f s0) : ∀ (n : Nat) (y : Int) (z : bf_Z) (A : Nat → mr_R) (K : Int), 0 ≤ y → y + n = 10 → K + 20 * n ≤ 1000000 → mi K (A 3) → sq R f (A 3) → wm A0 A z → bf_J 1875 (sm_x R f) (fun _ => 10) s0 i y z → i < z.2.2 → z.2.1 i = u → ∃ z2 A2, wm A0 A2 z2 ∧ bf_J 1875 (sm_x R f) (fun _ => 10) s0 i 10 z2 ∧ i < z2.2.2 ∧ mi (K + 20 * n) (A2 3) ∧ sq R f (A2 3) ∧ ev 217 (78, [some (.ref M), some (.int (Int32.ofInt f)), some (.int (Int32.ofInt z.2.2)), some (.int (Int32.ofInt i)), some (.int (Int32.ofInt y))], []) (mm M S A σ) = ev 217 (70, [some (.ref M), some (.int (Int32.ofInt f)), some (.int (Int32.ofInt z2.2.2)), some (.int (Int32.ofInt (i + 1))), some (.int (Int32.ofInt 10))], []) (mm M S A2 σ) := by
  intro n
  induction n with
  | zero =>
    intro y z A K y1 y2 hk hi hq hw hJ hiz hu
    obtain rfl : y = 10 := by omega
    have hle := bf_le hJ (by omega)
    have hi0 := hJ.1.1
    refine ⟨z, A, hw, hJ, hiz, ?_, hq, ?_⟩
    · rw [show K + 20 * ((0 : Nat) : Int) = K by omega]; exact hi
    · rw [H_217_78]
      simp (disch := omega) only [Int.reduceAdd, Int.reduceMul, Int.reduceSub, Int.reduceNeg, na_add, na_sub, na_mul, na_neg, na_lt, na_le, na_eq, na_ofNat, bo_some, tl_some, tl_none, rc_int, rc_ref, rc_null, rc_none, rc_long, tb_0, tb_1, ↓mr_g0, mr_r0, mr_get, mr_upd, mr_at, mr_wr, Classical.not_not, not_true_eq_false, not_false_eq_true, na_l0, na_l1, na_l2, na_l3, na_l4, na_l5, na_l6, na_l7, na_l8, na_l9, na_l10, na_l14, na_l15, na_l16, na_l25, na_l30, na_l31, na_l32, na_l33, na_l39, na_l43, na_l45, na_l48, na_l49, na_l50, na_l51, na_l52, na_l53, na_l55, na_l56, na_l57, na_l60, na_l64, na_l71, na_l80, na_l96, na_l100, na_l101, na_l102, na_l103, na_l104, na_l105, na_l106, na_l107, na_l108, na_l109, na_l110, na_l111, na_l112, na_l113, na_l114, na_l115, na_l116, na_l117, na_l118, na_l119, na_l120, na_l121, na_l125, na_l128, na_l150, na_l192, na_l255, na_l999, na_l1000, na_l1248, na_l1344, na_l1875, na_l10000, ↓reduceIte, pf_and, pe_le, pf_le, pe_lt, pf_lt, pe_eq, pf_eq, true_and, and_true, false_and, and_false, true_or, or_true, false_or, or_false, I_217_0, I_217_1, I_217_2]
  | succ n ih =>
    intro y z A K y1 y2 hk hi hq hw hJ hiz hu
    obtain ⟨A1, a1, a2, a3, a4⟩ := h217s (M := M) (S := S) (σ := σ) hi hR (by omega) hk2 h8 hq h1 h2 hg hw hJ hiz hu y1 (by omega)
    have hS := bf_step (sm_G hR hk2 h8 h1 h2 hg) hJ hiz y1 (by show y < 10; omega)
    rw [hu] at hS
    have hb : z.2.2 ≤ (bf_1 (sm_x R f) u y z).2.2 ∧ (bf_1 (sm_x R f) u y z).2.1 i = z.2.1 i := by
      unfold bf_1
      split
      · exact ⟨by show z.2.2 ≤ z.2.2 + 1; omega, ms_ne (by omega)⟩
      · exact ⟨Int.le_refl _, rfl⟩
    obtain ⟨z2, A2, b1, b2, b3, b4, b5, b6⟩ := ih (y + 1) _ A1 (K + 20) (by omega) (by omega) (by omega) a2 a3 a1 hS (by omega) (by rw [hb.2]; exact hu)
    refine ⟨z2, A2, b1, b2, b3, ?_, b5, a4.trans b6⟩
    rw [show K + 20 * ((n + 1 : Nat) : Int) = K + 20 + 20 * (n : Int) by omega]
    exact b4
theorem h217 {A0 : Nat → mr_R} {R : mr_R} {f s0 : Int} (hR : mi K2 R) (hk2 : K2 + 20 ≤ 1000000) (h8 : R 8 = 0) (h1 : 0 ≤ f) (h2 : f < R 2) (hg : sm_g R f s0) : ∀ (n : Nat) (i : Int) (z : bf_Z) (A : Nat → mr_R) (K : Int) (l4 : Option Value), i + n = 1875 → K + 200 * n ≤ 1000000 → mi K (A 3) → sq R f (A 3) → wm A0 A z → bf_J 1875 (sm_x R f) (fun _ => 10) s0 i 0 z → ∃ z2 A2 K', wm A0 A2 z2 ∧ bf_J 1875 (sm_x R f) (fun _ => 10) s0 z2.2.2 0 z2 ∧ mi K' (A2 3) ∧ sq R f (A2 3) ∧ ev 217 (70, [some (.ref M), some (.int (Int32.ofInt f)), some (.int (Int32.ofInt z.2.2)), some (.int (Int32.ofInt i)), l4], []) (mm M S A σ) = some (some (.int (Int32.ofInt z2.2.2)), mm M S A2 σ) := by
  intro n
  induction n with
  | zero =>
    intro i z A K l4 hn hk hi hq hw hJ
    have hle := bf_le hJ (by omega)
    have e : i = z.2.2 := by have := hJ.1; omega
    refine ⟨z, A, K, hw, e ▸ hJ, hi, hq, ?_⟩
    rw [← e]
    rw [H_217_70]
    simp (disch := omega) only [Int.reduceAdd, Int.reduceMul, Int.reduceSub, Int.reduceNeg, na_add, na_sub, na_mul, na_neg, na_lt, na_le, na_eq, na_ofNat, bo_some, tl_some, tl_none, rc_int, rc_ref, rc_null, rc_none, rc_long, tb_0, tb_1, ↓mr_g0, mr_r0, mr_get, mr_upd, mr_at, mr_wr, Classical.not_not, not_true_eq_false, not_false_eq_true, na_l0, na_l1, na_l2, na_l3, na_l4, na_l5, na_l6, na_l7, na_l8, na_l9, na_l10, na_l14, na_l15, na_l16, na_l25, na_l30, na_l31, na_l32, na_l33, na_l39, na_l43, na_l45, na_l48, na_l49, na_l50, na_l51, na_l52, na_l53, na_l55, na_l56, na_l57, na_l60, na_l64, na_l71, na_l80, na_l96, na_l100, na_l101, na_l102, na_l103, na_l104, na_l105, na_l106, na_l107, na_l108, na_l109, na_l110, na_l111, na_l112, na_l113, na_l114, na_l115, na_l116, na_l117, na_l118, na_l119, na_l120, na_l121, na_l125, na_l128, na_l150, na_l192, na_l255, na_l999, na_l1000, na_l1248, na_l1344, na_l1875, na_l10000, ↓reduceIte, pf_and, pe_le, pf_le, pe_lt, pf_lt, pe_eq, pf_eq, true_and, and_true, false_and, and_false, true_or, or_true, false_or, or_false, I_217_0, I_217_1, I_217_2]
  | succ n ih =>
    intro i z A K l4 hn hk hi hq hw hJ
    have hle := bf_le hJ (by omega)
    have hb := hJ.1
    by_cases e : i = z.2.2
    · refine ⟨z, A, K, hw, e ▸ hJ, hi, hq, ?_⟩
      rw [← e]
      rw [H_217_70]
      simp (disch := omega) only [Int.reduceAdd, Int.reduceMul, Int.reduceSub, Int.reduceNeg, na_add, na_sub, na_mul, na_neg, na_lt, na_le, na_eq, na_ofNat, bo_some, tl_some, tl_none, rc_int, rc_ref, rc_null, rc_none, rc_long, tb_0, tb_1, ↓mr_g0, mr_r0, mr_get, mr_upd, mr_at, mr_wr, Classical.not_not, not_true_eq_false, not_false_eq_true, na_l0, na_l1, na_l2, na_l3, na_l4, na_l5, na_l6, na_l7, na_l8, na_l9, na_l10, na_l14, na_l15, na_l16, na_l25, na_l30, na_l31, na_l32, na_l33, na_l39, na_l43, na_l45, na_l48, na_l49, na_l50, na_l51, na_l52, na_l53, na_l55, na_l56, na_l57, na_l60, na_l64, na_l71, na_l80, na_l96, na_l100, na_l101, na_l102, na_l103, na_l104, na_l105, na_l106, na_l107, na_l108, na_l109, na_l110, na_l111, na_l112, na_l113, na_l114, na_l115, na_l116, na_l117, na_l118, na_l119, na_l120, na_l121, na_l125, na_l128, na_l150, na_l192, na_l255, na_l999, na_l1000, na_l1248, na_l1344, na_l1875, na_l10000, ↓reduceIte, pf_and, pe_le, pf_le, pe_lt, pf_lt, pe_eq, pf_eq, true_and, and_true, false_and, and_false, true_or, or_true, false_or, or_false, I_217_0, I_217_1, I_217_2]
    · have hiz : i < z.2.2 := by omega
      obtain ⟨z2, A2, b1, b2, b3, b4, b5, b6⟩ := h217k (M := M) (S := S) (σ := σ) hR hk2 h8 h1 h2 hg 10 0 z A K (by omega) (by omega) (by omega) hi hq hw hJ hiz rfl
      have hJ2 := bf_next (N := 1875) (nx := sm_x R f) (nw := fun _ => 10) (s0 := s0) (i := i) (z := z2) b2 b3
      obtain ⟨z3, A3, K3, c1, c2, c3, c4, c5⟩ := ih (i + 1) z2 A2 _ (some (.int (Int32.ofInt 10))) (by omega) (by omega) b4 b5 b1 hJ2
      refine ⟨z3, A3, K3, c1, c2, c3, c4, Eq.trans ?_ (b6.trans c5)⟩
      generalize hQ : ev 217 (78, [some (.ref M), some (.int (Int32.ofInt f)), some (.int (Int32.ofInt z.2.2)), some (.int (Int32.ofInt i)), some (.int (Int32.ofInt 0))], []) (mm M S A σ) = Q
      rw [H_217_70]
      simp (disch := omega) only [Int.reduceAdd, Int.reduceMul, Int.reduceSub, Int.reduceNeg, na_add, na_sub, na_mul, na_neg, na_lt, na_le, na_eq, na_ofNat, bo_some, tl_some, tl_none, rc_int, rc_ref, rc_null, rc_none, rc_long, tb_0, tb_1, ↓mr_g0, mr_r0, mr_get, mr_upd, mr_at, mr_wr, Classical.not_not, not_true_eq_false, not_false_eq_true, na_l0, na_l1, na_l2, na_l3, na_l4, na_l5, na_l6, na_l7, na_l8, na_l9, na_l10, na_l14, na_l15, na_l16, na_l25, na_l30, na_l31, na_l32, na_l33, na_l39, na_l43, na_l45, na_l48, na_l49, na_l50, na_l51, na_l52, na_l53, na_l55, na_l56, na_l57, na_l60, na_l64, na_l71, na_l80, na_l96, na_l100, na_l101, na_l102, na_l103, na_l104, na_l105, na_l106, na_l107, na_l108, na_l109, na_l110, na_l111, na_l112, na_l113, na_l114, na_l115, na_l116, na_l117, na_l118, na_l119, na_l120, na_l121, na_l125, na_l128, na_l150, na_l192, na_l255, na_l999, na_l1000, na_l1248, na_l1344, na_l1875, na_l10000, ↓reduceIte, pf_and, pe_le, pf_le, pe_lt, pf_lt, pe_eq, pf_eq, true_and, and_true, false_and, and_false, true_or, or_true, false_or, or_false, I_217_0, I_217_1, I_217_2, hQ]
theorem c217 {A : Nat → mr_R} {R : mr_R} {f : Int} (hi : mi K2 (A 2)) (hz : mi_Z (A 3)) (hk : K2 + 400000 ≤ 1000000) (h1 : 0 ≤ f) (h2 : f < A 2 2) (hR : mr_st (A 2) 8 0 = R) : ∃ z A2 K', wm A A2 z ∧ bf_J 1875 (sm_x R f) (fun _ => 10) (sm_n R f) z.2.2 0 z ∧ mi K' (A2 3) ∧ sq R f (A2 3) ∧ cal 217 [.ref M, .int (Int32.ofInt f)] (mm M S A σ) = some (some (.int (Int32.ofInt z.2.2)), mm M S A2 σ) := by
  have hc := hi.c
  have hRi : mi K2 R := by rw [← hR]; exact mi_set hi (by omega) (by omega)
  have h8 : R 8 = 0 := by rw [← hR]; exact ms_eq rfl
  have e2 : R 2 = A 2 2 := by rw [← hR]; exact ms_ne (by omega)
  have h2R : f < R 2 := by rw [e2]; exact h2
  have hg : sm_g R f (sm_n R f) := ⟨K2, R, hRi, sq_rfl, rfl⟩
  have bs := sm_g_bd hg h1 h2R
  have ef := h217f (M := M) (S := S) (A := A) (σ := σ) (f := f) (l3 := none) (l4 := none) 1875 0 (by omega) (by omega)
  have e0 : mc_fl (A 7) 0 (-1) = A 7 := by
    funext i
    unfold mc_fl
    rw [if_neg (by omega)]
  rw [e0, sa_id] at ef
  have ec := y147_23 (M := M) (S := S) (A := ms_a A 7 (mc_fl (A 7) 1875 (-1))) (σ := σ) (p := 0) (q := 0) (by omega) (by omega) (by omega) (by omega)
  rw [sa_ne (by decide), sa_ne (by decide), mc_id hi hz] at ec
  have es := fun (A : Nat → mr_R) (h : A 3 = R) => c214 (M := M) (S := S) (A := A) (σ := σ) (f := f) (K := K2) (by rw [h]; exact hRi) h1 (by rw [h]; exact h2R)
  obtain ⟨A1, hA1⟩ : ∃ A1, ms_a (ms_a A 7 (mc_fl (A 7) 1875 (-1))) 3 R = A1 := ⟨_, rfl⟩
  have a3 : A1 3 = R := by rw [← hA1, sa_eq rfl]
  have a7 : A1 7 = mc_fl (A 7) 1875 (-1) := by rw [← hA1, sa_ne (by decide), sa_eq rfl]
  have a8 : A1 8 = A 8 := by rw [← hA1, sa_ne (by decide), sa_ne (by decide)]
  have es1 := es A1 a3
  rw [a3] at es1
  obtain ⟨s0, hs0⟩ : ∃ s0, sm_n R f = s0 := ⟨_, rfl⟩
  rw [hs0] at es1 hg bs ⊢
  obtain ⟨z2, A2, K', b1, b2, b3, b4, b5⟩ := h217 (M := M) (S := S) (σ := σ) (A0 := A) hRi (by omega) h8 h1 h2R hg 1875 0 (mr_st (mc_fl (A 7) 1875 (-1)) s0 0, mr_st (A 8) 0 s0, 1) (ms_a (ms_a A1 8 (mr_st (A 8) 0 s0)) 7 (mr_st (mc_fl (A 7) 1875 (-1)) s0 0)) K2 none (by omega) (by omega) (by rw [sa_ne (by decide), sa_ne (by decide), a3]; exact hRi) (by rw [sa_ne (by decide), sa_ne (by decide), a3]; exact sq_rfl) ⟨fun j j1 j2 j3 => by rw [sa_ne j2, sa_ne j3, ← hA1, sa_ne j1, sa_ne j2], by rw [sa_eq rfl], by rw [sa_ne (by decide), sa_eq rfl]⟩ (bf_J0 bs.1 bs.2 (fun v v1 v2 => by
    by_cases e : v = s0
    · rw [ms_eq e, if_pos e]
    · rw [ms_ne e, if_neg e]
      unfold mc_fl
      rw [if_pos (by omega)]) (ms_eq rfl))
  refine ⟨z2, A2, K', b1, b2, b3, b4, Eq.trans ?_ b5⟩
  generalize hQ : ev 217 (70, [some (.ref M), some (.int (Int32.ofInt f)), some (.int (Int32.ofInt 1)), some (.int (Int32.ofInt 0)), none], []) (mm M S (ms_a (ms_a A1 8 (mr_st (A 8) 0 s0)) 7 (mr_st (mc_fl (A 7) 1875 (-1)) s0 0)) σ) = Q
  have a83 : (ms_a (ms_a A 7 (mc_fl (A 7) 1875 (-1))) 3 (mr_st (A 2) 8 0)) = A1 := by rw [hR]; exact hA1
  have r80 : mr_st (A 8) 0 s0 0 = s0 := ms_eq rfl
  rw [E_217]
  simp (disch := first | omega | decide) only [Int.reduceAdd, Int.reduceMul, Int.reduceSub, Int.reduceNeg, na_add, na_sub, na_mul, na_neg, na_lt, na_le, na_eq, na_ofNat, bo_some, tl_some, tl_none, rc_int, rc_ref, rc_null, rc_none, rc_long, tb_0, tb_1, ↓mr_g0, mr_r0, mr_get, mr_upd, mr_at, mr_wr, Classical.not_not, not_true_eq_false, not_false_eq_true, na_l0, na_l1, na_l2, na_l3, na_l4, na_l5, na_l6, na_l7, na_l8, na_l9, na_l10, na_l14, na_l15, na_l16, na_l25, na_l30, na_l31, na_l32, na_l33, na_l39, na_l43, na_l45, na_l48, na_l49, na_l50, na_l51, na_l52, na_l53, na_l55, na_l56, na_l57, na_l60, na_l64, na_l71, na_l80, na_l96, na_l100, na_l101, na_l102, na_l103, na_l104, na_l105, na_l106, na_l107, na_l108, na_l109, na_l110, na_l111, na_l112, na_l113, na_l114, na_l115, na_l116, na_l117, na_l118, na_l119, na_l120, na_l121, na_l125, na_l128, na_l150, na_l192, na_l255, na_l999, na_l1000, na_l1248, na_l1344, na_l1875, na_l10000, ↓reduceIte, pf_and, pe_le, pf_le, pe_lt, pf_lt, pe_eq, pf_eq, true_and, and_true, false_and, and_false, true_or, or_true, false_or, or_false, ↓mmk, ↓mmo_0, ↓mmo_1, ↓mmo_2, ↓mmo_3, ↓mmo_4, ↓mmo_5, ↓mmo_6, ↓mmo_7, ↓mmo_8, ↓mmo_9, ↓mmo_10, ↓mmo_11, ↓mmo_12, ↓mmv_0, ↓mmv_2, ↓mmv_6, ↓mmv_11, ↓mmv_12, ↓mmg_1, ↓mmg_2, ↓mmg_3, ↓mmg_4, ↓mmg_5, ↓mmg_6, ↓mmg_7, ↓mmg_8, mma_1, mma_2, mma_3, mma_4, mma_5, mma_6, mma_7, mma_8, mmu_0, mmu_2, mmu_6, mmu_11, mmu_12, sa_eq, sa_ne, sa_up, I_217_0, I_217_1, I_217_2, ef, ec, a83, es1, a7, a8, r80, hQ]
end MMB
