/-! The class reads: a text is carried out. -/
theorem tx_add {X : mr_R} {i : Int} {R : mr_R} {o : Int} : (tx_do X i (R, o)).1 = (tx_do X i (R, 0)).1 ∧ (tx_do X i (R, o)).2 = o + (tx_do X i (R, 0)).2 := by
  have hh : ∀ t : Int, o + t = o + (0 + t) := fun t => by omega
  unfold tx_do
  split
  · exact ⟨rfl, hh _⟩
  split
  · exact ⟨rfl, hh _⟩
  split
  · exact ⟨rfl, hh _⟩
  split
  · exact ⟨rfl, hh _⟩
  split
  · split
    · exact ⟨rfl, hh _⟩
    · exact ⟨rfl, hh 1⟩
  split
  · split
    · exact ⟨rfl, hh _⟩
    · exact ⟨rfl, hh 1⟩
  · exact ⟨rfl, hh _⟩
section CSB
variable {Ks : Nat → Nat} {C : Nat} {V : mr_R} {PR PZ X : Nat → mr_R} {σ : ri_S}
theorem h93 {n : Int} (hK : sk_ok Ks) (hV : V 0 = n) (hn0 : 0 ≤ n) (hn : n ≤ 120) (ht : ct_ok X) : ∀ (m : Nat) (i o : Int) (R : mr_R) (K : Int), 1 ≤ i → n - i ≤ m → i ≤ 121 → 0 ≤ o → o ≤ i → mi K R → 0 ≤ K → K + 20 * m ≤ 1000000 → (tx_rn (X 0) n m i (R, o)).1 = -1 → ev2 Ks 93 (4, [some (.ref (C + 1)), some (.ref (C + 3)), some (.int (Int32.ofInt o)), some (.int (Int32.ofInt i))], []) (cs C V (ms_a PR 0 R) PZ X σ) = some (some (.int (Int32.ofInt (tx_rn (X 0) n m i (R, o)).2.2)), cs C V (ms_a PR 0 (tx_rn (X 0) n m i (R, o)).2.1) PZ X σ) := by
  intro m
  induction m with
  | zero =>
    intro i o R K h1 h2 h3 h4 h5 hi hk0 hk hr
    show _ = some (some (Value.int (Int32.ofInt o)), cs C V (ms_a PR 0 R) PZ X σ)
    rw [G_93_4]
    simp (disch := omega) only [Nat.reduceAdd, Int.reduceAdd, Int.reduceMul, Int.reduceSub, Int.reduceNeg, na_add, na_sub, na_mul, na_neg, na_lt, na_le, na_eq, na_ofNat, bo_some, tl_some, tl_none, rc_int, rc_ref, rc_null, rc_none, rc_long, tb_0, tb_1, ↓mr_g0, mr_r0, mr_get, mr_upd, mr_at, mr_wr, Classical.not_not, not_true_eq_false, not_false_eq_true, na_l0, na_l1, na_l2, na_l3, na_l4, na_l5, na_l6, na_l7, na_l8, na_l9, na_l10, na_l14, na_l15, na_l16, na_l25, na_l30, na_l31, na_l32, na_l33, na_l39, na_l43, na_l45, na_l48, na_l49, na_l50, na_l51, na_l52, na_l53, na_l55, na_l56, na_l57, na_l60, na_l64, na_l71, na_l80, na_l96, na_l100, na_l101, na_l102, na_l103, na_l104, na_l105, na_l106, na_l107, na_l108, na_l109, na_l110, na_l111, na_l112, na_l113, na_l114, na_l115, na_l116, na_l117, na_l118, na_l119, na_l120, na_l121, na_l125, na_l128, na_l150, na_l192, na_l255, na_l999, na_l1000, na_l1248, na_l1344, na_l1875, na_l10000, ↓reduceIte, pf_and, pe_le, pf_le, pe_lt, pf_lt, pe_eq, pf_eq, true_and, and_true, false_and, and_false, true_or, or_true, false_or, or_false, ↓csk_0, ↓cso_0_0, ↓cso_0_1, ↓cso_0_2, ↓cso_0_3, ↓cso_0_4, ↓cso_0_5, ↓csk_1, ↓cso_1_0, ↓cso_1_1, ↓csk_37, ↓cso_37_0, ↓cso_37_1, ↓cso_37_2, ↓csk_277, ↓cso_277_0, ↓cso_277_1, ↓csk_314, ↓cso_314_0, ↓cso_314_1, ↓cso_314_2, ↓cso_314_3, ↓cso_314_4, ↓cso_314_5, ↓cso_314_6, ↓cso_314_7, ↓cso_314_8, ↓cso_314_9, ↓csg_2, ↓csn_2, ↓csg_279, ↓csn_279, ↓csg_315, ↓csn_315, ↓csg_316, ↓csn_316, ↓csg_317, ↓csn_317, ↓csg_318, ↓csn_318, ↓csg_319, ↓csn_319, ↓csg_320, ↓csn_320, ↓csg_321, ↓csn_321, ↓csg_322, ↓csn_322, ↓csg_323, ↓csn_323, ↓csq_38, ↓csm_38, ↓csq_278, ↓csm_278, J_93, hV]
  | succ m ih =>
    intro i o R K h1 h2 h3 h4 h5 hi hk0 hk hr
    unfold tx_rn at hr ⊢
    by_cases q : i < n
    · rw [if_pos q] at hr ⊢
      have hle := tx_cm_le (X := X 0) q
      by_cases c : (tx_cm (X 0) n i).2 = true
      · rw [if_pos c] at hr ⊢
        have hc := hle.2.2 c
        have bx := ht i (by omega) (by omega)
        have e94 := cal_2 (Ks := Ks) (c94 (C := C) (V := V) (PR := ms_a PR 0 R) (PZ := PZ) (X := X) (σ := σ) (K := K) (i := i) (n := n) (by rw [sa_eq rfl]; exact hi) (by omega) ht h1 q hn c)
        rw [sa_eq rfl, sa_up] at e94
        have hadd := tx_add (X := X 0) (i := i) (R := R) (o := o)
        have ho := tx_out (X := X 0) (i := i) (z := (R, 0))
        have hm := tx_mi (X := X 0) (n := n) (i := i) (z := (R, 0)) hi (by omega) hk0 c
        have e140 := cal_2 (Ks := Ks) (r140_t (C := C) (V := V) (PR := ms_a PR 0 (tx_do (X 0) i (R, 0)).1) (PZ := PZ) (X := X) (σ := σ) (i := i) (by omega) (by omega))
        obtain ⟨x, hx⟩ : ∃ x, X 0 i = x := ⟨_, rfl⟩
        rw [hx] at bx e140 hc
        have hlb := tx_lb x
        have e91 := c91 (Ks := Ks) (σ := cs C V (ms_a PR 0 (tx_do (X 0) i (R, 0)).1) PZ X σ) bx.1 bx.2
        have eln := fun (pc : Nat) (L : ri_L) (v w : Value) => se_ln (pc := pc) (L := L) (st := [v, w]) hK hlb.1 hlb.2.1 rfl
        obtain ⟨z2, hz2⟩ : ∃ z2, tx_do (X 0) i (R, 0) = z2 := ⟨_, rfl⟩
        have hz : tx_do (X 0) i (R, o) = (z2.1, o + z2.2) := by
          rw [← hz2]
          exact Prod.ext hadd.1 hadd.2
        rw [hz] at hr ⊢
        rw [hz2] at e94 ho hm e140 e91
        have ho1 : 0 ≤ z2.2 := ho.1
        have ho2 : z2.2 ≤ 0 + 1 := ho.2
        have hlen := tx_fm_len x
        have ihh := ih (tx_cm (X 0) n i).1 (o + z2.2) z2.1 (K + 20) (by omega) (by omega) (by omega) (by omega) (by omega) hm (by omega) (by omega) hr
        refine Eq.trans ?_ ihh
        rw [hc.2]
        obtain ⟨ln, hln⟩ : ∃ ln : Int, ((tx_fm x).length : Int) = ln := ⟨_, rfl⟩
        have hln0 : 0 ≤ ln := by omega
        rw [hln] at eln hlen ⊢
        generalize hQ : ev2 Ks 93 (4, [some (.ref (C + 1)), some (.ref (C + 3)), some (.int (Int32.ofInt (o + z2.2))), some (.int (Int32.ofInt (i + 1 + ln)))], []) (cs C V (ms_a PR 0 z2.1) PZ X σ) = Q
        rw [show i + 1 + ln = i + (1 + ln) by omega] at hQ
        have hd : z2.2 = 0 ∨ z2.2 = 1 := by omega
        rcases hd with hd | hd
        · rw [hd, Int.add_zero] at hQ
          rw [hd] at e94
          rw [G_93_4]
          simp (disch := omega) only [Nat.reduceAdd, Int.reduceAdd, Int.reduceMul, Int.reduceSub, Int.reduceNeg, na_add, na_sub, na_mul, na_neg, na_lt, na_le, na_eq, na_ofNat, bo_some, tl_some, tl_none, rc_int, rc_ref, rc_null, rc_none, rc_long, tb_0, tb_1, ↓mr_g0, mr_r0, mr_get, mr_upd, mr_at, mr_wr, Classical.not_not, not_true_eq_false, not_false_eq_true, na_l0, na_l1, na_l2, na_l3, na_l4, na_l5, na_l6, na_l7, na_l8, na_l9, na_l10, na_l14, na_l15, na_l16, na_l25, na_l30, na_l31, na_l32, na_l33, na_l39, na_l43, na_l45, na_l48, na_l49, na_l50, na_l51, na_l52, na_l53, na_l55, na_l56, na_l57, na_l60, na_l64, na_l71, na_l80, na_l96, na_l100, na_l101, na_l102, na_l103, na_l104, na_l105, na_l106, na_l107, na_l108, na_l109, na_l110, na_l111, na_l112, na_l113, na_l114, na_l115, na_l116, na_l117, na_l118, na_l119, na_l120, na_l121, na_l125, na_l128, na_l150, na_l192, na_l255, na_l999, na_l1000, na_l1248, na_l1344, na_l1875, na_l10000, ↓reduceIte, pf_and, pe_le, pf_le, pe_lt, pf_lt, pe_eq, pf_eq, true_and, and_true, false_and, and_false, true_or, or_true, false_or, or_false, ↓csk_0, ↓cso_0_0, ↓cso_0_1, ↓cso_0_2, ↓cso_0_3, ↓cso_0_4, ↓cso_0_5, ↓csk_1, ↓cso_1_0, ↓cso_1_1, ↓csk_37, ↓cso_37_0, ↓cso_37_1, ↓cso_37_2, ↓csk_277, ↓cso_277_0, ↓cso_277_1, ↓csk_314, ↓cso_314_0, ↓cso_314_1, ↓cso_314_2, ↓cso_314_3, ↓cso_314_4, ↓cso_314_5, ↓cso_314_6, ↓cso_314_7, ↓cso_314_8, ↓cso_314_9, ↓csg_2, ↓csn_2, ↓csg_279, ↓csn_279, ↓csg_315, ↓csn_315, ↓csg_316, ↓csn_316, ↓csg_317, ↓csn_317, ↓csg_318, ↓csn_318, ↓csg_319, ↓csn_319, ↓csg_320, ↓csn_320, ↓csg_321, ↓csn_321, ↓csg_322, ↓csn_322, ↓csg_323, ↓csn_323, ↓csq_38, ↓csm_38, ↓csq_278, ↓csm_278, J_93, hV, e94, e140, e91, eln, so_bind, hQ]
        · rw [hd] at hQ e94
          rw [G_93_4]
          simp (disch := omega) only [Nat.reduceAdd, Int.reduceAdd, Int.reduceMul, Int.reduceSub, Int.reduceNeg, na_add, na_sub, na_mul, na_neg, na_lt, na_le, na_eq, na_ofNat, bo_some, tl_some, tl_none, rc_int, rc_ref, rc_null, rc_none, rc_long, tb_0, tb_1, ↓mr_g0, mr_r0, mr_get, mr_upd, mr_at, mr_wr, Classical.not_not, not_true_eq_false, not_false_eq_true, na_l0, na_l1, na_l2, na_l3, na_l4, na_l5, na_l6, na_l7, na_l8, na_l9, na_l10, na_l14, na_l15, na_l16, na_l25, na_l30, na_l31, na_l32, na_l33, na_l39, na_l43, na_l45, na_l48, na_l49, na_l50, na_l51, na_l52, na_l53, na_l55, na_l56, na_l57, na_l60, na_l64, na_l71, na_l80, na_l96, na_l100, na_l101, na_l102, na_l103, na_l104, na_l105, na_l106, na_l107, na_l108, na_l109, na_l110, na_l111, na_l112, na_l113, na_l114, na_l115, na_l116, na_l117, na_l118, na_l119, na_l120, na_l121, na_l125, na_l128, na_l150, na_l192, na_l255, na_l999, na_l1000, na_l1248, na_l1344, na_l1875, na_l10000, ↓reduceIte, pf_and, pe_le, pf_le, pe_lt, pf_lt, pe_eq, pf_eq, true_and, and_true, false_and, and_false, true_or, or_true, false_or, or_false, ↓csk_0, ↓cso_0_0, ↓cso_0_1, ↓cso_0_2, ↓cso_0_3, ↓cso_0_4, ↓cso_0_5, ↓csk_1, ↓cso_1_0, ↓cso_1_1, ↓csk_37, ↓cso_37_0, ↓cso_37_1, ↓cso_37_2, ↓csk_277, ↓cso_277_0, ↓cso_277_1, ↓csk_314, ↓cso_314_0, ↓cso_314_1, ↓cso_314_2, ↓cso_314_3, ↓cso_314_4, ↓cso_314_5, ↓cso_314_6, ↓cso_314_7, ↓cso_314_8, ↓cso_314_9, ↓csg_2, ↓csn_2, ↓csg_279, ↓csn_279, ↓csg_315, ↓csn_315, ↓csg_316, ↓csn_316, ↓csg_317, ↓csn_317, ↓csg_318, ↓csn_318, ↓csg_319, ↓csn_319, ↓csg_320, ↓csn_320, ↓csg_321, ↓csn_321, ↓csg_322, ↓csn_322, ↓csg_323, ↓csn_323, ↓csq_38, ↓csm_38, ↓csq_278, ↓csm_278, J_93, hV, e94, e140, e91, eln, so_bind, hQ]
      · rw [if_neg c] at hr
        have hr : (tx_cm (X 0) n i).1 = -1 := hr
        omega
    · rw [if_neg q] at hr ⊢
      show _ = some (some (Value.int (Int32.ofInt o)), cs C V (ms_a PR 0 R) PZ X σ)
      rw [G_93_4]
      simp (disch := omega) only [Nat.reduceAdd, Int.reduceAdd, Int.reduceMul, Int.reduceSub, Int.reduceNeg, na_add, na_sub, na_mul, na_neg, na_lt, na_le, na_eq, na_ofNat, bo_some, tl_some, tl_none, rc_int, rc_ref, rc_null, rc_none, rc_long, tb_0, tb_1, ↓mr_g0, mr_r0, mr_get, mr_upd, mr_at, mr_wr, Classical.not_not, not_true_eq_false, not_false_eq_true, na_l0, na_l1, na_l2, na_l3, na_l4, na_l5, na_l6, na_l7, na_l8, na_l9, na_l10, na_l14, na_l15, na_l16, na_l25, na_l30, na_l31, na_l32, na_l33, na_l39, na_l43, na_l45, na_l48, na_l49, na_l50, na_l51, na_l52, na_l53, na_l55, na_l56, na_l57, na_l60, na_l64, na_l71, na_l80, na_l96, na_l100, na_l101, na_l102, na_l103, na_l104, na_l105, na_l106, na_l107, na_l108, na_l109, na_l110, na_l111, na_l112, na_l113, na_l114, na_l115, na_l116, na_l117, na_l118, na_l119, na_l120, na_l121, na_l125, na_l128, na_l150, na_l192, na_l255, na_l999, na_l1000, na_l1248, na_l1344, na_l1875, na_l10000, ↓reduceIte, pf_and, pe_le, pf_le, pe_lt, pf_lt, pe_eq, pf_eq, true_and, and_true, false_and, and_false, true_or, or_true, false_or, or_false, ↓csk_0, ↓cso_0_0, ↓cso_0_1, ↓cso_0_2, ↓cso_0_3, ↓cso_0_4, ↓cso_0_5, ↓csk_1, ↓cso_1_0, ↓cso_1_1, ↓csk_37, ↓cso_37_0, ↓cso_37_1, ↓cso_37_2, ↓csk_277, ↓cso_277_0, ↓cso_277_1, ↓csk_314, ↓cso_314_0, ↓cso_314_1, ↓cso_314_2, ↓cso_314_3, ↓cso_314_4, ↓cso_314_5, ↓cso_314_6, ↓cso_314_7, ↓cso_314_8, ↓cso_314_9, ↓csg_2, ↓csn_2, ↓csg_279, ↓csn_279, ↓csg_315, ↓csn_315, ↓csg_316, ↓csn_316, ↓csg_317, ↓csn_317, ↓csg_318, ↓csn_318, ↓csg_319, ↓csn_319, ↓csg_320, ↓csn_320, ↓csg_321, ↓csn_321, ↓csg_322, ↓csn_322, ↓csg_323, ↓csn_323, ↓csq_38, ↓csm_38, ↓csq_278, ↓csm_278, J_93, hV]
/-- carryOut, on an empty pond -/
theorem c93 {n : Int} (hK : sk_ok Ks) (hV : V 0 = n) (hn0 : 0 ≤ n) (hn : n ≤ 120) (ht : ct_ok X) (hr : (tx_e (X 0) n).1 = -1) (hP : PR 0 = fun _ => 0) : cal2 Ks 93 [.ref (C + 1), .ref (C + 3)] (cs C V PR PZ X σ) = some (some (.int (Int32.ofInt (tx_e (X 0) n).2.2)), cs C V (ms_a PR 0 (tx_e (X 0) n).2.1) PZ X σ) := by
  unfold tx_e at hr ⊢
  by_cases q : n = 0 ∨ ¬ X 0 0 = 80
  · rw [if_pos q] at hr
    exact absurd (show (0 : Int) = -1 from hr) (by omega)
  · rw [if_neg q] at hr ⊢
    have h := h93 (Ks := Ks) (C := C) (V := V) (PR := PR) (PZ := PZ) (X := X) (σ := σ) hK hV hn0 hn ht 120 1 0 (fun _ => 0) 0 (by omega) (by omega) (by omega) (by omega) (by omega) (mi_none (by omega) (by omega)) (by omega) (by omega) hr
    rw [← hP, sa_id, hP] at h
    rw [F_93]
    simp (disch := omega) only [Nat.reduceAdd, Int.reduceAdd, Int.reduceMul, Int.reduceSub, Int.reduceNeg, na_add, na_sub, na_mul, na_neg, na_lt, na_le, na_eq, na_ofNat, bo_some, tl_some, tl_none, rc_int, rc_ref, rc_null, rc_none, rc_long, tb_0, tb_1, ↓mr_g0, mr_r0, mr_get, mr_upd, mr_at, mr_wr, Classical.not_not, not_true_eq_false, not_false_eq_true, na_l0, na_l1, na_l2, na_l3, na_l4, na_l5, na_l6, na_l7, na_l8, na_l9, na_l10, na_l14, na_l15, na_l16, na_l25, na_l30, na_l31, na_l32, na_l33, na_l39, na_l43, na_l45, na_l48, na_l49, na_l50, na_l51, na_l52, na_l53, na_l55, na_l56, na_l57, na_l60, na_l64, na_l71, na_l80, na_l96, na_l100, na_l101, na_l102, na_l103, na_l104, na_l105, na_l106, na_l107, na_l108, na_l109, na_l110, na_l111, na_l112, na_l113, na_l114, na_l115, na_l116, na_l117, na_l118, na_l119, na_l120, na_l121, na_l125, na_l128, na_l150, na_l192, na_l255, na_l999, na_l1000, na_l1248, na_l1344, na_l1875, na_l10000, ↓reduceIte, pf_and, pe_le, pf_le, pe_lt, pf_lt, pe_eq, pf_eq, true_and, and_true, false_and, and_false, true_or, or_true, false_or, or_false, J_93, h]
end CSB
