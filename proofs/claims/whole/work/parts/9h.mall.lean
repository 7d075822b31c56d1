/-! Most flies of the model: all walks. -/
section MO
variable {K : Int} {R : mr_R} {f : Int}
theorem mo_G (hR : mi K R) (hk : K + 20 ≤ 1000000) (h8 : R 8 = 0) (h1 : 0 ≤ f) (h2 : f < R 2) : ∀ s k, sm_g R f s → 0 ≤ k → k < (fun _ => (10 : Int)) s → sm_x R f s k ≠ -1 → sm_g R f (sm_x R f s k) ∧ be_ok R (sm_x R f s k % 15) := by
  intro s k hg k1 k2 hx
  have g := sm_gx hR hk h8 h1 h2 hg k1 k2 hx
  have hz := sz_g hR g h1 h2
  refine ⟨g, ?_⟩
  unfold be_ok
  exact ⟨by omega, by omega, hz.2.1.1⟩
theorem mo_E (hR : mi K R) (hk : K + 20 ≤ 1000000) (h8 : R 8 = 0) (h1 : 0 ≤ f) (h2 : f < R 2) : ∀ (n : Nat) (s c : Int) (Y : mr_R), 0 ≤ c → be_E (sm_x R f) (fun _ => 10) (fun v => v % 15) n s Y (mo_w R f n s Y c) := by
  intro n
  induction n with
  | zero => intro s c Y _; exact rfl
  | succ n ih =>
    intro s c Y c0
    unfold mo_w
    by_cases e : sm_x R f s (c % 10) = -1
    · rw [if_pos e]
      exact Or.inl rfl
    · rw [if_neg e]
      exact Or.inr ⟨c % 10, _, by omega, by show c % 10 < 10; omega, e, ih _ (c / 10) _ (by omega), rfl⟩
def mo_p : Nat → Int
  | 0 => 1
  | n + 1 => 10 * mo_p n
theorem mo_pp (n : Nat) : 0 < mo_p n := by
  induction n with
  | zero => decide
  | succ n ih => show 0 < 10 * mo_p n; omega
theorem mo_ge (hR : mi K R) (hk : K + 20 ≤ 1000000) (h8 : R 8 = 0) (h1 : 0 ≤ f) (h2 : f < R 2) : ∀ (n : Nat) (s t : Int) (Y : mr_R), sm_g R f s → be_Y R Y → be_E (sm_x R f) (fun _ => 10) (fun v => v % 15) n s Y t → ∃ c, 0 ≤ c ∧ c < mo_p n ∧ t ≤ mo_w R f n s Y c := by
  have hG := mo_G hR hk h8 h1 h2
  intro n
  induction n with
  | zero =>
    intro s t Y _ _ h
    refine ⟨0, by omega, by decide, ?_⟩
    rw [show t = 0 from h]
    exact Int.le_refl _
  | succ n ih =>
    intro s t Y hs hY h
    have hp := mo_pp n
    rcases h with a | ⟨j, t', a, b, c, d, e⟩
    · refine ⟨0, by omega, by show 0 < 10 * mo_p n; omega, ?_⟩
      have hb := be_bd (G := sm_g R f) (ok := be_ok R) hG (n + 1) s Y _ hs hY (mo_E hR hk h8 h1 h2 (n + 1) s 0 Y (by omega))
      rw [a]
      exact hb.1
    · obtain ⟨g1, g2⟩ := hG s j hs a b c
      obtain ⟨c', c1, c2, c3⟩ := ih _ t' _ g1 (be_Y0 hY _) d
      have b : j < 10 := b
      refine ⟨j + 10 * c', by omega, by show j + 10 * c' < 10 * mo_p n; omega, ?_⟩
      unfold mo_w
      rw [show (j + 10 * c') % 10 = j by omega, show (j + 10 * c') / 10 = c' by omega, if_neg c, e]
      have c3 : t' ≤ mo_w R f n (sm_x R f s j) (mr_st Y (sm_x R f s j % 15) 0) c' := c3
      show Y (sm_x R f s j % 15) + t' ≤ _
      omega
end MO
section MMB
variable {M : Nat} {S : mr_R} {A : Nat → mr_R} {σ : ri_S} {K : Int}
def mo_P (g : Int → Int) (k m : Int) : Prop := (m = 0 ∨ ∃ c, 0 ≤ c ∧ c < k ∧ m = g c) ∧ (∀ c, 0 ≤ c → c < k → g c ≤ m) ∧ 0 ≤ m
theorem h221 {R : mr_R} {f al : Int} {n : Nat} (hi : mi K (A 2)) (hk : K + 1000 ≤ 1000000) (h1 : 0 ≤ f) (h2 : f < A 2 2) (hR : mr_st (A 2) 8 0 = R) (n4 : n ≤ 4) (hal : al ≤ 10000) (hbd : ∀ c, 0 ≤ c → 0 ≤ mo_w R f n (sm_n R f) (mo_y R) c ∧ mo_w R f n (sm_n R f) (mo_y R) c ≤ 36) : ∀ (m : Nat) (co mo K1 : Int) (A1 : Nat → mr_R) (l6 l7 l8 : Option Value), ri_clr l7 = l7 → 0 ≤ co → co + m = al → wt A A1 → mi K1 (A1 3) → mo_P (fun c => mo_w R f n (sm_n R f) (mo_y R) c) co mo → mo ≤ 36 → ∃ r A2 K2, wt A A2 ∧ mi K2 (A2 3) ∧ mo_P (fun c => mo_w R f n (sm_n R f) (mo_y R) c) al r ∧ r ≤ 36 ∧ ev 221 (69, [some (.ref M), some (.int (Int32.ofInt f)), some (.int (Int32.ofInt n)), some (.int (Int32.ofInt al)), some (.int (Int32.ofInt mo)), some (.int (Int32.ofInt co)), l6, l7, l8], []) (mm M S A1 σ) = some (some (.int (Int32.ofInt r)), mm M S A2 σ) := by
  have hc := hi.c
  have hRi : mi K R := by rw [← hR]; exact mi_set hi (by omega) (by omega)
  have h8 : R 8 = 0 := by rw [← hR]; exact ms_eq rfl
  have e2 : R 2 = A 2 2 := by rw [← hR]; exact ms_ne (by omega)
  have e4 : R 4 = A 2 4 := by rw [← hR]; exact ms_ne (by omega)
  have h2R : f < R 2 := by rw [e2]; exact h2
  intro m
  induction m with
  | zero =>
    intro co mo K1 A1 l6 l7 l8 hl7 c0 c1 hw hi1 hP hm
    obtain rfl : co = al := by omega
    have hm0 := hP.2.2
    refine ⟨mo, A1, K1, hw, hi1, hP, hm, ?_⟩
    rw [H_221_69]
    simp (disch := omega) only [Int.reduceAdd, Int.reduceMul, Int.reduceSub, Int.reduceNeg, na_add, na_sub, na_mul, na_neg, na_lt, na_le, na_eq, na_ofNat, bo_some, tl_some, tl_none, rc_int, rc_ref, rc_null, rc_none, rc_long, tb_0, tb_1, ↓mr_g0, mr_r0, mr_get, mr_upd, mr_at, mr_wr, Classical.not_not, not_true_eq_false, not_false_eq_true, na_l0, na_l1, na_l2, na_l3, na_l4, na_l5, na_l6, na_l7, na_l8, na_l9, na_l10, na_l14, na_l15, na_l16, na_l25, na_l30, na_l31, na_l32, na_l33, na_l39, na_l43, na_l45, na_l48, na_l49, na_l50, na_l51, na_l52, na_l53, na_l55, na_l56, na_l57, na_l60, na_l64, na_l71, na_l80, na_l96, na_l100, na_l101, na_l102, na_l103, na_l104, na_l105, na_l106, na_l107, na_l108, na_l109, na_l110, na_l111, na_l112, na_l113, na_l114, na_l115, na_l116, na_l117, na_l118, na_l119, na_l120, na_l121, na_l125, na_l128, na_l150, na_l192, na_l255, na_l999, na_l1000, na_l1248, na_l1344, na_l1875, na_l10000, ↓reduceIte, pf_and, pe_le, pf_le, pe_lt, pf_lt, pe_eq, pf_eq, true_and, and_true, false_and, and_false, true_or, or_true, false_or, or_false, I_221_0, I_221_1, I_221_2]
  | succ m ih =>
    intro co mo K1 A1 l6 l7 l8 hl7 c0 c1 hw hi1 hP hm
    have ec := y147_23 (M := M) (S := S) (A := A1) (σ := σ) (p := 0) (q := 0) (by omega) (by omega) (by omega) (by omega)
    rw [hw 2 (by decide), mc_id hi hi1.2.2.2.2.2.2] at ec
    obtain ⟨A2, rest2, left2, b1, b2, b3, b4⟩ := h221w (M := M) (S := S) (σ := σ) (nn := n) (al := al) (mo := mo) (co := co) hRi (by omega) h8 h1 h2R n co (sm_n R f) K (ms_a A1 3 R) l8 c0 (by omega) (by omega) (by omega) (by rw [sa_eq rfl]; exact hRi) (by rw [sa_eq rfl]; exact sq_rfl) (by rw [sa_eq rfl])
    rw [sa_eq rfl, e4] at b3
    have a22 : A2 2 = A 2 := by rw [b1 2 (by decide), sa_ne (by decide), hw 2 (by decide)]
    have w2 : wt A A2 := fun j j1 => by rw [b1 j j1, sa_ne j1, hw j j1]
    have hmb := hbd co c0
    have hm0 := hP.2.2
    obtain ⟨at', hat⟩ : ∃ t, mo_w R f n (sm_n R f) (mo_y R) co = t := ⟨_, rfl⟩
    rw [hat] at b3 hmb
    have r3 : A2 3 4 = A 2 4 + at' := b3
    have e24 : A2 2 4 = A 2 4 := by rw [a22]
    have pre : ev 221 (69, [some (.ref M), some (.int (Int32.ofInt f)), some (.int (Int32.ofInt n)), some (.int (Int32.ofInt al)), some (.int (Int32.ofInt mo)), some (.int (Int32.ofInt co)), l6, l7, l8], []) (mm M S A1 σ) = ev 221 (103, [some (.ref M), some (.int (Int32.ofInt f)), some (.int (Int32.ofInt n)), some (.int (Int32.ofInt al)), some (.int (Int32.ofInt mo)), some (.int (Int32.ofInt co)), some (.int (Int32.ofInt co)), some (.int (Int32.ofInt n)), l8], []) (mm M S (ms_a A1 3 R) σ) := by
      generalize hQ : ev 221 (103, [some (.ref M), some (.int (Int32.ofInt f)), some (.int (Int32.ofInt n)), some (.int (Int32.ofInt al)), some (.int (Int32.ofInt mo)), some (.int (Int32.ofInt co)), some (.int (Int32.ofInt co)), some (.int (Int32.ofInt n)), l8], []) (mm M S (ms_a A1 3 R) σ) = Q
      rw [H_221_69]
      simp (disch := omega) only [Int.reduceAdd, Int.reduceMul, Int.reduceSub, Int.reduceNeg, na_add, na_sub, na_mul, na_neg, na_lt, na_le, na_eq, na_ofNat, bo_some, tl_some, tl_none, rc_int, rc_ref, rc_null, rc_none, rc_long, tb_0, tb_1, ↓mr_g0, mr_r0, mr_get, mr_upd, mr_at, mr_wr, Classical.not_not, not_true_eq_false, not_false_eq_true, na_l0, na_l1, na_l2, na_l3, na_l4, na_l5, na_l6, na_l7, na_l8, na_l9, na_l10, na_l14, na_l15, na_l16, na_l25, na_l30, na_l31, na_l32, na_l33, na_l39, na_l43, na_l45, na_l48, na_l49, na_l50, na_l51, na_l52, na_l53, na_l55, na_l56, na_l57, na_l60, na_l64, na_l71, na_l80, na_l96, na_l100, na_l101, na_l102, na_l103, na_l104, na_l105, na_l106, na_l107, na_l108, na_l109, na_l110, na_l111, na_l112, na_l113, na_l114, na_l115, na_l116, na_l117, na_l118, na_l119, na_l120, na_l121, na_l125, na_l128, na_l150, na_l192, na_l255, na_l999, na_l1000, na_l1248, na_l1344, na_l1875, na_l10000, ↓reduceIte, pf_and, pe_le, pf_le, pe_lt, pf_lt, pe_eq, pf_eq, true_and, and_true, false_and, and_false, true_or, or_true, false_or, or_false, ↓mmk, ↓mmo_0, ↓mmo_1, ↓mmo_2, ↓mmo_3, ↓mmo_4, ↓mmo_5, ↓mmo_6, ↓mmo_7, ↓mmo_8, ↓mmo_9, ↓mmo_10, ↓mmo_11, ↓mmo_12, ↓mmv_0, ↓mmv_2, ↓mmv_6, ↓mmv_11, ↓mmv_12, ↓mmg_1, ↓mmg_2, ↓mmg_3, ↓mmg_4, ↓mmg_5, ↓mmg_6, ↓mmg_7, ↓mmg_8, mma_1, mma_2, mma_3, mma_4, mma_5, mma_6, mma_7, mma_8, mmu_0, mmu_2, mmu_6, mmu_11, mmu_12, sa_eq, sa_ne, sa_up, I_221_0, I_221_1, I_221_2, ec, hR, hl7, hQ]
    by_cases c : at' ≤ mo
    · obtain ⟨r, A3, K3, d1, d2, d3, d4, d5⟩ := ih (co + 1) mo _ A2 (some (.int (Int32.ofInt rest2))) (some (.int (Int32.ofInt left2))) (some (.int (Int32.ofInt at'))) rfl (by omega) (by omega) w2 b2 ⟨by
        rcases hP.1 with e | ⟨c', e1, e2, e3⟩
        · exact Or.inl e
        · exact Or.inr ⟨c', e1, by omega, e3⟩, fun c' e1 e2 => by
        by_cases e : c' = co
        · rw [e]
          show mo_w R f n (sm_n R f) (mo_y R) co ≤ mo
          rw [hat]
          exact c
        · exact hP.2.1 c' e1 (by omega), hm0⟩ hm
      refine ⟨r, A3, K3, d1, d2, d3, d4, pre.trans (b4.trans (Eq.trans ?_ d5))⟩
      generalize hQ : ev 221 (69, [some (.ref M), some (.int (Int32.ofInt f)), some (.int (Int32.ofInt n)), some (.int (Int32.ofInt al)), some (.int (Int32.ofInt mo)), some (.int (Int32.ofInt (co + 1))), some (.int (Int32.ofInt rest2)), some (.int (Int32.ofInt left2)), some (.int (Int32.ofInt at'))], []) (mm M S A2 σ) = Q
      simp (disch := omega) only [Int.reduceAdd, Int.reduceMul, Int.reduceSub, Int.reduceNeg, na_add, na_sub, na_mul, na_neg, na_lt, na_le, na_eq, na_ofNat, bo_some, tl_some, tl_none, rc_int, rc_ref, rc_null, rc_none, rc_long, tb_0, tb_1, ↓mr_g0, mr_r0, mr_get, mr_upd, mr_at, mr_wr, Classical.not_not, not_true_eq_false, not_false_eq_true, na_l0, na_l1, na_l2, na_l3, na_l4, na_l5, na_l6, na_l7, na_l8, na_l9, na_l10, na_l14, na_l15, na_l16, na_l25, na_l30, na_l31, na_l32, na_l33, na_l39, na_l43, na_l45, na_l48, na_l49, na_l50, na_l51, na_l52, na_l53, na_l55, na_l56, na_l57, na_l60, na_l64, na_l71, na_l80, na_l96, na_l100, na_l101, na_l102, na_l103, na_l104, na_l105, na_l106, na_l107, na_l108, na_l109, na_l110, na_l111, na_l112, na_l113, na_l114, na_l115, na_l116, na_l117, na_l118, na_l119, na_l120, na_l121, na_l125, na_l128, na_l150, na_l192, na_l255, na_l999, na_l1000, na_l1248, na_l1344, na_l1875, na_l10000, ↓reduceIte, pf_and, pe_le, pf_le, pe_lt, pf_lt, pe_eq, pf_eq, true_and, and_true, false_and, and_false, true_or, or_true, false_or, or_false, ↓mmk, ↓mmo_0, ↓mmo_1, ↓mmo_2, ↓mmo_3, ↓mmo_4, ↓mmo_5, ↓mmo_6, ↓mmo_7, ↓mmo_8, ↓mmo_9, ↓mmo_10, ↓mmo_11, ↓mmo_12, ↓mmv_0, ↓mmv_2, ↓mmv_6, ↓mmv_11, ↓mmv_12, ↓mmg_1, ↓mmg_2, ↓mmg_3, ↓mmg_4, ↓mmg_5, ↓mmg_6, ↓mmg_7, ↓mmg_8, mma_1, mma_2, mma_3, mma_4, mma_5, mma_6, mma_7, mma_8, mmu_0, mmu_2, mmu_6, mmu_11, mmu_12, sa_eq, sa_ne, sa_up, I_221_0, I_221_1, I_221_2, r3, e24, show A 2 4 + at' - A 2 4 = at' by omega, hQ]
    · obtain ⟨r, A3, K3, d1, d2, d3, d4, d5⟩ := ih (co + 1) at' _ A2 (some (.int (Int32.ofInt rest2))) (some (.int (Int32.ofInt left2))) (some (.int (Int32.ofInt at'))) rfl (by omega) (by omega) w2 b2 ⟨Or.inr ⟨co, c0, by omega, hat.symm⟩, fun c' e1 e2 => by
        by_cases e : c' = co
        · rw [e]
          show mo_w R f n (sm_n R f) (mo_y R) co ≤ at'
          rw [hat]
          exact Int.le_refl _
        · have := hP.2.1 c' e1 (by omega)
          omega, by omega⟩ (by omega)
      refine ⟨r, A3, K3, d1, d2, d3, d4, pre.trans (b4.trans (Eq.trans ?_ d5))⟩
      generalize hQ : ev 221 (69, [some (.ref M), some (.int (Int32.ofInt f)), some (.int (Int32.ofInt n)), some (.int (Int32.ofInt al)), some (.int (Int32.ofInt at')), some (.int (Int32.ofInt (co + 1))), some (.int (Int32.ofInt rest2)), some (.int (Int32.ofInt left2)), some (.int (Int32.ofInt at'))], []) (mm M S A2 σ) = Q
      simp (disch := omega) only [Int.reduceAdd, Int.reduceMul, Int.reduceSub, Int.reduceNeg, na_add, na_sub, na_mul, na_neg, na_lt, na_le, na_eq, na_ofNat, bo_some, tl_some, tl_none, rc_int, rc_ref, rc_null, rc_none, rc_long, tb_0, tb_1, ↓mr_g0, mr_r0, mr_get, mr_upd, mr_at, mr_wr, Classical.not_not, not_true_eq_false, not_false_eq_true, na_l0, na_l1, na_l2, na_l3, na_l4, na_l5, na_l6, na_l7, na_l8, na_l9, na_l10, na_l14, na_l15, na_l16, na_l25, na_l30, na_l31, na_l32, na_l33, na_l39, na_l43, na_l45, na_l48, na_l49, na_l50, na_l51, na_l52, na_l53, na_l55, na_l56, na_l57, na_l60, na_l64, na_l71, na_l80, na_l96, na_l100, na_l101, na_l102, na_l103, na_l104, na_l105, na_l106, na_l107, na_l108, na_l109, na_l110, na_l111, na_l112, na_l113, na_l114, na_l115, na_l116, na_l117, na_l118, na_l119, na_l120, na_l121, na_l125, na_l128, na_l150, na_l192, na_l255, na_l999, na_l1000, na_l1248, na_l1344, na_l1875, na_l10000, ↓reduceIte, pf_and, pe_le, pf_le, pe_lt, pf_lt, pe_eq, pf_eq, true_and, and_true, false_and, and_false, true_or, or_true, false_or, or_false, ↓mmk, ↓mmo_0, ↓mmo_1, ↓mmo_2, ↓mmo_3, ↓mmo_4, ↓mmo_5, ↓mmo_6, ↓mmo_7, ↓mmo_8, ↓mmo_9, ↓mmo_10, ↓mmo_11, ↓mmo_12, ↓mmv_0, ↓mmv_2, ↓mmv_6, ↓mmv_11, ↓mmv_12, ↓mmg_1, ↓mmg_2, ↓mmg_3, ↓mmg_4, ↓mmg_5, ↓mmg_6, ↓mmg_7, ↓mmg_8, mma_1, mma_2, mma_3, mma_4, mma_5, mma_6, mma_7, mma_8, mmu_0, mmu_2, mmu_6, mmu_11, mmu_12, sa_eq, sa_ne, sa_up, I_221_0, I_221_1, I_221_2, r3, e24, show A 2 4 + at' - A 2 4 = at' by omega, c, hQ]
end MMB
