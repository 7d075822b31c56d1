/-! Most flies of the model: one walk. -/
def sm_ate (T T2 : mr_R) (f : Int) : Prop := T2 4 = T 4 + T (9 + 10 * T2 (71 + 5 * f + 1) + 5 + T2 (71 + 5 * f + 2)) ∧ ∀ a, 0 ≤ a → a < 15 → T2 (9 + 10 * (a / 5) + 5 + a % 5) = if a = T2 (71 + 5 * f + 1) * 5 + T2 (71 + 5 * f + 2) then 0 else T (9 + 10 * (a / 5) + 5 + a % 5)
theorem ate_sit {T : mr_R} {f w p : Int} (h1 : 0 ≤ f) (h3 : 0 ≤ w) (h4 : w < 3) (h5 : 0 ≤ mf_pad T w p) (h6 : mf_pad T w p < 5) : sm_ate T (mg_sit T f w p) f := by
  have ho := sit_on (T := T) (f := f) (w := w) (p := p) h1 h3 h4 h5 h6
  unfold sm_ate
  rw [ho.1, ho.2.1]
  unfold mg_sit mg_eat mg_seat
  generalize mf_pad T w p = pad at *
  refine ⟨?_, fun a a1 a2 => ?_⟩
  · simp (disch := omega) only [ms_eq, ms_ne]
  · by_cases e : a = w * 5 + pad
    · rw [if_pos e, ms_eq (by omega)]
    · rw [if_neg e]
      simp (disch := omega) only [ms_eq, ms_ne]
theorem ate_leave {T T2 : mr_R} {f u : Int} (h1 : 0 ≤ f) (h : sm_ate T T2 f) (u1 : 0 ≤ u) (u2 : u < 3) : sm_ate T (mg_leave T2 u) f := by
  unfold mg_leave
  split
  · unfold mg_left mg_turn
    unfold sm_ate at h ⊢
    rw [ms_ne (by omega), ms_ne (by omega), ms_ne (by omega), ms_ne (by omega), ms_ne (by omega), ms_ne (by omega)]
    refine ⟨h.1, fun a a1 a2 => ?_⟩
    rw [ms_ne (by omega), ms_ne (by omega)]
    exact h.2 a a1 a2
  · exact h
theorem ate_go {K : Int} {T : mr_R} {f y : Int} (hi : mi K T) (h1 : 0 ≤ f) (h2 : f < T 2) (y1 : 0 ≤ y) (hc : sm_can T f y) : sm_ate T (sm_go T f y) f := by
  have hcc := hi.c
  have hf := hi.f h1 h2
  unfold sm_can at hc
  unfold sm_go
  by_cases c : y < 8
  · rw [if_pos c] at hc ⊢
    have hl := hi.l y1 hc.1
    have ha : mf_away T f y = 0 ∨ mf_away T f y = 1 := by
      rcases mf_away_or T f y with e | e | e
      · have hw := hc.2
        unfold mf_why at hw
        rw [if_pos e] at hw
        omega
      · exact Or.inl e
      · exact Or.inr e
    unfold mg_jump
    rcases ha with e | e
    · rw [e, show 39 + 4 * y + 2 * 0 = 39 + 4 * y + 0 by omega]
      have hw := hi.w hl.1.1 hl.1.2
      have hp := mf_pad_bd (R := T) (w := T (39 + 4 * y + 0)) (T (39 + 4 * y + 0 + 1)) (by omega)
      exact ate_leave h1 (ate_sit h1 hl.1.1 (by omega) hp.1 (by omega)) (by omega) (by omega)
    · rw [e, show 39 + 4 * y + 2 * 1 = 39 + 4 * y + 2 by omega]
      have hw := hi.w hl.2.2.1.1 hl.2.2.1.2
      have hp := mf_pad_bd (R := T) (w := T (39 + 4 * y + 2)) (T (39 + 4 * y + 2 + 1)) (by omega)
      exact ate_leave h1 (ate_sit h1 hl.2.2.1.1 (by omega) hp.1 (by omega)) (by omega) (by omega)
  · rw [if_neg c]
    unfold mg_step
    have hw := hi.w hf.2.1.1 hf.2.1.2
    have hp := fun p => mf_pad_bd (R := T) (w := T (71 + 5 * f + 1)) p (by omega)
    exact ate_sit h1 hf.2.1.1 (by omega) (hp _).1 (by have := (hp ((mf_place T f + if y = 8 then 1 else -1) % T (9 + 10 * T (71 + 5 * f + 1) + 0))).2; omega)
/-- what the walk of a code eats -/
def mo_w (R : mr_R) (f : Int) : Nat → Int → mr_R → Int → Int
  | 0, _, _, _ => 0
  | n + 1, s, Y, c => if sm_x R f s (c % 10) = -1 then 0 else Y (sm_x R f s (c % 10) % 15) + mo_w R f n (sm_x R f s (c % 10)) (mr_st Y (sm_x R f s (c % 10) % 15) 0) (c / 10)
theorem mo_cg {K : Int} {R : mr_R} {f : Int} (hR : mi K R) (hk : K + 20 ≤ 1000000) (h8 : R 8 = 0) (h1 : 0 ≤ f) (h2 : f < R 2) : ∀ (n : Nat) (s c : Int) (Y Y2 : mr_R), sm_g R f s → 0 ≤ c → (∀ a, 0 ≤ a → a < 15 → Y a = Y2 a) → mo_w R f n s Y c = mo_w R f n s Y2 c := by
  intro n
  induction n with
  | zero => intro s c Y Y2 _ _ _; rfl
  | succ n ih =>
    intro s c Y Y2 hg c0 h
    unfold mo_w
    by_cases e : sm_x R f s (c % 10) = -1
    · rw [if_pos e, if_pos e]
    · have g := sm_gx hR hk h8 h1 h2 hg (by omega) (by omega) e
      have b := sm_g_bd g h1 h2
      rw [if_neg e, if_neg e, h _ (by omega) (by omega)]
      rw [ih _ _ (mr_st Y (sm_x R f s (c % 10) % 15) 0) (mr_st Y2 (sm_x R f s (c % 10) % 15) 0) g (by omega) (fun a a1 a2 => ?_)]
      by_cases q : a = sm_x R f s (c % 10) % 15
      · rw [ms_eq q, ms_eq q]
      · rw [ms_ne q, ms_ne q]; exact h a a1 a2
def mo_y (T : mr_R) : mr_R := fun a => T (9 + 10 * (a / 5) + 5 + a % 5)
section MMB
variable {M : Nat} {S : mr_R} {σ : ri_S} {K2 : Int}
theorem h221w {R : mr_R} {f nn al mo co : Int} (hR : mi K2 R) (hk2 : K2 + 20 ≤ 1000000) (h8 : R 8 = 0) (h1 : 0 ≤ f) (h2 : f < R 2) : ∀ (n : Nat) (rest s K : Int) (A : Nat → mr_R) (l8 : Option Value), 0 ≤ rest → rest < 100000 → (n : Int) ≤ 4 → K + 20 * n ≤ 1000000 → mi K (A 3) → sq R f (A 3) → sm_n (A 3) f = s → ∃ A2 rest2 left2, wt A A2 ∧ mi (K + 20 * n) (A2 3) ∧ (A2 3) 4 = (A 3) 4 + mo_w R f n s (mo_y (A 3)) rest ∧ ev 221 (103, [some (.ref M), some (.int (Int32.ofInt f)), some (.int (Int32.ofInt nn)), some (.int (Int32.ofInt al)), some (.int (Int32.ofInt mo)), some (.int (Int32.ofInt co)), some (.int (Int32.ofInt rest)), some (.int (Int32.ofInt n)), l8], []) (mm M S A σ) = ev 221 (134, [some (.ref M), some (.int (Int32.ofInt f)), some (.int (Int32.ofInt nn)), some (.int (Int32.ofInt al)), some (.int (Int32.ofInt mo)), some (.int (Int32.ofInt co)), some (.int (Int32.ofInt rest2)), some (.int (Int32.ofInt left2)), l8], []) (mm M S A2 σ) := by
  intro n
  induction n with
  | zero =>
    intro rest s K A l8 r1 r2 n4 hk hi hq hs
    refine ⟨A, rest, ((0 : Nat) : Int), fun _ _ => rfl, ?_, ?_, ?_⟩
    · rw [show K + 20 * ((0 : Nat) : Int) = K by omega]; exact hi
    · show _ = (A 3) 4 + 0
      omega
    · rw [H_221_103]
      simp (disch := omega) only [Int.reduceAdd, Int.reduceMul, Int.reduceSub, Int.reduceNeg, na_add, na_sub, na_mul, na_neg, na_lt, na_le, na_eq, na_ofNat, bo_some, tl_some, tl_none, rc_int, rc_ref, rc_null, rc_none, rc_long, tb_0, tb_1, ↓mr_g0, mr_r0, mr_get, mr_upd, mr_at, mr_wr, Classical.not_not, not_true_eq_false, not_false_eq_true, na_l0, na_l1, na_l2, na_l3, na_l4, na_l5, na_l6, na_l7, na_l8, na_l9, na_l10, na_l14, na_l15, na_l16, na_l25, na_l30, na_l31, na_l32, na_l33, na_l39, na_l43, na_l45, na_l48, na_l49, na_l50, na_l51, na_l52, na_l53, na_l55, na_l56, na_l57, na_l60, na_l64, na_l71, na_l80, na_l96, na_l100, na_l101, na_l102, na_l103, na_l104, na_l105, na_l106, na_l107, na_l108, na_l109, na_l110, na_l111, na_l112, na_l113, na_l114, na_l115, na_l116, na_l117, na_l118, na_l119, na_l120, na_l121, na_l125, na_l128, na_l150, na_l192, na_l255, na_l999, na_l1000, na_l1248, na_l1344, na_l1875, na_l10000, ↓reduceIte, pf_and, pe_le, pf_le, pe_lt, pf_lt, pe_eq, pf_eq, true_and, and_true, false_and, and_false, true_or, or_true, false_or, or_false, I_221_0, I_221_1, I_221_2]
  | succ n ih =>
    intro rest s K A l8 r1 r2 n4 hk hi hq hs
    have h2T : f < (A 3) 2 := by rw [hq.1.2.2.1]; exact h2
    have s216 := c216 (M := M) (S := S) (A := A) (σ := σ) (f := f) (y := rest % 10) (K := K) hi (by omega) h1 h2T (by omega) (by omega)
    have hgo := sm_goes hi hR (by omega) h8 hq h1 h2 hs (y := rest % 10) (by omega) (by omega)
    have hcx := sm_can_x hi hR (by omega) h8 hq h1 h2 hs (y := rest % 10) (by omega) (by omega)
    by_cases c : sm_can (A 3) f (rest % 10)
    · have e216 := s216.1 c
      obtain ⟨g1, g2, g3⟩ := hgo.1 c
      have hat := ate_go hi h1 h2T (by omega) c
      have h2g : f < (sm_go (A 3) f (rest % 10)) 2 := by rw [g2.1.2.2.1]; exact h2
      have hd := sm_dec g1 h1 h2g g3
      obtain ⟨v, hv⟩ : ∃ v, sm_x R f s (rest % 10) = v := ⟨_, rfl⟩
      have hx := hcx.mp c
      rw [hv] at g3 hd hx
      unfold sm_ate at hat
      rw [← hd.2.2.1, ← hd.2.2.2.1] at hat
      obtain ⟨A2, rest2, left2, b1, b2, b3, b4⟩ := ih (rest / 10) v (K + 20) (ms_a A 3 (sm_go (A 3) f (rest % 10))) l8 (by omega) (by omega) (by omega) (by omega) (by rw [sa_eq rfl]; exact g1) (by rw [sa_eq rfl]; exact g2) (by rw [sa_eq rfl]; exact g3)
      refine ⟨A2, rest2, left2, fun j j1 => by rw [b1 j j1, sa_ne j1], ?_, ?_, Eq.trans ?_ b4⟩
      · rw [show K + 20 * ((n + 1 : Nat) : Int) = K + 20 + 20 * (n : Int) by omega]
        exact b2
      · rw [b3, sa_eq rfl, hat.1]
        show _ = (A 3) 4 + (if sm_x R f s (rest % 10) = -1 then 0 else mo_y (A 3) (sm_x R f s (rest % 10) % 15) + mo_w R f n (sm_x R f s (rest % 10)) (mr_st (mo_y (A 3)) (sm_x R f s (rest % 10) % 15) 0) (rest / 10))
        rw [hv, if_neg hx]
        have ecg := mo_cg hR hk2 h8 h1 h2 n v (rest / 10) (mo_y (sm_go (A 3) f (rest % 10))) (mr_st (mo_y (A 3)) (v % 15) 0) ⟨_, _, g1, g2, g3⟩ (by omega) (fun a a1 a2 => by
          show (sm_go (A 3) f (rest % 10)) (9 + 10 * (a / 5) + 5 + a % 5) = _
          rw [hat.2 a a1 a2]
          by_cases q : a = v % 15
          · rw [if_pos (by omega), ms_eq q]
          · rw [if_neg (by omega), ms_ne q]
            rfl)
        rw [ecg]
        show _ = (A 3) 4 + ((A 3) (9 + 10 * (v % 15 / 5) + 5 + v % 15 % 5) + _)
        rw [show v % 15 % 5 = v % 5 by omega]
        omega
      · generalize hQ : ev 221 (103, [some (.ref M), some (.int (Int32.ofInt f)), some (.int (Int32.ofInt nn)), some (.int (Int32.ofInt al)), some (.int (Int32.ofInt mo)), some (.int (Int32.ofInt co)), some (.int (Int32.ofInt (rest / 10))), some (.int (Int32.ofInt (n : Int))), l8], []) (mm M S (ms_a A 3 (sm_go (A 3) f (rest % 10))) σ) = Q
        rw [H_221_103]
        simp (disch := omega) only [Int.reduceAdd, Int.reduceMul, Int.reduceSub, Int.reduceNeg, na_add, na_sub, na_mul, na_neg, na_lt, na_le, na_eq, na_ofNat, bo_some, tl_some, tl_none, rc_int, rc_ref, rc_null, rc_none, rc_long, tb_0, tb_1, ↓mr_g0, mr_r0, mr_get, mr_upd, mr_at, mr_wr, Classical.not_not, not_true_eq_false, not_false_eq_true, na_l0, na_l1, na_l2, na_l3, na_l4, na_l5, na_l6, na_l7, na_l8, na_l9, na_l10, na_l14, na_l15, na_l16, na_l25, na_l30, na_l31, na_l32, na_l33, na_l39, na_l43, na_l45, na_l48, na_l49, na_l50, na_l51, na_l52, na_l53, na_l55, na_l56, na_l57, na_l60, na_l64, na_l71, na_l80, na_l96, na_l100, na_l101, na_l102, na_l103, na_l104, na_l105, na_l106, na_l107, na_l108, na_l109, na_l110, na_l111, na_l112, na_l113, na_l114, na_l115, na_l116, na_l117, na_l118, na_l119, na_l120, na_l121, na_l125, na_l128, na_l150, na_l192, na_l255, na_l999, na_l1000, na_l1248, na_l1344, na_l1875, na_l10000, ↓reduceIte, pf_and, pe_le, pf_le, pe_lt, pf_lt, pe_eq, pf_eq, true_and, and_true, false_and, and_false, true_or, or_true, false_or, or_false, ↓mmk, ↓mmo_0, ↓mmo_1, ↓mmo_2, ↓mmo_3, ↓mmo_4, ↓mmo_5, ↓mmo_6, ↓mmo_7, ↓mmo_8, ↓mmo_9, ↓mmo_10, ↓mmo_11, ↓mmo_12, ↓mmv_0, ↓mmv_2, ↓mmv_6, ↓mmv_11, ↓mmv_12, ↓mmg_1, ↓mmg_2, ↓mmg_3, ↓mmg_4, ↓mmg_5, ↓mmg_6, ↓mmg_7, ↓mmg_8, mma_1, mma_2, mma_3, mma_4, mma_5, mma_6, mma_7, mma_8, mmu_0, mmu_2, mmu_6, mmu_11, mmu_12, sa_eq, sa_ne, sa_up, na_div, na_rem, I_221_0, I_221_1, I_221_2, e216, show ((n + 1 : Nat) : Int) + -1 = (n : Int) by omega, hQ]
    · have e216 := s216.2 c
      have hx := hgo.2 c
      refine ⟨A, rest, ((n + 1 : Nat) : Int), fun _ _ => rfl, mi_mono hi (by omega) hk, ?_, ?_⟩
      · show _ = (A 3) 4 + (if sm_x R f s (rest % 10) = -1 then 0 else _)
        rw [if_pos hx]
        omega
      · rw [H_221_103]
        simp (disch := omega) only [Int.reduceAdd, Int.reduceMul, Int.reduceSub, Int.reduceNeg, na_add, na_sub, na_mul, na_neg, na_lt, na_le, na_eq, na_ofNat, bo_some, tl_some, tl_none, rc_int, rc_ref, rc_null, rc_none, rc_long, tb_0, tb_1, ↓mr_g0, mr_r0, mr_get, mr_upd, mr_at, mr_wr, Classical.not_not, not_true_eq_false, not_false_eq_true, na_l0, na_l1, na_l2, na_l3, na_l4, na_l5, na_l6, na_l7, na_l8, na_l9, na_l10, na_l14, na_l15, na_l16, na_l25, na_l30, na_l31, na_l32, na_l33, na_l39, na_l43, na_l45, na_l48, na_l49, na_l50, na_l51, na_l52, na_l53, na_l55, na_l56, na_l57, na_l60, na_l64, na_l71, na_l80, na_l96, na_l100, na_l101, na_l102, na_l103, na_l104, na_l105, na_l106, na_l107, na_l108, na_l109, na_l110, na_l111, na_l112, na_l113, na_l114, na_l115, na_l116, na_l117, na_l118, na_l119, na_l120, na_l121, na_l125, na_l128, na_l150, na_l192, na_l255, na_l999, na_l1000, na_l1248, na_l1344, na_l1875, na_l10000, ↓reduceIte, pf_and, pe_le, pf_le, pe_lt, pf_lt, pe_eq, pf_eq, true_and, and_true, false_and, and_false, true_or, or_true, false_or, or_false, ↓mmk, ↓mmo_0, ↓mmo_1, ↓mmo_2, ↓mmo_3, ↓mmo_4, ↓mmo_5, ↓mmo_6, ↓mmo_7, ↓mmo_8, ↓mmo_9, ↓mmo_10, ↓mmo_11, ↓mmo_12, ↓mmv_0, ↓mmv_2, ↓mmv_6, ↓mmv_11, ↓mmv_12, ↓mmg_1, ↓mmg_2, ↓mmg_3, ↓mmg_4, ↓mmg_5, ↓mmg_6, ↓mmg_7, ↓mmg_8, mma_1, mma_2, mma_3, mma_4, mma_5, mma_6, mma_7, mma_8, mmu_0, mmu_2, mmu_6, mmu_11, mmu_12, sa_eq, sa_ne, sa_up, na_div, na_rem, I_221_0, I_221_1, I_221_2, e216]
end MMB
