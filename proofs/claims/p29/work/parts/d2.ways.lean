/-! Ways. -/
section WAYS
variable {K : Int} {R : mr_R} {f w p : Int}
theorem uf_ok (hi : mi K R) (h1 : 0 ≤ f) (h2 : f < R 2) (w0 : 0 ≤ w) (w1 : w < R 0) (p0 : 0 ≤ p) (p1 : p < R (9 + 10 * w + 0)) : (-1 ≤ uf R f (w * 5 + p) ∧ uf R f (w * 5 + p) < 1875) ∧ bf_L (sn_x (ux R f)) (sn_w (ux R f)) (sg_n R f) (fun s => s % 15 = w * 5 + p) (uf R f (w * 5 + p)) := by
  obtain ⟨r, X0, X2, a1, a2, a3, a4, a5, a6, a7⟩ := c128 (C := 0) (V := fun _ => 0) (PR := fun _ => R) (PZ := fun _ _ => 0) (X := fun _ _ => 0) (σ := su_b 0) (f := f) (w := w) (p := p) (y := 0) hi h1 h2 ⟨w0, w1, p0, p1⟩ (Or.inl rfl)
  have hu := uf_L hi h1 h2 a1 a4
  have hl := uni_L hi h1 h2 a1 (ux_I a1) a4
  rw [hu] at hl a5 a6
  exact ⟨⟨a5, a6⟩, hl⟩
theorem uf_0 (hi : mi K R) (h1 : 0 ≤ f) (h2 : f < R 2) (w0 : 0 ≤ w) (w1 : w < R 0) (p0 : 0 ≤ p) (p1 : p < R (9 + 10 * w + 0)) : uf R f (w * 5 + p) = 0 ↔ (R (71 + 5 * f + 1) = w ∧ mf_place R f = p) := by
  have h := (uf_ok hi h1 h2 w0 w1 p0 p1).2
  have hn := now_eq hi h1 h2
  have hf := hi.f h1 h2
  have hp := mf_place_bd hi h1 h2
  have hwf := hi.w (w := R (71 + 5 * f + 1)) (by omega) (by omega)
  have hw := hi.w w0 w1
  constructor
  · intro e
    rw [e] at h
    rcases h with ⟨a, -⟩ | ⟨-, ⟨s, s1, s2⟩, -⟩
    · omega
    · have s1 : s = sg_n R f := s1
      rw [s1, hn.2] at s2
      omega
  · rintro ⟨e1, e2⟩
    have hz : sg_n R f % 15 = w * 5 + p := by omega
    rcases h with ⟨-, b⟩ | ⟨a, -, c⟩
    · exact absurd hz (b 0 _ rfl)
    · have := c 0 _ rfl hz
      omega
theorem uf_n (hi : mi K R) (h1 : 0 ≤ f) (h2 : f < R 2) (w0 : 0 ≤ w) (w1 : w < R 0) (p0 : 0 ≤ p) (p1 : p < R (9 + 10 * w + 0)) : uf R f (w * 5 + p) ≠ -1 ↔ ∃ n v, bf_D (sn_x (ux R f)) (sn_w (ux R f)) (sg_n R f) n v ∧ v % 15 = w * 5 + p := by
  have h := (uf_ok hi h1 h2 w0 w1 p0 p1).2
  constructor
  · intro e
    rcases h with ⟨a, -⟩ | ⟨-, ⟨s, s1, s2⟩, -⟩
    · exact absurd a e
    · exact ⟨_, s, s1, s2⟩
  · rintro ⟨n, v, a, b⟩ e
    rw [e] at h
    rcases h with ⟨-, c⟩ | ⟨c, -⟩
    · exact c n v a b
    · omega
theorem D_ok (hi : mi K R) (h1 : 0 ≤ f) (h2 : f < R 2) : ∀ (n : Nat) (v : Int), bf_D (sn_x (ux R f)) (sn_w (ux R f)) (sg_n R f) n v → v % 15 % 5 < R (9 + 10 * (v % 15 / 5) + 0) := by
  intro n v h
  have hI := ex_X hi h1 h2
  have hn := now_eq hi h1 h2
  have hnb := (sn_now hi h1 h2 hI).1
  have hs := sc_now hi h1 h2 hI
  have hf := hi.f h1 h2
  have hp := mf_place_bd hi h1 h2
  have hwf := hi.w (w := R (71 + 5 * f + 1)) (by omega) (by omega)
  cases n with
  | zero =>
    have h : v = sg_n R f := h
    rw [h, hn.2, show (R (71 + 5 * f + 1) * 5 + mf_place R f) / 5 = R (71 + 5 * f + 1) by omega]
    omega
  | succ n =>
    obtain ⟨r, k, a1, a2, a3, a4, rfl⟩ := h
    have hr := (uni_D hi hI hI hnb.1 hnb.2 hs hs n r a1).1.1
    have hb := sy_live hi hI (a := r % 15) (k := k) (by omega) (by omega) a2 a3
    have hbd := sn_bd hi hI hr.1 hr.2 a2 a3 a4
    obtain ⟨b, eb⟩ : ∃ b, ux R f 6 (r % 15 * 10 + k) = b := ⟨_, rfl⟩
    rw [eb] at hb
    unfold sn_x at a4 hbd ⊢
    rw [eb] at a4 hbd ⊢
    by_cases q : ux R f 5 (r / 15 * 15 + b) = -1
    · rw [if_pos q] at a4
      exact absurd rfl a4
    · rw [if_neg q] at hbd ⊢
      rw [hI.2.2.2 _ (by omega) (by omega)] at q
      have hq := ((sp_iff hi).mp q).2.1
      rw [show (r / 15 * 15 + b) % 15 / 5 = b / 5 by omega, show (r / 15 * 15 + b) % 5 = b % 5 by omega] at hq
      split
      · rw [show (r / 15 * 15 + b) % 15 = b by omega]
        exact hq.2.2.2
      · rename_i q2
        rw [if_neg q2] at hbd
        generalize (ux R f 2 (r % 15 / 5 * 5 + sg_t (r / 15) (r % 15 / 5)) - sg_t (r / 15) (r % 15 / 5)) * sg_u (r % 15 / 5) = z
        rw [show ((r / 15 + z) * 15 + b) % 15 = b by omega]
        exact hq.2.2.2
theorem us_eq (hi : mi K R) (h1 : 0 ≤ f) (h2 : f < R 2) (w0 : 0 ≤ w) (w1 : w < R 0) : us R f w = cb_S (fun q => q < R (9 + 10 * w + 0) ∧ uf R f (w * 5 + q) ≠ -1) := by
  have hw := hi.w w0 w1
  unfold us
  refine cb_cg fun q q0 q1 => ?_
  constructor
  · rintro ⟨n, v, a, b, c⟩
    have hd := D_ok hi h1 h2 n v a
    rw [b, c] at hd
    exact ⟨hd, (uf_n hi h1 h2 w0 w1 q0 hd).mpr ⟨n, v, a, by omega⟩⟩
  · rintro ⟨a, b⟩
    obtain ⟨n, v, c, d⟩ := (uf_n hi h1 h2 w0 w1 q0 a).mp b
    exact ⟨n, v, c, by omega, by omega⟩
theorem us_bd : 0 ≤ us R f w ∧ us R f w ≤ 31 := by
  unfold us cb_S
  have k : ∀ (P : Prop) (v : Int), 0 ≤ v → 0 ≤ cb_1 P v ∧ cb_1 P v ≤ v := by
    intro P v hv
    rcases cb_01 P v with h | h <;> omega
  have k0 := k
  refine ⟨?_, ?_⟩
  · have a := fun P => k P 1 (by decide)
    have b := fun P => k P 2 (by decide)
    have c := fun P => k P 4 (by decide)
    have d := fun P => k P 8 (by decide)
    have e := fun P => k P 16 (by decide)
    exact Int.add_nonneg (Int.add_nonneg (Int.add_nonneg (Int.add_nonneg (a _).1 (b _).1) (c _).1) (d _).1) (e _).1
  · have a := fun P => k P 1 (by decide)
    have b := fun P => k P 2 (by decide)
    have c := fun P => k P 4 (by decide)
    have d := fun P => k P 8 (by decide)
    have e := fun P => k P 16 (by decide)
    exact Int.add_le_add (Int.add_le_add (Int.add_le_add (Int.add_le_add (a _).2 (b _).2) (c _).2) (d _).2) (e _).2
end WAYS
section WAYS2
variable {C0 b0 L0 : Nat} {xs0 : Nat → Int32} {yy : gy × gy} {i : Bool} {n : Nat} {Y : gy} {K f w x : Int}
theorem or_0 (x : Int32) : x ||| Int32.ofInt 0 = x := Int32.or_zero
def r237_L (C0 : Nat) (i : Bool) (Y : gy) (x w f s p : Int) (a b : Option Value) : ri_L := [some (.ref (gi C0 i)), some (.int (Int32.ofInt x)), some (.int (Int32.ofInt (Y.1 2))), some (.int (Int32.ofInt (Y.1 0))), some (.int (Int32.ofInt 1)), some (.int (Int32.ofInt w)), some (.int (Int32.ofInt f)), some (.int (Int32.ofInt s)), some (.int (Int32.ofInt (Y.1 (9 + 10 * w + 0)))), some (.int (Int32.ofInt p)), a, b]
def r237_A (C0 : Nat) (i : Bool) (Y : gy) (x w : Int) (a b c d e g : Option Value) : ri_L := [some (.ref (gi C0 i)), some (.int (Int32.ofInt x)), some (.int (Int32.ofInt (Y.1 2))), some (.int (Int32.ofInt (Y.1 0))), some (.int (Int32.ofInt 1)), some (.int (Int32.ofInt w)), a, b, c, d, e, g]
theorem r237_p {s s2 p : Int} {a b : Option Value} (hY : gg yy i = Y) (hk : gk Y) (hi : mi K Y.1) (f0 : 0 ≤ f) (f1 : f < Y.1 2) (w0 : 0 ≤ w) (w1 : w < Y.1 0) (p0 : 0 ≤ p) (p1 : p < Y.1 (9 + 10 * w + 0)) (hs1 : uf Y.1 f (w * 5 + p) = -1 → s2 = s) (hs2 : uf Y.1 f (w * 5 + p) ≠ -1 → Int32.ofInt s ||| (Int32.ofInt 1 <<< (Int32.ofInt p &&& 31)) = Int32.ofInt s2) : ∃ a2 b2, evm C0 b0 L0 xs0 237 (61, r237_L C0 i Y x w f s p a b, []) (yy, n) = evm C0 b0 L0 xs0 237 (61, r237_L C0 i Y x w f s2 (p + 1) a2 b2, []) (yy, n) := by
  have hc := hi.c
  have hw := hi.w w0 w1
  have hf := hi.f f0 f1
  have hp := mf_place_bd hi f0 f1
  have hwf := hi.w (w := Y.1 (71 + 5 * f + 1)) (by omega) (by omega)
  have hu := (uf_ok hi f0 f1 w0 w1 p0 p1).1
  have h0 := uf_0 hi f0 f1 w0 w1 p0 p1
  unfold r237_L
  by_cases q : uf Y.1 f (w * 5 + p) = -1
  · have h9 : ¬ (Y.1 (71 + 5 * f + 1) = w ∧ mf_place Y.1 f = p) := fun z => by have := h0.mpr z; omega
    refine ⟨some (.int (Int32.ofInt (uf Y.1 f (w * 5 + p)))), some (.int (Int32.ofInt 0)), ?_⟩
    rw [hs1 q, q]
    by_cases A : Y.1 (71 + 5 * f + 1) = w
    · have B : ¬ mf_place Y.1 f = p := fun z => h9 ⟨A, z⟩
      rw [G_237_61]
      simp (disch := omega) only [Int.reduceAdd, Int.reduceMul, Int.reduceSub, Int.reduceNeg, na_add, na_sub, na_mul, na_neg, na_lt, na_le, na_eq, na_ofNat, bo_some, tl_some, tl_none, rc_int, rc_ref, rc_null, rc_none, rc_long, tb_0, tb_1, ↓mr_g0, mr_r0, mr_get, mr_upd, mr_at, mr_wr, Classical.not_not, not_true_eq_false, not_false_eq_true, na_l0, na_l1, na_l2, na_l3, na_l4, na_l5, na_l6, na_l7, na_l8, na_l9, na_l10, na_l14, na_l15, na_l16, na_l25, na_l30, na_l31, na_l32, na_l33, na_l39, na_l43, na_l45, na_l48, na_l49, na_l50, na_l51, na_l52, na_l53, na_l55, na_l56, na_l57, na_l60, na_l64, na_l71, na_l80, na_l96, na_l100, na_l101, na_l102, na_l103, na_l104, na_l105, na_l106, na_l107, na_l108, na_l109, na_l110, na_l111, na_l112, na_l113, na_l114, na_l115, na_l116, na_l117, na_l118, na_l119, na_l120, na_l121, na_l125, na_l128, na_l150, na_l192, na_l255, na_l999, na_l1000, na_l1248, na_l1344, na_l1875, na_l10000, ↓reduceIte, pf_and, pe_le, pf_le, pe_lt, pf_lt, pe_eq, pf_eq, true_and, and_true, false_and, and_false, true_or, or_true, false_or, or_false, ln_some, lb_0, lb_1, na_div, na_rem, Nat.add_assoc, Nat.reduceAdd, L_237_0, L_237_1, L_237_2, L_237_3, nA_0, nA_1, nA_2, nA_3, nA_4, nA_5, nA_6, nA_7, nA_8, nA_9, nA_10, nP_0, nP_1, nP_2, nP_3, nW_0, nW_1, nW_2, nW_3, nW_4, nW_5, nW_6, nW_7, nF_0, nF_1, nF_2, nF_3, nF_4, nF_5, cv_113 hY hk, cv_114 hY hk, cv_115 hY hk, cv_116 hY hk, cv_117 hY hk, cv_127 hY hk, cv_128 hY hk, cv_129 hY hk, cv_130 hY hk, eq_self, ite_true, if_true, or_0, q]
    · rw [G_237_61]
      simp (disch := omega) only [Int.reduceAdd, Int.reduceMul, Int.reduceSub, Int.reduceNeg, na_add, na_sub, na_mul, na_neg, na_lt, na_le, na_eq, na_ofNat, bo_some, tl_some, tl_none, rc_int, rc_ref, rc_null, rc_none, rc_long, tb_0, tb_1, ↓mr_g0, mr_r0, mr_get, mr_upd, mr_at, mr_wr, Classical.not_not, not_true_eq_false, not_false_eq_true, na_l0, na_l1, na_l2, na_l3, na_l4, na_l5, na_l6, na_l7, na_l8, na_l9, na_l10, na_l14, na_l15, na_l16, na_l25, na_l30, na_l31, na_l32, na_l33, na_l39, na_l43, na_l45, na_l48, na_l49, na_l50, na_l51, na_l52, na_l53, na_l55, na_l56, na_l57, na_l60, na_l64, na_l71, na_l80, na_l96, na_l100, na_l101, na_l102, na_l103, na_l104, na_l105, na_l106, na_l107, na_l108, na_l109, na_l110, na_l111, na_l112, na_l113, na_l114, na_l115, na_l116, na_l117, na_l118, na_l119, na_l120, na_l121, na_l125, na_l128, na_l150, na_l192, na_l255, na_l999, na_l1000, na_l1248, na_l1344, na_l1875, na_l10000, ↓reduceIte, pf_and, pe_le, pf_le, pe_lt, pf_lt, pe_eq, pf_eq, true_and, and_true, false_and, and_false, true_or, or_true, false_or, or_false, ln_some, lb_0, lb_1, na_div, na_rem, Nat.add_assoc, Nat.reduceAdd, L_237_0, L_237_1, L_237_2, L_237_3, nA_0, nA_1, nA_2, nA_3, nA_4, nA_5, nA_6, nA_7, nA_8, nA_9, nA_10, nP_0, nP_1, nP_2, nP_3, nW_0, nW_1, nW_2, nW_3, nW_4, nW_5, nW_6, nW_7, nF_0, nF_1, nF_2, nF_3, nF_4, nF_5, cv_113 hY hk, cv_114 hY hk, cv_115 hY hk, cv_116 hY hk, cv_117 hY hk, cv_127 hY hk, cv_128 hY hk, cv_129 hY hk, cv_130 hY hk, eq_self, ite_true, if_true, or_0, q]
  · have hs := hs2 q
    have hs : Int32.ofInt s ||| (Int32.ofInt 1 <<< (Int32.ofInt p &&& Int32.ofInt 31)) = Int32.ofInt s2 := hs
    by_cases A : Y.1 (71 + 5 * f + 1) = w
    · by_cases B : mf_place Y.1 f = p
      · have h9 := h0.mpr ⟨A, B⟩
        refine ⟨some (.int (Int32.ofInt 0)), some (.int (Int32.ofInt 1)), ?_⟩
        rw [G_237_61]
        simp (disch := omega) only [Int.reduceAdd, Int.reduceMul, Int.reduceSub, Int.reduceNeg, na_add, na_sub, na_mul, na_neg, na_lt, na_le, na_eq, na_ofNat, bo_some, tl_some, tl_none, rc_int, rc_ref, rc_null, rc_none, rc_long, tb_0, tb_1, ↓mr_g0, mr_r0, mr_get, mr_upd, mr_at, mr_wr, Classical.not_not, not_true_eq_false, not_false_eq_true, na_l0, na_l1, na_l2, na_l3, na_l4, na_l5, na_l6, na_l7, na_l8, na_l9, na_l10, na_l14, na_l15, na_l16, na_l25, na_l30, na_l31, na_l32, na_l33, na_l39, na_l43, na_l45, na_l48, na_l49, na_l50, na_l51, na_l52, na_l53, na_l55, na_l56, na_l57, na_l60, na_l64, na_l71, na_l80, na_l96, na_l100, na_l101, na_l102, na_l103, na_l104, na_l105, na_l106, na_l107, na_l108, na_l109, na_l110, na_l111, na_l112, na_l113, na_l114, na_l115, na_l116, na_l117, na_l118, na_l119, na_l120, na_l121, na_l125, na_l128, na_l150, na_l192, na_l255, na_l999, na_l1000, na_l1248, na_l1344, na_l1875, na_l10000, ↓reduceIte, pf_and, pe_le, pf_le, pe_lt, pf_lt, pe_eq, pf_eq, true_and, and_true, false_and, and_false, true_or, or_true, false_or, or_false, ln_some, lb_0, lb_1, na_div, na_rem, Nat.add_assoc, Nat.reduceAdd, L_237_0, L_237_1, L_237_2, L_237_3, nA_0, nA_1, nA_2, nA_3, nA_4, nA_5, nA_6, nA_7, nA_8, nA_9, nA_10, nP_0, nP_1, nP_2, nP_3, nW_0, nW_1, nW_2, nW_3, nW_4, nW_5, nW_6, nW_7, nF_0, nF_1, nF_2, nF_3, nF_4, nF_5, cv_113 hY hk, cv_114 hY hk, cv_115 hY hk, cv_116 hY hk, cv_117 hY hk, cv_127 hY hk, cv_128 hY hk, cv_129 hY hk, cv_130 hY hk, eq_self, ite_true, if_true, hs, h9]
      · have h9 : ¬ uf Y.1 f (w * 5 + p) = 0 := fun z => B (h0.mp z).2
        refine ⟨some (.int (Int32.ofInt (uf Y.1 f (w * 5 + p)))), some (.int (Int32.ofInt 0)), ?_⟩
        rw [G_237_61]
        simp (disch := omega) only [Int.reduceAdd, Int.reduceMul, Int.reduceSub, Int.reduceNeg, na_add, na_sub, na_mul, na_neg, na_lt, na_le, na_eq, na_ofNat, bo_some, tl_some, tl_none, rc_int, rc_ref, rc_null, rc_none, rc_long, tb_0, tb_1, ↓mr_g0, mr_r0, mr_get, mr_upd, mr_at, mr_wr, Classical.not_not, not_true_eq_false, not_false_eq_true, na_l0, na_l1, na_l2, na_l3, na_l4, na_l5, na_l6, na_l7, na_l8, na_l9, na_l10, na_l14, na_l15, na_l16, na_l25, na_l30, na_l31, na_l32, na_l33, na_l39, na_l43, na_l45, na_l48, na_l49, na_l50, na_l51, na_l52, na_l53, na_l55, na_l56, na_l57, na_l60, na_l64, na_l71, na_l80, na_l96, na_l100, na_l101, na_l102, na_l103, na_l104, na_l105, na_l106, na_l107, na_l108, na_l109, na_l110, na_l111, na_l112, na_l113, na_l114, na_l115, na_l116, na_l117, na_l118, na_l119, na_l120, na_l121, na_l125, na_l128, na_l150, na_l192, na_l255, na_l999, na_l1000, na_l1248, na_l1344, na_l1875, na_l10000, ↓reduceIte, pf_and, pe_le, pf_le, pe_lt, pf_lt, pe_eq, pf_eq, true_and, and_true, false_and, and_false, true_or, or_true, false_or, or_false, ln_some, lb_0, lb_1, na_div, na_rem, Nat.add_assoc, Nat.reduceAdd, L_237_0, L_237_1, L_237_2, L_237_3, nA_0, nA_1, nA_2, nA_3, nA_4, nA_5, nA_6, nA_7, nA_8, nA_9, nA_10, nP_0, nP_1, nP_2, nP_3, nW_0, nW_1, nW_2, nW_3, nW_4, nW_5, nW_6, nW_7, nF_0, nF_1, nF_2, nF_3, nF_4, nF_5, cv_113 hY hk, cv_114 hY hk, cv_115 hY hk, cv_116 hY hk, cv_117 hY hk, cv_127 hY hk, cv_128 hY hk, cv_129 hY hk, cv_130 hY hk, eq_self, ite_true, if_true, hs, q]
    · have h9 : ¬ uf Y.1 f (w * 5 + p) = 0 := fun z => A (h0.mp z).1
      refine ⟨some (.int (Int32.ofInt (uf Y.1 f (w * 5 + p)))), some (.int (Int32.ofInt 0)), ?_⟩
      rw [G_237_61]
      simp (disch := omega) only [Int.reduceAdd, Int.reduceMul, Int.reduceSub, Int.reduceNeg, na_add, na_sub, na_mul, na_neg, na_lt, na_le, na_eq, na_ofNat, bo_some, tl_some, tl_none, rc_int, rc_ref, rc_null, rc_none, rc_long, tb_0, tb_1, ↓mr_g0, mr_r0, mr_get, mr_upd, mr_at, mr_wr, Classical.not_not, not_true_eq_false, not_false_eq_true, na_l0, na_l1, na_l2, na_l3, na_l4, na_l5, na_l6, na_l7, na_l8, na_l9, na_l10, na_l14, na_l15, na_l16, na_l25, na_l30, na_l31, na_l32, na_l33, na_l39, na_l43, na_l45, na_l48, na_l49, na_l50, na_l51, na_l52, na_l53, na_l55, na_l56, na_l57, na_l60, na_l64, na_l71, na_l80, na_l96, na_l100, na_l101, na_l102, na_l103, na_l104, na_l105, na_l106, na_l107, na_l108, na_l109, na_l110, na_l111, na_l112, na_l113, na_l114, na_l115, na_l116, na_l117, na_l118, na_l119, na_l120, na_l121, na_l125, na_l128, na_l150, na_l192, na_l255, na_l999, na_l1000, na_l1248, na_l1344, na_l1875, na_l10000, ↓reduceIte, pf_and, pe_le, pf_le, pe_lt, pf_lt, pe_eq, pf_eq, true_and, and_true, false_and, and_false, true_or, or_true, false_or, or_false, ln_some, lb_0, lb_1, na_div, na_rem, Nat.add_assoc, Nat.reduceAdd, L_237_0, L_237_1, L_237_2, L_237_3, nA_0, nA_1, nA_2, nA_3, nA_4, nA_5, nA_6, nA_7, nA_8, nA_9, nA_10, nP_0, nP_1, nP_2, nP_3, nW_0, nW_1, nW_2, nW_3, nW_4, nW_5, nW_6, nW_7, nF_0, nF_1, nF_2, nF_3, nF_4, nF_5, cv_113 hY hk, cv_114 hY hk, cv_115 hY hk, cv_116 hY hk, cv_117 hY hk, cv_127 hY hk, cv_128 hY hk, cv_129 hY hk, cv_130 hY hk, eq_self, ite_true, if_true, hs, q]
theorem r237_ps (hY : gg yy i = Y) (hk : gk Y) (hi : mi K Y.1) (f0 : 0 ≤ f) (f1 : f < Y.1 2) (w0 : 0 ≤ w) (w1 : w < Y.1 0) : ∀ (m : Nat) (p : Int) (a b : Option Value), 0 ≤ p → p + m = Y.1 (9 + 10 * w + 0) → ∃ a2 b2, evm C0 b0 L0 xs0 237 (61, r237_L C0 i Y x w f (cb_S (fun q => q < p ∧ uf Y.1 f (w * 5 + q) ≠ -1)) p a b, []) (yy, n) = evm C0 b0 L0 xs0 237 (61, r237_L C0 i Y x w f (us Y.1 f w) (Y.1 (9 + 10 * w + 0)) a2 b2, []) (yy, n) := by
  intro m
  have hw := hi.w w0 w1
  induction m with
  | zero =>
    intro p a b p0 e
    refine ⟨a, b, ?_⟩
    rw [us_eq hi f0 f1 w0 w1, show p = Y.1 (9 + 10 * w + 0) by omega]
  | succ m ih =>
    intro p a b p0 e
    obtain ⟨a1, b1, h⟩ := r237_p (C0 := C0) (b0 := b0) (L0 := L0) (xs0 := xs0) (n := n) (x := x) (s := cb_S (fun q => q < p ∧ uf Y.1 f (w * 5 + q) ≠ -1)) (s2 := cb_S (fun q => q < p + 1 ∧ uf Y.1 f (w * 5 + q) ≠ -1)) (a := a) (b := b) hY hk hi f0 f1 w0 w1 p0 (show p < Y.1 (9 + 10 * w + 0) by omega) (fun q => cb_cg fun j j0 j1 => ⟨fun z => ⟨by
        by_cases e : j = p
        · exact absurd (e ▸ q) z.2
        · omega, z.2⟩, fun z => ⟨by omega, z.2⟩⟩) (fun q => by
      rw [cb_or p0 (by omega)]
      congr 1
      refine cb_cg fun j j0 j1 => ⟨fun z => ?_, fun z => ?_⟩
      · rcases z with z | z
        · exact ⟨by omega, z.2⟩
        · exact ⟨by omega, z ▸ q⟩
      · by_cases e : j = p
        · exact Or.inr e
        · exact Or.inl ⟨by omega, z.2⟩)
    obtain ⟨a2, b2, h2⟩ := ih (p + 1) a1 b1 (by omega) (by omega)
    exact ⟨a2, b2, h.trans h2⟩
theorem r237_w {a b c d e g : Option Value} (hY : gg yy i = Y) (hk : gk Y) (hi : mi K Y.1) (x0 : 0 ≤ x) (x1 : x < 2147483648) (hxf : x % Y.1 2 = f) (f0 : 0 ≤ f) (f1 : f < Y.1 2) (w0 : 0 ≤ w) (w1 : w < Y.1 0) : ∃ a2 b2 c2 d2 e2 g2, evm C0 b0 L0 xs0 237 (24, r237_A C0 i Y x w a b c d e g, []) (yy, n) = evm C0 b0 L0 xs0 237 (24, r237_A C0 i Y x (w + 1) a2 b2 c2 d2 e2 g2, []) (yy, n) := by
  have hc := hi.c
  have hw := hi.w w0 w1
  have h1 : evm C0 b0 L0 xs0 237 (24, r237_A C0 i Y x w a b c d e g, []) (yy, n) = evm C0 b0 L0 xs0 237 (61, r237_L C0 i Y x w f 0 0 e g, []) (yy, n) := by
    unfold r237_A r237_L
    rw [G_237_24]
    simp (disch := omega) only [Int.reduceAdd, Int.reduceMul, Int.reduceSub, Int.reduceNeg, na_add, na_sub, na_mul, na_neg, na_lt, na_le, na_eq, na_ofNat, bo_some, tl_some, tl_none, rc_int, rc_ref, rc_null, rc_none, rc_long, tb_0, tb_1, ↓mr_g0, mr_r0, mr_get, mr_upd, mr_at, mr_wr, Classical.not_not, not_true_eq_false, not_false_eq_true, na_l0, na_l1, na_l2, na_l3, na_l4, na_l5, na_l6, na_l7, na_l8, na_l9, na_l10, na_l14, na_l15, na_l16, na_l25, na_l30, na_l31, na_l32, na_l33, na_l39, na_l43, na_l45, na_l48, na_l49, na_l50, na_l51, na_l52, na_l53, na_l55, na_l56, na_l57, na_l60, na_l64, na_l71, na_l80, na_l96, na_l100, na_l101, na_l102, na_l103, na_l104, na_l105, na_l106, na_l107, na_l108, na_l109, na_l110, na_l111, na_l112, na_l113, na_l114, na_l115, na_l116, na_l117, na_l118, na_l119, na_l120, na_l121, na_l125, na_l128, na_l150, na_l192, na_l255, na_l999, na_l1000, na_l1248, na_l1344, na_l1875, na_l10000, ↓reduceIte, pf_and, pe_le, pf_le, pe_lt, pf_lt, pe_eq, pf_eq, true_and, and_true, false_and, and_false, true_or, or_true, false_or, or_false, ln_some, lb_0, lb_1, na_div, na_rem, Nat.add_assoc, Nat.reduceAdd, L_237_0, L_237_1, L_237_2, L_237_3, nA_0, nA_1, nA_2, nA_3, nA_4, nA_5, nA_6, nA_7, nA_8, nA_9, nA_10, nP_0, nP_1, nP_2, nP_3, nW_0, nW_1, nW_2, nW_3, nW_4, nW_5, nW_6, nW_7, nF_0, nF_1, nF_2, nF_3, nF_4, nF_5, cv_113 hY hk, cv_114 hY hk, cv_115 hY hk, cv_116 hY hk, cv_117 hY hk, cv_127 hY hk, cv_128 hY hk, cv_129 hY hk, cv_130 hY hk, eq_self, ite_true, if_true, hxf]
  obtain ⟨a2, b2, h2⟩ := r237_ps (C0 := C0) (b0 := b0) (L0 := L0) (xs0 := xs0) (n := n) (x := x) hY hk hi f0 f1 w0 w1 (Y.1 (9 + 10 * w + 0)).toNat 0 e g (by decide) (by omega)
  have z : cb_S (fun q => q < 0 ∧ uf Y.1 f (w * 5 + q) ≠ -1) = 0 := by
    unfold cb_S
    rw [cb_f (by omega), cb_f (by omega), cb_f (by omega), cb_f (by omega), cb_f (by omega)]
    rfl
  rw [z] at h2
  refine ⟨some (.int (Int32.ofInt f)), some (.int (Int32.ofInt (us Y.1 f w))), some (.int (Int32.ofInt (Y.1 (9 + 10 * w + 0)))), some (.int (Int32.ofInt (Y.1 (9 + 10 * w + 0)))), a2, b2, ?_⟩
  rw [h1, h2]
  have hb := us_bd (R := Y.1) (f := f) (w := w)
  unfold r237_A r237_L
  rw [G_237_61]
  simp (disch := omega) only [Int.reduceAdd, Int.reduceMul, Int.reduceSub, Int.reduceNeg, na_add, na_sub, na_mul, na_neg, na_lt, na_le, na_eq, na_ofNat, bo_some, tl_some, tl_none, rc_int, rc_ref, rc_null, rc_none, rc_long, tb_0, tb_1, ↓mr_g0, mr_r0, mr_get, mr_upd, mr_at, mr_wr, Classical.not_not, not_true_eq_false, not_false_eq_true, na_l0, na_l1, na_l2, na_l3, na_l4, na_l5, na_l6, na_l7, na_l8, na_l9, na_l10, na_l14, na_l15, na_l16, na_l25, na_l30, na_l31, na_l32, na_l33, na_l39, na_l43, na_l45, na_l48, na_l49, na_l50, na_l51, na_l52, na_l53, na_l55, na_l56, na_l57, na_l60, na_l64, na_l71, na_l80, na_l96, na_l100, na_l101, na_l102, na_l103, na_l104, na_l105, na_l106, na_l107, na_l108, na_l109, na_l110, na_l111, na_l112, na_l113, na_l114, na_l115, na_l116, na_l117, na_l118, na_l119, na_l120, na_l121, na_l125, na_l128, na_l150, na_l192, na_l255, na_l999, na_l1000, na_l1248, na_l1344, na_l1875, na_l10000, ↓reduceIte, pf_and, pe_le, pf_le, pe_lt, pf_lt, pe_eq, pf_eq, true_and, and_true, false_and, and_false, true_or, or_true, false_or, or_false, ln_some, lb_0, lb_1, na_div, na_rem, Nat.add_assoc, Nat.reduceAdd, L_237_0, L_237_1, L_237_2, L_237_3, nA_0, nA_1, nA_2, nA_3, nA_4, nA_5, nA_6, nA_7, nA_8, nA_9, nA_10, nP_0, nP_1, nP_2, nP_3, nW_0, nW_1, nW_2, nW_3, nW_4, nW_5, nW_6, nW_7, nF_0, nF_1, nF_2, nF_3, nF_4, nF_5, cv_113 hY hk, cv_114 hY hk, cv_115 hY hk, cv_116 hY hk, cv_117 hY hk, cv_127 hY hk, cv_128 hY hk, cv_129 hY hk, cv_130 hY hk, eq_self, ite_true, if_true]
theorem r237_ws (hY : gg yy i = Y) (hk : gk Y) (hi : mi K Y.1) (x0 : 0 ≤ x) (x1 : x < 2147483648) (hf : 0 < Y.1 2) : ∀ (m : Nat) (w : Int) (a b c d e g : Option Value), 0 ≤ w → w + m = Y.1 0 → evm C0 b0 L0 xs0 237 (24, r237_A C0 i Y x w a b c d e g, []) (yy, n) = some (.int (Int32.ofInt 1), (yy, n)) := by
  intro m
  have hc := hi.c
  induction m with
  | zero =>
    intro w a b c d e g w0 he
    unfold r237_A
    rw [G_237_24]
    simp (disch := omega) only [Int.reduceAdd, Int.reduceMul, Int.reduceSub, Int.reduceNeg, na_add, na_sub, na_mul, na_neg, na_lt, na_le, na_eq, na_ofNat, bo_some, tl_some, tl_none, rc_int, rc_ref, rc_null, rc_none, rc_long, tb_0, tb_1, ↓mr_g0, mr_r0, mr_get, mr_upd, mr_at, mr_wr, Classical.not_not, not_true_eq_false, not_false_eq_true, na_l0, na_l1, na_l2, na_l3, na_l4, na_l5, na_l6, na_l7, na_l8, na_l9, na_l10, na_l14, na_l15, na_l16, na_l25, na_l30, na_l31, na_l32, na_l33, na_l39, na_l43, na_l45, na_l48, na_l49, na_l50, na_l51, na_l52, na_l53, na_l55, na_l56, na_l57, na_l60, na_l64, na_l71, na_l80, na_l96, na_l100, na_l101, na_l102, na_l103, na_l104, na_l105, na_l106, na_l107, na_l108, na_l109, na_l110, na_l111, na_l112, na_l113, na_l114, na_l115, na_l116, na_l117, na_l118, na_l119, na_l120, na_l121, na_l125, na_l128, na_l150, na_l192, na_l255, na_l999, na_l1000, na_l1248, na_l1344, na_l1875, na_l10000, ↓reduceIte, pf_and, pe_le, pf_le, pe_lt, pf_lt, pe_eq, pf_eq, true_and, and_true, false_and, and_false, true_or, or_true, false_or, or_false, ln_some, lb_0, lb_1, na_div, na_rem, Nat.add_assoc, Nat.reduceAdd, L_237_0, L_237_1, L_237_2, L_237_3, nA_0, nA_1, nA_2, nA_3, nA_4, nA_5, nA_6, nA_7, nA_8, nA_9, nA_10, nP_0, nP_1, nP_2, nP_3, nW_0, nW_1, nW_2, nW_3, nW_4, nW_5, nW_6, nW_7, nF_0, nF_1, nF_2, nF_3, nF_4, nF_5, cv_113 hY hk, cv_114 hY hk, cv_115 hY hk, cv_116 hY hk, cv_117 hY hk, cv_127 hY hk, cv_128 hY hk, cv_129 hY hk, cv_130 hY hk, eq_self, ite_true, if_true]
  | succ m ih =>
    intro w a b c d e g w0 he
    obtain ⟨a2, b2, c2, d2, e2, g2, h⟩ := r237_w (C0 := C0) (b0 := b0) (L0 := L0) (xs0 := xs0) (n := n) (x := x) (a := a) (b := b) (c := c) (d := d) (e := e) (g := g) hY hk hi x0 x1 rfl (Int.emod_nonneg _ (by omega)) (Int.emod_lt_of_pos _ hf) w0 (show w < Y.1 0 by omega)
    rw [h]
    exact ih (w + 1) a2 b2 c2 d2 e2 g2 (by omega) (by omega)
theorem r237 (hY : gg yy i = Y) (hk : gk Y) (hi : mi K Y.1) (x0 : 0 ≤ x) (x1 : x < 2147483648) : calm C0 b0 L0 xs0 237 [.ref (gi C0 i), .int (Int32.ofInt x)] (yy, n) = some (.int (Int32.ofInt 1), (yy, n)) := by
  have hc := hi.c
  have h : calm C0 b0 L0 xs0 237 [.ref (gi C0 i), .int (Int32.ofInt x)] (yy, n) = evm C0 b0 L0 xs0 237 (24, r237_A C0 i Y x 0 none none none none none none, []) (yy, n) := by
    unfold r237_A
    rw [M_237]
    simp (disch := omega) only [Int.reduceAdd, Int.reduceMul, Int.reduceSub, Int.reduceNeg, na_add, na_sub, na_mul, na_neg, na_lt, na_le, na_eq, na_ofNat, bo_some, tl_some, tl_none, rc_int, rc_ref, rc_null, rc_none, rc_long, tb_0, tb_1, ↓mr_g0, mr_r0, mr_get, mr_upd, mr_at, mr_wr, Classical.not_not, not_true_eq_false, not_false_eq_true, na_l0, na_l1, na_l2, na_l3, na_l4, na_l5, na_l6, na_l7, na_l8, na_l9, na_l10, na_l14, na_l15, na_l16, na_l25, na_l30, na_l31, na_l32, na_l33, na_l39, na_l43, na_l45, na_l48, na_l49, na_l50, na_l51, na_l52, na_l53, na_l55, na_l56, na_l57, na_l60, na_l64, na_l71, na_l80, na_l96, na_l100, na_l101, na_l102, na_l103, na_l104, na_l105, na_l106, na_l107, na_l108, na_l109, na_l110, na_l111, na_l112, na_l113, na_l114, na_l115, na_l116, na_l117, na_l118, na_l119, na_l120, na_l121, na_l125, na_l128, na_l150, na_l192, na_l255, na_l999, na_l1000, na_l1248, na_l1344, na_l1875, na_l10000, ↓reduceIte, pf_and, pe_le, pf_le, pe_lt, pf_lt, pe_eq, pf_eq, true_and, and_true, false_and, and_false, true_or, or_true, false_or, or_false, ln_some, lb_0, lb_1, na_div, na_rem, Nat.add_assoc, Nat.reduceAdd, L_237_0, L_237_1, L_237_2, L_237_3, nA_0, nA_1, nA_2, nA_3, nA_4, nA_5, nA_6, nA_7, nA_8, nA_9, nA_10, nP_0, nP_1, nP_2, nP_3, nW_0, nW_1, nW_2, nW_3, nW_4, nW_5, nW_6, nW_7, nF_0, nF_1, nF_2, nF_3, nF_4, nF_5, cv_113 hY hk, cv_114 hY hk, cv_115 hY hk, cv_116 hY hk, cv_117 hY hk, cv_127 hY hk, cv_128 hY hk, cv_129 hY hk, cv_130 hY hk, eq_self, ite_true, if_true]
  rw [h]
  by_cases q : 0 < Y.1 2
  · exact r237_ws hY hk hi x0 x1 q (Y.1 0).toNat 0 _ _ _ _ _ _ (by decide) (by omega)
  · unfold r237_A
    by_cases q0 : 0 < Y.1 0
    · rw [G_237_24]
      simp (disch := omega) only [Int.reduceAdd, Int.reduceMul, Int.reduceSub, Int.reduceNeg, na_add, na_sub, na_mul, na_neg, na_lt, na_le, na_eq, na_ofNat, bo_some, tl_some, tl_none, rc_int, rc_ref, rc_null, rc_none, rc_long, tb_0, tb_1, ↓mr_g0, mr_r0, mr_get, mr_upd, mr_at, mr_wr, Classical.not_not, not_true_eq_false, not_false_eq_true, na_l0, na_l1, na_l2, na_l3, na_l4, na_l5, na_l6, na_l7, na_l8, na_l9, na_l10, na_l14, na_l15, na_l16, na_l25, na_l30, na_l31, na_l32, na_l33, na_l39, na_l43, na_l45, na_l48, na_l49, na_l50, na_l51, na_l52, na_l53, na_l55, na_l56, na_l57, na_l60, na_l64, na_l71, na_l80, na_l96, na_l100, na_l101, na_l102, na_l103, na_l104, na_l105, na_l106, na_l107, na_l108, na_l109, na_l110, na_l111, na_l112, na_l113, na_l114, na_l115, na_l116, na_l117, na_l118, na_l119, na_l120, na_l121, na_l125, na_l128, na_l150, na_l192, na_l255, na_l999, na_l1000, na_l1248, na_l1344, na_l1875, na_l10000, ↓reduceIte, pf_and, pe_le, pf_le, pe_lt, pf_lt, pe_eq, pf_eq, true_and, and_true, false_and, and_false, true_or, or_true, false_or, or_false, ln_some, lb_0, lb_1, na_div, na_rem, Nat.add_assoc, Nat.reduceAdd, L_237_0, L_237_1, L_237_2, L_237_3, nA_0, nA_1, nA_2, nA_3, nA_4, nA_5, nA_6, nA_7, nA_8, nA_9, nA_10, nP_0, nP_1, nP_2, nP_3, nW_0, nW_1, nW_2, nW_3, nW_4, nW_5, nW_6, nW_7, nF_0, nF_1, nF_2, nF_3, nF_4, nF_5, cv_113 hY hk, cv_114 hY hk, cv_115 hY hk, cv_116 hY hk, cv_117 hY hk, cv_127 hY hk, cv_128 hY hk, cv_129 hY hk, cv_130 hY hk, eq_self, ite_true, if_true]
    · rw [G_237_24]
      simp (disch := omega) only [Int.reduceAdd, Int.reduceMul, Int.reduceSub, Int.reduceNeg, na_add, na_sub, na_mul, na_neg, na_lt, na_le, na_eq, na_ofNat, bo_some, tl_some, tl_none, rc_int, rc_ref, rc_null, rc_none, rc_long, tb_0, tb_1, ↓mr_g0, mr_r0, mr_get, mr_upd, mr_at, mr_wr, Classical.not_not, not_true_eq_false, not_false_eq_true, na_l0, na_l1, na_l2, na_l3, na_l4, na_l5, na_l6, na_l7, na_l8, na_l9, na_l10, na_l14, na_l15, na_l16, na_l25, na_l30, na_l31, na_l32, na_l33, na_l39, na_l43, na_l45, na_l48, na_l49, na_l50, na_l51, na_l52, na_l53, na_l55, na_l56, na_l57, na_l60, na_l64, na_l71, na_l80, na_l96, na_l100, na_l101, na_l102, na_l103, na_l104, na_l105, na_l106, na_l107, na_l108, na_l109, na_l110, na_l111, na_l112, na_l113, na_l114, na_l115, na_l116, na_l117, na_l118, na_l119, na_l120, na_l121, na_l125, na_l128, na_l150, na_l192, na_l255, na_l999, na_l1000, na_l1248, na_l1344, na_l1875, na_l10000, ↓reduceIte, pf_and, pe_le, pf_le, pe_lt, pf_lt, pe_eq, pf_eq, true_and, and_true, false_and, and_false, true_or, or_true, false_or, or_false, ln_some, lb_0, lb_1, na_div, na_rem, Nat.add_assoc, Nat.reduceAdd, L_237_0, L_237_1, L_237_2, L_237_3, nA_0, nA_1, nA_2, nA_3, nA_4, nA_5, nA_6, nA_7, nA_8, nA_9, nA_10, nP_0, nP_1, nP_2, nP_3, nW_0, nW_1, nW_2, nW_3, nW_4, nW_5, nW_6, nW_7, nF_0, nF_1, nF_2, nF_3, nF_4, nF_5, cv_113 hY hk, cv_114 hY hk, cv_115 hY hk, cv_116 hY hk, cv_117 hY hk, cv_127 hY hk, cv_128 hY hk, cv_129 hY hk, cv_130 hY hk, eq_self, ite_true, if_true]
end WAYS2
