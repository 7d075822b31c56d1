/-! What holds in each pond: a wheel's places. -/
theorem nP_0 {R : mr_R} {w p : Int} : mf_nP R w p 0 = mf_pad R w p := rfl
theorem nP_1 {R : mr_R} {w p : Int} : mf_nP R w p 1 = R (9 + 10 * w + 5 + mf_pad R w p) := rfl
theorem nP_2 {R : mr_R} {w p : Int} : mf_nP R w p 2 = mf_on R w (mf_pad R w p) := rfl
theorem nP_3 {R : mr_R} {w p : Int} : mf_nP R w p 3 = mf_end2 R w p := rfl
theorem nW_0 {R : mr_R} {w : Int} : mf_nW R w 0 = R (9 + 10 * w + 0) := rfl
theorem nW_1 {R : mr_R} {w : Int} : mf_nW R w 1 = R (9 + 10 * w + 1) := rfl
theorem nW_2 {R : mr_R} {w : Int} : mf_nW R w 2 = R (9 + 10 * w + 2) := rfl
theorem nW_3 {R : mr_R} {w : Int} : mf_nW R w 3 = R (9 + 10 * w + 3) := rfl
theorem nW_4 {R : mr_R} {w : Int} : mf_nW R w 4 = mf_wt R w := rfl
theorem nW_5 {R : mr_R} {w : Int} : mf_nW R w 5 = mf_fly R w := rfl
theorem nW_6 {R : mr_R} {w : Int} : mf_nW R w 6 = mf_rnd R w := rfl
theorem nW_7 {R : mr_R} {w : Int} : mf_nW R w 7 = R (9 + 10 * w + 4) := rfl
theorem nF_0 {R : mr_R} {f : Int} : mf_nF R f 0 = R (71 + 5 * f + 0) := rfl
theorem nF_1 {R : mr_R} {f : Int} : mf_nF R f 1 = R (71 + 5 * f + 1) := rfl
theorem nF_2 {R : mr_R} {f : Int} : mf_nF R f 2 = R (71 + 5 * f + 2) := rfl
theorem nF_3 {R : mr_R} {f : Int} : mf_nF R f 3 = mf_place R f := rfl
theorem nF_4 {R : mr_R} {f : Int} : mf_nF R f 4 = R (71 + 5 * f + 3) := rfl
theorem nF_5 {R : mr_R} {f : Int} : mf_nF R f 5 = R (71 + 5 * f + 4) := rfl
section HOLD
variable {C0 b0 L0 : Nat} {xs0 : Nat → Int32} {yy : gy × gy} {i : Bool} {n : Nat} {Y : gy} {K : Int}
def r233_B (C0 : Nat) (i : Bool) (Y : gy) (w fl th en s wt : Int) (P : Int32) (p : Int) (a b c : Option Value) : ri_L := [some (.ref (gi C0 i)), some (.int (Int32.ofInt (Y.1 0))), some (.int (Int32.ofInt (Y.1 1))), some (.int (Int32.ofInt (Y.1 2))), some (.int (Int32.ofInt 0)), some (.int (Int32.ofInt 0)), some (.int (Int32.ofInt fl)), some (.int (Int32.ofInt th)), some (.int (Int32.ofInt en)), some (.int (Int32.ofInt 1)), some (.int (Int32.ofInt w)), some (.int (Int32.ofInt (Y.1 (9 + 10 * w + 0)))), some (.int (Int32.ofInt (Y.1 (9 + 10 * w + 1)))), some (.int (Int32.ofInt (Y.1 (9 + 10 * w + 3)))), some (.int (Int32.ofInt s)), some (.int (Int32.ofInt wt)), some (.int P), some (.int (Int32.ofInt p)), a, b, c]
theorem pad_back {R : mr_R} {w p : Int} (hi : mi K R) (w0 : 0 ≤ w) (w1 : w < R 0) (p0 : 0 ≤ p) (p1 : p < R (9 + 10 * w + 0)) : (mf_pad R w p + R (9 + 10 * w + 3)) % R (9 + 10 * w + 0) = p := by
  unfold mf_pad
  rw [Int.emod_add_emod, Int.sub_add_cancel, Int.emod_eq_of_lt p0 p1]
theorem on_place {R : mr_R} {w p : Int} (hi : mi K R) (w0 : 0 ≤ w) (w1 : w < R 0) (p0 : 0 ≤ p) (p1 : p < R (9 + 10 * w + 0)) (q : mf_on R w (mf_pad R w p) ≠ -1) : mf_place R (mf_on R w (mf_pad R w p)) = p := by
  have h := mf_on_at hi q
  unfold mf_place
  rw [h.2.2.1, h.2.2.2]
  exact pad_back hi w0 w1 p0 p1
theorem r233_p {w fl th en s wt p : Int} {P : Int32} {a b c : Option Value} (hY : gg yy i = Y) (hk : gk Y) (hi : mi K Y.1) (w0 : 0 ≤ w) (w1 : w < Y.1 0) (p0 : 0 ≤ p) (p1 : p < Y.1 (9 + 10 * w + 0)) :
    ∃ a2 b2 c2, evm C0 b0 L0 xs0 233 (124, r233_B C0 i Y w fl th en s wt P p a b c, []) (yy, n) = evm C0 b0 L0 xs0 233 (124, r233_B C0 i Y w fl (th + vl (fun _ => 1) (mf_on Y.1 w (mf_pad Y.1 w p))) (en + mf_end2 Y.1 w p) (s + Y.1 (9 + 10 * w + 5 + mf_pad Y.1 w p)) (wt + vl (fun f => Y.1 (71 + 5 * f + 0)) (mf_on Y.1 w (mf_pad Y.1 w p))) (P ||| (Int32.ofInt 1 <<< (Int32.ofInt (mf_pad Y.1 w p) &&& 31))) (p + 1) a2 b2 c2, []) (yy, n) := by
  have hw := hi.w w0 w1
  have hc := hi.c
  have hd := mf_pad_bd p (show 0 < Y.1 (9 + 10 * w + 0) by omega)
  have hr := pad_back hi w0 w1 p0 p1
  have hy := hi.y (k := mf_pad Y.1 w p) w0 w1 hd.1 (by omega)
  have hb := mf_on_bd hi w (mf_pad Y.1 w p)
  have hp := fun q => on_place hi w0 w1 p0 p1 q
  have ha := fun q => mf_on_at (w := w) (pad := mf_pad Y.1 w p) hi q
  refine ⟨some (.int (Int32.ofInt (mf_pad Y.1 w p))), some (.int (Int32.ofInt (mf_on Y.1 w (mf_pad Y.1 w p)))), some (.int (Int32.ofInt (Y.1 (9 + 10 * w + 5 + mf_pad Y.1 w p)))), ?_⟩
  by_cases q : mf_on Y.1 w (mf_pad Y.1 w p) = -1
  · rw [q, show vl (fun _ => 1) (-1) = 0 from rfl, show vl (fun f => Y.1 (71 + 5 * f + 0)) (-1) = 0 from rfl]
    unfold r233_B
    rw [G_233_124]
    simp (disch := omega) only [Int.reduceAdd, Int.reduceMul, Int.reduceSub, Int.reduceNeg, na_add, na_sub, na_mul, na_neg, na_lt, na_le, na_eq, na_ofNat, bo_some, tl_some, tl_none, rc_int, rc_ref, rc_null, rc_none, rc_long, tb_0, tb_1, ↓mr_g0, mr_r0, mr_get, mr_upd, mr_at, mr_wr, Classical.not_not, not_true_eq_false, not_false_eq_true, na_l0, na_l1, na_l2, na_l3, na_l4, na_l5, na_l6, na_l7, na_l8, na_l9, na_l10, na_l14, na_l15, na_l16, na_l25, na_l30, na_l31, na_l32, na_l33, na_l39, na_l43, na_l45, na_l48, na_l49, na_l50, na_l51, na_l52, na_l53, na_l55, na_l56, na_l57, na_l60, na_l64, na_l71, na_l80, na_l96, na_l100, na_l101, na_l102, na_l103, na_l104, na_l105, na_l106, na_l107, na_l108, na_l109, na_l110, na_l111, na_l112, na_l113, na_l114, na_l115, na_l116, na_l117, na_l118, na_l119, na_l120, na_l121, na_l125, na_l128, na_l150, na_l192, na_l255, na_l999, na_l1000, na_l1248, na_l1344, na_l1875, na_l10000, ↓reduceIte, pf_and, pe_le, pf_le, pe_lt, pf_lt, pe_eq, pf_eq, true_and, and_true, false_and, and_false, true_or, or_true, false_or, or_false, ln_some, lb_0, lb_1, na_div, na_rem, Nat.add_assoc, Nat.reduceAdd, cv_113 hY hk, cv_114 hY hk, cv_115 hY hk, cv_116 hY hk, cv_117 hY hk, cv_127 hY hk, cv_128 hY hk, cv_129 hY hk, cv_130 hY hk, L_233_0, L_233_1, L_233_2, L_233_3, L_233_4, L_233_5, L_233_6, L_233_7, L_233_8, L_233_9, L_233_10, L_233_11, L_233_12, L_233_13, L_233_14, nP_0, nP_1, nP_2, nP_3, nF_0, nF_1, nF_2, nF_3, hr, q, eq_self, ite_true, if_true]
  · have hp := hp q
    have ha := ha q
    rw [show vl (fun _ => 1) (mf_on Y.1 w (mf_pad Y.1 w p)) = 1 from if_neg q, show vl (fun f => Y.1 (71 + 5 * f + 0)) (mf_on Y.1 w (mf_pad Y.1 w p)) = Y.1 (71 + 5 * mf_on Y.1 w (mf_pad Y.1 w p) + 0) from if_neg q]
    unfold r233_B
    rw [G_233_124]
    have h1 := ha.2.2.1
    have h2 := ha.2.2.2
    simp (disch := omega) only [Int.reduceAdd, Int.reduceMul, Int.reduceSub, Int.reduceNeg, na_add, na_sub, na_mul, na_neg, na_lt, na_le, na_eq, na_ofNat, bo_some, tl_some, tl_none, rc_int, rc_ref, rc_null, rc_none, rc_long, tb_0, tb_1, ↓mr_g0, mr_r0, mr_get, mr_upd, mr_at, mr_wr, Classical.not_not, not_true_eq_false, not_false_eq_true, na_l0, na_l1, na_l2, na_l3, na_l4, na_l5, na_l6, na_l7, na_l8, na_l9, na_l10, na_l14, na_l15, na_l16, na_l25, na_l30, na_l31, na_l32, na_l33, na_l39, na_l43, na_l45, na_l48, na_l49, na_l50, na_l51, na_l52, na_l53, na_l55, na_l56, na_l57, na_l60, na_l64, na_l71, na_l80, na_l96, na_l100, na_l101, na_l102, na_l103, na_l104, na_l105, na_l106, na_l107, na_l108, na_l109, na_l110, na_l111, na_l112, na_l113, na_l114, na_l115, na_l116, na_l117, na_l118, na_l119, na_l120, na_l121, na_l125, na_l128, na_l150, na_l192, na_l255, na_l999, na_l1000, na_l1248, na_l1344, na_l1875, na_l10000, ↓reduceIte, pf_and, pe_le, pf_le, pe_lt, pf_lt, pe_eq, pf_eq, true_and, and_true, false_and, and_false, true_or, or_true, false_or, or_false, ln_some, lb_0, lb_1, na_div, na_rem, Nat.add_assoc, Nat.reduceAdd, cv_113 hY hk, cv_114 hY hk, cv_115 hY hk, cv_116 hY hk, cv_117 hY hk, cv_127 hY hk, cv_128 hY hk, cv_129 hY hk, cv_130 hY hk, L_233_0, L_233_1, L_233_2, L_233_3, L_233_4, L_233_5, L_233_6, L_233_7, L_233_8, L_233_9, L_233_10, L_233_11, L_233_12, L_233_13, L_233_14, nP_0, nP_1, nP_2, nP_3, nF_0, nF_1, nF_2, nF_3, hr, hp, h1, h2, eq_self, ite_true, if_true]
def r233_A (C0 : Nat) (i : Bool) (Y : gy) (w fl th en : Int) (l11 l12 l13 l14 l15 l16 l17 l18 l19 l20 : Option Value) : ri_L := [some (.ref (gi C0 i)), some (.int (Int32.ofInt (Y.1 0))), some (.int (Int32.ofInt (Y.1 1))), some (.int (Int32.ofInt (Y.1 2))), some (.int (Int32.ofInt 0)), some (.int (Int32.ofInt 0)), some (.int (Int32.ofInt fl)), some (.int (Int32.ofInt th)), some (.int (Int32.ofInt en)), some (.int (Int32.ofInt 1)), some (.int (Int32.ofInt w)), l11, l12, l13, l14, l15, l16, l17, l18, l19, l20]
theorem r233_ps {w fl th en : Int} (hY : gg yy i = Y) (hk : gk Y) (hi : mi K Y.1) (w0 : 0 ≤ w) (w1 : w < Y.1 0) : ∀ (m k : Nat) (a b c : Option Value), (k : Int) + m = Y.1 (9 + 10 * w + 0) →
    ∃ a2 b2 c2, evm C0 b0 L0 xs0 233 (124, r233_B C0 i Y w fl (th + t5 k (fun p => vl (fun _ => 1) (mf_on Y.1 w (mf_pad Y.1 w p)))) (en + t5 k (fun p => mf_end2 Y.1 w p)) (t5 k (fun p => Y.1 (9 + 10 * w + 5 + mf_pad Y.1 w p))) (t5 k (fun p => vl (fun f => Y.1 (71 + 5 * f + 0)) (mf_on Y.1 w (mf_pad Y.1 w p)))) (pdF (Y.1 (9 + 10 * w + 0)) (Y.1 (9 + 10 * w + 3)) k) k a b c, []) (yy, n) = evm C0 b0 L0 xs0 233 (124, r233_B C0 i Y w fl (th + t5 (Y.1 (9 + 10 * w + 0)) (fun p => vl (fun _ => 1) (mf_on Y.1 w (mf_pad Y.1 w p)))) (en + t5 (Y.1 (9 + 10 * w + 0)) (fun p => mf_end2 Y.1 w p)) (mf_fly Y.1 w) (mf_wt Y.1 w) ((Int32.ofInt 1 <<< (Int32.ofInt (Y.1 (9 + 10 * w + 0)) &&& 31)) - Int32.ofInt 1) (Y.1 (9 + 10 * w + 0)) a2 b2 c2, []) (yy, n) := by
  intro m
  have hw := hi.w w0 w1
  induction m with
  | zero =>
    intro k a b c e
    have e : (k : Int) = Y.1 (9 + 10 * w + 0) := by omega
    refine ⟨a, b, c, ?_⟩
    have h1 := fly_sum hi w0 w1
    have h2 := seat_sum (v := fun f => Y.1 (71 + 5 * f + 0)) hi w0 w1
    have h3 := pd_all (n := Y.1 (9 + 10 * w + 0)) (r := Y.1 (9 + 10 * w + 3)) (by omega) (by omega) (by omega) (by omega)
    rw [← wt_sum hi] at h2
    rw [show k = (Y.1 (9 + 10 * w + 0)).toNat by omega, h3, show (((Y.1 (9 + 10 * w + 0)).toNat : Nat) : Int) = Y.1 (9 + 10 * w + 0) by omega, h1, h2]
  | succ m ih =>
    intro k a b c e
    obtain ⟨a1, b1, c1, h⟩ := r233_p (C0 := C0) (b0 := b0) (L0 := L0) (xs0 := xs0) (n := n) (fl := fl) (th := th + t5 k (fun p => vl (fun _ => 1) (mf_on Y.1 w (mf_pad Y.1 w p)))) (en := en + t5 k (fun p => mf_end2 Y.1 w p)) (s := t5 k (fun p => Y.1 (9 + 10 * w + 5 + mf_pad Y.1 w p))) (wt := t5 k (fun p => vl (fun f => Y.1 (71 + 5 * f + 0)) (mf_on Y.1 w (mf_pad Y.1 w p)))) (P := pdF (Y.1 (9 + 10 * w + 0)) (Y.1 (9 + 10 * w + 3)) k) (a := a) (b := b) (c := c) hY hk hi w0 w1 (p := k) (by omega) (by omega)
    obtain ⟨a2, b2, c2, h2⟩ := ih (k + 1) a1 b1 c1 (by omega)
    refine ⟨a2, b2, c2, ?_⟩
    rw [h, ← h2]
    have st : ∀ g, t5 ((k + 1 : Nat) : Int) g = t5 k g + g k := fun g => t5_step (m := (k : Int)) (by omega) (by omega)
    rw [st, st, st, st, ← Int.add_assoc, ← Int.add_assoc]
    rfl
theorem r233_w1 {w fl th en : Int} {l11 l12 l13 l14 l15 l16 l17 l18 l19 l20 : Option Value} (hY : gg yy i = Y) (hk : gk Y) (hi : mi K Y.1) (w0 : 0 ≤ w) (w1 : w < Y.1 0) : evm C0 b0 L0 xs0 233 (68, r233_A C0 i Y w fl th en l11 l12 l13 l14 l15 l16 l17 l18 l19 l20, []) (yy, n) = evm C0 b0 L0 xs0 233 (124, r233_B C0 i Y w fl th en 0 0 (Int32.ofInt 0) 0 l18 l19 l20, []) (yy, n) := by
  have hw := hi.w w0 w1
  have hc := hi.c
  unfold r233_A r233_B
  rw [G_233_68]
  simp (disch := omega) only [Int.reduceAdd, Int.reduceMul, Int.reduceSub, Int.reduceNeg, na_add, na_sub, na_mul, na_neg, na_lt, na_le, na_eq, na_ofNat, bo_some, tl_some, tl_none, rc_int, rc_ref, rc_null, rc_none, rc_long, tb_0, tb_1, ↓mr_g0, mr_r0, mr_get, mr_upd, mr_at, mr_wr, Classical.not_not, not_true_eq_false, not_false_eq_true, na_l0, na_l1, na_l2, na_l3, na_l4, na_l5, na_l6, na_l7, na_l8, na_l9, na_l10, na_l14, na_l15, na_l16, na_l25, na_l30, na_l31, na_l32, na_l33, na_l39, na_l43, na_l45, na_l48, na_l49, na_l50, na_l51, na_l52, na_l53, na_l55, na_l56, na_l57, na_l60, na_l64, na_l71, na_l80, na_l96, na_l100, na_l101, na_l102, na_l103, na_l104, na_l105, na_l106, na_l107, na_l108, na_l109, na_l110, na_l111, na_l112, na_l113, na_l114, na_l115, na_l116, na_l117, na_l118, na_l119, na_l120, na_l121, na_l125, na_l128, na_l150, na_l192, na_l255, na_l999, na_l1000, na_l1248, na_l1344, na_l1875, na_l10000, ↓reduceIte, pf_and, pe_le, pf_le, pe_lt, pf_lt, pe_eq, pf_eq, true_and, and_true, false_and, and_false, true_or, or_true, false_or, or_false, ln_some, lb_0, lb_1, na_div, na_rem, Nat.add_assoc, Nat.reduceAdd, cv_113 hY hk, cv_114 hY hk, cv_115 hY hk, cv_116 hY hk, cv_117 hY hk, cv_127 hY hk, cv_128 hY hk, cv_129 hY hk, cv_130 hY hk, L_233_0, L_233_1, L_233_2, L_233_3, L_233_4, L_233_5, L_233_6, L_233_7, L_233_8, L_233_9, L_233_10, L_233_11, L_233_12, L_233_13, L_233_14, nW_0, nW_1, nW_3]
theorem r233_w2 {w fl th en : Int} {a b c : Option Value} (hY : gg yy i = Y) (hk : gk Y) (hi : mi K Y.1) (hg : gxa 0 0 Y.1) (w0 : 0 ≤ w) (w1 : w < Y.1 0) : ∃ m11 m12 m13 m14 m15 m16 m17 m18 m19 m20, evm C0 b0 L0 xs0 233 (124, r233_B C0 i Y w fl th en (mf_fly Y.1 w) (mf_wt Y.1 w) ((Int32.ofInt 1 <<< (Int32.ofInt (Y.1 (9 + 10 * w + 0)) &&& 31)) - Int32.ofInt 1) (Y.1 (9 + 10 * w + 0)) a b c, []) (yy, n) = evm C0 b0 L0 xs0 233 (68, r233_A C0 i Y (w + 1) (fl + mf_fly Y.1 w) th en m11 m12 m13 m14 m15 m16 m17 m18 m19 m20, []) (yy, n) := by
  have hw := hi.w w0 w1
  have hc := hi.c
  have hl := hg.2.2.1 w w0 w1
  have hr := rnd_all hw.1.1 hw.1.2 hw.2.1.1 hw.2.1.2
  have e : mf_rnd Y.1 w = mf_rF (Y.1 (9 + 10 * w + 0)) (Y.1 (9 + 10 * w + 1)) (Y.1 (9 + 10 * w + 0) - 1).toNat 1 := rfl
  rw [← e] at hr
  have hkk := hi.k
  have r1 := hr.2.1
  refine ⟨some (.int (Int32.ofInt (Y.1 (9 + 10 * w + 0)))), some (.int (Int32.ofInt (Y.1 (9 + 10 * w + 1)))), some (.int (Int32.ofInt (Y.1 (9 + 10 * w + 3)))), some (.int (Int32.ofInt (mf_fly Y.1 w))), some (.int (Int32.ofInt (mf_wt Y.1 w))), some (.int ((Int32.ofInt 1 <<< (Int32.ofInt (Y.1 (9 + 10 * w + 0)) &&& 31)) - Int32.ofInt 1)), some (.int (Int32.ofInt (mf_rnd Y.1 w))), a, b, c, ?_⟩
  unfold r233_A r233_B
  by_cases q : mf_rnd Y.1 w = 1
  · rw [q] at r1 hr
    rw [G_233_124]
    simp (disch := omega) only [Int.reduceAdd, Int.reduceMul, Int.reduceSub, Int.reduceNeg, na_add, na_sub, na_mul, na_neg, na_lt, na_le, na_eq, na_ofNat, bo_some, tl_some, tl_none, rc_int, rc_ref, rc_null, rc_none, rc_long, tb_0, tb_1, ↓mr_g0, mr_r0, mr_get, mr_upd, mr_at, mr_wr, Classical.not_not, not_true_eq_false, not_false_eq_true, na_l0, na_l1, na_l2, na_l3, na_l4, na_l5, na_l6, na_l7, na_l8, na_l9, na_l10, na_l14, na_l15, na_l16, na_l25, na_l30, na_l31, na_l32, na_l33, na_l39, na_l43, na_l45, na_l48, na_l49, na_l50, na_l51, na_l52, na_l53, na_l55, na_l56, na_l57, na_l60, na_l64, na_l71, na_l80, na_l96, na_l100, na_l101, na_l102, na_l103, na_l104, na_l105, na_l106, na_l107, na_l108, na_l109, na_l110, na_l111, na_l112, na_l113, na_l114, na_l115, na_l116, na_l117, na_l118, na_l119, na_l120, na_l121, na_l125, na_l128, na_l150, na_l192, na_l255, na_l999, na_l1000, na_l1248, na_l1344, na_l1875, na_l10000, ↓reduceIte, pf_and, pe_le, pf_le, pe_lt, pf_lt, pe_eq, pf_eq, true_and, and_true, false_and, and_false, true_or, or_true, false_or, or_false, ln_some, lb_0, lb_1, Nat.add_assoc, Nat.reduceAdd, na_tdiv, na_trem, cv_113 hY hk, cv_114 hY hk, cv_115 hY hk, cv_116 hY hk, cv_117 hY hk, cv_127 hY hk, cv_128 hY hk, cv_129 hY hk, cv_130 hY hk, L_233_0, L_233_1, L_233_2, L_233_3, L_233_4, L_233_5, L_233_6, L_233_7, L_233_8, L_233_9, L_233_10, L_233_11, L_233_12, L_233_13, L_233_14, nW_0, nW_1, nW_3, nW_4, nW_5, nW_6, nW_7, nA_3, r1, q, eq_self, ite_true, if_true]
  · have hr2 := hr.2.2.1.resolve_left q
    have r2 := hr2.1
    have r3 := hr2.2
    rw [G_233_124]
    simp (disch := omega) only [Int.reduceAdd, Int.reduceMul, Int.reduceSub, Int.reduceNeg, na_add, na_sub, na_mul, na_neg, na_lt, na_le, na_eq, na_ofNat, bo_some, tl_some, tl_none, rc_int, rc_ref, rc_null, rc_none, rc_long, tb_0, tb_1, ↓mr_g0, mr_r0, mr_get, mr_upd, mr_at, mr_wr, Classical.not_not, not_true_eq_false, not_false_eq_true, na_l0, na_l1, na_l2, na_l3, na_l4, na_l5, na_l6, na_l7, na_l8, na_l9, na_l10, na_l14, na_l15, na_l16, na_l25, na_l30, na_l31, na_l32, na_l33, na_l39, na_l43, na_l45, na_l48, na_l49, na_l50, na_l51, na_l52, na_l53, na_l55, na_l56, na_l57, na_l60, na_l64, na_l71, na_l80, na_l96, na_l100, na_l101, na_l102, na_l103, na_l104, na_l105, na_l106, na_l107, na_l108, na_l109, na_l110, na_l111, na_l112, na_l113, na_l114, na_l115, na_l116, na_l117, na_l118, na_l119, na_l120, na_l121, na_l125, na_l128, na_l150, na_l192, na_l255, na_l999, na_l1000, na_l1248, na_l1344, na_l1875, na_l10000, ↓reduceIte, pf_and, pe_le, pf_le, pe_lt, pf_lt, pe_eq, pf_eq, true_and, and_true, false_and, and_false, true_or, or_true, false_or, or_false, ln_some, lb_0, lb_1, Nat.add_assoc, Nat.reduceAdd, na_tdiv, na_trem, cv_113 hY hk, cv_114 hY hk, cv_115 hY hk, cv_116 hY hk, cv_117 hY hk, cv_127 hY hk, cv_128 hY hk, cv_129 hY hk, cv_130 hY hk, L_233_0, L_233_1, L_233_2, L_233_3, L_233_4, L_233_5, L_233_6, L_233_7, L_233_8, L_233_9, L_233_10, L_233_11, L_233_12, L_233_13, L_233_14, nW_0, nW_1, nW_3, nW_4, nW_5, nW_6, nW_7, nA_3, r1, r2, eq_self, ite_true, if_true]
end HOLD
