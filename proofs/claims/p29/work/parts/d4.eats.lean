/-! The best single move, as the law finds it. -/
section IBS
variable {K : Int} {R : mr_R} {f k best l : Int}
/-- the places that the first k ways lead to -/
def nbk (R : mr_R) (f k b : Int) : Prop := (1 ≤ k ∧ b = R (71 + 5 * f + 1) * 5 + (mf_place R f + 1) % R (9 + 10 * R (71 + 5 * f + 1) + 0)) ∨ (2 ≤ k ∧ b = R (71 + 5 * f + 1) * 5 + (mf_place R f - 1) % R (9 + 10 * R (71 + 5 * f + 1) + 0)) ∨ ∃ l, (0 ≤ l ∧ l + 2 < k ∧ l < R 1) ∧ mf_away R f l ≠ -1 ∧ b = R (39 + 4 * l + 2 * mf_away R f l) * 5 + R (39 + 4 * l + 2 * mf_away R f l + 1)
def IB (R : mr_R) (f k best : Int) : Prop := (0 ≤ best ∧ best ≤ 9) ∧ (best = 0 ∨ ∃ b, nb R f b ∧ mf_on R (b / 5) (mf_pad R (b / 5) (b % 5)) = -1 ∧ best = fl R b) ∧ ∀ b, nbk R f k b → mf_on R (b / 5) (mf_pad R (b / 5) (b % 5)) = -1 → fl R b ≤ best
def bst (R : mr_R) (best v q : Int) : Int := if mf_on R v (mf_pad R v q) = -1 ∧ best < R (9 + 10 * v + 5 + mf_pad R v q) then R (9 + 10 * v + 5 + mf_pad R v q) else best
theorem fl_bd (hi : mi K R) (h1 : 0 ≤ f) (h2 : f < R 2) {b : Int} (h : nb R f b) : 0 ≤ fl R b ∧ fl R b ≤ 9 := by
  have ok := nb_ok hi h1 h2 h
  have hw := hi.w ok.1.1 ok.1.2
  have hp := mf_pad_bd (b % 5) (show 0 < R (9 + 10 * (b / 5) + 0) by omega)
  have hy := hi.y (k := mf_pad R (b / 5) (b % 5)) ok.1.1 ok.1.2 hp.1 (by omega)
  exact ⟨hy.1, hy.2.1⟩
theorem IB_0 : IB R f 0 0 := by
  refine ⟨by decide, Or.inl rfl, fun b h => ?_⟩
  rcases h with h | h | ⟨l, h, -⟩ <;> omega
theorem IB_step (hi : mi K R) (h1 : 0 ≤ f) (h2 : f < R 2) {v q : Int} (q0 : 0 ≤ q) (q5 : q < 5) (hb : nb R f (v * 5 + q)) (hs : ∀ b, nbk R f (k + 1) b → nbk R f k b ∨ b = v * 5 + q) (h : IB R f k best) : IB R f (k + 1) (bst R best v q) := by
  have hf := fl_bd hi h1 h2 hb
  have e1 : (v * 5 + q) / 5 = v := by omega
  have e2 : (v * 5 + q) % 5 = q := by omega
  have ef : fl R (v * 5 + q) = R (9 + 10 * v + 5 + mf_pad R v q) := by
    unfold fl
    rw [e1, e2]
  rw [ef] at hf
  obtain ⟨a, b, c⟩ := h
  unfold bst
  by_cases z : mf_on R v (mf_pad R v q) = -1 ∧ best < R (9 + 10 * v + 5 + mf_pad R v q)
  · rw [if_pos z]
    refine ⟨hf, Or.inr ⟨v * 5 + q, hb, by rw [e1, e2]; exact z.1, ef.symm⟩, fun d hd hd2 => ?_⟩
    rcases hs d hd with y | y
    · have := c d y hd2
      omega
    · rw [y, ef]
      exact Int.le_refl _
  · rw [if_neg z]
    refine ⟨a, b, fun d hd hd2 => ?_⟩
    rcases hs d hd with y | y
    · exact c d y hd2
    · rw [y, e1, e2] at hd2
      rw [y, ef]
      by_cases z2 : best < R (9 + 10 * v + 5 + mf_pad R v q)
      · exact absurd ⟨hd2, z2⟩ z
      · omega
theorem IB_skip (hs : ∀ b, nbk R f (k + 1) b → mf_on R (b / 5) (mf_pad R (b / 5) (b % 5)) = -1 → nbk R f k b) (h : IB R f k best) : IB R f (k + 1) best :=
  ⟨h.1, h.2.1, fun d hd hd2 => h.2.2 d (hs d hd hd2) hd2⟩
theorem why_8 (h8 : R 8 = 0) : mf_why R f l = 0 ↔ (mf_away R f l ≠ -1 ∧ mf_on R (R (39 + 4 * l + 2 * mf_away R f l)) (mf_pad R (R (39 + 4 * l + 2 * mf_away R f l)) (R (39 + 4 * l + 2 * mf_away R f l + 1))) = -1) := by
  constructor
  · intro h
    exact ⟨(mf_why_0 h).1, mf_later_0 (mf_why_0 h).2⟩
  · rintro ⟨a, b⟩
    unfold mf_why mf_later
    rw [if_neg a, if_pos b, if_neg (by omega)]
theorem IB_line (hi : mi K R) (h1 : 0 ≤ f) (h2 : f < R 2) (h8 : R 8 = 0) (l0 : 0 ≤ l) (l1 : l < R 1) (h : IB R f (l + 2) best) : IB R f (l + 2 + 1) (if mf_why R f l = 0 then bst R best (R (39 + 4 * l + 2 * mf_away R f l)) (R (39 + 4 * l + 2 * mf_away R f l + 1)) else best) := by
  have hw := why_8 (f := f) (l := l) h8
  by_cases q : mf_why R f l = 0
  · rw [if_pos q]
    have qa := (hw.mp q).1
    have he := mf_end hi l0 l1 qa
    have hv := hi.w he.1.1 he.1.2
    refine IB_step hi h1 h2 (by omega) (by omega) (Or.inr ⟨l, ⟨l0, l1⟩, qa, rfl⟩) (fun b hb => ?_) h
    rcases hb with ⟨a, b⟩ | ⟨a, b⟩ | ⟨j, j1, j2, j3⟩
    · exact Or.inl (Or.inl ⟨by omega, b⟩)
    · exact Or.inl (Or.inr (Or.inl ⟨by omega, b⟩))
    · by_cases e : j = l
      · exact Or.inr (by rw [j3, e])
      · exact Or.inl (Or.inr (Or.inr ⟨j, by omega, j2, j3⟩))
  · rw [if_neg q]
    refine IB_skip (fun b hb hf => ?_) h
    rcases hb with ⟨a, b⟩ | ⟨a, b⟩ | ⟨j, j1, j2, j3⟩
    · exact Or.inl ⟨by omega, b⟩
    · exact Or.inr (Or.inl ⟨by omega, b⟩)
    · by_cases e : j = l
      · refine absurd (hw.mpr ⟨e ▸ j2, ?_⟩) q
        rw [e] at j3 j2
        have he := mf_end hi l0 l1 j2
        have hv := hi.w he.1.1 he.1.2
        rw [j3] at hf
        have e1 : (R (39 + 4 * l + 2 * mf_away R f l) * 5 + R (39 + 4 * l + 2 * mf_away R f l + 1)) / 5 = R (39 + 4 * l + 2 * mf_away R f l) := by omega
        have e2 : (R (39 + 4 * l + 2 * mf_away R f l) * 5 + R (39 + 4 * l + 2 * mf_away R f l + 1)) % 5 = R (39 + 4 * l + 2 * mf_away R f l + 1) := by omega
        rwa [e1, e2] at hf
      · exact Or.inr (Or.inr ⟨j, by omega, j2, j3⟩)
theorem IB_h0 (hi : mi K R) (h1 : 0 ≤ f) (h2 : f < R 2) (h : IB R f 0 best) : IB R f (0 + 1) (bst R best (R (71 + 5 * f + 1)) ((mf_place R f + 1) % R (9 + 10 * R (71 + 5 * f + 1) + 0))) := by
  have hf := hi.f h1 h2
  have hw := hi.w (w := R (71 + 5 * f + 1)) (by omega) (by omega)
  have b1 : 0 ≤ (mf_place R f + 1) % R (9 + 10 * R (71 + 5 * f + 1) + 0) := Int.emod_nonneg _ (by omega)
  have b2 : (mf_place R f + 1) % R (9 + 10 * R (71 + 5 * f + 1) + 0) < R (9 + 10 * R (71 + 5 * f + 1) + 0) := Int.emod_lt_of_pos _ (by omega)
  refine IB_step hi h1 h2 b1 (by omega) (Or.inl (Or.inl rfl)) (fun b hb => ?_) h
  rcases hb with ⟨a, b⟩ | ⟨a, b⟩ | ⟨j, j1, j2, j3⟩
  · exact Or.inr b
  · omega
  · omega
theorem IB_h1 (hi : mi K R) (h1 : 0 ≤ f) (h2 : f < R 2) (h : IB R f 1 best) : IB R f (1 + 1) (bst R best (R (71 + 5 * f + 1)) ((mf_place R f - 1) % R (9 + 10 * R (71 + 5 * f + 1) + 0))) := by
  have hf := hi.f h1 h2
  have hw := hi.w (w := R (71 + 5 * f + 1)) (by omega) (by omega)
  have b1 : 0 ≤ (mf_place R f - 1) % R (9 + 10 * R (71 + 5 * f + 1) + 0) := Int.emod_nonneg _ (by omega)
  have b2 : (mf_place R f - 1) % R (9 + 10 * R (71 + 5 * f + 1) + 0) < R (9 + 10 * R (71 + 5 * f + 1) + 0) := Int.emod_lt_of_pos _ (by omega)
  refine IB_step hi h1 h2 b1 (by omega) (Or.inl (Or.inr rfl)) (fun b hb => ?_) h
  rcases hb with ⟨a, b⟩ | ⟨a, b⟩ | ⟨j, j1, j2, j3⟩
  · exact Or.inl (Or.inl ⟨by omega, b⟩)
  · exact Or.inr b
  · omega
theorem IB_end (hi : mi K R) (h1 : 0 ≤ f) (h2 : f < R 2) (h : IB R f (2 + R 1) best) : um R f 1 = best := by
  have hc := hi.c
  refine um_one hi h1 h2 h.2.1 h.1.1 fun b hb hf => h.2.2 b ?_ hf
  rcases hb with (hb | hb) | ⟨l, l1, l2, l3⟩
  · exact Or.inl ⟨by omega, hb⟩
  · exact Or.inr (Or.inl ⟨by omega, hb⟩)
  · exact Or.inr (Or.inr ⟨l, by omega, l2, l3⟩)
theorem um_8 (hi : mi K R) (h1 : 0 ≤ f) (h2 : f < R 2) {v : Int} (v0 : 0 ≤ v) (v1 : v ≤ 1) : um (mr_st R 8 v) f 1 = um R f 1 := by
  have hi2 := mi_set hi v0 v1
  have hf := hi.f h1 h2
  have hc := hi.c
  have zc : ∀ j, j ≠ 8 → mr_st R 8 v j = R j := fun j h => ms_ne h
  have zp : mf_place (mr_st R 8 v) f = mf_place R f := by
    unfold mf_place
    rw [zc (71 + 5 * f + 1) (by omega), zc (71 + 5 * f + 2) (by omega), zc (9 + 10 * R (71 + 5 * f + 1) + 3) (by omega), zc (9 + 10 * R (71 + 5 * f + 1) + 0) (by omega)]
  have zo : ∀ w d, mf_on (mr_st R 8 v) w d = mf_on R w d := fun w d => mf_on_cg (zc 2 (by decide)) fun g g0 g1 => ⟨zc _ (by omega), zc _ (by omega)⟩
  have zd : ∀ w p, 0 ≤ w → mf_pad (mr_st R 8 v) w p = mf_pad R w p := by
    intro w p w0
    unfold mf_pad
    rw [zc (9 + 10 * w + 3) (by omega), zc (9 + 10 * w + 0) (by omega)]
  have za : ∀ l, 0 ≤ l → mf_away (mr_st R 8 v) f l = mf_away R f l := by
    intro l l0
    unfold mf_away
    rw [zp, zc (39 + 4 * l + 0) (by omega), zc (39 + 4 * l + 1) (by omega), zc (39 + 4 * l + 2) (by omega), zc (39 + 4 * l + 3) (by omega), zc (71 + 5 * f + 1) (by omega)]
  have zn : ∀ b, nb (mr_st R 8 v) f b ↔ nb R f b := by
    intro b
    unfold nb
    rw [zp, zc (71 + 5 * f + 1) (by omega), zc (9 + 10 * R (71 + 5 * f + 1) + 0) (by omega), zc 1 (by decide)]
    refine or_congr Iff.rfl ⟨?_, ?_⟩
    · rintro ⟨l, l1, l2, l3⟩
      rw [za l l1.1] at l2 l3
      have := mf_away_or R f l
      rw [zc (39 + 4 * l + 2 * mf_away R f l) (by omega), zc (39 + 4 * l + 2 * mf_away R f l + 1) (by omega)] at l3
      exact ⟨l, l1, l2, l3⟩
    · rintro ⟨l, l1, l2, l3⟩
      have := mf_away_or R f l
      refine ⟨l, l1, by rw [za l l1.1]; exact l2, ?_⟩
      rw [za l l1.1, zc (39 + 4 * l + 2 * mf_away R f l) (by omega), zc (39 + 4 * l + 2 * mf_away R f l + 1) (by omega)]
      exact l3
  have zf : ∀ b, nb R f b → fl (mr_st R 8 v) b = fl R b := by
    intro b hb
    have ok := nb_ok hi h1 h2 hb
    have hw := hi.w ok.1.1 ok.1.2
    have hp := mf_pad_bd (b % 5) (show 0 < R (9 + 10 * (b / 5) + 0) by omega)
    unfold fl
    rw [zd _ _ ok.1.1, zc _ (by omega)]
  have h := (um_ok hi2 h1 (by rw [zc 2 (by decide)]; exact h2) (n := 1) (by decide) (by decide)).2
  have h : be_M (sn_x (ux (mr_st R 8 v) f)) (sn_w (ux (mr_st R 8 v) f)) (ux (mr_st R 8 v) f 5) 1 (sg_n (mr_st R 8 v) f) (uy (mr_st R 8 v)) (um (mr_st R 8 v) f 1) := h
  have h2' : f < mr_st R 8 v 2 := by rw [zc 2 (by decide)]; exact h2
  have y := (be_1 hi2 h1 h2').mp h.1
  refine (um_one hi h1 h2 ?_ ((um_ok hi2 h1 h2' (n := 1) (by decide) (by decide)).1.1) fun b hb hq => ?_).symm
  · rcases y with y | ⟨c, c1, c2, c3⟩
    · exact Or.inl y
    · have c1 := (zn c).mp c1
      have ok := nb_ok hi h1 h2 c1
      rw [zd _ _ ok.1.1, zo] at c2
      exact Or.inr ⟨c, c1, c2, c3.trans (zf c c1)⟩
  · have ok := nb_ok hi h1 h2 hb
    refine h.2 _ ((be_1 hi2 h1 h2').mpr (Or.inr ⟨b, (zn b).mpr hb, ?_, (zf b hb).symm⟩))
    rw [zd _ _ ok.1.1, zo]
    exact hq
end IBS
section EATS
variable {C0 b0 L0 : Nat} {xs0 : Nat → Int32} {yy : gy × gy} {n : Nat} {Y : gy} {K : Int}
def r238_L (C0 : Nat) (x fr f one two three free best way : Int) (a12 a13 a14 a15 a16 : Option Value) : ri_L := [some (.ref (gi C0 false)), some (.ref (gi C0 true)), some (.int (Int32.ofInt x)), some (.int (Int32.ofInt fr)), some (.int (Int32.ofInt f)), some (.int (Int32.ofInt one)), some (.int (Int32.ofInt two)), some (.int (Int32.ofInt three)), some (.int (Int32.ofInt free)), some (.int (Int32.ofInt 1)), some (.int (Int32.ofInt best)), some (.int (Int32.ofInt way)), a12, a13, a14, a15, a16]
theorem hop_1 {p n : Int} (h1 : 3 ≤ n) (h2 : n ≤ 5) : (p + (n - 1)) % n = (p - 1) % n := by
  have hn : n = 3 ∨ n = 4 ∨ n = 5 := by omega
  rcases hn with e | e | e <;> subst e <;> omega
theorem r238_h0 {x fr f one two three free best : Int} {a12 a13 a14 a15 a16 : Option Value} (hY : gg yy false = Y) (hk : gk Y) (hi : mi K Y.1) (f0 : 0 ≤ f) (f1 : f < Y.1 2) (b1 : 0 ≤ best ∧ best ≤ 9) : ∃ b12 b13 b14 b15 b16, evm C0 b0 L0 xs0 238 (126, r238_L C0 x fr f one two three free best 0 a12 a13 a14 a15 a16, []) (yy, n) = evm C0 b0 L0 xs0 238 (126, r238_L C0 x fr f one two three free (bst Y.1 best (Y.1 (71 + 5 * f + 1)) ((mf_place Y.1 f + 1) % Y.1 (9 + 10 * Y.1 (71 + 5 * f + 1) + 0))) (0 + 1) b12 b13 b14 b15 b16, []) (yy, n) := by
  have hc := hi.c
  have hf := hi.f f0 f1
  have hp := mf_place_bd hi f0 f1
  generalize ew : Y.1 (71 + 5 * f + 1) = w at *
  have hw := hi.w (w := w) (by omega) (by omega)
  generalize ep : mf_place Y.1 f = p at *
  have t0 : 0 ≤ (p + 1) % Y.1 (9 + 10 * w + 0) := Int.emod_nonneg _ (by omega)
  have t1 : (p + 1) % Y.1 (9 + 10 * w + 0) < Y.1 (9 + 10 * w + 0) := Int.emod_lt_of_pos _ (by omega)
  generalize et : (p + 1) % Y.1 (9 + 10 * w + 0) = to at *
  have hd := mf_pad_bd to (show 0 < Y.1 (9 + 10 * w + 0) by omega)
  have hy := hi.y (w := w) (k := mf_pad Y.1 w to) (by omega) (by omega) hd.1 (by omega)
  have hb := mf_on_bd hi w (mf_pad Y.1 w to)
  refine ⟨some (.int (Int32.ofInt w)), some (.int (Int32.ofInt (Y.1 (9 + 10 * w + 0)))), some (.int (Int32.ofInt p)), some (.int (Int32.ofInt to)), a16, ?_⟩
  unfold r238_L bst
  by_cases q : mf_on Y.1 w (mf_pad Y.1 w to) = -1
  · by_cases q2 : best < Y.1 (9 + 10 * w + 5 + mf_pad Y.1 w to)
    · rw [if_pos ⟨q, q2⟩, G_238_126]
      simp (disch := omega) only [Int.reduceAdd, Int.reduceMul, Int.reduceSub, Int.reduceNeg, na_add, na_sub, na_mul, na_neg, na_lt, na_le, na_eq, na_ofNat, bo_some, tl_some, tl_none, rc_int, rc_ref, rc_null, rc_none, rc_long, tb_0, tb_1, ↓mr_g0, mr_r0, mr_get, mr_upd, mr_at, mr_wr, Classical.not_not, not_true_eq_false, not_false_eq_true, na_l0, na_l1, na_l2, na_l3, na_l4, na_l5, na_l6, na_l7, na_l8, na_l9, na_l10, na_l14, na_l15, na_l16, na_l25, na_l30, na_l31, na_l32, na_l33, na_l39, na_l43, na_l45, na_l48, na_l49, na_l50, na_l51, na_l52, na_l53, na_l55, na_l56, na_l57, na_l60, na_l64, na_l71, na_l80, na_l96, na_l100, na_l101, na_l102, na_l103, na_l104, na_l105, na_l106, na_l107, na_l108, na_l109, na_l110, na_l111, na_l112, na_l113, na_l114, na_l115, na_l116, na_l117, na_l118, na_l119, na_l120, na_l121, na_l125, na_l128, na_l150, na_l192, na_l255, na_l999, na_l1000, na_l1248, na_l1344, na_l1875, na_l10000, ↓reduceIte, pf_and, pe_le, pf_le, pe_lt, pf_lt, pe_eq, pf_eq, true_and, and_true, false_and, and_false, true_or, or_true, false_or, or_false, ln_some, lb_0, lb_1, na_div, na_rem, Nat.add_assoc, Nat.reduceAdd, L_238_0, L_238_1, L_238_2, L_238_3, L_238_4, L_238_5, L_238_6, nA_0, nA_1, nA_2, nA_3, nA_4, nA_5, nA_6, nA_7, nA_8, nA_9, nA_10, nP_0, nP_1, nP_2, nP_3, nW_0, nW_1, nW_2, nW_3, nW_4, nW_5, nW_6, nW_7, nF_0, nF_1, nF_2, nF_3, nF_4, nF_5, cv_113 hY hk, cv_114 hY hk, cv_115 hY hk, cv_116 hY hk, cv_117 hY hk, cv_127 hY hk, cv_128 hY hk, cv_129 hY hk, cv_130 hY hk, Int.add_sub_cancel, eq_self, ite_true, if_true, ew, ep, et, q]
    · rw [if_neg (fun z => q2 z.2), G_238_126]
      simp (disch := omega) only [Int.reduceAdd, Int.reduceMul, Int.reduceSub, Int.reduceNeg, na_add, na_sub, na_mul, na_neg, na_lt, na_le, na_eq, na_ofNat, bo_some, tl_some, tl_none, rc_int, rc_ref, rc_null, rc_none, rc_long, tb_0, tb_1, ↓mr_g0, mr_r0, mr_get, mr_upd, mr_at, mr_wr, Classical.not_not, not_true_eq_false, not_false_eq_true, na_l0, na_l1, na_l2, na_l3, na_l4, na_l5, na_l6, na_l7, na_l8, na_l9, na_l10, na_l14, na_l15, na_l16, na_l25, na_l30, na_l31, na_l32, na_l33, na_l39, na_l43, na_l45, na_l48, na_l49, na_l50, na_l51, na_l52, na_l53, na_l55, na_l56, na_l57, na_l60, na_l64, na_l71, na_l80, na_l96, na_l100, na_l101, na_l102, na_l103, na_l104, na_l105, na_l106, na_l107, na_l108, na_l109, na_l110, na_l111, na_l112, na_l113, na_l114, na_l115, na_l116, na_l117, na_l118, na_l119, na_l120, na_l121, na_l125, na_l128, na_l150, na_l192, na_l255, na_l999, na_l1000, na_l1248, na_l1344, na_l1875, na_l10000, ↓reduceIte, pf_and, pe_le, pf_le, pe_lt, pf_lt, pe_eq, pf_eq, true_and, and_true, false_and, and_false, true_or, or_true, false_or, or_false, ln_some, lb_0, lb_1, na_div, na_rem, Nat.add_assoc, Nat.reduceAdd, L_238_0, L_238_1, L_238_2, L_238_3, L_238_4, L_238_5, L_238_6, nA_0, nA_1, nA_2, nA_3, nA_4, nA_5, nA_6, nA_7, nA_8, nA_9, nA_10, nP_0, nP_1, nP_2, nP_3, nW_0, nW_1, nW_2, nW_3, nW_4, nW_5, nW_6, nW_7, nF_0, nF_1, nF_2, nF_3, nF_4, nF_5, cv_113 hY hk, cv_114 hY hk, cv_115 hY hk, cv_116 hY hk, cv_117 hY hk, cv_127 hY hk, cv_128 hY hk, cv_129 hY hk, cv_130 hY hk, Int.add_sub_cancel, eq_self, ite_true, if_true, ew, ep, et, q]
  · rw [if_neg (fun z => q z.1), G_238_126]
    simp (disch := omega) only [Int.reduceAdd, Int.reduceMul, Int.reduceSub, Int.reduceNeg, na_add, na_sub, na_mul, na_neg, na_lt, na_le, na_eq, na_ofNat, bo_some, tl_some, tl_none, rc_int, rc_ref, rc_null, rc_none, rc_long, tb_0, tb_1, ↓mr_g0, mr_r0, mr_get, mr_upd, mr_at, mr_wr, Classical.not_not, not_true_eq_false, not_false_eq_true, na_l0, na_l1, na_l2, na_l3, na_l4, na_l5, na_l6, na_l7, na_l8, na_l9, na_l10, na_l14, na_l15, na_l16, na_l25, na_l30, na_l31, na_l32, na_l33, na_l39, na_l43, na_l45, na_l48, na_l49, na_l50, na_l51, na_l52, na_l53, na_l55, na_l56, na_l57, na_l60, na_l64, na_l71, na_l80, na_l96, na_l100, na_l101, na_l102, na_l103, na_l104, na_l105, na_l106, na_l107, na_l108, na_l109, na_l110, na_l111, na_l112, na_l113, na_l114, na_l115, na_l116, na_l117, na_l118, na_l119, na_l120, na_l121, na_l125, na_l128, na_l150, na_l192, na_l255, na_l999, na_l1000, na_l1248, na_l1344, na_l1875, na_l10000, ↓reduceIte, pf_and, pe_le, pf_le, pe_lt, pf_lt, pe_eq, pf_eq, true_and, and_true, false_and, and_false, true_or, or_true, false_or, or_false, ln_some, lb_0, lb_1, na_div, na_rem, Nat.add_assoc, Nat.reduceAdd, L_238_0, L_238_1, L_238_2, L_238_3, L_238_4, L_238_5, L_238_6, nA_0, nA_1, nA_2, nA_3, nA_4, nA_5, nA_6, nA_7, nA_8, nA_9, nA_10, nP_0, nP_1, nP_2, nP_3, nW_0, nW_1, nW_2, nW_3, nW_4, nW_5, nW_6, nW_7, nF_0, nF_1, nF_2, nF_3, nF_4, nF_5, cv_113 hY hk, cv_114 hY hk, cv_115 hY hk, cv_116 hY hk, cv_117 hY hk, cv_127 hY hk, cv_128 hY hk, cv_129 hY hk, cv_130 hY hk, Int.add_sub_cancel, eq_self, ite_true, if_true, ew, ep, et]

theorem r238_h1 {x fr f one two three free best : Int} {a12 a13 a14 a15 a16 : Option Value} (hY : gg yy false = Y) (hk : gk Y) (hi : mi K Y.1) (f0 : 0 ≤ f) (f1 : f < Y.1 2) (b1 : 0 ≤ best ∧ best ≤ 9) : ∃ b12 b13 b14 b15 b16, evm C0 b0 L0 xs0 238 (126, r238_L C0 x fr f one two three free best 1 a12 a13 a14 a15 a16, []) (yy, n) = evm C0 b0 L0 xs0 238 (126, r238_L C0 x fr f one two three free (bst Y.1 best (Y.1 (71 + 5 * f + 1)) ((mf_place Y.1 f - 1) % Y.1 (9 + 10 * Y.1 (71 + 5 * f + 1) + 0))) (1 + 1) b12 b13 b14 b15 b16, []) (yy, n) := by
  have hc := hi.c
  have hf := hi.f f0 f1
  have hp := mf_place_bd hi f0 f1
  generalize ew : Y.1 (71 + 5 * f + 1) = w at *
  have hw := hi.w (w := w) (by omega) (by omega)
  generalize ep : mf_place Y.1 f = p at *
  have t0 : 0 ≤ (p - 1) % Y.1 (9 + 10 * w + 0) := Int.emod_nonneg _ (by omega)
  have t1 : (p - 1) % Y.1 (9 + 10 * w + 0) < Y.1 (9 + 10 * w + 0) := Int.emod_lt_of_pos _ (by omega)
  have eh := hop_1 (p := p) hw.1.1 hw.1.2
  generalize et : (p - 1) % Y.1 (9 + 10 * w + 0) = to at *
  have hd := mf_pad_bd to (show 0 < Y.1 (9 + 10 * w + 0) by omega)
  have hy := hi.y (w := w) (k := mf_pad Y.1 w to) (by omega) (by omega) hd.1 (by omega)
  have hb := mf_on_bd hi w (mf_pad Y.1 w to)
  refine ⟨some (.int (Int32.ofInt w)), some (.int (Int32.ofInt (Y.1 (9 + 10 * w + 0)))), some (.int (Int32.ofInt p)), some (.int (Int32.ofInt to)), a16, ?_⟩
  unfold r238_L bst
  by_cases q : mf_on Y.1 w (mf_pad Y.1 w to) = -1
  · by_cases q2 : best < Y.1 (9 + 10 * w + 5 + mf_pad Y.1 w to)
    · rw [if_pos ⟨q, q2⟩, G_238_126]
      simp (disch := omega) only [Int.reduceAdd, Int.reduceMul, Int.reduceSub, Int.reduceNeg, na_add, na_sub, na_mul, na_neg, na_lt, na_le, na_eq, na_ofNat, bo_some, tl_some, tl_none, rc_int, rc_ref, rc_null, rc_none, rc_long, tb_0, tb_1, ↓mr_g0, mr_r0, mr_get, mr_upd, mr_at, mr_wr, Classical.not_not, not_true_eq_false, not_false_eq_true, na_l0, na_l1, na_l2, na_l3, na_l4, na_l5, na_l6, na_l7, na_l8, na_l9, na_l10, na_l14, na_l15, na_l16, na_l25, na_l30, na_l31, na_l32, na_l33, na_l39, na_l43, na_l45, na_l48, na_l49, na_l50, na_l51, na_l52, na_l53, na_l55, na_l56, na_l57, na_l60, na_l64, na_l71, na_l80, na_l96, na_l100, na_l101, na_l102, na_l103, na_l104, na_l105, na_l106, na_l107, na_l108, na_l109, na_l110, na_l111, na_l112, na_l113, na_l114, na_l115, na_l116, na_l117, na_l118, na_l119, na_l120, na_l121, na_l125, na_l128, na_l150, na_l192, na_l255, na_l999, na_l1000, na_l1248, na_l1344, na_l1875, na_l10000, ↓reduceIte, pf_and, pe_le, pf_le, pe_lt, pf_lt, pe_eq, pf_eq, true_and, and_true, false_and, and_false, true_or, or_true, false_or, or_false, ln_some, lb_0, lb_1, na_div, na_rem, Nat.add_assoc, Nat.reduceAdd, L_238_0, L_238_1, L_238_2, L_238_3, L_238_4, L_238_5, L_238_6, nA_0, nA_1, nA_2, nA_3, nA_4, nA_5, nA_6, nA_7, nA_8, nA_9, nA_10, nP_0, nP_1, nP_2, nP_3, nW_0, nW_1, nW_2, nW_3, nW_4, nW_5, nW_6, nW_7, nF_0, nF_1, nF_2, nF_3, nF_4, nF_5, cv_113 hY hk, cv_114 hY hk, cv_115 hY hk, cv_116 hY hk, cv_117 hY hk, cv_127 hY hk, cv_128 hY hk, cv_129 hY hk, cv_130 hY hk, Int.add_sub_cancel, eq_self, ite_true, if_true, ew, ep, et, eh, q]
    · rw [if_neg (fun z => q2 z.2), G_238_126]
      simp (disch := omega) only [Int.reduceAdd, Int.reduceMul, Int.reduceSub, Int.reduceNeg, na_add, na_sub, na_mul, na_neg, na_lt, na_le, na_eq, na_ofNat, bo_some, tl_some, tl_none, rc_int, rc_ref, rc_null, rc_none, rc_long, tb_0, tb_1, ↓mr_g0, mr_r0, mr_get, mr_upd, mr_at, mr_wr, Classical.not_not, not_true_eq_false, not_false_eq_true, na_l0, na_l1, na_l2, na_l3, na_l4, na_l5, na_l6, na_l7, na_l8, na_l9, na_l10, na_l14, na_l15, na_l16, na_l25, na_l30, na_l31, na_l32, na_l33, na_l39, na_l43, na_l45, na_l48, na_l49, na_l50, na_l51, na_l52, na_l53, na_l55, na_l56, na_l57, na_l60, na_l64, na_l71, na_l80, na_l96, na_l100, na_l101, na_l102, na_l103, na_l104, na_l105, na_l106, na_l107, na_l108, na_l109, na_l110, na_l111, na_l112, na_l113, na_l114, na_l115, na_l116, na_l117, na_l118, na_l119, na_l120, na_l121, na_l125, na_l128, na_l150, na_l192, na_l255, na_l999, na_l1000, na_l1248, na_l1344, na_l1875, na_l10000, ↓reduceIte, pf_and, pe_le, pf_le, pe_lt, pf_lt, pe_eq, pf_eq, true_and, and_true, false_and, and_false, true_or, or_true, false_or, or_false, ln_some, lb_0, lb_1, na_div, na_rem, Nat.add_assoc, Nat.reduceAdd, L_238_0, L_238_1, L_238_2, L_238_3, L_238_4, L_238_5, L_238_6, nA_0, nA_1, nA_2, nA_3, nA_4, nA_5, nA_6, nA_7, nA_8, nA_9, nA_10, nP_0, nP_1, nP_2, nP_3, nW_0, nW_1, nW_2, nW_3, nW_4, nW_5, nW_6, nW_7, nF_0, nF_1, nF_2, nF_3, nF_4, nF_5, cv_113 hY hk, cv_114 hY hk, cv_115 hY hk, cv_116 hY hk, cv_117 hY hk, cv_127 hY hk, cv_128 hY hk, cv_129 hY hk, cv_130 hY hk, Int.add_sub_cancel, eq_self, ite_true, if_true, ew, ep, et, eh, q]
  · rw [if_neg (fun z => q z.1), G_238_126]
    simp (disch := omega) only [Int.reduceAdd, Int.reduceMul, Int.reduceSub, Int.reduceNeg, na_add, na_sub, na_mul, na_neg, na_lt, na_le, na_eq, na_ofNat, bo_some, tl_some, tl_none, rc_int, rc_ref, rc_null, rc_none, rc_long, tb_0, tb_1, ↓mr_g0, mr_r0, mr_get, mr_upd, mr_at, mr_wr, Classical.not_not, not_true_eq_false, not_false_eq_true, na_l0, na_l1, na_l2, na_l3, na_l4, na_l5, na_l6, na_l7, na_l8, na_l9, na_l10, na_l14, na_l15, na_l16, na_l25, na_l30, na_l31, na_l32, na_l33, na_l39, na_l43, na_l45, na_l48, na_l49, na_l50, na_l51, na_l52, na_l53, na_l55, na_l56, na_l57, na_l60, na_l64, na_l71, na_l80, na_l96, na_l100, na_l101, na_l102, na_l103, na_l104, na_l105, na_l106, na_l107, na_l108, na_l109, na_l110, na_l111, na_l112, na_l113, na_l114, na_l115, na_l116, na_l117, na_l118, na_l119, na_l120, na_l121, na_l125, na_l128, na_l150, na_l192, na_l255, na_l999, na_l1000, na_l1248, na_l1344, na_l1875, na_l10000, ↓reduceIte, pf_and, pe_le, pf_le, pe_lt, pf_lt, pe_eq, pf_eq, true_and, and_true, false_and, and_false, true_or, or_true, false_or, or_false, ln_some, lb_0, lb_1, na_div, na_rem, Nat.add_assoc, Nat.reduceAdd, L_238_0, L_238_1, L_238_2, L_238_3, L_238_4, L_238_5, L_238_6, nA_0, nA_1, nA_2, nA_3, nA_4, nA_5, nA_6, nA_7, nA_8, nA_9, nA_10, nP_0, nP_1, nP_2, nP_3, nW_0, nW_1, nW_2, nW_3, nW_4, nW_5, nW_6, nW_7, nF_0, nF_1, nF_2, nF_3, nF_4, nF_5, cv_113 hY hk, cv_114 hY hk, cv_115 hY hk, cv_116 hY hk, cv_117 hY hk, cv_127 hY hk, cv_128 hY hk, cv_129 hY hk, cv_130 hY hk, Int.add_sub_cancel, eq_self, ite_true, if_true, ew, ep, et, eh]

theorem r238_l {x fr f one two three free best l : Int} {a12 a13 a14 a15 a16 : Option Value} (hY : gg yy false = Y) (hk : gk Y) (hi : mi K Y.1) (f0 : 0 ≤ f) (f1 : f < Y.1 2) (b1 : 0 ≤ best ∧ best ≤ 9) (h8 : Y.1 8 = 0) (l0 : 0 ≤ l) (l1 : l < Y.1 1) : ∃ b12 b13 b14 b15 b16, evm C0 b0 L0 xs0 238 (126, r238_L C0 x fr f one two three free best (l + 2) a12 a13 a14 a15 a16, []) (yy, n) = evm C0 b0 L0 xs0 238 (126, r238_L C0 x fr f one two three free (if mf_why Y.1 f l = 0 then bst Y.1 best (Y.1 (39 + 4 * l + 2 * mf_away Y.1 f l)) (Y.1 (39 + 4 * l + 2 * mf_away Y.1 f l + 1)) else best) (l + 2 + 1) b12 b13 b14 b15 b16, []) (yy, n) := by
  have hc := hi.c
  have hf := hi.f f0 f1
  have hl := hi.l l0 l1
  have hp := mf_place_bd hi f0 f1
  have hwf := hi.w (w := Y.1 (71 + 5 * f + 1)) (by omega) (by omega)
  have hw0 := hi.w (w := Y.1 (39 + 4 * l + 0)) (by omega) (by omega)
  have hw2 := hi.w (w := Y.1 (39 + 4 * l + 2)) (by omega) (by omega)
  have hwy := mf_why_bd Y.1 f l
  unfold r238_L
  by_cases q : mf_why Y.1 f l = 0
  · rw [if_pos q]
    have hw := (why_8 h8).mp q
    have ho := mf_away_or Y.1 f l
    have hon := hw.2
    by_cases AB : Y.1 (39 + 4 * l + 0) = Y.1 (71 + 5 * f + 1) ∧ Y.1 (39 + 4 * l + 1) = mf_place Y.1 f
    · have e : mf_away Y.1 f l = 1 := if_pos AB
      rw [e, show 39 + 4 * l + 2 * 1 = 39 + 4 * l + 2 by omega, show 39 + 4 * l + 2 + 1 = 39 + 4 * l + 3 by omega] at hon ⊢
      have hd := mf_pad_bd (Y.1 (39 + 4 * l + 3)) (show 0 < Y.1 (9 + 10 * Y.1 (39 + 4 * l + 2) + 0) by omega)
      have hy := hi.y (w := Y.1 (39 + 4 * l + 2)) (k := mf_pad Y.1 (Y.1 (39 + 4 * l + 2)) (Y.1 (39 + 4 * l + 3))) (by omega) (by omega) hd.1 (by omega)
      have A := AB.1
      have B := AB.2
      refine ⟨some (.int (Int32.ofInt (Y.1 (71 + 5 * f + 1)))), some (.int (Int32.ofInt (Y.1 (9 + 10 * Y.1 (71 + 5 * f + 1) + 0)))), some (.int (Int32.ofInt (mf_place Y.1 f))), some (.int (Int32.ofInt 2)), some (.int (Int32.ofInt (Y.1 (9 + 10 * Y.1 (39 + 4 * l + 2) + 5 + mf_pad Y.1 (Y.1 (39 + 4 * l + 2)) (Y.1 (39 + 4 * l + 3)))))), ?_⟩
      unfold bst
      by_cases q2 : best < Y.1 (9 + 10 * Y.1 (39 + 4 * l + 2) + 5 + mf_pad Y.1 (Y.1 (39 + 4 * l + 2)) (Y.1 (39 + 4 * l + 3)))
      · rw [if_pos ⟨hon, q2⟩, G_238_126]
        simp (disch := omega) only [Int.reduceAdd, Int.reduceMul, Int.reduceSub, Int.reduceNeg, na_add, na_sub, na_mul, na_neg, na_lt, na_le, na_eq, na_ofNat, bo_some, tl_some, tl_none, rc_int, rc_ref, rc_null, rc_none, rc_long, tb_0, tb_1, ↓mr_g0, mr_r0, mr_get, mr_upd, mr_at, mr_wr, Classical.not_not, not_true_eq_false, not_false_eq_true, na_l0, na_l1, na_l2, na_l3, na_l4, na_l5, na_l6, na_l7, na_l8, na_l9, na_l10, na_l14, na_l15, na_l16, na_l25, na_l30, na_l31, na_l32, na_l33, na_l39, na_l43, na_l45, na_l48, na_l49, na_l50, na_l51, na_l52, na_l53, na_l55, na_l56, na_l57, na_l60, na_l64, na_l71, na_l80, na_l96, na_l100, na_l101, na_l102, na_l103, na_l104, na_l105, na_l106, na_l107, na_l108, na_l109, na_l110, na_l111, na_l112, na_l113, na_l114, na_l115, na_l116, na_l117, na_l118, na_l119, na_l120, na_l121, na_l125, na_l128, na_l150, na_l192, na_l255, na_l999, na_l1000, na_l1248, na_l1344, na_l1875, na_l10000, ↓reduceIte, pf_and, pe_le, pf_le, pe_lt, pf_lt, pe_eq, pf_eq, true_and, and_true, false_and, and_false, true_or, or_true, false_or, or_false, ln_some, lb_0, lb_1, na_div, na_rem, Nat.add_assoc, Nat.reduceAdd, L_238_0, L_238_1, L_238_2, L_238_3, L_238_4, L_238_5, L_238_6, nA_0, nA_1, nA_2, nA_3, nA_4, nA_5, nA_6, nA_7, nA_8, nA_9, nA_10, nP_0, nP_1, nP_2, nP_3, nW_0, nW_1, nW_2, nW_3, nW_4, nW_5, nW_6, nW_7, nF_0, nF_1, nF_2, nF_3, nF_4, nF_5, cv_113 hY hk, cv_114 hY hk, cv_115 hY hk, cv_116 hY hk, cv_117 hY hk, cv_127 hY hk, cv_128 hY hk, cv_129 hY hk, cv_130 hY hk, Int.add_sub_cancel, eq_self, ite_true, if_true, q]
      · rw [if_neg (fun z => q2 z.2), G_238_126]
        simp (disch := omega) only [Int.reduceAdd, Int.reduceMul, Int.reduceSub, Int.reduceNeg, na_add, na_sub, na_mul, na_neg, na_lt, na_le, na_eq, na_ofNat, bo_some, tl_some, tl_none, rc_int, rc_ref, rc_null, rc_none, rc_long, tb_0, tb_1, ↓mr_g0, mr_r0, mr_get, mr_upd, mr_at, mr_wr, Classical.not_not, not_true_eq_false, not_false_eq_true, na_l0, na_l1, na_l2, na_l3, na_l4, na_l5, na_l6, na_l7, na_l8, na_l9, na_l10, na_l14, na_l15, na_l16, na_l25, na_l30, na_l31, na_l32, na_l33, na_l39, na_l43, na_l45, na_l48, na_l49, na_l50, na_l51, na_l52, na_l53, na_l55, na_l56, na_l57, na_l60, na_l64, na_l71, na_l80, na_l96, na_l100, na_l101, na_l102, na_l103, na_l104, na_l105, na_l106, na_l107, na_l108, na_l109, na_l110, na_l111, na_l112, na_l113, na_l114, na_l115, na_l116, na_l117, na_l118, na_l119, na_l120, na_l121, na_l125, na_l128, na_l150, na_l192, na_l255, na_l999, na_l1000, na_l1248, na_l1344, na_l1875, na_l10000, ↓reduceIte, pf_and, pe_le, pf_le, pe_lt, pf_lt, pe_eq, pf_eq, true_and, and_true, false_and, and_false, true_or, or_true, false_or, or_false, ln_some, lb_0, lb_1, na_div, na_rem, Nat.add_assoc, Nat.reduceAdd, L_238_0, L_238_1, L_238_2, L_238_3, L_238_4, L_238_5, L_238_6, nA_0, nA_1, nA_2, nA_3, nA_4, nA_5, nA_6, nA_7, nA_8, nA_9, nA_10, nP_0, nP_1, nP_2, nP_3, nW_0, nW_1, nW_2, nW_3, nW_4, nW_5, nW_6, nW_7, nF_0, nF_1, nF_2, nF_3, nF_4, nF_5, cv_113 hY hk, cv_114 hY hk, cv_115 hY hk, cv_116 hY hk, cv_117 hY hk, cv_127 hY hk, cv_128 hY hk, cv_129 hY hk, cv_130 hY hk, Int.add_sub_cancel, eq_self, ite_true, if_true, q]
    · have hCD : Y.1 (39 + 4 * l + 2) = Y.1 (71 + 5 * f + 1) ∧ Y.1 (39 + 4 * l + 3) = mf_place Y.1 f := by
        refine Classical.byContradiction fun z => hw.1 ?_
        unfold mf_away
        rw [if_neg AB, if_neg z]
      have e : mf_away Y.1 f l = 0 := by
        unfold mf_away
        rw [if_neg AB, if_pos hCD]
      rw [e, show 39 + 4 * l + 2 * 0 = 39 + 4 * l + 0 by omega, show 39 + 4 * l + 0 + 1 = 39 + 4 * l + 1 by omega] at hon ⊢
      have hd := mf_pad_bd (Y.1 (39 + 4 * l + 1)) (show 0 < Y.1 (9 + 10 * Y.1 (39 + 4 * l + 0) + 0) by omega)
      have hy := hi.y (w := Y.1 (39 + 4 * l + 0)) (k := mf_pad Y.1 (Y.1 (39 + 4 * l + 0)) (Y.1 (39 + 4 * l + 1))) (by omega) (by omega) hd.1 (by omega)
      have A : ¬ Y.1 (39 + 4 * l + 0) = Y.1 (71 + 5 * f + 1) := by omega
      refine ⟨some (.int (Int32.ofInt (Y.1 (71 + 5 * f + 1)))), some (.int (Int32.ofInt (Y.1 (9 + 10 * Y.1 (71 + 5 * f + 1) + 0)))), some (.int (Int32.ofInt (mf_place Y.1 f))), some (.int (Int32.ofInt 0)), some (.int (Int32.ofInt (Y.1 (9 + 10 * Y.1 (39 + 4 * l + 0) + 5 + mf_pad Y.1 (Y.1 (39 + 4 * l + 0)) (Y.1 (39 + 4 * l + 1)))))), ?_⟩
      unfold bst
      by_cases q2 : best < Y.1 (9 + 10 * Y.1 (39 + 4 * l + 0) + 5 + mf_pad Y.1 (Y.1 (39 + 4 * l + 0)) (Y.1 (39 + 4 * l + 1)))
      · rw [if_pos ⟨hon, q2⟩, G_238_126]
        simp (disch := omega) only [Int.reduceAdd, Int.reduceMul, Int.reduceSub, Int.reduceNeg, na_add, na_sub, na_mul, na_neg, na_lt, na_le, na_eq, na_ofNat, bo_some, tl_some, tl_none, rc_int, rc_ref, rc_null, rc_none, rc_long, tb_0, tb_1, ↓mr_g0, mr_r0, mr_get, mr_upd, mr_at, mr_wr, Classical.not_not, not_true_eq_false, not_false_eq_true, na_l0, na_l1, na_l2, na_l3, na_l4, na_l5, na_l6, na_l7, na_l8, na_l9, na_l10, na_l14, na_l15, na_l16, na_l25, na_l30, na_l31, na_l32, na_l33, na_l39, na_l43, na_l45, na_l48, na_l49, na_l50, na_l51, na_l52, na_l53, na_l55, na_l56, na_l57, na_l60, na_l64, na_l71, na_l80, na_l96, na_l100, na_l101, na_l102, na_l103, na_l104, na_l105, na_l106, na_l107, na_l108, na_l109, na_l110, na_l111, na_l112, na_l113, na_l114, na_l115, na_l116, na_l117, na_l118, na_l119, na_l120, na_l121, na_l125, na_l128, na_l150, na_l192, na_l255, na_l999, na_l1000, na_l1248, na_l1344, na_l1875, na_l10000, ↓reduceIte, pf_and, pe_le, pf_le, pe_lt, pf_lt, pe_eq, pf_eq, true_and, and_true, false_and, and_false, true_or, or_true, false_or, or_false, ln_some, lb_0, lb_1, na_div, na_rem, Nat.add_assoc, Nat.reduceAdd, L_238_0, L_238_1, L_238_2, L_238_3, L_238_4, L_238_5, L_238_6, nA_0, nA_1, nA_2, nA_3, nA_4, nA_5, nA_6, nA_7, nA_8, nA_9, nA_10, nP_0, nP_1, nP_2, nP_3, nW_0, nW_1, nW_2, nW_3, nW_4, nW_5, nW_6, nW_7, nF_0, nF_1, nF_2, nF_3, nF_4, nF_5, cv_113 hY hk, cv_114 hY hk, cv_115 hY hk, cv_116 hY hk, cv_117 hY hk, cv_127 hY hk, cv_128 hY hk, cv_129 hY hk, cv_130 hY hk, Int.add_sub_cancel, eq_self, ite_true, if_true, q]
      · rw [if_neg (fun z => q2 z.2), G_238_126]
        simp (disch := omega) only [Int.reduceAdd, Int.reduceMul, Int.reduceSub, Int.reduceNeg, na_add, na_sub, na_mul, na_neg, na_lt, na_le, na_eq, na_ofNat, bo_some, tl_some, tl_none, rc_int, rc_ref, rc_null, rc_none, rc_long, tb_0, tb_1, ↓mr_g0, mr_r0, mr_get, mr_upd, mr_at, mr_wr, Classical.not_not, not_true_eq_false, not_false_eq_true, na_l0, na_l1, na_l2, na_l3, na_l4, na_l5, na_l6, na_l7, na_l8, na_l9, na_l10, na_l14, na_l15, na_l16, na_l25, na_l30, na_l31, na_l32, na_l33, na_l39, na_l43, na_l45, na_l48, na_l49, na_l50, na_l51, na_l52, na_l53, na_l55, na_l56, na_l57, na_l60, na_l64, na_l71, na_l80, na_l96, na_l100, na_l101, na_l102, na_l103, na_l104, na_l105, na_l106, na_l107, na_l108, na_l109, na_l110, na_l111, na_l112, na_l113, na_l114, na_l115, na_l116, na_l117, na_l118, na_l119, na_l120, na_l121, na_l125, na_l128, na_l150, na_l192, na_l255, na_l999, na_l1000, na_l1248, na_l1344, na_l1875, na_l10000, ↓reduceIte, pf_and, pe_le, pf_le, pe_lt, pf_lt, pe_eq, pf_eq, true_and, and_true, false_and, and_false, true_or, or_true, false_or, or_false, ln_some, lb_0, lb_1, na_div, na_rem, Nat.add_assoc, Nat.reduceAdd, L_238_0, L_238_1, L_238_2, L_238_3, L_238_4, L_238_5, L_238_6, nA_0, nA_1, nA_2, nA_3, nA_4, nA_5, nA_6, nA_7, nA_8, nA_9, nA_10, nP_0, nP_1, nP_2, nP_3, nW_0, nW_1, nW_2, nW_3, nW_4, nW_5, nW_6, nW_7, nF_0, nF_1, nF_2, nF_3, nF_4, nF_5, cv_113 hY hk, cv_114 hY hk, cv_115 hY hk, cv_116 hY hk, cv_117 hY hk, cv_127 hY hk, cv_128 hY hk, cv_129 hY hk, cv_130 hY hk, Int.add_sub_cancel, eq_self, ite_true, if_true, q]
  · rw [if_neg q]
    refine ⟨some (.int (Int32.ofInt (Y.1 (71 + 5 * f + 1)))), some (.int (Int32.ofInt (Y.1 (9 + 10 * Y.1 (71 + 5 * f + 1) + 0)))), some (.int (Int32.ofInt (mf_place Y.1 f))), a15, a16, ?_⟩
    rw [G_238_126]
    simp (disch := omega) only [Int.reduceAdd, Int.reduceMul, Int.reduceSub, Int.reduceNeg, na_add, na_sub, na_mul, na_neg, na_lt, na_le, na_eq, na_ofNat, bo_some, tl_some, tl_none, rc_int, rc_ref, rc_null, rc_none, rc_long, tb_0, tb_1, ↓mr_g0, mr_r0, mr_get, mr_upd, mr_at, mr_wr, Classical.not_not, not_true_eq_false, not_false_eq_true, na_l0, na_l1, na_l2, na_l3, na_l4, na_l5, na_l6, na_l7, na_l8, na_l9, na_l10, na_l14, na_l15, na_l16, na_l25, na_l30, na_l31, na_l32, na_l33, na_l39, na_l43, na_l45, na_l48, na_l49, na_l50, na_l51, na_l52, na_l53, na_l55, na_l56, na_l57, na_l60, na_l64, na_l71, na_l80, na_l96, na_l100, na_l101, na_l102, na_l103, na_l104, na_l105, na_l106, na_l107, na_l108, na_l109, na_l110, na_l111, na_l112, na_l113, na_l114, na_l115, na_l116, na_l117, na_l118, na_l119, na_l120, na_l121, na_l125, na_l128, na_l150, na_l192, na_l255, na_l999, na_l1000, na_l1248, na_l1344, na_l1875, na_l10000, ↓reduceIte, pf_and, pe_le, pf_le, pe_lt, pf_lt, pe_eq, pf_eq, true_and, and_true, false_and, and_false, true_or, or_true, false_or, or_false, ln_some, lb_0, lb_1, na_div, na_rem, Nat.add_assoc, Nat.reduceAdd, L_238_0, L_238_1, L_238_2, L_238_3, L_238_4, L_238_5, L_238_6, nA_0, nA_1, nA_2, nA_3, nA_4, nA_5, nA_6, nA_7, nA_8, nA_9, nA_10, nP_0, nP_1, nP_2, nP_3, nW_0, nW_1, nW_2, nW_3, nW_4, nW_5, nW_6, nW_7, nF_0, nF_1, nF_2, nF_3, nF_4, nF_5, cv_113 hY hk, cv_114 hY hk, cv_115 hY hk, cv_116 hY hk, cv_117 hY hk, cv_127 hY hk, cv_128 hY hk, cv_129 hY hk, cv_130 hY hk, Int.add_sub_cancel, eq_self, ite_true, if_true, q]
theorem r238_ls {x fr f one two three free : Int} (hY : gg yy false = Y) (hk : gk Y) (hi : mi K Y.1) (f0 : 0 ≤ f) (f1 : f < Y.1 2) (h8 : Y.1 8 = 0) : ∀ (m : Nat) (l best : Int) (a12 a13 a14 a15 a16 : Option Value), 0 ≤ l → l + m = Y.1 1 → IB Y.1 f (l + 2) best → ∃ best2 b12 b13 b14 b15 b16, IB Y.1 f (2 + Y.1 1) best2 ∧ evm C0 b0 L0 xs0 238 (126, r238_L C0 x fr f one two three free best (l + 2) a12 a13 a14 a15 a16, []) (yy, n) = evm C0 b0 L0 xs0 238 (126, r238_L C0 x fr f one two three free best2 (2 + Y.1 1) b12 b13 b14 b15 b16, []) (yy, n) := by
  intro m
  induction m with
  | zero =>
    intro l best a12 a13 a14 a15 a16 l0 e hI
    refine ⟨best, a12, a13, a14, a15, a16, ?_, ?_⟩
    · rwa [show l + 2 = 2 + Y.1 1 by omega] at hI
    · rw [show l + 2 = 2 + Y.1 1 by omega]
  | succ m ih =>
    intro l best a12 a13 a14 a15 a16 l0 e hI
    obtain ⟨d12, d13, d14, d15, d16, h⟩ := r238_l (C0 := C0) (b0 := b0) (L0 := L0) (xs0 := xs0) (n := n) (x := x) (fr := fr) (one := one) (two := two) (three := three) (free := free) (a12 := a12) (a13 := a13) (a14 := a14) (a15 := a15) (a16 := a16) hY hk hi f0 f1 hI.1 h8 l0 (show l < Y.1 1 by omega)
    have hI2 := IB_line hi f0 f1 h8 l0 (show l < Y.1 1 by omega) hI
    rw [show l + 2 + 1 = l + 1 + 2 by omega] at hI2 h
    obtain ⟨best2, b12, b13, b14, b15, b16, h2, h3⟩ := ih (l + 1) _ d12 d13 d14 d15 d16 (by omega) (by omega) hI2
    exact ⟨best2, b12, b13, b14, b15, b16, h2, h.trans h3⟩
theorem r238_w {x fr f one two three free : Int} {a12 a13 a14 a15 a16 : Option Value} (hY : gg yy false = Y) (hk : gk Y) (hi : mi K Y.1) (f0 : 0 ≤ f) (f1 : f < Y.1 2) (h8 : Y.1 8 = 0) : ∃ b12 b13 b14 b15 b16, evm C0 b0 L0 xs0 238 (126, r238_L C0 x fr f one two three free 0 0 a12 a13 a14 a15 a16, []) (yy, n) = evm C0 b0 L0 xs0 238 (126, r238_L C0 x fr f one two three free (um Y.1 f 1) (2 + Y.1 1) b12 b13 b14 b15 b16, []) (yy, n) := by
  have hc := hi.c
  obtain ⟨c12, c13, c14, c15, c16, h1⟩ := r238_h0 (C0 := C0) (b0 := b0) (L0 := L0) (xs0 := xs0) (n := n) (x := x) (fr := fr) (one := one) (two := two) (three := three) (free := free) (best := 0) (a12 := a12) (a13 := a13) (a14 := a14) (a15 := a15) (a16 := a16) hY hk hi f0 f1 (by decide)
  have i1 := IB_h0 hi f0 f1 IB_0
  obtain ⟨d12, d13, d14, d15, d16, h2⟩ := r238_h1 (C0 := C0) (b0 := b0) (L0 := L0) (xs0 := xs0) (n := n) (x := x) (fr := fr) (one := one) (two := two) (three := three) (free := free) (a12 := c12) (a13 := c13) (a14 := c14) (a15 := c15) (a16 := c16) hY hk hi f0 f1 i1.1
  have i2 := IB_h1 hi f0 f1 i1
  obtain ⟨best2, b12, b13, b14, b15, b16, i3, h3⟩ := r238_ls (C0 := C0) (b0 := b0) (L0 := L0) (xs0 := xs0) (n := n) (x := x) (fr := fr) (one := one) (two := two) (three := three) (free := free) hY hk hi f0 f1 h8 (Y.1 1).toNat 0 _ d12 d13 d14 d15 d16 (by decide) (by omega) i2
  rw [IB_end hi f0 f1 i3]
  exact ⟨b12, b13, b14, b15, b16, h1.trans (h2.trans h3)⟩
end EATS
