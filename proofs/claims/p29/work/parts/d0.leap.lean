/-! What a leap leaves. -/
section LEAP
variable {K : Int} {R : mr_R} {f w p l j : Int}
theorem sit_c (hi : mi K R) (a1 : 0 ≤ f) (w0 : 0 ≤ w) (w1 : w < R 0) (hj : (0 ≤ j ∧ j ≤ 2) ∨ j = 3 ∨ (5 ≤ j ∧ j ≤ 8) ∨ (9 ≤ j ∧ j < 39 ∧ (j - 9) % 10 < 5) ∨ (39 ≤ j ∧ j < 71) ∨ (71 ≤ j ∧ j < 96 ∧ (j - 71) % 5 < 3 ∧ j ≠ 71 + 5 * f + 1 ∧ j ≠ 71 + 5 * f + 2)) : mg_sit R f w p j = R j := by
  have hw := hi.w w0 w1
  have hp := mf_pad_bd p (show 0 < R (9 + 10 * w + 0) by omega)
  have hc := hi.c
  unfold mg_sit mg_seat mg_eat
  generalize mf_pad R w p = d at *
  simp (disch := omega) only [ms_ne]
theorem sit_1 (hi : mi K R) (a1 : 0 ≤ f) (w0 : 0 ≤ w) (w1 : w < R 0) : mg_sit R f w p (71 + 5 * f + 1) = w ∧ mg_sit R f w p (71 + 5 * f + 2) = mf_pad R w p := by
  have hw := hi.w w0 w1
  have hp := mf_pad_bd p (show 0 < R (9 + 10 * w + 0) by omega)
  have hc := hi.c
  unfold mg_sit mg_seat mg_eat
  generalize mf_pad R w p = d at *
  constructor <;> simp (disch := omega) only [ms_ne, ms_eq]
theorem leave_c (w0 : 0 ≤ w) (h : j ≠ 9 + 10 * w + 3) (h2 : j ≠ 9 + 10 * w + 4) : mg_leave R w j = R j := by
  unfold mg_leave mg_left mg_turn
  split
  · rw [ms_ne h2, ms_ne h]
  · rfl
theorem leave_3 (w0 : 0 ≤ w) : mg_leave R w (9 + 10 * w + 3) = if mf_wt R w ≤ R (9 + 10 * w + 2) then (R (9 + 10 * w + 3) + R (9 + 10 * w + 1)) % R (9 + 10 * w + 0) else R (9 + 10 * w + 3) := by
  unfold mg_leave mg_left mg_turn
  split
  · rw [ms_ne (by omega), ms_eq rfl]
  · rfl
theorem behind_c (hi : mi K R) (hk : K + 2 ≤ 1000000) (h0 : 0 < R 0) (a1 : 0 ≤ f) (a2 : f < R 2) : (∀ j, ((0 ≤ j ∧ j ≤ 2) ∨ j = 8 ∨ (9 ≤ j ∧ j < 39 ∧ (j - 9) % 10 < 5) ∨ (39 ≤ j ∧ j < 71) ∨ (71 ≤ j ∧ j < 96 ∧ (j - 71) % 5 < 3)) → mg_behind R f j = R j) ∧ mg_behind R f 3 = R 3 + 1 ∧ mg_behind R f 6 = R 6 + 1 ∧ mg_behind R f 7 = f + 1 := by
  have hc := hi.c
  have hi2 := mi_count hi a1 a2 (by omega)
  have e0 : mg_count R f 0 = R 0 := by unfold mg_count; simp (disch := omega) only [ms_ne]
  have ec : (∀ j, ((0 ≤ j ∧ j ≤ 2) ∨ j = 8 ∨ (9 ≤ j ∧ j < 39 ∧ (j - 9) % 10 < 5) ∨ (39 ≤ j ∧ j < 71) ∨ (71 ≤ j ∧ j < 96 ∧ (j - 71) % 5 < 3)) → mg_count R f j = R j) ∧ mg_count R f 3 = R 3 + 1 ∧ mg_count R f 6 = R 6 + 1 ∧ mg_count R f 7 = f + 1 := by
    unfold mg_count
    refine ⟨fun j hj => ?_, ?_, ?_, ?_⟩ <;> simp (disch := omega) only [ms_ne, ms_eq]
  unfold mg_behind mg_comes
  have b1 : 0 ≤ mg_count R f 3 % mg_count R f 0 := Int.emod_nonneg _ (by omega)
  have b2 : mg_count R f 3 % mg_count R f 0 < mg_count R f 0 := Int.emod_lt_of_pos _ (by omega)
  have hw := hi2.w b1 b2
  have hp := mf_pad_bd (mg_count R f 3 % mg_count R f (9 + 10 * (mg_count R f 3 % mg_count R f 0) + 0)) (show 0 < mg_count R f (9 + 10 * (mg_count R f 3 % mg_count R f 0) + 0) by omega)
  generalize mf_pad (mg_count R f) _ _ = d at *
  generalize mg_count R f 3 % mg_count R f 0 = v at *
  generalize mg_count R f = T at *
  have ef : ∀ j, ((0 ≤ j ∧ j ≤ 3) ∨ (6 ≤ j ∧ j ≤ 8) ∨ (9 ≤ j ∧ j < 39 ∧ (j - 9) % 10 < 5) ∨ (39 ≤ j ∧ j < 71) ∨ (71 ≤ j ∧ j < 96 ∧ (j - 71) % 5 < 3)) → mg_fly T v d j = T j := by
    intro j hj
    unfold mg_fly
    by_cases q : mf_on T v d = -1
    · rw [if_pos q]
      split
      · rw [ms_ne (by omega)]
      · rw [ms_ne (by omega)]
    · rw [if_neg q]
      have ho := mf_on_at hi2 q
      unfold mg_eat
      simp (disch := omega) only [ms_ne]
  exact ⟨fun j hj => (ef j (by omega)).trans (ec.1 j hj), (ef 3 (by omega)).trans ec.2.1, (ef 6 (by omega)).trans ec.2.2.1, (ef 7 (by omega)).trans ec.2.2.2⟩
theorem wt_cg {R2 : mr_R} {K2 : Int} (hi : mi K R) (hi2 : mi K2 R2) (e2 : R2 2 = R 2) (e : ∀ g, 0 ≤ g → g < R 2 → R2 (71 + 5 * g + 1) = R (71 + 5 * g + 1) ∧ R2 (71 + 5 * g + 0) = R (71 + 5 * g + 0)) : mf_wt R2 w = mf_wt R w := by
  rw [wt_sum hi, wt_sum hi2, e2]
  refine t5_cg fun g g0 g1 => ?_
  rw [(e g g0 g1).1, (e g g0 g1).2]
theorem wt_less {R2 : mr_R} {K2 : Int} (hi : mi K R) (hi2 : mi K2 R2) (e2 : R2 2 = R 2) (a1 : 0 ≤ f) (a2 : f < R 2) (hw : R (71 + 5 * f + 1) = w) (hn : R2 (71 + 5 * f + 1) ≠ w) (e : ∀ g, 0 ≤ g → g < R 2 → g ≠ f → R2 (71 + 5 * g + 1) = R (71 + 5 * g + 1) ∧ R2 (71 + 5 * g + 0) = R (71 + 5 * g + 0)) : mf_wt R2 w = mf_wt R w - R (71 + 5 * f + 0) := by
  have hc := hi.c
  rw [wt_sum hi, wt_sum hi2, e2]
  have key : t5 (R 2) (fun g => if R (71 + 5 * g + 1) = w then R (71 + 5 * g + 0) else 0) = t5 (R 2) (fun g => (if R2 (71 + 5 * g + 1) = w then R2 (71 + 5 * g + 0) else 0) + (if g = f then R (71 + 5 * f + 0) else 0)) := by
    refine t5_cg fun g g0 g1 => ?_
    by_cases q : g = f
    · rw [q, if_pos hw, if_neg hn, if_pos rfl]
      omega
    · rw [(e g g0 g1 q).1, (e g g0 g1 q).2, if_neg q]
      omega
  rw [key, t5_add, t5_one (e := f) (g := fun g => if g = f then R (71 + 5 * f + 0) else 0) a1 a2 (by omega) (fun g _ _ ge => if_neg ge), if_pos rfl]
  omega
/-- what is told of a leap that was made -/
theorem leap_c (hi : mi K R) (hk : K + 20 ≤ 1000000) (a1 : 0 ≤ f) (a2 : f < R 2) (l1 : 0 ≤ l) (l2 : l < R 1) (q : mf_why R f l = 0) {to pl : Int} (hw : R (71 + 5 * f + 1) = w) (hto : R (39 + 4 * l + 2 * mf_away R f l) = to) (hpl : R (39 + 4 * l + 2 * mf_away R f l + 1) = pl) :
    (mg_leap R f l (71 + 5 * f + 1) = to ∧ mf_place (mg_leap R f l) f = pl) ∧ (mg_leap R f l 3 = R 3 + 1 ∧ mg_leap R f l 6 = R 6 + 1 ∧ mg_leap R f l 7 = f + 1) ∧ mf_wt (mg_leap R f l) w = mf_wt R w - R (71 + 5 * f + 0) ∧ (mg_leap R f l 0 = R 0 ∧ mg_leap R f l 1 = R 1 ∧ mg_leap R f l 2 = R 2) ∧ (mg_leap R f l (9 + 10 * w + 0) = R (9 + 10 * w + 0) ∧ mg_leap R f l (9 + 10 * w + 1) = R (9 + 10 * w + 1) ∧ mg_leap R f l (9 + 10 * w + 2) = R (9 + 10 * w + 2)) ∧ mg_leap R f l (9 + 10 * w + 3) = if mf_wt R w - R (71 + 5 * f + 0) ≤ R (9 + 10 * w + 2) then (R (9 + 10 * w + 3) + R (9 + 10 * w + 1)) % R (9 + 10 * w + 0) else R (9 + 10 * w + 3) := by
  have hc := hi.c
  have hf := hi.f a1 a2
  have qa := (mf_why_0 q).1
  have he := mf_end hi l1 l2 qa
  have hS := mi_jump1 hi a1 a2 l1 l2 q (by omega)
  have hJ := mi_jump hi a1 a2 l1 l2 q (by omega)
  have hN := mi_leap hi a1 a2 l1 l2 hk
  have ne : to ≠ w := by
    have hb := nb_ok hi a1 a2 (b := to * 5 + pl) (Or.inr ⟨l, ⟨l1, l2⟩, qa, by rw [hto, hpl]⟩)
    have hl := hi.l l1 l2
    have hv := hi.w he.1.1 he.1.2
    rw [hto] at hv he
    rw [hpl] at he
    intro z
    have ho := mf_away_or R f l
    unfold mf_away at hto qa
    by_cases q : R (39 + 4 * l + 0) = R (71 + 5 * f + 1) ∧ R (39 + 4 * l + 1) = mf_place R f
    · rw [if_pos q, show 39 + 4 * l + 2 * 1 = 39 + 4 * l + 2 by omega] at hto
      omega
    · rw [if_neg q] at hto qa
      by_cases q2 : R (39 + 4 * l + 2) = R (71 + 5 * f + 1) ∧ R (39 + 4 * l + 3) = mf_place R f
      · rw [if_pos q2, show 39 + 4 * l + 2 * 0 = 39 + 4 * l + 0 by omega] at hto
        omega
      · rw [if_neg q2] at qa
        exact qa rfl
  rw [hto, hpl] at he hS
  unfold mg_jump at hJ
  rw [hto, hpl, hw] at hJ
  have sc := fun j hj => sit_c (j := j) (f := f) (w := to) (p := pl) hi a1 he.1.1 he.1.2 hj
  have s1 := sit_1 (f := f) (w := to) (p := pl) hi a1 he.1.1 he.1.2
  have w0 : 0 ≤ w ∧ w < R 0 := by omega
  have e : mg_leap R f l = mg_behind (mg_leave (mg_sit R f to pl) w) f := by
    unfold mg_leap mg_jump
    rw [if_pos q, hto, hpl, hw]
  rw [e] at hN ⊢
  have lc := fun j h h2 => leave_c (R := mg_sit R f to pl) (w := w) (j := j) w0.1 h h2
  have l3 := leave_3 (R := mg_sit R f to pl) (w := w) w0.1
  have wl : mf_wt (mg_sit R f to pl) w = mf_wt R w - R (71 + 5 * f + 0) := wt_less hi hS (sc 2 (by omega)) a1 a2 hw (by rw [s1.1]; exact ne) (fun g g0 g1 ge => ⟨sc _ (by omega), sc _ (by omega)⟩)
  rw [wl] at l3
  have k0 : mg_leave (mg_sit R f to pl) w 0 = R 0 := (lc 0 (by omega) (by omega)).trans (sc 0 (by omega))
  have k2 : mg_leave (mg_sit R f to pl) w 2 = R 2 := (lc 2 (by omega) (by omega)).trans (sc 2 (by omega))
  have bc := behind_c hJ (by omega) (by omega) a1 (by omega)
  have hwt := he.1
  have hto5 := hi.w hwt.1 hwt.2
  have c0 : ∀ j, (0 ≤ j ∧ j ≤ 2) ∨ (9 ≤ j ∧ j < 39 ∧ (j - 9) % 10 < 3) → mg_behind (mg_leave (mg_sit R f to pl) w) f j = R j := fun j hj => (bc.1 j (by omega)).trans ((lc j (by omega) (by omega)).trans (sc j (by omega)))
  have c1 : mg_behind (mg_leave (mg_sit R f to pl) w) f (71 + 5 * f + 1) = to := (bc.1 _ (by omega)).trans ((lc _ (by omega) (by omega)).trans s1.1)
  have c2 : mg_behind (mg_leave (mg_sit R f to pl) w) f (71 + 5 * f + 2) = mf_pad R to pl := (bc.1 _ (by omega)).trans ((lc _ (by omega) (by omega)).trans s1.2)
  have c3 : mg_behind (mg_leave (mg_sit R f to pl) w) f (9 + 10 * to + 3) = R (9 + 10 * to + 3) := (bc.1 _ (by omega)).trans ((lc _ (by omega) (by omega)).trans (sc _ (by omega)))
  refine ⟨⟨c1, ?_⟩, ⟨?_, ?_, bc.2.2.2⟩, ?_, ⟨c0 0 (by omega), c0 1 (by omega), c0 2 (by omega)⟩, ⟨c0 _ (by omega), c0 _ (by omega), c0 _ (by omega)⟩, ?_⟩
  · unfold mf_place
    rw [c1, c2, c3, c0 (9 + 10 * to + 0) (by omega)]
    exact pad_back hi he.1.1 he.1.2 he.2.1.1 he.2.1.2
  · rw [bc.2.1, lc 3 (by omega) (by omega), sc 3 (by omega)]
  · rw [bc.2.2.1, lc 6 (by omega) (by omega), sc 6 (by omega)]
  · rw [← wl]
    have z2 := sc 2 (by omega)
    exact wt_cg hS hN ((c0 2 (by omega)).trans (sc 2 (by omega)).symm) (fun g g0 g1 => ⟨(bc.1 _ (by omega)).trans (lc _ (by omega) (by omega)), (bc.1 _ (by omega)).trans (lc _ (by omega) (by omega))⟩)
  · rw [bc.1 _ (by omega), l3, sc _ (by omega), sc _ (by omega), sc _ (by omega), sc _ (by omega)]
theorem lw_turn {n r no : Int} (n1 : 3 ≤ n) (n2 : n ≤ 5) (r1 : 0 ≤ r) (r2 : r < n) (o1 : -4 ≤ no) (o2 : no ≤ 4) : (-5 ≤ (r + no + n).tmod n ∧ (r + no + n).tmod n ≤ 5) ∧ ((r + no + n).tmod n < 0 → (r + no + n).tmod n + n = (r + no) % n) ∧ (¬ (r + no + n).tmod n < 0 → (r + no + n).tmod n = (r + no) % n) := by
  have hn : n = 3 ∨ n = 4 ∨ n = 5 := by omega
  have hr : r = 0 ∨ r = 1 ∨ r = 2 ∨ r = 3 ∨ r = 4 := by omega
  have ho : no = -4 ∨ no = -3 ∨ no = -2 ∨ no = -1 ∨ no = 0 ∨ no = 1 ∨ no = 2 ∨ no = 3 ∨ no = 4 := by omega
  rcases hn with e | e | e <;> subst e <;> rcases hr with h | h | h | h | h <;> subst h <;> first | (exfalso; omega) | (rcases ho with q | q | q | q | q | q | q | q | q <;> subst q <;> decide)
end LEAP
