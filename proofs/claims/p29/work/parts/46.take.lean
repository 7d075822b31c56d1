/-! One pond taken over by another; a pond made empty. -/
theorem tvc0 {n : Nat} {f g : Nat → Int32} {N : Int} {K : Nat → (Nat → Int32) → Option ri_R} (hN : N = n) (h : n < 100000) : tv_c (some (.inl (0, n, f))) (some (.inl (0, n, g))) (Int32.ofInt 0) (Int32.ofInt 0) (Int32.ofInt N) K = K n (va_cpy f g 0 0 n) := by
  subst hN
  unfold tv_c
  have e0 : (Int32.ofInt 0).toNatClampNeg = 0 := by decide
  have en : (Int32.ofInt (n : Int)).toNatClampNeg = n := by rw [na_nat (by omega) (by omega)]; omega
  rw [e0, en]
  show (if ¬ Int32.ofInt 0 < 0 ∧ ¬ Int32.ofInt 0 < 0 ∧ ¬ Int32.ofInt (n : Int) < 0 ∧ 0 + n ≤ n ∧ 0 + n ≤ n then K n (va_cpy f g 0 0 n) else none) = _
  rw [if_pos]
  refine ⟨by decide, by decide, ?_, by omega, by omega⟩
  rw [na_l0, na_lt (by omega) (by omega) (by omega) (by omega)]
  omega
theorem cp_of {n : Nat} {F G : mr_R} (h : ∀ j : Nat, n ≤ j → F j = G j) : va_cpy (mr_ar F) (mr_ar G) 0 0 n = mr_ar F := by
  funext j
  unfold va_cpy mr_ar
  by_cases q : j < n
  · rw [if_pos ⟨by omega, by omega⟩, show 0 + (j - 0) = j by omega]
  · rw [if_neg (by omega), h j (by omega)]
section CPY
variable {R Z R2 Z2 : mr_R}
theorem cp_w {k : Int} (h : R 0 ≤ 3) (h2 : R2 0 ≤ 3) : va_cpy (mr_ar (mp_w R2 Z2 k)) (mr_ar (mp_w R Z k)) 0 0 3 = mr_ar (mp_w R2 Z2 k) := cp_of fun j hj => by
  unfold mp_w
  rw [if_neg (by omega), if_neg (by omega), if_neg (by omega), if_neg (by omega)]
theorem cp_y (h : R 0 ≤ 3) (h2 : R2 0 ≤ 3) : va_cpy (mr_ar (mp_y R2 Z2)) (mr_ar (mp_y R Z)) 0 0 15 = mr_ar (mp_y R2 Z2) := cp_of fun j hj => by
  unfold mp_y
  rw [if_neg (by omega), if_neg (by omega), if_neg (by omega), if_neg (by omega)]
theorem cp_l {k : Int} (h : R 1 ≤ 8) (h2 : R2 1 ≤ 8) : va_cpy (mr_ar (mp_l R2 Z2 k)) (mr_ar (mp_l R Z k)) 0 0 8 = mr_ar (mp_l R2 Z2 k) := cp_of fun j hj => by
  unfold mp_l
  rw [if_neg (by omega), if_neg (by omega), if_neg (by omega), if_neg (by omega)]
theorem cp_f {k : Int} (h : R 2 ≤ 5) (h2 : R2 2 ≤ 5) : va_cpy (mr_ar (mp_f R2 Z2 k)) (mr_ar (mp_f R Z k)) 0 0 5 = mr_ar (mp_f R2 Z2 k) := cp_of fun j hj => by
  unfold mp_f
  rw [if_neg (by omega), if_neg (by omega), if_neg (by omega), if_neg (by omega)]
end CPY
theorem mp_eq {B : Nat} {R Z : mr_R} {σ s : ri_S} (h2 : s.2 = σ.2) (h : ∀ o, o < 17 → s.1 (B + o) = mp_c B R Z o) (h3 : ∀ q, ¬ (B ≤ q ∧ q < B + 17) → s.1 q = σ.1 q) : s = mp B R Z σ := by
  obtain ⟨f, z⟩ := s
  obtain rfl : z = σ.2 := h2
  refine congrArg (·, σ.2) (funext fun q => ?_)
  show f q = (if B ≤ q ∧ q < B + 17 then mp_c B R Z (q - B) else σ.1 q)
  by_cases b : B ≤ q ∧ q < B + 17
  · rw [if_pos b, ← h (q - B) (by omega)]
    show f q = f (B + (q - B))
    rw [show B + (q - B) = q by omega]
  · rw [if_neg b]; exact h3 q b
section CP
variable {B B2 : Nat} {R Z R2 Z2 : mr_R} {σ : ri_S}
/-- a pond stands at B2 -/
def mp_has (B2 : Nat) (R2 Z2 : mr_R) (σ : ri_S) : Prop := ∀ o, o < 17 → σ.1 (B2 + o) = mp_c B2 R2 Z2 o
set_option maxRecDepth 8000 in
theorem c22 (h : mp_has B2 R2 Z2 σ) (ha : B2 + 17 ≤ B ∨ B + 17 ≤ B2) (hr : R 0 ≤ 3 ∧ R 1 ≤ 8 ∧ R 2 ≤ 5) (hr2 : R2 0 ≤ 3 ∧ R2 1 ≤ 8 ∧ R2 2 ≤ 5) : cal 22 [.ref B, .ref B2] (mp B R Z σ) = some (none, mp B R2 Z2 σ) := by
  have x0 : σ.1 (B2) = _ := h 0 (by decide)
  have x1 : σ.1 (B2 + 1) = _ := h 1 (by decide)
  have x2 : σ.1 (B2 + 2) = _ := h 2 (by decide)
  have x3 : σ.1 (B2 + 3) = _ := h 3 (by decide)
  have x4 : σ.1 (B2 + 4) = _ := h 4 (by decide)
  have x5 : σ.1 (B2 + 5) = _ := h 5 (by decide)
  have x6 : σ.1 (B2 + 6) = _ := h 6 (by decide)
  have x7 : σ.1 (B2 + 7) = _ := h 7 (by decide)
  have x8 : σ.1 (B2 + 8) = _ := h 8 (by decide)
  have x9 : σ.1 (B2 + 9) = _ := h 9 (by decide)
  have x10 : σ.1 (B2 + 10) = _ := h 10 (by decide)
  have x11 : σ.1 (B2 + 11) = _ := h 11 (by decide)
  have x12 : σ.1 (B2 + 12) = _ := h 12 (by decide)
  have x13 : σ.1 (B2 + 13) = _ := h 13 (by decide)
  have x14 : σ.1 (B2 + 14) = _ := h 14 (by decide)
  have x15 : σ.1 (B2 + 15) = _ := h 15 (by decide)
  have x16 : σ.1 (B2 + 16) = _ := h 16 (by decide)
  simp only [mp_c] at x0 x1 x2 x3 x4 x5 x6 x7 x8 x9 x10 x11 x12 x13 x14 x15 x16
  have a1 := cp_w (Z := Z) (Z2 := Z2) (k := 0) hr.1 hr2.1
  have a2 := cp_w (Z := Z) (Z2 := Z2) (k := 1) hr.1 hr2.1
  have a3 := cp_w (Z := Z) (Z2 := Z2) (k := 2) hr.1 hr2.1
  have a4 := cp_w (Z := Z) (Z2 := Z2) (k := 3) hr.1 hr2.1
  have a5 := cp_w (Z := Z) (Z2 := Z2) (k := 4) hr.1 hr2.1
  have a6 := cp_y (Z := Z) (Z2 := Z2) hr.1 hr2.1
  have a7 := cp_l (Z := Z) (Z2 := Z2) (k := 0) hr.2.1 hr2.2.1
  have a8 := cp_l (Z := Z) (Z2 := Z2) (k := 2) hr.2.1 hr2.2.1
  have b0 := cp_f (Z := Z) (Z2 := Z2) (k := 0) hr.2.2 hr2.2.2
  have b1 := cp_f (Z := Z) (Z2 := Z2) (k := 1) hr.2.2 hr2.2.2
  have b2 := cp_f (Z := Z) (Z2 := Z2) (k := 2) hr.2.2 hr2.2.2
  have b3 := cp_f (Z := Z) (Z2 := Z2) (k := 3) hr.2.2 hr2.2.2
  have b4 := cp_f (Z := Z) (Z2 := Z2) (k := 4) hr.2.2 hr2.2.2
  rw [E_22]
  simp (disch := omega) only [Int.reduceAdd, Int.reduceMul, Int.reduceSub, Int.reduceNeg, na_add, na_sub, na_mul, na_neg, na_lt, na_le, na_eq, na_ofNat, bo_some, tl_some, tl_none, rc_int, rc_ref, rc_null, rc_none, rc_long, tb_0, tb_1, ↓mr_g0, mr_r0, mr_get, mr_upd, mr_at, mr_wr, Classical.not_not, not_true_eq_false, not_false_eq_true, na_l0, na_l1, na_l2, na_l3, na_l4, na_l5, na_l6, na_l7, na_l8, na_l9, na_l10, na_l14, na_l15, na_l16, na_l25, na_l30, na_l31, na_l32, na_l33, na_l39, na_l43, na_l45, na_l48, na_l49, na_l50, na_l51, na_l52, na_l53, na_l55, na_l56, na_l57, na_l60, na_l64, na_l71, na_l80, na_l96, na_l100, na_l101, na_l102, na_l103, na_l104, na_l105, na_l106, na_l107, na_l108, na_l109, na_l110, na_l111, na_l112, na_l113, na_l114, na_l115, na_l116, na_l117, na_l118, na_l119, na_l120, na_l121, na_l125, na_l128, na_l150, na_l192, na_l255, na_l999, na_l1000, na_l1248, na_l1344, na_l1875, na_l10000, ↓reduceIte, pf_and, pe_le, pf_le, pe_lt, pf_lt, pe_eq, pf_eq, true_and, and_true, false_and, and_false, true_or, or_true, false_or, or_false, I_22, E_107, I_107, E_19, I_19, E_6, I_6, E_142, I_142, ru_eq, ru_ne, mp_off, x0, x1, x2, x3, x4, x5, x6, x7, x8, x9, x10, x11, x12, x13, x14, x15, x16, mpx_0, mpx_1, mpx_2, mpx_3, mpx_4, mpx_5, mpx_6, mpx_7, mpx_8, mpx_9, mpx_10, mpx_11, mpx_12, mpx_13, mpx_14, mpx_15, mpx_16, tvo_3_0, tvo_3_1, tvo_3_2, tvo_3_3, tvo_3_4, tvo_3_5, tvo_3_6, tvo_3_7, tvo_3_8, tvo_7_0, tvo_7_1, tvo_7_2, tvo_7_3, tvo_7_4, tvo_7_5, tvo_7_6, tvo_2_0, tvo_2_1, tvo_2_2, tvo_0_0, tvo_0_1, tvo_0_2, tvo_0_3, tvo_0_4, tvo_0_5, tvw_3_0, tvw_3_1, tvw_3_2, tvw_3_3, tvw_3_4, tvw_3_5, tvw_3_6, tvw_3_7, tvw_3_8, tvw_7_0, tvw_7_1, tvw_7_2, tvw_7_3, tvw_7_4, tvw_7_5, tvw_7_6, tvw_2_0, tvw_2_1, tvw_2_2, tvw_0_0, tvw_0_1, tvw_0_2, tvw_0_3, tvw_0_4, tvw_0_5, tv_k0, tv_n0, tvc0, a1, a2, a3, a4, a5, a6, a7, a8, b0, b1, b2, b3, b4]
  refine congrArg (fun s => some ((none : Option Value), s)) (mp_eq rfl ?_ ?_)
  · intro o ho
    match o with
    | 0 => simp (disch := omega) only [ru_eq, ru_ne, mp_c, Nat.add_zero]
    | 1 => simp (disch := omega) only [ru_eq, ru_ne, mp_c, Nat.add_zero]
    | 2 => simp (disch := omega) only [ru_eq, ru_ne, mp_c, Nat.add_zero]
    | 3 => simp (disch := omega) only [ru_eq, ru_ne, mp_c, Nat.add_zero]
    | 4 => simp (disch := omega) only [ru_eq, ru_ne, mp_c, Nat.add_zero]
    | 5 => simp (disch := omega) only [ru_eq, ru_ne, mp_c, Nat.add_zero]
    | 6 => simp (disch := omega) only [ru_eq, ru_ne, mp_c, Nat.add_zero]
    | 7 => simp (disch := omega) only [ru_eq, ru_ne, mp_c, Nat.add_zero]
    | 8 => simp (disch := omega) only [ru_eq, ru_ne, mp_c, Nat.add_zero]
    | 9 => simp (disch := omega) only [ru_eq, ru_ne, mp_c, Nat.add_zero]
    | 10 => simp (disch := omega) only [ru_eq, ru_ne, mp_c, Nat.add_zero]
    | 11 => simp (disch := omega) only [ru_eq, ru_ne, mp_c, Nat.add_zero]
    | 12 => simp (disch := omega) only [ru_eq, ru_ne, mp_c, Nat.add_zero]
    | 13 => simp (disch := omega) only [ru_eq, ru_ne, mp_c, Nat.add_zero]
    | 14 => simp (disch := omega) only [ru_eq, ru_ne, mp_c, Nat.add_zero]
    | 15 => simp (disch := omega) only [ru_eq, ru_ne, mp_c, Nat.add_zero]
    | 16 => simp (disch := omega) only [ru_eq, ru_ne, mp_c, Nat.add_zero]
    | n + 17 => omega
  · intro q hq
    simp (disch := omega) only [ru_ne, mp_off]
/-- an empty row, and what the rest holds then -/
def mp_0 (R Z : mr_R) : mr_R := fun i => if 9 ≤ i ∧ i < 39 then (if (i - 9) / 10 < R 0 then R i else Z i) else if 39 ≤ i ∧ i < 71 then (if (i - 39) / 4 < R 1 then R i else Z i) else if (i - 71) / 5 < R 2 then R i else Z i
theorem c21 (hr : 0 ≤ R 0 ∧ R 0 ≤ 3 ∧ 0 ≤ R 1 ∧ R 1 ≤ 8 ∧ 0 ≤ R 2 ∧ R 2 ≤ 5) : cal 21 [.ref B] (mp B R Z σ) = some (none, mp B (fun _ => 0) (mp_0 R Z) σ) := by
  rw [E_21]
  simp (disch := omega) only [Int.reduceAdd, Int.reduceMul, Int.reduceSub, Int.reduceNeg, na_add, na_sub, na_mul, na_neg, na_lt, na_le, na_eq, na_ofNat, bo_some, tl_some, tl_none, rc_int, rc_ref, rc_null, rc_none, rc_long, tb_0, tb_1, ↓mr_g0, mr_r0, mr_get, mr_upd, mr_at, mr_wr, Classical.not_not, not_true_eq_false, not_false_eq_true, na_l0, na_l1, na_l2, na_l3, na_l4, na_l5, na_l6, na_l7, na_l8, na_l9, na_l10, na_l14, na_l15, na_l16, na_l25, na_l30, na_l31, na_l32, na_l33, na_l39, na_l43, na_l45, na_l48, na_l49, na_l50, na_l51, na_l52, na_l53, na_l55, na_l56, na_l57, na_l60, na_l64, na_l71, na_l80, na_l96, na_l100, na_l101, na_l102, na_l103, na_l104, na_l105, na_l106, na_l107, na_l108, na_l109, na_l110, na_l111, na_l112, na_l113, na_l114, na_l115, na_l116, na_l117, na_l118, na_l119, na_l120, na_l121, na_l125, na_l128, na_l150, na_l192, na_l255, na_l999, na_l1000, na_l1248, na_l1344, na_l1875, na_l10000, ↓reduceIte, pf_and, pe_le, pf_le, pe_lt, pf_lt, pe_eq, pf_eq, true_and, and_true, false_and, and_false, true_or, or_true, false_or, or_false, I_21, ru_eq, ru_ne, mpx_0, mpx_1, mpx_2, mpx_3, mpx_4, mpx_5, mpx_6, mpx_7, mpx_8, mpx_9, mpx_10, mpx_11, mpx_12, mpx_13, mpx_14, mpx_15, mpx_16, tvo_3_0, tvo_3_1, tvo_3_2, tvo_3_3, tvo_3_4, tvo_3_5, tvo_3_6, tvo_3_7, tvo_3_8, tvo_7_0, tvo_7_1, tvo_7_2, tvo_7_3, tvo_7_4, tvo_7_5, tvo_7_6, tvo_2_0, tvo_2_1, tvo_2_2, tvo_0_0, tvo_0_1, tvo_0_2, tvo_0_3, tvo_0_4, tvo_0_5, tvw_3_0, tvw_3_1, tvw_3_2, tvw_3_3, tvw_3_4, tvw_3_5, tvw_3_6, tvw_3_7, tvw_3_8, tvw_7_0, tvw_7_1, tvw_7_2, tvw_7_3, tvw_7_4, tvw_7_5, tvw_7_6, tvw_2_0, tvw_2_1, tvw_2_2, tvw_0_0, tvw_0_1, tvw_0_2, tvw_0_3, tvw_0_4, tvw_0_5]
  refine congrArg (fun s => some ((none : Option Value), s)) (mp_eq rfl ?_ ?_)
  · intro o ho
    match o with
    | 0 => simp (disch := omega) only [ru_eq, ru_ne, mp_c, Nat.add_zero, mpx_0, Int.reduceSub, Int.reduceNeg]
    | 1 => simp (disch := omega) only [ru_eq, ru_ne, mp_c, Nat.add_zero, mpx_1, Int.reduceSub, Int.reduceNeg]
    | 2 =>
      simp (disch := omega) only [ru_eq, ru_ne, mp_c, mpx_2]
      refine congrArg (fun f => (some (Sum.inl (0, 3, f)) : Option ri_El)) (funext fun j => ?_)
      unfold mr_ar mp_w mp_0
      refine congrArg Int32.ofInt ?_
      dsimp only
      repeat' split
      all_goals first | rfl | omega
    | 3 =>
      simp (disch := omega) only [ru_eq, ru_ne, mp_c, mpx_3]
      refine congrArg (fun f => (some (Sum.inl (0, 3, f)) : Option ri_El)) (funext fun j => ?_)
      unfold mr_ar mp_w mp_0
      refine congrArg Int32.ofInt ?_
      dsimp only
      repeat' split
      all_goals first | rfl | omega
    | 4 =>
      simp (disch := omega) only [ru_eq, ru_ne, mp_c, mpx_4]
      refine congrArg (fun f => (some (Sum.inl (0, 3, f)) : Option ri_El)) (funext fun j => ?_)
      unfold mr_ar mp_w mp_0
      refine congrArg Int32.ofInt ?_
      dsimp only
      repeat' split
      all_goals first | rfl | omega
    | 5 =>
      simp (disch := omega) only [ru_eq, ru_ne, mp_c, mpx_5]
      refine congrArg (fun f => (some (Sum.inl (0, 3, f)) : Option ri_El)) (funext fun j => ?_)
      unfold mr_ar mp_w mp_0
      refine congrArg Int32.ofInt ?_
      dsimp only
      repeat' split
      all_goals first | rfl | omega
    | 6 =>
      simp (disch := omega) only [ru_eq, ru_ne, mp_c, mpx_6]
      refine congrArg (fun f => (some (Sum.inl (0, 3, f)) : Option ri_El)) (funext fun j => ?_)
      unfold mr_ar mp_w mp_0
      refine congrArg Int32.ofInt ?_
      dsimp only
      repeat' split
      all_goals first | rfl | omega
    | 7 =>
      simp (disch := omega) only [ru_eq, ru_ne, mp_c, mpx_7]
      refine congrArg (fun f => (some (Sum.inl (0, 15, f)) : Option ri_El)) (funext fun j => ?_)
      unfold mr_ar mp_y mp_0
      refine congrArg Int32.ofInt ?_
      dsimp only
      repeat' split
      all_goals first | rfl | omega
    | 8 => simp (disch := omega) only [ru_eq, ru_ne, mp_c, Nat.add_zero, mpx_8, Int.reduceSub, Int.reduceNeg]
    | 9 =>
      simp (disch := omega) only [ru_eq, ru_ne, mp_c, mpx_9]
      refine congrArg (fun f => (some (Sum.inl (0, 8, f)) : Option ri_El)) (funext fun j => ?_)
      unfold mr_ar mp_l mp_0
      refine congrArg Int32.ofInt ?_
      dsimp only
      repeat' split
      all_goals first | rfl | omega
    | 10 =>
      simp (disch := omega) only [ru_eq, ru_ne, mp_c, mpx_10]
      refine congrArg (fun f => (some (Sum.inl (0, 8, f)) : Option ri_El)) (funext fun j => ?_)
      unfold mr_ar mp_l mp_0
      refine congrArg Int32.ofInt ?_
      dsimp only
      repeat' split
      all_goals first | rfl | omega
    | 11 => simp (disch := omega) only [ru_eq, ru_ne, mp_c, Nat.add_zero, mpx_11, Int.reduceSub, Int.reduceNeg]
    | 12 =>
      simp (disch := omega) only [ru_eq, ru_ne, mp_c, mpx_12]
      refine congrArg (fun f => (some (Sum.inl (0, 5, f)) : Option ri_El)) (funext fun j => ?_)
      unfold mr_ar mp_f mp_0
      refine congrArg Int32.ofInt ?_
      dsimp only
      repeat' split
      all_goals first | rfl | omega
    | 13 =>
      simp (disch := omega) only [ru_eq, ru_ne, mp_c, mpx_13]
      refine congrArg (fun f => (some (Sum.inl (0, 5, f)) : Option ri_El)) (funext fun j => ?_)
      unfold mr_ar mp_f mp_0
      refine congrArg Int32.ofInt ?_
      dsimp only
      repeat' split
      all_goals first | rfl | omega
    | 14 =>
      simp (disch := omega) only [ru_eq, ru_ne, mp_c, mpx_14]
      refine congrArg (fun f => (some (Sum.inl (0, 5, f)) : Option ri_El)) (funext fun j => ?_)
      unfold mr_ar mp_f mp_0
      refine congrArg Int32.ofInt ?_
      dsimp only
      repeat' split
      all_goals first | rfl | omega
    | 15 =>
      simp (disch := omega) only [ru_eq, ru_ne, mp_c, mpx_15]
      refine congrArg (fun f => (some (Sum.inl (0, 5, f)) : Option ri_El)) (funext fun j => ?_)
      unfold mr_ar mp_f mp_0
      refine congrArg Int32.ofInt ?_
      dsimp only
      repeat' split
      all_goals first | rfl | omega
    | 16 =>
      simp (disch := omega) only [ru_eq, ru_ne, mp_c, mpx_16]
      refine congrArg (fun f => (some (Sum.inl (0, 5, f)) : Option ri_El)) (funext fun j => ?_)
      unfold mr_ar mp_f mp_0
      refine congrArg Int32.ofInt ?_
      dsimp only
      repeat' split
      all_goals first | rfl | omega
    | n + 17 => omega
  · intro q hq
    simp (disch := omega) only [ru_ne, mp_off]
end CP
