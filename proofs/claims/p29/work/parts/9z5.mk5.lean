/-! What a new LilyWheels holds: all of it. -/
section MK
variable {C : Nat} {f : Nat → Option ri_El}
set_option maxRecDepth 8000 in
theorem k108f (h : f C = some (.inr (.inr (8, [.ref (C + 1), .ref (C + 3), .ref (C + 20), .ref (C + 37), .ref (C + 277), .null])))) : ∃ g, ev 108 (59, [some (.ref C)], []) (f, C + 314) = some (none, (g, C + 324)) ∧ g C = some (.inr (.inr (8, [.ref (C + 1), .ref (C + 3), .ref (C + 20), .ref (C + 37), .ref (C + 277), .ref (C + 314)]))) ∧ g (C + 314) = some (.inr (.inr (4, [.ref (C + 315), .ref (C + 316), .ref (C + 317), .ref (C + 318), .ref (C + 319), .ref (C + 320), .ref (C + 321), .ref (C + 322), .ref (C + 323), .int (Int32.ofInt 0)]))) ∧ g (C + 315) = some (.inl (0, 15, fun _ => Int32.ofInt 0)) ∧ g (C + 316) = some (.inl (0, 15, fun _ => Int32.ofInt 0)) ∧ g (C + 317) = some (.inl (0, 15, fun _ => Int32.ofInt 0)) ∧ g (C + 318) = some (.inl (0, 1875, fun _ => Int32.ofInt 0)) ∧ g (C + 319) = some (.inl (0, 150, fun _ => Int32.ofInt 0)) ∧ g (C + 320) = some (.inl (0, 15, fun _ => Int32.ofInt 0)) ∧ g (C + 321) = some (.inl (0, 1875, fun _ => Int32.ofInt 0)) ∧ g (C + 322) = some (.inl (0, 1875, fun _ => Int32.ofInt 0)) ∧ g (C + 323) = some (.inl (0, 15, fun _ => Int32.ofInt 0)) ∧ ∀ q, ¬ q = C → q < C + 314 ∨ C + 324 ≤ q → g q = f q := by
  obtain ⟨a0, a1, a4, a5, a8, a9, a12, b15, b16, b19, b20, b23, c26, c27, c30, c31, c34, d37, d38, d41, d42, d45, e48, e49, e52, e53, e56, f59, f60, f63, f64, f67, g70⟩ := I_108
  refine ⟨ri_upd (ri_upd (ri_upd (ri_upd (ri_upd (ri_upd (ri_upd (ri_upd (ri_upd (ri_upd (ri_upd (ri_upd (ri_upd (ri_upd (ri_upd (ri_upd (ri_upd (ri_upd (ri_upd (ri_upd (ri_upd f (C + 314) (.inr (.inr (4, [.null, .null, .null, .null, .null, .null, .null, .null, .null, .int (Int32.ofInt 0)])))) (C + 315) (.inl (0, 15, fun _ => Int32.ofInt 0))) (C + 314) (.inr (.inr (4, [.ref (C + 315), .null, .null, .null, .null, .null, .null, .null, .null, .int (Int32.ofInt 0)])))) (C + 316) (.inl (0, 15, fun _ => Int32.ofInt 0))) (C + 314) (.inr (.inr (4, [.ref (C + 315), .ref (C + 316), .null, .null, .null, .null, .null, .null, .null, .int (Int32.ofInt 0)])))) (C + 317) (.inl (0, 15, fun _ => Int32.ofInt 0))) (C + 314) (.inr (.inr (4, [.ref (C + 315), .ref (C + 316), .ref (C + 317), .null, .null, .null, .null, .null, .null, .int (Int32.ofInt 0)])))) (C + 318) (.inl (0, 1875, fun _ => Int32.ofInt 0))) (C + 314) (.inr (.inr (4, [.ref (C + 315), .ref (C + 316), .ref (C + 317), .ref (C + 318), .null, .null, .null, .null, .null, .int (Int32.ofInt 0)])))) (C + 319) (.inl (0, 150, fun _ => Int32.ofInt 0))) (C + 314) (.inr (.inr (4, [.ref (C + 315), .ref (C + 316), .ref (C + 317), .ref (C + 318), .ref (C + 319), .null, .null, .null, .null, .int (Int32.ofInt 0)])))) (C + 320) (.inl (0, 15, fun _ => Int32.ofInt 0))) (C + 314) (.inr (.inr (4, [.ref (C + 315), .ref (C + 316), .ref (C + 317), .ref (C + 318), .ref (C + 319), .ref (C + 320), .null, .null, .null, .int (Int32.ofInt 0)])))) (C + 321) (.inl (0, 1875, fun _ => Int32.ofInt 0))) (C + 314) (.inr (.inr (4, [.ref (C + 315), .ref (C + 316), .ref (C + 317), .ref (C + 318), .ref (C + 319), .ref (C + 320), .ref (C + 321), .null, .null, .int (Int32.ofInt 0)])))) (C + 322) (.inl (0, 1875, fun _ => Int32.ofInt 0))) (C + 314) (.inr (.inr (4, [.ref (C + 315), .ref (C + 316), .ref (C + 317), .ref (C + 318), .ref (C + 319), .ref (C + 320), .ref (C + 321), .ref (C + 322), .null, .int (Int32.ofInt 0)])))) (C + 323) (.inl (0, 15, fun _ => Int32.ofInt 0))) (C + 314) (.inr (.inr (4, [.ref (C + 315), .ref (C + 316), .ref (C + 317), .ref (C + 318), .ref (C + 319), .ref (C + 320), .ref (C + 321), .ref (C + 322), .ref (C + 323), .int (Int32.ofInt 0)])))) (C + 314) (.inr (.inr (4, [.ref (C + 315), .ref (C + 316), .ref (C + 317), .ref (C + 318), .ref (C + 319), .ref (C + 320), .ref (C + 321), .ref (C + 322), .ref (C + 323), .int (Int32.ofInt 0)])))) C (.inr (.inr (8, [.ref (C + 1), .ref (C + 3), .ref (C + 20), .ref (C + 37), .ref (C + 277), .ref (C + 314)]))), ?_, ru_eq, ?_, ?_, ?_, ?_, ?_, ?_, ?_, ?_, ?_, ?_, ?_⟩
  · simp (disch := omega) only [Int.reduceAdd, Int.reduceMul, Int.reduceSub, Int.reduceNeg, na_add, na_sub, na_mul, na_neg, na_lt, na_le, na_eq, na_ofNat, bo_some, tl_some, tl_none, rc_int, rc_ref, rc_null, rc_none, rc_long, tb_0, tb_1, ↓mr_g0, mr_r0, mr_get, mr_upd, mr_at, mr_wr, Classical.not_not, not_true_eq_false, not_false_eq_true, na_l0, na_l1, na_l2, na_l3, na_l4, na_l5, na_l6, na_l7, na_l8, na_l9, na_l10, na_l14, na_l15, na_l16, na_l25, na_l30, na_l31, na_l32, na_l33, na_l39, na_l43, na_l45, na_l48, na_l49, na_l50, na_l51, na_l52, na_l53, na_l55, na_l56, na_l57, na_l60, na_l64, na_l71, na_l80, na_l96, na_l100, na_l101, na_l102, na_l103, na_l104, na_l105, na_l106, na_l107, na_l108, na_l109, na_l110, na_l111, na_l112, na_l113, na_l114, na_l115, na_l116, na_l117, na_l118, na_l119, na_l120, na_l121, na_l125, na_l128, na_l150, na_l192, na_l255, na_l999, na_l1000, na_l1248, na_l1344, na_l1875, na_l10000, ↓reduceIte, pf_and, pe_le, pf_le, pe_lt, pf_lt, pe_eq, pf_eq, true_and, and_true, false_and, and_false, true_or, or_true, false_or, or_false, f59, f60, f63, f64, f67, g70, E_56, I_56_0, I_56_1, h, ru_eq, ru_ne, tv_k0, tvw_4_0, tvw_4_1, tvw_4_2, tvw_4_3, tvw_4_4, tvw_4_5, tvw_4_6, tvw_4_7, tvw_4_8, tvw_4_9, tvw_8_5, nc_15, nc_150, nc_1875, Nat.reduceLT, Nat.add_assoc, Nat.reduceAdd]
  · simp (disch := omega) only [ru_eq, ru_ne]
  · simp (disch := omega) only [ru_eq, ru_ne]
  · simp (disch := omega) only [ru_eq, ru_ne]
  · simp (disch := omega) only [ru_eq, ru_ne]
  · simp (disch := omega) only [ru_eq, ru_ne]
  · simp (disch := omega) only [ru_eq, ru_ne]
  · simp (disch := omega) only [ru_eq, ru_ne]
  · simp (disch := omega) only [ru_eq, ru_ne]
  · simp (disch := omega) only [ru_eq, ru_ne]
  · simp (disch := omega) only [ru_eq, ru_ne]
  · intro q q1 q2
    simp (disch := omega) only [ru_ne]
theorem c108 (h : f C = some (.inr (.inr (8, [.null, .null, .null, .null, .null, .null])))) : cal 108 [.ref C] (f, C + 1) = some (none, cs C m0 (fun _ => m0) (fun _ => m0) (fun _ => m0) (f, C + 324)) := by
  obtain ⟨g1, a1, a2, a3, a4, a5⟩ := k108a h
  obtain ⟨g2, b1, b2, b3, b4⟩ := k108b a2
  obtain ⟨g3, c1, c2, c3, c4⟩ := k108c b2
  obtain ⟨g4, d1, d2, d3, d4, d5, d6⟩ := k108d c2
  obtain ⟨g5, e1, e2, e3, e4, e5, e6, e7⟩ := k108e d2
  obtain ⟨g6, f1, f2, f3, f4, f5, f6, f7, f8, f9, f10, f11, f12, f13⟩ := k108f e2
  rw [a1, b1, c1, d1, e1, f1]
  refine congrArg (fun s => some ((none : Option Value), s)) (cs_eq rfl ?_ ?_)
  · intro o ho
    show g6 (C + o) = cs_c C m0 (fun _ => m0) (fun _ => m0) (fun _ => m0) o
    unfold cs_c
    have up5 : ∀ q, ¬ q = C → q < C + 314 → g6 q = g5 q := fun q q1 q2 => f13 q q1 (by omega)
    have up4 : ∀ q, ¬ q = C → q < C + 277 → g6 q = g4 q := fun q q1 q2 => by rw [up5 q q1 (by omega)]; exact e7 q q1 (by omega)
    have up3 : ∀ q, ¬ q = C → q < C + 37 → g6 q = g3 q := fun q q1 q2 => by rw [up4 q q1 (by omega)]; exact d6 q q1 (by omega)
    have up2 : ∀ q, ¬ q = C → q < C + 20 → g6 q = g2 q := fun q q1 q2 => by rw [up3 q q1 (by omega)]; exact c4 q q1 (by omega)
    have up1 : ∀ q, ¬ q = C → q < C + 3 → g6 q = g1 q := fun q q1 q2 => by rw [up2 q q1 (by omega)]; exact b4 q q1 (by omega)
    by_cases r0 : o < 3
    · have ei : cs_i o = 18 := by unfold cs_i; rw [if_pos r0]
      rw [if_pos ei]
      match o, r0 with
      | 0, _ => exact f2
      | 1, _ => rw [up1 _ (by omega) (by omega)]; exact a3
      | 2, _ => rw [up1 _ (by omega) (by omega)]; exact a4
      | n + 3, r0 => omega
    by_cases r1 : o < 20
    · have ei : cs_i o = 0 := by unfold cs_i; rw [if_neg r0, if_pos r1]
      rw [if_neg (by omega), ei, cs_b0, up2 _ (by omega) (by omega), show C + o - (C + 3) = o - 3 by omega, show C + o = C + 3 + (o - 3) by omega]
      exact b3 _ (by omega)
    by_cases r2 : o < 37
    · have ei : cs_i o = 1 := by unfold cs_i; rw [if_neg r0, if_neg r1, if_pos r2]
      rw [if_neg (by omega), ei, cs_b1, up3 _ (by omega) (by omega), show C + o - (C + 20) = o - 20 by omega, show C + o = C + 20 + (o - 20) by omega]
      exact c3 _ (by omega)
    by_cases r3 : o < 39
    · have ei : cs_i o = 18 := by unfold cs_i; rw [if_neg r0, if_neg r1, if_neg r2, if_pos r3]
      rw [if_pos ei, up4 _ (by omega) (by omega)]
      have e : o = 37 ∨ o = 38 := by omega
      rcases e with rfl | rfl
      · exact d3
      · exact d4
    by_cases r4 : o < 277
    · have ei : cs_i o = (o - 39) / 17 + 2 := by unfold cs_i; rw [if_neg r0, if_neg r1, if_neg r2, if_neg r3, if_pos r4]
      rw [if_neg (by omega), ei, cs_br (by omega), up4 _ (by omega) (by omega), show C + o - (C + 39 + 17 * ((o - 39) / 17)) = (o - 39) % 17 by omega, show C + o = C + 39 + 17 * ((o - 39) / 17) + (o - 39) % 17 by omega]
      exact d5 _ _ (by omega) (by omega)
    by_cases r5 : o < 280
    · have ei : cs_i o = 18 := by unfold cs_i; rw [if_neg r0, if_neg r1, if_neg r2, if_neg r3, if_neg r4, if_pos r5]
      rw [if_pos ei, up5 _ (by omega) (by omega)]
      have e : o = 277 ∨ o = 278 ∨ o = 279 := by omega
      rcases e with rfl | rfl | rfl
      · exact e3
      · exact e4
      · exact e5
    by_cases r6 : o < 314
    · have ei : cs_i o = (o - 280) / 17 + 16 := by unfold cs_i; rw [if_neg r0, if_neg r1, if_neg r2, if_neg r3, if_neg r4, if_neg r5, if_pos r6]
      rw [if_neg (by omega), ei, cs_bs, up5 _ (by omega) (by omega), show C + o - (C + 280 + 17 * ((o - 280) / 17)) = (o - 280) % 17 by omega, show C + o = C + 280 + 17 * ((o - 280) / 17) + (o - 280) % 17 by omega]
      exact e6 _ _ (by omega) (by omega)
    · have ei : cs_i o = 18 := by unfold cs_i; rw [if_neg r0, if_neg r1, if_neg r2, if_neg r3, if_neg r4, if_neg r5, if_neg r6]
      rw [if_pos ei]
      have e : o = 314 ∨ o = 315 ∨ o = 316 ∨ o = 317 ∨ o = 318 ∨ o = 319 ∨ o = 320 ∨ o = 321 ∨ o = 322 ∨ o = 323 := by omega
      rcases e with rfl | rfl | rfl | rfl | rfl | rfl | rfl | rfl | rfl | rfl
      · exact f3
      · exact f4
      · exact f5
      · exact f6
      · exact f7
      · exact f8
      · exact f9
      · exact f10
      · exact f11
      · exact f12
  · intro q hq
    show g6 q = f q
    rw [f13 q (by omega) (by omega), e7 q (by omega) (by omega), d6 q (by omega) (by omega), c4 q (by omega) (by omega), b4 q (by omega) (by omega), a5 q (by omega)]
end MK
