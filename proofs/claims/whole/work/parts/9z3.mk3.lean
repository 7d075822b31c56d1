/-! What a new model holds. -/
theorem mm_eq {M : Nat} {S : mr_R} {A : Nat → mr_R} {σ s : ri_S} (h2 : s.2 = σ.2) (h : ∀ o, o < 9 → s.1 (M + o) = mm_c M S A o) (h3 : ∀ q, ¬ (M ≤ q ∧ q < M + 9) → s.1 q = σ.1 q) : s = mm M S A σ := by
  obtain ⟨f, z⟩ := s
  obtain rfl : z = σ.2 := h2
  refine congrArg (·, σ.2) (funext fun q => ?_)
  show f q = (if M ≤ q ∧ q < M + 9 then mm_c M S A (q - M) else σ.1 q)
  by_cases b : M ≤ q ∧ q < M + 9
  · rw [if_pos b, ← h (q - M) (by omega)]
    show f q = f (M + (q - M))
    rw [show M + (q - M) = q by omega]
  · rw [if_neg b]; exact h3 q b
theorem m0_cl : mc_cl m0 96 = m0 := by
  funext i
  unfold mc_cl m0
  split <;> rfl
section MK
variable {M : Nat} {f : Nat → Option ri_El}
set_option maxRecDepth 8000 in
theorem c143 (h : f M = some (.inr (.inr (9, [.int (Int32.ofInt 0), .null, .int (Int32.ofInt 0), .null, .null, .null, .int (Int32.ofInt 0), .null, .null, .null, .null, .int (Int32.ofInt 0), .int (Int32.ofInt 0)])))) : cal 143 [.ref M] (f, M + 1) = some (none, mm M m0 (fun _ => m0) (f, M + 9)) := by
  have fin : ∀ s : ri_S, s = mm M m0 (fun _ => m0) (f, M + 9) → ((cal 148 [.ref (M + 2)] s).bind fun q => ev 143 (78, [some (.ref M)], q.1.toList ++ []) q.2) = some (none, mm M m0 (fun _ => m0) (f, M + 9)) := by
    intro s hs
    rw [hs]
    have ec := c148 (a := M + 2) (R := m0) (σ := mm M m0 (fun _ => m0) (f, M + 9))
    rw [show mr_row (M + 2) m0 (mm M m0 (fun _ => m0) (f, M + 9)) = mm M m0 (fun _ => m0) (f, M + 9) from mms_2 (A := fun _ => m0), m0_cl, show mr_row (M + 2) m0 (mm M m0 (fun _ => m0) (f, M + 9)) = mm M m0 (fun _ => m0) (f, M + 9) from mms_2 (A := fun _ => m0)] at ec
    rw [ec]
    obtain ⟨-, r78⟩ : True ∧ ∀ (L : ri_L) (σ : ri_S), ev 143 (78, L, []) σ = some (none, σ) := ⟨trivial, fun L σ => by simp only [I_143]⟩
    exact r78 _ _
  rw [E_143]
  simp (disch := omega) only [Int.reduceAdd, Int.reduceMul, Int.reduceSub, Int.reduceNeg, na_add, na_sub, na_mul, na_neg, na_lt, na_le, na_eq, na_ofNat, bo_some, tl_some, tl_none, rc_int, rc_ref, rc_null, rc_none, rc_long, tb_0, tb_1, ↓mr_g0, mr_r0, mr_get, mr_upd, mr_at, mr_wr, Classical.not_not, not_true_eq_false, not_false_eq_true, na_l0, na_l1, na_l2, na_l3, na_l4, na_l5, na_l6, na_l7, na_l8, na_l9, na_l10, na_l14, na_l15, na_l16, na_l25, na_l30, na_l31, na_l32, na_l33, na_l39, na_l43, na_l45, na_l48, na_l49, na_l50, na_l51, na_l52, na_l53, na_l55, na_l56, na_l57, na_l60, na_l64, na_l71, na_l80, na_l96, na_l100, na_l101, na_l102, na_l103, na_l104, na_l105, na_l106, na_l107, na_l108, na_l109, na_l110, na_l111, na_l112, na_l113, na_l114, na_l115, na_l116, na_l117, na_l118, na_l119, na_l120, na_l121, na_l125, na_l128, na_l150, na_l192, na_l255, na_l999, na_l1000, na_l1248, na_l1344, na_l1875, na_l10000, ↓reduceIte, pf_and, pe_le, pf_le, pe_lt, pf_lt, pe_eq, pf_eq, true_and, and_true, false_and, and_false, true_or, or_true, false_or, or_false, I_143, h, ru_eq, ru_ne, tvw_9_0, tvw_9_1, tvw_9_2, tvw_9_3, tvw_9_4, tvw_9_5, tvw_9_6, tvw_9_7, tvw_9_8, tvw_9_9, tvw_9_10, tvo_9_3, nc_2, nc_96, nc_120, nc_192, nc_1344, nc_1875, Nat.reduceLT, Nat.add_assoc, Nat.reduceAdd]
  refine fin _ (mm_eq rfl ?_ ?_)
  · intro o ho
    match o with
    | 0 => simp (disch := omega) only [ru_eq, ru_ne, mm_c, Nat.add_zero, m0_0, m0_a]
    | 1 => simp (disch := omega) only [ru_eq, ru_ne, mm_c, m0_0, m0_a]
    | 2 => simp (disch := omega) only [ru_eq, ru_ne, mm_c, m0_0, m0_a]
    | 3 => simp (disch := omega) only [ru_eq, ru_ne, mm_c, m0_0, m0_a]
    | 4 => simp (disch := omega) only [ru_eq, ru_ne, mm_c, m0_0, m0_a]
    | 5 => simp (disch := omega) only [ru_eq, ru_ne, mm_c, m0_0, m0_a]
    | 6 => simp (disch := omega) only [ru_eq, ru_ne, mm_c, m0_0, m0_a]
    | 7 => simp (disch := omega) only [ru_eq, ru_ne, mm_c, m0_0, m0_a]
    | 8 => simp (disch := omega) only [ru_eq, ru_ne, mm_c, m0_0, m0_a]
    | n + 9 => omega
  · intro q hq
    simp (disch := omega) only [ru_ne]
end MK
