/-! What a new pond holds. -/
theorem nc_2 : (Int32.ofInt 2).toNatClampNeg = 2 := by decide
theorem nc_3 : (Int32.ofInt 3).toNatClampNeg = 3 := by decide
theorem nc_5 : (Int32.ofInt 5).toNatClampNeg = 5 := by decide
theorem nc_8 : (Int32.ofInt 8).toNatClampNeg = 8 := by decide
theorem nc_14 : (Int32.ofInt 14).toNatClampNeg = 14 := by decide
theorem nc_15 : (Int32.ofInt 15).toNatClampNeg = 15 := by decide
theorem nc_96 : (Int32.ofInt 96).toNatClampNeg = 96 := by decide
theorem nc_120 : (Int32.ofInt 120).toNatClampNeg = 120 := by decide
theorem nc_150 : (Int32.ofInt 150).toNatClampNeg = 150 := by decide
theorem nc_192 : (Int32.ofInt 192).toNatClampNeg = 192 := by decide
theorem nc_1344 : (Int32.ofInt 1344).toNatClampNeg = 1344 := by decide
theorem nc_1875 : (Int32.ofInt 1875).toNatClampNeg = 1875 := by decide
def m0 : mr_R := fun _ => 0
theorem m0_w {k : Int} : mr_ar (mp_w m0 m0 k) = fun _ => Int32.ofInt 0 := by
  funext j
  show Int32.ofInt (mp_w m0 m0 k j) = _
  have e : mp_w m0 m0 k j = 0 := by
    unfold mp_w m0
    split
    · rfl
    · split <;> rfl
  rw [e]
theorem m0_y : mr_ar (mp_y m0 m0) = fun _ => Int32.ofInt 0 := by
  funext j
  show Int32.ofInt (mp_y m0 m0 j) = _
  have e : mp_y m0 m0 j = 0 := by
    unfold mp_y m0
    split
    · rfl
    · split <;> rfl
  rw [e]
theorem m0_l {k : Int} : mr_ar (mp_l m0 m0 k) = fun _ => Int32.ofInt 0 := by
  funext j
  show Int32.ofInt (mp_l m0 m0 k j) = _
  have e : mp_l m0 m0 k j = 0 := by
    unfold mp_l m0
    split
    · rfl
    · split <;> rfl
  rw [e]
theorem m0_f {k : Int} : mr_ar (mp_f m0 m0 k) = fun _ => Int32.ofInt 0 := by
  funext j
  show Int32.ofInt (mp_f m0 m0 k j) = _
  have e : mp_f m0 m0 k j = 0 := by
    unfold mp_f m0
    split
    · rfl
    · split <;> rfl
  rw [e]
theorem m0_a : mr_ar m0 = fun _ => Int32.ofInt 0 := rfl
theorem m0_0 {k : Int} : m0 k = 0 := rfl
section MK
variable {B : Nat} {f : Nat → Option ri_El}
set_option maxRecDepth 8000 in
theorem c20 (h : f B = some (.inr (.inr (3, [.null, .null, .null, .int (Int32.ofInt 0), .int (Int32.ofInt 0), .int (Int32.ofInt 0), .int (Int32.ofInt 0), .int (Int32.ofInt 0), .int (Int32.ofInt 0)])))) : cal 20 [.ref B] (f, B + 1) = some (none, mp B m0 m0 (f, B + 17)) := by
  rw [E_20]
  simp (disch := omega) only [Int.reduceAdd, Int.reduceMul, Int.reduceSub, Int.reduceNeg, na_add, na_sub, na_mul, na_neg, na_lt, na_le, na_eq, na_ofNat, bo_some, tl_some, tl_none, rc_int, rc_ref, rc_null, rc_none, rc_long, tb_0, tb_1, ↓mr_g0, mr_r0, mr_get, mr_upd, mr_at, mr_wr, Classical.not_not, not_true_eq_false, not_false_eq_true, na_l0, na_l1, na_l2, na_l3, na_l4, na_l5, na_l6, na_l7, na_l8, na_l9, na_l10, na_l14, na_l15, na_l16, na_l25, na_l30, na_l31, na_l32, na_l33, na_l39, na_l43, na_l45, na_l48, na_l49, na_l50, na_l51, na_l52, na_l53, na_l55, na_l56, na_l57, na_l60, na_l64, na_l71, na_l80, na_l96, na_l100, na_l101, na_l102, na_l103, na_l104, na_l105, na_l106, na_l107, na_l108, na_l109, na_l110, na_l111, na_l112, na_l113, na_l114, na_l115, na_l116, na_l117, na_l118, na_l119, na_l120, na_l121, na_l125, na_l128, na_l150, na_l192, na_l255, na_l999, na_l1000, na_l1248, na_l1344, na_l1875, na_l10000, ↓reduceIte, pf_and, pe_le, pf_le, pe_lt, pf_lt, pe_eq, pf_eq, true_and, and_true, false_and, and_false, true_or, or_true, false_or, or_false, I_20, E_96, I_96, E_13, I_13, E_0, I_0, h, ru_eq, ru_ne, tvw_3_0, tvw_3_1, tvw_3_2, tvw_3_3, tvw_3_4, tvw_3_5, tvw_3_6, tvw_3_7, tvw_3_8, tvw_7_0, tvw_7_1, tvw_7_2, tvw_7_3, tvw_7_4, tvw_7_5, tvw_7_6, tvw_2_0, tvw_2_1, tvw_2_2, tvw_0_0, tvw_0_1, tvw_0_2, tvw_0_3, tvw_0_4, tvw_0_5, tv_k0, nc_3, nc_5, nc_8, nc_15, Nat.reduceLT, Nat.add_assoc, Nat.reduceAdd]
  refine congrArg (fun s => some ((none : Option Value), s)) (mp_eq rfl ?_ ?_)
  · intro o ho
    match o with
    | 0 => simp (disch := omega) only [ru_eq, ru_ne, mp_c, Nat.add_zero, m0_0, m0_w, m0_y, m0_l, m0_f, Int.reduceSub]
    | 1 => simp (disch := omega) only [ru_eq, ru_ne, mp_c, Nat.add_zero, m0_0, m0_w, m0_y, m0_l, m0_f, Int.reduceSub]
    | 2 => simp (disch := omega) only [ru_eq, ru_ne, mp_c, Nat.add_zero, m0_0, m0_w, m0_y, m0_l, m0_f, Int.reduceSub]
    | 3 => simp (disch := omega) only [ru_eq, ru_ne, mp_c, Nat.add_zero, m0_0, m0_w, m0_y, m0_l, m0_f, Int.reduceSub]
    | 4 => simp (disch := omega) only [ru_eq, ru_ne, mp_c, Nat.add_zero, m0_0, m0_w, m0_y, m0_l, m0_f, Int.reduceSub]
    | 5 => simp (disch := omega) only [ru_eq, ru_ne, mp_c, Nat.add_zero, m0_0, m0_w, m0_y, m0_l, m0_f, Int.reduceSub]
    | 6 => simp (disch := omega) only [ru_eq, ru_ne, mp_c, Nat.add_zero, m0_0, m0_w, m0_y, m0_l, m0_f, Int.reduceSub]
    | 7 => simp (disch := omega) only [ru_eq, ru_ne, mp_c, Nat.add_zero, m0_0, m0_w, m0_y, m0_l, m0_f, Int.reduceSub]
    | 8 => simp (disch := omega) only [ru_eq, ru_ne, mp_c, Nat.add_zero, m0_0, m0_w, m0_y, m0_l, m0_f, Int.reduceSub]
    | 9 => simp (disch := omega) only [ru_eq, ru_ne, mp_c, Nat.add_zero, m0_0, m0_w, m0_y, m0_l, m0_f, Int.reduceSub]
    | 10 => simp (disch := omega) only [ru_eq, ru_ne, mp_c, Nat.add_zero, m0_0, m0_w, m0_y, m0_l, m0_f, Int.reduceSub]
    | 11 => simp (disch := omega) only [ru_eq, ru_ne, mp_c, Nat.add_zero, m0_0, m0_w, m0_y, m0_l, m0_f, Int.reduceSub]
    | 12 => simp (disch := omega) only [ru_eq, ru_ne, mp_c, Nat.add_zero, m0_0, m0_w, m0_y, m0_l, m0_f, Int.reduceSub]
    | 13 => simp (disch := omega) only [ru_eq, ru_ne, mp_c, Nat.add_zero, m0_0, m0_w, m0_y, m0_l, m0_f, Int.reduceSub]
    | 14 => simp (disch := omega) only [ru_eq, ru_ne, mp_c, Nat.add_zero, m0_0, m0_w, m0_y, m0_l, m0_f, Int.reduceSub]
    | 15 => simp (disch := omega) only [ru_eq, ru_ne, mp_c, Nat.add_zero, m0_0, m0_w, m0_y, m0_l, m0_f, Int.reduceSub]
    | 16 => simp (disch := omega) only [ru_eq, ru_ne, mp_c, Nat.add_zero, m0_0, m0_w, m0_y, m0_l, m0_f, Int.reduceSub]
    | n + 17 => omega
  · intro q hq
    simp (disch := omega) only [ru_ne]
end MK
