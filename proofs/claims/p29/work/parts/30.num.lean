/-! Ints of the machine as whole numbers; rows of them. -/
abbrev mr_R : Type := Int → Int
theorem na_toInt {a : Int} (h1 : -2147483648 ≤ a) (h2 : a < 2147483648) : (Int32.ofInt a).toInt = a := Int32.toInt_ofInt_of_le (by simpa using h1) (by simpa using h2)
theorem na_of (x : Int32) : ∃ a : Int, x = Int32.ofInt a ∧ -2147483648 ≤ a ∧ a < 2147483648 := ⟨x.toInt, (Int32.ofInt_toInt x).symm, by simpa using x.le_toInt, by simpa using x.toInt_lt⟩
theorem na_add (a b : Int) : Int32.ofInt a + Int32.ofInt b = Int32.ofInt (a + b) := (Int32.ofInt_add a b).symm
theorem na_sub (a b : Int) : Int32.ofInt a - Int32.ofInt b = Int32.ofInt (a - b) := (Int32.ofInt_sub a b).symm
theorem na_mul (a b : Int) : Int32.ofInt a * Int32.ofInt b = Int32.ofInt (a * b) := (Int32.ofInt_mul a b).symm
theorem na_neg (a : Int) : -Int32.ofInt a = Int32.ofInt (-a) := Int32.neg_ofInt
theorem na_lt {a b : Int} (h1 : -2147483648 ≤ a) (h2 : a < 2147483648) (h3 : -2147483648 ≤ b) (h4 : b < 2147483648) : (Int32.ofInt a < Int32.ofInt b) = (a < b) := by
  rw [fa_lt, na_toInt h1 h2, na_toInt h3 h4]
theorem na_le {a b : Int} (h1 : -2147483648 ≤ a) (h2 : a < 2147483648) (h3 : -2147483648 ≤ b) (h4 : b < 2147483648) : (Int32.ofInt a ≤ Int32.ofInt b) = (a ≤ b) := by
  rw [fa_le, na_toInt h1 h2, na_toInt h3 h4]
theorem na_eq {a b : Int} (h1 : -2147483648 ≤ a) (h2 : a < 2147483648) (h3 : -2147483648 ≤ b) (h4 : b < 2147483648) : (Int32.ofInt a = Int32.ofInt b) = (a = b) := by
  rw [fa_eq, na_toInt h1 h2, na_toInt h3 h4]
theorem na_nat {a : Int} (h1 : 0 ≤ a) (h2 : a < 2147483648) : (Int32.ofInt a).toNatClampNeg = a.toNat := Int32.toNatClampNeg_ofInt_of_le (show (-2147483648 : Int) ≤ a by omega) (show a < (2147483648 : Int) from h2)
theorem na_div {a b : Int} (h1 : 0 ≤ a) (h2 : a < 2147483648) (h3 : 0 < b) (h4 : b < 2147483648) : Int32.ofInt a / Int32.ofInt b = Int32.ofInt (a / b) := by
  rw [← Int.tdiv_eq_ediv_of_nonneg h1]
  refine (Int32.ofInt_tdiv ?_ ?_ ?_ ?_).symm
  · show (-2147483648 : Int) ≤ a; omega
  · show a ≤ (2147483647 : Int); omega
  · show (-2147483648 : Int) ≤ b; omega
  · show b ≤ (2147483647 : Int); omega
theorem na_tdiv {a b : Int} (h1 : -2147483648 ≤ a) (h2 : a < 2147483648) (h3 : 0 < b) (h4 : b < 2147483648) : Int32.ofInt a / Int32.ofInt b = Int32.ofInt (a.tdiv b) := by
  refine (Int32.ofInt_tdiv ?_ ?_ ?_ ?_).symm
  · show (-2147483648 : Int) ≤ a; omega
  · show a ≤ (2147483647 : Int); omega
  · show (-2147483648 : Int) ≤ b; omega
  · show b ≤ (2147483647 : Int); omega
theorem na_rem (a b : Int) : a - a / b * b = a % b := by rw [Int.emod_def, Int.mul_comm]
theorem na_trem (a b : Int) : a - a.tdiv b * b = a.tmod b := by rw [Int.tmod_def, Int.mul_comm]
/-- both remainders of a wrap -/
theorem na_wrap {a b : Int} (h : 0 < b) : (a.tmod b + b) % b = a % b := by
  rw [Int.add_emod_right, Int.tmod_eq_emod]
  split
  · show (a % b - (0 : Int)) % b = a % b
    rw [Int.sub_zero, Int.emod_emod]
  · rw [Int.sub_emod]
    have : ((b.natAbs : Int)) % b = 0 := by rw [Int.natAbs_of_nonneg (Int.le_of_lt h), Int.emod_self]
    rw [this, Int.sub_zero, Int.emod_emod, Int.emod_emod]
theorem na_l0 : (0 : Int32) = Int32.ofInt 0 := rfl
theorem na_l1 : (1 : Int32) = Int32.ofInt 1 := rfl
theorem na_l2 : (2 : Int32) = Int32.ofInt 2 := rfl
theorem na_l3 : (3 : Int32) = Int32.ofInt 3 := rfl
theorem na_l4 : (4 : Int32) = Int32.ofInt 4 := rfl
theorem na_l5 : (5 : Int32) = Int32.ofInt 5 := rfl
theorem na_l6 : (6 : Int32) = Int32.ofInt 6 := rfl
theorem na_l7 : (7 : Int32) = Int32.ofInt 7 := rfl
theorem na_l8 : (8 : Int32) = Int32.ofInt 8 := rfl
theorem na_l9 : (9 : Int32) = Int32.ofInt 9 := rfl
theorem na_l10 : (10 : Int32) = Int32.ofInt 10 := rfl
theorem na_l14 : (14 : Int32) = Int32.ofInt 14 := rfl
theorem na_l15 : (15 : Int32) = Int32.ofInt 15 := rfl
theorem na_l16 : (16 : Int32) = Int32.ofInt 16 := rfl
theorem na_l25 : (25 : Int32) = Int32.ofInt 25 := rfl
theorem na_l30 : (30 : Int32) = Int32.ofInt 30 := rfl
theorem na_l31 : (31 : Int32) = Int32.ofInt 31 := rfl
theorem na_l32 : (32 : Int32) = Int32.ofInt 32 := rfl
theorem na_l33 : (33 : Int32) = Int32.ofInt 33 := rfl
theorem na_l39 : (39 : Int32) = Int32.ofInt 39 := rfl
theorem na_l43 : (43 : Int32) = Int32.ofInt 43 := rfl
theorem na_l45 : (45 : Int32) = Int32.ofInt 45 := rfl
theorem na_l48 : (48 : Int32) = Int32.ofInt 48 := rfl
theorem na_l49 : (49 : Int32) = Int32.ofInt 49 := rfl
theorem na_l50 : (50 : Int32) = Int32.ofInt 50 := rfl
theorem na_l51 : (51 : Int32) = Int32.ofInt 51 := rfl
theorem na_l52 : (52 : Int32) = Int32.ofInt 52 := rfl
theorem na_l53 : (53 : Int32) = Int32.ofInt 53 := rfl
theorem na_l55 : (55 : Int32) = Int32.ofInt 55 := rfl
theorem na_l56 : (56 : Int32) = Int32.ofInt 56 := rfl
theorem na_l57 : (57 : Int32) = Int32.ofInt 57 := rfl
theorem na_l60 : (60 : Int32) = Int32.ofInt 60 := rfl
theorem na_l64 : (64 : Int32) = Int32.ofInt 64 := rfl
theorem na_l71 : (71 : Int32) = Int32.ofInt 71 := rfl
theorem na_l80 : (80 : Int32) = Int32.ofInt 80 := rfl
theorem na_l96 : (96 : Int32) = Int32.ofInt 96 := rfl
theorem na_l100 : (100 : Int32) = Int32.ofInt 100 := rfl
theorem na_l101 : (101 : Int32) = Int32.ofInt 101 := rfl
theorem na_l102 : (102 : Int32) = Int32.ofInt 102 := rfl
theorem na_l103 : (103 : Int32) = Int32.ofInt 103 := rfl
theorem na_l104 : (104 : Int32) = Int32.ofInt 104 := rfl
theorem na_l105 : (105 : Int32) = Int32.ofInt 105 := rfl
theorem na_l106 : (106 : Int32) = Int32.ofInt 106 := rfl
theorem na_l107 : (107 : Int32) = Int32.ofInt 107 := rfl
theorem na_l108 : (108 : Int32) = Int32.ofInt 108 := rfl
theorem na_l109 : (109 : Int32) = Int32.ofInt 109 := rfl
theorem na_l110 : (110 : Int32) = Int32.ofInt 110 := rfl
theorem na_l111 : (111 : Int32) = Int32.ofInt 111 := rfl
theorem na_l112 : (112 : Int32) = Int32.ofInt 112 := rfl
theorem na_l113 : (113 : Int32) = Int32.ofInt 113 := rfl
theorem na_l114 : (114 : Int32) = Int32.ofInt 114 := rfl
theorem na_l115 : (115 : Int32) = Int32.ofInt 115 := rfl
theorem na_l116 : (116 : Int32) = Int32.ofInt 116 := rfl
theorem na_l117 : (117 : Int32) = Int32.ofInt 117 := rfl
theorem na_l118 : (118 : Int32) = Int32.ofInt 118 := rfl
theorem na_l119 : (119 : Int32) = Int32.ofInt 119 := rfl
theorem na_l120 : (120 : Int32) = Int32.ofInt 120 := rfl
theorem na_l121 : (121 : Int32) = Int32.ofInt 121 := rfl
theorem na_l125 : (125 : Int32) = Int32.ofInt 125 := rfl
theorem na_l128 : (128 : Int32) = Int32.ofInt 128 := rfl
theorem na_l150 : (150 : Int32) = Int32.ofInt 150 := rfl
theorem na_l192 : (192 : Int32) = Int32.ofInt 192 := rfl
theorem na_l255 : (255 : Int32) = Int32.ofInt 255 := rfl
theorem na_l999 : (999 : Int32) = Int32.ofInt 999 := rfl
theorem na_l1000 : (1000 : Int32) = Int32.ofInt 1000 := rfl
theorem na_l1248 : (1248 : Int32) = Int32.ofInt 1248 := rfl
theorem na_l1344 : (1344 : Int32) = Int32.ofInt 1344 := rfl
theorem na_l1875 : (1875 : Int32) = Int32.ofInt 1875 := rfl
theorem na_l10000 : (10000 : Int32) = Int32.ofInt 10000 := rfl
theorem na_ofNat (n : Nat) : Int32.ofNat n = Int32.ofInt n := Int32.ofInt_eq_ofNat.symm
/-- a row's contents -/
def mr_ar (R : mr_R) : Nat → Int32 := fun j => Int32.ofInt (R j)
def mr_st (R : mr_R) (k v : Int) : mr_R := fun i => if i = k then v else R i
theorem ms_eq {R : mr_R} {i k v : Int} (h : i = k) : mr_st R k v i = v := if_pos h
theorem ms_ne {R : mr_R} {i k v : Int} (h : i ≠ k) : mr_st R k v i = R i := if_neg h
theorem mr_get {R : mr_R} {k : Int} (h : 0 ≤ k) : mr_ar R k.toNat = Int32.ofInt (R k) := by
  unfold mr_ar
  rw [Int.toNat_of_nonneg h]
theorem mr_upd {R : mr_R} {k v : Int} (h : 0 ≤ k) : upd (mr_ar R) k.toNat (Int32.ofInt v) = mr_ar (mr_st R k v) := by
  funext j
  unfold upd mr_ar mr_st
  by_cases e : j = k.toNat
  · rw [if_pos e, if_pos (by omega)]
  · rw [if_neg e, if_neg (by omega)]
theorem mr_ix {k : Int} {n : Nat} (h : 0 ≤ k) (h2 : k < n) (h3 : k < 2147483648) : ri_ix (Int32.ofInt k) n = some k.toNat := by
  unfold ri_ix
  rw [na_nat h h3, if_neg]
  rintro (q | q)
  · rw [na_l0, na_lt (by omega) (by omega) (by omega) (by omega)] at q
    omega
  · omega
theorem mr_r0 {n : Nat} {f : Nat → Int32} {k : Int} {K : Nat → (Nat → Int32) → Nat → Option ri_R} (h : 0 ≤ k) (h2 : k < n) (h3 : k < 2147483648) : tv_r 0 (some (.inl (0, n, f))) (Int32.ofInt k) K = K n f k.toNat := by
  rw [tv_r0, mr_ix h h2 h3]
  rfl
theorem mr_r1 {n : Nat} {f : Nat → Int32} {k : Int} {K : Nat → (Nat → Int32) → Nat → Option ri_R} (h : 0 ≤ k) (h2 : k < n) (h3 : k < 2147483648) : tv_r 1 (some (.inl (1, n, f))) (Int32.ofInt k) K = K n f k.toNat := by
  rw [tv_r1, mr_ix h h2 h3]
  rfl
theorem mr_q0 {n : Nat} {f : Nat → Option Nat} {k : Int} {K : Nat → (Nat → Option Nat) → Nat → Option ri_R} (h : 0 ≤ k) (h2 : k < n) (h3 : k < 2147483648) : tv_q (some (.inr (.inl (n, f)))) (Int32.ofInt k) K = K n f k.toNat := by
  rw [tv_q0, mr_ix h h2 h3]
  rfl
/-- the model's row at the cell a -/
def mr_row (a : Nat) (R : mr_R) (σ : ri_S) : ri_S := (ri_upd σ.1 a (.inl (0, 96, mr_ar R)), σ.2)
theorem mr_at {a : Nat} {R : mr_R} {σ : ri_S} : (mr_row a R σ).1 a = some (.inl (0, 96, mr_ar R)) := if_pos rfl
theorem mr_g0 {a : Nat} {R : mr_R} {σ : ri_S} {k : Int} {K : Nat → (Nat → Int32) → Nat → Option ri_R} (h : 0 ≤ k) (h2 : k < 96) : tv_r 0 ((mr_row a R σ).1 a) (Int32.ofInt k) K = K 96 (mr_ar R) k.toNat := by
  rw [mr_at, mr_r0 h (by omega) (by omega)]
theorem mr_off {a b : Nat} {R : mr_R} {σ : ri_S} (h : ¬ b = a) : (mr_row a R σ).1 b = σ.1 b := if_neg h
theorem mr_wr {a : Nat} {R R2 : mr_R} {σ : ri_S} : ((ri_upd (mr_row a R σ).1 a (.inl (0, 96, mr_ar R2)), (mr_row a R σ).2) : ri_S) = mr_row a R2 σ := by
  unfold mr_row
  simp only [ru_up]
theorem mr_self {a : Nat} {R : mr_R} {σ : ri_S} (h : σ.1 a = some (.inl (0, 96, mr_ar R))) : mr_row a R σ = σ := by
  unfold mr_row
  obtain ⟨f, z⟩ := σ
  refine congrArg (·, z) (funext fun q => ?_)
  unfold ri_upd
  by_cases e : q = a
  · rw [if_pos e, e]; exact h.symm
  · rw [if_neg e]
/-! Longs. -/
theorem nb_wide {a : Int} (h1 : -2147483648 ≤ a) (h2 : a < 2147483648) : (Int32.ofInt a).toInt64 = Int64.ofInt a := Int32.toInt64_ofInt (by show (-2147483648 : Int) ≤ a; omega) (by show a ≤ (2147483647 : Int); omega)
theorem nb_toInt {a : Int} (h1 : -9223372036854775808 ≤ a) (h2 : a < 9223372036854775808) : (Int64.ofInt a).toInt = a := Int64.toInt_ofInt_of_le (by simpa using h1) (by simpa using h2)
theorem nb_lt {a b : Int} (h1 : -9223372036854775808 ≤ a) (h2 : a < 9223372036854775808) (h3 : -9223372036854775808 ≤ b) (h4 : b < 9223372036854775808) : (lg_cmp (Int64.ofInt a) (Int64.ofInt b) < Int32.ofInt 0) = (a < b) := by
  rw [← na_l0, lg_cmp_lt, fa_lt64, nb_toInt h1 h2, nb_toInt h3 h4]
theorem nb_gt {a b : Int} (h1 : -9223372036854775808 ≤ a) (h2 : a < 9223372036854775808) (h3 : -9223372036854775808 ≤ b) (h4 : b < 9223372036854775808) : (Int32.ofInt 0 < lg_cmp (Int64.ofInt a) (Int64.ofInt b)) = (b < a) := by
  rw [← na_l0, lg_cmp_gt, fa_lt64, nb_toInt h1 h2, nb_toInt h3 h4]
theorem nb_neg (a : Int) : -Int64.ofInt a = Int64.ofInt (-a) := Int64.neg_ofInt
theorem nb_sub (a b : Int) : Int64.ofInt a - Int64.ofInt b = Int64.ofInt (a - b) := (Int64.ofInt_sub a b).symm
theorem nb_mul (a b : Int) : Int64.ofInt a * Int64.ofInt b = Int64.ofInt (a * b) := (Int64.ofInt_mul a b).symm
theorem nb_32 (a : Int) : (Int64.ofInt a).toInt32 = Int32.ofInt a := Int64.toInt32_ofInt
theorem nb_of (x : Int64) : ∃ a : Int, x = Int64.ofInt a ∧ -9223372036854775808 ≤ a ∧ a < 9223372036854775808 := ⟨x.toInt, (Int64.ofInt_toInt x).symm, by simpa using x.le_toInt, by simpa using x.toInt_lt⟩
theorem nb_div {a b : Int} (h1 : 0 ≤ a) (h2 : a < 9223372036854775808) (h3 : 0 < b) (h4 : b < 9223372036854775808) : Int64.ofInt a / Int64.ofInt b = Int64.ofInt (a / b) := by
  rw [← Int.tdiv_eq_ediv_of_nonneg h1]
  refine (Int64.ofInt_tdiv ?_ ?_ ?_ ?_).symm
  · show (-9223372036854775808 : Int) ≤ a; omega
  · show a ≤ (9223372036854775807 : Int); omega
  · show (-9223372036854775808 : Int) ≤ b; omega
  · show b ≤ (9223372036854775807 : Int); omega
theorem nb_le0 {a : Int} (h1 : -9223372036854775808 ≤ a) (h2 : a < 9223372036854775808) (b : Int) (h3 : -9223372036854775808 ≤ b) (h4 : b < 9223372036854775808) : (Int32.ofInt 0 ≤ lg_cmp (Int64.ofInt a) (Int64.ofInt b)) = (b ≤ a) := by
  rw [show (Int32.ofInt 0) = (0 : Int32) from rfl, lg_cmp_ge, fa_le64, nb_toInt h1 h2, nb_toInt h3 h4]
theorem nb_le1 {a : Int} (h1 : -9223372036854775808 ≤ a) (h2 : a < 9223372036854775808) (b : Int) (h3 : -9223372036854775808 ≤ b) (h4 : b < 9223372036854775808) : (lg_cmp (Int64.ofInt a) (Int64.ofInt b) ≤ Int32.ofInt 0) = (a ≤ b) := by
  rw [show (Int32.ofInt 0) = (0 : Int32) from rfl, lg_cmp_le, fa_le64, nb_toInt h1 h2, nb_toInt h3 h4]
theorem nb_eq {a b : Int} (h1 : -9223372036854775808 ≤ a) (h2 : a < 9223372036854775808) (h3 : -9223372036854775808 ≤ b) (h4 : b < 9223372036854775808) : (Int64.ofInt a = Int64.ofInt b) = (a = b) := by
  rw [fa_eq64, nb_toInt h1 h2, nb_toInt h3 h4]
theorem nb_l100000 : (100000 : Int64) = Int64.ofInt 100000 := rfl
theorem nb_l0 : (0 : Int64) = Int64.ofInt 0 := rfl
theorem nb_l1 : (1 : Int64) = Int64.ofInt 1 := rfl
theorem nb_l3 : (3 : Int64) = Int64.ofInt 3 := rfl
theorem nb_l4 : (4 : Int64) = Int64.ofInt 4 := rfl
theorem nb_l5 : (5 : Int64) = Int64.ofInt 5 := rfl
theorem nb_l7 : (7 : Int64) = Int64.ofInt 7 := rfl
theorem nb_l9 : (9 : Int64) = Int64.ofInt 9 := rfl
theorem nb_l10 : (10 : Int64) = Int64.ofInt 10 := rfl
theorem nb_l30 : (30 : Int64) = Int64.ofInt 30 := rfl
theorem nb_l60 : (60 : Int64) = Int64.ofInt 60 := rfl
theorem nb_l255 : (255 : Int64) = Int64.ofInt 255 := rfl
theorem tb_0 {X : Option ri_R} : tv_b (Int32.ofInt 0) X = X := rfl
theorem tb_1 {X : Option ri_R} : tv_b (Int32.ofInt 1) X = X := rfl
theorem oi_bind {α β : Type} {c : Prop} {d : Decidable c} {a b : Option α} {f : α → Option β} : (if c then a else b).bind f = if c then a.bind f else b.bind f := by
  split <;> rfl
theorem pe_le {a b : Int} (h : a ≤ b) : (a ≤ b) = True := eq_true h
theorem pf_le {a b : Int} (h : ¬ a ≤ b) : (a ≤ b) = False := eq_false h
theorem pe_lt {a b : Int} (h : a < b) : (a < b) = True := eq_true h
theorem pf_lt {a b : Int} (h : ¬ a < b) : (a < b) = False := eq_false h
theorem pe_eq {a b : Int} (h : a = b) : (a = b) = True := eq_true h
theorem pf_eq {a b : Int} (h : ¬ a = b) : (a = b) = False := eq_false h
theorem pf_and {a b : Prop} (h : ¬ (a ∧ b)) : (a ∧ b) = False := eq_false h

