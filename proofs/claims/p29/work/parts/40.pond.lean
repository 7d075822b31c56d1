/-! A pond of the class as one row R (what is live) and what stands beyond the counts, Z. -/
def mp_w (R Z : mr_R) (k : Int) : mr_R := fun w => if w < R 0 then R (9 + 10 * w + k) else if w < 3 then Z (9 + 10 * w + k) else 0
def mp_y (R Z : mr_R) : mr_R := fun s => if s / 5 < R 0 then R (9 + 10 * (s / 5) + 5 + s % 5) else if s < 15 then Z (9 + 10 * (s / 5) + 5 + s % 5) else 0
def mp_l (R Z : mr_R) (k : Int) : mr_R := fun l => if l < R 1 then R (39 + 4 * l + k) * 5 + R (39 + 4 * l + k + 1) else if l < 8 then Z (39 + 4 * l + k) * 5 + Z (39 + 4 * l + k + 1) else 0
def mp_f (R Z : mr_R) (k : Int) : mr_R := fun f => if f < R 2 then R (71 + 5 * f + k) else if f < 5 then Z (71 + 5 * f + k) else 0
def mp_c (B : Nat) (R Z : mr_R) : Nat → Option ri_El
  | 0 => some (.inr (.inr (3, [.ref (B + 1), .ref (B + 8), .ref (B + 11), .int (Int32.ofInt (R 3)), .int (Int32.ofInt (R 4)), .int (Int32.ofInt (R 5)), .int (Int32.ofInt (R 6)), .int (Int32.ofInt (R 7 - 1)), .int (Int32.ofInt (R 8))])))
  | 1 => some (.inr (.inr (7, [.int (Int32.ofInt (R 0)), .ref (B + 2), .ref (B + 3), .ref (B + 4), .ref (B + 5), .ref (B + 6), .ref (B + 7)])))
  | 2 => some (.inl (0, 3, mr_ar (mp_w R Z 0)))
  | 3 => some (.inl (0, 3, mr_ar (mp_w R Z 1)))
  | 4 => some (.inl (0, 3, mr_ar (mp_w R Z 2)))
  | 5 => some (.inl (0, 3, mr_ar (mp_w R Z 3)))
  | 6 => some (.inl (0, 3, mr_ar (mp_w R Z 4)))
  | 7 => some (.inl (0, 15, mr_ar (mp_y R Z)))
  | 8 => some (.inr (.inr (2, [.int (Int32.ofInt (R 1)), .ref (B + 9), .ref (B + 10)])))
  | 9 => some (.inl (0, 8, mr_ar (mp_l R Z 0)))
  | 10 => some (.inl (0, 8, mr_ar (mp_l R Z 2)))
  | 11 => some (.inr (.inr (0, [.int (Int32.ofInt (R 2)), .ref (B + 12), .ref (B + 13), .ref (B + 14), .ref (B + 15), .ref (B + 16)])))
  | 12 => some (.inl (0, 5, mr_ar (mp_f R Z 0)))
  | 13 => some (.inl (0, 5, mr_ar (mp_f R Z 1)))
  | 14 => some (.inl (0, 5, mr_ar (mp_f R Z 2)))
  | 15 => some (.inl (0, 5, mr_ar (mp_f R Z 3)))
  | 16 => some (.inl (0, 5, mr_ar (mp_f R Z 4)))
  | _ => none
def mp (B : Nat) (R Z : mr_R) (σ : ri_S) : ri_S := (fun q => if B ≤ q ∧ q < B + 17 then mp_c B R Z (q - B) else σ.1 q, σ.2)
section MPA
variable {B : Nat} {R Z : mr_R} {σ : ri_S}
theorem mp_at {o : Nat} (h : o < 17) : (mp B R Z σ).1 (B + o) = mp_c B R Z o := by
  show (if B ≤ B + o ∧ B + o < B + 17 then mp_c B R Z (B + o - B) else σ.1 (B + o)) = _
  rw [if_pos (by omega), show B + o - B = o by omega]
theorem mp_off {q : Nat} (h : ¬ (B ≤ q ∧ q < B + 17)) : (mp B R Z σ).1 q = σ.1 q := if_neg h
theorem mp_wr {R2 Z2 : mr_R} {o : Nat} {e : ri_El} (h : o < 17) (h2 : mp_c B R2 Z2 o = some e) (h3 : ∀ j, j < 17 → j ≠ o → mp_c B R2 Z2 j = mp_c B R Z j) : ((ri_upd (mp B R Z σ).1 (B + o) e, (mp B R Z σ).2) : ri_S) = mp B R2 Z2 σ := by
  refine congrArg (·, σ.2) (funext fun q => ?_)
  show (if q = B + o then some e else (if B ≤ q ∧ q < B + 17 then mp_c B R Z (q - B) else σ.1 q)) = (if B ≤ q ∧ q < B + 17 then mp_c B R2 Z2 (q - B) else σ.1 q)
  by_cases a : q = B + o
  · rw [if_pos a, if_pos (by omega), ← h2, show q - B = o by omega]
  · rw [if_neg a]
    by_cases b : B ≤ q ∧ q < B + 17
    · rw [if_pos b, if_pos b, h3 (q - B) (by omega) (by omega)]
    · rw [if_neg b, if_neg b]
theorem mp_ov {R2 Z2 : mr_R} : mp B R Z (mp B R2 Z2 σ) = mp B R Z σ := by
  refine congrArg (·, σ.2) (funext fun q => ?_)
  show (if B ≤ q ∧ q < B + 17 then mp_c B R Z (q - B) else (if B ≤ q ∧ q < B + 17 then mp_c B R2 Z2 (q - B) else σ.1 q)) = (if B ≤ q ∧ q < B + 17 then mp_c B R Z (q - B) else σ.1 q)
  split <;> rfl
theorem mp_same (h : ∀ o, o < 17 → σ.1 (B + o) = mp_c B R Z o) : mp B R Z σ = σ := by
  obtain ⟨f, z⟩ := σ
  refine congrArg (·, z) (funext fun q => ?_)
  show (if B ≤ q ∧ q < B + 17 then mp_c B R Z (q - B) else f q) = f q
  by_cases b : B ≤ q ∧ q < B + 17
  · rw [if_pos b, ← h (q - B) (by omega), show B + (q - B) = q by omega]
  · rw [if_neg b]
theorem mp_cx {R2 Z2 : mr_R} (h : ∀ o, o < 17 → mp_c B R Z o = mp_c B R2 Z2 o) : mp B R Z σ = mp B R2 Z2 σ := by
  refine congrArg (·, σ.2) (funext fun q => ?_)
  show (if B ≤ q ∧ q < B + 17 then mp_c B R Z (q - B) else σ.1 q) = (if B ≤ q ∧ q < B + 17 then mp_c B R2 Z2 (q - B) else σ.1 q)
  by_cases b : B ≤ q ∧ q < B + 17
  · rw [if_pos b, if_pos b, h (q - B) (by omega)]
  · rw [if_neg b, if_neg b]
theorem mpx_0 : (mp B R Z σ).1 (B) = some (.inr (.inr (3, [.ref (B + 1), .ref (B + 8), .ref (B + 11), .int (Int32.ofInt (R 3)), .int (Int32.ofInt (R 4)), .int (Int32.ofInt (R 5)), .int (Int32.ofInt (R 6)), .int (Int32.ofInt (R 7 - 1)), .int (Int32.ofInt (R 8))]))) := (mp_at (o := 0) (by decide)).trans rfl
theorem mpx_1 : (mp B R Z σ).1 (B + 1) = some (.inr (.inr (7, [.int (Int32.ofInt (R 0)), .ref (B + 2), .ref (B + 3), .ref (B + 4), .ref (B + 5), .ref (B + 6), .ref (B + 7)]))) := (mp_at (o := 1) (by decide)).trans rfl
theorem mpx_2 : (mp B R Z σ).1 (B + 2) = some (.inl (0, 3, mr_ar (mp_w R Z 0))) := (mp_at (o := 2) (by decide)).trans rfl
theorem mpx_3 : (mp B R Z σ).1 (B + 3) = some (.inl (0, 3, mr_ar (mp_w R Z 1))) := (mp_at (o := 3) (by decide)).trans rfl
theorem mpx_4 : (mp B R Z σ).1 (B + 4) = some (.inl (0, 3, mr_ar (mp_w R Z 2))) := (mp_at (o := 4) (by decide)).trans rfl
theorem mpx_5 : (mp B R Z σ).1 (B + 5) = some (.inl (0, 3, mr_ar (mp_w R Z 3))) := (mp_at (o := 5) (by decide)).trans rfl
theorem mpx_6 : (mp B R Z σ).1 (B + 6) = some (.inl (0, 3, mr_ar (mp_w R Z 4))) := (mp_at (o := 6) (by decide)).trans rfl
theorem mpx_7 : (mp B R Z σ).1 (B + 7) = some (.inl (0, 15, mr_ar (mp_y R Z))) := (mp_at (o := 7) (by decide)).trans rfl
theorem mpx_8 : (mp B R Z σ).1 (B + 8) = some (.inr (.inr (2, [.int (Int32.ofInt (R 1)), .ref (B + 9), .ref (B + 10)]))) := (mp_at (o := 8) (by decide)).trans rfl
theorem mpx_9 : (mp B R Z σ).1 (B + 9) = some (.inl (0, 8, mr_ar (mp_l R Z 0))) := (mp_at (o := 9) (by decide)).trans rfl
theorem mpx_10 : (mp B R Z σ).1 (B + 10) = some (.inl (0, 8, mr_ar (mp_l R Z 2))) := (mp_at (o := 10) (by decide)).trans rfl
theorem mpx_11 : (mp B R Z σ).1 (B + 11) = some (.inr (.inr (0, [.int (Int32.ofInt (R 2)), .ref (B + 12), .ref (B + 13), .ref (B + 14), .ref (B + 15), .ref (B + 16)]))) := (mp_at (o := 11) (by decide)).trans rfl
theorem mpx_12 : (mp B R Z σ).1 (B + 12) = some (.inl (0, 5, mr_ar (mp_f R Z 0))) := (mp_at (o := 12) (by decide)).trans rfl
theorem mpx_13 : (mp B R Z σ).1 (B + 13) = some (.inl (0, 5, mr_ar (mp_f R Z 1))) := (mp_at (o := 13) (by decide)).trans rfl
theorem mpx_14 : (mp B R Z σ).1 (B + 14) = some (.inl (0, 5, mr_ar (mp_f R Z 2))) := (mp_at (o := 14) (by decide)).trans rfl
theorem mpx_15 : (mp B R Z σ).1 (B + 15) = some (.inl (0, 5, mr_ar (mp_f R Z 3))) := (mp_at (o := 15) (by decide)).trans rfl
theorem mpx_16 : (mp B R Z σ).1 (B + 16) = some (.inl (0, 5, mr_ar (mp_f R Z 4))) := (mp_at (o := 16) (by decide)).trans rfl
theorem mpk_0 {X : Option ri_R} : tv_k 3 ((mp B R Z σ).1 B) X = X := by rw [mpx_0]; exact tv_k0
theorem mpo_0_0 {K : Value → Option ri_R} : tv_o 3 0 ((mp B R Z σ).1 B) K = K (.ref (B + 1)) := by rw [mpx_0]; exact tvo_3_0
theorem mpo_0_1 {K : Value → Option ri_R} : tv_o 3 1 ((mp B R Z σ).1 B) K = K (.ref (B + 8)) := by rw [mpx_0]; exact tvo_3_1
theorem mpo_0_2 {K : Value → Option ri_R} : tv_o 3 2 ((mp B R Z σ).1 B) K = K (.ref (B + 11)) := by rw [mpx_0]; exact tvo_3_2
theorem mpo_0_3 {K : Value → Option ri_R} : tv_o 3 3 ((mp B R Z σ).1 B) K = K (.int (Int32.ofInt (R 3))) := by rw [mpx_0]; exact tvo_3_3
theorem mpv_0_3 {v : Value} {K : List Value → Option ri_R} : tv_w 3 3 ((mp B R Z σ).1 B) v K = K [.ref (B + 1), .ref (B + 8), .ref (B + 11), v, .int (Int32.ofInt (R 4)), .int (Int32.ofInt (R 5)), .int (Int32.ofInt (R 6)), .int (Int32.ofInt (R 7 - 1)), .int (Int32.ofInt (R 8))] := by rw [mpx_0]; exact tvw_3_3
theorem mpo_0_4 {K : Value → Option ri_R} : tv_o 3 4 ((mp B R Z σ).1 B) K = K (.int (Int32.ofInt (R 4))) := by rw [mpx_0]; exact tvo_3_4
theorem mpv_0_4 {v : Value} {K : List Value → Option ri_R} : tv_w 3 4 ((mp B R Z σ).1 B) v K = K [.ref (B + 1), .ref (B + 8), .ref (B + 11), .int (Int32.ofInt (R 3)), v, .int (Int32.ofInt (R 5)), .int (Int32.ofInt (R 6)), .int (Int32.ofInt (R 7 - 1)), .int (Int32.ofInt (R 8))] := by rw [mpx_0]; exact tvw_3_4
theorem mpo_0_5 {K : Value → Option ri_R} : tv_o 3 5 ((mp B R Z σ).1 B) K = K (.int (Int32.ofInt (R 5))) := by rw [mpx_0]; exact tvo_3_5
theorem mpv_0_5 {v : Value} {K : List Value → Option ri_R} : tv_w 3 5 ((mp B R Z σ).1 B) v K = K [.ref (B + 1), .ref (B + 8), .ref (B + 11), .int (Int32.ofInt (R 3)), .int (Int32.ofInt (R 4)), v, .int (Int32.ofInt (R 6)), .int (Int32.ofInt (R 7 - 1)), .int (Int32.ofInt (R 8))] := by rw [mpx_0]; exact tvw_3_5
theorem mpo_0_6 {K : Value → Option ri_R} : tv_o 3 6 ((mp B R Z σ).1 B) K = K (.int (Int32.ofInt (R 6))) := by rw [mpx_0]; exact tvo_3_6
theorem mpv_0_6 {v : Value} {K : List Value → Option ri_R} : tv_w 3 6 ((mp B R Z σ).1 B) v K = K [.ref (B + 1), .ref (B + 8), .ref (B + 11), .int (Int32.ofInt (R 3)), .int (Int32.ofInt (R 4)), .int (Int32.ofInt (R 5)), v, .int (Int32.ofInt (R 7 - 1)), .int (Int32.ofInt (R 8))] := by rw [mpx_0]; exact tvw_3_6
theorem mpo_0_7 {K : Value → Option ri_R} : tv_o 3 7 ((mp B R Z σ).1 B) K = K (.int (Int32.ofInt (R 7 - 1))) := by rw [mpx_0]; exact tvo_3_7
theorem mpv_0_7 {v : Value} {K : List Value → Option ri_R} : tv_w 3 7 ((mp B R Z σ).1 B) v K = K [.ref (B + 1), .ref (B + 8), .ref (B + 11), .int (Int32.ofInt (R 3)), .int (Int32.ofInt (R 4)), .int (Int32.ofInt (R 5)), .int (Int32.ofInt (R 6)), v, .int (Int32.ofInt (R 8))] := by rw [mpx_0]; exact tvw_3_7
theorem mpo_0_8 {K : Value → Option ri_R} : tv_o 3 8 ((mp B R Z σ).1 B) K = K (.int (Int32.ofInt (R 8))) := by rw [mpx_0]; exact tvo_3_8
theorem mpv_0_8 {v : Value} {K : List Value → Option ri_R} : tv_w 3 8 ((mp B R Z σ).1 B) v K = K [.ref (B + 1), .ref (B + 8), .ref (B + 11), .int (Int32.ofInt (R 3)), .int (Int32.ofInt (R 4)), .int (Int32.ofInt (R 5)), .int (Int32.ofInt (R 6)), .int (Int32.ofInt (R 7 - 1)), v] := by rw [mpx_0]; exact tvw_3_8
theorem mpk_1 {X : Option ri_R} : tv_k 7 ((mp B R Z σ).1 (B + 1)) X = X := by rw [mpx_1]; exact tv_k0
theorem mpo_1_0 {K : Value → Option ri_R} : tv_o 7 0 ((mp B R Z σ).1 (B + 1)) K = K (.int (Int32.ofInt (R 0))) := by rw [mpx_1]; exact tvo_7_0
theorem mpv_1_0 {v : Value} {K : List Value → Option ri_R} : tv_w 7 0 ((mp B R Z σ).1 (B + 1)) v K = K [v, .ref (B + 2), .ref (B + 3), .ref (B + 4), .ref (B + 5), .ref (B + 6), .ref (B + 7)] := by rw [mpx_1]; exact tvw_7_0
theorem mpo_1_1 {K : Value → Option ri_R} : tv_o 7 1 ((mp B R Z σ).1 (B + 1)) K = K (.ref (B + 2)) := by rw [mpx_1]; exact tvo_7_1
theorem mpo_1_2 {K : Value → Option ri_R} : tv_o 7 2 ((mp B R Z σ).1 (B + 1)) K = K (.ref (B + 3)) := by rw [mpx_1]; exact tvo_7_2
theorem mpo_1_3 {K : Value → Option ri_R} : tv_o 7 3 ((mp B R Z σ).1 (B + 1)) K = K (.ref (B + 4)) := by rw [mpx_1]; exact tvo_7_3
theorem mpo_1_4 {K : Value → Option ri_R} : tv_o 7 4 ((mp B R Z σ).1 (B + 1)) K = K (.ref (B + 5)) := by rw [mpx_1]; exact tvo_7_4
theorem mpo_1_5 {K : Value → Option ri_R} : tv_o 7 5 ((mp B R Z σ).1 (B + 1)) K = K (.ref (B + 6)) := by rw [mpx_1]; exact tvo_7_5
theorem mpo_1_6 {K : Value → Option ri_R} : tv_o 7 6 ((mp B R Z σ).1 (B + 1)) K = K (.ref (B + 7)) := by rw [mpx_1]; exact tvo_7_6
theorem mpk_8 {X : Option ri_R} : tv_k 2 ((mp B R Z σ).1 (B + 8)) X = X := by rw [mpx_8]; exact tv_k0
theorem mpo_8_0 {K : Value → Option ri_R} : tv_o 2 0 ((mp B R Z σ).1 (B + 8)) K = K (.int (Int32.ofInt (R 1))) := by rw [mpx_8]; exact tvo_2_0
theorem mpv_8_0 {v : Value} {K : List Value → Option ri_R} : tv_w 2 0 ((mp B R Z σ).1 (B + 8)) v K = K [v, .ref (B + 9), .ref (B + 10)] := by rw [mpx_8]; exact tvw_2_0
theorem mpo_8_1 {K : Value → Option ri_R} : tv_o 2 1 ((mp B R Z σ).1 (B + 8)) K = K (.ref (B + 9)) := by rw [mpx_8]; exact tvo_2_1
theorem mpo_8_2 {K : Value → Option ri_R} : tv_o 2 2 ((mp B R Z σ).1 (B + 8)) K = K (.ref (B + 10)) := by rw [mpx_8]; exact tvo_2_2
theorem mpk_11 {X : Option ri_R} : tv_k 0 ((mp B R Z σ).1 (B + 11)) X = X := by rw [mpx_11]; exact tv_k0
theorem mpo_11_0 {K : Value → Option ri_R} : tv_o 0 0 ((mp B R Z σ).1 (B + 11)) K = K (.int (Int32.ofInt (R 2))) := by rw [mpx_11]; exact tvo_0_0
theorem mpv_11_0 {v : Value} {K : List Value → Option ri_R} : tv_w 0 0 ((mp B R Z σ).1 (B + 11)) v K = K [v, .ref (B + 12), .ref (B + 13), .ref (B + 14), .ref (B + 15), .ref (B + 16)] := by rw [mpx_11]; exact tvw_0_0
theorem mpo_11_1 {K : Value → Option ri_R} : tv_o 0 1 ((mp B R Z σ).1 (B + 11)) K = K (.ref (B + 12)) := by rw [mpx_11]; exact tvo_0_1
theorem mpo_11_2 {K : Value → Option ri_R} : tv_o 0 2 ((mp B R Z σ).1 (B + 11)) K = K (.ref (B + 13)) := by rw [mpx_11]; exact tvo_0_2
theorem mpo_11_3 {K : Value → Option ri_R} : tv_o 0 3 ((mp B R Z σ).1 (B + 11)) K = K (.ref (B + 14)) := by rw [mpx_11]; exact tvo_0_3
theorem mpo_11_4 {K : Value → Option ri_R} : tv_o 0 4 ((mp B R Z σ).1 (B + 11)) K = K (.ref (B + 15)) := by rw [mpx_11]; exact tvo_0_4
theorem mpo_11_5 {K : Value → Option ri_R} : tv_o 0 5 ((mp B R Z σ).1 (B + 11)) K = K (.ref (B + 16)) := by rw [mpx_11]; exact tvo_0_5
end MPA
/-! Live changes of one row, seen from the others. -/
section MPQ
variable {R Z : mr_R} {x v : Int}
theorem mq_w {k : Int} (h0 : 0 ≠ x) (h : ∀ w : Int, 0 ≤ w → w < R 0 → 9 + 10 * w + k ≠ x) : mr_ar (mp_w (mr_st R x v) Z k) = mr_ar (mp_w R Z k) := by
  funext j
  unfold mr_ar mp_w
  rw [ms_ne h0]
  by_cases q : (j : Int) < R 0
  · rw [if_pos q, if_pos q, ms_ne (h _ (by omega) q)]
  · rw [if_neg q, if_neg q]
theorem mq_y (h0 : 0 ≠ x) (h : ∀ w p : Int, 0 ≤ w → w < R 0 → 0 ≤ p → p < 5 → 9 + 10 * w + 5 + p ≠ x) : mr_ar (mp_y (mr_st R x v) Z) = mr_ar (mp_y R Z) := by
  funext j
  unfold mr_ar mp_y
  rw [ms_ne h0]
  by_cases q : (j : Int) / 5 < R 0
  · rw [if_pos q, if_pos q, ms_ne (h _ _ (by omega) q (by omega) (by omega))]
  · rw [if_neg q, if_neg q]
theorem mq_l {k : Int} (h0 : 1 ≠ x) (h : ∀ l : Int, 0 ≤ l → l < R 1 → 39 + 4 * l + k ≠ x ∧ 39 + 4 * l + k + 1 ≠ x) : mr_ar (mp_l (mr_st R x v) Z k) = mr_ar (mp_l R Z k) := by
  funext j
  unfold mr_ar mp_l
  rw [ms_ne h0]
  by_cases q : (j : Int) < R 1
  · have := h _ (by omega) q
    rw [if_pos q, if_pos q, ms_ne this.1, ms_ne this.2]
  · rw [if_neg q, if_neg q]
theorem mq_f {k : Int} (h0 : 2 ≠ x) (h : ∀ f : Int, 0 ≤ f → f < R 2 → 71 + 5 * f + k ≠ x) : mr_ar (mp_f (mr_st R x v) Z k) = mr_ar (mp_f R Z k) := by
  funext j
  unfold mr_ar mp_f
  rw [ms_ne h0]
  by_cases q : (j : Int) < R 2
  · rw [if_pos q, if_pos q, ms_ne (h _ (by omega) q)]
  · rw [if_neg q, if_neg q]
theorem ma_st {R : mr_R} {k v : Int} {j : Nat} : mr_ar (mr_st R k v) j = if (j : Int) = k then Int32.ofInt v else mr_ar R j := by
  unfold mr_ar mr_st
  split <;> rfl
end MPQ
section MPU
variable {B : Nat} {R Z : mr_R} {σ : ri_S}
theorem mpu_0_3 (hb : 0 ≤ R 0 ∧ R 0 ≤ 3 ∧ 0 ≤ R 1 ∧ R 1 ≤ 8 ∧ 0 ≤ R 2 ∧ R 2 ≤ 5) {v r4 r5 r6 r7 r8 : Int} (e4 : r4 = R 4) (e5 : r5 = R 5) (e6 : r6 = R 6) (e7 : r7 = R 7 - 1) (e8 : r8 = R 8) : ((ri_upd (mp B R Z σ).1 (B) (.inr (.inr (3, [.ref (B + 1), .ref (B + 8), .ref (B + 11), .int (Int32.ofInt v), .int (Int32.ofInt r4), .int (Int32.ofInt r5), .int (Int32.ofInt r6), .int (Int32.ofInt r7), .int (Int32.ofInt r8)]))), (mp B R Z σ).2) : ri_S) = mp B (mr_st R 3 v) (Z) σ :=
  mp_wr (o := 0) (by decide) (by subst e4 e5 e6 e7 e8; simp (disch := omega) only [mp_c, ms_eq, ms_ne]) (fun j hj hn => by
    match j with
    | 0 => first | (exact absurd rfl hn) | (simp (disch := first | omega | (intros; omega)) only [mp_c, ms_ne, mq_w, mq_y, mq_l, mq_f])
    | 1 => first | (exact absurd rfl hn) | (simp (disch := first | omega | (intros; omega)) only [mp_c, ms_ne, mq_w, mq_y, mq_l, mq_f])
    | 2 => first | (exact absurd rfl hn) | (simp (disch := first | omega | (intros; omega)) only [mp_c, ms_ne, mq_w, mq_y, mq_l, mq_f])
    | 3 => first | (exact absurd rfl hn) | (simp (disch := first | omega | (intros; omega)) only [mp_c, ms_ne, mq_w, mq_y, mq_l, mq_f])
    | 4 => first | (exact absurd rfl hn) | (simp (disch := first | omega | (intros; omega)) only [mp_c, ms_ne, mq_w, mq_y, mq_l, mq_f])
    | 5 => first | (exact absurd rfl hn) | (simp (disch := first | omega | (intros; omega)) only [mp_c, ms_ne, mq_w, mq_y, mq_l, mq_f])
    | 6 => first | (exact absurd rfl hn) | (simp (disch := first | omega | (intros; omega)) only [mp_c, ms_ne, mq_w, mq_y, mq_l, mq_f])
    | 7 => first | (exact absurd rfl hn) | (simp (disch := first | omega | (intros; omega)) only [mp_c, ms_ne, mq_w, mq_y, mq_l, mq_f])
    | 8 => first | (exact absurd rfl hn) | (simp (disch := first | omega | (intros; omega)) only [mp_c, ms_ne, mq_w, mq_y, mq_l, mq_f])
    | 9 => first | (exact absurd rfl hn) | (simp (disch := first | omega | (intros; omega)) only [mp_c, ms_ne, mq_w, mq_y, mq_l, mq_f])
    | 10 => first | (exact absurd rfl hn) | (simp (disch := first | omega | (intros; omega)) only [mp_c, ms_ne, mq_w, mq_y, mq_l, mq_f])
    | 11 => first | (exact absurd rfl hn) | (simp (disch := first | omega | (intros; omega)) only [mp_c, ms_ne, mq_w, mq_y, mq_l, mq_f])
    | 12 => first | (exact absurd rfl hn) | (simp (disch := first | omega | (intros; omega)) only [mp_c, ms_ne, mq_w, mq_y, mq_l, mq_f])
    | 13 => first | (exact absurd rfl hn) | (simp (disch := first | omega | (intros; omega)) only [mp_c, ms_ne, mq_w, mq_y, mq_l, mq_f])
    | 14 => first | (exact absurd rfl hn) | (simp (disch := first | omega | (intros; omega)) only [mp_c, ms_ne, mq_w, mq_y, mq_l, mq_f])
    | 15 => first | (exact absurd rfl hn) | (simp (disch := first | omega | (intros; omega)) only [mp_c, ms_ne, mq_w, mq_y, mq_l, mq_f])
    | 16 => first | (exact absurd rfl hn) | (simp (disch := first | omega | (intros; omega)) only [mp_c, ms_ne, mq_w, mq_y, mq_l, mq_f])
    | n + 17 => omega)
theorem mpu_0_4 (hb : 0 ≤ R 0 ∧ R 0 ≤ 3 ∧ 0 ≤ R 1 ∧ R 1 ≤ 8 ∧ 0 ≤ R 2 ∧ R 2 ≤ 5) {v r3 r5 r6 r7 r8 : Int} (e3 : r3 = R 3) (e5 : r5 = R 5) (e6 : r6 = R 6) (e7 : r7 = R 7 - 1) (e8 : r8 = R 8) : ((ri_upd (mp B R Z σ).1 (B) (.inr (.inr (3, [.ref (B + 1), .ref (B + 8), .ref (B + 11), .int (Int32.ofInt r3), .int (Int32.ofInt v), .int (Int32.ofInt r5), .int (Int32.ofInt r6), .int (Int32.ofInt r7), .int (Int32.ofInt r8)]))), (mp B R Z σ).2) : ri_S) = mp B (mr_st R 4 v) (Z) σ :=
  mp_wr (o := 0) (by decide) (by subst e3 e5 e6 e7 e8; simp (disch := omega) only [mp_c, ms_eq, ms_ne]) (fun j hj hn => by
    match j with
    | 0 => first | (exact absurd rfl hn) | (simp (disch := first | omega | (intros; omega)) only [mp_c, ms_ne, mq_w, mq_y, mq_l, mq_f])
    | 1 => first | (exact absurd rfl hn) | (simp (disch := first | omega | (intros; omega)) only [mp_c, ms_ne, mq_w, mq_y, mq_l, mq_f])
    | 2 => first | (exact absurd rfl hn) | (simp (disch := first | omega | (intros; omega)) only [mp_c, ms_ne, mq_w, mq_y, mq_l, mq_f])
    | 3 => first | (exact absurd rfl hn) | (simp (disch := first | omega | (intros; omega)) only [mp_c, ms_ne, mq_w, mq_y, mq_l, mq_f])
    | 4 => first | (exact absurd rfl hn) | (simp (disch := first | omega | (intros; omega)) only [mp_c, ms_ne, mq_w, mq_y, mq_l, mq_f])
    | 5 => first | (exact absurd rfl hn) | (simp (disch := first | omega | (intros; omega)) only [mp_c, ms_ne, mq_w, mq_y, mq_l, mq_f])
    | 6 => first | (exact absurd rfl hn) | (simp (disch := first | omega | (intros; omega)) only [mp_c, ms_ne, mq_w, mq_y, mq_l, mq_f])
    | 7 => first | (exact absurd rfl hn) | (simp (disch := first | omega | (intros; omega)) only [mp_c, ms_ne, mq_w, mq_y, mq_l, mq_f])
    | 8 => first | (exact absurd rfl hn) | (simp (disch := first | omega | (intros; omega)) only [mp_c, ms_ne, mq_w, mq_y, mq_l, mq_f])
    | 9 => first | (exact absurd rfl hn) | (simp (disch := first | omega | (intros; omega)) only [mp_c, ms_ne, mq_w, mq_y, mq_l, mq_f])
    | 10 => first | (exact absurd rfl hn) | (simp (disch := first | omega | (intros; omega)) only [mp_c, ms_ne, mq_w, mq_y, mq_l, mq_f])
    | 11 => first | (exact absurd rfl hn) | (simp (disch := first | omega | (intros; omega)) only [mp_c, ms_ne, mq_w, mq_y, mq_l, mq_f])
    | 12 => first | (exact absurd rfl hn) | (simp (disch := first | omega | (intros; omega)) only [mp_c, ms_ne, mq_w, mq_y, mq_l, mq_f])
    | 13 => first | (exact absurd rfl hn) | (simp (disch := first | omega | (intros; omega)) only [mp_c, ms_ne, mq_w, mq_y, mq_l, mq_f])
    | 14 => first | (exact absurd rfl hn) | (simp (disch := first | omega | (intros; omega)) only [mp_c, ms_ne, mq_w, mq_y, mq_l, mq_f])
    | 15 => first | (exact absurd rfl hn) | (simp (disch := first | omega | (intros; omega)) only [mp_c, ms_ne, mq_w, mq_y, mq_l, mq_f])
    | 16 => first | (exact absurd rfl hn) | (simp (disch := first | omega | (intros; omega)) only [mp_c, ms_ne, mq_w, mq_y, mq_l, mq_f])
    | n + 17 => omega)
theorem mpu_0_5 (hb : 0 ≤ R 0 ∧ R 0 ≤ 3 ∧ 0 ≤ R 1 ∧ R 1 ≤ 8 ∧ 0 ≤ R 2 ∧ R 2 ≤ 5) {v r3 r4 r6 r7 r8 : Int} (e3 : r3 = R 3) (e4 : r4 = R 4) (e6 : r6 = R 6) (e7 : r7 = R 7 - 1) (e8 : r8 = R 8) : ((ri_upd (mp B R Z σ).1 (B) (.inr (.inr (3, [.ref (B + 1), .ref (B + 8), .ref (B + 11), .int (Int32.ofInt r3), .int (Int32.ofInt r4), .int (Int32.ofInt v), .int (Int32.ofInt r6), .int (Int32.ofInt r7), .int (Int32.ofInt r8)]))), (mp B R Z σ).2) : ri_S) = mp B (mr_st R 5 v) (Z) σ :=
  mp_wr (o := 0) (by decide) (by subst e3 e4 e6 e7 e8; simp (disch := omega) only [mp_c, ms_eq, ms_ne]) (fun j hj hn => by
    match j with
    | 0 => first | (exact absurd rfl hn) | (simp (disch := first | omega | (intros; omega)) only [mp_c, ms_ne, mq_w, mq_y, mq_l, mq_f])
    | 1 => first | (exact absurd rfl hn) | (simp (disch := first | omega | (intros; omega)) only [mp_c, ms_ne, mq_w, mq_y, mq_l, mq_f])
    | 2 => first | (exact absurd rfl hn) | (simp (disch := first | omega | (intros; omega)) only [mp_c, ms_ne, mq_w, mq_y, mq_l, mq_f])
    | 3 => first | (exact absurd rfl hn) | (simp (disch := first | omega | (intros; omega)) only [mp_c, ms_ne, mq_w, mq_y, mq_l, mq_f])
    | 4 => first | (exact absurd rfl hn) | (simp (disch := first | omega | (intros; omega)) only [mp_c, ms_ne, mq_w, mq_y, mq_l, mq_f])
    | 5 => first | (exact absurd rfl hn) | (simp (disch := first | omega | (intros; omega)) only [mp_c, ms_ne, mq_w, mq_y, mq_l, mq_f])
    | 6 => first | (exact absurd rfl hn) | (simp (disch := first | omega | (intros; omega)) only [mp_c, ms_ne, mq_w, mq_y, mq_l, mq_f])
    | 7 => first | (exact absurd rfl hn) | (simp (disch := first | omega | (intros; omega)) only [mp_c, ms_ne, mq_w, mq_y, mq_l, mq_f])
    | 8 => first | (exact absurd rfl hn) | (simp (disch := first | omega | (intros; omega)) only [mp_c, ms_ne, mq_w, mq_y, mq_l, mq_f])
    | 9 => first | (exact absurd rfl hn) | (simp (disch := first | omega | (intros; omega)) only [mp_c, ms_ne, mq_w, mq_y, mq_l, mq_f])
    | 10 => first | (exact absurd rfl hn) | (simp (disch := first | omega | (intros; omega)) only [mp_c, ms_ne, mq_w, mq_y, mq_l, mq_f])
    | 11 => first | (exact absurd rfl hn) | (simp (disch := first | omega | (intros; omega)) only [mp_c, ms_ne, mq_w, mq_y, mq_l, mq_f])
    | 12 => first | (exact absurd rfl hn) | (simp (disch := first | omega | (intros; omega)) only [mp_c, ms_ne, mq_w, mq_y, mq_l, mq_f])
    | 13 => first | (exact absurd rfl hn) | (simp (disch := first | omega | (intros; omega)) only [mp_c, ms_ne, mq_w, mq_y, mq_l, mq_f])
    | 14 => first | (exact absurd rfl hn) | (simp (disch := first | omega | (intros; omega)) only [mp_c, ms_ne, mq_w, mq_y, mq_l, mq_f])
    | 15 => first | (exact absurd rfl hn) | (simp (disch := first | omega | (intros; omega)) only [mp_c, ms_ne, mq_w, mq_y, mq_l, mq_f])
    | 16 => first | (exact absurd rfl hn) | (simp (disch := first | omega | (intros; omega)) only [mp_c, ms_ne, mq_w, mq_y, mq_l, mq_f])
    | n + 17 => omega)
theorem mpu_0_6 (hb : 0 ≤ R 0 ∧ R 0 ≤ 3 ∧ 0 ≤ R 1 ∧ R 1 ≤ 8 ∧ 0 ≤ R 2 ∧ R 2 ≤ 5) {v r3 r4 r5 r7 r8 : Int} (e3 : r3 = R 3) (e4 : r4 = R 4) (e5 : r5 = R 5) (e7 : r7 = R 7 - 1) (e8 : r8 = R 8) : ((ri_upd (mp B R Z σ).1 (B) (.inr (.inr (3, [.ref (B + 1), .ref (B + 8), .ref (B + 11), .int (Int32.ofInt r3), .int (Int32.ofInt r4), .int (Int32.ofInt r5), .int (Int32.ofInt v), .int (Int32.ofInt r7), .int (Int32.ofInt r8)]))), (mp B R Z σ).2) : ri_S) = mp B (mr_st R 6 v) (Z) σ :=
  mp_wr (o := 0) (by decide) (by subst e3 e4 e5 e7 e8; simp (disch := omega) only [mp_c, ms_eq, ms_ne]) (fun j hj hn => by
    match j with
    | 0 => first | (exact absurd rfl hn) | (simp (disch := first | omega | (intros; omega)) only [mp_c, ms_ne, mq_w, mq_y, mq_l, mq_f])
    | 1 => first | (exact absurd rfl hn) | (simp (disch := first | omega | (intros; omega)) only [mp_c, ms_ne, mq_w, mq_y, mq_l, mq_f])
    | 2 => first | (exact absurd rfl hn) | (simp (disch := first | omega | (intros; omega)) only [mp_c, ms_ne, mq_w, mq_y, mq_l, mq_f])
    | 3 => first | (exact absurd rfl hn) | (simp (disch := first | omega | (intros; omega)) only [mp_c, ms_ne, mq_w, mq_y, mq_l, mq_f])
    | 4 => first | (exact absurd rfl hn) | (simp (disch := first | omega | (intros; omega)) only [mp_c, ms_ne, mq_w, mq_y, mq_l, mq_f])
    | 5 => first | (exact absurd rfl hn) | (simp (disch := first | omega | (intros; omega)) only [mp_c, ms_ne, mq_w, mq_y, mq_l, mq_f])
    | 6 => first | (exact absurd rfl hn) | (simp (disch := first | omega | (intros; omega)) only [mp_c, ms_ne, mq_w, mq_y, mq_l, mq_f])
    | 7 => first | (exact absurd rfl hn) | (simp (disch := first | omega | (intros; omega)) only [mp_c, ms_ne, mq_w, mq_y, mq_l, mq_f])
    | 8 => first | (exact absurd rfl hn) | (simp (disch := first | omega | (intros; omega)) only [mp_c, ms_ne, mq_w, mq_y, mq_l, mq_f])
    | 9 => first | (exact absurd rfl hn) | (simp (disch := first | omega | (intros; omega)) only [mp_c, ms_ne, mq_w, mq_y, mq_l, mq_f])
    | 10 => first | (exact absurd rfl hn) | (simp (disch := first | omega | (intros; omega)) only [mp_c, ms_ne, mq_w, mq_y, mq_l, mq_f])
    | 11 => first | (exact absurd rfl hn) | (simp (disch := first | omega | (intros; omega)) only [mp_c, ms_ne, mq_w, mq_y, mq_l, mq_f])
    | 12 => first | (exact absurd rfl hn) | (simp (disch := first | omega | (intros; omega)) only [mp_c, ms_ne, mq_w, mq_y, mq_l, mq_f])
    | 13 => first | (exact absurd rfl hn) | (simp (disch := first | omega | (intros; omega)) only [mp_c, ms_ne, mq_w, mq_y, mq_l, mq_f])
    | 14 => first | (exact absurd rfl hn) | (simp (disch := first | omega | (intros; omega)) only [mp_c, ms_ne, mq_w, mq_y, mq_l, mq_f])
    | 15 => first | (exact absurd rfl hn) | (simp (disch := first | omega | (intros; omega)) only [mp_c, ms_ne, mq_w, mq_y, mq_l, mq_f])
    | 16 => first | (exact absurd rfl hn) | (simp (disch := first | omega | (intros; omega)) only [mp_c, ms_ne, mq_w, mq_y, mq_l, mq_f])
    | n + 17 => omega)
theorem mpu_0_7 (hb : 0 ≤ R 0 ∧ R 0 ≤ 3 ∧ 0 ≤ R 1 ∧ R 1 ≤ 8 ∧ 0 ≤ R 2 ∧ R 2 ≤ 5) {v r3 r4 r5 r6 r8 : Int} (e3 : r3 = R 3) (e4 : r4 = R 4) (e5 : r5 = R 5) (e6 : r6 = R 6) (e8 : r8 = R 8) : ((ri_upd (mp B R Z σ).1 (B) (.inr (.inr (3, [.ref (B + 1), .ref (B + 8), .ref (B + 11), .int (Int32.ofInt r3), .int (Int32.ofInt r4), .int (Int32.ofInt r5), .int (Int32.ofInt r6), .int (Int32.ofInt v), .int (Int32.ofInt r8)]))), (mp B R Z σ).2) : ri_S) = mp B (mr_st R 7 (v + 1)) (Z) σ :=
  mp_wr (o := 0) (by decide) (by subst e3 e4 e5 e6 e8; simp (disch := omega) only [mp_c, ms_eq, ms_ne, show ∀ v : Int, v + 1 - 1 = v from fun v => by omega]) (fun j hj hn => by
    match j with
    | 0 => first | (exact absurd rfl hn) | (simp (disch := first | omega | (intros; omega)) only [mp_c, ms_ne, mq_w, mq_y, mq_l, mq_f])
    | 1 => first | (exact absurd rfl hn) | (simp (disch := first | omega | (intros; omega)) only [mp_c, ms_ne, mq_w, mq_y, mq_l, mq_f])
    | 2 => first | (exact absurd rfl hn) | (simp (disch := first | omega | (intros; omega)) only [mp_c, ms_ne, mq_w, mq_y, mq_l, mq_f])
    | 3 => first | (exact absurd rfl hn) | (simp (disch := first | omega | (intros; omega)) only [mp_c, ms_ne, mq_w, mq_y, mq_l, mq_f])
    | 4 => first | (exact absurd rfl hn) | (simp (disch := first | omega | (intros; omega)) only [mp_c, ms_ne, mq_w, mq_y, mq_l, mq_f])
    | 5 => first | (exact absurd rfl hn) | (simp (disch := first | omega | (intros; omega)) only [mp_c, ms_ne, mq_w, mq_y, mq_l, mq_f])
    | 6 => first | (exact absurd rfl hn) | (simp (disch := first | omega | (intros; omega)) only [mp_c, ms_ne, mq_w, mq_y, mq_l, mq_f])
    | 7 => first | (exact absurd rfl hn) | (simp (disch := first | omega | (intros; omega)) only [mp_c, ms_ne, mq_w, mq_y, mq_l, mq_f])
    | 8 => first | (exact absurd rfl hn) | (simp (disch := first | omega | (intros; omega)) only [mp_c, ms_ne, mq_w, mq_y, mq_l, mq_f])
    | 9 => first | (exact absurd rfl hn) | (simp (disch := first | omega | (intros; omega)) only [mp_c, ms_ne, mq_w, mq_y, mq_l, mq_f])
    | 10 => first | (exact absurd rfl hn) | (simp (disch := first | omega | (intros; omega)) only [mp_c, ms_ne, mq_w, mq_y, mq_l, mq_f])
    | 11 => first | (exact absurd rfl hn) | (simp (disch := first | omega | (intros; omega)) only [mp_c, ms_ne, mq_w, mq_y, mq_l, mq_f])
    | 12 => first | (exact absurd rfl hn) | (simp (disch := first | omega | (intros; omega)) only [mp_c, ms_ne, mq_w, mq_y, mq_l, mq_f])
    | 13 => first | (exact absurd rfl hn) | (simp (disch := first | omega | (intros; omega)) only [mp_c, ms_ne, mq_w, mq_y, mq_l, mq_f])
    | 14 => first | (exact absurd rfl hn) | (simp (disch := first | omega | (intros; omega)) only [mp_c, ms_ne, mq_w, mq_y, mq_l, mq_f])
    | 15 => first | (exact absurd rfl hn) | (simp (disch := first | omega | (intros; omega)) only [mp_c, ms_ne, mq_w, mq_y, mq_l, mq_f])
    | 16 => first | (exact absurd rfl hn) | (simp (disch := first | omega | (intros; omega)) only [mp_c, ms_ne, mq_w, mq_y, mq_l, mq_f])
    | n + 17 => omega)
theorem mpu_0_8 (hb : 0 ≤ R 0 ∧ R 0 ≤ 3 ∧ 0 ≤ R 1 ∧ R 1 ≤ 8 ∧ 0 ≤ R 2 ∧ R 2 ≤ 5) {v r3 r4 r5 r6 r7 : Int} (e3 : r3 = R 3) (e4 : r4 = R 4) (e5 : r5 = R 5) (e6 : r6 = R 6) (e7 : r7 = R 7 - 1) : ((ri_upd (mp B R Z σ).1 (B) (.inr (.inr (3, [.ref (B + 1), .ref (B + 8), .ref (B + 11), .int (Int32.ofInt r3), .int (Int32.ofInt r4), .int (Int32.ofInt r5), .int (Int32.ofInt r6), .int (Int32.ofInt r7), .int (Int32.ofInt v)]))), (mp B R Z σ).2) : ri_S) = mp B (mr_st R 8 v) (Z) σ :=
  mp_wr (o := 0) (by decide) (by subst e3 e4 e5 e6 e7; simp (disch := omega) only [mp_c, ms_eq, ms_ne]) (fun j hj hn => by
    match j with
    | 0 => first | (exact absurd rfl hn) | (simp (disch := first | omega | (intros; omega)) only [mp_c, ms_ne, mq_w, mq_y, mq_l, mq_f])
    | 1 => first | (exact absurd rfl hn) | (simp (disch := first | omega | (intros; omega)) only [mp_c, ms_ne, mq_w, mq_y, mq_l, mq_f])
    | 2 => first | (exact absurd rfl hn) | (simp (disch := first | omega | (intros; omega)) only [mp_c, ms_ne, mq_w, mq_y, mq_l, mq_f])
    | 3 => first | (exact absurd rfl hn) | (simp (disch := first | omega | (intros; omega)) only [mp_c, ms_ne, mq_w, mq_y, mq_l, mq_f])
    | 4 => first | (exact absurd rfl hn) | (simp (disch := first | omega | (intros; omega)) only [mp_c, ms_ne, mq_w, mq_y, mq_l, mq_f])
    | 5 => first | (exact absurd rfl hn) | (simp (disch := first | omega | (intros; omega)) only [mp_c, ms_ne, mq_w, mq_y, mq_l, mq_f])
    | 6 => first | (exact absurd rfl hn) | (simp (disch := first | omega | (intros; omega)) only [mp_c, ms_ne, mq_w, mq_y, mq_l, mq_f])
    | 7 => first | (exact absurd rfl hn) | (simp (disch := first | omega | (intros; omega)) only [mp_c, ms_ne, mq_w, mq_y, mq_l, mq_f])
    | 8 => first | (exact absurd rfl hn) | (simp (disch := first | omega | (intros; omega)) only [mp_c, ms_ne, mq_w, mq_y, mq_l, mq_f])
    | 9 => first | (exact absurd rfl hn) | (simp (disch := first | omega | (intros; omega)) only [mp_c, ms_ne, mq_w, mq_y, mq_l, mq_f])
    | 10 => first | (exact absurd rfl hn) | (simp (disch := first | omega | (intros; omega)) only [mp_c, ms_ne, mq_w, mq_y, mq_l, mq_f])
    | 11 => first | (exact absurd rfl hn) | (simp (disch := first | omega | (intros; omega)) only [mp_c, ms_ne, mq_w, mq_y, mq_l, mq_f])
    | 12 => first | (exact absurd rfl hn) | (simp (disch := first | omega | (intros; omega)) only [mp_c, ms_ne, mq_w, mq_y, mq_l, mq_f])
    | 13 => first | (exact absurd rfl hn) | (simp (disch := first | omega | (intros; omega)) only [mp_c, ms_ne, mq_w, mq_y, mq_l, mq_f])
    | 14 => first | (exact absurd rfl hn) | (simp (disch := first | omega | (intros; omega)) only [mp_c, ms_ne, mq_w, mq_y, mq_l, mq_f])
    | 15 => first | (exact absurd rfl hn) | (simp (disch := first | omega | (intros; omega)) only [mp_c, ms_ne, mq_w, mq_y, mq_l, mq_f])
    | 16 => first | (exact absurd rfl hn) | (simp (disch := first | omega | (intros; omega)) only [mp_c, ms_ne, mq_w, mq_y, mq_l, mq_f])
    | n + 17 => omega)
theorem mpu_2 (hb : 0 ≤ R 0 ∧ R 0 ≤ 3 ∧ 0 ≤ R 1 ∧ R 1 ≤ 8 ∧ 0 ≤ R 2 ∧ R 2 ≤ 5) {w v : Int} (h1 : 0 ≤ w) (h2 : w < R 0) : ((ri_upd (mp B R Z σ).1 (B + 2) (.inl (0, 3, mr_ar (mr_st (mp_w R Z 0) w v))), (mp B R Z σ).2) : ri_S) = mp B (mr_st R (9 + 10 * w + 0) v) (Z) σ :=
  mp_wr (o := 2) (by decide) (by
    simp only [mp_c]
    refine congrArg (fun f => (some (Sum.inl (0, 3, f)) : Option ri_El)) (funext fun j => ?_)
    rw [ma_st]
    unfold mr_ar mp_w
    by_cases e : (j : Int) = w
    · rw [if_pos e]
      simp (disch := omega) only [ms_ne]
      rw [if_pos (by omega), ms_eq (by omega)]
    · rw [if_neg e]
      simp (disch := omega) only [ms_ne]) (fun j hj hn => by
    match j with
    | 0 => first | (exact absurd rfl hn) | (simp (disch := first | omega | (intros; omega)) only [mp_c, ms_ne, mq_w, mq_y, mq_l, mq_f])
    | 1 => first | (exact absurd rfl hn) | (simp (disch := first | omega | (intros; omega)) only [mp_c, ms_ne, mq_w, mq_y, mq_l, mq_f])
    | 2 => first | (exact absurd rfl hn) | (simp (disch := first | omega | (intros; omega)) only [mp_c, ms_ne, mq_w, mq_y, mq_l, mq_f])
    | 3 => first | (exact absurd rfl hn) | (simp (disch := first | omega | (intros; omega)) only [mp_c, ms_ne, mq_w, mq_y, mq_l, mq_f])
    | 4 => first | (exact absurd rfl hn) | (simp (disch := first | omega | (intros; omega)) only [mp_c, ms_ne, mq_w, mq_y, mq_l, mq_f])
    | 5 => first | (exact absurd rfl hn) | (simp (disch := first | omega | (intros; omega)) only [mp_c, ms_ne, mq_w, mq_y, mq_l, mq_f])
    | 6 => first | (exact absurd rfl hn) | (simp (disch := first | omega | (intros; omega)) only [mp_c, ms_ne, mq_w, mq_y, mq_l, mq_f])
    | 7 => first | (exact absurd rfl hn) | (simp (disch := first | omega | (intros; omega)) only [mp_c, ms_ne, mq_w, mq_y, mq_l, mq_f])
    | 8 => first | (exact absurd rfl hn) | (simp (disch := first | omega | (intros; omega)) only [mp_c, ms_ne, mq_w, mq_y, mq_l, mq_f])
    | 9 => first | (exact absurd rfl hn) | (simp (disch := first | omega | (intros; omega)) only [mp_c, ms_ne, mq_w, mq_y, mq_l, mq_f])
    | 10 => first | (exact absurd rfl hn) | (simp (disch := first | omega | (intros; omega)) only [mp_c, ms_ne, mq_w, mq_y, mq_l, mq_f])
    | 11 => first | (exact absurd rfl hn) | (simp (disch := first | omega | (intros; omega)) only [mp_c, ms_ne, mq_w, mq_y, mq_l, mq_f])
    | 12 => first | (exact absurd rfl hn) | (simp (disch := first | omega | (intros; omega)) only [mp_c, ms_ne, mq_w, mq_y, mq_l, mq_f])
    | 13 => first | (exact absurd rfl hn) | (simp (disch := first | omega | (intros; omega)) only [mp_c, ms_ne, mq_w, mq_y, mq_l, mq_f])
    | 14 => first | (exact absurd rfl hn) | (simp (disch := first | omega | (intros; omega)) only [mp_c, ms_ne, mq_w, mq_y, mq_l, mq_f])
    | 15 => first | (exact absurd rfl hn) | (simp (disch := first | omega | (intros; omega)) only [mp_c, ms_ne, mq_w, mq_y, mq_l, mq_f])
    | 16 => first | (exact absurd rfl hn) | (simp (disch := first | omega | (intros; omega)) only [mp_c, ms_ne, mq_w, mq_y, mq_l, mq_f])
    | n + 17 => omega)
theorem mpu_3 (hb : 0 ≤ R 0 ∧ R 0 ≤ 3 ∧ 0 ≤ R 1 ∧ R 1 ≤ 8 ∧ 0 ≤ R 2 ∧ R 2 ≤ 5) {w v : Int} (h1 : 0 ≤ w) (h2 : w < R 0) : ((ri_upd (mp B R Z σ).1 (B + 3) (.inl (0, 3, mr_ar (mr_st (mp_w R Z 1) w v))), (mp B R Z σ).2) : ri_S) = mp B (mr_st R (9 + 10 * w + 1) v) (Z) σ :=
  mp_wr (o := 3) (by decide) (by
    simp only [mp_c]
    refine congrArg (fun f => (some (Sum.inl (0, 3, f)) : Option ri_El)) (funext fun j => ?_)
    rw [ma_st]
    unfold mr_ar mp_w
    by_cases e : (j : Int) = w
    · rw [if_pos e]
      simp (disch := omega) only [ms_ne]
      rw [if_pos (by omega), ms_eq (by omega)]
    · rw [if_neg e]
      simp (disch := omega) only [ms_ne]) (fun j hj hn => by
    match j with
    | 0 => first | (exact absurd rfl hn) | (simp (disch := first | omega | (intros; omega)) only [mp_c, ms_ne, mq_w, mq_y, mq_l, mq_f])
    | 1 => first | (exact absurd rfl hn) | (simp (disch := first | omega | (intros; omega)) only [mp_c, ms_ne, mq_w, mq_y, mq_l, mq_f])
    | 2 => first | (exact absurd rfl hn) | (simp (disch := first | omega | (intros; omega)) only [mp_c, ms_ne, mq_w, mq_y, mq_l, mq_f])
    | 3 => first | (exact absurd rfl hn) | (simp (disch := first | omega | (intros; omega)) only [mp_c, ms_ne, mq_w, mq_y, mq_l, mq_f])
    | 4 => first | (exact absurd rfl hn) | (simp (disch := first | omega | (intros; omega)) only [mp_c, ms_ne, mq_w, mq_y, mq_l, mq_f])
    | 5 => first | (exact absurd rfl hn) | (simp (disch := first | omega | (intros; omega)) only [mp_c, ms_ne, mq_w, mq_y, mq_l, mq_f])
    | 6 => first | (exact absurd rfl hn) | (simp (disch := first | omega | (intros; omega)) only [mp_c, ms_ne, mq_w, mq_y, mq_l, mq_f])
    | 7 => first | (exact absurd rfl hn) | (simp (disch := first | omega | (intros; omega)) only [mp_c, ms_ne, mq_w, mq_y, mq_l, mq_f])
    | 8 => first | (exact absurd rfl hn) | (simp (disch := first | omega | (intros; omega)) only [mp_c, ms_ne, mq_w, mq_y, mq_l, mq_f])
    | 9 => first | (exact absurd rfl hn) | (simp (disch := first | omega | (intros; omega)) only [mp_c, ms_ne, mq_w, mq_y, mq_l, mq_f])
    | 10 => first | (exact absurd rfl hn) | (simp (disch := first | omega | (intros; omega)) only [mp_c, ms_ne, mq_w, mq_y, mq_l, mq_f])
    | 11 => first | (exact absurd rfl hn) | (simp (disch := first | omega | (intros; omega)) only [mp_c, ms_ne, mq_w, mq_y, mq_l, mq_f])
    | 12 => first | (exact absurd rfl hn) | (simp (disch := first | omega | (intros; omega)) only [mp_c, ms_ne, mq_w, mq_y, mq_l, mq_f])
    | 13 => first | (exact absurd rfl hn) | (simp (disch := first | omega | (intros; omega)) only [mp_c, ms_ne, mq_w, mq_y, mq_l, mq_f])
    | 14 => first | (exact absurd rfl hn) | (simp (disch := first | omega | (intros; omega)) only [mp_c, ms_ne, mq_w, mq_y, mq_l, mq_f])
    | 15 => first | (exact absurd rfl hn) | (simp (disch := first | omega | (intros; omega)) only [mp_c, ms_ne, mq_w, mq_y, mq_l, mq_f])
    | 16 => first | (exact absurd rfl hn) | (simp (disch := first | omega | (intros; omega)) only [mp_c, ms_ne, mq_w, mq_y, mq_l, mq_f])
    | n + 17 => omega)
theorem mpu_4 (hb : 0 ≤ R 0 ∧ R 0 ≤ 3 ∧ 0 ≤ R 1 ∧ R 1 ≤ 8 ∧ 0 ≤ R 2 ∧ R 2 ≤ 5) {w v : Int} (h1 : 0 ≤ w) (h2 : w < R 0) : ((ri_upd (mp B R Z σ).1 (B + 4) (.inl (0, 3, mr_ar (mr_st (mp_w R Z 2) w v))), (mp B R Z σ).2) : ri_S) = mp B (mr_st R (9 + 10 * w + 2) v) (Z) σ :=
  mp_wr (o := 4) (by decide) (by
    simp only [mp_c]
    refine congrArg (fun f => (some (Sum.inl (0, 3, f)) : Option ri_El)) (funext fun j => ?_)
    rw [ma_st]
    unfold mr_ar mp_w
    by_cases e : (j : Int) = w
    · rw [if_pos e]
      simp (disch := omega) only [ms_ne]
      rw [if_pos (by omega), ms_eq (by omega)]
    · rw [if_neg e]
      simp (disch := omega) only [ms_ne]) (fun j hj hn => by
    match j with
    | 0 => first | (exact absurd rfl hn) | (simp (disch := first | omega | (intros; omega)) only [mp_c, ms_ne, mq_w, mq_y, mq_l, mq_f])
    | 1 => first | (exact absurd rfl hn) | (simp (disch := first | omega | (intros; omega)) only [mp_c, ms_ne, mq_w, mq_y, mq_l, mq_f])
    | 2 => first | (exact absurd rfl hn) | (simp (disch := first | omega | (intros; omega)) only [mp_c, ms_ne, mq_w, mq_y, mq_l, mq_f])
    | 3 => first | (exact absurd rfl hn) | (simp (disch := first | omega | (intros; omega)) only [mp_c, ms_ne, mq_w, mq_y, mq_l, mq_f])
    | 4 => first | (exact absurd rfl hn) | (simp (disch := first | omega | (intros; omega)) only [mp_c, ms_ne, mq_w, mq_y, mq_l, mq_f])
    | 5 => first | (exact absurd rfl hn) | (simp (disch := first | omega | (intros; omega)) only [mp_c, ms_ne, mq_w, mq_y, mq_l, mq_f])
    | 6 => first | (exact absurd rfl hn) | (simp (disch := first | omega | (intros; omega)) only [mp_c, ms_ne, mq_w, mq_y, mq_l, mq_f])
    | 7 => first | (exact absurd rfl hn) | (simp (disch := first | omega | (intros; omega)) only [mp_c, ms_ne, mq_w, mq_y, mq_l, mq_f])
    | 8 => first | (exact absurd rfl hn) | (simp (disch := first | omega | (intros; omega)) only [mp_c, ms_ne, mq_w, mq_y, mq_l, mq_f])
    | 9 => first | (exact absurd rfl hn) | (simp (disch := first | omega | (intros; omega)) only [mp_c, ms_ne, mq_w, mq_y, mq_l, mq_f])
    | 10 => first | (exact absurd rfl hn) | (simp (disch := first | omega | (intros; omega)) only [mp_c, ms_ne, mq_w, mq_y, mq_l, mq_f])
    | 11 => first | (exact absurd rfl hn) | (simp (disch := first | omega | (intros; omega)) only [mp_c, ms_ne, mq_w, mq_y, mq_l, mq_f])
    | 12 => first | (exact absurd rfl hn) | (simp (disch := first | omega | (intros; omega)) only [mp_c, ms_ne, mq_w, mq_y, mq_l, mq_f])
    | 13 => first | (exact absurd rfl hn) | (simp (disch := first | omega | (intros; omega)) only [mp_c, ms_ne, mq_w, mq_y, mq_l, mq_f])
    | 14 => first | (exact absurd rfl hn) | (simp (disch := first | omega | (intros; omega)) only [mp_c, ms_ne, mq_w, mq_y, mq_l, mq_f])
    | 15 => first | (exact absurd rfl hn) | (simp (disch := first | omega | (intros; omega)) only [mp_c, ms_ne, mq_w, mq_y, mq_l, mq_f])
    | 16 => first | (exact absurd rfl hn) | (simp (disch := first | omega | (intros; omega)) only [mp_c, ms_ne, mq_w, mq_y, mq_l, mq_f])
    | n + 17 => omega)
theorem mpu_5 (hb : 0 ≤ R 0 ∧ R 0 ≤ 3 ∧ 0 ≤ R 1 ∧ R 1 ≤ 8 ∧ 0 ≤ R 2 ∧ R 2 ≤ 5) {w v : Int} (h1 : 0 ≤ w) (h2 : w < R 0) : ((ri_upd (mp B R Z σ).1 (B + 5) (.inl (0, 3, mr_ar (mr_st (mp_w R Z 3) w v))), (mp B R Z σ).2) : ri_S) = mp B (mr_st R (9 + 10 * w + 3) v) (Z) σ :=
  mp_wr (o := 5) (by decide) (by
    simp only [mp_c]
    refine congrArg (fun f => (some (Sum.inl (0, 3, f)) : Option ri_El)) (funext fun j => ?_)
    rw [ma_st]
    unfold mr_ar mp_w
    by_cases e : (j : Int) = w
    · rw [if_pos e]
      simp (disch := omega) only [ms_ne]
      rw [if_pos (by omega), ms_eq (by omega)]
    · rw [if_neg e]
      simp (disch := omega) only [ms_ne]) (fun j hj hn => by
    match j with
    | 0 => first | (exact absurd rfl hn) | (simp (disch := first | omega | (intros; omega)) only [mp_c, ms_ne, mq_w, mq_y, mq_l, mq_f])
    | 1 => first | (exact absurd rfl hn) | (simp (disch := first | omega | (intros; omega)) only [mp_c, ms_ne, mq_w, mq_y, mq_l, mq_f])
    | 2 => first | (exact absurd rfl hn) | (simp (disch := first | omega | (intros; omega)) only [mp_c, ms_ne, mq_w, mq_y, mq_l, mq_f])
    | 3 => first | (exact absurd rfl hn) | (simp (disch := first | omega | (intros; omega)) only [mp_c, ms_ne, mq_w, mq_y, mq_l, mq_f])
    | 4 => first | (exact absurd rfl hn) | (simp (disch := first | omega | (intros; omega)) only [mp_c, ms_ne, mq_w, mq_y, mq_l, mq_f])
    | 5 => first | (exact absurd rfl hn) | (simp (disch := first | omega | (intros; omega)) only [mp_c, ms_ne, mq_w, mq_y, mq_l, mq_f])
    | 6 => first | (exact absurd rfl hn) | (simp (disch := first | omega | (intros; omega)) only [mp_c, ms_ne, mq_w, mq_y, mq_l, mq_f])
    | 7 => first | (exact absurd rfl hn) | (simp (disch := first | omega | (intros; omega)) only [mp_c, ms_ne, mq_w, mq_y, mq_l, mq_f])
    | 8 => first | (exact absurd rfl hn) | (simp (disch := first | omega | (intros; omega)) only [mp_c, ms_ne, mq_w, mq_y, mq_l, mq_f])
    | 9 => first | (exact absurd rfl hn) | (simp (disch := first | omega | (intros; omega)) only [mp_c, ms_ne, mq_w, mq_y, mq_l, mq_f])
    | 10 => first | (exact absurd rfl hn) | (simp (disch := first | omega | (intros; omega)) only [mp_c, ms_ne, mq_w, mq_y, mq_l, mq_f])
    | 11 => first | (exact absurd rfl hn) | (simp (disch := first | omega | (intros; omega)) only [mp_c, ms_ne, mq_w, mq_y, mq_l, mq_f])
    | 12 => first | (exact absurd rfl hn) | (simp (disch := first | omega | (intros; omega)) only [mp_c, ms_ne, mq_w, mq_y, mq_l, mq_f])
    | 13 => first | (exact absurd rfl hn) | (simp (disch := first | omega | (intros; omega)) only [mp_c, ms_ne, mq_w, mq_y, mq_l, mq_f])
    | 14 => first | (exact absurd rfl hn) | (simp (disch := first | omega | (intros; omega)) only [mp_c, ms_ne, mq_w, mq_y, mq_l, mq_f])
    | 15 => first | (exact absurd rfl hn) | (simp (disch := first | omega | (intros; omega)) only [mp_c, ms_ne, mq_w, mq_y, mq_l, mq_f])
    | 16 => first | (exact absurd rfl hn) | (simp (disch := first | omega | (intros; omega)) only [mp_c, ms_ne, mq_w, mq_y, mq_l, mq_f])
    | n + 17 => omega)
theorem mpu_6 (hb : 0 ≤ R 0 ∧ R 0 ≤ 3 ∧ 0 ≤ R 1 ∧ R 1 ≤ 8 ∧ 0 ≤ R 2 ∧ R 2 ≤ 5) {w v : Int} (h1 : 0 ≤ w) (h2 : w < R 0) : ((ri_upd (mp B R Z σ).1 (B + 6) (.inl (0, 3, mr_ar (mr_st (mp_w R Z 4) w v))), (mp B R Z σ).2) : ri_S) = mp B (mr_st R (9 + 10 * w + 4) v) (Z) σ :=
  mp_wr (o := 6) (by decide) (by
    simp only [mp_c]
    refine congrArg (fun f => (some (Sum.inl (0, 3, f)) : Option ri_El)) (funext fun j => ?_)
    rw [ma_st]
    unfold mr_ar mp_w
    by_cases e : (j : Int) = w
    · rw [if_pos e]
      simp (disch := omega) only [ms_ne]
      rw [if_pos (by omega), ms_eq (by omega)]
    · rw [if_neg e]
      simp (disch := omega) only [ms_ne]) (fun j hj hn => by
    match j with
    | 0 => first | (exact absurd rfl hn) | (simp (disch := first | omega | (intros; omega)) only [mp_c, ms_ne, mq_w, mq_y, mq_l, mq_f])
    | 1 => first | (exact absurd rfl hn) | (simp (disch := first | omega | (intros; omega)) only [mp_c, ms_ne, mq_w, mq_y, mq_l, mq_f])
    | 2 => first | (exact absurd rfl hn) | (simp (disch := first | omega | (intros; omega)) only [mp_c, ms_ne, mq_w, mq_y, mq_l, mq_f])
    | 3 => first | (exact absurd rfl hn) | (simp (disch := first | omega | (intros; omega)) only [mp_c, ms_ne, mq_w, mq_y, mq_l, mq_f])
    | 4 => first | (exact absurd rfl hn) | (simp (disch := first | omega | (intros; omega)) only [mp_c, ms_ne, mq_w, mq_y, mq_l, mq_f])
    | 5 => first | (exact absurd rfl hn) | (simp (disch := first | omega | (intros; omega)) only [mp_c, ms_ne, mq_w, mq_y, mq_l, mq_f])
    | 6 => first | (exact absurd rfl hn) | (simp (disch := first | omega | (intros; omega)) only [mp_c, ms_ne, mq_w, mq_y, mq_l, mq_f])
    | 7 => first | (exact absurd rfl hn) | (simp (disch := first | omega | (intros; omega)) only [mp_c, ms_ne, mq_w, mq_y, mq_l, mq_f])
    | 8 => first | (exact absurd rfl hn) | (simp (disch := first | omega | (intros; omega)) only [mp_c, ms_ne, mq_w, mq_y, mq_l, mq_f])
    | 9 => first | (exact absurd rfl hn) | (simp (disch := first | omega | (intros; omega)) only [mp_c, ms_ne, mq_w, mq_y, mq_l, mq_f])
    | 10 => first | (exact absurd rfl hn) | (simp (disch := first | omega | (intros; omega)) only [mp_c, ms_ne, mq_w, mq_y, mq_l, mq_f])
    | 11 => first | (exact absurd rfl hn) | (simp (disch := first | omega | (intros; omega)) only [mp_c, ms_ne, mq_w, mq_y, mq_l, mq_f])
    | 12 => first | (exact absurd rfl hn) | (simp (disch := first | omega | (intros; omega)) only [mp_c, ms_ne, mq_w, mq_y, mq_l, mq_f])
    | 13 => first | (exact absurd rfl hn) | (simp (disch := first | omega | (intros; omega)) only [mp_c, ms_ne, mq_w, mq_y, mq_l, mq_f])
    | 14 => first | (exact absurd rfl hn) | (simp (disch := first | omega | (intros; omega)) only [mp_c, ms_ne, mq_w, mq_y, mq_l, mq_f])
    | 15 => first | (exact absurd rfl hn) | (simp (disch := first | omega | (intros; omega)) only [mp_c, ms_ne, mq_w, mq_y, mq_l, mq_f])
    | 16 => first | (exact absurd rfl hn) | (simp (disch := first | omega | (intros; omega)) only [mp_c, ms_ne, mq_w, mq_y, mq_l, mq_f])
    | n + 17 => omega)
theorem mpu_7 (hb : 0 ≤ R 0 ∧ R 0 ≤ 3 ∧ 0 ≤ R 1 ∧ R 1 ≤ 8 ∧ 0 ≤ R 2 ∧ R 2 ≤ 5) {w p v : Int} (h1 : 0 ≤ w) (h2 : w < R 0) (h3 : 0 ≤ p) (h4 : p < 5) : ((ri_upd (mp B R Z σ).1 (B + 7) (.inl (0, 15, mr_ar (mr_st (mp_y R Z) (w * 5 + p) v))), (mp B R Z σ).2) : ri_S) = mp B (mr_st R (9 + 10 * w + 5 + p) v) (Z) σ :=
  mp_wr (o := 7) (by decide) (by
    simp only [mp_c]
    refine congrArg (fun f => (some (Sum.inl (0, 15, f)) : Option ri_El)) (funext fun j => ?_)
    rw [ma_st]
    unfold mr_ar mp_y
    by_cases e : (j : Int) = w * 5 + p
    · rw [if_pos e]
      simp (disch := omega) only [ms_ne]
      rw [if_pos (by omega), ms_eq (by omega)]
    · rw [if_neg e]
      simp (disch := omega) only [ms_ne]) (fun j hj hn => by
    match j with
    | 0 => first | (exact absurd rfl hn) | (simp (disch := first | omega | (intros; omega)) only [mp_c, ms_ne, mq_w, mq_y, mq_l, mq_f])
    | 1 => first | (exact absurd rfl hn) | (simp (disch := first | omega | (intros; omega)) only [mp_c, ms_ne, mq_w, mq_y, mq_l, mq_f])
    | 2 => first | (exact absurd rfl hn) | (simp (disch := first | omega | (intros; omega)) only [mp_c, ms_ne, mq_w, mq_y, mq_l, mq_f])
    | 3 => first | (exact absurd rfl hn) | (simp (disch := first | omega | (intros; omega)) only [mp_c, ms_ne, mq_w, mq_y, mq_l, mq_f])
    | 4 => first | (exact absurd rfl hn) | (simp (disch := first | omega | (intros; omega)) only [mp_c, ms_ne, mq_w, mq_y, mq_l, mq_f])
    | 5 => first | (exact absurd rfl hn) | (simp (disch := first | omega | (intros; omega)) only [mp_c, ms_ne, mq_w, mq_y, mq_l, mq_f])
    | 6 => first | (exact absurd rfl hn) | (simp (disch := first | omega | (intros; omega)) only [mp_c, ms_ne, mq_w, mq_y, mq_l, mq_f])
    | 7 => first | (exact absurd rfl hn) | (simp (disch := first | omega | (intros; omega)) only [mp_c, ms_ne, mq_w, mq_y, mq_l, mq_f])
    | 8 => first | (exact absurd rfl hn) | (simp (disch := first | omega | (intros; omega)) only [mp_c, ms_ne, mq_w, mq_y, mq_l, mq_f])
    | 9 => first | (exact absurd rfl hn) | (simp (disch := first | omega | (intros; omega)) only [mp_c, ms_ne, mq_w, mq_y, mq_l, mq_f])
    | 10 => first | (exact absurd rfl hn) | (simp (disch := first | omega | (intros; omega)) only [mp_c, ms_ne, mq_w, mq_y, mq_l, mq_f])
    | 11 => first | (exact absurd rfl hn) | (simp (disch := first | omega | (intros; omega)) only [mp_c, ms_ne, mq_w, mq_y, mq_l, mq_f])
    | 12 => first | (exact absurd rfl hn) | (simp (disch := first | omega | (intros; omega)) only [mp_c, ms_ne, mq_w, mq_y, mq_l, mq_f])
    | 13 => first | (exact absurd rfl hn) | (simp (disch := first | omega | (intros; omega)) only [mp_c, ms_ne, mq_w, mq_y, mq_l, mq_f])
    | 14 => first | (exact absurd rfl hn) | (simp (disch := first | omega | (intros; omega)) only [mp_c, ms_ne, mq_w, mq_y, mq_l, mq_f])
    | 15 => first | (exact absurd rfl hn) | (simp (disch := first | omega | (intros; omega)) only [mp_c, ms_ne, mq_w, mq_y, mq_l, mq_f])
    | 16 => first | (exact absurd rfl hn) | (simp (disch := first | omega | (intros; omega)) only [mp_c, ms_ne, mq_w, mq_y, mq_l, mq_f])
    | n + 17 => omega)
theorem mpu_12 (hb : 0 ≤ R 0 ∧ R 0 ≤ 3 ∧ 0 ≤ R 1 ∧ R 1 ≤ 8 ∧ 0 ≤ R 2 ∧ R 2 ≤ 5) {f v : Int} (h1 : 0 ≤ f) (h2 : f < R 2) : ((ri_upd (mp B R Z σ).1 (B + 12) (.inl (0, 5, mr_ar (mr_st (mp_f R Z 0) f v))), (mp B R Z σ).2) : ri_S) = mp B (mr_st R (71 + 5 * f + 0) v) (Z) σ :=
  mp_wr (o := 12) (by decide) (by
    simp only [mp_c]
    refine congrArg (fun f => (some (Sum.inl (0, 5, f)) : Option ri_El)) (funext fun j => ?_)
    rw [ma_st]
    unfold mr_ar mp_f
    by_cases e : (j : Int) = f
    · rw [if_pos e]
      simp (disch := omega) only [ms_ne]
      rw [if_pos (by omega), ms_eq (by omega)]
    · rw [if_neg e]
      simp (disch := omega) only [ms_ne]) (fun j hj hn => by
    match j with
    | 0 => first | (exact absurd rfl hn) | (simp (disch := first | omega | (intros; omega)) only [mp_c, ms_ne, mq_w, mq_y, mq_l, mq_f])
    | 1 => first | (exact absurd rfl hn) | (simp (disch := first | omega | (intros; omega)) only [mp_c, ms_ne, mq_w, mq_y, mq_l, mq_f])
    | 2 => first | (exact absurd rfl hn) | (simp (disch := first | omega | (intros; omega)) only [mp_c, ms_ne, mq_w, mq_y, mq_l, mq_f])
    | 3 => first | (exact absurd rfl hn) | (simp (disch := first | omega | (intros; omega)) only [mp_c, ms_ne, mq_w, mq_y, mq_l, mq_f])
    | 4 => first | (exact absurd rfl hn) | (simp (disch := first | omega | (intros; omega)) only [mp_c, ms_ne, mq_w, mq_y, mq_l, mq_f])
    | 5 => first | (exact absurd rfl hn) | (simp (disch := first | omega | (intros; omega)) only [mp_c, ms_ne, mq_w, mq_y, mq_l, mq_f])
    | 6 => first | (exact absurd rfl hn) | (simp (disch := first | omega | (intros; omega)) only [mp_c, ms_ne, mq_w, mq_y, mq_l, mq_f])
    | 7 => first | (exact absurd rfl hn) | (simp (disch := first | omega | (intros; omega)) only [mp_c, ms_ne, mq_w, mq_y, mq_l, mq_f])
    | 8 => first | (exact absurd rfl hn) | (simp (disch := first | omega | (intros; omega)) only [mp_c, ms_ne, mq_w, mq_y, mq_l, mq_f])
    | 9 => first | (exact absurd rfl hn) | (simp (disch := first | omega | (intros; omega)) only [mp_c, ms_ne, mq_w, mq_y, mq_l, mq_f])
    | 10 => first | (exact absurd rfl hn) | (simp (disch := first | omega | (intros; omega)) only [mp_c, ms_ne, mq_w, mq_y, mq_l, mq_f])
    | 11 => first | (exact absurd rfl hn) | (simp (disch := first | omega | (intros; omega)) only [mp_c, ms_ne, mq_w, mq_y, mq_l, mq_f])
    | 12 => first | (exact absurd rfl hn) | (simp (disch := first | omega | (intros; omega)) only [mp_c, ms_ne, mq_w, mq_y, mq_l, mq_f])
    | 13 => first | (exact absurd rfl hn) | (simp (disch := first | omega | (intros; omega)) only [mp_c, ms_ne, mq_w, mq_y, mq_l, mq_f])
    | 14 => first | (exact absurd rfl hn) | (simp (disch := first | omega | (intros; omega)) only [mp_c, ms_ne, mq_w, mq_y, mq_l, mq_f])
    | 15 => first | (exact absurd rfl hn) | (simp (disch := first | omega | (intros; omega)) only [mp_c, ms_ne, mq_w, mq_y, mq_l, mq_f])
    | 16 => first | (exact absurd rfl hn) | (simp (disch := first | omega | (intros; omega)) only [mp_c, ms_ne, mq_w, mq_y, mq_l, mq_f])
    | n + 17 => omega)
theorem mpu_13 (hb : 0 ≤ R 0 ∧ R 0 ≤ 3 ∧ 0 ≤ R 1 ∧ R 1 ≤ 8 ∧ 0 ≤ R 2 ∧ R 2 ≤ 5) {f v : Int} (h1 : 0 ≤ f) (h2 : f < R 2) : ((ri_upd (mp B R Z σ).1 (B + 13) (.inl (0, 5, mr_ar (mr_st (mp_f R Z 1) f v))), (mp B R Z σ).2) : ri_S) = mp B (mr_st R (71 + 5 * f + 1) v) (Z) σ :=
  mp_wr (o := 13) (by decide) (by
    simp only [mp_c]
    refine congrArg (fun f => (some (Sum.inl (0, 5, f)) : Option ri_El)) (funext fun j => ?_)
    rw [ma_st]
    unfold mr_ar mp_f
    by_cases e : (j : Int) = f
    · rw [if_pos e]
      simp (disch := omega) only [ms_ne]
      rw [if_pos (by omega), ms_eq (by omega)]
    · rw [if_neg e]
      simp (disch := omega) only [ms_ne]) (fun j hj hn => by
    match j with
    | 0 => first | (exact absurd rfl hn) | (simp (disch := first | omega | (intros; omega)) only [mp_c, ms_ne, mq_w, mq_y, mq_l, mq_f])
    | 1 => first | (exact absurd rfl hn) | (simp (disch := first | omega | (intros; omega)) only [mp_c, ms_ne, mq_w, mq_y, mq_l, mq_f])
    | 2 => first | (exact absurd rfl hn) | (simp (disch := first | omega | (intros; omega)) only [mp_c, ms_ne, mq_w, mq_y, mq_l, mq_f])
    | 3 => first | (exact absurd rfl hn) | (simp (disch := first | omega | (intros; omega)) only [mp_c, ms_ne, mq_w, mq_y, mq_l, mq_f])
    | 4 => first | (exact absurd rfl hn) | (simp (disch := first | omega | (intros; omega)) only [mp_c, ms_ne, mq_w, mq_y, mq_l, mq_f])
    | 5 => first | (exact absurd rfl hn) | (simp (disch := first | omega | (intros; omega)) only [mp_c, ms_ne, mq_w, mq_y, mq_l, mq_f])
    | 6 => first | (exact absurd rfl hn) | (simp (disch := first | omega | (intros; omega)) only [mp_c, ms_ne, mq_w, mq_y, mq_l, mq_f])
    | 7 => first | (exact absurd rfl hn) | (simp (disch := first | omega | (intros; omega)) only [mp_c, ms_ne, mq_w, mq_y, mq_l, mq_f])
    | 8 => first | (exact absurd rfl hn) | (simp (disch := first | omega | (intros; omega)) only [mp_c, ms_ne, mq_w, mq_y, mq_l, mq_f])
    | 9 => first | (exact absurd rfl hn) | (simp (disch := first | omega | (intros; omega)) only [mp_c, ms_ne, mq_w, mq_y, mq_l, mq_f])
    | 10 => first | (exact absurd rfl hn) | (simp (disch := first | omega | (intros; omega)) only [mp_c, ms_ne, mq_w, mq_y, mq_l, mq_f])
    | 11 => first | (exact absurd rfl hn) | (simp (disch := first | omega | (intros; omega)) only [mp_c, ms_ne, mq_w, mq_y, mq_l, mq_f])
    | 12 => first | (exact absurd rfl hn) | (simp (disch := first | omega | (intros; omega)) only [mp_c, ms_ne, mq_w, mq_y, mq_l, mq_f])
    | 13 => first | (exact absurd rfl hn) | (simp (disch := first | omega | (intros; omega)) only [mp_c, ms_ne, mq_w, mq_y, mq_l, mq_f])
    | 14 => first | (exact absurd rfl hn) | (simp (disch := first | omega | (intros; omega)) only [mp_c, ms_ne, mq_w, mq_y, mq_l, mq_f])
    | 15 => first | (exact absurd rfl hn) | (simp (disch := first | omega | (intros; omega)) only [mp_c, ms_ne, mq_w, mq_y, mq_l, mq_f])
    | 16 => first | (exact absurd rfl hn) | (simp (disch := first | omega | (intros; omega)) only [mp_c, ms_ne, mq_w, mq_y, mq_l, mq_f])
    | n + 17 => omega)
theorem mpu_14 (hb : 0 ≤ R 0 ∧ R 0 ≤ 3 ∧ 0 ≤ R 1 ∧ R 1 ≤ 8 ∧ 0 ≤ R 2 ∧ R 2 ≤ 5) {f v : Int} (h1 : 0 ≤ f) (h2 : f < R 2) : ((ri_upd (mp B R Z σ).1 (B + 14) (.inl (0, 5, mr_ar (mr_st (mp_f R Z 2) f v))), (mp B R Z σ).2) : ri_S) = mp B (mr_st R (71 + 5 * f + 2) v) (Z) σ :=
  mp_wr (o := 14) (by decide) (by
    simp only [mp_c]
    refine congrArg (fun f => (some (Sum.inl (0, 5, f)) : Option ri_El)) (funext fun j => ?_)
    rw [ma_st]
    unfold mr_ar mp_f
    by_cases e : (j : Int) = f
    · rw [if_pos e]
      simp (disch := omega) only [ms_ne]
      rw [if_pos (by omega), ms_eq (by omega)]
    · rw [if_neg e]
      simp (disch := omega) only [ms_ne]) (fun j hj hn => by
    match j with
    | 0 => first | (exact absurd rfl hn) | (simp (disch := first | omega | (intros; omega)) only [mp_c, ms_ne, mq_w, mq_y, mq_l, mq_f])
    | 1 => first | (exact absurd rfl hn) | (simp (disch := first | omega | (intros; omega)) only [mp_c, ms_ne, mq_w, mq_y, mq_l, mq_f])
    | 2 => first | (exact absurd rfl hn) | (simp (disch := first | omega | (intros; omega)) only [mp_c, ms_ne, mq_w, mq_y, mq_l, mq_f])
    | 3 => first | (exact absurd rfl hn) | (simp (disch := first | omega | (intros; omega)) only [mp_c, ms_ne, mq_w, mq_y, mq_l, mq_f])
    | 4 => first | (exact absurd rfl hn) | (simp (disch := first | omega | (intros; omega)) only [mp_c, ms_ne, mq_w, mq_y, mq_l, mq_f])
    | 5 => first | (exact absurd rfl hn) | (simp (disch := first | omega | (intros; omega)) only [mp_c, ms_ne, mq_w, mq_y, mq_l, mq_f])
    | 6 => first | (exact absurd rfl hn) | (simp (disch := first | omega | (intros; omega)) only [mp_c, ms_ne, mq_w, mq_y, mq_l, mq_f])
    | 7 => first | (exact absurd rfl hn) | (simp (disch := first | omega | (intros; omega)) only [mp_c, ms_ne, mq_w, mq_y, mq_l, mq_f])
    | 8 => first | (exact absurd rfl hn) | (simp (disch := first | omega | (intros; omega)) only [mp_c, ms_ne, mq_w, mq_y, mq_l, mq_f])
    | 9 => first | (exact absurd rfl hn) | (simp (disch := first | omega | (intros; omega)) only [mp_c, ms_ne, mq_w, mq_y, mq_l, mq_f])
    | 10 => first | (exact absurd rfl hn) | (simp (disch := first | omega | (intros; omega)) only [mp_c, ms_ne, mq_w, mq_y, mq_l, mq_f])
    | 11 => first | (exact absurd rfl hn) | (simp (disch := first | omega | (intros; omega)) only [mp_c, ms_ne, mq_w, mq_y, mq_l, mq_f])
    | 12 => first | (exact absurd rfl hn) | (simp (disch := first | omega | (intros; omega)) only [mp_c, ms_ne, mq_w, mq_y, mq_l, mq_f])
    | 13 => first | (exact absurd rfl hn) | (simp (disch := first | omega | (intros; omega)) only [mp_c, ms_ne, mq_w, mq_y, mq_l, mq_f])
    | 14 => first | (exact absurd rfl hn) | (simp (disch := first | omega | (intros; omega)) only [mp_c, ms_ne, mq_w, mq_y, mq_l, mq_f])
    | 15 => first | (exact absurd rfl hn) | (simp (disch := first | omega | (intros; omega)) only [mp_c, ms_ne, mq_w, mq_y, mq_l, mq_f])
    | 16 => first | (exact absurd rfl hn) | (simp (disch := first | omega | (intros; omega)) only [mp_c, ms_ne, mq_w, mq_y, mq_l, mq_f])
    | n + 17 => omega)
theorem mpu_15 (hb : 0 ≤ R 0 ∧ R 0 ≤ 3 ∧ 0 ≤ R 1 ∧ R 1 ≤ 8 ∧ 0 ≤ R 2 ∧ R 2 ≤ 5) {f v : Int} (h1 : 0 ≤ f) (h2 : f < R 2) : ((ri_upd (mp B R Z σ).1 (B + 15) (.inl (0, 5, mr_ar (mr_st (mp_f R Z 3) f v))), (mp B R Z σ).2) : ri_S) = mp B (mr_st R (71 + 5 * f + 3) v) (Z) σ :=
  mp_wr (o := 15) (by decide) (by
    simp only [mp_c]
    refine congrArg (fun f => (some (Sum.inl (0, 5, f)) : Option ri_El)) (funext fun j => ?_)
    rw [ma_st]
    unfold mr_ar mp_f
    by_cases e : (j : Int) = f
    · rw [if_pos e]
      simp (disch := omega) only [ms_ne]
      rw [if_pos (by omega), ms_eq (by omega)]
    · rw [if_neg e]
      simp (disch := omega) only [ms_ne]) (fun j hj hn => by
    match j with
    | 0 => first | (exact absurd rfl hn) | (simp (disch := first | omega | (intros; omega)) only [mp_c, ms_ne, mq_w, mq_y, mq_l, mq_f])
    | 1 => first | (exact absurd rfl hn) | (simp (disch := first | omega | (intros; omega)) only [mp_c, ms_ne, mq_w, mq_y, mq_l, mq_f])
    | 2 => first | (exact absurd rfl hn) | (simp (disch := first | omega | (intros; omega)) only [mp_c, ms_ne, mq_w, mq_y, mq_l, mq_f])
    | 3 => first | (exact absurd rfl hn) | (simp (disch := first | omega | (intros; omega)) only [mp_c, ms_ne, mq_w, mq_y, mq_l, mq_f])
    | 4 => first | (exact absurd rfl hn) | (simp (disch := first | omega | (intros; omega)) only [mp_c, ms_ne, mq_w, mq_y, mq_l, mq_f])
    | 5 => first | (exact absurd rfl hn) | (simp (disch := first | omega | (intros; omega)) only [mp_c, ms_ne, mq_w, mq_y, mq_l, mq_f])
    | 6 => first | (exact absurd rfl hn) | (simp (disch := first | omega | (intros; omega)) only [mp_c, ms_ne, mq_w, mq_y, mq_l, mq_f])
    | 7 => first | (exact absurd rfl hn) | (simp (disch := first | omega | (intros; omega)) only [mp_c, ms_ne, mq_w, mq_y, mq_l, mq_f])
    | 8 => first | (exact absurd rfl hn) | (simp (disch := first | omega | (intros; omega)) only [mp_c, ms_ne, mq_w, mq_y, mq_l, mq_f])
    | 9 => first | (exact absurd rfl hn) | (simp (disch := first | omega | (intros; omega)) only [mp_c, ms_ne, mq_w, mq_y, mq_l, mq_f])
    | 10 => first | (exact absurd rfl hn) | (simp (disch := first | omega | (intros; omega)) only [mp_c, ms_ne, mq_w, mq_y, mq_l, mq_f])
    | 11 => first | (exact absurd rfl hn) | (simp (disch := first | omega | (intros; omega)) only [mp_c, ms_ne, mq_w, mq_y, mq_l, mq_f])
    | 12 => first | (exact absurd rfl hn) | (simp (disch := first | omega | (intros; omega)) only [mp_c, ms_ne, mq_w, mq_y, mq_l, mq_f])
    | 13 => first | (exact absurd rfl hn) | (simp (disch := first | omega | (intros; omega)) only [mp_c, ms_ne, mq_w, mq_y, mq_l, mq_f])
    | 14 => first | (exact absurd rfl hn) | (simp (disch := first | omega | (intros; omega)) only [mp_c, ms_ne, mq_w, mq_y, mq_l, mq_f])
    | 15 => first | (exact absurd rfl hn) | (simp (disch := first | omega | (intros; omega)) only [mp_c, ms_ne, mq_w, mq_y, mq_l, mq_f])
    | 16 => first | (exact absurd rfl hn) | (simp (disch := first | omega | (intros; omega)) only [mp_c, ms_ne, mq_w, mq_y, mq_l, mq_f])
    | n + 17 => omega)
theorem mpu_16 (hb : 0 ≤ R 0 ∧ R 0 ≤ 3 ∧ 0 ≤ R 1 ∧ R 1 ≤ 8 ∧ 0 ≤ R 2 ∧ R 2 ≤ 5) {f v : Int} (h1 : 0 ≤ f) (h2 : f < R 2) : ((ri_upd (mp B R Z σ).1 (B + 16) (.inl (0, 5, mr_ar (mr_st (mp_f R Z 4) f v))), (mp B R Z σ).2) : ri_S) = mp B (mr_st R (71 + 5 * f + 4) v) (Z) σ :=
  mp_wr (o := 16) (by decide) (by
    simp only [mp_c]
    refine congrArg (fun f => (some (Sum.inl (0, 5, f)) : Option ri_El)) (funext fun j => ?_)
    rw [ma_st]
    unfold mr_ar mp_f
    by_cases e : (j : Int) = f
    · rw [if_pos e]
      simp (disch := omega) only [ms_ne]
      rw [if_pos (by omega), ms_eq (by omega)]
    · rw [if_neg e]
      simp (disch := omega) only [ms_ne]) (fun j hj hn => by
    match j with
    | 0 => first | (exact absurd rfl hn) | (simp (disch := first | omega | (intros; omega)) only [mp_c, ms_ne, mq_w, mq_y, mq_l, mq_f])
    | 1 => first | (exact absurd rfl hn) | (simp (disch := first | omega | (intros; omega)) only [mp_c, ms_ne, mq_w, mq_y, mq_l, mq_f])
    | 2 => first | (exact absurd rfl hn) | (simp (disch := first | omega | (intros; omega)) only [mp_c, ms_ne, mq_w, mq_y, mq_l, mq_f])
    | 3 => first | (exact absurd rfl hn) | (simp (disch := first | omega | (intros; omega)) only [mp_c, ms_ne, mq_w, mq_y, mq_l, mq_f])
    | 4 => first | (exact absurd rfl hn) | (simp (disch := first | omega | (intros; omega)) only [mp_c, ms_ne, mq_w, mq_y, mq_l, mq_f])
    | 5 => first | (exact absurd rfl hn) | (simp (disch := first | omega | (intros; omega)) only [mp_c, ms_ne, mq_w, mq_y, mq_l, mq_f])
    | 6 => first | (exact absurd rfl hn) | (simp (disch := first | omega | (intros; omega)) only [mp_c, ms_ne, mq_w, mq_y, mq_l, mq_f])
    | 7 => first | (exact absurd rfl hn) | (simp (disch := first | omega | (intros; omega)) only [mp_c, ms_ne, mq_w, mq_y, mq_l, mq_f])
    | 8 => first | (exact absurd rfl hn) | (simp (disch := first | omega | (intros; omega)) only [mp_c, ms_ne, mq_w, mq_y, mq_l, mq_f])
    | 9 => first | (exact absurd rfl hn) | (simp (disch := first | omega | (intros; omega)) only [mp_c, ms_ne, mq_w, mq_y, mq_l, mq_f])
    | 10 => first | (exact absurd rfl hn) | (simp (disch := first | omega | (intros; omega)) only [mp_c, ms_ne, mq_w, mq_y, mq_l, mq_f])
    | 11 => first | (exact absurd rfl hn) | (simp (disch := first | omega | (intros; omega)) only [mp_c, ms_ne, mq_w, mq_y, mq_l, mq_f])
    | 12 => first | (exact absurd rfl hn) | (simp (disch := first | omega | (intros; omega)) only [mp_c, ms_ne, mq_w, mq_y, mq_l, mq_f])
    | 13 => first | (exact absurd rfl hn) | (simp (disch := first | omega | (intros; omega)) only [mp_c, ms_ne, mq_w, mq_y, mq_l, mq_f])
    | 14 => first | (exact absurd rfl hn) | (simp (disch := first | omega | (intros; omega)) only [mp_c, ms_ne, mq_w, mq_y, mq_l, mq_f])
    | 15 => first | (exact absurd rfl hn) | (simp (disch := first | omega | (intros; omega)) only [mp_c, ms_ne, mq_w, mq_y, mq_l, mq_f])
    | 16 => first | (exact absurd rfl hn) | (simp (disch := first | omega | (intros; omega)) only [mp_c, ms_ne, mq_w, mq_y, mq_l, mq_f])
    | n + 17 => omega)
end MPU
