/-! The model's object: numbers S (refusal, size, acts, spot, out), rows A (1 text, 2 now, 3 trial, 4 diary, 5 kept, 6 isKept, 7 far, 8 row). -/
def ms_a (A : Nat → mr_R) (k : Nat) (X : mr_R) : Nat → mr_R := fun j => if j = k then X else A j
theorem sa_eq {A : Nat → mr_R} {k j : Nat} {X : mr_R} (h : j = k) : ms_a A k X j = X := if_pos h
theorem sa_ne {A : Nat → mr_R} {k j : Nat} {X : mr_R} (h : j ≠ k) : ms_a A k X j = A j := if_neg h
theorem sa_id {A : Nat → mr_R} {k : Nat} : ms_a A k (A k) = A := by
  funext j
  unfold ms_a
  split
  · rename_i e; rw [e]
  · rfl
theorem sa_up {A : Nat → mr_R} {k : Nat} {X Y : mr_R} : ms_a (ms_a A k X) k Y = ms_a A k Y := by
  funext j
  unfold ms_a
  split <;> rfl
def mm_c (M : Nat) (S : mr_R) (A : Nat → mr_R) : Nat → Option ri_El
  | 0 => some (.inr (.inr (9, [.int (Int32.ofInt (S 0)), .ref (M + 1), .int (Int32.ofInt (S 1)), .ref (M + 2), .ref (M + 3), .ref (M + 4), .int (Int32.ofInt (S 2)), .ref (M + 5), .ref (M + 6), .ref (M + 7), .ref (M + 8), .int (Int32.ofInt (S 3)), .int (Int32.ofInt (S 4))])))
  | 1 => some (.inl (0, 120, mr_ar (A 1)))
  | 2 => some (.inl (0, 96, mr_ar (A 2)))
  | 3 => some (.inl (0, 96, mr_ar (A 3)))
  | 4 => some (.inl (0, 1344, mr_ar (A 4)))
  | 5 => some (.inl (0, 192, mr_ar (A 5)))
  | 6 => some (.inl (1, 2, mr_ar (A 6)))
  | 7 => some (.inl (0, 1875, mr_ar (A 7)))
  | 8 => some (.inl (0, 1875, mr_ar (A 8)))
  | _ => none
def mm (M : Nat) (S : mr_R) (A : Nat → mr_R) (σ : ri_S) : ri_S := (fun q => if M ≤ q ∧ q < M + 9 then mm_c M S A (q - M) else σ.1 q, σ.2)
section MMA
variable {M : Nat} {S : mr_R} {A : Nat → mr_R} {σ : ri_S}
theorem mm_at {o : Nat} (h : o < 9) : (mm M S A σ).1 (M + o) = mm_c M S A o := by
  show (if M ≤ M + o ∧ M + o < M + 9 then mm_c M S A (M + o - M) else σ.1 (M + o)) = _
  rw [if_pos (by omega), show M + o - M = o by omega]
theorem mm_off {q : Nat} (h : ¬ (M ≤ q ∧ q < M + 9)) : (mm M S A σ).1 q = σ.1 q := if_neg h
theorem mm_wr {S2 : mr_R} {A2 : Nat → mr_R} {o : Nat} {e : ri_El} (h : o < 9) (h2 : mm_c M S2 A2 o = some e) (h3 : ∀ j, j < 9 → j ≠ o → mm_c M S2 A2 j = mm_c M S A j) : ((ri_upd (mm M S A σ).1 (M + o) e, (mm M S A σ).2) : ri_S) = mm M S2 A2 σ := by
  refine congrArg (·, σ.2) (funext fun q => ?_)
  show (if q = M + o then some e else (if M ≤ q ∧ q < M + 9 then mm_c M S A (q - M) else σ.1 q)) = (if M ≤ q ∧ q < M + 9 then mm_c M S2 A2 (q - M) else σ.1 q)
  by_cases a : q = M + o
  · rw [if_pos a, if_pos (by omega), ← h2, show q - M = o by omega]
  · rw [if_neg a]
    by_cases b : M ≤ q ∧ q < M + 9
    · rw [if_pos b, if_pos b, h3 (q - M) (by omega) (by omega)]
    · rw [if_neg b, if_neg b]
theorem mm_same (h : ∀ o, o < 9 → σ.1 (M + o) = mm_c M S A o) : mm M S A σ = σ := by
  obtain ⟨f, z⟩ := σ
  refine congrArg (·, z) (funext fun q => ?_)
  show (if M ≤ q ∧ q < M + 9 then mm_c M S A (q - M) else f q) = f q
  by_cases b : M ≤ q ∧ q < M + 9
  · rw [if_pos b, ← h (q - M) (by omega), show M + (q - M) = q by omega]
  · rw [if_neg b]
theorem mmx_0 : (mm M S A σ).1 (M) = some (.inr (.inr (9, [.int (Int32.ofInt (S 0)), .ref (M + 1), .int (Int32.ofInt (S 1)), .ref (M + 2), .ref (M + 3), .ref (M + 4), .int (Int32.ofInt (S 2)), .ref (M + 5), .ref (M + 6), .ref (M + 7), .ref (M + 8), .int (Int32.ofInt (S 3)), .int (Int32.ofInt (S 4))]))) := (mm_at (o := 0) (by decide)).trans rfl
theorem mmx_1 : (mm M S A σ).1 (M + 1) = some (.inl (0, 120, mr_ar (A 1))) := (mm_at (o := 1) (by decide)).trans rfl
theorem mmx_2 : (mm M S A σ).1 (M + 2) = some (.inl (0, 96, mr_ar (A 2))) := (mm_at (o := 2) (by decide)).trans rfl
theorem mmx_3 : (mm M S A σ).1 (M + 3) = some (.inl (0, 96, mr_ar (A 3))) := (mm_at (o := 3) (by decide)).trans rfl
theorem mmx_4 : (mm M S A σ).1 (M + 4) = some (.inl (0, 1344, mr_ar (A 4))) := (mm_at (o := 4) (by decide)).trans rfl
theorem mmx_5 : (mm M S A σ).1 (M + 5) = some (.inl (0, 192, mr_ar (A 5))) := (mm_at (o := 5) (by decide)).trans rfl
theorem mmx_6 : (mm M S A σ).1 (M + 6) = some (.inl (1, 2, mr_ar (A 6))) := (mm_at (o := 6) (by decide)).trans rfl
theorem mmx_7 : (mm M S A σ).1 (M + 7) = some (.inl (0, 1875, mr_ar (A 7))) := (mm_at (o := 7) (by decide)).trans rfl
theorem mmx_8 : (mm M S A σ).1 (M + 8) = some (.inl (0, 1875, mr_ar (A 8))) := (mm_at (o := 8) (by decide)).trans rfl
theorem mmk {X : Option ri_R} : tv_k 9 ((mm M S A σ).1 M) X = X := by rw [mmx_0]; exact tv_k0
theorem mmo_0 {K : Value → Option ri_R} : tv_o 9 0 ((mm M S A σ).1 M) K = K (.int (Int32.ofInt (S 0))) := by rw [mmx_0]; exact tvo_9_0
theorem mmv_0 {v : Value} {K : List Value → Option ri_R} : tv_w 9 0 ((mm M S A σ).1 M) v K = K [v, .ref (M + 1), .int (Int32.ofInt (S 1)), .ref (M + 2), .ref (M + 3), .ref (M + 4), .int (Int32.ofInt (S 2)), .ref (M + 5), .ref (M + 6), .ref (M + 7), .ref (M + 8), .int (Int32.ofInt (S 3)), .int (Int32.ofInt (S 4))] := by rw [mmx_0]; exact tvw_9_0
theorem mmo_1 {K : Value → Option ri_R} : tv_o 9 1 ((mm M S A σ).1 M) K = K (.ref (M + 1)) := by rw [mmx_0]; exact tvo_9_1
theorem mmo_2 {K : Value → Option ri_R} : tv_o 9 2 ((mm M S A σ).1 M) K = K (.int (Int32.ofInt (S 1))) := by rw [mmx_0]; exact tvo_9_2
theorem mmv_2 {v : Value} {K : List Value → Option ri_R} : tv_w 9 2 ((mm M S A σ).1 M) v K = K [.int (Int32.ofInt (S 0)), .ref (M + 1), v, .ref (M + 2), .ref (M + 3), .ref (M + 4), .int (Int32.ofInt (S 2)), .ref (M + 5), .ref (M + 6), .ref (M + 7), .ref (M + 8), .int (Int32.ofInt (S 3)), .int (Int32.ofInt (S 4))] := by rw [mmx_0]; exact tvw_9_2
theorem mmo_3 {K : Value → Option ri_R} : tv_o 9 3 ((mm M S A σ).1 M) K = K (.ref (M + 2)) := by rw [mmx_0]; exact tvo_9_3
theorem mmo_4 {K : Value → Option ri_R} : tv_o 9 4 ((mm M S A σ).1 M) K = K (.ref (M + 3)) := by rw [mmx_0]; exact tvo_9_4
theorem mmo_5 {K : Value → Option ri_R} : tv_o 9 5 ((mm M S A σ).1 M) K = K (.ref (M + 4)) := by rw [mmx_0]; exact tvo_9_5
theorem mmo_6 {K : Value → Option ri_R} : tv_o 9 6 ((mm M S A σ).1 M) K = K (.int (Int32.ofInt (S 2))) := by rw [mmx_0]; exact tvo_9_6
theorem mmv_6 {v : Value} {K : List Value → Option ri_R} : tv_w 9 6 ((mm M S A σ).1 M) v K = K [.int (Int32.ofInt (S 0)), .ref (M + 1), .int (Int32.ofInt (S 1)), .ref (M + 2), .ref (M + 3), .ref (M + 4), v, .ref (M + 5), .ref (M + 6), .ref (M + 7), .ref (M + 8), .int (Int32.ofInt (S 3)), .int (Int32.ofInt (S 4))] := by rw [mmx_0]; exact tvw_9_6
theorem mmo_7 {K : Value → Option ri_R} : tv_o 9 7 ((mm M S A σ).1 M) K = K (.ref (M + 5)) := by rw [mmx_0]; exact tvo_9_7
theorem mmo_8 {K : Value → Option ri_R} : tv_o 9 8 ((mm M S A σ).1 M) K = K (.ref (M + 6)) := by rw [mmx_0]; exact tvo_9_8
theorem mmo_9 {K : Value → Option ri_R} : tv_o 9 9 ((mm M S A σ).1 M) K = K (.ref (M + 7)) := by rw [mmx_0]; exact tvo_9_9
theorem mmo_10 {K : Value → Option ri_R} : tv_o 9 10 ((mm M S A σ).1 M) K = K (.ref (M + 8)) := by rw [mmx_0]; exact tvo_9_10
theorem mmo_11 {K : Value → Option ri_R} : tv_o 9 11 ((mm M S A σ).1 M) K = K (.int (Int32.ofInt (S 3))) := by rw [mmx_0]; exact tvo_9_11
theorem mmv_11 {v : Value} {K : List Value → Option ri_R} : tv_w 9 11 ((mm M S A σ).1 M) v K = K [.int (Int32.ofInt (S 0)), .ref (M + 1), .int (Int32.ofInt (S 1)), .ref (M + 2), .ref (M + 3), .ref (M + 4), .int (Int32.ofInt (S 2)), .ref (M + 5), .ref (M + 6), .ref (M + 7), .ref (M + 8), v, .int (Int32.ofInt (S 4))] := by rw [mmx_0]; exact tvw_9_11
theorem mmo_12 {K : Value → Option ri_R} : tv_o 9 12 ((mm M S A σ).1 M) K = K (.int (Int32.ofInt (S 4))) := by rw [mmx_0]; exact tvo_9_12
theorem mmv_12 {v : Value} {K : List Value → Option ri_R} : tv_w 9 12 ((mm M S A σ).1 M) v K = K [.int (Int32.ofInt (S 0)), .ref (M + 1), .int (Int32.ofInt (S 1)), .ref (M + 2), .ref (M + 3), .ref (M + 4), .int (Int32.ofInt (S 2)), .ref (M + 5), .ref (M + 6), .ref (M + 7), .ref (M + 8), .int (Int32.ofInt (S 3)), v] := by rw [mmx_0]; exact tvw_9_12
theorem mmg_1 {i : Int} {K : Nat → (Nat → Int32) → Nat → Option ri_R} (h : 0 ≤ i) (h2 : i < 120) : tv_r 0 ((mm M S A σ).1 (M + 1)) (Int32.ofInt i) K = K 120 (mr_ar (A 1)) i.toNat := by rw [mmx_1, mr_r0 h (by omega) (by omega)]
theorem mma_1 {X : mr_R} : ((ri_upd (mm M S A σ).1 (M + 1) (.inl (0, 120, mr_ar X)), (mm M S A σ).2) : ri_S) = mm M S (ms_a A 1 X) σ :=
  mm_wr (o := 1) (by decide) (by simp (disch := omega) only [mm_c, sa_eq]) (fun j hj hn => by
    match j with
    | 0 => rfl
    | 1 => first | (exact absurd rfl hn) | (simp (disch := omega) only [mm_c, sa_ne])
    | 2 => first | (exact absurd rfl hn) | (simp (disch := omega) only [mm_c, sa_ne])
    | 3 => first | (exact absurd rfl hn) | (simp (disch := omega) only [mm_c, sa_ne])
    | 4 => first | (exact absurd rfl hn) | (simp (disch := omega) only [mm_c, sa_ne])
    | 5 => first | (exact absurd rfl hn) | (simp (disch := omega) only [mm_c, sa_ne])
    | 6 => first | (exact absurd rfl hn) | (simp (disch := omega) only [mm_c, sa_ne])
    | 7 => first | (exact absurd rfl hn) | (simp (disch := omega) only [mm_c, sa_ne])
    | 8 => first | (exact absurd rfl hn) | (simp (disch := omega) only [mm_c, sa_ne])
    | n + 9 => omega)
theorem mmg_2 {i : Int} {K : Nat → (Nat → Int32) → Nat → Option ri_R} (h : 0 ≤ i) (h2 : i < 96) : tv_r 0 ((mm M S A σ).1 (M + 2)) (Int32.ofInt i) K = K 96 (mr_ar (A 2)) i.toNat := by rw [mmx_2, mr_r0 h (by omega) (by omega)]
theorem mma_2 {X : mr_R} : ((ri_upd (mm M S A σ).1 (M + 2) (.inl (0, 96, mr_ar X)), (mm M S A σ).2) : ri_S) = mm M S (ms_a A 2 X) σ :=
  mm_wr (o := 2) (by decide) (by simp (disch := omega) only [mm_c, sa_eq]) (fun j hj hn => by
    match j with
    | 0 => rfl
    | 1 => first | (exact absurd rfl hn) | (simp (disch := omega) only [mm_c, sa_ne])
    | 2 => first | (exact absurd rfl hn) | (simp (disch := omega) only [mm_c, sa_ne])
    | 3 => first | (exact absurd rfl hn) | (simp (disch := omega) only [mm_c, sa_ne])
    | 4 => first | (exact absurd rfl hn) | (simp (disch := omega) only [mm_c, sa_ne])
    | 5 => first | (exact absurd rfl hn) | (simp (disch := omega) only [mm_c, sa_ne])
    | 6 => first | (exact absurd rfl hn) | (simp (disch := omega) only [mm_c, sa_ne])
    | 7 => first | (exact absurd rfl hn) | (simp (disch := omega) only [mm_c, sa_ne])
    | 8 => first | (exact absurd rfl hn) | (simp (disch := omega) only [mm_c, sa_ne])
    | n + 9 => omega)
theorem mmg_3 {i : Int} {K : Nat → (Nat → Int32) → Nat → Option ri_R} (h : 0 ≤ i) (h2 : i < 96) : tv_r 0 ((mm M S A σ).1 (M + 3)) (Int32.ofInt i) K = K 96 (mr_ar (A 3)) i.toNat := by rw [mmx_3, mr_r0 h (by omega) (by omega)]
theorem mma_3 {X : mr_R} : ((ri_upd (mm M S A σ).1 (M + 3) (.inl (0, 96, mr_ar X)), (mm M S A σ).2) : ri_S) = mm M S (ms_a A 3 X) σ :=
  mm_wr (o := 3) (by decide) (by simp (disch := omega) only [mm_c, sa_eq]) (fun j hj hn => by
    match j with
    | 0 => rfl
    | 1 => first | (exact absurd rfl hn) | (simp (disch := omega) only [mm_c, sa_ne])
    | 2 => first | (exact absurd rfl hn) | (simp (disch := omega) only [mm_c, sa_ne])
    | 3 => first | (exact absurd rfl hn) | (simp (disch := omega) only [mm_c, sa_ne])
    | 4 => first | (exact absurd rfl hn) | (simp (disch := omega) only [mm_c, sa_ne])
    | 5 => first | (exact absurd rfl hn) | (simp (disch := omega) only [mm_c, sa_ne])
    | 6 => first | (exact absurd rfl hn) | (simp (disch := omega) only [mm_c, sa_ne])
    | 7 => first | (exact absurd rfl hn) | (simp (disch := omega) only [mm_c, sa_ne])
    | 8 => first | (exact absurd rfl hn) | (simp (disch := omega) only [mm_c, sa_ne])
    | n + 9 => omega)
theorem mmg_4 {i : Int} {K : Nat → (Nat → Int32) → Nat → Option ri_R} (h : 0 ≤ i) (h2 : i < 1344) : tv_r 0 ((mm M S A σ).1 (M + 4)) (Int32.ofInt i) K = K 1344 (mr_ar (A 4)) i.toNat := by rw [mmx_4, mr_r0 h (by omega) (by omega)]
theorem mma_4 {X : mr_R} : ((ri_upd (mm M S A σ).1 (M + 4) (.inl (0, 1344, mr_ar X)), (mm M S A σ).2) : ri_S) = mm M S (ms_a A 4 X) σ :=
  mm_wr (o := 4) (by decide) (by simp (disch := omega) only [mm_c, sa_eq]) (fun j hj hn => by
    match j with
    | 0 => rfl
    | 1 => first | (exact absurd rfl hn) | (simp (disch := omega) only [mm_c, sa_ne])
    | 2 => first | (exact absurd rfl hn) | (simp (disch := omega) only [mm_c, sa_ne])
    | 3 => first | (exact absurd rfl hn) | (simp (disch := omega) only [mm_c, sa_ne])
    | 4 => first | (exact absurd rfl hn) | (simp (disch := omega) only [mm_c, sa_ne])
    | 5 => first | (exact absurd rfl hn) | (simp (disch := omega) only [mm_c, sa_ne])
    | 6 => first | (exact absurd rfl hn) | (simp (disch := omega) only [mm_c, sa_ne])
    | 7 => first | (exact absurd rfl hn) | (simp (disch := omega) only [mm_c, sa_ne])
    | 8 => first | (exact absurd rfl hn) | (simp (disch := omega) only [mm_c, sa_ne])
    | n + 9 => omega)
theorem mmg_5 {i : Int} {K : Nat → (Nat → Int32) → Nat → Option ri_R} (h : 0 ≤ i) (h2 : i < 192) : tv_r 0 ((mm M S A σ).1 (M + 5)) (Int32.ofInt i) K = K 192 (mr_ar (A 5)) i.toNat := by rw [mmx_5, mr_r0 h (by omega) (by omega)]
theorem mma_5 {X : mr_R} : ((ri_upd (mm M S A σ).1 (M + 5) (.inl (0, 192, mr_ar X)), (mm M S A σ).2) : ri_S) = mm M S (ms_a A 5 X) σ :=
  mm_wr (o := 5) (by decide) (by simp (disch := omega) only [mm_c, sa_eq]) (fun j hj hn => by
    match j with
    | 0 => rfl
    | 1 => first | (exact absurd rfl hn) | (simp (disch := omega) only [mm_c, sa_ne])
    | 2 => first | (exact absurd rfl hn) | (simp (disch := omega) only [mm_c, sa_ne])
    | 3 => first | (exact absurd rfl hn) | (simp (disch := omega) only [mm_c, sa_ne])
    | 4 => first | (exact absurd rfl hn) | (simp (disch := omega) only [mm_c, sa_ne])
    | 5 => first | (exact absurd rfl hn) | (simp (disch := omega) only [mm_c, sa_ne])
    | 6 => first | (exact absurd rfl hn) | (simp (disch := omega) only [mm_c, sa_ne])
    | 7 => first | (exact absurd rfl hn) | (simp (disch := omega) only [mm_c, sa_ne])
    | 8 => first | (exact absurd rfl hn) | (simp (disch := omega) only [mm_c, sa_ne])
    | n + 9 => omega)
theorem mmg_6 {i : Int} {K : Nat → (Nat → Int32) → Nat → Option ri_R} (h : 0 ≤ i) (h2 : i < 2) : tv_r 1 ((mm M S A σ).1 (M + 6)) (Int32.ofInt i) K = K 2 (mr_ar (A 6)) i.toNat := by rw [mmx_6, mr_r1 h (by omega) (by omega)]
theorem mma_6 {X : mr_R} : ((ri_upd (mm M S A σ).1 (M + 6) (.inl (1, 2, mr_ar X)), (mm M S A σ).2) : ri_S) = mm M S (ms_a A 6 X) σ :=
  mm_wr (o := 6) (by decide) (by simp (disch := omega) only [mm_c, sa_eq]) (fun j hj hn => by
    match j with
    | 0 => rfl
    | 1 => first | (exact absurd rfl hn) | (simp (disch := omega) only [mm_c, sa_ne])
    | 2 => first | (exact absurd rfl hn) | (simp (disch := omega) only [mm_c, sa_ne])
    | 3 => first | (exact absurd rfl hn) | (simp (disch := omega) only [mm_c, sa_ne])
    | 4 => first | (exact absurd rfl hn) | (simp (disch := omega) only [mm_c, sa_ne])
    | 5 => first | (exact absurd rfl hn) | (simp (disch := omega) only [mm_c, sa_ne])
    | 6 => first | (exact absurd rfl hn) | (simp (disch := omega) only [mm_c, sa_ne])
    | 7 => first | (exact absurd rfl hn) | (simp (disch := omega) only [mm_c, sa_ne])
    | 8 => first | (exact absurd rfl hn) | (simp (disch := omega) only [mm_c, sa_ne])
    | n + 9 => omega)
theorem mmg_7 {i : Int} {K : Nat → (Nat → Int32) → Nat → Option ri_R} (h : 0 ≤ i) (h2 : i < 1875) : tv_r 0 ((mm M S A σ).1 (M + 7)) (Int32.ofInt i) K = K 1875 (mr_ar (A 7)) i.toNat := by rw [mmx_7, mr_r0 h (by omega) (by omega)]
theorem mma_7 {X : mr_R} : ((ri_upd (mm M S A σ).1 (M + 7) (.inl (0, 1875, mr_ar X)), (mm M S A σ).2) : ri_S) = mm M S (ms_a A 7 X) σ :=
  mm_wr (o := 7) (by decide) (by simp (disch := omega) only [mm_c, sa_eq]) (fun j hj hn => by
    match j with
    | 0 => rfl
    | 1 => first | (exact absurd rfl hn) | (simp (disch := omega) only [mm_c, sa_ne])
    | 2 => first | (exact absurd rfl hn) | (simp (disch := omega) only [mm_c, sa_ne])
    | 3 => first | (exact absurd rfl hn) | (simp (disch := omega) only [mm_c, sa_ne])
    | 4 => first | (exact absurd rfl hn) | (simp (disch := omega) only [mm_c, sa_ne])
    | 5 => first | (exact absurd rfl hn) | (simp (disch := omega) only [mm_c, sa_ne])
    | 6 => first | (exact absurd rfl hn) | (simp (disch := omega) only [mm_c, sa_ne])
    | 7 => first | (exact absurd rfl hn) | (simp (disch := omega) only [mm_c, sa_ne])
    | 8 => first | (exact absurd rfl hn) | (simp (disch := omega) only [mm_c, sa_ne])
    | n + 9 => omega)
theorem mmg_8 {i : Int} {K : Nat → (Nat → Int32) → Nat → Option ri_R} (h : 0 ≤ i) (h2 : i < 1875) : tv_r 0 ((mm M S A σ).1 (M + 8)) (Int32.ofInt i) K = K 1875 (mr_ar (A 8)) i.toNat := by rw [mmx_8, mr_r0 h (by omega) (by omega)]
theorem mma_8 {X : mr_R} : ((ri_upd (mm M S A σ).1 (M + 8) (.inl (0, 1875, mr_ar X)), (mm M S A σ).2) : ri_S) = mm M S (ms_a A 8 X) σ :=
  mm_wr (o := 8) (by decide) (by simp (disch := omega) only [mm_c, sa_eq]) (fun j hj hn => by
    match j with
    | 0 => rfl
    | 1 => first | (exact absurd rfl hn) | (simp (disch := omega) only [mm_c, sa_ne])
    | 2 => first | (exact absurd rfl hn) | (simp (disch := omega) only [mm_c, sa_ne])
    | 3 => first | (exact absurd rfl hn) | (simp (disch := omega) only [mm_c, sa_ne])
    | 4 => first | (exact absurd rfl hn) | (simp (disch := omega) only [mm_c, sa_ne])
    | 5 => first | (exact absurd rfl hn) | (simp (disch := omega) only [mm_c, sa_ne])
    | 6 => first | (exact absurd rfl hn) | (simp (disch := omega) only [mm_c, sa_ne])
    | 7 => first | (exact absurd rfl hn) | (simp (disch := omega) only [mm_c, sa_ne])
    | 8 => first | (exact absurd rfl hn) | (simp (disch := omega) only [mm_c, sa_ne])
    | n + 9 => omega)
theorem mmu_0 {v r1 r2 r3 r4 : Int} (e1 : r1 = S 1) (e2 : r2 = S 2) (e3 : r3 = S 3) (e4 : r4 = S 4) : ((ri_upd (mm M S A σ).1 M (.inr (.inr (9, [.int (Int32.ofInt v), .ref (M + 1), .int (Int32.ofInt r1), .ref (M + 2), .ref (M + 3), .ref (M + 4), .int (Int32.ofInt r2), .ref (M + 5), .ref (M + 6), .ref (M + 7), .ref (M + 8), .int (Int32.ofInt r3), .int (Int32.ofInt r4)]))), (mm M S A σ).2) : ri_S) = mm M (mr_st S 0 v) A σ :=
  mm_wr (o := 0) (by decide) (by subst e1 e2 e3 e4; simp (disch := omega) only [mm_c, ms_eq, ms_ne]) (fun j hj hn => by
    match j with
    | 0 => exact absurd rfl hn
    | 1 => rfl
    | 2 => rfl
    | 3 => rfl
    | 4 => rfl
    | 5 => rfl
    | 6 => rfl
    | 7 => rfl
    | 8 => rfl
    | n + 9 => omega)
theorem mmu_2 {v r0 r2 r3 r4 : Int} (e0 : r0 = S 0) (e2 : r2 = S 2) (e3 : r3 = S 3) (e4 : r4 = S 4) : ((ri_upd (mm M S A σ).1 M (.inr (.inr (9, [.int (Int32.ofInt r0), .ref (M + 1), .int (Int32.ofInt v), .ref (M + 2), .ref (M + 3), .ref (M + 4), .int (Int32.ofInt r2), .ref (M + 5), .ref (M + 6), .ref (M + 7), .ref (M + 8), .int (Int32.ofInt r3), .int (Int32.ofInt r4)]))), (mm M S A σ).2) : ri_S) = mm M (mr_st S 1 v) A σ :=
  mm_wr (o := 0) (by decide) (by subst e0 e2 e3 e4; simp (disch := omega) only [mm_c, ms_eq, ms_ne]) (fun j hj hn => by
    match j with
    | 0 => exact absurd rfl hn
    | 1 => rfl
    | 2 => rfl
    | 3 => rfl
    | 4 => rfl
    | 5 => rfl
    | 6 => rfl
    | 7 => rfl
    | 8 => rfl
    | n + 9 => omega)
theorem mmu_6 {v r0 r1 r3 r4 : Int} (e0 : r0 = S 0) (e1 : r1 = S 1) (e3 : r3 = S 3) (e4 : r4 = S 4) : ((ri_upd (mm M S A σ).1 M (.inr (.inr (9, [.int (Int32.ofInt r0), .ref (M + 1), .int (Int32.ofInt r1), .ref (M + 2), .ref (M + 3), .ref (M + 4), .int (Int32.ofInt v), .ref (M + 5), .ref (M + 6), .ref (M + 7), .ref (M + 8), .int (Int32.ofInt r3), .int (Int32.ofInt r4)]))), (mm M S A σ).2) : ri_S) = mm M (mr_st S 2 v) A σ :=
  mm_wr (o := 0) (by decide) (by subst e0 e1 e3 e4; simp (disch := omega) only [mm_c, ms_eq, ms_ne]) (fun j hj hn => by
    match j with
    | 0 => exact absurd rfl hn
    | 1 => rfl
    | 2 => rfl
    | 3 => rfl
    | 4 => rfl
    | 5 => rfl
    | 6 => rfl
    | 7 => rfl
    | 8 => rfl
    | n + 9 => omega)
theorem mmu_11 {v r0 r1 r2 r4 : Int} (e0 : r0 = S 0) (e1 : r1 = S 1) (e2 : r2 = S 2) (e4 : r4 = S 4) : ((ri_upd (mm M S A σ).1 M (.inr (.inr (9, [.int (Int32.ofInt r0), .ref (M + 1), .int (Int32.ofInt r1), .ref (M + 2), .ref (M + 3), .ref (M + 4), .int (Int32.ofInt r2), .ref (M + 5), .ref (M + 6), .ref (M + 7), .ref (M + 8), .int (Int32.ofInt v), .int (Int32.ofInt r4)]))), (mm M S A σ).2) : ri_S) = mm M (mr_st S 3 v) A σ :=
  mm_wr (o := 0) (by decide) (by subst e0 e1 e2 e4; simp (disch := omega) only [mm_c, ms_eq, ms_ne]) (fun j hj hn => by
    match j with
    | 0 => exact absurd rfl hn
    | 1 => rfl
    | 2 => rfl
    | 3 => rfl
    | 4 => rfl
    | 5 => rfl
    | 6 => rfl
    | 7 => rfl
    | 8 => rfl
    | n + 9 => omega)
theorem mmu_12 {v r0 r1 r2 r3 : Int} (e0 : r0 = S 0) (e1 : r1 = S 1) (e2 : r2 = S 2) (e3 : r3 = S 3) : ((ri_upd (mm M S A σ).1 M (.inr (.inr (9, [.int (Int32.ofInt r0), .ref (M + 1), .int (Int32.ofInt r1), .ref (M + 2), .ref (M + 3), .ref (M + 4), .int (Int32.ofInt r2), .ref (M + 5), .ref (M + 6), .ref (M + 7), .ref (M + 8), .int (Int32.ofInt r3), .int (Int32.ofInt v)]))), (mm M S A σ).2) : ri_S) = mm M (mr_st S 4 v) A σ :=
  mm_wr (o := 0) (by decide) (by subst e0 e1 e2 e3; simp (disch := omega) only [mm_c, ms_eq, ms_ne]) (fun j hj hn => by
    match j with
    | 0 => exact absurd rfl hn
    | 1 => rfl
    | 2 => rfl
    | 3 => rfl
    | 4 => rfl
    | 5 => rfl
    | 6 => rfl
    | 7 => rfl
    | 8 => rfl
    | n + 9 => omega)
theorem mms_2 : mr_row (M + 2) (A 2) (mm M S A σ) = mm M S A σ := mr_self mmx_2
theorem mmr_2 {R : mr_R} : mr_row (M + 2) R (mm M S A σ) = mm M S (ms_a A 2 R) σ := mma_2
theorem mms_3 : mr_row (M + 3) (A 3) (mm M S A σ) = mm M S A σ := mr_self mmx_3
theorem mmr_3 {R : mr_R} : mr_row (M + 3) R (mm M S A σ) = mm M S (ms_a A 3 R) σ := mma_3
theorem mmc_2 {X : mr_R} : ma (M + 2) 96 X (mm M S A σ) = mm M S (ms_a A 2 X) σ := mma_2
theorem mmc_3 {X : mr_R} : ma (M + 3) 96 X (mm M S A σ) = mm M S (ms_a A 3 X) σ := mma_3
theorem mmc_4 {X : mr_R} : ma (M + 4) 1344 X (mm M S A σ) = mm M S (ms_a A 4 X) σ := mma_4
theorem mmc_5 {X : mr_R} : ma (M + 5) 192 X (mm M S A σ) = mm M S (ms_a A 5 X) σ := mma_5
end MMA
section MMB
variable {M : Nat} {S : mr_R} {A : Nat → mr_R} {σ : ri_S} {K : Int}
theorem c145 {x : Int} (h1 : 0 ≤ x) (h2 : x < 100) : cal 145 [.ref M, .int (Int32.ofInt x)] (mm M S A σ) = if 0 < x then some (some (.int (Int32.ofInt 1)), mm M (mr_st S 0 x) A σ) else some (some (.int (Int32.ofInt 0)), mm M (mr_st S 0 x) A σ) := by
  rw [E_145]
  by_cases q : 0 < x <;> simp (disch := first | omega | (simp (disch := omega) only [ms_eq, ms_ne, mg_eat_of, mg_seat_of] <;> omega) | fail) only [Int.reduceAdd, Int.reduceMul, Int.reduceSub, Int.reduceNeg, na_add, na_sub, na_mul, na_neg, na_lt, na_le, na_eq, na_ofNat, bo_some, tl_some, tl_none, rc_int, rc_ref, rc_null, rc_none, rc_long, tb_0, tb_1, ↓mr_g0, mr_r0, mr_get, mr_upd, mr_at, mr_wr, Classical.not_not, not_true_eq_false, not_false_eq_true, na_l0, na_l1, na_l2, na_l3, na_l4, na_l5, na_l6, na_l7, na_l8, na_l9, na_l10, na_l14, na_l15, na_l16, na_l25, na_l30, na_l31, na_l32, na_l33, na_l39, na_l43, na_l45, na_l48, na_l49, na_l50, na_l51, na_l52, na_l53, na_l55, na_l56, na_l57, na_l60, na_l64, na_l71, na_l80, na_l96, na_l100, na_l101, na_l102, na_l103, na_l104, na_l105, na_l106, na_l107, na_l108, na_l109, na_l110, na_l111, na_l112, na_l113, na_l114, na_l115, na_l116, na_l117, na_l118, na_l119, na_l120, na_l121, na_l125, na_l128, na_l150, na_l192, na_l255, na_l999, na_l1000, na_l1248, na_l1344, na_l1875, na_l10000, ↓reduceIte, pf_and, pe_le, pf_le, pe_lt, pf_lt, pe_eq, pf_eq, true_and, and_true, false_and, and_false, true_or, or_true, false_or, or_false, ↓mmk, ↓mmo_0, ↓mmo_1, ↓mmo_2, ↓mmo_3, ↓mmo_4, ↓mmo_5, ↓mmo_6, ↓mmo_7, ↓mmo_8, ↓mmo_9, ↓mmo_10, ↓mmo_11, ↓mmo_12, ↓mmv_0, ↓mmv_2, ↓mmv_6, ↓mmv_11, ↓mmv_12, ↓mmg_1, ↓mmg_2, ↓mmg_3, ↓mmg_4, ↓mmg_5, ↓mmg_6, ↓mmg_7, ↓mmg_8, mma_1, mma_2, mma_3, mma_4, mma_5, mma_6, mma_7, mma_8, mmu_0, mmu_2, mmu_6, mmu_11, mmu_12, sa_eq, sa_ne, sa_up, ms_eq, ms_ne, I_145]
theorem c144 : cal 144 [.ref M] (mm M S A σ) = some (some (.int (Int32.ofInt (S 0))), mm M S A σ) := by
  rw [E_144]
  simp (disch := omega) only [Int.reduceAdd, Int.reduceMul, Int.reduceSub, Int.reduceNeg, na_add, na_sub, na_mul, na_neg, na_lt, na_le, na_eq, na_ofNat, bo_some, tl_some, tl_none, rc_int, rc_ref, rc_null, rc_none, rc_long, tb_0, tb_1, ↓mr_g0, mr_r0, mr_get, mr_upd, mr_at, mr_wr, Classical.not_not, not_true_eq_false, not_false_eq_true, na_l0, na_l1, na_l2, na_l3, na_l4, na_l5, na_l6, na_l7, na_l8, na_l9, na_l10, na_l14, na_l15, na_l16, na_l25, na_l30, na_l31, na_l32, na_l33, na_l39, na_l43, na_l45, na_l48, na_l49, na_l50, na_l51, na_l52, na_l53, na_l55, na_l56, na_l57, na_l60, na_l64, na_l71, na_l80, na_l96, na_l100, na_l101, na_l102, na_l103, na_l104, na_l105, na_l106, na_l107, na_l108, na_l109, na_l110, na_l111, na_l112, na_l113, na_l114, na_l115, na_l116, na_l117, na_l118, na_l119, na_l120, na_l121, na_l125, na_l128, na_l150, na_l192, na_l255, na_l999, na_l1000, na_l1248, na_l1344, na_l1875, na_l10000, ↓reduceIte, pf_and, pe_le, pf_le, pe_lt, pf_lt, pe_eq, pf_eq, true_and, and_true, false_and, and_false, true_or, or_true, false_or, or_false, ↓mmk, ↓mmo_0, ↓mmo_1, ↓mmo_2, ↓mmo_3, ↓mmo_4, ↓mmo_5, ↓mmo_6, ↓mmo_7, ↓mmo_8, ↓mmo_9, ↓mmo_10, ↓mmo_11, ↓mmo_12, ↓mmv_0, ↓mmv_2, ↓mmv_6, ↓mmv_11, ↓mmv_12, ↓mmg_1, ↓mmg_2, ↓mmg_3, ↓mmg_4, ↓mmg_5, ↓mmg_6, ↓mmg_7, ↓mmg_8, mma_1, mma_2, mma_3, mma_4, mma_5, mma_6, mma_7, mma_8, mmu_0, mmu_2, mmu_6, mmu_11, mmu_12, sa_eq, sa_ne, sa_up, I_144]
/-- what is remembered: the diary and how many -/
def mh_n (n : Int) : Int := if n = 14 then 13 else n
def mh_D (n : Int) (D : mr_R) : mr_R := if n = 14 then mc_cp D 96 D 0 1248 else D
theorem mh_S {D : mr_R} {k : Int} (h : 0 ≤ k) : mr_st (mc_cp D 96 D 0 k) k (D (k + 96)) = mc_cp D 96 D 0 (k + 1) := by
  have := mc_cpS (F := D) (G := D) (p := 96) (q := 0) (n := k) h
  rw [Int.zero_add, show (96 : Int) + k = k + 96 by omega] at this
  exact this
theorem mh_g {D : mr_R} {k : Int} (h : 0 ≤ k) : mc_cp D 96 D 0 k (k + 96) = D (k + 96) := by
  unfold mc_cp
  rw [if_neg (by omega)]
theorem h203 : ∀ (z : Nat) (k : Int), 0 ≤ k → k + z = 1248 → ev 203 (11, [some (.ref M), some (.int (Int32.ofInt k))], []) (mm M S (ms_a A 4 (mc_cp (A 4) 96 (A 4) 0 k)) σ) = ev 203 (39, [some (.ref M), some (.int (Int32.ofInt 1248))], []) (mm M S (ms_a A 4 (mc_cp (A 4) 96 (A 4) 0 1248)) σ) := by
  intro z
  induction z with
  | zero =>
    intro k h5 h6
    rw [H_203_11]
    obtain rfl : k = 1248 := by omega
    simp (disch := omega) only [Int.reduceAdd, Int.reduceMul, Int.reduceSub, Int.reduceNeg, na_add, na_sub, na_mul, na_neg, na_lt, na_le, na_eq, na_ofNat, bo_some, tl_some, tl_none, rc_int, rc_ref, rc_null, rc_none, rc_long, tb_0, tb_1, ↓mr_g0, mr_r0, mr_get, mr_upd, mr_at, mr_wr, Classical.not_not, not_true_eq_false, not_false_eq_true, na_l0, na_l1, na_l2, na_l3, na_l4, na_l5, na_l6, na_l7, na_l8, na_l9, na_l10, na_l14, na_l15, na_l16, na_l25, na_l30, na_l31, na_l32, na_l33, na_l39, na_l43, na_l45, na_l48, na_l49, na_l50, na_l51, na_l52, na_l53, na_l55, na_l56, na_l57, na_l60, na_l64, na_l71, na_l80, na_l96, na_l100, na_l101, na_l102, na_l103, na_l104, na_l105, na_l106, na_l107, na_l108, na_l109, na_l110, na_l111, na_l112, na_l113, na_l114, na_l115, na_l116, na_l117, na_l118, na_l119, na_l120, na_l121, na_l125, na_l128, na_l150, na_l192, na_l255, na_l999, na_l1000, na_l1248, na_l1344, na_l1875, na_l10000, ↓reduceIte, pf_and, pe_le, pf_le, pe_lt, pf_lt, pe_eq, pf_eq, true_and, and_true, false_and, and_false, true_or, or_true, false_or, or_false, I_203_0]
  | succ z ih =>
    intro k h5 h6
    have hn := ih (k + 1) (by omega) (by omega)
    rw [H_203_11]
    simp (disch := omega) only [Int.reduceAdd, Int.reduceMul, Int.reduceSub, Int.reduceNeg, na_add, na_sub, na_mul, na_neg, na_lt, na_le, na_eq, na_ofNat, bo_some, tl_some, tl_none, rc_int, rc_ref, rc_null, rc_none, rc_long, tb_0, tb_1, ↓mr_g0, mr_r0, mr_get, mr_upd, mr_at, mr_wr, Classical.not_not, not_true_eq_false, not_false_eq_true, na_l0, na_l1, na_l2, na_l3, na_l4, na_l5, na_l6, na_l7, na_l8, na_l9, na_l10, na_l14, na_l15, na_l16, na_l25, na_l30, na_l31, na_l32, na_l33, na_l39, na_l43, na_l45, na_l48, na_l49, na_l50, na_l51, na_l52, na_l53, na_l55, na_l56, na_l57, na_l60, na_l64, na_l71, na_l80, na_l96, na_l100, na_l101, na_l102, na_l103, na_l104, na_l105, na_l106, na_l107, na_l108, na_l109, na_l110, na_l111, na_l112, na_l113, na_l114, na_l115, na_l116, na_l117, na_l118, na_l119, na_l120, na_l121, na_l125, na_l128, na_l150, na_l192, na_l255, na_l999, na_l1000, na_l1248, na_l1344, na_l1875, na_l10000, ↓reduceIte, pf_and, pe_le, pf_le, pe_lt, pf_lt, pe_eq, pf_eq, true_and, and_true, false_and, and_false, true_or, or_true, false_or, or_false, I_203_0, ↓mmk, ↓mmo_0, ↓mmo_1, ↓mmo_2, ↓mmo_3, ↓mmo_4, ↓mmo_5, ↓mmo_6, ↓mmo_7, ↓mmo_8, ↓mmo_9, ↓mmo_10, ↓mmo_11, ↓mmo_12, ↓mmv_0, ↓mmv_2, ↓mmv_6, ↓mmv_11, ↓mmv_12, ↓mmg_1, ↓mmg_2, ↓mmg_3, ↓mmg_4, ↓mmg_5, ↓mmg_6, ↓mmg_7, ↓mmg_8, mma_1, mma_2, mma_3, mma_4, mma_5, mma_6, mma_7, mma_8, mmu_0, mmu_2, mmu_6, mmu_11, mmu_12, sa_eq, sa_ne, sa_up, mh_g, mh_S, hn]
theorem y147_23 {p q : Int} (h1 : 0 ≤ p) (h2 : p + 96 ≤ 96) (h3 : 0 ≤ q) (h4 : q + 96 ≤ 96) : cal 147 [.ref (M + 2), .int (Int32.ofInt p), .ref (M + 3), .int (Int32.ofInt q)] (mm M S A σ) = some (none, mm M S (ms_a A 3 (mc_cp (A 2) p (A 3) q 96)) σ) := by rw [c147 mmx_2 mmx_3 (by omega) h1 (by omega) h3 (by omega) (by omega) (by omega), mmc_3]
theorem y147_24 {p q : Int} (h1 : 0 ≤ p) (h2 : p + 96 ≤ 96) (h3 : 0 ≤ q) (h4 : q + 96 ≤ 1344) : cal 147 [.ref (M + 2), .int (Int32.ofInt p), .ref (M + 4), .int (Int32.ofInt q)] (mm M S A σ) = some (none, mm M S (ms_a A 4 (mc_cp (A 2) p (A 4) q 96)) σ) := by rw [c147 mmx_2 mmx_4 (by omega) h1 (by omega) h3 (by omega) (by omega) (by omega), mmc_4]
theorem y147_42 {p q : Int} (h1 : 0 ≤ p) (h2 : p + 96 ≤ 1344) (h3 : 0 ≤ q) (h4 : q + 96 ≤ 96) : cal 147 [.ref (M + 4), .int (Int32.ofInt p), .ref (M + 2), .int (Int32.ofInt q)] (mm M S A σ) = some (none, mm M S (ms_a A 2 (mc_cp (A 4) p (A 2) q 96)) σ) := by rw [c147 mmx_4 mmx_2 (by omega) h1 (by omega) h3 (by omega) (by omega) (by omega), mmc_2]
theorem y147_32 {p q : Int} (h1 : 0 ≤ p) (h2 : p + 96 ≤ 96) (h3 : 0 ≤ q) (h4 : q + 96 ≤ 96) : cal 147 [.ref (M + 3), .int (Int32.ofInt p), .ref (M + 2), .int (Int32.ofInt q)] (mm M S A σ) = some (none, mm M S (ms_a A 2 (mc_cp (A 3) p (A 2) q 96)) σ) := by rw [c147 mmx_3 mmx_2 (by omega) h1 (by omega) h3 (by omega) (by omega) (by omega), mmc_2]
theorem y147_25 {p q : Int} (h1 : 0 ≤ p) (h2 : p + 96 ≤ 96) (h3 : 0 ≤ q) (h4 : q + 96 ≤ 192) : cal 147 [.ref (M + 2), .int (Int32.ofInt p), .ref (M + 5), .int (Int32.ofInt q)] (mm M S A σ) = some (none, mm M S (ms_a A 5 (mc_cp (A 2) p (A 5) q 96)) σ) := by rw [c147 mmx_2 mmx_5 (by omega) h1 (by omega) h3 (by omega) (by omega) (by omega), mmc_5]
theorem y147_52 {p q : Int} (h1 : 0 ≤ p) (h2 : p + 96 ≤ 192) (h3 : 0 ≤ q) (h4 : q + 96 ≤ 96) : cal 147 [.ref (M + 5), .int (Int32.ofInt p), .ref (M + 2), .int (Int32.ofInt q)] (mm M S A σ) = some (none, mm M S (ms_a A 2 (mc_cp (A 5) p (A 2) q 96)) σ) := by rw [c147 mmx_5 mmx_2 (by omega) h1 (by omega) h3 (by omega) (by omega) (by omega), mmc_2]
theorem c203 (h1 : 0 ≤ S 2) (h2 : S 2 ≤ 14) : cal 203 [.ref M] (mm M S A σ) = some (none, mm M (mr_st S 2 (mh_n (S 2) + 1)) (ms_a A 4 (mc_cp (A 2) 0 (mh_D (S 2) (A 4)) (96 * mh_n (S 2)) 96)) σ) := by
  rw [E_203]
  unfold mh_n mh_D
  by_cases q : S 2 = 14
  · rw [if_pos q, if_pos q]
    have h := h203 (M := M) (S := S) (A := A) (σ := σ) 1248 0 (by omega) (by omega)
    have e0 : mc_cp (A 4) 96 (A 4) 0 0 = A 4 := mc_cp0
    rw [e0, sa_id] at h
    simp (disch := first | omega | (simp (disch := omega) only [ms_eq, ms_ne, mg_eat_of, mg_seat_of] <;> omega) | fail) only [Int.reduceAdd, Int.reduceMul, Int.reduceSub, Int.reduceNeg, na_add, na_sub, na_mul, na_neg, na_lt, na_le, na_eq, na_ofNat, bo_some, tl_some, tl_none, rc_int, rc_ref, rc_null, rc_none, rc_long, tb_0, tb_1, ↓mr_g0, mr_r0, mr_get, mr_upd, mr_at, mr_wr, Classical.not_not, not_true_eq_false, not_false_eq_true, na_l0, na_l1, na_l2, na_l3, na_l4, na_l5, na_l6, na_l7, na_l8, na_l9, na_l10, na_l14, na_l15, na_l16, na_l25, na_l30, na_l31, na_l32, na_l33, na_l39, na_l43, na_l45, na_l48, na_l49, na_l50, na_l51, na_l52, na_l53, na_l55, na_l56, na_l57, na_l60, na_l64, na_l71, na_l80, na_l96, na_l100, na_l101, na_l102, na_l103, na_l104, na_l105, na_l106, na_l107, na_l108, na_l109, na_l110, na_l111, na_l112, na_l113, na_l114, na_l115, na_l116, na_l117, na_l118, na_l119, na_l120, na_l121, na_l125, na_l128, na_l150, na_l192, na_l255, na_l999, na_l1000, na_l1248, na_l1344, na_l1875, na_l10000, ↓reduceIte, pf_and, pe_le, pf_le, pe_lt, pf_lt, pe_eq, pf_eq, true_and, and_true, false_and, and_false, true_or, or_true, false_or, or_false, I_203_0, I_203_1, ↓mmk, ↓mmo_0, ↓mmo_1, ↓mmo_2, ↓mmo_3, ↓mmo_4, ↓mmo_5, ↓mmo_6, ↓mmo_7, ↓mmo_8, ↓mmo_9, ↓mmo_10, ↓mmo_11, ↓mmo_12, ↓mmv_0, ↓mmv_2, ↓mmv_6, ↓mmv_11, ↓mmv_12, ↓mmg_1, ↓mmg_2, ↓mmg_3, ↓mmg_4, ↓mmg_5, ↓mmg_6, ↓mmg_7, ↓mmg_8, mma_1, mma_2, mma_3, mma_4, mma_5, mma_6, mma_7, mma_8, mmu_0, mmu_2, mmu_6, mmu_11, mmu_12, sa_eq, sa_ne, sa_up, ms_eq, ms_ne, q, h, y147_24, ms_up]
  · rw [if_neg q, if_neg q]
    simp (disch := first | omega | (simp (disch := omega) only [ms_eq, ms_ne, mg_eat_of, mg_seat_of] <;> omega) | fail) only [Int.reduceAdd, Int.reduceMul, Int.reduceSub, Int.reduceNeg, na_add, na_sub, na_mul, na_neg, na_lt, na_le, na_eq, na_ofNat, bo_some, tl_some, tl_none, rc_int, rc_ref, rc_null, rc_none, rc_long, tb_0, tb_1, ↓mr_g0, mr_r0, mr_get, mr_upd, mr_at, mr_wr, Classical.not_not, not_true_eq_false, not_false_eq_true, na_l0, na_l1, na_l2, na_l3, na_l4, na_l5, na_l6, na_l7, na_l8, na_l9, na_l10, na_l14, na_l15, na_l16, na_l25, na_l30, na_l31, na_l32, na_l33, na_l39, na_l43, na_l45, na_l48, na_l49, na_l50, na_l51, na_l52, na_l53, na_l55, na_l56, na_l57, na_l60, na_l64, na_l71, na_l80, na_l96, na_l100, na_l101, na_l102, na_l103, na_l104, na_l105, na_l106, na_l107, na_l108, na_l109, na_l110, na_l111, na_l112, na_l113, na_l114, na_l115, na_l116, na_l117, na_l118, na_l119, na_l120, na_l121, na_l125, na_l128, na_l150, na_l192, na_l255, na_l999, na_l1000, na_l1248, na_l1344, na_l1875, na_l10000, ↓reduceIte, pf_and, pe_le, pf_le, pe_lt, pf_lt, pe_eq, pf_eq, true_and, and_true, false_and, and_false, true_or, or_true, false_or, or_false, I_203_0, I_203_1, ↓mmk, ↓mmo_0, ↓mmo_1, ↓mmo_2, ↓mmo_3, ↓mmo_4, ↓mmo_5, ↓mmo_6, ↓mmo_7, ↓mmo_8, ↓mmo_9, ↓mmo_10, ↓mmo_11, ↓mmo_12, ↓mmv_0, ↓mmv_2, ↓mmv_6, ↓mmv_11, ↓mmv_12, ↓mmg_1, ↓mmg_2, ↓mmg_3, ↓mmg_4, ↓mmg_5, ↓mmg_6, ↓mmg_7, ↓mmg_8, mma_1, mma_2, mma_3, mma_4, mma_5, mma_6, mma_7, mma_8, mmu_0, mmu_2, mmu_6, mmu_11, mmu_12, sa_eq, sa_ne, sa_up, ms_eq, ms_ne, y147_24]
end MMB
