/-! The class's object: numbers V (text's length, oldest, count, search's now), ponds (0 pond, 1 trial, 2..15 ring, 16..17 slots), rows X (0 signs, 1 full, 2.. search). -/
def cs_b (C i : Nat) : Nat := if i = 0 then C + 3 else if i = 1 then C + 20 else if i < 16 then C + 39 + 17 * (i - 2) else C + 280 + 17 * (i - 16)
/-- which pond an address belongs to (18: none) -/
def cs_i (o : Nat) : Nat := if o < 3 then 18 else if o < 20 then 0 else if o < 37 then 1 else if o < 39 then 18 else if o < 277 then (o - 39) / 17 + 2 else if o < 280 then 18 else if o < 314 then (o - 280) / 17 + 16 else 18
def cs_o (C : Nat) (V : mr_R) (X : Nat → mr_R) : Nat → Option ri_El
  | 0 => some (.inr (.inr (8, [.ref (C + 1), .ref (C + 3), .ref (C + 20), .ref (C + 37), .ref (C + 277), .ref (C + 314)])))
  | 1 => some (.inr (.inr (6, [.ref (C + 2), .int (Int32.ofInt (V 0))])))
  | 2 => some (.inl (0, 120, mr_ar (X 0)))
  | 37 => some (.inr (.inr (1, [.ref (C + 38), .int (Int32.ofInt (V 1)), .int (Int32.ofInt (V 2))])))
  | 38 => some (.inr (.inl (14, fun i => if i < 14 then some (C + 39 + 17 * i) else none)))
  | 277 => some (.inr (.inr (5, [.ref (C + 278), .ref (C + 279)])))
  | 278 => some (.inr (.inl (2, fun i => if i < 2 then some (C + 280 + 17 * i) else none)))
  | 279 => some (.inl (0, 2, mr_ar (X 1)))
  | 314 => some (.inr (.inr (4, [.ref (C + 315), .ref (C + 316), .ref (C + 317), .ref (C + 318), .ref (C + 319), .ref (C + 320), .ref (C + 321), .ref (C + 322), .ref (C + 323), .int (Int32.ofInt (V 3))])))
  | 315 => some (.inl (0, 15, mr_ar (X 2)))
  | 316 => some (.inl (0, 15, mr_ar (X 3)))
  | 317 => some (.inl (0, 15, mr_ar (X 4)))
  | 318 => some (.inl (0, 1875, mr_ar (X 5)))
  | 319 => some (.inl (0, 150, mr_ar (X 6)))
  | 320 => some (.inl (0, 15, mr_ar (X 7)))
  | 321 => some (.inl (0, 1875, mr_ar (X 8)))
  | 322 => some (.inl (0, 1875, mr_ar (X 9)))
  | 323 => some (.inl (0, 15, mr_ar (X 10)))
  | _ => none
def cs_c (C : Nat) (V : mr_R) (PR PZ X : Nat → mr_R) (o : Nat) : Option ri_El := if cs_i o = 18 then cs_o C V X o else mp_c (cs_b C (cs_i o)) (PR (cs_i o)) (PZ (cs_i o)) (C + o - cs_b C (cs_i o))
def cs (C : Nat) (V : mr_R) (PR PZ X : Nat → mr_R) (σ : ri_S) : ri_S := (fun q => if C ≤ q ∧ q < C + 324 then cs_c C V PR PZ X (q - C) else σ.1 q, σ.2)
theorem cs_bi {C i o : Nat} (h : i < 18) (h2 : o < 17) : cs_i (cs_b C i + o - C) = i ∧ C ≤ cs_b C i ∧ cs_b C i + 17 ≤ C + 324 := by
  unfold cs_i cs_b
  repeat' split
  all_goals omega
theorem cs_ib {C i q : Nat} (h : C ≤ q) (h2 : q < C + 324) (h3 : cs_i (q - C) = i) (h4 : i ≠ 18) : i < 18 ∧ cs_b C i ≤ q ∧ q < cs_b C i + 17 := by
  unfold cs_i at h3
  unfold cs_b
  repeat' split at h3
  all_goals (repeat' split)
  all_goals omega
section CSA
variable {C : Nat} {V : mr_R} {PR PZ X : Nat → mr_R} {σ : ri_S}
theorem cs_at {o : Nat} (h : o < 324) : (cs C V PR PZ X σ).1 (C + o) = cs_c C V PR PZ X o := by
  show (if C ≤ C + o ∧ C + o < C + 324 then cs_c C V PR PZ X (C + o - C) else σ.1 (C + o)) = _
  rw [if_pos (by omega), show C + o - C = o by omega]
theorem cs_off {q : Nat} (h : ¬ (C ≤ q ∧ q < C + 324)) : (cs C V PR PZ X σ).1 q = σ.1 q := if_neg h
theorem cs_pd {i o : Nat} (h : i < 18) (h2 : o < 17) : (cs C V PR PZ X σ).1 (cs_b C i + o) = mp_c (cs_b C i) (PR i) (PZ i) o := by
  obtain ⟨a1, a2, a3⟩ := cs_bi (C := C) h h2
  show (if C ≤ cs_b C i + o ∧ cs_b C i + o < C + 324 then cs_c C V PR PZ X (cs_b C i + o - C) else σ.1 (cs_b C i + o)) = _
  rw [if_pos (by omega)]
  unfold cs_c
  rw [a1, if_neg (by omega), show C + (cs_b C i + o - C) - cs_b C i = o by omega]
theorem cs_has {i : Nat} (h : i < 18) : mp_has (cs_b C i) (PR i) (PZ i) (cs C V PR PZ X σ) := fun o ho => cs_pd h ho
theorem css {i : Nat} (h : i < 18) : mp (cs_b C i) (PR i) (PZ i) (cs C V PR PZ X σ) = cs C V PR PZ X σ := mp_same fun o ho => cs_pd h ho
theorem csr {i : Nat} {R Z : mr_R} (h : i < 18) : mp (cs_b C i) R Z (cs C V PR PZ X σ) = cs C V (ms_a PR i R) (ms_a PZ i Z) X σ := by
  refine congrArg (·, σ.2) (funext fun q => ?_)
  show (if cs_b C i ≤ q ∧ q < cs_b C i + 17 then mp_c (cs_b C i) R Z (q - cs_b C i) else if C ≤ q ∧ q < C + 324 then cs_c C V PR PZ X (q - C) else σ.1 q) = if C ≤ q ∧ q < C + 324 then cs_c C V (ms_a PR i R) (ms_a PZ i Z) X (q - C) else σ.1 q
  obtain ⟨a1, a2, a3⟩ := cs_bi (C := C) h (o := 0) (by decide)
  by_cases b : cs_b C i ≤ q ∧ q < cs_b C i + 17
  · rw [if_pos b, if_pos (by omega)]
    obtain ⟨c1, -, -⟩ := cs_bi (C := C) h (o := q - cs_b C i) (by omega)
    rw [show cs_b C i + (q - cs_b C i) - C = q - C by omega] at c1
    unfold cs_c
    rw [c1, if_neg (by omega), sa_eq rfl, sa_eq rfl, show C + (q - C) - cs_b C i = q - cs_b C i by omega]
  · rw [if_neg b]
    by_cases d : C ≤ q ∧ q < C + 324
    · rw [if_pos d, if_pos d]
      unfold cs_c
      by_cases e : cs_i (q - C) = 18
      · rw [if_pos e, if_pos e]
      · rw [if_neg e, if_neg e]
        have hne : cs_i (q - C) ≠ i := fun z => b (cs_ib d.1 d.2 z (by omega)).2
        rw [sa_ne hne, sa_ne hne]
    · rw [if_neg d, if_neg d]
theorem cs_wr {V2 : mr_R} {X2 : Nat → mr_R} {o : Nat} {e : ri_El} (h : o < 324) (hi : cs_i o = 18) (h2 : cs_o C V2 X2 o = some e) (h3 : ∀ j, j < 324 → j ≠ o → cs_i j = 18 → cs_o C V2 X2 j = cs_o C V X j) : ((ri_upd (cs C V PR PZ X σ).1 (C + o) e, (cs C V PR PZ X σ).2) : ri_S) = cs C V2 PR PZ X2 σ := by
  refine congrArg (·, σ.2) (funext fun q => ?_)
  show (if q = C + o then some e else (if C ≤ q ∧ q < C + 324 then cs_c C V PR PZ X (q - C) else σ.1 q)) = (if C ≤ q ∧ q < C + 324 then cs_c C V2 PR PZ X2 (q - C) else σ.1 q)
  by_cases a : q = C + o
  · rw [if_pos a, if_pos (by omega), ← h2, show q - C = o by omega]
    unfold cs_c
    rw [hi, if_pos rfl]
  · rw [if_neg a]
    by_cases b : C ≤ q ∧ q < C + 324
    · rw [if_pos b, if_pos b]
      unfold cs_c
      by_cases e : cs_i (q - C) = 18
      · rw [if_pos e, if_pos e, h3 (q - C) (by omega) (by omega) e]
      · rw [if_neg e, if_neg e]
    · rw [if_neg b, if_neg b]
theorem cs_same (h : ∀ o, o < 324 → σ.1 (C + o) = cs_c C V PR PZ X o) : cs C V PR PZ X σ = σ := by
  obtain ⟨f, z⟩ := σ
  refine congrArg (·, z) (funext fun q => ?_)
  show (if C ≤ q ∧ q < C + 324 then cs_c C V PR PZ X (q - C) else f q) = f q
  by_cases b : C ≤ q ∧ q < C + 324
  · rw [if_pos b, ← h (q - C) (by omega), show C + (q - C) = q by omega]
  · rw [if_neg b]
/-- which plain cells there are -/
theorem cs_oc {j : Nat} (h : cs_i j = 18) (h2 : j < 324) : j = 0 ∨ j = 1 ∨ j = 2 ∨ j = 37 ∨ j = 38 ∨ j = 277 ∨ j = 278 ∨ j = 279 ∨ j = 314 ∨ j = 315 ∨ j = 316 ∨ j = 317 ∨ j = 318 ∨ j = 319 ∨ j = 320 ∨ j = 321 ∨ j = 322 ∨ j = 323 := by
  unfold cs_i at h
  repeat' split at h
  all_goals omega
theorem csx_0 : (cs C V PR PZ X σ).1 (C) = some (.inr (.inr (8, [.ref (C + 1), .ref (C + 3), .ref (C + 20), .ref (C + 37), .ref (C + 277), .ref (C + 314)]))) := (cs_at (o := 0) (by decide)).trans rfl
theorem csx_1 : (cs C V PR PZ X σ).1 (C + 1) = some (.inr (.inr (6, [.ref (C + 2), .int (Int32.ofInt (V 0))]))) := (cs_at (o := 1) (by decide)).trans rfl
theorem csx_2 : (cs C V PR PZ X σ).1 (C + 2) = some (.inl (0, 120, mr_ar (X 0))) := (cs_at (o := 2) (by decide)).trans rfl
theorem csx_37 : (cs C V PR PZ X σ).1 (C + 37) = some (.inr (.inr (1, [.ref (C + 38), .int (Int32.ofInt (V 1)), .int (Int32.ofInt (V 2))]))) := (cs_at (o := 37) (by decide)).trans rfl
theorem csx_38 : (cs C V PR PZ X σ).1 (C + 38) = some (.inr (.inl (14, fun i => if i < 14 then some (C + 39 + 17 * i) else none))) := (cs_at (o := 38) (by decide)).trans rfl
theorem csx_277 : (cs C V PR PZ X σ).1 (C + 277) = some (.inr (.inr (5, [.ref (C + 278), .ref (C + 279)]))) := (cs_at (o := 277) (by decide)).trans rfl
theorem csx_278 : (cs C V PR PZ X σ).1 (C + 278) = some (.inr (.inl (2, fun i => if i < 2 then some (C + 280 + 17 * i) else none))) := (cs_at (o := 278) (by decide)).trans rfl
theorem csx_279 : (cs C V PR PZ X σ).1 (C + 279) = some (.inl (0, 2, mr_ar (X 1))) := (cs_at (o := 279) (by decide)).trans rfl
theorem csx_314 : (cs C V PR PZ X σ).1 (C + 314) = some (.inr (.inr (4, [.ref (C + 315), .ref (C + 316), .ref (C + 317), .ref (C + 318), .ref (C + 319), .ref (C + 320), .ref (C + 321), .ref (C + 322), .ref (C + 323), .int (Int32.ofInt (V 3))]))) := (cs_at (o := 314) (by decide)).trans rfl
theorem csx_315 : (cs C V PR PZ X σ).1 (C + 315) = some (.inl (0, 15, mr_ar (X 2))) := (cs_at (o := 315) (by decide)).trans rfl
theorem csx_316 : (cs C V PR PZ X σ).1 (C + 316) = some (.inl (0, 15, mr_ar (X 3))) := (cs_at (o := 316) (by decide)).trans rfl
theorem csx_317 : (cs C V PR PZ X σ).1 (C + 317) = some (.inl (0, 15, mr_ar (X 4))) := (cs_at (o := 317) (by decide)).trans rfl
theorem csx_318 : (cs C V PR PZ X σ).1 (C + 318) = some (.inl (0, 1875, mr_ar (X 5))) := (cs_at (o := 318) (by decide)).trans rfl
theorem csx_319 : (cs C V PR PZ X σ).1 (C + 319) = some (.inl (0, 150, mr_ar (X 6))) := (cs_at (o := 319) (by decide)).trans rfl
theorem csx_320 : (cs C V PR PZ X σ).1 (C + 320) = some (.inl (0, 15, mr_ar (X 7))) := (cs_at (o := 320) (by decide)).trans rfl
theorem csx_321 : (cs C V PR PZ X σ).1 (C + 321) = some (.inl (0, 1875, mr_ar (X 8))) := (cs_at (o := 321) (by decide)).trans rfl
theorem csx_322 : (cs C V PR PZ X σ).1 (C + 322) = some (.inl (0, 1875, mr_ar (X 9))) := (cs_at (o := 322) (by decide)).trans rfl
theorem csx_323 : (cs C V PR PZ X σ).1 (C + 323) = some (.inl (0, 15, mr_ar (X 10))) := (cs_at (o := 323) (by decide)).trans rfl
theorem csk_0 {Y : Option ri_R} : tv_k 8 ((cs C V PR PZ X σ).1 C) Y = Y := by rw [csx_0]; exact tv_k0
theorem cso_0_0 {K : Value → Option ri_R} : tv_o 8 0 ((cs C V PR PZ X σ).1 C) K = K (.ref (C + 1)) := by rw [csx_0]; exact tvo_8_0
theorem cso_0_1 {K : Value → Option ri_R} : tv_o 8 1 ((cs C V PR PZ X σ).1 C) K = K (.ref (C + 3)) := by rw [csx_0]; exact tvo_8_1
theorem cso_0_2 {K : Value → Option ri_R} : tv_o 8 2 ((cs C V PR PZ X σ).1 C) K = K (.ref (C + 20)) := by rw [csx_0]; exact tvo_8_2
theorem cso_0_3 {K : Value → Option ri_R} : tv_o 8 3 ((cs C V PR PZ X σ).1 C) K = K (.ref (C + 37)) := by rw [csx_0]; exact tvo_8_3
theorem cso_0_4 {K : Value → Option ri_R} : tv_o 8 4 ((cs C V PR PZ X σ).1 C) K = K (.ref (C + 277)) := by rw [csx_0]; exact tvo_8_4
theorem cso_0_5 {K : Value → Option ri_R} : tv_o 8 5 ((cs C V PR PZ X σ).1 C) K = K (.ref (C + 314)) := by rw [csx_0]; exact tvo_8_5
theorem csk_1 {Y : Option ri_R} : tv_k 6 ((cs C V PR PZ X σ).1 (C + 1)) Y = Y := by rw [csx_1]; exact tv_k0
theorem cso_1_0 {K : Value → Option ri_R} : tv_o 6 0 ((cs C V PR PZ X σ).1 (C + 1)) K = K (.ref (C + 2)) := by rw [csx_1]; exact tvo_6_0
theorem cso_1_1 {K : Value → Option ri_R} : tv_o 6 1 ((cs C V PR PZ X σ).1 (C + 1)) K = K (.int (Int32.ofInt (V 0))) := by rw [csx_1]; exact tvo_6_1
theorem csv_1_1 {v : Value} {K : List Value → Option ri_R} : tv_w 6 1 ((cs C V PR PZ X σ).1 (C + 1)) v K = K [.ref (C + 2), v] := by rw [csx_1]; exact tvw_6_1
theorem csk_37 {Y : Option ri_R} : tv_k 1 ((cs C V PR PZ X σ).1 (C + 37)) Y = Y := by rw [csx_37]; exact tv_k0
theorem cso_37_0 {K : Value → Option ri_R} : tv_o 1 0 ((cs C V PR PZ X σ).1 (C + 37)) K = K (.ref (C + 38)) := by rw [csx_37]; exact tvo_1_0
theorem cso_37_1 {K : Value → Option ri_R} : tv_o 1 1 ((cs C V PR PZ X σ).1 (C + 37)) K = K (.int (Int32.ofInt (V 1))) := by rw [csx_37]; exact tvo_1_1
theorem csv_37_1 {v : Value} {K : List Value → Option ri_R} : tv_w 1 1 ((cs C V PR PZ X σ).1 (C + 37)) v K = K [.ref (C + 38), v, .int (Int32.ofInt (V 2))] := by rw [csx_37]; exact tvw_1_1
theorem cso_37_2 {K : Value → Option ri_R} : tv_o 1 2 ((cs C V PR PZ X σ).1 (C + 37)) K = K (.int (Int32.ofInt (V 2))) := by rw [csx_37]; exact tvo_1_2
theorem csv_37_2 {v : Value} {K : List Value → Option ri_R} : tv_w 1 2 ((cs C V PR PZ X σ).1 (C + 37)) v K = K [.ref (C + 38), .int (Int32.ofInt (V 1)), v] := by rw [csx_37]; exact tvw_1_2
theorem csk_277 {Y : Option ri_R} : tv_k 5 ((cs C V PR PZ X σ).1 (C + 277)) Y = Y := by rw [csx_277]; exact tv_k0
theorem cso_277_0 {K : Value → Option ri_R} : tv_o 5 0 ((cs C V PR PZ X σ).1 (C + 277)) K = K (.ref (C + 278)) := by rw [csx_277]; exact tvo_5_0
theorem cso_277_1 {K : Value → Option ri_R} : tv_o 5 1 ((cs C V PR PZ X σ).1 (C + 277)) K = K (.ref (C + 279)) := by rw [csx_277]; exact tvo_5_1
theorem csk_314 {Y : Option ri_R} : tv_k 4 ((cs C V PR PZ X σ).1 (C + 314)) Y = Y := by rw [csx_314]; exact tv_k0
theorem cso_314_0 {K : Value → Option ri_R} : tv_o 4 0 ((cs C V PR PZ X σ).1 (C + 314)) K = K (.ref (C + 315)) := by rw [csx_314]; exact tvo_4_0
theorem cso_314_1 {K : Value → Option ri_R} : tv_o 4 1 ((cs C V PR PZ X σ).1 (C + 314)) K = K (.ref (C + 316)) := by rw [csx_314]; exact tvo_4_1
theorem cso_314_2 {K : Value → Option ri_R} : tv_o 4 2 ((cs C V PR PZ X σ).1 (C + 314)) K = K (.ref (C + 317)) := by rw [csx_314]; exact tvo_4_2
theorem cso_314_3 {K : Value → Option ri_R} : tv_o 4 3 ((cs C V PR PZ X σ).1 (C + 314)) K = K (.ref (C + 318)) := by rw [csx_314]; exact tvo_4_3
theorem cso_314_4 {K : Value → Option ri_R} : tv_o 4 4 ((cs C V PR PZ X σ).1 (C + 314)) K = K (.ref (C + 319)) := by rw [csx_314]; exact tvo_4_4
theorem cso_314_5 {K : Value → Option ri_R} : tv_o 4 5 ((cs C V PR PZ X σ).1 (C + 314)) K = K (.ref (C + 320)) := by rw [csx_314]; exact tvo_4_5
theorem cso_314_6 {K : Value → Option ri_R} : tv_o 4 6 ((cs C V PR PZ X σ).1 (C + 314)) K = K (.ref (C + 321)) := by rw [csx_314]; exact tvo_4_6
theorem cso_314_7 {K : Value → Option ri_R} : tv_o 4 7 ((cs C V PR PZ X σ).1 (C + 314)) K = K (.ref (C + 322)) := by rw [csx_314]; exact tvo_4_7
theorem cso_314_8 {K : Value → Option ri_R} : tv_o 4 8 ((cs C V PR PZ X σ).1 (C + 314)) K = K (.ref (C + 323)) := by rw [csx_314]; exact tvo_4_8
theorem cso_314_9 {K : Value → Option ri_R} : tv_o 4 9 ((cs C V PR PZ X σ).1 (C + 314)) K = K (.int (Int32.ofInt (V 3))) := by rw [csx_314]; exact tvo_4_9
theorem csv_314_9 {v : Value} {K : List Value → Option ri_R} : tv_w 4 9 ((cs C V PR PZ X σ).1 (C + 314)) v K = K [.ref (C + 315), .ref (C + 316), .ref (C + 317), .ref (C + 318), .ref (C + 319), .ref (C + 320), .ref (C + 321), .ref (C + 322), .ref (C + 323), v] := by rw [csx_314]; exact tvw_4_9
theorem csg_2 {i : Int} {K : Nat → (Nat → Int32) → Nat → Option ri_R} (h : 0 ≤ i) (h2 : i < 120) : tv_r 0 ((cs C V PR PZ X σ).1 (C + 2)) (Int32.ofInt i) K = K 120 (mr_ar (X 0)) i.toNat := by rw [csx_2, mr_r0 h (by omega) (by omega)]
theorem csn_2 {K : Nat → Option ri_R} : tv_n ((cs C V PR PZ X σ).1 (C + 2)) K = K 120 := by rw [csx_2]; exact tv_n0
theorem csg_279 {i : Int} {K : Nat → (Nat → Int32) → Nat → Option ri_R} (h : 0 ≤ i) (h2 : i < 2) : tv_r 0 ((cs C V PR PZ X σ).1 (C + 279)) (Int32.ofInt i) K = K 2 (mr_ar (X 1)) i.toNat := by rw [csx_279, mr_r0 h (by omega) (by omega)]
theorem csn_279 {K : Nat → Option ri_R} : tv_n ((cs C V PR PZ X σ).1 (C + 279)) K = K 2 := by rw [csx_279]; exact tv_n0
theorem csg_315 {i : Int} {K : Nat → (Nat → Int32) → Nat → Option ri_R} (h : 0 ≤ i) (h2 : i < 15) : tv_r 0 ((cs C V PR PZ X σ).1 (C + 315)) (Int32.ofInt i) K = K 15 (mr_ar (X 2)) i.toNat := by rw [csx_315, mr_r0 h (by omega) (by omega)]
theorem csn_315 {K : Nat → Option ri_R} : tv_n ((cs C V PR PZ X σ).1 (C + 315)) K = K 15 := by rw [csx_315]; exact tv_n0
theorem csg_316 {i : Int} {K : Nat → (Nat → Int32) → Nat → Option ri_R} (h : 0 ≤ i) (h2 : i < 15) : tv_r 0 ((cs C V PR PZ X σ).1 (C + 316)) (Int32.ofInt i) K = K 15 (mr_ar (X 3)) i.toNat := by rw [csx_316, mr_r0 h (by omega) (by omega)]
theorem csn_316 {K : Nat → Option ri_R} : tv_n ((cs C V PR PZ X σ).1 (C + 316)) K = K 15 := by rw [csx_316]; exact tv_n0
theorem csg_317 {i : Int} {K : Nat → (Nat → Int32) → Nat → Option ri_R} (h : 0 ≤ i) (h2 : i < 15) : tv_r 0 ((cs C V PR PZ X σ).1 (C + 317)) (Int32.ofInt i) K = K 15 (mr_ar (X 4)) i.toNat := by rw [csx_317, mr_r0 h (by omega) (by omega)]
theorem csn_317 {K : Nat → Option ri_R} : tv_n ((cs C V PR PZ X σ).1 (C + 317)) K = K 15 := by rw [csx_317]; exact tv_n0
theorem csg_318 {i : Int} {K : Nat → (Nat → Int32) → Nat → Option ri_R} (h : 0 ≤ i) (h2 : i < 1875) : tv_r 0 ((cs C V PR PZ X σ).1 (C + 318)) (Int32.ofInt i) K = K 1875 (mr_ar (X 5)) i.toNat := by rw [csx_318, mr_r0 h (by omega) (by omega)]
theorem csn_318 {K : Nat → Option ri_R} : tv_n ((cs C V PR PZ X σ).1 (C + 318)) K = K 1875 := by rw [csx_318]; exact tv_n0
theorem csg_319 {i : Int} {K : Nat → (Nat → Int32) → Nat → Option ri_R} (h : 0 ≤ i) (h2 : i < 150) : tv_r 0 ((cs C V PR PZ X σ).1 (C + 319)) (Int32.ofInt i) K = K 150 (mr_ar (X 6)) i.toNat := by rw [csx_319, mr_r0 h (by omega) (by omega)]
theorem csn_319 {K : Nat → Option ri_R} : tv_n ((cs C V PR PZ X σ).1 (C + 319)) K = K 150 := by rw [csx_319]; exact tv_n0
theorem csg_320 {i : Int} {K : Nat → (Nat → Int32) → Nat → Option ri_R} (h : 0 ≤ i) (h2 : i < 15) : tv_r 0 ((cs C V PR PZ X σ).1 (C + 320)) (Int32.ofInt i) K = K 15 (mr_ar (X 7)) i.toNat := by rw [csx_320, mr_r0 h (by omega) (by omega)]
theorem csn_320 {K : Nat → Option ri_R} : tv_n ((cs C V PR PZ X σ).1 (C + 320)) K = K 15 := by rw [csx_320]; exact tv_n0
theorem csg_321 {i : Int} {K : Nat → (Nat → Int32) → Nat → Option ri_R} (h : 0 ≤ i) (h2 : i < 1875) : tv_r 0 ((cs C V PR PZ X σ).1 (C + 321)) (Int32.ofInt i) K = K 1875 (mr_ar (X 8)) i.toNat := by rw [csx_321, mr_r0 h (by omega) (by omega)]
theorem csn_321 {K : Nat → Option ri_R} : tv_n ((cs C V PR PZ X σ).1 (C + 321)) K = K 1875 := by rw [csx_321]; exact tv_n0
theorem csg_322 {i : Int} {K : Nat → (Nat → Int32) → Nat → Option ri_R} (h : 0 ≤ i) (h2 : i < 1875) : tv_r 0 ((cs C V PR PZ X σ).1 (C + 322)) (Int32.ofInt i) K = K 1875 (mr_ar (X 9)) i.toNat := by rw [csx_322, mr_r0 h (by omega) (by omega)]
theorem csn_322 {K : Nat → Option ri_R} : tv_n ((cs C V PR PZ X σ).1 (C + 322)) K = K 1875 := by rw [csx_322]; exact tv_n0
theorem csg_323 {i : Int} {K : Nat → (Nat → Int32) → Nat → Option ri_R} (h : 0 ≤ i) (h2 : i < 15) : tv_r 0 ((cs C V PR PZ X σ).1 (C + 323)) (Int32.ofInt i) K = K 15 (mr_ar (X 10)) i.toNat := by rw [csx_323, mr_r0 h (by omega) (by omega)]
theorem csn_323 {K : Nat → Option ri_R} : tv_n ((cs C V PR PZ X σ).1 (C + 323)) K = K 15 := by rw [csx_323]; exact tv_n0
theorem csa_2 {Y : mr_R} : ((ri_upd (cs C V PR PZ X σ).1 (C + 2) (.inl (0, 120, mr_ar Y)), (cs C V PR PZ X σ).2) : ri_S) = cs C V PR PZ (ms_a X 0 Y) σ :=
  cs_wr (o := 2) (by decide) (by decide) (by simp (disch := omega) only [cs_o, sa_eq]) (fun j hj hn hi => by
    rcases cs_oc hi hj with e | e | e | e | e | e | e | e | e | e | e | e | e | e | e | e | e | e <;> subst e <;> first | rfl | (exact absurd rfl hn) | (simp (disch := omega) only [cs_o, sa_ne, ms_ne]))
theorem csa_279 {Y : mr_R} : ((ri_upd (cs C V PR PZ X σ).1 (C + 279) (.inl (0, 2, mr_ar Y)), (cs C V PR PZ X σ).2) : ri_S) = cs C V PR PZ (ms_a X 1 Y) σ :=
  cs_wr (o := 279) (by decide) (by decide) (by simp (disch := omega) only [cs_o, sa_eq]) (fun j hj hn hi => by
    rcases cs_oc hi hj with e | e | e | e | e | e | e | e | e | e | e | e | e | e | e | e | e | e <;> subst e <;> first | rfl | (exact absurd rfl hn) | (simp (disch := omega) only [cs_o, sa_ne, ms_ne]))
theorem csa_315 {Y : mr_R} : ((ri_upd (cs C V PR PZ X σ).1 (C + 315) (.inl (0, 15, mr_ar Y)), (cs C V PR PZ X σ).2) : ri_S) = cs C V PR PZ (ms_a X 2 Y) σ :=
  cs_wr (o := 315) (by decide) (by decide) (by simp (disch := omega) only [cs_o, sa_eq]) (fun j hj hn hi => by
    rcases cs_oc hi hj with e | e | e | e | e | e | e | e | e | e | e | e | e | e | e | e | e | e <;> subst e <;> first | rfl | (exact absurd rfl hn) | (simp (disch := omega) only [cs_o, sa_ne, ms_ne]))
theorem csa_316 {Y : mr_R} : ((ri_upd (cs C V PR PZ X σ).1 (C + 316) (.inl (0, 15, mr_ar Y)), (cs C V PR PZ X σ).2) : ri_S) = cs C V PR PZ (ms_a X 3 Y) σ :=
  cs_wr (o := 316) (by decide) (by decide) (by simp (disch := omega) only [cs_o, sa_eq]) (fun j hj hn hi => by
    rcases cs_oc hi hj with e | e | e | e | e | e | e | e | e | e | e | e | e | e | e | e | e | e <;> subst e <;> first | rfl | (exact absurd rfl hn) | (simp (disch := omega) only [cs_o, sa_ne, ms_ne]))
theorem csa_317 {Y : mr_R} : ((ri_upd (cs C V PR PZ X σ).1 (C + 317) (.inl (0, 15, mr_ar Y)), (cs C V PR PZ X σ).2) : ri_S) = cs C V PR PZ (ms_a X 4 Y) σ :=
  cs_wr (o := 317) (by decide) (by decide) (by simp (disch := omega) only [cs_o, sa_eq]) (fun j hj hn hi => by
    rcases cs_oc hi hj with e | e | e | e | e | e | e | e | e | e | e | e | e | e | e | e | e | e <;> subst e <;> first | rfl | (exact absurd rfl hn) | (simp (disch := omega) only [cs_o, sa_ne, ms_ne]))
theorem csa_318 {Y : mr_R} : ((ri_upd (cs C V PR PZ X σ).1 (C + 318) (.inl (0, 1875, mr_ar Y)), (cs C V PR PZ X σ).2) : ri_S) = cs C V PR PZ (ms_a X 5 Y) σ :=
  cs_wr (o := 318) (by decide) (by decide) (by simp (disch := omega) only [cs_o, sa_eq]) (fun j hj hn hi => by
    rcases cs_oc hi hj with e | e | e | e | e | e | e | e | e | e | e | e | e | e | e | e | e | e <;> subst e <;> first | rfl | (exact absurd rfl hn) | (simp (disch := omega) only [cs_o, sa_ne, ms_ne]))
theorem csa_319 {Y : mr_R} : ((ri_upd (cs C V PR PZ X σ).1 (C + 319) (.inl (0, 150, mr_ar Y)), (cs C V PR PZ X σ).2) : ri_S) = cs C V PR PZ (ms_a X 6 Y) σ :=
  cs_wr (o := 319) (by decide) (by decide) (by simp (disch := omega) only [cs_o, sa_eq]) (fun j hj hn hi => by
    rcases cs_oc hi hj with e | e | e | e | e | e | e | e | e | e | e | e | e | e | e | e | e | e <;> subst e <;> first | rfl | (exact absurd rfl hn) | (simp (disch := omega) only [cs_o, sa_ne, ms_ne]))
theorem csa_320 {Y : mr_R} : ((ri_upd (cs C V PR PZ X σ).1 (C + 320) (.inl (0, 15, mr_ar Y)), (cs C V PR PZ X σ).2) : ri_S) = cs C V PR PZ (ms_a X 7 Y) σ :=
  cs_wr (o := 320) (by decide) (by decide) (by simp (disch := omega) only [cs_o, sa_eq]) (fun j hj hn hi => by
    rcases cs_oc hi hj with e | e | e | e | e | e | e | e | e | e | e | e | e | e | e | e | e | e <;> subst e <;> first | rfl | (exact absurd rfl hn) | (simp (disch := omega) only [cs_o, sa_ne, ms_ne]))
theorem csa_321 {Y : mr_R} : ((ri_upd (cs C V PR PZ X σ).1 (C + 321) (.inl (0, 1875, mr_ar Y)), (cs C V PR PZ X σ).2) : ri_S) = cs C V PR PZ (ms_a X 8 Y) σ :=
  cs_wr (o := 321) (by decide) (by decide) (by simp (disch := omega) only [cs_o, sa_eq]) (fun j hj hn hi => by
    rcases cs_oc hi hj with e | e | e | e | e | e | e | e | e | e | e | e | e | e | e | e | e | e <;> subst e <;> first | rfl | (exact absurd rfl hn) | (simp (disch := omega) only [cs_o, sa_ne, ms_ne]))
theorem csa_322 {Y : mr_R} : ((ri_upd (cs C V PR PZ X σ).1 (C + 322) (.inl (0, 1875, mr_ar Y)), (cs C V PR PZ X σ).2) : ri_S) = cs C V PR PZ (ms_a X 9 Y) σ :=
  cs_wr (o := 322) (by decide) (by decide) (by simp (disch := omega) only [cs_o, sa_eq]) (fun j hj hn hi => by
    rcases cs_oc hi hj with e | e | e | e | e | e | e | e | e | e | e | e | e | e | e | e | e | e <;> subst e <;> first | rfl | (exact absurd rfl hn) | (simp (disch := omega) only [cs_o, sa_ne, ms_ne]))
theorem csa_323 {Y : mr_R} : ((ri_upd (cs C V PR PZ X σ).1 (C + 323) (.inl (0, 15, mr_ar Y)), (cs C V PR PZ X σ).2) : ri_S) = cs C V PR PZ (ms_a X 10 Y) σ :=
  cs_wr (o := 323) (by decide) (by decide) (by simp (disch := omega) only [cs_o, sa_eq]) (fun j hj hn hi => by
    rcases cs_oc hi hj with e | e | e | e | e | e | e | e | e | e | e | e | e | e | e | e | e | e <;> subst e <;> first | rfl | (exact absurd rfl hn) | (simp (disch := omega) only [cs_o, sa_ne, ms_ne]))
theorem csu_1_1 {v : Int} : ((ri_upd (cs C V PR PZ X σ).1 (C + 1) (.inr (.inr (6, [.ref (C + 2), .int (Int32.ofInt v)]))), (cs C V PR PZ X σ).2) : ri_S) = cs C (mr_st V 0 v) PR PZ X σ :=
  cs_wr (o := 1) (by decide) (by decide) (by simp (disch := omega) only [cs_o, ms_eq, ms_ne]) (fun j hj hn hi => by
    rcases cs_oc hi hj with e | e | e | e | e | e | e | e | e | e | e | e | e | e | e | e | e | e <;> subst e <;> first | rfl | (exact absurd rfl hn) | (simp (disch := omega) only [cs_o, sa_ne, ms_ne]))
theorem csu_37_1 {v : Int} {r2 : Int} (e2 : r2 = V 2) : ((ri_upd (cs C V PR PZ X σ).1 (C + 37) (.inr (.inr (1, [.ref (C + 38), .int (Int32.ofInt v), .int (Int32.ofInt r2)]))), (cs C V PR PZ X σ).2) : ri_S) = cs C (mr_st V 1 v) PR PZ X σ :=
  cs_wr (o := 37) (by decide) (by decide) (by subst e2; simp (disch := omega) only [cs_o, ms_eq, ms_ne]) (fun j hj hn hi => by
    rcases cs_oc hi hj with e | e | e | e | e | e | e | e | e | e | e | e | e | e | e | e | e | e <;> subst e <;> first | rfl | (exact absurd rfl hn) | (simp (disch := omega) only [cs_o, sa_ne, ms_ne]))
theorem csu_37_2 {v : Int} {r1 : Int} (e1 : r1 = V 1) : ((ri_upd (cs C V PR PZ X σ).1 (C + 37) (.inr (.inr (1, [.ref (C + 38), .int (Int32.ofInt r1), .int (Int32.ofInt v)]))), (cs C V PR PZ X σ).2) : ri_S) = cs C (mr_st V 2 v) PR PZ X σ :=
  cs_wr (o := 37) (by decide) (by decide) (by subst e1; simp (disch := omega) only [cs_o, ms_eq, ms_ne]) (fun j hj hn hi => by
    rcases cs_oc hi hj with e | e | e | e | e | e | e | e | e | e | e | e | e | e | e | e | e | e <;> subst e <;> first | rfl | (exact absurd rfl hn) | (simp (disch := omega) only [cs_o, sa_ne, ms_ne]))
theorem csu_314_9 {v : Int} : ((ri_upd (cs C V PR PZ X σ).1 (C + 314) (.inr (.inr (4, [.ref (C + 315), .ref (C + 316), .ref (C + 317), .ref (C + 318), .ref (C + 319), .ref (C + 320), .ref (C + 321), .ref (C + 322), .ref (C + 323), .int (Int32.ofInt v)]))), (cs C V PR PZ X σ).2) : ri_S) = cs C (mr_st V 3 v) PR PZ X σ :=
  cs_wr (o := 314) (by decide) (by decide) (by simp (disch := omega) only [cs_o, ms_eq, ms_ne]) (fun j hj hn hi => by
    rcases cs_oc hi hj with e | e | e | e | e | e | e | e | e | e | e | e | e | e | e | e | e | e <;> subst e <;> first | rfl | (exact absurd rfl hn) | (simp (disch := omega) only [cs_o, sa_ne, ms_ne]))
theorem csq_38 {i : Int} {K : Nat → (Nat → Option Nat) → Nat → Option ri_R} (h : 0 ≤ i) (h2 : i < 14) : tv_q ((cs C V PR PZ X σ).1 (C + 38)) (Int32.ofInt i) K = K 14 (fun i => if i < 14 then some (C + 39 + 17 * i) else none) i.toNat := by rw [csx_38, mr_q0 h (by omega) (by omega)]
theorem csm_38 {K : Nat → Option ri_R} : tv_n ((cs C V PR PZ X σ).1 (C + 38)) K = K 14 := by rw [csx_38]; exact tv_n1
theorem csq_278 {i : Int} {K : Nat → (Nat → Option Nat) → Nat → Option ri_R} (h : 0 ≤ i) (h2 : i < 2) : tv_q ((cs C V PR PZ X σ).1 (C + 278)) (Int32.ofInt i) K = K 2 (fun i => if i < 2 then some (C + 280 + 17 * i) else none) i.toNat := by rw [csx_278, mr_q0 h (by omega) (by omega)]
theorem csm_278 {K : Nat → Option ri_R} : tv_n ((cs C V PR PZ X σ).1 (C + 278)) K = K 2 := by rw [csx_278]; exact tv_n1
end CSA
