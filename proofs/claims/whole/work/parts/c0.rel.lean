/-! Class and model in one room: what ties them, and what keeps the tie. -/
def su_b (z : Nat) : ri_S := (fun _ => none, z)
theorem cs_mm {C M : Nat} {V S : mr_R} {PR PZ X A : Nat → mr_R} {σ : ri_S} (h : C + 324 ≤ M) : cs C V PR PZ X (mm M S A σ) = mm M S A (cs C V PR PZ X σ) := by
  refine congrArg (·, σ.2) (funext fun q => ?_)
  show (if C ≤ q ∧ q < C + 324 then cs_c C V PR PZ X (q - C) else if M ≤ q ∧ q < M + 9 then mm_c M S A (q - M) else σ.1 q) = (if M ≤ q ∧ q < M + 9 then mm_c M S A (q - M) else if C ≤ q ∧ q < C + 324 then cs_c C V PR PZ X (q - C) else σ.1 q)
  by_cases a : C ≤ q ∧ q < C + 324
  · rw [if_pos a, if_neg (by omega), if_pos a]
  · rw [if_neg a, if_neg a]
/-- the tie, with K over the counters -/
def lr (K : Int) (V S : mr_R) (PR X A : Nat → mr_R) : Prop :=
  (PR 0 = A 2 ∧ 2400 ≤ K ∧ K + 400000 ≤ 1000000) ∧
  ((∀ i, i < 18 → i ≠ 1 → mi K (PR i)) ∧ mi 1000000 (PR 1) ∧ mi 1000000 (A 3)) ∧
  ((0 ≤ V 0 ∧ V 0 ≤ 120) ∧ S 1 = V 0 ∧ X 0 = A 1 ∧ (∀ i, 0 ≤ i → i < 120 → 0 ≤ X 0 i ∧ X 0 i ≤ 255)) ∧
  ((0 ≤ V 1 ∧ V 1 < 14) ∧ (0 ≤ V 2 ∧ V 2 ≤ 14) ∧ S 2 = V 2 ∧ (∀ j, 0 ≤ j → j < V 2 → ∀ i, 0 ≤ i → i < 96 → PR (((V 1 + j) % 14).toNat + 2) i = A 4 (96 * j + i))) ∧
  (X 1 = A 6 ∧ (∀ i, A 6 i = 0 ∨ A 6 i = 1) ∧ (∀ x, 0 ≤ x → x ≤ 1 → A 6 x = 1 → ∀ i, 0 ≤ i → i < 96 → PR (x.toNat + 16) i = A 5 (96 * x + i)))
section LR
variable {K K2 : Int} {V S V2 S2 : mr_R} {PR X A PR2 X2 A2 : Nat → mr_R}
theorem lr_mono (h : lr K V S PR X A) (h1 : K ≤ K2) (h2 : K2 + 400000 ≤ 1000000) : lr K2 V S PR X A := by
  obtain ⟨⟨e0, k0, k1⟩, ⟨p1, p2, p3⟩, q, r, t⟩ := h
  exact ⟨⟨e0, by omega, h2⟩, ⟨fun i h hi => mi_mono (p1 i h hi) h1 (by omega), p2, p3⟩, q, r, t⟩
theorem lr_P (h : lr K V S PR X A) : cs_P PR := by
  intro i hi
  by_cases e : i = 1
  · subst e
    have := (h.2.1.2.1).c
    exact ⟨this.1.1, this.1.2, this.2.1.1, this.2.1.2, this.2.2.1.1, this.2.2.1.2⟩
  · have := (h.2.1.1 i hi e).c
    exact ⟨this.1.1, this.1.2, this.2.1.1, this.2.1.2, this.2.2.1.1, this.2.2.1.2⟩
theorem lr_i (h : lr K V S PR X A) : mi K (PR 0) := h.2.1.1 0 (by decide) (by decide)
theorem lr_a (h : lr K V S PR X A) : mi K (A 2) := by
  have := lr_i h
  rw [h.1.1] at this
  exact this
theorem lr_out {F G : mr_R} (h1 : mi_Z F) (h2 : mi_Z G) (h : ∀ i, 0 ≤ i → i < 96 → F i = G i) : F = G := by
  funext i
  by_cases a : i < 0 ∨ 96 ≤ i
  · rw [h1 i a, h2 i a]
  · exact h i (by omega) (by omega)
theorem lr_z {R : mr_R} (h : mi K R) : mi_Z R := h.2.2.2.2.2.2
theorem lr_cpz {D G : mr_R} {p : Int} (h : mi_Z G) : mi_Z (mc_cp D p G 0 96) := by
  intro i hi
  unfold mc_cp
  rw [if_neg (by omega)]
  exact h i hi
/-- what lies beside the tie may change -/
theorem lr_side (h : lr K V S PR X A) (v0 : V2 0 = V 0) (v1 : V2 1 = V 1) (v2 : V2 2 = V 2) (s1 : S2 1 = S 1) (s2 : S2 2 = S 2) (pr : ∀ i, i ≠ 1 → PR2 i = PR i) (p1 : mi 1000000 (PR2 1)) (x0 : X2 0 = X 0) (x1 : X2 1 = X 1) (a : ∀ j, j ≠ 3 → j ≠ 7 → j ≠ 8 → A2 j = A j) (a3 : mi 1000000 (A2 3)) : lr K V2 S2 PR2 X2 A2 := by
  obtain ⟨⟨e0, k0, k1⟩, ⟨q1, q2, q3⟩, ⟨r1, r2, r3, r4⟩, ⟨t1, t2, t3, t4⟩, u1, u2, u3⟩ := h
  refine ⟨⟨?_, k0, k1⟩, ⟨fun i hi hn => ?_, p1, a3⟩, ⟨?_, ?_, ?_, ?_⟩, ⟨?_, ?_, ?_, ?_⟩, ?_, ?_, ?_⟩
  · rw [pr 0 (by decide), a 2 (by decide) (by decide) (by decide), e0]
  · rw [pr i hn]; exact q1 i hi hn
  · rw [v0]; exact r1
  · rw [s1, v0]; exact r2
  · rw [x0, a 1 (by decide) (by decide) (by decide)]; exact r3
  · rw [x0]; exact r4
  · rw [v1]; exact t1
  · rw [v2]; exact t2
  · rw [s2, v2]; exact t3
  · intro j j1 j2 i i1 i2
    rw [v2] at j2
    rw [v1, pr _ (by omega), a 4 (by decide) (by decide) (by decide)]
    exact t4 j j1 j2 i i1 i2
  · rw [x1, a 6 (by decide) (by decide) (by decide)]; exact u1
  · rw [a 6 (by decide) (by decide) (by decide)]; exact u2
  · rw [a 6 (by decide) (by decide) (by decide), a 5 (by decide) (by decide) (by decide)]
    intro x x1 x2 x3 i i1 i2
    rw [pr _ (by omega)]
    exact u3 x x1 x2 x3 i i1 i2
theorem lr_s0 (h : lr K V S PR X A) {j : Int} : lr K V (mr_st S 0 j) PR X A :=
  lr_side h rfl rfl rfl (if_neg (by decide)) (if_neg (by decide)) (fun _ _ => rfl) h.2.1.2.1 rfl rfl (fun _ _ _ _ => rfl) h.2.1.2.2
/-- a remembered action -/
theorem lr_act {N : mr_R} (h : lr K V S PR X A) (hk : K ≤ K2) (hk2 : K2 + 400000 ≤ 1000000) (hN : mi K2 N) : lr K2 (ck_V V) (mk_S S) (ck_R V PR N) X (mk_A S A N) := by
  obtain ⟨⟨e0, k0, k1⟩, ⟨q1, q2, q3⟩, ⟨r1, r2, r3, r4⟩, ⟨t1, t2, t3, t4⟩, u1, u2, u3⟩ := h
  have ho : 0 ≤ ch_o V ∧ ch_o V < 14 := by unfold ch_o; split <;> omega
  have hn : 0 ≤ mh_n (V 2) ∧ mh_n (V 2) ≤ 13 := by unfold mh_n; split <;> omega
  have hci : 2 ≤ ch_i V ∧ ch_i V ≤ 15 := by unfold ch_i; omega
  have eV1 : ck_V V 1 = ch_o V := rfl
  have eV2 : ck_V V 2 = mh_n (V 2) + 1 := rfl
  have eS2 : mk_S S 2 = mh_n (V 2) + 1 := by rw [← t3]; rfl
  have eR0 : ck_R V PR N 0 = N := sa_eq rfl
  have eRc : ck_R V PR N (ch_i V) = PR 0 := (sa_ne (by omega)).trans (sa_eq rfl)
  have eRo : ∀ i, i ≠ 0 → i ≠ ch_i V → ck_R V PR N i = PR i := fun i h1 h2 => (sa_ne h1).trans (sa_ne h2)
  refine ⟨⟨eR0, by omega, hk2⟩, ⟨fun i hi hn2 => ?_, ?_, q3⟩, ⟨r1, r2, r3, r4⟩, ⟨by rw [eV1]; exact ho, by rw [eV2]; omega, by rw [eS2, eV2], ?_⟩, u1, u2, ?_⟩
  · by_cases b : i = 0
    · subst b; rw [eR0]; exact hN
    · by_cases b2 : i = ch_i V
      · rw [b2, eRc]; exact mi_mono (q1 0 (by decide) (by decide)) hk (by omega)
      · rw [eRo i b b2]; exact mi_mono (q1 i hi hn2) hk (by omega)
  · rw [eRo 1 (by decide) (by omega)]; exact q2
  · intro j j1 j2 i i1 i2
    rw [eV2] at j2
    rw [eV1]
    show ck_R V PR N (((ch_o V + j) % 14).toNat + 2) i = mc_cp (A 2) 0 (mh_D (S 2) (A 4)) (96 * mh_n (S 2)) 96 (96 * j + i)
    rw [t3]
    unfold mc_cp
    by_cases b : j = mh_n (V 2)
    · subst b
      rw [show ((ch_o V + mh_n (V 2)) % 14).toNat + 2 = ch_i V from rfl, eRc, if_pos (by omega), e0]
      congr 1
      omega
    · have hne : ((ch_o V + j) % 14).toNat + 2 ≠ ch_i V := by unfold ch_i; omega
      rw [eRo _ (by omega) hne, if_neg (by omega)]
      unfold mh_n at hn j2 b
      unfold mh_D ch_o
      split
      · rename_i e
        rw [if_pos e] at j2 b hn
        unfold mc_cp
        rw [if_pos (by omega)]
        have := t4 (j + 1) (by omega) (by omega) i i1 i2
        rw [show 96 + (96 * j + i - 0) = 96 * (j + 1) + i by omega, ← this]
        congr 2
        omega
      · rename_i e
        rw [if_neg e] at j2 b hn
        exact t4 j j1 (by omega) i i1 i2
  · intro x x1 x2 x3 i i1 i2
    rw [eRo _ (by omega) (by omega)]
    exact u3 x x1 x2 x3 i i1 i2
theorem lr_undo (h : lr K V S PR X A) (hv : 0 < V 2) : lr K (mr_st V 2 (V 2 - 1)) (mr_st (mr_st S 0 0) 2 (S 2 - 1)) (ms_a PR 0 (PR (((V 1 + (V 2 - 1)) % 14).toNat + 2))) X (ms_a A 2 (mc_cp (A 4) (96 * (S 2 - 1)) (A 2) 0 96)) := by
  have hz := lr_z (lr_a h)
  obtain ⟨⟨e0, k0, k1⟩, ⟨q1, q2, q3⟩, ⟨r1, r2, r3, r4⟩, ⟨t1, t2, t3, t4⟩, u1, u2, u3⟩ := h
  have eRo : ∀ i, i ≠ 0 → ms_a PR 0 (PR (((V 1 + (V 2 - 1)) % 14).toNat + 2)) i = PR i := fun i h1 => sa_ne h1
  have hm : mi K (PR (((V 1 + (V 2 - 1)) % 14).toNat + 2)) := q1 _ (by omega) (by omega)
  refine ⟨⟨?_, k0, k1⟩, ⟨fun i hi hn2 => ?_, by rw [eRo 1 (by decide)]; exact q2, q3⟩, ⟨r1, r2, r3, r4⟩, ⟨t1, ?_, ?_, ?_⟩, u1, u2, ?_⟩
  · show PR (((V 1 + (V 2 - 1)) % 14).toNat + 2) = mc_cp (A 4) (96 * (S 2 - 1)) (A 2) 0 96
    refine lr_out (lr_z hm) (lr_cpz hz) fun i i1 i2 => ?_
    unfold mc_cp
    rw [if_pos (by omega), t4 (V 2 - 1) (by omega) (by omega) i i1 i2, t3]
    congr 1
    omega
  · by_cases b : i = 0
    · subst b; exact hm
    · rw [eRo i b]; exact q1 i hi hn2
  · show 0 ≤ V 2 - 1 ∧ V 2 - 1 ≤ 14
    omega
  · show S 2 - 1 = V 2 - 1
    rw [t3]
  · intro j j1 j2 i i1 i2
    have j3 : j < V 2 - 1 := j2
    rw [eRo _ (by omega)]
    exact t4 j j1 (by omega) i i1 i2
  · intro x x1 x2 x3 i i1 i2
    rw [eRo _ (by omega)]
    exact u3 x x1 x2 x3 i i1 i2
theorem lr_save {x : Int} (h : lr K V S PR X A) (x1 : 0 ≤ x) (x2 : x ≤ 1) : lr K V (mr_st S 0 0) (ms_a PR (x.toNat + 16) (PR 0)) (ms_a X 1 (mr_st (X 1) x 1)) (ms_a (ms_a A 5 (mc_cp (A 2) 0 (A 5) (96 * x) 96)) 6 (mr_st (A 6) x 1)) := by
  obtain ⟨⟨e0, k0, k1⟩, ⟨q1, q2, q3⟩, ⟨r1, r2, r3, r4⟩, ⟨t1, t2, t3, t4⟩, u1, u2, u3⟩ := h
  have eRo : ∀ i, i ≠ x.toNat + 16 → ms_a PR (x.toNat + 16) (PR 0) i = PR i := fun i h1 => sa_ne h1
  have eRx : ms_a PR (x.toNat + 16) (PR 0) (x.toNat + 16) = PR 0 := sa_eq rfl
  refine ⟨⟨by rw [eRo 0 (by omega)]; exact e0, k0, k1⟩, ⟨fun i hi hn2 => ?_, by rw [eRo 1 (by omega)]; exact q2, q3⟩, ⟨r1, r2, r3, r4⟩, ⟨t1, t2, t3, ?_⟩, ?_, ?_, ?_⟩
  · by_cases b : i = x.toNat + 16
    · rw [b, eRx]; exact q1 0 (by decide) (by decide)
    · rw [eRo i b]; exact q1 i hi hn2
  · intro j j1 j2 i i1 i2
    rw [eRo _ (by omega)]
    exact t4 j j1 j2 i i1 i2
  · show mr_st (X 1) x 1 = mr_st (A 6) x 1
    rw [u1]
  · intro i
    show mr_st (A 6) x 1 i = 0 ∨ mr_st (A 6) x 1 i = 1
    unfold mr_st
    split
    · exact Or.inr rfl
    · exact u2 i
  · intro y y1 y2 y3 i i1 i2
    show ms_a PR (x.toNat + 16) (PR 0) (y.toNat + 16) i = mc_cp (A 2) 0 (A 5) (96 * x) 96 (96 * y + i)
    unfold mc_cp
    by_cases b : y = x
    · subst b
      rw [eRx, if_pos (by omega), e0]
      congr 1
      omega
    · have y4 : mr_st (A 6) x 1 y = 1 := y3
      unfold mr_st at y4
      rw [if_neg b] at y4
      rw [eRo _ (by omega), if_neg (by omega)]
      exact u3 y y1 y2 y4 i i1 i2
theorem lr_rest {x : Int} (h : lr K V S PR X A) (x1 : 0 ≤ x) (x2 : x ≤ 1) (x3 : A 6 x = 1) : lr K (mr_st V 2 0) (mr_st (mr_st S 0 0) 2 0) (ms_a PR 0 (PR (x.toNat + 16))) X (ms_a A 2 (mc_cp (A 5) (96 * x) (A 2) 0 96)) := by
  have hz := lr_z (lr_a h)
  obtain ⟨⟨e0, k0, k1⟩, ⟨q1, q2, q3⟩, ⟨r1, r2, r3, r4⟩, ⟨t1, t2, t3, t4⟩, u1, u2, u3⟩ := h
  have eRo : ∀ i, i ≠ 0 → ms_a PR 0 (PR (x.toNat + 16)) i = PR i := fun i h1 => sa_ne h1
  have hm : mi K (PR (x.toNat + 16)) := q1 _ (by omega) (by omega)
  refine ⟨⟨?_, k0, k1⟩, ⟨fun i hi hn2 => ?_, by rw [eRo 1 (by decide)]; exact q2, q3⟩, ⟨r1, r2, r3, r4⟩, ⟨t1, ⟨by show (0 : Int) ≤ 0; omega, by show (0 : Int) ≤ 14; omega⟩, rfl, ?_⟩, u1, u2, ?_⟩
  · show PR (x.toNat + 16) = mc_cp (A 5) (96 * x) (A 2) 0 96
    refine lr_out (lr_z hm) (lr_cpz hz) fun i i1 i2 => ?_
    unfold mc_cp
    rw [if_pos (by omega), u3 x x1 x2 x3 i i1 i2]
    congr 1
    omega
  · by_cases b : i = 0
    · subst b; exact hm
    · rw [eRo i b]; exact q1 i hi hn2
  · intro j j1 j2
    have j3 : j < 0 := j2
    omega
  · intro y y1 y2 y3 i i1 i2
    rw [eRo _ (by omega)]
    exact u3 y y1 y2 y3 i i1 i2
theorem lr_load {N : mr_R} (h : lr K V S PR X A) (hN : mi 2400 N) (s1 : S2 1 = S 1) (s2 : S2 2 = 0) : lr K (mr_st V 2 0) S2 (ms_a PR 0 N) (ms_a X 1 (mc_fl (X 1) 2 0)) (ms_a (ms_a (ms_a A 3 N) 2 N) 6 (mr_st (mr_st (A 6) 0 0) 1 0)) := by
  obtain ⟨⟨e0, k0, k1⟩, ⟨q1, q2, q3⟩, ⟨r1, r2, r3, r4⟩, ⟨t1, t2, t3, t4⟩, u1, u2, u3⟩ := h
  have eRo : ∀ i, i ≠ 0 → ms_a PR 0 N i = PR i := fun i h1 => sa_ne h1
  have eF : mc_fl (X 1) 2 0 = mr_st (mr_st (A 6) 0 0) 1 0 := by
    funext i
    unfold mc_fl mr_st
    rw [u1]
    by_cases b : 0 ≤ i ∧ i < 2
    · rw [if_pos b]
      by_cases b1 : i = 1
      · rw [if_pos b1]
      · rw [if_neg b1, if_pos (by omega)]
    · rw [if_neg b, if_neg (by omega), if_neg (by omega)]
  refine ⟨⟨rfl, k0, k1⟩, ⟨fun i hi hn2 => ?_, by rw [eRo 1 (by decide)]; exact q2, mi_mono hN (by omega) (by omega)⟩, ⟨r1, s1.trans r2, r3, r4⟩, ⟨t1, ⟨by show (0 : Int) ≤ 0; omega, by show (0 : Int) ≤ 14; omega⟩, s2, ?_⟩, eF, ?_, ?_⟩
  · by_cases b : i = 0
    · subst b; exact mi_mono hN (by omega) (by omega)
    · rw [eRo i b]; exact q1 i hi hn2
  · intro j j1 j2
    have j3 : j < 0 := j2
    omega
  · intro i
    show mr_st (mr_st (A 6) 0 0) 1 0 i = 0 ∨ mr_st (mr_st (A 6) 0 0) 1 0 i = 1
    unfold mr_st
    split
    · exact Or.inl rfl
    · split
      · exact Or.inl rfl
      · exact u2 i
  · intro y y1 y2 y3
    have y4 : mr_st (mr_st (A 6) 0 0) 1 0 y = 1 := y3
    unfold mr_st at y4
    rcases (by omega : y = 0 ∨ y = 1) with rfl | rfl
    · rw [if_neg (by decide), if_pos rfl] at y4
      exact absurd y4 (by decide)
    · rw [if_pos rfl] at y4
      exact absurd y4 (by decide)
theorem lr_app {c : Int} (h : lr K V S PR X A) (c1 : 0 ≤ c) (c2 : c ≤ 255) (hv : V 0 < 120) : lr K (mr_st V 0 (V 0 + 1)) (mr_st (mr_st S 0 0) 1 (S 1 + 1)) PR (ms_a X 0 (mr_st (X 0) (V 0) c)) (ms_a A 1 (mr_st (A 1) (S 1) c)) := by
  obtain ⟨⟨e0, k0, k1⟩, ⟨q1, q2, q3⟩, ⟨r1, r2, r3, r4⟩, ⟨t1, t2, t3, t4⟩, u1, u2, u3⟩ := h
  refine ⟨⟨e0, k0, k1⟩, ⟨q1, q2, q3⟩, ⟨?_, ?_, ?_, ?_⟩, ⟨t1, t2, t3, t4⟩, u1, u2, u3⟩
  · show 0 ≤ V 0 + 1 ∧ V 0 + 1 ≤ 120
    omega
  · show S 1 + 1 = V 0 + 1
    rw [r2]
  · show mr_st (X 0) (V 0) c = mr_st (A 1) (S 1) c
    rw [r2, r3]
  · intro i i1 i2
    show 0 ≤ mr_st (X 0) (V 0) c i ∧ mr_st (X 0) (V 0) c i ≤ 255
    unfold mr_st
    split
    · exact ⟨c1, c2⟩
    · exact r4 i i1 i2
theorem lr_clr (h : lr K V S PR X A) : lr K (mr_st V 0 0) (mr_st (mr_st S 0 0) 1 0) PR X A := by
  obtain ⟨⟨e0, k0, k1⟩, ⟨q1, q2, q3⟩, ⟨r1, r2, r3, r4⟩, ⟨t1, t2, t3, t4⟩, u1, u2, u3⟩ := h
  exact ⟨⟨e0, k0, k1⟩, ⟨q1, q2, q3⟩, ⟨⟨by show (0 : Int) ≤ 0; omega, by show (0 : Int) ≤ 120; omega⟩, rfl, r3, r4⟩, ⟨t1, t2, t3, t4⟩, u1, u2, u3⟩
theorem lr_0 : lr 2400 m0 m0 (fun _ => m0) (fun _ => m0) (fun _ => m0) := by
  have h0 : ∀ K : Int, 0 ≤ K → K ≤ 1000000 → mi K m0 := fun K h1 h2 => mi_none h1 h2
  refine ⟨⟨rfl, by omega, by omega⟩, ⟨fun i _ _ => h0 _ (by omega) (by omega), h0 _ (by omega) (by omega), h0 _ (by omega) (by omega)⟩, ⟨⟨by show (0 : Int) ≤ 0; omega, by show (0 : Int) ≤ 120; omega⟩, rfl, rfl, fun i _ _ => ⟨by show (0 : Int) ≤ 0; omega, by show (0 : Int) ≤ 255; omega⟩⟩, ⟨⟨by show (0 : Int) ≤ 0; omega, by show (0 : Int) < 14; omega⟩, ⟨by show (0 : Int) ≤ 0; omega, by show (0 : Int) ≤ 14; omega⟩, rfl, fun j j1 j2 => ?_⟩, rfl, fun i => Or.inl rfl, fun x _ _ h => ?_⟩
  · have j3 : j < 0 := j2
    omega
  · exact absurd (show (0 : Int) = 1 from h) (by decide)
end LR
