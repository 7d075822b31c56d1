/-! Steps of both sides: what acts. -/
theorem mf_fL_is (R : mr_R) (w p y q : Int) : mf_fL R w p y q = 0 ∨ mf_fL R w p y q = 1 ∨ mf_fL R w p y q = 2 ∨ mf_fL R w p y q = 3 := by
  unfold mf_fL
  split
  · split
    · exact Or.inr (Or.inr (Or.inl rfl))
    · split
      · exact Or.inl rfl
      · exact Or.inr (Or.inr (Or.inr rfl))
  · exact Or.inr (Or.inl rfl)
theorem mf_fF_is (R : mr_R) (w p g : Int) : mf_fF R w p g = 0 ∨ mf_fF R w p g = 1 ∨ mf_fF R w p g = 2 ∨ mf_fF R w p g = 3 := by
  unfold mf_fF
  split
  · split
    · split
      · exact Or.inl rfl
      · exact Or.inr (Or.inr (Or.inr rfl))
    · exact Or.inr (Or.inr (Or.inl rfl))
  · exact Or.inr (Or.inl rfl)
theorem mf_fY_is (R : mr_R) (w p n : Int) : mf_fY R w p n = 0 ∨ mf_fY R w p n = 1 ∨ mf_fY R w p n = 2 := by
  unfold mf_fY
  split
  · split
    · exact Or.inl rfl
    · exact Or.inr (Or.inr rfl)
  · exact Or.inr (Or.inl rfl)
theorem mf_fT_is (R : mr_R) (w k : Int) : mf_fT R w k = 0 ∨ mf_fT R w k = 1 ∨ mf_fT R w k = 2 := by
  unfold mf_fT
  split
  · split
    · exact Or.inl rfl
    · exact Or.inr (Or.inr rfl)
  · exact Or.inr (Or.inl rfl)
section SU
variable {Ks : Nat → Nat} {K K2 : Int} {C M z kc km : Nat} {as : List Value} {V S : mr_R} {PR PZ X A : Nat → mr_R}
theorem su_wheel {n no s : Int} (hCM : C + 324 ≤ M) (hr : lr K V S PR X A) (hk : K + 20 + 400000 ≤ 1000000) (n1 : -2147483648 ≤ n) (n2 : n < 2147483648) (no1 : -2147483648 ≤ no) (no2 : no < 2147483648) (s1 : -2147483648 ≤ s) (s2 : s < 2147483648) : su_r Ks (K + 20) C M z 118 204 [.int (Int32.ofInt n), .int (Int32.ofInt no), .int (Int32.ofInt s)] (cs C V PR PZ X (mm M S A (su_b z))) ∨ su_x Ks (K + 20) C M 118 204 2 1 [.int (Int32.ofInt n), .int (Int32.ofInt no), .int (Int32.ofInt s)] (cs C V PR PZ X (mm M S A (su_b z))) ∨ su_x Ks (K + 20) C M 118 204 3 2 [.int (Int32.ofInt n), .int (Int32.ofInt no), .int (Int32.ofInt s)] (cs C V PR PZ X (mm M S A (su_b z))) := by
  obtain ⟨⟨e0, k0, k1⟩, ⟨q1, q2, q3⟩, ⟨r1, r2, r3, r4⟩, ⟨t1, t2, t3, t4⟩, u1, u2, u3⟩ := id hr
  have ia := lr_a hr
  have ii := lr_i hr
  have hP := lr_P hr
  have hd := d118 (Ks := Ks) (C := C) (V := V) (PR := PR) (PZ := PZ) (X := X) (σ := mm M S A (su_b z)) ii n1 n2 no1 no2 s1 s2
  rw [e0] at hd
  have hm := fun σ => c204 (M := M) (S := S) (A := A) (σ := σ) n1 n2 no1 no2 s1 s2 ia (by omega) (by omega)
  by_cases h1 : (3 ≤ n ∧ n ≤ 5) ∧ (-4 ≤ no ∧ no ≤ 4) ∧ (0 ≤ s ∧ s ≤ 30)
  · by_cases h2 : (A 2) 0 < 3
    · have hf : mf_fW (A 2) n no s = 0 := by unfold mf_fW; rw [if_pos h1, if_pos h2]
      exact Or.inl (su_r_of hCM (cal_2 (c118 ii hP t1.1 t1.2 t2.1 t2.2 (by rw [e0]; exact hf))) ((hm _).trans ((if_pos h1).trans (if_pos h2))) (by rw [e0]) rfl (by rw [e0]; exact lr_act hr (by omega) hk (mi_mono (mi_wheel ia h1 h2) (by omega) (by omega))))
    · have hf : mf_fW (A 2) n no s = 3 := by unfold mf_fW; rw [if_pos h1, if_neg h2]
      rw [hf] at hd
      exact Or.inr (Or.inr (su_x_of hCM (f := 3) (j := 2) hd fun z => ⟨_, _, _, (hm _).trans ((if_pos h1).trans (if_neg h2)), rfl, lr_mono (lr_s0 hr) (by omega) hk⟩))
  · have hf : mf_fW (A 2) n no s = 2 := by unfold mf_fW; rw [if_neg h1]
    rw [hf] at hd
    exact Or.inr (Or.inl (su_x_of hCM (f := 2) (j := 1) hd fun z => ⟨_, _, _, (hm _).trans (if_neg h1), rfl, lr_mono (lr_s0 hr) (by omega) hk⟩))
theorem su_line {w p y v : Int} (hCM : C + 324 ≤ M) (hr : lr K V S PR X A) (hk : K + 20 + 400000 ≤ 1000000) (w1 : -2147483648 ≤ w) (w2 : w < 2147483648) (p1 : -2147483648 ≤ p) (p2 : p < 2147483648) (y1 : -2147483648 ≤ y) (y2 : y < 2147483648) (v1 : -2147483648 ≤ v) (v2 : v < 2147483648) : su_r Ks (K + 20) C M z 119 205 [.int (Int32.ofInt w), .int (Int32.ofInt p), .int (Int32.ofInt y), .int (Int32.ofInt v)] (cs C V PR PZ X (mm M S A (su_b z))) ∨ su_x Ks (K + 20) C M 119 205 1 1 [.int (Int32.ofInt w), .int (Int32.ofInt p), .int (Int32.ofInt y), .int (Int32.ofInt v)] (cs C V PR PZ X (mm M S A (su_b z))) ∨ su_x Ks (K + 20) C M 119 205 2 2 [.int (Int32.ofInt w), .int (Int32.ofInt p), .int (Int32.ofInt y), .int (Int32.ofInt v)] (cs C V PR PZ X (mm M S A (su_b z))) ∨ su_x Ks (K + 20) C M 119 205 3 3 [.int (Int32.ofInt w), .int (Int32.ofInt p), .int (Int32.ofInt y), .int (Int32.ofInt v)] (cs C V PR PZ X (mm M S A (su_b z))) := by
  obtain ⟨⟨e0, k0, k1⟩, ⟨q1, q2, q3⟩, ⟨r1, r2, r3, r4⟩, ⟨t1, t2, t3, t4⟩, u1, u2, u3⟩ := id hr
  have ia := lr_a hr
  have ii := lr_i hr
  have hP := lr_P hr
  have hd := d119 (Ks := Ks) (C := C) (V := V) (PR := PR) (PZ := PZ) (X := X) (σ := mm M S A (su_b z)) ii w1 w2 p1 p2 y1 y2 v1 v2
  rw [e0] at hd
  have hm := fun σ => c205 (M := M) (S := S) (A := A) (σ := σ) w1 w2 p1 p2 y1 y2 v1 v2 ia (by omega) (by omega)
  by_cases hf : mf_fL (A 2) w p y v = 0
  · exact Or.inl (su_r_of hCM (cal_2 (c119 ii hP t1.1 t1.2 t2.1 t2.2 (by rw [e0]; exact hf))) ((hm _).trans (if_pos hf)) (by rw [e0]) rfl (by rw [e0]; exact lr_act hr (by omega) hk (mi_mono  (mi_line ia (mf_fL_0 hf)) (by omega) (by omega))))
  · have hm := fun σ => (hm σ).trans (if_neg hf)
    rcases mf_fL_is (A 2) w p y v with h0 | h0 | h0 | h0
    · exact absurd h0 hf
    · rw [h0] at hd hm
      exact Or.inr (Or.inl (su_x_of hCM (f := 1) (j := 1) hd fun z => ⟨_, _, _, hm _, rfl, lr_mono (lr_s0 hr) (by omega) hk⟩))
    · rw [h0] at hd hm
      exact Or.inr (Or.inr (Or.inl (su_x_of hCM (f := 2) (j := 2) hd fun z => ⟨_, _, _, hm _, rfl, lr_mono (lr_s0 hr) (by omega) hk⟩)))
    · rw [h0] at hd hm
      exact Or.inr (Or.inr (Or.inr (su_x_of hCM (f := 3) (j := 3) hd fun z => ⟨_, _, _, hm _, rfl, lr_mono (lr_s0 hr) (by omega) hk⟩)))
theorem su_frog {w p g : Int} (hCM : C + 324 ≤ M) (hr : lr K V S PR X A) (hk : K + 20 + 400000 ≤ 1000000) (w1 : -2147483648 ≤ w) (w2 : w < 2147483648) (p1 : -2147483648 ≤ p) (p2 : p < 2147483648) (g1 : -2147483648 ≤ g) (g2 : g < 2147483648) : su_r Ks (K + 20) C M z 120 206 [.int (Int32.ofInt w), .int (Int32.ofInt p), .int (Int32.ofInt g)] (cs C V PR PZ X (mm M S A (su_b z))) ∨ su_x Ks (K + 20) C M 120 206 1 1 [.int (Int32.ofInt w), .int (Int32.ofInt p), .int (Int32.ofInt g)] (cs C V PR PZ X (mm M S A (su_b z))) ∨ su_x Ks (K + 20) C M 120 206 2 2 [.int (Int32.ofInt w), .int (Int32.ofInt p), .int (Int32.ofInt g)] (cs C V PR PZ X (mm M S A (su_b z))) ∨ su_x Ks (K + 20) C M 120 206 3 3 [.int (Int32.ofInt w), .int (Int32.ofInt p), .int (Int32.ofInt g)] (cs C V PR PZ X (mm M S A (su_b z))) := by
  obtain ⟨⟨e0, k0, k1⟩, ⟨q1, q2, q3⟩, ⟨r1, r2, r3, r4⟩, ⟨t1, t2, t3, t4⟩, u1, u2, u3⟩ := id hr
  have ia := lr_a hr
  have ii := lr_i hr
  have hP := lr_P hr
  have hd := d120 (Ks := Ks) (C := C) (V := V) (PR := PR) (PZ := PZ) (X := X) (σ := mm M S A (su_b z)) ii w1 w2 p1 p2 g1 g2
  rw [e0] at hd
  have hm := fun σ => c206 (M := M) (S := S) (A := A) (σ := σ) w1 w2 p1 p2 g1 g2 ia (by omega) (by omega)
  by_cases hf : mf_fF (A 2) w p g = 0
  · exact Or.inl (su_r_of hCM (cal_2 (c120 ii hP t1.1 t1.2 t2.1 t2.2 (by rw [e0]; exact hf))) ((hm _).trans (if_pos hf)) (by rw [e0]) rfl (by rw [e0]; exact lr_act hr (by omega) hk (mi_mono  (mi_frog ia (by omega) (mf_fF_0 hf).1 (mf_fF_0 hf).2) (by omega) (by omega))))
  · have hm := fun σ => (hm σ).trans (if_neg hf)
    rcases mf_fF_is (A 2) w p g with h0 | h0 | h0 | h0
    · exact absurd h0 hf
    · rw [h0] at hd hm
      exact Or.inr (Or.inl (su_x_of hCM (f := 1) (j := 1) hd fun z => ⟨_, _, _, hm _, rfl, lr_mono (lr_s0 hr) (by omega) hk⟩))
    · rw [h0] at hd hm
      exact Or.inr (Or.inr (Or.inl (su_x_of hCM (f := 2) (j := 2) hd fun z => ⟨_, _, _, hm _, rfl, lr_mono (lr_s0 hr) (by omega) hk⟩)))
    · rw [h0] at hd hm
      exact Or.inr (Or.inr (Or.inr (su_x_of hCM (f := 3) (j := 3) hd fun z => ⟨_, _, _, hm _, rfl, lr_mono (lr_s0 hr) (by omega) hk⟩)))
theorem su_flies {w p n : Int} (hCM : C + 324 ≤ M) (hr : lr K V S PR X A) (hk : K + 20 + 400000 ≤ 1000000) (w1 : -2147483648 ≤ w) (w2 : w < 2147483648) (p1 : -2147483648 ≤ p) (p2 : p < 2147483648) (n1 : -2147483648 ≤ n) (n2 : n < 2147483648) : su_r Ks (K + 20) C M z 121 207 [.int (Int32.ofInt w), .int (Int32.ofInt p), .int (Int32.ofInt n)] (cs C V PR PZ X (mm M S A (su_b z))) ∨ su_x Ks (K + 20) C M 121 207 1 1 [.int (Int32.ofInt w), .int (Int32.ofInt p), .int (Int32.ofInt n)] (cs C V PR PZ X (mm M S A (su_b z))) ∨ su_x Ks (K + 20) C M 121 207 2 2 [.int (Int32.ofInt w), .int (Int32.ofInt p), .int (Int32.ofInt n)] (cs C V PR PZ X (mm M S A (su_b z))) := by
  obtain ⟨⟨e0, k0, k1⟩, ⟨q1, q2, q3⟩, ⟨r1, r2, r3, r4⟩, ⟨t1, t2, t3, t4⟩, u1, u2, u3⟩ := id hr
  have ia := lr_a hr
  have ii := lr_i hr
  have hP := lr_P hr
  have hd := d121 (Ks := Ks) (C := C) (V := V) (PR := PR) (PZ := PZ) (X := X) (σ := mm M S A (su_b z)) ii w1 w2 p1 p2 n1 n2
  rw [e0] at hd
  have hm := fun σ => c207 (M := M) (S := S) (A := A) (σ := σ) w1 w2 p1 p2 n1 n2 ia (by omega) (by omega)
  by_cases hf : mf_fY (A 2) w p n = 0
  · exact Or.inl (su_r_of hCM (cal_2 (c121 ii hP t1.1 t1.2 t2.1 t2.2 (by rw [e0]; exact hf))) ((hm _).trans (if_pos hf)) (by rw [e0]) rfl (by rw [e0]; exact lr_act hr (by omega) hk (mi_mono  (mi_bring ia (by omega) (mf_fY_0 hf).1.1 (mf_fY_0 hf).1.2.1 (by have := (mf_fY_0 hf).2; omega) (by have := (mf_fY_0 hf).2; omega)) (by omega) (by omega))))
  · have hm := fun σ => (hm σ).trans (if_neg hf)
    rcases mf_fY_is (A 2) w p n with h0 | h0 | h0
    · exact absurd h0 hf
    · rw [h0] at hd hm
      exact Or.inr (Or.inl (su_x_of hCM (f := 1) (j := 1) hd fun z => ⟨_, _, _, hm _, rfl, lr_mono (lr_s0 hr) (by omega) hk⟩))
    · rw [h0] at hd hm
      exact Or.inr (Or.inr (su_x_of hCM (f := 2) (j := 2) hd fun z => ⟨_, _, _, hm _, rfl, lr_mono (lr_s0 hr) (by omega) hk⟩))
theorem su_turn {w v : Int} (hCM : C + 324 ≤ M) (hr : lr K V S PR X A) (hk : K + 20 + 400000 ≤ 1000000) (w1 : -2147483648 ≤ w) (w2 : w < 2147483648) (v1 : -2147483648 ≤ v) (v2 : v < 2147483648) : su_r Ks (K + 20) C M z 124 210 [.int (Int32.ofInt w), .int (Int32.ofInt v)] (cs C V PR PZ X (mm M S A (su_b z))) ∨ su_x Ks (K + 20) C M 124 210 1 1 [.int (Int32.ofInt w), .int (Int32.ofInt v)] (cs C V PR PZ X (mm M S A (su_b z))) ∨ su_x Ks (K + 20) C M 124 210 2 2 [.int (Int32.ofInt w), .int (Int32.ofInt v)] (cs C V PR PZ X (mm M S A (su_b z))) := by
  obtain ⟨⟨e0, k0, k1⟩, ⟨q1, q2, q3⟩, ⟨r1, r2, r3, r4⟩, ⟨t1, t2, t3, t4⟩, u1, u2, u3⟩ := id hr
  have ia := lr_a hr
  have ii := lr_i hr
  have hP := lr_P hr
  have hd := d124 (Ks := Ks) (C := C) (V := V) (PR := PR) (PZ := PZ) (X := X) (σ := mm M S A (su_b z)) ii w1 w2 v1 v2
  rw [e0] at hd
  have hm := fun σ => c210 (M := M) (S := S) (A := A) (σ := σ) w1 w2 v1 v2 ia (by omega) (by omega)
  by_cases hf : mf_fT (A 2) w v = 0
  · exact Or.inl (su_r_of hCM (cal_2 (c124 ii hP t1.1 t1.2 t2.1 t2.2 (by rw [e0]; exact hf))) ((hm _).trans (if_pos hf)) (by rw [e0]) rfl (by rw [e0]; exact lr_act hr (by omega) hk (mi_mono  (mi_turn2 ia (mf_fT_0 hf).1.1 (mf_fT_0 hf).1.2) (by omega) (by omega))))
  · have hm := fun σ => (hm σ).trans (if_neg hf)
    rcases mf_fT_is (A 2) w v with h0 | h0 | h0
    · exact absurd h0 hf
    · rw [h0] at hd hm
      exact Or.inr (Or.inl (su_x_of hCM (f := 1) (j := 1) hd fun z => ⟨_, _, _, hm _, rfl, lr_mono (lr_s0 hr) (by omega) hk⟩))
    · rw [h0] at hd hm
      exact Or.inr (Or.inr (su_x_of hCM (f := 2) (j := 2) hd fun z => ⟨_, _, _, hm _, rfl, lr_mono (lr_s0 hr) (by omega) hk⟩))
theorem su_leap {f l : Int} (hCM : C + 324 ≤ M) (hr : lr K V S PR X A) (hk : K + 20 + 400000 ≤ 1000000) (f1 : -2147483648 ≤ f) (f2 : f < 2147483648) (l1 : -2147483648 ≤ l) (l2 : l < 2147483648) : su_r Ks (K + 20) C M z 122 208 [.int (Int32.ofInt f), .int (Int32.ofInt l)] (cs C V PR PZ X (mm M S A (su_b z))) ∨ su_x Ks (K + 20) C M 122 208 1 1 [.int (Int32.ofInt f), .int (Int32.ofInt l)] (cs C V PR PZ X (mm M S A (su_b z))) := by
  obtain ⟨⟨e0, k0, k1⟩, ⟨q1, q2, q3⟩, ⟨r1, r2, r3, r4⟩, ⟨t1, t2, t3, t4⟩, u1, u2, u3⟩ := id hr
  have ia := lr_a hr
  have ii := lr_i hr
  have hP := lr_P hr
  have hd := d122 (Ks := Ks) (C := C) (V := V) (PR := PR) (PZ := PZ) (X := X) (σ := mm M S A (su_b z)) ii f1 f2 l1 l2
  rw [e0] at hd
  have hm := fun σ => c208 (M := M) (S := S) (A := A) (σ := σ) f1 f2 l1 l2 ia (by omega) (by omega) (by omega)
  by_cases h1 : (0 ≤ f ∧ f < A 2 2) ∧ (0 ≤ l ∧ l < A 2 1)
  · exact Or.inl (su_r_of hCM (cal_2 (c122 ii (by omega) hP t1.1 t1.2 t2.1 t2.2 (by rw [e0]; exact h1))) ((hm _).trans (if_pos h1)) (by rw [e0]) rfl (by rw [e0]; exact lr_act hr (by omega) hk (mi_leap ia h1.1.1 h1.1.2 h1.2.1 h1.2.2 (by omega))))
  · rw [if_neg h1] at hd
    exact Or.inr (su_x_of hCM (f := 1) (j := 1) hd fun z => ⟨_, _, _, (hm _).trans (if_neg h1), rfl, lr_mono (lr_s0 hr) (by omega) hk⟩)
theorem su_hop {f s : Int} (hCM : C + 324 ≤ M) (hr : lr K V S PR X A) (hk : K + 20 + 400000 ≤ 1000000) (f1 : -2147483648 ≤ f) (f2 : f < 2147483648) (s1 : -2147483648 ≤ s) (s2 : s < 2147483648) : su_r Ks (K + 20) C M z 123 209 [.int (Int32.ofInt f), .int (Int32.ofInt s)] (cs C V PR PZ X (mm M S A (su_b z))) ∨ su_x Ks (K + 20) C M 123 209 1 1 [.int (Int32.ofInt f), .int (Int32.ofInt s)] (cs C V PR PZ X (mm M S A (su_b z))) ∨ su_x Ks (K + 20) C M 123 209 2 2 [.int (Int32.ofInt f), .int (Int32.ofInt s)] (cs C V PR PZ X (mm M S A (su_b z))) := by
  obtain ⟨⟨e0, k0, k1⟩, ⟨q1, q2, q3⟩, ⟨r1, r2, r3, r4⟩, ⟨t1, t2, t3, t4⟩, u1, u2, u3⟩ := id hr
  have ia := lr_a hr
  have ii := lr_i hr
  have hP := lr_P hr
  have hd := d123 (Ks := Ks) (C := C) (V := V) (PR := PR) (PZ := PZ) (X := X) (σ := mm M S A (su_b z)) ii f1 f2 s1 s2
  rw [e0] at hd
  have hm := fun σ => c209 (M := M) (S := S) (A := A) (σ := σ) f1 f2 s1 s2 ia (by omega) (by omega) (by omega)
  by_cases h1 : 0 ≤ f ∧ f < A 2 2
  · rw [if_neg (fun h => h h1)] at hd
    by_cases h2 : s = 1 ∨ s = -1
    · exact Or.inl (su_r_of hCM (cal_2 (c123 ii (by omega) hP t1.1 t1.2 t2.1 t2.2 (by rw [e0]; exact h1) h2)) ((hm _).trans ((if_pos h1).trans (if_pos h2))) (by rw [e0]) rfl (by rw [e0]; exact lr_act hr (by omega) hk (mi_hop ia h1.1 h1.2 (by omega))))
    · rw [if_neg h2] at hd
      exact Or.inr (Or.inr (su_x_of hCM (f := 2) (j := 2) hd fun z => ⟨_, _, _, (hm _).trans ((if_pos h1).trans (if_neg h2)), rfl, lr_mono (lr_s0 hr) (by omega) hk⟩))
  · rw [if_pos h1] at hd
    exact Or.inr (Or.inl (su_x_of hCM (f := 1) (j := 1) hd fun z => ⟨_, _, _, (hm _).trans (if_neg h1), rfl, lr_mono (lr_s0 hr) (by omega) hk⟩))
theorem su_set {v : Int} (hCM : C + 324 ≤ M) (hr : lr K V S PR X A) (hk : K + 20 + 400000 ≤ 1000000) (v1 : -2147483648 ≤ v) (v2 : v < 2147483648) : su_r Ks (K + 20) C M z 125 211 [.int (Int32.ofInt v)] (cs C V PR PZ X (mm M S A (su_b z))) ∨ su_x Ks (K + 20) C M 125 211 2 1 [.int (Int32.ofInt v)] (cs C V PR PZ X (mm M S A (su_b z))) := by
  obtain ⟨⟨e0, k0, k1⟩, ⟨q1, q2, q3⟩, ⟨r1, r2, r3, r4⟩, ⟨t1, t2, t3, t4⟩, u1, u2, u3⟩ := id hr
  have ia := lr_a hr
  have ii := lr_i hr
  have hP := lr_P hr
  have hd := d125 (Ks := Ks) (C := C) (V := V) (PR := PR) (PZ := PZ) (X := X) (σ := mm M S A (su_b z)) v1 v2
  have hm := fun σ => c211 (M := M) (S := S) (A := A) (σ := σ) v1 v2 (by omega) (by omega)
  by_cases h1 : 0 ≤ v ∧ v ≤ 1
  · exact Or.inl (su_r_of hCM (cal_2 (c125 ii hP t1.1 t1.2 t2.1 t2.2 h1)) ((hm _).trans (if_pos h1)) (by rw [e0]) rfl (by rw [e0]; exact lr_act hr (by omega) hk (mi_mono (mi_set ia h1.1 h1.2) (by omega) (by omega))))
  · rw [if_neg h1] at hd
    exact Or.inr (su_x_of hCM (f := 2) (j := 1) hd fun z => ⟨_, _, _, (hm _).trans (if_neg h1), rfl, lr_mono (lr_s0 hr) (by omega) hk⟩)
theorem su_undo (hCM : C + 324 ≤ M) (hr : lr K V S PR X A) (hk : K + 20 + 400000 ≤ 1000000) : su_r Ks (K + 20) C M z 126 212 [] (cs C V PR PZ X (mm M S A (su_b z))) ∨ su_x Ks (K + 20) C M 126 212 3 1 [] (cs C V PR PZ X (mm M S A (su_b z))) := by
  obtain ⟨⟨e0, k0, k1⟩, ⟨q1, q2, q3⟩, ⟨r1, r2, r3, r4⟩, ⟨t1, t2, t3, t4⟩, u1, u2, u3⟩ := id hr
  have hd := d126 (Ks := Ks) (C := C) (V := V) (PR := PR) (PZ := PZ) (X := X) (σ := mm M S A (su_b z)) t2.1 t2.2
  have hm := fun σ => c212 (M := M) (S := S) (A := A) (σ := σ) (by omega) (by omega)
  by_cases h1 : V 2 = 0
  · rw [if_pos h1] at hd
    exact Or.inr (su_x_of hCM (f := 3) (j := 1) hd fun z => ⟨_, _, _, (hm _).trans (if_pos (by omega)), rfl, lr_mono (lr_s0 hr) (by omega) hk⟩)
  · exact Or.inl (su_r_of hCM (cal_2 (c126 (lr_P hr) t1.1 t1.2 (by omega) t2.2)) ((hm _).trans (if_neg (by omega))) (by rw [t3]) rfl (lr_mono (lr_undo hr (by omega)) (by omega) hk))
end SU
