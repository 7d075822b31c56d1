/-! Steps of both sides: what tells. -/
section SU
variable {Ks : Nat → Nat} {K K2 : Int} {C M z kc km : Nat} {as : List Value} {V S : mr_R} {PR PZ X A : Nat → mr_R}
theorem su_about {x : Int} (hCM : C + 324 ≤ M) (hr : lr K V S PR X A) (hk : K + 20 + 400000 ≤ 1000000) (x1 : -2147483648 ≤ x) (x2 : x < 2147483648) : su_r Ks (K + 20) C M z 113 197 [.int (Int32.ofInt x)] (cs C V PR PZ X (mm M S A (su_b z))) ∨ su_x Ks (K + 20) C M 113 197 2 1 [.int (Int32.ofInt x)] (cs C V PR PZ X (mm M S A (su_b z))) := by
  obtain ⟨⟨e0, k0, k1⟩, ⟨q1, q2, q3⟩, ⟨r1, r2, r3, r4⟩, ⟨t1, t2, t3, t4⟩, u1, u2, u3⟩ := id hr
  have ia := lr_a hr
  have ii := lr_i hr
  have hP := lr_P hr
  have hd := d113 (Ks := Ks) (C := C) (V := V) (PR := PR) (PZ := PZ) (X := X) (σ := mm M S A (su_b z)) x1 x2
  have hm := fun z => c197 (M := M) (S := S) (A := A) (σ := cs C V PR PZ X (su_b z)) x1 x2 ia
  have hc := hm z
  by_cases h1 : 0 ≤ x ∧ x ≤ 10
  · exact Or.inl (su_r_of hCM (cal_2 (c113 ii h1.1 h1.2)) ((hc).trans (if_pos h1)) (by rw [e0]) rfl (lr_mono (lr_s0 hr) (by omega) hk))
  · rw [if_neg h1] at hd
    exact Or.inr (su_x_of hCM (f := 2) (j := 1) hd fun z => ⟨_, _, _, (hm z).trans (if_neg h1), rfl, lr_mono (lr_s0 hr) (by omega) hk⟩)
theorem su_wheelOf {w x : Int} (hCM : C + 324 ≤ M) (hr : lr K V S PR X A) (hk : K + 20 + 400000 ≤ 1000000) (w1 : -2147483648 ≤ w) (w2 : w < 2147483648) (x1 : -2147483648 ≤ x) (x2 : x < 2147483648) : su_r Ks (K + 20) C M z 114 199 [.int (Int32.ofInt w), .int (Int32.ofInt x)] (cs C V PR PZ X (mm M S A (su_b z))) ∨ su_x Ks (K + 20) C M 114 199 1 1 [.int (Int32.ofInt w), .int (Int32.ofInt x)] (cs C V PR PZ X (mm M S A (su_b z))) ∨ su_x Ks (K + 20) C M 114 199 2 2 [.int (Int32.ofInt w), .int (Int32.ofInt x)] (cs C V PR PZ X (mm M S A (su_b z))) := by
  obtain ⟨⟨e0, k0, k1⟩, ⟨q1, q2, q3⟩, ⟨r1, r2, r3, r4⟩, ⟨t1, t2, t3, t4⟩, u1, u2, u3⟩ := id hr
  have ia := lr_a hr
  have ii := lr_i hr
  have hP := lr_P hr
  have hd := d114 (Ks := Ks) (C := C) (V := V) (PR := PR) (PZ := PZ) (X := X) (σ := mm M S A (su_b z)) ii w1 w2 x1 x2
  have hm := fun z => c199 (M := M) (S := S) (A := A) (σ := cs C V PR PZ X (su_b z)) w1 w2 x1 x2 ia
  have hc := hm z
  rw [e0] at hd
  by_cases h1 : 0 ≤ w ∧ w < A 2 0
  · by_cases h2 : 0 ≤ x ∧ x ≤ 7
    · exact Or.inl (su_r_of hCM (cal_2 (c114 ii h1.1 (by rw [e0]; exact h1.2) h2.1 h2.2)) ((hc).trans ((if_pos h1).trans (if_pos h2))) (by rw [e0]) rfl (lr_mono (lr_s0 hr) (by omega) hk))
    · rw [if_pos h1, if_neg h2] at hd
      exact Or.inr (Or.inr (su_x_of hCM (f := 2) (j := 2) hd fun z => ⟨_, _, _, (hm z).trans ((if_pos h1).trans (if_neg h2)), rfl, lr_mono (lr_s0 hr) (by omega) hk⟩))
  · rw [if_neg h1] at hd
    exact Or.inr (Or.inl (su_x_of hCM (f := 1) (j := 1) hd fun z => ⟨_, _, _, (hm z).trans (if_neg h1), rfl, lr_mono (lr_s0 hr) (by omega) hk⟩))
theorem su_placeOf {w p x : Int} (hCM : C + 324 ≤ M) (hr : lr K V S PR X A) (hk : K + 20 + 400000 ≤ 1000000) (w1 : -2147483648 ≤ w) (w2 : w < 2147483648) (p1 : -2147483648 ≤ p) (p2 : p < 2147483648) (x1 : -2147483648 ≤ x) (x2 : x < 2147483648) : su_r Ks (K + 20) C M z 115 200 [.int (Int32.ofInt w), .int (Int32.ofInt p), .int (Int32.ofInt x)] (cs C V PR PZ X (mm M S A (su_b z))) ∨ su_x Ks (K + 20) C M 115 200 1 1 [.int (Int32.ofInt w), .int (Int32.ofInt p), .int (Int32.ofInt x)] (cs C V PR PZ X (mm M S A (su_b z))) ∨ su_x Ks (K + 20) C M 115 200 2 2 [.int (Int32.ofInt w), .int (Int32.ofInt p), .int (Int32.ofInt x)] (cs C V PR PZ X (mm M S A (su_b z))) := by
  obtain ⟨⟨e0, k0, k1⟩, ⟨q1, q2, q3⟩, ⟨r1, r2, r3, r4⟩, ⟨t1, t2, t3, t4⟩, u1, u2, u3⟩ := id hr
  have ia := lr_a hr
  have ii := lr_i hr
  have hP := lr_P hr
  have hd := d115 (Ks := Ks) (C := C) (V := V) (PR := PR) (PZ := PZ) (X := X) (σ := mm M S A (su_b z)) ii w1 w2 p1 p2 x1 x2
  have hm := fun z => c200 (M := M) (S := S) (A := A) (σ := cs C V PR PZ X (su_b z)) w1 w2 p1 p2 x1 x2 ia
  have hc := hm z
  rw [e0] at hd
  by_cases h1 : 0 ≤ w ∧ w < A 2 0 ∧ 0 ≤ p ∧ p < A 2 (9 + 10 * w + 0)
  · by_cases h2 : 0 ≤ x ∧ x ≤ 3
    · exact Or.inl (su_r_of hCM (cal_2 (c115 ii (by rw [e0]; exact h1) h2.1 h2.2)) ((hc).trans ((if_pos h1).trans (if_pos h2))) (by rw [e0]) rfl (lr_mono (lr_s0 hr) (by omega) hk))
    · rw [if_pos h1, if_neg h2] at hd
      exact Or.inr (Or.inr (su_x_of hCM (f := 2) (j := 2) hd fun z => ⟨_, _, _, (hm z).trans ((if_pos h1).trans (if_neg h2)), rfl, lr_mono (lr_s0 hr) (by omega) hk⟩))
  · rw [if_neg h1] at hd
    exact Or.inr (Or.inl (su_x_of hCM (f := 1) (j := 1) hd fun z => ⟨_, _, _, (hm z).trans (if_neg h1), rfl, lr_mono (lr_s0 hr) (by omega) hk⟩))
theorem su_frogOf {f x : Int} (hCM : C + 324 ≤ M) (hr : lr K V S PR X A) (hk : K + 20 + 400000 ≤ 1000000) (f1 : -2147483648 ≤ f) (f2 : f < 2147483648) (x1 : -2147483648 ≤ x) (x2 : x < 2147483648) : su_r Ks (K + 20) C M z 116 201 [.int (Int32.ofInt f), .int (Int32.ofInt x)] (cs C V PR PZ X (mm M S A (su_b z))) ∨ su_x Ks (K + 20) C M 116 201 1 1 [.int (Int32.ofInt f), .int (Int32.ofInt x)] (cs C V PR PZ X (mm M S A (su_b z))) ∨ su_x Ks (K + 20) C M 116 201 2 2 [.int (Int32.ofInt f), .int (Int32.ofInt x)] (cs C V PR PZ X (mm M S A (su_b z))) := by
  obtain ⟨⟨e0, k0, k1⟩, ⟨q1, q2, q3⟩, ⟨r1, r2, r3, r4⟩, ⟨t1, t2, t3, t4⟩, u1, u2, u3⟩ := id hr
  have ia := lr_a hr
  have ii := lr_i hr
  have hP := lr_P hr
  have hd := d116 (Ks := Ks) (C := C) (V := V) (PR := PR) (PZ := PZ) (X := X) (σ := mm M S A (su_b z)) ii f1 f2 x1 x2
  have hm := fun z => c201 (M := M) (S := S) (A := A) (σ := cs C V PR PZ X (su_b z)) f1 f2 x1 x2 ia
  have hc := hm z
  rw [e0] at hd
  by_cases h1 : 0 ≤ f ∧ f < A 2 2
  · by_cases h2 : 0 ≤ x ∧ x ≤ 5
    · exact Or.inl (su_r_of hCM (cal_2 (c116 ii h1.1 (by rw [e0]; exact h1.2) h2.1 h2.2)) ((hc).trans ((if_pos h1).trans (if_pos h2))) (by rw [e0]) rfl (lr_mono (lr_s0 hr) (by omega) hk))
    · rw [if_pos h1, if_neg h2] at hd
      exact Or.inr (Or.inr (su_x_of hCM (f := 2) (j := 2) hd fun z => ⟨_, _, _, (hm z).trans ((if_pos h1).trans (if_neg h2)), rfl, lr_mono (lr_s0 hr) (by omega) hk⟩))
  · rw [if_neg h1] at hd
    exact Or.inr (Or.inl (su_x_of hCM (f := 1) (j := 1) hd fun z => ⟨_, _, _, (hm z).trans (if_neg h1), rfl, lr_mono (lr_s0 hr) (by omega) hk⟩))
theorem su_lineOf {l x : Int} (hCM : C + 324 ≤ M) (hr : lr K V S PR X A) (hk : K + 20 + 400000 ≤ 1000000) (l1 : -2147483648 ≤ l) (l2 : l < 2147483648) (x1 : -2147483648 ≤ x) (x2 : x < 2147483648) : su_r Ks (K + 20) C M z 117 202 [.int (Int32.ofInt l), .int (Int32.ofInt x)] (cs C V PR PZ X (mm M S A (su_b z))) ∨ su_x Ks (K + 20) C M 117 202 1 1 [.int (Int32.ofInt l), .int (Int32.ofInt x)] (cs C V PR PZ X (mm M S A (su_b z))) ∨ su_x Ks (K + 20) C M 117 202 2 2 [.int (Int32.ofInt l), .int (Int32.ofInt x)] (cs C V PR PZ X (mm M S A (su_b z))) := by
  obtain ⟨⟨e0, k0, k1⟩, ⟨q1, q2, q3⟩, ⟨r1, r2, r3, r4⟩, ⟨t1, t2, t3, t4⟩, u1, u2, u3⟩ := id hr
  have ia := lr_a hr
  have ii := lr_i hr
  have hP := lr_P hr
  have hd := d117 (Ks := Ks) (C := C) (V := V) (PR := PR) (PZ := PZ) (X := X) (σ := mm M S A (su_b z)) ii l1 l2 x1 x2
  have hm := fun z => c202 (M := M) (S := S) (A := A) (σ := cs C V PR PZ X (su_b z)) l1 l2 x1 x2 ia
  have hc := hm z
  rw [e0] at hd
  by_cases h1 : 0 ≤ l ∧ l < A 2 1
  · by_cases h2 : 0 ≤ x ∧ x ≤ 3
    · exact Or.inl (su_r_of hCM (cal_2 (c117 ii h1.1 (by rw [e0]; exact h1.2) h2.1 h2.2)) ((hc).trans ((if_pos h1).trans (if_pos h2))) (by rw [e0]) rfl (lr_mono (lr_s0 hr) (by omega) hk))
    · rw [if_pos h1, if_neg h2] at hd
      exact Or.inr (Or.inr (su_x_of hCM (f := 2) (j := 2) hd fun z => ⟨_, _, _, (hm z).trans ((if_pos h1).trans (if_neg h2)), rfl, lr_mono (lr_s0 hr) (by omega) hk⟩))
  · rw [if_neg h1] at hd
    exact Or.inr (Or.inl (su_x_of hCM (f := 1) (j := 1) hd fun z => ⟨_, _, _, (hm z).trans (if_neg h1), rfl, lr_mono (lr_s0 hr) (by omega) hk⟩))
theorem su_why {f l : Int} (hCM : C + 324 ≤ M) (hr : lr K V S PR X A) (hk : K + 20 + 400000 ≤ 1000000) (f1 : -2147483648 ≤ f) (f2 : f < 2147483648) (l1 : -2147483648 ≤ l) (l2 : l < 2147483648) : su_r Ks (K + 20) C M z 127 213 [.int (Int32.ofInt f), .int (Int32.ofInt l)] (cs C V PR PZ X (mm M S A (su_b z))) ∨ su_x Ks (K + 20) C M 127 213 1 1 [.int (Int32.ofInt f), .int (Int32.ofInt l)] (cs C V PR PZ X (mm M S A (su_b z))) := by
  obtain ⟨⟨e0, k0, k1⟩, ⟨q1, q2, q3⟩, ⟨r1, r2, r3, r4⟩, ⟨t1, t2, t3, t4⟩, u1, u2, u3⟩ := id hr
  have ia := lr_a hr
  have ii := lr_i hr
  have hP := lr_P hr
  have hd := d127 (Ks := Ks) (C := C) (V := V) (PR := PR) (PZ := PZ) (X := X) (σ := mm M S A (su_b z)) ii f1 f2 l1 l2
  have hm := fun z => c213 (M := M) (S := S) (A := A) (σ := cs C V PR PZ X (su_b z)) f1 f2 l1 l2 ia
  have hc := hm z
  rw [e0] at hd
  by_cases h1 : (0 ≤ f ∧ f < A 2 2) ∧ (0 ≤ l ∧ l < A 2 1)
  · exact Or.inl (su_r_of hCM (cal_2 (c127 ii (by rw [e0]; exact h1))) ((hc).trans (if_pos h1)) (by rw [e0]) rfl (lr_mono (lr_s0 hr) (by omega) hk))
  · rw [if_neg h1] at hd
    exact Or.inr (su_x_of hCM (f := 1) (j := 1) hd fun z => ⟨_, _, _, (hm z).trans (if_neg h1), rfl, lr_mono (lr_s0 hr) (by omega) hk⟩)
end SU
