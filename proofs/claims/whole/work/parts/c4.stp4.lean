/-! Steps of both sides: searches, scripts, slots. -/
theorem mf_gs_len (n a : Int) : ((mf_gs n a).length : Int) ≤ 3 := by
  unfold mf_gs
  split
  · show (1 : Int) ≤ 3; omega
  · split
    · show (2 : Int) ≤ 3; omega
    · show (3 : Int) ≤ 3; omega
theorem sx_r_0 (x : Int64) : 0 ≤ sx_r x := (sx_bd x).1
section SU
variable {Ks : Nat → Nat} {K K2 : Int} {C M z kc km : Nat} {as : List Value} {V S : mr_R} {PR PZ X A : Nat → mr_R}
theorem su_fewest {f w p y : Int} (hCM : C + 324 ≤ M) (hr : lr K V S PR X A) (hk : K + 20 + 400000 ≤ 1000000) (f1 : -2147483648 ≤ f) (f2 : f < 2147483648) (w1 : -2147483648 ≤ w) (w2 : w < 2147483648) (p1 : -2147483648 ≤ p) (p2 : p < 2147483648) (y1 : -2147483648 ≤ y) (y2 : y < 2147483648) : su_r Ks (K + 20) C M z 128 219 [.int (Int32.ofInt f), .int (Int32.ofInt w), .int (Int32.ofInt p), .int (Int32.ofInt y)] (cs C V PR PZ X (mm M S A (su_b z))) ∨ su_x Ks (K + 20) C M 128 219 1 1 [.int (Int32.ofInt f), .int (Int32.ofInt w), .int (Int32.ofInt p), .int (Int32.ofInt y)] (cs C V PR PZ X (mm M S A (su_b z))) ∨ su_x Ks (K + 20) C M 128 219 2 2 [.int (Int32.ofInt f), .int (Int32.ofInt w), .int (Int32.ofInt p), .int (Int32.ofInt y)] (cs C V PR PZ X (mm M S A (su_b z))) := by
  obtain ⟨⟨e0, k0, k1⟩, ⟨q1, q2, q3⟩, ⟨r1, r2, r3, r4⟩, ⟨t1, t2, t3, t4⟩, u1, u2, u3⟩ := id hr
  have ia := lr_a hr
  have ii := lr_i hr
  have hP := lr_P hr
  have hd := d128 (Ks := Ks) (C := C) (V := V) (PR := PR) (PZ := PZ) (X := X) (σ := mm M S A (su_b z)) ii f1 f2 w1 w2 p1 p2 y1 y2
  rw [e0] at hd
  have hm := fun σ => c219n (M := M) (S := S) (A := A) (σ := σ) ia f1 f2 w1 w2 p1 p2 y1 y2
  by_cases h1 : (0 ≤ f ∧ f < A 2 2) ∧ (0 ≤ w ∧ w < A 2 0 ∧ 0 ≤ p ∧ p < A 2 (9 + 10 * w + 0))
  · rw [if_pos h1] at hd
    by_cases h2 : 0 ≤ y ∧ y ≤ 1
    · left
      obtain ⟨r, X0, X2, a1, a2, a3, a4, a5, a6, a7⟩ := c128 (C := C) (V := V) (PR := PR) (PZ := PZ) (X := X) (σ := mm M S A (su_b z)) (f := f) (w := w) (p := p) (y := y) ii h1.1.1 (by rw [e0]; exact h1.1.2) (by rw [e0]; exact h1.2) (by omega)
      obtain ⟨r2, A2, K', b1, b2, b3, b4, b5⟩ := c219 (M := M) (S := S) (A := A) (σ := cs C (mr_st V 3 (sg_n (PR 0) f)) PR PZ X2 (su_b z)) (f := f) (w := w) (p := p) (y := y) ia (lr_z q3) (by omega) h1.1.1 h1.1.2 h1.2 (by omega)
      rw [e0] at a1 a4
      have hrr : r2 = r := ag_few ia (by omega) h1.1.1 h1.1.2 a1 b3 a4
      exact su_r_of hCM (cal_2 a7) b5 hrr rfl (lr_mono (lr_side hr rfl rfl rfl rfl rfl (fun _ _ => rfl) q2 ((a3 0 (by decide) (by decide)).trans a2.1) ((a3 1 (by decide) (by decide)).trans a2.2) b1 (mi_mono b2 b2.k (by omega))) (by omega) hk)
    · rw [if_neg h2] at hd
      exact Or.inr (Or.inr (su_x_of hCM (f := 2) (j := 2) hd fun z => ⟨_, _, _, (hm _).2 h1 h2, rfl, lr_mono (lr_s0 hr) (by omega) hk⟩))
  · rw [if_neg h1] at hd
    exact Or.inr (Or.inl (su_x_of hCM (f := 1) (j := 1) hd fun z => ⟨_, _, _, (hm _).1 h1, rfl, lr_mono (lr_s0 hr) (by omega) hk⟩))
theorem su_couldBe {f w : Int} (hCM : C + 324 ≤ M) (hr : lr K V S PR X A) (hk : K + 20 + 400000 ≤ 1000000) (f1 : -2147483648 ≤ f) (f2 : f < 2147483648) (w1 : -2147483648 ≤ w) (w2 : w < 2147483648) : su_r Ks (K + 20) C M z 129 220 [.int (Int32.ofInt f), .int (Int32.ofInt w)] (cs C V PR PZ X (mm M S A (su_b z))) ∨ su_x Ks (K + 20) C M 129 220 1 1 [.int (Int32.ofInt f), .int (Int32.ofInt w)] (cs C V PR PZ X (mm M S A (su_b z))) := by
  obtain ⟨⟨e0, k0, k1⟩, ⟨q1, q2, q3⟩, ⟨r1, r2, r3, r4⟩, ⟨t1, t2, t3, t4⟩, u1, u2, u3⟩ := id hr
  have ia := lr_a hr
  have ii := lr_i hr
  have hP := lr_P hr
  have hd := d129 (Ks := Ks) (C := C) (V := V) (PR := PR) (PZ := PZ) (X := X) (σ := mm M S A (su_b z)) ii f1 f2 w1 w2
  rw [e0] at hd
  by_cases h1 : (0 ≤ f ∧ f < A 2 2) ∧ (0 ≤ w ∧ w < A 2 0)
  · left
    obtain ⟨X0, X2, a1, a2, a3, a7⟩ := c129 (C := C) (V := V) (PR := PR) (PZ := PZ) (X := X) (σ := mm M S A (su_b z)) (f := f) (w := w) ii h1.1.1 (by rw [e0]; exact h1.1.2) h1.2.1 (by rw [e0]; exact h1.2.2)
    obtain ⟨A2, K', b1, b2, b5⟩ := c220 (M := M) (S := S) (A := A) (σ := cs C (mr_st V 3 (sg_n (PR 0) f)) PR PZ X2 (su_b z)) (f := f) (w := w) ia (lr_z q3) (by omega) h1.1.1 h1.1.2 h1.2.1 h1.2.2
    have hrr := ag_could (w := w) ii (by omega) h1.1.1 (by rw [e0]; exact h1.1.2) a1 h1.2.1
    exact su_r_of hCM (cal_2 a7) b5 (by rw [hrr, e0]) rfl (lr_mono (lr_side hr rfl rfl rfl rfl rfl (fun _ _ => rfl) q2 ((a3 0 (by decide) (by decide)).trans a2.1) ((a3 1 (by decide) (by decide)).trans a2.2) b1 (mi_mono b2 b2.k (by omega))) (by omega) hk)
  · rw [if_neg h1] at hd
    exact Or.inr (su_x_of hCM (f := 1) (j := 1) hd fun z => ⟨_, _, _, c220n ia f1 f2 w1 w2 h1, rfl, lr_mono (lr_s0 hr) (by omega) hk⟩)
theorem su_mostFlies {f n : Int} (hCM : C + 324 ≤ M) (hr : lr K V S PR X A) (hk : K + 20 + 400000 ≤ 1000000) (f1 : -2147483648 ≤ f) (f2 : f < 2147483648) (n1 : -2147483648 ≤ n) (n2 : n < 2147483648) : su_r Ks (K + 20) C M z 130 221 [.int (Int32.ofInt f), .int (Int32.ofInt n)] (cs C V PR PZ X (mm M S A (su_b z))) ∨ su_x Ks (K + 20) C M 130 221 1 1 [.int (Int32.ofInt f), .int (Int32.ofInt n)] (cs C V PR PZ X (mm M S A (su_b z))) ∨ su_x Ks (K + 20) C M 130 221 2 2 [.int (Int32.ofInt f), .int (Int32.ofInt n)] (cs C V PR PZ X (mm M S A (su_b z))) := by
  obtain ⟨⟨e0, k0, k1⟩, ⟨q1, q2, q3⟩, ⟨r1, r2, r3, r4⟩, ⟨t1, t2, t3, t4⟩, u1, u2, u3⟩ := id hr
  have ia := lr_a hr
  have ii := lr_i hr
  have hP := lr_P hr
  have hd := d130 (Ks := Ks) (C := C) (V := V) (PR := PR) (PZ := PZ) (X := X) (σ := mm M S A (su_b z)) ii f1 f2 n1 n2
  rw [e0] at hd
  have hm := fun σ => c221n (M := M) (S := S) (A := A) (σ := σ) ia f1 f2 n1 n2
  by_cases h1 : 0 ≤ f ∧ f < A 2 2
  · rw [if_pos h1] at hd
    by_cases h2 : 1 ≤ n ∧ n ≤ 4
    · left
      obtain ⟨r, X0, Y, a1, a2, a3, a4, a5, a7⟩ := c130 (C := C) (V := V) (PR := PR) (PZ := PZ) (X := X) (σ := mm M S A (su_b z)) (f := f) (n := n) ii h1.1 (by rw [e0]; exact h1.2) h2.1 h2.2
      obtain ⟨r2, A2, K', b1, b2, b3, b4, b5⟩ := c221 (M := M) (S := S) (A := A) (σ := cs C (mr_st V 3 (sg_n (PR 0) f)) PR PZ (ms_a X0 10 Y) (su_b z)) (f := f) (n := n) ia q3 (by omega) h1.1 h1.2 h2.1 h2.2
      rw [e0] at a1 a3 a4
      have hrr : r2 = r := ag_most ia (by omega) h1.1 h1.2 a1 a4 b3 a3
      exact su_r_of hCM (cal_2 a7) b5 hrr rfl (lr_mono (lr_side hr rfl rfl rfl rfl rfl (fun _ _ => rfl) q2 a2.1 a2.2 (fun j h3 _ _ => b1 j h3) (mi_mono b2 b2.k (by omega))) (by omega) hk)
    · rw [if_neg h2] at hd
      exact Or.inr (Or.inr (su_x_of hCM (f := 2) (j := 2) hd fun z => ⟨_, _, _, (hm _).2 h1 h2, rfl, lr_mono (lr_s0 hr) (by omega) hk⟩))
  · rw [if_neg h1] at hd
    exact Or.inr (Or.inl (su_x_of hCM (f := 1) (j := 1) hd fun z => ⟨_, _, _, (hm _).1 h1, rfl, lr_mono (lr_s0 hr) (by omega) hk⟩))
theorem su_runScript {n a : Int} (hCM : C + 324 ≤ M) (hr : lr K V S PR X A) (hk : K + 20 + 400000 ≤ 1000000) (n1 : -2147483648 ≤ n) (n2 : n < 2147483648) (a1 : -9223372036854775808 ≤ a) (a2 : a < 9223372036854775808) : su_r Ks (K + 20) C M z 131 223 [.int (Int32.ofInt n), .long (Int64.ofInt a)] (cs C V PR PZ X (mm M S A (su_b z))) ∨ su_x Ks (K + 20) C M 131 223 2 1 [.int (Int32.ofInt n), .long (Int64.ofInt a)] (cs C V PR PZ X (mm M S A (su_b z))) := by
  obtain ⟨⟨e0, k0, k1⟩, ⟨q1, q2, q3⟩, ⟨r1, r2, r3, r4⟩, ⟨t1, t2, t3, t4⟩, u1, u2, u3⟩ := id hr
  have ia := lr_a hr
  have ii := lr_i hr
  have hP := lr_P hr
  have hd := d131 (Ks := Ks) (C := C) (V := V) (PR := PR) (PZ := PZ) (X := X) (σ := mm M S A (su_b z)) n1 n2 a1 a2
  have hm := fun σ => c223 (M := M) (S := S) (A := A) (σ := σ) n1 n2 a1 a2 ia (lr_z q3) (by omega)
  by_cases h1 : (1 ≤ n ∧ n ≤ 3) ∧ 0 ≤ a ∧ a < mf_all n
  · have hl := mf_gs_len n a
    have hmi : mi 1000000 (mg_rs (A 2) (mf_gs n a)) := mi_mono (mi_rs (mf_gs n a) ia (by omega)) (by omega) (by omega)
    exact Or.inl (su_r_of hCM (cal_2 (c131 ii (by omega) hP h1.1 h1.2.1 h1.2.2)) ((hm _).trans (if_pos h1)) (by rw [e0]) rfl (lr_mono (lr_side hr rfl rfl rfl rfl rfl (fun i hi => sa_ne hi) (by rw [sa_eq rfl, e0]; exact hmi) rfl rfl (fun j h _ _ => sa_ne h) (by rw [sa_eq rfl]; exact hmi)) (by omega) hk))
  · rw [if_neg h1] at hd
    exact Or.inr (su_x_of hCM (f := 2) (j := 1) hd fun z => ⟨_, _, _, (hm _).trans (if_neg h1), rfl, lr_mono (lr_s0 hr) (by omega) hk⟩)
theorem su_simulate {x : Int64} {m : Int} (hCM : C + 324 ≤ M) (hr : lr K V S PR X A) (hk : K + 20 + 400000 ≤ 1000000) (m1 : -2147483648 ≤ m) (m2 : m < 2147483648) : su_r Ks (K + 20) C M z 132 226 [.long x, .int (Int32.ofInt m)] (cs C V PR PZ X (mm M S A (su_b z))) ∨ su_x Ks (K + 20) C M 132 226 2 1 [.long x, .int (Int32.ofInt m)] (cs C V PR PZ X (mm M S A (su_b z))) := by
  obtain ⟨⟨e0, k0, k1⟩, ⟨q1, q2, q3⟩, ⟨r1, r2, r3, r4⟩, ⟨t1, t2, t3, t4⟩, u1, u2, u3⟩ := id hr
  have ia := lr_a hr
  have ii := lr_i hr
  have hP := lr_P hr
  have hd := d132 (Ks := Ks) (C := C) (V := V) (PR := PR) (PZ := PZ) (X := X) (σ := mm M S A (su_b z)) (x := x) m1 m2
  have hm := fun σ => c226 (M := M) (S := S) (A := A) (σ := σ) (x := x) m1 m2 ia (lr_z q3) (by omega) (by omega)
  by_cases h1 : 1 ≤ m ∧ m ≤ 60
  · have hmi : mi 1000000 (mg_sF sx_n sx_r m.toNat x (A 2)) := mi_mono (mi_sF sx_r_0 m.toNat x ia (by omega) (by omega)) (by omega) (by omega)
    exact Or.inl (su_r_of hCM (cal_2 (c132 ii (by omega) (by omega) hP h1)) ((hm _).trans (if_pos h1)) (by rw [e0]) rfl (lr_mono (lr_side hr rfl rfl rfl rfl rfl (fun i hi => sa_ne hi) (by rw [sa_eq rfl, e0]; exact hmi) rfl rfl (fun j h _ _ => sa_ne h) (by rw [sa_eq rfl]; exact hmi)) (by omega) hk))
  · rw [if_neg h1] at hd
    exact Or.inr (su_x_of hCM (f := 2) (j := 1) hd fun z => ⟨_, _, _, (hm _).trans (if_neg h1), rfl, lr_mono (lr_s0 hr) (by omega) hk⟩)
theorem su_save {x : Int} (hCM : C + 324 ≤ M) (hr : lr K V S PR X A) (hk : K + 20 + 400000 ≤ 1000000) (x1 : -2147483648 ≤ x) (x2 : x < 2147483648) : su_r Ks (K + 20) C M z 133 227 [.int (Int32.ofInt x)] (cs C V PR PZ X (mm M S A (su_b z))) ∨ su_x Ks (K + 20) C M 133 227 1 1 [.int (Int32.ofInt x)] (cs C V PR PZ X (mm M S A (su_b z))) := by
  obtain ⟨⟨e0, k0, k1⟩, ⟨q1, q2, q3⟩, ⟨r1, r2, r3, r4⟩, ⟨t1, t2, t3, t4⟩, u1, u2, u3⟩ := id hr
  have ia := lr_a hr
  have ii := lr_i hr
  have hP := lr_P hr
  have hd := d133 (Ks := Ks) (C := C) (V := V) (PR := PR) (PZ := PZ) (X := X) (σ := mm M S A (su_b z)) x1 x2
  have hm := fun σ => c227 (M := M) (S := S) (A := A) (σ := σ) x1 x2
  by_cases h1 : 0 ≤ x ∧ x ≤ 1
  · exact Or.inl (su_r_of hCM (cal_2 (c133 hP h1.1 h1.2)) ((hm _).trans (if_pos h1)) (by rw [e0]) rfl (lr_mono (lr_save hr h1.1 h1.2) (by omega) hk))
  · rw [if_neg h1] at hd
    exact Or.inr (su_x_of hCM (f := 1) (j := 1) hd fun z => ⟨_, _, _, (hm _).trans (if_neg h1), rfl, lr_mono (lr_s0 hr) (by omega) hk⟩)
theorem su_restore {x : Int} (hCM : C + 324 ≤ M) (hr : lr K V S PR X A) (hk : K + 20 + 400000 ≤ 1000000) (x1 : -2147483648 ≤ x) (x2 : x < 2147483648) : su_r Ks (K + 20) C M z 134 228 [.int (Int32.ofInt x)] (cs C V PR PZ X (mm M S A (su_b z))) ∨ su_x Ks (K + 20) C M 134 228 1 1 [.int (Int32.ofInt x)] (cs C V PR PZ X (mm M S A (su_b z))) ∨ su_x Ks (K + 20) C M 134 228 3 2 [.int (Int32.ofInt x)] (cs C V PR PZ X (mm M S A (su_b z))) := by
  obtain ⟨⟨e0, k0, k1⟩, ⟨q1, q2, q3⟩, ⟨r1, r2, r3, r4⟩, ⟨t1, t2, t3, t4⟩, u1, u2, u3⟩ := id hr
  have ia := lr_a hr
  have ii := lr_i hr
  have hP := lr_P hr
  have hd := d134 (Ks := Ks) (C := C) (V := V) (PR := PR) (PZ := PZ) (X := X) (σ := mm M S A (su_b z)) (x := x) (by rw [u1]; have := u2 x; omega) x1 x2
  have hm := fun σ => c228 (M := M) (S := S) (A := A) (σ := σ) x1 x2 u2
  by_cases h1 : 0 ≤ x ∧ x ≤ 1
  · rw [if_pos h1] at hd
    by_cases h2 : A 6 x = 0
    · rw [if_neg (by rw [u1]; omega)] at hd
      exact Or.inr (Or.inr (su_x_of hCM (f := 3) (j := 2) hd fun z => ⟨_, _, _, (hm _).trans ((if_pos h1).trans (if_pos h2)), rfl, lr_mono (lr_s0 hr) (by omega) hk⟩))
    · have h3 : A 6 x = 1 := by have := u2 x; omega
      have hv : mc_cp (A 5) (96 * x) (A 2) 0 96 3 = PR (x.toNat + 16) 3 := by
        rw [u3 x h1.1 h1.2 h3 3 (by omega) (by omega)]
        unfold mc_cp
        rw [if_pos (by omega)]
        congr 1
      exact Or.inl (su_r_of hCM (cal_2 (c134 hP h1.1 h1.2 (by rw [u1]; exact h3))) ((hm _).trans ((if_pos h1).trans (if_neg h2))) hv rfl (lr_mono (lr_rest hr h1.1 h1.2 h3) (by omega) hk))
  · rw [if_neg h1] at hd
    exact Or.inr (Or.inl (su_x_of hCM (f := 1) (j := 1) hd fun z => ⟨_, _, _, (hm _).trans (if_neg h1), rfl, lr_mono (lr_s0 hr) (by omega) hk⟩))
end SU
