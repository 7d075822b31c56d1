/-! A call on both sides: what it may come to. -/
def su_f (C M z : Nat) (σ : ri_S) : Prop := ∃ (V : mr_R) (PR PZ X : Nat → mr_R) (S : mr_R) (A : Nat → mr_R), σ = cs C V PR PZ X (mm M S A (su_b z))
def su_w (K : Int) (C M z : Nat) (σ : ri_S) : Prop := ∃ (V : mr_R) (PR PZ X : Nat → mr_R) (S : mr_R) (A : Nat → mr_R), σ = cs C V PR PZ X (mm M S A (su_b z)) ∧ lr K V S PR X A
/-- both return the same -/
def su_r (Ks : Nat → Nat) (K2 : Int) (C M z kc km : Nat) (as : List Value) (σ : ri_S) : Prop := ∃ (v : Int32) (σ1 σ2 : ri_S), cal2 Ks kc (.ref C :: as) σ = some (some (.int v), σ1) ∧ su_f C M z σ1 ∧ cal km (.ref M :: as) σ1 = some (some (.int v), σ2) ∧ cal 144 [.ref M] σ2 = some (some (.int 0), σ2) ∧ su_w K2 C M z σ2
/-- the class meets fault f, the model tells j -/
def su_x (Ks : Nat → Nat) (K2 : Int) (C M kc km f j : Nat) (as : List Value) (σ : ri_S) : Prop := ev3 Ks kc (0, ri_ent (TM kc) (.ref C :: as), []) σ = some (some (.int (Int32.ofNat f)), σ) ∧ ∀ z, ∃ (w : Int32) (σ2 : ri_S), cal km (.ref M :: as) (σ.1, z) = some (some (.int w), σ2) ∧ cal 144 [.ref M] σ2 = some (some (.int (Int32.ofNat j)), σ2) ∧ su_w K2 C M z σ2
section SU
variable {Ks : Nat → Nat} {K K2 : Int} {C M z kc km : Nat} {as : List Value} {V S : mr_R} {PR PZ X A : Nat → mr_R}
theorem su_n (j : Nat) : Int32.ofInt (j : Int) = Int32.ofNat j := rfl
theorem su_r_of {a b : Int} {V2 S2 : mr_R} {PR2 PZ2 X2 A2 : Nat → mr_R} (hCM : C + 324 ≤ M) (h1 : cal2 Ks kc (.ref C :: as) (cs C V PR PZ X (mm M S A (su_b z))) = some (some (.int (Int32.ofInt a)), cs C V2 PR2 PZ2 X2 (mm M S A (su_b z))))
    (h2 : cal km (.ref M :: as) (mm M S A (cs C V2 PR2 PZ2 X2 (su_b z))) = some (some (.int (Int32.ofInt b)), mm M S2 A2 (cs C V2 PR2 PZ2 X2 (su_b z)))) (hab : b = a) (h0 : S2 0 = 0) (h4 : lr K2 V2 S2 PR2 X2 A2) : su_r Ks K2 C M z kc km as (cs C V PR PZ X (mm M S A (su_b z))) := by
  subst hab
  refine ⟨_, _, cs C V2 PR2 PZ2 X2 (mm M S2 A2 (su_b z)), h1, ⟨_, _, _, _, _, _, rfl⟩, ?_, ?_, ⟨_, _, _, _, _, _, rfl, h4⟩⟩
  · rw [cs_mm hCM, cs_mm hCM]; exact h2
  · rw [cs_mm hCM, c144, h0]
    rfl
theorem su_x_of {f j : Nat} (hCM : C + 324 ≤ M) (h1 : ev3 Ks kc (0, ri_ent (TM kc) (.ref C :: as), []) (cs C V PR PZ X (mm M S A (su_b z))) = some (some (.int (Int32.ofInt (f : Int))), cs C V PR PZ X (mm M S A (su_b z))))
    (h2 : ∀ z, ∃ (w : Int32) (S2 : mr_R) (A2 : Nat → mr_R), cal km (.ref M :: as) (mm M S A (cs C V PR PZ X (su_b z))) = some (some (.int w), mm M S2 A2 (cs C V PR PZ X (su_b z))) ∧ S2 0 = (j : Int) ∧ lr K2 V S2 PR X A2) : su_x Ks K2 C M kc km f j as (cs C V PR PZ X (mm M S A (su_b z))) := by
  refine ⟨h1, fun z2 => ?_⟩
  obtain ⟨w, S2, A2, e1, e2, e3⟩ := h2 z2
  refine ⟨w, cs C V PR PZ X (mm M S2 A2 (su_b z2)), ?_, ?_, ⟨_, _, _, _, _, _, rfl, e3⟩⟩
  · show cal km (.ref M :: as) (cs C V PR PZ X (mm M S A (su_b z2))) = _
    rw [cs_mm hCM, cs_mm hCM]; exact e1
  · rw [cs_mm hCM, c144, e2]
    rfl
theorem su_append {c : Int} (hCM : C + 324 ≤ M) (hr : lr K V S PR X A) (hk : K + 20 + 400000 ≤ 1000000) (c1 : -2147483648 ≤ c) (c2 : c < 2147483648) : su_r Ks (K + 20) C M z 109 182 [.int (Int32.ofInt c)] (cs C V PR PZ X (mm M S A (su_b z))) ∨ su_x Ks (K + 20) C M 109 182 2 1 [.int (Int32.ofInt c)] (cs C V PR PZ X (mm M S A (su_b z))) ∨ su_x Ks (K + 20) C M 109 182 3 2 [.int (Int32.ofInt c)] (cs C V PR PZ X (mm M S A (su_b z))) := by
  obtain ⟨⟨e0, k0, k1⟩, ⟨q1, q2, q3⟩, ⟨r1, r2, r3, r4⟩, ⟨t1, t2, t3, t4⟩, u1, u2, u3⟩ := id hr
  have hd := d109 (Ks := Ks) (C := C) (V := V) (PR := PR) (PZ := PZ) (X := X) (σ := mm M S A (su_b z)) (c := c) (by omega) (by omega) c1 c2
  have hm := fun z => c182 (M := M) (S := S) (A := A) (σ := cs C V PR PZ X (su_b z)) (c := c) c1 c2 (by omega) (by omega)
  by_cases q : 0 ≤ c ∧ c ≤ 255
  · by_cases q5 : V 0 = 120
    · rw [if_pos q, if_pos q5] at hd
      exact Or.inr (Or.inr (su_x_of hCM (f := 3) (j := 2) hd fun z => ⟨_, _, _, (hm z).trans ((if_pos q).trans (if_pos (by omega))), rfl, lr_mono (lr_s0 hr) (by omega) hk⟩))
    · exact Or.inl (su_r_of hCM (cal_2 (c109 q.1 q.2 (by omega) (by omega))) ((c182 c1 c2 (by omega) (by omega)).trans ((if_pos q).trans (if_neg (by omega)))) (by rw [r2]) rfl (lr_mono (lr_app hr q.1 q.2 (by omega)) (by omega) hk))
  · rw [if_neg q] at hd
    exact Or.inr (Or.inl (su_x_of hCM (f := 2) (j := 1) hd fun z => ⟨_, _, _, (hm z).trans (if_neg q), rfl, lr_mono (lr_s0 hr) (by omega) hk⟩))
theorem su_clear (hCM : C + 324 ≤ M) (hr : lr K V S PR X A) (hk : K + 20 + 400000 ≤ 1000000) : su_r Ks (K + 20) C M z 110 183 [] (cs C V PR PZ X (mm M S A (su_b z))) :=
  su_r_of hCM (cal_2 c110) c183 hr.2.2.1.2.1 rfl (lr_mono (lr_clr hr) (by omega) hk)
theorem su_error (hCM : C + 324 ≤ M) (hKs : sk_ok Ks) (hr : lr K V S PR X A) (hk : K + 20 + 400000 ≤ 1000000) : su_r Ks (K + 20) C M z 111 194 [] (cs C V PR PZ X (mm M S A (su_b z))) := by
  obtain ⟨⟨e0, k0, k1⟩, ⟨q1, q2, q3⟩, ⟨r1, r2, r3, r4⟩, ⟨t1, t2, t3, t4⟩, u1, u2, u3⟩ := id hr
  obtain ⟨j, m1, m2, m3⟩ := c194 (M := M) (S := S) (A := A) (σ := cs C V PR PZ X (su_b z)) ⟨by omega, fun i i1 i2 => by rw [← r3]; exact r4 i i1 (by omega)⟩ (lr_z q3)
  exact su_r_of hCM (c111 hKs rfl (by omega) (by omega) r4) m3 (by rw [r3, r2]) rfl (lr_mono (lr_side hr rfl rfl rfl rfl rfl (fun _ _ => rfl) q2 rfl rfl (fun j h _ _ => sa_ne h) (by rw [sa_eq rfl]; exact mi_mono m1 (by omega) (by omega))) (by omega) hk)
theorem su_load (hCM : C + 324 ≤ M) (hKs : sk_ok Ks) (hr : lr K V S PR X A) (hk : K + 20 + 400000 ≤ 1000000) : su_r Ks (K + 20) C M z 112 195 [] (cs C V PR PZ X (mm M S A (su_b z))) ∨ su_x Ks (K + 20) C M 112 195 3 1 [] (cs C V PR PZ X (mm M S A (su_b z))) := by
  obtain ⟨⟨e0, k0, k1⟩, ⟨q1, q2, q3⟩, ⟨r1, r2, r3, r4⟩, ⟨t1, t2, t3, t4⟩, u1, u2, u3⟩ := id hr
  have hm := fun σ => c195 (M := M) (S := S) (A := A) (σ := σ) ⟨by omega, fun i i1 i2 => by rw [← r3]; exact r4 i i1 (by omega)⟩ (lr_z q3) (lr_a hr)
  rw [← r3, r2] at hm
  obtain ⟨-, n1, n2, -⟩ := c194 (M := M) (S := S) (A := A) (σ := su_b z) ⟨by omega, fun i i1 i2 => by rw [← r3]; exact r4 i i1 (by omega)⟩ (lr_z q3)
  rw [← r3, r2] at n2 n1
  by_cases q : (tx_e (X 0) (V 0)).1 = -1
  · left
    have h1 := c112 (C := C) (V := V) (PR := PR) (PZ := PZ) (X := X) (σ := mm M S A (su_b z)) (Ks := Ks) (lr_i hr) hKs rfl (by omega) (by omega) r4 q
    obtain ⟨S2, m1, m2, m3, m4, -⟩ := hm (cs C (mr_st V 2 0) (ms_a PR 0 (tx_e (X 0) (V 0)).2.1) (ms_a PZ 0 (mp_0 (PR 0) (PZ 0))) (ms_a X 1 (mc_fl (X 1) 2 0)) (su_b z))
    obtain ⟨m5, m6, m7⟩ := m4 q
    exact su_r_of hCM h1 m7 rfl m5 (lr_mono (lr_load hr m1 (m3 1 (by decide) (by decide) (by decide) (by decide)) m6) (by omega) hk)
  · right
    have hd := d112 (C := C) (V := V) (PR := PR) (PZ := PZ) (X := X) (σ := mm M S A (su_b z)) (Ks := Ks) hKs rfl (by omega) (by omega) r4 (by omega) (by omega)
    rw [if_neg q] at hd
    refine su_x_of hCM (f := 3) (j := 1) hd fun z => ?_
    obtain ⟨S2, m1, m2, m3, -, m4⟩ := hm (cs C V PR PZ X (su_b z))
    obtain ⟨m5, m6, m7⟩ := m4 q
    exact ⟨_, _, _, m7, m5, lr_mono (lr_side hr rfl rfl rfl (m3 1 (by decide) (by decide) (by decide) (by decide)) m6 (fun _ _ => rfl) q2 rfl rfl (fun j h _ _ => sa_ne h) (by rw [sa_eq rfl]; exact mi_mono m1 (by omega) (by omega))) (by omega) hk⟩
end SU
