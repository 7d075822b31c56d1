/-! Two searches over the same row go the same ways. -/
theorem sc_all {X : Nat → mr_R} {T : Int} : sc_T X T ↔ ∀ v, 0 ≤ v → v < 3 → X 3 (v * 5 + sg_t T v) ≠ 0 := by
  unfold sc_T
  constructor
  · rintro ⟨a, b, c⟩ v v1 v2
    have : v = 0 ∨ v = 1 ∨ v = 2 := by omega
    rcases this with rfl | rfl | rfl
    · exact a
    · exact b
    · exact c
  · intro h
    exact ⟨h 0 (by decide) (by decide), h 1 (by decide) (by decide), h 2 (by decide) (by decide)⟩
section UNI
variable {K : Int} {R : mr_R} {f : Int} {X X2 : Nat → mr_R}
theorem sc_next (hi : mi K R) (hI : sb_I R f X) {s k : Int} (h0 : 0 ≤ s) (h1 : s < 1875) (hT : sc_T X (s / 15)) (h2 : 0 ≤ k) (h3 : k < sn_w X s) (h4 : sn_x X s k ≠ -1) : sc_T X (sn_x X s k / 15) := by
  have hl := sy_live hi hI (a := s % 15) (k := k) (by omega) (by omega) h2 h3
  have hc := hi.c
  obtain ⟨b, hb⟩ : ∃ b, X 6 (s % 15 * 10 + k) = b := ⟨_, rfl⟩
  rw [hb] at hl
  unfold sn_x at h4 ⊢
  rw [hb] at h4 ⊢
  by_cases q : X 5 (s / 15 * 15 + b) = -1
  · rw [if_pos q] at h4
    exact absurd rfl h4
  · rw [if_neg q]
    by_cases q2 : b / 5 = s % 15 / 5
    · rw [if_pos q2, show (s / 15 * 15 + b) / 15 = s / 15 by omega]
      exact hT
    · rw [if_neg q2]
      obtain ⟨w, hw⟩ : ∃ w, s % 15 / 5 = w := ⟨_, rfl⟩
      rw [hw] at hl ⊢
      have ht := sg_t_bd (T := s / 15) (w := w) (by omega) (by omega)
      have e2 := hI.2.1.1 w (sg_t (s / 15) w) (by omega) (by omega) hl.1.2.1 ht.1 ht.2
      have hn := hi.w (w := w) (by omega) hl.1.2.1
      have b1 : 0 ≤ (sg_t (s / 15) w + sg_by R f w) % R (9 + 10 * w + 0) := Int.emod_nonneg _ (by omega)
      have b2 : (sg_t (s / 15) w + sg_by R f w) % R (9 + 10 * w + 0) < R (9 + 10 * w + 0) := Int.emod_lt_of_pos _ (by omega)
      have hr := sg_rep (T := s / 15) (w := w) (t := X 2 (w * 5 + sg_t (s / 15) w)) (by omega) (by omega) (by omega) (by omega) (by omega) (by omega)
      obtain ⟨T2, hT2⟩ : ∃ T2, s / 15 + (X 2 (w * 5 + sg_t (s / 15) w) - sg_t (s / 15) w) * sg_u w = T2 := ⟨_, rfl⟩
      rw [hT2] at hr ⊢
      rw [show (T2 * 15 + b) / 15 = T2 by omega]
      refine sc_all.mpr fun v v1 v2 => ?_
      have hv := sc_all.mp hT v v1 v2
      by_cases e : v = w
      · rw [e] at hv ⊢
        rw [hr.2.2.1, e2]
        exact hI.2.1.2.2.1 w _ (by omega) (by omega) hl.1.2.1 ht.1 ht.2 hv
      · rw [hr.2.2.2 v v1 v2 e]
        exact hv
theorem sp_same (hi : mi K R) (hI : sb_I R f X) (hI2 : sb_I R f X2) {T w p : Int} (hT : sc_T X T) (hT2 : sc_T X2 T) : sp_v R X2 T w p = sp_v R X T w p := by
  have hc := hi.c
  unfold sp_v
  by_cases q : 0 ≤ w ∧ w < R 0 ∧ 0 ≤ p ∧ p < R (9 + 10 * w + 0)
  · have hn := hi.w q.1 q.2.1
    have b1 : 0 ≤ (p - sg_t T w) % R (9 + 10 * w + 0) := Int.emod_nonneg _ (by omega)
    have b2 : (p - sg_t T w) % R (9 + 10 * w + 0) < R (9 + 10 * w + 0) := Int.emod_lt_of_pos _ (by omega)
    have e : X2 4 (w * 5 + (p - sg_t T w) % R (9 + 10 * w + 0)) = X 4 (w * 5 + (p - sg_t T w) % R (9 + 10 * w + 0)) := (hI2.2.2.1 _ (by omega) (by omega)).trans (hI.2.2.1 _ (by omega) (by omega)).symm
    rw [e]
    by_cases q2 : X 4 (w * 5 + (p - sg_t T w) % R (9 + 10 * w + 0)) = 1
    · rw [if_neg (fun z => z.2.2 q2), if_neg (fun z => z.2.2 q2)]
    · rw [if_pos ⟨hT2, q, q2⟩, if_pos ⟨hT, q, q2⟩]
  · rw [if_neg (fun z => q z.2.1), if_neg (fun z => q z.2.1)]
theorem uni_step (hi : mi K R) (hI : sb_I R f X) (hI2 : sb_I R f X2) {s k : Int} (h0 : 0 ≤ s) (h1 : s < 1875) (hT : sc_T X (s / 15)) (hT2 : sc_T X2 (s / 15)) (h2 : 0 ≤ k) (h3 : k < sn_w X s) (h4 : sn_x X s k ≠ -1) : ∃ k2, 0 ≤ k2 ∧ k2 < sn_w X2 s ∧ sn_x X2 s k2 = sn_x X s k := by
  have hl := sy_live hi hI (a := s % 15) (k := k) (by omega) (by omega) h2 h3
  have hc := hi.c
  obtain ⟨b, hb⟩ : ∃ b, X 6 (s % 15 * 10 + k) = b := ⟨_, rfl⟩
  have hin : sw_in X (s % 15) b := ⟨k, h2, h3, hb⟩
  obtain ⟨k2, k3, k4, k5⟩ := (hI2.1.2.1 (s % 15) b (by omega) (by omega)).mpr ((hI.1.2.1 (s % 15) b (by omega) (by omega)).mp hin)
  refine ⟨k2, k3, k4, ?_⟩
  rw [hb] at hl
  have e5 : X2 5 (s / 15 * 15 + b) = X 5 (s / 15 * 15 + b) := by
    rw [hI.2.2.2 _ (by omega) (by omega), hI2.2.2.2 _ (by omega) (by omega), show (s / 15 * 15 + b) / 15 = s / 15 by omega]
    exact sp_same hi hI hI2 hT hT2
  have ht := sg_t_bd (T := s / 15) (w := s % 15 / 5) (by omega) (by omega)
  have e2 : X2 2 (s % 15 / 5 * 5 + sg_t (s / 15) (s % 15 / 5)) = X 2 (s % 15 / 5 * 5 + sg_t (s / 15) (s % 15 / 5)) := (hI2.2.1.1 _ _ (by omega) (by omega) hl.1.2.1 ht.1 ht.2).trans (hI.2.1.1 _ _ (by omega) (by omega) hl.1.2.1 ht.1 ht.2).symm
  unfold sn_x
  rw [k5, hb, e5, e2]
theorem uni_D (hi : mi K R) (hI : sb_I R f X) (hI2 : sb_I R f X2) {s0 : Int} (h0 : 0 ≤ s0) (h1 : s0 < 1875) (hT : sc_T X (s0 / 15)) (hT2 : sc_T X2 (s0 / 15)) : ∀ (n : Nat) (v : Int), bf_D (sn_x X) (sn_w X) s0 n v → ((0 ≤ v ∧ v < 1875) ∧ sc_T X (v / 15) ∧ sc_T X2 (v / 15)) ∧ bf_D (sn_x X2) (sn_w X2) s0 n v := by
  intro n
  induction n with
  | zero =>
    intro v h
    have h : v = s0 := h
    subst h
    exact ⟨⟨⟨h0, h1⟩, hT, hT2⟩, rfl⟩
  | succ n ih =>
    rintro v ⟨r, k, a1, a2, a3, a4, rfl⟩
    obtain ⟨⟨⟨b1, b2⟩, b3, b4⟩, b5⟩ := ih r a1
    obtain ⟨k2, c1, c2, c3⟩ := uni_step hi hI hI2 b1 b2 b3 b4 a2 a3 a4
    have d := sc_next hi hI2 b1 b2 b4 c1 c2 (by rw [c3]; exact a4)
    rw [c3] at d
    exact ⟨⟨sn_bd hi hI b1 b2 a2 a3 a4, sc_next hi hI b1 b2 b3 a2 a3 a4, d⟩, ⟨r, k2, b5, c1, c2, by rw [c3]; exact a4, c3.symm⟩⟩
theorem sc_now (hi : mi K R) (h1 : 0 ≤ f) (h2 : f < R 2) (hI : sb_I R f X) : sc_T X (sg_n R f / 15) := by
  have hT := sg_T_bd hi
  have hf := hi.f h1 h2
  have hc := hi.c
  have hp := mf_place_bd hi h1 h2
  have hn := hi.w (w := R (71 + 5 * f + 1)) (by omega) (by omega)
  have e : sg_n R f / 15 = sg_T R := by
    unfold sg_n
    omega
  rw [e]
  refine sc_all.mpr fun v v1 v2 => ?_
  rw [hT.2.2 v v1 v2]
  by_cases q : v < R 0
  · rw [if_pos q, hI.2.1.2.1 v v1 v2 q]
    decide
  · rw [if_neg q, hI.2.1.2.2.2.1 v v1 v2 (by omega)]
    decide
theorem uni_L (hi : mi K R) (h1 : 0 ≤ f) (h2 : f < R 2) (hI : sb_I R f X) (hI2 : sb_I R f X2) {P : Int → Prop} {r : Int} (h : bf_L (sn_x X) (sn_w X) (sg_n R f) P r) : bf_L (sn_x X2) (sn_w X2) (sg_n R f) P r := by
  have hn := (sn_now hi h1 h2 hI).1
  have a := uni_D hi hI hI2 hn.1 hn.2 (sc_now hi h1 h2 hI) (sc_now hi h1 h2 hI2)
  have b := uni_D hi hI2 hI hn.1 hn.2 (sc_now hi h1 h2 hI2) (sc_now hi h1 h2 hI)
  rcases h with ⟨c, d⟩ | ⟨c, ⟨s, d1, d2⟩, d⟩
  · exact Or.inl ⟨c, fun n s e => d n s (b n s e).2⟩
  · exact Or.inr ⟨c, ⟨s, (a _ s d1).2, d2⟩, fun n s e => d n s (b n s e).2⟩
theorem uni_E (hi : mi K R) (hI : sb_I R f X) (hI2 : sb_I R f X2) {n : Nat} {s t : Int} {Y : mr_R} (h0 : 0 ≤ s) (h1 : s < 1875) (hT : sc_T X (s / 15)) (hT2 : sc_T X2 (s / 15)) (h : be_E (sn_x X) (sn_w X) (X 5) n s Y t) : be_E (sn_x X2) (sn_w X2) (X2 5) n s Y t := by
  refine be_sim (nx2 := sn_x X2) (nw2 := sn_w X2) (pd2 := X2 5) (ρ := fun s c => s = c ∧ (0 ≤ s ∧ s < 1875) ∧ sc_T X (s / 15) ∧ sc_T X2 (s / 15)) ?_ n s s Y t ⟨rfl, ⟨h0, h1⟩, hT, hT2⟩ h
  rintro s c k ⟨rfl, ⟨a1, a2⟩, a3, a4⟩ k1 k2 k3
  obtain ⟨k', c1, c2, c3⟩ := uni_step hi hI hI2 a1 a2 a3 a4 k1 k2 k3
  have b := sn_bd hi hI a1 a2 k1 k2 k3
  have d1 := sc_next hi hI a1 a2 a3 k1 k2 k3
  have d2 := sc_next hi hI2 a1 a2 a4 c1 c2 (by rw [c3]; exact k3)
  rw [c3] at d2
  refine ⟨k', c1, c2, by rw [c3]; exact k3, ⟨c3.symm, b, d1, d2⟩, ?_⟩
  rw [c3, hI.2.2.2 _ b.1 b.2, hI2.2.2.2 _ b.1 b.2]
  exact (sp_same hi hI hI2 d1 d2).symm
end UNI
/-- a search's rows, chosen once for a row of the pond and a frog -/
noncomputable def ux (R : mr_R) (f : Int) : Nat → mr_R := Classical.epsilon fun X => sb_I R f X
theorem ux_I {R : mr_R} {f : Int} {X : Nat → mr_R} (h : sb_I R f X) : sb_I R f (ux R f) := Classical.epsilon_spec (p := fun X => sb_I R f X) ⟨X, h⟩
/-- the fewest moves to the spot g -/
noncomputable def uf (R : mr_R) (f g : Int) : Int := Classical.epsilon fun r => bf_L (sn_x (ux R f)) (sn_w (ux R f)) (sg_n R f) (fun s => s % 15 = g) r
/-- where it could be -/
noncomputable def us (R : mr_R) (f w : Int) : Int := cb_S fun p => ∃ n v, bf_D (sn_x (ux R f)) (sn_w (ux R f)) (sg_n R f) n v ∧ v % 15 / 5 = w ∧ v % 15 % 5 = p
/-- the flies by pads -/
def uy (R : mr_R) : mr_R := fun a => R (9 + 10 * (a / 5) + 5 + a % 5)
/-- the most flies in n moves -/
noncomputable def um (R : mr_R) (f : Int) (n : Nat) : Int := Classical.epsilon fun r => be_M (sn_x (ux R f)) (sn_w (ux R f)) (ux R f 5) n (sg_n R f) (uy R) r
section UNI
variable {K : Int} {R : mr_R} {f : Int} {X : Nat → mr_R}
theorem uf_L (hi : mi K R) (h1 : 0 ≤ f) (h2 : f < R 2) (hI : sb_I R f X) {g r : Int} (h : bf_L (sn_x X) (sn_w X) (sg_n R f) (fun s => s % 15 = g) r) : r = uf R f g := by
  have a := uni_L hi h1 h2 hI (ux_I hI) h
  exact bf_L_uniq a (Classical.epsilon_spec (p := fun r => bf_L (sn_x (ux R f)) (sn_w (ux R f)) (sg_n R f) (fun s => s % 15 = g) r) ⟨r, a⟩)
theorem us_S (hi : mi K R) (h1 : 0 ≤ f) (h2 : f < R 2) (hI : sb_I R f X) (w : Int) : cb_S (fun p => ∃ n v, bf_D (sn_x X) (sn_w X) (sg_n R f) n v ∧ v % 15 / 5 = w ∧ v % 15 % 5 = p) = us R f w := by
  have hn := (sn_now hi h1 h2 hI).1
  have hJ := ux_I hI
  have a := uni_D hi hI hJ hn.1 hn.2 (sc_now hi h1 h2 hI) (sc_now hi h1 h2 hJ)
  have b := uni_D hi hJ hI hn.1 hn.2 (sc_now hi h1 h2 hJ) (sc_now hi h1 h2 hI)
  refine cb_cg fun p _ _ => ?_
  constructor
  · rintro ⟨n, v, c, d⟩
    exact ⟨n, v, (a n v c).2, d⟩
  · rintro ⟨n, v, c, d⟩
    exact ⟨n, v, (b n v c).2, d⟩
theorem um_M (hi : mi K R) (h1 : 0 ≤ f) (h2 : f < R 2) (hI : sb_I R f X) {n : Nat} {Y : mr_R} {r : Int} (hY : ∀ a, be_ok R a → Y a = R (9 + 10 * (a / 5) + 5 + a % 5)) (h : be_M (sn_x X) (sn_w X) (X 5) n (sg_n R f) Y r) : r = um R f n ∧ be_M (sn_x (ux R f)) (sn_w (ux R f)) (ux R f 5) n (sg_n R f) (uy R) r := by
  have hn := (sn_now hi h1 h2 hI).1
  have hJ := ux_I hI
  have s1 := sc_now hi h1 h2 hI
  have s2 := sc_now hi h1 h2 hJ
  have m : be_M (sn_x (ux R f)) (sn_w (ux R f)) (ux R f 5) n (sg_n R f) (uy R) r := by
    refine ⟨uni_E hi hI hJ hn.1 hn.2 s1 s2 (be_cg (be_G hi hI) n _ Y (uy R) r hn (fun a ha => hY a ha) h.1), fun t ht => h.2 t ?_⟩
    exact be_cg (be_G hi hI) n _ (uy R) Y t hn (fun a ha => (hY a ha).symm) (uni_E hi hJ hI hn.1 hn.2 s2 s1 ht)
  exact ⟨be_M_uniq m (Classical.epsilon_spec (p := fun r => be_M (sn_x (ux R f)) (sn_w (ux R f)) (ux R f 5) n (sg_n R f) (uy R) r) ⟨r, m⟩), m⟩
end UNI
