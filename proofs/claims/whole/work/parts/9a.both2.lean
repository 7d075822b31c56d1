/-! The two graphs take the same steps: there and back. -/
section BO
variable {K : Int} {R : mr_R} {X : Nat → mr_R} {f s : Int}
/-- what the model does the class does -/
theorem sz_fwd {y : Int} (hR : mi K R) (hk : K + 20 ≤ 1000000) (h8 : R 8 = 0) (hI : sb_I R f X) (hg : sm_g R f s) (h1 : 0 ≤ f) (h2 : f < R 2) (hT : sc_T X (s / 15)) (y1 : 0 ≤ y) (y2 : y < 10) (hx : sm_x R f s y ≠ -1) : sc_T X (sm_x R f s y / 15) ∧ ∃ k, 0 ≤ k ∧ k < sn_w X (sz_c R s) ∧ sn_x X (sz_c R s) k ≠ -1 ∧ sz_c R (sm_x R f s y) = sn_x X (sz_c R s) k := by
  have hz := sz_g hR hg h1 h2
  have hc := hR.c
  have hzx := fun k => sz_x (X := X) (R := R) (s := s) (k := k) ⟨hz.2.2.2.2.1, hz.2.2.2.2.2.2.2⟩
  have hb := sz_g hR (sm_gx hR hk h8 h1 h2 hg y1 y2 hx) h1 h2
  have fin : ∀ b, 0 ≤ b → b / 5 < R 0 → b % 5 < R (9 + 10 * (b / 5) + 0) → sw_in X (sm_mp R s) b → sm_x R f s y = sm_mv R f (s / 15) (s % 15 / 5) b → sc_T X (sm_x R f s y / 15) ∧ ∃ k, 0 ≤ k ∧ k < sn_w X (sz_c R s) ∧ sn_x X (sz_c R s) k ≠ -1 ∧ sz_c R (sm_x R f s y) = sn_x X (sz_c R s) k := by
    intro b b1 b2 b3 b4 b5
    obtain ⟨k, k1, k2, k3⟩ := b4
    have hm := sz_mv hR hI hg h1 h2 hT b1 b2 b3
    rw [← b5] at hm
    rcases hm with hm | hm
    · exact absurd hm.1 hx
    · refine ⟨hm.2.2, k, k1, by rw [(hzx k).2]; exact k2, ?_, ?_⟩
      · rw [(hzx k).1, k3, hm.2.1]
        unfold sz_c
        omega
      · rw [(hzx k).1, k3, hm.2.1]
  have sin := hI.1.2.1 (sm_mp R s)
  by_cases c : y < 8
  · by_cases c1 : y < R 1
    · have hl := sz_line hR y1 c1
      by_cases c2 : sy_f R y = sm_mp R s
      · refine fin (sy_o R y) hl.1.2.1 hl.1.2.2.1 hl.1.2.2.2 ?_ ?_
        · exact (sin _ hz.2.2.2.2.2.2.2.1 hz.2.2.2.2.2.2.2.2).mpr (Or.inr ⟨y, y1, c1, Or.inl ⟨c2.symm, rfl⟩⟩)
        · unfold sm_x
          rw [if_pos c, if_pos c1, if_pos c2]
      · by_cases c3 : sy_o R y = sm_mp R s
        · refine fin (sy_f R y) hl.1.1.1 hl.1.1.2.1 hl.1.1.2.2 ?_ ?_
          · exact (sin _ hz.2.2.2.2.2.2.2.1 hz.2.2.2.2.2.2.2.2).mpr (Or.inr ⟨y, y1, c1, Or.inr ⟨c3.symm, rfl⟩⟩)
          · unfold sm_x
            rw [if_pos c, if_pos c1, if_neg c2, if_pos c3]
        · refine absurd ?_ hx
          unfold sm_x
          rw [if_pos c, if_pos c1, if_neg c2, if_neg c3]
    · refine absurd ?_ hx
      unfold sm_x
      rw [if_pos c, if_neg c1]
  · obtain ⟨d, hdd⟩ : ∃ d : Int, (if y = 8 then (1 : Int) else -1) = d := ⟨_, rfl⟩
    have bd : d = 1 ∨ d = -1 := by
      by_cases e : y = 8
      · rw [if_pos e] at hdd; exact Or.inl hdd.symm
      · rw [if_neg e] at hdd; exact Or.inr hdd.symm
    have hs := sz_side (p := sm_mp R s % 5) (d := d) hR (show 0 ≤ s % 15 / 5 by omega) hz.2.1.1
    refine fin (s % 15 / 5 * 5 + (sm_mp R s % 5 + d) % R (9 + 10 * (s % 15 / 5) + 0)) hs.1 ?_ ?_ ?_ ?_
    · rw [hs.2.1]; exact hz.2.1.1
    · rw [hs.2.1, hs.2.2.1]; exact hs.2.2.2
    · refine (sin _ hz.2.2.2.2.2.2.2.1 hz.2.2.2.2.2.2.2.2).mpr (Or.inl ⟨s % 15 / 5, sm_mp R s % 5, ⟨by omega, hz.2.1.1⟩, ⟨hz.2.2.2.2.2.1, hz.2.2.2.2.2.2.1⟩, Or.inl hz.2.1.1, ?_, ?_⟩)
      · have := hz.2.2.2.2.1
        omega
      · rcases bd with e | e
        · rw [e]; exact Or.inl rfl
        · rw [e]; exact Or.inr rfl
    · unfold sm_x
      rw [if_neg c, hdd]
/-- what the class does the model does -/
theorem sz_bwd {k : Int} (hR : mi K R) (hk : K + 20 ≤ 1000000) (h8 : R 8 = 0) (hI : sb_I R f X) (hg : sm_g R f s) (h1 : 0 ≤ f) (h2 : f < R 2) (hT : sc_T X (s / 15)) (k1 : 0 ≤ k) (k2 : k < sn_w X (sz_c R s)) (hx : sn_x X (sz_c R s) k ≠ -1) : ∃ y, 0 ≤ y ∧ y < 10 ∧ sm_x R f s y ≠ -1 ∧ sz_c R (sm_x R f s y) = sn_x X (sz_c R s) k ∧ sc_T X (sm_x R f s y / 15) := by
  have hz := sz_g hR hg h1 h2
  have hc := hR.c
  have hzx := sz_x (X := X) (R := R) (s := s) (k := k) ⟨hz.2.2.2.2.1, hz.2.2.2.2.2.2.2⟩
  rw [hzx.2] at k2
  rw [hzx.1] at hx ⊢
  obtain ⟨b, hb⟩ : ∃ b, X 6 (sm_mp R s * 10 + k) = b := ⟨_, rfl⟩
  rw [hb] at hx ⊢
  have fin : ∀ y, 0 ≤ y → y < 10 → 0 ≤ b → b / 5 < R 0 → b % 5 < R (9 + 10 * (b / 5) + 0) → sm_x R f s y = sm_mv R f (s / 15) (s % 15 / 5) b → ∃ y, 0 ≤ y ∧ y < 10 ∧ sm_x R f s y ≠ -1 ∧ sz_c R (sm_x R f s y) = sz_v X (s / 15) (s % 15 / 5) b ∧ sc_T X (sm_x R f s y / 15) := by
    intro y y1 y2 b1 b2 b3 b5
    have hm := sz_mv hR hI hg h1 h2 hT b1 b2 b3
    rw [← b5] at hm
    rcases hm with hm | hm
    · exact absurd hm.2 hx
    · exact ⟨y, y1, y2, hm.1, hm.2.1.symm, hm.2.2⟩
  rcases (hI.1.2.1 (sm_mp R s) b hz.2.2.2.2.2.2.2.1 hz.2.2.2.2.2.2.2.2).mp ⟨k, k1, k2, hb⟩ with ⟨v, q, v1, q1, -, e1, e2⟩ | ⟨l, l1, l2, l3⟩
  · have hv := hR.w v1.1 v1.2
    have ev : v = s % 15 / 5 := by have := hz.2.2.2.2.1; omega
    have eq : q = sm_mp R s % 5 := by omega
    subst eq ev
    rcases e2 with e2 | e2
    · have hs := sz_side (p := sm_mp R s % 5) (d := 1) hR v1.1 v1.2
      rw [← e2] at hs
      refine fin 8 (by omega) (by omega) hs.1 (by rw [hs.2.1]; exact v1.2) (by rw [hs.2.1, hs.2.2.1]; exact hs.2.2.2) ?_
      unfold sm_x
      rw [if_neg (by omega), if_pos rfl, e2]
    · have hs := sz_side (p := sm_mp R s % 5) (d := -1) hR v1.1 v1.2
      have e3 : (sm_mp R s % 5 + -1) % R (9 + 10 * (s % 15 / 5) + 0) = (sm_mp R s % 5 - 1) % R (9 + 10 * (s % 15 / 5) + 0) := rfl
      rw [e3, ← e2] at hs
      refine fin 9 (by omega) (by omega) hs.1 (by rw [hs.2.1]; exact v1.2) (by rw [hs.2.1, hs.2.2.1]; exact hs.2.2.2) ?_
      unfold sm_x
      rw [if_neg (by omega), if_neg (by omega), e2]
      rfl
  · have hl := sz_line hR l1 l2
    rcases l3 with ⟨e1, e2⟩ | ⟨e1, e2⟩
    · refine fin l l1 (by omega) (by rw [e2]; exact hl.1.2.1) (by rw [e2]; exact hl.1.2.2.1) (by rw [e2]; exact hl.1.2.2.2) ?_
      unfold sm_x
      rw [if_pos (by omega), if_pos l2, if_pos e1.symm, e2]
    · refine fin l l1 (by omega) (by rw [e2]; exact hl.1.1.1) (by rw [e2]; exact hl.1.1.2.1) (by rw [e2]; exact hl.1.1.2.2) ?_
      unfold sm_x
      rw [if_pos (by omega), if_pos l2, if_neg (by rw [e1]; exact hl.2), if_pos e1.symm, e2]
theorem sz_D1 (hR : mi K R) (hk : K + 20 ≤ 1000000) (h8 : R 8 = 0) (hI : sb_I R f X) (hg : sm_g R f s) (h1 : 0 ≤ f) (h2 : f < R 2) (hT : sc_T X (s / 15)) : ∀ (n : Nat) (v : Int), bf_D (sm_x R f) (fun _ => 10) s n v → bf_D (sn_x X) (sn_w X) (sz_c R s) n (sz_c R v) ∧ sm_g R f v ∧ sc_T X (v / 15) := by
  intro n
  induction n with
  | zero =>
    intro v h
    rw [show v = s from h]
    exact ⟨rfl, hg, hT⟩
  | succ n ih =>
    rintro v ⟨r, y, a1, a2, a3, a4, rfl⟩
    obtain ⟨b1, b2, b3⟩ := ih r a1
    obtain ⟨c1, k, c2, c3, c4, c5⟩ := sz_fwd hR hk h8 hI b2 h1 h2 b3 a2 a3 a4
    exact ⟨⟨_, k, b1, c2, c3, c4, c5⟩, sm_gx hR hk h8 h1 h2 b2 a2 a3 a4, c1⟩
theorem sz_D2 (hR : mi K R) (hk : K + 20 ≤ 1000000) (h8 : R 8 = 0) (hI : sb_I R f X) (hg : sm_g R f s) (h1 : 0 ≤ f) (h2 : f < R 2) (hT : sc_T X (s / 15)) : ∀ (n : Nat) (u : Int), bf_D (sn_x X) (sn_w X) (sz_c R s) n u → ∃ v, bf_D (sm_x R f) (fun _ => 10) s n v ∧ u = sz_c R v ∧ sm_g R f v ∧ sc_T X (v / 15) := by
  intro n
  induction n with
  | zero =>
    intro v h
    exact ⟨s, rfl, h, hg, hT⟩
  | succ n ih =>
    rintro v ⟨r, k, a1, a2, a3, a4, rfl⟩
    obtain ⟨r2, b1, rfl, b2, b3⟩ := ih r a1
    obtain ⟨y, c1, c2, c3, c4, c5⟩ := sz_bwd hR hk h8 hI b2 h1 h2 b3 a2 a3 a4
    exact ⟨_, ⟨r2, y, b1, c1, c2, c3, rfl⟩, c4.symm, sm_gx hR hk h8 h1 h2 b2 c1 c2 c3, c5⟩
theorem sz_L {g r : Int} (hR : mi K R) (hk : K + 20 ≤ 1000000) (h8 : R 8 = 0) (hI : sb_I R f X) (hg : sm_g R f s) (h1 : 0 ≤ f) (h2 : f < R 2) (hT : sc_T X (s / 15)) (h : bf_L (sm_x R f) (fun _ => 10) s (fun v => sm_mp R v = g) r) : bf_L (sn_x X) (sn_w X) (sz_c R s) (fun u => u % 15 = g) r := by
  have em : ∀ v, sm_g R f v → sz_c R v % 15 = sm_mp R v := by
    intro v hv
    have hz := sz_g hR hv h1 h2
    exact (st_d (T := v / 15) hz.2.2.2.2.2.2.2.1 hz.2.2.2.2.2.2.2.2).2.1
  rcases h with ⟨a, b⟩ | ⟨a, ⟨v, b1, b2⟩, c⟩
  · refine Or.inl ⟨a, fun n u hu => ?_⟩
    obtain ⟨v, v1, rfl, v2, v3⟩ := sz_D2 hR hk h8 hI hg h1 h2 hT n u hu
    show ¬ sz_c R v % 15 = g
    rw [em v v2]
    exact b n v v1
  · obtain ⟨d1, d2, d3⟩ := sz_D1 hR hk h8 hI hg h1 h2 hT _ v b1
    refine Or.inr ⟨a, ⟨_, d1, (em v d2).trans b2⟩, fun n u hu hp => ?_⟩
    obtain ⟨v, v1, rfl, v2, v3⟩ := sz_D2 hR hk h8 hI hg h1 h2 hT n u hu
    exact c n v v1 ((em v v2).symm.trans hp)
theorem sz_S {w q : Int} (hR : mi K R) (hk : K + 20 ≤ 1000000) (h8 : R 8 = 0) (hI : sb_I R f X) (hg : sm_g R f s) (h1 : 0 ≤ f) (h2 : f < R 2) (hT : sc_T X (s / 15)) (q1 : 0 ≤ q) (q2 : q < 5) : (∃ n u, bf_D (sn_x X) (sn_w X) (sz_c R s) n u ∧ u % 15 / 5 = w ∧ u % 15 % 5 = q) ↔ (q < R (9 + 10 * w + 0) ∧ ∃ n v, bf_D (sm_x R f) (fun _ => 10) s n v ∧ sm_mp R v = w * 5 + q) := by
  have em : ∀ v, sm_g R f v → sz_c R v % 15 = sm_mp R v ∧ sm_mp R v / 5 = v % 15 / 5 ∧ sm_mp R v % 5 < R (9 + 10 * (v % 15 / 5) + 0) := by
    intro v hv
    have hz := sz_g hR hv h1 h2
    exact ⟨(st_d (T := v / 15) hz.2.2.2.2.2.2.2.1 hz.2.2.2.2.2.2.2.2).2.1, hz.2.2.2.2.1, hz.2.2.2.2.2.2.1⟩
  constructor
  · rintro ⟨n, u, a1, a2, a3⟩
    obtain ⟨v, v1, rfl, v2, v3⟩ := sz_D2 hR hk h8 hI hg h1 h2 hT n u a1
    obtain ⟨e1, e2, e3⟩ := em v v2
    rw [e1] at a2 a3
    rw [← e2, a2, a3] at e3
    exact ⟨e3, n, v, v1, by omega⟩
  · rintro ⟨-, n, v, v1, v2⟩
    obtain ⟨d1, d2, d3⟩ := sz_D1 hR hk h8 hI hg h1 h2 hT _ v v1
    obtain ⟨e1, e2, e3⟩ := em v d2
    exact ⟨n, _, d1, by rw [e1]; omega, by rw [e1]; omega⟩
end BO
