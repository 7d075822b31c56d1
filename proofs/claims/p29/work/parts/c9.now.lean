/-! The first step of a search. -/
section NOW
variable {K : Int} {R : mr_R} {f : Int} {X : Nat → mr_R}
theorem ex_X (hi : mi K R) (h1 : 0 ≤ f) (h2 : f < R 2) : sb_I R f (ux R f) := by
  obtain ⟨X2, -, h, -⟩ := c57 (C := 0) (V := fun _ => 0) (PR := fun _ => R) (PZ := fun _ _ => 0) (X := fun _ _ => 0) (σ := su_b 0) hi h1 h2
  exact ux_I h
/-- the places a move may lead to -/
def nb (R : mr_R) (f b : Int) : Prop := (b = R (71 + 5 * f + 1) * 5 + (mf_place R f + 1) % R (9 + 10 * R (71 + 5 * f + 1) + 0) ∨ b = R (71 + 5 * f + 1) * 5 + (mf_place R f - 1) % R (9 + 10 * R (71 + 5 * f + 1) + 0)) ∨ ∃ l, (0 ≤ l ∧ l < R 1) ∧ mf_away R f l ≠ -1 ∧ b = R (39 + 4 * l + 2 * mf_away R f l) * 5 + R (39 + 4 * l + 2 * mf_away R f l + 1)
theorem now_eq (hi : mi K R) (h1 : 0 ≤ f) (h2 : f < R 2) : sg_n R f / 15 = sg_T R ∧ sg_n R f % 15 = R (71 + 5 * f + 1) * 5 + mf_place R f := by
  have hf := hi.f h1 h2
  have hp := mf_place_bd hi h1 h2
  have hc := hi.c
  have hw := hi.w (w := R (71 + 5 * f + 1)) (by omega) (by omega)
  unfold sg_n
  omega
theorem now_x5 (hi : mi K R) (hI : sb_I R f X) {T v q : Int} (hT : 0 ≤ T ∧ T < 125) (hs : sc_T X T) (v1 : 0 ≤ v) (v2 : v < R 0) (q1 : 0 ≤ q) (q2 : q < R (9 + 10 * v + 0)) (ht : sg_t T v = R (9 + 10 * v + 3)) : X 5 (T * 15 + (v * 5 + q)) = if mf_on R v (mf_pad R v q) = -1 ∨ mf_on R v (mf_pad R v q) = f then v * 5 + mf_pad R v q else -1 := by
  have hc := hi.c
  have hw := hi.w v1 v2
  have hd := mf_pad_bd q (show 0 < R (9 + 10 * v + 0) by omega)
  rw [hI.2.2.2 _ (by omega) (by omega), show (T * 15 + (v * 5 + q)) / 15 = T by omega, show (T * 15 + (v * 5 + q)) % 15 / 5 = v by omega, show (T * 15 + (v * 5 + q)) % 5 = q by omega]
  unfold sp_v
  rw [ht]
  show @ite _ (sc_T X T ∧ (0 ≤ v ∧ v < R 0 ∧ 0 ≤ q ∧ q < R (9 + 10 * v + 0)) ∧ ¬ X 4 (v * 5 + mf_pad R v q) = 1) (Classical.propDecidable _) (v * 5 + mf_pad R v q) (-1) = _
  rw [hI.2.2.1 _ (by omega) (by omega)]
  unfold sk_v
  rw [show (v * 5 + mf_pad R v q) / 5 = v by omega, show (v * 5 + mf_pad R v q) % 5 = mf_pad R v q by omega]
  by_cases c : mf_on R v (mf_pad R v q) = -1 ∨ mf_on R v (mf_pad R v q) = f
  · rw [if_pos c, if_pos c, if_pos ⟨hs, ⟨v1, v2, q1, q2⟩, by decide⟩]
  · rw [if_neg c, if_neg c, if_neg fun z => z.2.2 rfl]
theorem now_in (hi : mi K R) (h1 : 0 ≤ f) (h2 : f < R 2) (hI : sb_I R f X) {b : Int} : sw_in X (R (71 + 5 * f + 1) * 5 + mf_place R f) b ↔ nb R f b := by
  have hf := hi.f h1 h2
  have hp := mf_place_bd hi h1 h2
  have hc := hi.c
  have hw := hi.w (w := R (71 + 5 * f + 1)) (by omega) (by omega)
  rw [hI.1.2.1 _ b (by omega) (by omega)]
  unfold nb
  refine or_congr ?_ ?_
  · constructor
    · rintro ⟨v, q, ⟨v1, v2⟩, ⟨q1, q2⟩, -, e, h⟩
      have hv := hi.w v1 v2
      have ev : v = R (71 + 5 * f + 1) := by omega
      have eq : q = mf_place R f := by omega
      rw [ev, eq] at h
      exact h
    · intro h
      exact ⟨R (71 + 5 * f + 1), mf_place R f, ⟨by omega, by omega⟩, ⟨by omega, by omega⟩, Or.inl (by omega), rfl, h⟩
  · constructor
    · rintro ⟨l, l1, l2, h⟩
      have hl := hi.l l1 l2
      have hw0 := hi.w (w := R (39 + 4 * l + 0)) (by omega) (by omega)
      have hw2 := hi.w (w := R (39 + 4 * l + 2)) (by omega) (by omega)
      refine ⟨l, ⟨l1, l2⟩, ?_⟩
      unfold sy_f sy_o at h
      rcases h with ⟨a, b⟩ | ⟨a, b⟩
      · have e : mf_away R f l = 1 := if_pos ⟨by omega, by omega⟩
        rw [e, show 39 + 4 * l + 2 * 1 = 39 + 4 * l + 2 by omega, show 39 + 4 * l + 2 + 1 = 39 + 4 * l + 3 by omega]
        exact ⟨by decide, b⟩
      · have e : mf_away R f l = 0 := by
          unfold mf_away
          rw [if_neg (by omega), if_pos ⟨by omega, by omega⟩]
        rw [e, show 39 + 4 * l + 2 * 0 = 39 + 4 * l + 0 by omega, show 39 + 4 * l + 0 + 1 = 39 + 4 * l + 1 by omega]
        exact ⟨by decide, b⟩
    · rintro ⟨l, ⟨l1, l2⟩, h, e⟩
      refine ⟨l, l1, l2, ?_⟩
      unfold mf_away at h e
      unfold sy_f sy_o
      by_cases q : R (39 + 4 * l + 0) = R (71 + 5 * f + 1) ∧ R (39 + 4 * l + 1) = mf_place R f
      · rw [if_pos q, show 39 + 4 * l + 2 * 1 = 39 + 4 * l + 2 by omega, show 39 + 4 * l + 2 + 1 = 39 + 4 * l + 3 by omega] at e
        exact Or.inl ⟨by omega, e⟩
      · rw [if_neg q] at h e
        by_cases q2 : R (39 + 4 * l + 2) = R (71 + 5 * f + 1) ∧ R (39 + 4 * l + 3) = mf_place R f
        · rw [if_pos q2, show 39 + 4 * l + 2 * 0 = 39 + 4 * l + 0 by omega, show 39 + 4 * l + 0 + 1 = 39 + 4 * l + 1 by omega] at e
          exact Or.inr ⟨by omega, e⟩
        · rw [if_neg q2] at h
          exact absurd rfl h
/-- where a move leads: a place of the pond, another than the frog's -/
theorem nb_ok (hi : mi K R) (h1 : 0 ≤ f) (h2 : f < R 2) {b : Int} (h : nb R f b) : (0 ≤ b / 5 ∧ b / 5 < R 0) ∧ (0 ≤ b % 5 ∧ b % 5 < R (9 + 10 * (b / 5) + 0)) ∧ b ≠ R (71 + 5 * f + 1) * 5 + mf_place R f := by
  have hf := hi.f h1 h2
  have hp := mf_place_bd hi h1 h2
  have hc := hi.c
  have hw := hi.w (w := R (71 + 5 * f + 1)) (by omega) (by omega)
  obtain ⟨w, ew⟩ : ∃ w, R (71 + 5 * f + 1) = w := ⟨_, rfl⟩
  obtain ⟨p, ep⟩ : ∃ p, mf_place R f = p := ⟨_, rfl⟩
  unfold nb at h
  rcases h with h | ⟨l, ⟨l1, l2⟩, h, e⟩
  · rw [ew, ep] at h
    rw [ew] at hf hp hw
    rw [ep] at hp
    rw [ew, ep]
    obtain ⟨n, en⟩ : ∃ n, R (9 + 10 * w + 0) = n := ⟨_, rfl⟩
    rw [en] at h hp hw
    have hn : n = 3 ∨ n = 4 ∨ n = 5 := by omega
    have key : ∃ q, (0 ≤ q ∧ q < n) ∧ q ≠ p ∧ b = w * 5 + q := by
      rcases h with h | h
      · refine ⟨(p + 1) % n, ?_, ?_, h⟩ <;> rcases hn with e | e | e <;> subst e <;> omega
      · refine ⟨(p - 1) % n, ?_, ?_, h⟩ <;> rcases hn with e | e | e <;> subst e <;> omega
    obtain ⟨q, q1, q2, q3⟩ := key
    have e5 : b / 5 = w := by omega
    rw [e5, en]
    omega
  · have he := mf_end hi l1 l2 h
    have ho := mf_away_or R f l
    have hl := hi.l l1 l2
    have hv := hi.w he.1.1 he.1.2
    have ne : R (39 + 4 * l + 2 * mf_away R f l) ≠ R (71 + 5 * f + 1) := by
      by_cases q : R (39 + 4 * l + 0) = R (71 + 5 * f + 1) ∧ R (39 + 4 * l + 1) = mf_place R f
      · have e : mf_away R f l = 1 := if_pos q
        rw [e, show 39 + 4 * l + 2 * 1 = 39 + 4 * l + 2 by omega]
        omega
      · by_cases q2 : R (39 + 4 * l + 2) = R (71 + 5 * f + 1) ∧ R (39 + 4 * l + 3) = mf_place R f
        · have e : mf_away R f l = 0 := by
            unfold mf_away
            rw [if_neg q, if_pos q2]
          rw [e, show 39 + 4 * l + 2 * 0 = 39 + 4 * l + 0 by omega]
          omega
        · exact absurd (by unfold mf_away; rw [if_neg q, if_neg q2]) h
    obtain ⟨v, ev⟩ : ∃ v, R (39 + 4 * l + 2 * mf_away R f l) = v := ⟨_, rfl⟩
    rw [ev] at he hv ne e
    have e5 : b / 5 = v := by omega
    rw [e5]
    omega
theorem nb_free (hi : mi K R) (h1 : 0 ≤ f) (h2 : f < R 2) {b : Int} (h : nb R f b) : mf_on R (b / 5) (mf_pad R (b / 5) (b % 5)) ≠ f := by
  intro e
  have hb := nb_ok hi h1 h2 h
  have q : mf_on R (b / 5) (mf_pad R (b / 5) (b % 5)) ≠ -1 := by omega
  have ha := mf_on_at hi q
  have hp := on_place hi hb.1.1 hb.1.2 hb.2.1.1 hb.2.1.2 q
  rw [e] at hp ha
  exact hb.2.2 (by rw [hp, ha.2.2.1]; omega)
theorem now_nx (hi : mi K R) (h1 : 0 ≤ f) (h2 : f < R 2) (hI : sb_I R f X) {k b : Int} (k1 : 0 ≤ k) (k2 : k < sn_w X (sg_n R f)) (hb : X 6 (sg_n R f % 15 * 10 + k) = b) :
    nb R f b ∧ (mf_on R (b / 5) (mf_pad R (b / 5) (b % 5)) ≠ -1 → sn_x X (sg_n R f) k = -1) ∧ (mf_on R (b / 5) (mf_pad R (b / 5) (b % 5)) = -1 → sn_x X (sg_n R f) k ≠ -1 ∧ sn_x X (sg_n R f) k % 15 = b ∧ X 5 (sn_x X (sg_n R f) k) = b / 5 * 5 + mf_pad R (b / 5) (b % 5)) := by
  have hn := now_eq hi h1 h2
  have hnb : nb R f b := by
    rw [← now_in hi h1 h2 hI, ← hn.2]
    exact ⟨k, k1, k2, hb⟩
  have ok := nb_ok hi h1 h2 hnb
  have fr := nb_free hi h1 h2 hnb
  have hs := sc_now hi h1 h2 hI
  have hT := sg_T_bd hi
  have hc := hi.c
  rw [hn.1] at hs
  have tb : sg_t (sg_T R) (b / 5) = R (9 + 10 * (b / 5) + 3) := by
    rw [hT.2.2 _ ok.1.1 (by omega), if_pos ok.1.2]
  have e5 : b / 5 * 5 + b % 5 = b := by omega
  have x5 := now_x5 hi hI ⟨hT.1, hT.2.1⟩ hs ok.1.1 ok.1.2 ok.2.1.1 ok.2.1.2 tb
  rw [e5] at x5
  have hpb := mf_pad_bd (b % 5) (show 0 < R (9 + 10 * (b / 5) + 0) by omega)
  refine ⟨hnb, fun q => ?_, fun q => ?_⟩
  · rw [if_neg (fun z => z.elim q fr)] at x5
    unfold sn_x
    rw [hn.1, hb, x5, if_pos rfl]
  · rw [if_pos (Or.inl q)] at x5
    have hbd : 0 ≤ sg_n R f ∧ sg_n R f < 1875 := (sn_now hi h1 h2 hI).1
    have nx : ∃ T2, (0 ≤ T2 ∧ T2 < 125) ∧ sn_x X (sg_n R f) k = T2 * 15 + b ∧ sg_t T2 (b / 5) = R (9 + 10 * (b / 5) + 3) := by
      unfold sn_x
      rw [hn.1, hb, x5, if_neg (by omega)]
      by_cases q2 : b / 5 = sg_n R f % 15 / 5
      · rw [if_pos q2]
        exact ⟨sg_T R, ⟨hT.1, hT.2.1⟩, rfl, tb⟩
      · rw [if_neg q2]
        have hf := hi.f h1 h2
        have hp := mf_place_bd hi h1 h2
        have hw := hi.w (w := R (71 + 5 * f + 1)) (by omega) (by omega)
        have ew : sg_n R f % 15 / 5 = R (71 + 5 * f + 1) := by omega
        rw [ew] at q2 ⊢
        have ht := sg_t_bd (T := sg_T R) (w := R (71 + 5 * f + 1)) (by omega) (by omega)
        have e2 := hI.2.1.1 (R (71 + 5 * f + 1)) (sg_t (sg_T R) (R (71 + 5 * f + 1))) (by omega) (by omega) (by omega) ht.1 ht.2
        have m1 : 0 ≤ X 2 (R (71 + 5 * f + 1) * 5 + sg_t (sg_T R) (R (71 + 5 * f + 1))) := by rw [e2]; exact Int.emod_nonneg _ (by omega)
        have m2 : X 2 (R (71 + 5 * f + 1) * 5 + sg_t (sg_T R) (R (71 + 5 * f + 1))) < R (9 + 10 * R (71 + 5 * f + 1) + 0) := by rw [e2]; exact Int.emod_lt_of_pos _ (by omega)
        have hr := sg_rep (T := sg_T R) (w := R (71 + 5 * f + 1)) (t := X 2 (R (71 + 5 * f + 1) * 5 + sg_t (sg_T R) (R (71 + 5 * f + 1)))) hT.1 hT.2.1 (by omega) (by omega) m1 (by omega)
        exact ⟨_, ⟨hr.1, hr.2.1⟩, rfl, (hr.2.2.2 _ ok.1.1 (by omega) q2).trans tb⟩
    obtain ⟨T2, t1, t2, t3⟩ := nx
    have nm : sn_x X (sg_n R f) k ≠ -1 := by omega
    have s2 := sc_next hi hI hbd.1 hbd.2 (by rw [hn.1]; exact hs) k1 k2 nm
    rw [t2, show (T2 * 15 + b) / 15 = T2 by omega] at s2
    have x52 := now_x5 hi hI t1 s2 ok.1.1 ok.1.2 ok.2.1.1 ok.2.1.2 t3
    rw [e5, if_pos (Or.inl q), ← t2] at x52
    exact ⟨nm, by omega, x52⟩
/-- a leap that can be made leads there in one move -/
theorem uf_one (hi : mi K R) (h1 : 0 ≤ f) (h2 : f < R 2) {b : Int} (h : nb R f b) (q : mf_on R (b / 5) (mf_pad R (b / 5) (b % 5)) = -1) : uf R f b = 1 := by
  have hI := ex_X hi h1 h2
  have hn := now_eq hi h1 h2
  have ok := nb_ok hi h1 h2 h
  obtain ⟨k, k1, k2, hb⟩ := (now_in hi h1 h2 hI).mpr h
  rw [← hn.2] at k2 hb
  have nx := (now_nx hi h1 h2 hI k1 k2 hb).2.2 q
  refine (uf_L hi h1 h2 hI (g := b) (r := 1) (Or.inr ⟨by decide, ⟨sn_x (ux R f) (sg_n R f) k, ⟨sg_n R f, k, rfl, k1, k2, nx.1, rfl⟩, nx.2.1⟩, fun n s hs hP => ?_⟩)).symm
  cases n with
  | zero =>
    have hs : s = sg_n R f := hs
    subst hs
    rw [hn.2] at hP
    exact absurd hP.symm ok.2.2
  | succ n => omega
end NOW
