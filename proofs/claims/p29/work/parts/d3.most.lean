/-! The most flies. -/
section MOST
variable {K : Int} {R : mr_R} {f : Int}
theorem be_up {nx : Int → Int → Int} {nw pd : Int → Int} : ∀ (n : Nat) (s : Int) (Y : mr_R) (t : Int), be_E nx nw pd n s Y t → be_E nx nw pd (n + 1) s Y t := by
  intro n
  induction n with
  | zero => exact fun s Y t h => Or.inl h
  | succ n ih =>
    rintro s Y t (h | ⟨j, t', a, b, c, d, e⟩)
    · exact Or.inl h
    · exact Or.inr ⟨j, t', a, b, c, ih _ _ _ d, e⟩
theorem be_0 {nx : Int → Int → Int} {nw pd : Int → Int} {n : Nat} {s : Int} {Y : mr_R} : be_E nx nw pd n s Y 0 := by
  cases n with
  | zero => exact rfl
  | succ n => exact Or.inl rfl
theorem um_ok (hi : mi K R) (h1 : 0 ≤ f) (h2 : f < R 2) {n : Int} (n1 : 1 ≤ n) (n2 : n ≤ 4) : (0 ≤ um R f n.toNat ∧ um R f n.toNat ≤ 36) ∧ be_M (sn_x (ux R f)) (sn_w (ux R f)) (ux R f 5) n.toNat (sg_n R f) (uy R) (um R f n.toNat) := by
  obtain ⟨r, X0, Y, a1, a2, a3, a4, a5, a6⟩ := c130 (C := 0) (V := fun _ => 0) (PR := fun _ => R) (PZ := fun _ _ => 0) (X := fun _ _ => 0) (σ := su_b 0) hi h1 h2 n1 n2
  have h := um_M hi h1 h2 a1 a4 a3
  rw [h.1] at a5 h
  exact ⟨a5, h.2⟩
theorem um_up (hi : mi K R) (h1 : 0 ≤ f) (h2 : f < R 2) {n : Int} (n1 : 1 ≤ n) (n2 : n ≤ 3) : um R f n.toNat ≤ um R f (n + 1).toNat := by
  have a := (um_ok hi h1 h2 (n := n) n1 (by omega)).2.1
  have b := (um_ok hi h1 h2 (n := n + 1) (by omega) (by omega)).2.2
  refine b _ ?_
  rw [show (n + 1).toNat = n.toNat + 1 by omega]
  exact be_up _ _ _ _ a
/-- all flies of the pads -/
def sY (R Y : mr_R) : Int := t5 (R 0) (fun w => t5 5 (fun k => Y (w * 5 + k)))
theorem sY_st (hi : mi K R) {Y : mr_R} {a : Int} (ha : be_ok R a) : sY R (mr_st Y a 0) = sY R Y - Y a := by
  have hc := hi.c
  obtain ⟨a0, a1, a2⟩ := ha
  have e : sY R Y = t5 (R 0) (fun w => t5 5 (fun k => mr_st Y a 0 (w * 5 + k)) + (if w = a / 5 then Y a else 0)) := by
    refine t5_cg fun w w0 w1 => ?_
    by_cases q : w = a / 5
    · have e1 : t5 5 (fun k => Y (w * 5 + k)) = t5 5 (fun k => mr_st Y a 0 (w * 5 + k) + (if k = a % 5 then Y a else 0)) := by
        refine t5_cg fun k k0 k1 => ?_
        by_cases q2 : k = a % 5
        · rw [ms_eq (by omega), if_pos q2, show w * 5 + k = a by omega]
          omega
        · rw [ms_ne (by omega), if_neg q2]
          omega
      rw [e1, t5_add, if_pos q, t5_one (m := 5) (e := a % 5) (g := fun k => if k = a % 5 then Y a else 0) (by omega) (by omega) (by omega) (fun k _ _ ke => if_neg ke), if_pos rfl]
    · have e1 : t5 5 (fun k => Y (w * 5 + k)) = t5 5 (fun k => mr_st Y a 0 (w * 5 + k)) := t5_cg fun k k0 k1 => (ms_ne (by omega)).symm
      rw [e1, if_neg q]
      omega
  rw [e, t5_add, t5_one (e := a / 5) (g := fun w => if w = a / 5 then Y a else 0) (by omega) a2 (by omega) (fun w _ _ we => if_neg we), if_pos rfl]
  show sY R (mr_st Y a 0) = sY R (mr_st Y a 0) + Y a - Y a
  omega
theorem sY_uy (hi : mi K R) : sY R (uy R) = mf_flA R := by
  have hc := hi.c
  rw [sw_flA (by omega) (by omega), sw_t5 hi]
  refine t5_cg fun w w0 w1 => ?_
  have e : t5 5 (fun k => uy R (w * 5 + k)) = t5 5 (fun k => R (9 + 10 * w + 5 + k)) := by
    refine t5_cg fun k k0 k1 => ?_
    unfold uy
    rw [show (w * 5 + k) / 5 = w by omega, show (w * 5 + k) % 5 = k by omega]
  rw [e]
  unfold t5 mf_fly
  dsimp only
  rw [if_pos (by decide), if_pos (by decide), if_pos (by decide), if_pos (by decide), if_pos (by decide), show 9 + 10 * w + 5 + 0 = 9 + 10 * w + 5 by omega, show 9 + 10 * w + 5 + 1 = 9 + 10 * w + 6 by omega, show 9 + 10 * w + 5 + 2 = 9 + 10 * w + 7 by omega, show 9 + 10 * w + 5 + 3 = 9 + 10 * w + 8 by omega, show 9 + 10 * w + 5 + 4 = 9 + 10 * w + 9 by omega]
  omega
theorem be_sum (hi : mi K R) {X : Nat → mr_R} (hI : sb_I R f X) : ∀ (n : Nat) (s : Int) (Y : mr_R) (t : Int), (0 ≤ s ∧ s < 1875) → (∀ a, be_ok R a → 0 ≤ Y a) → be_E (sn_x X) (sn_w X) (X 5) n s Y t → t ≤ sY R Y := by
  have hc := hi.c
  have hz : ∀ Y : mr_R, (∀ a, be_ok R a → 0 ≤ Y a) → 0 ≤ sY R Y := fun Y hY => t5_le fun w w0 w1 => t5_le fun k k0 k1 => hY _ ⟨by omega, by omega, by omega⟩
  intro n
  induction n with
  | zero =>
    intro s Y t hs hY h
    have h : t = 0 := h
    rw [h]
    exact hz Y hY
  | succ n ih =>
    intro s Y t hs hY h
    rcases h with h | ⟨j, t', a, b, c, d, e⟩
    · rw [h]
      exact hz Y hY
    · have g := be_G hi hI s j hs a b c
      have h2 := ih _ _ t' g.1 (fun k k0 => by
        by_cases q : k = X 5 (sn_x X s j)
        · rw [ms_eq q]
          decide
        · rw [ms_ne q]
          exact hY k k0) d
      rw [sY_st hi g.2] at h2
      omega
theorem um_all (hi : mi K R) (h1 : 0 ≤ f) (h2 : f < R 2) {n : Int} (n1 : 1 ≤ n) (n2 : n ≤ 4) : um R f n.toNat ≤ mf_flA R := by
  have hI := ex_X hi h1 h2
  have a := (um_ok hi h1 h2 n1 n2).2.1
  rw [← sY_uy hi]
  refine be_sum hi hI n.toNat _ _ _ (sn_now hi h1 h2 hI).1 (fun a a0 => ?_) a
  unfold uy
  exact (hi.y (w := a / 5) (k := a % 5) (by have := a0.1; omega) a0.2.2 (by omega) (by omega)).1
/-- the flies on the pad below a place -/
def fl (R : mr_R) (b : Int) : Int := R (9 + 10 * (b / 5) + 5 + mf_pad R (b / 5) (b % 5))
theorem be_1 (hi : mi K R) (h1 : 0 ≤ f) (h2 : f < R 2) {t : Int} : be_E (sn_x (ux R f)) (sn_w (ux R f)) (ux R f 5) 1 (sg_n R f) (uy R) t ↔ (t = 0 ∨ ∃ b, nb R f b ∧ mf_on R (b / 5) (mf_pad R (b / 5) (b % 5)) = -1 ∧ t = fl R b) := by
  have hI := ex_X hi h1 h2
  have hn := now_eq hi h1 h2
  have key : ∀ b, nb R f b → ∀ s, ux R f 5 s = b / 5 * 5 + mf_pad R (b / 5) (b % 5) → uy R (ux R f 5 s) = fl R b := by
    intro b hb s hs
    have ok := nb_ok hi h1 h2 hb
    have hw := hi.w ok.1.1 ok.1.2
    have hp := mf_pad_bd (b % 5) (show 0 < R (9 + 10 * (b / 5) + 0) by omega)
    rw [hs]
    unfold uy fl
    rw [show (b / 5 * 5 + mf_pad R (b / 5) (b % 5)) / 5 = b / 5 by omega, show (b / 5 * 5 + mf_pad R (b / 5) (b % 5)) % 5 = mf_pad R (b / 5) (b % 5) by omega]
  constructor
  · rintro (h | ⟨j, t', a, b, c, d, e⟩)
    · exact Or.inl h
    · have d : t' = 0 := d
      have nx := now_nx hi h1 h2 hI a b rfl
      have q : mf_on R (ux R f 6 (sg_n R f % 15 * 10 + j) / 5) (mf_pad R (ux R f 6 (sg_n R f % 15 * 10 + j) / 5) (ux R f 6 (sg_n R f % 15 * 10 + j) % 5)) = -1 := by
        refine Classical.byContradiction fun z => c (nx.2.1 z)
      refine Or.inr ⟨_, nx.1, q, ?_⟩
      rw [e, d, key _ nx.1 _ (nx.2.2 q).2.2, Int.add_zero]
  · rintro (h | ⟨b, hb, q, e⟩)
    · exact Or.inl h
    · obtain ⟨k, k1, k2, k3⟩ := (now_in hi h1 h2 hI).mpr hb
      rw [← hn.2] at k2 k3
      have nx := now_nx hi h1 h2 hI k1 k2 k3
      refine Or.inr ⟨k, 0, k1, k2, (nx.2.2 q).1, rfl, ?_⟩
      rw [key b hb _ (nx.2.2 q).2.2, Int.add_zero]
      exact e
theorem um_one (hi : mi K R) (h1 : 0 ≤ f) (h2 : f < R 2) {t : Int} (a : t = 0 ∨ ∃ b, nb R f b ∧ mf_on R (b / 5) (mf_pad R (b / 5) (b % 5)) = -1 ∧ t = fl R b) (a0 : 0 ≤ t) (b : ∀ b, nb R f b → mf_on R (b / 5) (mf_pad R (b / 5) (b % 5)) = -1 → fl R b ≤ t) : um R f 1 = t := by
  have h := (um_ok hi h1 h2 (n := 1) (by decide) (by decide)).2
  have h : be_M (sn_x (ux R f)) (sn_w (ux R f)) (ux R f 5) 1 (sg_n R f) (uy R) (um R f 1) := h
  have x := h.2 t ((be_1 hi h1 h2).mpr a)
  have y := (be_1 hi h1 h2).mp h.1
  rcases y with y | ⟨c, c1, c2, c3⟩
  · omega
  · have := b c c1 c2
    omega
end MOST
