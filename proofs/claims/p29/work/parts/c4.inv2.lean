/-! What is true of a pond's state between the law's calls. -/
def hok : mr_R → List mr_R → Prop
  | _, [] => True
  | c, e :: h => (2 ≤ e 0 ∨ c 3 ≤ 1) ∧ hok e h
def gG (K : Int) (Y : gy) : Prop := (gq K Y.1 ∧ 2 ≤ Y.1 0) ∧ (∀ R, R ∈ Y.2.1 → gq K R) ∧ (∀ i R, Y.2.2 i = some R → gq K R ∧ 2 ≤ R 0) ∧ hok Y.1 Y.2.1 ∧ (Y.2.1.length : Int) ≤ 14
theorem hok_take : ∀ (n : Nat) (c : mr_R) (h : List mr_R), hok c h → hok c (h.take n)
  | 0, _, _, _ => by rw [List.take_zero]; trivial
  | n + 1, c, [], h => h
  | n + 1, c, e :: t, h => ⟨h.1, hok_take n e t h.2⟩
section GG
variable {K : Int} {Y : gy} {N : mr_R}
theorem gG.mono {K2 : Int} (h : gG K Y) (h1 : K ≤ K2) (h2 : K2 ≤ 1000000) : gG K2 Y :=
  ⟨⟨gq_mono h.1.1 h1 h2, h.1.2⟩, fun R hR => gq_mono (h.2.1 R hR) h1 h2, fun i R hR => ⟨gq_mono (h.2.2.1 i R hR).1 h1 h2, (h.2.2.1 i R hR).2⟩, h.2.2.2⟩
theorem gG.gk (h : gG K Y) (hk : K ≤ 100000) : gk Y :=
  ⟨mi_mono h.1.1.1 hk (by decide), fun R hR => mi_mono (h.2.1 R hR).1 hk (by decide), fun i R hR => mi_mono (h.2.2.1 i R hR).1.1 hk (by decide)⟩
theorem gG.i (h : gG K Y) : mi K Y.1 := h.1.1.1
theorem gG_ga (h : gG K Y) {K2 : Int} (h1 : K ≤ K2) (h2 : K2 ≤ 1000000) (hN : gq K2 N) (hN0 : 2 ≤ N 0) : gG K2 (ga Y N) := by
  have g := h.mono h1 h2
  have e : (ga Y N).2.1 = Y.1 :: Y.2.1.take 13 := rfl
  refine ⟨⟨hN, hN0⟩, ?_, g.2.2.1, ?_, ?_⟩
  · intro R hR
    rw [e] at hR
    rcases List.mem_cons.mp hR with q | q
    · rw [q]
      exact g.1.1
    · exact g.2.1 R (List.mem_of_mem_take q)
  · rw [e]
    exact ⟨Or.inl h.1.2, hok_take 13 _ _ h.2.2.2.1⟩
  · rw [e, List.length_cons, List.length_take]
    omega
theorem gG_gu (h : gG K Y) (h3 : 2 ≤ Y.1 3) (hl : (Y.2.1.length : Int) ≠ 0) : gG K (gu Y) := by
  obtain ⟨R0, ⟨hh, S⟩⟩ := Y
  cases hh with
  | nil => exact absurd rfl hl
  | cons e t =>
    obtain ⟨a, b, c, d, l⟩ := h
    have d1 : 2 ≤ e 0 ∨ R0 3 ≤ 1 := d.1
    have h3 : 2 ≤ R0 3 := h3
    have l : ((e :: t).length : Int) ≤ 14 := l
    rw [List.length_cons] at l
    exact ⟨⟨b e List.mem_cons_self, by show 2 ≤ e 0; omega⟩, fun R hR => b R (List.mem_cons_of_mem _ hR), c, d.2, by show (t.length : Int) ≤ 14; omega⟩
theorem gG_gv (h : gG K Y) (i : Nat) : gG K (gv Y i) := by
  refine ⟨h.1, h.2.1, fun j R hR => ?_, h.2.2.2⟩
  have hR : (if j = i then some Y.1 else Y.2.2 j) = some R := hR
  split at hR
  · cases hR
    exact h.1
  · exact h.2.2.1 j R hR
theorem gG_gt (h : gG K Y) (i : Nat) (hi : (Y.2.2 i).isSome = true) : gG K (gt Y i) := by
  obtain ⟨R, hR⟩ := Option.isSome_iff_exists.mp hi
  have hx := h.2.2.1 i R hR
  have e : (gt Y i).1 = R := by
    show (Y.2.2 i).getD _ = R
    rw [hR]
    rfl
  exact ⟨by rw [e]; exact hx, (fun R hR => nomatch hR), h.2.2.1, trivial, by show ((0 : Nat) : Int) ≤ 14; omega⟩
theorem gG_qq (h : gG K Y) {K2 : Int} (h1 : K ≤ K2) (h2 : K2 ≤ 1000000) {F v : Int} {Y2 : gy} (hY : F = 0 → gG K2 Y2) : gG K2 (qq F v Y2 Y).2.1 := by
  unfold qq
  split
  · exact hY (by assumption)
  · exact h.mono h1 h2
/-- the latest thing done, undone -/
def gz1 (Y : gy) : gy := (Y.1, (Y.2.1.take 13, Y.2.2))
theorem gu_ga : gu (ga Y N) = gz1 Y := rfl
theorem gG_1 (h : gG K Y) : gG K (gz1 Y) := by
  refine ⟨h.1, fun R hR => h.2.1 R (List.mem_of_mem_take hR), h.2.2.1, hok_take 13 _ _ h.2.2.2.1, ?_⟩
  show ((Y.2.1.take 13).length : Int) ≤ 14
  rw [List.length_take]
  omega
theorem f123_0 {R : mr_R} {f s : Int} (q : f123 R f s = 0) : (0 ≤ f ∧ f < R 2) ∧ (s = 1 ∨ s = -1) := by
  unfold f123 at q
  split at q
  · omega
  · rename_i c
    split at q
    · exact ⟨Classical.not_not.mp c, by assumption⟩
    · omega
theorem f122_0 {R : mr_R} {f l : Int} (q : f122 R f l = 0) : (0 ≤ f ∧ f < R 2) ∧ (0 ≤ l ∧ l < R 1) := by
  unfold f122 at q
  split at q
  · assumption
  · omega
theorem q123_G {f s : Int} (h : gG K Y) (hk : K + 20 ≤ 1000000) : gG (K + 20) (q123 Y f s).2.1 := by
  refine gG_qq h (by omega) hk fun q => ?_
  have q := f123_0 q
  have g := gq_hop (s := s) h.1.1 hk q.1.1 q.1.2
  have h2 := h.1.2
  exact gG_ga h (by omega) hk g.1 (by omega)
theorem q122_G {f l : Int} (h : gG K Y) (hk : K + 20 ≤ 1000000) : gG (K + 20) (q122 Y f l).2.1 := by
  refine gG_qq h (by omega) hk fun q => ?_
  have q := f122_0 q
  have g := gq_leap h.1.1 hk q.1.1 q.1.2 q.2.1 q.2.2
  have h2 := h.1.2
  exact gG_ga h (by omega) hk g.1 (by omega)
theorem aq_G {x : Int} (h : gG K Y) (hk : K + 20 ≤ 1000000) : gG (K + 20) (aq Y x).2.1 := by
  have hi := h.i
  have hc := hi.c
  have h2 := h.1.2
  have hq := h.1.1
  have w1 : 0 ≤ x / 16 % Y.1 0 ∧ x / 16 % Y.1 0 < Y.1 0 := ⟨Int.emod_nonneg _ (by omega), Int.emod_lt_of_pos _ (by omega)⟩
  unfold aq
  (repeat' split)
  · refine gG_qq h (by omega) hk fun q => ?_
    have q := mf_fW_0 q
    have g := gq_wheel hq q.1 q.2
    exact gG_ga h (by omega) hk (gq_mono g.1 (by omega) hk) (by omega)
  · refine gG_qq h (by omega) hk fun q => ?_
    have g := gq_line hq (mf_fL_0 q)
    exact gG_ga h (by omega) hk (gq_mono g.1 (by omega) hk) (by omega)
  · refine gG_qq h (by omega) hk fun q => ?_
    have q := mf_fF_0 q
    have g := gq_frog hq q.1 q.2
    exact gG_ga h (by omega) hk (gq_mono g.1 (by omega) hk) (by omega)
  · refine gG_qq h (by omega) hk fun q => ?_
    have q := mf_fY_0 q
    have g := gq_bring (p := x / 16 / 3 % 5) hq (by omega) q.1.1 q.1.2.1 (show 0 ≤ 1 + x / 16 / 15 % 9 by omega) q.2.2
    exact gG_ga h (by omega) hk (gq_mono g.1 (by omega) hk) (by omega)
  · refine gG_qq h (by omega) hk fun q => ?_
    have q := mf_fT_0 q
    have g := gq_turn (k := x / 16 / 3 % 9 - 4) hq q.1.1 q.1.2
    exact gG_ga h (by omega) hk (gq_mono g.1 (by omega) hk) (by omega)
  · refine gG_qq h (by omega) hk fun q => ?_
    have g := gq_set (v := x / 16 % 2) hq (by omega) (by omega)
    exact gG_ga h (by omega) hk (gq_mono g.1 (by omega) hk) (by omega)
  · exact h.mono (by omega) hk
  · refine gG_qq h (by omega) hk fun q => ?_
    refine (gG_gu h (by omega) fun e => ?_).mono (by omega) hk
    unfold f126 at q
    rw [if_pos e] at q
    exact absurd q (by decide)
  · refine gG_qq h (by omega) hk fun q => ?_
    exact (gG_gv h _).mono (by omega) hk
  · refine gG_qq h (by omega) hk fun q => ?_
    refine (gG_gt h _ ?_).mono (by omega) hk
    unfold f134 at q
    rw [if_pos (by omega)] at q
    refine Classical.byContradiction fun c => ?_
    rw [if_neg c] at q
    exact absurd q (by decide)
  all_goals first | exact q123_G h hk | exact q122_G h hk
end GG
