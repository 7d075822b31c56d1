/-! What is true of every row: sums over frogs, over flies, counts. -/
def sv (R : mr_R) (k : Int) : Int := (if 0 < R 2 then R (71 + k) else 0) + (if 1 < R 2 then R (76 + k) else 0) + (if 2 < R 2 then R (81 + k) else 0) + (if 3 < R 2 then R (86 + k) else 0) + (if 4 < R 2 then R (91 + k) else 0)
def sw (R : mr_R) : Int := (if 0 < R 0 then mf_fly R 0 else 0) + (if 1 < R 0 then mf_fly R 1 else 0) + (if 2 < R 0 then mf_fly R 2 else 0)
section SUMS
variable {R : mr_R} {j v k f w p : Int}
theorem sv_st (h : j ≠ 2) (h2 : j < 71 ∨ 96 ≤ j ∨ (j - 71) % 5 ≠ k) (k0 : 0 ≤ k) (k4 : k ≤ 4) : sv (mr_st R j v) k = sv R k := by
  unfold sv
  rw [ms_ne (i := 2) (by omega), ms_ne (i := 71 + k) (by omega), ms_ne (i := 76 + k) (by omega), ms_ne (i := 81 + k) (by omega), ms_ne (i := 86 + k) (by omega), ms_ne (i := 91 + k) (by omega)]
theorem sv_at (h1 : 0 ≤ f) (h2 : f < R 2) (h3 : R 2 ≤ 5) (k0 : 0 ≤ k) (k4 : k ≤ 4) : sv (mr_st R (71 + 5 * f + k) v) k = sv R k + (v - R (71 + 5 * f + k)) := by
  have hf : f = 0 ∨ f = 1 ∨ f = 2 ∨ f = 3 ∨ f = 4 := by omega
  unfold sv
  rcases hf with e | e | e | e | e <;> subst e
  · rw [ms_ne (i := 2) (by omega), ms_eq (i := 71 + k) (by omega), ms_ne (i := 76 + k) (by omega), ms_ne (i := 81 + k) (by omega), ms_ne (i := 86 + k) (by omega), ms_ne (i := 91 + k) (by omega), show 71 + 5 * 0 + k = 71 + k by omega]
    (repeat' split) <;> omega
  · rw [ms_ne (i := 2) (by omega), ms_ne (i := 71 + k) (by omega), ms_eq (i := 76 + k) (by omega), ms_ne (i := 81 + k) (by omega), ms_ne (i := 86 + k) (by omega), ms_ne (i := 91 + k) (by omega), show 71 + 5 * 1 + k = 76 + k by omega]
    (repeat' split) <;> omega
  · rw [ms_ne (i := 2) (by omega), ms_ne (i := 71 + k) (by omega), ms_ne (i := 76 + k) (by omega), ms_eq (i := 81 + k) (by omega), ms_ne (i := 86 + k) (by omega), ms_ne (i := 91 + k) (by omega), show 71 + 5 * 2 + k = 81 + k by omega]
    (repeat' split) <;> omega
  · rw [ms_ne (i := 2) (by omega), ms_ne (i := 71 + k) (by omega), ms_ne (i := 76 + k) (by omega), ms_ne (i := 81 + k) (by omega), ms_eq (i := 86 + k) (by omega), ms_ne (i := 91 + k) (by omega), show 71 + 5 * 3 + k = 86 + k by omega]
    (repeat' split) <;> omega
  · rw [ms_ne (i := 2) (by omega), ms_ne (i := 71 + k) (by omega), ms_ne (i := 76 + k) (by omega), ms_ne (i := 81 + k) (by omega), ms_ne (i := 86 + k) (by omega), ms_eq (i := 91 + k) (by omega), show 71 + 5 * 4 + k = 91 + k by omega]
    (repeat' split) <;> omega
theorem sfl_st (h2 : j < 14 ∨ 39 ≤ j ∨ (j - 9) % 10 < 5) (h3 : 0 ≤ w) (h4 : w ≤ 2) : mf_fly (mr_st R j v) w = mf_fly R w := by
  unfold mf_fly
  rw [ms_ne (i := 9 + 10 * w + 5) (by omega), ms_ne (i := 9 + 10 * w + 6) (by omega), ms_ne (i := 9 + 10 * w + 7) (by omega), ms_ne (i := 9 + 10 * w + 8) (by omega), ms_ne (i := 9 + 10 * w + 9) (by omega)]
theorem sfl_ne {w2 : Int} (h2 : w2 ≠ w) (h : 0 ≤ p) (h1 : p < 5) : mf_fly (mr_st R (9 + 10 * w2 + 5 + p) v) w = mf_fly R w := by
  unfold mf_fly
  rw [ms_ne (i := 9 + 10 * w + 5) (by omega), ms_ne (i := 9 + 10 * w + 6) (by omega), ms_ne (i := 9 + 10 * w + 7) (by omega), ms_ne (i := 9 + 10 * w + 8) (by omega), ms_ne (i := 9 + 10 * w + 9) (by omega)]
theorem sfl_at (h : 0 ≤ p) (h1 : p < 5) : mf_fly (mr_st R (9 + 10 * w + 5 + p) v) w = mf_fly R w + (v - R (9 + 10 * w + 5 + p)) := by
  have hf : p = 0 ∨ p = 1 ∨ p = 2 ∨ p = 3 ∨ p = 4 := by omega
  unfold mf_fly
  rcases hf with e | e | e | e | e <;> subst e
  · rw [ms_eq (i := 9 + 10 * w + 5) (by omega), ms_ne (i := 9 + 10 * w + 6) (by omega), ms_ne (i := 9 + 10 * w + 7) (by omega), ms_ne (i := 9 + 10 * w + 8) (by omega), ms_ne (i := 9 + 10 * w + 9) (by omega), show 9 + 10 * w + 5 + 0 = 9 + 10 * w + 5 by omega]
    omega
  · rw [ms_ne (i := 9 + 10 * w + 5) (by omega), ms_eq (i := 9 + 10 * w + 6) (by omega), ms_ne (i := 9 + 10 * w + 7) (by omega), ms_ne (i := 9 + 10 * w + 8) (by omega), ms_ne (i := 9 + 10 * w + 9) (by omega), show 9 + 10 * w + 5 + 1 = 9 + 10 * w + 6 by omega]
    omega
  · rw [ms_ne (i := 9 + 10 * w + 5) (by omega), ms_ne (i := 9 + 10 * w + 6) (by omega), ms_eq (i := 9 + 10 * w + 7) (by omega), ms_ne (i := 9 + 10 * w + 8) (by omega), ms_ne (i := 9 + 10 * w + 9) (by omega), show 9 + 10 * w + 5 + 2 = 9 + 10 * w + 7 by omega]
    omega
  · rw [ms_ne (i := 9 + 10 * w + 5) (by omega), ms_ne (i := 9 + 10 * w + 6) (by omega), ms_ne (i := 9 + 10 * w + 7) (by omega), ms_eq (i := 9 + 10 * w + 8) (by omega), ms_ne (i := 9 + 10 * w + 9) (by omega), show 9 + 10 * w + 5 + 3 = 9 + 10 * w + 8 by omega]
    omega
  · rw [ms_ne (i := 9 + 10 * w + 5) (by omega), ms_ne (i := 9 + 10 * w + 6) (by omega), ms_ne (i := 9 + 10 * w + 7) (by omega), ms_ne (i := 9 + 10 * w + 8) (by omega), ms_eq (i := 9 + 10 * w + 9) (by omega), show 9 + 10 * w + 5 + 4 = 9 + 10 * w + 9 by omega]
    omega
theorem sw_st (h : j ≠ 0) (h2 : j < 14 ∨ 39 ≤ j ∨ (j - 9) % 10 < 5) : sw (mr_st R j v) = sw R := by
  unfold sw
  rw [ms_ne (i := 0) (by omega), sfl_st h2 (by decide) (by decide), sfl_st h2 (by decide) (by decide), sfl_st h2 (by decide) (by decide)]
theorem sw_at (h0 : 0 ≤ w) (h2 : w < R 0) (h3 : R 0 ≤ 3) (h : 0 ≤ p) (h1 : p < 5) : sw (mr_st R (9 + 10 * w + 5 + p) v) = sw R + (v - R (9 + 10 * w + 5 + p)) := by
  have hf : w = 0 ∨ w = 1 ∨ w = 2 := by omega
  unfold sw
  rw [ms_ne (i := 0) (by omega)]
  rcases hf with e | e | e <;> subst e
  · rw [sfl_at h h1, sfl_ne (by decide) h h1, sfl_ne (by decide) h h1]
    (repeat' split) <;> omega
  · rw [sfl_ne (by decide) h h1, sfl_at h h1, sfl_ne (by decide) h h1]
    (repeat' split) <;> omega
  · rw [sfl_ne (by decide) h h1, sfl_ne (by decide) h h1, sfl_at h h1]
    (repeat' split) <;> omega
theorem sw_flA (h0 : 0 ≤ R 0) (h3 : R 0 ≤ 3) : mf_flA R = sw R := by
  have hf : R 0 = 0 ∨ R 0 = 1 ∨ R 0 = 2 ∨ R 0 = 3 := by omega
  unfold mf_flA sw
  rcases hf with e | e | e | e <;> rw [e] <;> simp [mf_flF]
end SUMS
/-- what is true of a row; a, b: what is still to be counted -/
def gxa (a b : Int) (R : mr_R) : Prop := (sv R 4 = R 3 ∧ sv R 3 = R 4) ∧ (sw R + R 4 + R 5 + b = R 6 ∧ R 3 ≤ R 6) ∧ (∀ w, 0 ≤ w → w < R 0 → R (9 + 10 * w + 4) ≤ R 3 + a) ∧ (R 7 = 0 ↔ R 3 = 0)
section KEEP
variable {K a b : Int} {R : mr_R} {j v f w p n : Int}
theorem gxa_free (h : gxa a b R) (h3 : R 0 ≤ 3) (hj : j = 1 ∨ j = 8 ∨ 39 ≤ j ∧ j < 71 ∨ (9 ≤ j ∧ j < 39 ∧ (j - 9) % 10 < 4) ∨ (71 ≤ j ∧ j < 96 ∧ (j - 71) % 5 < 3)) : gxa a b (mr_st R j v) := by
  unfold gxa at h ⊢
  rw [sv_st (by omega) (by omega) (by omega) (by omega), sv_st (by omega) (by omega) (by omega) (by omega), sw_st (by omega) (by omega), ms_ne (i := 3) (by omega), ms_ne (i := 4) (by omega), ms_ne (i := 5) (by omega), ms_ne (i := 6) (by omega), ms_ne (i := 0) (by omega), ms_ne (i := 7) (by omega)]
  refine ⟨h.1, h.2.1, fun w w0 w1 => ?_, h.2.2.2⟩
  rw [ms_ne (by omega)]
  exact h.2.2.1 w w0 w1
theorem gxa_eat (h : gxa a b R) (h2 : R 2 ≤ 5) (h3 : R 0 ≤ 3) (a1 : 0 ≤ f) (a2 : f < R 2) : gxa a (b - n) (mg_eat R f n) := by
  have e2 : mr_st R 4 (R 4 + n) 2 = R 2 := ms_ne (by omega)
  have s := sv_at (R := mr_st R 4 (R 4 + n)) (v := R (71 + 5 * f + 3) + n) (k := 3) a1 (by omega) (by omega) (by omega) (by omega)
  rw [ms_ne (i := 71 + 5 * f + 3) (by omega), sv_st (j := 4) (by omega) (by omega) (by omega) (by omega)] at s
  unfold mg_eat
  unfold gxa at h ⊢
  rw [s, sv_st (j := 71 + 5 * f + 3) (by omega) (by omega) (by omega) (by omega), sv_st (j := 4) (by omega) (by omega) (by omega) (by omega), sw_st (by omega) (by omega), sw_st (by omega) (by omega)]
  simp (disch := omega) only [ms_ne, ms_eq]
  exact ⟨⟨h.1.1, by omega⟩, ⟨by omega, h.2.1.2⟩, h.2.2.1, h.2.2.2⟩
theorem gxa_fly (h : gxa a b R) (h3 : R 0 ≤ 3) (w0 : 0 ≤ w) (w1 : w < R 0) (p0 : 0 ≤ p) (p1 : p < 5) : gxa a (b - (v - R (9 + 10 * w + 5 + p))) (mr_st R (9 + 10 * w + 5 + p) v) := by
  have s := sw_at (v := v) w0 w1 h3 p0 p1
  unfold gxa at h ⊢
  rw [s, sv_st (by omega) (by omega) (by omega) (by omega), sv_st (by omega) (by omega) (by omega) (by omega)]
  simp (disch := omega) only [ms_ne, ms_eq]
  exact ⟨h.1, ⟨by omega, h.2.1.2⟩, h.2.2.1, h.2.2.2⟩
theorem gxa_sit (h : gxa a b R) (hi : mi K R) (a1 : 0 ≤ f) (a2 : f < R 2) (w0 : 0 ≤ w) (w1 : w < R 0) : gxa a b (mg_sit R f w p) := by
  have hc := hi.c
  have hp := mf_pad_bd p (show 0 < R (9 + 10 * w + 0) by have := hi.w w0 w1; omega)
  have hw := hi.w w0 w1
  unfold mg_sit mg_seat
  generalize mf_pad R w p = d at *
  have g1 := gxa_free (j := 71 + 5 * f + 1) (v := w) h (by omega) (by omega)
  have g2 := gxa_free (j := 71 + 5 * f + 2) (v := d) g1 (by rw [ms_ne (by omega)]; omega) (by omega)
  have g3 := gxa_eat (f := f) (n := R (9 + 10 * w + 5 + d)) g2 (by simp (disch := omega) only [ms_ne]; omega) (by simp (disch := omega) only [ms_ne]; omega) a1 (by simp (disch := omega) only [ms_ne]; omega)
  have g4 := gxa_fly (w := w) (p := d) (v := 0) g3 (by unfold mg_eat; simp (disch := omega) only [ms_ne]; omega) w0 (by unfold mg_eat; simp (disch := omega) only [ms_ne]; omega) (by omega) (by omega)
  have e : mg_eat (mr_st (mr_st R (71 + 5 * f + 1) w) (71 + 5 * f + 2) d) f (R (9 + 10 * w + 5 + d)) (9 + 10 * w + 5 + d) = R (9 + 10 * w + 5 + d) := by
    unfold mg_eat
    simp (disch := omega) only [ms_ne]
  rw [e, show b - R (9 + 10 * w + 5 + d) - (0 - R (9 + 10 * w + 5 + d)) = b by omega] at g4
  exact g4
theorem gxa_mono (h : gxa a b R) {a2 : Int} (h2 : a ≤ a2) : gxa a2 b R := ⟨h.1, h.2.1, fun w w0 w1 => by have := h.2.2.1 w w0 w1; omega, h.2.2.2⟩
theorem gxa_turn (h : gxa a b R) (h3 : R 0 ≤ 3) (w0 : 0 ≤ w) (w1 : w < R 0) {k : Int} : gxa a b (mg_turn R w k) := gxa_free h h3 (by omega)
theorem gxa_left (h : gxa 0 b R) (h3 : R 0 ≤ 3) (w0 : 0 ≤ w) (w1 : w < R 0) : gxa 1 b (mg_left R w) := by
  have g := gxa_turn h h3 w0 w1 (k := R (9 + 10 * w + 1))
  have hw := h.2.2.1 w w0 w1
  unfold mg_left
  have e0 : mg_turn R w (R (9 + 10 * w + 1)) 0 = R 0 := ms_ne (by omega)
  have e3 : mg_turn R w (R (9 + 10 * w + 1)) 3 = R 3 := ms_ne (by omega)
  generalize mg_turn R w (R (9 + 10 * w + 1)) = T at *
  unfold gxa at g ⊢
  rw [sv_st (by omega) (by omega) (by omega) (by omega), sv_st (by omega) (by omega) (by omega) (by omega), sw_st (by omega) (by omega)]
  simp (disch := omega) only [ms_ne, ms_eq]
  refine ⟨g.1, g.2.1, fun v w2 w3 => ?_, g.2.2.2⟩
  by_cases q : v = w
  · subst q
    rw [ms_eq rfl]
    omega
  · rw [ms_ne (by omega)]
    have := g.2.2.1 v w2 w3
    omega
theorem gxa_leave (h : gxa 0 b R) (h3 : R 0 ≤ 3) (w0 : 0 ≤ w) (w1 : w < R 0) : gxa 1 b (mg_leave R w) := by
  unfold mg_leave
  split
  · exact gxa_left h h3 w0 w1
  · exact gxa_mono h (by omega)
theorem gxa_count (h : gxa 1 b R) (h3 : R 0 ≤ 3) (h2 : R 2 ≤ 5) (h4 : 0 ≤ R 3) (a1 : 0 ≤ f) (a2 : f < R 2) : gxa 0 (b + 1) (mg_count R f) := by
  have s := sv_at (R := mr_st (mr_st R 3 (R 3 + 1)) 7 (f + 1)) (v := R (71 + 5 * f + 4) + 1) (k := 4) a1 (by simp (disch := omega) only [ms_ne]; omega) (by simp (disch := omega) only [ms_ne]; omega) (by omega) (by omega)
  rw [ms_ne (i := 71 + 5 * f + 4) (by omega), ms_ne (i := 71 + 5 * f + 4) (by omega), sv_st (j := 7) (by omega) (by omega) (by omega) (by omega), sv_st (j := 3) (by omega) (by omega) (by omega) (by omega)] at s
  unfold mg_count
  unfold gxa at h ⊢
  rw [sv_st (j := 6) (by omega) (by omega) (by omega) (by omega), s, sv_st (j := 6) (by omega) (by omega) (by omega) (by omega), sv_st (j := 71 + 5 * f + 4) (by omega) (by omega) (by omega) (by omega), sv_st (j := 7) (by omega) (by omega) (by omega) (by omega), sv_st (j := 3) (by omega) (by omega) (by omega) (by omega), sw_st (by omega) (by omega), sw_st (by omega) (by omega), sw_st (by omega) (by omega), sw_st (by omega) (by omega)]
  simp (disch := omega) only [ms_ne, ms_eq]
  refine ⟨⟨by omega, h.1.2⟩, ⟨by omega, by omega⟩, fun w w0 w1 => ?_, by omega⟩
  simp (disch := omega) only [ms_ne, ms_eq]
  have := h.2.2.1 w w0 w1
  omega
theorem gxa_off (h : gxa a b R) (h3 : R 0 ≤ 3) : gxa a (b - n) (mr_st R 5 (R 5 + n)) := by
  unfold gxa at h ⊢
  rw [sv_st (by omega) (by omega) (by omega) (by omega), sv_st (by omega) (by omega) (by omega) (by omega), sw_st (by omega) (by omega)]
  simp (disch := omega) only [ms_ne, ms_eq]
  exact ⟨h.1, ⟨by omega, h.2.1.2⟩, h.2.2.1, h.2.2.2⟩
theorem gxa_came (h : gxa a b R) (h3 : R 0 ≤ 3) (n0 : 0 ≤ n) : gxa a (b + n) (mr_st R 6 (R 6 + n)) := by
  unfold gxa at h ⊢
  rw [sv_st (by omega) (by omega) (by omega) (by omega), sv_st (by omega) (by omega) (by omega) (by omega), sw_st (by omega) (by omega)]
  simp (disch := omega) only [ms_ne, ms_eq]
  exact ⟨h.1, ⟨by omega, by omega⟩, h.2.2.1, h.2.2.2⟩
theorem gxa_flyc (h : gxa a 1 R) (hi : mi K R) (w0 : 0 ≤ w) (w1 : w < R 0) (p0 : 0 ≤ p) (p1 : p < 5) : gxa a 0 (mg_fly R w p) := by
  have hc := hi.c
  unfold mg_fly
  by_cases q : mf_on R w p = -1
  · rw [if_pos q]
    split
    · have g := gxa_fly (v := R (9 + 10 * w + 5 + p) + 1) h (by omega) w0 w1 p0 p1
      rwa [show 1 - (R (9 + 10 * w + 5 + p) + 1 - R (9 + 10 * w + 5 + p)) = 0 by omega] at g
    · exact gxa_off (n := 1) h (by omega)
  · rw [if_neg q]
    have ho := mf_on_at hi q
    exact gxa_eat (n := 1) h (by omega) (by omega) ho.1 ho.2.1
theorem gxa_behind (h : gxa 1 0 R) (hi : mi K R) (hk : K + 2 ≤ 1000000) (h0 : 0 < R 0) (a1 : 0 ≤ f) (a2 : f < R 2) : gxa 0 0 (mg_behind R f) := by
  have hc := hi.c
  have g := gxa_count h (by omega) (by omega) (by omega) a1 a2
  have hi2 := mi_count hi a1 a2 (by omega)
  have e0 : mg_count R f 0 = R 0 := by unfold mg_count; simp (disch := omega) only [ms_ne]
  unfold mg_behind mg_comes
  have b1 : 0 ≤ mg_count R f 3 % mg_count R f 0 := Int.emod_nonneg _ (by omega)
  have b2 : mg_count R f 3 % mg_count R f 0 < mg_count R f 0 := Int.emod_lt_of_pos _ (by omega)
  have hw := hi2.w b1 b2
  have hp := mf_pad_bd (mg_count R f 3 % mg_count R f (9 + 10 * (mg_count R f 3 % mg_count R f 0) + 0)) (show 0 < mg_count R f (9 + 10 * (mg_count R f 3 % mg_count R f 0) + 0) by omega)
  exact gxa_flyc g hi2 b1 b2 (by omega) (by omega)
theorem mi_big (hi : mi K R) : 0 ≤ K := by
  have := hi.c
  omega
theorem mgx_sit_0 (hi : mi K R) (a1 : 0 ≤ f) (w0 : 0 ≤ w) (w1 : w < R 0) : mg_sit R f w p 0 = R 0 ∧ mg_sit R f w p 2 = R 2 := by
  have hw := hi.w w0 w1
  have hp := mf_pad_bd p (show 0 < R (9 + 10 * w + 0) by omega)
  have hc := hi.c
  unfold mg_sit mg_seat mg_eat
  constructor <;> simp (disch := omega) only [ms_ne]
theorem mgx_leave_0 (w0 : 0 ≤ w) : mg_leave R w 0 = R 0 ∧ mg_leave R w 2 = R 2 := by
  unfold mg_leave mg_left mg_turn
  split
  · constructor <;> simp (disch := omega) only [ms_ne]
  · exact ⟨rfl, rfl⟩
theorem mgx_behind_0 (hi : mi K R) (hk : K + 2 ≤ 1000000) (h0 : 0 < R 0) (a1 : 0 ≤ f) (a2 : f < R 2) : mg_behind R f 0 = R 0 ∧ mg_behind R f 2 = R 2 := by
  have hc := hi.c
  have hi2 := mi_count hi a1 a2 (by omega)
  have e0 : mg_count R f 0 = R 0 ∧ mg_count R f 2 = R 2 := by unfold mg_count; constructor <;> simp (disch := omega) only [ms_ne]
  unfold mg_behind mg_comes
  have b1 : 0 ≤ mg_count R f 3 % mg_count R f 0 := Int.emod_nonneg _ (by omega)
  have b2 : mg_count R f 3 % mg_count R f 0 < mg_count R f 0 := Int.emod_lt_of_pos _ (by omega)
  have hw := hi2.w b1 b2
  have hp := mf_pad_bd (mg_count R f 3 % mg_count R f (9 + 10 * (mg_count R f 3 % mg_count R f 0) + 0)) (show 0 < mg_count R f (9 + 10 * (mg_count R f 3 % mg_count R f 0) + 0) by omega)
  generalize mf_pad (mg_count R f) _ _ = d at *
  generalize mg_count R f 3 % mg_count R f 0 = v at *
  generalize mg_count R f = T at *
  unfold mg_fly
  by_cases q : mf_on T v d = -1
  · rw [if_pos q]
    split
    · rw [ms_ne (by omega), ms_ne (by omega)]
      exact e0
    · rw [ms_ne (by omega), ms_ne (by omega)]
      exact e0
  · rw [if_neg q]
    have ho := mf_on_at hi2 q
    unfold mg_eat
    simp (disch := omega) only [ms_ne]
    exact e0
/-- what is true of every row -/
def gq (K : Int) (R : mr_R) : Prop := mi K R ∧ gxa 0 0 R
theorem gq_mono {K2 : Int} (h : gq K R) (h1 : K ≤ K2) (h2 : K2 ≤ 1000000) : gq K2 R := ⟨mi_mono h.1 h1 h2, h.2⟩
theorem gq_leap {l : Int} (h : gq K R) (hk : K + 20 ≤ 1000000) (a1 : 0 ≤ f) (a2 : f < R 2) (l1 : 0 ≤ l) (l2 : l < R 1) : gq (K + 20) (mg_leap R f l) ∧ mg_leap R f l 0 = R 0 := by
  refine ⟨⟨mi_leap h.1 a1 a2 l1 l2 hk, ?_⟩, ?_⟩
  · unfold mg_leap
    by_cases q : mf_why R f l = 0
    · rw [if_pos q]
      have hi := h.1
      have hc := hi.c
      have hf := hi.f a1 a2
      have he := mf_end hi l1 l2 (mf_why_0 q).1
      have hj := mi_jump1 hi a1 a2 l1 l2 q (by omega)
      have e := mgx_sit_0 (f := f) (p := R (39 + 4 * l + 2 * mf_away R f l + 1)) hi a1 he.1.1 he.1.2
      have g := gxa_sit (f := f) (p := R (39 + 4 * l + 2 * mf_away R f l + 1)) h.2 hi a1 a2 he.1.1 he.1.2
      have g2 := gxa_leave (w := R (71 + 5 * f + 1)) g (by omega) (by omega) (by omega)
      have e2 := mgx_leave_0 (R := mg_sit R f (R (39 + 4 * l + 2 * mf_away R f l)) (R (39 + 4 * l + 2 * mf_away R f l + 1))) (w := R (71 + 5 * f + 1)) (by omega)
      have hj2 := mi_jump hi a1 a2 l1 l2 q (by omega)
      unfold mg_jump at hj2 ⊢
      exact gxa_behind g2 hj2 (by omega) (by omega) a1 (by omega)
    · rw [if_neg q]
      exact h.2
  · unfold mg_leap
    by_cases q : mf_why R f l = 0
    · rw [if_pos q]
      have hi := h.1
      have hc := hi.c
      have hf := hi.f a1 a2
      have he := mf_end hi l1 l2 (mf_why_0 q).1
      have e := mgx_sit_0 (f := f) (p := R (39 + 4 * l + 2 * mf_away R f l + 1)) hi a1 he.1.1 he.1.2
      have e2 := mgx_leave_0 (R := mg_sit R f (R (39 + 4 * l + 2 * mf_away R f l)) (R (39 + 4 * l + 2 * mf_away R f l + 1))) (w := R (71 + 5 * f + 1)) (by omega)
      have hj2 := mi_jump hi a1 a2 l1 l2 q (by omega)
      unfold mg_jump at hj2 ⊢
      have e3 := mgx_behind_0 hj2 (by omega) (by omega) a1 (by omega)
      omega
    · rw [if_neg q]
theorem gq_hop {s : Int} (h : gq K R) (hk : K + 20 ≤ 1000000) (a1 : 0 ≤ f) (a2 : f < R 2) : gq (K + 20) (mg_hop R f s) ∧ mg_hop R f s 0 = R 0 := by
  have hi := h.1
  have hc := hi.c
  have hf := hi.f a1 a2
  refine ⟨⟨mi_hop hi a1 a2 hk, ?_⟩, ?_⟩
  · unfold mg_hop
    by_cases q : mf_hwhy R f s = 0
    · rw [if_pos q]
      have e := mgx_sit_0 (f := f) (w := R (71 + 5 * f + 1)) (p := (mf_place R f + s) % R (9 + 10 * R (71 + 5 * f + 1) + 0)) hi a1 (by omega) (by omega)
      have g := gxa_sit (f := f) (w := R (71 + 5 * f + 1)) (p := (mf_place R f + s) % R (9 + 10 * R (71 + 5 * f + 1) + 0)) h.2 hi a1 a2 (by omega) (by omega)
      have hj := mi_step hi a1 a2 q (by omega)
      unfold mg_step at hj ⊢
      exact gxa_behind (gxa_mono g (by omega)) hj (by omega) (by omega) a1 (by omega)
    · rw [if_neg q]
      exact h.2
  · unfold mg_hop
    by_cases q : mf_hwhy R f s = 0
    · rw [if_pos q]
      have e := mgx_sit_0 (f := f) (w := R (71 + 5 * f + 1)) (p := (mf_place R f + s) % R (9 + 10 * R (71 + 5 * f + 1) + 0)) hi a1 (by omega) (by omega)
      have hj := mi_step hi a1 a2 q (by omega)
      unfold mg_step at hj ⊢
      have e3 := mgx_behind_0 hj (by omega) (by omega) a1 (by omega)
      omega
    · rw [if_neg q]
theorem gq_wheel {no s : Int} (h : gq K R) (q : (3 ≤ n ∧ n ≤ 5) ∧ (-4 ≤ no ∧ no ≤ 4) ∧ (0 ≤ s ∧ s ≤ 30)) (h3 : R 0 < 3) : gq K (mg_wheel R n no s) ∧ mg_wheel R n no s 0 = R 0 + 1 ∧ mg_wheel R n no s 3 = R 3 := by
  have hi := h.1
  have hc := hi.c
  refine ⟨⟨mi_wheel hi q h3, ?_⟩, ?_⟩
  · have hx := h.2
    unfold gxa at hx ⊢
    have e0 : sw (mg_wheel R n no s) = sw R := by
      have hf : R 0 = 0 ∨ R 0 = 1 ∨ R 0 = 2 := by omega
      unfold sw mf_fly mg_wheel mg_zero
      rcases hf with e | e | e <;> rw [e] <;> simp (disch := omega) only [ms_ne, ms_eq] <;> simp
    have e1 : ∀ j, 1 ≤ j → j < 9 ∨ 39 ≤ j → mg_wheel R n no s j = R j := by
      intro j j1 j2
      unfold mg_wheel mg_zero
      simp (disch := omega) only [ms_ne, ms_eq]
    have e2 : ∀ k, 0 ≤ k → sv (mg_wheel R n no s) k = sv R k := by
      intro k k0
      unfold sv
      rw [e1 2 (by decide) (by decide), e1 (71 + k) (by omega) (by omega), e1 (76 + k) (by omega) (by omega), e1 (81 + k) (by omega) (by omega), e1 (86 + k) (by omega) (by omega), e1 (91 + k) (by omega) (by omega)]
    rw [e0, e2 4 (by decide), e2 3 (by decide), e1 3 (by decide) (by decide), e1 4 (by decide) (by decide), e1 5 (by decide) (by decide), e1 6 (by decide) (by decide), e1 7 (by decide) (by decide)]
    refine ⟨hx.1, hx.2.1, fun w w0 w1 => ?_, hx.2.2.2⟩
    have e3 : mg_wheel R n no s 0 = R 0 + 1 := ms_eq rfl
    by_cases qw : w = R 0
    · have : mg_wheel R n no s (9 + 10 * w + 4) = 0 := by
        rw [qw]
        unfold mg_wheel mg_zero
        simp (disch := omega) only [ms_ne, ms_eq]
      omega
    · have : mg_wheel R n no s (9 + 10 * w + 4) = R (9 + 10 * w + 4) := by
        unfold mg_wheel mg_zero
        simp (disch := omega) only [ms_ne, ms_eq]
      rw [this]
      exact hx.2.2.1 w w0 (by omega)
  · unfold mg_wheel mg_zero
    constructor <;> simp (disch := omega) only [ms_ne, ms_eq]
theorem gq_line {w2 p2 : Int} (h : gq K R) (q : (0 ≤ w ∧ w < R 0 ∧ 0 ≤ p ∧ p < R (9 + 10 * w + 0)) ∧ (0 ≤ w2 ∧ w2 < R 0 ∧ 0 ≤ p2 ∧ p2 < R (9 + 10 * w2 + 0)) ∧ w ≠ w2 ∧ R 1 < 8) : gq K (mg_line R w p w2 p2) ∧ mg_line R w p w2 p2 0 = R 0 := by
  have hi := h.1
  have hc := hi.c
  refine ⟨⟨mi_line hi q, ?_⟩, ?_⟩
  · unfold mg_line
    refine gxa_free (gxa_free (gxa_free (gxa_free (gxa_free h.2 (by omega) (by omega)) ?_ (by omega)) ?_ (by omega)) ?_ (by omega)) ?_ (by omega) <;> simp (disch := omega) only [ms_ne] <;> omega
  · unfold mg_line
    simp (disch := omega) only [ms_ne]
theorem gq_frog {g : Int} (h : gq K R) (q : (0 ≤ w ∧ w < R 0 ∧ 0 ≤ p ∧ p < R (9 + 10 * w + 0)) ∧ mf_on R w (mf_pad R w p) = -1 ∧ R 2 < 5) (q2 : 1 ≤ g ∧ g ≤ 9) : gq K (mg_frog R w p g) ∧ mg_frog R w p g 0 = R 0 := by
  have hi := h.1
  have hc := hi.c
  refine ⟨⟨mi_frog hi (mi_big hi) q q2, ?_⟩, ?_⟩
  · have hx := h.2
    unfold gxa at hx ⊢
    have e1 : ∀ j, 0 ≤ j → j ≠ 2 → j < 71 → mg_frog R w p g j = R j := by
      intro j j1 j2 j3
      unfold mg_frog
      simp (disch := omega) only [ms_ne, ms_eq]
    have e0 : sw (mg_frog R w p g) = sw R := by
      unfold sw mf_fly
      simp only [Int.reduceAdd, Int.reduceMul]
      simp (disch := decide) only [e1]
    have e2 : ∀ k, k = 3 ∨ k = 4 → sv (mg_frog R w p g) k = sv R k := by
      intro k k0
      have hf : R 2 = 0 ∨ R 2 = 1 ∨ R 2 = 2 ∨ R 2 = 3 ∨ R 2 = 4 := by omega
      unfold sv mg_frog
      rcases hf with e | e | e | e | e <;> rw [e] <;> rcases k0 with rfl | rfl <;> simp (disch := omega) only [ms_ne, ms_eq] <;> simp
    rw [e0, e2 4 (by decide), e2 3 (by decide), e1 3 (by decide) (by decide) (by decide), e1 4 (by decide) (by decide) (by decide), e1 5 (by decide) (by decide) (by decide), e1 6 (by decide) (by decide) (by decide), e1 7 (by decide) (by decide) (by decide), e1 0 (by decide) (by decide) (by decide)]
    refine ⟨hx.1, hx.2.1, fun w w0 w1 => ?_, hx.2.2.2⟩
    rw [e1 _ (by omega) (by omega) (by omega)]
    exact hx.2.2.1 w w0 w1
  · unfold mg_frog
    simp (disch := omega) only [ms_ne]
theorem gq_bring (h : gq K R) (hk : K + 9 ≤ 1000000) (w0 : 0 ≤ w) (w1 : w < R 0) (n0 : 0 ≤ n) (n1 : n ≤ 9) : gq (K + 9) (mg_bring R w p n) ∧ mg_bring R w p n 0 = R 0 := by
  have hi := h.1
  have hc := hi.c
  have hw := hi.w w0 w1
  have hp := mf_pad_bd p (show 0 < R (9 + 10 * w + 0) by omega)
  refine ⟨⟨mi_bring hi hk w0 w1 n0 n1, ?_⟩, ?_⟩
  · unfold mg_bring
    obtain ⟨m, hm⟩ : ∃ m, mf_more R w p n = m := ⟨_, rfl⟩
    rw [hm]
    generalize mf_pad R w p = d at *
    have g1 := gxa_came (n := n) h.2 (by omega) n0
    have g2 := gxa_fly (w := w) (p := d) (v := R (9 + 10 * w + 5 + d) + n - m) g1 (by rw [ms_ne (by omega)]; omega) w0 (by rw [ms_ne (by omega)]; omega) (by omega) (by omega)
    rw [ms_ne (i := 9 + 10 * w + 5 + d) (by omega)] at g2
    have g3 := gxa_off (n := m) g2 (by simp (disch := omega) only [ms_ne]; omega)
    have e : mr_st (mr_st R 6 (R 6 + n)) (9 + 10 * w + 5 + d) (R (9 + 10 * w + 5 + d) + n - m) 5 = R 5 := by simp (disch := omega) only [ms_ne]
    rw [e, show 0 + n - (R (9 + 10 * w + 5 + d) + n - m - R (9 + 10 * w + 5 + d)) - m = 0 by omega] at g3
    exact g3
  · unfold mg_bring
    simp (disch := omega) only [ms_ne]
theorem gq_turn {k : Int} (h : gq K R) (w0 : 0 ≤ w) (w1 : w < R 0) : gq K (mg_turn R w k) ∧ mg_turn R w k 0 = R 0 := by
  have hi := h.1
  have hc := hi.c
  exact ⟨⟨mi_turn2 hi w0 w1, gxa_turn h.2 (by omega) w0 w1⟩, ms_ne (by omega)⟩
theorem gq_set (h : gq K R) (v0 : 0 ≤ v) (v1 : v ≤ 1) : gq K (mr_st R 8 v) ∧ mr_st R 8 v 0 = R 0 := by
  have hc := h.1.c
  exact ⟨⟨mi_set h.1 v0 v1, gxa_free h.2 (by omega) (by omega)⟩, ms_ne (by omega)⟩
end KEEP
