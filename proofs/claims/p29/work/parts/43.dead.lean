/-! What stands beyond the counts: written, then counted. -/
section MPZ
variable {R Z : mr_R} {x v : Int}
theorem mz_w {k : Int} (h : ∀ w : Int, R 0 ≤ w → w < 3 → 9 + 10 * w + k ≠ x) : mr_ar (mp_w R (mr_st Z x v) k) = mr_ar (mp_w R Z k) := by
  funext j
  unfold mr_ar mp_w
  by_cases q : (j : Int) < R 0
  · rw [if_pos q, if_pos q]
  · rw [if_neg q, if_neg q]
    by_cases q2 : (j : Int) < 3
    · rw [if_pos q2, if_pos q2, ms_ne (h _ (by omega) q2)]
    · rw [if_neg q2, if_neg q2]
theorem mz_y (h : ∀ w p : Int, R 0 ≤ w → w < 3 → 0 ≤ p → p < 5 → 9 + 10 * w + 5 + p ≠ x) : mr_ar (mp_y R (mr_st Z x v)) = mr_ar (mp_y R Z) := by
  funext j
  unfold mr_ar mp_y
  by_cases q : (j : Int) / 5 < R 0
  · rw [if_pos q, if_pos q]
  · rw [if_neg q, if_neg q]
    by_cases q2 : (j : Int) < 15
    · rw [if_pos q2, if_pos q2, ms_ne (h _ _ (by omega) (by omega) (by omega) (by omega))]
    · rw [if_neg q2, if_neg q2]
theorem mz_l {k : Int} (h : ∀ l : Int, R 1 ≤ l → l < 8 → 39 + 4 * l + k ≠ x ∧ 39 + 4 * l + k + 1 ≠ x) : mr_ar (mp_l R (mr_st Z x v) k) = mr_ar (mp_l R Z k) := by
  funext j
  unfold mr_ar mp_l
  by_cases q : (j : Int) < R 1
  · rw [if_pos q, if_pos q]
  · rw [if_neg q, if_neg q]
    by_cases q2 : (j : Int) < 8
    · have := h _ (by omega) q2
      rw [if_pos q2, if_pos q2, ms_ne this.1, ms_ne this.2]
    · rw [if_neg q2, if_neg q2]
theorem mz_f {k : Int} (h : ∀ f : Int, R 2 ≤ f → f < 5 → 71 + 5 * f + k ≠ x) : mr_ar (mp_f R (mr_st Z x v) k) = mr_ar (mp_f R Z k) := by
  funext j
  unfold mr_ar mp_f
  by_cases q : (j : Int) < R 2
  · rw [if_pos q, if_pos q]
  · rw [if_neg q, if_neg q]
    by_cases q2 : (j : Int) < 5
    · rw [if_pos q2, if_pos q2, ms_ne (h _ (by omega) q2)]
    · rw [if_neg q2, if_neg q2]
end MPZ
section MPD
variable {B : Nat} {R Z : mr_R} {σ : ri_S}
theorem mpd_2 (hb : 0 ≤ R 0 ∧ R 0 ≤ 3 ∧ 0 ≤ R 1 ∧ R 1 ≤ 8 ∧ 0 ≤ R 2 ∧ R 2 ≤ 5) {w v : Int} (h1 : R 0 ≤ w) (h2 : w < 3) : ((ri_upd (mp B R Z σ).1 (B + 2) (.inl (0, 3, mr_ar (mr_st (mp_w R Z 0) w v))), (mp B R Z σ).2) : ri_S) = mp B R (mr_st Z (9 + 10 * w + 0) v) σ :=
  mp_wr (o := 2) (by decide) (by
    simp only [mp_c]
    refine congrArg (fun f => (some (Sum.inl (0, 3, f)) : Option ri_El)) (funext fun j => ?_)
    rw [ma_st]
    unfold mr_ar mp_w
    by_cases e : (j : Int) = w
    · rw [if_pos e]
      rw [if_neg (by omega), if_pos (by omega), ms_eq (by omega)]
    · rw [if_neg e]
      simp (disch := omega) only [ms_ne]) (fun j hj hn => by
    match j with
    | 0 => first | (exact absurd rfl hn) | (simp (disch := first | omega | (intros; omega)) only [mp_c, mz_w, mz_y, mz_l, mz_f])
    | 1 => first | (exact absurd rfl hn) | (simp (disch := first | omega | (intros; omega)) only [mp_c, mz_w, mz_y, mz_l, mz_f])
    | 2 => first | (exact absurd rfl hn) | (simp (disch := first | omega | (intros; omega)) only [mp_c, mz_w, mz_y, mz_l, mz_f])
    | 3 => first | (exact absurd rfl hn) | (simp (disch := first | omega | (intros; omega)) only [mp_c, mz_w, mz_y, mz_l, mz_f])
    | 4 => first | (exact absurd rfl hn) | (simp (disch := first | omega | (intros; omega)) only [mp_c, mz_w, mz_y, mz_l, mz_f])
    | 5 => first | (exact absurd rfl hn) | (simp (disch := first | omega | (intros; omega)) only [mp_c, mz_w, mz_y, mz_l, mz_f])
    | 6 => first | (exact absurd rfl hn) | (simp (disch := first | omega | (intros; omega)) only [mp_c, mz_w, mz_y, mz_l, mz_f])
    | 7 => first | (exact absurd rfl hn) | (simp (disch := first | omega | (intros; omega)) only [mp_c, mz_w, mz_y, mz_l, mz_f])
    | 8 => first | (exact absurd rfl hn) | (simp (disch := first | omega | (intros; omega)) only [mp_c, mz_w, mz_y, mz_l, mz_f])
    | 9 => first | (exact absurd rfl hn) | (simp (disch := first | omega | (intros; omega)) only [mp_c, mz_w, mz_y, mz_l, mz_f])
    | 10 => first | (exact absurd rfl hn) | (simp (disch := first | omega | (intros; omega)) only [mp_c, mz_w, mz_y, mz_l, mz_f])
    | 11 => first | (exact absurd rfl hn) | (simp (disch := first | omega | (intros; omega)) only [mp_c, mz_w, mz_y, mz_l, mz_f])
    | 12 => first | (exact absurd rfl hn) | (simp (disch := first | omega | (intros; omega)) only [mp_c, mz_w, mz_y, mz_l, mz_f])
    | 13 => first | (exact absurd rfl hn) | (simp (disch := first | omega | (intros; omega)) only [mp_c, mz_w, mz_y, mz_l, mz_f])
    | 14 => first | (exact absurd rfl hn) | (simp (disch := first | omega | (intros; omega)) only [mp_c, mz_w, mz_y, mz_l, mz_f])
    | 15 => first | (exact absurd rfl hn) | (simp (disch := first | omega | (intros; omega)) only [mp_c, mz_w, mz_y, mz_l, mz_f])
    | 16 => first | (exact absurd rfl hn) | (simp (disch := first | omega | (intros; omega)) only [mp_c, mz_w, mz_y, mz_l, mz_f])
    | n + 17 => omega)
theorem mpd_3 (hb : 0 ≤ R 0 ∧ R 0 ≤ 3 ∧ 0 ≤ R 1 ∧ R 1 ≤ 8 ∧ 0 ≤ R 2 ∧ R 2 ≤ 5) {w v : Int} (h1 : R 0 ≤ w) (h2 : w < 3) : ((ri_upd (mp B R Z σ).1 (B + 3) (.inl (0, 3, mr_ar (mr_st (mp_w R Z 1) w v))), (mp B R Z σ).2) : ri_S) = mp B R (mr_st Z (9 + 10 * w + 1) v) σ :=
  mp_wr (o := 3) (by decide) (by
    simp only [mp_c]
    refine congrArg (fun f => (some (Sum.inl (0, 3, f)) : Option ri_El)) (funext fun j => ?_)
    rw [ma_st]
    unfold mr_ar mp_w
    by_cases e : (j : Int) = w
    · rw [if_pos e]
      rw [if_neg (by omega), if_pos (by omega), ms_eq (by omega)]
    · rw [if_neg e]
      simp (disch := omega) only [ms_ne]) (fun j hj hn => by
    match j with
    | 0 => first | (exact absurd rfl hn) | (simp (disch := first | omega | (intros; omega)) only [mp_c, mz_w, mz_y, mz_l, mz_f])
    | 1 => first | (exact absurd rfl hn) | (simp (disch := first | omega | (intros; omega)) only [mp_c, mz_w, mz_y, mz_l, mz_f])
    | 2 => first | (exact absurd rfl hn) | (simp (disch := first | omega | (intros; omega)) only [mp_c, mz_w, mz_y, mz_l, mz_f])
    | 3 => first | (exact absurd rfl hn) | (simp (disch := first | omega | (intros; omega)) only [mp_c, mz_w, mz_y, mz_l, mz_f])
    | 4 => first | (exact absurd rfl hn) | (simp (disch := first | omega | (intros; omega)) only [mp_c, mz_w, mz_y, mz_l, mz_f])
    | 5 => first | (exact absurd rfl hn) | (simp (disch := first | omega | (intros; omega)) only [mp_c, mz_w, mz_y, mz_l, mz_f])
    | 6 => first | (exact absurd rfl hn) | (simp (disch := first | omega | (intros; omega)) only [mp_c, mz_w, mz_y, mz_l, mz_f])
    | 7 => first | (exact absurd rfl hn) | (simp (disch := first | omega | (intros; omega)) only [mp_c, mz_w, mz_y, mz_l, mz_f])
    | 8 => first | (exact absurd rfl hn) | (simp (disch := first | omega | (intros; omega)) only [mp_c, mz_w, mz_y, mz_l, mz_f])
    | 9 => first | (exact absurd rfl hn) | (simp (disch := first | omega | (intros; omega)) only [mp_c, mz_w, mz_y, mz_l, mz_f])
    | 10 => first | (exact absurd rfl hn) | (simp (disch := first | omega | (intros; omega)) only [mp_c, mz_w, mz_y, mz_l, mz_f])
    | 11 => first | (exact absurd rfl hn) | (simp (disch := first | omega | (intros; omega)) only [mp_c, mz_w, mz_y, mz_l, mz_f])
    | 12 => first | (exact absurd rfl hn) | (simp (disch := first | omega | (intros; omega)) only [mp_c, mz_w, mz_y, mz_l, mz_f])
    | 13 => first | (exact absurd rfl hn) | (simp (disch := first | omega | (intros; omega)) only [mp_c, mz_w, mz_y, mz_l, mz_f])
    | 14 => first | (exact absurd rfl hn) | (simp (disch := first | omega | (intros; omega)) only [mp_c, mz_w, mz_y, mz_l, mz_f])
    | 15 => first | (exact absurd rfl hn) | (simp (disch := first | omega | (intros; omega)) only [mp_c, mz_w, mz_y, mz_l, mz_f])
    | 16 => first | (exact absurd rfl hn) | (simp (disch := first | omega | (intros; omega)) only [mp_c, mz_w, mz_y, mz_l, mz_f])
    | n + 17 => omega)
theorem mpd_4 (hb : 0 ≤ R 0 ∧ R 0 ≤ 3 ∧ 0 ≤ R 1 ∧ R 1 ≤ 8 ∧ 0 ≤ R 2 ∧ R 2 ≤ 5) {w v : Int} (h1 : R 0 ≤ w) (h2 : w < 3) : ((ri_upd (mp B R Z σ).1 (B + 4) (.inl (0, 3, mr_ar (mr_st (mp_w R Z 2) w v))), (mp B R Z σ).2) : ri_S) = mp B R (mr_st Z (9 + 10 * w + 2) v) σ :=
  mp_wr (o := 4) (by decide) (by
    simp only [mp_c]
    refine congrArg (fun f => (some (Sum.inl (0, 3, f)) : Option ri_El)) (funext fun j => ?_)
    rw [ma_st]
    unfold mr_ar mp_w
    by_cases e : (j : Int) = w
    · rw [if_pos e]
      rw [if_neg (by omega), if_pos (by omega), ms_eq (by omega)]
    · rw [if_neg e]
      simp (disch := omega) only [ms_ne]) (fun j hj hn => by
    match j with
    | 0 => first | (exact absurd rfl hn) | (simp (disch := first | omega | (intros; omega)) only [mp_c, mz_w, mz_y, mz_l, mz_f])
    | 1 => first | (exact absurd rfl hn) | (simp (disch := first | omega | (intros; omega)) only [mp_c, mz_w, mz_y, mz_l, mz_f])
    | 2 => first | (exact absurd rfl hn) | (simp (disch := first | omega | (intros; omega)) only [mp_c, mz_w, mz_y, mz_l, mz_f])
    | 3 => first | (exact absurd rfl hn) | (simp (disch := first | omega | (intros; omega)) only [mp_c, mz_w, mz_y, mz_l, mz_f])
    | 4 => first | (exact absurd rfl hn) | (simp (disch := first | omega | (intros; omega)) only [mp_c, mz_w, mz_y, mz_l, mz_f])
    | 5 => first | (exact absurd rfl hn) | (simp (disch := first | omega | (intros; omega)) only [mp_c, mz_w, mz_y, mz_l, mz_f])
    | 6 => first | (exact absurd rfl hn) | (simp (disch := first | omega | (intros; omega)) only [mp_c, mz_w, mz_y, mz_l, mz_f])
    | 7 => first | (exact absurd rfl hn) | (simp (disch := first | omega | (intros; omega)) only [mp_c, mz_w, mz_y, mz_l, mz_f])
    | 8 => first | (exact absurd rfl hn) | (simp (disch := first | omega | (intros; omega)) only [mp_c, mz_w, mz_y, mz_l, mz_f])
    | 9 => first | (exact absurd rfl hn) | (simp (disch := first | omega | (intros; omega)) only [mp_c, mz_w, mz_y, mz_l, mz_f])
    | 10 => first | (exact absurd rfl hn) | (simp (disch := first | omega | (intros; omega)) only [mp_c, mz_w, mz_y, mz_l, mz_f])
    | 11 => first | (exact absurd rfl hn) | (simp (disch := first | omega | (intros; omega)) only [mp_c, mz_w, mz_y, mz_l, mz_f])
    | 12 => first | (exact absurd rfl hn) | (simp (disch := first | omega | (intros; omega)) only [mp_c, mz_w, mz_y, mz_l, mz_f])
    | 13 => first | (exact absurd rfl hn) | (simp (disch := first | omega | (intros; omega)) only [mp_c, mz_w, mz_y, mz_l, mz_f])
    | 14 => first | (exact absurd rfl hn) | (simp (disch := first | omega | (intros; omega)) only [mp_c, mz_w, mz_y, mz_l, mz_f])
    | 15 => first | (exact absurd rfl hn) | (simp (disch := first | omega | (intros; omega)) only [mp_c, mz_w, mz_y, mz_l, mz_f])
    | 16 => first | (exact absurd rfl hn) | (simp (disch := first | omega | (intros; omega)) only [mp_c, mz_w, mz_y, mz_l, mz_f])
    | n + 17 => omega)
theorem mpd_5 (hb : 0 ≤ R 0 ∧ R 0 ≤ 3 ∧ 0 ≤ R 1 ∧ R 1 ≤ 8 ∧ 0 ≤ R 2 ∧ R 2 ≤ 5) {w v : Int} (h1 : R 0 ≤ w) (h2 : w < 3) : ((ri_upd (mp B R Z σ).1 (B + 5) (.inl (0, 3, mr_ar (mr_st (mp_w R Z 3) w v))), (mp B R Z σ).2) : ri_S) = mp B R (mr_st Z (9 + 10 * w + 3) v) σ :=
  mp_wr (o := 5) (by decide) (by
    simp only [mp_c]
    refine congrArg (fun f => (some (Sum.inl (0, 3, f)) : Option ri_El)) (funext fun j => ?_)
    rw [ma_st]
    unfold mr_ar mp_w
    by_cases e : (j : Int) = w
    · rw [if_pos e]
      rw [if_neg (by omega), if_pos (by omega), ms_eq (by omega)]
    · rw [if_neg e]
      simp (disch := omega) only [ms_ne]) (fun j hj hn => by
    match j with
    | 0 => first | (exact absurd rfl hn) | (simp (disch := first | omega | (intros; omega)) only [mp_c, mz_w, mz_y, mz_l, mz_f])
    | 1 => first | (exact absurd rfl hn) | (simp (disch := first | omega | (intros; omega)) only [mp_c, mz_w, mz_y, mz_l, mz_f])
    | 2 => first | (exact absurd rfl hn) | (simp (disch := first | omega | (intros; omega)) only [mp_c, mz_w, mz_y, mz_l, mz_f])
    | 3 => first | (exact absurd rfl hn) | (simp (disch := first | omega | (intros; omega)) only [mp_c, mz_w, mz_y, mz_l, mz_f])
    | 4 => first | (exact absurd rfl hn) | (simp (disch := first | omega | (intros; omega)) only [mp_c, mz_w, mz_y, mz_l, mz_f])
    | 5 => first | (exact absurd rfl hn) | (simp (disch := first | omega | (intros; omega)) only [mp_c, mz_w, mz_y, mz_l, mz_f])
    | 6 => first | (exact absurd rfl hn) | (simp (disch := first | omega | (intros; omega)) only [mp_c, mz_w, mz_y, mz_l, mz_f])
    | 7 => first | (exact absurd rfl hn) | (simp (disch := first | omega | (intros; omega)) only [mp_c, mz_w, mz_y, mz_l, mz_f])
    | 8 => first | (exact absurd rfl hn) | (simp (disch := first | omega | (intros; omega)) only [mp_c, mz_w, mz_y, mz_l, mz_f])
    | 9 => first | (exact absurd rfl hn) | (simp (disch := first | omega | (intros; omega)) only [mp_c, mz_w, mz_y, mz_l, mz_f])
    | 10 => first | (exact absurd rfl hn) | (simp (disch := first | omega | (intros; omega)) only [mp_c, mz_w, mz_y, mz_l, mz_f])
    | 11 => first | (exact absurd rfl hn) | (simp (disch := first | omega | (intros; omega)) only [mp_c, mz_w, mz_y, mz_l, mz_f])
    | 12 => first | (exact absurd rfl hn) | (simp (disch := first | omega | (intros; omega)) only [mp_c, mz_w, mz_y, mz_l, mz_f])
    | 13 => first | (exact absurd rfl hn) | (simp (disch := first | omega | (intros; omega)) only [mp_c, mz_w, mz_y, mz_l, mz_f])
    | 14 => first | (exact absurd rfl hn) | (simp (disch := first | omega | (intros; omega)) only [mp_c, mz_w, mz_y, mz_l, mz_f])
    | 15 => first | (exact absurd rfl hn) | (simp (disch := first | omega | (intros; omega)) only [mp_c, mz_w, mz_y, mz_l, mz_f])
    | 16 => first | (exact absurd rfl hn) | (simp (disch := first | omega | (intros; omega)) only [mp_c, mz_w, mz_y, mz_l, mz_f])
    | n + 17 => omega)
theorem mpd_6 (hb : 0 ≤ R 0 ∧ R 0 ≤ 3 ∧ 0 ≤ R 1 ∧ R 1 ≤ 8 ∧ 0 ≤ R 2 ∧ R 2 ≤ 5) {w v : Int} (h1 : R 0 ≤ w) (h2 : w < 3) : ((ri_upd (mp B R Z σ).1 (B + 6) (.inl (0, 3, mr_ar (mr_st (mp_w R Z 4) w v))), (mp B R Z σ).2) : ri_S) = mp B R (mr_st Z (9 + 10 * w + 4) v) σ :=
  mp_wr (o := 6) (by decide) (by
    simp only [mp_c]
    refine congrArg (fun f => (some (Sum.inl (0, 3, f)) : Option ri_El)) (funext fun j => ?_)
    rw [ma_st]
    unfold mr_ar mp_w
    by_cases e : (j : Int) = w
    · rw [if_pos e]
      rw [if_neg (by omega), if_pos (by omega), ms_eq (by omega)]
    · rw [if_neg e]
      simp (disch := omega) only [ms_ne]) (fun j hj hn => by
    match j with
    | 0 => first | (exact absurd rfl hn) | (simp (disch := first | omega | (intros; omega)) only [mp_c, mz_w, mz_y, mz_l, mz_f])
    | 1 => first | (exact absurd rfl hn) | (simp (disch := first | omega | (intros; omega)) only [mp_c, mz_w, mz_y, mz_l, mz_f])
    | 2 => first | (exact absurd rfl hn) | (simp (disch := first | omega | (intros; omega)) only [mp_c, mz_w, mz_y, mz_l, mz_f])
    | 3 => first | (exact absurd rfl hn) | (simp (disch := first | omega | (intros; omega)) only [mp_c, mz_w, mz_y, mz_l, mz_f])
    | 4 => first | (exact absurd rfl hn) | (simp (disch := first | omega | (intros; omega)) only [mp_c, mz_w, mz_y, mz_l, mz_f])
    | 5 => first | (exact absurd rfl hn) | (simp (disch := first | omega | (intros; omega)) only [mp_c, mz_w, mz_y, mz_l, mz_f])
    | 6 => first | (exact absurd rfl hn) | (simp (disch := first | omega | (intros; omega)) only [mp_c, mz_w, mz_y, mz_l, mz_f])
    | 7 => first | (exact absurd rfl hn) | (simp (disch := first | omega | (intros; omega)) only [mp_c, mz_w, mz_y, mz_l, mz_f])
    | 8 => first | (exact absurd rfl hn) | (simp (disch := first | omega | (intros; omega)) only [mp_c, mz_w, mz_y, mz_l, mz_f])
    | 9 => first | (exact absurd rfl hn) | (simp (disch := first | omega | (intros; omega)) only [mp_c, mz_w, mz_y, mz_l, mz_f])
    | 10 => first | (exact absurd rfl hn) | (simp (disch := first | omega | (intros; omega)) only [mp_c, mz_w, mz_y, mz_l, mz_f])
    | 11 => first | (exact absurd rfl hn) | (simp (disch := first | omega | (intros; omega)) only [mp_c, mz_w, mz_y, mz_l, mz_f])
    | 12 => first | (exact absurd rfl hn) | (simp (disch := first | omega | (intros; omega)) only [mp_c, mz_w, mz_y, mz_l, mz_f])
    | 13 => first | (exact absurd rfl hn) | (simp (disch := first | omega | (intros; omega)) only [mp_c, mz_w, mz_y, mz_l, mz_f])
    | 14 => first | (exact absurd rfl hn) | (simp (disch := first | omega | (intros; omega)) only [mp_c, mz_w, mz_y, mz_l, mz_f])
    | 15 => first | (exact absurd rfl hn) | (simp (disch := first | omega | (intros; omega)) only [mp_c, mz_w, mz_y, mz_l, mz_f])
    | 16 => first | (exact absurd rfl hn) | (simp (disch := first | omega | (intros; omega)) only [mp_c, mz_w, mz_y, mz_l, mz_f])
    | n + 17 => omega)
theorem mpd_7 (hb : 0 ≤ R 0 ∧ R 0 ≤ 3 ∧ 0 ≤ R 1 ∧ R 1 ≤ 8 ∧ 0 ≤ R 2 ∧ R 2 ≤ 5) {w p v : Int} (h1 : R 0 ≤ w) (h2 : w < 3) (h3 : 0 ≤ p) (h4 : p < 5) : ((ri_upd (mp B R Z σ).1 (B + 7) (.inl (0, 15, mr_ar (mr_st (mp_y R Z) (w * 5 + p) v))), (mp B R Z σ).2) : ri_S) = mp B R (mr_st Z (9 + 10 * w + 5 + p) v) σ :=
  mp_wr (o := 7) (by decide) (by
    simp only [mp_c]
    refine congrArg (fun f => (some (Sum.inl (0, 15, f)) : Option ri_El)) (funext fun j => ?_)
    rw [ma_st]
    unfold mr_ar mp_y
    by_cases e : (j : Int) = w * 5 + p
    · rw [if_pos e]
      rw [if_neg (by omega), if_pos (by omega), ms_eq (by omega)]
    · rw [if_neg e]
      simp (disch := omega) only [ms_ne]) (fun j hj hn => by
    match j with
    | 0 => first | (exact absurd rfl hn) | (simp (disch := first | omega | (intros; omega)) only [mp_c, mz_w, mz_y, mz_l, mz_f])
    | 1 => first | (exact absurd rfl hn) | (simp (disch := first | omega | (intros; omega)) only [mp_c, mz_w, mz_y, mz_l, mz_f])
    | 2 => first | (exact absurd rfl hn) | (simp (disch := first | omega | (intros; omega)) only [mp_c, mz_w, mz_y, mz_l, mz_f])
    | 3 => first | (exact absurd rfl hn) | (simp (disch := first | omega | (intros; omega)) only [mp_c, mz_w, mz_y, mz_l, mz_f])
    | 4 => first | (exact absurd rfl hn) | (simp (disch := first | omega | (intros; omega)) only [mp_c, mz_w, mz_y, mz_l, mz_f])
    | 5 => first | (exact absurd rfl hn) | (simp (disch := first | omega | (intros; omega)) only [mp_c, mz_w, mz_y, mz_l, mz_f])
    | 6 => first | (exact absurd rfl hn) | (simp (disch := first | omega | (intros; omega)) only [mp_c, mz_w, mz_y, mz_l, mz_f])
    | 7 => first | (exact absurd rfl hn) | (simp (disch := first | omega | (intros; omega)) only [mp_c, mz_w, mz_y, mz_l, mz_f])
    | 8 => first | (exact absurd rfl hn) | (simp (disch := first | omega | (intros; omega)) only [mp_c, mz_w, mz_y, mz_l, mz_f])
    | 9 => first | (exact absurd rfl hn) | (simp (disch := first | omega | (intros; omega)) only [mp_c, mz_w, mz_y, mz_l, mz_f])
    | 10 => first | (exact absurd rfl hn) | (simp (disch := first | omega | (intros; omega)) only [mp_c, mz_w, mz_y, mz_l, mz_f])
    | 11 => first | (exact absurd rfl hn) | (simp (disch := first | omega | (intros; omega)) only [mp_c, mz_w, mz_y, mz_l, mz_f])
    | 12 => first | (exact absurd rfl hn) | (simp (disch := first | omega | (intros; omega)) only [mp_c, mz_w, mz_y, mz_l, mz_f])
    | 13 => first | (exact absurd rfl hn) | (simp (disch := first | omega | (intros; omega)) only [mp_c, mz_w, mz_y, mz_l, mz_f])
    | 14 => first | (exact absurd rfl hn) | (simp (disch := first | omega | (intros; omega)) only [mp_c, mz_w, mz_y, mz_l, mz_f])
    | 15 => first | (exact absurd rfl hn) | (simp (disch := first | omega | (intros; omega)) only [mp_c, mz_w, mz_y, mz_l, mz_f])
    | 16 => first | (exact absurd rfl hn) | (simp (disch := first | omega | (intros; omega)) only [mp_c, mz_w, mz_y, mz_l, mz_f])
    | n + 17 => omega)
theorem mpd_9 (hb : 0 ≤ R 0 ∧ R 0 ≤ 3 ∧ 0 ≤ R 1 ∧ R 1 ≤ 8 ∧ 0 ≤ R 2 ∧ R 2 ≤ 5) {l w p : Int} (h1 : R 1 ≤ l) (h2 : l < 8) : ((ri_upd (mp B R Z σ).1 (B + 9) (.inl (0, 8, mr_ar (mr_st (mp_l R Z 0) l (w * 5 + p)))), (mp B R Z σ).2) : ri_S) = mp B R (mr_st (mr_st Z (39 + 4 * l + 0) w) (39 + 4 * l + 1) p) σ :=
  mp_wr (o := 9) (by decide) (by
    simp only [mp_c]
    refine congrArg (fun f => (some (Sum.inl (0, 8, f)) : Option ri_El)) (funext fun j => ?_)
    rw [ma_st]
    unfold mr_ar mp_l
    by_cases e : (j : Int) = l
    · rw [if_pos e]
      rw [if_neg (by omega), if_pos (by omega), ms_ne (by omega), ms_eq (by omega), ms_eq (by omega)]
    · rw [if_neg e]
      simp (disch := omega) only [ms_ne]) (fun j hj hn => by
    match j with
    | 0 => first | (exact absurd rfl hn) | (simp (disch := first | omega | (intros; omega)) only [mp_c, mz_w, mz_y, mz_l, mz_f])
    | 1 => first | (exact absurd rfl hn) | (simp (disch := first | omega | (intros; omega)) only [mp_c, mz_w, mz_y, mz_l, mz_f])
    | 2 => first | (exact absurd rfl hn) | (simp (disch := first | omega | (intros; omega)) only [mp_c, mz_w, mz_y, mz_l, mz_f])
    | 3 => first | (exact absurd rfl hn) | (simp (disch := first | omega | (intros; omega)) only [mp_c, mz_w, mz_y, mz_l, mz_f])
    | 4 => first | (exact absurd rfl hn) | (simp (disch := first | omega | (intros; omega)) only [mp_c, mz_w, mz_y, mz_l, mz_f])
    | 5 => first | (exact absurd rfl hn) | (simp (disch := first | omega | (intros; omega)) only [mp_c, mz_w, mz_y, mz_l, mz_f])
    | 6 => first | (exact absurd rfl hn) | (simp (disch := first | omega | (intros; omega)) only [mp_c, mz_w, mz_y, mz_l, mz_f])
    | 7 => first | (exact absurd rfl hn) | (simp (disch := first | omega | (intros; omega)) only [mp_c, mz_w, mz_y, mz_l, mz_f])
    | 8 => first | (exact absurd rfl hn) | (simp (disch := first | omega | (intros; omega)) only [mp_c, mz_w, mz_y, mz_l, mz_f])
    | 9 => first | (exact absurd rfl hn) | (simp (disch := first | omega | (intros; omega)) only [mp_c, mz_w, mz_y, mz_l, mz_f])
    | 10 => first | (exact absurd rfl hn) | (simp (disch := first | omega | (intros; omega)) only [mp_c, mz_w, mz_y, mz_l, mz_f])
    | 11 => first | (exact absurd rfl hn) | (simp (disch := first | omega | (intros; omega)) only [mp_c, mz_w, mz_y, mz_l, mz_f])
    | 12 => first | (exact absurd rfl hn) | (simp (disch := first | omega | (intros; omega)) only [mp_c, mz_w, mz_y, mz_l, mz_f])
    | 13 => first | (exact absurd rfl hn) | (simp (disch := first | omega | (intros; omega)) only [mp_c, mz_w, mz_y, mz_l, mz_f])
    | 14 => first | (exact absurd rfl hn) | (simp (disch := first | omega | (intros; omega)) only [mp_c, mz_w, mz_y, mz_l, mz_f])
    | 15 => first | (exact absurd rfl hn) | (simp (disch := first | omega | (intros; omega)) only [mp_c, mz_w, mz_y, mz_l, mz_f])
    | 16 => first | (exact absurd rfl hn) | (simp (disch := first | omega | (intros; omega)) only [mp_c, mz_w, mz_y, mz_l, mz_f])
    | n + 17 => omega)
theorem mpd_10 (hb : 0 ≤ R 0 ∧ R 0 ≤ 3 ∧ 0 ≤ R 1 ∧ R 1 ≤ 8 ∧ 0 ≤ R 2 ∧ R 2 ≤ 5) {l w p : Int} (h1 : R 1 ≤ l) (h2 : l < 8) : ((ri_upd (mp B R Z σ).1 (B + 10) (.inl (0, 8, mr_ar (mr_st (mp_l R Z 2) l (w * 5 + p)))), (mp B R Z σ).2) : ri_S) = mp B R (mr_st (mr_st Z (39 + 4 * l + 2) w) (39 + 4 * l + 3) p) σ :=
  mp_wr (o := 10) (by decide) (by
    simp only [mp_c]
    refine congrArg (fun f => (some (Sum.inl (0, 8, f)) : Option ri_El)) (funext fun j => ?_)
    rw [ma_st]
    unfold mr_ar mp_l
    by_cases e : (j : Int) = l
    · rw [if_pos e]
      rw [if_neg (by omega), if_pos (by omega), ms_ne (by omega), ms_eq (by omega), ms_eq (by omega)]
    · rw [if_neg e]
      simp (disch := omega) only [ms_ne]) (fun j hj hn => by
    match j with
    | 0 => first | (exact absurd rfl hn) | (simp (disch := first | omega | (intros; omega)) only [mp_c, mz_w, mz_y, mz_l, mz_f])
    | 1 => first | (exact absurd rfl hn) | (simp (disch := first | omega | (intros; omega)) only [mp_c, mz_w, mz_y, mz_l, mz_f])
    | 2 => first | (exact absurd rfl hn) | (simp (disch := first | omega | (intros; omega)) only [mp_c, mz_w, mz_y, mz_l, mz_f])
    | 3 => first | (exact absurd rfl hn) | (simp (disch := first | omega | (intros; omega)) only [mp_c, mz_w, mz_y, mz_l, mz_f])
    | 4 => first | (exact absurd rfl hn) | (simp (disch := first | omega | (intros; omega)) only [mp_c, mz_w, mz_y, mz_l, mz_f])
    | 5 => first | (exact absurd rfl hn) | (simp (disch := first | omega | (intros; omega)) only [mp_c, mz_w, mz_y, mz_l, mz_f])
    | 6 => first | (exact absurd rfl hn) | (simp (disch := first | omega | (intros; omega)) only [mp_c, mz_w, mz_y, mz_l, mz_f])
    | 7 => first | (exact absurd rfl hn) | (simp (disch := first | omega | (intros; omega)) only [mp_c, mz_w, mz_y, mz_l, mz_f])
    | 8 => first | (exact absurd rfl hn) | (simp (disch := first | omega | (intros; omega)) only [mp_c, mz_w, mz_y, mz_l, mz_f])
    | 9 => first | (exact absurd rfl hn) | (simp (disch := first | omega | (intros; omega)) only [mp_c, mz_w, mz_y, mz_l, mz_f])
    | 10 => first | (exact absurd rfl hn) | (simp (disch := first | omega | (intros; omega)) only [mp_c, mz_w, mz_y, mz_l, mz_f])
    | 11 => first | (exact absurd rfl hn) | (simp (disch := first | omega | (intros; omega)) only [mp_c, mz_w, mz_y, mz_l, mz_f])
    | 12 => first | (exact absurd rfl hn) | (simp (disch := first | omega | (intros; omega)) only [mp_c, mz_w, mz_y, mz_l, mz_f])
    | 13 => first | (exact absurd rfl hn) | (simp (disch := first | omega | (intros; omega)) only [mp_c, mz_w, mz_y, mz_l, mz_f])
    | 14 => first | (exact absurd rfl hn) | (simp (disch := first | omega | (intros; omega)) only [mp_c, mz_w, mz_y, mz_l, mz_f])
    | 15 => first | (exact absurd rfl hn) | (simp (disch := first | omega | (intros; omega)) only [mp_c, mz_w, mz_y, mz_l, mz_f])
    | 16 => first | (exact absurd rfl hn) | (simp (disch := first | omega | (intros; omega)) only [mp_c, mz_w, mz_y, mz_l, mz_f])
    | n + 17 => omega)
theorem mpd_12 (hb : 0 ≤ R 0 ∧ R 0 ≤ 3 ∧ 0 ≤ R 1 ∧ R 1 ≤ 8 ∧ 0 ≤ R 2 ∧ R 2 ≤ 5) {f v : Int} (h1 : R 2 ≤ f) (h2 : f < 5) : ((ri_upd (mp B R Z σ).1 (B + 12) (.inl (0, 5, mr_ar (mr_st (mp_f R Z 0) f v))), (mp B R Z σ).2) : ri_S) = mp B R (mr_st Z (71 + 5 * f + 0) v) σ :=
  mp_wr (o := 12) (by decide) (by
    simp only [mp_c]
    refine congrArg (fun f => (some (Sum.inl (0, 5, f)) : Option ri_El)) (funext fun j => ?_)
    rw [ma_st]
    unfold mr_ar mp_f
    by_cases e : (j : Int) = f
    · rw [if_pos e]
      rw [if_neg (by omega), if_pos (by omega), ms_eq (by omega)]
    · rw [if_neg e]
      simp (disch := omega) only [ms_ne]) (fun j hj hn => by
    match j with
    | 0 => first | (exact absurd rfl hn) | (simp (disch := first | omega | (intros; omega)) only [mp_c, mz_w, mz_y, mz_l, mz_f])
    | 1 => first | (exact absurd rfl hn) | (simp (disch := first | omega | (intros; omega)) only [mp_c, mz_w, mz_y, mz_l, mz_f])
    | 2 => first | (exact absurd rfl hn) | (simp (disch := first | omega | (intros; omega)) only [mp_c, mz_w, mz_y, mz_l, mz_f])
    | 3 => first | (exact absurd rfl hn) | (simp (disch := first | omega | (intros; omega)) only [mp_c, mz_w, mz_y, mz_l, mz_f])
    | 4 => first | (exact absurd rfl hn) | (simp (disch := first | omega | (intros; omega)) only [mp_c, mz_w, mz_y, mz_l, mz_f])
    | 5 => first | (exact absurd rfl hn) | (simp (disch := first | omega | (intros; omega)) only [mp_c, mz_w, mz_y, mz_l, mz_f])
    | 6 => first | (exact absurd rfl hn) | (simp (disch := first | omega | (intros; omega)) only [mp_c, mz_w, mz_y, mz_l, mz_f])
    | 7 => first | (exact absurd rfl hn) | (simp (disch := first | omega | (intros; omega)) only [mp_c, mz_w, mz_y, mz_l, mz_f])
    | 8 => first | (exact absurd rfl hn) | (simp (disch := first | omega | (intros; omega)) only [mp_c, mz_w, mz_y, mz_l, mz_f])
    | 9 => first | (exact absurd rfl hn) | (simp (disch := first | omega | (intros; omega)) only [mp_c, mz_w, mz_y, mz_l, mz_f])
    | 10 => first | (exact absurd rfl hn) | (simp (disch := first | omega | (intros; omega)) only [mp_c, mz_w, mz_y, mz_l, mz_f])
    | 11 => first | (exact absurd rfl hn) | (simp (disch := first | omega | (intros; omega)) only [mp_c, mz_w, mz_y, mz_l, mz_f])
    | 12 => first | (exact absurd rfl hn) | (simp (disch := first | omega | (intros; omega)) only [mp_c, mz_w, mz_y, mz_l, mz_f])
    | 13 => first | (exact absurd rfl hn) | (simp (disch := first | omega | (intros; omega)) only [mp_c, mz_w, mz_y, mz_l, mz_f])
    | 14 => first | (exact absurd rfl hn) | (simp (disch := first | omega | (intros; omega)) only [mp_c, mz_w, mz_y, mz_l, mz_f])
    | 15 => first | (exact absurd rfl hn) | (simp (disch := first | omega | (intros; omega)) only [mp_c, mz_w, mz_y, mz_l, mz_f])
    | 16 => first | (exact absurd rfl hn) | (simp (disch := first | omega | (intros; omega)) only [mp_c, mz_w, mz_y, mz_l, mz_f])
    | n + 17 => omega)
theorem mpd_13 (hb : 0 ≤ R 0 ∧ R 0 ≤ 3 ∧ 0 ≤ R 1 ∧ R 1 ≤ 8 ∧ 0 ≤ R 2 ∧ R 2 ≤ 5) {f v : Int} (h1 : R 2 ≤ f) (h2 : f < 5) : ((ri_upd (mp B R Z σ).1 (B + 13) (.inl (0, 5, mr_ar (mr_st (mp_f R Z 1) f v))), (mp B R Z σ).2) : ri_S) = mp B R (mr_st Z (71 + 5 * f + 1) v) σ :=
  mp_wr (o := 13) (by decide) (by
    simp only [mp_c]
    refine congrArg (fun f => (some (Sum.inl (0, 5, f)) : Option ri_El)) (funext fun j => ?_)
    rw [ma_st]
    unfold mr_ar mp_f
    by_cases e : (j : Int) = f
    · rw [if_pos e]
      rw [if_neg (by omega), if_pos (by omega), ms_eq (by omega)]
    · rw [if_neg e]
      simp (disch := omega) only [ms_ne]) (fun j hj hn => by
    match j with
    | 0 => first | (exact absurd rfl hn) | (simp (disch := first | omega | (intros; omega)) only [mp_c, mz_w, mz_y, mz_l, mz_f])
    | 1 => first | (exact absurd rfl hn) | (simp (disch := first | omega | (intros; omega)) only [mp_c, mz_w, mz_y, mz_l, mz_f])
    | 2 => first | (exact absurd rfl hn) | (simp (disch := first | omega | (intros; omega)) only [mp_c, mz_w, mz_y, mz_l, mz_f])
    | 3 => first | (exact absurd rfl hn) | (simp (disch := first | omega | (intros; omega)) only [mp_c, mz_w, mz_y, mz_l, mz_f])
    | 4 => first | (exact absurd rfl hn) | (simp (disch := first | omega | (intros; omega)) only [mp_c, mz_w, mz_y, mz_l, mz_f])
    | 5 => first | (exact absurd rfl hn) | (simp (disch := first | omega | (intros; omega)) only [mp_c, mz_w, mz_y, mz_l, mz_f])
    | 6 => first | (exact absurd rfl hn) | (simp (disch := first | omega | (intros; omega)) only [mp_c, mz_w, mz_y, mz_l, mz_f])
    | 7 => first | (exact absurd rfl hn) | (simp (disch := first | omega | (intros; omega)) only [mp_c, mz_w, mz_y, mz_l, mz_f])
    | 8 => first | (exact absurd rfl hn) | (simp (disch := first | omega | (intros; omega)) only [mp_c, mz_w, mz_y, mz_l, mz_f])
    | 9 => first | (exact absurd rfl hn) | (simp (disch := first | omega | (intros; omega)) only [mp_c, mz_w, mz_y, mz_l, mz_f])
    | 10 => first | (exact absurd rfl hn) | (simp (disch := first | omega | (intros; omega)) only [mp_c, mz_w, mz_y, mz_l, mz_f])
    | 11 => first | (exact absurd rfl hn) | (simp (disch := first | omega | (intros; omega)) only [mp_c, mz_w, mz_y, mz_l, mz_f])
    | 12 => first | (exact absurd rfl hn) | (simp (disch := first | omega | (intros; omega)) only [mp_c, mz_w, mz_y, mz_l, mz_f])
    | 13 => first | (exact absurd rfl hn) | (simp (disch := first | omega | (intros; omega)) only [mp_c, mz_w, mz_y, mz_l, mz_f])
    | 14 => first | (exact absurd rfl hn) | (simp (disch := first | omega | (intros; omega)) only [mp_c, mz_w, mz_y, mz_l, mz_f])
    | 15 => first | (exact absurd rfl hn) | (simp (disch := first | omega | (intros; omega)) only [mp_c, mz_w, mz_y, mz_l, mz_f])
    | 16 => first | (exact absurd rfl hn) | (simp (disch := first | omega | (intros; omega)) only [mp_c, mz_w, mz_y, mz_l, mz_f])
    | n + 17 => omega)
theorem mpd_14 (hb : 0 ≤ R 0 ∧ R 0 ≤ 3 ∧ 0 ≤ R 1 ∧ R 1 ≤ 8 ∧ 0 ≤ R 2 ∧ R 2 ≤ 5) {f v : Int} (h1 : R 2 ≤ f) (h2 : f < 5) : ((ri_upd (mp B R Z σ).1 (B + 14) (.inl (0, 5, mr_ar (mr_st (mp_f R Z 2) f v))), (mp B R Z σ).2) : ri_S) = mp B R (mr_st Z (71 + 5 * f + 2) v) σ :=
  mp_wr (o := 14) (by decide) (by
    simp only [mp_c]
    refine congrArg (fun f => (some (Sum.inl (0, 5, f)) : Option ri_El)) (funext fun j => ?_)
    rw [ma_st]
    unfold mr_ar mp_f
    by_cases e : (j : Int) = f
    · rw [if_pos e]
      rw [if_neg (by omega), if_pos (by omega), ms_eq (by omega)]
    · rw [if_neg e]
      simp (disch := omega) only [ms_ne]) (fun j hj hn => by
    match j with
    | 0 => first | (exact absurd rfl hn) | (simp (disch := first | omega | (intros; omega)) only [mp_c, mz_w, mz_y, mz_l, mz_f])
    | 1 => first | (exact absurd rfl hn) | (simp (disch := first | omega | (intros; omega)) only [mp_c, mz_w, mz_y, mz_l, mz_f])
    | 2 => first | (exact absurd rfl hn) | (simp (disch := first | omega | (intros; omega)) only [mp_c, mz_w, mz_y, mz_l, mz_f])
    | 3 => first | (exact absurd rfl hn) | (simp (disch := first | omega | (intros; omega)) only [mp_c, mz_w, mz_y, mz_l, mz_f])
    | 4 => first | (exact absurd rfl hn) | (simp (disch := first | omega | (intros; omega)) only [mp_c, mz_w, mz_y, mz_l, mz_f])
    | 5 => first | (exact absurd rfl hn) | (simp (disch := first | omega | (intros; omega)) only [mp_c, mz_w, mz_y, mz_l, mz_f])
    | 6 => first | (exact absurd rfl hn) | (simp (disch := first | omega | (intros; omega)) only [mp_c, mz_w, mz_y, mz_l, mz_f])
    | 7 => first | (exact absurd rfl hn) | (simp (disch := first | omega | (intros; omega)) only [mp_c, mz_w, mz_y, mz_l, mz_f])
    | 8 => first | (exact absurd rfl hn) | (simp (disch := first | omega | (intros; omega)) only [mp_c, mz_w, mz_y, mz_l, mz_f])
    | 9 => first | (exact absurd rfl hn) | (simp (disch := first | omega | (intros; omega)) only [mp_c, mz_w, mz_y, mz_l, mz_f])
    | 10 => first | (exact absurd rfl hn) | (simp (disch := first | omega | (intros; omega)) only [mp_c, mz_w, mz_y, mz_l, mz_f])
    | 11 => first | (exact absurd rfl hn) | (simp (disch := first | omega | (intros; omega)) only [mp_c, mz_w, mz_y, mz_l, mz_f])
    | 12 => first | (exact absurd rfl hn) | (simp (disch := first | omega | (intros; omega)) only [mp_c, mz_w, mz_y, mz_l, mz_f])
    | 13 => first | (exact absurd rfl hn) | (simp (disch := first | omega | (intros; omega)) only [mp_c, mz_w, mz_y, mz_l, mz_f])
    | 14 => first | (exact absurd rfl hn) | (simp (disch := first | omega | (intros; omega)) only [mp_c, mz_w, mz_y, mz_l, mz_f])
    | 15 => first | (exact absurd rfl hn) | (simp (disch := first | omega | (intros; omega)) only [mp_c, mz_w, mz_y, mz_l, mz_f])
    | 16 => first | (exact absurd rfl hn) | (simp (disch := first | omega | (intros; omega)) only [mp_c, mz_w, mz_y, mz_l, mz_f])
    | n + 17 => omega)
theorem mpd_15 (hb : 0 ≤ R 0 ∧ R 0 ≤ 3 ∧ 0 ≤ R 1 ∧ R 1 ≤ 8 ∧ 0 ≤ R 2 ∧ R 2 ≤ 5) {f v : Int} (h1 : R 2 ≤ f) (h2 : f < 5) : ((ri_upd (mp B R Z σ).1 (B + 15) (.inl (0, 5, mr_ar (mr_st (mp_f R Z 3) f v))), (mp B R Z σ).2) : ri_S) = mp B R (mr_st Z (71 + 5 * f + 3) v) σ :=
  mp_wr (o := 15) (by decide) (by
    simp only [mp_c]
    refine congrArg (fun f => (some (Sum.inl (0, 5, f)) : Option ri_El)) (funext fun j => ?_)
    rw [ma_st]
    unfold mr_ar mp_f
    by_cases e : (j : Int) = f
    · rw [if_pos e]
      rw [if_neg (by omega), if_pos (by omega), ms_eq (by omega)]
    · rw [if_neg e]
      simp (disch := omega) only [ms_ne]) (fun j hj hn => by
    match j with
    | 0 => first | (exact absurd rfl hn) | (simp (disch := first | omega | (intros; omega)) only [mp_c, mz_w, mz_y, mz_l, mz_f])
    | 1 => first | (exact absurd rfl hn) | (simp (disch := first | omega | (intros; omega)) only [mp_c, mz_w, mz_y, mz_l, mz_f])
    | 2 => first | (exact absurd rfl hn) | (simp (disch := first | omega | (intros; omega)) only [mp_c, mz_w, mz_y, mz_l, mz_f])
    | 3 => first | (exact absurd rfl hn) | (simp (disch := first | omega | (intros; omega)) only [mp_c, mz_w, mz_y, mz_l, mz_f])
    | 4 => first | (exact absurd rfl hn) | (simp (disch := first | omega | (intros; omega)) only [mp_c, mz_w, mz_y, mz_l, mz_f])
    | 5 => first | (exact absurd rfl hn) | (simp (disch := first | omega | (intros; omega)) only [mp_c, mz_w, mz_y, mz_l, mz_f])
    | 6 => first | (exact absurd rfl hn) | (simp (disch := first | omega | (intros; omega)) only [mp_c, mz_w, mz_y, mz_l, mz_f])
    | 7 => first | (exact absurd rfl hn) | (simp (disch := first | omega | (intros; omega)) only [mp_c, mz_w, mz_y, mz_l, mz_f])
    | 8 => first | (exact absurd rfl hn) | (simp (disch := first | omega | (intros; omega)) only [mp_c, mz_w, mz_y, mz_l, mz_f])
    | 9 => first | (exact absurd rfl hn) | (simp (disch := first | omega | (intros; omega)) only [mp_c, mz_w, mz_y, mz_l, mz_f])
    | 10 => first | (exact absurd rfl hn) | (simp (disch := first | omega | (intros; omega)) only [mp_c, mz_w, mz_y, mz_l, mz_f])
    | 11 => first | (exact absurd rfl hn) | (simp (disch := first | omega | (intros; omega)) only [mp_c, mz_w, mz_y, mz_l, mz_f])
    | 12 => first | (exact absurd rfl hn) | (simp (disch := first | omega | (intros; omega)) only [mp_c, mz_w, mz_y, mz_l, mz_f])
    | 13 => first | (exact absurd rfl hn) | (simp (disch := first | omega | (intros; omega)) only [mp_c, mz_w, mz_y, mz_l, mz_f])
    | 14 => first | (exact absurd rfl hn) | (simp (disch := first | omega | (intros; omega)) only [mp_c, mz_w, mz_y, mz_l, mz_f])
    | 15 => first | (exact absurd rfl hn) | (simp (disch := first | omega | (intros; omega)) only [mp_c, mz_w, mz_y, mz_l, mz_f])
    | 16 => first | (exact absurd rfl hn) | (simp (disch := first | omega | (intros; omega)) only [mp_c, mz_w, mz_y, mz_l, mz_f])
    | n + 17 => omega)
theorem mpd_16 (hb : 0 ≤ R 0 ∧ R 0 ≤ 3 ∧ 0 ≤ R 1 ∧ R 1 ≤ 8 ∧ 0 ≤ R 2 ∧ R 2 ≤ 5) {f v : Int} (h1 : R 2 ≤ f) (h2 : f < 5) : ((ri_upd (mp B R Z σ).1 (B + 16) (.inl (0, 5, mr_ar (mr_st (mp_f R Z 4) f v))), (mp B R Z σ).2) : ri_S) = mp B R (mr_st Z (71 + 5 * f + 4) v) σ :=
  mp_wr (o := 16) (by decide) (by
    simp only [mp_c]
    refine congrArg (fun f => (some (Sum.inl (0, 5, f)) : Option ri_El)) (funext fun j => ?_)
    rw [ma_st]
    unfold mr_ar mp_f
    by_cases e : (j : Int) = f
    · rw [if_pos e]
      rw [if_neg (by omega), if_pos (by omega), ms_eq (by omega)]
    · rw [if_neg e]
      simp (disch := omega) only [ms_ne]) (fun j hj hn => by
    match j with
    | 0 => first | (exact absurd rfl hn) | (simp (disch := first | omega | (intros; omega)) only [mp_c, mz_w, mz_y, mz_l, mz_f])
    | 1 => first | (exact absurd rfl hn) | (simp (disch := first | omega | (intros; omega)) only [mp_c, mz_w, mz_y, mz_l, mz_f])
    | 2 => first | (exact absurd rfl hn) | (simp (disch := first | omega | (intros; omega)) only [mp_c, mz_w, mz_y, mz_l, mz_f])
    | 3 => first | (exact absurd rfl hn) | (simp (disch := first | omega | (intros; omega)) only [mp_c, mz_w, mz_y, mz_l, mz_f])
    | 4 => first | (exact absurd rfl hn) | (simp (disch := first | omega | (intros; omega)) only [mp_c, mz_w, mz_y, mz_l, mz_f])
    | 5 => first | (exact absurd rfl hn) | (simp (disch := first | omega | (intros; omega)) only [mp_c, mz_w, mz_y, mz_l, mz_f])
    | 6 => first | (exact absurd rfl hn) | (simp (disch := first | omega | (intros; omega)) only [mp_c, mz_w, mz_y, mz_l, mz_f])
    | 7 => first | (exact absurd rfl hn) | (simp (disch := first | omega | (intros; omega)) only [mp_c, mz_w, mz_y, mz_l, mz_f])
    | 8 => first | (exact absurd rfl hn) | (simp (disch := first | omega | (intros; omega)) only [mp_c, mz_w, mz_y, mz_l, mz_f])
    | 9 => first | (exact absurd rfl hn) | (simp (disch := first | omega | (intros; omega)) only [mp_c, mz_w, mz_y, mz_l, mz_f])
    | 10 => first | (exact absurd rfl hn) | (simp (disch := first | omega | (intros; omega)) only [mp_c, mz_w, mz_y, mz_l, mz_f])
    | 11 => first | (exact absurd rfl hn) | (simp (disch := first | omega | (intros; omega)) only [mp_c, mz_w, mz_y, mz_l, mz_f])
    | 12 => first | (exact absurd rfl hn) | (simp (disch := first | omega | (intros; omega)) only [mp_c, mz_w, mz_y, mz_l, mz_f])
    | 13 => first | (exact absurd rfl hn) | (simp (disch := first | omega | (intros; omega)) only [mp_c, mz_w, mz_y, mz_l, mz_f])
    | 14 => first | (exact absurd rfl hn) | (simp (disch := first | omega | (intros; omega)) only [mp_c, mz_w, mz_y, mz_l, mz_f])
    | 15 => first | (exact absurd rfl hn) | (simp (disch := first | omega | (intros; omega)) only [mp_c, mz_w, mz_y, mz_l, mz_f])
    | 16 => first | (exact absurd rfl hn) | (simp (disch := first | omega | (intros; omega)) only [mp_c, mz_w, mz_y, mz_l, mz_f])
    | n + 17 => omega)
theorem d141_2 {w v : Int} (hb : 0 ≤ R 0 ∧ R 0 ≤ 3 ∧ 0 ≤ R 1 ∧ R 1 ≤ 8 ∧ 0 ≤ R 2 ∧ R 2 ≤ 5) (h1 : R 0 ≤ w) (h2 : w < 3) : cal 141 [.ref (B + 2), .int (Int32.ofInt w), .int (Int32.ofInt v)] (mp B R Z σ) = some (none, mp B R (mr_st Z (9 + 10 * w + 0) v) σ) := by rw [c141 mpx_2 (by omega) (by omega) (by omega), mpd_2 hb h1 h2]
theorem d141_3 {w v : Int} (hb : 0 ≤ R 0 ∧ R 0 ≤ 3 ∧ 0 ≤ R 1 ∧ R 1 ≤ 8 ∧ 0 ≤ R 2 ∧ R 2 ≤ 5) (h1 : R 0 ≤ w) (h2 : w < 3) : cal 141 [.ref (B + 3), .int (Int32.ofInt w), .int (Int32.ofInt v)] (mp B R Z σ) = some (none, mp B R (mr_st Z (9 + 10 * w + 1) v) σ) := by rw [c141 mpx_3 (by omega) (by omega) (by omega), mpd_3 hb h1 h2]
theorem d141_4 {w v : Int} (hb : 0 ≤ R 0 ∧ R 0 ≤ 3 ∧ 0 ≤ R 1 ∧ R 1 ≤ 8 ∧ 0 ≤ R 2 ∧ R 2 ≤ 5) (h1 : R 0 ≤ w) (h2 : w < 3) : cal 141 [.ref (B + 4), .int (Int32.ofInt w), .int (Int32.ofInt v)] (mp B R Z σ) = some (none, mp B R (mr_st Z (9 + 10 * w + 2) v) σ) := by rw [c141 mpx_4 (by omega) (by omega) (by omega), mpd_4 hb h1 h2]
theorem d141_5 {w v : Int} (hb : 0 ≤ R 0 ∧ R 0 ≤ 3 ∧ 0 ≤ R 1 ∧ R 1 ≤ 8 ∧ 0 ≤ R 2 ∧ R 2 ≤ 5) (h1 : R 0 ≤ w) (h2 : w < 3) : cal 141 [.ref (B + 5), .int (Int32.ofInt w), .int (Int32.ofInt v)] (mp B R Z σ) = some (none, mp B R (mr_st Z (9 + 10 * w + 3) v) σ) := by rw [c141 mpx_5 (by omega) (by omega) (by omega), mpd_5 hb h1 h2]
theorem d141_6 {w v : Int} (hb : 0 ≤ R 0 ∧ R 0 ≤ 3 ∧ 0 ≤ R 1 ∧ R 1 ≤ 8 ∧ 0 ≤ R 2 ∧ R 2 ≤ 5) (h1 : R 0 ≤ w) (h2 : w < 3) : cal 141 [.ref (B + 6), .int (Int32.ofInt w), .int (Int32.ofInt v)] (mp B R Z σ) = some (none, mp B R (mr_st Z (9 + 10 * w + 4) v) σ) := by rw [c141 mpx_6 (by omega) (by omega) (by omega), mpd_6 hb h1 h2]
theorem d141_7 {w p v : Int} (hb : 0 ≤ R 0 ∧ R 0 ≤ 3 ∧ 0 ≤ R 1 ∧ R 1 ≤ 8 ∧ 0 ≤ R 2 ∧ R 2 ≤ 5) (h1 : R 0 ≤ w) (h2 : w < 3) (h3 : 0 ≤ p) (h4 : p < 5) : cal 141 [.ref (B + 7), .int (Int32.ofInt (w * 5 + p)), .int (Int32.ofInt v)] (mp B R Z σ) = some (none, mp B R (mr_st Z (9 + 10 * w + 5 + p) v) σ) := by rw [c141 mpx_7 (by omega) (by omega) (by omega), mpd_7 hb h1 h2 h3 h4]
theorem d141_9 {l w p : Int} (hb : 0 ≤ R 0 ∧ R 0 ≤ 3 ∧ 0 ≤ R 1 ∧ R 1 ≤ 8 ∧ 0 ≤ R 2 ∧ R 2 ≤ 5) (h1 : R 1 ≤ l) (h2 : l < 8) : cal 141 [.ref (B + 9), .int (Int32.ofInt l), .int (Int32.ofInt (w * 5 + p))] (mp B R Z σ) = some (none, mp B R (mr_st (mr_st Z (39 + 4 * l + 0) w) (39 + 4 * l + 1) p) σ) := by rw [c141 mpx_9 (by omega) (by omega) (by omega), mpd_9 hb h1 h2]
theorem d141_10 {l w p : Int} (hb : 0 ≤ R 0 ∧ R 0 ≤ 3 ∧ 0 ≤ R 1 ∧ R 1 ≤ 8 ∧ 0 ≤ R 2 ∧ R 2 ≤ 5) (h1 : R 1 ≤ l) (h2 : l < 8) : cal 141 [.ref (B + 10), .int (Int32.ofInt l), .int (Int32.ofInt (w * 5 + p))] (mp B R Z σ) = some (none, mp B R (mr_st (mr_st Z (39 + 4 * l + 2) w) (39 + 4 * l + 3) p) σ) := by rw [c141 mpx_10 (by omega) (by omega) (by omega), mpd_10 hb h1 h2]
theorem d141_12 {f v : Int} (hb : 0 ≤ R 0 ∧ R 0 ≤ 3 ∧ 0 ≤ R 1 ∧ R 1 ≤ 8 ∧ 0 ≤ R 2 ∧ R 2 ≤ 5) (h1 : R 2 ≤ f) (h2 : f < 5) : cal 141 [.ref (B + 12), .int (Int32.ofInt f), .int (Int32.ofInt v)] (mp B R Z σ) = some (none, mp B R (mr_st Z (71 + 5 * f + 0) v) σ) := by rw [c141 mpx_12 (by omega) (by omega) (by omega), mpd_12 hb h1 h2]
theorem d141_13 {f v : Int} (hb : 0 ≤ R 0 ∧ R 0 ≤ 3 ∧ 0 ≤ R 1 ∧ R 1 ≤ 8 ∧ 0 ≤ R 2 ∧ R 2 ≤ 5) (h1 : R 2 ≤ f) (h2 : f < 5) : cal 141 [.ref (B + 13), .int (Int32.ofInt f), .int (Int32.ofInt v)] (mp B R Z σ) = some (none, mp B R (mr_st Z (71 + 5 * f + 1) v) σ) := by rw [c141 mpx_13 (by omega) (by omega) (by omega), mpd_13 hb h1 h2]
theorem d141_14 {f v : Int} (hb : 0 ≤ R 0 ∧ R 0 ≤ 3 ∧ 0 ≤ R 1 ∧ R 1 ≤ 8 ∧ 0 ≤ R 2 ∧ R 2 ≤ 5) (h1 : R 2 ≤ f) (h2 : f < 5) : cal 141 [.ref (B + 14), .int (Int32.ofInt f), .int (Int32.ofInt v)] (mp B R Z σ) = some (none, mp B R (mr_st Z (71 + 5 * f + 2) v) σ) := by rw [c141 mpx_14 (by omega) (by omega) (by omega), mpd_14 hb h1 h2]
theorem d141_15 {f v : Int} (hb : 0 ≤ R 0 ∧ R 0 ≤ 3 ∧ 0 ≤ R 1 ∧ R 1 ≤ 8 ∧ 0 ≤ R 2 ∧ R 2 ≤ 5) (h1 : R 2 ≤ f) (h2 : f < 5) : cal 141 [.ref (B + 15), .int (Int32.ofInt f), .int (Int32.ofInt v)] (mp B R Z σ) = some (none, mp B R (mr_st Z (71 + 5 * f + 3) v) σ) := by rw [c141 mpx_15 (by omega) (by omega) (by omega), mpd_15 hb h1 h2]
theorem d141_16 {f v : Int} (hb : 0 ≤ R 0 ∧ R 0 ≤ 3 ∧ 0 ≤ R 1 ∧ R 1 ≤ 8 ∧ 0 ≤ R 2 ∧ R 2 ≤ 5) (h1 : R 2 ≤ f) (h2 : f < 5) : cal 141 [.ref (B + 16), .int (Int32.ofInt f), .int (Int32.ofInt v)] (mp B R Z σ) = some (none, mp B R (mr_st Z (71 + 5 * f + 4) v) σ) := by rw [c141 mpx_16 (by omega) (by omega) (by omega), mpd_16 hb h1 h2]
/-- a wheel, a line, a frog more: what stood beyond the count is live -/
def mx_w (R Z : mr_R) : mr_R := fun i => if i = 0 then R 0 + 1 else if 9 + 10 * R 0 ≤ i ∧ i < 9 + 10 * R 0 + 10 then Z i else R i
def mx_l (R Z : mr_R) : mr_R := fun i => if i = 1 then R 1 + 1 else if 39 + 4 * R 1 ≤ i ∧ i < 39 + 4 * R 1 + 4 then Z i else R i
def mx_f (R Z : mr_R) : mr_R := fun i => if i = 2 then R 2 + 1 else if 71 + 5 * R 2 ≤ i ∧ i < 71 + 5 * R 2 + 5 then Z i else R i
theorem mpn_w (hb : 0 ≤ R 0 ∧ R 0 ≤ 3 ∧ 0 ≤ R 1 ∧ R 1 ≤ 8 ∧ 0 ≤ R 2 ∧ R 2 ≤ 5) (hl : R 0 < 3) {v : Int} (hv : v = R 0 + 1) : ((ri_upd (mp B R Z σ).1 (B + 1) (.inr (.inr (7, [.int (Int32.ofInt v), .ref (B + 2), .ref (B + 3), .ref (B + 4), .ref (B + 5), .ref (B + 6), .ref (B + 7)]))), (mp B R Z σ).2) : ri_S) = mp B (mx_w R Z) Z σ :=
  mp_wr (o := 1) (by decide) (by subst hv; simp only [mp_c, mx_w, if_true]) (fun j hj hn => by
    have e0 : mx_w R Z 0 = R 0 + 1 := by unfold mx_w; rw [if_pos rfl]
    have e1 : mx_w R Z 1 = R 1 := by unfold mx_w; rw [if_neg (by omega), if_neg (by omega)]
    have e2 : mx_w R Z 2 = R 2 := by unfold mx_w; rw [if_neg (by omega), if_neg (by omega)]
    have e9 : ∀ i : Int, 3 ≤ i → i < 9 → mx_w R Z i = R i := fun i a b => by unfold mx_w; rw [if_neg (by omega), if_neg (by omega)]
    match j with
    | 0 => simp (disch := omega) only [mp_c, e0, e1, e2, e9]
    | 1 => exact absurd rfl hn
    | 2 =>
      simp only [mp_c]
      refine congrArg (fun f => (some (Sum.inl (0, 3, f)) : Option ri_El)) (funext fun j => ?_)
      unfold mr_ar mp_w
      first | rw [e0] | rw [e1] | rw [e2]
      refine congrArg Int32.ofInt ?_
      unfold mx_w
      repeat' split
      all_goals first | rfl | omega
    | 3 =>
      simp only [mp_c]
      refine congrArg (fun f => (some (Sum.inl (0, 3, f)) : Option ri_El)) (funext fun j => ?_)
      unfold mr_ar mp_w
      first | rw [e0] | rw [e1] | rw [e2]
      refine congrArg Int32.ofInt ?_
      unfold mx_w
      repeat' split
      all_goals first | rfl | omega
    | 4 =>
      simp only [mp_c]
      refine congrArg (fun f => (some (Sum.inl (0, 3, f)) : Option ri_El)) (funext fun j => ?_)
      unfold mr_ar mp_w
      first | rw [e0] | rw [e1] | rw [e2]
      refine congrArg Int32.ofInt ?_
      unfold mx_w
      repeat' split
      all_goals first | rfl | omega
    | 5 =>
      simp only [mp_c]
      refine congrArg (fun f => (some (Sum.inl (0, 3, f)) : Option ri_El)) (funext fun j => ?_)
      unfold mr_ar mp_w
      first | rw [e0] | rw [e1] | rw [e2]
      refine congrArg Int32.ofInt ?_
      unfold mx_w
      repeat' split
      all_goals first | rfl | omega
    | 6 =>
      simp only [mp_c]
      refine congrArg (fun f => (some (Sum.inl (0, 3, f)) : Option ri_El)) (funext fun j => ?_)
      unfold mr_ar mp_w
      first | rw [e0] | rw [e1] | rw [e2]
      refine congrArg Int32.ofInt ?_
      unfold mx_w
      repeat' split
      all_goals first | rfl | omega
    | 7 =>
      simp only [mp_c]
      refine congrArg (fun f => (some (Sum.inl (0, 15, f)) : Option ri_El)) (funext fun j => ?_)
      unfold mr_ar mp_y
      first | rw [e0] | rw [e1] | rw [e2]
      refine congrArg Int32.ofInt ?_
      unfold mx_w
      repeat' split
      all_goals first | rfl | omega
    | 8 => simp (disch := omega) only [mp_c, e0, e1, e2, e9]
    | 9 =>
      simp only [mp_c]
      refine congrArg (fun f => (some (Sum.inl (0, 8, f)) : Option ri_El)) (funext fun j => ?_)
      unfold mr_ar mp_l
      first | rw [e0] | rw [e1] | rw [e2]
      refine congrArg Int32.ofInt ?_
      unfold mx_w
      repeat' split
      all_goals first | rfl | omega
    | 10 =>
      simp only [mp_c]
      refine congrArg (fun f => (some (Sum.inl (0, 8, f)) : Option ri_El)) (funext fun j => ?_)
      unfold mr_ar mp_l
      first | rw [e0] | rw [e1] | rw [e2]
      refine congrArg Int32.ofInt ?_
      unfold mx_w
      repeat' split
      all_goals first | rfl | omega
    | 11 => simp (disch := omega) only [mp_c, e0, e1, e2, e9]
    | 12 =>
      simp only [mp_c]
      refine congrArg (fun f => (some (Sum.inl (0, 5, f)) : Option ri_El)) (funext fun j => ?_)
      unfold mr_ar mp_f
      first | rw [e0] | rw [e1] | rw [e2]
      refine congrArg Int32.ofInt ?_
      unfold mx_w
      repeat' split
      all_goals first | rfl | omega
    | 13 =>
      simp only [mp_c]
      refine congrArg (fun f => (some (Sum.inl (0, 5, f)) : Option ri_El)) (funext fun j => ?_)
      unfold mr_ar mp_f
      first | rw [e0] | rw [e1] | rw [e2]
      refine congrArg Int32.ofInt ?_
      unfold mx_w
      repeat' split
      all_goals first | rfl | omega
    | 14 =>
      simp only [mp_c]
      refine congrArg (fun f => (some (Sum.inl (0, 5, f)) : Option ri_El)) (funext fun j => ?_)
      unfold mr_ar mp_f
      first | rw [e0] | rw [e1] | rw [e2]
      refine congrArg Int32.ofInt ?_
      unfold mx_w
      repeat' split
      all_goals first | rfl | omega
    | 15 =>
      simp only [mp_c]
      refine congrArg (fun f => (some (Sum.inl (0, 5, f)) : Option ri_El)) (funext fun j => ?_)
      unfold mr_ar mp_f
      first | rw [e0] | rw [e1] | rw [e2]
      refine congrArg Int32.ofInt ?_
      unfold mx_w
      repeat' split
      all_goals first | rfl | omega
    | 16 =>
      simp only [mp_c]
      refine congrArg (fun f => (some (Sum.inl (0, 5, f)) : Option ri_El)) (funext fun j => ?_)
      unfold mr_ar mp_f
      first | rw [e0] | rw [e1] | rw [e2]
      refine congrArg Int32.ofInt ?_
      unfold mx_w
      repeat' split
      all_goals first | rfl | omega
    | n + 17 => omega)
theorem mpn_l (hb : 0 ≤ R 0 ∧ R 0 ≤ 3 ∧ 0 ≤ R 1 ∧ R 1 ≤ 8 ∧ 0 ≤ R 2 ∧ R 2 ≤ 5) (hl : R 1 < 8) {v : Int} (hv : v = R 1 + 1) : ((ri_upd (mp B R Z σ).1 (B + 8) (.inr (.inr (2, [.int (Int32.ofInt v), .ref (B + 9), .ref (B + 10)]))), (mp B R Z σ).2) : ri_S) = mp B (mx_l R Z) Z σ :=
  mp_wr (o := 8) (by decide) (by subst hv; simp only [mp_c, mx_l, if_true]) (fun j hj hn => by
    have e0 : mx_l R Z 0 = R 0 := by unfold mx_l; rw [if_neg (by omega), if_neg (by omega)]
    have e1 : mx_l R Z 1 = R 1 + 1 := by unfold mx_l; rw [if_pos rfl]
    have e2 : mx_l R Z 2 = R 2 := by unfold mx_l; rw [if_neg (by omega), if_neg (by omega)]
    have e9 : ∀ i : Int, 3 ≤ i → i < 9 → mx_l R Z i = R i := fun i a b => by unfold mx_l; rw [if_neg (by omega), if_neg (by omega)]
    match j with
    | 0 => simp (disch := omega) only [mp_c, e0, e1, e2, e9]
    | 1 => simp (disch := omega) only [mp_c, e0, e1, e2, e9]
    | 2 =>
      simp only [mp_c]
      refine congrArg (fun f => (some (Sum.inl (0, 3, f)) : Option ri_El)) (funext fun j => ?_)
      unfold mr_ar mp_w
      first | rw [e0] | rw [e1] | rw [e2]
      refine congrArg Int32.ofInt ?_
      unfold mx_l
      repeat' split
      all_goals first | rfl | omega
    | 3 =>
      simp only [mp_c]
      refine congrArg (fun f => (some (Sum.inl (0, 3, f)) : Option ri_El)) (funext fun j => ?_)
      unfold mr_ar mp_w
      first | rw [e0] | rw [e1] | rw [e2]
      refine congrArg Int32.ofInt ?_
      unfold mx_l
      repeat' split
      all_goals first | rfl | omega
    | 4 =>
      simp only [mp_c]
      refine congrArg (fun f => (some (Sum.inl (0, 3, f)) : Option ri_El)) (funext fun j => ?_)
      unfold mr_ar mp_w
      first | rw [e0] | rw [e1] | rw [e2]
      refine congrArg Int32.ofInt ?_
      unfold mx_l
      repeat' split
      all_goals first | rfl | omega
    | 5 =>
      simp only [mp_c]
      refine congrArg (fun f => (some (Sum.inl (0, 3, f)) : Option ri_El)) (funext fun j => ?_)
      unfold mr_ar mp_w
      first | rw [e0] | rw [e1] | rw [e2]
      refine congrArg Int32.ofInt ?_
      unfold mx_l
      repeat' split
      all_goals first | rfl | omega
    | 6 =>
      simp only [mp_c]
      refine congrArg (fun f => (some (Sum.inl (0, 3, f)) : Option ri_El)) (funext fun j => ?_)
      unfold mr_ar mp_w
      first | rw [e0] | rw [e1] | rw [e2]
      refine congrArg Int32.ofInt ?_
      unfold mx_l
      repeat' split
      all_goals first | rfl | omega
    | 7 =>
      simp only [mp_c]
      refine congrArg (fun f => (some (Sum.inl (0, 15, f)) : Option ri_El)) (funext fun j => ?_)
      unfold mr_ar mp_y
      first | rw [e0] | rw [e1] | rw [e2]
      refine congrArg Int32.ofInt ?_
      unfold mx_l
      repeat' split
      all_goals first | rfl | omega
    | 8 => exact absurd rfl hn
    | 9 =>
      simp only [mp_c]
      refine congrArg (fun f => (some (Sum.inl (0, 8, f)) : Option ri_El)) (funext fun j => ?_)
      unfold mr_ar mp_l
      first | rw [e0] | rw [e1] | rw [e2]
      refine congrArg Int32.ofInt ?_
      unfold mx_l
      repeat' split
      all_goals first | rfl | omega
    | 10 =>
      simp only [mp_c]
      refine congrArg (fun f => (some (Sum.inl (0, 8, f)) : Option ri_El)) (funext fun j => ?_)
      unfold mr_ar mp_l
      first | rw [e0] | rw [e1] | rw [e2]
      refine congrArg Int32.ofInt ?_
      unfold mx_l
      repeat' split
      all_goals first | rfl | omega
    | 11 => simp (disch := omega) only [mp_c, e0, e1, e2, e9]
    | 12 =>
      simp only [mp_c]
      refine congrArg (fun f => (some (Sum.inl (0, 5, f)) : Option ri_El)) (funext fun j => ?_)
      unfold mr_ar mp_f
      first | rw [e0] | rw [e1] | rw [e2]
      refine congrArg Int32.ofInt ?_
      unfold mx_l
      repeat' split
      all_goals first | rfl | omega
    | 13 =>
      simp only [mp_c]
      refine congrArg (fun f => (some (Sum.inl (0, 5, f)) : Option ri_El)) (funext fun j => ?_)
      unfold mr_ar mp_f
      first | rw [e0] | rw [e1] | rw [e2]
      refine congrArg Int32.ofInt ?_
      unfold mx_l
      repeat' split
      all_goals first | rfl | omega
    | 14 =>
      simp only [mp_c]
      refine congrArg (fun f => (some (Sum.inl (0, 5, f)) : Option ri_El)) (funext fun j => ?_)
      unfold mr_ar mp_f
      first | rw [e0] | rw [e1] | rw [e2]
      refine congrArg Int32.ofInt ?_
      unfold mx_l
      repeat' split
      all_goals first | rfl | omega
    | 15 =>
      simp only [mp_c]
      refine congrArg (fun f => (some (Sum.inl (0, 5, f)) : Option ri_El)) (funext fun j => ?_)
      unfold mr_ar mp_f
      first | rw [e0] | rw [e1] | rw [e2]
      refine congrArg Int32.ofInt ?_
      unfold mx_l
      repeat' split
      all_goals first | rfl | omega
    | 16 =>
      simp only [mp_c]
      refine congrArg (fun f => (some (Sum.inl (0, 5, f)) : Option ri_El)) (funext fun j => ?_)
      unfold mr_ar mp_f
      first | rw [e0] | rw [e1] | rw [e2]
      refine congrArg Int32.ofInt ?_
      unfold mx_l
      repeat' split
      all_goals first | rfl | omega
    | n + 17 => omega)
theorem mpn_f (hb : 0 ≤ R 0 ∧ R 0 ≤ 3 ∧ 0 ≤ R 1 ∧ R 1 ≤ 8 ∧ 0 ≤ R 2 ∧ R 2 ≤ 5) (hl : R 2 < 5) {v : Int} (hv : v = R 2 + 1) : ((ri_upd (mp B R Z σ).1 (B + 11) (.inr (.inr (0, [.int (Int32.ofInt v), .ref (B + 12), .ref (B + 13), .ref (B + 14), .ref (B + 15), .ref (B + 16)]))), (mp B R Z σ).2) : ri_S) = mp B (mx_f R Z) Z σ :=
  mp_wr (o := 11) (by decide) (by subst hv; simp only [mp_c, mx_f, if_true]) (fun j hj hn => by
    have e0 : mx_f R Z 0 = R 0 := by unfold mx_f; rw [if_neg (by omega), if_neg (by omega)]
    have e1 : mx_f R Z 1 = R 1 := by unfold mx_f; rw [if_neg (by omega), if_neg (by omega)]
    have e2 : mx_f R Z 2 = R 2 + 1 := by unfold mx_f; rw [if_pos rfl]
    have e9 : ∀ i : Int, 3 ≤ i → i < 9 → mx_f R Z i = R i := fun i a b => by unfold mx_f; rw [if_neg (by omega), if_neg (by omega)]
    match j with
    | 0 => simp (disch := omega) only [mp_c, e0, e1, e2, e9]
    | 1 => simp (disch := omega) only [mp_c, e0, e1, e2, e9]
    | 2 =>
      simp only [mp_c]
      refine congrArg (fun f => (some (Sum.inl (0, 3, f)) : Option ri_El)) (funext fun j => ?_)
      unfold mr_ar mp_w
      first | rw [e0] | rw [e1] | rw [e2]
      refine congrArg Int32.ofInt ?_
      unfold mx_f
      repeat' split
      all_goals first | rfl | omega
    | 3 =>
      simp only [mp_c]
      refine congrArg (fun f => (some (Sum.inl (0, 3, f)) : Option ri_El)) (funext fun j => ?_)
      unfold mr_ar mp_w
      first | rw [e0] | rw [e1] | rw [e2]
      refine congrArg Int32.ofInt ?_
      unfold mx_f
      repeat' split
      all_goals first | rfl | omega
    | 4 =>
      simp only [mp_c]
      refine congrArg (fun f => (some (Sum.inl (0, 3, f)) : Option ri_El)) (funext fun j => ?_)
      unfold mr_ar mp_w
      first | rw [e0] | rw [e1] | rw [e2]
      refine congrArg Int32.ofInt ?_
      unfold mx_f
      repeat' split
      all_goals first | rfl | omega
    | 5 =>
      simp only [mp_c]
      refine congrArg (fun f => (some (Sum.inl (0, 3, f)) : Option ri_El)) (funext fun j => ?_)
      unfold mr_ar mp_w
      first | rw [e0] | rw [e1] | rw [e2]
      refine congrArg Int32.ofInt ?_
      unfold mx_f
      repeat' split
      all_goals first | rfl | omega
    | 6 =>
      simp only [mp_c]
      refine congrArg (fun f => (some (Sum.inl (0, 3, f)) : Option ri_El)) (funext fun j => ?_)
      unfold mr_ar mp_w
      first | rw [e0] | rw [e1] | rw [e2]
      refine congrArg Int32.ofInt ?_
      unfold mx_f
      repeat' split
      all_goals first | rfl | omega
    | 7 =>
      simp only [mp_c]
      refine congrArg (fun f => (some (Sum.inl (0, 15, f)) : Option ri_El)) (funext fun j => ?_)
      unfold mr_ar mp_y
      first | rw [e0] | rw [e1] | rw [e2]
      refine congrArg Int32.ofInt ?_
      unfold mx_f
      repeat' split
      all_goals first | rfl | omega
    | 8 => simp (disch := omega) only [mp_c, e0, e1, e2, e9]
    | 9 =>
      simp only [mp_c]
      refine congrArg (fun f => (some (Sum.inl (0, 8, f)) : Option ri_El)) (funext fun j => ?_)
      unfold mr_ar mp_l
      first | rw [e0] | rw [e1] | rw [e2]
      refine congrArg Int32.ofInt ?_
      unfold mx_f
      repeat' split
      all_goals first | rfl | omega
    | 10 =>
      simp only [mp_c]
      refine congrArg (fun f => (some (Sum.inl (0, 8, f)) : Option ri_El)) (funext fun j => ?_)
      unfold mr_ar mp_l
      first | rw [e0] | rw [e1] | rw [e2]
      refine congrArg Int32.ofInt ?_
      unfold mx_f
      repeat' split
      all_goals first | rfl | omega
    | 11 => exact absurd rfl hn
    | 12 =>
      simp only [mp_c]
      refine congrArg (fun f => (some (Sum.inl (0, 5, f)) : Option ri_El)) (funext fun j => ?_)
      unfold mr_ar mp_f
      first | rw [e0] | rw [e1] | rw [e2]
      refine congrArg Int32.ofInt ?_
      unfold mx_f
      repeat' split
      all_goals first | rfl | omega
    | 13 =>
      simp only [mp_c]
      refine congrArg (fun f => (some (Sum.inl (0, 5, f)) : Option ri_El)) (funext fun j => ?_)
      unfold mr_ar mp_f
      first | rw [e0] | rw [e1] | rw [e2]
      refine congrArg Int32.ofInt ?_
      unfold mx_f
      repeat' split
      all_goals first | rfl | omega
    | 14 =>
      simp only [mp_c]
      refine congrArg (fun f => (some (Sum.inl (0, 5, f)) : Option ri_El)) (funext fun j => ?_)
      unfold mr_ar mp_f
      first | rw [e0] | rw [e1] | rw [e2]
      refine congrArg Int32.ofInt ?_
      unfold mx_f
      repeat' split
      all_goals first | rfl | omega
    | 15 =>
      simp only [mp_c]
      refine congrArg (fun f => (some (Sum.inl (0, 5, f)) : Option ri_El)) (funext fun j => ?_)
      unfold mr_ar mp_f
      first | rw [e0] | rw [e1] | rw [e2]
      refine congrArg Int32.ofInt ?_
      unfold mx_f
      repeat' split
      all_goals first | rfl | omega
    | 16 =>
      simp only [mp_c]
      refine congrArg (fun f => (some (Sum.inl (0, 5, f)) : Option ri_El)) (funext fun j => ?_)
      unfold mr_ar mp_f
      first | rw [e0] | rw [e1] | rw [e2]
      refine congrArg Int32.ofInt ?_
      unfold mx_f
      repeat' split
      all_goals first | rfl | omega
    | n + 17 => omega)
/-- what stands beyond the counts and is not told apart -/
theorem mp_Z {Z2 : mr_R} (hw : ∀ w k : Int, R 0 ≤ w → w < 3 → 0 ≤ k → k < 10 → Z (9 + 10 * w + k) = Z2 (9 + 10 * w + k)) (hl : ∀ l k : Int, R 1 ≤ l → l < 8 → 0 ≤ k → k < 4 → Z (39 + 4 * l + k) = Z2 (39 + 4 * l + k)) (hf : ∀ f k : Int, R 2 ≤ f → f < 5 → 0 ≤ k → k < 5 → Z (71 + 5 * f + k) = Z2 (71 + 5 * f + k)) : mp B R Z σ = mp B R Z2 σ := by
  have aw : ∀ k : Int, 0 ≤ k → k < 5 → mr_ar (mp_w R Z k) = mr_ar (mp_w R Z2 k) := fun k h1 h2 => by
    funext j
    unfold mr_ar mp_w
    by_cases q : (j : Int) < R 0
    · rw [if_pos q, if_pos q]
    · rw [if_neg q, if_neg q]
      by_cases q2 : (j : Int) < 3
      · rw [if_pos q2, if_pos q2, hw _ _ (by omega) q2 h1 (by omega)]
      · rw [if_neg q2, if_neg q2]
  have ay : mr_ar (mp_y R Z) = mr_ar (mp_y R Z2) := by
    funext j
    unfold mr_ar mp_y
    by_cases q : (j : Int) / 5 < R 0
    · rw [if_pos q, if_pos q]
    · rw [if_neg q, if_neg q]
      by_cases q2 : (j : Int) < 15
      · rw [if_pos q2, if_pos q2, show 9 + 10 * ((j : Int) / 5) + 5 + (j : Int) % 5 = 9 + 10 * ((j : Int) / 5) + (5 + (j : Int) % 5) by omega, hw _ _ (by omega) (by omega) (by omega) (by omega)]
      · rw [if_neg q2, if_neg q2]
  have al : ∀ k : Int, 0 ≤ k → k < 3 → mr_ar (mp_l R Z k) = mr_ar (mp_l R Z2 k) := fun k h1 h2 => by
    funext j
    unfold mr_ar mp_l
    by_cases q : (j : Int) < R 1
    · rw [if_pos q, if_pos q]
    · rw [if_neg q, if_neg q]
      by_cases q2 : (j : Int) < 8
      · rw [if_pos q2, if_pos q2, hl _ _ (by omega) q2 h1 (by omega), show 39 + 4 * (j : Int) + k + 1 = 39 + 4 * (j : Int) + (k + 1) by omega, hl _ _ (by omega) q2 (by omega) (by omega)]
      · rw [if_neg q2, if_neg q2]
  have af : ∀ k : Int, 0 ≤ k → k < 5 → mr_ar (mp_f R Z k) = mr_ar (mp_f R Z2 k) := fun k h1 h2 => by
    funext j
    unfold mr_ar mp_f
    by_cases q : (j : Int) < R 2
    · rw [if_pos q, if_pos q]
    · rw [if_neg q, if_neg q]
      by_cases q2 : (j : Int) < 5
      · rw [if_pos q2, if_pos q2, hf _ _ (by omega) q2 h1 (by omega)]
      · rw [if_neg q2, if_neg q2]
  refine mp_cx fun o ho => ?_
  match o with
  | 0 => rfl
  | 1 => rfl
  | 2 => rw [mp_c, mp_c, aw 0 (by decide) (by decide)]
  | 3 => rw [mp_c, mp_c, aw 1 (by decide) (by decide)]
  | 4 => rw [mp_c, mp_c, aw 2 (by decide) (by decide)]
  | 5 => rw [mp_c, mp_c, aw 3 (by decide) (by decide)]
  | 6 => rw [mp_c, mp_c, aw 4 (by decide) (by decide)]
  | 7 => rw [mp_c, mp_c, ay]
  | 8 => rfl
  | 9 => rw [mp_c, mp_c, al 0 (by decide) (by decide)]
  | 10 => rw [mp_c, mp_c, al 2 (by decide) (by decide)]
  | 11 => rfl
  | 12 => rw [mp_c, mp_c, af 0 (by decide) (by decide)]
  | 13 => rw [mp_c, mp_c, af 1 (by decide) (by decide)]
  | 14 => rw [mp_c, mp_c, af 2 (by decide) (by decide)]
  | 15 => rw [mp_c, mp_c, af 3 (by decide) (by decide)]
  | 16 => rw [mp_c, mp_c, af 4 (by decide) (by decide)]
  | n + 17 => omega
end MPD
