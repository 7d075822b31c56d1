/-! The model finds all standings. -/
/-- the state while it searches: all but the trial, far and row as they were -/
def wm (A0 A : Nat → mr_R) (z : bf_Z) : Prop := (∀ j, j ≠ 3 → j ≠ 7 → j ≠ 8 → A j = A0 j) ∧ A 7 = z.1 ∧ A 8 = z.2.1
section MMB
variable {M : Nat} {S : mr_R} {A : Nat → mr_R} {σ : ri_S} {K K2 : Int}
theorem h217f {f : Int} {l3 l4 : Option Value} : ∀ (n : Nat) (s : Int), 0 ≤ s → s + n = 1875 → ev 217 (2, [some (.ref M), some (.int (Int32.ofInt f)), some (.int (Int32.ofInt s)), l3, l4], []) (mm M S (ms_a A 7 (mc_fl (A 7) s (-1))) σ) = ev 217 (22, [some (.ref M), some (.int (Int32.ofInt f)), some (.int (Int32.ofInt 1875)), l3, l4], []) (mm M S (ms_a A 7 (mc_fl (A 7) 1875 (-1))) σ) := by
  intro n
  induction n with
  | zero =>
    intro s h1 h2
    obtain rfl : s = 1875 := by omega
    rw [H_217_2]
    simp (disch := omega) only [Int.reduceAdd, Int.reduceMul, Int.reduceSub, Int.reduceNeg, na_add, na_sub, na_mul, na_neg, na_lt, na_le, na_eq, na_ofNat, bo_some, tl_some, tl_none, rc_int, rc_ref, rc_null, rc_none, rc_long, tb_0, tb_1, ↓mr_g0, mr_r0, mr_get, mr_upd, mr_at, mr_wr, Classical.not_not, not_true_eq_false, not_false_eq_true, na_l0, na_l1, na_l2, na_l3, na_l4, na_l5, na_l6, na_l7, na_l8, na_l9, na_l10, na_l14, na_l15, na_l16, na_l25, na_l30, na_l31, na_l32, na_l33, na_l39, na_l43, na_l45, na_l48, na_l49, na_l50, na_l51, na_l52, na_l53, na_l55, na_l56, na_l57, na_l60, na_l64, na_l71, na_l80, na_l96, na_l100, na_l101, na_l102, na_l103, na_l104, na_l105, na_l106, na_l107, na_l108, na_l109, na_l110, na_l111, na_l112, na_l113, na_l114, na_l115, na_l116, na_l117, na_l118, na_l119, na_l120, na_l121, na_l125, na_l128, na_l150, na_l192, na_l255, na_l999, na_l1000, na_l1248, na_l1344, na_l1875, na_l10000, ↓reduceIte, pf_and, pe_le, pf_le, pe_lt, pf_lt, pe_eq, pf_eq, true_and, and_true, false_and, and_false, true_or, or_true, false_or, or_false, I_217_0, I_217_1, I_217_2]
  | succ n ih =>
    intro s h1 h2
    have hn := ih (s + 1) (by omega) (by omega)
    have e : mr_st (mc_fl (A 7) s (-1)) s (-1) = mc_fl (A 7) (s + 1) (-1) := by
      funext i
      unfold mr_st mc_fl
      by_cases e : i = s
      · rw [if_pos e, if_pos (by omega)]
      · rw [if_neg e]
        by_cases e2 : 0 ≤ i ∧ i < s
        · rw [if_pos e2, if_pos (by omega)]
        · rw [if_neg e2, if_neg (by omega)]
    rw [H_217_2]
    simp (disch := omega) only [Int.reduceAdd, Int.reduceMul, Int.reduceSub, Int.reduceNeg, na_add, na_sub, na_mul, na_neg, na_lt, na_le, na_eq, na_ofNat, bo_some, tl_some, tl_none, rc_int, rc_ref, rc_null, rc_none, rc_long, tb_0, tb_1, ↓mr_g0, mr_r0, mr_get, mr_upd, mr_at, mr_wr, Classical.not_not, not_true_eq_false, not_false_eq_true, na_l0, na_l1, na_l2, na_l3, na_l4, na_l5, na_l6, na_l7, na_l8, na_l9, na_l10, na_l14, na_l15, na_l16, na_l25, na_l30, na_l31, na_l32, na_l33, na_l39, na_l43, na_l45, na_l48, na_l49, na_l50, na_l51, na_l52, na_l53, na_l55, na_l56, na_l57, na_l60, na_l64, na_l71, na_l80, na_l96, na_l100, na_l101, na_l102, na_l103, na_l104, na_l105, na_l106, na_l107, na_l108, na_l109, na_l110, na_l111, na_l112, na_l113, na_l114, na_l115, na_l116, na_l117, na_l118, na_l119, na_l120, na_l121, na_l125, na_l128, na_l150, na_l192, na_l255, na_l999, na_l1000, na_l1248, na_l1344, na_l1875, na_l10000, ↓reduceIte, pf_and, pe_le, pf_le, pe_lt, pf_lt, pe_eq, pf_eq, true_and, and_true, false_and, and_false, true_or, or_true, false_or, or_false, ↓mmk, ↓mmo_0, ↓mmo_1, ↓mmo_2, ↓mmo_3, ↓mmo_4, ↓mmo_5, ↓mmo_6, ↓mmo_7, ↓mmo_8, ↓mmo_9, ↓mmo_10, ↓mmo_11, ↓mmo_12, ↓mmv_0, ↓mmv_2, ↓mmv_6, ↓mmv_11, ↓mmv_12, ↓mmg_1, ↓mmg_2, ↓mmg_3, ↓mmg_4, ↓mmg_5, ↓mmg_6, ↓mmg_7, ↓mmg_8, mma_1, mma_2, mma_3, mma_4, mma_5, mma_6, mma_7, mma_8, mmu_0, mmu_2, mmu_6, mmu_11, mmu_12, sa_eq, sa_ne, sa_up, I_217_0, I_217_1, I_217_2, e, hn]
theorem h217s {A0 : Nat → mr_R} {R : mr_R} {f i y u s0 : Int} {z : bf_Z} (hi : mi K (A 3)) (hR : mi K2 R) (hk : K + 20 ≤ 1000000) (hk2 : K2 + 20 ≤ 1000000) (h8 : R 8 = 0) (hq : sq R f (A 3)) (h1 : 0 ≤ f) (h2 : f < R 2) (hg : sm_g R f s0) (hw : wm A0 A z) (hJ : bf_J 1875 (sm_x R f) (fun _ => 10) s0 i y z) (hiz : i < z.2.2) (hu : z.2.1 i = u) (y1 : 0 ≤ y) (y2 : y < 10) : ∃ A2, wm A0 A2 (bf_1 (sm_x R f) u y z) ∧ mi (K + 20) (A2 3) ∧ sq R f (A2 3) ∧ ev 217 (78, [some (.ref M), some (.int (Int32.ofInt f)), some (.int (Int32.ofInt z.2.2)), some (.int (Int32.ofInt i)), some (.int (Int32.ofInt y))], []) (mm M S A σ) = ev 217 (78, [some (.ref M), some (.int (Int32.ofInt f)), some (.int (Int32.ofInt (bf_1 (sm_x R f) u y z).2.2)), some (.int (Int32.ofInt i)), some (.int (Int32.ofInt (y + 1)))], []) (mm M S A2 σ) := by
  have hc := hi.c
  have hb2 : R 2 ≤ 5 := by rw [← hq.1.2.2.1]; omega
  have hG := sm_G hR hk2 h8 h1 h2 hg
  have hle := bf_le hJ (by omega)
  have hs2 := bf_step hG hJ hiz y1 y2
  have hle2 := bf_le hs2 (by omega)
  rw [hu] at hle2
  have hj := hJ.2.2.1 i hJ.1.1 hiz
  have hi0 := hJ.1.1
  rw [hu] at hj
  have hgu : sm_g R f u := sm_gD hR hk2 h8 h1 h2 hg _ _ hj.2.2.2.2
  obtain ⟨t1, t2, t3⟩ := sm_stand hi hq hgu h1 h2
  have h2t : f < (sm_st (A 3) f u) 2 := by rw [t2.1.2.2.1]; exact h2
  have hcx := sm_can_x t1 hR hk h8 t2 h1 h2 t3 y1 y2
  have hgo := sm_goes t1 hR hk h8 t2 h1 h2 t3 y1 y2
  have e8 : A 8 i = u := by rw [hw.2.2]; exact hu
  have e7u : A 7 u = z.1 u := by rw [hw.2.1]
  have s215 := c215 (M := M) (S := S) (A := A) (σ := σ) (f := f) (s := u) h1 (by omega) hj.1 hj.2.1
  have s216 := c216 (M := M) (S := S) (A := ms_a A 3 (sm_st (A 3) f u)) (σ := σ) (f := f) (y := y) (K := K) (by rw [sa_eq rfl]; exact t1) hk h1 (by rw [sa_eq rfl]; exact h2t) y1 y2
  rw [sa_eq rfl, sa_up] at s216
  by_cases c : sm_can (sm_st (A 3) f u) f y
  · obtain ⟨g1, g2, g3⟩ := hgo.1 c
    have e216 := s216.1 c
    have hx := hcx.mp c
    have h2g : f < (sm_go (sm_st (A 3) f u) f y) 2 := by rw [g2.1.2.2.1]; exact h2
    have s214 := c214 (M := M) (S := S) (A := ms_a A 3 (sm_go (sm_st (A 3) f u) f y)) (σ := σ) (f := f) (K := K + 20) (by rw [sa_eq rfl]; exact g1) h1 (by rw [sa_eq rfl]; exact h2g)
    have s214b := fun (Y : mr_R) => c214 (M := M) (S := S) (A := ms_a (ms_a A 3 (sm_go (sm_st (A 3) f u) f y)) 7 Y) (σ := σ) (f := f) (K := K + 20) (by rw [sa_ne (by decide), sa_eq rfl]; exact g1) h1 (by rw [sa_ne (by decide), sa_eq rfl]; exact h2g)
    have s37 : ∀ Y : mr_R, (ms_a (ms_a A 3 (sm_go (sm_st (A 3) f u) f y)) 7 Y) 3 = sm_go (sm_st (A 3) f u) f y := fun Y => by rw [sa_ne (by decide), sa_eq rfl]
    simp only [s37, g3] at s214b
    rw [sa_eq rfl, g3] at s214
    have bx := hG _ _ y hj.2.2.2.2 y1 y2 hx
    unfold bf_1 at hle2 ⊢
    obtain ⟨v, hv⟩ : ∃ v, sm_x R f u y = v := ⟨_, rfl⟩
    rw [hv] at s214 hx bx hle2 ⊢
    simp only [hv] at s214b
    by_cases q : z.1 v = -1
    · rw [if_pos ⟨hx, q⟩] at hle2 ⊢
      simp only at hle2
      have e7v : A 7 v = -1 := by rw [hw.2.1]; exact q
      refine ⟨ms_a (ms_a (ms_a A 3 (sm_go (sm_st (A 3) f u) f y)) 7 (mr_st z.1 v (z.1 u + 1))) 8 (mr_st z.2.1 z.2.2 v), ⟨fun j j1 j2 j3 => by rw [sa_ne j3, sa_ne j2, sa_ne j1]; exact hw.1 j j1 j2 j3, by rw [sa_ne (by decide), sa_eq rfl], by rw [sa_eq rfl]⟩, by rw [sa_ne (by decide), sa_ne (by decide), sa_eq rfl]; exact g1, by rw [sa_ne (by decide), sa_ne (by decide), sa_eq rfl]; exact g2, ?_⟩
      have e7 : A 7 = z.1 := hw.2.1
      have e88 : A 8 = z.2.1 := hw.2.2
      rw [H_217_78]
      simp (disch := first | omega | decide) only [Int.reduceAdd, Int.reduceMul, Int.reduceSub, Int.reduceNeg, na_add, na_sub, na_mul, na_neg, na_lt, na_le, na_eq, na_ofNat, bo_some, tl_some, tl_none, rc_int, rc_ref, rc_null, rc_none, rc_long, tb_0, tb_1, ↓mr_g0, mr_r0, mr_get, mr_upd, mr_at, mr_wr, Classical.not_not, not_true_eq_false, not_false_eq_true, na_l0, na_l1, na_l2, na_l3, na_l4, na_l5, na_l6, na_l7, na_l8, na_l9, na_l10, na_l14, na_l15, na_l16, na_l25, na_l30, na_l31, na_l32, na_l33, na_l39, na_l43, na_l45, na_l48, na_l49, na_l50, na_l51, na_l52, na_l53, na_l55, na_l56, na_l57, na_l60, na_l64, na_l71, na_l80, na_l96, na_l100, na_l101, na_l102, na_l103, na_l104, na_l105, na_l106, na_l107, na_l108, na_l109, na_l110, na_l111, na_l112, na_l113, na_l114, na_l115, na_l116, na_l117, na_l118, na_l119, na_l120, na_l121, na_l125, na_l128, na_l150, na_l192, na_l255, na_l999, na_l1000, na_l1248, na_l1344, na_l1875, na_l10000, ↓reduceIte, pf_and, pe_le, pf_le, pe_lt, pf_lt, pe_eq, pf_eq, true_and, and_true, false_and, and_false, true_or, or_true, false_or, or_false, ↓mmk, ↓mmo_0, ↓mmo_1, ↓mmo_2, ↓mmo_3, ↓mmo_4, ↓mmo_5, ↓mmo_6, ↓mmo_7, ↓mmo_8, ↓mmo_9, ↓mmo_10, ↓mmo_11, ↓mmo_12, ↓mmv_0, ↓mmv_2, ↓mmv_6, ↓mmv_11, ↓mmv_12, ↓mmg_1, ↓mmg_2, ↓mmg_3, ↓mmg_4, ↓mmg_5, ↓mmg_6, ↓mmg_7, ↓mmg_8, mma_1, mma_2, mma_3, mma_4, mma_5, mma_6, mma_7, mma_8, mmu_0, mmu_2, mmu_6, mmu_11, mmu_12, sa_eq, sa_ne, sa_up, I_217_0, I_217_1, I_217_2, e8, s215, e216, s214, s214b, e7v, e7u]
      rw [e7, e88]
    · rw [if_neg (fun a => q a.2)] at hle2 ⊢
      have e7v : A 7 v = z.1 v := by rw [hw.2.1]
      have hjv := hJ.2.2.2.1 v bx.1 bx.2 q
      obtain ⟨j, j1, j2, j3⟩ := hjv
      have hjb := hJ.2.2.1 j j1 j2
      rw [j3] at hjb
      refine ⟨ms_a A 3 (sm_go (sm_st (A 3) f u) f y), ⟨fun j j1 j2 j3 => by rw [sa_ne j1]; exact hw.1 j j1 j2 j3, by rw [sa_ne (by decide)]; exact hw.2.1, by rw [sa_ne (by decide)]; exact hw.2.2⟩, by rw [sa_eq rfl]; exact g1, by rw [sa_eq rfl]; exact g2, ?_⟩
      rw [H_217_78]
      simp (disch := first | omega | decide) only [Int.reduceAdd, Int.reduceMul, Int.reduceSub, Int.reduceNeg, na_add, na_sub, na_mul, na_neg, na_lt, na_le, na_eq, na_ofNat, bo_some, tl_some, tl_none, rc_int, rc_ref, rc_null, rc_none, rc_long, tb_0, tb_1, ↓mr_g0, mr_r0, mr_get, mr_upd, mr_at, mr_wr, Classical.not_not, not_true_eq_false, not_false_eq_true, na_l0, na_l1, na_l2, na_l3, na_l4, na_l5, na_l6, na_l7, na_l8, na_l9, na_l10, na_l14, na_l15, na_l16, na_l25, na_l30, na_l31, na_l32, na_l33, na_l39, na_l43, na_l45, na_l48, na_l49, na_l50, na_l51, na_l52, na_l53, na_l55, na_l56, na_l57, na_l60, na_l64, na_l71, na_l80, na_l96, na_l100, na_l101, na_l102, na_l103, na_l104, na_l105, na_l106, na_l107, na_l108, na_l109, na_l110, na_l111, na_l112, na_l113, na_l114, na_l115, na_l116, na_l117, na_l118, na_l119, na_l120, na_l121, na_l125, na_l128, na_l150, na_l192, na_l255, na_l999, na_l1000, na_l1248, na_l1344, na_l1875, na_l10000, ↓reduceIte, pf_and, pe_le, pf_le, pe_lt, pf_lt, pe_eq, pf_eq, true_and, and_true, false_and, and_false, true_or, or_true, false_or, or_false, ↓mmk, ↓mmo_0, ↓mmo_1, ↓mmo_2, ↓mmo_3, ↓mmo_4, ↓mmo_5, ↓mmo_6, ↓mmo_7, ↓mmo_8, ↓mmo_9, ↓mmo_10, ↓mmo_11, ↓mmo_12, ↓mmv_0, ↓mmv_2, ↓mmv_6, ↓mmv_11, ↓mmv_12, ↓mmg_1, ↓mmg_2, ↓mmg_3, ↓mmg_4, ↓mmg_5, ↓mmg_6, ↓mmg_7, ↓mmg_8, mma_1, mma_2, mma_3, mma_4, mma_5, mma_6, mma_7, mma_8, mmu_0, mmu_2, mmu_6, mmu_11, mmu_12, sa_eq, sa_ne, sa_up, I_217_0, I_217_1, I_217_2, e8, s215, e216, s214, e7v, q]
  · have e216 := s216.2 c
    have hx : sm_x R f u y = -1 := hgo.2 c
    unfold bf_1 at hle2 ⊢
    rw [if_neg (fun a => a.1 hx)] at hle2 ⊢
    refine ⟨ms_a A 3 (sm_st (A 3) f u), ⟨fun j j1 j2 j3 => by rw [sa_ne j1]; exact hw.1 j j1 j2 j3, by rw [sa_ne (by decide)]; exact hw.2.1, by rw [sa_ne (by decide)]; exact hw.2.2⟩, by rw [sa_eq rfl]; exact mi_mono t1 (by omega) hk, by rw [sa_eq rfl]; exact t2, ?_⟩
    rw [H_217_78]
    simp (disch := first | omega | decide) only [Int.reduceAdd, Int.reduceMul, Int.reduceSub, Int.reduceNeg, na_add, na_sub, na_mul, na_neg, na_lt, na_le, na_eq, na_ofNat, bo_some, tl_some, tl_none, rc_int, rc_ref, rc_null, rc_none, rc_long, tb_0, tb_1, ↓mr_g0, mr_r0, mr_get, mr_upd, mr_at, mr_wr, Classical.not_not, not_true_eq_false, not_false_eq_true, na_l0, na_l1, na_l2, na_l3, na_l4, na_l5, na_l6, na_l7, na_l8, na_l9, na_l10, na_l14, na_l15, na_l16, na_l25, na_l30, na_l31, na_l32, na_l33, na_l39, na_l43, na_l45, na_l48, na_l49, na_l50, na_l51, na_l52, na_l53, na_l55, na_l56, na_l57, na_l60, na_l64, na_l71, na_l80, na_l96, na_l100, na_l101, na_l102, na_l103, na_l104, na_l105, na_l106, na_l107, na_l108, na_l109, na_l110, na_l111, na_l112, na_l113, na_l114, na_l115, na_l116, na_l117, na_l118, na_l119, na_l120, na_l121, na_l125, na_l128, na_l150, na_l192, na_l255, na_l999, na_l1000, na_l1248, na_l1344, na_l1875, na_l10000, ↓reduceIte, pf_and, pe_le, pf_le, pe_lt, pf_lt, pe_eq, pf_eq, true_and, and_true, false_and, and_false, true_or, or_true, false_or, or_false, ↓mmk, ↓mmo_0, ↓mmo_1, ↓mmo_2, ↓mmo_3, ↓mmo_4, ↓mmo_5, ↓mmo_6, ↓mmo_7, ↓mmo_8, ↓mmo_9, ↓mmo_10, ↓mmo_11, ↓mmo_12, ↓mmv_0, ↓mmv_2, ↓mmv_6, ↓mmv_11, ↓mmv_12, ↓mmg_1, ↓mmg_2, ↓mmg_3, ↓mmg_4, ↓mmg_5, ↓mmg_6, ↓mmg_7, ↓mmg_8, mma_1, mma_2, mma_3, mma_4, mma_5, mma_6, mma_7, mma_8, mmu_0, mmu_2, mmu_6, mmu_11, mmu_12, sa_eq, sa_ne, sa_up, I_217_0, I_217_1, I_217_2, e8, s215, e216]
end MMB
