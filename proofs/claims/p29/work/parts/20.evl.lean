/-! The equations by which a method's reading goes on, one for each kind of step. -/
def tv_n (c : Option ri_El) (K : Nat → Option ri_R) : Option ri_R := match c with
  | some (.inl (0, n, _)) => K n
  | some (.inr (.inl (n, _))) => K n
  | _ => none
def tv_j (o : Option Nat) (K : Nat → Option ri_R) : Option ri_R := match o with
  | some j => K j
  | none => none
def tv_r (z : Nat) (c : Option ri_El) (i : Int32) (K : Nat → (Nat → Int32) → Nat → Option ri_R) : Option ri_R := match c with
  | some (.inl (z2, n, f)) => if Nat.beq z2 z = true then tv_j (ri_ix i n) (K n f) else none
  | _ => none
def tv_q (c : Option ri_El) (i : Int32) (K : Nat → (Nat → Option Nat) → Nat → Option ri_R) : Option ri_R := match c with
  | some (.inr (.inl (n, f))) => tv_j (ri_ix i n) (K n f)
  | _ => none
def tv_v : Option Nat → Value
  | none => .null
  | some b => .ref b
def tv_o (ci j : Nat) (c : Option ri_El) (K : Value → Option ri_R) : Option ri_R := match c with
  | some (.inr (.inr (c2, fs))) => if Nat.beq c2 ci = true then (match fs[j]? with
    | some v => K v
    | none => none) else none
  | _ => none
def tv_w (ci j : Nat) (c : Option ri_El) (v : Value) (K : List Value → Option ri_R) : Option ri_R := match c with
  | some (.inr (.inr (c2, fs))) => if Nat.beq c2 ci = true then (match fs[j]? with
    | some _ => K (fs.set j v)
    | none => none) else none
  | _ => none
def tv_k (ci : Nat) (c : Option ri_El) (X : Option ri_R) : Option ri_R := match c with
  | some (.inr (.inr (c2, _))) => if Nat.beq c2 ci = true then X else none
  | _ => none
def tv_b (x : Int32) (X : Option ri_R) : Option ri_R := if x = 0 ∨ x = 1 then X else none
def tv_c (c1 c2 : Option ri_El) (sp dp n : Int32) (K : Nat → (Nat → Int32) → Option ri_R) : Option ri_R := match c1, c2 with
  | some (.inl (0, n0, f)), some (.inl (0, n1, g)) => if ¬ sp < 0 ∧ ¬ dp < 0 ∧ ¬ n < 0 ∧ sp.toNatClampNeg + n.toNatClampNeg ≤ n0 ∧ dp.toNatClampNeg + n.toNatClampNeg ≤ n1 then K n1 (va_cpy f g sp.toNatClampNeg dp.toNatClampNeg n.toNatClampNeg) else none
  | _, _ => none
section RIEVL
variable {k pc : Nat} {L : ri_L} {st : List Value} {σ : ri_S}
theorem ev_p {f : ri_F → Option ri_F} {fr2 : ri_F} (h : TT k pc = some (.inl (ri_pu f))) (h2 : f (pc, L, st) = some fr2) : ev k (pc, L, st) σ = ev k fr2 σ := by
  unfold ev
  rw [ri_ev_step h]
  unfold ri_pu
  rw [h2]
  rfl
theorem ev_x {f : ri_F → Option ri_F} (h : TT k pc = some (.inl (ri_pu f))) : ev k (pc, L, st) σ = (f (pc, L, st)).bind fun fr2 => ev k fr2 σ := by
  unfold ev
  rw [ri_ev_step h]
  unfold ri_pu
  cases f (pc, L, st) <;> rfl
theorem ev_b {f : ri_F → Option ri_F} {c : Prop} {dc : Decidable c} {a b : ri_F} (h : TT k pc = some (.inl (ri_pu f))) (h2 : f (pc, L, st) = if decide c = true then some a else some b) : ev k (pc, L, st) σ = if c then ev k a σ else ev k b σ := by
  rw [ev_x h, h2]
  by_cases hc : c
  · rw [if_pos hc, if_pos (decide_eq_true hc)]; rfl
  · rw [if_neg hc, if_neg (by rw [decide_eq_false hc]; simp)]; rfl
theorem ev_d {f : ri_F → Option ri_F} {y : Int32} {a : ri_F} (h : TT k pc = some (.inl (ri_pu f))) (h2 : f (pc, L, st) = if y = 0 then none else some a) : ev k (pc, L, st) σ = if y = 0 then none else ev k a σ := by
  rw [ev_x h, h2]
  by_cases hc : y = 0
  · rw [if_pos hc, if_pos hc]; rfl
  · rw [if_neg hc, if_neg hc]; rfl
theorem ev_dl {f : ri_F → Option ri_F} {y : Int64} {a : ri_F} (h : TT k pc = some (.inl (ri_pu f))) (h2 : f (pc, L, st) = if y = 0 then none else some a) : ev k (pc, L, st) σ = if y = 0 then none else ev k a σ := by
  rw [ev_x h, h2]
  by_cases hc : y = 0
  · rw [if_pos hc, if_pos hc]; rfl
  · rw [if_neg hc, if_neg hc]; rfl
theorem ev_tab {t : Nat} {ts : List Nat} {lo x : Int32} {d : Nat} : ev k (ri_tab (t :: ts) lo d x, L, st) σ = if x = lo then ev k (t, L, st) σ else ev k (ri_tab ts (lo + 1) d x, L, st) σ := by
  unfold ri_tab
  by_cases hc : x = lo
  · rw [if_pos hc, if_pos hc]
  · rw [if_neg hc, if_neg hc]
    cases ts <;> rfl
theorem ev_tab0 {lo x : Int32} {d : Nat} : ev k (ri_tab [] lo d x, L, st) σ = ev k (d, L, st) σ := rfl
theorem ev_sw {lo x : Int32} {ts : List Nat} {d : Nat} (h : TT k pc = some (.inl (ri_pu (ri_switch lo ts d)))) : ev k (pc, L, .int x :: st) σ = ev k (ri_tab ts lo d x, L, st) σ := ev_p h rfl
theorem ev_r {rk : Nat} {X : Option ri_R} (h : TT k pc = some (.inr (.inr rk))) (h2 : ri_stp (some (.inr (.inr rk))) (pc, L, st) σ (fun _ _ => none) (fun _ _ => none) = X) : ev k (pc, L, st) σ = X := by
  unfold ev
  rw [ri_ev_fin (fr := (pc, L, st)) h, h2]
theorem ev_h {op : ri_Op} (h : TT k pc = some (.inl op)) : ev k (pc, L, st) σ = (op (pc, L, st) σ).bind fun q => ev k q.1 q.2 := by
  unfold ev
  exact ri_ev_step h
theorem ev_getf {ci j a : Nat} (h : TT k pc = some (.inl (ri_getf ci j))) : ev k (pc, L, .ref a :: st) σ = tv_o ci j (σ.1 a) fun v => ev k (pc + 3, L, v :: st) σ := by
  rw [ev_h h]
  unfold ri_getf tv_o
  dsimp only
  rcases σ.1 a with _ | q | q | ⟨c2, fs⟩
  · rfl
  · rfl
  · rfl
  · dsimp only
    cases hb : Nat.beq c2 ci
    · rfl
    · cases fs[j]? <;> rfl
theorem ev_puti {ci j a : Nat} {x : Int32} (h : TT k pc = some (.inl (ri_puti ci j))) : ev k (pc, L, .int x :: .ref a :: st) σ = tv_w ci j (σ.1 a) (.int x) fun fs => ev k (pc + 3, L, st) (ri_upd σ.1 a (.inr (.inr (ci, fs))), σ.2) := by
  rw [ev_h h]
  unfold ri_puti ri_putw tv_w
  dsimp only
  rcases σ.1 a with _ | q | q | ⟨c2, fs⟩
  · rfl
  · rfl
  · rfl
  · dsimp only
    cases hb : Nat.beq c2 ci
    · rfl
    · cases fs[j]? <;> rfl
theorem ev_putr {ci j a : Nat} {x : Nat} (h : TT k pc = some (.inl (ri_putr ci j))) : ev k (pc, L, .ref x :: .ref a :: st) σ = tv_w ci j (σ.1 a) (.ref x) fun fs => ev k (pc + 3, L, st) (ri_upd σ.1 a (.inr (.inr (ci, fs))), σ.2) := by
  rw [ev_h h]
  unfold ri_putr ri_putw tv_w
  dsimp only
  rcases σ.1 a with _ | q | q | ⟨c2, fs⟩
  · rfl
  · rfl
  · rfl
  · dsimp only
    cases hb : Nat.beq c2 ci
    · rfl
    · cases fs[j]? <;> rfl
theorem ev_alen {a : Nat} (h : TT k pc = some (.inl ri_alen)) : ev k (pc, L, .ref a :: st) σ = tv_n (σ.1 a) fun n => ev k (pc + 1, L, .int (Int32.ofNat n) :: st) σ := by
  rw [ev_h h]
  unfold ri_alen tv_n
  dsimp only
  rcases σ.1 a with _ | ⟨z2, n, f⟩ | ⟨n, f⟩ | q
  · rfl
  · cases z2 <;> rfl
  · rfl
  · rfl
theorem tv_beq {z2 z : Nat} (h : ¬ z2 = z) : ¬ Nat.beq z2 z = true := fun q => h (Nat.eq_of_beq_eq_true q)
theorem ev_iald {a : Nat} {i : Int32} (h : TT k pc = some (.inl ri_iald)) : ev k (pc, L, .int i :: .ref a :: st) σ = tv_r 0 (σ.1 a) i fun _ f j => ev k (pc + 1, L, .int (f j) :: st) σ := by
  rw [ev_h h]
  unfold ri_iald tv_r
  dsimp only
  rcases σ.1 a with _ | ⟨z2, n, f⟩ | q
  · rfl
  · cases z2 with
    | zero =>
      show Option.bind (match ri_ix i n with
        | some j => some ((pc + 1, L, .int (f j) :: st), σ)
        | none => none) (fun q => ev k q.1 q.2) = tv_j (ri_ix i n) _
      cases ri_ix i n <;> rfl
    | succ z => rfl
  · rfl
theorem ev_zald {a : Nat} {i : Int32} (h : TT k pc = some (.inl ri_zald)) : ev k (pc, L, .int i :: .ref a :: st) σ = tv_r 1 (σ.1 a) i fun _ f j => ev k (pc + 1, L, .int (f j) :: st) σ := by
  rw [ev_h h]
  unfold ri_zald tv_r
  dsimp only
  rcases σ.1 a with _ | ⟨z2, n, f⟩ | q
  · rfl
  · match z2 with
    | 0 => rfl
    | 1 =>
      show Option.bind (match ri_ix i n with
        | some j => some ((pc + 1, L, .int (f j) :: st), σ)
        | none => none) (fun q => ev k q.1 q.2) = tv_j (ri_ix i n) _
      cases ri_ix i n <;> rfl
    | z + 2 => rfl
  · rfl
theorem ev_iast {a : Nat} {i x : Int32} (h : TT k pc = some (.inl ri_iast)) : ev k (pc, L, .int x :: .int i :: .ref a :: st) σ = tv_r 0 (σ.1 a) i fun n f j => ev k (pc + 1, L, st) (ri_upd σ.1 a (.inl (0, n, upd f j x)), σ.2) := by
  rw [ev_h h]
  unfold ri_iast tv_r
  dsimp only
  rcases σ.1 a with _ | ⟨z2, n, f⟩ | q
  · rfl
  · cases z2 with
    | zero =>
      show Option.bind (match ri_ix i n with
        | some j => some ((pc + 1, L, st), (ri_upd σ.1 a (.inl (0, n, upd f j x)), σ.2))
        | none => none) (fun q => ev k q.1 q.2) = tv_j (ri_ix i n) _
      cases ri_ix i n <;> rfl
    | succ z => rfl
  · rfl
theorem ev_zast {a : Nat} {i x : Int32} (h : TT k pc = some (.inl ri_zast)) : ev k (pc, L, .int x :: .int i :: .ref a :: st) σ = tv_r 1 (σ.1 a) i fun n f j => ev k (pc + 1, L, st) (ri_upd σ.1 a (.inl (1, n, upd f j (vp_nar .boolean x))), σ.2) := by
  rw [ev_h h]
  unfold ri_zast tv_r
  dsimp only
  rcases σ.1 a with _ | ⟨z2, n, f⟩ | q
  · rfl
  · match z2 with
    | 0 => rfl
    | 1 =>
      show Option.bind (match ri_ix i n with
        | some j => some ((pc + 1, L, st), (ri_upd σ.1 a (.inl (1, n, upd f j (vp_nar .boolean x))), σ.2))
        | none => none) (fun q => ev k q.1 q.2) = tv_j (ri_ix i n) _
      cases ri_ix i n <;> rfl
    | z + 2 => rfl
  · rfl
theorem ev_aald {a : Nat} {i : Int32} (h : TT k pc = some (.inl ri_aald)) : ev k (pc, L, .int i :: .ref a :: st) σ = tv_q (σ.1 a) i fun _ f j => ev k (pc + 1, L, tv_v (f j) :: st) σ := by
  rw [ev_h h]
  unfold ri_aald tv_q
  dsimp only
  rcases σ.1 a with _ | q | ⟨n, f⟩ | q
  · rfl
  · rfl
  · dsimp only
    cases ri_ix i n with
    | none => rfl
    | some j =>
      dsimp only [tv_j]
      cases f j <;> rfl
  · rfl
theorem ev_aast {ci a x : Nat} {i : Int32} (h : TT k pc = some (.inl (ri_aast ci))) : ev k (pc, L, .ref x :: .int i :: .ref a :: st) σ = tv_q (σ.1 a) i fun n f j => tv_k ci (σ.1 x) (ev k (pc + 1, L, st) (ri_upd σ.1 a (.inr (.inl (n, va_up f j (some x)))), σ.2)) := by
  rw [ev_h h]
  unfold ri_aast tv_q
  dsimp only
  rcases σ.1 a with _ | q | ⟨n, f⟩ | q
  · rfl
  · rfl
  · dsimp only
    cases ri_ix i n with
    | none => rfl
    | some j =>
      dsimp only [tv_j, tv_k]
      rcases σ.1 x with _ | q | q | ⟨c2, fs⟩
      · rfl
      · rfl
      · rfl
      · dsimp only
        cases hb : Nat.beq c2 ci <;> rfl
  · rfl
theorem ev_new {ci : Nat} {fs : List Value} (h : TT k pc = some (.inl (ri_new ci fs))) : ev k (pc, L, st) σ = ev k (pc + 3, L, .ref σ.2 :: st) (ri_upd σ.1 σ.2 (.inr (.inr (ci, fs))), σ.2 + 1) := by
  rw [ev_h h]
  rfl
theorem ev_newa {z : Nat} {n : Int32} (h : TT k pc = some (.inl (ri_newa z))) : ev k (pc, L, .int n :: st) σ = if n < 0 ∨ 2000 < n.toNatClampNeg then none else ev k (pc + 2, L, .ref σ.2 :: st) (ri_upd σ.1 σ.2 (.inl (z, n.toNatClampNeg, fun _ => 0)), σ.2 + 1) := by
  rw [ev_h h]
  unfold ri_newa
  dsimp only
  split <;> rfl
theorem ev_newq {n : Int32} (h : TT k pc = some (.inl ri_newq)) : ev k (pc, L, .int n :: st) σ = if n < 0 ∨ 2000 < n.toNatClampNeg then none else ev k (pc + 3, L, .ref σ.2 :: st) (ri_upd σ.1 σ.2 (.inr (.inl (n.toNatClampNeg, fun _ => none))), σ.2 + 1) := by
  rw [ev_h h]
  unfold ri_newq
  dsimp only
  split <;> rfl
theorem ev_copy {n dp sp : Int32} {a b : Nat} (h : TT k pc = some (.inl ri_copy)) : ev k (pc, L, [.int n, .int dp, .ref b, .int sp, .ref a]) σ = tv_c (σ.1 a) (σ.1 b) sp dp n fun n1 f => ev k (pc + 3, L, []) (ri_upd σ.1 b (.inl (0, n1, f)), σ.2) := by
  rw [ev_h h]
  unfold ri_copy tv_c
  dsimp only
  rcases σ.1 a with _ | ⟨z2, n0, f⟩ | q
  · rfl
  · cases z2 with
    | succ z => rfl
    | zero =>
      rcases σ.1 b with _ | ⟨z3, n1, g⟩ | q
      · rfl
      · cases z3 with
        | succ z => rfl
        | zero =>
          show Option.bind (if ri_few [] = true ∧ ¬ sp < 0 ∧ ¬ dp < 0 ∧ ¬ n < 0 ∧ sp.toNatClampNeg + n.toNatClampNeg ≤ n0 ∧ dp.toNatClampNeg + n.toNatClampNeg ≤ n1 then some ((pc + 3, L, []), (ri_upd σ.1 b (.inl (0, n1, va_cpy f g sp.toNatClampNeg dp.toNatClampNeg n.toNatClampNeg)), σ.2)) else none) (fun q => ev k q.1 q.2) = if ¬ sp < 0 ∧ ¬ dp < 0 ∧ ¬ n < 0 ∧ sp.toNatClampNeg + n.toNatClampNeg ≤ n0 ∧ dp.toNatClampNeg + n.toNatClampNeg ≤ n1 then ev k (pc + 3, L, []) (ri_upd σ.1 b (.inl (0, n1, va_cpy f g sp.toNatClampNeg dp.toNatClampNeg n.toNatClampNeg)), σ.2) else none
          by_cases hc : ¬ sp < 0 ∧ ¬ dp < 0 ∧ ¬ n < 0 ∧ sp.toNatClampNeg + n.toNatClampNeg ≤ n0 ∧ dp.toNatClampNeg + n.toNatClampNeg ≤ n1
          · rw [if_pos hc, if_pos ⟨rfl, hc⟩]; rfl
          · rw [if_neg hc, if_neg (fun q => hc q.2)]; rfl
      · rfl
  · rfl
theorem ev_call {k2 n : Nat} {as rest : List Value} (h : TT k pc = some (.inr (.inl (k2, n, none)))) (hH : Nat.blt (TH k2) (TH k) = true) (hs : (st.take n).reverse = as) (hd : st.drop n = rest) (hc : (ri_few rest && Nat.ble n st.length && ri_fit (TM k2) as) = true) : ev k (pc, L, st) σ = (cal k2 as σ).bind fun q => ev k (pc + 3, L, q.1.toList ++ rest) q.2 := by
  unfold ev cal
  rw [ri_ev_call h hH, hs, hd]
  rw [if_pos (by show (ri_few rest && Nat.ble n st.length && true && ri_fit (TM k2) as) = true; rw [Bool.and_true]; exact hc)]
theorem tv_ke1 {ci : Nat} {c : Option ri_El} {X : Option ri_R} : (if (true && true && (match c with | some (.inr (.inr (c2, _))) => Nat.beq c2 ci | _ => false) && true) = true then X else none) = tv_k ci c X := by
  rcases c with _ | q | q | ⟨c2, fs⟩
  · rfl
  · rfl
  · rfl
  · unfold tv_k
    dsimp only
    by_cases hb : Nat.beq c2 ci = true
    · rw [if_pos hb, if_pos (by rw [hb]; rfl)]
    · rw [if_neg hb, if_neg (by rw [Bool.eq_false_iff.mpr hb]; decide)]
theorem tv_ke {ci a : Nat} {as : List Value} {X : Option ri_R} : (if (true && true && ri_rcv (some ci) (.ref a :: as) σ && true) = true then X else none) = tv_k ci (σ.1 a) X := tv_ke1
theorem ev_callv {k2 n ci a : Nat} {as rest : List Value} (h : TT k pc = some (.inr (.inl (k2, n, some ci)))) (hH : Nat.blt (TH k2) (TH k) = true) (hs : (st.take n).reverse = .ref a :: as) (hd : st.drop n = rest) (hc : (ri_few rest && Nat.ble n st.length && ri_fit (TM k2) (.ref a :: as)) = true) : ev k (pc, L, st) σ = tv_k ci (σ.1 a) ((cal k2 (.ref a :: as) σ).bind fun q => ev k (pc + 3, L, q.1.toList ++ rest) q.2) := by
  unfold ev cal
  rw [ri_ev_call h hH, hs, hd]
  rw [Bool.and_eq_true, Bool.and_eq_true] at hc
  rw [hc.1.1, hc.1.2, hc.2]
  exact tv_ke
end RIEVL
theorem tv_j_some {j : Nat} {K : Nat → Option ri_R} : tv_j (some j) K = K j := rfl
theorem tv_r0 {n : Nat} {f : Nat → Int32} {i : Int32} {K : Nat → (Nat → Int32) → Nat → Option ri_R} : tv_r 0 (some (.inl (0, n, f))) i K = tv_j (ri_ix i n) (K n f) := rfl
theorem tv_r1 {n : Nat} {f : Nat → Int32} {i : Int32} {K : Nat → (Nat → Int32) → Nat → Option ri_R} : tv_r 1 (some (.inl (1, n, f))) i K = tv_j (ri_ix i n) (K n f) := rfl
theorem tv_q0 {n : Nat} {f : Nat → Option Nat} {i : Int32} {K : Nat → (Nat → Option Nat) → Nat → Option ri_R} : tv_q (some (.inr (.inl (n, f)))) i K = tv_j (ri_ix i n) (K n f) := rfl
theorem tv_n0 {n : Nat} {f : Nat → Int32} {K : Nat → Option ri_R} : tv_n (some (.inl (0, n, f))) K = K n := rfl
theorem tv_n1 {n : Nat} {f : Nat → Option Nat} {K : Nat → Option ri_R} : tv_n (some (.inr (.inl (n, f)))) K = K n := rfl
theorem tv_k0 {ci : Nat} {fs : List Value} {X : Option ri_R} : tv_k ci (some (.inr (.inr (ci, fs)))) X = X := by
  show (if Nat.beq ci ci = true then X else none) = X
  rw [if_pos (Nat.beq_refl ci)]
theorem tv_b0 {X : Option ri_R} : tv_b 0 X = X := rfl
theorem tv_b1 {X : Option ri_R} : tv_b 1 X = X := rfl
theorem rc_int {x : Int32} : ri_clr (some (.int x)) = some (.int x) := rfl
theorem rc_ref {x : Nat} : ri_clr (some (.ref x)) = some (.ref x) := rfl
theorem rc_null : ri_clr (some .null) = some .null := rfl
theorem rc_none : ri_clr none = none := rfl
theorem rc_long {x : Int64} : ri_clr (some (.long x)) = none := rfl
theorem ru_eq {f : Nat → Option ri_El} {a : Nat} {e : ri_El} : ri_upd f a e a = some e := if_pos rfl
theorem ru_ne {f : Nat → Option ri_El} {a b : Nat} {e : ri_El} (h : ¬ b = a) : ri_upd f a e b = f b := if_neg h
theorem ru_up {f : Nat → Option ri_El} {a : Nat} {e e2 : ri_El} : ri_upd (ri_upd f a e) a e2 = ri_upd f a e2 := by
  funext q
  unfold ri_upd
  split <;> rfl
theorem bo_some {α β : Type} {a : α} {f : α → Option β} : (some a).bind f = f a := rfl
theorem tl_some {v : Value} {l : List Value} : (some v).toList ++ l = v :: l := rfl
theorem tl_none {l : List Value} : (none : Option Value).toList ++ l = l := rfl
