/-! The equations of the stopped runs. -/
section RIEZ
variable {k pc : Nat} {L : ri_L} {st : List Value} {σ : ri_S}
theorem eZ_p {f : ri_F → Option ri_F} {fr2 : ri_F} (h : st_S k k pc = some (.inl (ri_pu f))) (h2 : f (pc, L, st) = some fr2) : ev3 k (pc, L, st) σ = ev3 k fr2 σ := by
  unfold ev3
  rw [ri_ev_step h]
  unfold ri_pu
  rw [h2]
  rfl
theorem eZ_x {f : ri_F → Option ri_F} (h : st_S k k pc = some (.inl (ri_pu f))) : ev3 k (pc, L, st) σ = (f (pc, L, st)).bind fun fr2 => ev3 k fr2 σ := by
  unfold ev3
  rw [ri_ev_step h]
  unfold ri_pu
  cases f (pc, L, st) <;> rfl
theorem eZ_b {f : ri_F → Option ri_F} {c : Prop} {dc : Decidable c} {a b : ri_F} (h : st_S k k pc = some (.inl (ri_pu f))) (h2 : f (pc, L, st) = if decide c = true then some a else some b) : ev3 k (pc, L, st) σ = if c then ev3 k a σ else ev3 k b σ := by
  rw [eZ_x h, h2]
  by_cases hc : c
  · rw [if_pos hc, if_pos (decide_eq_true hc)]; rfl
  · rw [if_neg hc, if_neg (by rw [decide_eq_false hc]; simp)]; rfl
theorem eZ_r {rk : Nat} {X : Option ri_R} (h : st_S k k pc = some (.inr (.inr rk))) (h2 : ri_stp (some (.inr (.inr rk))) (pc, L, st) σ (fun _ _ => none) (fun _ _ => none) = X) : ev3 k (pc, L, st) σ = X := by
  unfold ev3
  rw [ri_ev_fin (fr := (pc, L, st)) h, h2]
theorem eZ_h {op : ri_Op} (h : st_S k k pc = some (.inl op)) : ev3 k (pc, L, st) σ = (op (pc, L, st) σ).bind fun q => ev3 k q.1 q.2 := by
  unfold ev3
  exact ri_ev_step h
theorem eZ_getf {ci j a : Nat} (h : st_S k k pc = some (.inl (ri_getf ci j))) : ev3 k (pc, L, .ref a :: st) σ = tv_o ci j (σ.1 a) fun v => ev3 k (pc + 3, L, v :: st) σ := by
  rw [eZ_h h]
  unfold ri_getf tv_o
  dsimp only
  rcases σ.1 a with _ | q | q | ⟨c2, fs⟩
  · rfl
  · rfl
  · rfl
  · dsimp only
    cases hb : Nat.beq c2 ci
    · rfl
    · cases fs[j]? <;> rfl
theorem eZ_call {k2 n : Nat} {as rest : List Value} (h : st_S k k pc = some (.inl (rs_call (TT) TM TH (TH k) k2 n none))) (hH : Nat.blt (TH k2) (TH k) = true) (hs : (st.take n).reverse = as) (hd : st.drop n = rest) (hc : (ri_few rest && Nat.ble n st.length && ri_fit (TM k2) as) = true) : ev3 k (pc, L, st) σ = (cal k2 as σ).bind fun q => ev3 k (pc + 3, L, q.1.toList ++ rest) q.2 := by
  unfold ev3
  rw [ri_ev_step h]
  unfold rs_call
  dsimp only
  rw [Bool.and_eq_true, Bool.and_eq_true] at hc
  rw [hs, hd, hc.1.1, hc.1.2, hc.2, hH, if_pos (by rfl)]
  unfold cal
  cases ri_call (TT) TM TH k2 as σ <;> rfl
theorem tv_k_rcv {ci a : Nat} {as : List Value} {X : Option ri_R} : tv_k ci (σ.1 a) X = if ri_rcv (some ci) (.ref a :: as) σ = true then X else none := by
  obtain ⟨c, hc⟩ : ∃ c, σ.1 a = c := ⟨_, rfl⟩
  rcases c with _ | q | q | ⟨c2, fs⟩ <;> simp [ri_rcv, tv_k, hc]
theorem eZ_callv {k2 n ci a : Nat} {as rest : List Value} (h : st_S k k pc = some (.inl (rs_call (TT) TM TH (TH k) k2 n (some ci)))) (hH : Nat.blt (TH k2) (TH k) = true) (hs : (st.take n).reverse = .ref a :: as) (hd : st.drop n = rest) (hc : (ri_few rest && Nat.ble n st.length && ri_fit (TM k2) (.ref a :: as)) = true) : ev3 k (pc, L, st) σ = tv_k ci (σ.1 a) ((cal k2 (.ref a :: as) σ).bind fun q => ev3 k (pc + 3, L, q.1.toList ++ rest) q.2) := by
  unfold ev3
  rw [ri_ev_step h]
  unfold rs_call
  dsimp only
  rw [Bool.and_eq_true, Bool.and_eq_true] at hc
  rw [hs, hd, hc.1.1, hc.1.2, hc.2, hH, tv_k_rcv (as := as)]
  cases hr : ri_rcv (some ci) (.ref a :: as) σ
  · rw [if_neg (by decide), if_neg (by decide)]
    rfl
  · rw [if_pos (by rfl), if_pos (by rfl)]
    unfold cal
    cases ri_call (TT) TM TH k2 (.ref a :: as) σ <;> rfl
end RIEZ
section ROWS3

theorem Z_109 :
  (∀ (l1 : Option Value) (st : List Value) (σ : ri_S) (x : Nat), ev3 109 (0, [some (.ref x), l1], st) σ = ev3 109 (1, [some (.ref x), l1], .ref x :: st) σ) ∧
  (∀ (L : ri_L) (st : List Value) (σ : ri_S) (a : Nat), ev3 109 (1, L, .ref a :: st) σ = tv_o 8 0 (σ.1 a) fun v => ev3 109 (4, L, v :: st) σ) ∧
  (∀ (l0 : Option Value) (st : List Value) (σ : ri_S) (x : Int32), ev3 109 (4, [l0, some (.int x)], st) σ = ev3 109 (5, [l0, some (.int x)], .int x :: st) σ) ∧
  (∀ (L : ri_L) (σ : ri_S) (a0 : Nat) (a1 : Int32), ev3 109 (5, L, [.int a1, .ref a0]) σ = tv_k 6 (σ.1 a0) ((cal 87 [.ref a0, .int a1] σ).bind fun q => ev3 109 (8, L, q.1.toList ++ []) q.2)) ∧
  (∀ (L : ri_L) (σ : ri_S) (x : Int32), ev3 109 (8, L, [.int x]) σ = some (some (.int x), σ)) :=
  ⟨fun l1 st σ x => eZ_p rfl rfl,
   fun L st σ a => eZ_getf rfl,
   fun l0 st σ x => eZ_p rfl rfl,
   fun L σ a0 a1 => eZ_callv rfl rfl rfl rfl rfl,
   fun L σ x => eZ_r (rk := 1) rfl rfl⟩
theorem Z_113 :
  (∀ (l0 : Option Value) (st : List Value) (σ : ri_S) (x : Int32), ev3 113 (0, [l0, some (.int x)], st) σ = ev3 113 (1, [l0, some (.int x)], .int x :: st) σ) ∧
  (∀ (L : ri_L) (st : List Value) (σ : ri_S), ev3 113 (1, L, st) σ = ev3 113 (3, L, .int 10 :: st) σ) ∧
  (∀ (L : ri_L) (σ : ri_S) (a0 : Int32) (a1 : Int32), ev3 113 (3, L, [.int a1, .int a0]) σ = (cal 136 [.int a0, .int a1] σ).bind fun q => ev3 113 (6, L, q.1.toList ++ []) q.2) ∧
  (∀ (L : ri_L) (σ : ri_S) (x : Int32), ev3 113 (6, L, [.int x]) σ = some (some (.int x), σ)) :=
  ⟨fun l0 st σ x => eZ_p rfl rfl,
   fun L st σ => eZ_p rfl rfl,
   fun L σ a0 a1 => eZ_call rfl rfl rfl rfl rfl,
   fun L σ x => eZ_r (rk := 1) rfl rfl⟩
theorem Z_114 :
  (∀ (l1 l2 : Option Value) (st : List Value) (σ : ri_S) (x : Nat), ev3 114 (0, [some (.ref x), l1, l2], st) σ = ev3 114 (1, [some (.ref x), l1, l2], .ref x :: st) σ) ∧
  (∀ (L : ri_L) (st : List Value) (σ : ri_S) (a : Nat), ev3 114 (1, L, .ref a :: st) σ = tv_o 8 1 (σ.1 a) fun v => ev3 114 (4, L, v :: st) σ) ∧
  (∀ (L : ri_L) (st : List Value) (σ : ri_S) (a : Nat), ev3 114 (4, L, .ref a :: st) σ = tv_o 3 0 (σ.1 a) fun v => ev3 114 (7, L, v :: st) σ) ∧
  (∀ (l0 l2 : Option Value) (st : List Value) (σ : ri_S) (x : Int32), ev3 114 (7, [l0, some (.int x), l2], st) σ = ev3 114 (8, [l0, some (.int x), l2], .int x :: st) σ) ∧
  (∀ (L : ri_L) (σ : ri_S) (a0 : Nat) (a1 : Int32), ev3 114 (8, L, [.int a1, .ref a0]) σ = tv_k 7 (σ.1 a0) ((cal 97 [.ref a0, .int a1] σ).bind fun q => ev3 114 (11, L, q.1.toList ++ []) q.2)) ∧
  (∀ (L : ri_L) (st : List Value) (σ : ri_S) (x : Int32), ev3 114 (11, L, .int x :: st) σ = if x = 0 then ev3 114 (23, L, st) σ else ev3 114 (14, L, st) σ) ∧
  (∀ (l0 l1 : Option Value) (st : List Value) (σ : ri_S) (x : Int32), ev3 114 (14, [l0, l1, some (.int x)], st) σ = ev3 114 (15, [l0, l1, some (.int x)], .int x :: st) σ) ∧
  (∀ (L : ri_L) (st : List Value) (σ : ri_S), ev3 114 (15, L, st) σ = ev3 114 (17, L, .int 7 :: st) σ) ∧
  (∀ (L : ri_L) (σ : ri_S) (a0 : Int32) (a1 : Int32), ev3 114 (17, L, [.int a1, .int a0]) σ = (cal 136 [.int a0, .int a1] σ).bind fun q => ev3 114 (20, L, q.1.toList ++ []) q.2) ∧
  (∀ (L : ri_L) (st : List Value) (σ : ri_S), ev3 114 (20, L, st) σ = ev3 114 (24, L, st) σ) ∧
  (∀ (L : ri_L) (st : List Value) (σ : ri_S), ev3 114 (23, L, st) σ = ev3 114 (24, L, .int 1 :: st) σ) ∧
  (∀ (L : ri_L) (σ : ri_S) (x : Int32), ev3 114 (24, L, [.int x]) σ = some (some (.int x), σ)) :=
  ⟨fun l1 l2 st σ x => eZ_p rfl rfl,
   fun L st σ a => eZ_getf rfl,
   fun L st σ a => eZ_getf rfl,
   fun l0 l2 st σ x => eZ_p rfl rfl,
   fun L σ a0 a1 => eZ_callv rfl rfl rfl rfl rfl,
   fun L st σ x => eZ_b rfl rfl,
   fun l0 l1 st σ x => eZ_p rfl rfl,
   fun L st σ => eZ_p rfl rfl,
   fun L σ a0 a1 => eZ_call rfl rfl rfl rfl rfl,
   fun L st σ => eZ_p rfl rfl,
   fun L st σ => eZ_p rfl rfl,
   fun L σ x => eZ_r (rk := 1) rfl rfl⟩
theorem Z_115 :
  (∀ (l1 l2 l3 : Option Value) (st : List Value) (σ : ri_S) (x : Nat), ev3 115 (0, [some (.ref x), l1, l2, l3], st) σ = ev3 115 (1, [some (.ref x), l1, l2, l3], .ref x :: st) σ) ∧
  (∀ (L : ri_L) (st : List Value) (σ : ri_S) (a : Nat), ev3 115 (1, L, .ref a :: st) σ = tv_o 8 1 (σ.1 a) fun v => ev3 115 (4, L, v :: st) σ) ∧
  (∀ (L : ri_L) (st : List Value) (σ : ri_S) (a : Nat), ev3 115 (4, L, .ref a :: st) σ = tv_o 3 0 (σ.1 a) fun v => ev3 115 (7, L, v :: st) σ) ∧
  (∀ (l0 l2 l3 : Option Value) (st : List Value) (σ : ri_S) (x : Int32), ev3 115 (7, [l0, some (.int x), l2, l3], st) σ = ev3 115 (8, [l0, some (.int x), l2, l3], .int x :: st) σ) ∧
  (∀ (l0 l1 l3 : Option Value) (st : List Value) (σ : ri_S) (x : Int32), ev3 115 (8, [l0, l1, some (.int x), l3], st) σ = ev3 115 (9, [l0, l1, some (.int x), l3], .int x :: st) σ) ∧
  (∀ (L : ri_L) (σ : ri_S) (a0 : Nat) (a1 : Int32) (a2 : Int32), ev3 115 (9, L, [.int a2, .int a1, .ref a0]) σ = tv_k 7 (σ.1 a0) ((cal 98 [.ref a0, .int a1, .int a2] σ).bind fun q => ev3 115 (12, L, q.1.toList ++ []) q.2)) ∧
  (∀ (L : ri_L) (st : List Value) (σ : ri_S) (x : Int32), ev3 115 (12, L, .int x :: st) σ = if x = 0 then ev3 115 (23, L, st) σ else ev3 115 (15, L, st) σ) ∧
  (∀ (l0 l1 l2 : Option Value) (st : List Value) (σ : ri_S) (x : Int32), ev3 115 (15, [l0, l1, l2, some (.int x)], st) σ = ev3 115 (16, [l0, l1, l2, some (.int x)], .int x :: st) σ) ∧
  (∀ (L : ri_L) (st : List Value) (σ : ri_S), ev3 115 (16, L, st) σ = ev3 115 (17, L, .int 3 :: st) σ) ∧
  (∀ (L : ri_L) (σ : ri_S) (a0 : Int32) (a1 : Int32), ev3 115 (17, L, [.int a1, .int a0]) σ = (cal 136 [.int a0, .int a1] σ).bind fun q => ev3 115 (20, L, q.1.toList ++ []) q.2) ∧
  (∀ (L : ri_L) (st : List Value) (σ : ri_S), ev3 115 (20, L, st) σ = ev3 115 (24, L, st) σ) ∧
  (∀ (L : ri_L) (st : List Value) (σ : ri_S), ev3 115 (23, L, st) σ = ev3 115 (24, L, .int 1 :: st) σ) ∧
  (∀ (L : ri_L) (σ : ri_S) (x : Int32), ev3 115 (24, L, [.int x]) σ = some (some (.int x), σ)) :=
  ⟨fun l1 l2 l3 st σ x => eZ_p rfl rfl,
   fun L st σ a => eZ_getf rfl,
   fun L st σ a => eZ_getf rfl,
   fun l0 l2 l3 st σ x => eZ_p rfl rfl,
   fun l0 l1 l3 st σ x => eZ_p rfl rfl,
   fun L σ a0 a1 a2 => eZ_callv rfl rfl rfl rfl rfl,
   fun L st σ x => eZ_b rfl rfl,
   fun l0 l1 l2 st σ x => eZ_p rfl rfl,
   fun L st σ => eZ_p rfl rfl,
   fun L σ a0 a1 => eZ_call rfl rfl rfl rfl rfl,
   fun L st σ => eZ_p rfl rfl,
   fun L st σ => eZ_p rfl rfl,
   fun L σ x => eZ_r (rk := 1) rfl rfl⟩
theorem Z_116 :
  (∀ (l1 l2 : Option Value) (st : List Value) (σ : ri_S) (x : Nat), ev3 116 (0, [some (.ref x), l1, l2], st) σ = ev3 116 (1, [some (.ref x), l1, l2], .ref x :: st) σ) ∧
  (∀ (L : ri_L) (st : List Value) (σ : ri_S) (a : Nat), ev3 116 (1, L, .ref a :: st) σ = tv_o 8 1 (σ.1 a) fun v => ev3 116 (4, L, v :: st) σ) ∧
  (∀ (L : ri_L) (st : List Value) (σ : ri_S) (a : Nat), ev3 116 (4, L, .ref a :: st) σ = tv_o 3 2 (σ.1 a) fun v => ev3 116 (7, L, v :: st) σ) ∧
  (∀ (l0 l2 : Option Value) (st : List Value) (σ : ri_S) (x : Int32), ev3 116 (7, [l0, some (.int x), l2], st) σ = ev3 116 (8, [l0, some (.int x), l2], .int x :: st) σ) ∧
  (∀ (L : ri_L) (σ : ri_S) (a0 : Nat) (a1 : Int32), ev3 116 (8, L, [.int a1, .ref a0]) σ = tv_k 0 (σ.1 a0) ((cal 1 [.ref a0, .int a1] σ).bind fun q => ev3 116 (11, L, q.1.toList ++ []) q.2)) ∧
  (∀ (L : ri_L) (st : List Value) (σ : ri_S) (x : Int32), ev3 116 (11, L, .int x :: st) σ = if x = 0 then ev3 116 (22, L, st) σ else ev3 116 (14, L, st) σ) ∧
  (∀ (l0 l1 : Option Value) (st : List Value) (σ : ri_S) (x : Int32), ev3 116 (14, [l0, l1, some (.int x)], st) σ = ev3 116 (15, [l0, l1, some (.int x)], .int x :: st) σ) ∧
  (∀ (L : ri_L) (st : List Value) (σ : ri_S), ev3 116 (15, L, st) σ = ev3 116 (16, L, .int 5 :: st) σ) ∧
  (∀ (L : ri_L) (σ : ri_S) (a0 : Int32) (a1 : Int32), ev3 116 (16, L, [.int a1, .int a0]) σ = (cal 136 [.int a0, .int a1] σ).bind fun q => ev3 116 (19, L, q.1.toList ++ []) q.2) ∧
  (∀ (L : ri_L) (st : List Value) (σ : ri_S), ev3 116 (19, L, st) σ = ev3 116 (23, L, st) σ) ∧
  (∀ (L : ri_L) (st : List Value) (σ : ri_S), ev3 116 (22, L, st) σ = ev3 116 (23, L, .int 1 :: st) σ) ∧
  (∀ (L : ri_L) (σ : ri_S) (x : Int32), ev3 116 (23, L, [.int x]) σ = some (some (.int x), σ)) :=
  ⟨fun l1 l2 st σ x => eZ_p rfl rfl,
   fun L st σ a => eZ_getf rfl,
   fun L st σ a => eZ_getf rfl,
   fun l0 l2 st σ x => eZ_p rfl rfl,
   fun L σ a0 a1 => eZ_callv rfl rfl rfl rfl rfl,
   fun L st σ x => eZ_b rfl rfl,
   fun l0 l1 st σ x => eZ_p rfl rfl,
   fun L st σ => eZ_p rfl rfl,
   fun L σ a0 a1 => eZ_call rfl rfl rfl rfl rfl,
   fun L st σ => eZ_p rfl rfl,
   fun L st σ => eZ_p rfl rfl,
   fun L σ x => eZ_r (rk := 1) rfl rfl⟩
theorem Z_117 :
  (∀ (l1 l2 : Option Value) (st : List Value) (σ : ri_S) (x : Nat), ev3 117 (0, [some (.ref x), l1, l2], st) σ = ev3 117 (1, [some (.ref x), l1, l2], .ref x :: st) σ) ∧
  (∀ (L : ri_L) (st : List Value) (σ : ri_S) (a : Nat), ev3 117 (1, L, .ref a :: st) σ = tv_o 8 1 (σ.1 a) fun v => ev3 117 (4, L, v :: st) σ) ∧
  (∀ (L : ri_L) (st : List Value) (σ : ri_S) (a : Nat), ev3 117 (4, L, .ref a :: st) σ = tv_o 3 1 (σ.1 a) fun v => ev3 117 (7, L, v :: st) σ) ∧
  (∀ (l0 l2 : Option Value) (st : List Value) (σ : ri_S) (x : Int32), ev3 117 (7, [l0, some (.int x), l2], st) σ = ev3 117 (8, [l0, some (.int x), l2], .int x :: st) σ) ∧
  (∀ (L : ri_L) (σ : ri_S) (a0 : Nat) (a1 : Int32), ev3 117 (8, L, [.int a1, .ref a0]) σ = tv_k 2 (σ.1 a0) ((cal 14 [.ref a0, .int a1] σ).bind fun q => ev3 117 (11, L, q.1.toList ++ []) q.2)) ∧
  (∀ (L : ri_L) (st : List Value) (σ : ri_S) (x : Int32), ev3 117 (11, L, .int x :: st) σ = if x = 0 then ev3 117 (22, L, st) σ else ev3 117 (14, L, st) σ) ∧
  (∀ (l0 l1 : Option Value) (st : List Value) (σ : ri_S) (x : Int32), ev3 117 (14, [l0, l1, some (.int x)], st) σ = ev3 117 (15, [l0, l1, some (.int x)], .int x :: st) σ) ∧
  (∀ (L : ri_L) (st : List Value) (σ : ri_S), ev3 117 (15, L, st) σ = ev3 117 (16, L, .int 3 :: st) σ) ∧
  (∀ (L : ri_L) (σ : ri_S) (a0 : Int32) (a1 : Int32), ev3 117 (16, L, [.int a1, .int a0]) σ = (cal 136 [.int a0, .int a1] σ).bind fun q => ev3 117 (19, L, q.1.toList ++ []) q.2) ∧
  (∀ (L : ri_L) (st : List Value) (σ : ri_S), ev3 117 (19, L, st) σ = ev3 117 (23, L, st) σ) ∧
  (∀ (L : ri_L) (st : List Value) (σ : ri_S), ev3 117 (22, L, st) σ = ev3 117 (23, L, .int 1 :: st) σ) ∧
  (∀ (L : ri_L) (σ : ri_S) (x : Int32), ev3 117 (23, L, [.int x]) σ = some (some (.int x), σ)) :=
  ⟨fun l1 l2 st σ x => eZ_p rfl rfl,
   fun L st σ a => eZ_getf rfl,
   fun L st σ a => eZ_getf rfl,
   fun l0 l2 st σ x => eZ_p rfl rfl,
   fun L σ a0 a1 => eZ_callv rfl rfl rfl rfl rfl,
   fun L st σ x => eZ_b rfl rfl,
   fun l0 l1 st σ x => eZ_p rfl rfl,
   fun L st σ => eZ_p rfl rfl,
   fun L σ a0 a1 => eZ_call rfl rfl rfl rfl rfl,
   fun L st σ => eZ_p rfl rfl,
   fun L st σ => eZ_p rfl rfl,
   fun L σ x => eZ_r (rk := 1) rfl rfl⟩
theorem Z_118 :
  (∀ (l1 l2 l3 : Option Value) (st : List Value) (σ : ri_S) (x : Nat), ev3 118 (0, [some (.ref x), l1, l2, l3], st) σ = ev3 118 (1, [some (.ref x), l1, l2, l3], .ref x :: st) σ) ∧
  (∀ (L : ri_L) (st : List Value) (σ : ri_S) (a : Nat), ev3 118 (1, L, .ref a :: st) σ = tv_o 8 1 (σ.1 a) fun v => ev3 118 (4, L, v :: st) σ) ∧
  (∀ (l0 l2 l3 : Option Value) (st : List Value) (σ : ri_S) (x : Int32), ev3 118 (4, [l0, some (.int x), l2, l3], st) σ = ev3 118 (5, [l0, some (.int x), l2, l3], .int x :: st) σ) ∧
  (∀ (l0 l1 l3 : Option Value) (st : List Value) (σ : ri_S) (x : Int32), ev3 118 (5, [l0, l1, some (.int x), l3], st) σ = ev3 118 (6, [l0, l1, some (.int x), l3], .int x :: st) σ) ∧
  (∀ (l0 l1 l2 : Option Value) (st : List Value) (σ : ri_S) (x : Int32), ev3 118 (6, [l0, l1, l2, some (.int x)], st) σ = ev3 118 (7, [l0, l1, l2, some (.int x)], .int x :: st) σ) ∧
  (∀ (L : ri_L) (σ : ri_S) (a0 : Nat) (a1 : Int32) (a2 : Int32) (a3 : Int32), ev3 118 (7, L, [.int a3, .int a2, .int a1, .ref a0]) σ = tv_k 3 (σ.1 a0) ((cal 23 [.ref a0, .int a1, .int a2, .int a3] σ).bind fun q => ev3 118 (10, L, q.1.toList ++ []) q.2)) ∧
  (∀ (L : ri_L) (σ : ri_S) (x : Int32), ev3 118 (10, L, [.int x]) σ = some (some (.int x), σ)) :=
  ⟨fun l1 l2 l3 st σ x => eZ_p rfl rfl,
   fun L st σ a => eZ_getf rfl,
   fun l0 l2 l3 st σ x => eZ_p rfl rfl,
   fun l0 l1 l3 st σ x => eZ_p rfl rfl,
   fun l0 l1 l2 st σ x => eZ_p rfl rfl,
   fun L σ a0 a1 a2 a3 => eZ_callv rfl rfl rfl rfl rfl,
   fun L σ x => eZ_r (rk := 1) rfl rfl⟩
theorem Z_119 :
  (∀ (l1 l2 l3 l4 : Option Value) (st : List Value) (σ : ri_S) (x : Nat), ev3 119 (0, [some (.ref x), l1, l2, l3, l4], st) σ = ev3 119 (1, [some (.ref x), l1, l2, l3, l4], .ref x :: st) σ) ∧
  (∀ (L : ri_L) (st : List Value) (σ : ri_S) (a : Nat), ev3 119 (1, L, .ref a :: st) σ = tv_o 8 1 (σ.1 a) fun v => ev3 119 (4, L, v :: st) σ) ∧
  (∀ (l0 l2 l3 l4 : Option Value) (st : List Value) (σ : ri_S) (x : Int32), ev3 119 (4, [l0, some (.int x), l2, l3, l4], st) σ = ev3 119 (5, [l0, some (.int x), l2, l3, l4], .int x :: st) σ) ∧
  (∀ (l0 l1 l3 l4 : Option Value) (st : List Value) (σ : ri_S) (x : Int32), ev3 119 (5, [l0, l1, some (.int x), l3, l4], st) σ = ev3 119 (6, [l0, l1, some (.int x), l3, l4], .int x :: st) σ) ∧
  (∀ (l0 l1 l2 l4 : Option Value) (st : List Value) (σ : ri_S) (x : Int32), ev3 119 (6, [l0, l1, l2, some (.int x), l4], st) σ = ev3 119 (7, [l0, l1, l2, some (.int x), l4], .int x :: st) σ) ∧
  (∀ (l0 l1 l2 l3 : Option Value) (st : List Value) (σ : ri_S) (x : Int32), ev3 119 (7, [l0, l1, l2, l3, some (.int x)], st) σ = ev3 119 (9, [l0, l1, l2, l3, some (.int x)], .int x :: st) σ) ∧
  (∀ (L : ri_L) (σ : ri_S) (a0 : Nat) (a1 : Int32) (a2 : Int32) (a3 : Int32) (a4 : Int32), ev3 119 (9, L, [.int a4, .int a3, .int a2, .int a1, .ref a0]) σ = tv_k 3 (σ.1 a0) ((cal 24 [.ref a0, .int a1, .int a2, .int a3, .int a4] σ).bind fun q => ev3 119 (12, L, q.1.toList ++ []) q.2)) ∧
  (∀ (L : ri_L) (σ : ri_S) (x : Int32), ev3 119 (12, L, [.int x]) σ = some (some (.int x), σ)) :=
  ⟨fun l1 l2 l3 l4 st σ x => eZ_p rfl rfl,
   fun L st σ a => eZ_getf rfl,
   fun l0 l2 l3 l4 st σ x => eZ_p rfl rfl,
   fun l0 l1 l3 l4 st σ x => eZ_p rfl rfl,
   fun l0 l1 l2 l4 st σ x => eZ_p rfl rfl,
   fun l0 l1 l2 l3 st σ x => eZ_p rfl rfl,
   fun L σ a0 a1 a2 a3 a4 => eZ_callv rfl rfl rfl rfl rfl,
   fun L σ x => eZ_r (rk := 1) rfl rfl⟩
theorem Z_120 :
  (∀ (l1 l2 l3 : Option Value) (st : List Value) (σ : ri_S) (x : Nat), ev3 120 (0, [some (.ref x), l1, l2, l3], st) σ = ev3 120 (1, [some (.ref x), l1, l2, l3], .ref x :: st) σ) ∧
  (∀ (L : ri_L) (st : List Value) (σ : ri_S) (a : Nat), ev3 120 (1, L, .ref a :: st) σ = tv_o 8 1 (σ.1 a) fun v => ev3 120 (4, L, v :: st) σ) ∧
  (∀ (l0 l2 l3 : Option Value) (st : List Value) (σ : ri_S) (x : Int32), ev3 120 (4, [l0, some (.int x), l2, l3], st) σ = ev3 120 (5, [l0, some (.int x), l2, l3], .int x :: st) σ) ∧
  (∀ (l0 l1 l3 : Option Value) (st : List Value) (σ : ri_S) (x : Int32), ev3 120 (5, [l0, l1, some (.int x), l3], st) σ = ev3 120 (6, [l0, l1, some (.int x), l3], .int x :: st) σ) ∧
  (∀ (l0 l1 l2 : Option Value) (st : List Value) (σ : ri_S) (x : Int32), ev3 120 (6, [l0, l1, l2, some (.int x)], st) σ = ev3 120 (7, [l0, l1, l2, some (.int x)], .int x :: st) σ) ∧
  (∀ (L : ri_L) (σ : ri_S) (a0 : Nat) (a1 : Int32) (a2 : Int32) (a3 : Int32), ev3 120 (7, L, [.int a3, .int a2, .int a1, .ref a0]) σ = tv_k 3 (σ.1 a0) ((cal 25 [.ref a0, .int a1, .int a2, .int a3] σ).bind fun q => ev3 120 (10, L, q.1.toList ++ []) q.2)) ∧
  (∀ (L : ri_L) (σ : ri_S) (x : Int32), ev3 120 (10, L, [.int x]) σ = some (some (.int x), σ)) :=
  ⟨fun l1 l2 l3 st σ x => eZ_p rfl rfl,
   fun L st σ a => eZ_getf rfl,
   fun l0 l2 l3 st σ x => eZ_p rfl rfl,
   fun l0 l1 l3 st σ x => eZ_p rfl rfl,
   fun l0 l1 l2 st σ x => eZ_p rfl rfl,
   fun L σ a0 a1 a2 a3 => eZ_callv rfl rfl rfl rfl rfl,
   fun L σ x => eZ_r (rk := 1) rfl rfl⟩
theorem Z_121 :
  (∀ (l1 l2 l3 : Option Value) (st : List Value) (σ : ri_S) (x : Nat), ev3 121 (0, [some (.ref x), l1, l2, l3], st) σ = ev3 121 (1, [some (.ref x), l1, l2, l3], .ref x :: st) σ) ∧
  (∀ (L : ri_L) (st : List Value) (σ : ri_S) (a : Nat), ev3 121 (1, L, .ref a :: st) σ = tv_o 8 1 (σ.1 a) fun v => ev3 121 (4, L, v :: st) σ) ∧
  (∀ (l0 l2 l3 : Option Value) (st : List Value) (σ : ri_S) (x : Int32), ev3 121 (4, [l0, some (.int x), l2, l3], st) σ = ev3 121 (5, [l0, some (.int x), l2, l3], .int x :: st) σ) ∧
  (∀ (l0 l1 l3 : Option Value) (st : List Value) (σ : ri_S) (x : Int32), ev3 121 (5, [l0, l1, some (.int x), l3], st) σ = ev3 121 (6, [l0, l1, some (.int x), l3], .int x :: st) σ) ∧
  (∀ (l0 l1 l2 : Option Value) (st : List Value) (σ : ri_S) (x : Int32), ev3 121 (6, [l0, l1, l2, some (.int x)], st) σ = ev3 121 (7, [l0, l1, l2, some (.int x)], .int x :: st) σ) ∧
  (∀ (L : ri_L) (σ : ri_S) (a0 : Nat) (a1 : Int32) (a2 : Int32) (a3 : Int32), ev3 121 (7, L, [.int a3, .int a2, .int a1, .ref a0]) σ = tv_k 3 (σ.1 a0) ((cal 26 [.ref a0, .int a1, .int a2, .int a3] σ).bind fun q => ev3 121 (10, L, q.1.toList ++ []) q.2)) ∧
  (∀ (L : ri_L) (σ : ri_S) (x : Int32), ev3 121 (10, L, [.int x]) σ = some (some (.int x), σ)) :=
  ⟨fun l1 l2 l3 st σ x => eZ_p rfl rfl,
   fun L st σ a => eZ_getf rfl,
   fun l0 l2 l3 st σ x => eZ_p rfl rfl,
   fun l0 l1 l3 st σ x => eZ_p rfl rfl,
   fun l0 l1 l2 st σ x => eZ_p rfl rfl,
   fun L σ a0 a1 a2 a3 => eZ_callv rfl rfl rfl rfl rfl,
   fun L σ x => eZ_r (rk := 1) rfl rfl⟩
theorem Z_122 :
  (∀ (l1 l2 : Option Value) (st : List Value) (σ : ri_S) (x : Nat), ev3 122 (0, [some (.ref x), l1, l2], st) σ = ev3 122 (1, [some (.ref x), l1, l2], .ref x :: st) σ) ∧
  (∀ (L : ri_L) (st : List Value) (σ : ri_S) (a : Nat), ev3 122 (1, L, .ref a :: st) σ = tv_o 8 1 (σ.1 a) fun v => ev3 122 (4, L, v :: st) σ) ∧
  (∀ (l0 l2 : Option Value) (st : List Value) (σ : ri_S) (x : Int32), ev3 122 (4, [l0, some (.int x), l2], st) σ = ev3 122 (5, [l0, some (.int x), l2], .int x :: st) σ) ∧
  (∀ (l0 l1 : Option Value) (st : List Value) (σ : ri_S) (x : Int32), ev3 122 (5, [l0, l1, some (.int x)], st) σ = ev3 122 (6, [l0, l1, some (.int x)], .int x :: st) σ) ∧
  (∀ (L : ri_L) (σ : ri_S) (a0 : Nat) (a1 : Int32) (a2 : Int32), ev3 122 (6, L, [.int a2, .int a1, .ref a0]) σ = tv_k 3 (σ.1 a0) ((cal 27 [.ref a0, .int a1, .int a2] σ).bind fun q => ev3 122 (9, L, q.1.toList ++ []) q.2)) ∧
  (∀ (L : ri_L) (σ : ri_S) (x : Int32), ev3 122 (9, L, [.int x]) σ = some (some (.int x), σ)) :=
  ⟨fun l1 l2 st σ x => eZ_p rfl rfl,
   fun L st σ a => eZ_getf rfl,
   fun l0 l2 st σ x => eZ_p rfl rfl,
   fun l0 l1 st σ x => eZ_p rfl rfl,
   fun L σ a0 a1 a2 => eZ_callv rfl rfl rfl rfl rfl,
   fun L σ x => eZ_r (rk := 1) rfl rfl⟩
theorem Z_123 :
  (∀ (l1 l2 : Option Value) (st : List Value) (σ : ri_S) (x : Nat), ev3 123 (0, [some (.ref x), l1, l2], st) σ = ev3 123 (1, [some (.ref x), l1, l2], .ref x :: st) σ) ∧
  (∀ (L : ri_L) (st : List Value) (σ : ri_S) (a : Nat), ev3 123 (1, L, .ref a :: st) σ = tv_o 8 1 (σ.1 a) fun v => ev3 123 (4, L, v :: st) σ) ∧
  (∀ (l0 l2 : Option Value) (st : List Value) (σ : ri_S) (x : Int32), ev3 123 (4, [l0, some (.int x), l2], st) σ = ev3 123 (5, [l0, some (.int x), l2], .int x :: st) σ) ∧
  (∀ (l0 l1 : Option Value) (st : List Value) (σ : ri_S) (x : Int32), ev3 123 (5, [l0, l1, some (.int x)], st) σ = ev3 123 (6, [l0, l1, some (.int x)], .int x :: st) σ) ∧
  (∀ (L : ri_L) (σ : ri_S) (a0 : Nat) (a1 : Int32) (a2 : Int32), ev3 123 (6, L, [.int a2, .int a1, .ref a0]) σ = tv_k 3 (σ.1 a0) ((cal 28 [.ref a0, .int a1, .int a2] σ).bind fun q => ev3 123 (9, L, q.1.toList ++ []) q.2)) ∧
  (∀ (L : ri_L) (σ : ri_S) (x : Int32), ev3 123 (9, L, [.int x]) σ = some (some (.int x), σ)) :=
  ⟨fun l1 l2 st σ x => eZ_p rfl rfl,
   fun L st σ a => eZ_getf rfl,
   fun l0 l2 st σ x => eZ_p rfl rfl,
   fun l0 l1 st σ x => eZ_p rfl rfl,
   fun L σ a0 a1 a2 => eZ_callv rfl rfl rfl rfl rfl,
   fun L σ x => eZ_r (rk := 1) rfl rfl⟩
theorem Z_124 :
  (∀ (l1 l2 : Option Value) (st : List Value) (σ : ri_S) (x : Nat), ev3 124 (0, [some (.ref x), l1, l2], st) σ = ev3 124 (1, [some (.ref x), l1, l2], .ref x :: st) σ) ∧
  (∀ (L : ri_L) (st : List Value) (σ : ri_S) (a : Nat), ev3 124 (1, L, .ref a :: st) σ = tv_o 8 1 (σ.1 a) fun v => ev3 124 (4, L, v :: st) σ) ∧
  (∀ (l0 l2 : Option Value) (st : List Value) (σ : ri_S) (x : Int32), ev3 124 (4, [l0, some (.int x), l2], st) σ = ev3 124 (5, [l0, some (.int x), l2], .int x :: st) σ) ∧
  (∀ (l0 l1 : Option Value) (st : List Value) (σ : ri_S) (x : Int32), ev3 124 (5, [l0, l1, some (.int x)], st) σ = ev3 124 (6, [l0, l1, some (.int x)], .int x :: st) σ) ∧
  (∀ (L : ri_L) (σ : ri_S) (a0 : Nat) (a1 : Int32) (a2 : Int32), ev3 124 (6, L, [.int a2, .int a1, .ref a0]) σ = tv_k 3 (σ.1 a0) ((cal 29 [.ref a0, .int a1, .int a2] σ).bind fun q => ev3 124 (9, L, q.1.toList ++ []) q.2)) ∧
  (∀ (L : ri_L) (σ : ri_S) (x : Int32), ev3 124 (9, L, [.int x]) σ = some (some (.int x), σ)) :=
  ⟨fun l1 l2 st σ x => eZ_p rfl rfl,
   fun L st σ a => eZ_getf rfl,
   fun l0 l2 st σ x => eZ_p rfl rfl,
   fun l0 l1 st σ x => eZ_p rfl rfl,
   fun L σ a0 a1 a2 => eZ_callv rfl rfl rfl rfl rfl,
   fun L σ x => eZ_r (rk := 1) rfl rfl⟩
theorem Z_125 :
  (∀ (l0 l2 : Option Value) (st : List Value) (σ : ri_S) (x : Int32), ev3 125 (0, [l0, some (.int x), l2], st) σ = ev3 125 (1, [l0, some (.int x), l2], .int x :: st) σ) ∧
  (∀ (L : ri_L) (st : List Value) (σ : ri_S), ev3 125 (1, L, st) σ = ev3 125 (2, L, .int 0 :: st) σ) ∧
  (∀ (L : ri_L) (st : List Value) (σ : ri_S), ev3 125 (2, L, st) σ = ev3 125 (3, L, .int 1 :: st) σ) ∧
  (∀ (L : ri_L) (σ : ri_S) (a0 : Int32) (a1 : Int32) (a2 : Int32), ev3 125 (3, L, [.int a2, .int a1, .int a0]) σ = (cal 137 [.int a0, .int a1, .int a2] σ).bind fun q => ev3 125 (6, L, q.1.toList ++ []) q.2) ∧
  (∀ (L : ri_L) (st : List Value) (σ : ri_S) (x : Int32), ev3 125 (6, L, .int x :: st) σ = if x = 0 then ev3 125 (13, L, st) σ else ev3 125 (9, L, st) σ) ∧
  (∀ (L : ri_L) (st : List Value) (σ : ri_S), ev3 125 (9, L, st) σ = ev3 125 (10, L, .int 0 :: st) σ) ∧
  (∀ (L : ri_L) (st : List Value) (σ : ri_S), ev3 125 (10, L, st) σ = ev3 125 (14, L, st) σ) ∧
  (∀ (L : ri_L) (st : List Value) (σ : ri_S), ev3 125 (13, L, st) σ = ev3 125 (14, L, .int 2 :: st) σ) ∧
  (∀ (L : ri_L) (σ : ri_S) (x : Int32), ev3 125 (14, L, [.int x]) σ = some (some (.int x), σ)) :=
  ⟨fun l0 l2 st σ x => eZ_p rfl rfl,
   fun L st σ => eZ_p rfl rfl,
   fun L st σ => eZ_p rfl rfl,
   fun L σ a0 a1 a2 => eZ_call rfl rfl rfl rfl rfl,
   fun L st σ x => eZ_b rfl rfl,
   fun L st σ => eZ_p rfl rfl,
   fun L st σ => eZ_p rfl rfl,
   fun L st σ => eZ_p rfl rfl,
   fun L σ x => eZ_r (rk := 1) rfl rfl⟩
theorem Z_126 :
  (∀ (st : List Value) (σ : ri_S) (x : Nat), ev3 126 (0, [some (.ref x)], st) σ = ev3 126 (1, [some (.ref x)], .ref x :: st) σ) ∧
  (∀ (L : ri_L) (st : List Value) (σ : ri_S) (a : Nat), ev3 126 (1, L, .ref a :: st) σ = tv_o 8 3 (σ.1 a) fun v => ev3 126 (4, L, v :: st) σ) ∧
  (∀ (L : ri_L) (σ : ri_S) (a0 : Nat), ev3 126 (4, L, [.ref a0]) σ = tv_k 1 (σ.1 a0) ((cal 8 [.ref a0] σ).bind fun q => ev3 126 (7, L, q.1.toList ++ []) q.2)) ∧
  (∀ (L : ri_L) (st : List Value) (σ : ri_S) (x : Int32), ev3 126 (7, L, .int x :: st) σ = if x = 0 then ev3 126 (14, L, st) σ else ev3 126 (10, L, st) σ) ∧
  (∀ (L : ri_L) (st : List Value) (σ : ri_S), ev3 126 (10, L, st) σ = ev3 126 (11, L, .int 3 :: st) σ) ∧
  (∀ (L : ri_L) (st : List Value) (σ : ri_S), ev3 126 (11, L, st) σ = ev3 126 (15, L, st) σ) ∧
  (∀ (L : ri_L) (st : List Value) (σ : ri_S), ev3 126 (14, L, st) σ = ev3 126 (15, L, .int 0 :: st) σ) ∧
  (∀ (L : ri_L) (σ : ri_S) (x : Int32), ev3 126 (15, L, [.int x]) σ = some (some (.int x), σ)) :=
  ⟨fun st σ x => eZ_p rfl rfl,
   fun L st σ a => eZ_getf rfl,
   fun L σ a0 => eZ_callv rfl rfl rfl rfl rfl,
   fun L st σ x => eZ_b rfl rfl,
   fun L st σ => eZ_p rfl rfl,
   fun L st σ => eZ_p rfl rfl,
   fun L st σ => eZ_p rfl rfl,
   fun L σ x => eZ_r (rk := 1) rfl rfl⟩
theorem Z_127 :
  (∀ (l1 l2 : Option Value) (st : List Value) (σ : ri_S) (x : Nat), ev3 127 (0, [some (.ref x), l1, l2], st) σ = ev3 127 (1, [some (.ref x), l1, l2], .ref x :: st) σ) ∧
  (∀ (L : ri_L) (st : List Value) (σ : ri_S) (a : Nat), ev3 127 (1, L, .ref a :: st) σ = tv_o 8 1 (σ.1 a) fun v => ev3 127 (4, L, v :: st) σ) ∧
  (∀ (l0 l2 : Option Value) (st : List Value) (σ : ri_S) (x : Int32), ev3 127 (4, [l0, some (.int x), l2], st) σ = ev3 127 (5, [l0, some (.int x), l2], .int x :: st) σ) ∧
  (∀ (l0 l1 : Option Value) (st : List Value) (σ : ri_S) (x : Int32), ev3 127 (5, [l0, l1, some (.int x)], st) σ = ev3 127 (6, [l0, l1, some (.int x)], .int x :: st) σ) ∧
  (∀ (L : ri_L) (σ : ri_S) (a0 : Nat) (a1 : Int32) (a2 : Int32), ev3 127 (6, L, [.int a2, .int a1, .ref a0]) σ = tv_k 3 (σ.1 a0) ((cal 27 [.ref a0, .int a1, .int a2] σ).bind fun q => ev3 127 (9, L, q.1.toList ++ []) q.2)) ∧
  (∀ (L : ri_L) (σ : ri_S) (x : Int32), ev3 127 (9, L, [.int x]) σ = some (some (.int x), σ)) :=
  ⟨fun l1 l2 st σ x => eZ_p rfl rfl,
   fun L st σ a => eZ_getf rfl,
   fun l0 l2 st σ x => eZ_p rfl rfl,
   fun l0 l1 st σ x => eZ_p rfl rfl,
   fun L σ a0 a1 a2 => eZ_callv rfl rfl rfl rfl rfl,
   fun L σ x => eZ_r (rk := 1) rfl rfl⟩
theorem Z_128 :
  (∀ (l1 l2 l3 l4 : Option Value) (st : List Value) (σ : ri_S) (x : Nat), ev3 128 (0, [some (.ref x), l1, l2, l3, l4], st) σ = ev3 128 (1, [some (.ref x), l1, l2, l3, l4], .ref x :: st) σ) ∧
  (∀ (L : ri_L) (st : List Value) (σ : ri_S) (a : Nat), ev3 128 (1, L, .ref a :: st) σ = tv_o 8 1 (σ.1 a) fun v => ev3 128 (4, L, v :: st) σ) ∧
  (∀ (L : ri_L) (st : List Value) (σ : ri_S) (a : Nat), ev3 128 (4, L, .ref a :: st) σ = tv_o 3 2 (σ.1 a) fun v => ev3 128 (7, L, v :: st) σ) ∧
  (∀ (l0 l2 l3 l4 : Option Value) (st : List Value) (σ : ri_S) (x : Int32), ev3 128 (7, [l0, some (.int x), l2, l3, l4], st) σ = ev3 128 (8, [l0, some (.int x), l2, l3, l4], .int x :: st) σ) ∧
  (∀ (L : ri_L) (σ : ri_S) (a0 : Nat) (a1 : Int32), ev3 128 (8, L, [.int a1, .ref a0]) σ = tv_k 0 (σ.1 a0) ((cal 1 [.ref a0, .int a1] σ).bind fun q => ev3 128 (11, L, q.1.toList ++ []) q.2)) ∧
  (∀ (L : ri_L) (st : List Value) (σ : ri_S) (x : Int32), ev3 128 (11, L, .int x :: st) σ = if x = 0 then ev3 128 (38, L, st) σ else ev3 128 (14, L, st) σ) ∧
  (∀ (l1 l2 l3 l4 : Option Value) (st : List Value) (σ : ri_S) (x : Nat), ev3 128 (14, [some (.ref x), l1, l2, l3, l4], st) σ = ev3 128 (15, [some (.ref x), l1, l2, l3, l4], .ref x :: st) σ) ∧
  (∀ (L : ri_L) (st : List Value) (σ : ri_S) (a : Nat), ev3 128 (15, L, .ref a :: st) σ = tv_o 8 1 (σ.1 a) fun v => ev3 128 (18, L, v :: st) σ) ∧
  (∀ (L : ri_L) (st : List Value) (σ : ri_S) (a : Nat), ev3 128 (18, L, .ref a :: st) σ = tv_o 3 0 (σ.1 a) fun v => ev3 128 (21, L, v :: st) σ) ∧
  (∀ (l0 l1 l3 l4 : Option Value) (st : List Value) (σ : ri_S) (x : Int32), ev3 128 (21, [l0, l1, some (.int x), l3, l4], st) σ = ev3 128 (22, [l0, l1, some (.int x), l3, l4], .int x :: st) σ) ∧
  (∀ (l0 l1 l2 l4 : Option Value) (st : List Value) (σ : ri_S) (x : Int32), ev3 128 (22, [l0, l1, l2, some (.int x), l4], st) σ = ev3 128 (23, [l0, l1, l2, some (.int x), l4], .int x :: st) σ) ∧
  (∀ (L : ri_L) (σ : ri_S) (a0 : Nat) (a1 : Int32) (a2 : Int32), ev3 128 (23, L, [.int a2, .int a1, .ref a0]) σ = tv_k 7 (σ.1 a0) ((cal 98 [.ref a0, .int a1, .int a2] σ).bind fun q => ev3 128 (26, L, q.1.toList ++ []) q.2)) ∧
  (∀ (L : ri_L) (st : List Value) (σ : ri_S) (x : Int32), ev3 128 (26, L, .int x :: st) σ = if x = 0 then ev3 128 (38, L, st) σ else ev3 128 (29, L, st) σ) ∧
  (∀ (l0 l1 l2 l3 : Option Value) (st : List Value) (σ : ri_S) (x : Int32), ev3 128 (29, [l0, l1, l2, l3, some (.int x)], st) σ = ev3 128 (31, [l0, l1, l2, l3, some (.int x)], .int x :: st) σ) ∧
  (∀ (L : ri_L) (st : List Value) (σ : ri_S), ev3 128 (31, L, st) σ = ev3 128 (32, L, .int 1 :: st) σ) ∧
  (∀ (L : ri_L) (σ : ri_S) (a0 : Int32) (a1 : Int32), ev3 128 (32, L, [.int a1, .int a0]) σ = (cal 136 [.int a0, .int a1] σ).bind fun q => ev3 128 (35, L, q.1.toList ++ []) q.2) ∧
  (∀ (L : ri_L) (st : List Value) (σ : ri_S), ev3 128 (35, L, st) σ = ev3 128 (39, L, st) σ) ∧
  (∀ (L : ri_L) (st : List Value) (σ : ri_S), ev3 128 (38, L, st) σ = ev3 128 (39, L, .int 1 :: st) σ) ∧
  (∀ (L : ri_L) (σ : ri_S) (x : Int32), ev3 128 (39, L, [.int x]) σ = some (some (.int x), σ)) :=
  ⟨fun l1 l2 l3 l4 st σ x => eZ_p rfl rfl,
   fun L st σ a => eZ_getf rfl,
   fun L st σ a => eZ_getf rfl,
   fun l0 l2 l3 l4 st σ x => eZ_p rfl rfl,
   fun L σ a0 a1 => eZ_callv rfl rfl rfl rfl rfl,
   fun L st σ x => eZ_b rfl rfl,
   fun l1 l2 l3 l4 st σ x => eZ_p rfl rfl,
   fun L st σ a => eZ_getf rfl,
   fun L st σ a => eZ_getf rfl,
   fun l0 l1 l3 l4 st σ x => eZ_p rfl rfl,
   fun l0 l1 l2 l4 st σ x => eZ_p rfl rfl,
   fun L σ a0 a1 a2 => eZ_callv rfl rfl rfl rfl rfl,
   fun L st σ x => eZ_b rfl rfl,
   fun l0 l1 l2 l3 st σ x => eZ_p rfl rfl,
   fun L st σ => eZ_p rfl rfl,
   fun L σ a0 a1 => eZ_call rfl rfl rfl rfl rfl,
   fun L st σ => eZ_p rfl rfl,
   fun L st σ => eZ_p rfl rfl,
   fun L σ x => eZ_r (rk := 1) rfl rfl⟩
theorem Z_129 :
  (∀ (l1 l2 : Option Value) (st : List Value) (σ : ri_S) (x : Nat), ev3 129 (0, [some (.ref x), l1, l2], st) σ = ev3 129 (1, [some (.ref x), l1, l2], .ref x :: st) σ) ∧
  (∀ (L : ri_L) (st : List Value) (σ : ri_S) (a : Nat), ev3 129 (1, L, .ref a :: st) σ = tv_o 8 1 (σ.1 a) fun v => ev3 129 (4, L, v :: st) σ) ∧
  (∀ (L : ri_L) (st : List Value) (σ : ri_S) (a : Nat), ev3 129 (4, L, .ref a :: st) σ = tv_o 3 2 (σ.1 a) fun v => ev3 129 (7, L, v :: st) σ) ∧
  (∀ (l0 l2 : Option Value) (st : List Value) (σ : ri_S) (x : Int32), ev3 129 (7, [l0, some (.int x), l2], st) σ = ev3 129 (8, [l0, some (.int x), l2], .int x :: st) σ) ∧
  (∀ (L : ri_L) (σ : ri_S) (a0 : Nat) (a1 : Int32), ev3 129 (8, L, [.int a1, .ref a0]) σ = tv_k 0 (σ.1 a0) ((cal 1 [.ref a0, .int a1] σ).bind fun q => ev3 129 (11, L, q.1.toList ++ []) q.2)) ∧
  (∀ (L : ri_L) (st : List Value) (σ : ri_S) (x : Int32), ev3 129 (11, L, .int x :: st) σ = if x = 0 then ev3 129 (32, L, st) σ else ev3 129 (14, L, st) σ) ∧
  (∀ (l1 l2 : Option Value) (st : List Value) (σ : ri_S) (x : Nat), ev3 129 (14, [some (.ref x), l1, l2], st) σ = ev3 129 (15, [some (.ref x), l1, l2], .ref x :: st) σ) ∧
  (∀ (L : ri_L) (st : List Value) (σ : ri_S) (a : Nat), ev3 129 (15, L, .ref a :: st) σ = tv_o 8 1 (σ.1 a) fun v => ev3 129 (18, L, v :: st) σ) ∧
  (∀ (L : ri_L) (st : List Value) (σ : ri_S) (a : Nat), ev3 129 (18, L, .ref a :: st) σ = tv_o 3 0 (σ.1 a) fun v => ev3 129 (21, L, v :: st) σ) ∧
  (∀ (l0 l1 : Option Value) (st : List Value) (σ : ri_S) (x : Int32), ev3 129 (21, [l0, l1, some (.int x)], st) σ = ev3 129 (22, [l0, l1, some (.int x)], .int x :: st) σ) ∧
  (∀ (L : ri_L) (σ : ri_S) (a0 : Nat) (a1 : Int32), ev3 129 (22, L, [.int a1, .ref a0]) σ = tv_k 7 (σ.1 a0) ((cal 97 [.ref a0, .int a1] σ).bind fun q => ev3 129 (25, L, q.1.toList ++ []) q.2)) ∧
  (∀ (L : ri_L) (st : List Value) (σ : ri_S) (x : Int32), ev3 129 (25, L, .int x :: st) σ = if x = 0 then ev3 129 (32, L, st) σ else ev3 129 (28, L, st) σ) ∧
  (∀ (L : ri_L) (st : List Value) (σ : ri_S), ev3 129 (28, L, st) σ = ev3 129 (29, L, .int 0 :: st) σ) ∧
  (∀ (L : ri_L) (st : List Value) (σ : ri_S), ev3 129 (29, L, st) σ = ev3 129 (33, L, st) σ) ∧
  (∀ (L : ri_L) (st : List Value) (σ : ri_S), ev3 129 (32, L, st) σ = ev3 129 (33, L, .int 1 :: st) σ) ∧
  (∀ (L : ri_L) (σ : ri_S) (x : Int32), ev3 129 (33, L, [.int x]) σ = some (some (.int x), σ)) :=
  ⟨fun l1 l2 st σ x => eZ_p rfl rfl,
   fun L st σ a => eZ_getf rfl,
   fun L st σ a => eZ_getf rfl,
   fun l0 l2 st σ x => eZ_p rfl rfl,
   fun L σ a0 a1 => eZ_callv rfl rfl rfl rfl rfl,
   fun L st σ x => eZ_b rfl rfl,
   fun l1 l2 st σ x => eZ_p rfl rfl,
   fun L st σ a => eZ_getf rfl,
   fun L st σ a => eZ_getf rfl,
   fun l0 l1 st σ x => eZ_p rfl rfl,
   fun L σ a0 a1 => eZ_callv rfl rfl rfl rfl rfl,
   fun L st σ x => eZ_b rfl rfl,
   fun L st σ => eZ_p rfl rfl,
   fun L st σ => eZ_p rfl rfl,
   fun L st σ => eZ_p rfl rfl,
   fun L σ x => eZ_r (rk := 1) rfl rfl⟩
theorem Z_130 :
  (∀ (l1 l2 : Option Value) (st : List Value) (σ : ri_S) (x : Nat), ev3 130 (0, [some (.ref x), l1, l2], st) σ = ev3 130 (1, [some (.ref x), l1, l2], .ref x :: st) σ) ∧
  (∀ (L : ri_L) (st : List Value) (σ : ri_S) (a : Nat), ev3 130 (1, L, .ref a :: st) σ = tv_o 8 1 (σ.1 a) fun v => ev3 130 (4, L, v :: st) σ) ∧
  (∀ (L : ri_L) (st : List Value) (σ : ri_S) (a : Nat), ev3 130 (4, L, .ref a :: st) σ = tv_o 3 2 (σ.1 a) fun v => ev3 130 (7, L, v :: st) σ) ∧
  (∀ (l0 l2 : Option Value) (st : List Value) (σ : ri_S) (x : Int32), ev3 130 (7, [l0, some (.int x), l2], st) σ = ev3 130 (8, [l0, some (.int x), l2], .int x :: st) σ) ∧
  (∀ (L : ri_L) (σ : ri_S) (a0 : Nat) (a1 : Int32), ev3 130 (8, L, [.int a1, .ref a0]) σ = tv_k 0 (σ.1 a0) ((cal 1 [.ref a0, .int a1] σ).bind fun q => ev3 130 (11, L, q.1.toList ++ []) q.2)) ∧
  (∀ (L : ri_L) (st : List Value) (σ : ri_S) (x : Int32), ev3 130 (11, L, .int x :: st) σ = if ¬ x = 0 then ev3 130 (18, L, st) σ else ev3 130 (14, L, st) σ) ∧
  (∀ (L : ri_L) (st : List Value) (σ : ri_S), ev3 130 (14, L, st) σ = ev3 130 (15, L, .int 1 :: st) σ) ∧
  (∀ (L : ri_L) (st : List Value) (σ : ri_S), ev3 130 (15, L, st) σ = ev3 130 (32, L, st) σ) ∧
  (∀ (l0 l1 : Option Value) (st : List Value) (σ : ri_S) (x : Int32), ev3 130 (18, [l0, l1, some (.int x)], st) σ = ev3 130 (19, [l0, l1, some (.int x)], .int x :: st) σ) ∧
  (∀ (L : ri_L) (st : List Value) (σ : ri_S), ev3 130 (19, L, st) σ = ev3 130 (20, L, .int 1 :: st) σ) ∧
  (∀ (L : ri_L) (st : List Value) (σ : ri_S), ev3 130 (20, L, st) σ = ev3 130 (21, L, .int 4 :: st) σ) ∧
  (∀ (L : ri_L) (σ : ri_S) (a0 : Int32) (a1 : Int32) (a2 : Int32), ev3 130 (21, L, [.int a2, .int a1, .int a0]) σ = (cal 137 [.int a0, .int a1, .int a2] σ).bind fun q => ev3 130 (24, L, q.1.toList ++ []) q.2) ∧
  (∀ (L : ri_L) (st : List Value) (σ : ri_S) (x : Int32), ev3 130 (24, L, .int x :: st) σ = if x = 0 then ev3 130 (31, L, st) σ else ev3 130 (27, L, st) σ) ∧
  (∀ (L : ri_L) (st : List Value) (σ : ri_S), ev3 130 (27, L, st) σ = ev3 130 (28, L, .int 0 :: st) σ) ∧
  (∀ (L : ri_L) (st : List Value) (σ : ri_S), ev3 130 (28, L, st) σ = ev3 130 (32, L, st) σ) ∧
  (∀ (L : ri_L) (st : List Value) (σ : ri_S), ev3 130 (31, L, st) σ = ev3 130 (32, L, .int 2 :: st) σ) ∧
  (∀ (L : ri_L) (σ : ri_S) (x : Int32), ev3 130 (32, L, [.int x]) σ = some (some (.int x), σ)) :=
  ⟨fun l1 l2 st σ x => eZ_p rfl rfl,
   fun L st σ a => eZ_getf rfl,
   fun L st σ a => eZ_getf rfl,
   fun l0 l2 st σ x => eZ_p rfl rfl,
   fun L σ a0 a1 => eZ_callv rfl rfl rfl rfl rfl,
   fun L st σ x => eZ_b rfl rfl,
   fun L st σ => eZ_p rfl rfl,
   fun L st σ => eZ_p rfl rfl,
   fun l0 l1 st σ x => eZ_p rfl rfl,
   fun L st σ => eZ_p rfl rfl,
   fun L st σ => eZ_p rfl rfl,
   fun L σ a0 a1 a2 => eZ_call rfl rfl rfl rfl rfl,
   fun L st σ x => eZ_b rfl rfl,
   fun L st σ => eZ_p rfl rfl,
   fun L st σ => eZ_p rfl rfl,
   fun L st σ => eZ_p rfl rfl,
   fun L σ x => eZ_r (rk := 1) rfl rfl⟩
theorem Z_131 :
  (∀ (l0 l2 l3 : Option Value) (st : List Value) (σ : ri_S) (x : Int32), ev3 131 (0, [l0, some (.int x), l2, l3], st) σ = ev3 131 (1, [l0, some (.int x), l2, l3], .int x :: st) σ) ∧
  (∀ (l0 l1 l3 : Option Value) (st : List Value) (σ : ri_S) (x : Int64), ev3 131 (1, [l0, l1, some (.long x), l3], st) σ = ev3 131 (2, [l0, l1, some (.long x), l3], .long x :: st) σ) ∧
  (∀ (L : ri_L) (σ : ri_S) (a0 : Int32) (a1 : Int64), ev3 131 (2, L, [.long a1, .int a0]) σ = (cal 51 [.int a0, .long a1] σ).bind fun q => ev3 131 (5, L, q.1.toList ++ []) q.2) ∧
  (∀ (L : ri_L) (σ : ri_S) (x : Int32), ev3 131 (5, L, [.int x]) σ = some (some (.int x), σ)) :=
  ⟨fun l0 l2 l3 st σ x => eZ_p rfl rfl,
   fun l0 l1 l3 st σ x => eZ_p rfl rfl,
   fun L σ a0 a1 => eZ_call rfl rfl rfl rfl rfl,
   fun L σ x => eZ_r (rk := 1) rfl rfl⟩
theorem Z_132 :
  (∀ (l0 l1 l2 : Option Value) (st : List Value) (σ : ri_S) (x : Int32), ev3 132 (0, [l0, l1, l2, some (.int x)], st) σ = ev3 132 (1, [l0, l1, l2, some (.int x)], .int x :: st) σ) ∧
  (∀ (L : ri_L) (st : List Value) (σ : ri_S), ev3 132 (1, L, st) σ = ev3 132 (2, L, .int 1 :: st) σ) ∧
  (∀ (L : ri_L) (st : List Value) (σ : ri_S), ev3 132 (2, L, st) σ = ev3 132 (4, L, .int 60 :: st) σ) ∧
  (∀ (L : ri_L) (σ : ri_S) (a0 : Int32) (a1 : Int32) (a2 : Int32), ev3 132 (4, L, [.int a2, .int a1, .int a0]) σ = (cal 137 [.int a0, .int a1, .int a2] σ).bind fun q => ev3 132 (7, L, q.1.toList ++ []) q.2) ∧
  (∀ (L : ri_L) (st : List Value) (σ : ri_S) (x : Int32), ev3 132 (7, L, .int x :: st) σ = if x = 0 then ev3 132 (14, L, st) σ else ev3 132 (10, L, st) σ) ∧
  (∀ (L : ri_L) (st : List Value) (σ : ri_S), ev3 132 (10, L, st) σ = ev3 132 (11, L, .int 0 :: st) σ) ∧
  (∀ (L : ri_L) (st : List Value) (σ : ri_S), ev3 132 (11, L, st) σ = ev3 132 (15, L, st) σ) ∧
  (∀ (L : ri_L) (st : List Value) (σ : ri_S), ev3 132 (14, L, st) σ = ev3 132 (15, L, .int 2 :: st) σ) ∧
  (∀ (L : ri_L) (σ : ri_S) (x : Int32), ev3 132 (15, L, [.int x]) σ = some (some (.int x), σ)) :=
  ⟨fun l0 l1 l2 st σ x => eZ_p rfl rfl,
   fun L st σ => eZ_p rfl rfl,
   fun L st σ => eZ_p rfl rfl,
   fun L σ a0 a1 a2 => eZ_call rfl rfl rfl rfl rfl,
   fun L st σ x => eZ_b rfl rfl,
   fun L st σ => eZ_p rfl rfl,
   fun L st σ => eZ_p rfl rfl,
   fun L st σ => eZ_p rfl rfl,
   fun L σ x => eZ_r (rk := 1) rfl rfl⟩
theorem Z_133 :
  (∀ (l0 : Option Value) (st : List Value) (σ : ri_S) (x : Int32), ev3 133 (0, [l0, some (.int x)], st) σ = ev3 133 (1, [l0, some (.int x)], .int x :: st) σ) ∧
  (∀ (L : ri_L) (st : List Value) (σ : ri_S), ev3 133 (1, L, st) σ = ev3 133 (2, L, .int 0 :: st) σ) ∧
  (∀ (L : ri_L) (st : List Value) (σ : ri_S), ev3 133 (2, L, st) σ = ev3 133 (3, L, .int 1 :: st) σ) ∧
  (∀ (L : ri_L) (σ : ri_S) (a0 : Int32) (a1 : Int32) (a2 : Int32), ev3 133 (3, L, [.int a2, .int a1, .int a0]) σ = (cal 137 [.int a0, .int a1, .int a2] σ).bind fun q => ev3 133 (6, L, q.1.toList ++ []) q.2) ∧
  (∀ (L : ri_L) (st : List Value) (σ : ri_S) (x : Int32), ev3 133 (6, L, .int x :: st) σ = if x = 0 then ev3 133 (13, L, st) σ else ev3 133 (9, L, st) σ) ∧
  (∀ (L : ri_L) (st : List Value) (σ : ri_S), ev3 133 (9, L, st) σ = ev3 133 (10, L, .int 0 :: st) σ) ∧
  (∀ (L : ri_L) (st : List Value) (σ : ri_S), ev3 133 (10, L, st) σ = ev3 133 (14, L, st) σ) ∧
  (∀ (L : ri_L) (st : List Value) (σ : ri_S), ev3 133 (13, L, st) σ = ev3 133 (14, L, .int 1 :: st) σ) ∧
  (∀ (L : ri_L) (σ : ri_S) (x : Int32), ev3 133 (14, L, [.int x]) σ = some (some (.int x), σ)) :=
  ⟨fun l0 st σ x => eZ_p rfl rfl,
   fun L st σ => eZ_p rfl rfl,
   fun L st σ => eZ_p rfl rfl,
   fun L σ a0 a1 a2 => eZ_call rfl rfl rfl rfl rfl,
   fun L st σ x => eZ_b rfl rfl,
   fun L st σ => eZ_p rfl rfl,
   fun L st σ => eZ_p rfl rfl,
   fun L st σ => eZ_p rfl rfl,
   fun L σ x => eZ_r (rk := 1) rfl rfl⟩
theorem Z_134 :
  (∀ (l0 : Option Value) (st : List Value) (σ : ri_S) (x : Int32), ev3 134 (0, [l0, some (.int x)], st) σ = ev3 134 (1, [l0, some (.int x)], .int x :: st) σ) ∧
  (∀ (L : ri_L) (st : List Value) (σ : ri_S), ev3 134 (1, L, st) σ = ev3 134 (2, L, .int 0 :: st) σ) ∧
  (∀ (L : ri_L) (st : List Value) (σ : ri_S), ev3 134 (2, L, st) σ = ev3 134 (3, L, .int 1 :: st) σ) ∧
  (∀ (L : ri_L) (σ : ri_S) (a0 : Int32) (a1 : Int32) (a2 : Int32), ev3 134 (3, L, [.int a2, .int a1, .int a0]) σ = (cal 137 [.int a0, .int a1, .int a2] σ).bind fun q => ev3 134 (6, L, q.1.toList ++ []) q.2) ∧
  (∀ (L : ri_L) (st : List Value) (σ : ri_S) (x : Int32), ev3 134 (6, L, .int x :: st) σ = if ¬ x = 0 then ev3 134 (13, L, st) σ else ev3 134 (9, L, st) σ) ∧
  (∀ (L : ri_L) (st : List Value) (σ : ri_S), ev3 134 (9, L, st) σ = ev3 134 (10, L, .int 1 :: st) σ) ∧
  (∀ (L : ri_L) (st : List Value) (σ : ri_S), ev3 134 (10, L, st) σ = ev3 134 (29, L, st) σ) ∧
  (∀ (l1 : Option Value) (st : List Value) (σ : ri_S) (x : Nat), ev3 134 (13, [some (.ref x), l1], st) σ = ev3 134 (14, [some (.ref x), l1], .ref x :: st) σ) ∧
  (∀ (L : ri_L) (st : List Value) (σ : ri_S) (a : Nat), ev3 134 (14, L, .ref a :: st) σ = tv_o 8 4 (σ.1 a) fun v => ev3 134 (17, L, v :: st) σ) ∧
  (∀ (l0 : Option Value) (st : List Value) (σ : ri_S) (x : Int32), ev3 134 (17, [l0, some (.int x)], st) σ = ev3 134 (18, [l0, some (.int x)], .int x :: st) σ) ∧
  (∀ (L : ri_L) (σ : ri_S) (a0 : Nat) (a1 : Int32), ev3 134 (18, L, [.int a1, .ref a0]) σ = tv_k 5 (σ.1 a0) ((cal 82 [.ref a0, .int a1] σ).bind fun q => ev3 134 (21, L, q.1.toList ++ []) q.2)) ∧
  (∀ (L : ri_L) (st : List Value) (σ : ri_S) (x : Int32), ev3 134 (21, L, .int x :: st) σ = if x = 0 then ev3 134 (28, L, st) σ else ev3 134 (24, L, st) σ) ∧
  (∀ (L : ri_L) (st : List Value) (σ : ri_S), ev3 134 (24, L, st) σ = ev3 134 (25, L, .int 0 :: st) σ) ∧
  (∀ (L : ri_L) (st : List Value) (σ : ri_S), ev3 134 (25, L, st) σ = ev3 134 (29, L, st) σ) ∧
  (∀ (L : ri_L) (st : List Value) (σ : ri_S), ev3 134 (28, L, st) σ = ev3 134 (29, L, .int 3 :: st) σ) ∧
  (∀ (L : ri_L) (σ : ri_S) (x : Int32), ev3 134 (29, L, [.int x]) σ = some (some (.int x), σ)) :=
  ⟨fun l0 st σ x => eZ_p rfl rfl,
   fun L st σ => eZ_p rfl rfl,
   fun L st σ => eZ_p rfl rfl,
   fun L σ a0 a1 a2 => eZ_call rfl rfl rfl rfl rfl,
   fun L st σ x => eZ_b rfl rfl,
   fun L st σ => eZ_p rfl rfl,
   fun L st σ => eZ_p rfl rfl,
   fun l1 st σ x => eZ_p rfl rfl,
   fun L st σ a => eZ_getf rfl,
   fun l0 st σ x => eZ_p rfl rfl,
   fun L σ a0 a1 => eZ_callv rfl rfl rfl rfl rfl,
   fun L st σ x => eZ_b rfl rfl,
   fun L st σ => eZ_p rfl rfl,
   fun L st σ => eZ_p rfl rfl,
   fun L st σ => eZ_p rfl rfl,
   fun L σ x => eZ_r (rk := 1) rfl rfl⟩
end ROWS3
