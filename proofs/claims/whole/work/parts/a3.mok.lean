/-! Every entry of the second table is the machine's. -/
theorem q_359 : (Jvm.Cond.methodLink "LilyWheels$Text" (48 : Nat) ({ cls := "LilyWheels$Text", name := "isAllowed", desc := "(II)Z" } : Jvm.MethodName)) ∈ ri_LW := ri_inn (i := 398) (by decide +kernel) (by decide +kernel)
theorem q_361 : (Jvm.Cond.instanceMethod ({ cls := "LilyWheels$Text", name := "isAllowed", desc := "(II)Z" } : Jvm.MethodName)) ∈ ri_LW := ri_inn (i := 400) (by decide +kernel) (by decide +kernel)
theorem q_362 : (Jvm.Cond.code ({ cls := "LilyWheels$Text", name := "isAllowed", desc := "(II)Z" } : Jvm.MethodName) prog_10_method_7_code (4 : Nat) (Option.some Jvm.ClassFile.FieldType.boolean)) ∈ ri_LW := ri_inn (i := 401) (by decide +kernel) (by decide +kernel)
theorem qp_0 : Cond.selects "LilyWheels$Text" ⟨"LilyWheels$Text", "isAllowed", "(II)Z"⟩ ⟨"LilyWheels$Text", "isAllowed", "(II)Z"⟩ ∈ ri_LW := ri_inn (i := 0) (by decide +kernel) (by decide +kernel)
theorem jt_em {cc : ByteArray} {nL pc : Nat} (hd : decode cc pc = .ok (.invokevirtual 35, 3)) : ri_cok ri_LW jw_cl "LilyWheels$Text" cc nL pc jy_em jb_em 1 (some .boolean) 1 (some 0) := rc_V (n := 0) (ci := 0) (T := fun _ => default) (Nn := 0) ri_LWok rfl hd (show (Cond.methodLink "LilyWheels$Text" 35 jy_em) ∈ ri_LW from List.mem_filter.mpr ⟨by decide +kernel, by decide +kernel⟩) (show (Cond.instanceMethod jy_em) ∈ ri_LW from List.mem_filter.mpr ⟨by decide +kernel, by decide +kernel⟩) (show (Cond.selects RJ0 jy_em jy_em) ∈ ri_LW from List.mem_filter.mpr ⟨by decide +kernel, by decide +kernel⟩) (show (Cond.initialized RJ0) ∈ ri_LW from List.mem_filter.mpr ⟨by decide +kernel, by decide +kernel⟩) (show (Cond.code jy_em jb_em 1 (some .boolean)) ∈ ri_LW from List.mem_filter.mpr ⟨by decide +kernel, by decide +kernel⟩) ⟨⟨by decide +kernel, by decide +kernel⟩, by decide +kernel⟩
theorem jt_ln {cc : ByteArray} {nL pc : Nat} (hd : decode cc pc = .ok (.invokevirtual 41, 3)) : ri_cok ri_LW jw_cl "LilyWheels$Text" cc nL pc jy_ln jb_ln 1 (some .int) 1 (some 0) := rc_V (n := 0) (ci := 0) (T := fun _ => default) (Nn := 0) ri_LWok rfl hd (show (Cond.methodLink "LilyWheels$Text" 41 jy_ln) ∈ ri_LW from List.mem_filter.mpr ⟨by decide +kernel, by decide +kernel⟩) (show (Cond.instanceMethod jy_ln) ∈ ri_LW from List.mem_filter.mpr ⟨by decide +kernel, by decide +kernel⟩) (show (Cond.selects RJ0 jy_ln jy_ln) ∈ ri_LW from List.mem_filter.mpr ⟨by decide +kernel, by decide +kernel⟩) (show (Cond.initialized RJ0) ∈ ri_LW from List.mem_filter.mpr ⟨by decide +kernel, by decide +kernel⟩) (show (Cond.code jy_ln jb_ln 1 (some .int)) ∈ ri_LW from List.mem_filter.mpr ⟨by decide +kernel, by decide +kernel⟩) ⟨⟨by decide +kernel, by decide +kernel⟩, by decide +kernel⟩
theorem jt_ch {cc : ByteArray} {nL pc : Nat} (hd : decode cc pc = .ok (.invokevirtual 44, 3)) : ri_cok ri_LW jw_cl "LilyWheels$Text" cc nL pc jy_ch jb_ch 2 (some .char) 2 (some 0) := rc_V (n := 1) (ci := 0) (T := fun _ => default) (Nn := 0) ri_LWok rfl hd (show (Cond.methodLink "LilyWheels$Text" 44 jy_ch) ∈ ri_LW from List.mem_filter.mpr ⟨by decide +kernel, by decide +kernel⟩) (show (Cond.instanceMethod jy_ch) ∈ ri_LW from List.mem_filter.mpr ⟨by decide +kernel, by decide +kernel⟩) (show (Cond.selects RJ0 jy_ch jy_ch) ∈ ri_LW from List.mem_filter.mpr ⟨by decide +kernel, by decide +kernel⟩) (show (Cond.initialized RJ0) ∈ ri_LW from List.mem_filter.mpr ⟨by decide +kernel, by decide +kernel⟩) (show (Cond.code jy_ch jb_ch 2 (some .char)) ∈ ri_LW from List.mem_filter.mpr ⟨by decide +kernel, by decide +kernel⟩) ⟨⟨by decide +kernel, by decide +kernel⟩, by decide +kernel⟩
def sj_k : Nat → Nat := fun i => ([52, 54, 56, 58, 60, 62, 64] : List Nat).getD i 0
def sj_t : Nat → String := fun i => (["notu", "wpwp", "wpd", "fl", "fs", "wk", ""] : List String).getD i ""
/-- what stands of strings and the library's statics, and where the text's literals are named -/
def sj_E (Ks Kv : Nat → Nat) (A : Nat → Prop) (U : State) (H : Heap) : Prop := sx_E Ks Kv A U H ∧ ∀ i, i < 7 → vk_R "LilyWheels$Text" (sj_k i) (sj_t i) (Ks i) U
theorem sk_i_of {Ks : Nat → Nat} {a i : Nat} (h : sk_i Ks a = some i) : Ks i = a ∧ i < 7 := by
  unfold sk_i at h
  have h1 := List.find?_some h
  have h2 := List.mem_of_find?_eq_some h
  refine ⟨Nat.eq_of_beq_eq_true h1, ?_⟩
  simp at h2
  omega
theorem sk_ok_of {Ks Kv : Nat → Nat} {A : Nat → Prop} {U : State} {H : Heap} (h : sx_E Ks Kv A U H) : sk_ok Ks := by
  intro i hi
  cases hf : sk_i Ks (Ks i) with
  | none =>
    unfold sk_i at hf
    rw [List.find?_eq_none] at hf
    refine absurd ?_ (hf i (by have : i = 0 ∨ i = 1 ∨ i = 2 ∨ i = 3 ∨ i = 4 ∨ i = 5 ∨ i = 6 := by omega
                               simp [this]))
    simp
  | some j =>
    obtain ⟨h1, h2⟩ := sk_i_of hf
    rw [h.1.2 j i h2 hi h1]
section RJS
variable {Ks Kv : Nat → Nat} {Ex : (Nat → Prop) → State → Heap → Prop} {D : va_G} {dT : Nat → ClassId} {nme : String} {cc : ByteArray} {nL pc h : Nat}
theorem rj_str (hEx : ∀ A U H, Ex A U H → sj_E Ks Kv A U H) {i : Nat} (hi : i < 7) (hd : decode cc pc = .ok (.ldc (sj_k i), 2)) : rj_ok h ri_LW vwCl RX3 Ex D dT "LilyWheels$Text" nme cc nL pc (ri_pu (ri_str Ks i)) := by
  intro p l e R s m args below meth c A Q X hR L st σ fr2 σ2 H locs cells slots ls ho hI hL hc hs kk
  cases ho
  rw [Nat.sub_self, Nat.mul_zero, Nat.add_zero, Nat.add_zero] at kk
  exact ⟨Nat.le_refl _, va_ldcS X.1.1 X.1.2.1 X.1.2.2.2.1 ((hEx _ _ _ X.2.2.2.2.2).2 i hi) hd (kk H locs ls hI hL)⟩
theorem rj_sem (hEx : ∀ A U H, Ex A U H → sj_E Ks Kv A U H) (hh : 2 ≤ h) (hd : decode cc pc = .ok (.invokevirtual 35, 3)) : rj_ok h ri_LW vwCl RX3 Ex D dT "LilyWheels$Text" nme cc nL pc (ri_pu (ri_sem Ks)) := by
  intro p l e R s m args below meth c A Q X hR L st σ fr2 σ2 H locs cells slots ls ho hI hL hc hs kk
  unfold ri_pu at ho
  cases hf : ri_sem Ks (pc, L, st) with
  | none => rw [hf] at ho; cases ho
  | some g =>
    rw [hf] at ho
    cases ho
    rw [Nat.sub_self, Nat.mul_zero, Nat.add_zero, Nat.add_zero] at kk
    rw [Nat.sub_self, Nat.add_zero] at hc
    rw [Nat.sub_self, Nat.mul_zero, Nat.add_zero] at hs
    refine ⟨Nat.le_refl _, ?_⟩
    unfold ri_sem at hf
    dsimp only at hf
    split at hf
    · rename_i a st2
      split at hf
      · rename_i hfew
        cases hk : sk_i Ks a with
        | none => rw [hk] at hf; cases hf
        | some i =>
          rw [hk] at hf
          obtain ⟨rfl, hi⟩ := sk_i_of hk
          cases hf
          exact jw_call (jt_em hd) (jm_em hi) (as := [.ref (Ks i)]) (rest := st2) X.1 (by omega) (by omega) (hEx _ _ _ X.2.2.2.2.2).1 hI.2 rfl hL.1 (fun ci h => ⟨i, [], rfl, hi, (Option.some.inj h).symm⟩) (ri_few_cat hfew) hc hs (kk H locs ls hI hL)
      · cases hf
    · cases hf
theorem rj_sln (hEx : ∀ A U H, Ex A U H → sj_E Ks Kv A U H) (hh : 3 ≤ h) (hd : decode cc pc = .ok (.invokevirtual 41, 3)) : rj_ok h ri_LW vwCl RX3 Ex D dT "LilyWheels$Text" nme cc nL pc (ri_pu (ri_sln Ks)) := by
  intro p l e R s m args below meth c A Q X hR L st σ fr2 σ2 H locs cells slots ls ho hI hL hc hs kk
  unfold ri_pu at ho
  cases hf : ri_sln Ks (pc, L, st) with
  | none => rw [hf] at ho; cases ho
  | some g =>
    rw [hf] at ho
    cases ho
    rw [Nat.sub_self, Nat.mul_zero, Nat.add_zero, Nat.add_zero] at kk
    rw [Nat.sub_self, Nat.add_zero] at hc
    rw [Nat.sub_self, Nat.mul_zero, Nat.add_zero] at hs
    refine ⟨Nat.le_refl _, ?_⟩
    unfold ri_sln at hf
    dsimp only at hf
    split at hf
    · rename_i a st2
      split at hf
      · rename_i hfew
        cases hk : sk_i Ks a with
        | none => rw [hk] at hf; cases hf
        | some i =>
          rw [hk] at hf
          obtain ⟨rfl, hi⟩ := sk_i_of hk
          cases hf
          exact jw_call (jt_ln hd) (jm_ln hi) (as := [.ref (Ks i)]) (rest := st2) X.1 (by omega) (by omega) (hEx _ _ _ X.2.2.2.2.2).1 hI.2 rfl hL.1 (fun ci h => ⟨i, [], rfl, hi, (Option.some.inj h).symm⟩) (ri_few_cat hfew) hc hs (kk H locs ls hI hL)
      · cases hf
    · cases hf
theorem rj_sch (hEx : ∀ A U H, Ex A U H → sj_E Ks Kv A U H) (hh : 5 ≤ h) (hd : decode cc pc = .ok (.invokevirtual 44, 3)) : rj_ok h ri_LW vwCl RX3 Ex D dT "LilyWheels$Text" nme cc nL pc (ri_pu (ri_sch Ks)) := by
  intro p l e R s m args below meth c A Q X hR L st σ fr2 σ2 H locs cells slots ls ho hI hL hc hs kk
  unfold ri_pu at ho
  cases hf : ri_sch Ks (pc, L, st) with
  | none => rw [hf] at ho; cases ho
  | some g =>
    rw [hf] at ho
    cases ho
    rw [Nat.sub_self, Nat.mul_zero, Nat.add_zero, Nat.add_zero] at kk
    rw [Nat.sub_self, Nat.add_zero] at hc
    rw [Nat.sub_self, Nat.mul_zero, Nat.add_zero] at hs
    refine ⟨Nat.le_refl _, ?_⟩
    unfold ri_sch at hf
    dsimp only at hf
    split at hf
    · rename_i x a st2
      split at hf
      · rename_i hfew
        cases hk : sk_i Ks a with
        | none => rw [hk] at hf; cases hf
        | some i =>
          rw [hk] at hf
          obtain ⟨rfl, hi⟩ := sk_i_of hk
          simp only [Option.bind_some] at hf
          split at hf
          · rename_i hx
            cases hf
            exact jw_call (jt_ch hd) (jm_ch hi hx.1 (by rw [jk_len i hi]; exact hx.2)) (as := [.ref (Ks i), .int x]) (rest := st2) X.1 (by omega) (by omega) (hEx _ _ _ X.2.2.2.2.2).1 hI.2 rfl hL.1 (fun ci h => ⟨i, [.int x], rfl, hi, (Option.some.inj h).symm⟩) (ri_few_cat hfew) hc hs (kk H locs ls hI hL)
          · cases hf
      · cases hf
    · cases hf
end RJS
section RJMK
variable {Ks Kv : Nat → Nat} {Ex : (Nat → Prop) → State → Heap → Prop} {D : va_G} {dT : Nat → ClassId}
theorem ck_X8_48 {cc : ByteArray} {nL pc : Nat} (hd : decode cc pc = .ok (.invokevirtual 48, 3)) : ri_cok ri_LW vwCl "LilyWheels$Text" cc nL pc (TN 92) (TB 92) (TM 92) (TR 92) 3 (some 6) := rc_V (n := 2) (T := TX8) (Nn := 2) ri_LWok rfl hd q_359 q_361 qp_0 q_2 q_362 ⟨⟨by decide +kernel, by decide +kernel⟩, by decide +kernel⟩
def rf_ok (Ex : (Nat → Prop) → State → Heap → Prop) (D : va_G) (dT : Nat → ClassId) (k : Nat) (q : Nat × ri_C) : Prop := rj_eok ri_LW vwCl RX3 Ex D dT TN TB TM TH2 TR k q.1 q.2 ∧ (∀ op, q.2 = .inl op → ri_gr op)
theorem re_ok.f {k : Nat} {q : Nat × ri_C} (h : re_ok Ex D dT k q) : rf_ok Ex D dT k q := ⟨h.1.j, h.2⟩
theorem rf_s {k pc : Nat} {f : ri_F → Option ri_F} (h : rj_ok (TH2 k) ri_LW vwCl RX3 Ex D dT (TN k).cls (TN k).name (TB k) (TM k) pc (ri_pu f)) : rf_ok Ex D dT k (pc, .inl (ri_pu f)) := ⟨h, fun op e => by cases e; exact rg_pu f⟩
theorem rf_n {k : Nat} : ∀ q ∈ ([] : List (Nat × ri_C)), rf_ok Ex D dT k q := fun _ h => nomatch h
theorem rf_a {k : Nat} {q : Nat × ri_C} {l : List (Nat × ri_C)} (h : rf_ok Ex D dT k q) (t : ∀ q ∈ l, rf_ok Ex D dT k q) : ∀ q2 ∈ q :: l, rf_ok Ex D dT k q2 := fun q2 h2 => (List.mem_cons.mp h2).elim (fun e => by rw [e]; exact h) (t q2)
theorem mx_90 (hEx : ∀ A U H, Ex A U H → sj_E Ks Kv A U H) : ∀ q ∈ TX_90 Ks, rf_ok Ex D dT 90 q :=
  rf_a (rf_s (rj_sem hEx (by decide) (show decode (TB 90) 45 = .ok (.invokevirtual 35, 3) by decide +kernel))) <|
  rf_a (re_ok.f (re_p (ro_if_eq (show decode (TB 90) 48 = .ok (.ifCond .eq 5, 3) by decide +kernel) (by decide +kernel)))) <|
  rf_a (re_ok.f (re_p (ro_iload_n (show decode (TB 90) 51 = .ok (.iload_n 1, 1) by decide +kernel) rfl))) <|
  rf_a (re_ok.f (re_r ⟨(show decode (TB 90) 52 = .ok (.ireturn, 1) by decide +kernel), rfl⟩)) <|
  rf_a (re_ok.f (re_p (ro_iinc (show decode (TB 90) 53 = .ok (.iinc 1 1, 3) by decide +kernel) (by decide +kernel) (by decide +kernel)))) <|
  rf_a (re_ok.f (re_p (ro_iconst (show decode (TB 90) 56 = .ok (.iconst 0, 1) by decide +kernel) (by decide +kernel)))) <|
  rf_a (re_ok.f (re_p (ro_istore_n (show decode (TB 90) 57 = .ok (.istore_n 3, 1) by decide +kernel) rfl (by decide +kernel)))) <|
  rf_a (re_ok.f (re_p (ro_iload_n (show decode (TB 90) 58 = .ok (.iload_n 3, 1) by decide +kernel) rfl))) <|
  rf_a (re_ok.f (re_p (ro_aload_n (show decode (TB 90) 59 = .ok (.aload_n 2, 1) by decide +kernel) rfl))) <|
  rf_a (rf_s (rj_sln hEx (by decide) (show decode (TB 90) 60 = .ok (.invokevirtual 41, 3) by decide +kernel))) <|
  rf_a (re_ok.f (re_p (ro_icmp_ge (show decode (TB 90) 63 = .ok (.if_icmp .ge 35, 3) by decide +kernel) (by decide +kernel)))) <|
  rf_a (re_ok.f (re_p (ro_iload_n (show decode (TB 90) 66 = .ok (.iload_n 1, 1) by decide +kernel) rfl))) <|
  rf_a (re_ok.f (re_p (ro_aload_n (show decode (TB 90) 67 = .ok (.aload_n 0, 1) by decide +kernel) rfl))) <|
  rf_a (re_ok.f (re_h (gf_X8_15 (show decode (TB 90) 68 = .ok (.getfield 15, 3) by decide +kernel)) (rg_getf _ _))) <|
  rf_a (re_ok.f (re_p (ro_icmp_ge (show decode (TB 90) 71 = .ok (.if_icmp .ge 16, 3) by decide +kernel) (by decide +kernel)))) <|
  rf_a (re_ok.f (re_p (ro_aload_n (show decode (TB 90) 74 = .ok (.aload_n 0, 1) by decide +kernel) rfl))) <|
  rf_a (re_ok.f (re_p (ro_aload_n (show decode (TB 90) 75 = .ok (.aload_n 2, 1) by decide +kernel) rfl))) <|
  rf_a (re_ok.f (re_p (ro_iload_n (show decode (TB 90) 76 = .ok (.iload_n 3, 1) by decide +kernel) rfl))) <|
  rf_a (rf_s (rj_sch hEx (by decide) (show decode (TB 90) 77 = .ok (.invokevirtual 44, 3) by decide +kernel))) <|
  rf_a (re_ok.f (re_p (ro_iload_n (show decode (TB 90) 80 = .ok (.iload_n 1, 1) by decide +kernel) rfl))) <|
  rf_a (re_ok.f (re_c (ck_X8_48 (show decode (TB 90) 81 = .ok (.invokevirtual 48, 3) by decide +kernel)))) <|
  rf_a (re_ok.f (re_p (ro_if_ne (show decode (TB 90) 84 = .ok (.ifCond .ne 5, 3) by decide +kernel) (by decide +kernel)))) <|
  rf_a (re_ok.f (re_p (ro_iload_n (show decode (TB 90) 87 = .ok (.iload_n 1, 1) by decide +kernel) rfl))) <|
  rf_a (re_ok.f (re_r ⟨(show decode (TB 90) 88 = .ok (.ireturn, 1) by decide +kernel), rfl⟩)) <|
  rf_a (re_ok.f (re_p (ro_iinc (show decode (TB 90) 89 = .ok (.iinc 1 1, 3) by decide +kernel) (by decide +kernel) (by decide +kernel)))) <|
  rf_a (re_ok.f (re_p (ro_iinc (show decode (TB 90) 92 = .ok (.iinc 3 1, 3) by decide +kernel) (by decide +kernel) (by decide +kernel)))) <|
  rf_a (re_ok.f (re_p (ro_goto (show decode (TB 90) 95 = .ok (.goto (-37), 3) by decide +kernel) (by decide +kernel)))) <|
  rf_a (re_ok.f (re_p (ro_goto (show decode (TB 90) 98 = .ok (.goto (-74), 3) by decide +kernel) (by decide +kernel)))) <|
  rf_n
theorem mx_91 (hEx : ∀ A U H, Ex A U H → sj_E Ks Kv A U H) : ∀ q ∈ TX_91 Ks, rf_ok Ex D dT 91 q :=
  rf_a (rf_s (rj_str hEx (by decide) (show decode (TB 91) 96 = .ok (.ldc 52, 2) by decide +kernel))) <|
  rf_a (re_ok.f (re_r ⟨(show decode (TB 91) 98 = .ok (.areturn, 1) by decide +kernel), _, rfl⟩)) <|
  rf_a (rf_s (rj_str hEx (by decide) (show decode (TB 91) 99 = .ok (.ldc 54, 2) by decide +kernel))) <|
  rf_a (re_ok.f (re_r ⟨(show decode (TB 91) 101 = .ok (.areturn, 1) by decide +kernel), _, rfl⟩)) <|
  rf_a (rf_s (rj_str hEx (by decide) (show decode (TB 91) 102 = .ok (.ldc 56, 2) by decide +kernel))) <|
  rf_a (re_ok.f (re_r ⟨(show decode (TB 91) 104 = .ok (.areturn, 1) by decide +kernel), _, rfl⟩)) <|
  rf_a (rf_s (rj_str hEx (by decide) (show decode (TB 91) 105 = .ok (.ldc 56, 2) by decide +kernel))) <|
  rf_a (re_ok.f (re_r ⟨(show decode (TB 91) 107 = .ok (.areturn, 1) by decide +kernel), _, rfl⟩)) <|
  rf_a (rf_s (rj_str hEx (by decide) (show decode (TB 91) 108 = .ok (.ldc 58, 2) by decide +kernel))) <|
  rf_a (re_ok.f (re_r ⟨(show decode (TB 91) 110 = .ok (.areturn, 1) by decide +kernel), _, rfl⟩)) <|
  rf_a (rf_s (rj_str hEx (by decide) (show decode (TB 91) 111 = .ok (.ldc 60, 2) by decide +kernel))) <|
  rf_a (re_ok.f (re_r ⟨(show decode (TB 91) 113 = .ok (.areturn, 1) by decide +kernel), _, rfl⟩)) <|
  rf_a (rf_s (rj_str hEx (by decide) (show decode (TB 91) 114 = .ok (.ldc 62, 2) by decide +kernel))) <|
  rf_a (re_ok.f (re_r ⟨(show decode (TB 91) 116 = .ok (.areturn, 1) by decide +kernel), _, rfl⟩)) <|
  rf_a (rf_s (rj_str hEx (by decide) (show decode (TB 91) 117 = .ok (.ldc 64, 2) by decide +kernel))) <|
  rf_a (re_ok.f (re_r ⟨(show decode (TB 91) 119 = .ok (.areturn, 1) by decide +kernel), _, rfl⟩)) <|
  rf_n
theorem mx_93 (hEx : ∀ A U H, Ex A U H → sj_E Ks Kv A U H) : ∀ q ∈ TX_93 Ks, rf_ok Ex D dT 93 q :=
  rf_a (rf_s (rj_sln hEx (by decide) (show decode (TB 93) 37 = .ok (.invokevirtual 41, 3) by decide +kernel))) <|
  rf_a (re_ok.f (re_p (ro_iadd (show decode (TB 93) 40 = .ok (.iadd, 1) by decide +kernel)))) <|
  rf_a (re_ok.f (re_p (ro_iadd (show decode (TB 93) 41 = .ok (.iadd, 1) by decide +kernel)))) <|
  rf_a (re_ok.f (re_p (ro_istore_n (show decode (TB 93) 42 = .ok (.istore_n 3, 1) by decide +kernel) rfl (by decide +kernel)))) <|
  rf_a (re_ok.f (re_p (ro_goto (show decode (TB 93) 43 = .ok (.goto (-39), 3) by decide +kernel) (by decide +kernel)))) <|
  rf_n
def ra_ok (Ex : (Nat → Prop) → State → Heap → Prop) (D : va_G) (dT : Nat → ClassId) : Nat → List (List (Nat × ri_C)) → Prop
  | _, [] => True
  | k, x :: l => (∀ q ∈ x, re_ok Ex D dT k q) ∧ ra_ok Ex D dT (k + 1) l
theorem ra_get : ∀ (l : List (List (Nat × ri_C))) (i k : Nat), ra_ok Ex D dT i l → ∀ q ∈ l.getD k [], re_ok Ex D dT (i + k) q
  | [], i, k, _, q, hq => by simp at hq
  | x :: l, i, 0, h, q, hq => h.1 q hq
  | x :: l, i, k + 1, h, q, hq => by
    have := ra_get l (i + 1) k h.2 q hq
    rwa [show i + 1 + k = i + (k + 1) by omega] at this
theorem ra_0 : ∀ l, ra_ok Ex D dT 23 l → ra_ok Ex D dT 0 (TL_0 :: TL_1 :: TL_2 :: TL_3 :: TL_4 :: TL_5 :: TL_6 :: TL_7 :: TL_8 :: TL_9 :: TL_10 :: TL_11 :: TL_12 :: TL_13 :: TL_14 :: TL_15 :: TL_16 :: TL_17 :: TL_18 :: TL_19 :: TL_20 :: TL_21 :: TL_22 :: l) := fun l h => ⟨mk_0, mk_1, mk_2, mk_3, mk_4, mk_5, mk_6, mk_7, mk_8, mk_9, mk_10, mk_11, mk_12, mk_13, mk_14, mk_15, mk_16, mk_17, mk_18, mk_19, mk_20, mk_21, mk_22, h⟩
theorem ra_23 : ∀ l, ra_ok Ex D dT 46 l → ra_ok Ex D dT 23 (TL_23 :: TL_24 :: TL_25 :: TL_26 :: TL_27 :: TL_28 :: TL_29 :: TL_30 :: TL_31 :: TL_32 :: TL_33 :: TL_34 :: TL_35 :: TL_36 :: TL_37 :: TL_38 :: TL_39 :: TL_40 :: TL_41 :: TL_42 :: TL_43 :: TL_44 :: TL_45 :: l) := fun l h => ⟨mk_23, mk_24, mk_25, mk_26, mk_27, mk_28, mk_29, mk_30, mk_31, mk_32, mk_33, mk_34, mk_35, mk_36, mk_37, mk_38, mk_39, mk_40, mk_41, mk_42, mk_43, mk_44, mk_45, h⟩
theorem ra_46 : ∀ l, ra_ok Ex D dT 69 l → ra_ok Ex D dT 46 (TL_46 :: TL_47 :: TL_48 :: TL_49 :: TL_50 :: TL_51 :: TL_52 :: TL_53 :: TL_54 :: TL_55 :: TL_56 :: TL_57 :: TL_58 :: TL_59 :: TL_60 :: TL_61 :: TL_62 :: TL_63 :: TL_64 :: TL_65 :: TL_66 :: TL_67 :: TL_68 :: l) := fun l h => ⟨mk_46, mk_47, mk_48, mk_49, mk_50, mk_51, mk_52, mk_53, mk_54, mk_55, mk_56, mk_57, mk_58, mk_59, mk_60, mk_61, mk_62, mk_63, mk_64, mk_65, mk_66, mk_67, mk_68, h⟩
theorem ra_69 : ∀ l, ra_ok Ex D dT 92 l → ra_ok Ex D dT 69 (TL_69 :: TL_70 :: TL_71 :: TL_72 :: TL_73 :: TL_74 :: TL_75 :: TL_76 :: TL_77 :: TL_78 :: TL_79 :: TL_80 :: TL_81 :: TL_82 :: TL_83 :: TL_84 :: TL_85 :: TL_86 :: TL_87 :: TL_88 :: TL_89 :: TL_90 :: TL_91 :: l) := fun l h => ⟨mk_69, mk_70, mk_71, mk_72, mk_73, mk_74, mk_75, mk_76, mk_77, mk_78, mk_79, mk_80, mk_81, mk_82, mk_83, mk_84, mk_85, mk_86, mk_87, mk_88, mk_89, mk_90, mk_91, h⟩
theorem ra_92 : ∀ l, ra_ok Ex D dT 115 l → ra_ok Ex D dT 92 (TL_92 :: TL_93 :: TL_94 :: TL_95 :: TL_96 :: TL_97 :: TL_98 :: TL_99 :: TL_100 :: TL_101 :: TL_102 :: TL_103 :: TL_104 :: TL_105 :: TL_106 :: TL_107 :: TL_108 :: TL_109 :: TL_110 :: TL_111 :: TL_112 :: TL_113 :: TL_114 :: l) := fun l h => ⟨mk_92, mk_93, mk_94, mk_95, mk_96, mk_97, mk_98, mk_99, mk_100, mk_101, mk_102, mk_103, mk_104, mk_105, mk_106, mk_107, mk_108, mk_109, mk_110, mk_111, mk_112, mk_113, mk_114, h⟩
theorem ra_115 : ∀ l, ra_ok Ex D dT 138 l → ra_ok Ex D dT 115 (TL_115 :: TL_116 :: TL_117 :: TL_118 :: TL_119 :: TL_120 :: TL_121 :: TL_122 :: TL_123 :: TL_124 :: TL_125 :: TL_126 :: TL_127 :: TL_128 :: TL_129 :: TL_130 :: TL_131 :: TL_132 :: TL_133 :: TL_134 :: TL_135 :: TL_136 :: TL_137 :: l) := fun l h => ⟨mk_115, mk_116, mk_117, mk_118, mk_119, mk_120, mk_121, mk_122, mk_123, mk_124, mk_125, mk_126, mk_127, mk_128, mk_129, mk_130, mk_131, mk_132, mk_133, mk_134, mk_135, mk_136, mk_137, h⟩
theorem ra_138 : ∀ l, ra_ok Ex D dT 161 l → ra_ok Ex D dT 138 (TL_138 :: TL_139 :: TL_140 :: TL_141 :: TL_142 :: TL_143 :: TL_144 :: TL_145 :: TL_146 :: TL_147 :: TL_148 :: TL_149 :: TL_150 :: TL_151 :: TL_152 :: TL_153 :: TL_154 :: TL_155 :: TL_156 :: TL_157 :: TL_158 :: TL_159 :: TL_160 :: l) := fun l h => ⟨mk_138, mk_139, mk_140, mk_141, mk_142, mk_143, mk_144, mk_145, mk_146, mk_147, mk_148, mk_149, mk_150, mk_151, mk_152, mk_153, mk_154, mk_155, mk_156, mk_157, mk_158, mk_159, mk_160, h⟩
theorem ra_161 : ∀ l, ra_ok Ex D dT 184 l → ra_ok Ex D dT 161 (TL_161 :: TL_162 :: TL_163 :: TL_164 :: TL_165 :: TL_166 :: TL_167 :: TL_168 :: TL_169 :: TL_170 :: TL_171 :: TL_172 :: TL_173 :: TL_174 :: TL_175 :: TL_176 :: TL_177 :: TL_178 :: TL_179 :: TL_180 :: TL_181 :: TL_182 :: TL_183 :: l) := fun l h => ⟨mk_161, mk_162, mk_163, mk_164, mk_165, mk_166, mk_167, mk_168, mk_169, mk_170, mk_171, mk_172, mk_173, mk_174, mk_175, mk_176, mk_177, mk_178, mk_179, mk_180, mk_181, mk_182, mk_183, h⟩
theorem ra_184 : ∀ l, ra_ok Ex D dT 207 l → ra_ok Ex D dT 184 (TL_184 :: TL_185 :: TL_186 :: TL_187 :: TL_188 :: TL_189 :: TL_190 :: TL_191 :: TL_192 :: TL_193 :: TL_194 :: TL_195 :: TL_196 :: TL_197 :: TL_198 :: TL_199 :: TL_200 :: TL_201 :: TL_202 :: TL_203 :: TL_204 :: TL_205 :: TL_206 :: l) := fun l h => ⟨mk_184, mk_185, mk_186, mk_187, mk_188, mk_189, mk_190, mk_191, mk_192, mk_193, mk_194, mk_195, mk_196, mk_197, mk_198, mk_199, mk_200, mk_201, mk_202, mk_203, mk_204, mk_205, mk_206, h⟩
theorem ra_207 : ∀ l, ra_ok Ex D dT 230 l → ra_ok Ex D dT 207 (TL_207 :: TL_208 :: TL_209 :: TL_210 :: TL_211 :: TL_212 :: TL_213 :: TL_214 :: TL_215 :: TL_216 :: TL_217 :: TL_218 :: TL_219 :: TL_220 :: TL_221 :: TL_222 :: TL_223 :: TL_224 :: TL_225 :: TL_226 :: TL_227 :: TL_228 :: TL_229 :: l) := fun l h => ⟨mk_207, mk_208, mk_209, mk_210, mk_211, mk_212, mk_213, mk_214, mk_215, mk_216, mk_217, mk_218, mk_219, mk_220, mk_221, mk_222, mk_223, mk_224, mk_225, mk_226, mk_227, mk_228, mk_229, h⟩
theorem ra_all : ∀ (k : Nat), ∀ q ∈ TLs k, re_ok Ex D dT k q := fun k q hq => by
  have h : ra_ok Ex D dT 0 [TL_0, TL_1, TL_2, TL_3, TL_4, TL_5, TL_6, TL_7, TL_8, TL_9, TL_10, TL_11, TL_12, TL_13, TL_14, TL_15, TL_16, TL_17, TL_18, TL_19, TL_20, TL_21, TL_22, TL_23, TL_24, TL_25, TL_26, TL_27, TL_28, TL_29, TL_30, TL_31, TL_32, TL_33, TL_34, TL_35, TL_36, TL_37, TL_38, TL_39, TL_40, TL_41, TL_42, TL_43, TL_44, TL_45, TL_46, TL_47, TL_48, TL_49, TL_50, TL_51, TL_52, TL_53, TL_54, TL_55, TL_56, TL_57, TL_58, TL_59, TL_60, TL_61, TL_62, TL_63, TL_64, TL_65, TL_66, TL_67, TL_68, TL_69, TL_70, TL_71, TL_72, TL_73, TL_74, TL_75, TL_76, TL_77, TL_78, TL_79, TL_80, TL_81, TL_82, TL_83, TL_84, TL_85, TL_86, TL_87, TL_88, TL_89, TL_90, TL_91, TL_92, TL_93, TL_94, TL_95, TL_96, TL_97, TL_98, TL_99, TL_100, TL_101, TL_102, TL_103, TL_104, TL_105, TL_106, TL_107, TL_108, TL_109, TL_110, TL_111, TL_112, TL_113, TL_114, TL_115, TL_116, TL_117, TL_118, TL_119, TL_120, TL_121, TL_122, TL_123, TL_124, TL_125, TL_126, TL_127, TL_128, TL_129, TL_130, TL_131, TL_132, TL_133, TL_134, TL_135, TL_136, TL_137, TL_138, TL_139, TL_140, TL_141, TL_142, TL_143, TL_144, TL_145, TL_146, TL_147, TL_148, TL_149, TL_150, TL_151, TL_152, TL_153, TL_154, TL_155, TL_156, TL_157, TL_158, TL_159, TL_160, TL_161, TL_162, TL_163, TL_164, TL_165, TL_166, TL_167, TL_168, TL_169, TL_170, TL_171, TL_172, TL_173, TL_174, TL_175, TL_176, TL_177, TL_178, TL_179, TL_180, TL_181, TL_182, TL_183, TL_184, TL_185, TL_186, TL_187, TL_188, TL_189, TL_190, TL_191, TL_192, TL_193, TL_194, TL_195, TL_196, TL_197, TL_198, TL_199, TL_200, TL_201, TL_202, TL_203, TL_204, TL_205, TL_206, TL_207, TL_208, TL_209, TL_210, TL_211, TL_212, TL_213, TL_214, TL_215, TL_216, TL_217, TL_218, TL_219, TL_220, TL_221, TL_222, TL_223, TL_224, TL_225, TL_226, TL_227, TL_228, TL_229] := ra_0 _ (ra_23 _ (ra_46 _ (ra_69 _ (ra_92 _ (ra_115 _ (ra_138 _ (ra_161 _ (ra_184 _ (ra_207 _ (trivial))))))))))
  have := ra_get _ 0 k h q hq
  rwa [Nat.zero_add] at this
theorem rx_all (hEx : ∀ A U H, Ex A U H → sj_E Ks Kv A U H) : ∀ (k : Nat), ∀ q ∈ TLs k ++ TLx Ks k, rf_ok Ex D dT k q := by
  intro k q hq
  rcases List.mem_append.mp hq with h | h
  · exact (ra_all k q h).f
  · unfold TLx at h
    split at h
    · rename_i e
      obtain rfl := Nat.eq_of_beq_eq_true e
      exact mx_90 hEx q h
    · split at h
      · rename_i e
        obtain rfl := Nat.eq_of_beq_eq_true e
        exact mx_91 hEx q h
      · split at h
        · rename_i e
          obtain rfl := Nat.eq_of_beq_eq_true e
          exact mx_93 hEx q h
        · cases h
theorem rf_mem2 {pc : Nat} {x : ri_C} : ∀ (l : List (Nat × ri_C)), ri_find l pc = some x → (pc, x) ∈ l
  | [], h => by simp [ri_find] at h
  | q :: l, h => by
    unfold ri_find at h
    by_cases e : Nat.beq q.1 pc = true
    · rw [if_pos e] at h
      have h1 := Nat.eq_of_beq_eq_true e
      have h2 := Option.some.inj h
      rw [← h1, ← h2]
      exact List.mem_cons_self
    · rw [if_neg e] at h
      exact List.mem_cons_of_mem _ (rf_mem2 l h)
theorem rx_gok (D : va_G) (dT : Nat → ClassId) (hEx : ∀ A U H, Ex A U H → sj_E Ks Kv A U H) : ri_gok (TT2 Ks) := fun k pc op h => (rx_all (Ex := Ex) (D := D) (dT := dT) hEx k _ (rf_mem2 _ h)).2 op rfl
theorem rx_head : ∀ k, k < 230 → plainName (TN k).cls = true ∧ TM k ≤ 40 := by decide +kernel
theorem rx_k {k pc : Nat} {x : ri_C} (h : TT2 Ks k pc = some x) : k < 230 := by
  refine Nat.lt_of_not_le fun a => ?_
  have h1 := rf_mem2 _ h
  rw [tl_out a] at h1
  have h2 : TLx Ks k = [] := by
    unfold TLx
    rw [if_neg (fun e => by have := Nat.eq_of_beq_eq_true e; omega), if_neg (fun e => by have := Nat.eq_of_beq_eq_true e; omega), if_neg (fun e => by have := Nat.eq_of_beq_eq_true e; omega)]
  rw [h2] at h1
  cases h1
theorem rx_mok (hEx : ∀ A U H, Ex A U H → sj_E Ks Kv A U H) : ∀ k, (∃ pc x, TT2 Ks k pc = some x) → rj_mok ri_LW vwCl RX3 Ex D dT (TT2 Ks) TN TB TM TH2 TR k := by
  rintro k ⟨pc, x, h⟩
  have hk := rx_head k (rx_k h)
  exact ⟨hk.1, hk.2, fun pc x h => (rx_all hEx k _ (rf_mem2 _ h)).1⟩
end RJMK
