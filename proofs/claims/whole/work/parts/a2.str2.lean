/-! isEmpty, length, charAt, and what they call. -/
def jy_em : MethodName := ⟨"java/lang/String", "isEmpty", "()Z"⟩
def jy_ln : MethodName := ⟨"java/lang/String", "length", "()I"⟩
def jy_ch : MethodName := ⟨"java/lang/String", "charAt", "(I)C"⟩
def jy_cd : MethodName := ⟨"java/lang/String", "coder", "()B"⟩
def jy_l1 : MethodName := ⟨"java/lang/String", "isLatin1", "()Z"⟩
def jy_ci : MethodName := ⟨"java/lang/String", "checkIndex", "(II)V"⟩
def jy_lc : MethodName := ⟨"java/lang/StringLatin1", "charAt", "([BI)C"⟩
def jy_pc : MethodName := ⟨"jdk/internal/util/Preconditions", "checkIndex", "(IILjava/util/function/BiFunction;)I"⟩
abbrev jb_ln : ByteArray := prog_20_method_54_code
abbrev jb_em : ByteArray := prog_20_method_55_code
abbrev jb_ch : ByteArray := prog_20_method_56_code
abbrev jb_cd : ByteArray := prog_20_method_152_code
abbrev jb_l1 : ByteArray := prog_20_method_154_code
abbrev jb_ci : ByteArray := prog_20_method_155_code
abbrev jb_lc : ByteArray := prog_21_method_2_code
abbrev jb_pc : ByteArray := prog_26_method_11_code
theorem jk_len : ∀ i, i < 7 → sk_ln.getD i 0 = (sk_b i).length := by decide
theorem jk_zer : ∀ i, i < 7 → (Int32.ofNat (sk_ln.getD i 0) = 0 ↔ (sk_b i).length = 0) := by decide +kernel
theorem jk_shr : ∀ i, i < 7 → Int32.ofNat (sk_ln.getD i 0) >>> ((0 : Int32) &&& 31) = Int32.ofNat (sk_b i).length := by decide +kernel
theorem jk_int : ∀ i, i < 7 → (Int32.ofNat (sk_ln.getD i 0)).toInt = (sk_ln.getD i 0 : Nat) := by decide +kernel
theorem jk_chr : ∀ i, i < 7 → ∀ j, j < sk_ln.getD i 0 → (((sk_bs.getD i []).getD j 0 &&& 255).toUInt32 % 65536).toInt32 = (sk_b i).getD j 0 ∧ narrow .char (.int ((sk_b i).getD j 0)) = .int ((sk_b i).getD j 0) := by decide +kernel
theorem jk_lt {i : Nat} {x : Int32} (hi : i < 7) (h0 : ¬ x < 0) (h1 : x.toNatClampNeg < sk_ln.getD i 0) : x < Int32.ofNat (sk_ln.getD i 0) := by
  have e := jk_int i hi
  rw [Int32.lt_iff_toInt_lt, e]
  have h2 : ¬ x.toInt < (0 : Int32).toInt := fun h => h0 (Int32.lt_iff_toInt_lt.mpr h)
  have h3 : (0 : Int32).toInt = 0 := rfl
  rw [h3] at h2
  have h4 : x.toInt.toNat < sk_ln.getD i 0 := h1
  omega
theorem jq_0 : (Cond.methodLink RJ0 335 jy_cd) ∈ ri_LW := List.mem_filter.mpr ⟨by decide +kernel, by decide +kernel⟩
theorem jq_1 : (Cond.initialized RJ0) ∈ ri_LW := List.mem_filter.mpr ⟨by decide +kernel, by decide +kernel⟩
theorem jq_2 : (Cond.code jy_cd jb_cd 1 (some .byte)) ∈ ri_LW := List.mem_filter.mpr ⟨by decide +kernel, by decide +kernel⟩
theorem jq_3 : (Cond.instanceMethod jy_cd) ∈ ri_LW := List.mem_filter.mpr ⟨by decide +kernel, by decide +kernel⟩
theorem jq_4 : (Cond.selects RJ0 jy_cd jy_cd) ∈ ri_LW := List.mem_filter.mpr ⟨by decide +kernel, by decide +kernel⟩
theorem jq_5 : (Cond.methodLink RJ0 492 jy_l1) ∈ ri_LW := List.mem_filter.mpr ⟨by decide +kernel, by decide +kernel⟩
theorem jq_6 : (Cond.code jy_l1 jb_l1 1 (some .boolean)) ∈ ri_LW := List.mem_filter.mpr ⟨by decide +kernel, by decide +kernel⟩
theorem jq_7 : (Cond.instanceMethod jy_l1) ∈ ri_LW := List.mem_filter.mpr ⟨by decide +kernel, by decide +kernel⟩
theorem jq_8 : (Cond.selects RJ0 jy_l1 jy_l1) ∈ ri_LW := List.mem_filter.mpr ⟨by decide +kernel, by decide +kernel⟩
theorem jq_9 : (Cond.methodLink RJ0 495 jy_lc) ∈ ri_LW := List.mem_filter.mpr ⟨by decide +kernel, by decide +kernel⟩
theorem jq_10 : (Cond.initialized RJ1) ∈ ri_LW := List.mem_filter.mpr ⟨by decide +kernel, by decide +kernel⟩
theorem jq_11 : (Cond.code jy_lc jb_lc 2 (some .char)) ∈ ri_LW := List.mem_filter.mpr ⟨by decide +kernel, by decide +kernel⟩
theorem jq_12 : (Cond.static jy_lc) ∈ ri_LW := List.mem_filter.mpr ⟨by decide +kernel, by decide +kernel⟩
theorem jq_13 : (Cond.methodLink RJ1 9 jy_ci) ∈ ri_LW := List.mem_filter.mpr ⟨by decide +kernel, by decide +kernel⟩
theorem jq_14 : (Cond.code jy_ci jb_ci 2 none) ∈ ri_LW := List.mem_filter.mpr ⟨by decide +kernel, by decide +kernel⟩
theorem jq_15 : (Cond.static jy_ci) ∈ ri_LW := List.mem_filter.mpr ⟨by decide +kernel, by decide +kernel⟩
theorem jq_16 : (Cond.methodLink RJ0 1059 jy_pc) ∈ ri_LW := List.mem_filter.mpr ⟨by decide +kernel, by decide +kernel⟩
theorem jq_17 : (Cond.initialized RJ3) ∈ ri_LW := List.mem_filter.mpr ⟨by decide +kernel, by decide +kernel⟩
theorem jq_18 : (Cond.code jy_pc jb_pc 3 (some .int)) ∈ ri_LW := List.mem_filter.mpr ⟨by decide +kernel, by decide +kernel⟩
theorem jq_19 : (Cond.static jy_pc) ∈ ri_LW := List.mem_filter.mpr ⟨by decide +kernel, by decide +kernel⟩
theorem jq_20 : (Cond.fieldLink RJ0 9 "java/lang/String" "value" "[B") ∈ ri_LW := List.mem_filter.mpr ⟨by decide +kernel, by decide +kernel⟩
theorem jq_21 : (Cond.fieldLink RJ0 38 "java/lang/String" "COMPACT_STRINGS" "Z") ∈ ri_LW := List.mem_filter.mpr ⟨by decide +kernel, by decide +kernel⟩
theorem jq_22 : (Cond.fieldLink RJ0 15 "java/lang/String" "coder" "B") ∈ ri_LW := List.mem_filter.mpr ⟨by decide +kernel, by decide +kernel⟩
theorem jq_23 : (Cond.fieldLink RJ0 1053 "jdk/internal/util/Preconditions" "SIOOBE_FORMATTER" "Ljava/util/function/BiFunction;") ∈ ri_LW := List.mem_filter.mpr ⟨by decide +kernel, by decide +kernel⟩
theorem jc_ln_6 : ri_cok ri_LW jw_cl RJ0 jb_ln 1 6 jy_cd jb_cd 1 (some .byte) 1 (some 0) := rc_V (n := 0) (ci := 0) (T := fun _ => default) (Nn := 0) ri_LWok rfl (show decode jb_ln 6 = .ok (.invokevirtual 335, 3) by decide +kernel) jq_0 jq_3 jq_4 jq_1 jq_2 ⟨⟨by decide +kernel, by decide +kernel⟩, by decide +kernel⟩
theorem jc_ch_1 : ri_cok ri_LW jw_cl RJ0 jb_ch 2 1 jy_l1 jb_l1 1 (some .boolean) 1 (some 0) := rc_V (n := 0) (ci := 0) (T := fun _ => default) (Nn := 0) ri_LWok rfl (show decode jb_ch 1 = .ok (.invokevirtual 492, 3) by decide +kernel) jq_5 jq_7 jq_8 jq_1 jq_6 ⟨⟨by decide +kernel, by decide +kernel⟩, by decide +kernel⟩
theorem jc_ch_12 : ri_cok ri_LW jw_cl RJ0 jb_ch 2 12 jy_lc jb_lc 2 (some .char) 2 none := rc_S (n := 2) ri_LWok (show decode jb_ch 12 = .ok (.invokestatic 495, 3) by decide +kernel) jq_9 jq_12 jq_10 jq_11 ⟨⟨by decide +kernel, by decide +kernel⟩, by decide +kernel⟩
theorem jc_lc_3 : ri_cok ri_LW jw_cl RJ1 jb_lc 2 3 jy_ci jb_ci 2 none 2 none := rc_S (n := 2) ri_LWok (show decode jb_lc 3 = .ok (.invokestatic 9, 3) by decide +kernel) jq_13 jq_15 jq_1 jq_14 ⟨⟨by decide +kernel, by decide +kernel⟩, by decide +kernel⟩
theorem jc_ci_5 : ri_cok ri_LW jw_cl RJ0 jb_ci 2 5 jy_pc jb_pc 3 (some .int) 3 none := rc_S (n := 3) ri_LWok (show decode jb_ci 5 = .ok (.invokestatic 1059, 3) by decide +kernel) jq_16 jq_19 jq_17 jq_18 ⟨⟨by decide +kernel, by decide +kernel⟩, by decide +kernel⟩
section JWM
variable {Ks Kv : Nat → Nat} {l : Launch}
theorem jm_cd {i : Nat} (hi : i < 7) : jw_Met Ks Kv l jy_cd jb_cd 1 (some .byte) 0 [.ref (Ks i)] (some (.int 0)) := by
  refine jw_of (by decide +kernel) (Nat.le_refl _) ?_
  intro p e R s m args below meth c Qc X ls hsz hls hfin
  have S := X.1
  obtain ⟨⟨hx, hb, hml, hown, hts⟩, hR, hE, hrt, hlk⟩ := X
  have hS : va_S (fun _ => False) s.heap s.heap [] := va_S.rf
  have l0 : ls[0]? = some (.val (.ref (Ks i))) := hls (0, .ref (Ks i)) (by simp [lv_args, Value.category])
  obtain ⟨hO, hco, hva, hT⟩ := hE.1.1 i hi
  refine va_gets hx hb hE.2.1 hS hown (hts _ jq_21) (fun x h => h) (show decode jb_cd 0 = .ok (.getstatic 38, 3) by decide +kernel) ?_
  refine lv_if_eq hx hb (show decode jb_cd 3 = .ok (.ifCond .eq 10, 3) by decide +kernel) (tgt := 13) rfl (fun h => absurd h (by decide)) (fun h => ?_)
  refine lv_aload_n hx hb (show decode jb_cd 6 = .ok (.aload_n 0, 1) by decide +kernel) rfl l0 ?_
  refine vk_getf hx hb hco hS hown (hts _ jq_22) (fun x h => h) (show decode jb_cd 7 = .ok (.getfield 15, 3) by decide +kernel) ?_
  refine lv_goto hx hb (show decode jb_cd 10 = .ok (.goto 4, 3) by decide +kernel) (tgt := 14) rfl ?_
  exact W.zret hx hb hrt rfl hfin (fun q h => nomatch h) (show decode jb_cd 14 = .ok (.ireturn, 1) by decide +kernel)
theorem jm_l1 {i : Nat} (hi : i < 7) : jw_Met Ks Kv l jy_l1 jb_l1 1 (some .boolean) 0 [.ref (Ks i)] (some (.int 1)) := by
  refine jw_of (by decide +kernel) (Nat.le_refl _) ?_
  intro p e R s m args below meth c Qc X ls hsz hls hfin
  have S := X.1
  obtain ⟨⟨hx, hb, hml, hown, hts⟩, hR, hE, hrt, hlk⟩ := X
  have hS : va_S (fun _ => False) s.heap s.heap [] := va_S.rf
  have l0 : ls[0]? = some (.val (.ref (Ks i))) := hls (0, .ref (Ks i)) (by simp [lv_args, Value.category])
  obtain ⟨hO, hco, hva, hT⟩ := hE.1.1 i hi
  refine va_gets hx hb hE.2.1 hS hown (hts _ jq_21) (fun x h => h) (show decode jb_l1 0 = .ok (.getstatic 38, 3) by decide +kernel) ?_
  refine lv_if_eq hx hb (show decode jb_l1 3 = .ok (.ifCond .eq 14, 3) by decide +kernel) (tgt := 17) rfl (fun h => absurd h (by decide)) (fun h => ?_)
  refine lv_aload_n hx hb (show decode jb_l1 6 = .ok (.aload_n 0, 1) by decide +kernel) rfl l0 ?_
  refine vk_getf hx hb hco hS hown (hts _ jq_22) (fun x h => h) (show decode jb_l1 7 = .ok (.getfield 15, 3) by decide +kernel) ?_
  refine lv_if_ne hx hb (show decode jb_l1 10 = .ok (.ifCond .ne 7, 3) by decide +kernel) (tgt := 17) rfl (fun h => absurd rfl h) (fun h => ?_)
  refine lv_iconst hx hb (show decode jb_l1 13 = .ok (.iconst 1, 1) by decide +kernel) (v := 1) rfl ?_
  refine lv_goto hx hb (show decode jb_l1 14 = .ok (.goto 4, 3) by decide +kernel) (tgt := 18) rfl ?_
  exact W.zret hx hb hrt rfl hfin (fun q h => nomatch h) (show decode jb_l1 18 = .ok (.ireturn, 1) by decide +kernel)
theorem jm_em {i : Nat} (hi : i < 7) : jw_Met Ks Kv l jy_em jb_em 1 (some .boolean) 0 [.ref (Ks i)] (some (.int (if (sk_b i).length = 0 then 1 else 0))) := by
  refine jw_of (by decide +kernel) (Nat.le_refl _) ?_
  intro p e R s m args below meth c Qc X ls hsz hls hfin
  have S := X.1
  obtain ⟨⟨hx, hb, hml, hown, hts⟩, hR, hE, hrt, hlk⟩ := X
  have hS : va_S (fun _ => False) s.heap s.heap [] := va_S.rf
  have l0 : ls[0]? = some (.val (.ref (Ks i))) := hls (0, .ref (Ks i)) (by simp [lv_args, Value.category])
  obtain ⟨hO, hco, hva, hT⟩ := hE.1.1 i hi
  refine lv_aload_n hx hb (show decode jb_em 0 = .ok (.aload_n 0, 1) by decide +kernel) rfl l0 ?_
  refine vk_getf hx hb hva hS hown (hts _ jq_20) (fun x h => h) (show decode jb_em 1 = .ok (.getfield 9, 3) by decide +kernel) ?_
  refine va_tlen hx hb hT hS rfl (show decode jb_em 4 = .ok (.arraylength, 1) by decide +kernel) ?_
  refine lv_if_ne hx hb (show decode jb_em 5 = .ok (.ifCond .ne 7, 3) by decide +kernel) (tgt := 12) rfl (fun h => ?_) (fun h => ?_)
  · rw [if_neg (fun z => h ((jk_zer i hi).2 z))] at hfin
    refine lv_iconst hx hb (show decode jb_em 12 = .ok (.iconst 0, 1) by decide +kernel) (v := 0) rfl ?_
    exact W.zret hx hb hrt rfl hfin (fun q h => nomatch h) (show decode jb_em 13 = .ok (.ireturn, 1) by decide +kernel)
  · rw [if_pos ((jk_zer i hi).1 h)] at hfin
    refine lv_iconst hx hb (show decode jb_em 8 = .ok (.iconst 1, 1) by decide +kernel) (v := 1) rfl ?_
    refine lv_goto hx hb (show decode jb_em 9 = .ok (.goto 4, 3) by decide +kernel) (tgt := 13) rfl ?_
    exact W.zret hx hb hrt rfl hfin (fun q h => nomatch h) (show decode jb_em 13 = .ok (.ireturn, 1) by decide +kernel)
theorem jm_ln {i : Nat} (hi : i < 7) : jw_Met Ks Kv l jy_ln jb_ln 1 (some .int) 1 [.ref (Ks i)] (some (.int (Int32.ofNat (sk_b i).length))) := by
  refine jw_of (by decide +kernel) (Nat.le_refl _) ?_
  intro p e R s m args below meth c Qc X ls hsz hls hfin
  have S := X.1
  obtain ⟨⟨hx, hb, hml, hown, hts⟩, hR, hE, hrt, hlk⟩ := X
  have hS : va_S (fun _ => False) s.heap s.heap [] := va_S.rf
  have l0 : ls[0]? = some (.val (.ref (Ks i))) := hls (0, .ref (Ks i)) (by simp [lv_args, Value.category])
  obtain ⟨hO, hco, hva, hT⟩ := hE.1.1 i hi
  refine lv_aload_n hx hb (show decode jb_ln 0 = .ok (.aload_n 0, 1) by decide +kernel) rfl l0 ?_
  refine vk_getf hx hb hva hS hown (hts _ jq_20) (fun x h => h) (show decode jb_ln 1 = .ok (.getfield 9, 3) by decide +kernel) ?_
  refine va_tlen hx hb hT hS rfl (show decode jb_ln 4 = .ok (.arraylength, 1) by decide +kernel) ?_
  refine lv_aload_n hx hb (show decode jb_ln 5 = .ok (.aload_n 0, 1) by decide +kernel) rfl l0 ?_
  refine jw_call jc_ln_6 (jm_cd hi) S (by omega) (by omega) hE hS rfl hsz (fun ci h => ⟨i, [], rfl, hi, (Option.some.inj h).symm⟩) (by simp [Value.category]) (Nat.zero_le _) (Nat.zero_le _) ?_
  refine lv_ishr hx hb (show decode jb_ln 9 = .ok (.ishr, 1) by decide +kernel) ?_
  rw [jk_shr i hi]
  exact W.iret hx hb hrt hfin (fun q h => nomatch h) (show decode jb_ln 10 = .ok (.ireturn, 1) by decide +kernel)
theorem jm_pc {x n : Int32} {v : Value} (hv : v = .null ∨ ∃ t, v = .ref t) (h0 : ¬ x < 0) (h1 : x < n) : jw_Met Ks Kv l jy_pc jb_pc 3 (some .int) 0 [.int x, .int n, v] (some (.int x)) := by
  refine jw_of (by decide +kernel) (by rcases hv with rfl | ⟨t, rfl⟩ <;> exact Nat.le_refl _) ?_
  intro p e R s m args below meth c Qc X ls hsz hls hfin
  have S := X.1
  obtain ⟨⟨hx, hb, hml, hown, hts⟩, hR, hE, hrt, hlk⟩ := X
  have l0 : ls[0]? = some (.val (.int x)) := hls (0, .int x) (by simp [lv_args, Value.category])
  have l1 : ls[1]? = some (.val (.int n)) := hls (1, .int n) (by simp [lv_args, Value.category])
  refine lv_iload_n hx hb (show decode jb_pc 0 = .ok (.iload_n 0, 1) by decide +kernel) rfl l0 ?_
  refine lv_if_lt hx hb (show decode jb_pc 1 = .ok (.ifCond .lt 8, 3) by decide +kernel) (tgt := 9) rfl (fun h => absurd h h0) (fun h => ?_)
  refine lv_iload_n hx hb (show decode jb_pc 4 = .ok (.iload_n 0, 1) by decide +kernel) rfl l0 ?_
  refine lv_iload_n hx hb (show decode jb_pc 5 = .ok (.iload_n 1, 1) by decide +kernel) rfl l1 ?_
  refine lv_icmp_lt hx hb (show decode jb_pc 6 = .ok (.if_icmp .lt 10, 3) by decide +kernel) (tgt := 16) rfl (fun h => ?_) (fun h => absurd h1 h)
  refine lv_iload_n hx hb (show decode jb_pc 16 = .ok (.iload_n 0, 1) by decide +kernel) rfl l0 ?_
  exact W.iret hx hb hrt hfin (fun q h => nomatch h) (show decode jb_pc 17 = .ok (.ireturn, 1) by decide +kernel)
theorem jm_ci {x n : Int32} (h0 : ¬ x < 0) (h1 : x < n) : jw_Met Ks Kv l jy_ci jb_ci 2 none 1 [.int x, .int n] none := by
  refine jw_of (by decide +kernel) (Nat.le_refl _) ?_
  intro p e R s m args below meth c Qc X ls hsz hls hfin
  have S := X.1
  obtain ⟨⟨hx, hb, hml, hown, hts⟩, hR, hE, hrt, hlk⟩ := X
  have hS : va_S (fun _ => False) s.heap s.heap [] := va_S.rf
  have l0 : ls[0]? = some (.val (.int x)) := hls (0, .int x) (by simp [lv_args, Value.category])
  have l1 : ls[1]? = some (.val (.int n)) := hls (1, .int n) (by simp [lv_args, Value.category])
  refine lv_iload_n hx hb (show decode jb_ci 0 = .ok (.iload_n 0, 1) by decide +kernel) rfl l0 ?_
  refine lv_iload_n hx hb (show decode jb_ci 1 = .ok (.iload_n 1, 1) by decide +kernel) rfl l1 ?_
  have go : ∀ v : Value, (v = .null ∨ ∃ t, v = .ref t) → va_Z RJ3 "SIOOBE_FORMATTER" "Ljava/util/function/BiFunction;" v (fun _ => False) s s.heap → W p l e R s m args below meth c s.heap [] 0 0 (MQ below Qc args s 0 0 (fun _ => False)) (F0 m 2 ls [.int n, .int x]) := by
    intro v hv hZ
    refine va_gets hx hb hZ hS hown (hts _ jq_23) (fun x h => h) (show decode jb_ci 2 = .ok (.getstatic 1053, 3) by decide +kernel) ?_
    refine jw_call jc_ci_5 (jm_pc hv h0 h1) (as := [.int x, .int n, v]) (rest := []) S (by omega) (by omega) hE hS rfl hsz (fun ci h => nomatch h) (by decide) (Nat.zero_le _) (Nat.zero_le _) ?_
    refine lv_pop hx hb (show decode jb_ci 8 = .ok (.pop, 1) by decide +kernel) rfl ?_
    exact W.vret hx hb hrt hfin (fun q h => nomatch h) (show decode jb_ci 9 = .ok (.return_, 1) by decide +kernel)
  rcases hE.2.2 with h | ⟨t, h⟩
  · exact go .null (Or.inl rfl) h
  · exact go (.ref t) (Or.inr ⟨t, rfl⟩) h
theorem jm_lc {i : Nat} {x : Int32} (hi : i < 7) (h0 : ¬ x < 0) (h1 : x.toNatClampNeg < sk_ln.getD i 0) : jw_Met Ks Kv l jy_lc jb_lc 2 (some .char) 2 [.ref (Kv i), .int x] (some (.int ((sk_b i).getD x.toNatClampNeg 0))) := by
  refine jw_of (by decide +kernel) (Nat.le_refl _) ?_
  intro p e R s m args below meth c Qc X ls hsz hls hfin
  have S := X.1
  obtain ⟨⟨hx, hb, hml, hown, hts⟩, hR, hE, hrt, hlk⟩ := X
  have hS : va_S (fun _ => False) s.heap s.heap [] := va_S.rf
  have l0 : ls[0]? = some (.val (.ref (Kv i))) := hls (0, .ref (Kv i)) (by simp [lv_args, Value.category])
  have l1 : ls[1]? = some (.val (.int x)) := hls (1, .int x) (by simp [lv_args, Value.category])
  obtain ⟨hO, hco, hva, hT⟩ := hE.1.1 i hi
  obtain ⟨k1, k2⟩ := jk_chr i hi _ h1
  refine lv_iload_n hx hb (show decode jb_lc 0 = .ok (.iload_n 1, 1) by decide +kernel) rfl l1 ?_
  refine lv_aload_n hx hb (show decode jb_lc 1 = .ok (.aload_n 0, 1) by decide +kernel) rfl l0 ?_
  refine va_tlen hx hb hT hS rfl (show decode jb_lc 2 = .ok (.arraylength, 1) by decide +kernel) ?_
  refine jw_call jc_lc_3 (jm_ci h0 (jk_lt hi h0 h1)) (as := [.int x, .int _]) (rest := []) S (by omega) (by omega) hE hS rfl hsz (fun ci h => nomatch h) (by decide) (Nat.zero_le _) (Nat.zero_le _) ?_
  refine lv_aload_n hx hb (show decode jb_lc 6 = .ok (.aload_n 0, 1) by decide +kernel) rfl l0 ?_
  refine lv_iload_n hx hb (show decode jb_lc 7 = .ok (.iload_n 1, 1) by decide +kernel) rfl l1 ?_
  refine va_tb hx hb hT hS (fun z => by rcases z with z | z; exact h0 z; omega) rfl (show decode jb_lc 8 = .ok (.baload, 1) by decide +kernel) ?_
  refine lv_sipush hx hb (show decode jb_lc 9 = .ok (.sipush 255, 3) by decide +kernel) (v := 255) (by decide +kernel) ?_
  refine lv_iand hx hb (show decode jb_lc 12 = .ok (.iand, 1) by decide +kernel) ?_
  refine lv_i2c hx hb (show decode jb_lc 13 = .ok (.i2c, 1) by decide +kernel) k1 ?_
  exact W.zret hx hb hrt k2 hfin (fun q h => nomatch h) (show decode jb_lc 14 = .ok (.ireturn, 1) by decide +kernel)
theorem jm_ch {i : Nat} {x : Int32} (hi : i < 7) (h0 : ¬ x < 0) (h1 : x.toNatClampNeg < sk_ln.getD i 0) : jw_Met Ks Kv l jy_ch jb_ch 2 (some .char) 3 [.ref (Ks i), .int x] (some (.int ((sk_b i).getD x.toNatClampNeg 0))) := by
  refine jw_of (by decide +kernel) (Nat.le_refl _) ?_
  intro p e R s m args below meth c Qc X ls hsz hls hfin
  have S := X.1
  obtain ⟨⟨hx, hb, hml, hown, hts⟩, hR, hE, hrt, hlk⟩ := X
  have hS : va_S (fun _ => False) s.heap s.heap [] := va_S.rf
  have l0 : ls[0]? = some (.val (.ref (Ks i))) := hls (0, .ref (Ks i)) (by simp [lv_args, Value.category])
  have l1 : ls[1]? = some (.val (.int x)) := hls (1, .int x) (by simp [lv_args, Value.category])
  obtain ⟨hO, hco, hva, hT⟩ := hE.1.1 i hi
  obtain ⟨k1, k2⟩ := jk_chr i hi _ h1
  refine lv_aload_n hx hb (show decode jb_ch 0 = .ok (.aload_n 0, 1) by decide +kernel) rfl l0 ?_
  refine jw_call jc_ch_1 (jm_l1 hi) (as := [.ref (Ks i)]) (rest := []) S (by omega) (by omega) hE hS rfl hsz (fun ci h => ⟨i, [], rfl, hi, (Option.some.inj h).symm⟩) (by simp [Value.category]) (Nat.zero_le _) (Nat.zero_le _) ?_
  refine lv_if_eq hx hb (show decode jb_ch 4 = .ok (.ifCond .eq 12, 3) by decide +kernel) (tgt := 16) rfl (fun h => absurd h (by decide)) (fun h => ?_)
  refine lv_aload_n hx hb (show decode jb_ch 7 = .ok (.aload_n 0, 1) by decide +kernel) rfl l0 ?_
  refine vk_getf hx hb hva hS hown (hts _ jq_20) (fun x h => h) (show decode jb_ch 8 = .ok (.getfield 9, 3) by decide +kernel) ?_
  refine lv_iload_n hx hb (show decode jb_ch 11 = .ok (.iload_n 1, 1) by decide +kernel) rfl l1 ?_
  refine jw_call jc_ch_12 (jm_lc hi h0 h1) (as := [.ref (Kv i), .int x]) (rest := []) S (by omega) (by omega) hE hS rfl hsz (fun ci h => nomatch h) (by decide) (Nat.zero_le _) (Nat.zero_le _) ?_
  exact W.zret hx hb hrt k2 hfin (fun q h => nomatch h) (show decode jb_ch 15 = .ok (.ireturn, 1) by decide +kernel)
end JWM
