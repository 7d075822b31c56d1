/-! What each wrapper of the law comes to. -/
section LX
variable {Ks Kv Km : Nat → Nat} {D : va_G} {dT : Nat → ClassId} {dL : ClassId} {p : Program} {l : Launch} {e : Env} {s : State} {m : MethodId} {below : List Frame} {meth : Method} {c : Code} {b L : Nat} {xs : Nat → Int32} {H : Heap} {locs : List Loc} {cells slots : Nat} {ls : Array Slot} {σ : ri_S} {Q : State → Prop} {C M o : Nat} {K : Int} {iv : Int32} {g : Nat → Int64}
theorem wc_append (P0 : Int32) (hCM : C + 324 ≤ M) (hMo : M + 9 ≤ o) (hoz : o < σ.2) (hl : l.stackTraces = false) (hKs : sk_ok Ks) (hσ : su_w K C M σ.2 σ) (hk : K + 20 + 400000 ≤ 1000000) : su_C Ks Kv Km D dT dL l (⟨"LilyWheelsLaw", "append", "(LLilyWheels;I[J)I"⟩ : MethodName) (Cond.codeWith (⟨"LilyWheelsLaw", "append", "(LLilyWheels;I[J)I"⟩ : MethodName) method_3_code 4 (some .int) [(0, 9, 12, 13), (0, 9, 15, 15)] :: ri_LW) 4 [.ref C, .int P0, .ref o] σ o g (K + 20) C M 182 [.int P0] := by
  obtain ⟨c, rfl, c1, c2⟩ := na_of P0
  have hs : ∀ (z : Nat) (σ : ri_S), su_w K C M z σ → su_r Ks (K + 20) C M z 109 182 [.int (Int32.ofInt c)] σ ∨ su_x Ks (K + 20) C M 109 182 2 1 [.int (Int32.ofInt c)] σ ∨ su_x Ks (K + 20) C M 109 182 3 2 [.int (Int32.ofInt c)] σ := by
    rintro z σ ⟨V, PR, PZ, X, S, A, rfl, hr⟩
    exact su_append hCM hr hk c1 c2
  have hf := su_w_f hσ
  have ho := su_f_o hf hCM hMo
  have hH : TH2 109 ≤ 100 := by decide +kernel
  rcases hs _ _ hσ with h | h | h
  · exact su_C_r hCM hMo hH (by decide) h (fun v σ1 h1 ho1 => we_append h1 (su_f_C hf) ho hoz ho1)
  · exact su_C_x hf hH (by decide) (jv := 1) rfl (by decide) h (fun h1 => wn_append_2 hl h1 (su_f_C hf) ho hoz)
  · exact su_C_x hf hH (by decide) (jv := 2) rfl (by decide) h (fun h1 => wn_append_3 hl h1 (su_f_C hf) ho hoz)
theorem wc_load  (hCM : C + 324 ≤ M) (hMo : M + 9 ≤ o) (hoz : o < σ.2) (hl : l.stackTraces = false) (hKs : sk_ok Ks) (hσ : su_w K C M σ.2 σ) (hk : K + 20 + 400000 ≤ 1000000) : su_C Ks Kv Km D dT dL l (⟨"LilyWheelsLaw", "load", "(LLilyWheels;[J)I"⟩ : MethodName) (Cond.codeWith (⟨"LilyWheelsLaw", "load", "(LLilyWheels;[J)I"⟩ : MethodName) method_4_code 3 (some .int) [(0, 8, 11, 15)] :: ri_LW) 3 [.ref C, .ref o] σ o g (K + 20) C M 195 [] := by
  have hs : ∀ (z : Nat) (σ : ri_S), su_w K C M z σ → su_r Ks (K + 20) C M z 112 195 [] σ ∨ su_x Ks (K + 20) C M 112 195 3 1 [] σ := by
    rintro z σ ⟨V, PR, PZ, X, S, A, rfl, hr⟩
    exact su_load hCM hKs hr hk 
  have hf := su_w_f hσ
  have ho := su_f_o hf hCM hMo
  have hH : TH2 112 ≤ 100 := by decide +kernel
  rcases hs _ _ hσ with h | h
  · exact su_C_r hCM hMo hH (by decide) h (fun v σ1 h1 ho1 => we_load h1 (su_f_C hf) ho hoz ho1)
  · exact su_C_x hf hH (by decide) (jv := 1) rfl (by decide) h (fun h1 => wn_load_3 hl h1 (su_f_C hf) ho hoz)
theorem wc_about (P0 : Int32) (hCM : C + 324 ≤ M) (hMo : M + 9 ≤ o) (hoz : o < σ.2) (hl : l.stackTraces = false) (hKs : sk_ok Ks) (hσ : su_w K C M σ.2 σ) (hk : K + 20 + 400000 ≤ 1000000) : su_C Ks Kv Km D dT dL l (⟨"LilyWheelsLaw", "about", "(LLilyWheels;I[J)I"⟩ : MethodName) (Cond.codeWith (⟨"LilyWheelsLaw", "about", "(LLilyWheels;I[J)I"⟩ : MethodName) method_5_code 4 (some .int) [(0, 9, 12, 13)] :: ri_LW) 4 [.ref C, .int P0, .ref o] σ o g (K + 20) C M 197 [.int P0] := by
  obtain ⟨x, rfl, x1, x2⟩ := na_of P0
  have hs : ∀ (z : Nat) (σ : ri_S), su_w K C M z σ → su_r Ks (K + 20) C M z 113 197 [.int (Int32.ofInt x)] σ ∨ su_x Ks (K + 20) C M 113 197 2 1 [.int (Int32.ofInt x)] σ := by
    rintro z σ ⟨V, PR, PZ, X, S, A, rfl, hr⟩
    exact su_about hCM hr hk x1 x2
  have hf := su_w_f hσ
  have ho := su_f_o hf hCM hMo
  have hH : TH2 113 ≤ 100 := by decide +kernel
  rcases hs _ _ hσ with h | h
  · exact su_C_r hCM hMo hH (by decide) h (fun v σ1 h1 ho1 => we_about h1 (su_f_C hf) ho hoz ho1)
  · exact su_C_x hf hH (by decide) (jv := 1) rfl (by decide) h (fun h1 => wn_about_2 hl h1 (su_f_C hf) ho hoz)
theorem wc_wheelOf (P0 : Int32) (P1 : Int32) (hCM : C + 324 ≤ M) (hMo : M + 9 ≤ o) (hoz : o < σ.2) (hl : l.stackTraces = false) (hKs : sk_ok Ks) (hσ : su_w K C M σ.2 σ) (hk : K + 20 + 400000 ≤ 1000000) : su_C Ks Kv Km D dT dL l (⟨"LilyWheelsLaw", "wheelOf", "(LLilyWheels;II[J)I"⟩ : MethodName) (Cond.codeWith (⟨"LilyWheelsLaw", "wheelOf", "(LLilyWheels;II[J)I"⟩ : MethodName) method_6_code 5 (some .int) [(0, 10, 13, 28), (0, 10, 17, 13)] :: ri_LW) 5 [.ref C, .int P0, .int P1, .ref o] σ o g (K + 20) C M 199 [.int P0, .int P1] := by
  obtain ⟨w, rfl, w1, w2⟩ := na_of P0
  obtain ⟨x, rfl, x1, x2⟩ := na_of P1
  have hs : ∀ (z : Nat) (σ : ri_S), su_w K C M z σ → su_r Ks (K + 20) C M z 114 199 [.int (Int32.ofInt w), .int (Int32.ofInt x)] σ ∨ su_x Ks (K + 20) C M 114 199 1 1 [.int (Int32.ofInt w), .int (Int32.ofInt x)] σ ∨ su_x Ks (K + 20) C M 114 199 2 2 [.int (Int32.ofInt w), .int (Int32.ofInt x)] σ := by
    rintro z σ ⟨V, PR, PZ, X, S, A, rfl, hr⟩
    exact su_wheelOf hCM hr hk w1 w2 x1 x2
  have hf := su_w_f hσ
  have ho := su_f_o hf hCM hMo
  have hH : TH2 114 ≤ 100 := by decide +kernel
  rcases hs _ _ hσ with h | h | h
  · exact su_C_r hCM hMo hH (by decide) h (fun v σ1 h1 ho1 => we_wheelOf h1 (su_f_C hf) ho hoz ho1)
  · exact su_C_x hf hH (by decide) (jv := 1) rfl (by decide) h (fun h1 => wn_wheelOf_1 hl h1 (su_f_C hf) ho hoz)
  · exact su_C_x hf hH (by decide) (jv := 2) rfl (by decide) h (fun h1 => wn_wheelOf_2 hl h1 (su_f_C hf) ho hoz)
theorem wc_placeOf (P0 : Int32) (P1 : Int32) (P2 : Int32) (hCM : C + 324 ≤ M) (hMo : M + 9 ≤ o) (hoz : o < σ.2) (hl : l.stackTraces = false) (hKs : sk_ok Ks) (hσ : su_w K C M σ.2 σ) (hk : K + 20 + 400000 ≤ 1000000) : su_C Ks Kv Km D dT dL l (⟨"LilyWheelsLaw", "placeOf", "(LLilyWheels;III[J)I"⟩ : MethodName) (Cond.codeWith (⟨"LilyWheelsLaw", "placeOf", "(LLilyWheels;III[J)I"⟩ : MethodName) method_7_code 6 (some .int) [(0, 12, 15, 28), (0, 12, 19, 13)] :: ri_LW) 6 [.ref C, .int P0, .int P1, .int P2, .ref o] σ o g (K + 20) C M 200 [.int P0, .int P1, .int P2] := by
  obtain ⟨w, rfl, w1, w2⟩ := na_of P0
  obtain ⟨p, rfl, p1, p2⟩ := na_of P1
  obtain ⟨x, rfl, x1, x2⟩ := na_of P2
  have hs : ∀ (z : Nat) (σ : ri_S), su_w K C M z σ → su_r Ks (K + 20) C M z 115 200 [.int (Int32.ofInt w), .int (Int32.ofInt p), .int (Int32.ofInt x)] σ ∨ su_x Ks (K + 20) C M 115 200 1 1 [.int (Int32.ofInt w), .int (Int32.ofInt p), .int (Int32.ofInt x)] σ ∨ su_x Ks (K + 20) C M 115 200 2 2 [.int (Int32.ofInt w), .int (Int32.ofInt p), .int (Int32.ofInt x)] σ := by
    rintro z σ ⟨V, PR, PZ, X, S, A, rfl, hr⟩
    exact su_placeOf hCM hr hk w1 w2 p1 p2 x1 x2
  have hf := su_w_f hσ
  have ho := su_f_o hf hCM hMo
  have hH : TH2 115 ≤ 100 := by decide +kernel
  rcases hs _ _ hσ with h | h | h
  · exact su_C_r hCM hMo hH (by decide) h (fun v σ1 h1 ho1 => we_placeOf h1 (su_f_C hf) ho hoz ho1)
  · exact su_C_x hf hH (by decide) (jv := 1) rfl (by decide) h (fun h1 => wn_placeOf_1 hl h1 (su_f_C hf) ho hoz)
  · exact su_C_x hf hH (by decide) (jv := 2) rfl (by decide) h (fun h1 => wn_placeOf_2 hl h1 (su_f_C hf) ho hoz)
theorem wc_frogOf (P0 : Int32) (P1 : Int32) (hCM : C + 324 ≤ M) (hMo : M + 9 ≤ o) (hoz : o < σ.2) (hl : l.stackTraces = false) (hKs : sk_ok Ks) (hσ : su_w K C M σ.2 σ) (hk : K + 20 + 400000 ≤ 1000000) : su_C Ks Kv Km D dT dL l (⟨"LilyWheelsLaw", "frogOf", "(LLilyWheels;II[J)I"⟩ : MethodName) (Cond.codeWith (⟨"LilyWheelsLaw", "frogOf", "(LLilyWheels;II[J)I"⟩ : MethodName) method_8_code 5 (some .int) [(0, 10, 13, 28), (0, 10, 17, 13)] :: ri_LW) 5 [.ref C, .int P0, .int P1, .ref o] σ o g (K + 20) C M 201 [.int P0, .int P1] := by
  obtain ⟨f, rfl, f1, f2⟩ := na_of P0
  obtain ⟨x, rfl, x1, x2⟩ := na_of P1
  have hs : ∀ (z : Nat) (σ : ri_S), su_w K C M z σ → su_r Ks (K + 20) C M z 116 201 [.int (Int32.ofInt f), .int (Int32.ofInt x)] σ ∨ su_x Ks (K + 20) C M 116 201 1 1 [.int (Int32.ofInt f), .int (Int32.ofInt x)] σ ∨ su_x Ks (K + 20) C M 116 201 2 2 [.int (Int32.ofInt f), .int (Int32.ofInt x)] σ := by
    rintro z σ ⟨V, PR, PZ, X, S, A, rfl, hr⟩
    exact su_frogOf hCM hr hk f1 f2 x1 x2
  have hf := su_w_f hσ
  have ho := su_f_o hf hCM hMo
  have hH : TH2 116 ≤ 100 := by decide +kernel
  rcases hs _ _ hσ with h | h | h
  · exact su_C_r hCM hMo hH (by decide) h (fun v σ1 h1 ho1 => we_frogOf h1 (su_f_C hf) ho hoz ho1)
  · exact su_C_x hf hH (by decide) (jv := 1) rfl (by decide) h (fun h1 => wn_frogOf_1 hl h1 (su_f_C hf) ho hoz)
  · exact su_C_x hf hH (by decide) (jv := 2) rfl (by decide) h (fun h1 => wn_frogOf_2 hl h1 (su_f_C hf) ho hoz)
theorem wc_lineOf (P0 : Int32) (P1 : Int32) (hCM : C + 324 ≤ M) (hMo : M + 9 ≤ o) (hoz : o < σ.2) (hl : l.stackTraces = false) (hKs : sk_ok Ks) (hσ : su_w K C M σ.2 σ) (hk : K + 20 + 400000 ≤ 1000000) : su_C Ks Kv Km D dT dL l (⟨"LilyWheelsLaw", "lineOf", "(LLilyWheels;II[J)I"⟩ : MethodName) (Cond.codeWith (⟨"LilyWheelsLaw", "lineOf", "(LLilyWheels;II[J)I"⟩ : MethodName) method_9_code 5 (some .int) [(0, 10, 13, 28), (0, 10, 17, 13)] :: ri_LW) 5 [.ref C, .int P0, .int P1, .ref o] σ o g (K + 20) C M 202 [.int P0, .int P1] := by
  obtain ⟨l, rfl, l1, l2⟩ := na_of P0
  obtain ⟨x, rfl, x1, x2⟩ := na_of P1
  have hs : ∀ (z : Nat) (σ : ri_S), su_w K C M z σ → su_r Ks (K + 20) C M z 117 202 [.int (Int32.ofInt l), .int (Int32.ofInt x)] σ ∨ su_x Ks (K + 20) C M 117 202 1 1 [.int (Int32.ofInt l), .int (Int32.ofInt x)] σ ∨ su_x Ks (K + 20) C M 117 202 2 2 [.int (Int32.ofInt l), .int (Int32.ofInt x)] σ := by
    rintro z σ ⟨V, PR, PZ, X, S, A, rfl, hr⟩
    exact su_lineOf hCM hr hk l1 l2 x1 x2
  have hf := su_w_f hσ
  have ho := su_f_o hf hCM hMo
  have hH : TH2 117 ≤ 100 := by decide +kernel
  rcases hs _ _ hσ with h | h | h
  · exact su_C_r hCM hMo hH (by decide) h (fun v σ1 h1 ho1 => we_lineOf h1 (su_f_C hf) ho hoz ho1)
  · exact su_C_x hf hH (by decide) (jv := 1) rfl (by decide) h (fun h1 => wn_lineOf_1 hl h1 (su_f_C hf) ho hoz)
  · exact su_C_x hf hH (by decide) (jv := 2) rfl (by decide) h (fun h1 => wn_lineOf_2 hl h1 (su_f_C hf) ho hoz)
theorem wc_wheel (P0 : Int32) (P1 : Int32) (P2 : Int32) (hCM : C + 324 ≤ M) (hMo : M + 9 ≤ o) (hoz : o < σ.2) (hl : l.stackTraces = false) (hKs : sk_ok Ks) (hσ : su_w K C M σ.2 σ) (hk : K + 20 + 400000 ≤ 1000000) : su_C Ks Kv Km D dT dL l (⟨"LilyWheelsLaw", "wheel", "(LLilyWheels;III[J)I"⟩ : MethodName) (Cond.codeWith (⟨"LilyWheelsLaw", "wheel", "(LLilyWheels;III[J)I"⟩ : MethodName) method_10_code 6 (some .int) [(0, 12, 15, 13), (0, 12, 19, 15)] :: ri_LW) 6 [.ref C, .int P0, .int P1, .int P2, .ref o] σ o g (K + 20) C M 204 [.int P0, .int P1, .int P2] := by
  obtain ⟨n, rfl, n1, n2⟩ := na_of P0
  obtain ⟨no, rfl, no1, no2⟩ := na_of P1
  obtain ⟨s, rfl, s1, s2⟩ := na_of P2
  have hs : ∀ (z : Nat) (σ : ri_S), su_w K C M z σ → su_r Ks (K + 20) C M z 118 204 [.int (Int32.ofInt n), .int (Int32.ofInt no), .int (Int32.ofInt s)] σ ∨ su_x Ks (K + 20) C M 118 204 2 1 [.int (Int32.ofInt n), .int (Int32.ofInt no), .int (Int32.ofInt s)] σ ∨ su_x Ks (K + 20) C M 118 204 3 2 [.int (Int32.ofInt n), .int (Int32.ofInt no), .int (Int32.ofInt s)] σ := by
    rintro z σ ⟨V, PR, PZ, X, S, A, rfl, hr⟩
    exact su_wheel hCM hr hk n1 n2 no1 no2 s1 s2
  have hf := su_w_f hσ
  have ho := su_f_o hf hCM hMo
  have hH : TH2 118 ≤ 100 := by decide +kernel
  rcases hs _ _ hσ with h | h | h
  · exact su_C_r hCM hMo hH (by decide) h (fun v σ1 h1 ho1 => we_wheel h1 (su_f_C hf) ho hoz ho1)
  · exact su_C_x hf hH (by decide) (jv := 1) rfl (by decide) h (fun h1 => wn_wheel_2 hl h1 (su_f_C hf) ho hoz)
  · exact su_C_x hf hH (by decide) (jv := 2) rfl (by decide) h (fun h1 => wn_wheel_3 hl h1 (su_f_C hf) ho hoz)
theorem wc_line (P0 : Int32) (P1 : Int32) (P2 : Int32) (P3 : Int32) (hCM : C + 324 ≤ M) (hMo : M + 9 ≤ o) (hoz : o < σ.2) (hl : l.stackTraces = false) (hKs : sk_ok Ks) (hσ : su_w K C M σ.2 σ) (hk : K + 20 + 400000 ≤ 1000000) : su_C Ks Kv Km D dT dL l (⟨"LilyWheelsLaw", "line", "(LLilyWheels;IIII[J)I"⟩ : MethodName) (Cond.codeWith (⟨"LilyWheelsLaw", "line", "(LLilyWheels;IIII[J)I"⟩ : MethodName) method_11_code 7 (some .int) [(0, 14, 17, 28), (0, 14, 21, 13), (0, 14, 25, 15)] :: ri_LW) 7 [.ref C, .int P0, .int P1, .int P2, .int P3, .ref o] σ o g (K + 20) C M 205 [.int P0, .int P1, .int P2, .int P3] := by
  obtain ⟨w, rfl, w1, w2⟩ := na_of P0
  obtain ⟨p, rfl, p1, p2⟩ := na_of P1
  obtain ⟨y, rfl, y1, y2⟩ := na_of P2
  obtain ⟨v, rfl, v1, v2⟩ := na_of P3
  have hs : ∀ (z : Nat) (σ : ri_S), su_w K C M z σ → su_r Ks (K + 20) C M z 119 205 [.int (Int32.ofInt w), .int (Int32.ofInt p), .int (Int32.ofInt y), .int (Int32.ofInt v)] σ ∨ su_x Ks (K + 20) C M 119 205 1 1 [.int (Int32.ofInt w), .int (Int32.ofInt p), .int (Int32.ofInt y), .int (Int32.ofInt v)] σ ∨ su_x Ks (K + 20) C M 119 205 2 2 [.int (Int32.ofInt w), .int (Int32.ofInt p), .int (Int32.ofInt y), .int (Int32.ofInt v)] σ ∨ su_x Ks (K + 20) C M 119 205 3 3 [.int (Int32.ofInt w), .int (Int32.ofInt p), .int (Int32.ofInt y), .int (Int32.ofInt v)] σ := by
    rintro z σ ⟨V, PR, PZ, X, S, A, rfl, hr⟩
    exact su_line hCM hr hk w1 w2 p1 p2 y1 y2 v1 v2
  have hf := su_w_f hσ
  have ho := su_f_o hf hCM hMo
  have hH : TH2 119 ≤ 100 := by decide +kernel
  rcases hs _ _ hσ with h | h | h | h
  · exact su_C_r hCM hMo hH (by decide) h (fun v σ1 h1 ho1 => we_line h1 (su_f_C hf) ho hoz ho1)
  · exact su_C_x hf hH (by decide) (jv := 1) rfl (by decide) h (fun h1 => wn_line_1 hl h1 (su_f_C hf) ho hoz)
  · exact su_C_x hf hH (by decide) (jv := 2) rfl (by decide) h (fun h1 => wn_line_2 hl h1 (su_f_C hf) ho hoz)
  · exact su_C_x hf hH (by decide) (jv := 3) rfl (by decide) h (fun h1 => wn_line_3 hl h1 (su_f_C hf) ho hoz)
theorem wc_frog (P0 : Int32) (P1 : Int32) (P2 : Int32) (hCM : C + 324 ≤ M) (hMo : M + 9 ≤ o) (hoz : o < σ.2) (hl : l.stackTraces = false) (hKs : sk_ok Ks) (hσ : su_w K C M σ.2 σ) (hk : K + 20 + 400000 ≤ 1000000) : su_C Ks Kv Km D dT dL l (⟨"LilyWheelsLaw", "frog", "(LLilyWheels;III[J)I"⟩ : MethodName) (Cond.codeWith (⟨"LilyWheelsLaw", "frog", "(LLilyWheels;III[J)I"⟩ : MethodName) method_12_code 6 (some .int) [(0, 12, 15, 28), (0, 12, 19, 13), (0, 12, 23, 15)] :: ri_LW) 6 [.ref C, .int P0, .int P1, .int P2, .ref o] σ o g (K + 20) C M 206 [.int P0, .int P1, .int P2] := by
  obtain ⟨w, rfl, w1, w2⟩ := na_of P0
  obtain ⟨p, rfl, p1, p2⟩ := na_of P1
  obtain ⟨g, rfl, g1, g2⟩ := na_of P2
  have hs : ∀ (z : Nat) (σ : ri_S), su_w K C M z σ → su_r Ks (K + 20) C M z 120 206 [.int (Int32.ofInt w), .int (Int32.ofInt p), .int (Int32.ofInt g)] σ ∨ su_x Ks (K + 20) C M 120 206 1 1 [.int (Int32.ofInt w), .int (Int32.ofInt p), .int (Int32.ofInt g)] σ ∨ su_x Ks (K + 20) C M 120 206 2 2 [.int (Int32.ofInt w), .int (Int32.ofInt p), .int (Int32.ofInt g)] σ ∨ su_x Ks (K + 20) C M 120 206 3 3 [.int (Int32.ofInt w), .int (Int32.ofInt p), .int (Int32.ofInt g)] σ := by
    rintro z σ ⟨V, PR, PZ, X, S, A, rfl, hr⟩
    exact su_frog hCM hr hk w1 w2 p1 p2 g1 g2
  have hf := su_w_f hσ
  have ho := su_f_o hf hCM hMo
  have hH : TH2 120 ≤ 100 := by decide +kernel
  rcases hs _ _ hσ with h | h | h | h
  · exact su_C_r hCM hMo hH (by decide) h (fun v σ1 h1 ho1 => we_frog h1 (su_f_C hf) ho hoz ho1)
  · exact su_C_x hf hH (by decide) (jv := 1) rfl (by decide) h (fun h1 => wn_frog_1 hl h1 (su_f_C hf) ho hoz)
  · exact su_C_x hf hH (by decide) (jv := 2) rfl (by decide) h (fun h1 => wn_frog_2 hl h1 (su_f_C hf) ho hoz)
  · exact su_C_x hf hH (by decide) (jv := 3) rfl (by decide) h (fun h1 => wn_frog_3 hl h1 (su_f_C hf) ho hoz)
theorem wc_flies (P0 : Int32) (P1 : Int32) (P2 : Int32) (hCM : C + 324 ≤ M) (hMo : M + 9 ≤ o) (hoz : o < σ.2) (hl : l.stackTraces = false) (hKs : sk_ok Ks) (hσ : su_w K C M σ.2 σ) (hk : K + 20 + 400000 ≤ 1000000) : su_C Ks Kv Km D dT dL l (⟨"LilyWheelsLaw", "flies", "(LLilyWheels;III[J)I"⟩ : MethodName) (Cond.codeWith (⟨"LilyWheelsLaw", "flies", "(LLilyWheels;III[J)I"⟩ : MethodName) method_13_code 6 (some .int) [(0, 12, 15, 28), (0, 12, 19, 13)] :: ri_LW) 6 [.ref C, .int P0, .int P1, .int P2, .ref o] σ o g (K + 20) C M 207 [.int P0, .int P1, .int P2] := by
  obtain ⟨w, rfl, w1, w2⟩ := na_of P0
  obtain ⟨p, rfl, p1, p2⟩ := na_of P1
  obtain ⟨n, rfl, n1, n2⟩ := na_of P2
  have hs : ∀ (z : Nat) (σ : ri_S), su_w K C M z σ → su_r Ks (K + 20) C M z 121 207 [.int (Int32.ofInt w), .int (Int32.ofInt p), .int (Int32.ofInt n)] σ ∨ su_x Ks (K + 20) C M 121 207 1 1 [.int (Int32.ofInt w), .int (Int32.ofInt p), .int (Int32.ofInt n)] σ ∨ su_x Ks (K + 20) C M 121 207 2 2 [.int (Int32.ofInt w), .int (Int32.ofInt p), .int (Int32.ofInt n)] σ := by
    rintro z σ ⟨V, PR, PZ, X, S, A, rfl, hr⟩
    exact su_flies hCM hr hk w1 w2 p1 p2 n1 n2
  have hf := su_w_f hσ
  have ho := su_f_o hf hCM hMo
  have hH : TH2 121 ≤ 100 := by decide +kernel
  rcases hs _ _ hσ with h | h | h
  · exact su_C_r hCM hMo hH (by decide) h (fun v σ1 h1 ho1 => we_flies h1 (su_f_C hf) ho hoz ho1)
  · exact su_C_x hf hH (by decide) (jv := 1) rfl (by decide) h (fun h1 => wn_flies_1 hl h1 (su_f_C hf) ho hoz)
  · exact su_C_x hf hH (by decide) (jv := 2) rfl (by decide) h (fun h1 => wn_flies_2 hl h1 (su_f_C hf) ho hoz)
theorem wc_leap (P0 : Int32) (P1 : Int32) (hCM : C + 324 ≤ M) (hMo : M + 9 ≤ o) (hoz : o < σ.2) (hl : l.stackTraces = false) (hKs : sk_ok Ks) (hσ : su_w K C M σ.2 σ) (hk : K + 20 + 400000 ≤ 1000000) : su_C Ks Kv Km D dT dL l (⟨"LilyWheelsLaw", "leap", "(LLilyWheels;II[J)I"⟩ : MethodName) (Cond.codeWith (⟨"LilyWheelsLaw", "leap", "(LLilyWheels;II[J)I"⟩ : MethodName) method_14_code 5 (some .int) [(0, 10, 13, 28)] :: ri_LW) 5 [.ref C, .int P0, .int P1, .ref o] σ o g (K + 20) C M 208 [.int P0, .int P1] := by
  obtain ⟨f, rfl, f1, f2⟩ := na_of P0
  obtain ⟨l, rfl, l1, l2⟩ := na_of P1
  have hs : ∀ (z : Nat) (σ : ri_S), su_w K C M z σ → su_r Ks (K + 20) C M z 122 208 [.int (Int32.ofInt f), .int (Int32.ofInt l)] σ ∨ su_x Ks (K + 20) C M 122 208 1 1 [.int (Int32.ofInt f), .int (Int32.ofInt l)] σ := by
    rintro z σ ⟨V, PR, PZ, X, S, A, rfl, hr⟩
    exact su_leap hCM hr hk f1 f2 l1 l2
  have hf := su_w_f hσ
  have ho := su_f_o hf hCM hMo
  have hH : TH2 122 ≤ 100 := by decide +kernel
  rcases hs _ _ hσ with h | h
  · exact su_C_r hCM hMo hH (by decide) h (fun v σ1 h1 ho1 => we_leap h1 (su_f_C hf) ho hoz ho1)
  · exact su_C_x hf hH (by decide) (jv := 1) rfl (by decide) h (fun h1 => wn_leap_1 hl h1 (su_f_C hf) ho hoz)
theorem wc_hop (P0 : Int32) (P1 : Int32) (hCM : C + 324 ≤ M) (hMo : M + 9 ≤ o) (hoz : o < σ.2) (hl : l.stackTraces = false) (hKs : sk_ok Ks) (hσ : su_w K C M σ.2 σ) (hk : K + 20 + 400000 ≤ 1000000) : su_C Ks Kv Km D dT dL l (⟨"LilyWheelsLaw", "hop", "(LLilyWheels;II[J)I"⟩ : MethodName) (Cond.codeWith (⟨"LilyWheelsLaw", "hop", "(LLilyWheels;II[J)I"⟩ : MethodName) method_15_code 5 (some .int) [(0, 10, 13, 28), (0, 10, 17, 13)] :: ri_LW) 5 [.ref C, .int P0, .int P1, .ref o] σ o g (K + 20) C M 209 [.int P0, .int P1] := by
  obtain ⟨f, rfl, f1, f2⟩ := na_of P0
  obtain ⟨s, rfl, s1, s2⟩ := na_of P1
  have hs : ∀ (z : Nat) (σ : ri_S), su_w K C M z σ → su_r Ks (K + 20) C M z 123 209 [.int (Int32.ofInt f), .int (Int32.ofInt s)] σ ∨ su_x Ks (K + 20) C M 123 209 1 1 [.int (Int32.ofInt f), .int (Int32.ofInt s)] σ ∨ su_x Ks (K + 20) C M 123 209 2 2 [.int (Int32.ofInt f), .int (Int32.ofInt s)] σ := by
    rintro z σ ⟨V, PR, PZ, X, S, A, rfl, hr⟩
    exact su_hop hCM hr hk f1 f2 s1 s2
  have hf := su_w_f hσ
  have ho := su_f_o hf hCM hMo
  have hH : TH2 123 ≤ 100 := by decide +kernel
  rcases hs _ _ hσ with h | h | h
  · exact su_C_r hCM hMo hH (by decide) h (fun v σ1 h1 ho1 => we_hop h1 (su_f_C hf) ho hoz ho1)
  · exact su_C_x hf hH (by decide) (jv := 1) rfl (by decide) h (fun h1 => wn_hop_1 hl h1 (su_f_C hf) ho hoz)
  · exact su_C_x hf hH (by decide) (jv := 2) rfl (by decide) h (fun h1 => wn_hop_2 hl h1 (su_f_C hf) ho hoz)
theorem wc_turn (P0 : Int32) (P1 : Int32) (hCM : C + 324 ≤ M) (hMo : M + 9 ≤ o) (hoz : o < σ.2) (hl : l.stackTraces = false) (hKs : sk_ok Ks) (hσ : su_w K C M σ.2 σ) (hk : K + 20 + 400000 ≤ 1000000) : su_C Ks Kv Km D dT dL l (⟨"LilyWheelsLaw", "turn", "(LLilyWheels;II[J)I"⟩ : MethodName) (Cond.codeWith (⟨"LilyWheelsLaw", "turn", "(LLilyWheels;II[J)I"⟩ : MethodName) method_16_code 5 (some .int) [(0, 10, 13, 28), (0, 10, 17, 13)] :: ri_LW) 5 [.ref C, .int P0, .int P1, .ref o] σ o g (K + 20) C M 210 [.int P0, .int P1] := by
  obtain ⟨w, rfl, w1, w2⟩ := na_of P0
  obtain ⟨v, rfl, v1, v2⟩ := na_of P1
  have hs : ∀ (z : Nat) (σ : ri_S), su_w K C M z σ → su_r Ks (K + 20) C M z 124 210 [.int (Int32.ofInt w), .int (Int32.ofInt v)] σ ∨ su_x Ks (K + 20) C M 124 210 1 1 [.int (Int32.ofInt w), .int (Int32.ofInt v)] σ ∨ su_x Ks (K + 20) C M 124 210 2 2 [.int (Int32.ofInt w), .int (Int32.ofInt v)] σ := by
    rintro z σ ⟨V, PR, PZ, X, S, A, rfl, hr⟩
    exact su_turn hCM hr hk w1 w2 v1 v2
  have hf := su_w_f hσ
  have ho := su_f_o hf hCM hMo
  have hH : TH2 124 ≤ 100 := by decide +kernel
  rcases hs _ _ hσ with h | h | h
  · exact su_C_r hCM hMo hH (by decide) h (fun v σ1 h1 ho1 => we_turn h1 (su_f_C hf) ho hoz ho1)
  · exact su_C_x hf hH (by decide) (jv := 1) rfl (by decide) h (fun h1 => wn_turn_1 hl h1 (su_f_C hf) ho hoz)
  · exact su_C_x hf hH (by decide) (jv := 2) rfl (by decide) h (fun h1 => wn_turn_2 hl h1 (su_f_C hf) ho hoz)
theorem wc_set (P0 : Int32) (hCM : C + 324 ≤ M) (hMo : M + 9 ≤ o) (hoz : o < σ.2) (hl : l.stackTraces = false) (hKs : sk_ok Ks) (hσ : su_w K C M σ.2 σ) (hk : K + 20 + 400000 ≤ 1000000) : su_C Ks Kv Km D dT dL l (⟨"LilyWheelsLaw", "set", "(LLilyWheels;I[J)I"⟩ : MethodName) (Cond.codeWith (⟨"LilyWheelsLaw", "set", "(LLilyWheels;I[J)I"⟩ : MethodName) method_17_code 4 (some .int) [(0, 9, 12, 13)] :: ri_LW) 4 [.ref C, .int P0, .ref o] σ o g (K + 20) C M 211 [.int P0] := by
  obtain ⟨v, rfl, v1, v2⟩ := na_of P0
  have hs : ∀ (z : Nat) (σ : ri_S), su_w K C M z σ → su_r Ks (K + 20) C M z 125 211 [.int (Int32.ofInt v)] σ ∨ su_x Ks (K + 20) C M 125 211 2 1 [.int (Int32.ofInt v)] σ := by
    rintro z σ ⟨V, PR, PZ, X, S, A, rfl, hr⟩
    exact su_set hCM hr hk v1 v2
  have hf := su_w_f hσ
  have ho := su_f_o hf hCM hMo
  have hH : TH2 125 ≤ 100 := by decide +kernel
  rcases hs _ _ hσ with h | h
  · exact su_C_r hCM hMo hH (by decide) h (fun v σ1 h1 ho1 => we_set h1 (su_f_C hf) ho hoz ho1)
  · exact su_C_x hf hH (by decide) (jv := 1) rfl (by decide) h (fun h1 => wn_set_2 hl h1 (su_f_C hf) ho hoz)
theorem wc_undo  (hCM : C + 324 ≤ M) (hMo : M + 9 ≤ o) (hoz : o < σ.2) (hl : l.stackTraces = false) (hKs : sk_ok Ks) (hσ : su_w K C M σ.2 σ) (hk : K + 20 + 400000 ≤ 1000000) : su_C Ks Kv Km D dT dL l (⟨"LilyWheelsLaw", "undo", "(LLilyWheels;[J)I"⟩ : MethodName) (Cond.codeWith (⟨"LilyWheelsLaw", "undo", "(LLilyWheels;[J)I"⟩ : MethodName) method_18_code 3 (some .int) [(0, 8, 11, 15)] :: ri_LW) 3 [.ref C, .ref o] σ o g (K + 20) C M 212 [] := by
  have hs : ∀ (z : Nat) (σ : ri_S), su_w K C M z σ → su_r Ks (K + 20) C M z 126 212 [] σ ∨ su_x Ks (K + 20) C M 126 212 3 1 [] σ := by
    rintro z σ ⟨V, PR, PZ, X, S, A, rfl, hr⟩
    exact su_undo hCM hr hk 
  have hf := su_w_f hσ
  have ho := su_f_o hf hCM hMo
  have hH : TH2 126 ≤ 100 := by decide +kernel
  rcases hs _ _ hσ with h | h
  · exact su_C_r hCM hMo hH (by decide) h (fun v σ1 h1 ho1 => we_undo h1 (su_f_C hf) ho hoz ho1)
  · exact su_C_x hf hH (by decide) (jv := 1) rfl (by decide) h (fun h1 => wn_undo_3 hl h1 (su_f_C hf) ho hoz)
theorem wc_why (P0 : Int32) (P1 : Int32) (hCM : C + 324 ≤ M) (hMo : M + 9 ≤ o) (hoz : o < σ.2) (hl : l.stackTraces = false) (hKs : sk_ok Ks) (hσ : su_w K C M σ.2 σ) (hk : K + 20 + 400000 ≤ 1000000) : su_C Ks Kv Km D dT dL l (⟨"LilyWheelsLaw", "why", "(LLilyWheels;II[J)I"⟩ : MethodName) (Cond.codeWith (⟨"LilyWheelsLaw", "why", "(LLilyWheels;II[J)I"⟩ : MethodName) method_19_code 5 (some .int) [(0, 10, 13, 28)] :: ri_LW) 5 [.ref C, .int P0, .int P1, .ref o] σ o g (K + 20) C M 213 [.int P0, .int P1] := by
  obtain ⟨f, rfl, f1, f2⟩ := na_of P0
  obtain ⟨l, rfl, l1, l2⟩ := na_of P1
  have hs : ∀ (z : Nat) (σ : ri_S), su_w K C M z σ → su_r Ks (K + 20) C M z 127 213 [.int (Int32.ofInt f), .int (Int32.ofInt l)] σ ∨ su_x Ks (K + 20) C M 127 213 1 1 [.int (Int32.ofInt f), .int (Int32.ofInt l)] σ := by
    rintro z σ ⟨V, PR, PZ, X, S, A, rfl, hr⟩
    exact su_why hCM hr hk f1 f2 l1 l2
  have hf := su_w_f hσ
  have ho := su_f_o hf hCM hMo
  have hH : TH2 127 ≤ 100 := by decide +kernel
  rcases hs _ _ hσ with h | h
  · exact su_C_r hCM hMo hH (by decide) h (fun v σ1 h1 ho1 => we_why h1 (su_f_C hf) ho hoz ho1)
  · exact su_C_x hf hH (by decide) (jv := 1) rfl (by decide) h (fun h1 => wn_why_1 hl h1 (su_f_C hf) ho hoz)
theorem wc_fewest (P0 : Int32) (P1 : Int32) (P2 : Int32) (P3 : Int32) (hCM : C + 324 ≤ M) (hMo : M + 9 ≤ o) (hoz : o < σ.2) (hl : l.stackTraces = false) (hKs : sk_ok Ks) (hσ : su_w K C M σ.2 σ) (hk : K + 20 + 400000 ≤ 1000000) : su_C Ks Kv Km D dT dL l (⟨"LilyWheelsLaw", "fewest", "(LLilyWheels;IIII[J)I"⟩ : MethodName) (Cond.codeWith (⟨"LilyWheelsLaw", "fewest", "(LLilyWheels;IIII[J)I"⟩ : MethodName) method_20_code 7 (some .int) [(0, 14, 17, 28), (0, 14, 21, 13)] :: ri_LW) 7 [.ref C, .int P0, .int P1, .int P2, .int P3, .ref o] σ o g (K + 20) C M 219 [.int P0, .int P1, .int P2, .int P3] := by
  obtain ⟨f, rfl, f1, f2⟩ := na_of P0
  obtain ⟨w, rfl, w1, w2⟩ := na_of P1
  obtain ⟨p, rfl, p1, p2⟩ := na_of P2
  obtain ⟨y, rfl, y1, y2⟩ := na_of P3
  have hs : ∀ (z : Nat) (σ : ri_S), su_w K C M z σ → su_r Ks (K + 20) C M z 128 219 [.int (Int32.ofInt f), .int (Int32.ofInt w), .int (Int32.ofInt p), .int (Int32.ofInt y)] σ ∨ su_x Ks (K + 20) C M 128 219 1 1 [.int (Int32.ofInt f), .int (Int32.ofInt w), .int (Int32.ofInt p), .int (Int32.ofInt y)] σ ∨ su_x Ks (K + 20) C M 128 219 2 2 [.int (Int32.ofInt f), .int (Int32.ofInt w), .int (Int32.ofInt p), .int (Int32.ofInt y)] σ := by
    rintro z σ ⟨V, PR, PZ, X, S, A, rfl, hr⟩
    exact su_fewest hCM hr hk f1 f2 w1 w2 p1 p2 y1 y2
  have hf := su_w_f hσ
  have ho := su_f_o hf hCM hMo
  have hH : TH2 128 ≤ 100 := by decide +kernel
  rcases hs _ _ hσ with h | h | h
  · exact su_C_r hCM hMo hH (by decide) h (fun v σ1 h1 ho1 => we_fewest h1 (su_f_C hf) ho hoz ho1)
  · exact su_C_x hf hH (by decide) (jv := 1) rfl (by decide) h (fun h1 => wn_fewest_1 hl h1 (su_f_C hf) ho hoz)
  · exact su_C_x hf hH (by decide) (jv := 2) rfl (by decide) h (fun h1 => wn_fewest_2 hl h1 (su_f_C hf) ho hoz)
theorem wc_couldBe (P0 : Int32) (P1 : Int32) (hCM : C + 324 ≤ M) (hMo : M + 9 ≤ o) (hoz : o < σ.2) (hl : l.stackTraces = false) (hKs : sk_ok Ks) (hσ : su_w K C M σ.2 σ) (hk : K + 20 + 400000 ≤ 1000000) : su_C Ks Kv Km D dT dL l (⟨"LilyWheelsLaw", "couldBe", "(LLilyWheels;II[J)I"⟩ : MethodName) (Cond.codeWith (⟨"LilyWheelsLaw", "couldBe", "(LLilyWheels;II[J)I"⟩ : MethodName) method_21_code 5 (some .int) [(0, 10, 13, 28)] :: ri_LW) 5 [.ref C, .int P0, .int P1, .ref o] σ o g (K + 20) C M 220 [.int P0, .int P1] := by
  obtain ⟨f, rfl, f1, f2⟩ := na_of P0
  obtain ⟨w, rfl, w1, w2⟩ := na_of P1
  have hs : ∀ (z : Nat) (σ : ri_S), su_w K C M z σ → su_r Ks (K + 20) C M z 129 220 [.int (Int32.ofInt f), .int (Int32.ofInt w)] σ ∨ su_x Ks (K + 20) C M 129 220 1 1 [.int (Int32.ofInt f), .int (Int32.ofInt w)] σ := by
    rintro z σ ⟨V, PR, PZ, X, S, A, rfl, hr⟩
    exact su_couldBe hCM hr hk f1 f2 w1 w2
  have hf := su_w_f hσ
  have ho := su_f_o hf hCM hMo
  have hH : TH2 129 ≤ 100 := by decide +kernel
  rcases hs _ _ hσ with h | h
  · exact su_C_r hCM hMo hH (by decide) h (fun v σ1 h1 ho1 => we_couldBe h1 (su_f_C hf) ho hoz ho1)
  · exact su_C_x hf hH (by decide) (jv := 1) rfl (by decide) h (fun h1 => wn_couldBe_1 hl h1 (su_f_C hf) ho hoz)
theorem wc_mostFlies (P0 : Int32) (P1 : Int32) (hCM : C + 324 ≤ M) (hMo : M + 9 ≤ o) (hoz : o < σ.2) (hl : l.stackTraces = false) (hKs : sk_ok Ks) (hσ : su_w K C M σ.2 σ) (hk : K + 20 + 400000 ≤ 1000000) : su_C Ks Kv Km D dT dL l (⟨"LilyWheelsLaw", "mostFlies", "(LLilyWheels;II[J)I"⟩ : MethodName) (Cond.codeWith (⟨"LilyWheelsLaw", "mostFlies", "(LLilyWheels;II[J)I"⟩ : MethodName) method_22_code 5 (some .int) [(0, 10, 13, 28), (0, 10, 17, 13)] :: ri_LW) 5 [.ref C, .int P0, .int P1, .ref o] σ o g (K + 20) C M 221 [.int P0, .int P1] := by
  obtain ⟨f, rfl, f1, f2⟩ := na_of P0
  obtain ⟨n, rfl, n1, n2⟩ := na_of P1
  have hs : ∀ (z : Nat) (σ : ri_S), su_w K C M z σ → su_r Ks (K + 20) C M z 130 221 [.int (Int32.ofInt f), .int (Int32.ofInt n)] σ ∨ su_x Ks (K + 20) C M 130 221 1 1 [.int (Int32.ofInt f), .int (Int32.ofInt n)] σ ∨ su_x Ks (K + 20) C M 130 221 2 2 [.int (Int32.ofInt f), .int (Int32.ofInt n)] σ := by
    rintro z σ ⟨V, PR, PZ, X, S, A, rfl, hr⟩
    exact su_mostFlies hCM hr hk f1 f2 n1 n2
  have hf := su_w_f hσ
  have ho := su_f_o hf hCM hMo
  have hH : TH2 130 ≤ 100 := by decide +kernel
  rcases hs _ _ hσ with h | h | h
  · exact su_C_r hCM hMo hH (by decide) h (fun v σ1 h1 ho1 => we_mostFlies h1 (su_f_C hf) ho hoz ho1)
  · exact su_C_x hf hH (by decide) (jv := 1) rfl (by decide) h (fun h1 => wn_mostFlies_1 hl h1 (su_f_C hf) ho hoz)
  · exact su_C_x hf hH (by decide) (jv := 2) rfl (by decide) h (fun h1 => wn_mostFlies_2 hl h1 (su_f_C hf) ho hoz)
theorem wc_runScript (P0 : Int32) (P1 : Int64) (hCM : C + 324 ≤ M) (hMo : M + 9 ≤ o) (hoz : o < σ.2) (hl : l.stackTraces = false) (hKs : sk_ok Ks) (hσ : su_w K C M σ.2 σ) (hk : K + 20 + 400000 ≤ 1000000) : su_C Ks Kv Km D dT dL l (⟨"LilyWheelsLaw", "runScript", "(LLilyWheels;IJ[J)I"⟩ : MethodName) (Cond.codeWith (⟨"LilyWheelsLaw", "runScript", "(LLilyWheels;IJ[J)I"⟩ : MethodName) method_23_code 6 (some .int) [(0, 11, 14, 13)] :: ri_LW) 6 [.ref C, .int P0, .long P1, .ref o] σ o g (K + 20) C M 223 [.int P0, .long P1] := by
  obtain ⟨n, rfl, n1, n2⟩ := na_of P0
  obtain ⟨a, rfl, a1, a2⟩ : ∃ a : Int, P1 = Int64.ofInt a ∧ -9223372036854775808 ≤ a ∧ a < 9223372036854775808 := ⟨P1.toInt, (Int64.ofInt_toInt P1).symm, by simpa using P1.le_toInt, by simpa using P1.toInt_lt⟩
  have hs : ∀ (z : Nat) (σ : ri_S), su_w K C M z σ → su_r Ks (K + 20) C M z 131 223 [.int (Int32.ofInt n), .long (Int64.ofInt a)] σ ∨ su_x Ks (K + 20) C M 131 223 2 1 [.int (Int32.ofInt n), .long (Int64.ofInt a)] σ := by
    rintro z σ ⟨V, PR, PZ, X, S, A, rfl, hr⟩
    exact su_runScript hCM hr hk n1 n2 a1 a2
  have hf := su_w_f hσ
  have ho := su_f_o hf hCM hMo
  have hH : TH2 131 ≤ 100 := by decide +kernel
  rcases hs _ _ hσ with h | h
  · exact su_C_r hCM hMo hH (by decide) h (fun v σ1 h1 ho1 => we_runScript h1 (su_f_C hf) ho hoz ho1)
  · exact su_C_x hf hH (by decide) (jv := 1) rfl (by decide) h (fun h1 => wn_runScript_2 hl h1 (su_f_C hf) ho hoz)
theorem wc_simulate (P0 : Int64) (P1 : Int32) (hCM : C + 324 ≤ M) (hMo : M + 9 ≤ o) (hoz : o < σ.2) (hl : l.stackTraces = false) (hKs : sk_ok Ks) (hσ : su_w K C M σ.2 σ) (hk : K + 20 + 400000 ≤ 1000000) : su_C Ks Kv Km D dT dL l (⟨"LilyWheelsLaw", "simulate", "(LLilyWheels;JI[J)I"⟩ : MethodName) (Cond.codeWith (⟨"LilyWheelsLaw", "simulate", "(LLilyWheels;JI[J)I"⟩ : MethodName) method_24_code 6 (some .int) [(0, 11, 14, 13)] :: ri_LW) 6 [.ref C, .long P0, .int P1, .ref o] σ o g (K + 20) C M 226 [.long P0, .int P1] := by
  obtain ⟨m, rfl, m1, m2⟩ := na_of P1
  have hs : ∀ (z : Nat) (σ : ri_S), su_w K C M z σ → su_r Ks (K + 20) C M z 132 226 [.long P0, .int (Int32.ofInt m)] σ ∨ su_x Ks (K + 20) C M 132 226 2 1 [.long P0, .int (Int32.ofInt m)] σ := by
    rintro z σ ⟨V, PR, PZ, X, S, A, rfl, hr⟩
    exact su_simulate hCM hr hk m1 m2
  have hf := su_w_f hσ
  have ho := su_f_o hf hCM hMo
  have hH : TH2 132 ≤ 100 := by decide +kernel
  rcases hs _ _ hσ with h | h
  · exact su_C_r hCM hMo hH (by decide) h (fun v σ1 h1 ho1 => we_simulate h1 (su_f_C hf) ho hoz ho1)
  · exact su_C_x hf hH (by decide) (jv := 1) rfl (by decide) h (fun h1 => wn_simulate_2 hl h1 (su_f_C hf) ho hoz)
theorem wc_save (P0 : Int32) (hCM : C + 324 ≤ M) (hMo : M + 9 ≤ o) (hoz : o < σ.2) (hl : l.stackTraces = false) (hKs : sk_ok Ks) (hσ : su_w K C M σ.2 σ) (hk : K + 20 + 400000 ≤ 1000000) : su_C Ks Kv Km D dT dL l (⟨"LilyWheelsLaw", "save", "(LLilyWheels;I[J)I"⟩ : MethodName) (Cond.codeWith (⟨"LilyWheelsLaw", "save", "(LLilyWheels;I[J)I"⟩ : MethodName) method_25_code 4 (some .int) [(0, 9, 12, 28)] :: ri_LW) 4 [.ref C, .int P0, .ref o] σ o g (K + 20) C M 227 [.int P0] := by
  obtain ⟨x, rfl, x1, x2⟩ := na_of P0
  have hs : ∀ (z : Nat) (σ : ri_S), su_w K C M z σ → su_r Ks (K + 20) C M z 133 227 [.int (Int32.ofInt x)] σ ∨ su_x Ks (K + 20) C M 133 227 1 1 [.int (Int32.ofInt x)] σ := by
    rintro z σ ⟨V, PR, PZ, X, S, A, rfl, hr⟩
    exact su_save hCM hr hk x1 x2
  have hf := su_w_f hσ
  have ho := su_f_o hf hCM hMo
  have hH : TH2 133 ≤ 100 := by decide +kernel
  rcases hs _ _ hσ with h | h
  · exact su_C_r hCM hMo hH (by decide) h (fun v σ1 h1 ho1 => we_save h1 (su_f_C hf) ho hoz ho1)
  · exact su_C_x hf hH (by decide) (jv := 1) rfl (by decide) h (fun h1 => wn_save_1 hl h1 (su_f_C hf) ho hoz)
theorem wc_restore (P0 : Int32) (hCM : C + 324 ≤ M) (hMo : M + 9 ≤ o) (hoz : o < σ.2) (hl : l.stackTraces = false) (hKs : sk_ok Ks) (hσ : su_w K C M σ.2 σ) (hk : K + 20 + 400000 ≤ 1000000) : su_C Ks Kv Km D dT dL l (⟨"LilyWheelsLaw", "restore", "(LLilyWheels;I[J)I"⟩ : MethodName) (Cond.codeWith (⟨"LilyWheelsLaw", "restore", "(LLilyWheels;I[J)I"⟩ : MethodName) method_26_code 4 (some .int) [(0, 9, 12, 28), (0, 9, 15, 15)] :: ri_LW) 4 [.ref C, .int P0, .ref o] σ o g (K + 20) C M 228 [.int P0] := by
  obtain ⟨x, rfl, x1, x2⟩ := na_of P0
  have hs : ∀ (z : Nat) (σ : ri_S), su_w K C M z σ → su_r Ks (K + 20) C M z 134 228 [.int (Int32.ofInt x)] σ ∨ su_x Ks (K + 20) C M 134 228 1 1 [.int (Int32.ofInt x)] σ ∨ su_x Ks (K + 20) C M 134 228 3 2 [.int (Int32.ofInt x)] σ := by
    rintro z σ ⟨V, PR, PZ, X, S, A, rfl, hr⟩
    exact su_restore hCM hr hk x1 x2
  have hf := su_w_f hσ
  have ho := su_f_o hf hCM hMo
  have hH : TH2 134 ≤ 100 := by decide +kernel
  rcases hs _ _ hσ with h | h | h
  · exact su_C_r hCM hMo hH (by decide) h (fun v σ1 h1 ho1 => we_restore h1 (su_f_C hf) ho hoz ho1)
  · exact su_C_x hf hH (by decide) (jv := 1) rfl (by decide) h (fun h1 => wn_restore_1 hl h1 (su_f_C hf) ho hoz)
  · exact su_C_x hf hH (by decide) (jv := 2) rfl (by decide) h (fun h1 => wn_restore_3 hl h1 (su_f_C hf) ho hoz)
end LX
