/-! Every entry of the table is the machine's. -/
section RJMK
variable {Ex : (Nat → Prop) → State → Heap → Prop} {D : va_G} {dT : Nat → ClassId}
theorem gd_out {α : Type} {l : List α} {k : Nat} {d : α} (h : l.length ≤ k) : l.getD k d = d := by
  simp [List.getD, List.getElem?_eq_none h]
theorem tl_out {k : Nat} (h : 230 ≤ k) : TLs k = [] := gd_out h
def rf_ok (Ex : (Nat → Prop) → State → Heap → Prop) (D : va_G) (dT : Nat → ClassId) (k : Nat) (q : Nat × ri_C) : Prop := rj_eok ri_LW vwCl RX3 Ex D dT TN TB TM TH TR k q.1 q.2 ∧ (∀ op, q.2 = .inl op → ri_gr op)
theorem re_ok.f {k : Nat} {q : Nat × ri_C} (h : re_ok Ex D dT k q) : rf_ok Ex D dT k q := ⟨h.1.j, h.2⟩
def ra_ok (Ex : (Nat → Prop) → State → Heap → Prop) (D : va_G) (dT : Nat → ClassId) : Nat → List (List (Nat × ri_C)) → Prop
  | _, [] => True
  | k, x :: l => (∀ q ∈ x, re_ok Ex D dT k q) ∧ ra_ok Ex D dT (k + 1) l
theorem ra_get : ∀ (l : List (List (Nat × ri_C))) (i k : Nat), ra_ok Ex D dT i l → ∀ q ∈ l.getD k [], re_ok Ex D dT (i + k) q
  | [], i, k, _, q, hq => by simp at hq
  | x :: l, i, 0, h, q, hq => h.1 q hq
  | x :: l, i, k + 1, h, q, hq => by
    have := ra_get l (i + 1) k h.2 q hq
    rwa [show i + 1 + k = i + (k + 1) by omega] at this
theorem ra_0 : ∀ l, ra_ok Ex D dT 23 l → ra_ok Ex D dT 0 (TL_0 :: TL_1 :: TL_2 :: TL_3 :: TL_4 :: TL_5 :: TL_6 :: TL_7 :: TL_8 :: TL_9 :: TL_10 :: TL_11 :: TL_12 :: TL_13 :: TL_14 :: TL_15 :: TL_16 :: TL_17 :: TL_18 :: TL_19 :: TL_20 :: TL_21 :: TL_22 :: l) := fun l h => ⟨mk_0, mk_1, mk_2, mk_3, mk_4, mk_5, mk_6, mk_7, mk_8, mk_9, mk_10, mk_11, mk_12, mk_13, mk_14, mk_15, mk_16, mk_17, mk_18, mk_19, mk_20, mk_21, mk_22, h⟩
theorem ra_23 : ∀ l, ra_ok Ex D dT 46 l → ra_ok Ex D dT 23 (TL_23 :: TL_24 :: TL_25 :: TL_26 :: TL_27 :: TL_28 :: TL_29 :: TL_30 :: TL_31 :: TL_32 :: TL_33 :: TL_34 :: TL_35 :: TL_36 :: TL_37 :: TL_38 :: TL_39 :: TL_40 :: TL_41 :: TL_42 :: TL_43 :: TL_44 :: TL_45 :: l) := fun l h => ⟨mk_23, mk_24, mk_25, mk_26, mk_27, mk_28, mk_29, mk_30, mk_31, mk_32, mk_33, mk_34, mk_35, mk_36, mk_37, mk_38, mk_39, mk_40, mk_41, mk_42, mk_43, mk_44, mk_45, h⟩
theorem ra_46 : ∀ l, ra_ok Ex D dT 69 l → ra_ok Ex D dT 46 (TL_46 :: TL_47 :: TL_48 :: TL_49 :: TL_50 :: TL_51 :: TL_52 :: TL_53 :: TL_54 :: TL_55 :: TL_56 :: TL_57 :: TL_58 :: TL_59 :: TL_60 :: TL_61 :: TL_62 :: TL_63 :: TL_64 :: TL_65 :: TL_66 :: TL_67 :: TL_68 :: l) := fun l h => ⟨mk_46, mk_47, mk_48, mk_49, mk_50, mk_51, mk_52, mk_53, mk_54, mk_55, mk_56, mk_57, mk_58, mk_59, mk_60, mk_61, mk_62, mk_63, mk_64, mk_65, mk_66, mk_67, mk_68, h⟩
theorem ra_69 : ∀ l, ra_ok Ex D dT 92 l → ra_ok Ex D dT 69 (TL_69 :: TL_70 :: TL_71 :: TL_72 :: TL_73 :: TL_74 :: TL_75 :: TL_76 :: TL_77 :: TL_78 :: TL_79 :: TL_80 :: TL_81 :: TL_82 :: TL_83 :: TL_84 :: TL_85 :: TL_86 :: TL_87 :: TL_88 :: [] :: TL_90 :: TL_91 :: l) := fun l h => ⟨mk_69, mk_70, mk_71, mk_72, mk_73, mk_74, mk_75, mk_76, mk_77, mk_78, mk_79, mk_80, mk_81, mk_82, mk_83, mk_84, mk_85, mk_86, mk_87, mk_88, re_n, mk_90, mk_91, h⟩
theorem ra_92 : ∀ l, ra_ok Ex D dT 115 l → ra_ok Ex D dT 92 (TL_92 :: TL_93 :: TL_94 :: TL_95 :: TL_96 :: TL_97 :: TL_98 :: TL_99 :: TL_100 :: TL_101 :: TL_102 :: TL_103 :: TL_104 :: TL_105 :: TL_106 :: TL_107 :: TL_108 :: TL_109 :: [] :: [] :: TL_112 :: TL_113 :: TL_114 :: l) := fun l h => ⟨mk_92, mk_93, mk_94, mk_95, mk_96, mk_97, mk_98, mk_99, mk_100, mk_101, mk_102, mk_103, mk_104, mk_105, mk_106, mk_107, mk_108, mk_109, re_n, re_n, mk_112, mk_113, mk_114, h⟩
theorem ra_115 : ∀ l, ra_ok Ex D dT 138 l → ra_ok Ex D dT 115 (TL_115 :: TL_116 :: TL_117 :: TL_118 :: TL_119 :: TL_120 :: TL_121 :: TL_122 :: TL_123 :: TL_124 :: TL_125 :: TL_126 :: TL_127 :: TL_128 :: TL_129 :: TL_130 :: TL_131 :: TL_132 :: TL_133 :: TL_134 :: TL_135 :: TL_136 :: TL_137 :: l) := fun l h => ⟨mk_115, mk_116, mk_117, mk_118, mk_119, mk_120, mk_121, mk_122, mk_123, mk_124, mk_125, mk_126, mk_127, mk_128, mk_129, mk_130, mk_131, mk_132, mk_133, mk_134, mk_135, mk_136, mk_137, h⟩
theorem ra_138 : ∀ l, ra_ok Ex D dT 161 l → ra_ok Ex D dT 138 (TL_138 :: TL_139 :: TL_140 :: TL_141 :: TL_142 :: [] :: [] :: [] :: [] :: [] :: [] :: [] :: [] :: [] :: [] :: [] :: [] :: [] :: [] :: [] :: [] :: [] :: [] :: l) := fun l h => ⟨mk_138, mk_139, mk_140, mk_141, mk_142, re_n, re_n, re_n, re_n, re_n, re_n, re_n, re_n, re_n, re_n, re_n, re_n, re_n, re_n, re_n, re_n, re_n, re_n, h⟩
theorem ra_161 : ∀ l, ra_ok Ex D dT 184 l → ra_ok Ex D dT 161 ([] :: [] :: [] :: [] :: [] :: [] :: [] :: [] :: [] :: [] :: [] :: [] :: [] :: [] :: [] :: [] :: [] :: [] :: [] :: [] :: [] :: [] :: [] :: l) := fun l h => ⟨re_n, re_n, re_n, re_n, re_n, re_n, re_n, re_n, re_n, re_n, re_n, re_n, re_n, re_n, re_n, re_n, re_n, re_n, re_n, re_n, re_n, re_n, re_n, h⟩
theorem ra_184 : ∀ l, ra_ok Ex D dT 207 l → ra_ok Ex D dT 184 ([] :: [] :: [] :: [] :: [] :: [] :: [] :: [] :: [] :: [] :: [] :: [] :: [] :: [] :: [] :: [] :: [] :: [] :: [] :: [] :: [] :: [] :: [] :: l) := fun l h => ⟨re_n, re_n, re_n, re_n, re_n, re_n, re_n, re_n, re_n, re_n, re_n, re_n, re_n, re_n, re_n, re_n, re_n, re_n, re_n, re_n, re_n, re_n, re_n, h⟩
theorem ra_207 : ∀ l, ra_ok Ex D dT 230 l → ra_ok Ex D dT 207 ([] :: [] :: [] :: [] :: [] :: [] :: [] :: [] :: [] :: [] :: [] :: [] :: [] :: [] :: [] :: [] :: [] :: [] :: [] :: [] :: [] :: [] :: TL_229 :: l) := fun l h => ⟨re_n, re_n, re_n, re_n, re_n, re_n, re_n, re_n, re_n, re_n, re_n, re_n, re_n, re_n, re_n, re_n, re_n, re_n, re_n, re_n, re_n, re_n, mk_229, h⟩
theorem ra_all : ∀ (k : Nat), ∀ q ∈ TLs k, re_ok Ex D dT k q := fun k q hq => by
  have h : ra_ok Ex D dT 0 [TL_0, TL_1, TL_2, TL_3, TL_4, TL_5, TL_6, TL_7, TL_8, TL_9, TL_10, TL_11, TL_12, TL_13, TL_14, TL_15, TL_16, TL_17, TL_18, TL_19, TL_20, TL_21, TL_22, TL_23, TL_24, TL_25, TL_26, TL_27, TL_28, TL_29, TL_30, TL_31, TL_32, TL_33, TL_34, TL_35, TL_36, TL_37, TL_38, TL_39, TL_40, TL_41, TL_42, TL_43, TL_44, TL_45, TL_46, TL_47, TL_48, TL_49, TL_50, TL_51, TL_52, TL_53, TL_54, TL_55, TL_56, TL_57, TL_58, TL_59, TL_60, TL_61, TL_62, TL_63, TL_64, TL_65, TL_66, TL_67, TL_68, TL_69, TL_70, TL_71, TL_72, TL_73, TL_74, TL_75, TL_76, TL_77, TL_78, TL_79, TL_80, TL_81, TL_82, TL_83, TL_84, TL_85, TL_86, TL_87, TL_88, [], TL_90, TL_91, TL_92, TL_93, TL_94, TL_95, TL_96, TL_97, TL_98, TL_99, TL_100, TL_101, TL_102, TL_103, TL_104, TL_105, TL_106, TL_107, TL_108, TL_109, [], [], TL_112, TL_113, TL_114, TL_115, TL_116, TL_117, TL_118, TL_119, TL_120, TL_121, TL_122, TL_123, TL_124, TL_125, TL_126, TL_127, TL_128, TL_129, TL_130, TL_131, TL_132, TL_133, TL_134, TL_135, TL_136, TL_137, TL_138, TL_139, TL_140, TL_141, TL_142, [], [], [], [], [], [], [], [], [], [], [], [], [], [], [], [], [], [], [], [], [], [], [], [], [], [], [], [], [], [], [], [], [], [], [], [], [], [], [], [], [], [], [], [], [], [], [], [], [], [], [], [], [], [], [], [], [], [], [], [], [], [], [], [], [], [], [], [], [], [], [], [], [], [], [], [], [], [], [], [], [], [], [], [], [], [], TL_229] := ra_0 _ (ra_23 _ (ra_46 _ (ra_69 _ (ra_92 _ (ra_115 _ (ra_138 _ (ra_161 _ (ra_184 _ (ra_207 _ (trivial))))))))))
  have := ra_get _ 0 k h q hq
  rwa [Nat.zero_add] at this
theorem rx_all : ∀ (k : Nat), ∀ q ∈ TLs k, rf_ok Ex D dT k q := fun k q hq => (ra_all k q hq).f
theorem rf_mem2 {pc : Nat} {x : ri_C} : ∀ (l : List (Nat × ri_C)), ri_find l pc = some x → (pc, x) ∈ l
  | [], h => by simp [ri_find] at h
  | q :: l, h => by
    unfold ri_find at h
    by_cases e : Nat.beq q.1 pc = true
    · rw [if_pos e] at h
      have h1 := Nat.eq_of_beq_eq_true e
      have h2 := Option.some.inj h
      rw [← h1, ← h2]
      exact List.mem_cons_self
    · rw [if_neg e] at h
      exact List.mem_cons_of_mem _ (rf_mem2 l h)
theorem rx_gok (Ex : (Nat → Prop) → State → Heap → Prop) (D : va_G) (dT : Nat → ClassId) : ri_gok TT := fun k pc op h => (rx_all (Ex := Ex) (D := D) (dT := dT) k _ (rf_mem2 _ h)).2 op rfl
theorem rx_head : ∀ k, k < 230 → (TLs k = [] ∨ plainName (TN k).cls = true) ∧ TM k ≤ 40 := by
  intro k hk
  have h1 : ∀ k, k < 230 → ((TLs k).isEmpty = true ∨ plainName (TN k).cls = true) ∧ TM k ≤ 40 := by decide +kernel
  exact ⟨(h1 k hk).1.imp (fun e => List.isEmpty_iff.mp e) id, (h1 k hk).2⟩
theorem rx_k {k pc : Nat} {x : ri_C} (h : TT k pc = some x) : k < 230 := by
  refine Nat.lt_of_not_le fun a => ?_
  have h1 := rf_mem2 _ h
  rw [tl_out a] at h1
  cases h1
theorem rx_ne {k pc : Nat} {x : ri_C} (h : TT k pc = some x) : plainName (TN k).cls = true := by
  rcases (rx_head k (rx_k h)).1 with e | e
  · have h1 := rf_mem2 _ h
    rw [e] at h1
    cases h1
  · exact e
theorem rx_mok : ∀ k, (∃ pc x, TT k pc = some x) → rj_mok ri_LW vwCl RX3 Ex D dT TT TN TB TM TH TR k := by
  rintro k ⟨pc, x, h⟩
  exact ⟨rx_ne h, (rx_head k (rx_k h)).2, fun pc x h => (rx_all k _ (rf_mem2 _ h)).1⟩
end RJMK
