section RIMK
variable {Ex : (Nat → Prop) → State → Heap → Prop} {D : va_G} {dT : Nat → ClassId}
theorem mk_40 : ∀ q ∈ TL_40, re_ok Ex D dT 40 q :=
  re_a (re_p (ro_aload_n (by decide +kernel) rfl)) <|
  re_a (re_h (gf_X3_21 (by decide +kernel)) (rg_getf _ _)) <|
  re_a (re_p (ro_iload_n (by decide +kernel) rfl)) <|
  re_a (re_p (ro_aload_n (by decide +kernel) rfl)) <|
  re_a (re_p (ro_iload_n (by decide +kernel) rfl)) <|
  re_a (re_c (ck_X3_158 (by decide +kernel))) <|
  re_a (re_c (ck_X3_162 (by decide +kernel))) <|
  re_a (re_p (ro_istore_n (by decide +kernel) rfl (by decide +kernel))) <|
  re_a (re_p (ro_iload_n (by decide +kernel) rfl)) <|
  re_a (re_p (ro_iconst (by decide +kernel) (by decide +kernel))) <|
  re_a (re_p (ro_icmp_ne (by decide +kernel) (by decide +kernel))) <|
  re_a (re_p (ro_iconst (by decide +kernel) (by decide +kernel))) <|
  re_a (re_p (ro_goto (by decide +kernel) (by decide +kernel))) <|
  re_a (re_p (ro_aload_n (by decide +kernel) rfl)) <|
  re_a (re_p (ro_iload_n (by decide +kernel) rfl)) <|
  re_a (re_p (ro_iload_n (by decide +kernel) rfl)) <|
  re_a (re_c (ck_X3_165 (by decide +kernel))) <|
  re_a (re_r ⟨(by decide +kernel), rfl⟩) <|
  re_n
theorem mk_41_0 : ∀ q ∈ ([(0, .inl (ri_pu (ri_aload 0 1))), (1, .inl (ri_pu (ri_iload 1 1))), (2, .inl (ri_pu (ri_iload 2 1))), (3, .inr (.inl (27, 3, some 3))), (6, .inl (ri_pu (ri_if (fun x => decide (x = 0)) 11))), (9, .inl (ri_pu (ri_icon (-1) 1))), (10, .inr (.inr 1)), (11, .inl (ri_pu (ri_aload 0 1))), (12, .inl (ri_pu (ri_iload 1 1))), (13, .inl (ri_pu (ri_iload 2 1))), (14, .inr (.inl (40, 3, some 3))), (17, .inl (ri_pu (ri_istore 3 1))), (18, .inl (ri_pu (ri_iload 3 1))), (19, .inl (ri_pu (ri_if (fun x => decide (¬ x = 0)) 92))), (22, .inl (ri_pu (ri_aload 0 1))), (23, .inl (ri_getf 3 2)), (26, .inl (ri_getf 0 2)), (29, .inl (ri_pu (ri_iload 1 1))), (30, .inr (.inl (140, 2, none))), (33, .inl (ri_pu (ri_istore 4 2))), (35, .inl (ri_pu (ri_aload 0 1))), (36, .inl (ri_pu (ri_iload 1 1))), (37, .inl (ri_pu (ri_aload 0 1))), (38, .inl (ri_getf 3 1)), (41, .inl (ri_pu (ri_iload 2 1))), (42, .inl (ri_pu (ri_aload 0 1))), (43, .inl (ri_pu (ri_iload 1 1))), (44, .inr (.inl (38, 2, some 3))), (47, .inr (.inl (16, 3, some 2))), (50, .inr (.inl (43, 3, some 3))), (53, .inl (ri_pu (ri_aload 0 1))), (54, .inl (ri_getf 3 2)), (57, .inl (ri_pu (ri_iload 4 2))), (59, .inl (ri_pu (ri_icon (-1) 1))), (60, .inr (.inl (5, 3, some 0))), (63, .inl (ri_pu (ri_aload 0 1))), (64, .inl (ri_getf 3 0)), (67, .inl (ri_getf 7 3)), (70, .inl (ri_pu (ri_iload 4 2))), (72, .inr (.inl (140, 2, none)))] : List (Nat × ri_C)), re_ok Ex D dT 41 q :=
  re_a (re_p (ro_aload_n (by decide +kernel) rfl)) <|
  re_a (re_p (ro_iload_n (by decide +kernel) rfl)) <|
  re_a (re_p (ro_iload_n (by decide +kernel) rfl)) <|
  re_a (re_c (ck_X3_168 (by decide +kernel))) <|
  re_a (re_p (ro_if_eq (by decide +kernel) (by decide +kernel))) <|
  re_a (re_p (ro_iconst (by decide +kernel) (by decide +kernel))) <|
  re_a (re_r ⟨(by decide +kernel), rfl⟩) <|
  re_a (re_p (ro_aload_n (by decide +kernel) rfl)) <|
  re_a (re_p (ro_iload_n (by decide +kernel) rfl)) <|
  re_a (re_p (ro_iload_n (by decide +kernel) rfl)) <|
  re_a (re_c (ck_X3_171 (by decide +kernel))) <|
  re_a (re_p (ro_istore_n (by decide +kernel) rfl (by decide +kernel))) <|
  re_a (re_p (ro_iload_n (by decide +kernel) rfl)) <|
  re_a (re_p (ro_if_ne (by decide +kernel) (by decide +kernel))) <|
  re_a (re_p (ro_aload_n (by decide +kernel) rfl)) <|
  re_a (re_h (gf_X3_28 (by decide +kernel)) (rg_getf _ _)) <|
  re_a (re_h (gf_X3_149 (by decide +kernel)) (rg_getf _ _)) <|
  re_a (re_p (ro_iload_n (by decide +kernel) rfl)) <|
  re_a (re_c (ck_X3_123 (by decide +kernel))) <|
  re_a (re_p (ro_istore (by decide +kernel) (by decide +kernel))) <|
  re_a (re_p (ro_aload_n (by decide +kernel) rfl)) <|
  re_a (re_p (ro_iload_n (by decide +kernel) rfl)) <|
  re_a (re_p (ro_aload_n (by decide +kernel) rfl)) <|
  re_a (re_h (gf_X3_21 (by decide +kernel)) (rg_getf _ _)) <|
  re_a (re_p (ro_iload_n (by decide +kernel) rfl)) <|
  re_a (re_p (ro_aload_n (by decide +kernel) rfl)) <|
  re_a (re_p (ro_iload_n (by decide +kernel) rfl)) <|
  re_a (re_c (ck_X3_158 (by decide +kernel))) <|
  re_a (re_c (ck_X3_162 (by decide +kernel))) <|
  re_a (re_c (ck_X3_174 (by decide +kernel))) <|
  re_a (re_p (ro_aload_n (by decide +kernel) rfl)) <|
  re_a (re_h (gf_X3_28 (by decide +kernel)) (rg_getf _ _)) <|
  re_a (re_p (ro_iload (by decide +kernel))) <|
  re_a (re_p (ro_iconst (by decide +kernel) (by decide +kernel))) <|
  re_a (re_c (ck_X3_177 (by decide +kernel))) <|
  re_a (re_p (ro_aload_n (by decide +kernel) rfl)) <|
  re_a (re_h (gf_X3_12 (by decide +kernel)) (rg_getf _ _)) <|
  re_a (re_h (gf_X3_180 (by decide +kernel)) (rg_getf _ _)) <|
  re_a (re_p (ro_iload (by decide +kernel))) <|
  re_a (re_c (ck_X3_123 (by decide +kernel))) <|
  re_n
theorem mk_41_1 : ∀ q ∈ ([(75, .inl (ri_pu (ri_icmp (fun x y => decide (y < x)) 87))), (78, .inl (ri_pu (ri_aload 0 1))), (79, .inl (ri_getf 3 0)), (82, .inl (ri_pu (ri_iload 4 2))), (84, .inr (.inl (103, 2, some 7))), (87, .inl (ri_pu (ri_aload 0 1))), (88, .inl (ri_pu (ri_iload 1 1))), (89, .inr (.inl (44, 2, some 3))), (92, .inl (ri_pu (ri_iload 3 1))), (93, .inr (.inr 1))] : List (Nat × ri_C)), re_ok Ex D dT 41 q :=
  re_a (re_p (ro_icmp_gt (by decide +kernel) (by decide +kernel))) <|
  re_a (re_p (ro_aload_n (by decide +kernel) rfl)) <|
  re_a (re_h (gf_X3_12 (by decide +kernel)) (rg_getf _ _)) <|
  re_a (re_p (ro_iload (by decide +kernel))) <|
  re_a (re_c (ck_X3_183 (by decide +kernel))) <|
  re_a (re_p (ro_aload_n (by decide +kernel) rfl)) <|
  re_a (re_p (ro_iload_n (by decide +kernel) rfl)) <|
  re_a (re_c (ck_X3_187 (by decide +kernel))) <|
  re_a (re_p (ro_iload_n (by decide +kernel) rfl)) <|
  re_a (re_r ⟨(by decide +kernel), rfl⟩) <|
  re_n
theorem mk_41 : ∀ q ∈ TL_41, re_ok Ex D dT 41 q := re_m mk_41_0 (mk_41_1)
theorem mk_42_0 : ∀ q ∈ ([(0, .inl (ri_pu (ri_aload 0 1))), (1, .inl (ri_pu (ri_iload 1 1))), (2, .inl (ri_pu (ri_iload 2 1))), (3, .inr (.inl (28, 3, some 3))), (6, .inl (ri_pu (ri_if (fun x => decide (x = 0)) 11))), (9, .inl (ri_pu (ri_icon (-1) 1))), (10, .inr (.inr 1)), (11, .inl (ri_pu (ri_aload 0 1))), (12, .inl (ri_getf 3 2)), (15, .inl (ri_getf 0 2)), (18, .inl (ri_pu (ri_iload 1 1))), (19, .inr (.inl (140, 2, none))), (22, .inl (ri_pu (ri_istore 3 1))), (23, .inl (ri_pu (ri_aload 0 1))), (24, .inl (ri_getf 3 0)), (27, .inl (ri_pu (ri_iload 3 1))), (28, .inl (ri_pu (ri_aload 0 1))), (29, .inl (ri_getf 3 2)), (32, .inl (ri_getf 0 3)), (35, .inl (ri_pu (ri_iload 1 1))), (36, .inr (.inl (140, 2, none))), (39, .inl (ri_pu (ri_iload 2 1))), (40, .inl (ri_pu (ri_ib fun x y => x + y))), (41, .inr (.inl (101, 3, some 7))), (44, .inl (ri_pu (ri_istore 4 2))), (46, .inl (ri_pu (ri_aload 0 1))), (47, .inl (ri_pu (ri_iload 1 1))), (48, .inl (ri_pu (ri_iload 4 2))), (50, .inr (.inl (39, 3, some 3))), (53, .inl (ri_pu (ri_istore 5 2))), (55, .inl (ri_pu (ri_iload 5 2))), (57, .inl (ri_pu (ri_if (fun x => decide (¬ x = 0)) 72))), (60, .inl (ri_pu (ri_aload 0 1))), (61, .inl (ri_pu (ri_iload 1 1))), (62, .inl (ri_pu (ri_iload 4 2))), (64, .inr (.inl (43, 3, some 3))), (67, .inl (ri_pu (ri_aload 0 1))), (68, .inl (ri_pu (ri_iload 1 1))), (69, .inr (.inl (44, 2, some 3))), (72, .inl (ri_pu (ri_iload 5 2)))] : List (Nat × ri_C)), re_ok Ex D dT 42 q :=
  re_a (re_p (ro_aload_n (by decide +kernel) rfl)) <|
  re_a (re_p (ro_iload_n (by decide +kernel) rfl)) <|
  re_a (re_p (ro_iload_n (by decide +kernel) rfl)) <|
  re_a (re_c (ck_X3_190 (by decide +kernel))) <|
  re_a (re_p (ro_if_eq (by decide +kernel) (by decide +kernel))) <|
  re_a (re_p (ro_iconst (by decide +kernel) (by decide +kernel))) <|
  re_a (re_r ⟨(by decide +kernel), rfl⟩) <|
  re_a (re_p (ro_aload_n (by decide +kernel) rfl)) <|
  re_a (re_h (gf_X3_28 (by decide +kernel)) (rg_getf _ _)) <|
  re_a (re_h (gf_X3_149 (by decide +kernel)) (rg_getf _ _)) <|
  re_a (re_p (ro_iload_n (by decide +kernel) rfl)) <|
  re_a (re_c (ck_X3_123 (by decide +kernel))) <|
  re_a (re_p (ro_istore_n (by decide +kernel) rfl (by decide +kernel))) <|
  re_a (re_p (ro_aload_n (by decide +kernel) rfl)) <|
  re_a (re_h (gf_X3_12 (by decide +kernel)) (rg_getf _ _)) <|
  re_a (re_p (ro_iload_n (by decide +kernel) rfl)) <|
  re_a (re_p (ro_aload_n (by decide +kernel) rfl)) <|
  re_a (re_h (gf_X3_28 (by decide +kernel)) (rg_getf _ _)) <|
  re_a (re_h (gf_X3_152 (by decide +kernel)) (rg_getf _ _)) <|
  re_a (re_p (ro_iload_n (by decide +kernel) rfl)) <|
  re_a (re_c (ck_X3_123 (by decide +kernel))) <|
  re_a (re_p (ro_iload_n (by decide +kernel) rfl)) <|
  re_a (re_p (ro_iadd (by decide +kernel))) <|
  re_a (re_c (ck_X3_155 (by decide +kernel))) <|
  re_a (re_p (ro_istore (by decide +kernel) (by decide +kernel))) <|
  re_a (re_p (ro_aload_n (by decide +kernel) rfl)) <|
  re_a (re_p (ro_iload_n (by decide +kernel) rfl)) <|
  re_a (re_p (ro_iload (by decide +kernel))) <|
  re_a (re_c (ck_X3_165 (by decide +kernel))) <|
  re_a (re_p (ro_istore (by decide +kernel) (by decide +kernel))) <|
  re_a (re_p (ro_iload (by decide +kernel))) <|
  re_a (re_p (ro_if_ne (by decide +kernel) (by decide +kernel))) <|
  re_a (re_p (ro_aload_n (by decide +kernel) rfl)) <|
  re_a (re_p (ro_iload_n (by decide +kernel) rfl)) <|
  re_a (re_p (ro_iload (by decide +kernel))) <|
  re_a (re_c (ck_X3_174 (by decide +kernel))) <|
  re_a (re_p (ro_aload_n (by decide +kernel) rfl)) <|
  re_a (re_p (ro_iload_n (by decide +kernel) rfl)) <|
  re_a (re_c (ck_X3_187 (by decide +kernel))) <|
  re_a (re_p (ro_iload (by decide +kernel))) <|
  re_n
theorem mk_42_1 : ∀ q ∈ ([(74, .inr (.inr 1))] : List (Nat × ri_C)), re_ok Ex D dT 42 q :=
  re_a (re_r ⟨(by decide +kernel), rfl⟩) <|
  re_n
theorem mk_42 : ∀ q ∈ TL_42, re_ok Ex D dT 42 q := re_m mk_42_0 (mk_42_1)
theorem mk_43 : ∀ q ∈ TL_43, re_ok Ex D dT 43 q :=
  re_a (re_p (ro_iload_n (by decide +kernel) rfl)) <|
  re_a (re_p (ro_iconst (by decide +kernel) (by decide +kernel))) <|
  re_a (re_p (ro_idiv (by decide +kernel))) <|
  re_a (re_p (ro_istore_n (by decide +kernel) rfl (by decide +kernel))) <|
  re_a (re_p (ro_aload_n (by decide +kernel) rfl)) <|
  re_a (re_h (gf_X3_12 (by decide +kernel)) (rg_getf _ _)) <|
  re_a (re_p (ro_iload_n (by decide +kernel) rfl)) <|
  re_a (re_p (ro_iload_n (by decide +kernel) rfl)) <|
  re_a (re_p (ro_iconst (by decide +kernel) (by decide +kernel))) <|
  re_a (re_p (ro_irem (by decide +kernel))) <|
  re_a (re_c (ck_X3_74 (by decide +kernel))) <|
  re_a (re_p (ro_istore (by decide +kernel) (by decide +kernel))) <|
  re_a (re_p (ro_aload_n (by decide +kernel) rfl)) <|
  re_a (re_h (gf_X3_28 (by decide +kernel)) (rg_getf _ _)) <|
  re_a (re_p (ro_iload_n (by decide +kernel) rfl)) <|
  re_a (re_p (ro_iload_n (by decide +kernel) rfl)) <|
  re_a (re_p (ro_iload (by decide +kernel))) <|
  re_a (re_c (ck_X3_193 (by decide +kernel))) <|
  re_a (re_p (ro_aload_n (by decide +kernel) rfl)) <|
  re_a (re_p (ro_iload_n (by decide +kernel) rfl)) <|
  re_a (re_p (ro_aload_n (by decide +kernel) rfl)) <|
  re_a (re_h (gf_X3_12 (by decide +kernel)) (rg_getf _ _)) <|
  re_a (re_h (gf_X3_119 (by decide +kernel)) (rg_getf _ _)) <|
  re_a (re_p (ro_iload_n (by decide +kernel) rfl)) <|
  re_a (re_p (ro_iload (by decide +kernel))) <|
  re_a (re_c (ck_X3_98 (by decide +kernel))) <|
  re_a (re_c (ck_X3_123 (by decide +kernel))) <|
  re_a (re_c (ck_X3_145 (by decide +kernel))) <|
  re_a (re_p (ro_aload_n (by decide +kernel) rfl)) <|
  re_a (re_h (gf_X3_12 (by decide +kernel)) (rg_getf _ _)) <|
  re_a (re_h (gf_X3_119 (by decide +kernel)) (rg_getf _ _)) <|
  re_a (re_p (ro_iload_n (by decide +kernel) rfl)) <|
  re_a (re_p (ro_iload (by decide +kernel))) <|
  re_a (re_c (ck_X3_98 (by decide +kernel))) <|
  re_a (re_p (ro_iconst (by decide +kernel) (by decide +kernel))) <|
  re_a (re_c (ck_X3_132 (by decide +kernel))) <|
  re_a (re_r ⟨(by decide +kernel), rfl⟩) <|
  re_n
theorem mk_44 : ∀ q ∈ TL_44, re_ok Ex D dT 44 q :=
  re_a (re_p (ro_aload_n (by decide +kernel) rfl)) <|
  re_a (re_p (ro_dup (by decide +kernel))) <|
  re_a (re_h (gf_X3_32 (by decide +kernel)) (rg_getf _ _)) <|
  re_a (re_p (ro_iconst (by decide +kernel) (by decide +kernel))) <|
  re_a (re_p (ro_iadd (by decide +kernel))) <|
  re_a (re_h (pf_X3_32 (by decide +kernel)) (rg_puti _ _)) <|
  re_a (re_p (ro_aload_n (by decide +kernel) rfl)) <|
  re_a (re_h (gf_X3_28 (by decide +kernel)) (rg_getf _ _)) <|
  re_a (re_h (gf_X3_197 (by decide +kernel)) (rg_getf _ _)) <|
  re_a (re_p (ro_iload_n (by decide +kernel) rfl)) <|
  re_a (re_p (ro_aload_n (by decide +kernel) rfl)) <|
  re_a (re_h (gf_X3_28 (by decide +kernel)) (rg_getf _ _)) <|
  re_a (re_h (gf_X3_197 (by decide +kernel)) (rg_getf _ _)) <|
  re_a (re_p (ro_iload_n (by decide +kernel) rfl)) <|
  re_a (re_c (ck_X3_123 (by decide +kernel))) <|
  re_a (re_p (ro_iconst (by decide +kernel) (by decide +kernel))) <|
  re_a (re_p (ro_iadd (by decide +kernel))) <|
  re_a (re_c (ck_X3_132 (by decide +kernel))) <|
  re_a (re_p (ro_aload_n (by decide +kernel) rfl)) <|
  re_a (re_p (ro_iload_n (by decide +kernel) rfl)) <|
  re_a (re_h (pf_X3_45 (by decide +kernel)) (rg_puti _ _)) <|
  re_a (re_p (ro_aload_n (by decide +kernel) rfl)) <|
  re_a (re_c (ck_X3_199 (by decide +kernel))) <|
  re_a (re_r ⟨(by decide +kernel), rfl⟩) <|
  re_n
theorem mk_45 : ∀ q ∈ TL_45, re_ok Ex D dT 45 q :=
  re_a (re_p (ro_iconst (by decide +kernel) (by decide +kernel))) <|
  re_a (re_p (ro_istore_n (by decide +kernel) rfl (by decide +kernel))) <|
  re_a (re_p (ro_iload_n (by decide +kernel) rfl)) <|
  re_a (re_p (ro_aload_n (by decide +kernel) rfl)) <|
  re_a (re_h (gf_X3_21 (by decide +kernel)) (rg_getf _ _)) <|
  re_a (re_h (gf_X3_54 (by decide +kernel)) (rg_getf _ _)) <|
  re_a (re_p (ro_icmp_ge (by decide +kernel) (by decide +kernel))) <|
  re_a (re_p (ro_aload_n (by decide +kernel) rfl)) <|
  re_a (re_p (ro_iload_n (by decide +kernel) rfl)) <|
  re_a (re_p (ro_iload_n (by decide +kernel) rfl)) <|
  re_a (re_c (ck_X3_171 (by decide +kernel))) <|
  re_a (re_p (ro_if_ne (by decide +kernel) (by decide +kernel))) <|
  re_a (re_p (ro_iconst (by decide +kernel) (by decide +kernel))) <|
  re_a (re_r ⟨(by decide +kernel), rfl⟩) <|
  re_a (re_p (ro_iinc (by decide +kernel) (by decide +kernel) (by decide +kernel))) <|
  re_a (re_p (ro_goto (by decide +kernel) (by decide +kernel))) <|
  re_a (re_p (ro_iconst (by decide +kernel) (by decide +kernel))) <|
  re_a (re_r ⟨(by decide +kernel), rfl⟩) <|
  re_n
theorem mk_46 : ∀ q ∈ TL_46, re_ok Ex D dT 46 q :=
  re_a (re_p (ro_iconst (by decide +kernel) (by decide +kernel))) <|
  re_a (re_p (ro_istore_n (by decide +kernel) rfl (by decide +kernel))) <|
  re_a (re_p (ro_iconst (by decide +kernel) (by decide +kernel))) <|
  re_a (re_p (ro_istore_n (by decide +kernel) rfl (by decide +kernel))) <|
  re_a (re_p (ro_iload_n (by decide +kernel) rfl)) <|
  re_a (re_p (ro_aload_n (by decide +kernel) rfl)) <|
  re_a (re_h (gf_X3_28 (by decide +kernel)) (rg_getf _ _)) <|
  re_a (re_h (gf_X3_55 (by decide +kernel)) (rg_getf _ _)) <|
  re_a (re_p (ro_icmp_ge (by decide +kernel) (by decide +kernel))) <|
  re_a (re_p (ro_aload_n (by decide +kernel) rfl)) <|
  re_a (re_p (ro_iload_n (by decide +kernel) rfl)) <|
  re_a (re_c (ck_X3_202 (by decide +kernel))) <|
  re_a (re_p (ro_if_eq (by decide +kernel) (by decide +kernel))) <|
  re_a (re_p (ro_iinc (by decide +kernel) (by decide +kernel) (by decide +kernel))) <|
  re_a (re_p (ro_iinc (by decide +kernel) (by decide +kernel) (by decide +kernel))) <|
  re_a (re_p (ro_goto (by decide +kernel) (by decide +kernel))) <|
  re_a (re_p (ro_iload_n (by decide +kernel) rfl)) <|
  re_a (re_r ⟨(by decide +kernel), rfl⟩) <|
  re_n
theorem mk_47 : ∀ q ∈ TL_47, re_ok Ex D dT 47 q :=
  re_a (re_p (ro_iload_n (by decide +kernel) rfl)) <|
  re_a (re_p (ro_switch (by decide +kernel) (by decide +kernel) (by decide +kernel) (by decide +kernel) (by decide +kernel) (by decide +kernel))) <|
  re_a (re_p (ro_aload_n (by decide +kernel) rfl)) <|
  re_a (re_h (gf_X3_12 (by decide +kernel)) (rg_getf _ _)) <|
  re_a (re_h (gf_X3_51 (by decide +kernel)) (rg_getf _ _)) <|
  re_a (re_r ⟨(by decide +kernel), rfl⟩) <|
  re_a (re_p (ro_aload_n (by decide +kernel) rfl)) <|
  re_a (re_h (gf_X3_21 (by decide +kernel)) (rg_getf _ _)) <|
  re_a (re_h (gf_X3_54 (by decide +kernel)) (rg_getf _ _)) <|
  re_a (re_r ⟨(by decide +kernel), rfl⟩) <|
  re_a (re_p (ro_aload_n (by decide +kernel) rfl)) <|
  re_a (re_h (gf_X3_28 (by decide +kernel)) (rg_getf _ _)) <|
  re_a (re_h (gf_X3_55 (by decide +kernel)) (rg_getf _ _)) <|
  re_a (re_r ⟨(by decide +kernel), rfl⟩) <|
  re_a (re_p (ro_aload_n (by decide +kernel) rfl)) <|
  re_a (re_h (gf_X3_32 (by decide +kernel)) (rg_getf _ _)) <|
  re_a (re_r ⟨(by decide +kernel), rfl⟩) <|
  re_a (re_p (ro_aload_n (by decide +kernel) rfl)) <|
  re_a (re_h (gf_X3_12 (by decide +kernel)) (rg_getf _ _)) <|
  re_a (re_c (ck_X3_205 (by decide +kernel))) <|
  re_a (re_r ⟨(by decide +kernel), rfl⟩) <|
  re_a (re_p (ro_aload_n (by decide +kernel) rfl)) <|
  re_a (re_h (gf_X3_36 (by decide +kernel)) (rg_getf _ _)) <|
  re_a (re_r ⟨(by decide +kernel), rfl⟩) <|
  re_a (re_p (ro_aload_n (by decide +kernel) rfl)) <|
  re_a (re_h (gf_X3_39 (by decide +kernel)) (rg_getf _ _)) <|
  re_a (re_r ⟨(by decide +kernel), rfl⟩) <|
  re_a (re_p (ro_aload_n (by decide +kernel) rfl)) <|
  re_a (re_h (gf_X3_42 (by decide +kernel)) (rg_getf _ _)) <|
  re_a (re_r ⟨(by decide +kernel), rfl⟩) <|
  re_a (re_p (ro_aload_n (by decide +kernel) rfl)) <|
  re_a (re_h (gf_X3_45 (by decide +kernel)) (rg_getf _ _)) <|
  re_a (re_r ⟨(by decide +kernel), rfl⟩) <|
  re_a (re_p (ro_aload_n (by decide +kernel) rfl)) <|
  re_a (re_h (gf_X3_48 (by decide +kernel)) (rg_getf _ _)) <|
  re_a (re_r ⟨(by decide +kernel), rfl⟩) <|
  re_a (re_p (ro_aload_n (by decide +kernel) rfl)) <|
  re_a (re_c (ck_X3_209 (by decide +kernel))) <|
  re_a (re_r ⟨(by decide +kernel), rfl⟩) <|
  re_n
theorem mk_48_0 : ∀ q ∈ ([(0, .inl (ri_pu (ri_iload 2 1))), (1, .inl (ri_pu (ri_switch 0 [44, 56, 68, 80, 92, 102, 111] 120))), (44, .inl (ri_pu (ri_aload 0 1))), (45, .inl (ri_getf 3 0)), (48, .inl (ri_getf 7 1)), (51, .inl (ri_pu (ri_iload 1 1))), (52, .inr (.inl (140, 2, none))), (55, .inr (.inr 1)), (56, .inl (ri_pu (ri_aload 0 1))), (57, .inl (ri_getf 3 0)), (60, .inl (ri_getf 7 2)), (63, .inl (ri_pu (ri_iload 1 1))), (64, .inr (.inl (140, 2, none))), (67, .inr (.inr 1)), (68, .inl (ri_pu (ri_aload 0 1))), (69, .inl (ri_getf 3 0)), (72, .inl (ri_getf 7 3)), (75, .inl (ri_pu (ri_iload 1 1))), (76, .inr (.inl (140, 2, none))), (79, .inr (.inr 1)), (80, .inl (ri_pu (ri_aload 0 1))), (81, .inl (ri_getf 3 0)), (84, .inl (ri_getf 7 4)), (87, .inl (ri_pu (ri_iload 1 1))), (88, .inr (.inl (140, 2, none))), (91, .inr (.inr 1)), (92, .inl (ri_pu (ri_aload 0 1))), (93, .inl (ri_getf 3 2)), (96, .inl (ri_pu (ri_iload 1 1))), (97, .inl (ri_pu (ri_icon (-1) 1))), (98, .inr (.inl (5, 3, some 0))), (101, .inr (.inr 1)), (102, .inl (ri_pu (ri_aload 0 1))), (103, .inl (ri_getf 3 0)), (106, .inl (ri_pu (ri_iload 1 1))), (107, .inr (.inl (105, 2, some 7))), (110, .inr (.inr 1)), (111, .inl (ri_pu (ri_aload 0 1))), (112, .inl (ri_getf 3 0)), (115, .inl (ri_pu (ri_iload 1 1)))] : List (Nat × ri_C)), re_ok Ex D dT 48 q :=
  re_a (re_p (ro_iload_n (by decide +kernel) rfl)) <|
  re_a (re_p (ro_switch (by decide +kernel) (by decide +kernel) (by decide +kernel) (by decide +kernel) (by decide +kernel) (by decide +kernel))) <|
  re_a (re_p (ro_aload_n (by decide +kernel) rfl)) <|
  re_a (re_h (gf_X3_12 (by decide +kernel)) (rg_getf _ _)) <|
  re_a (re_h (gf_X3_142 (by decide +kernel)) (rg_getf _ _)) <|
  re_a (re_p (ro_iload_n (by decide +kernel) rfl)) <|
  re_a (re_c (ck_X3_123 (by decide +kernel))) <|
  re_a (re_r ⟨(by decide +kernel), rfl⟩) <|
  re_a (re_p (ro_aload_n (by decide +kernel) rfl)) <|
  re_a (re_h (gf_X3_12 (by decide +kernel)) (rg_getf _ _)) <|
  re_a (re_h (gf_X3_212 (by decide +kernel)) (rg_getf _ _)) <|
  re_a (re_p (ro_iload_n (by decide +kernel) rfl)) <|
  re_a (re_c (ck_X3_123 (by decide +kernel))) <|
  re_a (re_r ⟨(by decide +kernel), rfl⟩) <|
  re_a (re_p (ro_aload_n (by decide +kernel) rfl)) <|
  re_a (re_h (gf_X3_12 (by decide +kernel)) (rg_getf _ _)) <|
  re_a (re_h (gf_X3_180 (by decide +kernel)) (rg_getf _ _)) <|
  re_a (re_p (ro_iload_n (by decide +kernel) rfl)) <|
  re_a (re_c (ck_X3_123 (by decide +kernel))) <|
  re_a (re_r ⟨(by decide +kernel), rfl⟩) <|
  re_a (re_p (ro_aload_n (by decide +kernel) rfl)) <|
  re_a (re_h (gf_X3_12 (by decide +kernel)) (rg_getf _ _)) <|
  re_a (re_h (gf_X3_215 (by decide +kernel)) (rg_getf _ _)) <|
  re_a (re_p (ro_iload_n (by decide +kernel) rfl)) <|
  re_a (re_c (ck_X3_123 (by decide +kernel))) <|
  re_a (re_r ⟨(by decide +kernel), rfl⟩) <|
  re_a (re_p (ro_aload_n (by decide +kernel) rfl)) <|
  re_a (re_h (gf_X3_28 (by decide +kernel)) (rg_getf _ _)) <|
  re_a (re_p (ro_iload_n (by decide +kernel) rfl)) <|
  re_a (re_p (ro_iconst (by decide +kernel) (by decide +kernel))) <|
  re_a (re_c (ck_X3_177 (by decide +kernel))) <|
  re_a (re_r ⟨(by decide +kernel), rfl⟩) <|
  re_a (re_p (ro_aload_n (by decide +kernel) rfl)) <|
  re_a (re_h (gf_X3_12 (by decide +kernel)) (rg_getf _ _)) <|
  re_a (re_p (ro_iload_n (by decide +kernel) rfl)) <|
  re_a (re_c (ck_X3_218 (by decide +kernel))) <|
  re_a (re_r ⟨(by decide +kernel), rfl⟩) <|
  re_a (re_p (ro_aload_n (by decide +kernel) rfl)) <|
  re_a (re_h (gf_X3_12 (by decide +kernel)) (rg_getf _ _)) <|
  re_a (re_p (ro_iload_n (by decide +kernel) rfl)) <|
  re_n
theorem mk_48_1 : ∀ q ∈ ([(116, .inr (.inl (104, 2, some 7))), (119, .inr (.inr 1)), (120, .inl (ri_pu (ri_aload 0 1))), (121, .inl (ri_getf 3 0)), (124, .inl (ri_getf 7 5)), (127, .inl (ri_pu (ri_iload 1 1))), (128, .inr (.inl (140, 2, none))), (131, .inr (.inr 1))] : List (Nat × ri_C)), re_ok Ex D dT 48 q :=
  re_a (re_c (ck_X3_221 (by decide +kernel))) <|
  re_a (re_r ⟨(by decide +kernel), rfl⟩) <|
  re_a (re_p (ro_aload_n (by decide +kernel) rfl)) <|
  re_a (re_h (gf_X3_12 (by decide +kernel)) (rg_getf _ _)) <|
  re_a (re_h (gf_X3_224 (by decide +kernel)) (rg_getf _ _)) <|
  re_a (re_p (ro_iload_n (by decide +kernel) rfl)) <|
  re_a (re_c (ck_X3_123 (by decide +kernel))) <|
  re_a (re_r ⟨(by decide +kernel), rfl⟩) <|
  re_n
theorem mk_48 : ∀ q ∈ TL_48, re_ok Ex D dT 48 q := re_m mk_48_0 (mk_48_1)
theorem mk_49 : ∀ q ∈ TL_49, re_ok Ex D dT 49 q :=
  re_a (re_p (ro_aload_n (by decide +kernel) rfl)) <|
  re_a (re_h (gf_X3_12 (by decide +kernel)) (rg_getf _ _)) <|
  re_a (re_p (ro_iload_n (by decide +kernel) rfl)) <|
  re_a (re_p (ro_iload_n (by decide +kernel) rfl)) <|
  re_a (re_c (ck_X3_74 (by decide +kernel))) <|
  re_a (re_p (ro_istore (by decide +kernel) (by decide +kernel))) <|
  re_a (re_p (ro_iload_n (by decide +kernel) rfl)) <|
  re_a (re_p (ro_switch (by decide +kernel) (by decide +kernel) (by decide +kernel) (by decide +kernel) (by decide +kernel) (by decide +kernel))) <|
  re_a (re_p (ro_iload (by decide +kernel))) <|
  re_a (re_r ⟨(by decide +kernel), rfl⟩) <|
  re_a (re_p (ro_aload_n (by decide +kernel) rfl)) <|
  re_a (re_h (gf_X3_12 (by decide +kernel)) (rg_getf _ _)) <|
  re_a (re_h (gf_X3_119 (by decide +kernel)) (rg_getf _ _)) <|
  re_a (re_p (ro_iload_n (by decide +kernel) rfl)) <|
  re_a (re_p (ro_iload (by decide +kernel))) <|
  re_a (re_c (ck_X3_98 (by decide +kernel))) <|
  re_a (re_c (ck_X3_123 (by decide +kernel))) <|
  re_a (re_r ⟨(by decide +kernel), rfl⟩) <|
  re_a (re_p (ro_aload_n (by decide +kernel) rfl)) <|
  re_a (re_h (gf_X3_28 (by decide +kernel)) (rg_getf _ _)) <|
  re_a (re_p (ro_iload_n (by decide +kernel) rfl)) <|
  re_a (re_p (ro_iload (by decide +kernel))) <|
  re_a (re_c (ck_X3_78 (by decide +kernel))) <|
  re_a (re_r ⟨(by decide +kernel), rfl⟩) <|
  re_a (re_p (ro_aload_n (by decide +kernel) rfl)) <|
  re_a (re_h (gf_X3_21 (by decide +kernel)) (rg_getf _ _)) <|
  re_a (re_p (ro_iload_n (by decide +kernel) rfl)) <|
  re_a (re_p (ro_iload_n (by decide +kernel) rfl)) <|
  re_a (re_c (ck_X3_98 (by decide +kernel))) <|
  re_a (re_c (ck_X3_227 (by decide +kernel))) <|
  re_a (re_r ⟨(by decide +kernel), rfl⟩) <|
  re_n
theorem mk_50 : ∀ q ∈ TL_50, re_ok Ex D dT 50 q :=
  re_a (re_p (ro_iload_n (by decide +kernel) rfl)) <|
  re_a (re_p (ro_switch (by decide +kernel) (by decide +kernel) (by decide +kernel) (by decide +kernel) (by decide +kernel) (by decide +kernel))) <|
  re_a (re_p (ro_aload_n (by decide +kernel) rfl)) <|
  re_a (re_h (gf_X3_28 (by decide +kernel)) (rg_getf _ _)) <|
  re_a (re_h (gf_X3_230 (by decide +kernel)) (rg_getf _ _)) <|
  re_a (re_p (ro_iload_n (by decide +kernel) rfl)) <|
  re_a (re_c (ck_X3_123 (by decide +kernel))) <|
  re_a (re_r ⟨(by decide +kernel), rfl⟩) <|
  re_a (re_p (ro_aload_n (by decide +kernel) rfl)) <|
  re_a (re_h (gf_X3_28 (by decide +kernel)) (rg_getf _ _)) <|
  re_a (re_h (gf_X3_149 (by decide +kernel)) (rg_getf _ _)) <|
  re_a (re_p (ro_iload_n (by decide +kernel) rfl)) <|
  re_a (re_c (ck_X3_123 (by decide +kernel))) <|
  re_a (re_r ⟨(by decide +kernel), rfl⟩) <|
  re_a (re_p (ro_aload_n (by decide +kernel) rfl)) <|
  re_a (re_h (gf_X3_28 (by decide +kernel)) (rg_getf _ _)) <|
  re_a (re_h (gf_X3_152 (by decide +kernel)) (rg_getf _ _)) <|
  re_a (re_p (ro_iload_n (by decide +kernel) rfl)) <|
  re_a (re_c (ck_X3_123 (by decide +kernel))) <|
  re_a (re_r ⟨(by decide +kernel), rfl⟩) <|
  re_a (re_p (ro_aload_n (by decide +kernel) rfl)) <|
  re_a (re_p (ro_iload_n (by decide +kernel) rfl)) <|
  re_a (re_c (ck_X3_158 (by decide +kernel))) <|
  re_a (re_p (ro_iconst (by decide +kernel) (by decide +kernel))) <|
  re_a (re_p (ro_irem (by decide +kernel))) <|
  re_a (re_r ⟨(by decide +kernel), rfl⟩) <|
  re_a (re_p (ro_aload_n (by decide +kernel) rfl)) <|
  re_a (re_h (gf_X3_28 (by decide +kernel)) (rg_getf _ _)) <|
  re_a (re_h (gf_X3_136 (by decide +kernel)) (rg_getf _ _)) <|
  re_a (re_p (ro_iload_n (by decide +kernel) rfl)) <|
  re_a (re_c (ck_X3_123 (by decide +kernel))) <|
  re_a (re_r ⟨(by decide +kernel), rfl⟩) <|
  re_a (re_p (ro_aload_n (by decide +kernel) rfl)) <|
  re_a (re_h (gf_X3_28 (by decide +kernel)) (rg_getf _ _)) <|
  re_a (re_h (gf_X3_197 (by decide +kernel)) (rg_getf _ _)) <|
  re_a (re_p (ro_iload_n (by decide +kernel) rfl)) <|
  re_a (re_c (ck_X3_123 (by decide +kernel))) <|
  re_a (re_r ⟨(by decide +kernel), rfl⟩) <|
  re_n
theorem mk_51 : ∀ q ∈ TL_51, re_ok Ex D dT 51 q :=
  re_a (re_p (ro_iload_n (by decide +kernel) rfl)) <|
  re_a (re_p (ro_iconst (by decide +kernel) (by decide +kernel))) <|
  re_a (re_p (ro_iconst (by decide +kernel) (by decide +kernel))) <|
  re_a (re_c (ck_X4_9 (by decide +kernel))) <|
  re_a (re_p (ro_if_eq (by decide +kernel) (by decide +kernel))) <|
  re_a (re_p (ro_lload_n (by decide +kernel) rfl)) <|
  re_a (re_p (ro_lconst (by decide +kernel) (by decide +kernel))) <|
  re_a (re_p (ro_lcmp (by decide +kernel))) <|
  re_a (re_p (ro_if_ge (by decide +kernel) (by decide +kernel))) <|
  re_a (re_p (ro_iconst (by decide +kernel) (by decide +kernel))) <|
  re_a (re_r ⟨(by decide +kernel), rfl⟩) <|
  re_a (re_p (ro_lload_n (by decide +kernel) rfl)) <|
  re_a (re_p (ro_iload_n (by decide +kernel) rfl)) <|
  re_a (re_c (ck_X4_13 (by decide +kernel))) <|
  re_a (re_p (ro_lcmp (by decide +kernel))) <|
  re_a (re_p (ro_if_ge (by decide +kernel) (by decide +kernel))) <|
  re_a (re_p (ro_iconst (by decide +kernel) (by decide +kernel))) <|
  re_a (re_p (ro_goto (by decide +kernel) (by decide +kernel))) <|
  re_a (re_p (ro_iconst (by decide +kernel) (by decide +kernel))) <|
  re_a (re_r ⟨(by decide +kernel), rfl⟩) <|
  re_n
theorem mk_52 : ∀ q ∈ TL_52, re_ok Ex D dT 52 q :=
  re_a (re_p (ro_lconst (by decide +kernel) (by decide +kernel))) <|
  re_a (re_p (ro_lstore_n (by decide +kernel) rfl (by decide +kernel))) <|
  re_a (re_p (ro_iconst (by decide +kernel) (by decide +kernel))) <|
  re_a (re_p (ro_istore_n (by decide +kernel) rfl (by decide +kernel))) <|
  re_a (re_p (ro_iload_n (by decide +kernel) rfl)) <|
  re_a (re_p (ro_iload_n (by decide +kernel) rfl)) <|
  re_a (re_p (ro_icmp_ge (by decide +kernel) (by decide +kernel))) <|
  re_a (re_p (ro_lload_n (by decide +kernel) rfl)) <|
  re_a (re_p (ro_ldc2 (by decide +kernel) q_1029)) <|
  re_a (re_p (ro_lmul (by decide +kernel))) <|
  re_a (re_p (ro_lstore_n (by decide +kernel) rfl (by decide +kernel))) <|
  re_a (re_p (ro_iinc (by decide +kernel) (by decide +kernel) (by decide +kernel))) <|
  re_a (re_p (ro_goto (by decide +kernel) (by decide +kernel))) <|
  re_a (re_p (ro_lload_n (by decide +kernel) rfl)) <|
  re_a (re_r ⟨(by decide +kernel), rfl⟩) <|
  re_n
theorem mk_53 : ∀ q ∈ TL_53, re_ok Ex D dT 53 q :=
  re_a (re_p (ro_iconst (by decide +kernel) (by decide +kernel))) <|
  re_a (re_p (ro_istore (by decide +kernel) (by decide +kernel))) <|
  re_a (re_p (ro_iload (by decide +kernel))) <|
  re_a (re_p (ro_iload_n (by decide +kernel) rfl)) <|
  re_a (re_p (ro_icmp_ge (by decide +kernel) (by decide +kernel))) <|
  re_a (re_p (ro_iload_n (by decide +kernel) rfl)) <|
  re_a (re_p (ro_iconst (by decide +kernel) (by decide +kernel))) <|
  re_a (re_p (ro_isub (by decide +kernel))) <|
  re_a (re_p (ro_iload (by decide +kernel))) <|
  re_a (re_p (ro_isub (by decide +kernel))) <|
  re_a (re_c (ck_X4_13 (by decide +kernel))) <|
  re_a (re_p (ro_lstore (by decide +kernel) (by decide +kernel))) <|
  re_a (re_p (ro_lload (by decide +kernel))) <|
  re_a (re_p (ro_lconst (by decide +kernel) (by decide +kernel))) <|
  re_a (re_p (ro_lcmp (by decide +kernel))) <|
  re_a (re_p (ro_if_le (by decide +kernel) (by decide +kernel))) <|
  re_a (re_p (ro_aload_n (by decide +kernel) rfl)) <|
  re_a (re_p (ro_lload_n (by decide +kernel) rfl)) <|
  re_a (re_p (ro_lload (by decide +kernel))) <|
  re_a (re_p (ro_ldiv (by decide +kernel))) <|
  re_a (re_p (ro_ldc2 (by decide +kernel) q_1029)) <|
  re_a (re_p (ro_lrem (by decide +kernel))) <|
  re_a (re_p (ro_l2i (by decide +kernel))) <|
  re_a (re_c (ck_X4_21 (by decide +kernel))) <|
  re_a (re_p (ro_if_ne (by decide +kernel) (by decide +kernel))) <|
  re_a (re_p (ro_iload (by decide +kernel))) <|
  re_a (re_r ⟨(by decide +kernel), rfl⟩) <|
  re_a (re_p (ro_iinc (by decide +kernel) (by decide +kernel) (by decide +kernel))) <|
  re_a (re_p (ro_goto (by decide +kernel) (by decide +kernel))) <|
  re_a (re_p (ro_iconst (by decide +kernel) (by decide +kernel))) <|
  re_a (re_r ⟨(by decide +kernel), rfl⟩) <|
  re_n
theorem mk_54_0 : ∀ q ∈ ([(0, .inl (ri_pu (ri_iload 1 1))), (1, .inl (ri_pu (ri_icon 1000 3))), (4, .inl (ri_pu (ri_idr fun x y => x / y))), (5, .inl (ri_pu (ri_icon 10 2))), (7, .inl (ri_pu (ri_idr fun x y => x - x / y * y))), (8, .inl (ri_pu (ri_istore 2 1))), (9, .inl (ri_pu (ri_iload 1 1))), (10, .inl (ri_pu (ri_icon 100 2))), (12, .inl (ri_pu (ri_idr fun x y => x / y))), (13, .inl (ri_pu (ri_icon 10 2))), (15, .inl (ri_pu (ri_idr fun x y => x - x / y * y))), (16, .inl (ri_pu (ri_istore 3 1))), (17, .inl (ri_pu (ri_iload 1 1))), (18, .inl (ri_pu (ri_icon 10 2))), (20, .inl (ri_pu (ri_idr fun x y => x / y))), (21, .inl (ri_pu (ri_icon 10 2))), (23, .inl (ri_pu (ri_idr fun x y => x - x / y * y))), (24, .inl (ri_pu (ri_istore 4 2))), (26, .inl (ri_pu (ri_iload 1 1))), (27, .inl (ri_pu (ri_icon 10 2))), (29, .inl (ri_pu (ri_idr fun x y => x - x / y * y))), (30, .inl (ri_pu (ri_istore 5 2))), (32, .inl (ri_pu (ri_iload 1 1))), (33, .inl (ri_pu (ri_icon 10000 3))), (36, .inl (ri_pu (ri_idr fun x y => x / y))), (37, .inl (ri_pu (ri_switch 1 [64, 90, 119] 146))), (64, .inl (ri_pu (ri_iload 5 2))), (66, .inl (ri_pu (ri_if (fun x => decide (¬ x = 0)) 88))), (69, .inl (ri_pu (ri_aload 0 1))), (70, .inl (ri_pu (ri_iload 2 1))), (71, .inl (ri_pu (ri_icon 10 2))), (73, .inl (ri_pu (ri_iload 3 1))), (74, .inl (ri_pu (ri_ib fun x y => x * y))), (75, .inl (ri_pu (ri_iload 4 2))), (77, .inl (ri_pu (ri_ib fun x y => x + y))), (78, .inr (.inl (41, 3, some 3))), (81, .inl (ri_pu (ri_if (fun x => decide (¬ x = 0)) 88))), (84, .inl (ri_pu (ri_icon 1 1))), (85, .inl (ri_pu (ri_goto 89))), (88, .inl (ri_pu (ri_icon 0 1)))] : List (Nat × ri_C)), re_ok Ex D dT 54 q :=
  re_a (re_p (ro_iload_n (by decide +kernel) rfl)) <|
  re_a (re_p (ro_sipush (by decide +kernel) (by decide +kernel))) <|
  re_a (re_p (ro_idiv (by decide +kernel))) <|
  re_a (re_p (ro_bipush (by decide +kernel) (by decide +kernel))) <|
  re_a (re_p (ro_irem (by decide +kernel))) <|
  re_a (re_p (ro_istore_n (by decide +kernel) rfl (by decide +kernel))) <|
  re_a (re_p (ro_iload_n (by decide +kernel) rfl)) <|
  re_a (re_p (ro_bipush (by decide +kernel) (by decide +kernel))) <|
  re_a (re_p (ro_idiv (by decide +kernel))) <|
  re_a (re_p (ro_bipush (by decide +kernel) (by decide +kernel))) <|
  re_a (re_p (ro_irem (by decide +kernel))) <|
  re_a (re_p (ro_istore_n (by decide +kernel) rfl (by decide +kernel))) <|
  re_a (re_p (ro_iload_n (by decide +kernel) rfl)) <|
  re_a (re_p (ro_bipush (by decide +kernel) (by decide +kernel))) <|
  re_a (re_p (ro_idiv (by decide +kernel))) <|
  re_a (re_p (ro_bipush (by decide +kernel) (by decide +kernel))) <|
  re_a (re_p (ro_irem (by decide +kernel))) <|
  re_a (re_p (ro_istore (by decide +kernel) (by decide +kernel))) <|
  re_a (re_p (ro_iload_n (by decide +kernel) rfl)) <|
  re_a (re_p (ro_bipush (by decide +kernel) (by decide +kernel))) <|
  re_a (re_p (ro_irem (by decide +kernel))) <|
  re_a (re_p (ro_istore (by decide +kernel) (by decide +kernel))) <|
  re_a (re_p (ro_iload_n (by decide +kernel) rfl)) <|
  re_a (re_p (ro_sipush (by decide +kernel) (by decide +kernel))) <|
  re_a (re_p (ro_idiv (by decide +kernel))) <|
  re_a (re_p (ro_switch (by decide +kernel) (by decide +kernel) (by decide +kernel) (by decide +kernel) (by decide +kernel) (by decide +kernel))) <|
  re_a (re_p (ro_iload (by decide +kernel))) <|
  re_a (re_p (ro_if_ne (by decide +kernel) (by decide +kernel))) <|
  re_a (re_p (ro_aload_n (by decide +kernel) rfl)) <|
  re_a (re_p (ro_iload_n (by decide +kernel) rfl)) <|
  re_a (re_p (ro_bipush (by decide +kernel) (by decide +kernel))) <|
  re_a (re_p (ro_iload_n (by decide +kernel) rfl)) <|
  re_a (re_p (ro_imul (by decide +kernel))) <|
  re_a (re_p (ro_iload (by decide +kernel))) <|
  re_a (re_p (ro_iadd (by decide +kernel))) <|
  re_a (re_c (ck_X4_25 (by decide +kernel))) <|
  re_a (re_p (ro_if_ne (by decide +kernel) (by decide +kernel))) <|
  re_a (re_p (ro_iconst (by decide +kernel) (by decide +kernel))) <|
  re_a (re_p (ro_goto (by decide +kernel) (by decide +kernel))) <|
  re_a (re_p (ro_iconst (by decide +kernel) (by decide +kernel))) <|
  re_n
theorem mk_54_1 : ∀ q ∈ ([(89, .inr (.inr 2)), (90, .inl (ri_pu (ri_iload 4 2))), (92, .inl (ri_pu (ri_if (fun x => decide (¬ x = 0)) 117))), (95, .inl (ri_pu (ri_iload 5 2))), (97, .inl (ri_pu (ri_if (fun x => decide (¬ x = 0)) 117))), (100, .inl (ri_pu (ri_aload 0 1))), (101, .inl (ri_pu (ri_iload 2 1))), (102, .inl (ri_pu (ri_icon 2 1))), (103, .inl (ri_pu (ri_iload 3 1))), (104, .inl (ri_pu (ri_ib fun x y => x * y))), (105, .inl (ri_pu (ri_icon 1 1))), (106, .inl (ri_pu (ri_ib fun x y => x - y))), (107, .inr (.inl (42, 3, some 3))), (110, .inl (ri_pu (ri_if (fun x => decide (¬ x = 0)) 117))), (113, .inl (ri_pu (ri_icon 1 1))), (114, .inl (ri_pu (ri_goto 118))), (117, .inl (ri_pu (ri_icon 0 1))), (118, .inr (.inr 2)), (119, .inl (ri_pu (ri_iload 3 1))), (120, .inl (ri_pu (ri_if (fun x => decide (¬ x = 0)) 144))), (123, .inl (ri_pu (ri_iload 4 2))), (125, .inl (ri_pu (ri_if (fun x => decide (¬ x = 0)) 144))), (128, .inl (ri_pu (ri_aload 0 1))), (129, .inl (ri_pu (ri_iload 2 1))), (130, .inl (ri_pu (ri_iload 5 2))), (132, .inl (ri_pu (ri_icon 4 1))), (133, .inl (ri_pu (ri_ib fun x y => x - y))), (134, .inr (.inl (34, 3, some 3))), (137, .inl (ri_pu (ri_if (fun x => decide (x = 0)) 144))), (140, .inl (ri_pu (ri_icon 1 1))), (141, .inl (ri_pu (ri_goto 145))), (144, .inl (ri_pu (ri_icon 0 1))), (145, .inr (.inr 2)), (146, .inl (ri_pu (ri_aload 0 1))), (147, .inl (ri_pu (ri_iload 1 1))), (148, .inr (.inl (55, 2, none))), (151, .inr (.inr 2))] : List (Nat × ri_C)), re_ok Ex D dT 54 q :=
  re_a (re_r ⟨(by decide +kernel), rfl⟩) <|
  re_a (re_p (ro_iload (by decide +kernel))) <|
  re_a (re_p (ro_if_ne (by decide +kernel) (by decide +kernel))) <|
  re_a (re_p (ro_iload (by decide +kernel))) <|
  re_a (re_p (ro_if_ne (by decide +kernel) (by decide +kernel))) <|
  re_a (re_p (ro_aload_n (by decide +kernel) rfl)) <|
  re_a (re_p (ro_iload_n (by decide +kernel) rfl)) <|
  re_a (re_p (ro_iconst (by decide +kernel) (by decide +kernel))) <|
  re_a (re_p (ro_iload_n (by decide +kernel) rfl)) <|
  re_a (re_p (ro_imul (by decide +kernel))) <|
  re_a (re_p (ro_iconst (by decide +kernel) (by decide +kernel))) <|
  re_a (re_p (ro_isub (by decide +kernel))) <|
  re_a (re_c (ck_X4_31 (by decide +kernel))) <|
  re_a (re_p (ro_if_ne (by decide +kernel) (by decide +kernel))) <|
  re_a (re_p (ro_iconst (by decide +kernel) (by decide +kernel))) <|
  re_a (re_p (ro_goto (by decide +kernel) (by decide +kernel))) <|
  re_a (re_p (ro_iconst (by decide +kernel) (by decide +kernel))) <|
  re_a (re_r ⟨(by decide +kernel), rfl⟩) <|
  re_a (re_p (ro_iload_n (by decide +kernel) rfl)) <|
  re_a (re_p (ro_if_ne (by decide +kernel) (by decide +kernel))) <|
  re_a (re_p (ro_iload (by decide +kernel))) <|
  re_a (re_p (ro_if_ne (by decide +kernel) (by decide +kernel))) <|
  re_a (re_p (ro_aload_n (by decide +kernel) rfl)) <|
  re_a (re_p (ro_iload_n (by decide +kernel) rfl)) <|
  re_a (re_p (ro_iload (by decide +kernel))) <|
  re_a (re_p (ro_iconst (by decide +kernel) (by decide +kernel))) <|
  re_a (re_p (ro_isub (by decide +kernel))) <|
  re_a (re_c (ck_X4_34 (by decide +kernel))) <|
  re_a (re_p (ro_if_eq (by decide +kernel) (by decide +kernel))) <|
  re_a (re_p (ro_iconst (by decide +kernel) (by decide +kernel))) <|
  re_a (re_p (ro_goto (by decide +kernel) (by decide +kernel))) <|
  re_a (re_p (ro_iconst (by decide +kernel) (by decide +kernel))) <|
  re_a (re_r ⟨(by decide +kernel), rfl⟩) <|
  re_a (re_p (ro_aload_n (by decide +kernel) rfl)) <|
  re_a (re_p (ro_iload_n (by decide +kernel) rfl)) <|
  re_a (re_c (ck_X4_38 (by decide +kernel))) <|
  re_a (re_r ⟨(by decide +kernel), rfl⟩) <|
  re_n
theorem mk_54 : ∀ q ∈ TL_54, re_ok Ex D dT 54 q := re_m mk_54_0 (mk_54_1)
theorem mk_55_0 : ∀ q ∈ ([(0, .inl (ri_pu (ri_iload 1 1))), (1, .inl (ri_pu (ri_icon 1000 3))), (4, .inl (ri_pu (ri_idr fun x y => x / y))), (5, .inl (ri_pu (ri_icon 10 2))), (7, .inl (ri_pu (ri_idr fun x y => x - x / y * y))), (8, .inl (ri_pu (ri_istore 2 1))), (9, .inl (ri_pu (ri_iload 1 1))), (10, .inl (ri_pu (ri_icon 100 2))), (12, .inl (ri_pu (ri_idr fun x y => x / y))), (13, .inl (ri_pu (ri_icon 10 2))), (15, .inl (ri_pu (ri_idr fun x y => x - x / y * y))), (16, .inl (ri_pu (ri_istore 3 1))), (17, .inl (ri_pu (ri_iload 1 1))), (18, .inl (ri_pu (ri_icon 10 2))), (20, .inl (ri_pu (ri_idr fun x y => x / y))), (21, .inl (ri_pu (ri_icon 10 2))), (23, .inl (ri_pu (ri_idr fun x y => x - x / y * y))), (24, .inl (ri_pu (ri_istore 4 2))), (26, .inl (ri_pu (ri_iload 1 1))), (27, .inl (ri_pu (ri_icon 10 2))), (29, .inl (ri_pu (ri_idr fun x y => x - x / y * y))), (30, .inl (ri_pu (ri_istore 5 2))), (32, .inl (ri_pu (ri_icon 10 2))), (34, .inl (ri_pu (ri_iload 4 2))), (36, .inl (ri_pu (ri_ib fun x y => x * y))), (37, .inl (ri_pu (ri_iload 5 2))), (39, .inl (ri_pu (ri_ib fun x y => x + y))), (40, .inl (ri_pu (ri_istore 6 2))), (42, .inl (ri_pu (ri_iload 1 1))), (43, .inl (ri_pu (ri_icon 10000 3))), (46, .inl (ri_pu (ri_idr fun x y => x / y))), (47, .inl (ri_pu (ri_switch 4 [84, 133, 175, 198, 233, 271] 308))), (84, .inl (ri_pu (ri_iload 5 2))), (86, .inl (ri_pu (ri_if (fun x => decide (¬ x = 0)) 131))), (89, .inl (ri_pu (ri_aload 0 1))), (90, .inl (ri_getf 3 2)), (93, .inl (ri_pu (ri_iload 2 1))), (94, .inr (.inl (1, 2, some 0))), (97, .inl (ri_pu (ri_if (fun x => decide (x = 0)) 131))), (100, .inl (ri_pu (ri_aload 0 1)))] : List (Nat × ri_C)), re_ok Ex D dT 55 q :=
  re_a (re_p (ro_iload_n (by decide +kernel) rfl)) <|
  re_a (re_p (ro_sipush (by decide +kernel) (by decide +kernel))) <|
  re_a (re_p (ro_idiv (by decide +kernel))) <|
  re_a (re_p (ro_bipush (by decide +kernel) (by decide +kernel))) <|
  re_a (re_p (ro_irem (by decide +kernel))) <|
  re_a (re_p (ro_istore_n (by decide +kernel) rfl (by decide +kernel))) <|
  re_a (re_p (ro_iload_n (by decide +kernel) rfl)) <|
  re_a (re_p (ro_bipush (by decide +kernel) (by decide +kernel))) <|
  re_a (re_p (ro_idiv (by decide +kernel))) <|
  re_a (re_p (ro_bipush (by decide +kernel) (by decide +kernel))) <|
  re_a (re_p (ro_irem (by decide +kernel))) <|
  re_a (re_p (ro_istore_n (by decide +kernel) rfl (by decide +kernel))) <|
  re_a (re_p (ro_iload_n (by decide +kernel) rfl)) <|
  re_a (re_p (ro_bipush (by decide +kernel) (by decide +kernel))) <|
  re_a (re_p (ro_idiv (by decide +kernel))) <|
  re_a (re_p (ro_bipush (by decide +kernel) (by decide +kernel))) <|
  re_a (re_p (ro_irem (by decide +kernel))) <|
  re_a (re_p (ro_istore (by decide +kernel) (by decide +kernel))) <|
  re_a (re_p (ro_iload_n (by decide +kernel) rfl)) <|
  re_a (re_p (ro_bipush (by decide +kernel) (by decide +kernel))) <|
  re_a (re_p (ro_irem (by decide +kernel))) <|
  re_a (re_p (ro_istore (by decide +kernel) (by decide +kernel))) <|
  re_a (re_p (ro_bipush (by decide +kernel) (by decide +kernel))) <|
  re_a (re_p (ro_iload (by decide +kernel))) <|
  re_a (re_p (ro_imul (by decide +kernel))) <|
  re_a (re_p (ro_iload (by decide +kernel))) <|
  re_a (re_p (ro_iadd (by decide +kernel))) <|
  re_a (re_p (ro_istore (by decide +kernel) (by decide +kernel))) <|
  re_a (re_p (ro_iload_n (by decide +kernel) rfl)) <|
  re_a (re_p (ro_sipush (by decide +kernel) (by decide +kernel))) <|
  re_a (re_p (ro_idiv (by decide +kernel))) <|
  re_a (re_p (ro_switch (by decide +kernel) (by decide +kernel) (by decide +kernel) (by decide +kernel) (by decide +kernel) (by decide +kernel))) <|
  re_a (re_p (ro_iload (by decide +kernel))) <|
  re_a (re_p (ro_if_ne (by decide +kernel) (by decide +kernel))) <|
  re_a (re_p (ro_aload_n (by decide +kernel) rfl)) <|
  re_a (re_h (gf_X4_41 (by decide +kernel)) (rg_getf _ _)) <|
  re_a (re_p (ro_iload_n (by decide +kernel) rfl)) <|
  re_a (re_c (ck_X4_45 (by decide +kernel))) <|
  re_a (re_p (ro_if_eq (by decide +kernel) (by decide +kernel))) <|
  re_a (re_p (ro_aload_n (by decide +kernel) rfl)) <|
  re_n
theorem mk_55_1 : ∀ q ∈ ([(101, .inl (ri_getf 3 0)), (104, .inl (ri_pu (ri_iload 3 1))), (105, .inl (ri_pu (ri_iload 4 2))), (107, .inr (.inl (98, 3, some 7))), (110, .inl (ri_pu (ri_if (fun x => decide (x = 0)) 131))), (113, .inl (ri_pu (ri_aload 0 1))), (114, .inl (ri_pu (ri_iload 2 1))), (115, .inr (.inl (38, 2, some 3))), (118, .inl (ri_pu (ri_iload 3 1))), (119, .inl (ri_pu (ri_iload 4 2))), (121, .inr (.inl (138, 2, none))), (124, .inl (ri_pu (ri_icmp (fun x y => decide (¬ x = y)) 131))), (127, .inl (ri_pu (ri_icon 1 1))), (128, .inl (ri_pu (ri_goto 132))), (131, .inl (ri_pu (ri_icon 0 1))), (132, .inr (.inr 2)), (133, .inl (ri_pu (ri_iload 3 1))), (134, .inl (ri_pu (ri_if (fun x => decide (¬ x = 0)) 173))), (137, .inl (ri_pu (ri_iload 4 2))), (139, .inl (ri_pu (ri_if (fun x => decide (¬ x = 0)) 173))), (142, .inl (ri_pu (ri_aload 0 1))), (143, .inl (ri_getf 3 0)), (146, .inl (ri_pu (ri_iload 2 1))), (147, .inr (.inl (97, 2, some 7))), (150, .inl (ri_pu (ri_if (fun x => decide (x = 0)) 173))), (153, .inl (ri_pu (ri_aload 0 1))), (154, .inl (ri_getf 3 0)), (157, .inl (ri_getf 7 4)), (160, .inl (ri_pu (ri_iload 2 1))), (161, .inr (.inl (140, 2, none))), (164, .inl (ri_pu (ri_iload 5 2))), (166, .inl (ri_pu (ri_icmp (fun x y => decide (¬ x = y)) 173))), (169, .inl (ri_pu (ri_icon 1 1))), (170, .inl (ri_pu (ri_goto 174))), (173, .inl (ri_pu (ri_icon 0 1))), (174, .inr (.inr 2)), (175, .inl (ri_pu (ri_iload 2 1))), (176, .inl (ri_pu (ri_if (fun x => decide (¬ x = 0)) 196))), (179, .inl (ri_pu (ri_iload 3 1))), (180, .inl (ri_pu (ri_if (fun x => decide (¬ x = 0)) 196)))] : List (Nat × ri_C)), re_ok Ex D dT 55 q :=
  re_a (re_h (gf_X4_51 (by decide +kernel)) (rg_getf _ _)) <|
  re_a (re_p (ro_iload_n (by decide +kernel) rfl)) <|
  re_a (re_p (ro_iload (by decide +kernel))) <|
  re_a (re_c (ck_X4_55 (by decide +kernel))) <|
  re_a (re_p (ro_if_eq (by decide +kernel) (by decide +kernel))) <|
  re_a (re_p (ro_aload_n (by decide +kernel) rfl)) <|
  re_a (re_p (ro_iload_n (by decide +kernel) rfl)) <|
  re_a (re_c (ck_X4_60 (by decide +kernel))) <|
  re_a (re_p (ro_iload_n (by decide +kernel) rfl)) <|
  re_a (re_p (ro_iload (by decide +kernel))) <|
  re_a (re_c (ck_X4_64 (by decide +kernel))) <|
  re_a (re_p (ro_icmp_ne (by decide +kernel) (by decide +kernel))) <|
  re_a (re_p (ro_iconst (by decide +kernel) (by decide +kernel))) <|
  re_a (re_p (ro_goto (by decide +kernel) (by decide +kernel))) <|
  re_a (re_p (ro_iconst (by decide +kernel) (by decide +kernel))) <|
  re_a (re_r ⟨(by decide +kernel), rfl⟩) <|
  re_a (re_p (ro_iload_n (by decide +kernel) rfl)) <|
  re_a (re_p (ro_if_ne (by decide +kernel) (by decide +kernel))) <|
  re_a (re_p (ro_iload (by decide +kernel))) <|
  re_a (re_p (ro_if_ne (by decide +kernel) (by decide +kernel))) <|
  re_a (re_p (ro_aload_n (by decide +kernel) rfl)) <|
  re_a (re_h (gf_X4_51 (by decide +kernel)) (rg_getf _ _)) <|
  re_a (re_p (ro_iload_n (by decide +kernel) rfl)) <|
  re_a (re_c (ck_X4_67 (by decide +kernel))) <|
  re_a (re_p (ro_if_eq (by decide +kernel) (by decide +kernel))) <|
  re_a (re_p (ro_aload_n (by decide +kernel) rfl)) <|
  re_a (re_h (gf_X4_51 (by decide +kernel)) (rg_getf _ _)) <|
  re_a (re_h (gf_X4_68 (by decide +kernel)) (rg_getf _ _)) <|
  re_a (re_p (ro_iload_n (by decide +kernel) rfl)) <|
  re_a (re_c (ck_X4_72 (by decide +kernel))) <|
  re_a (re_p (ro_iload (by decide +kernel))) <|
  re_a (re_p (ro_icmp_ne (by decide +kernel) (by decide +kernel))) <|
  re_a (re_p (ro_iconst (by decide +kernel) (by decide +kernel))) <|
  re_a (re_p (ro_goto (by decide +kernel) (by decide +kernel))) <|
  re_a (re_p (ro_iconst (by decide +kernel) (by decide +kernel))) <|
  re_a (re_r ⟨(by decide +kernel), rfl⟩) <|
  re_a (re_p (ro_iload_n (by decide +kernel) rfl)) <|
  re_a (re_p (ro_if_ne (by decide +kernel) (by decide +kernel))) <|
  re_a (re_p (ro_iload_n (by decide +kernel) rfl)) <|
  re_a (re_p (ro_if_ne (by decide +kernel) (by decide +kernel))) <|
  re_n
theorem mk_55_2 : ∀ q ∈ ([(183, .inl (ri_pu (ri_aload 0 1))), (184, .inl (ri_getf 3 4)), (187, .inl (ri_pu (ri_iload 6 2))), (189, .inl (ri_pu (ri_icmp (fun x y => decide (x < y)) 196))), (192, .inl (ri_pu (ri_icon 1 1))), (193, .inl (ri_pu (ri_goto 197))), (196, .inl (ri_pu (ri_icon 0 1))), (197, .inr (.inr 2)), (198, .inl (ri_pu (ri_iload 4 2))), (200, .inl (ri_pu (ri_if (fun x => decide (¬ x = 0)) 231))), (203, .inl (ri_pu (ri_aload 0 1))), (204, .inl (ri_getf 3 0)), (207, .inl (ri_pu (ri_iload 2 1))), (208, .inl (ri_pu (ri_iload 3 1))), (209, .inr (.inl (98, 3, some 7))), (212, .inl (ri_pu (ri_if (fun x => decide (x = 0)) 231))), (215, .inl (ri_pu (ri_aload 0 1))), (216, .inl (ri_pu (ri_iload 2 1))), (217, .inl (ri_pu (ri_iload 3 1))), (218, .inl (ri_pu (ri_icon 1 1))), (219, .inr (.inl (49, 4, some 3))), (222, .inl (ri_pu (ri_iload 5 2))), (224, .inl (ri_pu (ri_icmp (fun x y => decide (x < y)) 231))), (227, .inl (ri_pu (ri_icon 1 1))), (228, .inl (ri_pu (ri_goto 232))), (231, .inl (ri_pu (ri_icon 0 1))), (232, .inr (.inr 2)), (233, .inl (ri_pu (ri_aload 0 1))), (234, .inl (ri_pu (ri_iload 2 1))), (235, .inl (ri_pu (ri_icon 10 2))), (237, .inl (ri_pu (ri_iload 3 1))), (238, .inl (ri_pu (ri_ib fun x y => x * y))), (239, .inl (ri_pu (ri_iload 4 2))), (241, .inl (ri_pu (ri_ib fun x y => x + y))), (242, .inr (.inl (27, 3, some 3))), (245, .inl (ri_pu (ri_if (fun x => decide (¬ x = 0)) 269))), (248, .inl (ri_pu (ri_aload 0 1))), (249, .inl (ri_pu (ri_iload 2 1))), (250, .inl (ri_pu (ri_icon 10 2))), (252, .inl (ri_pu (ri_iload 3 1)))] : List (Nat × ri_C)), re_ok Ex D dT 55 q :=
  re_a (re_p (ro_aload_n (by decide +kernel) rfl)) <|
  re_a (re_h (gf_X4_76 (by decide +kernel)) (rg_getf _ _)) <|
  re_a (re_p (ro_iload (by decide +kernel))) <|
  re_a (re_p (ro_icmp_lt (by decide +kernel) (by decide +kernel))) <|
  re_a (re_p (ro_iconst (by decide +kernel) (by decide +kernel))) <|
  re_a (re_p (ro_goto (by decide +kernel) (by decide +kernel))) <|
  re_a (re_p (ro_iconst (by decide +kernel) (by decide +kernel))) <|
  re_a (re_r ⟨(by decide +kernel), rfl⟩) <|
  re_a (re_p (ro_iload (by decide +kernel))) <|
  re_a (re_p (ro_if_ne (by decide +kernel) (by decide +kernel))) <|
  re_a (re_p (ro_aload_n (by decide +kernel) rfl)) <|
  re_a (re_h (gf_X4_51 (by decide +kernel)) (rg_getf _ _)) <|
  re_a (re_p (ro_iload_n (by decide +kernel) rfl)) <|
  re_a (re_p (ro_iload_n (by decide +kernel) rfl)) <|
  re_a (re_c (ck_X4_55 (by decide +kernel))) <|
  re_a (re_p (ro_if_eq (by decide +kernel) (by decide +kernel))) <|
  re_a (re_p (ro_aload_n (by decide +kernel) rfl)) <|
  re_a (re_p (ro_iload_n (by decide +kernel) rfl)) <|
  re_a (re_p (ro_iload_n (by decide +kernel) rfl)) <|
  re_a (re_p (ro_iconst (by decide +kernel) (by decide +kernel))) <|
  re_a (re_c (ck_X4_80 (by decide +kernel))) <|
  re_a (re_p (ro_iload (by decide +kernel))) <|
  re_a (re_p (ro_icmp_lt (by decide +kernel) (by decide +kernel))) <|
  re_a (re_p (ro_iconst (by decide +kernel) (by decide +kernel))) <|
  re_a (re_p (ro_goto (by decide +kernel) (by decide +kernel))) <|
  re_a (re_p (ro_iconst (by decide +kernel) (by decide +kernel))) <|
  re_a (re_r ⟨(by decide +kernel), rfl⟩) <|
  re_a (re_p (ro_aload_n (by decide +kernel) rfl)) <|
  re_a (re_p (ro_iload_n (by decide +kernel) rfl)) <|
  re_a (re_p (ro_bipush (by decide +kernel) (by decide +kernel))) <|
  re_a (re_p (ro_iload_n (by decide +kernel) rfl)) <|
  re_a (re_p (ro_imul (by decide +kernel))) <|
  re_a (re_p (ro_iload (by decide +kernel))) <|
  re_a (re_p (ro_iadd (by decide +kernel))) <|
  re_a (re_c (ck_X4_84 (by decide +kernel))) <|
  re_a (re_p (ro_if_ne (by decide +kernel) (by decide +kernel))) <|
  re_a (re_p (ro_aload_n (by decide +kernel) rfl)) <|
  re_a (re_p (ro_iload_n (by decide +kernel) rfl)) <|
  re_a (re_p (ro_bipush (by decide +kernel) (by decide +kernel))) <|
  re_a (re_p (ro_iload_n (by decide +kernel) rfl)) <|
  re_n
theorem mk_55_3 : ∀ q ∈ ([(253, .inl (ri_pu (ri_ib fun x y => x * y))), (254, .inl (ri_pu (ri_iload 4 2))), (256, .inl (ri_pu (ri_ib fun x y => x + y))), (257, .inr (.inl (40, 3, some 3))), (260, .inl (ri_pu (ri_iload 5 2))), (262, .inl (ri_pu (ri_icmp (fun x y => decide (¬ x = y)) 269))), (265, .inl (ri_pu (ri_icon 1 1))), (266, .inl (ri_pu (ri_goto 270))), (269, .inl (ri_pu (ri_icon 0 1))), (270, .inr (.inr 2)), (271, .inl (ri_pu (ri_iload 3 1))), (272, .inl (ri_pu (ri_if (fun x => decide (¬ x = 0)) 306))), (275, .inl (ri_pu (ri_aload 0 1))), (276, .inl (ri_getf 3 2)), (279, .inl (ri_pu (ri_iload 2 1))), (280, .inr (.inl (1, 2, some 0))), (283, .inl (ri_pu (ri_if (fun x => decide (x = 0)) 306))), (286, .inl (ri_pu (ri_aload 0 1))), (287, .inl (ri_getf 3 2)), (290, .inl (ri_getf 0 4)), (293, .inl (ri_pu (ri_iload 2 1))), (294, .inr (.inl (140, 2, none))), (297, .inl (ri_pu (ri_iload 6 2))), (299, .inl (ri_pu (ri_icmp (fun x y => decide (x < y)) 306))), (302, .inl (ri_pu (ri_icon 1 1))), (303, .inl (ri_pu (ri_goto 307))), (306, .inl (ri_pu (ri_icon 0 1))), (307, .inr (.inr 2)), (308, .inl (ri_pu (ri_icon 0 1))), (309, .inr (.inr 2))] : List (Nat × ri_C)), re_ok Ex D dT 55 q :=
  re_a (re_p (ro_imul (by decide +kernel))) <|
  re_a (re_p (ro_iload (by decide +kernel))) <|
  re_a (re_p (ro_iadd (by decide +kernel))) <|
  re_a (re_c (ck_X4_87 (by decide +kernel))) <|
  re_a (re_p (ro_iload (by decide +kernel))) <|
  re_a (re_p (ro_icmp_ne (by decide +kernel) (by decide +kernel))) <|
  re_a (re_p (ro_iconst (by decide +kernel) (by decide +kernel))) <|
  re_a (re_p (ro_goto (by decide +kernel) (by decide +kernel))) <|
  re_a (re_p (ro_iconst (by decide +kernel) (by decide +kernel))) <|
  re_a (re_r ⟨(by decide +kernel), rfl⟩) <|
  re_a (re_p (ro_iload_n (by decide +kernel) rfl)) <|
  re_a (re_p (ro_if_ne (by decide +kernel) (by decide +kernel))) <|
  re_a (re_p (ro_aload_n (by decide +kernel) rfl)) <|
  re_a (re_h (gf_X4_41 (by decide +kernel)) (rg_getf _ _)) <|
  re_a (re_p (ro_iload_n (by decide +kernel) rfl)) <|
  re_a (re_c (ck_X4_45 (by decide +kernel))) <|
  re_a (re_p (ro_if_eq (by decide +kernel) (by decide +kernel))) <|
  re_a (re_p (ro_aload_n (by decide +kernel) rfl)) <|
  re_a (re_h (gf_X4_41 (by decide +kernel)) (rg_getf _ _)) <|
  re_a (re_h (gf_X4_90 (by decide +kernel)) (rg_getf _ _)) <|
  re_a (re_p (ro_iload_n (by decide +kernel) rfl)) <|
  re_a (re_c (ck_X4_72 (by decide +kernel))) <|
  re_a (re_p (ro_iload (by decide +kernel))) <|
  re_a (re_p (ro_icmp_lt (by decide +kernel) (by decide +kernel))) <|
  re_a (re_p (ro_iconst (by decide +kernel) (by decide +kernel))) <|
  re_a (re_p (ro_goto (by decide +kernel) (by decide +kernel))) <|
  re_a (re_p (ro_iconst (by decide +kernel) (by decide +kernel))) <|
  re_a (re_r ⟨(by decide +kernel), rfl⟩) <|
  re_a (re_p (ro_iconst (by decide +kernel) (by decide +kernel))) <|
  re_a (re_r ⟨(by decide +kernel), rfl⟩) <|
  re_n
theorem mk_55 : ∀ q ∈ TL_55, re_ok Ex D dT 55 q := re_m mk_55_0 (re_m mk_55_1 (re_m mk_55_2 (mk_55_3)))
theorem mk_56_0 : ∀ q ∈ ([(0, .inl (ri_pu (ri_aload 0 1))), (1, .inl (ri_pu ri_oinit)), (4, .inl (ri_pu (ri_aload 0 1))), (5, .inl (ri_pu (ri_icon 15 2))), (7, .inl (ri_newa 0)), (9, .inl (ri_putr 4 0)), (12, .inl (ri_pu (ri_aload 0 1))), (13, .inl (ri_pu (ri_icon 15 2))), (15, .inl (ri_newa 0)), (17, .inl (ri_putr 4 1)), (20, .inl (ri_pu (ri_aload 0 1))), (21, .inl (ri_pu (ri_icon 15 2))), (23, .inl (ri_newa 0)), (25, .inl (ri_putr 4 2)), (28, .inl (ri_pu (ri_aload 0 1))), (29, .inl (ri_pu (ri_icon 1875 3))), (32, .inl (ri_newa 0)), (34, .inl (ri_putr 4 3)), (37, .inl (ri_pu (ri_aload 0 1))), (38, .inl (ri_pu (ri_icon 150 3))), (41, .inl (ri_newa 0)), (43, .inl (ri_putr 4 4)), (46, .inl (ri_pu (ri_aload 0 1))), (47, .inl (ri_pu (ri_icon 15 2))), (49, .inl (ri_newa 0)), (51, .inl (ri_putr 4 5)), (54, .inl (ri_pu (ri_aload 0 1))), (55, .inl (ri_pu (ri_icon 1875 3))), (58, .inl (ri_newa 0)), (60, .inl (ri_putr 4 6)), (63, .inl (ri_pu (ri_aload 0 1))), (64, .inl (ri_pu (ri_icon 1875 3))), (67, .inl (ri_newa 0)), (69, .inl (ri_putr 4 7)), (72, .inl (ri_pu (ri_aload 0 1))), (73, .inl (ri_pu (ri_icon 15 2))), (75, .inl (ri_newa 0)), (77, .inl (ri_putr 4 8)), (80, .inl (ri_pu (ri_aload 0 1))), (81, .inl (ri_pu (ri_icon 0 1)))] : List (Nat × ri_C)), re_ok Ex D dT 56 q :=
  re_a (re_p (ro_aload_n (by decide +kernel) rfl)) <|
  re_a (re_p (ro_oinit (by decide +kernel) q_227 q_32 q_33)) <|
  re_a (re_p (ro_aload_n (by decide +kernel) rfl)) <|
  re_a (re_p (ro_bipush (by decide +kernel) (by decide +kernel))) <|
  re_a (re_h (rh_newi q_47 (by decide +kernel)) (rg_newa _)) <|
  re_a (re_h (pf_X5_11 (by decide +kernel)) (rg_putr _ _)) <|
  re_a (re_p (ro_aload_n (by decide +kernel) rfl)) <|
  re_a (re_p (ro_bipush (by decide +kernel) (by decide +kernel))) <|
  re_a (re_h (rh_newi q_47 (by decide +kernel)) (rg_newa _)) <|
  re_a (re_h (pf_X5_15 (by decide +kernel)) (rg_putr _ _)) <|
  re_a (re_p (ro_aload_n (by decide +kernel) rfl)) <|
  re_a (re_p (ro_bipush (by decide +kernel) (by decide +kernel))) <|
  re_a (re_h (rh_newi q_47 (by decide +kernel)) (rg_newa _)) <|
  re_a (re_h (pf_X5_18 (by decide +kernel)) (rg_putr _ _)) <|
  re_a (re_p (ro_aload_n (by decide +kernel) rfl)) <|
  re_a (re_p (ro_sipush (by decide +kernel) (by decide +kernel))) <|
  re_a (re_h (rh_newi q_47 (by decide +kernel)) (rg_newa _)) <|
  re_a (re_h (pf_X5_21 (by decide +kernel)) (rg_putr _ _)) <|
  re_a (re_p (ro_aload_n (by decide +kernel) rfl)) <|
  re_a (re_p (ro_sipush (by decide +kernel) (by decide +kernel))) <|
  re_a (re_h (rh_newi q_47 (by decide +kernel)) (rg_newa _)) <|
  re_a (re_h (pf_X5_24 (by decide +kernel)) (rg_putr _ _)) <|
  re_a (re_p (ro_aload_n (by decide +kernel) rfl)) <|
  re_a (re_p (ro_bipush (by decide +kernel) (by decide +kernel))) <|
  re_a (re_h (rh_newi q_47 (by decide +kernel)) (rg_newa _)) <|
  re_a (re_h (pf_X5_27 (by decide +kernel)) (rg_putr _ _)) <|
  re_a (re_p (ro_aload_n (by decide +kernel) rfl)) <|
  re_a (re_p (ro_sipush (by decide +kernel) (by decide +kernel))) <|
  re_a (re_h (rh_newi q_47 (by decide +kernel)) (rg_newa _)) <|
  re_a (re_h (pf_X5_30 (by decide +kernel)) (rg_putr _ _)) <|
  re_a (re_p (ro_aload_n (by decide +kernel) rfl)) <|
  re_a (re_p (ro_sipush (by decide +kernel) (by decide +kernel))) <|
  re_a (re_h (rh_newi q_47 (by decide +kernel)) (rg_newa _)) <|
  re_a (re_h (pf_X5_33 (by decide +kernel)) (rg_putr _ _)) <|
  re_a (re_p (ro_aload_n (by decide +kernel) rfl)) <|
  re_a (re_p (ro_bipush (by decide +kernel) (by decide +kernel))) <|
  re_a (re_h (rh_newi q_47 (by decide +kernel)) (rg_newa _)) <|
  re_a (re_h (pf_X5_36 (by decide +kernel)) (rg_putr _ _)) <|
  re_a (re_p (ro_aload_n (by decide +kernel) rfl)) <|
  re_a (re_p (ro_iconst (by decide +kernel) (by decide +kernel))) <|
  re_n
theorem mk_56_1 : ∀ q ∈ ([(82, .inl (ri_puti 4 9)), (85, .inr (.inr 0))] : List (Nat × ri_C)), re_ok Ex D dT 56 q :=
  re_a (re_h (pf_X5_39 (by decide +kernel)) (rg_puti _ _)) <|
  re_a (re_r ⟨(by decide +kernel), rfl⟩) <|
  re_n
theorem mk_56 : ∀ q ∈ TL_56, re_ok Ex D dT 56 q := re_m mk_56_0 (mk_56_1)
theorem mk_57_0 : ∀ q ∈ ([(0, .inl (ri_pu (ri_aload 0 1))), (1, .inl (ri_pu (ri_aload 1 1))), (2, .inr (.inl (60, 2, some 4))), (5, .inl (ri_pu (ri_aload 0 1))), (6, .inl (ri_pu (ri_aload 1 1))), (7, .inl (ri_pu (ri_iload 2 1))), (8, .inr (.inl (62, 3, some 4))), (11, .inl (ri_pu (ri_aload 0 1))), (12, .inl (ri_pu (ri_aload 1 1))), (13, .inl (ri_pu (ri_iload 2 1))), (14, .inr (.inl (63, 3, some 4))), (17, .inl (ri_pu (ri_icon 0 1))), (18, .inl (ri_pu (ri_istore 3 1))), (19, .inl (ri_pu (ri_iload 3 1))), (20, .inl (ri_pu (ri_icon 125 2))), (22, .inl (ri_pu (ri_icmp (fun x y => decide (y ≤ x)) 40))), (25, .inl (ri_pu (ri_aload 0 1))), (26, .inl (ri_pu (ri_aload 1 1))), (27, .inl (ri_getf 3 0)), (30, .inl (ri_pu (ri_iload 3 1))), (31, .inr (.inl (64, 3, some 4))), (34, .inl (ri_pu (ri_iinc 3 1))), (37, .inl (ri_pu (ri_goto 19))), (40, .inl (ri_pu (ri_icon 0 1))), (41, .inl (ri_pu (ri_istore 3 1))), (42, .inl (ri_pu (ri_icon 0 1))), (43, .inl (ri_pu (ri_istore 4 2))), (45, .inl (ri_pu (ri_iload 4 2))), (47, .inl (ri_pu (ri_aload 1 1))), (48, .inl (ri_getf 3 0)), (51, .inl (ri_getf 7 0)), (54, .inl (ri_pu (ri_icmp (fun x y => decide (y ≤ x)) 84))), (57, .inl (ri_pu (ri_iload 3 1))), (58, .inl (ri_pu (ri_aload 1 1))), (59, .inl (ri_getf 3 0)), (62, .inl (ri_getf 7 4)), (65, .inl (ri_pu (ri_iload 4 2))), (67, .inr (.inl (140, 2, none))), (70, .inl (ri_pu (ri_iload 4 2))), (72, .inr (.inl (58, 1, none)))] : List (Nat × ri_C)), re_ok Ex D dT 57 q :=
  re_a (re_p (ro_aload_n (by decide +kernel) rfl)) <|
  re_a (re_p (ro_aload_n (by decide +kernel) rfl)) <|
  re_a (re_c (ck_X5_43 (by decide +kernel))) <|
  re_a (re_p (ro_aload_n (by decide +kernel) rfl)) <|
  re_a (re_p (ro_aload_n (by decide +kernel) rfl)) <|
  re_a (re_p (ro_iload_n (by decide +kernel) rfl)) <|
  re_a (re_c (ck_X5_47 (by decide +kernel))) <|
  re_a (re_p (ro_aload_n (by decide +kernel) rfl)) <|
  re_a (re_p (ro_aload_n (by decide +kernel) rfl)) <|
  re_a (re_p (ro_iload_n (by decide +kernel) rfl)) <|
  re_a (re_c (ck_X5_51 (by decide +kernel))) <|
  re_a (re_p (ro_iconst (by decide +kernel) (by decide +kernel))) <|
  re_a (re_p (ro_istore_n (by decide +kernel) rfl (by decide +kernel))) <|
  re_a (re_p (ro_iload_n (by decide +kernel) rfl)) <|
  re_a (re_p (ro_bipush (by decide +kernel) (by decide +kernel))) <|
  re_a (re_p (ro_icmp_ge (by decide +kernel) (by decide +kernel))) <|
  re_a (re_p (ro_aload_n (by decide +kernel) rfl)) <|
  re_a (re_p (ro_aload_n (by decide +kernel) rfl)) <|
  re_a (re_h (gf_X5_54 (by decide +kernel)) (rg_getf _ _)) <|
  re_a (re_p (ro_iload_n (by decide +kernel) rfl)) <|
  re_a (re_c (ck_X5_60 (by decide +kernel))) <|
  re_a (re_p (ro_iinc (by decide +kernel) (by decide +kernel) (by decide +kernel))) <|
  re_a (re_p (ro_goto (by decide +kernel) (by decide +kernel))) <|
  re_a (re_p (ro_iconst (by decide +kernel) (by decide +kernel))) <|
  re_a (re_p (ro_istore_n (by decide +kernel) rfl (by decide +kernel))) <|
  re_a (re_p (ro_iconst (by decide +kernel) (by decide +kernel))) <|
  re_a (re_p (ro_istore (by decide +kernel) (by decide +kernel))) <|
  re_a (re_p (ro_iload (by decide +kernel))) <|
  re_a (re_p (ro_aload_n (by decide +kernel) rfl)) <|
  re_a (re_h (gf_X5_54 (by decide +kernel)) (rg_getf _ _)) <|
  re_a (re_h (gf_X5_64 (by decide +kernel)) (rg_getf _ _)) <|
  re_a (re_p (ro_icmp_ge (by decide +kernel) (by decide +kernel))) <|
  re_a (re_p (ro_iload_n (by decide +kernel) rfl)) <|
  re_a (re_p (ro_aload_n (by decide +kernel) rfl)) <|
  re_a (re_h (gf_X5_54 (by decide +kernel)) (rg_getf _ _)) <|
  re_a (re_h (gf_X5_69 (by decide +kernel)) (rg_getf _ _)) <|
  re_a (re_p (ro_iload (by decide +kernel))) <|
  re_a (re_c (ck_X5_72 (by decide +kernel))) <|
  re_a (re_p (ro_iload (by decide +kernel))) <|
  re_a (re_c (ck_X5_76 (by decide +kernel))) <|
  re_n
theorem mk_57_1 : ∀ q ∈ ([(75, .inl (ri_pu (ri_ib fun x y => x * y))), (76, .inl (ri_pu (ri_ib fun x y => x + y))), (77, .inl (ri_pu (ri_istore 3 1))), (78, .inl (ri_pu (ri_iinc 4 1))), (81, .inl (ri_pu (ri_goto 45))), (84, .inl (ri_pu (ri_aload 0 1))), (85, .inl (ri_pu (ri_iload 3 1))), (86, .inl (ri_pu (ri_icon 15 2))), (88, .inl (ri_pu (ri_ib fun x y => x * y))), (89, .inl (ri_pu (ri_aload 1 1))), (90, .inl (ri_pu (ri_iload 2 1))), (91, .inr (.inl (38, 2, some 3))), (94, .inl (ri_pu (ri_ib fun x y => x + y))), (95, .inl (ri_puti 4 9)), (98, .inr (.inr 0))] : List (Nat × ri_C)), re_ok Ex D dT 57 q :=
  re_a (re_p (ro_imul (by decide +kernel))) <|
  re_a (re_p (ro_iadd (by decide +kernel))) <|
  re_a (re_p (ro_istore_n (by decide +kernel) rfl (by decide +kernel))) <|
  re_a (re_p (ro_iinc (by decide +kernel) (by decide +kernel) (by decide +kernel))) <|
  re_a (re_p (ro_goto (by decide +kernel) (by decide +kernel))) <|
  re_a (re_p (ro_aload_n (by decide +kernel) rfl)) <|
  re_a (re_p (ro_iload_n (by decide +kernel) rfl)) <|
  re_a (re_p (ro_bipush (by decide +kernel) (by decide +kernel))) <|
  re_a (re_p (ro_imul (by decide +kernel))) <|
  re_a (re_p (ro_aload_n (by decide +kernel) rfl)) <|
  re_a (re_p (ro_iload_n (by decide +kernel) rfl)) <|
  re_a (re_c (ck_X5_80 (by decide +kernel))) <|
  re_a (re_p (ro_iadd (by decide +kernel))) <|
  re_a (re_h (pf_X5_39 (by decide +kernel)) (rg_puti _ _)) <|
  re_a (re_r ⟨(by decide +kernel), rfl⟩) <|
  re_n
theorem mk_57 : ∀ q ∈ TL_57, re_ok Ex D dT 57 q := re_m mk_57_0 (mk_57_1)
theorem mk_58 : ∀ q ∈ TL_58, re_ok Ex D dT 58 q :=
  re_a (re_p (ro_iload_n (by decide +kernel) rfl)) <|
  re_a (re_p (ro_if_ne (by decide +kernel) (by decide +kernel))) <|
  re_a (re_p (ro_bipush (by decide +kernel) (by decide +kernel))) <|
  re_a (re_p (ro_goto (by decide +kernel) (by decide +kernel))) <|
  re_a (re_p (ro_iload_n (by decide +kernel) rfl)) <|
  re_a (re_p (ro_iconst (by decide +kernel) (by decide +kernel))) <|
  re_a (re_p (ro_icmp_ne (by decide +kernel) (by decide +kernel))) <|
  re_a (re_p (ro_iconst (by decide +kernel) (by decide +kernel))) <|
  re_a (re_p (ro_goto (by decide +kernel) (by decide +kernel))) <|
  re_a (re_p (ro_iconst (by decide +kernel) (by decide +kernel))) <|
  re_a (re_r ⟨(by decide +kernel), rfl⟩) <|
  re_n
theorem mk_59 : ∀ q ∈ TL_59, re_ok Ex D dT 59 q :=
  re_a (re_p (ro_iload_n (by decide +kernel) rfl)) <|
  re_a (re_p (ro_if_ne (by decide +kernel) (by decide +kernel))) <|
  re_a (re_p (ro_iload_n (by decide +kernel) rfl)) <|
  re_a (re_p (ro_bipush (by decide +kernel) (by decide +kernel))) <|
  re_a (re_p (ro_idiv (by decide +kernel))) <|
  re_a (re_p (ro_goto (by decide +kernel) (by decide +kernel))) <|
  re_a (re_p (ro_iload_n (by decide +kernel) rfl)) <|
  re_a (re_p (ro_iconst (by decide +kernel) (by decide +kernel))) <|
  re_a (re_p (ro_icmp_ne (by decide +kernel) (by decide +kernel))) <|
  re_a (re_p (ro_iload_n (by decide +kernel) rfl)) <|
  re_a (re_p (ro_iconst (by decide +kernel) (by decide +kernel))) <|
  re_a (re_p (ro_idiv (by decide +kernel))) <|
  re_a (re_p (ro_iconst (by decide +kernel) (by decide +kernel))) <|
  re_a (re_p (ro_irem (by decide +kernel))) <|
  re_a (re_p (ro_goto (by decide +kernel) (by decide +kernel))) <|
  re_a (re_p (ro_iload_n (by decide +kernel) rfl)) <|
  re_a (re_p (ro_iconst (by decide +kernel) (by decide +kernel))) <|
  re_a (re_p (ro_irem (by decide +kernel))) <|
  re_a (re_r ⟨(by decide +kernel), rfl⟩) <|
  re_n
theorem mk_60_0 : ∀ q ∈ ([(0, .inl (ri_pu (ri_aload 0 1))), (1, .inl (ri_getf 4 5)), (4, .inl (ri_pu (ri_icon 0 1))), (5, .inr (.inl (229, 2, none))), (8, .inl (ri_pu (ri_icon 0 1))), (9, .inl (ri_pu (ri_istore 2 1))), (10, .inl (ri_pu (ri_iload 2 1))), (11, .inl (ri_pu (ri_aload 1 1))), (12, .inl (ri_getf 3 0)), (15, .inl (ri_getf 7 0)), (18, .inl (ri_pu (ri_icmp (fun x y => decide (y ≤ x)) 98))), (21, .inl (ri_pu (ri_aload 1 1))), (22, .inl (ri_getf 3 0)), (25, .inl (ri_getf 7 1)), (28, .inl (ri_pu (ri_iload 2 1))), (29, .inr (.inl (140, 2, none))), (32, .inl (ri_pu (ri_istore 3 1))), (33, .inl (ri_pu (ri_icon 0 1))), (34, .inl (ri_pu (ri_istore 4 2))), (36, .inl (ri_pu (ri_iload 4 2))), (38, .inl (ri_pu (ri_iload 3 1))), (39, .inl (ri_pu (ri_icmp (fun x y => decide (y ≤ x)) 92))), (42, .inl (ri_pu (ri_aload 0 1))), (43, .inl (ri_pu (ri_iload 2 1))), (44, .inl (ri_pu (ri_iload 4 2))), (46, .inr (.inl (138, 2, none))), (49, .inl (ri_pu (ri_iload 2 1))), (50, .inl (ri_pu (ri_iload 4 2))), (52, .inl (ri_pu (ri_icon 1 1))), (53, .inl (ri_pu (ri_ib fun x y => x + y))), (54, .inl (ri_pu (ri_iload 3 1))), (55, .inr (.inl (139, 2, none))), (58, .inr (.inl (138, 2, none))), (61, .inr (.inl (61, 3, some 4))), (64, .inl (ri_pu (ri_aload 0 1))), (65, .inl (ri_pu (ri_iload 2 1))), (66, .inl (ri_pu (ri_iload 4 2))), (68, .inr (.inl (138, 2, none))), (71, .inl (ri_pu (ri_iload 2 1))), (72, .inl (ri_pu (ri_iload 4 2)))] : List (Nat × ri_C)), re_ok Ex D dT 60 q :=
  re_a (re_p (ro_aload_n (by decide +kernel) rfl)) <|
  re_a (re_h (gf_X5_27 (by decide +kernel)) (rg_getf _ _)) <|
  re_a (re_p (ro_iconst (by decide +kernel) (by decide +kernel))) <|
  re_a (re_c (ck_X5_83 (by decide +kernel))) <|
  re_a (re_p (ro_iconst (by decide +kernel) (by decide +kernel))) <|
  re_a (re_p (ro_istore_n (by decide +kernel) rfl (by decide +kernel))) <|
  re_a (re_p (ro_iload_n (by decide +kernel) rfl)) <|
  re_a (re_p (ro_aload_n (by decide +kernel) rfl)) <|
  re_a (re_h (gf_X5_54 (by decide +kernel)) (rg_getf _ _)) <|
  re_a (re_h (gf_X5_64 (by decide +kernel)) (rg_getf _ _)) <|
  re_a (re_p (ro_icmp_ge (by decide +kernel) (by decide +kernel))) <|
  re_a (re_p (ro_aload_n (by decide +kernel) rfl)) <|
  re_a (re_h (gf_X5_54 (by decide +kernel)) (rg_getf _ _)) <|
  re_a (re_h (gf_X5_89 (by decide +kernel)) (rg_getf _ _)) <|
  re_a (re_p (ro_iload_n (by decide +kernel) rfl)) <|
  re_a (re_c (ck_X5_72 (by decide +kernel))) <|
  re_a (re_p (ro_istore_n (by decide +kernel) rfl (by decide +kernel))) <|
  re_a (re_p (ro_iconst (by decide +kernel) (by decide +kernel))) <|
  re_a (re_p (ro_istore (by decide +kernel) (by decide +kernel))) <|
  re_a (re_p (ro_iload (by decide +kernel))) <|
  re_a (re_p (ro_iload_n (by decide +kernel) rfl)) <|
  re_a (re_p (ro_icmp_ge (by decide +kernel) (by decide +kernel))) <|
  re_a (re_p (ro_aload_n (by decide +kernel) rfl)) <|
  re_a (re_p (ro_iload_n (by decide +kernel) rfl)) <|
  re_a (re_p (ro_iload (by decide +kernel))) <|
  re_a (re_c (ck_X5_92 (by decide +kernel))) <|
  re_a (re_p (ro_iload_n (by decide +kernel) rfl)) <|
  re_a (re_p (ro_iload (by decide +kernel))) <|
  re_a (re_p (ro_iconst (by decide +kernel) (by decide +kernel))) <|
  re_a (re_p (ro_iadd (by decide +kernel))) <|
  re_a (re_p (ro_iload_n (by decide +kernel) rfl)) <|
  re_a (re_c (ck_X5_96 (by decide +kernel))) <|
  re_a (re_c (ck_X5_92 (by decide +kernel))) <|
  re_a (re_c (ck_X5_99 (by decide +kernel))) <|
  re_a (re_p (ro_aload_n (by decide +kernel) rfl)) <|
  re_a (re_p (ro_iload_n (by decide +kernel) rfl)) <|
  re_a (re_p (ro_iload (by decide +kernel))) <|
  re_a (re_c (ck_X5_92 (by decide +kernel))) <|
  re_a (re_p (ro_iload_n (by decide +kernel) rfl)) <|
  re_a (re_p (ro_iload (by decide +kernel))) <|
  re_n
theorem mk_60_1 : ∀ q ∈ ([(74, .inl (ri_pu (ri_icon 1 1))), (75, .inl (ri_pu (ri_ib fun x y => x - y))), (76, .inl (ri_pu (ri_iload 3 1))), (77, .inr (.inl (139, 2, none))), (80, .inr (.inl (138, 2, none))), (83, .inr (.inl (61, 3, some 4))), (86, .inl (ri_pu (ri_iinc 4 1))), (89, .inl (ri_pu (ri_goto 36))), (92, .inl (ri_pu (ri_iinc 2 1))), (95, .inl (ri_pu (ri_goto 10))), (98, .inl (ri_pu (ri_icon 0 1))), (99, .inl (ri_pu (ri_istore 2 1))), (100, .inl (ri_pu (ri_iload 2 1))), (101, .inl (ri_pu (ri_aload 1 1))), (102, .inl (ri_getf 3 1)), (105, .inl (ri_getf 2 0)), (108, .inl (ri_pu (ri_icmp (fun x y => decide (y ≤ x)) 169))), (111, .inl (ri_pu (ri_aload 0 1))), (112, .inl (ri_pu (ri_aload 1 1))), (113, .inl (ri_getf 3 1)), (116, .inl (ri_getf 2 1)), (119, .inl (ri_pu (ri_iload 2 1))), (120, .inr (.inl (140, 2, none))), (123, .inl (ri_pu (ri_aload 1 1))), (124, .inl (ri_getf 3 1)), (127, .inl (ri_getf 2 2)), (130, .inl (ri_pu (ri_iload 2 1))), (131, .inr (.inl (140, 2, none))), (134, .inr (.inl (61, 3, some 4))), (137, .inl (ri_pu (ri_aload 0 1))), (138, .inl (ri_pu (ri_aload 1 1))), (139, .inl (ri_getf 3 1)), (142, .inl (ri_getf 2 2)), (145, .inl (ri_pu (ri_iload 2 1))), (146, .inr (.inl (140, 2, none))), (149, .inl (ri_pu (ri_aload 1 1))), (150, .inl (ri_getf 3 1)), (153, .inl (ri_getf 2 1)), (156, .inl (ri_pu (ri_iload 2 1))), (157, .inr (.inl (140, 2, none)))] : List (Nat × ri_C)), re_ok Ex D dT 60 q :=
  re_a (re_p (ro_iconst (by decide +kernel) (by decide +kernel))) <|
  re_a (re_p (ro_isub (by decide +kernel))) <|
  re_a (re_p (ro_iload_n (by decide +kernel) rfl)) <|
  re_a (re_c (ck_X5_96 (by decide +kernel))) <|
  re_a (re_c (ck_X5_92 (by decide +kernel))) <|
  re_a (re_c (ck_X5_99 (by decide +kernel))) <|
  re_a (re_p (ro_iinc (by decide +kernel) (by decide +kernel) (by decide +kernel))) <|
  re_a (re_p (ro_goto (by decide +kernel) (by decide +kernel))) <|
  re_a (re_p (ro_iinc (by decide +kernel) (by decide +kernel) (by decide +kernel))) <|
  re_a (re_p (ro_goto (by decide +kernel) (by decide +kernel))) <|
  re_a (re_p (ro_iconst (by decide +kernel) (by decide +kernel))) <|
  re_a (re_p (ro_istore_n (by decide +kernel) rfl (by decide +kernel))) <|
  re_a (re_p (ro_iload_n (by decide +kernel) rfl)) <|
  re_a (re_p (ro_aload_n (by decide +kernel) rfl)) <|
  re_a (re_h (gf_X5_103 (by decide +kernel)) (rg_getf _ _)) <|
  re_a (re_h (gf_X5_107 (by decide +kernel)) (rg_getf _ _)) <|
  re_a (re_p (ro_icmp_ge (by decide +kernel) (by decide +kernel))) <|
  re_a (re_p (ro_aload_n (by decide +kernel) rfl)) <|
  re_a (re_p (ro_aload_n (by decide +kernel) rfl)) <|
  re_a (re_h (gf_X5_103 (by decide +kernel)) (rg_getf _ _)) <|
  re_a (re_h (gf_X5_110 (by decide +kernel)) (rg_getf _ _)) <|
  re_a (re_p (ro_iload_n (by decide +kernel) rfl)) <|
  re_a (re_c (ck_X5_72 (by decide +kernel))) <|
  re_a (re_p (ro_aload_n (by decide +kernel) rfl)) <|
  re_a (re_h (gf_X5_103 (by decide +kernel)) (rg_getf _ _)) <|
  re_a (re_h (gf_X5_113 (by decide +kernel)) (rg_getf _ _)) <|
  re_a (re_p (ro_iload_n (by decide +kernel) rfl)) <|
  re_a (re_c (ck_X5_72 (by decide +kernel))) <|
  re_a (re_c (ck_X5_99 (by decide +kernel))) <|
  re_a (re_p (ro_aload_n (by decide +kernel) rfl)) <|
  re_a (re_p (ro_aload_n (by decide +kernel) rfl)) <|
  re_a (re_h (gf_X5_103 (by decide +kernel)) (rg_getf _ _)) <|
  re_a (re_h (gf_X5_113 (by decide +kernel)) (rg_getf _ _)) <|
  re_a (re_p (ro_iload_n (by decide +kernel) rfl)) <|
  re_a (re_c (ck_X5_72 (by decide +kernel))) <|
  re_a (re_p (ro_aload_n (by decide +kernel) rfl)) <|
  re_a (re_h (gf_X5_103 (by decide +kernel)) (rg_getf _ _)) <|
  re_a (re_h (gf_X5_110 (by decide +kernel)) (rg_getf _ _)) <|
  re_a (re_p (ro_iload_n (by decide +kernel) rfl)) <|
  re_a (re_c (ck_X5_72 (by decide +kernel))) <|
  re_n
theorem mk_60_2 : ∀ q ∈ ([(160, .inr (.inl (61, 3, some 4))), (163, .inl (ri_pu (ri_iinc 2 1))), (166, .inl (ri_pu (ri_goto 100))), (169, .inr (.inr 0))] : List (Nat × ri_C)), re_ok Ex D dT 60 q :=
  re_a (re_c (ck_X5_99 (by decide +kernel))) <|
  re_a (re_p (ro_iinc (by decide +kernel) (by decide +kernel) (by decide +kernel))) <|
  re_a (re_p (ro_goto (by decide +kernel) (by decide +kernel))) <|
  re_a (re_r ⟨(by decide +kernel), rfl⟩) <|
  re_n
theorem mk_60 : ∀ q ∈ TL_60, re_ok Ex D dT 60 q := re_m mk_60_0 (re_m mk_60_1 (mk_60_2))
theorem mk_61_0 : ∀ q ∈ ([(0, .inl (ri_pu (ri_aload 0 1))), (1, .inl (ri_getf 4 5)), (4, .inl (ri_pu (ri_iload 1 1))), (5, .inr (.inl (140, 2, none))), (8, .inl (ri_pu (ri_istore 3 1))), (9, .inl (ri_pu (ri_icon 0 1))), (10, .inl (ri_pu (ri_istore 4 2))), (12, .inl (ri_pu (ri_iload 4 2))), (14, .inl (ri_pu (ri_iload 3 1))), (15, .inl (ri_pu (ri_icmp (fun x y => decide (y ≤ x)) 43))), (18, .inl (ri_pu (ri_aload 0 1))), (19, .inl (ri_getf 4 4)), (22, .inl (ri_pu (ri_iload 1 1))), (23, .inl (ri_pu (ri_icon 10 2))), (25, .inl (ri_pu (ri_ib fun x y => x * y))), (26, .inl (ri_pu (ri_iload 4 2))), (28, .inl (ri_pu (ri_ib fun x y => x + y))), (29, .inr (.inl (140, 2, none))), (32, .inl (ri_pu (ri_iload 2 1))), (33, .inl (ri_pu (ri_icmp (fun x y => decide (¬ x = y)) 37))), (36, .inr (.inr 0)), (37, .inl (ri_pu (ri_iinc 4 1))), (40, .inl (ri_pu (ri_goto 12))), (43, .inl (ri_pu (ri_iload 3 1))), (44, .inl (ri_pu (ri_icon 10 2))), (46, .inl (ri_pu (ri_icmp (fun x y => decide (y ≤ x)) 74))), (49, .inl (ri_pu (ri_aload 0 1))), (50, .inl (ri_getf 4 4)), (53, .inl (ri_pu (ri_iload 1 1))), (54, .inl (ri_pu (ri_icon 10 2))), (56, .inl (ri_pu (ri_ib fun x y => x * y))), (57, .inl (ri_pu (ri_iload 3 1))), (58, .inl (ri_pu (ri_ib fun x y => x + y))), (59, .inl (ri_pu (ri_iload 2 1))), (60, .inr (.inl (141, 3, none))), (63, .inl (ri_pu (ri_aload 0 1))), (64, .inl (ri_getf 4 5)), (67, .inl (ri_pu (ri_iload 1 1))), (68, .inl (ri_pu (ri_iload 3 1))), (69, .inl (ri_pu (ri_icon 1 1)))] : List (Nat × ri_C)), re_ok Ex D dT 61 q :=
  re_a (re_p (ro_aload_n (by decide +kernel) rfl)) <|
  re_a (re_h (gf_X5_27 (by decide +kernel)) (rg_getf _ _)) <|
  re_a (re_p (ro_iload_n (by decide +kernel) rfl)) <|
  re_a (re_c (ck_X5_72 (by decide +kernel))) <|
  re_a (re_p (ro_istore_n (by decide +kernel) rfl (by decide +kernel))) <|
  re_a (re_p (ro_iconst (by decide +kernel) (by decide +kernel))) <|
  re_a (re_p (ro_istore (by decide +kernel) (by decide +kernel))) <|
  re_a (re_p (ro_iload (by decide +kernel))) <|
  re_a (re_p (ro_iload_n (by decide +kernel) rfl)) <|
  re_a (re_p (ro_icmp_ge (by decide +kernel) (by decide +kernel))) <|
  re_a (re_p (ro_aload_n (by decide +kernel) rfl)) <|
  re_a (re_h (gf_X5_24 (by decide +kernel)) (rg_getf _ _)) <|
  re_a (re_p (ro_iload_n (by decide +kernel) rfl)) <|
  re_a (re_p (ro_bipush (by decide +kernel) (by decide +kernel))) <|
  re_a (re_p (ro_imul (by decide +kernel))) <|
  re_a (re_p (ro_iload (by decide +kernel))) <|
  re_a (re_p (ro_iadd (by decide +kernel))) <|
  re_a (re_c (ck_X5_72 (by decide +kernel))) <|
  re_a (re_p (ro_iload_n (by decide +kernel) rfl)) <|
  re_a (re_p (ro_icmp_ne (by decide +kernel) (by decide +kernel))) <|
  re_a (re_r ⟨(by decide +kernel), rfl⟩) <|
  re_a (re_p (ro_iinc (by decide +kernel) (by decide +kernel) (by decide +kernel))) <|
  re_a (re_p (ro_goto (by decide +kernel) (by decide +kernel))) <|
  re_a (re_p (ro_iload_n (by decide +kernel) rfl)) <|
  re_a (re_p (ro_bipush (by decide +kernel) (by decide +kernel))) <|
  re_a (re_p (ro_icmp_ge (by decide +kernel) (by decide +kernel))) <|
  re_a (re_p (ro_aload_n (by decide +kernel) rfl)) <|
  re_a (re_h (gf_X5_24 (by decide +kernel)) (rg_getf _ _)) <|
  re_a (re_p (ro_iload_n (by decide +kernel) rfl)) <|
  re_a (re_p (ro_bipush (by decide +kernel) (by decide +kernel))) <|
  re_a (re_p (ro_imul (by decide +kernel))) <|
  re_a (re_p (ro_iload_n (by decide +kernel) rfl)) <|
  re_a (re_p (ro_iadd (by decide +kernel))) <|
  re_a (re_p (ro_iload_n (by decide +kernel) rfl)) <|
  re_a (re_c (ck_X5_116 (by decide +kernel))) <|
  re_a (re_p (ro_aload_n (by decide +kernel) rfl)) <|
  re_a (re_h (gf_X5_27 (by decide +kernel)) (rg_getf _ _)) <|
  re_a (re_p (ro_iload_n (by decide +kernel) rfl)) <|
  re_a (re_p (ro_iload_n (by decide +kernel) rfl)) <|
  re_a (re_p (ro_iconst (by decide +kernel) (by decide +kernel))) <|
  re_n
theorem mk_61_1 : ∀ q ∈ ([(70, .inl (ri_pu (ri_ib fun x y => x + y))), (71, .inr (.inl (141, 3, none))), (74, .inr (.inr 0))] : List (Nat × ri_C)), re_ok Ex D dT 61 q :=
  re_a (re_p (ro_iadd (by decide +kernel))) <|
  re_a (re_c (ck_X5_116 (by decide +kernel))) <|
  re_a (re_r ⟨(by decide +kernel), rfl⟩) <|
  re_n
theorem mk_61 : ∀ q ∈ TL_61, re_ok Ex D dT 61 q := re_m mk_61_0 (mk_61_1)
end RIMK
