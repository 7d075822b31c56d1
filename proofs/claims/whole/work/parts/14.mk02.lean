section RIMK
variable {Ex : (Nat → Prop) → State → Heap → Prop} {D : va_G} {dT : Nat → ClassId}
theorem mk_62_0 : ∀ q ∈ ([(0, .inl (ri_pu (ri_aload 0 1))), (1, .inl (ri_getf 4 1)), (4, .inl (ri_pu (ri_icon 0 1))), (5, .inr (.inl (229, 2, none))), (8, .inl (ri_pu (ri_icon 0 1))), (9, .inl (ri_pu (ri_istore 3 1))), (10, .inl (ri_pu (ri_iload 3 1))), (11, .inl (ri_pu (ri_icon 3 1))), (12, .inl (ri_pu (ri_icmp (fun x y => decide (y ≤ x)) 203))), (15, .inl (ri_pu (ri_aload 1 1))), (16, .inl (ri_getf 3 0)), (19, .inl (ri_pu (ri_iload 3 1))), (20, .inr (.inl (97, 2, some 7))), (23, .inl (ri_pu (ri_if (fun x => decide (x = 0)) 53))), (26, .inl (ri_pu (ri_aload 1 1))), (27, .inl (ri_getf 3 2)), (30, .inl (ri_pu (ri_iload 3 1))), (31, .inl (ri_pu (ri_iload 2 1))), (32, .inr (.inl (5, 3, some 0))), (35, .inl (ri_pu (ri_aload 1 1))), (36, .inl (ri_getf 3 0)), (39, .inl (ri_getf 7 3)), (42, .inl (ri_pu (ri_iload 3 1))), (43, .inr (.inl (140, 2, none))), (46, .inl (ri_pu (ri_icmp (fun x y => decide (y < x)) 53))), (49, .inl (ri_pu (ri_icon 1 1))), (50, .inl (ri_pu (ri_goto 54))), (53, .inl (ri_pu (ri_icon 0 1))), (54, .inl (ri_pu (ri_istore 4 2))), (56, .inl (ri_pu (ri_iload 4 2))), (58, .inl (ri_pu (ri_if (fun x => decide (x = 0)) 75))), (61, .inl (ri_pu (ri_aload 1 1))), (62, .inl (ri_getf 3 0)), (65, .inl (ri_getf 7 2)), (68, .inl (ri_pu (ri_iload 3 1))), (69, .inr (.inl (140, 2, none))), (72, .inl (ri_pu (ri_goto 76))), (75, .inl (ri_pu (ri_icon 0 1))), (76, .inl (ri_pu (ri_istore 5 2))), (78, .inl (ri_pu (ri_icon 0 1)))] : List (Nat × ri_C)), re_ok Ex D dT 62 q :=
  re_a (re_p (ro_aload_n (by decide +kernel) rfl)) <|
  re_a (re_h (gf_X5_15 (by decide +kernel)) (rg_getf _ _)) <|
  re_a (re_p (ro_iconst (by decide +kernel) (by decide +kernel))) <|
  re_a (re_c (ck_X5_83 (by decide +kernel))) <|
  re_a (re_p (ro_iconst (by decide +kernel) (by decide +kernel))) <|
  re_a (re_p (ro_istore_n (by decide +kernel) rfl (by decide +kernel))) <|
  re_a (re_p (ro_iload_n (by decide +kernel) rfl)) <|
  re_a (re_p (ro_iconst (by decide +kernel) (by decide +kernel))) <|
  re_a (re_p (ro_icmp_ge (by decide +kernel) (by decide +kernel))) <|
  re_a (re_p (ro_aload_n (by decide +kernel) rfl)) <|
  re_a (re_h (gf_X5_54 (by decide +kernel)) (rg_getf _ _)) <|
  re_a (re_p (ro_iload_n (by decide +kernel) rfl)) <|
  re_a (re_c (ck_X5_120 (by decide +kernel))) <|
  re_a (re_p (ro_if_eq (by decide +kernel) (by decide +kernel))) <|
  re_a (re_p (ro_aload_n (by decide +kernel) rfl)) <|
  re_a (re_h (gf_X5_124 (by decide +kernel)) (rg_getf _ _)) <|
  re_a (re_p (ro_iload_n (by decide +kernel) rfl)) <|
  re_a (re_p (ro_iload_n (by decide +kernel) rfl)) <|
  re_a (re_c (ck_X5_128 (by decide +kernel))) <|
  re_a (re_p (ro_aload_n (by decide +kernel) rfl)) <|
  re_a (re_h (gf_X5_54 (by decide +kernel)) (rg_getf _ _)) <|
  re_a (re_h (gf_X5_133 (by decide +kernel)) (rg_getf _ _)) <|
  re_a (re_p (ro_iload_n (by decide +kernel) rfl)) <|
  re_a (re_c (ck_X5_72 (by decide +kernel))) <|
  re_a (re_p (ro_icmp_gt (by decide +kernel) (by decide +kernel))) <|
  re_a (re_p (ro_iconst (by decide +kernel) (by decide +kernel))) <|
  re_a (re_p (ro_goto (by decide +kernel) (by decide +kernel))) <|
  re_a (re_p (ro_iconst (by decide +kernel) (by decide +kernel))) <|
  re_a (re_p (ro_istore (by decide +kernel) (by decide +kernel))) <|
  re_a (re_p (ro_iload (by decide +kernel))) <|
  re_a (re_p (ro_if_eq (by decide +kernel) (by decide +kernel))) <|
  re_a (re_p (ro_aload_n (by decide +kernel) rfl)) <|
  re_a (re_h (gf_X5_54 (by decide +kernel)) (rg_getf _ _)) <|
  re_a (re_h (gf_X5_136 (by decide +kernel)) (rg_getf _ _)) <|
  re_a (re_p (ro_iload_n (by decide +kernel) rfl)) <|
  re_a (re_c (ck_X5_72 (by decide +kernel))) <|
  re_a (re_p (ro_goto (by decide +kernel) (by decide +kernel))) <|
  re_a (re_p (ro_iconst (by decide +kernel) (by decide +kernel))) <|
  re_a (re_p (ro_istore (by decide +kernel) (by decide +kernel))) <|
  re_a (re_p (ro_iconst (by decide +kernel) (by decide +kernel))) <|
  re_n
theorem mk_62_1 : ∀ q ∈ ([(79, .inl (ri_pu (ri_istore 6 2))), (81, .inl (ri_pu (ri_iload 6 2))), (83, .inl (ri_pu (ri_icon 5 1))), (84, .inl (ri_pu (ri_icmp (fun x y => decide (y ≤ x)) 125))), (87, .inl (ri_pu (ri_aload 0 1))), (88, .inl (ri_getf 4 0)), (91, .inl (ri_pu (ri_iload 3 1))), (92, .inl (ri_pu (ri_iload 6 2))), (94, .inr (.inl (138, 2, none))), (97, .inl (ri_pu (ri_iload 6 2))), (99, .inl (ri_pu (ri_iload 5 2))), (101, .inl (ri_pu (ri_ib fun x y => x + y))), (102, .inl (ri_pu (ri_aload 1 1))), (103, .inl (ri_getf 3 0)), (106, .inl (ri_getf 7 1)), (109, .inl (ri_pu (ri_iload 3 1))), (110, .inr (.inl (140, 2, none))), (113, .inr (.inl (139, 2, none))), (116, .inr (.inl (141, 3, none))), (119, .inl (ri_pu (ri_iinc 6 1))), (122, .inl (ri_pu (ri_goto 81))), (125, .inl (ri_pu (ri_aload 1 1))), (126, .inl (ri_getf 3 0)), (129, .inl (ri_pu (ri_iload 3 1))), (130, .inr (.inl (97, 2, some 7))), (133, .inl (ri_pu (ri_if (fun x => decide (x = 0)) 150))), (136, .inl (ri_pu (ri_aload 1 1))), (137, .inl (ri_getf 3 0)), (140, .inl (ri_getf 7 4)), (143, .inl (ri_pu (ri_iload 3 1))), (144, .inr (.inl (140, 2, none))), (147, .inl (ri_pu (ri_goto 151))), (150, .inl (ri_pu (ri_icon 0 1))), (151, .inl (ri_pu (ri_istore 6 2))), (153, .inl (ri_pu (ri_icon 0 1))), (154, .inl (ri_pu (ri_istore 7 2))), (156, .inl (ri_pu (ri_iload 7 2))), (158, .inl (ri_pu (ri_icon 5 1))), (159, .inl (ri_pu (ri_icmp (fun x y => decide (y ≤ x)) 197))), (162, .inl (ri_pu (ri_aload 0 1)))] : List (Nat × ri_C)), re_ok Ex D dT 62 q :=
  re_a (re_p (ro_istore (by decide +kernel) (by decide +kernel))) <|
  re_a (re_p (ro_iload (by decide +kernel))) <|
  re_a (re_p (ro_iconst (by decide +kernel) (by decide +kernel))) <|
  re_a (re_p (ro_icmp_ge (by decide +kernel) (by decide +kernel))) <|
  re_a (re_p (ro_aload_n (by decide +kernel) rfl)) <|
  re_a (re_h (gf_X5_11 (by decide +kernel)) (rg_getf _ _)) <|
  re_a (re_p (ro_iload_n (by decide +kernel) rfl)) <|
  re_a (re_p (ro_iload (by decide +kernel))) <|
  re_a (re_c (ck_X5_92 (by decide +kernel))) <|
  re_a (re_p (ro_iload (by decide +kernel))) <|
  re_a (re_p (ro_iload (by decide +kernel))) <|
  re_a (re_p (ro_iadd (by decide +kernel))) <|
  re_a (re_p (ro_aload_n (by decide +kernel) rfl)) <|
  re_a (re_h (gf_X5_54 (by decide +kernel)) (rg_getf _ _)) <|
  re_a (re_h (gf_X5_89 (by decide +kernel)) (rg_getf _ _)) <|
  re_a (re_p (ro_iload_n (by decide +kernel) rfl)) <|
  re_a (re_c (ck_X5_72 (by decide +kernel))) <|
  re_a (re_c (ck_X5_96 (by decide +kernel))) <|
  re_a (re_c (ck_X5_116 (by decide +kernel))) <|
  re_a (re_p (ro_iinc (by decide +kernel) (by decide +kernel) (by decide +kernel))) <|
  re_a (re_p (ro_goto (by decide +kernel) (by decide +kernel))) <|
  re_a (re_p (ro_aload_n (by decide +kernel) rfl)) <|
  re_a (re_h (gf_X5_54 (by decide +kernel)) (rg_getf _ _)) <|
  re_a (re_p (ro_iload_n (by decide +kernel) rfl)) <|
  re_a (re_c (ck_X5_120 (by decide +kernel))) <|
  re_a (re_p (ro_if_eq (by decide +kernel) (by decide +kernel))) <|
  re_a (re_p (ro_aload_n (by decide +kernel) rfl)) <|
  re_a (re_h (gf_X5_54 (by decide +kernel)) (rg_getf _ _)) <|
  re_a (re_h (gf_X5_69 (by decide +kernel)) (rg_getf _ _)) <|
  re_a (re_p (ro_iload_n (by decide +kernel) rfl)) <|
  re_a (re_c (ck_X5_72 (by decide +kernel))) <|
  re_a (re_p (ro_goto (by decide +kernel) (by decide +kernel))) <|
  re_a (re_p (ro_iconst (by decide +kernel) (by decide +kernel))) <|
  re_a (re_p (ro_istore (by decide +kernel) (by decide +kernel))) <|
  re_a (re_p (ro_iconst (by decide +kernel) (by decide +kernel))) <|
  re_a (re_p (ro_istore (by decide +kernel) (by decide +kernel))) <|
  re_a (re_p (ro_iload (by decide +kernel))) <|
  re_a (re_p (ro_iconst (by decide +kernel) (by decide +kernel))) <|
  re_a (re_p (ro_icmp_ge (by decide +kernel) (by decide +kernel))) <|
  re_a (re_p (ro_aload_n (by decide +kernel) rfl)) <|
  re_n
theorem mk_62_2 : ∀ q ∈ ([(163, .inl (ri_getf 4 1)), (166, .inl (ri_pu (ri_iload 3 1))), (167, .inl (ri_pu (ri_iload 6 2))), (169, .inr (.inl (138, 2, none))), (172, .inl (ri_pu (ri_icon 1 1))), (173, .inr (.inl (141, 3, none))), (176, .inl (ri_pu (ri_aload 0 1))), (177, .inl (ri_getf 4 0)), (180, .inl (ri_pu (ri_iload 3 1))), (181, .inl (ri_pu (ri_iload 6 2))), (183, .inr (.inl (138, 2, none))), (186, .inr (.inl (140, 2, none))), (189, .inl (ri_pu (ri_istore 6 2))), (191, .inl (ri_pu (ri_iinc 7 1))), (194, .inl (ri_pu (ri_goto 156))), (197, .inl (ri_pu (ri_iinc 3 1))), (200, .inl (ri_pu (ri_goto 10))), (203, .inr (.inr 0))] : List (Nat × ri_C)), re_ok Ex D dT 62 q :=
  re_a (re_h (gf_X5_15 (by decide +kernel)) (rg_getf _ _)) <|
  re_a (re_p (ro_iload_n (by decide +kernel) rfl)) <|
  re_a (re_p (ro_iload (by decide +kernel))) <|
  re_a (re_c (ck_X5_92 (by decide +kernel))) <|
  re_a (re_p (ro_iconst (by decide +kernel) (by decide +kernel))) <|
  re_a (re_c (ck_X5_116 (by decide +kernel))) <|
  re_a (re_p (ro_aload_n (by decide +kernel) rfl)) <|
  re_a (re_h (gf_X5_11 (by decide +kernel)) (rg_getf _ _)) <|
  re_a (re_p (ro_iload_n (by decide +kernel) rfl)) <|
  re_a (re_p (ro_iload (by decide +kernel))) <|
  re_a (re_c (ck_X5_92 (by decide +kernel))) <|
  re_a (re_c (ck_X5_72 (by decide +kernel))) <|
  re_a (re_p (ro_istore (by decide +kernel) (by decide +kernel))) <|
  re_a (re_p (ro_iinc (by decide +kernel) (by decide +kernel) (by decide +kernel))) <|
  re_a (re_p (ro_goto (by decide +kernel) (by decide +kernel))) <|
  re_a (re_p (ro_iinc (by decide +kernel) (by decide +kernel) (by decide +kernel))) <|
  re_a (re_p (ro_goto (by decide +kernel) (by decide +kernel))) <|
  re_a (re_r ⟨(by decide +kernel), rfl⟩) <|
  re_n
theorem mk_62 : ∀ q ∈ TL_62, re_ok Ex D dT 62 q := re_m mk_62_0 (re_m mk_62_1 (mk_62_2))
theorem mk_63 : ∀ q ∈ TL_63, re_ok Ex D dT 63 q :=
  re_a (re_p (ro_iconst (by decide +kernel) (by decide +kernel))) <|
  re_a (re_p (ro_istore_n (by decide +kernel) rfl (by decide +kernel))) <|
  re_a (re_p (ro_iload_n (by decide +kernel) rfl)) <|
  re_a (re_p (ro_iconst (by decide +kernel) (by decide +kernel))) <|
  re_a (re_p (ro_icmp_ge (by decide +kernel) (by decide +kernel))) <|
  re_a (re_p (ro_iconst (by decide +kernel) (by decide +kernel))) <|
  re_a (re_p (ro_istore (by decide +kernel) (by decide +kernel))) <|
  re_a (re_p (ro_iload (by decide +kernel))) <|
  re_a (re_p (ro_iconst (by decide +kernel) (by decide +kernel))) <|
  re_a (re_p (ro_icmp_ge (by decide +kernel) (by decide +kernel))) <|
  re_a (re_p (ro_aload_n (by decide +kernel) rfl)) <|
  re_a (re_h (gf_X5_124 (by decide +kernel)) (rg_getf _ _)) <|
  re_a (re_p (ro_iload_n (by decide +kernel) rfl)) <|
  re_a (re_p (ro_iload (by decide +kernel))) <|
  re_a (re_c (ck_X5_139 (by decide +kernel))) <|
  re_a (re_p (ro_istore (by decide +kernel) (by decide +kernel))) <|
  re_a (re_p (ro_aload_n (by decide +kernel) rfl)) <|
  re_a (re_h (gf_X5_18 (by decide +kernel)) (rg_getf _ _)) <|
  re_a (re_p (ro_iload_n (by decide +kernel) rfl)) <|
  re_a (re_p (ro_iload (by decide +kernel))) <|
  re_a (re_c (ck_X5_92 (by decide +kernel))) <|
  re_a (re_p (ro_iload (by decide +kernel))) <|
  re_a (re_p (ro_iconst (by decide +kernel) (by decide +kernel))) <|
  re_a (re_p (ro_icmp_eq (by decide +kernel) (by decide +kernel))) <|
  re_a (re_p (ro_iload (by decide +kernel))) <|
  re_a (re_p (ro_iload_n (by decide +kernel) rfl)) <|
  re_a (re_p (ro_icmp_ne (by decide +kernel) (by decide +kernel))) <|
  re_a (re_p (ro_iconst (by decide +kernel) (by decide +kernel))) <|
  re_a (re_p (ro_goto (by decide +kernel) (by decide +kernel))) <|
  re_a (re_p (ro_iconst (by decide +kernel) (by decide +kernel))) <|
  re_a (re_c (ck_X5_116 (by decide +kernel))) <|
  re_a (re_p (ro_iinc (by decide +kernel) (by decide +kernel) (by decide +kernel))) <|
  re_a (re_p (ro_goto (by decide +kernel) (by decide +kernel))) <|
  re_a (re_p (ro_iinc (by decide +kernel) (by decide +kernel) (by decide +kernel))) <|
  re_a (re_p (ro_goto (by decide +kernel) (by decide +kernel))) <|
  re_a (re_r ⟨(by decide +kernel), rfl⟩) <|
  re_n
theorem mk_64_0 : ∀ q ∈ ([(0, .inl (ri_pu (ri_aload 0 1))), (1, .inl (ri_pu (ri_iload 2 1))), (2, .inr (.inl (65, 2, some 4))), (5, .inl (ri_pu (ri_istore 3 1))), (6, .inl (ri_pu (ri_icon 0 1))), (7, .inl (ri_pu (ri_istore 4 2))), (9, .inl (ri_pu (ri_iload 4 2))), (11, .inl (ri_pu (ri_icon 3 1))), (12, .inl (ri_pu (ri_icmp (fun x y => decide (y ≤ x)) 124))), (15, .inl (ri_pu (ri_icon 0 1))), (16, .inl (ri_pu (ri_istore 5 2))), (18, .inl (ri_pu (ri_iload 5 2))), (20, .inl (ri_pu (ri_icon 5 1))), (21, .inl (ri_pu (ri_icmp (fun x y => decide (y ≤ x)) 118))), (24, .inl (ri_pu (ri_icon (-1) 1))), (25, .inl (ri_pu (ri_istore 6 2))), (27, .inl (ri_pu (ri_iload 3 1))), (28, .inl (ri_pu (ri_if (fun x => decide (x = 0)) 91))), (31, .inl (ri_pu (ri_aload 1 1))), (32, .inl (ri_pu (ri_iload 4 2))), (34, .inl (ri_pu (ri_iload 5 2))), (36, .inr (.inl (98, 3, some 7))), (39, .inl (ri_pu (ri_if (fun x => decide (x = 0)) 91))), (42, .inl (ri_pu (ri_iload 4 2))), (44, .inl (ri_pu (ri_iload 5 2))), (46, .inl (ri_pu (ri_iload 2 1))), (47, .inl (ri_pu (ri_iload 4 2))), (49, .inr (.inl (59, 2, none))), (52, .inl (ri_pu (ri_ib fun x y => x - y))), (53, .inl (ri_pu (ri_aload 1 1))), (54, .inl (ri_getf 7 1)), (57, .inl (ri_pu (ri_iload 4 2))), (59, .inr (.inl (140, 2, none))), (62, .inr (.inl (139, 2, none))), (65, .inr (.inl (138, 2, none))), (68, .inl (ri_pu (ri_istore 7 2))), (70, .inl (ri_pu (ri_aload 0 1))), (71, .inl (ri_getf 4 2)), (74, .inl (ri_pu (ri_iload 7 2))), (76, .inr (.inl (140, 2, none)))] : List (Nat × ri_C)), re_ok Ex D dT 64 q :=
  re_a (re_p (ro_aload_n (by decide +kernel) rfl)) <|
  re_a (re_p (ro_iload_n (by decide +kernel) rfl)) <|
  re_a (re_c (ck_X5_142 (by decide +kernel))) <|
  re_a (re_p (ro_istore_n (by decide +kernel) rfl (by decide +kernel))) <|
  re_a (re_p (ro_iconst (by decide +kernel) (by decide +kernel))) <|
  re_a (re_p (ro_istore (by decide +kernel) (by decide +kernel))) <|
  re_a (re_p (ro_iload (by decide +kernel))) <|
  re_a (re_p (ro_iconst (by decide +kernel) (by decide +kernel))) <|
  re_a (re_p (ro_icmp_ge (by decide +kernel) (by decide +kernel))) <|
  re_a (re_p (ro_iconst (by decide +kernel) (by decide +kernel))) <|
  re_a (re_p (ro_istore (by decide +kernel) (by decide +kernel))) <|
  re_a (re_p (ro_iload (by decide +kernel))) <|
  re_a (re_p (ro_iconst (by decide +kernel) (by decide +kernel))) <|
  re_a (re_p (ro_icmp_ge (by decide +kernel) (by decide +kernel))) <|
  re_a (re_p (ro_iconst (by decide +kernel) (by decide +kernel))) <|
  re_a (re_p (ro_istore (by decide +kernel) (by decide +kernel))) <|
  re_a (re_p (ro_iload_n (by decide +kernel) rfl)) <|
  re_a (re_p (ro_if_eq (by decide +kernel) (by decide +kernel))) <|
  re_a (re_p (ro_aload_n (by decide +kernel) rfl)) <|
  re_a (re_p (ro_iload (by decide +kernel))) <|
  re_a (re_p (ro_iload (by decide +kernel))) <|
  re_a (re_c (ck_X5_145 (by decide +kernel))) <|
  re_a (re_p (ro_if_eq (by decide +kernel) (by decide +kernel))) <|
  re_a (re_p (ro_iload (by decide +kernel))) <|
  re_a (re_p (ro_iload (by decide +kernel))) <|
  re_a (re_p (ro_iload_n (by decide +kernel) rfl)) <|
  re_a (re_p (ro_iload (by decide +kernel))) <|
  re_a (re_c (ck_X5_149 (by decide +kernel))) <|
  re_a (re_p (ro_isub (by decide +kernel))) <|
  re_a (re_p (ro_aload_n (by decide +kernel) rfl)) <|
  re_a (re_h (gf_X5_89 (by decide +kernel)) (rg_getf _ _)) <|
  re_a (re_p (ro_iload (by decide +kernel))) <|
  re_a (re_c (ck_X5_72 (by decide +kernel))) <|
  re_a (re_c (ck_X5_96 (by decide +kernel))) <|
  re_a (re_c (ck_X5_92 (by decide +kernel))) <|
  re_a (re_p (ro_istore (by decide +kernel) (by decide +kernel))) <|
  re_a (re_p (ro_aload_n (by decide +kernel) rfl)) <|
  re_a (re_h (gf_X5_18 (by decide +kernel)) (rg_getf _ _)) <|
  re_a (re_p (ro_iload (by decide +kernel))) <|
  re_a (re_c (ck_X5_72 (by decide +kernel))) <|
  re_n
theorem mk_64_1 : ∀ q ∈ ([(79, .inl (ri_pu (ri_icon 1 1))), (80, .inl (ri_pu (ri_icmp (fun x y => decide (¬ x = y)) 87))), (83, .inl (ri_pu (ri_icon (-1) 1))), (84, .inl (ri_pu (ri_goto 89))), (87, .inl (ri_pu (ri_iload 7 2))), (89, .inl (ri_pu (ri_istore 6 2))), (91, .inl (ri_pu (ri_aload 0 1))), (92, .inl (ri_getf 4 3)), (95, .inl (ri_pu (ri_iload 2 1))), (96, .inl (ri_pu (ri_icon 15 2))), (98, .inl (ri_pu (ri_ib fun x y => x * y))), (99, .inl (ri_pu (ri_iload 4 2))), (101, .inl (ri_pu (ri_iload 5 2))), (103, .inr (.inl (138, 2, none))), (106, .inl (ri_pu (ri_ib fun x y => x + y))), (107, .inl (ri_pu (ri_iload 6 2))), (109, .inr (.inl (141, 3, none))), (112, .inl (ri_pu (ri_iinc 5 1))), (115, .inl (ri_pu (ri_goto 18))), (118, .inl (ri_pu (ri_iinc 4 1))), (121, .inl (ri_pu (ri_goto 9))), (124, .inr (.inr 0))] : List (Nat × ri_C)), re_ok Ex D dT 64 q :=
  re_a (re_p (ro_iconst (by decide +kernel) (by decide +kernel))) <|
  re_a (re_p (ro_icmp_ne (by decide +kernel) (by decide +kernel))) <|
  re_a (re_p (ro_iconst (by decide +kernel) (by decide +kernel))) <|
  re_a (re_p (ro_goto (by decide +kernel) (by decide +kernel))) <|
  re_a (re_p (ro_iload (by decide +kernel))) <|
  re_a (re_p (ro_istore (by decide +kernel) (by decide +kernel))) <|
  re_a (re_p (ro_aload_n (by decide +kernel) rfl)) <|
  re_a (re_h (gf_X5_21 (by decide +kernel)) (rg_getf _ _)) <|
  re_a (re_p (ro_iload_n (by decide +kernel) rfl)) <|
  re_a (re_p (ro_bipush (by decide +kernel) (by decide +kernel))) <|
  re_a (re_p (ro_imul (by decide +kernel))) <|
  re_a (re_p (ro_iload (by decide +kernel))) <|
  re_a (re_p (ro_iload (by decide +kernel))) <|
  re_a (re_c (ck_X5_92 (by decide +kernel))) <|
  re_a (re_p (ro_iadd (by decide +kernel))) <|
  re_a (re_p (ro_iload (by decide +kernel))) <|
  re_a (re_c (ck_X5_116 (by decide +kernel))) <|
  re_a (re_p (ro_iinc (by decide +kernel) (by decide +kernel) (by decide +kernel))) <|
  re_a (re_p (ro_goto (by decide +kernel) (by decide +kernel))) <|
  re_a (re_p (ro_iinc (by decide +kernel) (by decide +kernel) (by decide +kernel))) <|
  re_a (re_p (ro_goto (by decide +kernel) (by decide +kernel))) <|
  re_a (re_r ⟨(by decide +kernel), rfl⟩) <|
  re_n
theorem mk_64 : ∀ q ∈ TL_64, re_ok Ex D dT 64 q := re_m mk_64_0 (mk_64_1)
theorem mk_65 : ∀ q ∈ TL_65, re_ok Ex D dT 65 q :=
  re_a (re_p (ro_iconst (by decide +kernel) (by decide +kernel))) <|
  re_a (re_p (ro_istore_n (by decide +kernel) rfl (by decide +kernel))) <|
  re_a (re_p (ro_iload_n (by decide +kernel) rfl)) <|
  re_a (re_p (ro_iconst (by decide +kernel) (by decide +kernel))) <|
  re_a (re_p (ro_icmp_ge (by decide +kernel) (by decide +kernel))) <|
  re_a (re_p (ro_aload_n (by decide +kernel) rfl)) <|
  re_a (re_h (gf_X5_15 (by decide +kernel)) (rg_getf _ _)) <|
  re_a (re_p (ro_iload_n (by decide +kernel) rfl)) <|
  re_a (re_p (ro_iload_n (by decide +kernel) rfl)) <|
  re_a (re_p (ro_iload_n (by decide +kernel) rfl)) <|
  re_a (re_c (ck_X5_149 (by decide +kernel))) <|
  re_a (re_c (ck_X5_92 (by decide +kernel))) <|
  re_a (re_c (ck_X5_72 (by decide +kernel))) <|
  re_a (re_p (ro_if_ne (by decide +kernel) (by decide +kernel))) <|
  re_a (re_p (ro_iconst (by decide +kernel) (by decide +kernel))) <|
  re_a (re_r ⟨(by decide +kernel), rfl⟩) <|
  re_a (re_p (ro_iinc (by decide +kernel) (by decide +kernel) (by decide +kernel))) <|
  re_a (re_p (ro_goto (by decide +kernel) (by decide +kernel))) <|
  re_a (re_p (ro_iconst (by decide +kernel) (by decide +kernel))) <|
  re_a (re_r ⟨(by decide +kernel), rfl⟩) <|
  re_n
theorem mk_66_0 : ∀ q ∈ ([(0, .inl (ri_pu (ri_iload 1 1))), (1, .inl (ri_pu (ri_icon 15 2))), (3, .inl (ri_pu (ri_idr fun x y => x / y))), (4, .inl (ri_pu (ri_istore 3 1))), (5, .inl (ri_pu (ri_iload 1 1))), (6, .inl (ri_pu (ri_icon 15 2))), (8, .inl (ri_pu (ri_idr fun x y => x - x / y * y))), (9, .inl (ri_pu (ri_istore 4 2))), (11, .inl (ri_pu (ri_aload 0 1))), (12, .inl (ri_getf 4 4)), (15, .inl (ri_pu (ri_iload 4 2))), (17, .inl (ri_pu (ri_icon 10 2))), (19, .inl (ri_pu (ri_ib fun x y => x * y))), (20, .inl (ri_pu (ri_iload 2 1))), (21, .inl (ri_pu (ri_ib fun x y => x + y))), (22, .inr (.inl (140, 2, none))), (25, .inl (ri_pu (ri_istore 5 2))), (27, .inl (ri_pu (ri_aload 0 1))), (28, .inl (ri_getf 4 3)), (31, .inl (ri_pu (ri_iload 3 1))), (32, .inl (ri_pu (ri_icon 15 2))), (34, .inl (ri_pu (ri_ib fun x y => x * y))), (35, .inl (ri_pu (ri_iload 5 2))), (37, .inl (ri_pu (ri_ib fun x y => x + y))), (38, .inr (.inl (140, 2, none))), (41, .inl (ri_pu (ri_icon (-1) 1))), (42, .inl (ri_pu (ri_icmp (fun x y => decide (¬ x = y)) 47))), (45, .inl (ri_pu (ri_icon (-1) 1))), (46, .inr (.inr 1)), (47, .inl (ri_pu (ri_iload 4 2))), (49, .inl (ri_pu (ri_icon 5 1))), (50, .inl (ri_pu (ri_idr fun x y => x / y))), (51, .inl (ri_pu (ri_istore 6 2))), (53, .inl (ri_pu (ri_iload 5 2))), (55, .inl (ri_pu (ri_icon 5 1))), (56, .inl (ri_pu (ri_idr fun x y => x / y))), (57, .inl (ri_pu (ri_iload 6 2))), (59, .inl (ri_pu (ri_icmp (fun x y => decide (x = y)) 96))), (62, .inl (ri_pu (ri_iload 3 1))), (63, .inl (ri_pu (ri_iload 6 2)))] : List (Nat × ri_C)), re_ok Ex D dT 66 q :=
  re_a (re_p (ro_iload_n (by decide +kernel) rfl)) <|
  re_a (re_p (ro_bipush (by decide +kernel) (by decide +kernel))) <|
  re_a (re_p (ro_idiv (by decide +kernel))) <|
  re_a (re_p (ro_istore_n (by decide +kernel) rfl (by decide +kernel))) <|
  re_a (re_p (ro_iload_n (by decide +kernel) rfl)) <|
  re_a (re_p (ro_bipush (by decide +kernel) (by decide +kernel))) <|
  re_a (re_p (ro_irem (by decide +kernel))) <|
  re_a (re_p (ro_istore (by decide +kernel) (by decide +kernel))) <|
  re_a (re_p (ro_aload_n (by decide +kernel) rfl)) <|
  re_a (re_h (gf_X5_24 (by decide +kernel)) (rg_getf _ _)) <|
  re_a (re_p (ro_iload (by decide +kernel))) <|
  re_a (re_p (ro_bipush (by decide +kernel) (by decide +kernel))) <|
  re_a (re_p (ro_imul (by decide +kernel))) <|
  re_a (re_p (ro_iload_n (by decide +kernel) rfl)) <|
  re_a (re_p (ro_iadd (by decide +kernel))) <|
  re_a (re_c (ck_X5_72 (by decide +kernel))) <|
  re_a (re_p (ro_istore (by decide +kernel) (by decide +kernel))) <|
  re_a (re_p (ro_aload_n (by decide +kernel) rfl)) <|
  re_a (re_h (gf_X5_21 (by decide +kernel)) (rg_getf _ _)) <|
  re_a (re_p (ro_iload_n (by decide +kernel) rfl)) <|
  re_a (re_p (ro_bipush (by decide +kernel) (by decide +kernel))) <|
  re_a (re_p (ro_imul (by decide +kernel))) <|
  re_a (re_p (ro_iload (by decide +kernel))) <|
  re_a (re_p (ro_iadd (by decide +kernel))) <|
  re_a (re_c (ck_X5_72 (by decide +kernel))) <|
  re_a (re_p (ro_iconst (by decide +kernel) (by decide +kernel))) <|
  re_a (re_p (ro_icmp_ne (by decide +kernel) (by decide +kernel))) <|
  re_a (re_p (ro_iconst (by decide +kernel) (by decide +kernel))) <|
  re_a (re_r ⟨(by decide +kernel), rfl⟩) <|
  re_a (re_p (ro_iload (by decide +kernel))) <|
  re_a (re_p (ro_iconst (by decide +kernel) (by decide +kernel))) <|
  re_a (re_p (ro_idiv (by decide +kernel))) <|
  re_a (re_p (ro_istore (by decide +kernel) (by decide +kernel))) <|
  re_a (re_p (ro_iload (by decide +kernel))) <|
  re_a (re_p (ro_iconst (by decide +kernel) (by decide +kernel))) <|
  re_a (re_p (ro_idiv (by decide +kernel))) <|
  re_a (re_p (ro_iload (by decide +kernel))) <|
  re_a (re_p (ro_icmp_eq (by decide +kernel) (by decide +kernel))) <|
  re_a (re_p (ro_iload_n (by decide +kernel) rfl)) <|
  re_a (re_p (ro_iload (by decide +kernel))) <|
  re_n
theorem mk_66_1 : ∀ q ∈ ([(65, .inr (.inl (59, 2, none))), (68, .inl (ri_pu (ri_istore 7 2))), (70, .inl (ri_pu (ri_iload 3 1))), (71, .inl (ri_pu (ri_aload 0 1))), (72, .inl (ri_getf 4 0)), (75, .inl (ri_pu (ri_iload 6 2))), (77, .inl (ri_pu (ri_iload 7 2))), (79, .inr (.inl (138, 2, none))), (82, .inr (.inl (140, 2, none))), (85, .inl (ri_pu (ri_iload 7 2))), (87, .inl (ri_pu (ri_ib fun x y => x - y))), (88, .inl (ri_pu (ri_iload 6 2))), (90, .inr (.inl (58, 1, none))), (93, .inl (ri_pu (ri_ib fun x y => x * y))), (94, .inl (ri_pu (ri_ib fun x y => x + y))), (95, .inl (ri_pu (ri_istore 3 1))), (96, .inl (ri_pu (ri_iload 3 1))), (97, .inl (ri_pu (ri_icon 15 2))), (99, .inl (ri_pu (ri_ib fun x y => x * y))), (100, .inl (ri_pu (ri_iload 5 2))), (102, .inl (ri_pu (ri_ib fun x y => x + y))), (103, .inr (.inr 1))] : List (Nat × ri_C)), re_ok Ex D dT 66 q :=
  re_a (re_c (ck_X5_149 (by decide +kernel))) <|
  re_a (re_p (ro_istore (by decide +kernel) (by decide +kernel))) <|
  re_a (re_p (ro_iload_n (by decide +kernel) rfl)) <|
  re_a (re_p (ro_aload_n (by decide +kernel) rfl)) <|
  re_a (re_h (gf_X5_11 (by decide +kernel)) (rg_getf _ _)) <|
  re_a (re_p (ro_iload (by decide +kernel))) <|
  re_a (re_p (ro_iload (by decide +kernel))) <|
  re_a (re_c (ck_X5_92 (by decide +kernel))) <|
  re_a (re_c (ck_X5_72 (by decide +kernel))) <|
  re_a (re_p (ro_iload (by decide +kernel))) <|
  re_a (re_p (ro_isub (by decide +kernel))) <|
  re_a (re_p (ro_iload (by decide +kernel))) <|
  re_a (re_c (ck_X5_76 (by decide +kernel))) <|
  re_a (re_p (ro_imul (by decide +kernel))) <|
  re_a (re_p (ro_iadd (by decide +kernel))) <|
  re_a (re_p (ro_istore_n (by decide +kernel) rfl (by decide +kernel))) <|
  re_a (re_p (ro_iload_n (by decide +kernel) rfl)) <|
  re_a (re_p (ro_bipush (by decide +kernel) (by decide +kernel))) <|
  re_a (re_p (ro_imul (by decide +kernel))) <|
  re_a (re_p (ro_iload (by decide +kernel))) <|
  re_a (re_p (ro_iadd (by decide +kernel))) <|
  re_a (re_r ⟨(by decide +kernel), rfl⟩) <|
  re_n
theorem mk_66 : ∀ q ∈ TL_66, re_ok Ex D dT 66 q := re_m mk_66_0 (mk_66_1)
theorem mk_67_0 : ∀ q ∈ ([(0, .inl (ri_pu (ri_aload 0 1))), (1, .inl (ri_getf 4 6)), (4, .inl (ri_pu (ri_icon (-1) 1))), (5, .inr (.inl (229, 2, none))), (8, .inl (ri_pu (ri_aload 0 1))), (9, .inl (ri_getf 4 6)), (12, .inl (ri_pu (ri_aload 0 1))), (13, .inl (ri_getf 4 9)), (16, .inl (ri_pu (ri_icon 0 1))), (17, .inr (.inl (141, 3, none))), (20, .inl (ri_pu (ri_aload 0 1))), (21, .inl (ri_getf 4 7)), (24, .inl (ri_pu (ri_icon 0 1))), (25, .inl (ri_pu (ri_aload 0 1))), (26, .inl (ri_getf 4 9)), (29, .inr (.inl (141, 3, none))), (32, .inl (ri_pu (ri_icon 1 1))), (33, .inl (ri_pu (ri_istore 2 1))), (34, .inl (ri_pu (ri_icon 0 1))), (35, .inl (ri_pu (ri_istore 3 1))), (36, .inl (ri_pu (ri_iload 3 1))), (37, .inl (ri_pu (ri_iload 2 1))), (38, .inl (ri_pu (ri_icmp (fun x y => decide (y ≤ x)) 171))), (41, .inl (ri_pu (ri_iload 3 1))), (42, .inl (ri_pu (ri_icon 1875 3))), (45, .inl (ri_pu (ri_icmp (fun x y => decide (y ≤ x)) 171))), (48, .inl (ri_pu (ri_aload 0 1))), (49, .inl (ri_getf 4 7)), (52, .inl (ri_pu (ri_iload 3 1))), (53, .inr (.inl (140, 2, none))), (56, .inl (ri_pu (ri_istore 4 2))), (58, .inl (ri_pu (ri_iload 4 2))), (60, .inl (ri_pu (ri_icon 15 2))), (62, .inl (ri_pu (ri_idr fun x y => x - x / y * y))), (63, .inl (ri_pu (ri_iload 1 1))), (64, .inl (ri_pu (ri_icmp (fun x y => decide (¬ x = y)) 77))), (67, .inl (ri_pu (ri_aload 0 1))), (68, .inl (ri_getf 4 6)), (71, .inl (ri_pu (ri_iload 4 2))), (73, .inr (.inl (140, 2, none)))] : List (Nat × ri_C)), re_ok Ex D dT 67 q :=
  re_a (re_p (ro_aload_n (by decide +kernel) rfl)) <|
  re_a (re_h (gf_X5_30 (by decide +kernel)) (rg_getf _ _)) <|
  re_a (re_p (ro_iconst (by decide +kernel) (by decide +kernel))) <|
  re_a (re_c (ck_X5_83 (by decide +kernel))) <|
  re_a (re_p (ro_aload_n (by decide +kernel) rfl)) <|
  re_a (re_h (gf_X5_30 (by decide +kernel)) (rg_getf _ _)) <|
  re_a (re_p (ro_aload_n (by decide +kernel) rfl)) <|
  re_a (re_h (gf_X5_39 (by decide +kernel)) (rg_getf _ _)) <|
  re_a (re_p (ro_iconst (by decide +kernel) (by decide +kernel))) <|
  re_a (re_c (ck_X5_116 (by decide +kernel))) <|
  re_a (re_p (ro_aload_n (by decide +kernel) rfl)) <|
  re_a (re_h (gf_X5_33 (by decide +kernel)) (rg_getf _ _)) <|
  re_a (re_p (ro_iconst (by decide +kernel) (by decide +kernel))) <|
  re_a (re_p (ro_aload_n (by decide +kernel) rfl)) <|
  re_a (re_h (gf_X5_39 (by decide +kernel)) (rg_getf _ _)) <|
  re_a (re_c (ck_X5_116 (by decide +kernel))) <|
  re_a (re_p (ro_iconst (by decide +kernel) (by decide +kernel))) <|
  re_a (re_p (ro_istore_n (by decide +kernel) rfl (by decide +kernel))) <|
  re_a (re_p (ro_iconst (by decide +kernel) (by decide +kernel))) <|
  re_a (re_p (ro_istore_n (by decide +kernel) rfl (by decide +kernel))) <|
  re_a (re_p (ro_iload_n (by decide +kernel) rfl)) <|
  re_a (re_p (ro_iload_n (by decide +kernel) rfl)) <|
  re_a (re_p (ro_icmp_ge (by decide +kernel) (by decide +kernel))) <|
  re_a (re_p (ro_iload_n (by decide +kernel) rfl)) <|
  re_a (re_p (ro_sipush (by decide +kernel) (by decide +kernel))) <|
  re_a (re_p (ro_icmp_ge (by decide +kernel) (by decide +kernel))) <|
  re_a (re_p (ro_aload_n (by decide +kernel) rfl)) <|
  re_a (re_h (gf_X5_33 (by decide +kernel)) (rg_getf _ _)) <|
  re_a (re_p (ro_iload_n (by decide +kernel) rfl)) <|
  re_a (re_c (ck_X5_72 (by decide +kernel))) <|
  re_a (re_p (ro_istore (by decide +kernel) (by decide +kernel))) <|
  re_a (re_p (ro_iload (by decide +kernel))) <|
  re_a (re_p (ro_bipush (by decide +kernel) (by decide +kernel))) <|
  re_a (re_p (ro_irem (by decide +kernel))) <|
  re_a (re_p (ro_iload_n (by decide +kernel) rfl)) <|
  re_a (re_p (ro_icmp_ne (by decide +kernel) (by decide +kernel))) <|
  re_a (re_p (ro_aload_n (by decide +kernel) rfl)) <|
  re_a (re_h (gf_X5_30 (by decide +kernel)) (rg_getf _ _)) <|
  re_a (re_p (ro_iload (by decide +kernel))) <|
  re_a (re_c (ck_X5_72 (by decide +kernel))) <|
  re_n
theorem mk_67_1 : ∀ q ∈ ([(76, .inr (.inr 1)), (77, .inl (ri_pu (ri_icon 0 1))), (78, .inl (ri_pu (ri_istore 5 2))), (80, .inl (ri_pu (ri_iload 5 2))), (82, .inl (ri_pu (ri_aload 0 1))), (83, .inl (ri_getf 4 5)), (86, .inl (ri_pu (ri_iload 4 2))), (88, .inl (ri_pu (ri_icon 15 2))), (90, .inl (ri_pu (ri_idr fun x y => x - x / y * y))), (91, .inr (.inl (140, 2, none))), (94, .inl (ri_pu (ri_icmp (fun x y => decide (y ≤ x)) 165))), (97, .inl (ri_pu (ri_aload 0 1))), (98, .inl (ri_pu (ri_iload 4 2))), (100, .inl (ri_pu (ri_iload 5 2))), (102, .inr (.inl (66, 3, some 4))), (105, .inl (ri_pu (ri_istore 6 2))), (107, .inl (ri_pu (ri_iload 6 2))), (109, .inl (ri_pu (ri_icon (-1) 1))), (110, .inl (ri_pu (ri_icmp (fun x y => decide (x = y)) 159))), (113, .inl (ri_pu (ri_aload 0 1))), (114, .inl (ri_getf 4 6)), (117, .inl (ri_pu (ri_iload 6 2))), (119, .inr (.inl (140, 2, none))), (122, .inl (ri_pu (ri_icon (-1) 1))), (123, .inl (ri_pu (ri_icmp (fun x y => decide (¬ x = y)) 159))), (126, .inl (ri_pu (ri_aload 0 1))), (127, .inl (ri_getf 4 6)), (130, .inl (ri_pu (ri_iload 6 2))), (132, .inl (ri_pu (ri_aload 0 1))), (133, .inl (ri_getf 4 6)), (136, .inl (ri_pu (ri_iload 4 2))), (138, .inr (.inl (140, 2, none))), (141, .inl (ri_pu (ri_icon 1 1))), (142, .inl (ri_pu (ri_ib fun x y => x + y))), (143, .inr (.inl (141, 3, none))), (146, .inl (ri_pu (ri_aload 0 1))), (147, .inl (ri_getf 4 7)), (150, .inl (ri_pu (ri_iload 2 1))), (151, .inl (ri_pu (ri_iload 6 2))), (153, .inr (.inl (141, 3, none)))] : List (Nat × ri_C)), re_ok Ex D dT 67 q :=
  re_a (re_r ⟨(by decide +kernel), rfl⟩) <|
  re_a (re_p (ro_iconst (by decide +kernel) (by decide +kernel))) <|
  re_a (re_p (ro_istore (by decide +kernel) (by decide +kernel))) <|
  re_a (re_p (ro_iload (by decide +kernel))) <|
  re_a (re_p (ro_aload_n (by decide +kernel) rfl)) <|
  re_a (re_h (gf_X5_27 (by decide +kernel)) (rg_getf _ _)) <|
  re_a (re_p (ro_iload (by decide +kernel))) <|
  re_a (re_p (ro_bipush (by decide +kernel) (by decide +kernel))) <|
  re_a (re_p (ro_irem (by decide +kernel))) <|
  re_a (re_c (ck_X5_72 (by decide +kernel))) <|
  re_a (re_p (ro_icmp_ge (by decide +kernel) (by decide +kernel))) <|
  re_a (re_p (ro_aload_n (by decide +kernel) rfl)) <|
  re_a (re_p (ro_iload (by decide +kernel))) <|
  re_a (re_p (ro_iload (by decide +kernel))) <|
  re_a (re_c (ck_X5_152 (by decide +kernel))) <|
  re_a (re_p (ro_istore (by decide +kernel) (by decide +kernel))) <|
  re_a (re_p (ro_iload (by decide +kernel))) <|
  re_a (re_p (ro_iconst (by decide +kernel) (by decide +kernel))) <|
  re_a (re_p (ro_icmp_eq (by decide +kernel) (by decide +kernel))) <|
  re_a (re_p (ro_aload_n (by decide +kernel) rfl)) <|
  re_a (re_h (gf_X5_30 (by decide +kernel)) (rg_getf _ _)) <|
  re_a (re_p (ro_iload (by decide +kernel))) <|
  re_a (re_c (ck_X5_72 (by decide +kernel))) <|
  re_a (re_p (ro_iconst (by decide +kernel) (by decide +kernel))) <|
  re_a (re_p (ro_icmp_ne (by decide +kernel) (by decide +kernel))) <|
  re_a (re_p (ro_aload_n (by decide +kernel) rfl)) <|
  re_a (re_h (gf_X5_30 (by decide +kernel)) (rg_getf _ _)) <|
  re_a (re_p (ro_iload (by decide +kernel))) <|
  re_a (re_p (ro_aload_n (by decide +kernel) rfl)) <|
  re_a (re_h (gf_X5_30 (by decide +kernel)) (rg_getf _ _)) <|
  re_a (re_p (ro_iload (by decide +kernel))) <|
  re_a (re_c (ck_X5_72 (by decide +kernel))) <|
  re_a (re_p (ro_iconst (by decide +kernel) (by decide +kernel))) <|
  re_a (re_p (ro_iadd (by decide +kernel))) <|
  re_a (re_c (ck_X5_116 (by decide +kernel))) <|
  re_a (re_p (ro_aload_n (by decide +kernel) rfl)) <|
  re_a (re_h (gf_X5_33 (by decide +kernel)) (rg_getf _ _)) <|
  re_a (re_p (ro_iload_n (by decide +kernel) rfl)) <|
  re_a (re_p (ro_iload (by decide +kernel))) <|
  re_a (re_c (ck_X5_116 (by decide +kernel))) <|
  re_n
theorem mk_67_2 : ∀ q ∈ ([(156, .inl (ri_pu (ri_iinc 2 1))), (159, .inl (ri_pu (ri_iinc 5 1))), (162, .inl (ri_pu (ri_goto 80))), (165, .inl (ri_pu (ri_iinc 3 1))), (168, .inl (ri_pu (ri_goto 36))), (171, .inl (ri_pu (ri_icon (-1) 1))), (172, .inr (.inr 1))] : List (Nat × ri_C)), re_ok Ex D dT 67 q :=
  re_a (re_p (ro_iinc (by decide +kernel) (by decide +kernel) (by decide +kernel))) <|
  re_a (re_p (ro_iinc (by decide +kernel) (by decide +kernel) (by decide +kernel))) <|
  re_a (re_p (ro_goto (by decide +kernel) (by decide +kernel))) <|
  re_a (re_p (ro_iinc (by decide +kernel) (by decide +kernel) (by decide +kernel))) <|
  re_a (re_p (ro_goto (by decide +kernel) (by decide +kernel))) <|
  re_a (re_p (ro_iconst (by decide +kernel) (by decide +kernel))) <|
  re_a (re_r ⟨(by decide +kernel), rfl⟩) <|
  re_n
theorem mk_67 : ∀ q ∈ TL_67, re_ok Ex D dT 67 q := re_m mk_67_0 (re_m mk_67_1 (mk_67_2))
theorem mk_68 : ∀ q ∈ TL_68, re_ok Ex D dT 68 q :=
  re_a (re_p (ro_aload_n (by decide +kernel) rfl)) <|
  re_a (re_p (ro_iconst (by decide +kernel) (by decide +kernel))) <|
  re_a (re_c (ck_X5_155 (by decide +kernel))) <|
  re_a (re_p (ro_pop (by decide +kernel))) <|
  re_a (re_p (ro_iconst (by decide +kernel) (by decide +kernel))) <|
  re_a (re_p (ro_istore_n (by decide +kernel) rfl (by decide +kernel))) <|
  re_a (re_p (ro_iconst (by decide +kernel) (by decide +kernel))) <|
  re_a (re_p (ro_istore_n (by decide +kernel) rfl (by decide +kernel))) <|
  re_a (re_p (ro_iload_n (by decide +kernel) rfl)) <|
  re_a (re_p (ro_sipush (by decide +kernel) (by decide +kernel))) <|
  re_a (re_p (ro_icmp_ge (by decide +kernel) (by decide +kernel))) <|
  re_a (re_p (ro_iload_n (by decide +kernel) rfl)) <|
  re_a (re_p (ro_bipush (by decide +kernel) (by decide +kernel))) <|
  re_a (re_p (ro_irem (by decide +kernel))) <|
  re_a (re_p (ro_istore (by decide +kernel) (by decide +kernel))) <|
  re_a (re_p (ro_aload_n (by decide +kernel) rfl)) <|
  re_a (re_h (gf_X5_30 (by decide +kernel)) (rg_getf _ _)) <|
  re_a (re_p (ro_iload_n (by decide +kernel) rfl)) <|
  re_a (re_c (ck_X5_72 (by decide +kernel))) <|
  re_a (re_p (ro_iconst (by decide +kernel) (by decide +kernel))) <|
  re_a (re_p (ro_icmp_eq (by decide +kernel) (by decide +kernel))) <|
  re_a (re_p (ro_iload (by decide +kernel))) <|
  re_a (re_p (ro_iconst (by decide +kernel) (by decide +kernel))) <|
  re_a (re_p (ro_idiv (by decide +kernel))) <|
  re_a (re_p (ro_iload_n (by decide +kernel) rfl)) <|
  re_a (re_p (ro_icmp_ne (by decide +kernel) (by decide +kernel))) <|
  re_a (re_p (ro_iload_n (by decide +kernel) rfl)) <|
  re_a (re_p (ro_iconst (by decide +kernel) (by decide +kernel))) <|
  re_a (re_p (ro_iload (by decide +kernel))) <|
  re_a (re_p (ro_iconst (by decide +kernel) (by decide +kernel))) <|
  re_a (re_p (ro_irem (by decide +kernel))) <|
  re_a (re_p (ro_ishl (by decide +kernel))) <|
  re_a (re_p (ro_ior (by decide +kernel))) <|
  re_a (re_p (ro_istore_n (by decide +kernel) rfl (by decide +kernel))) <|
  re_a (re_p (ro_iinc (by decide +kernel) (by decide +kernel) (by decide +kernel))) <|
  re_a (re_p (ro_goto (by decide +kernel) (by decide +kernel))) <|
  re_a (re_p (ro_iload_n (by decide +kernel) rfl)) <|
  re_a (re_r ⟨(by decide +kernel), rfl⟩) <|
  re_n
theorem mk_69_0 : ∀ q ∈ ([(0, .inl (ri_pu (ri_icon 0 1))), (1, .inl (ri_pu (ri_istore 2 1))), (2, .inl (ri_pu (ri_iload 2 1))), (3, .inl (ri_pu (ri_icon 1875 3))), (6, .inl (ri_pu (ri_icmp (fun x y => decide (y ≤ x)) 38))), (9, .inl (ri_pu (ri_aload 0 1))), (10, .inl (ri_getf 4 6)), (13, .inl (ri_pu (ri_iload 2 1))), (14, .inl (ri_pu (ri_iload 2 1))), (15, .inl (ri_pu (ri_icon 15 2))), (17, .inl (ri_pu (ri_idr fun x y => x - x / y * y))), (18, .inl (ri_pu (ri_iload 1 1))), (19, .inl (ri_pu (ri_icmp (fun x y => decide (¬ x = y)) 26))), (22, .inl (ri_pu (ri_icon 0 1))), (23, .inl (ri_pu (ri_goto 29))), (26, .inl (ri_pu (ri_icon 1875 3))), (29, .inr (.inl (141, 3, none))), (32, .inl (ri_pu (ri_iinc 2 1))), (35, .inl (ri_pu (ri_goto 2))), (38, .inl (ri_pu (ri_icon 1 1))), (39, .inl (ri_pu (ri_istore 2 1))), (40, .inl (ri_pu (ri_icon 0 1))), (41, .inl (ri_pu (ri_istore 3 1))), (42, .inl (ri_pu (ri_iload 2 1))), (43, .inl (ri_pu (ri_if (fun x => decide (x = 0)) 64))), (46, .inl (ri_pu (ri_iload 3 1))), (47, .inl (ri_pu (ri_icon 1875 3))), (50, .inl (ri_pu (ri_icmp (fun x y => decide (y ≤ x)) 64))), (53, .inl (ri_pu (ri_aload 0 1))), (54, .inr (.inl (70, 1, some 4))), (57, .inl (ri_pu (ri_istore 2 1))), (58, .inl (ri_pu (ri_iinc 3 1))), (61, .inl (ri_pu (ri_goto 42))), (64, .inl (ri_pu (ri_aload 0 1))), (65, .inl (ri_getf 4 6)), (68, .inl (ri_pu (ri_aload 0 1))), (69, .inl (ri_getf 4 9)), (72, .inr (.inl (140, 2, none))), (75, .inl (ri_pu (ri_icon 1875 3))), (78, .inl (ri_pu (ri_icmp (fun x y => decide (y ≤ x)) 95)))] : List (Nat × ri_C)), re_ok Ex D dT 69 q :=
  re_a (re_p (ro_iconst (by decide +kernel) (by decide +kernel))) <|
  re_a (re_p (ro_istore_n (by decide +kernel) rfl (by decide +kernel))) <|
  re_a (re_p (ro_iload_n (by decide +kernel) rfl)) <|
  re_a (re_p (ro_sipush (by decide +kernel) (by decide +kernel))) <|
  re_a (re_p (ro_icmp_ge (by decide +kernel) (by decide +kernel))) <|
  re_a (re_p (ro_aload_n (by decide +kernel) rfl)) <|
  re_a (re_h (gf_X5_30 (by decide +kernel)) (rg_getf _ _)) <|
  re_a (re_p (ro_iload_n (by decide +kernel) rfl)) <|
  re_a (re_p (ro_iload_n (by decide +kernel) rfl)) <|
  re_a (re_p (ro_bipush (by decide +kernel) (by decide +kernel))) <|
  re_a (re_p (ro_irem (by decide +kernel))) <|
  re_a (re_p (ro_iload_n (by decide +kernel) rfl)) <|
  re_a (re_p (ro_icmp_ne (by decide +kernel) (by decide +kernel))) <|
  re_a (re_p (ro_iconst (by decide +kernel) (by decide +kernel))) <|
  re_a (re_p (ro_goto (by decide +kernel) (by decide +kernel))) <|
  re_a (re_p (ro_sipush (by decide +kernel) (by decide +kernel))) <|
  re_a (re_c (ck_X5_116 (by decide +kernel))) <|
  re_a (re_p (ro_iinc (by decide +kernel) (by decide +kernel) (by decide +kernel))) <|
  re_a (re_p (ro_goto (by decide +kernel) (by decide +kernel))) <|
  re_a (re_p (ro_iconst (by decide +kernel) (by decide +kernel))) <|
  re_a (re_p (ro_istore_n (by decide +kernel) rfl (by decide +kernel))) <|
  re_a (re_p (ro_iconst (by decide +kernel) (by decide +kernel))) <|
  re_a (re_p (ro_istore_n (by decide +kernel) rfl (by decide +kernel))) <|
  re_a (re_p (ro_iload_n (by decide +kernel) rfl)) <|
  re_a (re_p (ro_if_eq (by decide +kernel) (by decide +kernel))) <|
  re_a (re_p (ro_iload_n (by decide +kernel) rfl)) <|
  re_a (re_p (ro_sipush (by decide +kernel) (by decide +kernel))) <|
  re_a (re_p (ro_icmp_ge (by decide +kernel) (by decide +kernel))) <|
  re_a (re_p (ro_aload_n (by decide +kernel) rfl)) <|
  re_a (re_c (ck_X5_158 (by decide +kernel))) <|
  re_a (re_p (ro_istore_n (by decide +kernel) rfl (by decide +kernel))) <|
  re_a (re_p (ro_iinc (by decide +kernel) (by decide +kernel) (by decide +kernel))) <|
  re_a (re_p (ro_goto (by decide +kernel) (by decide +kernel))) <|
  re_a (re_p (ro_aload_n (by decide +kernel) rfl)) <|
  re_a (re_h (gf_X5_30 (by decide +kernel)) (rg_getf _ _)) <|
  re_a (re_p (ro_aload_n (by decide +kernel) rfl)) <|
  re_a (re_h (gf_X5_39 (by decide +kernel)) (rg_getf _ _)) <|
  re_a (re_c (ck_X5_72 (by decide +kernel))) <|
  re_a (re_p (ro_sipush (by decide +kernel) (by decide +kernel))) <|
  re_a (re_p (ro_icmp_ge (by decide +kernel) (by decide +kernel))) <|
  re_n
theorem mk_69_1 : ∀ q ∈ ([(81, .inl (ri_pu (ri_aload 0 1))), (82, .inl (ri_getf 4 6)), (85, .inl (ri_pu (ri_aload 0 1))), (86, .inl (ri_getf 4 9)), (89, .inr (.inl (140, 2, none))), (92, .inl (ri_pu (ri_goto 96))), (95, .inl (ri_pu (ri_icon (-1) 1))), (96, .inr (.inr 1))] : List (Nat × ri_C)), re_ok Ex D dT 69 q :=
  re_a (re_p (ro_aload_n (by decide +kernel) rfl)) <|
  re_a (re_h (gf_X5_30 (by decide +kernel)) (rg_getf _ _)) <|
  re_a (re_p (ro_aload_n (by decide +kernel) rfl)) <|
  re_a (re_h (gf_X5_39 (by decide +kernel)) (rg_getf _ _)) <|
  re_a (re_c (ck_X5_72 (by decide +kernel))) <|
  re_a (re_p (ro_goto (by decide +kernel) (by decide +kernel))) <|
  re_a (re_p (ro_iconst (by decide +kernel) (by decide +kernel))) <|
  re_a (re_r ⟨(by decide +kernel), rfl⟩) <|
  re_n
theorem mk_69 : ∀ q ∈ TL_69, re_ok Ex D dT 69 q := re_m mk_69_0 (mk_69_1)
theorem mk_70 : ∀ q ∈ TL_70, re_ok Ex D dT 70 q :=
  re_a (re_p (ro_iconst (by decide +kernel) (by decide +kernel))) <|
  re_a (re_p (ro_istore_n (by decide +kernel) rfl (by decide +kernel))) <|
  re_a (re_p (ro_iconst (by decide +kernel) (by decide +kernel))) <|
  re_a (re_p (ro_istore_n (by decide +kernel) rfl (by decide +kernel))) <|
  re_a (re_p (ro_iload_n (by decide +kernel) rfl)) <|
  re_a (re_p (ro_sipush (by decide +kernel) (by decide +kernel))) <|
  re_a (re_p (ro_icmp_ge (by decide +kernel) (by decide +kernel))) <|
  re_a (re_p (ro_aload_n (by decide +kernel) rfl)) <|
  re_a (re_h (gf_X5_21 (by decide +kernel)) (rg_getf _ _)) <|
  re_a (re_p (ro_iload_n (by decide +kernel) rfl)) <|
  re_a (re_c (ck_X5_72 (by decide +kernel))) <|
  re_a (re_p (ro_iconst (by decide +kernel) (by decide +kernel))) <|
  re_a (re_p (ro_icmp_eq (by decide +kernel) (by decide +kernel))) <|
  re_a (re_p (ro_aload_n (by decide +kernel) rfl)) <|
  re_a (re_p (ro_iload_n (by decide +kernel) rfl)) <|
  re_a (re_c (ck_X5_162 (by decide +kernel))) <|
  re_a (re_p (ro_if_eq (by decide +kernel) (by decide +kernel))) <|
  re_a (re_p (ro_iconst (by decide +kernel) (by decide +kernel))) <|
  re_a (re_p (ro_istore_n (by decide +kernel) rfl (by decide +kernel))) <|
  re_a (re_p (ro_iinc (by decide +kernel) (by decide +kernel) (by decide +kernel))) <|
  re_a (re_p (ro_goto (by decide +kernel) (by decide +kernel))) <|
  re_a (re_p (ro_iload_n (by decide +kernel) rfl)) <|
  re_a (re_r ⟨(by decide +kernel), rfl⟩) <|
  re_n
theorem mk_71_0 : ∀ q ∈ ([(0, .inl (ri_pu (ri_aload 0 1))), (1, .inl (ri_getf 4 6)), (4, .inl (ri_pu (ri_iload 1 1))), (5, .inr (.inl (140, 2, none))), (8, .inl (ri_pu (ri_istore 2 1))), (9, .inl (ri_pu (ri_icon 0 1))), (10, .inl (ri_pu (ri_istore 3 1))), (11, .inl (ri_pu (ri_iload 3 1))), (12, .inl (ri_pu (ri_aload 0 1))), (13, .inl (ri_getf 4 5)), (16, .inl (ri_pu (ri_iload 1 1))), (17, .inl (ri_pu (ri_icon 15 2))), (19, .inl (ri_pu (ri_idr fun x y => x - x / y * y))), (20, .inr (.inl (140, 2, none))), (23, .inl (ri_pu (ri_icmp (fun x y => decide (y ≤ x)) 62))), (26, .inl (ri_pu (ri_aload 0 1))), (27, .inl (ri_pu (ri_iload 1 1))), (28, .inl (ri_pu (ri_iload 3 1))), (29, .inr (.inl (66, 3, some 4))), (32, .inl (ri_pu (ri_istore 4 2))), (34, .inl (ri_pu (ri_iload 4 2))), (36, .inl (ri_pu (ri_icon (-1) 1))), (37, .inl (ri_pu (ri_icmp (fun x y => decide (x = y)) 56))), (40, .inl (ri_pu (ri_iload 2 1))), (41, .inl (ri_pu (ri_aload 0 1))), (42, .inl (ri_getf 4 6)), (45, .inl (ri_pu (ri_iload 4 2))), (47, .inr (.inl (140, 2, none))), (50, .inl (ri_pu (ri_icon 1 1))), (51, .inl (ri_pu (ri_ib fun x y => x + y))), (52, .inl (ri_pu ri_min)), (55, .inl (ri_pu (ri_istore 2 1))), (56, .inl (ri_pu (ri_iinc 3 1))), (59, .inl (ri_pu (ri_goto 11))), (62, .inl (ri_pu (ri_iload 2 1))), (63, .inl (ri_pu (ri_aload 0 1))), (64, .inl (ri_getf 4 6)), (67, .inl (ri_pu (ri_iload 1 1))), (68, .inr (.inl (140, 2, none))), (71, .inl (ri_pu (ri_icmp (fun x y => decide (y ≤ x)) 78)))] : List (Nat × ri_C)), re_ok Ex D dT 71 q :=
  re_a (re_p (ro_aload_n (by decide +kernel) rfl)) <|
  re_a (re_h (gf_X5_30 (by decide +kernel)) (rg_getf _ _)) <|
  re_a (re_p (ro_iload_n (by decide +kernel) rfl)) <|
  re_a (re_c (ck_X5_72 (by decide +kernel))) <|
  re_a (re_p (ro_istore_n (by decide +kernel) rfl (by decide +kernel))) <|
  re_a (re_p (ro_iconst (by decide +kernel) (by decide +kernel))) <|
  re_a (re_p (ro_istore_n (by decide +kernel) rfl (by decide +kernel))) <|
  re_a (re_p (ro_iload_n (by decide +kernel) rfl)) <|
  re_a (re_p (ro_aload_n (by decide +kernel) rfl)) <|
  re_a (re_h (gf_X5_27 (by decide +kernel)) (rg_getf _ _)) <|
  re_a (re_p (ro_iload_n (by decide +kernel) rfl)) <|
  re_a (re_p (ro_bipush (by decide +kernel) (by decide +kernel))) <|
  re_a (re_p (ro_irem (by decide +kernel))) <|
  re_a (re_c (ck_X5_72 (by decide +kernel))) <|
  re_a (re_p (ro_icmp_ge (by decide +kernel) (by decide +kernel))) <|
  re_a (re_p (ro_aload_n (by decide +kernel) rfl)) <|
  re_a (re_p (ro_iload_n (by decide +kernel) rfl)) <|
  re_a (re_p (ro_iload_n (by decide +kernel) rfl)) <|
  re_a (re_c (ck_X5_152 (by decide +kernel))) <|
  re_a (re_p (ro_istore (by decide +kernel) (by decide +kernel))) <|
  re_a (re_p (ro_iload (by decide +kernel))) <|
  re_a (re_p (ro_iconst (by decide +kernel) (by decide +kernel))) <|
  re_a (re_p (ro_icmp_eq (by decide +kernel) (by decide +kernel))) <|
  re_a (re_p (ro_iload_n (by decide +kernel) rfl)) <|
  re_a (re_p (ro_aload_n (by decide +kernel) rfl)) <|
  re_a (re_h (gf_X5_30 (by decide +kernel)) (rg_getf _ _)) <|
  re_a (re_p (ro_iload (by decide +kernel))) <|
  re_a (re_c (ck_X5_72 (by decide +kernel))) <|
  re_a (re_p (ro_iconst (by decide +kernel) (by decide +kernel))) <|
  re_a (re_p (ro_iadd (by decide +kernel))) <|
  re_a (re_p (ro_min (by decide +kernel) q_984 q_606 q_22 q_607)) <|
  re_a (re_p (ro_istore_n (by decide +kernel) rfl (by decide +kernel))) <|
  re_a (re_p (ro_iinc (by decide +kernel) (by decide +kernel) (by decide +kernel))) <|
  re_a (re_p (ro_goto (by decide +kernel) (by decide +kernel))) <|
  re_a (re_p (ro_iload_n (by decide +kernel) rfl)) <|
  re_a (re_p (ro_aload_n (by decide +kernel) rfl)) <|
  re_a (re_h (gf_X5_30 (by decide +kernel)) (rg_getf _ _)) <|
  re_a (re_p (ro_iload_n (by decide +kernel) rfl)) <|
  re_a (re_c (ck_X5_72 (by decide +kernel))) <|
  re_a (re_p (ro_icmp_ge (by decide +kernel) (by decide +kernel))) <|
  re_n
theorem mk_71_1 : ∀ q ∈ ([(74, .inl (ri_pu (ri_icon 1 1))), (75, .inl (ri_pu (ri_goto 79))), (78, .inl (ri_pu (ri_icon 0 1))), (79, .inl (ri_pu (ri_istore 3 1))), (80, .inl (ri_pu (ri_aload 0 1))), (81, .inl (ri_getf 4 6)), (84, .inl (ri_pu (ri_iload 1 1))), (85, .inl (ri_pu (ri_iload 2 1))), (86, .inr (.inl (141, 3, none))), (89, .inl (ri_pu (ri_iload 3 1))), (90, .inr (.inr 2))] : List (Nat × ri_C)), re_ok Ex D dT 71 q :=
  re_a (re_p (ro_iconst (by decide +kernel) (by decide +kernel))) <|
  re_a (re_p (ro_goto (by decide +kernel) (by decide +kernel))) <|
  re_a (re_p (ro_iconst (by decide +kernel) (by decide +kernel))) <|
  re_a (re_p (ro_istore_n (by decide +kernel) rfl (by decide +kernel))) <|
  re_a (re_p (ro_aload_n (by decide +kernel) rfl)) <|
  re_a (re_h (gf_X5_30 (by decide +kernel)) (rg_getf _ _)) <|
  re_a (re_p (ro_iload_n (by decide +kernel) rfl)) <|
  re_a (re_p (ro_iload_n (by decide +kernel) rfl)) <|
  re_a (re_c (ck_X5_116 (by decide +kernel))) <|
  re_a (re_p (ro_iload_n (by decide +kernel) rfl)) <|
  re_a (re_r ⟨(by decide +kernel), rfl⟩) <|
  re_n
theorem mk_71 : ∀ q ∈ TL_71, re_ok Ex D dT 71 q := re_m mk_71_0 (mk_71_1)
theorem mk_72 : ∀ q ∈ TL_72, re_ok Ex D dT 72 q :=
  re_a (re_p (ro_aload_n (by decide +kernel) rfl)) <|
  re_a (re_h (gf_X5_54 (by decide +kernel)) (rg_getf _ _)) <|
  re_a (re_h (gf_X5_170 (by decide +kernel)) (rg_getf _ _)) <|
  re_a (re_p (ro_aload_n (by decide +kernel) rfl)) <|
  re_a (re_h (gf_X5_36 (by decide +kernel)) (rg_getf _ _)) <|
  re_a (re_c (ck_X5_173 (by decide +kernel))) <|
  re_a (re_p (ro_aload_n (by decide +kernel) rfl)) <|
  re_a (re_p (ro_aload_n (by decide +kernel) rfl)) <|
  re_a (re_h (gf_X5_39 (by decide +kernel)) (rg_getf _ _)) <|
  re_a (re_p (ro_iload_n (by decide +kernel) rfl)) <|
  re_a (re_c (ck_X5_177_77 (by decide +kernel))) <|
  re_a (re_r ⟨(by decide +kernel), rfl⟩) <|
  re_n
theorem mk_73_0 : ∀ q ∈ ([(0, .inl (ri_pu (ri_icon 0 1))), (1, .inl (ri_pu (ri_istore 3 1))), (2, .inl (ri_pu (ri_iload 2 1))), (3, .inl (ri_pu (ri_if (fun x => decide (0 < x)) 8))), (6, .inl (ri_pu (ri_iload 3 1))), (7, .inr (.inr 1)), (8, .inl (ri_pu (ri_icon 0 1))), (9, .inl (ri_pu (ri_istore 4 2))), (11, .inl (ri_pu (ri_iload 4 2))), (13, .inl (ri_pu (ri_aload 0 1))), (14, .inl (ri_getf 4 5)), (17, .inl (ri_pu (ri_iload 1 1))), (18, .inl (ri_pu (ri_icon 15 2))), (20, .inl (ri_pu (ri_idr fun x y => x - x / y * y))), (21, .inr (.inl (140, 2, none))), (24, .inl (ri_pu (ri_icmp (fun x y => decide (y ≤ x)) 108))), (27, .inl (ri_pu (ri_aload 0 1))), (28, .inl (ri_pu (ri_iload 1 1))), (29, .inl (ri_pu (ri_iload 4 2))), (31, .inr (.inl (66, 3, some 4))), (34, .inl (ri_pu (ri_istore 5 2))), (36, .inl (ri_pu (ri_iload 5 2))), (38, .inl (ri_pu (ri_icon (-1) 1))), (39, .inl (ri_pu (ri_icmp (fun x y => decide (x = y)) 102))), (42, .inl (ri_pu (ri_aload 0 1))), (43, .inl (ri_getf 4 3)), (46, .inl (ri_pu (ri_iload 5 2))), (48, .inr (.inl (140, 2, none))), (51, .inl (ri_pu (ri_istore 6 2))), (53, .inl (ri_pu (ri_aload 0 1))), (54, .inl (ri_getf 4 8)), (57, .inl (ri_pu (ri_iload 6 2))), (59, .inr (.inl (140, 2, none))), (62, .inl (ri_pu (ri_istore 7 2))), (64, .inl (ri_pu (ri_aload 0 1))), (65, .inl (ri_getf 4 8)), (68, .inl (ri_pu (ri_iload 6 2))), (70, .inl (ri_pu (ri_icon 0 1))), (71, .inr (.inl (141, 3, none))), (74, .inl (ri_pu (ri_iload 3 1)))] : List (Nat × ri_C)), re_ok Ex D dT 73 q :=
  re_a (re_p (ro_iconst (by decide +kernel) (by decide +kernel))) <|
  re_a (re_p (ro_istore_n (by decide +kernel) rfl (by decide +kernel))) <|
  re_a (re_p (ro_iload_n (by decide +kernel) rfl)) <|
  re_a (re_p (ro_if_gt (by decide +kernel) (by decide +kernel))) <|
  re_a (re_p (ro_iload_n (by decide +kernel) rfl)) <|
  re_a (re_r ⟨(by decide +kernel), rfl⟩) <|
  re_a (re_p (ro_iconst (by decide +kernel) (by decide +kernel))) <|
  re_a (re_p (ro_istore (by decide +kernel) (by decide +kernel))) <|
  re_a (re_p (ro_iload (by decide +kernel))) <|
  re_a (re_p (ro_aload_n (by decide +kernel) rfl)) <|
  re_a (re_h (gf_X5_27 (by decide +kernel)) (rg_getf _ _)) <|
  re_a (re_p (ro_iload_n (by decide +kernel) rfl)) <|
  re_a (re_p (ro_bipush (by decide +kernel) (by decide +kernel))) <|
  re_a (re_p (ro_irem (by decide +kernel))) <|
  re_a (re_c (ck_X5_72 (by decide +kernel))) <|
  re_a (re_p (ro_icmp_ge (by decide +kernel) (by decide +kernel))) <|
  re_a (re_p (ro_aload_n (by decide +kernel) rfl)) <|
  re_a (re_p (ro_iload_n (by decide +kernel) rfl)) <|
  re_a (re_p (ro_iload (by decide +kernel))) <|
  re_a (re_c (ck_X5_152 (by decide +kernel))) <|
  re_a (re_p (ro_istore (by decide +kernel) (by decide +kernel))) <|
  re_a (re_p (ro_iload (by decide +kernel))) <|
  re_a (re_p (ro_iconst (by decide +kernel) (by decide +kernel))) <|
  re_a (re_p (ro_icmp_eq (by decide +kernel) (by decide +kernel))) <|
  re_a (re_p (ro_aload_n (by decide +kernel) rfl)) <|
  re_a (re_h (gf_X5_21 (by decide +kernel)) (rg_getf _ _)) <|
  re_a (re_p (ro_iload (by decide +kernel))) <|
  re_a (re_c (ck_X5_72 (by decide +kernel))) <|
  re_a (re_p (ro_istore (by decide +kernel) (by decide +kernel))) <|
  re_a (re_p (ro_aload_n (by decide +kernel) rfl)) <|
  re_a (re_h (gf_X5_36 (by decide +kernel)) (rg_getf _ _)) <|
  re_a (re_p (ro_iload (by decide +kernel))) <|
  re_a (re_c (ck_X5_72 (by decide +kernel))) <|
  re_a (re_p (ro_istore (by decide +kernel) (by decide +kernel))) <|
  re_a (re_p (ro_aload_n (by decide +kernel) rfl)) <|
  re_a (re_h (gf_X5_36 (by decide +kernel)) (rg_getf _ _)) <|
  re_a (re_p (ro_iload (by decide +kernel))) <|
  re_a (re_p (ro_iconst (by decide +kernel) (by decide +kernel))) <|
  re_a (re_c (ck_X5_116 (by decide +kernel))) <|
  re_a (re_p (ro_iload_n (by decide +kernel) rfl)) <|
  re_n
theorem mk_73_1 : ∀ q ∈ ([(75, .inl (ri_pu (ri_iload 7 2))), (77, .inl (ri_pu (ri_aload 0 1))), (78, .inl (ri_pu (ri_iload 5 2))), (80, .inl (ri_pu (ri_iload 2 1))), (81, .inl (ri_pu (ri_icon 1 1))), (82, .inl (ri_pu (ri_ib fun x y => x - y))), (102, .inl (ri_pu (ri_iinc 4 1))), (105, .inl (ri_pu (ri_goto 11))), (108, .inl (ri_pu (ri_iload 3 1))), (109, .inr (.inr 1))] : List (Nat × ri_C)), re_ok Ex D dT 73 q :=
  re_a (re_p (ro_iload (by decide +kernel))) <|
  re_a (re_p (ro_aload_n (by decide +kernel) rfl)) <|
  re_a (re_p (ro_iload (by decide +kernel))) <|
  re_a (re_p (ro_iload_n (by decide +kernel) rfl)) <|
  re_a (re_p (ro_iconst (by decide +kernel) (by decide +kernel))) <|
  re_a (re_p (ro_isub (by decide +kernel))) <|
  re_a (re_p (ro_iinc (by decide +kernel) (by decide +kernel) (by decide +kernel))) <|
  re_a (re_p (ro_goto (by decide +kernel) (by decide +kernel))) <|
  re_a (re_p (ro_iload_n (by decide +kernel) rfl)) <|
  re_a (re_r ⟨(by decide +kernel), rfl⟩) <|
  re_n
theorem mk_73 : ∀ q ∈ TL_73, re_ok Ex D dT 73 q := re_m mk_73_0 (mk_73_1)
theorem mk_74_0 : ∀ q ∈ ([(0, .inl (ri_pu (ri_icon 0 1))), (1, .inl (ri_pu (ri_istore 3 1))), (2, .inl (ri_pu (ri_iload 2 1))), (3, .inl (ri_pu (ri_if (fun x => decide (0 < x)) 8))), (6, .inl (ri_pu (ri_iload 3 1))), (7, .inr (.inr 1)), (8, .inl (ri_pu (ri_icon 0 1))), (9, .inl (ri_pu (ri_istore 4 2))), (11, .inl (ri_pu (ri_iload 4 2))), (13, .inl (ri_pu (ri_aload 0 1))), (14, .inl (ri_getf 4 5)), (17, .inl (ri_pu (ri_iload 1 1))), (18, .inl (ri_pu (ri_icon 15 2))), (20, .inl (ri_pu (ri_idr fun x y => x - x / y * y))), (21, .inr (.inl (140, 2, none))), (24, .inl (ri_pu (ri_icmp (fun x y => decide (y ≤ x)) 108))), (27, .inl (ri_pu (ri_aload 0 1))), (28, .inl (ri_pu (ri_iload 1 1))), (29, .inl (ri_pu (ri_iload 4 2))), (31, .inr (.inl (66, 3, some 4))), (34, .inl (ri_pu (ri_istore 5 2))), (36, .inl (ri_pu (ri_iload 5 2))), (38, .inl (ri_pu (ri_icon (-1) 1))), (39, .inl (ri_pu (ri_icmp (fun x y => decide (x = y)) 102))), (42, .inl (ri_pu (ri_aload 0 1))), (43, .inl (ri_getf 4 3)), (46, .inl (ri_pu (ri_iload 5 2))), (48, .inr (.inl (140, 2, none))), (51, .inl (ri_pu (ri_istore 6 2))), (53, .inl (ri_pu (ri_aload 0 1))), (54, .inl (ri_getf 4 8)), (57, .inl (ri_pu (ri_iload 6 2))), (59, .inr (.inl (140, 2, none))), (62, .inl (ri_pu (ri_istore 7 2))), (64, .inl (ri_pu (ri_aload 0 1))), (65, .inl (ri_getf 4 8)), (68, .inl (ri_pu (ri_iload 6 2))), (70, .inl (ri_pu (ri_icon 0 1))), (71, .inr (.inl (141, 3, none))), (74, .inl (ri_pu (ri_iload 3 1)))] : List (Nat × ri_C)), re_ok Ex D dT 74 q :=
  re_a (re_p (ro_iconst (by decide +kernel) (by decide +kernel))) <|
  re_a (re_p (ro_istore_n (by decide +kernel) rfl (by decide +kernel))) <|
  re_a (re_p (ro_iload_n (by decide +kernel) rfl)) <|
  re_a (re_p (ro_if_gt (by decide +kernel) (by decide +kernel))) <|
  re_a (re_p (ro_iload_n (by decide +kernel) rfl)) <|
  re_a (re_r ⟨(by decide +kernel), rfl⟩) <|
  re_a (re_p (ro_iconst (by decide +kernel) (by decide +kernel))) <|
  re_a (re_p (ro_istore (by decide +kernel) (by decide +kernel))) <|
  re_a (re_p (ro_iload (by decide +kernel))) <|
  re_a (re_p (ro_aload_n (by decide +kernel) rfl)) <|
  re_a (re_h (gf_X5_27 (by decide +kernel)) (rg_getf _ _)) <|
  re_a (re_p (ro_iload_n (by decide +kernel) rfl)) <|
  re_a (re_p (ro_bipush (by decide +kernel) (by decide +kernel))) <|
  re_a (re_p (ro_irem (by decide +kernel))) <|
  re_a (re_c (ck_X5_72 (by decide +kernel))) <|
  re_a (re_p (ro_icmp_ge (by decide +kernel) (by decide +kernel))) <|
  re_a (re_p (ro_aload_n (by decide +kernel) rfl)) <|
  re_a (re_p (ro_iload_n (by decide +kernel) rfl)) <|
  re_a (re_p (ro_iload (by decide +kernel))) <|
  re_a (re_c (ck_X5_152 (by decide +kernel))) <|
  re_a (re_p (ro_istore (by decide +kernel) (by decide +kernel))) <|
  re_a (re_p (ro_iload (by decide +kernel))) <|
  re_a (re_p (ro_iconst (by decide +kernel) (by decide +kernel))) <|
  re_a (re_p (ro_icmp_eq (by decide +kernel) (by decide +kernel))) <|
  re_a (re_p (ro_aload_n (by decide +kernel) rfl)) <|
  re_a (re_h (gf_X5_21 (by decide +kernel)) (rg_getf _ _)) <|
  re_a (re_p (ro_iload (by decide +kernel))) <|
  re_a (re_c (ck_X5_72 (by decide +kernel))) <|
  re_a (re_p (ro_istore (by decide +kernel) (by decide +kernel))) <|
  re_a (re_p (ro_aload_n (by decide +kernel) rfl)) <|
  re_a (re_h (gf_X5_36 (by decide +kernel)) (rg_getf _ _)) <|
  re_a (re_p (ro_iload (by decide +kernel))) <|
  re_a (re_c (ck_X5_72 (by decide +kernel))) <|
  re_a (re_p (ro_istore (by decide +kernel) (by decide +kernel))) <|
  re_a (re_p (ro_aload_n (by decide +kernel) rfl)) <|
  re_a (re_h (gf_X5_36 (by decide +kernel)) (rg_getf _ _)) <|
  re_a (re_p (ro_iload (by decide +kernel))) <|
  re_a (re_p (ro_iconst (by decide +kernel) (by decide +kernel))) <|
  re_a (re_c (ck_X5_116 (by decide +kernel))) <|
  re_a (re_p (ro_iload_n (by decide +kernel) rfl)) <|
  re_n
theorem mk_74_1 : ∀ q ∈ ([(75, .inl (ri_pu (ri_iload 7 2))), (77, .inl (ri_pu (ri_aload 0 1))), (78, .inl (ri_pu (ri_iload 5 2))), (80, .inl (ri_pu (ri_iload 2 1))), (81, .inl (ri_pu (ri_icon 1 1))), (82, .inl (ri_pu (ri_ib fun x y => x - y))), (83, .inr (.inl (73, 3, none))), (86, .inl (ri_pu (ri_ib fun x y => x + y))), (87, .inl (ri_pu ri_max)), (90, .inl (ri_pu (ri_istore 3 1))), (91, .inl (ri_pu (ri_aload 0 1))), (92, .inl (ri_getf 4 8)), (95, .inl (ri_pu (ri_iload 6 2))), (97, .inl (ri_pu (ri_iload 7 2))), (99, .inr (.inl (141, 3, none))), (102, .inl (ri_pu (ri_iinc 4 1))), (105, .inl (ri_pu (ri_goto 11))), (108, .inl (ri_pu (ri_iload 3 1))), (109, .inr (.inr 1))] : List (Nat × ri_C)), re_ok Ex D dT 74 q :=
  re_a (re_p (ro_iload (by decide +kernel))) <|
  re_a (re_p (ro_aload_n (by decide +kernel) rfl)) <|
  re_a (re_p (ro_iload (by decide +kernel))) <|
  re_a (re_p (ro_iload_n (by decide +kernel) rfl)) <|
  re_a (re_p (ro_iconst (by decide +kernel) (by decide +kernel))) <|
  re_a (re_p (ro_isub (by decide +kernel))) <|
  re_a (re_c (ck_X5_177_73 (by decide +kernel))) <|
  re_a (re_p (ro_iadd (by decide +kernel))) <|
  re_a (re_p (ro_max (by decide +kernel) q_1012 q_1013 q_22 q_1014)) <|
  re_a (re_p (ro_istore_n (by decide +kernel) rfl (by decide +kernel))) <|
  re_a (re_p (ro_aload_n (by decide +kernel) rfl)) <|
  re_a (re_h (gf_X5_36 (by decide +kernel)) (rg_getf _ _)) <|
  re_a (re_p (ro_iload (by decide +kernel))) <|
  re_a (re_p (ro_iload (by decide +kernel))) <|
  re_a (re_c (ck_X5_116 (by decide +kernel))) <|
  re_a (re_p (ro_iinc (by decide +kernel) (by decide +kernel) (by decide +kernel))) <|
  re_a (re_p (ro_goto (by decide +kernel) (by decide +kernel))) <|
  re_a (re_p (ro_iload_n (by decide +kernel) rfl)) <|
  re_a (re_r ⟨(by decide +kernel), rfl⟩) <|
  re_n
theorem mk_74 : ∀ q ∈ TL_74, re_ok Ex D dT 74 q := re_m mk_74_0 (mk_74_1)
theorem mk_75_0 : ∀ q ∈ ([(0, .inl (ri_pu (ri_icon 0 1))), (1, .inl (ri_pu (ri_istore 3 1))), (2, .inl (ri_pu (ri_iload 2 1))), (3, .inl (ri_pu (ri_if (fun x => decide (0 < x)) 8))), (6, .inl (ri_pu (ri_iload 3 1))), (7, .inr (.inr 1)), (8, .inl (ri_pu (ri_icon 0 1))), (9, .inl (ri_pu (ri_istore 4 2))), (11, .inl (ri_pu (ri_iload 4 2))), (13, .inl (ri_pu (ri_aload 0 1))), (14, .inl (ri_getf 4 5)), (17, .inl (ri_pu (ri_iload 1 1))), (18, .inl (ri_pu (ri_icon 15 2))), (20, .inl (ri_pu (ri_idr fun x y => x - x / y * y))), (21, .inr (.inl (140, 2, none))), (24, .inl (ri_pu (ri_icmp (fun x y => decide (y ≤ x)) 108))), (27, .inl (ri_pu (ri_aload 0 1))), (28, .inl (ri_pu (ri_iload 1 1))), (29, .inl (ri_pu (ri_iload 4 2))), (31, .inr (.inl (66, 3, some 4))), (34, .inl (ri_pu (ri_istore 5 2))), (36, .inl (ri_pu (ri_iload 5 2))), (38, .inl (ri_pu (ri_icon (-1) 1))), (39, .inl (ri_pu (ri_icmp (fun x y => decide (x = y)) 102))), (42, .inl (ri_pu (ri_aload 0 1))), (43, .inl (ri_getf 4 3)), (46, .inl (ri_pu (ri_iload 5 2))), (48, .inr (.inl (140, 2, none))), (51, .inl (ri_pu (ri_istore 6 2))), (53, .inl (ri_pu (ri_aload 0 1))), (54, .inl (ri_getf 4 8)), (57, .inl (ri_pu (ri_iload 6 2))), (59, .inr (.inl (140, 2, none))), (62, .inl (ri_pu (ri_istore 7 2))), (64, .inl (ri_pu (ri_aload 0 1))), (65, .inl (ri_getf 4 8)), (68, .inl (ri_pu (ri_iload 6 2))), (70, .inl (ri_pu (ri_icon 0 1))), (71, .inr (.inl (141, 3, none))), (74, .inl (ri_pu (ri_iload 3 1)))] : List (Nat × ri_C)), re_ok Ex D dT 75 q :=
  re_a (re_p (ro_iconst (by decide +kernel) (by decide +kernel))) <|
  re_a (re_p (ro_istore_n (by decide +kernel) rfl (by decide +kernel))) <|
  re_a (re_p (ro_iload_n (by decide +kernel) rfl)) <|
  re_a (re_p (ro_if_gt (by decide +kernel) (by decide +kernel))) <|
  re_a (re_p (ro_iload_n (by decide +kernel) rfl)) <|
  re_a (re_r ⟨(by decide +kernel), rfl⟩) <|
  re_a (re_p (ro_iconst (by decide +kernel) (by decide +kernel))) <|
  re_a (re_p (ro_istore (by decide +kernel) (by decide +kernel))) <|
  re_a (re_p (ro_iload (by decide +kernel))) <|
  re_a (re_p (ro_aload_n (by decide +kernel) rfl)) <|
  re_a (re_h (gf_X5_27 (by decide +kernel)) (rg_getf _ _)) <|
  re_a (re_p (ro_iload_n (by decide +kernel) rfl)) <|
  re_a (re_p (ro_bipush (by decide +kernel) (by decide +kernel))) <|
  re_a (re_p (ro_irem (by decide +kernel))) <|
  re_a (re_c (ck_X5_72 (by decide +kernel))) <|
  re_a (re_p (ro_icmp_ge (by decide +kernel) (by decide +kernel))) <|
  re_a (re_p (ro_aload_n (by decide +kernel) rfl)) <|
  re_a (re_p (ro_iload_n (by decide +kernel) rfl)) <|
  re_a (re_p (ro_iload (by decide +kernel))) <|
  re_a (re_c (ck_X5_152 (by decide +kernel))) <|
  re_a (re_p (ro_istore (by decide +kernel) (by decide +kernel))) <|
  re_a (re_p (ro_iload (by decide +kernel))) <|
  re_a (re_p (ro_iconst (by decide +kernel) (by decide +kernel))) <|
  re_a (re_p (ro_icmp_eq (by decide +kernel) (by decide +kernel))) <|
  re_a (re_p (ro_aload_n (by decide +kernel) rfl)) <|
  re_a (re_h (gf_X5_21 (by decide +kernel)) (rg_getf _ _)) <|
  re_a (re_p (ro_iload (by decide +kernel))) <|
  re_a (re_c (ck_X5_72 (by decide +kernel))) <|
  re_a (re_p (ro_istore (by decide +kernel) (by decide +kernel))) <|
  re_a (re_p (ro_aload_n (by decide +kernel) rfl)) <|
  re_a (re_h (gf_X5_36 (by decide +kernel)) (rg_getf _ _)) <|
  re_a (re_p (ro_iload (by decide +kernel))) <|
  re_a (re_c (ck_X5_72 (by decide +kernel))) <|
  re_a (re_p (ro_istore (by decide +kernel) (by decide +kernel))) <|
  re_a (re_p (ro_aload_n (by decide +kernel) rfl)) <|
  re_a (re_h (gf_X5_36 (by decide +kernel)) (rg_getf _ _)) <|
  re_a (re_p (ro_iload (by decide +kernel))) <|
  re_a (re_p (ro_iconst (by decide +kernel) (by decide +kernel))) <|
  re_a (re_c (ck_X5_116 (by decide +kernel))) <|
  re_a (re_p (ro_iload_n (by decide +kernel) rfl)) <|
  re_n
theorem mk_75_1 : ∀ q ∈ ([(75, .inl (ri_pu (ri_iload 7 2))), (77, .inl (ri_pu (ri_aload 0 1))), (78, .inl (ri_pu (ri_iload 5 2))), (80, .inl (ri_pu (ri_iload 2 1))), (81, .inl (ri_pu (ri_icon 1 1))), (82, .inl (ri_pu (ri_ib fun x y => x - y))), (83, .inr (.inl (74, 3, none))), (86, .inl (ri_pu (ri_ib fun x y => x + y))), (87, .inl (ri_pu ri_max)), (90, .inl (ri_pu (ri_istore 3 1))), (91, .inl (ri_pu (ri_aload 0 1))), (92, .inl (ri_getf 4 8)), (95, .inl (ri_pu (ri_iload 6 2))), (97, .inl (ri_pu (ri_iload 7 2))), (99, .inr (.inl (141, 3, none))), (102, .inl (ri_pu (ri_iinc 4 1))), (105, .inl (ri_pu (ri_goto 11))), (108, .inl (ri_pu (ri_iload 3 1))), (109, .inr (.inr 1))] : List (Nat × ri_C)), re_ok Ex D dT 75 q :=
  re_a (re_p (ro_iload (by decide +kernel))) <|
  re_a (re_p (ro_aload_n (by decide +kernel) rfl)) <|
  re_a (re_p (ro_iload (by decide +kernel))) <|
  re_a (re_p (ro_iload_n (by decide +kernel) rfl)) <|
  re_a (re_p (ro_iconst (by decide +kernel) (by decide +kernel))) <|
  re_a (re_p (ro_isub (by decide +kernel))) <|
  re_a (re_c (ck_X5_177_74 (by decide +kernel))) <|
  re_a (re_p (ro_iadd (by decide +kernel))) <|
  re_a (re_p (ro_max (by decide +kernel) q_1012 q_1013 q_22 q_1014)) <|
  re_a (re_p (ro_istore_n (by decide +kernel) rfl (by decide +kernel))) <|
  re_a (re_p (ro_aload_n (by decide +kernel) rfl)) <|
  re_a (re_h (gf_X5_36 (by decide +kernel)) (rg_getf _ _)) <|
  re_a (re_p (ro_iload (by decide +kernel))) <|
  re_a (re_p (ro_iload (by decide +kernel))) <|
  re_a (re_c (ck_X5_116 (by decide +kernel))) <|
  re_a (re_p (ro_iinc (by decide +kernel) (by decide +kernel) (by decide +kernel))) <|
  re_a (re_p (ro_goto (by decide +kernel) (by decide +kernel))) <|
  re_a (re_p (ro_iload_n (by decide +kernel) rfl)) <|
  re_a (re_r ⟨(by decide +kernel), rfl⟩) <|
  re_n
theorem mk_75 : ∀ q ∈ TL_75, re_ok Ex D dT 75 q := re_m mk_75_0 (mk_75_1)
theorem mk_76_0 : ∀ q ∈ ([(0, .inl (ri_pu (ri_icon 0 1))), (1, .inl (ri_pu (ri_istore 3 1))), (2, .inl (ri_pu (ri_iload 2 1))), (3, .inl (ri_pu (ri_if (fun x => decide (0 < x)) 8))), (6, .inl (ri_pu (ri_iload 3 1))), (7, .inr (.inr 1)), (8, .inl (ri_pu (ri_icon 0 1))), (9, .inl (ri_pu (ri_istore 4 2))), (11, .inl (ri_pu (ri_iload 4 2))), (13, .inl (ri_pu (ri_aload 0 1))), (14, .inl (ri_getf 4 5)), (17, .inl (ri_pu (ri_iload 1 1))), (18, .inl (ri_pu (ri_icon 15 2))), (20, .inl (ri_pu (ri_idr fun x y => x - x / y * y))), (21, .inr (.inl (140, 2, none))), (24, .inl (ri_pu (ri_icmp (fun x y => decide (y ≤ x)) 108))), (27, .inl (ri_pu (ri_aload 0 1))), (28, .inl (ri_pu (ri_iload 1 1))), (29, .inl (ri_pu (ri_iload 4 2))), (31, .inr (.inl (66, 3, some 4))), (34, .inl (ri_pu (ri_istore 5 2))), (36, .inl (ri_pu (ri_iload 5 2))), (38, .inl (ri_pu (ri_icon (-1) 1))), (39, .inl (ri_pu (ri_icmp (fun x y => decide (x = y)) 102))), (42, .inl (ri_pu (ri_aload 0 1))), (43, .inl (ri_getf 4 3)), (46, .inl (ri_pu (ri_iload 5 2))), (48, .inr (.inl (140, 2, none))), (51, .inl (ri_pu (ri_istore 6 2))), (53, .inl (ri_pu (ri_aload 0 1))), (54, .inl (ri_getf 4 8)), (57, .inl (ri_pu (ri_iload 6 2))), (59, .inr (.inl (140, 2, none))), (62, .inl (ri_pu (ri_istore 7 2))), (64, .inl (ri_pu (ri_aload 0 1))), (65, .inl (ri_getf 4 8)), (68, .inl (ri_pu (ri_iload 6 2))), (70, .inl (ri_pu (ri_icon 0 1))), (71, .inr (.inl (141, 3, none))), (74, .inl (ri_pu (ri_iload 3 1)))] : List (Nat × ri_C)), re_ok Ex D dT 76 q :=
  re_a (re_p (ro_iconst (by decide +kernel) (by decide +kernel))) <|
  re_a (re_p (ro_istore_n (by decide +kernel) rfl (by decide +kernel))) <|
  re_a (re_p (ro_iload_n (by decide +kernel) rfl)) <|
  re_a (re_p (ro_if_gt (by decide +kernel) (by decide +kernel))) <|
  re_a (re_p (ro_iload_n (by decide +kernel) rfl)) <|
  re_a (re_r ⟨(by decide +kernel), rfl⟩) <|
  re_a (re_p (ro_iconst (by decide +kernel) (by decide +kernel))) <|
  re_a (re_p (ro_istore (by decide +kernel) (by decide +kernel))) <|
  re_a (re_p (ro_iload (by decide +kernel))) <|
  re_a (re_p (ro_aload_n (by decide +kernel) rfl)) <|
  re_a (re_h (gf_X5_27 (by decide +kernel)) (rg_getf _ _)) <|
  re_a (re_p (ro_iload_n (by decide +kernel) rfl)) <|
  re_a (re_p (ro_bipush (by decide +kernel) (by decide +kernel))) <|
  re_a (re_p (ro_irem (by decide +kernel))) <|
  re_a (re_c (ck_X5_72 (by decide +kernel))) <|
  re_a (re_p (ro_icmp_ge (by decide +kernel) (by decide +kernel))) <|
  re_a (re_p (ro_aload_n (by decide +kernel) rfl)) <|
  re_a (re_p (ro_iload_n (by decide +kernel) rfl)) <|
  re_a (re_p (ro_iload (by decide +kernel))) <|
  re_a (re_c (ck_X5_152 (by decide +kernel))) <|
  re_a (re_p (ro_istore (by decide +kernel) (by decide +kernel))) <|
  re_a (re_p (ro_iload (by decide +kernel))) <|
  re_a (re_p (ro_iconst (by decide +kernel) (by decide +kernel))) <|
  re_a (re_p (ro_icmp_eq (by decide +kernel) (by decide +kernel))) <|
  re_a (re_p (ro_aload_n (by decide +kernel) rfl)) <|
  re_a (re_h (gf_X5_21 (by decide +kernel)) (rg_getf _ _)) <|
  re_a (re_p (ro_iload (by decide +kernel))) <|
  re_a (re_c (ck_X5_72 (by decide +kernel))) <|
  re_a (re_p (ro_istore (by decide +kernel) (by decide +kernel))) <|
  re_a (re_p (ro_aload_n (by decide +kernel) rfl)) <|
  re_a (re_h (gf_X5_36 (by decide +kernel)) (rg_getf _ _)) <|
  re_a (re_p (ro_iload (by decide +kernel))) <|
  re_a (re_c (ck_X5_72 (by decide +kernel))) <|
  re_a (re_p (ro_istore (by decide +kernel) (by decide +kernel))) <|
  re_a (re_p (ro_aload_n (by decide +kernel) rfl)) <|
  re_a (re_h (gf_X5_36 (by decide +kernel)) (rg_getf _ _)) <|
  re_a (re_p (ro_iload (by decide +kernel))) <|
  re_a (re_p (ro_iconst (by decide +kernel) (by decide +kernel))) <|
  re_a (re_c (ck_X5_116 (by decide +kernel))) <|
  re_a (re_p (ro_iload_n (by decide +kernel) rfl)) <|
  re_n
theorem mk_76_1 : ∀ q ∈ ([(75, .inl (ri_pu (ri_iload 7 2))), (77, .inl (ri_pu (ri_aload 0 1))), (78, .inl (ri_pu (ri_iload 5 2))), (80, .inl (ri_pu (ri_iload 2 1))), (81, .inl (ri_pu (ri_icon 1 1))), (82, .inl (ri_pu (ri_ib fun x y => x - y))), (83, .inr (.inl (75, 3, none))), (86, .inl (ri_pu (ri_ib fun x y => x + y))), (87, .inl (ri_pu ri_max)), (90, .inl (ri_pu (ri_istore 3 1))), (91, .inl (ri_pu (ri_aload 0 1))), (92, .inl (ri_getf 4 8)), (95, .inl (ri_pu (ri_iload 6 2))), (97, .inl (ri_pu (ri_iload 7 2))), (99, .inr (.inl (141, 3, none))), (102, .inl (ri_pu (ri_iinc 4 1))), (105, .inl (ri_pu (ri_goto 11))), (108, .inl (ri_pu (ri_iload 3 1))), (109, .inr (.inr 1))] : List (Nat × ri_C)), re_ok Ex D dT 76 q :=
  re_a (re_p (ro_iload (by decide +kernel))) <|
  re_a (re_p (ro_aload_n (by decide +kernel) rfl)) <|
  re_a (re_p (ro_iload (by decide +kernel))) <|
  re_a (re_p (ro_iload_n (by decide +kernel) rfl)) <|
  re_a (re_p (ro_iconst (by decide +kernel) (by decide +kernel))) <|
  re_a (re_p (ro_isub (by decide +kernel))) <|
  re_a (re_c (ck_X5_177_75 (by decide +kernel))) <|
  re_a (re_p (ro_iadd (by decide +kernel))) <|
  re_a (re_p (ro_max (by decide +kernel) q_1012 q_1013 q_22 q_1014)) <|
  re_a (re_p (ro_istore_n (by decide +kernel) rfl (by decide +kernel))) <|
  re_a (re_p (ro_aload_n (by decide +kernel) rfl)) <|
  re_a (re_h (gf_X5_36 (by decide +kernel)) (rg_getf _ _)) <|
  re_a (re_p (ro_iload (by decide +kernel))) <|
  re_a (re_p (ro_iload (by decide +kernel))) <|
  re_a (re_c (ck_X5_116 (by decide +kernel))) <|
  re_a (re_p (ro_iinc (by decide +kernel) (by decide +kernel) (by decide +kernel))) <|
  re_a (re_p (ro_goto (by decide +kernel) (by decide +kernel))) <|
  re_a (re_p (ro_iload_n (by decide +kernel) rfl)) <|
  re_a (re_r ⟨(by decide +kernel), rfl⟩) <|
  re_n
theorem mk_76 : ∀ q ∈ TL_76, re_ok Ex D dT 76 q := re_m mk_76_0 (mk_76_1)
theorem mk_77_0 : ∀ q ∈ ([(0, .inl (ri_pu (ri_icon 0 1))), (1, .inl (ri_pu (ri_istore 3 1))), (2, .inl (ri_pu (ri_iload 2 1))), (3, .inl (ri_pu (ri_if (fun x => decide (0 < x)) 8))), (6, .inl (ri_pu (ri_iload 3 1))), (7, .inr (.inr 1)), (8, .inl (ri_pu (ri_icon 0 1))), (9, .inl (ri_pu (ri_istore 4 2))), (11, .inl (ri_pu (ri_iload 4 2))), (13, .inl (ri_pu (ri_aload 0 1))), (14, .inl (ri_getf 4 5)), (17, .inl (ri_pu (ri_iload 1 1))), (18, .inl (ri_pu (ri_icon 15 2))), (20, .inl (ri_pu (ri_idr fun x y => x - x / y * y))), (21, .inr (.inl (140, 2, none))), (24, .inl (ri_pu (ri_icmp (fun x y => decide (y ≤ x)) 108))), (27, .inl (ri_pu (ri_aload 0 1))), (28, .inl (ri_pu (ri_iload 1 1))), (29, .inl (ri_pu (ri_iload 4 2))), (31, .inr (.inl (66, 3, some 4))), (34, .inl (ri_pu (ri_istore 5 2))), (36, .inl (ri_pu (ri_iload 5 2))), (38, .inl (ri_pu (ri_icon (-1) 1))), (39, .inl (ri_pu (ri_icmp (fun x y => decide (x = y)) 102))), (42, .inl (ri_pu (ri_aload 0 1))), (43, .inl (ri_getf 4 3)), (46, .inl (ri_pu (ri_iload 5 2))), (48, .inr (.inl (140, 2, none))), (51, .inl (ri_pu (ri_istore 6 2))), (53, .inl (ri_pu (ri_aload 0 1))), (54, .inl (ri_getf 4 8)), (57, .inl (ri_pu (ri_iload 6 2))), (59, .inr (.inl (140, 2, none))), (62, .inl (ri_pu (ri_istore 7 2))), (64, .inl (ri_pu (ri_aload 0 1))), (65, .inl (ri_getf 4 8)), (68, .inl (ri_pu (ri_iload 6 2))), (70, .inl (ri_pu (ri_icon 0 1))), (71, .inr (.inl (141, 3, none))), (74, .inl (ri_pu (ri_iload 3 1)))] : List (Nat × ri_C)), re_ok Ex D dT 77 q :=
  re_a (re_p (ro_iconst (by decide +kernel) (by decide +kernel))) <|
  re_a (re_p (ro_istore_n (by decide +kernel) rfl (by decide +kernel))) <|
  re_a (re_p (ro_iload_n (by decide +kernel) rfl)) <|
  re_a (re_p (ro_if_gt (by decide +kernel) (by decide +kernel))) <|
  re_a (re_p (ro_iload_n (by decide +kernel) rfl)) <|
  re_a (re_r ⟨(by decide +kernel), rfl⟩) <|
  re_a (re_p (ro_iconst (by decide +kernel) (by decide +kernel))) <|
  re_a (re_p (ro_istore (by decide +kernel) (by decide +kernel))) <|
  re_a (re_p (ro_iload (by decide +kernel))) <|
  re_a (re_p (ro_aload_n (by decide +kernel) rfl)) <|
  re_a (re_h (gf_X5_27 (by decide +kernel)) (rg_getf _ _)) <|
  re_a (re_p (ro_iload_n (by decide +kernel) rfl)) <|
  re_a (re_p (ro_bipush (by decide +kernel) (by decide +kernel))) <|
  re_a (re_p (ro_irem (by decide +kernel))) <|
  re_a (re_c (ck_X5_72 (by decide +kernel))) <|
  re_a (re_p (ro_icmp_ge (by decide +kernel) (by decide +kernel))) <|
  re_a (re_p (ro_aload_n (by decide +kernel) rfl)) <|
  re_a (re_p (ro_iload_n (by decide +kernel) rfl)) <|
  re_a (re_p (ro_iload (by decide +kernel))) <|
  re_a (re_c (ck_X5_152 (by decide +kernel))) <|
  re_a (re_p (ro_istore (by decide +kernel) (by decide +kernel))) <|
  re_a (re_p (ro_iload (by decide +kernel))) <|
  re_a (re_p (ro_iconst (by decide +kernel) (by decide +kernel))) <|
  re_a (re_p (ro_icmp_eq (by decide +kernel) (by decide +kernel))) <|
  re_a (re_p (ro_aload_n (by decide +kernel) rfl)) <|
  re_a (re_h (gf_X5_21 (by decide +kernel)) (rg_getf _ _)) <|
  re_a (re_p (ro_iload (by decide +kernel))) <|
  re_a (re_c (ck_X5_72 (by decide +kernel))) <|
  re_a (re_p (ro_istore (by decide +kernel) (by decide +kernel))) <|
  re_a (re_p (ro_aload_n (by decide +kernel) rfl)) <|
  re_a (re_h (gf_X5_36 (by decide +kernel)) (rg_getf _ _)) <|
  re_a (re_p (ro_iload (by decide +kernel))) <|
  re_a (re_c (ck_X5_72 (by decide +kernel))) <|
  re_a (re_p (ro_istore (by decide +kernel) (by decide +kernel))) <|
  re_a (re_p (ro_aload_n (by decide +kernel) rfl)) <|
  re_a (re_h (gf_X5_36 (by decide +kernel)) (rg_getf _ _)) <|
  re_a (re_p (ro_iload (by decide +kernel))) <|
  re_a (re_p (ro_iconst (by decide +kernel) (by decide +kernel))) <|
  re_a (re_c (ck_X5_116 (by decide +kernel))) <|
  re_a (re_p (ro_iload_n (by decide +kernel) rfl)) <|
  re_n
theorem mk_77_1 : ∀ q ∈ ([(75, .inl (ri_pu (ri_iload 7 2))), (77, .inl (ri_pu (ri_aload 0 1))), (78, .inl (ri_pu (ri_iload 5 2))), (80, .inl (ri_pu (ri_iload 2 1))), (81, .inl (ri_pu (ri_icon 1 1))), (82, .inl (ri_pu (ri_ib fun x y => x - y))), (83, .inr (.inl (76, 3, none))), (86, .inl (ri_pu (ri_ib fun x y => x + y))), (87, .inl (ri_pu ri_max)), (90, .inl (ri_pu (ri_istore 3 1))), (91, .inl (ri_pu (ri_aload 0 1))), (92, .inl (ri_getf 4 8)), (95, .inl (ri_pu (ri_iload 6 2))), (97, .inl (ri_pu (ri_iload 7 2))), (99, .inr (.inl (141, 3, none))), (102, .inl (ri_pu (ri_iinc 4 1))), (105, .inl (ri_pu (ri_goto 11))), (108, .inl (ri_pu (ri_iload 3 1))), (109, .inr (.inr 1))] : List (Nat × ri_C)), re_ok Ex D dT 77 q :=
  re_a (re_p (ro_iload (by decide +kernel))) <|
  re_a (re_p (ro_aload_n (by decide +kernel) rfl)) <|
  re_a (re_p (ro_iload (by decide +kernel))) <|
  re_a (re_p (ro_iload_n (by decide +kernel) rfl)) <|
  re_a (re_p (ro_iconst (by decide +kernel) (by decide +kernel))) <|
  re_a (re_p (ro_isub (by decide +kernel))) <|
  re_a (re_c (ck_X5_177_76 (by decide +kernel))) <|
  re_a (re_p (ro_iadd (by decide +kernel))) <|
  re_a (re_p (ro_max (by decide +kernel) q_1012 q_1013 q_22 q_1014)) <|
  re_a (re_p (ro_istore_n (by decide +kernel) rfl (by decide +kernel))) <|
  re_a (re_p (ro_aload_n (by decide +kernel) rfl)) <|
  re_a (re_h (gf_X5_36 (by decide +kernel)) (rg_getf _ _)) <|
  re_a (re_p (ro_iload (by decide +kernel))) <|
  re_a (re_p (ro_iload (by decide +kernel))) <|
  re_a (re_c (ck_X5_116 (by decide +kernel))) <|
  re_a (re_p (ro_iinc (by decide +kernel) (by decide +kernel) (by decide +kernel))) <|
  re_a (re_p (ro_goto (by decide +kernel) (by decide +kernel))) <|
  re_a (re_p (ro_iload_n (by decide +kernel) rfl)) <|
  re_a (re_r ⟨(by decide +kernel), rfl⟩) <|
  re_n
theorem mk_77 : ∀ q ∈ TL_77, re_ok Ex D dT 77 q := re_m mk_77_0 (mk_77_1)
theorem mk_78 : ∀ q ∈ TL_78, re_ok Ex D dT 78 q :=
  re_a (re_p (ro_lload_n (by decide +kernel) rfl)) <|
  re_a (re_p (ro_lstore (by decide +kernel) (by decide +kernel))) <|
  re_a (re_p (ro_iconst (by decide +kernel) (by decide +kernel))) <|
  re_a (re_p (ro_istore (by decide +kernel) (by decide +kernel))) <|
  re_a (re_p (ro_iload (by decide +kernel))) <|
  re_a (re_p (ro_iload_n (by decide +kernel) rfl)) <|
  re_a (re_p (ro_icmp_ge (by decide +kernel) (by decide +kernel))) <|
  re_a (re_p (ro_lload (by decide +kernel))) <|
  re_a (re_p (ro_ldc2 (by decide +kernel) q_1062)) <|
  re_a (re_p (ro_lmul (by decide +kernel))) <|
  re_a (re_p (ro_ldc2 (by decide +kernel) q_1063)) <|
  re_a (re_p (ro_ladd (by decide +kernel))) <|
  re_a (re_p (ro_lstore (by decide +kernel) (by decide +kernel))) <|
  re_a (re_p (ro_aload_n (by decide +kernel) rfl)) <|
  re_a (re_p (ro_lload (by decide +kernel))) <|
  re_a (re_p (ro_bipush (by decide +kernel) (by decide +kernel))) <|
  re_a (re_p (ro_lushr (by decide +kernel))) <|
  re_a (re_p (ro_l2i (by decide +kernel))) <|
  re_a (re_c (ck_X6_11 (by decide +kernel))) <|
  re_a (re_p (ro_iinc (by decide +kernel) (by decide +kernel) (by decide +kernel))) <|
  re_a (re_p (ro_goto (by decide +kernel) (by decide +kernel))) <|
  re_a (re_r ⟨(by decide +kernel), rfl⟩) <|
  re_n
theorem mk_79_0 : ∀ q ∈ ([(0, .inl (ri_pu (ri_iload 1 1))), (1, .inl (ri_pu (ri_icon 16 2))), (3, .inl (ri_pu (ri_idr fun x y => x / y))), (4, .inl (ri_pu (ri_istore 2 1))), (5, .inl (ri_pu (ri_iload 1 1))), (6, .inl (ri_pu (ri_icon 16 2))), (8, .inl (ri_pu (ri_idr fun x y => x - x / y * y))), (9, .inl (ri_pu (ri_istore 3 1))), (10, .inl (ri_pu (ri_iload 3 1))), (11, .inl (ri_pu (ri_if (fun x => decide (¬ x = 0)) 42))), (14, .inl (ri_pu (ri_aload 0 1))), (15, .inl (ri_pu (ri_icon 3 1))), (16, .inl (ri_pu (ri_iload 2 1))), (17, .inl (ri_pu (ri_icon 3 1))), (18, .inl (ri_pu (ri_idr fun x y => x - x / y * y))), (19, .inl (ri_pu (ri_ib fun x y => x + y))), (20, .inl (ri_pu (ri_iload 2 1))), (21, .inl (ri_pu (ri_icon 4 1))), (22, .inl (ri_pu (ri_idr fun x y => x / y))), (23, .inl (ri_pu (ri_icon 9 2))), (25, .inl (ri_pu (ri_idr fun x y => x - x / y * y))), (26, .inl (ri_pu (ri_icon 4 1))), (27, .inl (ri_pu (ri_ib fun x y => x - y))), (28, .inl (ri_pu (ri_iload 2 1))), (29, .inl (ri_pu (ri_icon 64 2))), (31, .inl (ri_pu (ri_idr fun x y => x / y))), (32, .inl (ri_pu (ri_icon 31 2))), (34, .inl (ri_pu (ri_idr fun x y => x - x / y * y))), (35, .inr (.inl (30, 4, some 3))), (38, .inl (ri_pu ri_pop)), (39, .inl (ri_pu (ri_goto 202))), (42, .inl (ri_pu (ri_iload 3 1))), (43, .inl (ri_pu (ri_icon 2 1))), (44, .inl (ri_pu (ri_icmp (fun x y => decide (y < x)) 76))), (47, .inl (ri_pu (ri_aload 0 1))), (48, .inl (ri_pu (ri_iload 2 1))), (49, .inl (ri_pu (ri_icon 3 1))), (50, .inl (ri_pu (ri_idr fun x y => x - x / y * y))), (51, .inl (ri_pu (ri_iload 2 1))), (52, .inl (ri_pu (ri_icon 4 1)))] : List (Nat × ri_C)), re_ok Ex D dT 79 q :=
  re_a (re_p (ro_iload_n (by decide +kernel) rfl)) <|
  re_a (re_p (ro_bipush (by decide +kernel) (by decide +kernel))) <|
  re_a (re_p (ro_idiv (by decide +kernel))) <|
  re_a (re_p (ro_istore_n (by decide +kernel) rfl (by decide +kernel))) <|
  re_a (re_p (ro_iload_n (by decide +kernel) rfl)) <|
  re_a (re_p (ro_bipush (by decide +kernel) (by decide +kernel))) <|
  re_a (re_p (ro_irem (by decide +kernel))) <|
  re_a (re_p (ro_istore_n (by decide +kernel) rfl (by decide +kernel))) <|
  re_a (re_p (ro_iload_n (by decide +kernel) rfl)) <|
  re_a (re_p (ro_if_ne (by decide +kernel) (by decide +kernel))) <|
  re_a (re_p (ro_aload_n (by decide +kernel) rfl)) <|
  re_a (re_p (ro_iconst (by decide +kernel) (by decide +kernel))) <|
  re_a (re_p (ro_iload_n (by decide +kernel) rfl)) <|
  re_a (re_p (ro_iconst (by decide +kernel) (by decide +kernel))) <|
  re_a (re_p (ro_irem (by decide +kernel))) <|
  re_a (re_p (ro_iadd (by decide +kernel))) <|
  re_a (re_p (ro_iload_n (by decide +kernel) rfl)) <|
  re_a (re_p (ro_iconst (by decide +kernel) (by decide +kernel))) <|
  re_a (re_p (ro_idiv (by decide +kernel))) <|
  re_a (re_p (ro_bipush (by decide +kernel) (by decide +kernel))) <|
  re_a (re_p (ro_irem (by decide +kernel))) <|
  re_a (re_p (ro_iconst (by decide +kernel) (by decide +kernel))) <|
  re_a (re_p (ro_isub (by decide +kernel))) <|
  re_a (re_p (ro_iload_n (by decide +kernel) rfl)) <|
  re_a (re_p (ro_bipush (by decide +kernel) (by decide +kernel))) <|
  re_a (re_p (ro_idiv (by decide +kernel))) <|
  re_a (re_p (ro_bipush (by decide +kernel) (by decide +kernel))) <|
  re_a (re_p (ro_irem (by decide +kernel))) <|
  re_a (re_c (ck_X6_17 (by decide +kernel))) <|
  re_a (re_p (ro_pop (by decide +kernel))) <|
  re_a (re_p (ro_goto (by decide +kernel) (by decide +kernel))) <|
  re_a (re_p (ro_iload_n (by decide +kernel) rfl)) <|
  re_a (re_p (ro_iconst (by decide +kernel) (by decide +kernel))) <|
  re_a (re_p (ro_icmp_gt (by decide +kernel) (by decide +kernel))) <|
  re_a (re_p (ro_aload_n (by decide +kernel) rfl)) <|
  re_a (re_p (ro_iload_n (by decide +kernel) rfl)) <|
  re_a (re_p (ro_iconst (by decide +kernel) (by decide +kernel))) <|
  re_a (re_p (ro_irem (by decide +kernel))) <|
  re_a (re_p (ro_iload_n (by decide +kernel) rfl)) <|
  re_a (re_p (ro_iconst (by decide +kernel) (by decide +kernel))) <|
  re_n
theorem mk_79_1 : ∀ q ∈ ([(53, .inl (ri_pu (ri_idr fun x y => x / y))), (54, .inl (ri_pu (ri_icon 5 1))), (55, .inl (ri_pu (ri_idr fun x y => x - x / y * y))), (56, .inl (ri_pu (ri_iload 2 1))), (57, .inl (ri_pu (ri_icon 32 2))), (59, .inl (ri_pu (ri_idr fun x y => x / y))), (60, .inl (ri_pu (ri_icon 3 1))), (61, .inl (ri_pu (ri_idr fun x y => x - x / y * y))), (62, .inl (ri_pu (ri_iload 2 1))), (63, .inl (ri_pu (ri_icon 128 3))), (66, .inl (ri_pu (ri_idr fun x y => x / y))), (67, .inl (ri_pu (ri_icon 5 1))), (68, .inl (ri_pu (ri_idr fun x y => x - x / y * y))), (69, .inr (.inl (31, 5, some 3))), (72, .inl (ri_pu ri_pop)), (73, .inl (ri_pu (ri_goto 202))), (76, .inl (ri_pu (ri_iload 3 1))), (77, .inl (ri_pu (ri_icon 3 1))), (78, .inl (ri_pu (ri_icmp (fun x y => decide (¬ x = y)) 106))), (81, .inl (ri_pu (ri_aload 0 1))), (82, .inl (ri_pu (ri_iload 2 1))), (83, .inl (ri_pu (ri_icon 3 1))), (84, .inl (ri_pu (ri_idr fun x y => x - x / y * y))), (85, .inl (ri_pu (ri_iload 2 1))), (86, .inl (ri_pu (ri_icon 4 1))), (87, .inl (ri_pu (ri_idr fun x y => x / y))), (88, .inl (ri_pu (ri_icon 5 1))), (89, .inl (ri_pu (ri_idr fun x y => x - x / y * y))), (90, .inl (ri_pu (ri_icon 1 1))), (91, .inl (ri_pu (ri_iload 2 1))), (92, .inl (ri_pu (ri_icon 32 2))), (94, .inl (ri_pu (ri_idr fun x y => x / y))), (95, .inl (ri_pu (ri_icon 9 2))), (97, .inl (ri_pu (ri_idr fun x y => x - x / y * y))), (98, .inl (ri_pu (ri_ib fun x y => x + y))), (99, .inr (.inl (32, 4, some 3))), (102, .inl (ri_pu ri_pop)), (103, .inl (ri_pu (ri_goto 202))), (106, .inl (ri_pu (ri_iload 3 1))), (107, .inl (ri_pu (ri_icon 4 1)))] : List (Nat × ri_C)), re_ok Ex D dT 79 q :=
  re_a (re_p (ro_idiv (by decide +kernel))) <|
  re_a (re_p (ro_iconst (by decide +kernel) (by decide +kernel))) <|
  re_a (re_p (ro_irem (by decide +kernel))) <|
  re_a (re_p (ro_iload_n (by decide +kernel) rfl)) <|
  re_a (re_p (ro_bipush (by decide +kernel) (by decide +kernel))) <|
  re_a (re_p (ro_idiv (by decide +kernel))) <|
  re_a (re_p (ro_iconst (by decide +kernel) (by decide +kernel))) <|
  re_a (re_p (ro_irem (by decide +kernel))) <|
  re_a (re_p (ro_iload_n (by decide +kernel) rfl)) <|
  re_a (re_p (ro_sipush (by decide +kernel) (by decide +kernel))) <|
  re_a (re_p (ro_idiv (by decide +kernel))) <|
  re_a (re_p (ro_iconst (by decide +kernel) (by decide +kernel))) <|
  re_a (re_p (ro_irem (by decide +kernel))) <|
  re_a (re_c (ck_X6_23 (by decide +kernel))) <|
  re_a (re_p (ro_pop (by decide +kernel))) <|
  re_a (re_p (ro_goto (by decide +kernel) (by decide +kernel))) <|
  re_a (re_p (ro_iload_n (by decide +kernel) rfl)) <|
  re_a (re_p (ro_iconst (by decide +kernel) (by decide +kernel))) <|
  re_a (re_p (ro_icmp_ne (by decide +kernel) (by decide +kernel))) <|
  re_a (re_p (ro_aload_n (by decide +kernel) rfl)) <|
  re_a (re_p (ro_iload_n (by decide +kernel) rfl)) <|
  re_a (re_p (ro_iconst (by decide +kernel) (by decide +kernel))) <|
  re_a (re_p (ro_irem (by decide +kernel))) <|
  re_a (re_p (ro_iload_n (by decide +kernel) rfl)) <|
  re_a (re_p (ro_iconst (by decide +kernel) (by decide +kernel))) <|
  re_a (re_p (ro_idiv (by decide +kernel))) <|
  re_a (re_p (ro_iconst (by decide +kernel) (by decide +kernel))) <|
  re_a (re_p (ro_irem (by decide +kernel))) <|
  re_a (re_p (ro_iconst (by decide +kernel) (by decide +kernel))) <|
  re_a (re_p (ro_iload_n (by decide +kernel) rfl)) <|
  re_a (re_p (ro_bipush (by decide +kernel) (by decide +kernel))) <|
  re_a (re_p (ro_idiv (by decide +kernel))) <|
  re_a (re_p (ro_bipush (by decide +kernel) (by decide +kernel))) <|
  re_a (re_p (ro_irem (by decide +kernel))) <|
  re_a (re_p (ro_iadd (by decide +kernel))) <|
  re_a (re_c (ck_X6_27 (by decide +kernel))) <|
  re_a (re_p (ro_pop (by decide +kernel))) <|
  re_a (re_p (ro_goto (by decide +kernel) (by decide +kernel))) <|
  re_a (re_p (ro_iload_n (by decide +kernel) rfl)) <|
  re_a (re_p (ro_iconst (by decide +kernel) (by decide +kernel))) <|
  re_n
theorem mk_79_2 : ∀ q ∈ ([(108, .inl (ri_pu (ri_icmp (fun x y => decide (¬ x = y)) 136))), (111, .inl (ri_pu (ri_aload 0 1))), (112, .inl (ri_pu (ri_iload 2 1))), (113, .inl (ri_pu (ri_icon 3 1))), (114, .inl (ri_pu (ri_idr fun x y => x - x / y * y))), (115, .inl (ri_pu (ri_iload 2 1))), (116, .inl (ri_pu (ri_icon 4 1))), (117, .inl (ri_pu (ri_idr fun x y => x / y))), (118, .inl (ri_pu (ri_icon 5 1))), (119, .inl (ri_pu (ri_idr fun x y => x - x / y * y))), (120, .inl (ri_pu (ri_icon 1 1))), (121, .inl (ri_pu (ri_iload 2 1))), (122, .inl (ri_pu (ri_icon 32 2))), (124, .inl (ri_pu (ri_idr fun x y => x / y))), (125, .inl (ri_pu (ri_icon 9 2))), (127, .inl (ri_pu (ri_idr fun x y => x - x / y * y))), (128, .inl (ri_pu (ri_ib fun x y => x + y))), (129, .inr (.inl (33, 4, some 3))), (132, .inl (ri_pu ri_pop)), (133, .inl (ri_pu (ri_goto 202))), (136, .inl (ri_pu (ri_iload 3 1))), (137, .inl (ri_pu (ri_icon 5 1))), (138, .inl (ri_pu (ri_icmp (fun x y => decide (¬ x = y)) 160))), (141, .inl (ri_pu (ri_aload 0 1))), (142, .inl (ri_pu (ri_iload 2 1))), (143, .inl (ri_pu (ri_icon 3 1))), (144, .inl (ri_pu (ri_idr fun x y => x - x / y * y))), (145, .inl (ri_pu (ri_iload 2 1))), (146, .inl (ri_pu (ri_icon 4 1))), (147, .inl (ri_pu (ri_idr fun x y => x / y))), (148, .inl (ri_pu (ri_icon 9 2))), (150, .inl (ri_pu (ri_idr fun x y => x - x / y * y))), (151, .inl (ri_pu (ri_icon 4 1))), (152, .inl (ri_pu (ri_ib fun x y => x - y))), (153, .inr (.inl (34, 3, some 3))), (156, .inl (ri_pu ri_pop)), (157, .inl (ri_pu (ri_goto 202))), (160, .inl (ri_pu (ri_iload 3 1))), (161, .inl (ri_pu (ri_icon 9 2))), (163, .inl (ri_pu (ri_icmp (fun x y => decide (y < x)) 187)))] : List (Nat × ri_C)), re_ok Ex D dT 79 q :=
  re_a (re_p (ro_icmp_ne (by decide +kernel) (by decide +kernel))) <|
  re_a (re_p (ro_aload_n (by decide +kernel) rfl)) <|
  re_a (re_p (ro_iload_n (by decide +kernel) rfl)) <|
  re_a (re_p (ro_iconst (by decide +kernel) (by decide +kernel))) <|
  re_a (re_p (ro_irem (by decide +kernel))) <|
  re_a (re_p (ro_iload_n (by decide +kernel) rfl)) <|
  re_a (re_p (ro_iconst (by decide +kernel) (by decide +kernel))) <|
  re_a (re_p (ro_idiv (by decide +kernel))) <|
  re_a (re_p (ro_iconst (by decide +kernel) (by decide +kernel))) <|
  re_a (re_p (ro_irem (by decide +kernel))) <|
  re_a (re_p (ro_iconst (by decide +kernel) (by decide +kernel))) <|
  re_a (re_p (ro_iload_n (by decide +kernel) rfl)) <|
  re_a (re_p (ro_bipush (by decide +kernel) (by decide +kernel))) <|
  re_a (re_p (ro_idiv (by decide +kernel))) <|
  re_a (re_p (ro_bipush (by decide +kernel) (by decide +kernel))) <|
  re_a (re_p (ro_irem (by decide +kernel))) <|
  re_a (re_p (ro_iadd (by decide +kernel))) <|
  re_a (re_c (ck_X6_30 (by decide +kernel))) <|
  re_a (re_p (ro_pop (by decide +kernel))) <|
  re_a (re_p (ro_goto (by decide +kernel) (by decide +kernel))) <|
  re_a (re_p (ro_iload_n (by decide +kernel) rfl)) <|
  re_a (re_p (ro_iconst (by decide +kernel) (by decide +kernel))) <|
  re_a (re_p (ro_icmp_ne (by decide +kernel) (by decide +kernel))) <|
  re_a (re_p (ro_aload_n (by decide +kernel) rfl)) <|
  re_a (re_p (ro_iload_n (by decide +kernel) rfl)) <|
  re_a (re_p (ro_iconst (by decide +kernel) (by decide +kernel))) <|
  re_a (re_p (ro_irem (by decide +kernel))) <|
  re_a (re_p (ro_iload_n (by decide +kernel) rfl)) <|
  re_a (re_p (ro_iconst (by decide +kernel) (by decide +kernel))) <|
  re_a (re_p (ro_idiv (by decide +kernel))) <|
  re_a (re_p (ro_bipush (by decide +kernel) (by decide +kernel))) <|
  re_a (re_p (ro_irem (by decide +kernel))) <|
  re_a (re_p (ro_iconst (by decide +kernel) (by decide +kernel))) <|
  re_a (re_p (ro_isub (by decide +kernel))) <|
  re_a (re_c (ck_X6_33 (by decide +kernel))) <|
  re_a (re_p (ro_pop (by decide +kernel))) <|
  re_a (re_p (ro_goto (by decide +kernel) (by decide +kernel))) <|
  re_a (re_p (ro_iload_n (by decide +kernel) rfl)) <|
  re_a (re_p (ro_bipush (by decide +kernel) (by decide +kernel))) <|
  re_a (re_p (ro_icmp_gt (by decide +kernel) (by decide +kernel))) <|
  re_n
theorem mk_79_3 : ∀ q ∈ ([(166, .inl (ri_pu (ri_aload 0 1))), (167, .inl (ri_pu (ri_iload 2 1))), (168, .inl (ri_pu (ri_icon 5 1))), (169, .inl (ri_pu (ri_idr fun x y => x - x / y * y))), (170, .inl (ri_pu (ri_icon 2 1))), (171, .inl (ri_pu (ri_iload 2 1))), (172, .inl (ri_pu (ri_icon 8 2))), (174, .inl (ri_pu (ri_idr fun x y => x / y))), (175, .inl (ri_pu (ri_icon 2 1))), (176, .inl (ri_pu (ri_idr fun x y => x - x / y * y))), (177, .inl (ri_pu (ri_ib fun x y => x * y))), (178, .inl (ri_pu (ri_icon 1 1))), (179, .inl (ri_pu (ri_ib fun x y => x - y))), (180, .inr (.inl (42, 3, some 3))), (183, .inl (ri_pu ri_pop)), (184, .inl (ri_pu (ri_goto 202))), (187, .inl (ri_pu (ri_aload 0 1))), (188, .inl (ri_pu (ri_iload 2 1))), (189, .inl (ri_pu (ri_icon 5 1))), (190, .inl (ri_pu (ri_idr fun x y => x - x / y * y))), (191, .inl (ri_pu (ri_iload 2 1))), (192, .inl (ri_pu (ri_icon 8 2))), (194, .inl (ri_pu (ri_idr fun x y => x / y))), (195, .inl (ri_pu (ri_icon 8 2))), (197, .inl (ri_pu (ri_idr fun x y => x - x / y * y))), (198, .inr (.inl (41, 3, some 3))), (201, .inl (ri_pu ri_pop)), (202, .inr (.inr 0))] : List (Nat × ri_C)), re_ok Ex D dT 79 q :=
  re_a (re_p (ro_aload_n (by decide +kernel) rfl)) <|
  re_a (re_p (ro_iload_n (by decide +kernel) rfl)) <|
  re_a (re_p (ro_iconst (by decide +kernel) (by decide +kernel))) <|
  re_a (re_p (ro_irem (by decide +kernel))) <|
  re_a (re_p (ro_iconst (by decide +kernel) (by decide +kernel))) <|
  re_a (re_p (ro_iload_n (by decide +kernel) rfl)) <|
  re_a (re_p (ro_bipush (by decide +kernel) (by decide +kernel))) <|
  re_a (re_p (ro_idiv (by decide +kernel))) <|
  re_a (re_p (ro_iconst (by decide +kernel) (by decide +kernel))) <|
  re_a (re_p (ro_irem (by decide +kernel))) <|
  re_a (re_p (ro_imul (by decide +kernel))) <|
  re_a (re_p (ro_iconst (by decide +kernel) (by decide +kernel))) <|
  re_a (re_p (ro_isub (by decide +kernel))) <|
  re_a (re_c (ck_X6_37 (by decide +kernel))) <|
  re_a (re_p (ro_pop (by decide +kernel))) <|
  re_a (re_p (ro_goto (by decide +kernel) (by decide +kernel))) <|
  re_a (re_p (ro_aload_n (by decide +kernel) rfl)) <|
  re_a (re_p (ro_iload_n (by decide +kernel) rfl)) <|
  re_a (re_p (ro_iconst (by decide +kernel) (by decide +kernel))) <|
  re_a (re_p (ro_irem (by decide +kernel))) <|
  re_a (re_p (ro_iload_n (by decide +kernel) rfl)) <|
  re_a (re_p (ro_bipush (by decide +kernel) (by decide +kernel))) <|
  re_a (re_p (ro_idiv (by decide +kernel))) <|
  re_a (re_p (ro_bipush (by decide +kernel) (by decide +kernel))) <|
  re_a (re_p (ro_irem (by decide +kernel))) <|
  re_a (re_c (ck_X6_41 (by decide +kernel))) <|
  re_a (re_p (ro_pop (by decide +kernel))) <|
  re_a (re_r ⟨(by decide +kernel), rfl⟩) <|
  re_n
theorem mk_79 : ∀ q ∈ TL_79, re_ok Ex D dT 79 q := re_m mk_79_0 (re_m mk_79_1 (re_m mk_79_2 (mk_79_3)))
end RIMK
