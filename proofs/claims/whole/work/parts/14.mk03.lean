section RIMK
variable {Ex : (Nat → Prop) → State → Heap → Prop} {D : va_G} {dT : Nat → ClassId}
theorem mk_80 : ∀ q ∈ TL_80, re_ok Ex D dT 80 q :=
  re_a (re_p (ro_aload_n (by decide +kernel) rfl)) <|
  re_a (re_p (ro_oinit (by decide +kernel) q_212 q_32 q_33)) <|
  re_a (re_p (ro_aload_n (by decide +kernel) rfl)) <|
  re_a (re_p (ro_iconst (by decide +kernel) (by decide +kernel))) <|
  re_a (re_h (rh_newq q_213 q_195 (by decide +kernel)) rg_newq) <|
  re_a (re_h (pf_X7_11 (by decide +kernel)) (rg_putr _ _)) <|
  re_a (re_p (ro_aload_n (by decide +kernel) rfl)) <|
  re_a (re_p (ro_iconst (by decide +kernel) (by decide +kernel))) <|
  re_a (re_h (rh_newi q_47 (by decide +kernel)) (rg_newa _)) <|
  re_a (re_h (pf_X7_17 (by decide +kernel)) (rg_putr _ _)) <|
  re_a (re_p (ro_iconst (by decide +kernel) (by decide +kernel))) <|
  re_a (re_p (ro_istore_n (by decide +kernel) rfl (by decide +kernel))) <|
  re_a (re_p (ro_iload_n (by decide +kernel) rfl)) <|
  re_a (re_p (ro_iconst (by decide +kernel) (by decide +kernel))) <|
  re_a (re_p (ro_icmp_ge (by decide +kernel) (by decide +kernel))) <|
  re_a (re_p (ro_aload_n (by decide +kernel) rfl)) <|
  re_a (re_h (gf_X7_11 (by decide +kernel)) (rg_getf _ _)) <|
  re_a (re_p (ro_iload_n (by decide +kernel) rfl)) <|
  re_a (re_h (rh_new (T := TX3) (N := 9) li_X3 tyX3 tyX3_ok rfl q_213 q_49 q_3 (fun j hj => by rcases (show j = 0 ∨ j = 1 ∨ j = 2 ∨ j = 3 ∨ j = 4 ∨ j = 5 ∨ j = 6 ∨ j = 7 ∨ j = 8 by omega) with rfl | rfl | rfl | rfl | rfl | rfl | rfl | rfl | rfl <;> rfl) (by decide) (by decide +kernel)) (rg_new _ _)) <|
  re_a (re_p (ro_dup (by decide +kernel))) <|
  re_a (re_c (ck_X7_21 (by decide +kernel))) <|
  re_a (re_h (rh_aast (T := TX3) (N := 9) rfl (by decide +kernel)) (rg_aast _)) <|
  re_a (re_p (ro_iinc (by decide +kernel) (by decide +kernel) (by decide +kernel))) <|
  re_a (re_p (ro_goto (by decide +kernel) (by decide +kernel))) <|
  re_a (re_r ⟨(by decide +kernel), rfl⟩) <|
  re_n
theorem mk_81 : ∀ q ∈ TL_81, re_ok Ex D dT 81 q :=
  re_a (re_p (ro_iload_n (by decide +kernel) rfl)) <|
  re_a (re_p (ro_if_lt (by decide +kernel) (by decide +kernel))) <|
  re_a (re_p (ro_iload_n (by decide +kernel) rfl)) <|
  re_a (re_p (ro_aload_n (by decide +kernel) rfl)) <|
  re_a (re_h (gf_X7_11 (by decide +kernel)) (rg_getf _ _)) <|
  re_a (re_h (rh_alen (by decide +kernel)) rg_alen) <|
  re_a (re_p (ro_icmp_ge (by decide +kernel) (by decide +kernel))) <|
  re_a (re_p (ro_aload_n (by decide +kernel) rfl)) <|
  re_a (re_h (gf_X7_11 (by decide +kernel)) (rg_getf _ _)) <|
  re_a (re_p (ro_iload_n (by decide +kernel) rfl)) <|
  re_a (re_h (rh_aald (by decide +kernel)) rg_aald) <|
  re_a (re_p (ro_goto (by decide +kernel) (by decide +kernel))) <|
  re_a (re_p (ro_null (by decide +kernel))) <|
  re_a (re_r ⟨(by decide +kernel), _, rfl⟩) <|
  re_n
theorem mk_82 : ∀ q ∈ TL_82, re_ok Ex D dT 82 q :=
  re_a (re_p (ro_aload_n (by decide +kernel) rfl)) <|
  re_a (re_h (gf_X7_17 (by decide +kernel)) (rg_getf _ _)) <|
  re_a (re_p (ro_iload_n (by decide +kernel) rfl)) <|
  re_a (re_c (ck_X7_22 (by decide +kernel))) <|
  re_a (re_p (ro_iconst (by decide +kernel) (by decide +kernel))) <|
  re_a (re_p (ro_icmp_ne (by decide +kernel) (by decide +kernel))) <|
  re_a (re_p (ro_iconst (by decide +kernel) (by decide +kernel))) <|
  re_a (re_p (ro_goto (by decide +kernel) (by decide +kernel))) <|
  re_a (re_p (ro_iconst (by decide +kernel) (by decide +kernel))) <|
  re_a (re_r ⟨(by decide +kernel), rfl⟩) <|
  re_n
theorem mk_83 : ∀ q ∈ TL_83, re_ok Ex D dT 83 q :=
  re_a (re_p (ro_aload_n (by decide +kernel) rfl)) <|
  re_a (re_h (gf_X7_17 (by decide +kernel)) (rg_getf _ _)) <|
  re_a (re_p (ro_iconst (by decide +kernel) (by decide +kernel))) <|
  re_a (re_c (ck_X7_26 (by decide +kernel))) <|
  re_a (re_r ⟨(by decide +kernel), rfl⟩) <|
  re_n
theorem mk_84 : ∀ q ∈ TL_84, re_ok Ex D dT 84 q :=
  re_a (re_p (ro_aload_n (by decide +kernel) rfl)) <|
  re_a (re_p (ro_iload_n (by decide +kernel) rfl)) <|
  re_a (re_c (ck_X7_32 (by decide +kernel))) <|
  re_a (re_p (ro_astore_n (by decide +kernel) rfl (by decide +kernel))) <|
  re_a (re_p (ro_aload_n (by decide +kernel) rfl)) <|
  re_a (re_p (ro_ifnull (by decide +kernel) (by decide +kernel))) <|
  re_a (re_p (ro_aload_n (by decide +kernel) rfl)) <|
  re_a (re_p (ro_aload_n (by decide +kernel) rfl)) <|
  re_a (re_c (ck_X7_36 (by decide +kernel))) <|
  re_a (re_p (ro_aload_n (by decide +kernel) rfl)) <|
  re_a (re_h (gf_X7_17 (by decide +kernel)) (rg_getf _ _)) <|
  re_a (re_p (ro_iload_n (by decide +kernel) rfl)) <|
  re_a (re_p (ro_iconst (by decide +kernel) (by decide +kernel))) <|
  re_a (re_c (ck_X7_40 (by decide +kernel))) <|
  re_a (re_r ⟨(by decide +kernel), rfl⟩) <|
  re_n
theorem mk_85 : ∀ q ∈ TL_85, re_ok Ex D dT 85 q :=
  re_a (re_p (ro_aload_n (by decide +kernel) rfl)) <|
  re_a (re_p (ro_iload_n (by decide +kernel) rfl)) <|
  re_a (re_c (ck_X7_32 (by decide +kernel))) <|
  re_a (re_p (ro_astore_n (by decide +kernel) rfl (by decide +kernel))) <|
  re_a (re_p (ro_aload_n (by decide +kernel) rfl)) <|
  re_a (re_p (ro_ifnull (by decide +kernel) (by decide +kernel))) <|
  re_a (re_p (ro_aload_n (by decide +kernel) rfl)) <|
  re_a (re_p (ro_aload_n (by decide +kernel) rfl)) <|
  re_a (re_c (ck_X7_36 (by decide +kernel))) <|
  re_a (re_r ⟨(by decide +kernel), rfl⟩) <|
  re_n
theorem mk_86 : ∀ q ∈ TL_86, re_ok Ex D dT 86 q :=
  re_a (re_p (ro_aload_n (by decide +kernel) rfl)) <|
  re_a (re_p (ro_oinit (by decide +kernel) q_39 q_32 q_33)) <|
  re_a (re_p (ro_aload_n (by decide +kernel) rfl)) <|
  re_a (re_p (ro_bipush (by decide +kernel) (by decide +kernel))) <|
  re_a (re_h (rh_newi q_47 (by decide +kernel)) (rg_newa _)) <|
  re_a (re_h (pf_X8_9 (by decide +kernel)) (rg_putr _ _)) <|
  re_a (re_p (ro_aload_n (by decide +kernel) rfl)) <|
  re_a (re_p (ro_iconst (by decide +kernel) (by decide +kernel))) <|
  re_a (re_h (pf_X8_15 (by decide +kernel)) (rg_puti _ _)) <|
  re_a (re_r ⟨(by decide +kernel), rfl⟩) <|
  re_n
theorem mk_87 : ∀ q ∈ TL_87, re_ok Ex D dT 87 q :=
  re_a (re_p (ro_iload_n (by decide +kernel) rfl)) <|
  re_a (re_p (ro_iconst (by decide +kernel) (by decide +kernel))) <|
  re_a (re_p (ro_sipush (by decide +kernel) (by decide +kernel))) <|
  re_a (re_c (ck_X8_19 (by decide +kernel))) <|
  re_a (re_p (ro_if_ne (by decide +kernel) (by decide +kernel))) <|
  re_a (re_p (ro_iconst (by decide +kernel) (by decide +kernel))) <|
  re_a (re_r ⟨(by decide +kernel), rfl⟩) <|
  re_a (re_p (ro_aload_n (by decide +kernel) rfl)) <|
  re_a (re_h (gf_X8_15 (by decide +kernel)) (rg_getf _ _)) <|
  re_a (re_p (ro_bipush (by decide +kernel) (by decide +kernel))) <|
  re_a (re_p (ro_icmp_ge (by decide +kernel) (by decide +kernel))) <|
  re_a (re_p (ro_iconst (by decide +kernel) (by decide +kernel))) <|
  re_a (re_p (ro_goto (by decide +kernel) (by decide +kernel))) <|
  re_a (re_p (ro_iconst (by decide +kernel) (by decide +kernel))) <|
  re_a (re_r ⟨(by decide +kernel), rfl⟩) <|
  re_n
theorem mk_88 : ∀ q ∈ TL_88, re_ok Ex D dT 88 q :=
  re_a (re_p (ro_aload_n (by decide +kernel) rfl)) <|
  re_a (re_h (gf_X8_9 (by decide +kernel)) (rg_getf _ _)) <|
  re_a (re_p (ro_aload_n (by decide +kernel) rfl)) <|
  re_a (re_h (gf_X8_15 (by decide +kernel)) (rg_getf _ _)) <|
  re_a (re_p (ro_iload_n (by decide +kernel) rfl)) <|
  re_a (re_c (ck_X8_23 (by decide +kernel))) <|
  re_a (re_p (ro_aload_n (by decide +kernel) rfl)) <|
  re_a (re_p (ro_dup (by decide +kernel))) <|
  re_a (re_h (gf_X8_15 (by decide +kernel)) (rg_getf _ _)) <|
  re_a (re_p (ro_iconst (by decide +kernel) (by decide +kernel))) <|
  re_a (re_p (ro_iadd (by decide +kernel))) <|
  re_a (re_h (pf_X8_15 (by decide +kernel)) (rg_puti _ _)) <|
  re_a (re_p (ro_aload_n (by decide +kernel) rfl)) <|
  re_a (re_h (gf_X8_15 (by decide +kernel)) (rg_getf _ _)) <|
  re_a (re_r ⟨(by decide +kernel), rfl⟩) <|
  re_n
theorem mk_89 : ∀ q ∈ TL_89, re_ok Ex D dT 89 q :=
  re_a (re_p (ro_aload_n (by decide +kernel) rfl)) <|
  re_a (re_h (gf_X8_15 (by decide +kernel)) (rg_getf _ _)) <|
  re_a (re_p (ro_istore_n (by decide +kernel) rfl (by decide +kernel))) <|
  re_a (re_p (ro_aload_n (by decide +kernel) rfl)) <|
  re_a (re_p (ro_iconst (by decide +kernel) (by decide +kernel))) <|
  re_a (re_h (pf_X8_15 (by decide +kernel)) (rg_puti _ _)) <|
  re_a (re_p (ro_iload_n (by decide +kernel) rfl)) <|
  re_a (re_r ⟨(by decide +kernel), rfl⟩) <|
  re_n
theorem mk_90 : ∀ q ∈ TL_90, re_ok Ex D dT 90 q :=
  re_a (re_p (ro_aload_n (by decide +kernel) rfl)) <|
  re_a (re_h (gf_X8_15 (by decide +kernel)) (rg_getf _ _)) <|
  re_a (re_p (ro_if_eq (by decide +kernel) (by decide +kernel))) <|
  re_a (re_p (ro_aload_n (by decide +kernel) rfl)) <|
  re_a (re_h (gf_X8_9 (by decide +kernel)) (rg_getf _ _)) <|
  re_a (re_p (ro_iconst (by decide +kernel) (by decide +kernel))) <|
  re_a (re_c (ck_X8_27 (by decide +kernel))) <|
  re_a (re_p (ro_bipush (by decide +kernel) (by decide +kernel))) <|
  re_a (re_p (ro_icmp_eq (by decide +kernel) (by decide +kernel))) <|
  re_a (re_p (ro_iconst (by decide +kernel) (by decide +kernel))) <|
  re_a (re_r ⟨(by decide +kernel), rfl⟩) <|
  re_a (re_p (ro_iconst (by decide +kernel) (by decide +kernel))) <|
  re_a (re_p (ro_istore_n (by decide +kernel) rfl (by decide +kernel))) <|
  re_a (re_p (ro_iload_n (by decide +kernel) rfl)) <|
  re_a (re_p (ro_aload_n (by decide +kernel) rfl)) <|
  re_a (re_h (gf_X8_15 (by decide +kernel)) (rg_getf _ _)) <|
  re_a (re_p (ro_icmp_ge (by decide +kernel) (by decide +kernel))) <|
  re_a (re_p (ro_aload_n (by decide +kernel) rfl)) <|
  re_a (re_h (gf_X8_9 (by decide +kernel)) (rg_getf _ _)) <|
  re_a (re_p (ro_iload_n (by decide +kernel) rfl)) <|
  re_a (re_c (ck_X8_27 (by decide +kernel))) <|
  re_a (re_c (ck_X8_31 (by decide +kernel))) <|
  re_a (re_p (ro_astore_n (by decide +kernel) rfl (by decide +kernel))) <|
  re_a (re_p (ro_aload_n (by decide +kernel) rfl)) <|
  re_a (re_p (ro_iconst (by decide +kernel) (by decide +kernel))) <|
  re_a (re_r ⟨(by decide +kernel), rfl⟩) <|
  re_n
theorem mk_91 : ∀ q ∈ TL_91, re_ok Ex D dT 91 q :=
  re_a (re_p (ro_iload_n (by decide +kernel) rfl)) <|
  re_a (re_p (ro_switch (by decide +kernel) (by decide +kernel) (by decide +kernel) (by decide +kernel) (by decide +kernel) (by decide +kernel))) <|
  re_n
theorem mk_92_0 : ∀ q ∈ ([(0, .inl (ri_pu (ri_aload 0 1))), (1, .inl (ri_getf 6 0)), (4, .inl (ri_pu (ri_iload 2 1))), (5, .inr (.inl (140, 2, none))), (8, .inl (ri_pu (ri_istore 3 1))), (9, .inl (ri_pu (ri_iload 1 1))), (10, .inl (ri_pu (ri_switch 100 [187, 214, 178, 214, 214, 214, 214, 205, 196, 214, 104, 113, 169, 214, 214, 214, 122, 131, 214, 160] 214))), (104, .inl (ri_pu (ri_iload 3 1))), (105, .inl (ri_pu (ri_icon 51 2))), (107, .inl (ri_pu (ri_icon 53 2))), (109, .inr (.inl (137, 3, none))), (112, .inr (.inr 2)), (113, .inl (ri_pu (ri_iload 3 1))), (114, .inl (ri_pu (ri_icon 48 2))), (116, .inl (ri_pu (ri_icon 56 2))), (118, .inr (.inl (137, 3, none))), (121, .inr (.inr 2)), (122, .inl (ri_pu (ri_iload 3 1))), (123, .inl (ri_pu (ri_icon 48 2))), (125, .inl (ri_pu (ri_icon 51 2))), (127, .inr (.inl (137, 3, none))), (130, .inr (.inr 2)), (131, .inl (ri_pu (ri_iload 3 1))), (132, .inl (ri_pu (ri_icon 48 2))), (134, .inl (ri_pu (ri_aload 0 1))), (135, .inl (ri_getf 6 0)), (138, .inl (ri_pu (ri_iload 2 1))), (139, .inl (ri_pu (ri_icon 1 1))), (140, .inl (ri_pu (ri_ib fun x y => x - y))), (141, .inr (.inl (140, 2, none))), (144, .inl (ri_pu (ri_icon 51 2))), (146, .inl (ri_pu (ri_icmp (fun x y => decide (¬ x = y)) 154))), (149, .inl (ri_pu (ri_icon 48 2))), (151, .inl (ri_pu (ri_goto 156))), (154, .inl (ri_pu (ri_icon 57 2))), (156, .inr (.inl (137, 3, none))), (159, .inr (.inr 2)), (160, .inl (ri_pu (ri_iload 3 1))), (161, .inl (ri_pu (ri_icon 48 2))), (163, .inl (ri_pu (ri_icon 50 2)))] : List (Nat × ri_C)), re_ok Ex D dT 92 q :=
  re_a (re_p (ro_aload_n (by decide +kernel) rfl)) <|
  re_a (re_h (gf_X8_9 (by decide +kernel)) (rg_getf _ _)) <|
  re_a (re_p (ro_iload_n (by decide +kernel) rfl)) <|
  re_a (re_c (ck_X8_27 (by decide +kernel))) <|
  re_a (re_p (ro_istore_n (by decide +kernel) rfl (by decide +kernel))) <|
  re_a (re_p (ro_iload_n (by decide +kernel) rfl)) <|
  re_a (re_p (ro_switch (by decide +kernel) (by decide +kernel) (by decide +kernel) (by decide +kernel) (by decide +kernel) (by decide +kernel))) <|
  re_a (re_p (ro_iload_n (by decide +kernel) rfl)) <|
  re_a (re_p (ro_bipush (by decide +kernel) (by decide +kernel))) <|
  re_a (re_p (ro_bipush (by decide +kernel) (by decide +kernel))) <|
  re_a (re_c (ck_X8_19 (by decide +kernel))) <|
  re_a (re_r ⟨(by decide +kernel), rfl⟩) <|
  re_a (re_p (ro_iload_n (by decide +kernel) rfl)) <|
  re_a (re_p (ro_bipush (by decide +kernel) (by decide +kernel))) <|
  re_a (re_p (ro_bipush (by decide +kernel) (by decide +kernel))) <|
  re_a (re_c (ck_X8_19 (by decide +kernel))) <|
  re_a (re_r ⟨(by decide +kernel), rfl⟩) <|
  re_a (re_p (ro_iload_n (by decide +kernel) rfl)) <|
  re_a (re_p (ro_bipush (by decide +kernel) (by decide +kernel))) <|
  re_a (re_p (ro_bipush (by decide +kernel) (by decide +kernel))) <|
  re_a (re_c (ck_X8_19 (by decide +kernel))) <|
  re_a (re_r ⟨(by decide +kernel), rfl⟩) <|
  re_a (re_p (ro_iload_n (by decide +kernel) rfl)) <|
  re_a (re_p (ro_bipush (by decide +kernel) (by decide +kernel))) <|
  re_a (re_p (ro_aload_n (by decide +kernel) rfl)) <|
  re_a (re_h (gf_X8_9 (by decide +kernel)) (rg_getf _ _)) <|
  re_a (re_p (ro_iload_n (by decide +kernel) rfl)) <|
  re_a (re_p (ro_iconst (by decide +kernel) (by decide +kernel))) <|
  re_a (re_p (ro_isub (by decide +kernel))) <|
  re_a (re_c (ck_X8_27 (by decide +kernel))) <|
  re_a (re_p (ro_bipush (by decide +kernel) (by decide +kernel))) <|
  re_a (re_p (ro_icmp_ne (by decide +kernel) (by decide +kernel))) <|
  re_a (re_p (ro_bipush (by decide +kernel) (by decide +kernel))) <|
  re_a (re_p (ro_goto (by decide +kernel) (by decide +kernel))) <|
  re_a (re_p (ro_bipush (by decide +kernel) (by decide +kernel))) <|
  re_a (re_c (ck_X8_19 (by decide +kernel))) <|
  re_a (re_r ⟨(by decide +kernel), rfl⟩) <|
  re_a (re_p (ro_iload_n (by decide +kernel) rfl)) <|
  re_a (re_p (ro_bipush (by decide +kernel) (by decide +kernel))) <|
  re_a (re_p (ro_bipush (by decide +kernel) (by decide +kernel))) <|
  re_n
theorem mk_92_1 : ∀ q ∈ ([(165, .inr (.inl (137, 3, none))), (168, .inr (.inr 2)), (169, .inl (ri_pu (ri_iload 3 1))), (170, .inl (ri_pu (ri_icon 48 2))), (172, .inl (ri_pu (ri_icon 52 2))), (174, .inr (.inl (137, 3, none))), (177, .inr (.inr 2)), (178, .inl (ri_pu (ri_iload 3 1))), (179, .inl (ri_pu (ri_icon 48 2))), (181, .inl (ri_pu (ri_icon 52 2))), (183, .inr (.inl (137, 3, none))), (186, .inr (.inr 2)), (187, .inl (ri_pu (ri_iload 3 1))), (188, .inl (ri_pu (ri_icon 49 2))), (190, .inl (ri_pu (ri_icon 57 2))), (192, .inr (.inl (137, 3, none))), (195, .inr (.inr 2)), (196, .inl (ri_pu (ri_iload 3 1))), (197, .inl (ri_pu (ri_icon 48 2))), (199, .inl (ri_pu (ri_icon 55 2))), (201, .inr (.inl (137, 3, none))), (204, .inr (.inr 2)), (205, .inl (ri_pu (ri_iload 3 1))), (206, .inl (ri_pu (ri_icon 49 2))), (208, .inl (ri_pu (ri_icon 52 2))), (210, .inr (.inl (137, 3, none))), (213, .inr (.inr 2)), (214, .inl (ri_pu (ri_iload 3 1))), (215, .inl (ri_pu (ri_icon 43 2))), (217, .inl (ri_pu (ri_icmp (fun x y => decide (x = y)) 226))), (220, .inl (ri_pu (ri_iload 3 1))), (221, .inl (ri_pu (ri_icon 45 2))), (223, .inl (ri_pu (ri_icmp (fun x y => decide (¬ x = y)) 230))), (226, .inl (ri_pu (ri_icon 1 1))), (227, .inl (ri_pu (ri_goto 231))), (230, .inl (ri_pu (ri_icon 0 1))), (231, .inr (.inr 2))] : List (Nat × ri_C)), re_ok Ex D dT 92 q :=
  re_a (re_c (ck_X8_19 (by decide +kernel))) <|
  re_a (re_r ⟨(by decide +kernel), rfl⟩) <|
  re_a (re_p (ro_iload_n (by decide +kernel) rfl)) <|
  re_a (re_p (ro_bipush (by decide +kernel) (by decide +kernel))) <|
  re_a (re_p (ro_bipush (by decide +kernel) (by decide +kernel))) <|
  re_a (re_c (ck_X8_19 (by decide +kernel))) <|
  re_a (re_r ⟨(by decide +kernel), rfl⟩) <|
  re_a (re_p (ro_iload_n (by decide +kernel) rfl)) <|
  re_a (re_p (ro_bipush (by decide +kernel) (by decide +kernel))) <|
  re_a (re_p (ro_bipush (by decide +kernel) (by decide +kernel))) <|
  re_a (re_c (ck_X8_19 (by decide +kernel))) <|
  re_a (re_r ⟨(by decide +kernel), rfl⟩) <|
  re_a (re_p (ro_iload_n (by decide +kernel) rfl)) <|
  re_a (re_p (ro_bipush (by decide +kernel) (by decide +kernel))) <|
  re_a (re_p (ro_bipush (by decide +kernel) (by decide +kernel))) <|
  re_a (re_c (ck_X8_19 (by decide +kernel))) <|
  re_a (re_r ⟨(by decide +kernel), rfl⟩) <|
  re_a (re_p (ro_iload_n (by decide +kernel) rfl)) <|
  re_a (re_p (ro_bipush (by decide +kernel) (by decide +kernel))) <|
  re_a (re_p (ro_bipush (by decide +kernel) (by decide +kernel))) <|
  re_a (re_c (ck_X8_19 (by decide +kernel))) <|
  re_a (re_r ⟨(by decide +kernel), rfl⟩) <|
  re_a (re_p (ro_iload_n (by decide +kernel) rfl)) <|
  re_a (re_p (ro_bipush (by decide +kernel) (by decide +kernel))) <|
  re_a (re_p (ro_bipush (by decide +kernel) (by decide +kernel))) <|
  re_a (re_c (ck_X8_19 (by decide +kernel))) <|
  re_a (re_r ⟨(by decide +kernel), rfl⟩) <|
  re_a (re_p (ro_iload_n (by decide +kernel) rfl)) <|
  re_a (re_p (ro_bipush (by decide +kernel) (by decide +kernel))) <|
  re_a (re_p (ro_icmp_eq (by decide +kernel) (by decide +kernel))) <|
  re_a (re_p (ro_iload_n (by decide +kernel) rfl)) <|
  re_a (re_p (ro_bipush (by decide +kernel) (by decide +kernel))) <|
  re_a (re_p (ro_icmp_ne (by decide +kernel) (by decide +kernel))) <|
  re_a (re_p (ro_iconst (by decide +kernel) (by decide +kernel))) <|
  re_a (re_p (ro_goto (by decide +kernel) (by decide +kernel))) <|
  re_a (re_p (ro_iconst (by decide +kernel) (by decide +kernel))) <|
  re_a (re_r ⟨(by decide +kernel), rfl⟩) <|
  re_n
theorem mk_92 : ∀ q ∈ TL_92, re_ok Ex D dT 92 q := re_m mk_92_0 (mk_92_1)
theorem mk_93 : ∀ q ∈ TL_93, re_ok Ex D dT 93 q :=
  re_a (re_p (ro_iconst (by decide +kernel) (by decide +kernel))) <|
  re_a (re_p (ro_istore_n (by decide +kernel) rfl (by decide +kernel))) <|
  re_a (re_p (ro_iconst (by decide +kernel) (by decide +kernel))) <|
  re_a (re_p (ro_istore_n (by decide +kernel) rfl (by decide +kernel))) <|
  re_a (re_p (ro_iload_n (by decide +kernel) rfl)) <|
  re_a (re_p (ro_aload_n (by decide +kernel) rfl)) <|
  re_a (re_h (gf_X8_15 (by decide +kernel)) (rg_getf _ _)) <|
  re_a (re_p (ro_icmp_ge (by decide +kernel) (by decide +kernel))) <|
  re_a (re_p (ro_aload_n (by decide +kernel) rfl)) <|
  re_a (re_p (ro_aload_n (by decide +kernel) rfl)) <|
  re_a (re_p (ro_iload_n (by decide +kernel) rfl)) <|
  re_a (re_c (ck_X8_66 (by decide +kernel))) <|
  re_a (re_p (ro_if_ne (by decide +kernel) (by decide +kernel))) <|
  re_a (re_p (ro_iinc (by decide +kernel) (by decide +kernel) (by decide +kernel))) <|
  re_a (re_p (ro_iload_n (by decide +kernel) rfl)) <|
  re_a (re_p (ro_iconst (by decide +kernel) (by decide +kernel))) <|
  re_a (re_p (ro_aload_n (by decide +kernel) rfl)) <|
  re_a (re_h (gf_X8_9 (by decide +kernel)) (rg_getf _ _)) <|
  re_a (re_p (ro_iload_n (by decide +kernel) rfl)) <|
  re_a (re_c (ck_X8_27 (by decide +kernel))) <|
  re_a (re_c (ck_X8_31 (by decide +kernel))) <|
  re_a (re_p (ro_iload_n (by decide +kernel) rfl)) <|
  re_a (re_r ⟨(by decide +kernel), rfl⟩) <|
  re_n
theorem mk_94_0 : ∀ q ∈ ([(0, .inl (ri_pu (ri_aload 0 1))), (1, .inl (ri_pu (ri_iload 2 1))), (2, .inl (ri_pu (ri_icon 1 1))), (3, .inl (ri_pu (ri_ib fun x y => x + y))), (4, .inr (.inl (95, 2, some 6))), (7, .inl (ri_pu (ri_istore 3 1))), (8, .inl (ri_pu (ri_aload 0 1))), (9, .inl (ri_pu (ri_iload 2 1))), (10, .inl (ri_pu (ri_icon 2 1))), (11, .inl (ri_pu (ri_ib fun x y => x + y))), (12, .inr (.inl (95, 2, some 6))), (15, .inl (ri_pu (ri_istore 4 2))), (17, .inl (ri_pu (ri_aload 0 1))), (18, .inl (ri_pu (ri_iload 2 1))), (19, .inl (ri_pu (ri_icon 3 1))), (20, .inl (ri_pu (ri_ib fun x y => x + y))), (21, .inr (.inl (95, 2, some 6))), (24, .inl (ri_pu (ri_istore 5 2))), (26, .inl (ri_pu (ri_aload 0 1))), (27, .inl (ri_pu (ri_iload 2 1))), (28, .inl (ri_pu (ri_icon 4 1))), (29, .inl (ri_pu (ri_ib fun x y => x + y))), (30, .inr (.inl (95, 2, some 6))), (33, .inl (ri_pu (ri_istore 6 2))), (35, .inl (ri_pu (ri_aload 0 1))), (36, .inl (ri_getf 6 0)), (39, .inl (ri_pu (ri_iload 2 1))), (40, .inr (.inl (140, 2, none))), (43, .inl (ri_pu (ri_switch 102 [166, 236, 202, 236, 186, 236, 154, 236, 236, 236, 236, 236, 236, 236, 236, 236, 236, 136, 236, 176] 236))), (136, .inl (ri_pu (ri_aload 1 1))), (137, .inl (ri_pu (ri_iload 3 1))), (138, .inl (ri_pu (ri_iload 4 2))), (140, .inl (ri_pu (ri_icon 4 1))), (141, .inl (ri_pu (ri_ib fun x y => x - y))), (142, .inl (ri_pu (ri_icon 10 2))), (144, .inl (ri_pu (ri_iload 5 2))), (146, .inl (ri_pu (ri_ib fun x y => x * y))), (147, .inl (ri_pu (ri_iload 6 2))), (149, .inl (ri_pu (ri_ib fun x y => x + y))), (150, .inr (.inl (30, 4, some 3)))] : List (Nat × ri_C)), re_ok Ex D dT 94 q :=
  re_a (re_p (ro_aload_n (by decide +kernel) rfl)) <|
  re_a (re_p (ro_iload_n (by decide +kernel) rfl)) <|
  re_a (re_p (ro_iconst (by decide +kernel) (by decide +kernel))) <|
  re_a (re_p (ro_iadd (by decide +kernel))) <|
  re_a (re_c (ck_X8_70 (by decide +kernel))) <|
  re_a (re_p (ro_istore_n (by decide +kernel) rfl (by decide +kernel))) <|
  re_a (re_p (ro_aload_n (by decide +kernel) rfl)) <|
  re_a (re_p (ro_iload_n (by decide +kernel) rfl)) <|
  re_a (re_p (ro_iconst (by decide +kernel) (by decide +kernel))) <|
  re_a (re_p (ro_iadd (by decide +kernel))) <|
  re_a (re_c (ck_X8_70 (by decide +kernel))) <|
  re_a (re_p (ro_istore (by decide +kernel) (by decide +kernel))) <|
  re_a (re_p (ro_aload_n (by decide +kernel) rfl)) <|
  re_a (re_p (ro_iload_n (by decide +kernel) rfl)) <|
  re_a (re_p (ro_iconst (by decide +kernel) (by decide +kernel))) <|
  re_a (re_p (ro_iadd (by decide +kernel))) <|
  re_a (re_c (ck_X8_70 (by decide +kernel))) <|
  re_a (re_p (ro_istore (by decide +kernel) (by decide +kernel))) <|
  re_a (re_p (ro_aload_n (by decide +kernel) rfl)) <|
  re_a (re_p (ro_iload_n (by decide +kernel) rfl)) <|
  re_a (re_p (ro_iconst (by decide +kernel) (by decide +kernel))) <|
  re_a (re_p (ro_iadd (by decide +kernel))) <|
  re_a (re_c (ck_X8_70 (by decide +kernel))) <|
  re_a (re_p (ro_istore (by decide +kernel) (by decide +kernel))) <|
  re_a (re_p (ro_aload_n (by decide +kernel) rfl)) <|
  re_a (re_h (gf_X8_9 (by decide +kernel)) (rg_getf _ _)) <|
  re_a (re_p (ro_iload_n (by decide +kernel) rfl)) <|
  re_a (re_c (ck_X8_27 (by decide +kernel))) <|
  re_a (re_p (ro_switch (by decide +kernel) (by decide +kernel) (by decide +kernel) (by decide +kernel) (by decide +kernel) (by decide +kernel))) <|
  re_a (re_p (ro_aload_n (by decide +kernel) rfl)) <|
  re_a (re_p (ro_iload_n (by decide +kernel) rfl)) <|
  re_a (re_p (ro_iload (by decide +kernel))) <|
  re_a (re_p (ro_iconst (by decide +kernel) (by decide +kernel))) <|
  re_a (re_p (ro_isub (by decide +kernel))) <|
  re_a (re_p (ro_bipush (by decide +kernel) (by decide +kernel))) <|
  re_a (re_p (ro_iload (by decide +kernel))) <|
  re_a (re_p (ro_imul (by decide +kernel))) <|
  re_a (re_p (ro_iload (by decide +kernel))) <|
  re_a (re_p (ro_iadd (by decide +kernel))) <|
  re_a (re_c (ck_X8_74 (by decide +kernel))) <|
  re_n
theorem mk_94_1 : ∀ q ∈ ([(153, .inr (.inr 2)), (154, .inl (ri_pu (ri_aload 1 1))), (155, .inl (ri_pu (ri_iload 3 1))), (156, .inl (ri_pu (ri_iload 4 2))), (158, .inl (ri_pu (ri_iload 5 2))), (160, .inl (ri_pu (ri_iload 6 2))), (162, .inr (.inl (31, 5, some 3))), (165, .inr (.inr 2)), (166, .inl (ri_pu (ri_aload 1 1))), (167, .inl (ri_pu (ri_iload 3 1))), (168, .inl (ri_pu (ri_iload 4 2))), (170, .inl (ri_pu (ri_iload 5 2))), (172, .inr (.inl (32, 4, some 3))), (175, .inr (.inr 2)), (176, .inl (ri_pu (ri_aload 1 1))), (177, .inl (ri_pu (ri_iload 3 1))), (178, .inl (ri_pu (ri_iload 4 2))), (180, .inl (ri_pu (ri_iload 5 2))), (182, .inr (.inl (33, 4, some 3))), (185, .inr (.inr 2)), (186, .inl (ri_pu (ri_aload 1 1))), (187, .inl (ri_pu (ri_iload 3 1))), (188, .inl (ri_pu (ri_iload 4 2))), (190, .inr (.inl (41, 3, some 3))), (193, .inl (ri_pu (ri_if (fun x => decide (¬ x = 0)) 200))), (196, .inl (ri_pu (ri_icon 1 1))), (197, .inl (ri_pu (ri_goto 201))), (200, .inl (ri_pu (ri_icon 0 1))), (201, .inr (.inr 2)), (202, .inl (ri_pu (ri_aload 1 1))), (203, .inl (ri_pu (ri_iload 3 1))), (204, .inl (ri_pu (ri_aload 0 1))), (205, .inl (ri_getf 6 0)), (208, .inl (ri_pu (ri_iload 2 1))), (209, .inl (ri_pu (ri_icon 2 1))), (210, .inl (ri_pu (ri_ib fun x y => x + y))), (211, .inr (.inl (140, 2, none))), (214, .inl (ri_pu (ri_icon 43 2))), (216, .inl (ri_pu (ri_icmp (fun x y => decide (¬ x = y)) 223))), (219, .inl (ri_pu (ri_icon 1 1)))] : List (Nat × ri_C)), re_ok Ex D dT 94 q :=
  re_a (re_r ⟨(by decide +kernel), rfl⟩) <|
  re_a (re_p (ro_aload_n (by decide +kernel) rfl)) <|
  re_a (re_p (ro_iload_n (by decide +kernel) rfl)) <|
  re_a (re_p (ro_iload (by decide +kernel))) <|
  re_a (re_p (ro_iload (by decide +kernel))) <|
  re_a (re_p (ro_iload (by decide +kernel))) <|
  re_a (re_c (ck_X8_79 (by decide +kernel))) <|
  re_a (re_r ⟨(by decide +kernel), rfl⟩) <|
  re_a (re_p (ro_aload_n (by decide +kernel) rfl)) <|
  re_a (re_p (ro_iload_n (by decide +kernel) rfl)) <|
  re_a (re_p (ro_iload (by decide +kernel))) <|
  re_a (re_p (ro_iload (by decide +kernel))) <|
  re_a (re_c (ck_X8_83 (by decide +kernel))) <|
  re_a (re_r ⟨(by decide +kernel), rfl⟩) <|
  re_a (re_p (ro_aload_n (by decide +kernel) rfl)) <|
  re_a (re_p (ro_iload_n (by decide +kernel) rfl)) <|
  re_a (re_p (ro_iload (by decide +kernel))) <|
  re_a (re_p (ro_iload (by decide +kernel))) <|
  re_a (re_c (ck_X8_86 (by decide +kernel))) <|
  re_a (re_r ⟨(by decide +kernel), rfl⟩) <|
  re_a (re_p (ro_aload_n (by decide +kernel) rfl)) <|
  re_a (re_p (ro_iload_n (by decide +kernel) rfl)) <|
  re_a (re_p (ro_iload (by decide +kernel))) <|
  re_a (re_c (ck_X8_89 (by decide +kernel))) <|
  re_a (re_p (ro_if_ne (by decide +kernel) (by decide +kernel))) <|
  re_a (re_p (ro_iconst (by decide +kernel) (by decide +kernel))) <|
  re_a (re_p (ro_goto (by decide +kernel) (by decide +kernel))) <|
  re_a (re_p (ro_iconst (by decide +kernel) (by decide +kernel))) <|
  re_a (re_r ⟨(by decide +kernel), rfl⟩) <|
  re_a (re_p (ro_aload_n (by decide +kernel) rfl)) <|
  re_a (re_p (ro_iload_n (by decide +kernel) rfl)) <|
  re_a (re_p (ro_aload_n (by decide +kernel) rfl)) <|
  re_a (re_h (gf_X8_9 (by decide +kernel)) (rg_getf _ _)) <|
  re_a (re_p (ro_iload_n (by decide +kernel) rfl)) <|
  re_a (re_p (ro_iconst (by decide +kernel) (by decide +kernel))) <|
  re_a (re_p (ro_iadd (by decide +kernel))) <|
  re_a (re_c (ck_X8_27 (by decide +kernel))) <|
  re_a (re_p (ro_bipush (by decide +kernel) (by decide +kernel))) <|
  re_a (re_p (ro_icmp_ne (by decide +kernel) (by decide +kernel))) <|
  re_a (re_p (ro_iconst (by decide +kernel) (by decide +kernel))) <|
  re_n
theorem mk_94_2 : ∀ q ∈ ([(220, .inl (ri_pu (ri_goto 224))), (223, .inl (ri_pu (ri_icon (-1) 1))), (224, .inr (.inl (42, 3, some 3))), (227, .inl (ri_pu (ri_if (fun x => decide (¬ x = 0)) 234))), (230, .inl (ri_pu (ri_icon 1 1))), (231, .inl (ri_pu (ri_goto 235))), (234, .inl (ri_pu (ri_icon 0 1))), (235, .inr (.inr 2)), (236, .inl (ri_pu (ri_aload 1 1))), (237, .inl (ri_pu (ri_iload 3 1))), (238, .inl (ri_pu (ri_iload 4 2))), (240, .inr (.inl (34, 3, some 3))), (243, .inr (.inr 2))] : List (Nat × ri_C)), re_ok Ex D dT 94 q :=
  re_a (re_p (ro_goto (by decide +kernel) (by decide +kernel))) <|
  re_a (re_p (ro_iconst (by decide +kernel) (by decide +kernel))) <|
  re_a (re_c (ck_X8_93 (by decide +kernel))) <|
  re_a (re_p (ro_if_ne (by decide +kernel) (by decide +kernel))) <|
  re_a (re_p (ro_iconst (by decide +kernel) (by decide +kernel))) <|
  re_a (re_p (ro_goto (by decide +kernel) (by decide +kernel))) <|
  re_a (re_p (ro_iconst (by decide +kernel) (by decide +kernel))) <|
  re_a (re_r ⟨(by decide +kernel), rfl⟩) <|
  re_a (re_p (ro_aload_n (by decide +kernel) rfl)) <|
  re_a (re_p (ro_iload_n (by decide +kernel) rfl)) <|
  re_a (re_p (ro_iload (by decide +kernel))) <|
  re_a (re_c (ck_X8_96 (by decide +kernel))) <|
  re_a (re_r ⟨(by decide +kernel), rfl⟩) <|
  re_n
theorem mk_94 : ∀ q ∈ TL_94, re_ok Ex D dT 94 q := re_m mk_94_0 (re_m mk_94_1 (mk_94_2))
theorem mk_95 : ∀ q ∈ TL_95, re_ok Ex D dT 95 q :=
  re_a (re_p (ro_aload_n (by decide +kernel) rfl)) <|
  re_a (re_h (gf_X8_9 (by decide +kernel)) (rg_getf _ _)) <|
  re_a (re_p (ro_iload_n (by decide +kernel) rfl)) <|
  re_a (re_c (ck_X8_27 (by decide +kernel))) <|
  re_a (re_p (ro_bipush (by decide +kernel) (by decide +kernel))) <|
  re_a (re_p (ro_isub (by decide +kernel))) <|
  re_a (re_r ⟨(by decide +kernel), rfl⟩) <|
  re_n
theorem mk_96 : ∀ q ∈ TL_96, re_ok Ex D dT 96 q :=
  re_a (re_p (ro_aload_n (by decide +kernel) rfl)) <|
  re_a (re_p (ro_oinit (by decide +kernel) q_59 q_32 q_33)) <|
  re_a (re_p (ro_aload_n (by decide +kernel) rfl)) <|
  re_a (re_p (ro_iconst (by decide +kernel) (by decide +kernel))) <|
  re_a (re_h (pf_X9_9 (by decide +kernel)) (rg_puti _ _)) <|
  re_a (re_p (ro_aload_n (by decide +kernel) rfl)) <|
  re_a (re_p (ro_iconst (by decide +kernel) (by decide +kernel))) <|
  re_a (re_h (rh_newi q_47 (by decide +kernel)) (rg_newa _)) <|
  re_a (re_h (pf_X9_15 (by decide +kernel)) (rg_putr _ _)) <|
  re_a (re_p (ro_aload_n (by decide +kernel) rfl)) <|
  re_a (re_p (ro_iconst (by decide +kernel) (by decide +kernel))) <|
  re_a (re_h (rh_newi q_47 (by decide +kernel)) (rg_newa _)) <|
  re_a (re_h (pf_X9_19 (by decide +kernel)) (rg_putr _ _)) <|
  re_a (re_p (ro_aload_n (by decide +kernel) rfl)) <|
  re_a (re_p (ro_iconst (by decide +kernel) (by decide +kernel))) <|
  re_a (re_h (rh_newi q_47 (by decide +kernel)) (rg_newa _)) <|
  re_a (re_h (pf_X9_22 (by decide +kernel)) (rg_putr _ _)) <|
  re_a (re_p (ro_aload_n (by decide +kernel) rfl)) <|
  re_a (re_p (ro_iconst (by decide +kernel) (by decide +kernel))) <|
  re_a (re_h (rh_newi q_47 (by decide +kernel)) (rg_newa _)) <|
  re_a (re_h (pf_X9_25 (by decide +kernel)) (rg_putr _ _)) <|
  re_a (re_p (ro_aload_n (by decide +kernel) rfl)) <|
  re_a (re_p (ro_iconst (by decide +kernel) (by decide +kernel))) <|
  re_a (re_h (rh_newi q_47 (by decide +kernel)) (rg_newa _)) <|
  re_a (re_h (pf_X9_28 (by decide +kernel)) (rg_putr _ _)) <|
  re_a (re_p (ro_aload_n (by decide +kernel) rfl)) <|
  re_a (re_p (ro_bipush (by decide +kernel) (by decide +kernel))) <|
  re_a (re_h (rh_newi q_47 (by decide +kernel)) (rg_newa _)) <|
  re_a (re_h (pf_X9_31 (by decide +kernel)) (rg_putr _ _)) <|
  re_a (re_r ⟨(by decide +kernel), rfl⟩) <|
  re_n
theorem mk_97 : ∀ q ∈ TL_97, re_ok Ex D dT 97 q :=
  re_a (re_p (ro_iload_n (by decide +kernel) rfl)) <|
  re_a (re_p (ro_if_lt (by decide +kernel) (by decide +kernel))) <|
  re_a (re_p (ro_iload_n (by decide +kernel) rfl)) <|
  re_a (re_p (ro_aload_n (by decide +kernel) rfl)) <|
  re_a (re_h (gf_X9_9 (by decide +kernel)) (rg_getf _ _)) <|
  re_a (re_p (ro_icmp_ge (by decide +kernel) (by decide +kernel))) <|
  re_a (re_p (ro_iconst (by decide +kernel) (by decide +kernel))) <|
  re_a (re_p (ro_goto (by decide +kernel) (by decide +kernel))) <|
  re_a (re_p (ro_iconst (by decide +kernel) (by decide +kernel))) <|
  re_a (re_r ⟨(by decide +kernel), rfl⟩) <|
  re_n
theorem mk_98 : ∀ q ∈ TL_98, re_ok Ex D dT 98 q :=
  re_a (re_p (ro_aload_n (by decide +kernel) rfl)) <|
  re_a (re_p (ro_iload_n (by decide +kernel) rfl)) <|
  re_a (re_c (ck_X9_34 (by decide +kernel))) <|
  re_a (re_p (ro_if_eq (by decide +kernel) (by decide +kernel))) <|
  re_a (re_p (ro_iload_n (by decide +kernel) rfl)) <|
  re_a (re_p (ro_if_lt (by decide +kernel) (by decide +kernel))) <|
  re_a (re_p (ro_iload_n (by decide +kernel) rfl)) <|
  re_a (re_p (ro_aload_n (by decide +kernel) rfl)) <|
  re_a (re_h (gf_X9_15 (by decide +kernel)) (rg_getf _ _)) <|
  re_a (re_p (ro_iload_n (by decide +kernel) rfl)) <|
  re_a (re_c (ck_X9_38 (by decide +kernel))) <|
  re_a (re_p (ro_icmp_ge (by decide +kernel) (by decide +kernel))) <|
  re_a (re_p (ro_iconst (by decide +kernel) (by decide +kernel))) <|
  re_a (re_p (ro_goto (by decide +kernel) (by decide +kernel))) <|
  re_a (re_p (ro_iconst (by decide +kernel) (by decide +kernel))) <|
  re_a (re_r ⟨(by decide +kernel), rfl⟩) <|
  re_n
theorem mk_99_0 : ∀ q ∈ ([(0, .inl (ri_pu (ri_aload 0 1))), (1, .inl (ri_getf 7 0)), (4, .inl (ri_pu (ri_istore 4 2))), (6, .inl (ri_pu (ri_aload 0 1))), (7, .inl (ri_getf 7 1)), (10, .inl (ri_pu (ri_iload 4 2))), (12, .inl (ri_pu (ri_iload 1 1))), (13, .inr (.inl (141, 3, none))), (16, .inl (ri_pu (ri_aload 0 1))), (17, .inl (ri_getf 7 2)), (20, .inl (ri_pu (ri_iload 4 2))), (22, .inl (ri_pu (ri_iload 2 1))), (23, .inr (.inl (141, 3, none))), (26, .inl (ri_pu (ri_aload 0 1))), (27, .inl (ri_getf 7 3)), (30, .inl (ri_pu (ri_iload 4 2))), (32, .inl (ri_pu (ri_iload 3 1))), (33, .inr (.inl (141, 3, none))), (36, .inl (ri_pu (ri_aload 0 1))), (37, .inl (ri_getf 7 4)), (40, .inl (ri_pu (ri_iload 4 2))), (42, .inl (ri_pu (ri_icon 0 1))), (43, .inr (.inl (141, 3, none))), (46, .inl (ri_pu (ri_aload 0 1))), (47, .inl (ri_getf 7 5)), (50, .inl (ri_pu (ri_iload 4 2))), (52, .inl (ri_pu (ri_icon 0 1))), (53, .inr (.inl (141, 3, none))), (56, .inl (ri_pu (ri_icon 0 1))), (57, .inl (ri_pu (ri_istore 5 2))), (59, .inl (ri_pu (ri_iload 5 2))), (61, .inl (ri_pu (ri_icon 5 1))), (62, .inl (ri_pu (ri_icmp (fun x y => decide (y ≤ x)) 86))), (65, .inl (ri_pu (ri_aload 0 1))), (66, .inl (ri_getf 7 6)), (69, .inl (ri_pu (ri_iload 4 2))), (71, .inl (ri_pu (ri_iload 5 2))), (73, .inr (.inl (138, 2, none))), (76, .inl (ri_pu (ri_icon 0 1))), (77, .inr (.inl (141, 3, none)))] : List (Nat × ri_C)), re_ok Ex D dT 99 q :=
  re_a (re_p (ro_aload_n (by decide +kernel) rfl)) <|
  re_a (re_h (gf_X9_9 (by decide +kernel)) (rg_getf _ _)) <|
  re_a (re_p (ro_istore (by decide +kernel) (by decide +kernel))) <|
  re_a (re_p (ro_aload_n (by decide +kernel) rfl)) <|
  re_a (re_h (gf_X9_15 (by decide +kernel)) (rg_getf _ _)) <|
  re_a (re_p (ro_iload (by decide +kernel))) <|
  re_a (re_p (ro_iload_n (by decide +kernel) rfl)) <|
  re_a (re_c (ck_X9_42 (by decide +kernel))) <|
  re_a (re_p (ro_aload_n (by decide +kernel) rfl)) <|
  re_a (re_h (gf_X9_19 (by decide +kernel)) (rg_getf _ _)) <|
  re_a (re_p (ro_iload (by decide +kernel))) <|
  re_a (re_p (ro_iload_n (by decide +kernel) rfl)) <|
  re_a (re_c (ck_X9_42 (by decide +kernel))) <|
  re_a (re_p (ro_aload_n (by decide +kernel) rfl)) <|
  re_a (re_h (gf_X9_22 (by decide +kernel)) (rg_getf _ _)) <|
  re_a (re_p (ro_iload (by decide +kernel))) <|
  re_a (re_p (ro_iload_n (by decide +kernel) rfl)) <|
  re_a (re_c (ck_X9_42 (by decide +kernel))) <|
  re_a (re_p (ro_aload_n (by decide +kernel) rfl)) <|
  re_a (re_h (gf_X9_25 (by decide +kernel)) (rg_getf _ _)) <|
  re_a (re_p (ro_iload (by decide +kernel))) <|
  re_a (re_p (ro_iconst (by decide +kernel) (by decide +kernel))) <|
  re_a (re_c (ck_X9_42 (by decide +kernel))) <|
  re_a (re_p (ro_aload_n (by decide +kernel) rfl)) <|
  re_a (re_h (gf_X9_28 (by decide +kernel)) (rg_getf _ _)) <|
  re_a (re_p (ro_iload (by decide +kernel))) <|
  re_a (re_p (ro_iconst (by decide +kernel) (by decide +kernel))) <|
  re_a (re_c (ck_X9_42 (by decide +kernel))) <|
  re_a (re_p (ro_iconst (by decide +kernel) (by decide +kernel))) <|
  re_a (re_p (ro_istore (by decide +kernel) (by decide +kernel))) <|
  re_a (re_p (ro_iload (by decide +kernel))) <|
  re_a (re_p (ro_iconst (by decide +kernel) (by decide +kernel))) <|
  re_a (re_p (ro_icmp_ge (by decide +kernel) (by decide +kernel))) <|
  re_a (re_p (ro_aload_n (by decide +kernel) rfl)) <|
  re_a (re_h (gf_X9_31 (by decide +kernel)) (rg_getf _ _)) <|
  re_a (re_p (ro_iload (by decide +kernel))) <|
  re_a (re_p (ro_iload (by decide +kernel))) <|
  re_a (re_c (ck_X9_46 (by decide +kernel))) <|
  re_a (re_p (ro_iconst (by decide +kernel) (by decide +kernel))) <|
  re_a (re_c (ck_X9_42 (by decide +kernel))) <|
  re_n
theorem mk_99_1 : ∀ q ∈ ([(80, .inl (ri_pu (ri_iinc 5 1))), (83, .inl (ri_pu (ri_goto 59))), (86, .inl (ri_pu (ri_aload 0 1))), (87, .inl (ri_pu ri_dup)), (88, .inl (ri_getf 7 0)), (91, .inl (ri_pu (ri_icon 1 1))), (92, .inl (ri_pu (ri_ib fun x y => x + y))), (93, .inl (ri_puti 7 0)), (96, .inl (ri_pu (ri_iload 4 2))), (98, .inr (.inr 1))] : List (Nat × ri_C)), re_ok Ex D dT 99 q :=
  re_a (re_p (ro_iinc (by decide +kernel) (by decide +kernel) (by decide +kernel))) <|
  re_a (re_p (ro_goto (by decide +kernel) (by decide +kernel))) <|
  re_a (re_p (ro_aload_n (by decide +kernel) rfl)) <|
  re_a (re_p (ro_dup (by decide +kernel))) <|
  re_a (re_h (gf_X9_9 (by decide +kernel)) (rg_getf _ _)) <|
  re_a (re_p (ro_iconst (by decide +kernel) (by decide +kernel))) <|
  re_a (re_p (ro_iadd (by decide +kernel))) <|
  re_a (re_h (pf_X9_9 (by decide +kernel)) (rg_puti _ _)) <|
  re_a (re_p (ro_iload (by decide +kernel))) <|
  re_a (re_r ⟨(by decide +kernel), rfl⟩) <|
  re_n
theorem mk_99 : ∀ q ∈ TL_99, re_ok Ex D dT 99 q := re_m mk_99_0 (mk_99_1)
theorem mk_100 : ∀ q ∈ TL_100, re_ok Ex D dT 100 q :=
  re_a (re_p (ro_iload_n (by decide +kernel) rfl)) <|
  re_a (re_p (ro_aload_n (by decide +kernel) rfl)) <|
  re_a (re_h (gf_X9_25 (by decide +kernel)) (rg_getf _ _)) <|
  re_a (re_p (ro_iload_n (by decide +kernel) rfl)) <|
  re_a (re_c (ck_X9_38 (by decide +kernel))) <|
  re_a (re_p (ro_isub (by decide +kernel))) <|
  re_a (re_p (ro_aload_n (by decide +kernel) rfl)) <|
  re_a (re_h (gf_X9_15 (by decide +kernel)) (rg_getf _ _)) <|
  re_a (re_p (ro_iload_n (by decide +kernel) rfl)) <|
  re_a (re_c (ck_X9_38 (by decide +kernel))) <|
  re_a (re_c (ck_X9_50 (by decide +kernel))) <|
  re_a (re_r ⟨(by decide +kernel), rfl⟩) <|
  re_n
theorem mk_101 : ∀ q ∈ TL_101, re_ok Ex D dT 101 q :=
  re_a (re_p (ro_iload_n (by decide +kernel) rfl)) <|
  re_a (re_p (ro_iload_n (by decide +kernel) rfl)) <|
  re_a (re_p (ro_aload_n (by decide +kernel) rfl)) <|
  re_a (re_h (gf_X9_25 (by decide +kernel)) (rg_getf _ _)) <|
  re_a (re_p (ro_iload_n (by decide +kernel) rfl)) <|
  re_a (re_c (ck_X9_38 (by decide +kernel))) <|
  re_a (re_p (ro_iadd (by decide +kernel))) <|
  re_a (re_p (ro_aload_n (by decide +kernel) rfl)) <|
  re_a (re_h (gf_X9_15 (by decide +kernel)) (rg_getf _ _)) <|
  re_a (re_p (ro_iload_n (by decide +kernel) rfl)) <|
  re_a (re_c (ck_X9_38 (by decide +kernel))) <|
  re_a (re_c (ck_X9_50 (by decide +kernel))) <|
  re_a (re_c (ck_X9_46 (by decide +kernel))) <|
  re_a (re_r ⟨(by decide +kernel), rfl⟩) <|
  re_n
theorem mk_102 : ∀ q ∈ TL_102, re_ok Ex D dT 102 q :=
  re_a (re_p (ro_aload_n (by decide +kernel) rfl)) <|
  re_a (re_h (gf_X9_25 (by decide +kernel)) (rg_getf _ _)) <|
  re_a (re_p (ro_iload_n (by decide +kernel) rfl)) <|
  re_a (re_p (ro_aload_n (by decide +kernel) rfl)) <|
  re_a (re_h (gf_X9_25 (by decide +kernel)) (rg_getf _ _)) <|
  re_a (re_p (ro_iload_n (by decide +kernel) rfl)) <|
  re_a (re_c (ck_X9_38 (by decide +kernel))) <|
  re_a (re_p (ro_iload_n (by decide +kernel) rfl)) <|
  re_a (re_p (ro_iadd (by decide +kernel))) <|
  re_a (re_p (ro_aload_n (by decide +kernel) rfl)) <|
  re_a (re_h (gf_X9_15 (by decide +kernel)) (rg_getf _ _)) <|
  re_a (re_p (ro_iload_n (by decide +kernel) rfl)) <|
  re_a (re_c (ck_X9_38 (by decide +kernel))) <|
  re_a (re_c (ck_X9_50 (by decide +kernel))) <|
  re_a (re_c (ck_X9_42 (by decide +kernel))) <|
  re_a (re_p (ro_aload_n (by decide +kernel) rfl)) <|
  re_a (re_h (gf_X9_25 (by decide +kernel)) (rg_getf _ _)) <|
  re_a (re_p (ro_iload_n (by decide +kernel) rfl)) <|
  re_a (re_c (ck_X9_38 (by decide +kernel))) <|
  re_a (re_r ⟨(by decide +kernel), rfl⟩) <|
  re_n
theorem mk_103 : ∀ q ∈ TL_103, re_ok Ex D dT 103 q :=
  re_a (re_p (ro_aload_n (by decide +kernel) rfl)) <|
  re_a (re_p (ro_iload_n (by decide +kernel) rfl)) <|
  re_a (re_p (ro_aload_n (by decide +kernel) rfl)) <|
  re_a (re_h (gf_X9_19 (by decide +kernel)) (rg_getf _ _)) <|
  re_a (re_p (ro_iload_n (by decide +kernel) rfl)) <|
  re_a (re_c (ck_X9_38 (by decide +kernel))) <|
  re_a (re_c (ck_X9_53 (by decide +kernel))) <|
  re_a (re_p (ro_pop (by decide +kernel))) <|
  re_a (re_p (ro_aload_n (by decide +kernel) rfl)) <|
  re_a (re_h (gf_X9_28 (by decide +kernel)) (rg_getf _ _)) <|
  re_a (re_p (ro_iload_n (by decide +kernel) rfl)) <|
  re_a (re_p (ro_aload_n (by decide +kernel) rfl)) <|
  re_a (re_h (gf_X9_28 (by decide +kernel)) (rg_getf _ _)) <|
  re_a (re_p (ro_iload_n (by decide +kernel) rfl)) <|
  re_a (re_c (ck_X9_38 (by decide +kernel))) <|
  re_a (re_p (ro_iconst (by decide +kernel) (by decide +kernel))) <|
  re_a (re_p (ro_iadd (by decide +kernel))) <|
  re_a (re_c (ck_X9_42 (by decide +kernel))) <|
  re_a (re_r ⟨(by decide +kernel), rfl⟩) <|
  re_n
theorem mk_104 : ∀ q ∈ TL_104, re_ok Ex D dT 104 q :=
  re_a (re_p (ro_aload_n (by decide +kernel) rfl)) <|
  re_a (re_h (gf_X9_15 (by decide +kernel)) (rg_getf _ _)) <|
  re_a (re_p (ro_iload_n (by decide +kernel) rfl)) <|
  re_a (re_c (ck_X9_38 (by decide +kernel))) <|
  re_a (re_p (ro_istore_n (by decide +kernel) rfl (by decide +kernel))) <|
  re_a (re_p (ro_iconst (by decide +kernel) (by decide +kernel))) <|
  re_a (re_p (ro_istore_n (by decide +kernel) rfl (by decide +kernel))) <|
  re_a (re_p (ro_iload_n (by decide +kernel) rfl)) <|
  re_a (re_p (ro_iload_n (by decide +kernel) rfl)) <|
  re_a (re_p (ro_icmp_ge (by decide +kernel) (by decide +kernel))) <|
  re_a (re_p (ro_iload_n (by decide +kernel) rfl)) <|
  re_a (re_p (ro_aload_n (by decide +kernel) rfl)) <|
  re_a (re_h (gf_X9_19 (by decide +kernel)) (rg_getf _ _)) <|
  re_a (re_p (ro_iload_n (by decide +kernel) rfl)) <|
  re_a (re_c (ck_X9_38 (by decide +kernel))) <|
  re_a (re_p (ro_imul (by decide +kernel))) <|
  re_a (re_p (ro_iload_n (by decide +kernel) rfl)) <|
  re_a (re_c (ck_X9_50 (by decide +kernel))) <|
  re_a (re_p (ro_if_eq (by decide +kernel) (by decide +kernel))) <|
  re_a (re_p (ro_iinc (by decide +kernel) (by decide +kernel) (by decide +kernel))) <|
  re_a (re_p (ro_goto (by decide +kernel) (by decide +kernel))) <|
  re_a (re_p (ro_iload_n (by decide +kernel) rfl)) <|
  re_a (re_r ⟨(by decide +kernel), rfl⟩) <|
  re_n
theorem mk_105 : ∀ q ∈ TL_105, re_ok Ex D dT 105 q :=
  re_a (re_p (ro_iconst (by decide +kernel) (by decide +kernel))) <|
  re_a (re_p (ro_istore_n (by decide +kernel) rfl (by decide +kernel))) <|
  re_a (re_p (ro_iconst (by decide +kernel) (by decide +kernel))) <|
  re_a (re_p (ro_istore_n (by decide +kernel) rfl (by decide +kernel))) <|
  re_a (re_p (ro_iload_n (by decide +kernel) rfl)) <|
  re_a (re_p (ro_aload_n (by decide +kernel) rfl)) <|
  re_a (re_h (gf_X9_15 (by decide +kernel)) (rg_getf _ _)) <|
  re_a (re_p (ro_iload_n (by decide +kernel) rfl)) <|
  re_a (re_c (ck_X9_38 (by decide +kernel))) <|
  re_a (re_p (ro_icmp_ge (by decide +kernel) (by decide +kernel))) <|
  re_a (re_p (ro_iload_n (by decide +kernel) rfl)) <|
  re_a (re_p (ro_aload_n (by decide +kernel) rfl)) <|
  re_a (re_h (gf_X9_31 (by decide +kernel)) (rg_getf _ _)) <|
  re_a (re_p (ro_iload_n (by decide +kernel) rfl)) <|
  re_a (re_p (ro_iload_n (by decide +kernel) rfl)) <|
  re_a (re_c (ck_X9_46 (by decide +kernel))) <|
  re_a (re_c (ck_X9_38 (by decide +kernel))) <|
  re_a (re_p (ro_iadd (by decide +kernel))) <|
  re_a (re_p (ro_istore_n (by decide +kernel) rfl (by decide +kernel))) <|
  re_a (re_p (ro_iinc (by decide +kernel) (by decide +kernel) (by decide +kernel))) <|
  re_a (re_p (ro_goto (by decide +kernel) (by decide +kernel))) <|
  re_a (re_p (ro_iload_n (by decide +kernel) rfl)) <|
  re_a (re_r ⟨(by decide +kernel), rfl⟩) <|
  re_n
theorem mk_106 : ∀ q ∈ TL_106, re_ok Ex D dT 106 q :=
  re_a (re_p (ro_iconst (by decide +kernel) (by decide +kernel))) <|
  re_a (re_p (ro_istore_n (by decide +kernel) rfl (by decide +kernel))) <|
  re_a (re_p (ro_iconst (by decide +kernel) (by decide +kernel))) <|
  re_a (re_p (ro_istore_n (by decide +kernel) rfl (by decide +kernel))) <|
  re_a (re_p (ro_iload_n (by decide +kernel) rfl)) <|
  re_a (re_p (ro_aload_n (by decide +kernel) rfl)) <|
  re_a (re_h (gf_X9_9 (by decide +kernel)) (rg_getf _ _)) <|
  re_a (re_p (ro_icmp_ge (by decide +kernel) (by decide +kernel))) <|
  re_a (re_p (ro_iload_n (by decide +kernel) rfl)) <|
  re_a (re_p (ro_aload_n (by decide +kernel) rfl)) <|
  re_a (re_p (ro_iload_n (by decide +kernel) rfl)) <|
  re_a (re_c (ck_X9_56 (by decide +kernel))) <|
  re_a (re_p (ro_iadd (by decide +kernel))) <|
  re_a (re_p (ro_istore_n (by decide +kernel) rfl (by decide +kernel))) <|
  re_a (re_p (ro_iinc (by decide +kernel) (by decide +kernel) (by decide +kernel))) <|
  re_a (re_p (ro_goto (by decide +kernel) (by decide +kernel))) <|
  re_a (re_p (ro_iload_n (by decide +kernel) rfl)) <|
  re_a (re_r ⟨(by decide +kernel), rfl⟩) <|
  re_n
theorem mk_107 : ∀ q ∈ TL_107, re_ok Ex D dT 107 q :=
  re_a (re_p (ro_aload_n (by decide +kernel) rfl)) <|
  re_a (re_p (ro_aload_n (by decide +kernel) rfl)) <|
  re_a (re_h (gf_X9_9 (by decide +kernel)) (rg_getf _ _)) <|
  re_a (re_h (pf_X9_9 (by decide +kernel)) (rg_puti _ _)) <|
  re_a (re_p (ro_aload_n (by decide +kernel) rfl)) <|
  re_a (re_h (gf_X9_15 (by decide +kernel)) (rg_getf _ _)) <|
  re_a (re_p (ro_aload_n (by decide +kernel) rfl)) <|
  re_a (re_h (gf_X9_15 (by decide +kernel)) (rg_getf _ _)) <|
  re_a (re_c (ck_X9_60 (by decide +kernel))) <|
  re_a (re_p (ro_aload_n (by decide +kernel) rfl)) <|
  re_a (re_h (gf_X9_19 (by decide +kernel)) (rg_getf _ _)) <|
  re_a (re_p (ro_aload_n (by decide +kernel) rfl)) <|
  re_a (re_h (gf_X9_19 (by decide +kernel)) (rg_getf _ _)) <|
  re_a (re_c (ck_X9_60 (by decide +kernel))) <|
  re_a (re_p (ro_aload_n (by decide +kernel) rfl)) <|
  re_a (re_h (gf_X9_22 (by decide +kernel)) (rg_getf _ _)) <|
  re_a (re_p (ro_aload_n (by decide +kernel) rfl)) <|
  re_a (re_h (gf_X9_22 (by decide +kernel)) (rg_getf _ _)) <|
  re_a (re_c (ck_X9_60 (by decide +kernel))) <|
  re_a (re_p (ro_aload_n (by decide +kernel) rfl)) <|
  re_a (re_h (gf_X9_25 (by decide +kernel)) (rg_getf _ _)) <|
  re_a (re_p (ro_aload_n (by decide +kernel) rfl)) <|
  re_a (re_h (gf_X9_25 (by decide +kernel)) (rg_getf _ _)) <|
  re_a (re_c (ck_X9_60 (by decide +kernel))) <|
  re_a (re_p (ro_aload_n (by decide +kernel) rfl)) <|
  re_a (re_h (gf_X9_28 (by decide +kernel)) (rg_getf _ _)) <|
  re_a (re_p (ro_aload_n (by decide +kernel) rfl)) <|
  re_a (re_h (gf_X9_28 (by decide +kernel)) (rg_getf _ _)) <|
  re_a (re_c (ck_X9_60 (by decide +kernel))) <|
  re_a (re_p (ro_aload_n (by decide +kernel) rfl)) <|
  re_a (re_h (gf_X9_31 (by decide +kernel)) (rg_getf _ _)) <|
  re_a (re_p (ro_aload_n (by decide +kernel) rfl)) <|
  re_a (re_h (gf_X9_31 (by decide +kernel)) (rg_getf _ _)) <|
  re_a (re_c (ck_X9_60 (by decide +kernel))) <|
  re_a (re_r ⟨(by decide +kernel), rfl⟩) <|
  re_n
theorem mk_108 : ∀ q ∈ TL_108, re_ok Ex D dT 108 q :=
  re_a (re_p (ro_aload_n (by decide +kernel) rfl)) <|
  re_a (re_p (ro_oinit (by decide +kernel) q_31 q_32 q_33)) <|
  re_a (re_p (ro_aload_n (by decide +kernel) rfl)) <|
  re_a (re_h (rh_new (T := TX8) (N := 2) li_X8 tyX8 tyX8_ok rfl q_34 q_35 q_2 (fun j hj => by rcases (show j = 0 ∨ j = 1 by omega) with rfl | rfl <;> rfl) (by decide) (by decide +kernel)) (rg_new _ _)) <|
  re_a (re_p (ro_dup (by decide +kernel))) <|
  re_a (re_c (ck_X10_11 (by decide +kernel))) <|
  re_a (re_h (pf_X10_12 (by decide +kernel)) (rg_putr _ _)) <|
  re_a (re_p (ro_aload_n (by decide +kernel) rfl)) <|
  re_a (re_h (rh_new (T := TX3) (N := 9) li_X3 tyX3 tyX3_ok rfl q_48 q_49 q_3 (fun j hj => by rcases (show j = 0 ∨ j = 1 ∨ j = 2 ∨ j = 3 ∨ j = 4 ∨ j = 5 ∨ j = 6 ∨ j = 7 ∨ j = 8 by omega) with rfl | rfl | rfl | rfl | rfl | rfl | rfl | rfl | rfl <;> rfl) (by decide) (by decide +kernel)) (rg_new _ _)) <|
  re_a (re_p (ro_dup (by decide +kernel))) <|
  re_a (re_c (ck_X10_18 (by decide +kernel))) <|
  re_a (re_h (pf_X10_19 (by decide +kernel)) (rg_putr _ _)) <|
  re_a (re_p (ro_aload_n (by decide +kernel) rfl)) <|
  re_a (re_h (rh_new (T := TX3) (N := 9) li_X3 tyX3 tyX3_ok rfl q_48 q_49 q_3 (fun j hj => by rcases (show j = 0 ∨ j = 1 ∨ j = 2 ∨ j = 3 ∨ j = 4 ∨ j = 5 ∨ j = 6 ∨ j = 7 ∨ j = 8 by omega) with rfl | rfl | rfl | rfl | rfl | rfl | rfl | rfl | rfl <;> rfl) (by decide) (by decide +kernel)) (rg_new _ _)) <|
  re_a (re_p (ro_dup (by decide +kernel))) <|
  re_a (re_c (ck_X10_18 (by decide +kernel))) <|
  re_a (re_h (pf_X10_23 (by decide +kernel)) (rg_putr _ _)) <|
  re_a (re_p (ro_aload_n (by decide +kernel) rfl)) <|
  re_a (re_h (rh_new (T := TX1) (N := 3) li_X1 tyX1 tyX1_ok rfl q_188 q_189 q_7 (fun j hj => by rcases (show j = 0 ∨ j = 1 ∨ j = 2 by omega) with rfl | rfl | rfl <;> rfl) (by decide) (by decide +kernel)) (rg_new _ _)) <|
  re_a (re_p (ro_dup (by decide +kernel))) <|
  re_a (re_c (ck_X10_28 (by decide +kernel))) <|
  re_a (re_h (pf_X10_29 (by decide +kernel)) (rg_putr _ _)) <|
  re_a (re_p (ro_aload_n (by decide +kernel) rfl)) <|
  re_a (re_h (rh_new (T := TX7) (N := 2) li_X7 tyX7 tyX7_ok rfl q_207 q_208 q_8 (fun j hj => by rcases (show j = 0 ∨ j = 1 by omega) with rfl | rfl <;> rfl) (by decide) (by decide +kernel)) (rg_new _ _)) <|
  re_a (re_p (ro_dup (by decide +kernel))) <|
  re_a (re_c (ck_X10_35 (by decide +kernel))) <|
  re_a (re_h (pf_X10_36 (by decide +kernel)) (rg_putr _ _)) <|
  re_a (re_p (ro_aload_n (by decide +kernel) rfl)) <|
  re_a (re_h (rh_new (T := TX5) (N := 10) li_X5 tyX5 tyX5_ok rfl q_222 q_223 q_9 (fun j hj => by rcases (show j = 0 ∨ j = 1 ∨ j = 2 ∨ j = 3 ∨ j = 4 ∨ j = 5 ∨ j = 6 ∨ j = 7 ∨ j = 8 ∨ j = 9 by omega) with rfl | rfl | rfl | rfl | rfl | rfl | rfl | rfl | rfl | rfl <;> rfl) (by decide) (by decide +kernel)) (rg_new _ _)) <|
  re_a (re_p (ro_dup (by decide +kernel))) <|
  re_a (re_c (ck_X10_42 (by decide +kernel))) <|
  re_a (re_h (pf_X10_43 (by decide +kernel)) (rg_putr _ _)) <|
  re_a (re_r ⟨(by decide +kernel), rfl⟩) <|
  re_n
theorem mk_109 : ∀ q ∈ TL_109, re_ok Ex D dT 109 q :=
  re_a (re_p (ro_aload_n (by decide +kernel) rfl)) <|
  re_a (re_h (gf_X10_12 (by decide +kernel)) (rg_getf _ _)) <|
  re_a (re_p (ro_iload_n (by decide +kernel) rfl)) <|
  re_a (re_c (ck_X10_47 (by decide +kernel))) <|
  re_a (re_c (ck_X10_51 (by decide +kernel))) <|
  re_a (re_p (ro_aload_n (by decide +kernel) rfl)) <|
  re_a (re_h (gf_X10_12 (by decide +kernel)) (rg_getf _ _)) <|
  re_a (re_p (ro_iload_n (by decide +kernel) rfl)) <|
  re_a (re_c (ck_X10_55 (by decide +kernel))) <|
  re_a (re_r ⟨(by decide +kernel), rfl⟩) <|
  re_n
theorem mk_110 : ∀ q ∈ TL_110, re_ok Ex D dT 110 q :=
  re_a (re_p (ro_aload_n (by decide +kernel) rfl)) <|
  re_a (re_h (gf_X10_12 (by decide +kernel)) (rg_getf _ _)) <|
  re_a (re_c (ck_X10_58 (by decide +kernel))) <|
  re_a (re_r ⟨(by decide +kernel), rfl⟩) <|
  re_n
theorem mk_111 : ∀ q ∈ TL_111, re_ok Ex D dT 111 q :=
  re_a (re_p (ro_aload_n (by decide +kernel) rfl)) <|
  re_a (re_h (gf_X10_12 (by decide +kernel)) (rg_getf _ _)) <|
  re_a (re_c (ck_X10_62 (by decide +kernel))) <|
  re_a (re_r ⟨(by decide +kernel), rfl⟩) <|
  re_n
theorem mk_112 : ∀ q ∈ TL_112, re_ok Ex D dT 112 q :=
  re_a (re_p (ro_aload_n (by decide +kernel) rfl)) <|
  re_a (re_h (gf_X10_12 (by decide +kernel)) (rg_getf _ _)) <|
  re_a (re_c (ck_X10_62 (by decide +kernel))) <|
  re_a (re_p (ro_iconst (by decide +kernel) (by decide +kernel))) <|
  re_a (re_p (ro_icmp_ne (by decide +kernel) (by decide +kernel))) <|
  re_a (re_p (ro_iconst (by decide +kernel) (by decide +kernel))) <|
  re_a (re_p (ro_goto (by decide +kernel) (by decide +kernel))) <|
  re_a (re_p (ro_iconst (by decide +kernel) (by decide +kernel))) <|
  re_a (re_c (ck_X10_51 (by decide +kernel))) <|
  re_a (re_p (ro_aload_n (by decide +kernel) rfl)) <|
  re_a (re_h (gf_X10_29 (by decide +kernel)) (rg_getf _ _)) <|
  re_a (re_c (ck_X10_65 (by decide +kernel))) <|
  re_a (re_p (ro_aload_n (by decide +kernel) rfl)) <|
  re_a (re_h (gf_X10_36 (by decide +kernel)) (rg_getf _ _)) <|
  re_a (re_c (ck_X10_68 (by decide +kernel))) <|
  re_a (re_p (ro_aload_n (by decide +kernel) rfl)) <|
  re_a (re_h (gf_X10_19 (by decide +kernel)) (rg_getf _ _)) <|
  re_a (re_c (ck_X10_69 (by decide +kernel))) <|
  re_a (re_p (ro_aload_n (by decide +kernel) rfl)) <|
  re_a (re_h (gf_X10_12 (by decide +kernel)) (rg_getf _ _)) <|
  re_a (re_p (ro_aload_n (by decide +kernel) rfl)) <|
  re_a (re_h (gf_X10_19 (by decide +kernel)) (rg_getf _ _)) <|
  re_a (re_c (ck_X10_71 (by decide +kernel))) <|
  re_a (re_r ⟨(by decide +kernel), rfl⟩) <|
  re_n
theorem mk_113 : ∀ q ∈ TL_113, re_ok Ex D dT 113 q :=
  re_a (re_p (ro_iload_n (by decide +kernel) rfl)) <|
  re_a (re_p (ro_bipush (by decide +kernel) (by decide +kernel))) <|
  re_a (re_c (ck_X10_75 (by decide +kernel))) <|
  re_a (re_c (ck_X10_51 (by decide +kernel))) <|
  re_a (re_p (ro_aload_n (by decide +kernel) rfl)) <|
  re_a (re_h (gf_X10_19 (by decide +kernel)) (rg_getf _ _)) <|
  re_a (re_p (ro_iload_n (by decide +kernel) rfl)) <|
  re_a (re_c (ck_X10_79 (by decide +kernel))) <|
  re_a (re_r ⟨(by decide +kernel), rfl⟩) <|
  re_n
theorem mk_114 : ∀ q ∈ TL_114, re_ok Ex D dT 114 q :=
  re_a (re_p (ro_aload_n (by decide +kernel) rfl)) <|
  re_a (re_h (gf_X10_19 (by decide +kernel)) (rg_getf _ _)) <|
  re_a (re_h (gf_X10_82 (by decide +kernel)) (rg_getf _ _)) <|
  re_a (re_p (ro_iload_n (by decide +kernel) rfl)) <|
  re_a (re_c (ck_X10_86 (by decide +kernel))) <|
  re_a (re_p (ro_if_eq (by decide +kernel) (by decide +kernel))) <|
  re_a (re_p (ro_iload_n (by decide +kernel) rfl)) <|
  re_a (re_p (ro_bipush (by decide +kernel) (by decide +kernel))) <|
  re_a (re_c (ck_X10_75 (by decide +kernel))) <|
  re_a (re_p (ro_goto (by decide +kernel) (by decide +kernel))) <|
  re_a (re_p (ro_iconst (by decide +kernel) (by decide +kernel))) <|
  re_a (re_c (ck_X10_51 (by decide +kernel))) <|
  re_a (re_p (ro_aload_n (by decide +kernel) rfl)) <|
  re_a (re_h (gf_X10_19 (by decide +kernel)) (rg_getf _ _)) <|
  re_a (re_p (ro_iload_n (by decide +kernel) rfl)) <|
  re_a (re_p (ro_iload_n (by decide +kernel) rfl)) <|
  re_a (re_c (ck_X10_92 (by decide +kernel))) <|
  re_a (re_r ⟨(by decide +kernel), rfl⟩) <|
  re_n
theorem mk_115 : ∀ q ∈ TL_115, re_ok Ex D dT 115 q :=
  re_a (re_p (ro_aload_n (by decide +kernel) rfl)) <|
  re_a (re_h (gf_X10_19 (by decide +kernel)) (rg_getf _ _)) <|
  re_a (re_h (gf_X10_82 (by decide +kernel)) (rg_getf _ _)) <|
  re_a (re_p (ro_iload_n (by decide +kernel) rfl)) <|
  re_a (re_p (ro_iload_n (by decide +kernel) rfl)) <|
  re_a (re_c (ck_X10_95 (by decide +kernel))) <|
  re_a (re_p (ro_if_eq (by decide +kernel) (by decide +kernel))) <|
  re_a (re_p (ro_iload_n (by decide +kernel) rfl)) <|
  re_a (re_p (ro_iconst (by decide +kernel) (by decide +kernel))) <|
  re_a (re_c (ck_X10_75 (by decide +kernel))) <|
  re_a (re_p (ro_goto (by decide +kernel) (by decide +kernel))) <|
  re_a (re_p (ro_iconst (by decide +kernel) (by decide +kernel))) <|
  re_a (re_c (ck_X10_51 (by decide +kernel))) <|
  re_a (re_p (ro_aload_n (by decide +kernel) rfl)) <|
  re_a (re_h (gf_X10_19 (by decide +kernel)) (rg_getf _ _)) <|
  re_a (re_p (ro_iload_n (by decide +kernel) rfl)) <|
  re_a (re_p (ro_iload_n (by decide +kernel) rfl)) <|
  re_a (re_p (ro_iload_n (by decide +kernel) rfl)) <|
  re_a (re_c (ck_X10_99 (by decide +kernel))) <|
  re_a (re_r ⟨(by decide +kernel), rfl⟩) <|
  re_n
theorem mk_116 : ∀ q ∈ TL_116, re_ok Ex D dT 116 q :=
  re_a (re_p (ro_aload_n (by decide +kernel) rfl)) <|
  re_a (re_h (gf_X10_19 (by decide +kernel)) (rg_getf _ _)) <|
  re_a (re_h (gf_X10_103 (by decide +kernel)) (rg_getf _ _)) <|
  re_a (re_p (ro_iload_n (by decide +kernel) rfl)) <|
  re_a (re_c (ck_X10_107 (by decide +kernel))) <|
  re_a (re_p (ro_if_eq (by decide +kernel) (by decide +kernel))) <|
  re_a (re_p (ro_iload_n (by decide +kernel) rfl)) <|
  re_a (re_p (ro_iconst (by decide +kernel) (by decide +kernel))) <|
  re_a (re_c (ck_X10_75 (by decide +kernel))) <|
  re_a (re_p (ro_goto (by decide +kernel) (by decide +kernel))) <|
  re_a (re_p (ro_iconst (by decide +kernel) (by decide +kernel))) <|
  re_a (re_c (ck_X10_51 (by decide +kernel))) <|
  re_a (re_p (ro_aload_n (by decide +kernel) rfl)) <|
  re_a (re_h (gf_X10_19 (by decide +kernel)) (rg_getf _ _)) <|
  re_a (re_p (ro_iload_n (by decide +kernel) rfl)) <|
  re_a (re_p (ro_iload_n (by decide +kernel) rfl)) <|
  re_a (re_c (ck_X10_110 (by decide +kernel))) <|
  re_a (re_r ⟨(by decide +kernel), rfl⟩) <|
  re_n
theorem mk_117 : ∀ q ∈ TL_117, re_ok Ex D dT 117 q :=
  re_a (re_p (ro_aload_n (by decide +kernel) rfl)) <|
  re_a (re_h (gf_X10_19 (by decide +kernel)) (rg_getf _ _)) <|
  re_a (re_h (gf_X10_113 (by decide +kernel)) (rg_getf _ _)) <|
  re_a (re_p (ro_iload_n (by decide +kernel) rfl)) <|
  re_a (re_c (ck_X10_117 (by decide +kernel))) <|
  re_a (re_p (ro_if_eq (by decide +kernel) (by decide +kernel))) <|
  re_a (re_p (ro_iload_n (by decide +kernel) rfl)) <|
  re_a (re_p (ro_iconst (by decide +kernel) (by decide +kernel))) <|
  re_a (re_c (ck_X10_75 (by decide +kernel))) <|
  re_a (re_p (ro_goto (by decide +kernel) (by decide +kernel))) <|
  re_a (re_p (ro_iconst (by decide +kernel) (by decide +kernel))) <|
  re_a (re_c (ck_X10_51 (by decide +kernel))) <|
  re_a (re_p (ro_aload_n (by decide +kernel) rfl)) <|
  re_a (re_h (gf_X10_19 (by decide +kernel)) (rg_getf _ _)) <|
  re_a (re_h (gf_X10_113 (by decide +kernel)) (rg_getf _ _)) <|
  re_a (re_p (ro_iload_n (by decide +kernel) rfl)) <|
  re_a (re_p (ro_iload_n (by decide +kernel) rfl)) <|
  re_a (re_c (ck_X10_120 (by decide +kernel))) <|
  re_a (re_r ⟨(by decide +kernel), rfl⟩) <|
  re_n
theorem mk_118 : ∀ q ∈ TL_118, re_ok Ex D dT 118 q :=
  re_a (re_p (ro_aload_n (by decide +kernel) rfl)) <|
  re_a (re_h (gf_X10_19 (by decide +kernel)) (rg_getf _ _)) <|
  re_a (re_p (ro_iload_n (by decide +kernel) rfl)) <|
  re_a (re_p (ro_iload_n (by decide +kernel) rfl)) <|
  re_a (re_p (ro_iload_n (by decide +kernel) rfl)) <|
  re_a (re_c (ck_X10_122 (by decide +kernel))) <|
  re_a (re_c (ck_X10_51 (by decide +kernel))) <|
  re_a (re_p (ro_aload_n (by decide +kernel) rfl)) <|
  re_a (re_h (gf_X10_29 (by decide +kernel)) (rg_getf _ _)) <|
  re_a (re_p (ro_aload_n (by decide +kernel) rfl)) <|
  re_a (re_h (gf_X10_19 (by decide +kernel)) (rg_getf _ _)) <|
  re_a (re_c (ck_X10_125 (by decide +kernel))) <|
  re_a (re_p (ro_aload_n (by decide +kernel) rfl)) <|
  re_a (re_h (gf_X10_19 (by decide +kernel)) (rg_getf _ _)) <|
  re_a (re_h (gf_X10_82 (by decide +kernel)) (rg_getf _ _)) <|
  re_a (re_p (ro_iload_n (by decide +kernel) rfl)) <|
  re_a (re_p (ro_iload_n (by decide +kernel) rfl)) <|
  re_a (re_p (ro_iload_n (by decide +kernel) rfl)) <|
  re_a (re_c (ck_X10_129 (by decide +kernel))) <|
  re_a (re_r ⟨(by decide +kernel), rfl⟩) <|
  re_n
theorem mk_119 : ∀ q ∈ TL_119, re_ok Ex D dT 119 q :=
  re_a (re_p (ro_aload_n (by decide +kernel) rfl)) <|
  re_a (re_h (gf_X10_19 (by decide +kernel)) (rg_getf _ _)) <|
  re_a (re_p (ro_iload_n (by decide +kernel) rfl)) <|
  re_a (re_p (ro_iload_n (by decide +kernel) rfl)) <|
  re_a (re_p (ro_iload_n (by decide +kernel) rfl)) <|
  re_a (re_p (ro_iload (by decide +kernel))) <|
  re_a (re_c (ck_X10_131 (by decide +kernel))) <|
  re_a (re_c (ck_X10_51 (by decide +kernel))) <|
  re_a (re_p (ro_aload_n (by decide +kernel) rfl)) <|
  re_a (re_h (gf_X10_29 (by decide +kernel)) (rg_getf _ _)) <|
  re_a (re_p (ro_aload_n (by decide +kernel) rfl)) <|
  re_a (re_h (gf_X10_19 (by decide +kernel)) (rg_getf _ _)) <|
  re_a (re_c (ck_X10_125 (by decide +kernel))) <|
  re_a (re_p (ro_aload_n (by decide +kernel) rfl)) <|
  re_a (re_h (gf_X10_19 (by decide +kernel)) (rg_getf _ _)) <|
  re_a (re_h (gf_X10_113 (by decide +kernel)) (rg_getf _ _)) <|
  re_a (re_p (ro_iload_n (by decide +kernel) rfl)) <|
  re_a (re_p (ro_iload_n (by decide +kernel) rfl)) <|
  re_a (re_c (ck_X10_135 (by decide +kernel))) <|
  re_a (re_p (ro_iload_n (by decide +kernel) rfl)) <|
  re_a (re_p (ro_iload (by decide +kernel))) <|
  re_a (re_c (ck_X10_135 (by decide +kernel))) <|
  re_a (re_c (ck_X10_138 (by decide +kernel))) <|
  re_a (re_r ⟨(by decide +kernel), rfl⟩) <|
  re_n
theorem mk_120 : ∀ q ∈ TL_120, re_ok Ex D dT 120 q :=
  re_a (re_p (ro_aload_n (by decide +kernel) rfl)) <|
  re_a (re_h (gf_X10_19 (by decide +kernel)) (rg_getf _ _)) <|
  re_a (re_p (ro_iload_n (by decide +kernel) rfl)) <|
  re_a (re_p (ro_iload_n (by decide +kernel) rfl)) <|
  re_a (re_p (ro_iload_n (by decide +kernel) rfl)) <|
  re_a (re_c (ck_X10_140 (by decide +kernel))) <|
  re_a (re_c (ck_X10_51 (by decide +kernel))) <|
  re_a (re_p (ro_aload_n (by decide +kernel) rfl)) <|
  re_a (re_h (gf_X10_29 (by decide +kernel)) (rg_getf _ _)) <|
  re_a (re_p (ro_aload_n (by decide +kernel) rfl)) <|
  re_a (re_h (gf_X10_19 (by decide +kernel)) (rg_getf _ _)) <|
  re_a (re_c (ck_X10_125 (by decide +kernel))) <|
  re_a (re_p (ro_aload_n (by decide +kernel) rfl)) <|
  re_a (re_h (gf_X10_19 (by decide +kernel)) (rg_getf _ _)) <|
  re_a (re_h (gf_X10_103 (by decide +kernel)) (rg_getf _ _)) <|
  re_a (re_p (ro_iload_n (by decide +kernel) rfl)) <|
  re_a (re_p (ro_aload_n (by decide +kernel) rfl)) <|
  re_a (re_h (gf_X10_19 (by decide +kernel)) (rg_getf _ _)) <|
  re_a (re_h (gf_X10_82 (by decide +kernel)) (rg_getf _ _)) <|
  re_a (re_p (ro_iload_n (by decide +kernel) rfl)) <|
  re_a (re_p (ro_iload_n (by decide +kernel) rfl)) <|
  re_a (re_c (ck_X10_143 (by decide +kernel))) <|
  re_a (re_p (ro_iload_n (by decide +kernel) rfl)) <|
  re_a (re_c (ck_X10_146 (by decide +kernel))) <|
  re_a (re_r ⟨(by decide +kernel), rfl⟩) <|
  re_n
theorem mk_121 : ∀ q ∈ TL_121, re_ok Ex D dT 121 q :=
  re_a (re_p (ro_aload_n (by decide +kernel) rfl)) <|
  re_a (re_h (gf_X10_19 (by decide +kernel)) (rg_getf _ _)) <|
  re_a (re_p (ro_iload_n (by decide +kernel) rfl)) <|
  re_a (re_p (ro_iload_n (by decide +kernel) rfl)) <|
  re_a (re_p (ro_iload_n (by decide +kernel) rfl)) <|
  re_a (re_c (ck_X10_147 (by decide +kernel))) <|
  re_a (re_c (ck_X10_51 (by decide +kernel))) <|
  re_a (re_p (ro_aload_n (by decide +kernel) rfl)) <|
  re_a (re_h (gf_X10_29 (by decide +kernel)) (rg_getf _ _)) <|
  re_a (re_p (ro_aload_n (by decide +kernel) rfl)) <|
  re_a (re_h (gf_X10_19 (by decide +kernel)) (rg_getf _ _)) <|
  re_a (re_c (ck_X10_125 (by decide +kernel))) <|
  re_a (re_p (ro_aload_n (by decide +kernel) rfl)) <|
  re_a (re_h (gf_X10_19 (by decide +kernel)) (rg_getf _ _)) <|
  re_a (re_p (ro_iload_n (by decide +kernel) rfl)) <|
  re_a (re_p (ro_aload_n (by decide +kernel) rfl)) <|
  re_a (re_h (gf_X10_19 (by decide +kernel)) (rg_getf _ _)) <|
  re_a (re_h (gf_X10_82 (by decide +kernel)) (rg_getf _ _)) <|
  re_a (re_p (ro_iload_n (by decide +kernel) rfl)) <|
  re_a (re_p (ro_iload_n (by decide +kernel) rfl)) <|
  re_a (re_c (ck_X10_143 (by decide +kernel))) <|
  re_a (re_p (ro_iload_n (by decide +kernel) rfl)) <|
  re_a (re_c (ck_X10_150 (by decide +kernel))) <|
  re_a (re_r ⟨(by decide +kernel), rfl⟩) <|
  re_n
theorem mk_122 : ∀ q ∈ TL_122, re_ok Ex D dT 122 q :=
  re_a (re_p (ro_aload_n (by decide +kernel) rfl)) <|
  re_a (re_h (gf_X10_19 (by decide +kernel)) (rg_getf _ _)) <|
  re_a (re_p (ro_iload_n (by decide +kernel) rfl)) <|
  re_a (re_p (ro_iload_n (by decide +kernel) rfl)) <|
  re_a (re_c (ck_X10_153 (by decide +kernel))) <|
  re_a (re_c (ck_X10_51 (by decide +kernel))) <|
  re_a (re_p (ro_aload_n (by decide +kernel) rfl)) <|
  re_a (re_h (gf_X10_29 (by decide +kernel)) (rg_getf _ _)) <|
  re_a (re_p (ro_aload_n (by decide +kernel) rfl)) <|
  re_a (re_h (gf_X10_19 (by decide +kernel)) (rg_getf _ _)) <|
  re_a (re_c (ck_X10_125 (by decide +kernel))) <|
  re_a (re_p (ro_aload_n (by decide +kernel) rfl)) <|
  re_a (re_h (gf_X10_19 (by decide +kernel)) (rg_getf _ _)) <|
  re_a (re_p (ro_iload_n (by decide +kernel) rfl)) <|
  re_a (re_p (ro_iload_n (by decide +kernel) rfl)) <|
  re_a (re_c (ck_X10_156 (by decide +kernel))) <|
  re_a (re_r ⟨(by decide +kernel), rfl⟩) <|
  re_n
theorem mk_123 : ∀ q ∈ TL_123, re_ok Ex D dT 123 q :=
  re_a (re_p (ro_aload_n (by decide +kernel) rfl)) <|
  re_a (re_h (gf_X10_19 (by decide +kernel)) (rg_getf _ _)) <|
  re_a (re_p (ro_iload_n (by decide +kernel) rfl)) <|
  re_a (re_p (ro_iload_n (by decide +kernel) rfl)) <|
  re_a (re_c (ck_X10_159 (by decide +kernel))) <|
  re_a (re_c (ck_X10_51 (by decide +kernel))) <|
  re_a (re_p (ro_aload_n (by decide +kernel) rfl)) <|
  re_a (re_h (gf_X10_29 (by decide +kernel)) (rg_getf _ _)) <|
  re_a (re_p (ro_aload_n (by decide +kernel) rfl)) <|
  re_a (re_h (gf_X10_19 (by decide +kernel)) (rg_getf _ _)) <|
  re_a (re_c (ck_X10_125 (by decide +kernel))) <|
  re_a (re_p (ro_aload_n (by decide +kernel) rfl)) <|
  re_a (re_h (gf_X10_19 (by decide +kernel)) (rg_getf _ _)) <|
  re_a (re_p (ro_iload_n (by decide +kernel) rfl)) <|
  re_a (re_p (ro_iload_n (by decide +kernel) rfl)) <|
  re_a (re_c (ck_X10_162 (by decide +kernel))) <|
  re_a (re_r ⟨(by decide +kernel), rfl⟩) <|
  re_n
end RIMK
