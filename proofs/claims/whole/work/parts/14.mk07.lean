section RIMK
variable {Ex : (Nat → Prop) → State → Heap → Prop} {D : va_G} {dT : Nat → ClassId}
theorem mk_218 : ∀ q ∈ TL_218, re_ok Ex D dT 218 q :=
  re_a (re_p (ro_iconst (by decide +kernel) (by decide +kernel))) <|
  re_a (re_p (ro_istore (by decide +kernel) (by decide +kernel))) <|
  re_a (re_p (ro_iload (by decide +kernel))) <|
  re_a (re_p (ro_iload_n (by decide +kernel) rfl)) <|
  re_a (re_p (ro_icmp_ge (by decide +kernel) (by decide +kernel))) <|
  re_a (re_p (ro_aload_n (by decide +kernel) rfl)) <|
  re_a (re_p (ro_iload_n (by decide +kernel) rfl)) <|
  re_a (re_p (ro_aload_n (by decide +kernel) rfl)) <|
  re_a (re_h (gf_X11_32 (by decide +kernel)) (rg_getf _ _)) <|
  re_a (re_p (ro_iload (by decide +kernel))) <|
  re_a (re_h (rh_iald (by decide +kernel)) rg_iald) <|
  re_a (re_c (ck_X11_244 (by decide +kernel))) <|
  re_a (re_p (ro_aload_n (by decide +kernel) rfl)) <|
  re_a (re_h (gf_X11_16 (by decide +kernel)) (rg_getf _ _)) <|
  re_a (re_p (ro_iload_n (by decide +kernel) rfl)) <|
  re_a (re_p (ro_iconst (by decide +kernel) (by decide +kernel))) <|
  re_a (re_c (ck_X11_59 (by decide +kernel))) <|
  re_a (re_p (ro_iload_n (by decide +kernel) rfl)) <|
  re_a (re_p (ro_icmp_ne (by decide +kernel) (by decide +kernel))) <|
  re_a (re_p (ro_aload_n (by decide +kernel) rfl)) <|
  re_a (re_h (gf_X11_16 (by decide +kernel)) (rg_getf _ _)) <|
  re_a (re_p (ro_iload_n (by decide +kernel) rfl)) <|
  re_a (re_c (ck_X11_62 (by decide +kernel))) <|
  re_a (re_p (ro_iload (by decide +kernel))) <|
  re_a (re_p (ro_icmp_ne (by decide +kernel) (by decide +kernel))) <|
  re_a (re_p (ro_aload_n (by decide +kernel) rfl)) <|
  re_a (re_h (gf_X11_29 (by decide +kernel)) (rg_getf _ _)) <|
  re_a (re_p (ro_aload_n (by decide +kernel) rfl)) <|
  re_a (re_h (gf_X11_32 (by decide +kernel)) (rg_getf _ _)) <|
  re_a (re_p (ro_iload (by decide +kernel))) <|
  re_a (re_h (rh_iald (by decide +kernel)) rg_iald) <|
  re_a (re_h (rh_iald (by decide +kernel)) rg_iald) <|
  re_a (re_r ⟨(by decide +kernel), rfl⟩) <|
  re_a (re_p (ro_iinc (by decide +kernel) (by decide +kernel) (by decide +kernel))) <|
  re_a (re_p (ro_goto (by decide +kernel) (by decide +kernel))) <|
  re_a (re_p (ro_iconst (by decide +kernel) (by decide +kernel))) <|
  re_a (re_r ⟨(by decide +kernel), rfl⟩) <|
  re_n
theorem mk_219 : ∀ q ∈ TL_219, re_ok Ex D dT 219 q :=
  re_a (re_p (ro_aload_n (by decide +kernel) rfl)) <|
  re_a (re_p (ro_aload_n (by decide +kernel) rfl)) <|
  re_a (re_h (gf_X11_13 (by decide +kernel)) (rg_getf _ _)) <|
  re_a (re_p (ro_iload_n (by decide +kernel) rfl)) <|
  re_a (re_c (ck_X11_178 (by decide +kernel))) <|
  re_a (re_p (ro_if_eq (by decide +kernel) (by decide +kernel))) <|
  re_a (re_p (ro_aload_n (by decide +kernel) rfl)) <|
  re_a (re_h (gf_X11_13 (by decide +kernel)) (rg_getf _ _)) <|
  re_a (re_p (ro_iload_n (by decide +kernel) rfl)) <|
  re_a (re_p (ro_iload_n (by decide +kernel) rfl)) <|
  re_a (re_c (ck_X11_122 (by decide +kernel))) <|
  re_a (re_p (ro_if_ne (by decide +kernel) (by decide +kernel))) <|
  re_a (re_p (ro_iconst (by decide +kernel) (by decide +kernel))) <|
  re_a (re_p (ro_goto (by decide +kernel) (by decide +kernel))) <|
  re_a (re_p (ro_iload (by decide +kernel))) <|
  re_a (re_p (ro_i2l (by decide +kernel))) <|
  re_a (re_p (ro_lconst (by decide +kernel) (by decide +kernel))) <|
  re_a (re_p (ro_lconst (by decide +kernel) (by decide +kernel))) <|
  re_a (re_c (ck_X11_43 (by decide +kernel))) <|
  re_a (re_p (ro_if_eq (by decide +kernel) (by decide +kernel))) <|
  re_a (re_p (ro_iconst (by decide +kernel) (by decide +kernel))) <|
  re_a (re_p (ro_goto (by decide +kernel) (by decide +kernel))) <|
  re_a (re_p (ro_iconst (by decide +kernel) (by decide +kernel))) <|
  re_a (re_c (ck_X11_131 (by decide +kernel))) <|
  re_a (re_p (ro_if_eq (by decide +kernel) (by decide +kernel))) <|
  re_a (re_p (ro_iconst (by decide +kernel) (by decide +kernel))) <|
  re_a (re_r ⟨(by decide +kernel), rfl⟩) <|
  re_a (re_p (ro_aload_n (by decide +kernel) rfl)) <|
  re_a (re_p (ro_iload_n (by decide +kernel) rfl)) <|
  re_a (re_p (ro_aload_n (by decide +kernel) rfl)) <|
  re_a (re_p (ro_iload_n (by decide +kernel) rfl)) <|
  re_a (re_c (ck_X11_252 (by decide +kernel))) <|
  re_a (re_p (ro_iload_n (by decide +kernel) rfl)) <|
  re_a (re_p (ro_iload_n (by decide +kernel) rfl)) <|
  re_a (re_c (ck_X11_255 (by decide +kernel))) <|
  re_a (re_r ⟨(by decide +kernel), rfl⟩) <|
  re_n
theorem mk_220_0 : ∀ q ∈ ([(0, .inl (ri_pu (ri_aload 0 1))), (1, .inl (ri_pu (ri_aload 0 1))), (2, .inl (ri_getf 9 3)), (5, .inl (ri_pu (ri_iload 1 1))), (6, .inr (.inl (154, 2, none))), (9, .inl (ri_pu (ri_if (fun x => decide (x = 0)) 27))), (12, .inl (ri_pu (ri_aload 0 1))), (13, .inl (ri_getf 9 3)), (16, .inl (ri_pu (ri_iload 2 1))), (17, .inr (.inl (152, 2, none))), (20, .inl (ri_pu (ri_if (fun x => decide (x = 0)) 27))), (23, .inl (ri_pu (ri_icon 0 1))), (24, .inl (ri_pu (ri_goto 28))), (27, .inl (ri_pu (ri_icon 1 1))), (28, .inr (.inl (145, 2, some 9))), (31, .inl (ri_pu (ri_if (fun x => decide (x = 0)) 36))), (34, .inl (ri_pu (ri_icon 0 1))), (35, .inr (.inr 1)), (36, .inl (ri_pu (ri_aload 0 1))), (37, .inl (ri_pu (ri_iload 1 1))), (38, .inr (.inl (217, 2, some 9))), (41, .inl (ri_pu (ri_istore 3 1))), (42, .inl (ri_pu (ri_icon 0 1))), (43, .inl (ri_pu (ri_istore 4 2))), (45, .inl (ri_pu (ri_icon 0 1))), (46, .inl (ri_pu (ri_istore 5 2))), (48, .inl (ri_pu (ri_iload 5 2))), (50, .inl (ri_pu (ri_aload 0 1))), (51, .inl (ri_getf 9 3)), (54, .inl (ri_pu (ri_iload 2 1))), (55, .inl (ri_pu (ri_icon 0 1))), (56, .inr (.inl (149, 3, none))), (59, .inl (ri_pu (ri_icmp (fun x y => decide (y ≤ x)) 94))), (62, .inl (ri_pu (ri_iload 4 2))), (64, .inl (ri_pu (ri_aload 0 1))), (65, .inl (ri_pu (ri_iload 1 1))), (66, .inl (ri_pu (ri_iload 3 1))), (67, .inl (ri_pu (ri_iload 2 1))), (68, .inl (ri_pu (ri_iload 5 2))), (70, .inr (.inl (218, 5, some 9)))] : List (Nat × ri_C)), re_ok Ex D dT 220 q :=
  re_a (re_p (ro_aload_n (by decide +kernel) rfl)) <|
  re_a (re_p (ro_aload_n (by decide +kernel) rfl)) <|
  re_a (re_h (gf_X11_13 (by decide +kernel)) (rg_getf _ _)) <|
  re_a (re_p (ro_iload_n (by decide +kernel) rfl)) <|
  re_a (re_c (ck_X11_178 (by decide +kernel))) <|
  re_a (re_p (ro_if_eq (by decide +kernel) (by decide +kernel))) <|
  re_a (re_p (ro_aload_n (by decide +kernel) rfl)) <|
  re_a (re_h (gf_X11_13 (by decide +kernel)) (rg_getf _ _)) <|
  re_a (re_p (ro_iload_n (by decide +kernel) rfl)) <|
  re_a (re_c (ck_X11_47 (by decide +kernel))) <|
  re_a (re_p (ro_if_eq (by decide +kernel) (by decide +kernel))) <|
  re_a (re_p (ro_iconst (by decide +kernel) (by decide +kernel))) <|
  re_a (re_p (ro_goto (by decide +kernel) (by decide +kernel))) <|
  re_a (re_p (ro_iconst (by decide +kernel) (by decide +kernel))) <|
  re_a (re_c (ck_X11_131 (by decide +kernel))) <|
  re_a (re_p (ro_if_eq (by decide +kernel) (by decide +kernel))) <|
  re_a (re_p (ro_iconst (by decide +kernel) (by decide +kernel))) <|
  re_a (re_r ⟨(by decide +kernel), rfl⟩) <|
  re_a (re_p (ro_aload_n (by decide +kernel) rfl)) <|
  re_a (re_p (ro_iload_n (by decide +kernel) rfl)) <|
  re_a (re_c (ck_X11_252 (by decide +kernel))) <|
  re_a (re_p (ro_istore_n (by decide +kernel) rfl (by decide +kernel))) <|
  re_a (re_p (ro_iconst (by decide +kernel) (by decide +kernel))) <|
  re_a (re_p (ro_istore (by decide +kernel) (by decide +kernel))) <|
  re_a (re_p (ro_iconst (by decide +kernel) (by decide +kernel))) <|
  re_a (re_p (ro_istore (by decide +kernel) (by decide +kernel))) <|
  re_a (re_p (ro_iload (by decide +kernel))) <|
  re_a (re_p (ro_aload_n (by decide +kernel) rfl)) <|
  re_a (re_h (gf_X11_13 (by decide +kernel)) (rg_getf _ _)) <|
  re_a (re_p (ro_iload_n (by decide +kernel) rfl)) <|
  re_a (re_p (ro_iconst (by decide +kernel) (by decide +kernel))) <|
  re_a (re_c (ck_X11_51 (by decide +kernel))) <|
  re_a (re_p (ro_icmp_ge (by decide +kernel) (by decide +kernel))) <|
  re_a (re_p (ro_iload (by decide +kernel))) <|
  re_a (re_p (ro_aload_n (by decide +kernel) rfl)) <|
  re_a (re_p (ro_iload_n (by decide +kernel) rfl)) <|
  re_a (re_p (ro_iload_n (by decide +kernel) rfl)) <|
  re_a (re_p (ro_iload_n (by decide +kernel) rfl)) <|
  re_a (re_p (ro_iload (by decide +kernel))) <|
  re_a (re_c (ck_X11_255 (by decide +kernel))) <|
  re_n
theorem mk_220_1 : ∀ q ∈ ([(73, .inl (ri_pu (ri_icon (-1) 1))), (74, .inl (ri_pu (ri_icmp (fun x y => decide (¬ x = y)) 81))), (77, .inl (ri_pu (ri_icon 0 1))), (78, .inl (ri_pu (ri_goto 85))), (81, .inl (ri_pu (ri_icon 1 1))), (82, .inl (ri_pu (ri_iload 5 2))), (84, .inl (ri_pu (ri_ib fun x y => x <<< (y &&& 31)))), (85, .inl (ri_pu (ri_ib fun x y => x ||| y))), (86, .inl (ri_pu (ri_istore 4 2))), (88, .inl (ri_pu (ri_iinc 5 1))), (91, .inl (ri_pu (ri_goto 48))), (94, .inl (ri_pu (ri_iload 4 2))), (96, .inr (.inr 1))] : List (Nat × ri_C)), re_ok Ex D dT 220 q :=
  re_a (re_p (ro_iconst (by decide +kernel) (by decide +kernel))) <|
  re_a (re_p (ro_icmp_ne (by decide +kernel) (by decide +kernel))) <|
  re_a (re_p (ro_iconst (by decide +kernel) (by decide +kernel))) <|
  re_a (re_p (ro_goto (by decide +kernel) (by decide +kernel))) <|
  re_a (re_p (ro_iconst (by decide +kernel) (by decide +kernel))) <|
  re_a (re_p (ro_iload (by decide +kernel))) <|
  re_a (re_p (ro_ishl (by decide +kernel))) <|
  re_a (re_p (ro_ior (by decide +kernel))) <|
  re_a (re_p (ro_istore (by decide +kernel) (by decide +kernel))) <|
  re_a (re_p (ro_iinc (by decide +kernel) (by decide +kernel) (by decide +kernel))) <|
  re_a (re_p (ro_goto (by decide +kernel) (by decide +kernel))) <|
  re_a (re_p (ro_iload (by decide +kernel))) <|
  re_a (re_r ⟨(by decide +kernel), rfl⟩) <|
  re_n
theorem mk_220 : ∀ q ∈ TL_220, re_ok Ex D dT 220 q := re_m mk_220_0 (mk_220_1)
theorem mk_221_0 : ∀ q ∈ ([(0, .inl (ri_pu (ri_aload 0 1))), (1, .inl (ri_pu (ri_aload 0 1))), (2, .inl (ri_getf 9 3)), (5, .inl (ri_pu (ri_iload 1 1))), (6, .inr (.inl (154, 2, none))), (9, .inl (ri_pu (ri_if (fun x => decide (¬ x = 0)) 16))), (12, .inl (ri_pu (ri_icon 1 1))), (13, .inl (ri_pu (ri_goto 33))), (16, .inl (ri_pu (ri_iload 2 1))), (17, .inl (ri_pu ri_i2l)), (18, .inl (ri_pu (ri_lcon 1 1))), (19, .inl (ri_pu (ri_lcon 4 3))), (22, .inr (.inl (146, 3, none))), (25, .inl (ri_pu (ri_if (fun x => decide (x = 0)) 32))), (28, .inl (ri_pu (ri_icon 0 1))), (29, .inl (ri_pu (ri_goto 33))), (32, .inl (ri_pu (ri_icon 2 1))), (33, .inr (.inl (145, 2, some 9))), (36, .inl (ri_pu (ri_if (fun x => decide (x = 0)) 41))), (39, .inl (ri_pu (ri_icon 0 1))), (40, .inr (.inr 1)), (41, .inl (ri_pu (ri_icon 1 1))), (42, .inl (ri_pu (ri_istore 3 1))), (43, .inl (ri_pu (ri_icon 0 1))), (44, .inl (ri_pu (ri_istore 4 2))), (46, .inl (ri_pu (ri_iload 4 2))), (48, .inl (ri_pu (ri_iload 2 1))), (49, .inl (ri_pu (ri_icmp (fun x y => decide (y ≤ x)) 63))), (52, .inl (ri_pu (ri_iload 3 1))), (53, .inl (ri_pu (ri_icon 10 2))), (55, .inl (ri_pu (ri_ib fun x y => x * y))), (56, .inl (ri_pu (ri_istore 3 1))), (57, .inl (ri_pu (ri_iinc 4 1))), (60, .inl (ri_pu (ri_goto 46))), (63, .inl (ri_pu (ri_icon 0 1))), (64, .inl (ri_pu (ri_istore 4 2))), (66, .inl (ri_pu (ri_icon 0 1))), (67, .inl (ri_pu (ri_istore 5 2))), (69, .inl (ri_pu (ri_iload 5 2))), (71, .inl (ri_pu (ri_iload 3 1)))] : List (Nat × ri_C)), re_ok Ex D dT 221 q :=
  re_a (re_p (ro_aload_n (by decide +kernel) rfl)) <|
  re_a (re_p (ro_aload_n (by decide +kernel) rfl)) <|
  re_a (re_h (gf_X11_13 (by decide +kernel)) (rg_getf _ _)) <|
  re_a (re_p (ro_iload_n (by decide +kernel) rfl)) <|
  re_a (re_c (ck_X11_178 (by decide +kernel))) <|
  re_a (re_p (ro_if_ne (by decide +kernel) (by decide +kernel))) <|
  re_a (re_p (ro_iconst (by decide +kernel) (by decide +kernel))) <|
  re_a (re_p (ro_goto (by decide +kernel) (by decide +kernel))) <|
  re_a (re_p (ro_iload_n (by decide +kernel) rfl)) <|
  re_a (re_p (ro_i2l (by decide +kernel))) <|
  re_a (re_p (ro_lconst (by decide +kernel) (by decide +kernel))) <|
  re_a (re_p (ro_ldc2 (by decide +kernel) q_1363)) <|
  re_a (re_c (ck_X11_43 (by decide +kernel))) <|
  re_a (re_p (ro_if_eq (by decide +kernel) (by decide +kernel))) <|
  re_a (re_p (ro_iconst (by decide +kernel) (by decide +kernel))) <|
  re_a (re_p (ro_goto (by decide +kernel) (by decide +kernel))) <|
  re_a (re_p (ro_iconst (by decide +kernel) (by decide +kernel))) <|
  re_a (re_c (ck_X11_131 (by decide +kernel))) <|
  re_a (re_p (ro_if_eq (by decide +kernel) (by decide +kernel))) <|
  re_a (re_p (ro_iconst (by decide +kernel) (by decide +kernel))) <|
  re_a (re_r ⟨(by decide +kernel), rfl⟩) <|
  re_a (re_p (ro_iconst (by decide +kernel) (by decide +kernel))) <|
  re_a (re_p (ro_istore_n (by decide +kernel) rfl (by decide +kernel))) <|
  re_a (re_p (ro_iconst (by decide +kernel) (by decide +kernel))) <|
  re_a (re_p (ro_istore (by decide +kernel) (by decide +kernel))) <|
  re_a (re_p (ro_iload (by decide +kernel))) <|
  re_a (re_p (ro_iload_n (by decide +kernel) rfl)) <|
  re_a (re_p (ro_icmp_ge (by decide +kernel) (by decide +kernel))) <|
  re_a (re_p (ro_iload_n (by decide +kernel) rfl)) <|
  re_a (re_p (ro_bipush (by decide +kernel) (by decide +kernel))) <|
  re_a (re_p (ro_imul (by decide +kernel))) <|
  re_a (re_p (ro_istore_n (by decide +kernel) rfl (by decide +kernel))) <|
  re_a (re_p (ro_iinc (by decide +kernel) (by decide +kernel) (by decide +kernel))) <|
  re_a (re_p (ro_goto (by decide +kernel) (by decide +kernel))) <|
  re_a (re_p (ro_iconst (by decide +kernel) (by decide +kernel))) <|
  re_a (re_p (ro_istore (by decide +kernel) (by decide +kernel))) <|
  re_a (re_p (ro_iconst (by decide +kernel) (by decide +kernel))) <|
  re_a (re_p (ro_istore (by decide +kernel) (by decide +kernel))) <|
  re_a (re_p (ro_iload (by decide +kernel))) <|
  re_a (re_p (ro_iload_n (by decide +kernel) rfl)) <|
  re_n
theorem mk_221_1 : ∀ q ∈ ([(72, .inl (ri_pu (ri_icmp (fun x y => decide (y ≤ x)) 171))), (75, .inl (ri_pu (ri_aload 0 1))), (76, .inl (ri_getf 9 3)), (79, .inl (ri_pu (ri_icon 0 1))), (80, .inl (ri_pu (ri_aload 0 1))), (81, .inl (ri_getf 9 4)), (84, .inl (ri_pu (ri_icon 0 1))), (85, .inr (.inl (147, 4, none))), (88, .inl (ri_pu (ri_aload 0 1))), (89, .inl (ri_getf 9 4)), (92, .inl (ri_pu (ri_icon 8 2))), (94, .inl (ri_pu (ri_icon 0 1))), (95, .inl ri_iast), (96, .inl (ri_pu (ri_iload 5 2))), (98, .inl (ri_pu (ri_istore 6 2))), (100, .inl (ri_pu (ri_iload 2 1))), (101, .inl (ri_pu (ri_istore 7 2))), (103, .inl (ri_pu (ri_iload 7 2))), (105, .inl (ri_pu (ri_if (fun x => decide (x ≤ 0)) 134))), (108, .inl (ri_pu (ri_aload 0 1))), (109, .inl (ri_pu (ri_iload 1 1))), (110, .inl (ri_pu (ri_iload 6 2))), (112, .inl (ri_pu (ri_icon 10 2))), (114, .inl (ri_pu (ri_idr fun x y => x - x / y * y))), (115, .inr (.inl (216, 3, some 9))), (118, .inl (ri_pu (ri_if (fun x => decide (x = 0)) 134))), (121, .inl (ri_pu (ri_iload 6 2))), (123, .inl (ri_pu (ri_icon 10 2))), (125, .inl (ri_pu (ri_idr fun x y => x / y))), (126, .inl (ri_pu (ri_istore 6 2))), (128, .inl (ri_pu (ri_iinc 7 (-1)))), (131, .inl (ri_pu (ri_goto 103))), (134, .inl (ri_pu (ri_aload 0 1))), (135, .inl (ri_getf 9 4)), (138, .inl (ri_pu (ri_icon 4 1))), (139, .inl ri_iald), (140, .inl (ri_pu (ri_aload 0 1))), (141, .inl (ri_getf 9 3)), (144, .inl (ri_pu (ri_icon 4 1))), (145, .inl ri_iald)] : List (Nat × ri_C)), re_ok Ex D dT 221 q :=
  re_a (re_p (ro_icmp_ge (by decide +kernel) (by decide +kernel))) <|
  re_a (re_p (ro_aload_n (by decide +kernel) rfl)) <|
  re_a (re_h (gf_X11_13 (by decide +kernel)) (rg_getf _ _)) <|
  re_a (re_p (ro_iconst (by decide +kernel) (by decide +kernel))) <|
  re_a (re_p (ro_aload_n (by decide +kernel) rfl)) <|
  re_a (re_h (gf_X11_16 (by decide +kernel)) (rg_getf _ _)) <|
  re_a (re_p (ro_iconst (by decide +kernel) (by decide +kernel))) <|
  re_a (re_c (ck_X11_214 (by decide +kernel))) <|
  re_a (re_p (ro_aload_n (by decide +kernel) rfl)) <|
  re_a (re_h (gf_X11_16 (by decide +kernel)) (rg_getf _ _)) <|
  re_a (re_p (ro_bipush (by decide +kernel) (by decide +kernel))) <|
  re_a (re_p (ro_iconst (by decide +kernel) (by decide +kernel))) <|
  re_a (re_h (rh_iast (by decide +kernel)) rg_iast) <|
  re_a (re_p (ro_iload (by decide +kernel))) <|
  re_a (re_p (ro_istore (by decide +kernel) (by decide +kernel))) <|
  re_a (re_p (ro_iload_n (by decide +kernel) rfl)) <|
  re_a (re_p (ro_istore (by decide +kernel) (by decide +kernel))) <|
  re_a (re_p (ro_iload (by decide +kernel))) <|
  re_a (re_p (ro_if_le (by decide +kernel) (by decide +kernel))) <|
  re_a (re_p (ro_aload_n (by decide +kernel) rfl)) <|
  re_a (re_p (ro_iload_n (by decide +kernel) rfl)) <|
  re_a (re_p (ro_iload (by decide +kernel))) <|
  re_a (re_p (ro_bipush (by decide +kernel) (by decide +kernel))) <|
  re_a (re_p (ro_irem (by decide +kernel))) <|
  re_a (re_c (ck_X11_248 (by decide +kernel))) <|
  re_a (re_p (ro_if_eq (by decide +kernel) (by decide +kernel))) <|
  re_a (re_p (ro_iload (by decide +kernel))) <|
  re_a (re_p (ro_bipush (by decide +kernel) (by decide +kernel))) <|
  re_a (re_p (ro_idiv (by decide +kernel))) <|
  re_a (re_p (ro_istore (by decide +kernel) (by decide +kernel))) <|
  re_a (re_p (ro_iinc (by decide +kernel) (by decide +kernel) (by decide +kernel))) <|
  re_a (re_p (ro_goto (by decide +kernel) (by decide +kernel))) <|
  re_a (re_p (ro_aload_n (by decide +kernel) rfl)) <|
  re_a (re_h (gf_X11_16 (by decide +kernel)) (rg_getf _ _)) <|
  re_a (re_p (ro_iconst (by decide +kernel) (by decide +kernel))) <|
  re_a (re_h (rh_iald (by decide +kernel)) rg_iald) <|
  re_a (re_p (ro_aload_n (by decide +kernel) rfl)) <|
  re_a (re_h (gf_X11_13 (by decide +kernel)) (rg_getf _ _)) <|
  re_a (re_p (ro_iconst (by decide +kernel) (by decide +kernel))) <|
  re_a (re_h (rh_iald (by decide +kernel)) rg_iald) <|
  re_n
theorem mk_221_2 : ∀ q ∈ ([(146, .inl (ri_pu (ri_ib fun x y => x - y))), (147, .inl (ri_pu (ri_istore 8 2))), (149, .inl (ri_pu (ri_iload 8 2))), (151, .inl (ri_pu (ri_iload 4 2))), (153, .inl (ri_pu (ri_icmp (fun x y => decide (x ≤ y)) 161))), (156, .inl (ri_pu (ri_iload 8 2))), (158, .inl (ri_pu (ri_goto 163))), (161, .inl (ri_pu (ri_iload 4 2))), (163, .inl (ri_pu (ri_istore 4 2))), (165, .inl (ri_pu (ri_iinc 5 1))), (168, .inl (ri_pu (ri_goto 69))), (171, .inl (ri_pu (ri_iload 4 2))), (173, .inr (.inr 1))] : List (Nat × ri_C)), re_ok Ex D dT 221 q :=
  re_a (re_p (ro_isub (by decide +kernel))) <|
  re_a (re_p (ro_istore (by decide +kernel) (by decide +kernel))) <|
  re_a (re_p (ro_iload (by decide +kernel))) <|
  re_a (re_p (ro_iload (by decide +kernel))) <|
  re_a (re_p (ro_icmp_le (by decide +kernel) (by decide +kernel))) <|
  re_a (re_p (ro_iload (by decide +kernel))) <|
  re_a (re_p (ro_goto (by decide +kernel) (by decide +kernel))) <|
  re_a (re_p (ro_iload (by decide +kernel))) <|
  re_a (re_p (ro_istore (by decide +kernel) (by decide +kernel))) <|
  re_a (re_p (ro_iinc (by decide +kernel) (by decide +kernel) (by decide +kernel))) <|
  re_a (re_p (ro_goto (by decide +kernel) (by decide +kernel))) <|
  re_a (re_p (ro_iload (by decide +kernel))) <|
  re_a (re_r ⟨(by decide +kernel), rfl⟩) <|
  re_n
theorem mk_221 : ∀ q ∈ TL_221, re_ok Ex D dT 221 q := re_m mk_221_0 (re_m mk_221_1 (mk_221_2))
theorem mk_222_0 : ∀ q ∈ ([(0, .inl (ri_pu (ri_iload 2 1))), (1, .inl (ri_pu (ri_icon 1000 3))), (4, .inl (ri_pu (ri_idr fun x y => x / y))), (5, .inl (ri_pu (ri_istore 3 1))), (6, .inl (ri_pu (ri_iload 2 1))), (7, .inl (ri_pu (ri_icon 100 2))), (9, .inl (ri_pu (ri_idr fun x y => x / y))), (10, .inl (ri_pu (ri_icon 10 2))), (12, .inl (ri_pu (ri_idr fun x y => x - x / y * y))), (13, .inl (ri_pu (ri_istore 4 2))), (15, .inl (ri_pu (ri_iload 2 1))), (16, .inl (ri_pu (ri_icon 10 2))), (18, .inl (ri_pu (ri_idr fun x y => x / y))), (19, .inl (ri_pu (ri_icon 10 2))), (21, .inl (ri_pu (ri_idr fun x y => x - x / y * y))), (22, .inl (ri_pu (ri_istore 5 2))), (24, .inl (ri_pu (ri_iload 2 1))), (25, .inl (ri_pu (ri_icon 10 2))), (27, .inl (ri_pu (ri_idr fun x y => x - x / y * y))), (28, .inl (ri_pu (ri_istore 6 2))), (30, .inl (ri_pu (ri_iload 2 1))), (31, .inl (ri_pu (ri_icon 10 2))), (33, .inl (ri_pu (ri_idr fun x y => x / y))), (34, .inl (ri_pu (ri_icon 100 2))), (36, .inl (ri_pu (ri_idr fun x y => x - x / y * y))), (37, .inl (ri_pu (ri_istore 7 2))), (39, .inl (ri_pu (ri_iload 2 1))), (40, .inl (ri_pu (ri_icon 1000 3))), (43, .inl (ri_pu (ri_idr fun x y => x - x / y * y))), (44, .inl (ri_pu (ri_istore 8 2))), (46, .inl (ri_pu (ri_iload 2 1))), (47, .inl (ri_pu (ri_icon 100 2))), (49, .inl (ri_pu (ri_idr fun x y => x - x / y * y))), (50, .inl (ri_pu (ri_istore 9 2))), (52, .inl (ri_pu (ri_iload 1 1))), (53, .inl (ri_pu (ri_switch 1 [104, 151, 201, 240, 303, 341, 363, 412, 456] 492))), (104, .inl (ri_pu (ri_iload 6 2))), (106, .inl (ri_pu (ri_if (fun x => decide (¬ x = 0)) 149))), (109, .inl (ri_pu (ri_aload 0 1))), (110, .inl (ri_getf 9 4))] : List (Nat × ri_C)), re_ok Ex D dT 222 q :=
  re_a (re_p (ro_iload_n (by decide +kernel) rfl)) <|
  re_a (re_p (ro_sipush (by decide +kernel) (by decide +kernel))) <|
  re_a (re_p (ro_idiv (by decide +kernel))) <|
  re_a (re_p (ro_istore_n (by decide +kernel) rfl (by decide +kernel))) <|
  re_a (re_p (ro_iload_n (by decide +kernel) rfl)) <|
  re_a (re_p (ro_bipush (by decide +kernel) (by decide +kernel))) <|
  re_a (re_p (ro_idiv (by decide +kernel))) <|
  re_a (re_p (ro_bipush (by decide +kernel) (by decide +kernel))) <|
  re_a (re_p (ro_irem (by decide +kernel))) <|
  re_a (re_p (ro_istore (by decide +kernel) (by decide +kernel))) <|
  re_a (re_p (ro_iload_n (by decide +kernel) rfl)) <|
  re_a (re_p (ro_bipush (by decide +kernel) (by decide +kernel))) <|
  re_a (re_p (ro_idiv (by decide +kernel))) <|
  re_a (re_p (ro_bipush (by decide +kernel) (by decide +kernel))) <|
  re_a (re_p (ro_irem (by decide +kernel))) <|
  re_a (re_p (ro_istore (by decide +kernel) (by decide +kernel))) <|
  re_a (re_p (ro_iload_n (by decide +kernel) rfl)) <|
  re_a (re_p (ro_bipush (by decide +kernel) (by decide +kernel))) <|
  re_a (re_p (ro_irem (by decide +kernel))) <|
  re_a (re_p (ro_istore (by decide +kernel) (by decide +kernel))) <|
  re_a (re_p (ro_iload_n (by decide +kernel) rfl)) <|
  re_a (re_p (ro_bipush (by decide +kernel) (by decide +kernel))) <|
  re_a (re_p (ro_idiv (by decide +kernel))) <|
  re_a (re_p (ro_bipush (by decide +kernel) (by decide +kernel))) <|
  re_a (re_p (ro_irem (by decide +kernel))) <|
  re_a (re_p (ro_istore (by decide +kernel) (by decide +kernel))) <|
  re_a (re_p (ro_iload_n (by decide +kernel) rfl)) <|
  re_a (re_p (ro_sipush (by decide +kernel) (by decide +kernel))) <|
  re_a (re_p (ro_irem (by decide +kernel))) <|
  re_a (re_p (ro_istore (by decide +kernel) (by decide +kernel))) <|
  re_a (re_p (ro_iload_n (by decide +kernel) rfl)) <|
  re_a (re_p (ro_bipush (by decide +kernel) (by decide +kernel))) <|
  re_a (re_p (ro_irem (by decide +kernel))) <|
  re_a (re_p (ro_istore (by decide +kernel) (by decide +kernel))) <|
  re_a (re_p (ro_iload_n (by decide +kernel) rfl)) <|
  re_a (re_p (ro_switch (by decide +kernel) (by decide +kernel) (by decide +kernel) (by decide +kernel) (by decide +kernel) (by decide +kernel))) <|
  re_a (re_p (ro_iload (by decide +kernel))) <|
  re_a (re_p (ro_if_ne (by decide +kernel) (by decide +kernel))) <|
  re_a (re_p (ro_aload_n (by decide +kernel) rfl)) <|
  re_a (re_h (gf_X11_16 (by decide +kernel)) (rg_getf _ _)) <|
  re_n
theorem mk_222_1 : ∀ q ∈ ([(113, .inl (ri_pu (ri_iload 3 1))), (114, .inr (.inl (154, 2, none))), (117, .inl (ri_pu (ri_if (fun x => decide (x = 0)) 149))), (120, .inl (ri_pu (ri_aload 0 1))), (121, .inl (ri_getf 9 4)), (124, .inl (ri_pu (ri_iload 7 2))), (126, .inr (.inl (155, 2, none))), (129, .inl (ri_pu (ri_if (fun x => decide (x = 0)) 149))), (132, .inl (ri_pu (ri_aload 0 1))), (133, .inl (ri_getf 9 4)), (136, .inl (ri_pu (ri_iload 3 1))), (137, .inl (ri_pu (ri_iload 7 2))), (139, .inr (.inl (172, 3, none))), (142, .inl (ri_pu (ri_if (fun x => decide (¬ x = 0)) 149))), (145, .inl (ri_pu (ri_icon 1 1))), (146, .inl (ri_pu (ri_goto 150))), (149, .inl (ri_pu (ri_icon 0 1))), (150, .inr (.inr 2)), (151, .inl (ri_pu (ri_iload 9 2))), (153, .inl (ri_pu (ri_if (fun x => decide (¬ x = 0)) 199))), (156, .inl (ri_pu (ri_iload 4 2))), (158, .inl (ri_pu (ri_icon 2 1))), (159, .inl (ri_pu (ri_icmp (fun x y => decide (y ≤ x)) 199))), (162, .inl (ri_pu (ri_aload 0 1))), (163, .inl (ri_getf 9 4)), (166, .inl (ri_pu (ri_iload 3 1))), (167, .inr (.inl (154, 2, none))), (170, .inl (ri_pu (ri_if (fun x => decide (x = 0)) 199))), (173, .inl (ri_pu (ri_aload 0 1))), (174, .inl (ri_getf 9 4)), (177, .inl (ri_pu (ri_iload 3 1))), (178, .inl (ri_pu (ri_iload 4 2))), (180, .inl (ri_pu (ri_icon 1 1))), (181, .inl (ri_pu (ri_icmp (fun x y => decide (¬ x = y)) 188))), (184, .inl (ri_pu (ri_icon 1 1))), (185, .inl (ri_pu (ri_goto 189))), (188, .inl (ri_pu (ri_icon (-1) 1))), (189, .inr (.inl (173, 3, none))), (192, .inl (ri_pu (ri_if (fun x => decide (¬ x = 0)) 199))), (195, .inl (ri_pu (ri_icon 1 1)))] : List (Nat × ri_C)), re_ok Ex D dT 222 q :=
  re_a (re_p (ro_iload_n (by decide +kernel) rfl)) <|
  re_a (re_c (ck_X11_178 (by decide +kernel))) <|
  re_a (re_p (ro_if_eq (by decide +kernel) (by decide +kernel))) <|
  re_a (re_p (ro_aload_n (by decide +kernel) rfl)) <|
  re_a (re_h (gf_X11_16 (by decide +kernel)) (rg_getf _ _)) <|
  re_a (re_p (ro_iload (by decide +kernel))) <|
  re_a (re_c (ck_X11_195 (by decide +kernel))) <|
  re_a (re_p (ro_if_eq (by decide +kernel) (by decide +kernel))) <|
  re_a (re_p (ro_aload_n (by decide +kernel) rfl)) <|
  re_a (re_h (gf_X11_16 (by decide +kernel)) (rg_getf _ _)) <|
  re_a (re_p (ro_iload_n (by decide +kernel) rfl)) <|
  re_a (re_p (ro_iload (by decide +kernel))) <|
  re_a (re_c (ck_X11_198 (by decide +kernel))) <|
  re_a (re_p (ro_if_ne (by decide +kernel) (by decide +kernel))) <|
  re_a (re_p (ro_iconst (by decide +kernel) (by decide +kernel))) <|
  re_a (re_p (ro_goto (by decide +kernel) (by decide +kernel))) <|
  re_a (re_p (ro_iconst (by decide +kernel) (by decide +kernel))) <|
  re_a (re_r ⟨(by decide +kernel), rfl⟩) <|
  re_a (re_p (ro_iload (by decide +kernel))) <|
  re_a (re_p (ro_if_ne (by decide +kernel) (by decide +kernel))) <|
  re_a (re_p (ro_iload (by decide +kernel))) <|
  re_a (re_p (ro_iconst (by decide +kernel) (by decide +kernel))) <|
  re_a (re_p (ro_icmp_ge (by decide +kernel) (by decide +kernel))) <|
  re_a (re_p (ro_aload_n (by decide +kernel) rfl)) <|
  re_a (re_h (gf_X11_16 (by decide +kernel)) (rg_getf _ _)) <|
  re_a (re_p (ro_iload_n (by decide +kernel) rfl)) <|
  re_a (re_c (ck_X11_178 (by decide +kernel))) <|
  re_a (re_p (ro_if_eq (by decide +kernel) (by decide +kernel))) <|
  re_a (re_p (ro_aload_n (by decide +kernel) rfl)) <|
  re_a (re_h (gf_X11_16 (by decide +kernel)) (rg_getf _ _)) <|
  re_a (re_p (ro_iload_n (by decide +kernel) rfl)) <|
  re_a (re_p (ro_iload (by decide +kernel))) <|
  re_a (re_p (ro_iconst (by decide +kernel) (by decide +kernel))) <|
  re_a (re_p (ro_icmp_ne (by decide +kernel) (by decide +kernel))) <|
  re_a (re_p (ro_iconst (by decide +kernel) (by decide +kernel))) <|
  re_a (re_p (ro_goto (by decide +kernel) (by decide +kernel))) <|
  re_a (re_p (ro_iconst (by decide +kernel) (by decide +kernel))) <|
  re_a (re_c (ck_X11_181 (by decide +kernel))) <|
  re_a (re_p (ro_if_ne (by decide +kernel) (by decide +kernel))) <|
  re_a (re_p (ro_iconst (by decide +kernel) (by decide +kernel))) <|
  re_n
theorem mk_222_2 : ∀ q ∈ ([(196, .inl (ri_pu (ri_goto 200))), (199, .inl (ri_pu (ri_icon 0 1))), (200, .inr (.inr 2)), (201, .inl (ri_pu (ri_iload 8 2))), (203, .inl (ri_pu (ri_icon 9 2))), (205, .inl (ri_pu (ri_icmp (fun x y => decide (y ≤ x)) 238))), (208, .inl (ri_pu (ri_aload 0 1))), (209, .inl (ri_getf 9 4)), (212, .inl (ri_pu (ri_iload 3 1))), (213, .inr (.inl (152, 2, none))), (216, .inl (ri_pu (ri_if (fun x => decide (x = 0)) 238))), (219, .inl (ri_pu (ri_aload 0 1))), (220, .inl (ri_getf 9 4)), (223, .inl (ri_pu (ri_iload 3 1))), (224, .inl (ri_pu (ri_iload 6 2))), (226, .inl (ri_pu (ri_icon 4 1))), (227, .inl (ri_pu (ri_ib fun x y => x - y))), (228, .inr (.inl (181, 3, none))), (231, .inl (ri_pu (ri_if (fun x => decide (x < 0)) 238))), (234, .inl (ri_pu (ri_icon 1 1))), (235, .inl (ri_pu (ri_goto 239))), (238, .inl (ri_pu (ri_icon 0 1))), (239, .inr (.inr 2)), (240, .inl (ri_pu (ri_iload 6 2))), (242, .inl (ri_pu (ri_if (fun x => decide (¬ x = 0)) 301))), (245, .inl (ri_pu (ri_aload 0 1))), (246, .inl (ri_getf 9 4)), (249, .inl (ri_pu (ri_iload 3 1))), (250, .inr (.inl (154, 2, none))), (253, .inl (ri_pu (ri_if (fun x => decide (x = 0)) 301))), (256, .inl (ri_pu (ri_aload 0 1))), (257, .inl (ri_getf 9 4)), (260, .inl (ri_pu (ri_iload 4 2))), (262, .inl (ri_pu (ri_iload 5 2))), (264, .inr (.inl (153, 3, none))), (267, .inl (ri_pu (ri_if (fun x => decide (x = 0)) 301))), (270, .inl (ri_pu (ri_aload 0 1))), (271, .inl (ri_getf 9 4)), (274, .inl (ri_pu (ri_iload 3 1))), (275, .inl (ri_pu (ri_icon 1 1)))] : List (Nat × ri_C)), re_ok Ex D dT 222 q :=
  re_a (re_p (ro_goto (by decide +kernel) (by decide +kernel))) <|
  re_a (re_p (ro_iconst (by decide +kernel) (by decide +kernel))) <|
  re_a (re_r ⟨(by decide +kernel), rfl⟩) <|
  re_a (re_p (ro_iload (by decide +kernel))) <|
  re_a (re_p (ro_bipush (by decide +kernel) (by decide +kernel))) <|
  re_a (re_p (ro_icmp_ge (by decide +kernel) (by decide +kernel))) <|
  re_a (re_p (ro_aload_n (by decide +kernel) rfl)) <|
  re_a (re_h (gf_X11_16 (by decide +kernel)) (rg_getf _ _)) <|
  re_a (re_p (ro_iload_n (by decide +kernel) rfl)) <|
  re_a (re_c (ck_X11_47 (by decide +kernel))) <|
  re_a (re_p (ro_if_eq (by decide +kernel) (by decide +kernel))) <|
  re_a (re_p (ro_aload_n (by decide +kernel) rfl)) <|
  re_a (re_h (gf_X11_16 (by decide +kernel)) (rg_getf _ _)) <|
  re_a (re_p (ro_iload_n (by decide +kernel) rfl)) <|
  re_a (re_p (ro_iload (by decide +kernel))) <|
  re_a (re_p (ro_iconst (by decide +kernel) (by decide +kernel))) <|
  re_a (re_p (ro_isub (by decide +kernel))) <|
  re_a (re_c (ck_X11_204 (by decide +kernel))) <|
  re_a (re_p (ro_if_lt (by decide +kernel) (by decide +kernel))) <|
  re_a (re_p (ro_iconst (by decide +kernel) (by decide +kernel))) <|
  re_a (re_p (ro_goto (by decide +kernel) (by decide +kernel))) <|
  re_a (re_p (ro_iconst (by decide +kernel) (by decide +kernel))) <|
  re_a (re_r ⟨(by decide +kernel), rfl⟩) <|
  re_a (re_p (ro_iload (by decide +kernel))) <|
  re_a (re_p (ro_if_ne (by decide +kernel) (by decide +kernel))) <|
  re_a (re_p (ro_aload_n (by decide +kernel) rfl)) <|
  re_a (re_h (gf_X11_16 (by decide +kernel)) (rg_getf _ _)) <|
  re_a (re_p (ro_iload_n (by decide +kernel) rfl)) <|
  re_a (re_c (ck_X11_178 (by decide +kernel))) <|
  re_a (re_p (ro_if_eq (by decide +kernel) (by decide +kernel))) <|
  re_a (re_p (ro_aload_n (by decide +kernel) rfl)) <|
  re_a (re_h (gf_X11_16 (by decide +kernel)) (rg_getf _ _)) <|
  re_a (re_p (ro_iload (by decide +kernel))) <|
  re_a (re_p (ro_iload (by decide +kernel))) <|
  re_a (re_c (ck_X11_122 (by decide +kernel))) <|
  re_a (re_p (ro_if_eq (by decide +kernel) (by decide +kernel))) <|
  re_a (re_p (ro_aload_n (by decide +kernel) rfl)) <|
  re_a (re_h (gf_X11_16 (by decide +kernel)) (rg_getf _ _)) <|
  re_a (re_p (ro_iload_n (by decide +kernel) rfl)) <|
  re_a (re_p (ro_iconst (by decide +kernel) (by decide +kernel))) <|
  re_n
theorem mk_222_3 : ∀ q ∈ ([(276, .inr (.inl (150, 3, none))), (279, .inl (ri_pu (ri_iload 4 2))), (281, .inl (ri_pu (ri_icmp (fun x y => decide (¬ x = y)) 301))), (284, .inl (ri_pu (ri_aload 0 1))), (285, .inl (ri_getf 9 4)), (288, .inl (ri_pu (ri_iload 3 1))), (289, .inr (.inl (158, 2, none))), (292, .inl (ri_pu (ri_iload 5 2))), (294, .inl (ri_pu (ri_icmp (fun x y => decide (¬ x = y)) 301))), (297, .inl (ri_pu (ri_icon 1 1))), (298, .inl (ri_pu (ri_goto 302))), (301, .inl (ri_pu (ri_icon 0 1))), (302, .inr (.inr 2)), (303, .inl (ri_pu (ri_iload 8 2))), (305, .inl (ri_pu (ri_icon 10 2))), (307, .inl (ri_pu (ri_icmp (fun x y => decide (y ≤ x)) 339))), (310, .inl (ri_pu (ri_aload 0 1))), (311, .inl (ri_getf 9 4)), (314, .inl (ri_pu (ri_iload 3 1))), (315, .inr (.inl (152, 2, none))), (318, .inl (ri_pu (ri_if (fun x => decide (x = 0)) 339))), (321, .inl (ri_pu (ri_aload 0 1))), (322, .inl (ri_getf 9 4)), (325, .inl (ri_pu (ri_iload 3 1))), (326, .inl (ri_pu (ri_icon 3 1))), (327, .inr (.inl (149, 3, none))), (330, .inl (ri_pu (ri_iload 6 2))), (332, .inl (ri_pu (ri_icmp (fun x y => decide (¬ x = y)) 339))), (335, .inl (ri_pu (ri_icon 1 1))), (336, .inl (ri_pu (ri_goto 340))), (339, .inl (ri_pu (ri_icon 0 1))), (340, .inr (.inr 2)), (341, .inl (ri_pu (ri_iload 2 1))), (342, .inl (ri_pu (ri_icon 100 2))), (344, .inl (ri_pu (ri_icmp (fun x y => decide (y ≤ x)) 361))), (347, .inl (ri_pu (ri_aload 0 1))), (348, .inl (ri_getf 9 4)), (351, .inl (ri_pu (ri_icon 4 1))), (352, .inl ri_iald), (353, .inl (ri_pu (ri_iload 2 1)))] : List (Nat × ri_C)), re_ok Ex D dT 222 q :=
  re_a (re_c (ck_X11_59 (by decide +kernel))) <|
  re_a (re_p (ro_iload (by decide +kernel))) <|
  re_a (re_p (ro_icmp_ne (by decide +kernel) (by decide +kernel))) <|
  re_a (re_p (ro_aload_n (by decide +kernel) rfl)) <|
  re_a (re_h (gf_X11_16 (by decide +kernel)) (rg_getf _ _)) <|
  re_a (re_p (ro_iload_n (by decide +kernel) rfl)) <|
  re_a (re_c (ck_X11_62 (by decide +kernel))) <|
  re_a (re_p (ro_iload (by decide +kernel))) <|
  re_a (re_p (ro_icmp_ne (by decide +kernel) (by decide +kernel))) <|
  re_a (re_p (ro_iconst (by decide +kernel) (by decide +kernel))) <|
  re_a (re_p (ro_goto (by decide +kernel) (by decide +kernel))) <|
  re_a (re_p (ro_iconst (by decide +kernel) (by decide +kernel))) <|
  re_a (re_r ⟨(by decide +kernel), rfl⟩) <|
  re_a (re_p (ro_iload (by decide +kernel))) <|
  re_a (re_p (ro_bipush (by decide +kernel) (by decide +kernel))) <|
  re_a (re_p (ro_icmp_ge (by decide +kernel) (by decide +kernel))) <|
  re_a (re_p (ro_aload_n (by decide +kernel) rfl)) <|
  re_a (re_h (gf_X11_16 (by decide +kernel)) (rg_getf _ _)) <|
  re_a (re_p (ro_iload_n (by decide +kernel) rfl)) <|
  re_a (re_c (ck_X11_47 (by decide +kernel))) <|
  re_a (re_p (ro_if_eq (by decide +kernel) (by decide +kernel))) <|
  re_a (re_p (ro_aload_n (by decide +kernel) rfl)) <|
  re_a (re_h (gf_X11_16 (by decide +kernel)) (rg_getf _ _)) <|
  re_a (re_p (ro_iload_n (by decide +kernel) rfl)) <|
  re_a (re_p (ro_iconst (by decide +kernel) (by decide +kernel))) <|
  re_a (re_c (ck_X11_51 (by decide +kernel))) <|
  re_a (re_p (ro_iload (by decide +kernel))) <|
  re_a (re_p (ro_icmp_ne (by decide +kernel) (by decide +kernel))) <|
  re_a (re_p (ro_iconst (by decide +kernel) (by decide +kernel))) <|
  re_a (re_p (ro_goto (by decide +kernel) (by decide +kernel))) <|
  re_a (re_p (ro_iconst (by decide +kernel) (by decide +kernel))) <|
  re_a (re_r ⟨(by decide +kernel), rfl⟩) <|
  re_a (re_p (ro_iload_n (by decide +kernel) rfl)) <|
  re_a (re_p (ro_bipush (by decide +kernel) (by decide +kernel))) <|
  re_a (re_p (ro_icmp_ge (by decide +kernel) (by decide +kernel))) <|
  re_a (re_p (ro_aload_n (by decide +kernel) rfl)) <|
  re_a (re_h (gf_X11_16 (by decide +kernel)) (rg_getf _ _)) <|
  re_a (re_p (ro_iconst (by decide +kernel) (by decide +kernel))) <|
  re_a (re_h (rh_iald (by decide +kernel)) rg_iald) <|
  re_a (re_p (ro_iload_n (by decide +kernel) rfl)) <|
  re_n
theorem mk_222_4 : ∀ q ∈ ([(354, .inl (ri_pu (ri_icmp (fun x y => decide (x < y)) 361))), (357, .inl (ri_pu (ri_icon 1 1))), (358, .inl (ri_pu (ri_goto 362))), (361, .inl (ri_pu (ri_icon 0 1))), (362, .inr (.inr 2)), (363, .inl (ri_pu (ri_iload 5 2))), (365, .inl (ri_pu (ri_if (fun x => decide (¬ x = 0)) 410))), (368, .inl (ri_pu (ri_aload 0 1))), (369, .inl (ri_getf 9 4)), (372, .inl (ri_pu (ri_iload 3 1))), (373, .inl (ri_pu (ri_iload 4 2))), (375, .inr (.inl (153, 3, none))), (378, .inl (ri_pu (ri_if (fun x => decide (x = 0)) 410))), (381, .inl (ri_pu (ri_aload 0 1))), (382, .inl (ri_getf 9 4)), (385, .inl (ri_pu (ri_iload 3 1))), (386, .inl (ri_pu (ri_icon 5 1))), (387, .inl (ri_pu (ri_aload 0 1))), (388, .inl (ri_getf 9 4)), (391, .inl (ri_pu (ri_iload 3 1))), (392, .inl (ri_pu (ri_iload 4 2))), (394, .inr (.inl (157, 3, none))), (397, .inl (ri_pu (ri_ib fun x y => x + y))), (398, .inr (.inl (149, 3, none))), (401, .inl (ri_pu (ri_iload 6 2))), (403, .inl (ri_pu (ri_icmp (fun x y => decide (x < y)) 410))), (406, .inl (ri_pu (ri_icon 1 1))), (407, .inl (ri_pu (ri_goto 411))), (410, .inl (ri_pu (ri_icon 0 1))), (411, .inr (.inr 2)), (412, .inl (ri_pu (ri_aload 0 1))), (413, .inl (ri_getf 9 4)), (416, .inl (ri_pu (ri_iload 3 1))), (417, .inr (.inl (154, 2, none))), (420, .inl (ri_pu (ri_if (fun x => decide (x = 0)) 454))), (423, .inl (ri_pu (ri_aload 0 1))), (424, .inl (ri_getf 9 4)), (427, .inl (ri_pu (ri_iload 7 2))), (429, .inr (.inl (155, 2, none))), (432, .inl (ri_pu (ri_if (fun x => decide (x = 0)) 454)))] : List (Nat × ri_C)), re_ok Ex D dT 222 q :=
  re_a (re_p (ro_icmp_lt (by decide +kernel) (by decide +kernel))) <|
  re_a (re_p (ro_iconst (by decide +kernel) (by decide +kernel))) <|
  re_a (re_p (ro_goto (by decide +kernel) (by decide +kernel))) <|
  re_a (re_p (ro_iconst (by decide +kernel) (by decide +kernel))) <|
  re_a (re_r ⟨(by decide +kernel), rfl⟩) <|
  re_a (re_p (ro_iload (by decide +kernel))) <|
  re_a (re_p (ro_if_ne (by decide +kernel) (by decide +kernel))) <|
  re_a (re_p (ro_aload_n (by decide +kernel) rfl)) <|
  re_a (re_h (gf_X11_16 (by decide +kernel)) (rg_getf _ _)) <|
  re_a (re_p (ro_iload_n (by decide +kernel) rfl)) <|
  re_a (re_p (ro_iload (by decide +kernel))) <|
  re_a (re_c (ck_X11_122 (by decide +kernel))) <|
  re_a (re_p (ro_if_eq (by decide +kernel) (by decide +kernel))) <|
  re_a (re_p (ro_aload_n (by decide +kernel) rfl)) <|
  re_a (re_h (gf_X11_16 (by decide +kernel)) (rg_getf _ _)) <|
  re_a (re_p (ro_iload_n (by decide +kernel) rfl)) <|
  re_a (re_p (ro_iconst (by decide +kernel) (by decide +kernel))) <|
  re_a (re_p (ro_aload_n (by decide +kernel) rfl)) <|
  re_a (re_h (gf_X11_16 (by decide +kernel)) (rg_getf _ _)) <|
  re_a (re_p (ro_iload_n (by decide +kernel) rfl)) <|
  re_a (re_p (ro_iload (by decide +kernel))) <|
  re_a (re_c (ck_X11_69 (by decide +kernel))) <|
  re_a (re_p (ro_iadd (by decide +kernel))) <|
  re_a (re_c (ck_X11_51 (by decide +kernel))) <|
  re_a (re_p (ro_iload (by decide +kernel))) <|
  re_a (re_p (ro_icmp_lt (by decide +kernel) (by decide +kernel))) <|
  re_a (re_p (ro_iconst (by decide +kernel) (by decide +kernel))) <|
  re_a (re_p (ro_goto (by decide +kernel) (by decide +kernel))) <|
  re_a (re_p (ro_iconst (by decide +kernel) (by decide +kernel))) <|
  re_a (re_r ⟨(by decide +kernel), rfl⟩) <|
  re_a (re_p (ro_aload_n (by decide +kernel) rfl)) <|
  re_a (re_h (gf_X11_16 (by decide +kernel)) (rg_getf _ _)) <|
  re_a (re_p (ro_iload_n (by decide +kernel) rfl)) <|
  re_a (re_c (ck_X11_178 (by decide +kernel))) <|
  re_a (re_p (ro_if_eq (by decide +kernel) (by decide +kernel))) <|
  re_a (re_p (ro_aload_n (by decide +kernel) rfl)) <|
  re_a (re_h (gf_X11_16 (by decide +kernel)) (rg_getf _ _)) <|
  re_a (re_p (ro_iload (by decide +kernel))) <|
  re_a (re_c (ck_X11_195 (by decide +kernel))) <|
  re_a (re_p (ro_if_eq (by decide +kernel) (by decide +kernel))) <|
  re_n
theorem mk_222_5 : ∀ q ∈ ([(435, .inl (ri_pu (ri_aload 0 1))), (436, .inl (ri_getf 9 4)), (439, .inl (ri_pu (ri_iload 3 1))), (440, .inl (ri_pu (ri_iload 7 2))), (442, .inr (.inl (164, 3, none))), (445, .inl (ri_pu (ri_iload 6 2))), (447, .inl (ri_pu (ri_icmp (fun x y => decide (¬ x = y)) 454))), (450, .inl (ri_pu (ri_icon 1 1))), (451, .inl (ri_pu (ri_goto 455))), (454, .inl (ri_pu (ri_icon 0 1))), (455, .inr (.inr 2)), (456, .inl (ri_pu (ri_iload 4 2))), (458, .inl (ri_pu (ri_if (fun x => decide (¬ x = 0)) 490))), (461, .inl (ri_pu (ri_aload 0 1))), (462, .inl (ri_getf 9 4)), (465, .inl (ri_pu (ri_iload 3 1))), (466, .inr (.inl (154, 2, none))), (469, .inl (ri_pu (ri_if (fun x => decide (x = 0)) 490))), (472, .inl (ri_pu (ri_aload 0 1))), (473, .inl (ri_getf 9 4)), (476, .inl (ri_pu (ri_iload 3 1))), (477, .inl (ri_pu (ri_icon 3 1))), (478, .inr (.inl (150, 3, none))), (481, .inl (ri_pu (ri_iload 9 2))), (483, .inl (ri_pu (ri_icmp (fun x y => decide (x < y)) 490))), (486, .inl (ri_pu (ri_icon 1 1))), (487, .inl (ri_pu (ri_goto 491))), (490, .inl (ri_pu (ri_icon 0 1))), (491, .inr (.inr 2)), (492, .inl (ri_pu (ri_icon 0 1))), (493, .inr (.inr 2))] : List (Nat × ri_C)), re_ok Ex D dT 222 q :=
  re_a (re_p (ro_aload_n (by decide +kernel) rfl)) <|
  re_a (re_h (gf_X11_16 (by decide +kernel)) (rg_getf _ _)) <|
  re_a (re_p (ro_iload_n (by decide +kernel) rfl)) <|
  re_a (re_p (ro_iload (by decide +kernel))) <|
  re_a (re_c (ck_X11_96 (by decide +kernel))) <|
  re_a (re_p (ro_iload (by decide +kernel))) <|
  re_a (re_p (ro_icmp_ne (by decide +kernel) (by decide +kernel))) <|
  re_a (re_p (ro_iconst (by decide +kernel) (by decide +kernel))) <|
  re_a (re_p (ro_goto (by decide +kernel) (by decide +kernel))) <|
  re_a (re_p (ro_iconst (by decide +kernel) (by decide +kernel))) <|
  re_a (re_r ⟨(by decide +kernel), rfl⟩) <|
  re_a (re_p (ro_iload (by decide +kernel))) <|
  re_a (re_p (ro_if_ne (by decide +kernel) (by decide +kernel))) <|
  re_a (re_p (ro_aload_n (by decide +kernel) rfl)) <|
  re_a (re_h (gf_X11_16 (by decide +kernel)) (rg_getf _ _)) <|
  re_a (re_p (ro_iload_n (by decide +kernel) rfl)) <|
  re_a (re_c (ck_X11_178 (by decide +kernel))) <|
  re_a (re_p (ro_if_eq (by decide +kernel) (by decide +kernel))) <|
  re_a (re_p (ro_aload_n (by decide +kernel) rfl)) <|
  re_a (re_h (gf_X11_16 (by decide +kernel)) (rg_getf _ _)) <|
  re_a (re_p (ro_iload_n (by decide +kernel) rfl)) <|
  re_a (re_p (ro_iconst (by decide +kernel) (by decide +kernel))) <|
  re_a (re_c (ck_X11_59 (by decide +kernel))) <|
  re_a (re_p (ro_iload (by decide +kernel))) <|
  re_a (re_p (ro_icmp_lt (by decide +kernel) (by decide +kernel))) <|
  re_a (re_p (ro_iconst (by decide +kernel) (by decide +kernel))) <|
  re_a (re_p (ro_goto (by decide +kernel) (by decide +kernel))) <|
  re_a (re_p (ro_iconst (by decide +kernel) (by decide +kernel))) <|
  re_a (re_r ⟨(by decide +kernel), rfl⟩) <|
  re_a (re_p (ro_iconst (by decide +kernel) (by decide +kernel))) <|
  re_a (re_r ⟨(by decide +kernel), rfl⟩) <|
  re_n
theorem mk_222 : ∀ q ∈ TL_222, re_ok Ex D dT 222 q := re_m mk_222_0 (re_m mk_222_1 (re_m mk_222_2 (re_m mk_222_3 (re_m mk_222_4 (mk_222_5)))))
theorem mk_223_0 : ∀ q ∈ ([(0, .inl (ri_pu (ri_lcon 1 1))), (1, .inl (ri_pu (ri_lstore 4 2))), (3, .inl (ri_pu (ri_icon 0 1))), (4, .inl (ri_pu (ri_istore 6 2))), (6, .inl (ri_pu (ri_iload 6 2))), (8, .inl (ri_pu (ri_iload 1 1))), (9, .inl (ri_pu (ri_icmp (fun x y => decide (y ≤ x)) 32))), (12, .inl (ri_pu (ri_iload 6 2))), (14, .inl (ri_pu (ri_icon 3 1))), (15, .inl (ri_pu (ri_icmp (fun x y => decide (y ≤ x)) 32))), (18, .inl (ri_pu (ri_lload 4 2))), (20, .inl (ri_pu (ri_lcon 100000 3))), (23, .inl (ri_pu (ri_lb fun x y => x * y))), (24, .inl (ri_pu (ri_lstore 4 2))), (26, .inl (ri_pu (ri_iinc 6 1))), (29, .inl (ri_pu (ri_goto 6))), (32, .inl (ri_pu (ri_aload 0 1))), (33, .inl (ri_pu (ri_iload 1 1))), (34, .inl (ri_pu ri_i2l)), (35, .inl (ri_pu (ri_lcon 1 1))), (36, .inl (ri_pu (ri_lcon 3 3))), (39, .inr (.inl (146, 3, none))), (42, .inl (ri_pu (ri_if (fun x => decide (x = 0)) 61))), (45, .inl (ri_pu (ri_lload 2 1))), (46, .inl (ri_pu (ri_lcon 0 1))), (47, .inl (ri_pu (ri_lload 4 2))), (49, .inl (ri_pu (ri_lcon 1 1))), (50, .inl (ri_pu (ri_lb fun x y => x - y))), (51, .inr (.inl (146, 3, none))), (54, .inl (ri_pu (ri_if (fun x => decide (x = 0)) 61))), (57, .inl (ri_pu (ri_icon 0 1))), (58, .inl (ri_pu (ri_goto 62))), (61, .inl (ri_pu (ri_icon 1 1))), (62, .inr (.inl (145, 2, some 9))), (65, .inl (ri_pu (ri_if (fun x => decide (x = 0)) 70))), (68, .inl (ri_pu (ri_icon 0 1))), (69, .inr (.inr 1)), (70, .inl (ri_pu (ri_aload 0 1))), (71, .inl (ri_getf 9 3)), (74, .inl (ri_pu (ri_icon 0 1)))] : List (Nat × ri_C)), re_ok Ex D dT 223 q :=
  re_a (re_p (ro_lconst (by decide +kernel) (by decide +kernel))) <|
  re_a (re_p (ro_lstore (by decide +kernel) (by decide +kernel))) <|
  re_a (re_p (ro_iconst (by decide +kernel) (by decide +kernel))) <|
  re_a (re_p (ro_istore (by decide +kernel) (by decide +kernel))) <|
  re_a (re_p (ro_iload (by decide +kernel))) <|
  re_a (re_p (ro_iload_n (by decide +kernel) rfl)) <|
  re_a (re_p (ro_icmp_ge (by decide +kernel) (by decide +kernel))) <|
  re_a (re_p (ro_iload (by decide +kernel))) <|
  re_a (re_p (ro_iconst (by decide +kernel) (by decide +kernel))) <|
  re_a (re_p (ro_icmp_ge (by decide +kernel) (by decide +kernel))) <|
  re_a (re_p (ro_lload (by decide +kernel))) <|
  re_a (re_p (ro_ldc2 (by decide +kernel) q_1441)) <|
  re_a (re_p (ro_lmul (by decide +kernel))) <|
  re_a (re_p (ro_lstore (by decide +kernel) (by decide +kernel))) <|
  re_a (re_p (ro_iinc (by decide +kernel) (by decide +kernel) (by decide +kernel))) <|
  re_a (re_p (ro_goto (by decide +kernel) (by decide +kernel))) <|
  re_a (re_p (ro_aload_n (by decide +kernel) rfl)) <|
  re_a (re_p (ro_iload_n (by decide +kernel) rfl)) <|
  re_a (re_p (ro_i2l (by decide +kernel))) <|
  re_a (re_p (ro_lconst (by decide +kernel) (by decide +kernel))) <|
  re_a (re_p (ro_ldc2 (by decide +kernel) q_1345)) <|
  re_a (re_c (ck_X11_43 (by decide +kernel))) <|
  re_a (re_p (ro_if_eq (by decide +kernel) (by decide +kernel))) <|
  re_a (re_p (ro_lload_n (by decide +kernel) rfl)) <|
  re_a (re_p (ro_lconst (by decide +kernel) (by decide +kernel))) <|
  re_a (re_p (ro_lload (by decide +kernel))) <|
  re_a (re_p (ro_lconst (by decide +kernel) (by decide +kernel))) <|
  re_a (re_p (ro_lsub (by decide +kernel))) <|
  re_a (re_c (ck_X11_43 (by decide +kernel))) <|
  re_a (re_p (ro_if_eq (by decide +kernel) (by decide +kernel))) <|
  re_a (re_p (ro_iconst (by decide +kernel) (by decide +kernel))) <|
  re_a (re_p (ro_goto (by decide +kernel) (by decide +kernel))) <|
  re_a (re_p (ro_iconst (by decide +kernel) (by decide +kernel))) <|
  re_a (re_c (ck_X11_131 (by decide +kernel))) <|
  re_a (re_p (ro_if_eq (by decide +kernel) (by decide +kernel))) <|
  re_a (re_p (ro_iconst (by decide +kernel) (by decide +kernel))) <|
  re_a (re_r ⟨(by decide +kernel), rfl⟩) <|
  re_a (re_p (ro_aload_n (by decide +kernel) rfl)) <|
  re_a (re_h (gf_X11_13 (by decide +kernel)) (rg_getf _ _)) <|
  re_a (re_p (ro_iconst (by decide +kernel) (by decide +kernel))) <|
  re_n
theorem mk_223_1 : ∀ q ∈ ([(75, .inl (ri_pu (ri_aload 0 1))), (76, .inl (ri_getf 9 4)), (79, .inl (ri_pu (ri_icon 0 1))), (80, .inr (.inl (147, 4, none))), (83, .inl (ri_pu (ri_icon 0 1))), (84, .inl (ri_pu (ri_istore 6 2))), (86, .inl (ri_pu (ri_iload 6 2))), (88, .inl (ri_pu (ri_iload 1 1))), (89, .inl (ri_pu (ri_icmp (fun x y => decide (y ≤ x)) 139))), (92, .inl (ri_pu (ri_lload 4 2))), (94, .inl (ri_pu (ri_lcon 100000 3))), (97, .inl (ri_pu (ri_ldr fun x y => x / y))), (98, .inl (ri_pu (ri_lstore 4 2))), (100, .inl (ri_pu (ri_lload 2 1))), (101, .inl (ri_pu (ri_lload 4 2))), (103, .inl (ri_pu (ri_ldr fun x y => x / y))), (104, .inl (ri_pu (ri_lcon 100000 3))), (107, .inl (ri_pu (ri_ldr fun x y => x - x / y * y))), (108, .inl (ri_pu ri_l2i)), (109, .inl (ri_pu (ri_istore 7 2))), (111, .inl (ri_pu (ri_aload 0 1))), (112, .inl (ri_pu (ri_iload 7 2))), (114, .inl (ri_pu (ri_icon 10000 3))), (117, .inl (ri_pu (ri_idr fun x y => x / y))), (118, .inl (ri_pu (ri_iload 7 2))), (120, .inl (ri_pu (ri_icon 10000 3))), (123, .inl (ri_pu (ri_idr fun x y => x - x / y * y))), (124, .inr (.inl (222, 3, some 9))), (127, .inl (ri_pu (ri_if (fun x => decide (¬ x = 0)) 133))), (130, .inl (ri_pu (ri_iload 6 2))), (132, .inr (.inr 1)), (133, .inl (ri_pu (ri_iinc 6 1))), (136, .inl (ri_pu (ri_goto 86))), (139, .inl (ri_pu (ri_icon (-1) 1))), (140, .inr (.inr 1))] : List (Nat × ri_C)), re_ok Ex D dT 223 q :=
  re_a (re_p (ro_aload_n (by decide +kernel) rfl)) <|
  re_a (re_h (gf_X11_16 (by decide +kernel)) (rg_getf _ _)) <|
  re_a (re_p (ro_iconst (by decide +kernel) (by decide +kernel))) <|
  re_a (re_c (ck_X11_214 (by decide +kernel))) <|
  re_a (re_p (ro_iconst (by decide +kernel) (by decide +kernel))) <|
  re_a (re_p (ro_istore (by decide +kernel) (by decide +kernel))) <|
  re_a (re_p (ro_iload (by decide +kernel))) <|
  re_a (re_p (ro_iload_n (by decide +kernel) rfl)) <|
  re_a (re_p (ro_icmp_ge (by decide +kernel) (by decide +kernel))) <|
  re_a (re_p (ro_lload (by decide +kernel))) <|
  re_a (re_p (ro_ldc2 (by decide +kernel) q_1441)) <|
  re_a (re_p (ro_ldiv (by decide +kernel))) <|
  re_a (re_p (ro_lstore (by decide +kernel) (by decide +kernel))) <|
  re_a (re_p (ro_lload_n (by decide +kernel) rfl)) <|
  re_a (re_p (ro_lload (by decide +kernel))) <|
  re_a (re_p (ro_ldiv (by decide +kernel))) <|
  re_a (re_p (ro_ldc2 (by decide +kernel) q_1441)) <|
  re_a (re_p (ro_lrem (by decide +kernel))) <|
  re_a (re_p (ro_l2i (by decide +kernel))) <|
  re_a (re_p (ro_istore (by decide +kernel) (by decide +kernel))) <|
  re_a (re_p (ro_aload_n (by decide +kernel) rfl)) <|
  re_a (re_p (ro_iload (by decide +kernel))) <|
  re_a (re_p (ro_sipush (by decide +kernel) (by decide +kernel))) <|
  re_a (re_p (ro_idiv (by decide +kernel))) <|
  re_a (re_p (ro_iload (by decide +kernel))) <|
  re_a (re_p (ro_sipush (by decide +kernel) (by decide +kernel))) <|
  re_a (re_p (ro_irem (by decide +kernel))) <|
  re_a (re_c (ck_X11_260 (by decide +kernel))) <|
  re_a (re_p (ro_if_ne (by decide +kernel) (by decide +kernel))) <|
  re_a (re_p (ro_iload (by decide +kernel))) <|
  re_a (re_r ⟨(by decide +kernel), rfl⟩) <|
  re_a (re_p (ro_iinc (by decide +kernel) (by decide +kernel) (by decide +kernel))) <|
  re_a (re_p (ro_goto (by decide +kernel) (by decide +kernel))) <|
  re_a (re_p (ro_iconst (by decide +kernel) (by decide +kernel))) <|
  re_a (re_r ⟨(by decide +kernel), rfl⟩) <|
  re_n
theorem mk_223 : ∀ q ∈ TL_223, re_ok Ex D dT 223 q := re_m mk_223_0 (mk_223_1)
theorem mk_224_0 : ∀ q ∈ ([(0, .inl (ri_pu (ri_iload 2 1))), (1, .inl (ri_pu (ri_icon 3 1))), (2, .inl (ri_pu (ri_idr fun x y => x - x / y * y))), (3, .inl (ri_pu (ri_istore 3 1))), (4, .inl (ri_pu (ri_iload 2 1))), (5, .inl (ri_pu (ri_icon 4 1))), (6, .inl (ri_pu (ri_idr fun x y => x / y))), (7, .inl (ri_pu (ri_icon 5 1))), (8, .inl (ri_pu (ri_idr fun x y => x - x / y * y))), (9, .inl (ri_pu (ri_istore 4 2))), (11, .inl (ri_pu (ri_iload 1 1))), (12, .inl (ri_pu (ri_if (fun x => decide (¬ x = 0)) 50))), (15, .inl (ri_pu (ri_aload 0 1))), (16, .inl (ri_pu (ri_icon 0 1))), (17, .inl ri_iald), (18, .inl (ri_pu (ri_icon 3 1))), (19, .inl (ri_pu (ri_icmp (fun x y => decide (y ≤ x)) 194))), (22, .inl (ri_pu (ri_aload 0 1))), (23, .inl (ri_pu (ri_icon 3 1))), (24, .inl (ri_pu (ri_iload 2 1))), (25, .inl (ri_pu (ri_icon 3 1))), (26, .inl (ri_pu (ri_idr fun x y => x - x / y * y))), (27, .inl (ri_pu (ri_ib fun x y => x + y))), (28, .inl (ri_pu (ri_iload 2 1))), (29, .inl (ri_pu (ri_icon 4 1))), (30, .inl (ri_pu (ri_idr fun x y => x / y))), (31, .inl (ri_pu (ri_icon 9 2))), (33, .inl (ri_pu (ri_idr fun x y => x - x / y * y))), (34, .inl (ri_pu (ri_icon 4 1))), (35, .inl (ri_pu (ri_ib fun x y => x - y))), (36, .inl (ri_pu (ri_iload 2 1))), (37, .inl (ri_pu (ri_icon 64 2))), (39, .inl (ri_pu (ri_idr fun x y => x / y))), (40, .inl (ri_pu (ri_icon 31 2))), (42, .inl (ri_pu (ri_idr fun x y => x - x / y * y))), (43, .inr (.inl (175, 4, none))), (46, .inl (ri_pu ri_pop)), (47, .inl (ri_pu (ri_goto 194))), (50, .inl (ri_pu (ri_iload 1 1))), (51, .inl (ri_pu (ri_icon 3 1)))] : List (Nat × ri_C)), re_ok Ex D dT 224 q :=
  re_a (re_p (ro_iload_n (by decide +kernel) rfl)) <|
  re_a (re_p (ro_iconst (by decide +kernel) (by decide +kernel))) <|
  re_a (re_p (ro_irem (by decide +kernel))) <|
  re_a (re_p (ro_istore_n (by decide +kernel) rfl (by decide +kernel))) <|
  re_a (re_p (ro_iload_n (by decide +kernel) rfl)) <|
  re_a (re_p (ro_iconst (by decide +kernel) (by decide +kernel))) <|
  re_a (re_p (ro_idiv (by decide +kernel))) <|
  re_a (re_p (ro_iconst (by decide +kernel) (by decide +kernel))) <|
  re_a (re_p (ro_irem (by decide +kernel))) <|
  re_a (re_p (ro_istore (by decide +kernel) (by decide +kernel))) <|
  re_a (re_p (ro_iload_n (by decide +kernel) rfl)) <|
  re_a (re_p (ro_if_ne (by decide +kernel) (by decide +kernel))) <|
  re_a (re_p (ro_aload_n (by decide +kernel) rfl)) <|
  re_a (re_p (ro_iconst (by decide +kernel) (by decide +kernel))) <|
  re_a (re_h (rh_iald (by decide +kernel)) rg_iald) <|
  re_a (re_p (ro_iconst (by decide +kernel) (by decide +kernel))) <|
  re_a (re_p (ro_icmp_ge (by decide +kernel) (by decide +kernel))) <|
  re_a (re_p (ro_aload_n (by decide +kernel) rfl)) <|
  re_a (re_p (ro_iconst (by decide +kernel) (by decide +kernel))) <|
  re_a (re_p (ro_iload_n (by decide +kernel) rfl)) <|
  re_a (re_p (ro_iconst (by decide +kernel) (by decide +kernel))) <|
  re_a (re_p (ro_irem (by decide +kernel))) <|
  re_a (re_p (ro_iadd (by decide +kernel))) <|
  re_a (re_p (ro_iload_n (by decide +kernel) rfl)) <|
  re_a (re_p (ro_iconst (by decide +kernel) (by decide +kernel))) <|
  re_a (re_p (ro_idiv (by decide +kernel))) <|
  re_a (re_p (ro_bipush (by decide +kernel) (by decide +kernel))) <|
  re_a (re_p (ro_irem (by decide +kernel))) <|
  re_a (re_p (ro_iconst (by decide +kernel) (by decide +kernel))) <|
  re_a (re_p (ro_isub (by decide +kernel))) <|
  re_a (re_p (ro_iload_n (by decide +kernel) rfl)) <|
  re_a (re_p (ro_bipush (by decide +kernel) (by decide +kernel))) <|
  re_a (re_p (ro_idiv (by decide +kernel))) <|
  re_a (re_p (ro_bipush (by decide +kernel) (by decide +kernel))) <|
  re_a (re_p (ro_irem (by decide +kernel))) <|
  re_a (re_c (ck_X11_147 (by decide +kernel))) <|
  re_a (re_p (ro_pop (by decide +kernel))) <|
  re_a (re_p (ro_goto (by decide +kernel) (by decide +kernel))) <|
  re_a (re_p (ro_iload_n (by decide +kernel) rfl)) <|
  re_a (re_p (ro_iconst (by decide +kernel) (by decide +kernel))) <|
  re_n
theorem mk_224_1 : ∀ q ∈ ([(52, .inl (ri_pu (ri_icmp (fun x y => decide (y ≤ x)) 102))), (55, .inl (ri_pu (ri_aload 0 1))), (56, .inl (ri_pu (ri_iload 3 1))), (57, .inl (ri_pu (ri_iload 4 2))), (59, .inl (ri_pu (ri_iload 2 1))), (60, .inl (ri_pu (ri_icon 32 2))), (62, .inl (ri_pu (ri_idr fun x y => x / y))), (63, .inl (ri_pu (ri_icon 3 1))), (64, .inl (ri_pu (ri_idr fun x y => x - x / y * y))), (65, .inl (ri_pu (ri_iload 2 1))), (66, .inl (ri_pu (ri_icon 128 3))), (69, .inl (ri_pu (ri_idr fun x y => x / y))), (70, .inl (ri_pu (ri_icon 5 1))), (71, .inl (ri_pu (ri_idr fun x y => x - x / y * y))), (72, .inr (.inl (176, 5, none))), (75, .inl (ri_pu (ri_if (fun x => decide (x = 0)) 194))), (78, .inl (ri_pu (ri_aload 0 1))), (79, .inl (ri_pu (ri_iload 3 1))), (80, .inl (ri_pu (ri_iload 4 2))), (82, .inl (ri_pu (ri_iload 2 1))), (83, .inl (ri_pu (ri_icon 32 2))), (85, .inl (ri_pu (ri_idr fun x y => x / y))), (86, .inl (ri_pu (ri_icon 3 1))), (87, .inl (ri_pu (ri_idr fun x y => x - x / y * y))), (88, .inl (ri_pu (ri_iload 2 1))), (89, .inl (ri_pu (ri_icon 128 3))), (92, .inl (ri_pu (ri_idr fun x y => x / y))), (93, .inl (ri_pu (ri_icon 5 1))), (94, .inl (ri_pu (ri_idr fun x y => x - x / y * y))), (95, .inr (.inl (177, 5, none))), (98, .inl (ri_pu ri_pop)), (99, .inl (ri_pu (ri_goto 194))), (102, .inl (ri_pu (ri_iload 1 1))), (103, .inl (ri_pu (ri_icon 3 1))), (104, .inl (ri_pu (ri_icmp (fun x y => decide (¬ x = y)) 137))), (107, .inl (ri_pu (ri_aload 0 1))), (108, .inl (ri_pu (ri_iload 3 1))), (109, .inl (ri_pu (ri_iload 4 2))), (111, .inr (.inl (178, 3, none))), (114, .inl (ri_pu (ri_if (fun x => decide (x = 0)) 194)))] : List (Nat × ri_C)), re_ok Ex D dT 224 q :=
  re_a (re_p (ro_icmp_ge (by decide +kernel) (by decide +kernel))) <|
  re_a (re_p (ro_aload_n (by decide +kernel) rfl)) <|
  re_a (re_p (ro_iload_n (by decide +kernel) rfl)) <|
  re_a (re_p (ro_iload (by decide +kernel))) <|
  re_a (re_p (ro_iload_n (by decide +kernel) rfl)) <|
  re_a (re_p (ro_bipush (by decide +kernel) (by decide +kernel))) <|
  re_a (re_p (ro_idiv (by decide +kernel))) <|
  re_a (re_p (ro_iconst (by decide +kernel) (by decide +kernel))) <|
  re_a (re_p (ro_irem (by decide +kernel))) <|
  re_a (re_p (ro_iload_n (by decide +kernel) rfl)) <|
  re_a (re_p (ro_sipush (by decide +kernel) (by decide +kernel))) <|
  re_a (re_p (ro_idiv (by decide +kernel))) <|
  re_a (re_p (ro_iconst (by decide +kernel) (by decide +kernel))) <|
  re_a (re_p (ro_irem (by decide +kernel))) <|
  re_a (re_c (ck_X11_161 (by decide +kernel))) <|
  re_a (re_p (ro_if_eq (by decide +kernel) (by decide +kernel))) <|
  re_a (re_p (ro_aload_n (by decide +kernel) rfl)) <|
  re_a (re_p (ro_iload_n (by decide +kernel) rfl)) <|
  re_a (re_p (ro_iload (by decide +kernel))) <|
  re_a (re_p (ro_iload_n (by decide +kernel) rfl)) <|
  re_a (re_p (ro_bipush (by decide +kernel) (by decide +kernel))) <|
  re_a (re_p (ro_idiv (by decide +kernel))) <|
  re_a (re_p (ro_iconst (by decide +kernel) (by decide +kernel))) <|
  re_a (re_p (ro_irem (by decide +kernel))) <|
  re_a (re_p (ro_iload_n (by decide +kernel) rfl)) <|
  re_a (re_p (ro_sipush (by decide +kernel) (by decide +kernel))) <|
  re_a (re_p (ro_idiv (by decide +kernel))) <|
  re_a (re_p (ro_iconst (by decide +kernel) (by decide +kernel))) <|
  re_a (re_p (ro_irem (by decide +kernel))) <|
  re_a (re_c (ck_X11_165 (by decide +kernel))) <|
  re_a (re_p (ro_pop (by decide +kernel))) <|
  re_a (re_p (ro_goto (by decide +kernel) (by decide +kernel))) <|
  re_a (re_p (ro_iload_n (by decide +kernel) rfl)) <|
  re_a (re_p (ro_iconst (by decide +kernel) (by decide +kernel))) <|
  re_a (re_p (ro_icmp_ne (by decide +kernel) (by decide +kernel))) <|
  re_a (re_p (ro_aload_n (by decide +kernel) rfl)) <|
  re_a (re_p (ro_iload_n (by decide +kernel) rfl)) <|
  re_a (re_p (ro_iload (by decide +kernel))) <|
  re_a (re_c (ck_X11_169 (by decide +kernel))) <|
  re_a (re_p (ro_if_eq (by decide +kernel) (by decide +kernel))) <|
  re_n
theorem mk_224_2 : ∀ q ∈ ([(117, .inl (ri_pu (ri_aload 0 1))), (118, .inl (ri_pu (ri_iload 3 1))), (119, .inl (ri_pu (ri_iload 4 2))), (121, .inl (ri_pu (ri_icon 1 1))), (122, .inl (ri_pu (ri_iload 2 1))), (123, .inl (ri_pu (ri_icon 32 2))), (125, .inl (ri_pu (ri_idr fun x y => x / y))), (126, .inl (ri_pu (ri_icon 9 2))), (128, .inl (ri_pu (ri_idr fun x y => x - x / y * y))), (129, .inl (ri_pu (ri_ib fun x y => x + y))), (130, .inr (.inl (179, 4, none))), (133, .inl (ri_pu ri_pop)), (134, .inl (ri_pu (ri_goto 194))), (137, .inl (ri_pu (ri_iload 1 1))), (138, .inl (ri_pu (ri_icon 4 1))), (139, .inl (ri_pu (ri_icmp (fun x y => decide (¬ x = y)) 172))), (142, .inl (ri_pu (ri_aload 0 1))), (143, .inl (ri_pu (ri_iload 3 1))), (144, .inl (ri_pu (ri_iload 4 2))), (146, .inr (.inl (153, 3, none))), (149, .inl (ri_pu (ri_if (fun x => decide (x = 0)) 194))), (152, .inl (ri_pu (ri_aload 0 1))), (153, .inl (ri_pu (ri_iload 3 1))), (154, .inl (ri_pu (ri_iload 4 2))), (156, .inl (ri_pu (ri_icon 1 1))), (157, .inl (ri_pu (ri_iload 2 1))), (158, .inl (ri_pu (ri_icon 32 2))), (160, .inl (ri_pu (ri_idr fun x y => x / y))), (161, .inl (ri_pu (ri_icon 9 2))), (163, .inl (ri_pu (ri_idr fun x y => x - x / y * y))), (164, .inl (ri_pu (ri_ib fun x y => x + y))), (165, .inr (.inl (180, 4, none))), (168, .inl (ri_pu ri_pop)), (169, .inl (ri_pu (ri_goto 194))), (172, .inl (ri_pu (ri_aload 0 1))), (173, .inl (ri_pu (ri_iload 3 1))), (174, .inr (.inl (152, 2, none))), (177, .inl (ri_pu (ri_if (fun x => decide (x = 0)) 194))), (180, .inl (ri_pu (ri_aload 0 1))), (181, .inl (ri_pu (ri_iload 3 1)))] : List (Nat × ri_C)), re_ok Ex D dT 224 q :=
  re_a (re_p (ro_aload_n (by decide +kernel) rfl)) <|
  re_a (re_p (ro_iload_n (by decide +kernel) rfl)) <|
  re_a (re_p (ro_iload (by decide +kernel))) <|
  re_a (re_p (ro_iconst (by decide +kernel) (by decide +kernel))) <|
  re_a (re_p (ro_iload_n (by decide +kernel) rfl)) <|
  re_a (re_p (ro_bipush (by decide +kernel) (by decide +kernel))) <|
  re_a (re_p (ro_idiv (by decide +kernel))) <|
  re_a (re_p (ro_bipush (by decide +kernel) (by decide +kernel))) <|
  re_a (re_p (ro_irem (by decide +kernel))) <|
  re_a (re_p (ro_iadd (by decide +kernel))) <|
  re_a (re_c (ck_X11_172 (by decide +kernel))) <|
  re_a (re_p (ro_pop (by decide +kernel))) <|
  re_a (re_p (ro_goto (by decide +kernel) (by decide +kernel))) <|
  re_a (re_p (ro_iload_n (by decide +kernel) rfl)) <|
  re_a (re_p (ro_iconst (by decide +kernel) (by decide +kernel))) <|
  re_a (re_p (ro_icmp_ne (by decide +kernel) (by decide +kernel))) <|
  re_a (re_p (ro_aload_n (by decide +kernel) rfl)) <|
  re_a (re_p (ro_iload_n (by decide +kernel) rfl)) <|
  re_a (re_p (ro_iload (by decide +kernel))) <|
  re_a (re_c (ck_X11_122 (by decide +kernel))) <|
  re_a (re_p (ro_if_eq (by decide +kernel) (by decide +kernel))) <|
  re_a (re_p (ro_aload_n (by decide +kernel) rfl)) <|
  re_a (re_p (ro_iload_n (by decide +kernel) rfl)) <|
  re_a (re_p (ro_iload (by decide +kernel))) <|
  re_a (re_p (ro_iconst (by decide +kernel) (by decide +kernel))) <|
  re_a (re_p (ro_iload_n (by decide +kernel) rfl)) <|
  re_a (re_p (ro_bipush (by decide +kernel) (by decide +kernel))) <|
  re_a (re_p (ro_idiv (by decide +kernel))) <|
  re_a (re_p (ro_bipush (by decide +kernel) (by decide +kernel))) <|
  re_a (re_p (ro_irem (by decide +kernel))) <|
  re_a (re_p (ro_iadd (by decide +kernel))) <|
  re_a (re_c (ck_X11_175 (by decide +kernel))) <|
  re_a (re_p (ro_pop (by decide +kernel))) <|
  re_a (re_p (ro_goto (by decide +kernel) (by decide +kernel))) <|
  re_a (re_p (ro_aload_n (by decide +kernel) rfl)) <|
  re_a (re_p (ro_iload_n (by decide +kernel) rfl)) <|
  re_a (re_c (ck_X11_47 (by decide +kernel))) <|
  re_a (re_p (ro_if_eq (by decide +kernel) (by decide +kernel))) <|
  re_a (re_p (ro_aload_n (by decide +kernel) rfl)) <|
  re_a (re_p (ro_iload_n (by decide +kernel) rfl)) <|
  re_n
theorem mk_224_3 : ∀ q ∈ ([(182, .inl (ri_pu (ri_iload 2 1))), (183, .inl (ri_pu (ri_icon 4 1))), (184, .inl (ri_pu (ri_idr fun x y => x / y))), (185, .inl (ri_pu (ri_icon 9 2))), (187, .inl (ri_pu (ri_idr fun x y => x - x / y * y))), (188, .inl (ri_pu (ri_icon 4 1))), (189, .inl (ri_pu (ri_ib fun x y => x - y))), (190, .inr (.inl (181, 3, none))), (193, .inl (ri_pu ri_pop)), (194, .inr (.inr 0))] : List (Nat × ri_C)), re_ok Ex D dT 224 q :=
  re_a (re_p (ro_iload_n (by decide +kernel) rfl)) <|
  re_a (re_p (ro_iconst (by decide +kernel) (by decide +kernel))) <|
  re_a (re_p (ro_idiv (by decide +kernel))) <|
  re_a (re_p (ro_bipush (by decide +kernel) (by decide +kernel))) <|
  re_a (re_p (ro_irem (by decide +kernel))) <|
  re_a (re_p (ro_iconst (by decide +kernel) (by decide +kernel))) <|
  re_a (re_p (ro_isub (by decide +kernel))) <|
  re_a (re_c (ck_X11_204 (by decide +kernel))) <|
  re_a (re_p (ro_pop (by decide +kernel))) <|
  re_a (re_r ⟨(by decide +kernel), rfl⟩) <|
  re_n
theorem mk_224 : ∀ q ∈ TL_224, re_ok Ex D dT 224 q := re_m mk_224_0 (re_m mk_224_1 (re_m mk_224_2 (mk_224_3)))
theorem mk_225_0 : ∀ q ∈ ([(0, .inl (ri_pu (ri_iload 1 1))), (1, .inl (ri_pu (ri_icon 16 2))), (3, .inl (ri_pu (ri_idr fun x y => x / y))), (4, .inl (ri_pu (ri_istore 2 1))), (5, .inl (ri_pu (ri_iload 1 1))), (6, .inl (ri_pu (ri_icon 16 2))), (8, .inl (ri_pu (ri_idr fun x y => x - x / y * y))), (9, .inl (ri_pu (ri_istore 3 1))), (10, .inl (ri_pu (ri_iload 3 1))), (11, .inl (ri_pu (ri_icon 6 2))), (13, .inl (ri_pu (ri_icmp (fun x y => decide (y ≤ x)) 25))), (16, .inl (ri_pu (ri_aload 0 1))), (17, .inl (ri_pu (ri_iload 3 1))), (18, .inl (ri_pu (ri_iload 2 1))), (19, .inr (.inl (224, 3, none))), (22, .inl (ri_pu (ri_goto 101))), (25, .inl (ri_pu (ri_aload 0 1))), (26, .inl (ri_pu (ri_iload 2 1))), (27, .inl (ri_pu (ri_icon 5 1))), (28, .inl (ri_pu (ri_idr fun x y => x - x / y * y))), (29, .inr (.inl (154, 2, none))), (32, .inl (ri_pu (ri_if (fun x => decide (x = 0)) 62))), (35, .inl (ri_pu (ri_iload 3 1))), (36, .inl (ri_pu (ri_icon 10 2))), (38, .inl (ri_pu (ri_icmp (fun x y => decide (y ≤ x)) 62))), (41, .inl (ri_pu (ri_aload 0 1))), (42, .inl (ri_pu (ri_iload 2 1))), (43, .inl (ri_pu (ri_icon 5 1))), (44, .inl (ri_pu (ri_idr fun x y => x - x / y * y))), (45, .inl (ri_pu (ri_icon 2 1))), (46, .inl (ri_pu (ri_iload 2 1))), (47, .inl (ri_pu (ri_icon 8 2))), (49, .inl (ri_pu (ri_idr fun x y => x / y))), (50, .inl (ri_pu (ri_icon 2 1))), (51, .inl (ri_pu (ri_idr fun x y => x - x / y * y))), (52, .inl (ri_pu (ri_ib fun x y => x * y))), (53, .inl (ri_pu (ri_icon 1 1))), (54, .inl (ri_pu (ri_ib fun x y => x - y))), (55, .inr (.inl (173, 3, none))), (58, .inl (ri_pu ri_pop))] : List (Nat × ri_C)), re_ok Ex D dT 225 q :=
  re_a (re_p (ro_iload_n (by decide +kernel) rfl)) <|
  re_a (re_p (ro_bipush (by decide +kernel) (by decide +kernel))) <|
  re_a (re_p (ro_idiv (by decide +kernel))) <|
  re_a (re_p (ro_istore_n (by decide +kernel) rfl (by decide +kernel))) <|
  re_a (re_p (ro_iload_n (by decide +kernel) rfl)) <|
  re_a (re_p (ro_bipush (by decide +kernel) (by decide +kernel))) <|
  re_a (re_p (ro_irem (by decide +kernel))) <|
  re_a (re_p (ro_istore_n (by decide +kernel) rfl (by decide +kernel))) <|
  re_a (re_p (ro_iload_n (by decide +kernel) rfl)) <|
  re_a (re_p (ro_bipush (by decide +kernel) (by decide +kernel))) <|
  re_a (re_p (ro_icmp_ge (by decide +kernel) (by decide +kernel))) <|
  re_a (re_p (ro_aload_n (by decide +kernel) rfl)) <|
  re_a (re_p (ro_iload_n (by decide +kernel) rfl)) <|
  re_a (re_p (ro_iload_n (by decide +kernel) rfl)) <|
  re_a (re_c (ck_X11_263 (by decide +kernel))) <|
  re_a (re_p (ro_goto (by decide +kernel) (by decide +kernel))) <|
  re_a (re_p (ro_aload_n (by decide +kernel) rfl)) <|
  re_a (re_p (ro_iload_n (by decide +kernel) rfl)) <|
  re_a (re_p (ro_iconst (by decide +kernel) (by decide +kernel))) <|
  re_a (re_p (ro_irem (by decide +kernel))) <|
  re_a (re_c (ck_X11_178 (by decide +kernel))) <|
  re_a (re_p (ro_if_eq (by decide +kernel) (by decide +kernel))) <|
  re_a (re_p (ro_iload_n (by decide +kernel) rfl)) <|
  re_a (re_p (ro_bipush (by decide +kernel) (by decide +kernel))) <|
  re_a (re_p (ro_icmp_ge (by decide +kernel) (by decide +kernel))) <|
  re_a (re_p (ro_aload_n (by decide +kernel) rfl)) <|
  re_a (re_p (ro_iload_n (by decide +kernel) rfl)) <|
  re_a (re_p (ro_iconst (by decide +kernel) (by decide +kernel))) <|
  re_a (re_p (ro_irem (by decide +kernel))) <|
  re_a (re_p (ro_iconst (by decide +kernel) (by decide +kernel))) <|
  re_a (re_p (ro_iload_n (by decide +kernel) rfl)) <|
  re_a (re_p (ro_bipush (by decide +kernel) (by decide +kernel))) <|
  re_a (re_p (ro_idiv (by decide +kernel))) <|
  re_a (re_p (ro_iconst (by decide +kernel) (by decide +kernel))) <|
  re_a (re_p (ro_irem (by decide +kernel))) <|
  re_a (re_p (ro_imul (by decide +kernel))) <|
  re_a (re_p (ro_iconst (by decide +kernel) (by decide +kernel))) <|
  re_a (re_p (ro_isub (by decide +kernel))) <|
  re_a (re_c (ck_X11_181 (by decide +kernel))) <|
  re_a (re_p (ro_pop (by decide +kernel))) <|
  re_n
theorem mk_225_1 : ∀ q ∈ ([(59, .inl (ri_pu (ri_goto 101))), (62, .inl (ri_pu (ri_aload 0 1))), (63, .inl (ri_pu (ri_iload 2 1))), (64, .inl (ri_pu (ri_icon 5 1))), (65, .inl (ri_pu (ri_idr fun x y => x - x / y * y))), (66, .inr (.inl (154, 2, none))), (69, .inl (ri_pu (ri_if (fun x => decide (x = 0)) 101))), (72, .inl (ri_pu (ri_aload 0 1))), (73, .inl (ri_pu (ri_iload 2 1))), (74, .inl (ri_pu (ri_icon 8 2))), (76, .inl (ri_pu (ri_idr fun x y => x / y))), (77, .inl (ri_pu (ri_icon 8 2))), (79, .inl (ri_pu (ri_idr fun x y => x - x / y * y))), (80, .inr (.inl (155, 2, none))), (83, .inl (ri_pu (ri_if (fun x => decide (x = 0)) 101))), (86, .inl (ri_pu (ri_aload 0 1))), (87, .inl (ri_pu (ri_iload 2 1))), (88, .inl (ri_pu (ri_icon 5 1))), (89, .inl (ri_pu (ri_idr fun x y => x - x / y * y))), (90, .inl (ri_pu (ri_iload 2 1))), (91, .inl (ri_pu (ri_icon 8 2))), (93, .inl (ri_pu (ri_idr fun x y => x / y))), (94, .inl (ri_pu (ri_icon 8 2))), (96, .inl (ri_pu (ri_idr fun x y => x - x / y * y))), (97, .inr (.inl (172, 3, none))), (100, .inl (ri_pu ri_pop)), (101, .inr (.inr 0))] : List (Nat × ri_C)), re_ok Ex D dT 225 q :=
  re_a (re_p (ro_goto (by decide +kernel) (by decide +kernel))) <|
  re_a (re_p (ro_aload_n (by decide +kernel) rfl)) <|
  re_a (re_p (ro_iload_n (by decide +kernel) rfl)) <|
  re_a (re_p (ro_iconst (by decide +kernel) (by decide +kernel))) <|
  re_a (re_p (ro_irem (by decide +kernel))) <|
  re_a (re_c (ck_X11_178 (by decide +kernel))) <|
  re_a (re_p (ro_if_eq (by decide +kernel) (by decide +kernel))) <|
  re_a (re_p (ro_aload_n (by decide +kernel) rfl)) <|
  re_a (re_p (ro_iload_n (by decide +kernel) rfl)) <|
  re_a (re_p (ro_bipush (by decide +kernel) (by decide +kernel))) <|
  re_a (re_p (ro_idiv (by decide +kernel))) <|
  re_a (re_p (ro_bipush (by decide +kernel) (by decide +kernel))) <|
  re_a (re_p (ro_irem (by decide +kernel))) <|
  re_a (re_c (ck_X11_195 (by decide +kernel))) <|
  re_a (re_p (ro_if_eq (by decide +kernel) (by decide +kernel))) <|
  re_a (re_p (ro_aload_n (by decide +kernel) rfl)) <|
  re_a (re_p (ro_iload_n (by decide +kernel) rfl)) <|
  re_a (re_p (ro_iconst (by decide +kernel) (by decide +kernel))) <|
  re_a (re_p (ro_irem (by decide +kernel))) <|
  re_a (re_p (ro_iload_n (by decide +kernel) rfl)) <|
  re_a (re_p (ro_bipush (by decide +kernel) (by decide +kernel))) <|
  re_a (re_p (ro_idiv (by decide +kernel))) <|
  re_a (re_p (ro_bipush (by decide +kernel) (by decide +kernel))) <|
  re_a (re_p (ro_irem (by decide +kernel))) <|
  re_a (re_c (ck_X11_198 (by decide +kernel))) <|
  re_a (re_p (ro_pop (by decide +kernel))) <|
  re_a (re_r ⟨(by decide +kernel), rfl⟩) <|
  re_n
theorem mk_225 : ∀ q ∈ TL_225, re_ok Ex D dT 225 q := re_m mk_225_0 (mk_225_1)
theorem mk_226_0 : ∀ q ∈ ([(0, .inl (ri_pu (ri_aload 0 1))), (1, .inl (ri_pu (ri_iload 3 1))), (2, .inl (ri_pu ri_i2l)), (3, .inl (ri_pu (ri_lcon 1 1))), (4, .inl (ri_pu (ri_lcon 60 3))), (7, .inr (.inl (146, 3, none))), (10, .inl (ri_pu (ri_if (fun x => decide (x = 0)) 17))), (13, .inl (ri_pu (ri_icon 0 1))), (14, .inl (ri_pu (ri_goto 18))), (17, .inl (ri_pu (ri_icon 1 1))), (18, .inr (.inl (145, 2, some 9))), (21, .inl (ri_pu (ri_if (fun x => decide (x = 0)) 26))), (24, .inl (ri_pu (ri_icon 0 1))), (25, .inr (.inr 1)), (26, .inl (ri_pu (ri_aload 0 1))), (27, .inl (ri_getf 9 3)), (30, .inl (ri_pu (ri_icon 0 1))), (31, .inl (ri_pu (ri_aload 0 1))), (32, .inl (ri_getf 9 4)), (35, .inl (ri_pu (ri_icon 0 1))), (36, .inr (.inl (147, 4, none))), (39, .inl (ri_pu (ri_lload 1 1))), (40, .inl (ri_pu (ri_lstore 4 2))), (42, .inl (ri_pu (ri_icon 0 1))), (43, .inl (ri_pu (ri_istore 6 2))), (45, .inl (ri_pu (ri_iload 6 2))), (47, .inl (ri_pu (ri_iload 3 1))), (48, .inl (ri_pu (ri_icmp (fun x y => decide (y ≤ x)) 82))), (51, .inl (ri_pu (ri_lload 4 2))), (53, .inl (ri_pu (ri_lcon 6364136223846793005 3))), (56, .inl (ri_pu (ri_lb fun x y => x * y))), (57, .inl (ri_pu (ri_lcon 1442695040888963407 3))), (60, .inl (ri_pu (ri_lb fun x y => x + y))), (61, .inl (ri_pu (ri_lstore 4 2))), (63, .inl (ri_pu (ri_aload 0 1))), (64, .inl (ri_getf 9 4)), (67, .inl (ri_pu (ri_lload 4 2))), (69, .inl (ri_pu (ri_icon 33 2))), (71, .inl (ri_pu (ri_lsh fun x y => (x.toUInt64 >>> (y.toInt64.toUInt64 &&& Int64.toUInt64 63)).toInt64))), (72, .inl (ri_pu ri_l2i))] : List (Nat × ri_C)), re_ok Ex D dT 226 q :=
  re_a (re_p (ro_aload_n (by decide +kernel) rfl)) <|
  re_a (re_p (ro_iload_n (by decide +kernel) rfl)) <|
  re_a (re_p (ro_i2l (by decide +kernel))) <|
  re_a (re_p (ro_lconst (by decide +kernel) (by decide +kernel))) <|
  re_a (re_p (ro_ldc2 (by decide +kernel) q_1450)) <|
  re_a (re_c (ck_X11_43 (by decide +kernel))) <|
  re_a (re_p (ro_if_eq (by decide +kernel) (by decide +kernel))) <|
  re_a (re_p (ro_iconst (by decide +kernel) (by decide +kernel))) <|
  re_a (re_p (ro_goto (by decide +kernel) (by decide +kernel))) <|
  re_a (re_p (ro_iconst (by decide +kernel) (by decide +kernel))) <|
  re_a (re_c (ck_X11_131 (by decide +kernel))) <|
  re_a (re_p (ro_if_eq (by decide +kernel) (by decide +kernel))) <|
  re_a (re_p (ro_iconst (by decide +kernel) (by decide +kernel))) <|
  re_a (re_r ⟨(by decide +kernel), rfl⟩) <|
  re_a (re_p (ro_aload_n (by decide +kernel) rfl)) <|
  re_a (re_h (gf_X11_13 (by decide +kernel)) (rg_getf _ _)) <|
  re_a (re_p (ro_iconst (by decide +kernel) (by decide +kernel))) <|
  re_a (re_p (ro_aload_n (by decide +kernel) rfl)) <|
  re_a (re_h (gf_X11_16 (by decide +kernel)) (rg_getf _ _)) <|
  re_a (re_p (ro_iconst (by decide +kernel) (by decide +kernel))) <|
  re_a (re_c (ck_X11_214 (by decide +kernel))) <|
  re_a (re_p (ro_lload_n (by decide +kernel) rfl)) <|
  re_a (re_p (ro_lstore (by decide +kernel) (by decide +kernel))) <|
  re_a (re_p (ro_iconst (by decide +kernel) (by decide +kernel))) <|
  re_a (re_p (ro_istore (by decide +kernel) (by decide +kernel))) <|
  re_a (re_p (ro_iload (by decide +kernel))) <|
  re_a (re_p (ro_iload_n (by decide +kernel) rfl)) <|
  re_a (re_p (ro_icmp_ge (by decide +kernel) (by decide +kernel))) <|
  re_a (re_p (ro_lload (by decide +kernel))) <|
  re_a (re_p (ro_ldc2 (by decide +kernel) q_1451)) <|
  re_a (re_p (ro_lmul (by decide +kernel))) <|
  re_a (re_p (ro_ldc2 (by decide +kernel) q_1452)) <|
  re_a (re_p (ro_ladd (by decide +kernel))) <|
  re_a (re_p (ro_lstore (by decide +kernel) (by decide +kernel))) <|
  re_a (re_p (ro_aload_n (by decide +kernel) rfl)) <|
  re_a (re_h (gf_X11_16 (by decide +kernel)) (rg_getf _ _)) <|
  re_a (re_p (ro_lload (by decide +kernel))) <|
  re_a (re_p (ro_bipush (by decide +kernel) (by decide +kernel))) <|
  re_a (re_p (ro_lushr (by decide +kernel))) <|
  re_a (re_p (ro_l2i (by decide +kernel))) <|
  re_n
theorem mk_226_1 : ∀ q ∈ ([(73, .inr (.inl (225, 2, none))), (76, .inl (ri_pu (ri_iinc 6 1))), (79, .inl (ri_pu (ri_goto 45))), (82, .inl (ri_pu (ri_aload 0 1))), (83, .inl (ri_getf 9 4)), (86, .inl (ri_pu (ri_icon 4 1))), (87, .inl ri_iald), (88, .inl (ri_pu (ri_aload 0 1))), (89, .inl (ri_getf 9 3)), (92, .inl (ri_pu (ri_icon 4 1))), (93, .inl ri_iald), (94, .inl (ri_pu (ri_ib fun x y => x - y))), (95, .inl (ri_pu (ri_istore 6 2))), (97, .inl (ri_pu (ri_icon 1000 3))), (100, .inl (ri_pu (ri_aload 0 1))), (101, .inl (ri_getf 9 4)), (104, .inl (ri_pu (ri_icon 3 1))), (105, .inl ri_iald), (106, .inl (ri_pu (ri_aload 0 1))), (107, .inl (ri_getf 9 3)), (110, .inl (ri_pu (ri_icon 3 1))), (111, .inl ri_iald), (112, .inl (ri_pu (ri_ib fun x y => x - y))), (113, .inl (ri_pu (ri_ib fun x y => x * y))), (114, .inl (ri_pu (ri_iload 6 2))), (116, .inl (ri_pu (ri_icon 999 3))), (119, .inl (ri_pu (ri_icmp (fun x y => decide (x ≤ y)) 128))), (122, .inl (ri_pu (ri_icon 999 3))), (125, .inl (ri_pu (ri_goto 130))), (128, .inl (ri_pu (ri_iload 6 2))), (130, .inl (ri_pu (ri_ib fun x y => x + y))), (131, .inr (.inr 1))] : List (Nat × ri_C)), re_ok Ex D dT 226 q :=
  re_a (re_c (ck_X11_272 (by decide +kernel))) <|
  re_a (re_p (ro_iinc (by decide +kernel) (by decide +kernel) (by decide +kernel))) <|
  re_a (re_p (ro_goto (by decide +kernel) (by decide +kernel))) <|
  re_a (re_p (ro_aload_n (by decide +kernel) rfl)) <|
  re_a (re_h (gf_X11_16 (by decide +kernel)) (rg_getf _ _)) <|
  re_a (re_p (ro_iconst (by decide +kernel) (by decide +kernel))) <|
  re_a (re_h (rh_iald (by decide +kernel)) rg_iald) <|
  re_a (re_p (ro_aload_n (by decide +kernel) rfl)) <|
  re_a (re_h (gf_X11_13 (by decide +kernel)) (rg_getf _ _)) <|
  re_a (re_p (ro_iconst (by decide +kernel) (by decide +kernel))) <|
  re_a (re_h (rh_iald (by decide +kernel)) rg_iald) <|
  re_a (re_p (ro_isub (by decide +kernel))) <|
  re_a (re_p (ro_istore (by decide +kernel) (by decide +kernel))) <|
  re_a (re_p (ro_sipush (by decide +kernel) (by decide +kernel))) <|
  re_a (re_p (ro_aload_n (by decide +kernel) rfl)) <|
  re_a (re_h (gf_X11_16 (by decide +kernel)) (rg_getf _ _)) <|
  re_a (re_p (ro_iconst (by decide +kernel) (by decide +kernel))) <|
  re_a (re_h (rh_iald (by decide +kernel)) rg_iald) <|
  re_a (re_p (ro_aload_n (by decide +kernel) rfl)) <|
  re_a (re_h (gf_X11_13 (by decide +kernel)) (rg_getf _ _)) <|
  re_a (re_p (ro_iconst (by decide +kernel) (by decide +kernel))) <|
  re_a (re_h (rh_iald (by decide +kernel)) rg_iald) <|
  re_a (re_p (ro_isub (by decide +kernel))) <|
  re_a (re_p (ro_imul (by decide +kernel))) <|
  re_a (re_p (ro_iload (by decide +kernel))) <|
  re_a (re_p (ro_sipush (by decide +kernel) (by decide +kernel))) <|
  re_a (re_p (ro_icmp_le (by decide +kernel) (by decide +kernel))) <|
  re_a (re_p (ro_sipush (by decide +kernel) (by decide +kernel))) <|
  re_a (re_p (ro_goto (by decide +kernel) (by decide +kernel))) <|
  re_a (re_p (ro_iload (by decide +kernel))) <|
  re_a (re_p (ro_iadd (by decide +kernel))) <|
  re_a (re_r ⟨(by decide +kernel), rfl⟩) <|
  re_n
theorem mk_226 : ∀ q ∈ TL_226, re_ok Ex D dT 226 q := re_m mk_226_0 (mk_226_1)
theorem mk_227 : ∀ q ∈ TL_227, re_ok Ex D dT 227 q :=
  re_a (re_p (ro_aload_n (by decide +kernel) rfl)) <|
  re_a (re_p (ro_iload_n (by decide +kernel) rfl)) <|
  re_a (re_p (ro_i2l (by decide +kernel))) <|
  re_a (re_p (ro_lconst (by decide +kernel) (by decide +kernel))) <|
  re_a (re_p (ro_lconst (by decide +kernel) (by decide +kernel))) <|
  re_a (re_c (ck_X11_43 (by decide +kernel))) <|
  re_a (re_p (ro_if_eq (by decide +kernel) (by decide +kernel))) <|
  re_a (re_p (ro_iconst (by decide +kernel) (by decide +kernel))) <|
  re_a (re_p (ro_goto (by decide +kernel) (by decide +kernel))) <|
  re_a (re_p (ro_iconst (by decide +kernel) (by decide +kernel))) <|
  re_a (re_c (ck_X11_131 (by decide +kernel))) <|
  re_a (re_p (ro_if_eq (by decide +kernel) (by decide +kernel))) <|
  re_a (re_p (ro_iconst (by decide +kernel) (by decide +kernel))) <|
  re_a (re_r ⟨(by decide +kernel), rfl⟩) <|
  re_a (re_p (ro_aload_n (by decide +kernel) rfl)) <|
  re_a (re_h (gf_X11_13 (by decide +kernel)) (rg_getf _ _)) <|
  re_a (re_p (ro_iconst (by decide +kernel) (by decide +kernel))) <|
  re_a (re_p (ro_aload_n (by decide +kernel) rfl)) <|
  re_a (re_h (gf_X11_22 (by decide +kernel)) (rg_getf _ _)) <|
  re_a (re_p (ro_bipush (by decide +kernel) (by decide +kernel))) <|
  re_a (re_p (ro_iload_n (by decide +kernel) rfl)) <|
  re_a (re_p (ro_imul (by decide +kernel))) <|
  re_a (re_c (ck_X11_214 (by decide +kernel))) <|
  re_a (re_p (ro_aload_n (by decide +kernel) rfl)) <|
  re_a (re_h (gf_X11_25 (by decide +kernel)) (rg_getf _ _)) <|
  re_a (re_p (ro_iload_n (by decide +kernel) rfl)) <|
  re_a (re_p (ro_iconst (by decide +kernel) (by decide +kernel))) <|
  re_a (re_h (rh_zast (by decide +kernel)) rg_zast) <|
  re_a (re_p (ro_aload_n (by decide +kernel) rfl)) <|
  re_a (re_h (gf_X11_13 (by decide +kernel)) (rg_getf _ _)) <|
  re_a (re_p (ro_iconst (by decide +kernel) (by decide +kernel))) <|
  re_a (re_h (rh_iald (by decide +kernel)) rg_iald) <|
  re_a (re_r ⟨(by decide +kernel), rfl⟩) <|
  re_n
theorem mk_228 : ∀ q ∈ TL_228, re_ok Ex D dT 228 q :=
  re_a (re_p (ro_aload_n (by decide +kernel) rfl)) <|
  re_a (re_p (ro_iload_n (by decide +kernel) rfl)) <|
  re_a (re_p (ro_i2l (by decide +kernel))) <|
  re_a (re_p (ro_lconst (by decide +kernel) (by decide +kernel))) <|
  re_a (re_p (ro_lconst (by decide +kernel) (by decide +kernel))) <|
  re_a (re_c (ck_X11_43 (by decide +kernel))) <|
  re_a (re_p (ro_if_ne (by decide +kernel) (by decide +kernel))) <|
  re_a (re_p (ro_iconst (by decide +kernel) (by decide +kernel))) <|
  re_a (re_p (ro_goto (by decide +kernel) (by decide +kernel))) <|
  re_a (re_p (ro_aload_n (by decide +kernel) rfl)) <|
  re_a (re_h (gf_X11_25 (by decide +kernel)) (rg_getf _ _)) <|
  re_a (re_p (ro_iload_n (by decide +kernel) rfl)) <|
  re_a (re_h (rh_zald (by decide +kernel)) rg_zald) <|
  re_a (re_p (ro_if_ne (by decide +kernel) (by decide +kernel))) <|
  re_a (re_p (ro_iconst (by decide +kernel) (by decide +kernel))) <|
  re_a (re_p (ro_goto (by decide +kernel) (by decide +kernel))) <|
  re_a (re_p (ro_iconst (by decide +kernel) (by decide +kernel))) <|
  re_a (re_c (ck_X11_131 (by decide +kernel))) <|
  re_a (re_p (ro_if_eq (by decide +kernel) (by decide +kernel))) <|
  re_a (re_p (ro_iconst (by decide +kernel) (by decide +kernel))) <|
  re_a (re_r ⟨(by decide +kernel), rfl⟩) <|
  re_a (re_p (ro_aload_n (by decide +kernel) rfl)) <|
  re_a (re_h (gf_X11_22 (by decide +kernel)) (rg_getf _ _)) <|
  re_a (re_p (ro_bipush (by decide +kernel) (by decide +kernel))) <|
  re_a (re_p (ro_iload_n (by decide +kernel) rfl)) <|
  re_a (re_p (ro_imul (by decide +kernel))) <|
  re_a (re_p (ro_aload_n (by decide +kernel) rfl)) <|
  re_a (re_h (gf_X11_13 (by decide +kernel)) (rg_getf _ _)) <|
  re_a (re_p (ro_iconst (by decide +kernel) (by decide +kernel))) <|
  re_a (re_c (ck_X11_214 (by decide +kernel))) <|
  re_a (re_p (ro_aload_n (by decide +kernel) rfl)) <|
  re_a (re_p (ro_iconst (by decide +kernel) (by decide +kernel))) <|
  re_a (re_h (pf_X11_218 (by decide +kernel)) (rg_puti _ _)) <|
  re_a (re_p (ro_aload_n (by decide +kernel) rfl)) <|
  re_a (re_h (gf_X11_13 (by decide +kernel)) (rg_getf _ _)) <|
  re_a (re_p (ro_iconst (by decide +kernel) (by decide +kernel))) <|
  re_a (re_h (rh_iald (by decide +kernel)) rg_iald) <|
  re_a (re_r ⟨(by decide +kernel), rfl⟩) <|
  re_n
theorem mk_229 : ∀ q ∈ TL_229, re_ok Ex D dT 229 q :=
  re_a (re_p (ro_iconst (by decide +kernel) (by decide +kernel))) <|
  re_a (re_p (ro_istore_n (by decide +kernel) rfl (by decide +kernel))) <|
  re_a (re_p (ro_aload_n (by decide +kernel) rfl)) <|
  re_a (re_h (rh_alen (by decide +kernel)) rg_alen) <|
  re_a (re_p (ro_istore_n (by decide +kernel) rfl (by decide +kernel))) <|
  re_a (re_p (ro_iload_n (by decide +kernel) rfl)) <|
  re_a (re_p (ro_iload_n (by decide +kernel) rfl)) <|
  re_a (re_p (ro_icmp_ge (by decide +kernel) (by decide +kernel))) <|
  re_a (re_p (ro_aload_n (by decide +kernel) rfl)) <|
  re_a (re_p (ro_iload_n (by decide +kernel) rfl)) <|
  re_a (re_p (ro_iload_n (by decide +kernel) rfl)) <|
  re_a (re_h (rh_iast (by decide +kernel)) rg_iast) <|
  re_a (re_p (ro_iinc (by decide +kernel) (by decide +kernel) (by decide +kernel))) <|
  re_a (re_p (ro_goto (by decide +kernel) (by decide +kernel))) <|
  re_a (re_r ⟨(by decide +kernel), rfl⟩) <|
  re_n
end RIMK
