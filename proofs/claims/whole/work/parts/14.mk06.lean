section RIMK
variable {Ex : (Nat → Prop) → State → Heap → Prop} {D : va_G} {dT : Nat → ClassId}
theorem mk_194 : ∀ q ∈ TL_194, re_ok Ex D dT 194 q :=
  re_a (re_p (ro_aload_n (by decide +kernel) rfl)) <|
  re_a (re_p (ro_iconst (by decide +kernel) (by decide +kernel))) <|
  re_a (re_h (pf_X11_39 (by decide +kernel)) (rg_puti _ _)) <|
  re_a (re_p (ro_aload_n (by decide +kernel) rfl)) <|
  re_a (re_p (ro_aload_n (by decide +kernel) rfl)) <|
  re_a (re_h (gf_X11_16 (by decide +kernel)) (rg_getf _ _)) <|
  re_a (re_c (ck_X11_210 (by decide +kernel))) <|
  re_a (re_r ⟨(by decide +kernel), rfl⟩) <|
  re_n
theorem mk_195 : ∀ q ∈ TL_195, re_ok Ex D dT 195 q :=
  re_a (re_p (ro_aload_n (by decide +kernel) rfl)) <|
  re_a (re_p (ro_aload_n (by decide +kernel) rfl)) <|
  re_a (re_p (ro_aload_n (by decide +kernel) rfl)) <|
  re_a (re_h (gf_X11_16 (by decide +kernel)) (rg_getf _ _)) <|
  re_a (re_c (ck_X11_210 (by decide +kernel))) <|
  re_a (re_p (ro_iconst (by decide +kernel) (by decide +kernel))) <|
  re_a (re_p (ro_icmp_ne (by decide +kernel) (by decide +kernel))) <|
  re_a (re_p (ro_iconst (by decide +kernel) (by decide +kernel))) <|
  re_a (re_p (ro_goto (by decide +kernel) (by decide +kernel))) <|
  re_a (re_p (ro_iconst (by decide +kernel) (by decide +kernel))) <|
  re_a (re_c (ck_X11_131 (by decide +kernel))) <|
  re_a (re_p (ro_if_eq (by decide +kernel) (by decide +kernel))) <|
  re_a (re_p (ro_iconst (by decide +kernel) (by decide +kernel))) <|
  re_a (re_r ⟨(by decide +kernel), rfl⟩) <|
  re_a (re_p (ro_aload_n (by decide +kernel) rfl)) <|
  re_a (re_h (gf_X11_16 (by decide +kernel)) (rg_getf _ _)) <|
  re_a (re_p (ro_iconst (by decide +kernel) (by decide +kernel))) <|
  re_a (re_p (ro_aload_n (by decide +kernel) rfl)) <|
  re_a (re_h (gf_X11_13 (by decide +kernel)) (rg_getf _ _)) <|
  re_a (re_p (ro_iconst (by decide +kernel) (by decide +kernel))) <|
  re_a (re_c (ck_X11_214 (by decide +kernel))) <|
  re_a (re_p (ro_aload_n (by decide +kernel) rfl)) <|
  re_a (re_p (ro_iconst (by decide +kernel) (by decide +kernel))) <|
  re_a (re_h (pf_X11_218 (by decide +kernel)) (rg_puti _ _)) <|
  re_a (re_p (ro_aload_n (by decide +kernel) rfl)) <|
  re_a (re_h (gf_X11_25 (by decide +kernel)) (rg_getf _ _)) <|
  re_a (re_p (ro_iconst (by decide +kernel) (by decide +kernel))) <|
  re_a (re_p (ro_iconst (by decide +kernel) (by decide +kernel))) <|
  re_a (re_h (rh_zast (by decide +kernel)) rg_zast) <|
  re_a (re_p (ro_aload_n (by decide +kernel) rfl)) <|
  re_a (re_h (gf_X11_25 (by decide +kernel)) (rg_getf _ _)) <|
  re_a (re_p (ro_iconst (by decide +kernel) (by decide +kernel))) <|
  re_a (re_p (ro_iconst (by decide +kernel) (by decide +kernel))) <|
  re_a (re_h (rh_zast (by decide +kernel)) rg_zast) <|
  re_a (re_p (ro_aload_n (by decide +kernel) rfl)) <|
  re_a (re_h (gf_X11_140 (by decide +kernel)) (rg_getf _ _)) <|
  re_a (re_r ⟨(by decide +kernel), rfl⟩) <|
  re_n
theorem mk_196_0 : ∀ q ∈ ([(0, .inl (ri_pu (ri_icon 0 1))), (1, .inl (ri_pu (ri_istore 1 1))), (2, .inl (ri_pu (ri_icon 0 1))), (3, .inl (ri_pu (ri_istore 2 1))), (4, .inl (ri_pu (ri_iload 2 1))), (5, .inl (ri_pu (ri_aload 0 1))), (6, .inl (ri_pu (ri_icon 2 1))), (7, .inl ri_iald), (8, .inl (ri_pu (ri_icmp (fun x y => decide (y ≤ x)) 68))), (11, .inl (ri_pu (ri_icon 0 1))), (12, .inl (ri_pu (ri_istore 3 1))), (13, .inl (ri_pu (ri_icon 0 1))), (14, .inl (ri_pu (ri_istore 4 2))), (16, .inl (ri_pu (ri_iload 4 2))), (18, .inl (ri_pu (ri_aload 0 1))), (19, .inl (ri_pu (ri_icon 1 1))), (20, .inl ri_iald), (21, .inl (ri_pu (ri_icmp (fun x y => decide (y ≤ x)) 50))), (24, .inl (ri_pu (ri_iload 3 1))), (25, .inl (ri_pu (ri_if (fun x => decide (¬ x = 0)) 38))), (28, .inl (ri_pu (ri_aload 0 1))), (29, .inl (ri_pu (ri_iload 2 1))), (30, .inl (ri_pu (ri_iload 4 2))), (32, .inr (.inl (164, 3, none))), (35, .inl (ri_pu (ri_if (fun x => decide (¬ x = 0)) 42))), (38, .inl (ri_pu (ri_icon 1 1))), (39, .inl (ri_pu (ri_goto 43))), (42, .inl (ri_pu (ri_icon 0 1))), (43, .inl (ri_pu (ri_istore 3 1))), (44, .inl (ri_pu (ri_iinc 4 1))), (47, .inl (ri_pu (ri_goto 16))), (50, .inl (ri_pu (ri_iload 1 1))), (51, .inl (ri_pu (ri_iload 3 1))), (52, .inl (ri_pu (ri_if (fun x => decide (x = 0)) 59))), (55, .inl (ri_pu (ri_icon 1 1))), (56, .inl (ri_pu (ri_goto 60))), (59, .inl (ri_pu (ri_icon 0 1))), (60, .inl (ri_pu (ri_ib fun x y => x + y))), (61, .inl (ri_pu (ri_istore 1 1))), (62, .inl (ri_pu (ri_iinc 2 1)))] : List (Nat × ri_C)), re_ok Ex D dT 196 q :=
  re_a (re_p (ro_iconst (by decide +kernel) (by decide +kernel))) <|
  re_a (re_p (ro_istore_n (by decide +kernel) rfl (by decide +kernel))) <|
  re_a (re_p (ro_iconst (by decide +kernel) (by decide +kernel))) <|
  re_a (re_p (ro_istore_n (by decide +kernel) rfl (by decide +kernel))) <|
  re_a (re_p (ro_iload_n (by decide +kernel) rfl)) <|
  re_a (re_p (ro_aload_n (by decide +kernel) rfl)) <|
  re_a (re_p (ro_iconst (by decide +kernel) (by decide +kernel))) <|
  re_a (re_h (rh_iald (by decide +kernel)) rg_iald) <|
  re_a (re_p (ro_icmp_ge (by decide +kernel) (by decide +kernel))) <|
  re_a (re_p (ro_iconst (by decide +kernel) (by decide +kernel))) <|
  re_a (re_p (ro_istore_n (by decide +kernel) rfl (by decide +kernel))) <|
  re_a (re_p (ro_iconst (by decide +kernel) (by decide +kernel))) <|
  re_a (re_p (ro_istore (by decide +kernel) (by decide +kernel))) <|
  re_a (re_p (ro_iload (by decide +kernel))) <|
  re_a (re_p (ro_aload_n (by decide +kernel) rfl)) <|
  re_a (re_p (ro_iconst (by decide +kernel) (by decide +kernel))) <|
  re_a (re_h (rh_iald (by decide +kernel)) rg_iald) <|
  re_a (re_p (ro_icmp_ge (by decide +kernel) (by decide +kernel))) <|
  re_a (re_p (ro_iload_n (by decide +kernel) rfl)) <|
  re_a (re_p (ro_if_ne (by decide +kernel) (by decide +kernel))) <|
  re_a (re_p (ro_aload_n (by decide +kernel) rfl)) <|
  re_a (re_p (ro_iload_n (by decide +kernel) rfl)) <|
  re_a (re_p (ro_iload (by decide +kernel))) <|
  re_a (re_c (ck_X11_96 (by decide +kernel))) <|
  re_a (re_p (ro_if_ne (by decide +kernel) (by decide +kernel))) <|
  re_a (re_p (ro_iconst (by decide +kernel) (by decide +kernel))) <|
  re_a (re_p (ro_goto (by decide +kernel) (by decide +kernel))) <|
  re_a (re_p (ro_iconst (by decide +kernel) (by decide +kernel))) <|
  re_a (re_p (ro_istore_n (by decide +kernel) rfl (by decide +kernel))) <|
  re_a (re_p (ro_iinc (by decide +kernel) (by decide +kernel) (by decide +kernel))) <|
  re_a (re_p (ro_goto (by decide +kernel) (by decide +kernel))) <|
  re_a (re_p (ro_iload_n (by decide +kernel) rfl)) <|
  re_a (re_p (ro_iload_n (by decide +kernel) rfl)) <|
  re_a (re_p (ro_if_eq (by decide +kernel) (by decide +kernel))) <|
  re_a (re_p (ro_iconst (by decide +kernel) (by decide +kernel))) <|
  re_a (re_p (ro_goto (by decide +kernel) (by decide +kernel))) <|
  re_a (re_p (ro_iconst (by decide +kernel) (by decide +kernel))) <|
  re_a (re_p (ro_iadd (by decide +kernel))) <|
  re_a (re_p (ro_istore_n (by decide +kernel) rfl (by decide +kernel))) <|
  re_a (re_p (ro_iinc (by decide +kernel) (by decide +kernel) (by decide +kernel))) <|
  re_n
theorem mk_196_1 : ∀ q ∈ ([(65, .inl (ri_pu (ri_goto 4))), (68, .inl (ri_pu (ri_iload 1 1))), (69, .inr (.inr 1))] : List (Nat × ri_C)), re_ok Ex D dT 196 q :=
  re_a (re_p (ro_goto (by decide +kernel) (by decide +kernel))) <|
  re_a (re_p (ro_iload_n (by decide +kernel) rfl)) <|
  re_a (re_r ⟨(by decide +kernel), rfl⟩) <|
  re_n
theorem mk_196 : ∀ q ∈ TL_196, re_ok Ex D dT 196 q := re_m mk_196_0 (mk_196_1)
theorem mk_197_0 : ∀ q ∈ ([(0, .inl (ri_pu (ri_aload 0 1))), (1, .inl (ri_pu (ri_iload 1 1))), (2, .inl (ri_pu ri_i2l)), (3, .inl (ri_pu (ri_lcon 0 1))), (4, .inl (ri_pu (ri_lcon 10 3))), (7, .inr (.inl (146, 3, none))), (10, .inl (ri_pu (ri_if (fun x => decide (x = 0)) 17))), (13, .inl (ri_pu (ri_icon 0 1))), (14, .inl (ri_pu (ri_goto 18))), (17, .inl (ri_pu (ri_icon 1 1))), (18, .inr (.inl (145, 2, some 9))), (21, .inl (ri_pu (ri_if (fun x => decide (x = 0)) 26))), (24, .inl (ri_pu (ri_icon 0 1))), (25, .inr (.inr 1)), (26, .inl (ri_pu (ri_icon 0 1))), (27, .inl (ri_pu (ri_istore 2 1))), (28, .inl (ri_pu (ri_iload 1 1))), (29, .inl (ri_pu (ri_switch 4 [72, 103, 103, 103, 112, 122, 130] 138))), (72, .inl (ri_pu (ri_icon 0 1))), (73, .inl (ri_pu (ri_istore 3 1))), (74, .inl (ri_pu (ri_iload 3 1))), (75, .inl (ri_pu (ri_aload 0 1))), (76, .inl (ri_getf 9 3)), (79, .inl (ri_pu (ri_icon 0 1))), (80, .inl ri_iald), (81, .inl (ri_pu (ri_icmp (fun x y => decide (y ≤ x)) 101))), (84, .inl (ri_pu (ri_iload 2 1))), (85, .inl (ri_pu (ri_aload 0 1))), (86, .inl (ri_getf 9 3)), (89, .inl (ri_pu (ri_iload 3 1))), (90, .inr (.inl (161, 2, none))), (93, .inl (ri_pu (ri_ib fun x y => x + y))), (94, .inl (ri_pu (ri_istore 2 1))), (95, .inl (ri_pu (ri_iinc 3 1))), (98, .inl (ri_pu (ri_goto 74))), (101, .inl (ri_pu (ri_iload 2 1))), (102, .inr (.inr 1)), (103, .inl (ri_pu (ri_aload 0 1))), (104, .inl (ri_getf 9 3)), (107, .inl (ri_pu (ri_iload 1 1)))] : List (Nat × ri_C)), re_ok Ex D dT 197 q :=
  re_a (re_p (ro_aload_n (by decide +kernel) rfl)) <|
  re_a (re_p (ro_iload_n (by decide +kernel) rfl)) <|
  re_a (re_p (ro_i2l (by decide +kernel))) <|
  re_a (re_p (ro_lconst (by decide +kernel) (by decide +kernel))) <|
  re_a (re_p (ro_ldc2 (by decide +kernel) q_1326)) <|
  re_a (re_c (ck_X11_43 (by decide +kernel))) <|
  re_a (re_p (ro_if_eq (by decide +kernel) (by decide +kernel))) <|
  re_a (re_p (ro_iconst (by decide +kernel) (by decide +kernel))) <|
  re_a (re_p (ro_goto (by decide +kernel) (by decide +kernel))) <|
  re_a (re_p (ro_iconst (by decide +kernel) (by decide +kernel))) <|
  re_a (re_c (ck_X11_131 (by decide +kernel))) <|
  re_a (re_p (ro_if_eq (by decide +kernel) (by decide +kernel))) <|
  re_a (re_p (ro_iconst (by decide +kernel) (by decide +kernel))) <|
  re_a (re_r ⟨(by decide +kernel), rfl⟩) <|
  re_a (re_p (ro_iconst (by decide +kernel) (by decide +kernel))) <|
  re_a (re_p (ro_istore_n (by decide +kernel) rfl (by decide +kernel))) <|
  re_a (re_p (ro_iload_n (by decide +kernel) rfl)) <|
  re_a (re_p (ro_switch (by decide +kernel) (by decide +kernel) (by decide +kernel) (by decide +kernel) (by decide +kernel) (by decide +kernel))) <|
  re_a (re_p (ro_iconst (by decide +kernel) (by decide +kernel))) <|
  re_a (re_p (ro_istore_n (by decide +kernel) rfl (by decide +kernel))) <|
  re_a (re_p (ro_iload_n (by decide +kernel) rfl)) <|
  re_a (re_p (ro_aload_n (by decide +kernel) rfl)) <|
  re_a (re_h (gf_X11_13 (by decide +kernel)) (rg_getf _ _)) <|
  re_a (re_p (ro_iconst (by decide +kernel) (by decide +kernel))) <|
  re_a (re_h (rh_iald (by decide +kernel)) rg_iald) <|
  re_a (re_p (ro_icmp_ge (by decide +kernel) (by decide +kernel))) <|
  re_a (re_p (ro_iload_n (by decide +kernel) rfl)) <|
  re_a (re_p (ro_aload_n (by decide +kernel) rfl)) <|
  re_a (re_h (gf_X11_13 (by decide +kernel)) (rg_getf _ _)) <|
  re_a (re_p (ro_iload_n (by decide +kernel) rfl)) <|
  re_a (re_c (ck_X11_223 (by decide +kernel))) <|
  re_a (re_p (ro_iadd (by decide +kernel))) <|
  re_a (re_p (ro_istore_n (by decide +kernel) rfl (by decide +kernel))) <|
  re_a (re_p (ro_iinc (by decide +kernel) (by decide +kernel) (by decide +kernel))) <|
  re_a (re_p (ro_goto (by decide +kernel) (by decide +kernel))) <|
  re_a (re_p (ro_iload_n (by decide +kernel) rfl)) <|
  re_a (re_r ⟨(by decide +kernel), rfl⟩) <|
  re_a (re_p (ro_aload_n (by decide +kernel) rfl)) <|
  re_a (re_h (gf_X11_13 (by decide +kernel)) (rg_getf _ _)) <|
  re_a (re_p (ro_iload_n (by decide +kernel) rfl)) <|
  re_n
theorem mk_197_1 : ∀ q ∈ ([(108, .inl (ri_pu (ri_icon 1 1))), (109, .inl (ri_pu (ri_ib fun x y => x - y))), (110, .inl ri_iald), (111, .inr (.inr 1)), (112, .inl (ri_pu (ri_aload 0 1))), (113, .inl (ri_getf 9 3)), (116, .inl (ri_pu (ri_icon 7 2))), (118, .inl ri_iald), (119, .inl (ri_pu (ri_icon 1 1))), (120, .inl (ri_pu (ri_ib fun x y => x - y))), (121, .inr (.inr 1)), (122, .inl (ri_pu (ri_aload 0 1))), (123, .inl (ri_getf 9 3)), (126, .inl (ri_pu (ri_icon 8 2))), (128, .inl ri_iald), (129, .inr (.inr 1)), (130, .inl (ri_pu (ri_aload 0 1))), (131, .inl (ri_getf 9 3)), (134, .inr (.inl (196, 1, none))), (137, .inr (.inr 1)), (138, .inl (ri_pu (ri_aload 0 1))), (139, .inl (ri_getf 9 3)), (142, .inl (ri_pu (ri_iload 1 1))), (143, .inl ri_iald), (144, .inr (.inr 1))] : List (Nat × ri_C)), re_ok Ex D dT 197 q :=
  re_a (re_p (ro_iconst (by decide +kernel) (by decide +kernel))) <|
  re_a (re_p (ro_isub (by decide +kernel))) <|
  re_a (re_h (rh_iald (by decide +kernel)) rg_iald) <|
  re_a (re_r ⟨(by decide +kernel), rfl⟩) <|
  re_a (re_p (ro_aload_n (by decide +kernel) rfl)) <|
  re_a (re_h (gf_X11_13 (by decide +kernel)) (rg_getf _ _)) <|
  re_a (re_p (ro_bipush (by decide +kernel) (by decide +kernel))) <|
  re_a (re_h (rh_iald (by decide +kernel)) rg_iald) <|
  re_a (re_p (ro_iconst (by decide +kernel) (by decide +kernel))) <|
  re_a (re_p (ro_isub (by decide +kernel))) <|
  re_a (re_r ⟨(by decide +kernel), rfl⟩) <|
  re_a (re_p (ro_aload_n (by decide +kernel) rfl)) <|
  re_a (re_h (gf_X11_13 (by decide +kernel)) (rg_getf _ _)) <|
  re_a (re_p (ro_bipush (by decide +kernel) (by decide +kernel))) <|
  re_a (re_h (rh_iald (by decide +kernel)) rg_iald) <|
  re_a (re_r ⟨(by decide +kernel), rfl⟩) <|
  re_a (re_p (ro_aload_n (by decide +kernel) rfl)) <|
  re_a (re_h (gf_X11_13 (by decide +kernel)) (rg_getf _ _)) <|
  re_a (re_c (ck_X11_226 (by decide +kernel))) <|
  re_a (re_r ⟨(by decide +kernel), rfl⟩) <|
  re_a (re_p (ro_aload_n (by decide +kernel) rfl)) <|
  re_a (re_h (gf_X11_13 (by decide +kernel)) (rg_getf _ _)) <|
  re_a (re_p (ro_iload_n (by decide +kernel) rfl)) <|
  re_a (re_h (rh_iald (by decide +kernel)) rg_iald) <|
  re_a (re_r ⟨(by decide +kernel), rfl⟩) <|
  re_n
theorem mk_197 : ∀ q ∈ TL_197, re_ok Ex D dT 197 q := re_m mk_197_0 (mk_197_1)
theorem mk_198 : ∀ q ∈ TL_198, re_ok Ex D dT 198 q :=
  re_a (re_p (ro_aload_n (by decide +kernel) rfl)) <|
  re_a (re_p (ro_iload_n (by decide +kernel) rfl)) <|
  re_a (re_p (ro_iconst (by decide +kernel) (by decide +kernel))) <|
  re_a (re_c (ck_X11_51 (by decide +kernel))) <|
  re_a (re_p (ro_istore_n (by decide +kernel) rfl (by decide +kernel))) <|
  re_a (re_p (ro_iconst (by decide +kernel) (by decide +kernel))) <|
  re_a (re_p (ro_istore_n (by decide +kernel) rfl (by decide +kernel))) <|
  re_a (re_p (ro_iload_n (by decide +kernel) rfl)) <|
  re_a (re_p (ro_aload_n (by decide +kernel) rfl)) <|
  re_a (re_p (ro_iload_n (by decide +kernel) rfl)) <|
  re_a (re_p (ro_iconst (by decide +kernel) (by decide +kernel))) <|
  re_a (re_c (ck_X11_51 (by decide +kernel))) <|
  re_a (re_p (ro_imul (by decide +kernel))) <|
  re_a (re_p (ro_iload_n (by decide +kernel) rfl)) <|
  re_a (re_c (ck_X11_55 (by decide +kernel))) <|
  re_a (re_p (ro_if_eq (by decide +kernel) (by decide +kernel))) <|
  re_a (re_p (ro_iinc (by decide +kernel) (by decide +kernel) (by decide +kernel))) <|
  re_a (re_p (ro_goto (by decide +kernel) (by decide +kernel))) <|
  re_a (re_p (ro_iload_n (by decide +kernel) rfl)) <|
  re_a (re_r ⟨(by decide +kernel), rfl⟩) <|
  re_n
theorem mk_199_0 : ∀ q ∈ ([(0, .inl (ri_pu (ri_aload 0 1))), (1, .inl (ri_pu (ri_aload 0 1))), (2, .inl (ri_getf 9 3)), (5, .inl (ri_pu (ri_iload 1 1))), (6, .inr (.inl (152, 2, none))), (9, .inl (ri_pu (ri_if (fun x => decide (¬ x = 0)) 16))), (12, .inl (ri_pu (ri_icon 1 1))), (13, .inl (ri_pu (ri_goto 33))), (16, .inl (ri_pu (ri_iload 2 1))), (17, .inl (ri_pu ri_i2l)), (18, .inl (ri_pu (ri_lcon 0 1))), (19, .inl (ri_pu (ri_lcon 7 3))), (22, .inr (.inl (146, 3, none))), (25, .inl (ri_pu (ri_if (fun x => decide (x = 0)) 32))), (28, .inl (ri_pu (ri_icon 0 1))), (29, .inl (ri_pu (ri_goto 33))), (32, .inl (ri_pu (ri_icon 2 1))), (33, .inr (.inl (145, 2, some 9))), (36, .inl (ri_pu (ri_if (fun x => decide (x = 0)) 41))), (39, .inl (ri_pu (ri_icon 0 1))), (40, .inr (.inr 1)), (41, .inl (ri_pu (ri_iload 2 1))), (42, .inl (ri_pu (ri_switch 4 [72, 81, 90, 99] 109))), (72, .inl (ri_pu (ri_aload 0 1))), (73, .inl (ri_getf 9 3)), (76, .inl (ri_pu (ri_iload 1 1))), (77, .inr (.inl (160, 2, none))), (80, .inr (.inr 1)), (81, .inl (ri_pu (ri_aload 0 1))), (82, .inl (ri_getf 9 3)), (85, .inl (ri_pu (ri_iload 1 1))), (86, .inr (.inl (161, 2, none))), (89, .inr (.inr 1)), (90, .inl (ri_pu (ri_aload 0 1))), (91, .inl (ri_getf 9 3)), (94, .inl (ri_pu (ri_iload 1 1))), (95, .inr (.inl (198, 2, none))), (98, .inr (.inr 1)), (99, .inl (ri_pu (ri_aload 0 1))), (100, .inl (ri_getf 9 3))] : List (Nat × ri_C)), re_ok Ex D dT 199 q :=
  re_a (re_p (ro_aload_n (by decide +kernel) rfl)) <|
  re_a (re_p (ro_aload_n (by decide +kernel) rfl)) <|
  re_a (re_h (gf_X11_13 (by decide +kernel)) (rg_getf _ _)) <|
  re_a (re_p (ro_iload_n (by decide +kernel) rfl)) <|
  re_a (re_c (ck_X11_47 (by decide +kernel))) <|
  re_a (re_p (ro_if_ne (by decide +kernel) (by decide +kernel))) <|
  re_a (re_p (ro_iconst (by decide +kernel) (by decide +kernel))) <|
  re_a (re_p (ro_goto (by decide +kernel) (by decide +kernel))) <|
  re_a (re_p (ro_iload_n (by decide +kernel) rfl)) <|
  re_a (re_p (ro_i2l (by decide +kernel))) <|
  re_a (re_p (ro_lconst (by decide +kernel) (by decide +kernel))) <|
  re_a (re_p (ro_ldc2 (by decide +kernel) q_1337)) <|
  re_a (re_c (ck_X11_43 (by decide +kernel))) <|
  re_a (re_p (ro_if_eq (by decide +kernel) (by decide +kernel))) <|
  re_a (re_p (ro_iconst (by decide +kernel) (by decide +kernel))) <|
  re_a (re_p (ro_goto (by decide +kernel) (by decide +kernel))) <|
  re_a (re_p (ro_iconst (by decide +kernel) (by decide +kernel))) <|
  re_a (re_c (ck_X11_131 (by decide +kernel))) <|
  re_a (re_p (ro_if_eq (by decide +kernel) (by decide +kernel))) <|
  re_a (re_p (ro_iconst (by decide +kernel) (by decide +kernel))) <|
  re_a (re_r ⟨(by decide +kernel), rfl⟩) <|
  re_a (re_p (ro_iload_n (by decide +kernel) rfl)) <|
  re_a (re_p (ro_switch (by decide +kernel) (by decide +kernel) (by decide +kernel) (by decide +kernel) (by decide +kernel) (by decide +kernel))) <|
  re_a (re_p (ro_aload_n (by decide +kernel) rfl)) <|
  re_a (re_h (gf_X11_13 (by decide +kernel)) (rg_getf _ _)) <|
  re_a (re_p (ro_iload_n (by decide +kernel) rfl)) <|
  re_a (re_c (ck_X11_90 (by decide +kernel))) <|
  re_a (re_r ⟨(by decide +kernel), rfl⟩) <|
  re_a (re_p (ro_aload_n (by decide +kernel) rfl)) <|
  re_a (re_h (gf_X11_13 (by decide +kernel)) (rg_getf _ _)) <|
  re_a (re_p (ro_iload_n (by decide +kernel) rfl)) <|
  re_a (re_c (ck_X11_223 (by decide +kernel))) <|
  re_a (re_r ⟨(by decide +kernel), rfl⟩) <|
  re_a (re_p (ro_aload_n (by decide +kernel) rfl)) <|
  re_a (re_h (gf_X11_13 (by decide +kernel)) (rg_getf _ _)) <|
  re_a (re_p (ro_iload_n (by decide +kernel) rfl)) <|
  re_a (re_c (ck_X11_231 (by decide +kernel))) <|
  re_a (re_r ⟨(by decide +kernel), rfl⟩) <|
  re_a (re_p (ro_aload_n (by decide +kernel) rfl)) <|
  re_a (re_h (gf_X11_13 (by decide +kernel)) (rg_getf _ _)) <|
  re_n
theorem mk_199_1 : ∀ q ∈ ([(103, .inl (ri_pu (ri_iload 1 1))), (104, .inl (ri_pu (ri_icon 4 1))), (105, .inr (.inl (149, 3, none))), (108, .inr (.inr 1)), (109, .inl (ri_pu (ri_aload 0 1))), (110, .inl (ri_getf 9 3)), (113, .inl (ri_pu (ri_iload 1 1))), (114, .inl (ri_pu (ri_iload 2 1))), (115, .inr (.inl (149, 3, none))), (118, .inr (.inr 1))] : List (Nat × ri_C)), re_ok Ex D dT 199 q :=
  re_a (re_p (ro_iload_n (by decide +kernel) rfl)) <|
  re_a (re_p (ro_iconst (by decide +kernel) (by decide +kernel))) <|
  re_a (re_c (ck_X11_51 (by decide +kernel))) <|
  re_a (re_r ⟨(by decide +kernel), rfl⟩) <|
  re_a (re_p (ro_aload_n (by decide +kernel) rfl)) <|
  re_a (re_h (gf_X11_13 (by decide +kernel)) (rg_getf _ _)) <|
  re_a (re_p (ro_iload_n (by decide +kernel) rfl)) <|
  re_a (re_p (ro_iload_n (by decide +kernel) rfl)) <|
  re_a (re_c (ck_X11_51 (by decide +kernel))) <|
  re_a (re_r ⟨(by decide +kernel), rfl⟩) <|
  re_n
theorem mk_199 : ∀ q ∈ TL_199, re_ok Ex D dT 199 q := re_m mk_199_0 (mk_199_1)
theorem mk_200_0 : ∀ q ∈ ([(0, .inl (ri_pu (ri_aload 0 1))), (1, .inl (ri_pu (ri_aload 0 1))), (2, .inl (ri_getf 9 3)), (5, .inl (ri_pu (ri_iload 1 1))), (6, .inl (ri_pu (ri_iload 2 1))), (7, .inr (.inl (153, 3, none))), (10, .inl (ri_pu (ri_if (fun x => decide (¬ x = 0)) 17))), (13, .inl (ri_pu (ri_icon 1 1))), (14, .inl (ri_pu (ri_goto 34))), (17, .inl (ri_pu (ri_iload 3 1))), (18, .inl (ri_pu ri_i2l)), (19, .inl (ri_pu (ri_lcon 0 1))), (20, .inl (ri_pu (ri_lcon 3 3))), (23, .inr (.inl (146, 3, none))), (26, .inl (ri_pu (ri_if (fun x => decide (x = 0)) 33))), (29, .inl (ri_pu (ri_icon 0 1))), (30, .inl (ri_pu (ri_goto 34))), (33, .inl (ri_pu (ri_icon 2 1))), (34, .inr (.inl (145, 2, some 9))), (37, .inl (ri_pu (ri_if (fun x => decide (x = 0)) 42))), (40, .inl (ri_pu (ri_icon 0 1))), (41, .inr (.inr 1)), (42, .inl (ri_pu (ri_aload 0 1))), (43, .inl (ri_getf 9 3)), (46, .inl (ri_pu (ri_iload 1 1))), (47, .inl (ri_pu (ri_iload 2 1))), (48, .inr (.inl (157, 3, none))), (51, .inl (ri_pu (ri_istore 4 2))), (53, .inl (ri_pu (ri_icon 0 1))), (54, .inl (ri_pu (ri_istore 5 2))), (56, .inl (ri_pu (ri_icon 0 1))), (57, .inl (ri_pu (ri_istore 6 2))), (59, .inl (ri_pu (ri_iload 6 2))), (61, .inl (ri_pu (ri_aload 0 1))), (62, .inl (ri_getf 9 3)), (65, .inl (ri_pu (ri_icon 1 1))), (66, .inl ri_iald), (67, .inl (ri_pu (ri_icmp (fun x y => decide (y ≤ x)) 142))), (70, .inl (ri_pu (ri_iload 5 2))), (72, .inl (ri_pu (ri_aload 0 1)))] : List (Nat × ri_C)), re_ok Ex D dT 200 q :=
  re_a (re_p (ro_aload_n (by decide +kernel) rfl)) <|
  re_a (re_p (ro_aload_n (by decide +kernel) rfl)) <|
  re_a (re_h (gf_X11_13 (by decide +kernel)) (rg_getf _ _)) <|
  re_a (re_p (ro_iload_n (by decide +kernel) rfl)) <|
  re_a (re_p (ro_iload_n (by decide +kernel) rfl)) <|
  re_a (re_c (ck_X11_122 (by decide +kernel))) <|
  re_a (re_p (ro_if_ne (by decide +kernel) (by decide +kernel))) <|
  re_a (re_p (ro_iconst (by decide +kernel) (by decide +kernel))) <|
  re_a (re_p (ro_goto (by decide +kernel) (by decide +kernel))) <|
  re_a (re_p (ro_iload_n (by decide +kernel) rfl)) <|
  re_a (re_p (ro_i2l (by decide +kernel))) <|
  re_a (re_p (ro_lconst (by decide +kernel) (by decide +kernel))) <|
  re_a (re_p (ro_ldc2 (by decide +kernel) q_1345)) <|
  re_a (re_c (ck_X11_43 (by decide +kernel))) <|
  re_a (re_p (ro_if_eq (by decide +kernel) (by decide +kernel))) <|
  re_a (re_p (ro_iconst (by decide +kernel) (by decide +kernel))) <|
  re_a (re_p (ro_goto (by decide +kernel) (by decide +kernel))) <|
  re_a (re_p (ro_iconst (by decide +kernel) (by decide +kernel))) <|
  re_a (re_c (ck_X11_131 (by decide +kernel))) <|
  re_a (re_p (ro_if_eq (by decide +kernel) (by decide +kernel))) <|
  re_a (re_p (ro_iconst (by decide +kernel) (by decide +kernel))) <|
  re_a (re_r ⟨(by decide +kernel), rfl⟩) <|
  re_a (re_p (ro_aload_n (by decide +kernel) rfl)) <|
  re_a (re_h (gf_X11_13 (by decide +kernel)) (rg_getf _ _)) <|
  re_a (re_p (ro_iload_n (by decide +kernel) rfl)) <|
  re_a (re_p (ro_iload_n (by decide +kernel) rfl)) <|
  re_a (re_c (ck_X11_69 (by decide +kernel))) <|
  re_a (re_p (ro_istore (by decide +kernel) (by decide +kernel))) <|
  re_a (re_p (ro_iconst (by decide +kernel) (by decide +kernel))) <|
  re_a (re_p (ro_istore (by decide +kernel) (by decide +kernel))) <|
  re_a (re_p (ro_iconst (by decide +kernel) (by decide +kernel))) <|
  re_a (re_p (ro_istore (by decide +kernel) (by decide +kernel))) <|
  re_a (re_p (ro_iload (by decide +kernel))) <|
  re_a (re_p (ro_aload_n (by decide +kernel) rfl)) <|
  re_a (re_h (gf_X11_13 (by decide +kernel)) (rg_getf _ _)) <|
  re_a (re_p (ro_iconst (by decide +kernel) (by decide +kernel))) <|
  re_a (re_h (rh_iald (by decide +kernel)) rg_iald) <|
  re_a (re_p (ro_icmp_ge (by decide +kernel) (by decide +kernel))) <|
  re_a (re_p (ro_iload (by decide +kernel))) <|
  re_a (re_p (ro_aload_n (by decide +kernel) rfl)) <|
  re_n
theorem mk_200_1 : ∀ q ∈ ([(73, .inl (ri_getf 9 3)), (76, .inl (ri_pu (ri_iload 6 2))), (78, .inl (ri_pu (ri_icon 0 1))), (79, .inr (.inl (151, 3, none))), (82, .inl (ri_pu (ri_iload 1 1))), (83, .inl (ri_pu (ri_icmp (fun x y => decide (¬ x = y)) 100))), (86, .inl (ri_pu (ri_aload 0 1))), (87, .inl (ri_getf 9 3)), (90, .inl (ri_pu (ri_iload 6 2))), (92, .inl (ri_pu (ri_icon 1 1))), (93, .inr (.inl (151, 3, none))), (96, .inl (ri_pu (ri_iload 2 1))), (97, .inl (ri_pu (ri_icmp (fun x y => decide (x = y)) 128))), (100, .inl (ri_pu (ri_aload 0 1))), (101, .inl (ri_getf 9 3)), (104, .inl (ri_pu (ri_iload 6 2))), (106, .inl (ri_pu (ri_icon 2 1))), (107, .inr (.inl (151, 3, none))), (110, .inl (ri_pu (ri_iload 1 1))), (111, .inl (ri_pu (ri_icmp (fun x y => decide (¬ x = y)) 132))), (114, .inl (ri_pu (ri_aload 0 1))), (115, .inl (ri_getf 9 3)), (118, .inl (ri_pu (ri_iload 6 2))), (120, .inl (ri_pu (ri_icon 3 1))), (121, .inr (.inl (151, 3, none))), (124, .inl (ri_pu (ri_iload 2 1))), (125, .inl (ri_pu (ri_icmp (fun x y => decide (¬ x = y)) 132))), (128, .inl (ri_pu (ri_icon 1 1))), (129, .inl (ri_pu (ri_goto 133))), (132, .inl (ri_pu (ri_icon 0 1))), (133, .inl (ri_pu (ri_ib fun x y => x + y))), (134, .inl (ri_pu (ri_istore 5 2))), (136, .inl (ri_pu (ri_iinc 6 1))), (139, .inl (ri_pu (ri_goto 59))), (142, .inl (ri_pu (ri_iload 3 1))), (143, .inl (ri_pu (ri_if (fun x => decide (¬ x = 0)) 151))), (146, .inl (ri_pu (ri_iload 4 2))), (148, .inl (ri_pu (ri_goto 191))), (151, .inl (ri_pu (ri_iload 3 1))), (152, .inl (ri_pu (ri_icon 1 1)))] : List (Nat × ri_C)), re_ok Ex D dT 200 q :=
  re_a (re_h (gf_X11_13 (by decide +kernel)) (rg_getf _ _)) <|
  re_a (re_p (ro_iload (by decide +kernel))) <|
  re_a (re_p (ro_iconst (by decide +kernel) (by decide +kernel))) <|
  re_a (re_c (ck_X11_66 (by decide +kernel))) <|
  re_a (re_p (ro_iload_n (by decide +kernel) rfl)) <|
  re_a (re_p (ro_icmp_ne (by decide +kernel) (by decide +kernel))) <|
  re_a (re_p (ro_aload_n (by decide +kernel) rfl)) <|
  re_a (re_h (gf_X11_13 (by decide +kernel)) (rg_getf _ _)) <|
  re_a (re_p (ro_iload (by decide +kernel))) <|
  re_a (re_p (ro_iconst (by decide +kernel) (by decide +kernel))) <|
  re_a (re_c (ck_X11_66 (by decide +kernel))) <|
  re_a (re_p (ro_iload_n (by decide +kernel) rfl)) <|
  re_a (re_p (ro_icmp_eq (by decide +kernel) (by decide +kernel))) <|
  re_a (re_p (ro_aload_n (by decide +kernel) rfl)) <|
  re_a (re_h (gf_X11_13 (by decide +kernel)) (rg_getf _ _)) <|
  re_a (re_p (ro_iload (by decide +kernel))) <|
  re_a (re_p (ro_iconst (by decide +kernel) (by decide +kernel))) <|
  re_a (re_c (ck_X11_66 (by decide +kernel))) <|
  re_a (re_p (ro_iload_n (by decide +kernel) rfl)) <|
  re_a (re_p (ro_icmp_ne (by decide +kernel) (by decide +kernel))) <|
  re_a (re_p (ro_aload_n (by decide +kernel) rfl)) <|
  re_a (re_h (gf_X11_13 (by decide +kernel)) (rg_getf _ _)) <|
  re_a (re_p (ro_iload (by decide +kernel))) <|
  re_a (re_p (ro_iconst (by decide +kernel) (by decide +kernel))) <|
  re_a (re_c (ck_X11_66 (by decide +kernel))) <|
  re_a (re_p (ro_iload_n (by decide +kernel) rfl)) <|
  re_a (re_p (ro_icmp_ne (by decide +kernel) (by decide +kernel))) <|
  re_a (re_p (ro_iconst (by decide +kernel) (by decide +kernel))) <|
  re_a (re_p (ro_goto (by decide +kernel) (by decide +kernel))) <|
  re_a (re_p (ro_iconst (by decide +kernel) (by decide +kernel))) <|
  re_a (re_p (ro_iadd (by decide +kernel))) <|
  re_a (re_p (ro_istore (by decide +kernel) (by decide +kernel))) <|
  re_a (re_p (ro_iinc (by decide +kernel) (by decide +kernel) (by decide +kernel))) <|
  re_a (re_p (ro_goto (by decide +kernel) (by decide +kernel))) <|
  re_a (re_p (ro_iload_n (by decide +kernel) rfl)) <|
  re_a (re_p (ro_if_ne (by decide +kernel) (by decide +kernel))) <|
  re_a (re_p (ro_iload (by decide +kernel))) <|
  re_a (re_p (ro_goto (by decide +kernel) (by decide +kernel))) <|
  re_a (re_p (ro_iload_n (by decide +kernel) rfl)) <|
  re_a (re_p (ro_iconst (by decide +kernel) (by decide +kernel))) <|
  re_n
theorem mk_200_2 : ∀ q ∈ ([(153, .inl (ri_pu (ri_icmp (fun x y => decide (¬ x = y)) 171))), (156, .inl (ri_pu (ri_aload 0 1))), (157, .inl (ri_getf 9 3)), (160, .inl (ri_pu (ri_iload 1 1))), (161, .inl (ri_pu (ri_icon 5 1))), (162, .inl (ri_pu (ri_iload 4 2))), (164, .inl (ri_pu (ri_ib fun x y => x + y))), (165, .inr (.inl (149, 3, none))), (168, .inl (ri_pu (ri_goto 191))), (171, .inl (ri_pu (ri_iload 3 1))), (172, .inl (ri_pu (ri_icon 2 1))), (173, .inl (ri_pu (ri_icmp (fun x y => decide (¬ x = y)) 189))), (176, .inl (ri_pu (ri_aload 0 1))), (177, .inl (ri_getf 9 3)), (180, .inl (ri_pu (ri_iload 1 1))), (181, .inl (ri_pu (ri_iload 4 2))), (183, .inr (.inl (159, 3, none))), (186, .inl (ri_pu (ri_goto 191))), (189, .inl (ri_pu (ri_iload 5 2))), (191, .inr (.inr 1))] : List (Nat × ri_C)), re_ok Ex D dT 200 q :=
  re_a (re_p (ro_icmp_ne (by decide +kernel) (by decide +kernel))) <|
  re_a (re_p (ro_aload_n (by decide +kernel) rfl)) <|
  re_a (re_h (gf_X11_13 (by decide +kernel)) (rg_getf _ _)) <|
  re_a (re_p (ro_iload_n (by decide +kernel) rfl)) <|
  re_a (re_p (ro_iconst (by decide +kernel) (by decide +kernel))) <|
  re_a (re_p (ro_iload (by decide +kernel))) <|
  re_a (re_p (ro_iadd (by decide +kernel))) <|
  re_a (re_c (ck_X11_51 (by decide +kernel))) <|
  re_a (re_p (ro_goto (by decide +kernel) (by decide +kernel))) <|
  re_a (re_p (ro_iload_n (by decide +kernel) rfl)) <|
  re_a (re_p (ro_iconst (by decide +kernel) (by decide +kernel))) <|
  re_a (re_p (ro_icmp_ne (by decide +kernel) (by decide +kernel))) <|
  re_a (re_p (ro_aload_n (by decide +kernel) rfl)) <|
  re_a (re_h (gf_X11_13 (by decide +kernel)) (rg_getf _ _)) <|
  re_a (re_p (ro_iload_n (by decide +kernel) rfl)) <|
  re_a (re_p (ro_iload (by decide +kernel))) <|
  re_a (re_c (ck_X11_72 (by decide +kernel))) <|
  re_a (re_p (ro_goto (by decide +kernel) (by decide +kernel))) <|
  re_a (re_p (ro_iload (by decide +kernel))) <|
  re_a (re_r ⟨(by decide +kernel), rfl⟩) <|
  re_n
theorem mk_200 : ∀ q ∈ TL_200, re_ok Ex D dT 200 q := re_m mk_200_0 (re_m mk_200_1 (mk_200_2))
theorem mk_201_0 : ∀ q ∈ ([(0, .inl (ri_pu (ri_aload 0 1))), (1, .inl (ri_pu (ri_aload 0 1))), (2, .inl (ri_getf 9 3)), (5, .inl (ri_pu (ri_iload 1 1))), (6, .inr (.inl (154, 2, none))), (9, .inl (ri_pu (ri_if (fun x => decide (¬ x = 0)) 16))), (12, .inl (ri_pu (ri_icon 1 1))), (13, .inl (ri_pu (ri_goto 33))), (16, .inl (ri_pu (ri_iload 2 1))), (17, .inl (ri_pu ri_i2l)), (18, .inl (ri_pu (ri_lcon 0 1))), (19, .inl (ri_pu (ri_lcon 5 3))), (22, .inr (.inl (146, 3, none))), (25, .inl (ri_pu (ri_if (fun x => decide (x = 0)) 32))), (28, .inl (ri_pu (ri_icon 0 1))), (29, .inl (ri_pu (ri_goto 33))), (32, .inl (ri_pu (ri_icon 2 1))), (33, .inr (.inl (145, 2, some 9))), (36, .inl (ri_pu (ri_if (fun x => decide (x = 0)) 41))), (39, .inl (ri_pu (ri_icon 0 1))), (40, .inr (.inr 1)), (41, .inl (ri_pu (ri_iload 2 1))), (42, .inl (ri_pu (ri_icon 3 1))), (43, .inl (ri_pu (ri_icmp (fun x y => decide (¬ x = y)) 57))), (46, .inl (ri_pu (ri_aload 0 1))), (47, .inl (ri_getf 9 3)), (50, .inl (ri_pu (ri_iload 1 1))), (51, .inr (.inl (158, 2, none))), (54, .inl (ri_pu (ri_goto 77))), (57, .inl (ri_pu (ri_aload 0 1))), (58, .inl (ri_getf 9 3)), (61, .inl (ri_pu (ri_iload 1 1))), (62, .inl (ri_pu (ri_iload 2 1))), (63, .inl (ri_pu (ri_icon 3 1))), (64, .inl (ri_pu (ri_icmp (fun x y => decide (x ≤ y)) 73))), (67, .inl (ri_pu (ri_iload 2 1))), (68, .inl (ri_pu (ri_icon 1 1))), (69, .inl (ri_pu (ri_ib fun x y => x - y))), (70, .inl (ri_pu (ri_goto 74))), (73, .inl (ri_pu (ri_iload 2 1)))] : List (Nat × ri_C)), re_ok Ex D dT 201 q :=
  re_a (re_p (ro_aload_n (by decide +kernel) rfl)) <|
  re_a (re_p (ro_aload_n (by decide +kernel) rfl)) <|
  re_a (re_h (gf_X11_13 (by decide +kernel)) (rg_getf _ _)) <|
  re_a (re_p (ro_iload_n (by decide +kernel) rfl)) <|
  re_a (re_c (ck_X11_178 (by decide +kernel))) <|
  re_a (re_p (ro_if_ne (by decide +kernel) (by decide +kernel))) <|
  re_a (re_p (ro_iconst (by decide +kernel) (by decide +kernel))) <|
  re_a (re_p (ro_goto (by decide +kernel) (by decide +kernel))) <|
  re_a (re_p (ro_iload_n (by decide +kernel) rfl)) <|
  re_a (re_p (ro_i2l (by decide +kernel))) <|
  re_a (re_p (ro_lconst (by decide +kernel) (by decide +kernel))) <|
  re_a (re_p (ro_ldc2 (by decide +kernel) q_1350)) <|
  re_a (re_c (ck_X11_43 (by decide +kernel))) <|
  re_a (re_p (ro_if_eq (by decide +kernel) (by decide +kernel))) <|
  re_a (re_p (ro_iconst (by decide +kernel) (by decide +kernel))) <|
  re_a (re_p (ro_goto (by decide +kernel) (by decide +kernel))) <|
  re_a (re_p (ro_iconst (by decide +kernel) (by decide +kernel))) <|
  re_a (re_c (ck_X11_131 (by decide +kernel))) <|
  re_a (re_p (ro_if_eq (by decide +kernel) (by decide +kernel))) <|
  re_a (re_p (ro_iconst (by decide +kernel) (by decide +kernel))) <|
  re_a (re_r ⟨(by decide +kernel), rfl⟩) <|
  re_a (re_p (ro_iload_n (by decide +kernel) rfl)) <|
  re_a (re_p (ro_iconst (by decide +kernel) (by decide +kernel))) <|
  re_a (re_p (ro_icmp_ne (by decide +kernel) (by decide +kernel))) <|
  re_a (re_p (ro_aload_n (by decide +kernel) rfl)) <|
  re_a (re_h (gf_X11_13 (by decide +kernel)) (rg_getf _ _)) <|
  re_a (re_p (ro_iload_n (by decide +kernel) rfl)) <|
  re_a (re_c (ck_X11_62 (by decide +kernel))) <|
  re_a (re_p (ro_goto (by decide +kernel) (by decide +kernel))) <|
  re_a (re_p (ro_aload_n (by decide +kernel) rfl)) <|
  re_a (re_h (gf_X11_13 (by decide +kernel)) (rg_getf _ _)) <|
  re_a (re_p (ro_iload_n (by decide +kernel) rfl)) <|
  re_a (re_p (ro_iload_n (by decide +kernel) rfl)) <|
  re_a (re_p (ro_iconst (by decide +kernel) (by decide +kernel))) <|
  re_a (re_p (ro_icmp_le (by decide +kernel) (by decide +kernel))) <|
  re_a (re_p (ro_iload_n (by decide +kernel) rfl)) <|
  re_a (re_p (ro_iconst (by decide +kernel) (by decide +kernel))) <|
  re_a (re_p (ro_isub (by decide +kernel))) <|
  re_a (re_p (ro_goto (by decide +kernel) (by decide +kernel))) <|
  re_a (re_p (ro_iload_n (by decide +kernel) rfl)) <|
  re_n
theorem mk_201_1 : ∀ q ∈ ([(74, .inr (.inl (150, 3, none))), (77, .inr (.inr 1))] : List (Nat × ri_C)), re_ok Ex D dT 201 q :=
  re_a (re_c (ck_X11_59 (by decide +kernel))) <|
  re_a (re_r ⟨(by decide +kernel), rfl⟩) <|
  re_n
theorem mk_201 : ∀ q ∈ TL_201, re_ok Ex D dT 201 q := re_m mk_201_0 (mk_201_1)
theorem mk_202 : ∀ q ∈ TL_202, re_ok Ex D dT 202 q :=
  re_a (re_p (ro_aload_n (by decide +kernel) rfl)) <|
  re_a (re_p (ro_aload_n (by decide +kernel) rfl)) <|
  re_a (re_h (gf_X11_13 (by decide +kernel)) (rg_getf _ _)) <|
  re_a (re_p (ro_iload_n (by decide +kernel) rfl)) <|
  re_a (re_c (ck_X11_195 (by decide +kernel))) <|
  re_a (re_p (ro_if_ne (by decide +kernel) (by decide +kernel))) <|
  re_a (re_p (ro_iconst (by decide +kernel) (by decide +kernel))) <|
  re_a (re_p (ro_goto (by decide +kernel) (by decide +kernel))) <|
  re_a (re_p (ro_iload_n (by decide +kernel) rfl)) <|
  re_a (re_p (ro_i2l (by decide +kernel))) <|
  re_a (re_p (ro_lconst (by decide +kernel) (by decide +kernel))) <|
  re_a (re_p (ro_ldc2 (by decide +kernel) q_1345)) <|
  re_a (re_c (ck_X11_43 (by decide +kernel))) <|
  re_a (re_p (ro_if_eq (by decide +kernel) (by decide +kernel))) <|
  re_a (re_p (ro_iconst (by decide +kernel) (by decide +kernel))) <|
  re_a (re_p (ro_goto (by decide +kernel) (by decide +kernel))) <|
  re_a (re_p (ro_iconst (by decide +kernel) (by decide +kernel))) <|
  re_a (re_c (ck_X11_131 (by decide +kernel))) <|
  re_a (re_p (ro_if_eq (by decide +kernel) (by decide +kernel))) <|
  re_a (re_p (ro_iconst (by decide +kernel) (by decide +kernel))) <|
  re_a (re_r ⟨(by decide +kernel), rfl⟩) <|
  re_a (re_p (ro_aload_n (by decide +kernel) rfl)) <|
  re_a (re_h (gf_X11_13 (by decide +kernel)) (rg_getf _ _)) <|
  re_a (re_p (ro_iload_n (by decide +kernel) rfl)) <|
  re_a (re_p (ro_iload_n (by decide +kernel) rfl)) <|
  re_a (re_c (ck_X11_66 (by decide +kernel))) <|
  re_a (re_r ⟨(by decide +kernel), rfl⟩) <|
  re_n
theorem mk_203_0 : ∀ q ∈ ([(0, .inl (ri_pu (ri_aload 0 1))), (1, .inl (ri_getf 9 6)), (4, .inl (ri_pu (ri_icon 14 2))), (6, .inl (ri_pu (ri_icmp (fun x y => decide (¬ x = y)) 49))), (9, .inl (ri_pu (ri_icon 0 1))), (10, .inl (ri_pu (ri_istore 1 1))), (11, .inl (ri_pu (ri_iload 1 1))), (12, .inl (ri_pu (ri_icon 1248 3))), (15, .inl (ri_pu (ri_icmp (fun x y => decide (y ≤ x)) 39))), (18, .inl (ri_pu (ri_aload 0 1))), (19, .inl (ri_getf 9 5)), (22, .inl (ri_pu (ri_iload 1 1))), (23, .inl (ri_pu (ri_aload 0 1))), (24, .inl (ri_getf 9 5)), (27, .inl (ri_pu (ri_iload 1 1))), (28, .inl (ri_pu (ri_icon 96 2))), (30, .inl (ri_pu (ri_ib fun x y => x + y))), (31, .inl ri_iald), (32, .inl ri_iast), (33, .inl (ri_pu (ri_iinc 1 1))), (36, .inl (ri_pu (ri_goto 11))), (39, .inl (ri_pu (ri_aload 0 1))), (40, .inl (ri_pu ri_dup)), (41, .inl (ri_getf 9 6)), (44, .inl (ri_pu (ri_icon 1 1))), (45, .inl (ri_pu (ri_ib fun x y => x - y))), (46, .inl (ri_puti 9 6)), (49, .inl (ri_pu (ri_aload 0 1))), (50, .inl (ri_getf 9 3)), (53, .inl (ri_pu (ri_icon 0 1))), (54, .inl (ri_pu (ri_aload 0 1))), (55, .inl (ri_getf 9 5)), (58, .inl (ri_pu (ri_icon 96 2))), (60, .inl (ri_pu (ri_aload 0 1))), (61, .inl (ri_getf 9 6)), (64, .inl (ri_pu (ri_ib fun x y => x * y))), (65, .inr (.inl (147, 4, none))), (68, .inl (ri_pu (ri_aload 0 1))), (69, .inl (ri_pu ri_dup)), (70, .inl (ri_getf 9 6))] : List (Nat × ri_C)), re_ok Ex D dT 203 q :=
  re_a (re_p (ro_aload_n (by decide +kernel) rfl)) <|
  re_a (re_h (gf_X11_218 (by decide +kernel)) (rg_getf _ _)) <|
  re_a (re_p (ro_bipush (by decide +kernel) (by decide +kernel))) <|
  re_a (re_p (ro_icmp_ne (by decide +kernel) (by decide +kernel))) <|
  re_a (re_p (ro_iconst (by decide +kernel) (by decide +kernel))) <|
  re_a (re_p (ro_istore_n (by decide +kernel) rfl (by decide +kernel))) <|
  re_a (re_p (ro_iload_n (by decide +kernel) rfl)) <|
  re_a (re_p (ro_sipush (by decide +kernel) (by decide +kernel))) <|
  re_a (re_p (ro_icmp_ge (by decide +kernel) (by decide +kernel))) <|
  re_a (re_p (ro_aload_n (by decide +kernel) rfl)) <|
  re_a (re_h (gf_X11_19 (by decide +kernel)) (rg_getf _ _)) <|
  re_a (re_p (ro_iload_n (by decide +kernel) rfl)) <|
  re_a (re_p (ro_aload_n (by decide +kernel) rfl)) <|
  re_a (re_h (gf_X11_19 (by decide +kernel)) (rg_getf _ _)) <|
  re_a (re_p (ro_iload_n (by decide +kernel) rfl)) <|
  re_a (re_p (ro_bipush (by decide +kernel) (by decide +kernel))) <|
  re_a (re_p (ro_iadd (by decide +kernel))) <|
  re_a (re_h (rh_iald (by decide +kernel)) rg_iald) <|
  re_a (re_h (rh_iast (by decide +kernel)) rg_iast) <|
  re_a (re_p (ro_iinc (by decide +kernel) (by decide +kernel) (by decide +kernel))) <|
  re_a (re_p (ro_goto (by decide +kernel) (by decide +kernel))) <|
  re_a (re_p (ro_aload_n (by decide +kernel) rfl)) <|
  re_a (re_p (ro_dup (by decide +kernel))) <|
  re_a (re_h (gf_X11_218 (by decide +kernel)) (rg_getf _ _)) <|
  re_a (re_p (ro_iconst (by decide +kernel) (by decide +kernel))) <|
  re_a (re_p (ro_isub (by decide +kernel))) <|
  re_a (re_h (pf_X11_218 (by decide +kernel)) (rg_puti _ _)) <|
  re_a (re_p (ro_aload_n (by decide +kernel) rfl)) <|
  re_a (re_h (gf_X11_13 (by decide +kernel)) (rg_getf _ _)) <|
  re_a (re_p (ro_iconst (by decide +kernel) (by decide +kernel))) <|
  re_a (re_p (ro_aload_n (by decide +kernel) rfl)) <|
  re_a (re_h (gf_X11_19 (by decide +kernel)) (rg_getf _ _)) <|
  re_a (re_p (ro_bipush (by decide +kernel) (by decide +kernel))) <|
  re_a (re_p (ro_aload_n (by decide +kernel) rfl)) <|
  re_a (re_h (gf_X11_218 (by decide +kernel)) (rg_getf _ _)) <|
  re_a (re_p (ro_imul (by decide +kernel))) <|
  re_a (re_c (ck_X11_214 (by decide +kernel))) <|
  re_a (re_p (ro_aload_n (by decide +kernel) rfl)) <|
  re_a (re_p (ro_dup (by decide +kernel))) <|
  re_a (re_h (gf_X11_218 (by decide +kernel)) (rg_getf _ _)) <|
  re_n
theorem mk_203_1 : ∀ q ∈ ([(73, .inl (ri_pu (ri_icon 1 1))), (74, .inl (ri_pu (ri_ib fun x y => x + y))), (75, .inl (ri_puti 9 6)), (78, .inr (.inr 0))] : List (Nat × ri_C)), re_ok Ex D dT 203 q :=
  re_a (re_p (ro_iconst (by decide +kernel) (by decide +kernel))) <|
  re_a (re_p (ro_iadd (by decide +kernel))) <|
  re_a (re_h (pf_X11_218 (by decide +kernel)) (rg_puti _ _)) <|
  re_a (re_r ⟨(by decide +kernel), rfl⟩) <|
  re_n
theorem mk_203 : ∀ q ∈ TL_203, re_ok Ex D dT 203 q := re_m mk_203_0 (mk_203_1)
theorem mk_204 : ∀ q ∈ TL_204, re_ok Ex D dT 204 q :=
  re_a (re_p (ro_aload_n (by decide +kernel) rfl)) <|
  re_a (re_p (ro_iload_n (by decide +kernel) rfl)) <|
  re_a (re_p (ro_iload_n (by decide +kernel) rfl)) <|
  re_a (re_p (ro_iload_n (by decide +kernel) rfl)) <|
  re_a (re_c (ck_X11_234 (by decide +kernel))) <|
  re_a (re_p (ro_if_ne (by decide +kernel) (by decide +kernel))) <|
  re_a (re_p (ro_iconst (by decide +kernel) (by decide +kernel))) <|
  re_a (re_p (ro_goto (by decide +kernel) (by decide +kernel))) <|
  re_a (re_p (ro_aload_n (by decide +kernel) rfl)) <|
  re_a (re_h (gf_X11_13 (by decide +kernel)) (rg_getf _ _)) <|
  re_a (re_p (ro_iconst (by decide +kernel) (by decide +kernel))) <|
  re_a (re_h (rh_iald (by decide +kernel)) rg_iald) <|
  re_a (re_p (ro_iconst (by decide +kernel) (by decide +kernel))) <|
  re_a (re_p (ro_icmp_ge (by decide +kernel) (by decide +kernel))) <|
  re_a (re_p (ro_iconst (by decide +kernel) (by decide +kernel))) <|
  re_a (re_p (ro_goto (by decide +kernel) (by decide +kernel))) <|
  re_a (re_p (ro_iconst (by decide +kernel) (by decide +kernel))) <|
  re_a (re_c (ck_X11_131 (by decide +kernel))) <|
  re_a (re_p (ro_if_eq (by decide +kernel) (by decide +kernel))) <|
  re_a (re_p (ro_iconst (by decide +kernel) (by decide +kernel))) <|
  re_a (re_r ⟨(by decide +kernel), rfl⟩) <|
  re_a (re_p (ro_aload_n (by decide +kernel) rfl)) <|
  re_a (re_c (ck_X11_238 (by decide +kernel))) <|
  re_a (re_p (ro_aload_n (by decide +kernel) rfl)) <|
  re_a (re_h (gf_X11_13 (by decide +kernel)) (rg_getf _ _)) <|
  re_a (re_p (ro_iload_n (by decide +kernel) rfl)) <|
  re_a (re_p (ro_iload_n (by decide +kernel) rfl)) <|
  re_a (re_p (ro_iload_n (by decide +kernel) rfl)) <|
  re_a (re_c (ck_X11_147 (by decide +kernel))) <|
  re_a (re_r ⟨(by decide +kernel), rfl⟩) <|
  re_n
theorem mk_205_0 : ∀ q ∈ ([(0, .inl (ri_pu (ri_aload 0 1))), (1, .inl (ri_pu (ri_aload 0 1))), (2, .inl (ri_getf 9 3)), (5, .inl (ri_pu (ri_iload 1 1))), (6, .inl (ri_pu (ri_iload 2 1))), (7, .inr (.inl (153, 3, none))), (10, .inl (ri_pu (ri_if (fun x => decide (x = 0)) 26))), (13, .inl (ri_pu (ri_aload 0 1))), (14, .inl (ri_getf 9 3)), (17, .inl (ri_pu (ri_iload 3 1))), (18, .inl (ri_pu (ri_iload 4 2))), (20, .inr (.inl (153, 3, none))), (23, .inl (ri_pu (ri_if (fun x => decide (¬ x = 0)) 30))), (26, .inl (ri_pu (ri_icon 1 1))), (27, .inl (ri_pu (ri_goto 55))), (30, .inl (ri_pu (ri_iload 1 1))), (31, .inl (ri_pu (ri_iload 3 1))), (32, .inl (ri_pu (ri_icmp (fun x y => decide (¬ x = y)) 39))), (35, .inl (ri_pu (ri_icon 2 1))), (36, .inl (ri_pu (ri_goto 55))), (39, .inl (ri_pu (ri_aload 0 1))), (40, .inl (ri_getf 9 3)), (43, .inl (ri_pu (ri_icon 1 1))), (44, .inl ri_iald), (45, .inl (ri_pu (ri_icon 8 2))), (47, .inl (ri_pu (ri_icmp (fun x y => decide (y ≤ x)) 54))), (50, .inl (ri_pu (ri_icon 0 1))), (51, .inl (ri_pu (ri_goto 55))), (54, .inl (ri_pu (ri_icon 3 1))), (55, .inr (.inl (145, 2, some 9))), (58, .inl (ri_pu (ri_if (fun x => decide (x = 0)) 63))), (61, .inl (ri_pu (ri_icon 0 1))), (62, .inr (.inr 1)), (63, .inl (ri_pu (ri_aload 0 1))), (64, .inr (.inl (203, 1, some 9))), (67, .inl (ri_pu (ri_aload 0 1))), (68, .inl (ri_getf 9 3)), (71, .inl (ri_pu (ri_iload 1 1))), (72, .inl (ri_pu (ri_iload 2 1))), (73, .inl (ri_pu (ri_iload 3 1)))] : List (Nat × ri_C)), re_ok Ex D dT 205 q :=
  re_a (re_p (ro_aload_n (by decide +kernel) rfl)) <|
  re_a (re_p (ro_aload_n (by decide +kernel) rfl)) <|
  re_a (re_h (gf_X11_13 (by decide +kernel)) (rg_getf _ _)) <|
  re_a (re_p (ro_iload_n (by decide +kernel) rfl)) <|
  re_a (re_p (ro_iload_n (by decide +kernel) rfl)) <|
  re_a (re_c (ck_X11_122 (by decide +kernel))) <|
  re_a (re_p (ro_if_eq (by decide +kernel) (by decide +kernel))) <|
  re_a (re_p (ro_aload_n (by decide +kernel) rfl)) <|
  re_a (re_h (gf_X11_13 (by decide +kernel)) (rg_getf _ _)) <|
  re_a (re_p (ro_iload_n (by decide +kernel) rfl)) <|
  re_a (re_p (ro_iload (by decide +kernel))) <|
  re_a (re_c (ck_X11_122 (by decide +kernel))) <|
  re_a (re_p (ro_if_ne (by decide +kernel) (by decide +kernel))) <|
  re_a (re_p (ro_iconst (by decide +kernel) (by decide +kernel))) <|
  re_a (re_p (ro_goto (by decide +kernel) (by decide +kernel))) <|
  re_a (re_p (ro_iload_n (by decide +kernel) rfl)) <|
  re_a (re_p (ro_iload_n (by decide +kernel) rfl)) <|
  re_a (re_p (ro_icmp_ne (by decide +kernel) (by decide +kernel))) <|
  re_a (re_p (ro_iconst (by decide +kernel) (by decide +kernel))) <|
  re_a (re_p (ro_goto (by decide +kernel) (by decide +kernel))) <|
  re_a (re_p (ro_aload_n (by decide +kernel) rfl)) <|
  re_a (re_h (gf_X11_13 (by decide +kernel)) (rg_getf _ _)) <|
  re_a (re_p (ro_iconst (by decide +kernel) (by decide +kernel))) <|
  re_a (re_h (rh_iald (by decide +kernel)) rg_iald) <|
  re_a (re_p (ro_bipush (by decide +kernel) (by decide +kernel))) <|
  re_a (re_p (ro_icmp_ge (by decide +kernel) (by decide +kernel))) <|
  re_a (re_p (ro_iconst (by decide +kernel) (by decide +kernel))) <|
  re_a (re_p (ro_goto (by decide +kernel) (by decide +kernel))) <|
  re_a (re_p (ro_iconst (by decide +kernel) (by decide +kernel))) <|
  re_a (re_c (ck_X11_131 (by decide +kernel))) <|
  re_a (re_p (ro_if_eq (by decide +kernel) (by decide +kernel))) <|
  re_a (re_p (ro_iconst (by decide +kernel) (by decide +kernel))) <|
  re_a (re_r ⟨(by decide +kernel), rfl⟩) <|
  re_a (re_p (ro_aload_n (by decide +kernel) rfl)) <|
  re_a (re_c (ck_X11_238 (by decide +kernel))) <|
  re_a (re_p (ro_aload_n (by decide +kernel) rfl)) <|
  re_a (re_h (gf_X11_13 (by decide +kernel)) (rg_getf _ _)) <|
  re_a (re_p (ro_iload_n (by decide +kernel) rfl)) <|
  re_a (re_p (ro_iload_n (by decide +kernel) rfl)) <|
  re_a (re_p (ro_iload_n (by decide +kernel) rfl)) <|
  re_n
theorem mk_205_1 : ∀ q ∈ ([(74, .inl (ri_pu (ri_iload 4 2))), (76, .inr (.inl (177, 5, none))), (79, .inr (.inr 1))] : List (Nat × ri_C)), re_ok Ex D dT 205 q :=
  re_a (re_p (ro_iload (by decide +kernel))) <|
  re_a (re_c (ck_X11_165 (by decide +kernel))) <|
  re_a (re_r ⟨(by decide +kernel), rfl⟩) <|
  re_n
theorem mk_205 : ∀ q ∈ TL_205, re_ok Ex D dT 205 q := re_m mk_205_0 (mk_205_1)
theorem mk_206 : ∀ q ∈ TL_206, re_ok Ex D dT 206 q :=
  re_a (re_p (ro_aload_n (by decide +kernel) rfl)) <|
  re_a (re_p (ro_aload_n (by decide +kernel) rfl)) <|
  re_a (re_h (gf_X11_13 (by decide +kernel)) (rg_getf _ _)) <|
  re_a (re_p (ro_iload_n (by decide +kernel) rfl)) <|
  re_a (re_p (ro_iload_n (by decide +kernel) rfl)) <|
  re_a (re_c (ck_X11_122 (by decide +kernel))) <|
  re_a (re_p (ro_if_ne (by decide +kernel) (by decide +kernel))) <|
  re_a (re_p (ro_iconst (by decide +kernel) (by decide +kernel))) <|
  re_a (re_p (ro_goto (by decide +kernel) (by decide +kernel))) <|
  re_a (re_p (ro_iload_n (by decide +kernel) rfl)) <|
  re_a (re_p (ro_i2l (by decide +kernel))) <|
  re_a (re_p (ro_lconst (by decide +kernel) (by decide +kernel))) <|
  re_a (re_p (ro_ldc2 (by decide +kernel) q_1197)) <|
  re_a (re_c (ck_X11_43 (by decide +kernel))) <|
  re_a (re_p (ro_if_ne (by decide +kernel) (by decide +kernel))) <|
  re_a (re_p (ro_iconst (by decide +kernel) (by decide +kernel))) <|
  re_a (re_p (ro_goto (by decide +kernel) (by decide +kernel))) <|
  re_a (re_p (ro_aload_n (by decide +kernel) rfl)) <|
  re_a (re_h (gf_X11_13 (by decide +kernel)) (rg_getf _ _)) <|
  re_a (re_p (ro_iload_n (by decide +kernel) rfl)) <|
  re_a (re_p (ro_iload_n (by decide +kernel) rfl)) <|
  re_a (re_c (ck_X11_169 (by decide +kernel))) <|
  re_a (re_p (ro_if_eq (by decide +kernel) (by decide +kernel))) <|
  re_a (re_p (ro_iconst (by decide +kernel) (by decide +kernel))) <|
  re_a (re_p (ro_goto (by decide +kernel) (by decide +kernel))) <|
  re_a (re_p (ro_iconst (by decide +kernel) (by decide +kernel))) <|
  re_a (re_c (ck_X11_131 (by decide +kernel))) <|
  re_a (re_p (ro_if_eq (by decide +kernel) (by decide +kernel))) <|
  re_a (re_p (ro_iconst (by decide +kernel) (by decide +kernel))) <|
  re_a (re_r ⟨(by decide +kernel), rfl⟩) <|
  re_a (re_p (ro_aload_n (by decide +kernel) rfl)) <|
  re_a (re_c (ck_X11_238 (by decide +kernel))) <|
  re_a (re_p (ro_aload_n (by decide +kernel) rfl)) <|
  re_a (re_h (gf_X11_13 (by decide +kernel)) (rg_getf _ _)) <|
  re_a (re_p (ro_iload_n (by decide +kernel) rfl)) <|
  re_a (re_p (ro_iload_n (by decide +kernel) rfl)) <|
  re_a (re_p (ro_iload_n (by decide +kernel) rfl)) <|
  re_a (re_c (ck_X11_172 (by decide +kernel))) <|
  re_a (re_r ⟨(by decide +kernel), rfl⟩) <|
  re_n
theorem mk_207 : ∀ q ∈ TL_207, re_ok Ex D dT 207 q :=
  re_a (re_p (ro_aload_n (by decide +kernel) rfl)) <|
  re_a (re_p (ro_aload_n (by decide +kernel) rfl)) <|
  re_a (re_h (gf_X11_13 (by decide +kernel)) (rg_getf _ _)) <|
  re_a (re_p (ro_iload_n (by decide +kernel) rfl)) <|
  re_a (re_p (ro_iload_n (by decide +kernel) rfl)) <|
  re_a (re_c (ck_X11_122 (by decide +kernel))) <|
  re_a (re_p (ro_if_ne (by decide +kernel) (by decide +kernel))) <|
  re_a (re_p (ro_iconst (by decide +kernel) (by decide +kernel))) <|
  re_a (re_p (ro_goto (by decide +kernel) (by decide +kernel))) <|
  re_a (re_p (ro_iload_n (by decide +kernel) rfl)) <|
  re_a (re_p (ro_i2l (by decide +kernel))) <|
  re_a (re_p (ro_lconst (by decide +kernel) (by decide +kernel))) <|
  re_a (re_p (ro_ldc2 (by decide +kernel) q_1197)) <|
  re_a (re_c (ck_X11_43 (by decide +kernel))) <|
  re_a (re_p (ro_if_eq (by decide +kernel) (by decide +kernel))) <|
  re_a (re_p (ro_iconst (by decide +kernel) (by decide +kernel))) <|
  re_a (re_p (ro_goto (by decide +kernel) (by decide +kernel))) <|
  re_a (re_p (ro_iconst (by decide +kernel) (by decide +kernel))) <|
  re_a (re_c (ck_X11_131 (by decide +kernel))) <|
  re_a (re_p (ro_if_eq (by decide +kernel) (by decide +kernel))) <|
  re_a (re_p (ro_iconst (by decide +kernel) (by decide +kernel))) <|
  re_a (re_r ⟨(by decide +kernel), rfl⟩) <|
  re_a (re_p (ro_aload_n (by decide +kernel) rfl)) <|
  re_a (re_c (ck_X11_238 (by decide +kernel))) <|
  re_a (re_p (ro_aload_n (by decide +kernel) rfl)) <|
  re_a (re_h (gf_X11_13 (by decide +kernel)) (rg_getf _ _)) <|
  re_a (re_p (ro_iload_n (by decide +kernel) rfl)) <|
  re_a (re_p (ro_iload_n (by decide +kernel) rfl)) <|
  re_a (re_p (ro_iload_n (by decide +kernel) rfl)) <|
  re_a (re_c (ck_X11_175 (by decide +kernel))) <|
  re_a (re_r ⟨(by decide +kernel), rfl⟩) <|
  re_n
theorem mk_208 : ∀ q ∈ TL_208, re_ok Ex D dT 208 q :=
  re_a (re_p (ro_aload_n (by decide +kernel) rfl)) <|
  re_a (re_p (ro_aload_n (by decide +kernel) rfl)) <|
  re_a (re_h (gf_X11_13 (by decide +kernel)) (rg_getf _ _)) <|
  re_a (re_p (ro_iload_n (by decide +kernel) rfl)) <|
  re_a (re_c (ck_X11_178 (by decide +kernel))) <|
  re_a (re_p (ro_if_eq (by decide +kernel) (by decide +kernel))) <|
  re_a (re_p (ro_aload_n (by decide +kernel) rfl)) <|
  re_a (re_h (gf_X11_13 (by decide +kernel)) (rg_getf _ _)) <|
  re_a (re_p (ro_iload_n (by decide +kernel) rfl)) <|
  re_a (re_c (ck_X11_195 (by decide +kernel))) <|
  re_a (re_p (ro_if_eq (by decide +kernel) (by decide +kernel))) <|
  re_a (re_p (ro_iconst (by decide +kernel) (by decide +kernel))) <|
  re_a (re_p (ro_goto (by decide +kernel) (by decide +kernel))) <|
  re_a (re_p (ro_iconst (by decide +kernel) (by decide +kernel))) <|
  re_a (re_c (ck_X11_131 (by decide +kernel))) <|
  re_a (re_p (ro_if_eq (by decide +kernel) (by decide +kernel))) <|
  re_a (re_p (ro_iconst (by decide +kernel) (by decide +kernel))) <|
  re_a (re_r ⟨(by decide +kernel), rfl⟩) <|
  re_a (re_p (ro_aload_n (by decide +kernel) rfl)) <|
  re_a (re_c (ck_X11_238 (by decide +kernel))) <|
  re_a (re_p (ro_aload_n (by decide +kernel) rfl)) <|
  re_a (re_h (gf_X11_13 (by decide +kernel)) (rg_getf _ _)) <|
  re_a (re_p (ro_iload_n (by decide +kernel) rfl)) <|
  re_a (re_p (ro_iload_n (by decide +kernel) rfl)) <|
  re_a (re_c (ck_X11_198 (by decide +kernel))) <|
  re_a (re_r ⟨(by decide +kernel), rfl⟩) <|
  re_n
theorem mk_209 : ∀ q ∈ TL_209, re_ok Ex D dT 209 q :=
  re_a (re_p (ro_aload_n (by decide +kernel) rfl)) <|
  re_a (re_p (ro_aload_n (by decide +kernel) rfl)) <|
  re_a (re_h (gf_X11_13 (by decide +kernel)) (rg_getf _ _)) <|
  re_a (re_p (ro_iload_n (by decide +kernel) rfl)) <|
  re_a (re_c (ck_X11_178 (by decide +kernel))) <|
  re_a (re_p (ro_if_ne (by decide +kernel) (by decide +kernel))) <|
  re_a (re_p (ro_iconst (by decide +kernel) (by decide +kernel))) <|
  re_a (re_p (ro_goto (by decide +kernel) (by decide +kernel))) <|
  re_a (re_p (ro_iload_n (by decide +kernel) rfl)) <|
  re_a (re_p (ro_iconst (by decide +kernel) (by decide +kernel))) <|
  re_a (re_p (ro_icmp_eq (by decide +kernel) (by decide +kernel))) <|
  re_a (re_p (ro_iload_n (by decide +kernel) rfl)) <|
  re_a (re_p (ro_iconst (by decide +kernel) (by decide +kernel))) <|
  re_a (re_p (ro_icmp_ne (by decide +kernel) (by decide +kernel))) <|
  re_a (re_p (ro_iconst (by decide +kernel) (by decide +kernel))) <|
  re_a (re_p (ro_goto (by decide +kernel) (by decide +kernel))) <|
  re_a (re_p (ro_iconst (by decide +kernel) (by decide +kernel))) <|
  re_a (re_c (ck_X11_131 (by decide +kernel))) <|
  re_a (re_p (ro_if_eq (by decide +kernel) (by decide +kernel))) <|
  re_a (re_p (ro_iconst (by decide +kernel) (by decide +kernel))) <|
  re_a (re_r ⟨(by decide +kernel), rfl⟩) <|
  re_a (re_p (ro_aload_n (by decide +kernel) rfl)) <|
  re_a (re_c (ck_X11_238 (by decide +kernel))) <|
  re_a (re_p (ro_aload_n (by decide +kernel) rfl)) <|
  re_a (re_h (gf_X11_13 (by decide +kernel)) (rg_getf _ _)) <|
  re_a (re_p (ro_iload_n (by decide +kernel) rfl)) <|
  re_a (re_p (ro_iload_n (by decide +kernel) rfl)) <|
  re_a (re_c (ck_X11_181 (by decide +kernel))) <|
  re_a (re_r ⟨(by decide +kernel), rfl⟩) <|
  re_n
theorem mk_210 : ∀ q ∈ TL_210, re_ok Ex D dT 210 q :=
  re_a (re_p (ro_aload_n (by decide +kernel) rfl)) <|
  re_a (re_p (ro_aload_n (by decide +kernel) rfl)) <|
  re_a (re_h (gf_X11_13 (by decide +kernel)) (rg_getf _ _)) <|
  re_a (re_p (ro_iload_n (by decide +kernel) rfl)) <|
  re_a (re_c (ck_X11_47 (by decide +kernel))) <|
  re_a (re_p (ro_if_ne (by decide +kernel) (by decide +kernel))) <|
  re_a (re_p (ro_iconst (by decide +kernel) (by decide +kernel))) <|
  re_a (re_p (ro_goto (by decide +kernel) (by decide +kernel))) <|
  re_a (re_p (ro_iload_n (by decide +kernel) rfl)) <|
  re_a (re_p (ro_i2l (by decide +kernel))) <|
  re_a (re_p (ro_ldc2 (by decide +kernel) q_1362)) <|
  re_a (re_p (ro_ldc2 (by decide +kernel) q_1363)) <|
  re_a (re_c (ck_X11_43 (by decide +kernel))) <|
  re_a (re_p (ro_if_eq (by decide +kernel) (by decide +kernel))) <|
  re_a (re_p (ro_iconst (by decide +kernel) (by decide +kernel))) <|
  re_a (re_p (ro_goto (by decide +kernel) (by decide +kernel))) <|
  re_a (re_p (ro_iconst (by decide +kernel) (by decide +kernel))) <|
  re_a (re_c (ck_X11_131 (by decide +kernel))) <|
  re_a (re_p (ro_if_eq (by decide +kernel) (by decide +kernel))) <|
  re_a (re_p (ro_iconst (by decide +kernel) (by decide +kernel))) <|
  re_a (re_r ⟨(by decide +kernel), rfl⟩) <|
  re_a (re_p (ro_aload_n (by decide +kernel) rfl)) <|
  re_a (re_c (ck_X11_238 (by decide +kernel))) <|
  re_a (re_p (ro_aload_n (by decide +kernel) rfl)) <|
  re_a (re_h (gf_X11_13 (by decide +kernel)) (rg_getf _ _)) <|
  re_a (re_p (ro_iload_n (by decide +kernel) rfl)) <|
  re_a (re_p (ro_iload_n (by decide +kernel) rfl)) <|
  re_a (re_c (ck_X11_204 (by decide +kernel))) <|
  re_a (re_r ⟨(by decide +kernel), rfl⟩) <|
  re_n
theorem mk_211 : ∀ q ∈ TL_211, re_ok Ex D dT 211 q :=
  re_a (re_p (ro_aload_n (by decide +kernel) rfl)) <|
  re_a (re_p (ro_iload_n (by decide +kernel) rfl)) <|
  re_a (re_p (ro_i2l (by decide +kernel))) <|
  re_a (re_p (ro_lconst (by decide +kernel) (by decide +kernel))) <|
  re_a (re_p (ro_lconst (by decide +kernel) (by decide +kernel))) <|
  re_a (re_c (ck_X11_43 (by decide +kernel))) <|
  re_a (re_p (ro_if_eq (by decide +kernel) (by decide +kernel))) <|
  re_a (re_p (ro_iconst (by decide +kernel) (by decide +kernel))) <|
  re_a (re_p (ro_goto (by decide +kernel) (by decide +kernel))) <|
  re_a (re_p (ro_iconst (by decide +kernel) (by decide +kernel))) <|
  re_a (re_c (ck_X11_131 (by decide +kernel))) <|
  re_a (re_p (ro_if_eq (by decide +kernel) (by decide +kernel))) <|
  re_a (re_p (ro_iconst (by decide +kernel) (by decide +kernel))) <|
  re_a (re_r ⟨(by decide +kernel), rfl⟩) <|
  re_a (re_p (ro_aload_n (by decide +kernel) rfl)) <|
  re_a (re_c (ck_X11_238 (by decide +kernel))) <|
  re_a (re_p (ro_aload_n (by decide +kernel) rfl)) <|
  re_a (re_h (gf_X11_13 (by decide +kernel)) (rg_getf _ _)) <|
  re_a (re_p (ro_bipush (by decide +kernel) (by decide +kernel))) <|
  re_a (re_h (rh_iald (by decide +kernel)) rg_iald) <|
  re_a (re_p (ro_istore_n (by decide +kernel) rfl (by decide +kernel))) <|
  re_a (re_p (ro_aload_n (by decide +kernel) rfl)) <|
  re_a (re_h (gf_X11_13 (by decide +kernel)) (rg_getf _ _)) <|
  re_a (re_p (ro_bipush (by decide +kernel) (by decide +kernel))) <|
  re_a (re_p (ro_iload_n (by decide +kernel) rfl)) <|
  re_a (re_h (rh_iast (by decide +kernel)) rg_iast) <|
  re_a (re_p (ro_iload_n (by decide +kernel) rfl)) <|
  re_a (re_r ⟨(by decide +kernel), rfl⟩) <|
  re_n
theorem mk_212 : ∀ q ∈ TL_212, re_ok Ex D dT 212 q :=
  re_a (re_p (ro_aload_n (by decide +kernel) rfl)) <|
  re_a (re_p (ro_aload_n (by decide +kernel) rfl)) <|
  re_a (re_h (gf_X11_218 (by decide +kernel)) (rg_getf _ _)) <|
  re_a (re_p (ro_if_ne (by decide +kernel) (by decide +kernel))) <|
  re_a (re_p (ro_iconst (by decide +kernel) (by decide +kernel))) <|
  re_a (re_p (ro_goto (by decide +kernel) (by decide +kernel))) <|
  re_a (re_p (ro_iconst (by decide +kernel) (by decide +kernel))) <|
  re_a (re_c (ck_X11_131 (by decide +kernel))) <|
  re_a (re_p (ro_if_eq (by decide +kernel) (by decide +kernel))) <|
  re_a (re_p (ro_iconst (by decide +kernel) (by decide +kernel))) <|
  re_a (re_r ⟨(by decide +kernel), rfl⟩) <|
  re_a (re_p (ro_aload_n (by decide +kernel) rfl)) <|
  re_a (re_p (ro_dup (by decide +kernel))) <|
  re_a (re_h (gf_X11_218 (by decide +kernel)) (rg_getf _ _)) <|
  re_a (re_p (ro_iconst (by decide +kernel) (by decide +kernel))) <|
  re_a (re_p (ro_isub (by decide +kernel))) <|
  re_a (re_h (pf_X11_218 (by decide +kernel)) (rg_puti _ _)) <|
  re_a (re_p (ro_aload_n (by decide +kernel) rfl)) <|
  re_a (re_h (gf_X11_19 (by decide +kernel)) (rg_getf _ _)) <|
  re_a (re_p (ro_bipush (by decide +kernel) (by decide +kernel))) <|
  re_a (re_p (ro_aload_n (by decide +kernel) rfl)) <|
  re_a (re_h (gf_X11_218 (by decide +kernel)) (rg_getf _ _)) <|
  re_a (re_p (ro_imul (by decide +kernel))) <|
  re_a (re_p (ro_aload_n (by decide +kernel) rfl)) <|
  re_a (re_h (gf_X11_13 (by decide +kernel)) (rg_getf _ _)) <|
  re_a (re_p (ro_iconst (by decide +kernel) (by decide +kernel))) <|
  re_a (re_c (ck_X11_214 (by decide +kernel))) <|
  re_a (re_p (ro_aload_n (by decide +kernel) rfl)) <|
  re_a (re_h (gf_X11_218 (by decide +kernel)) (rg_getf _ _)) <|
  re_a (re_r ⟨(by decide +kernel), rfl⟩) <|
  re_n
theorem mk_213 : ∀ q ∈ TL_213, re_ok Ex D dT 213 q :=
  re_a (re_p (ro_aload_n (by decide +kernel) rfl)) <|
  re_a (re_p (ro_aload_n (by decide +kernel) rfl)) <|
  re_a (re_h (gf_X11_13 (by decide +kernel)) (rg_getf _ _)) <|
  re_a (re_p (ro_iload_n (by decide +kernel) rfl)) <|
  re_a (re_c (ck_X11_178 (by decide +kernel))) <|
  re_a (re_p (ro_if_eq (by decide +kernel) (by decide +kernel))) <|
  re_a (re_p (ro_aload_n (by decide +kernel) rfl)) <|
  re_a (re_h (gf_X11_13 (by decide +kernel)) (rg_getf _ _)) <|
  re_a (re_p (ro_iload_n (by decide +kernel) rfl)) <|
  re_a (re_c (ck_X11_195 (by decide +kernel))) <|
  re_a (re_p (ro_if_eq (by decide +kernel) (by decide +kernel))) <|
  re_a (re_p (ro_iconst (by decide +kernel) (by decide +kernel))) <|
  re_a (re_p (ro_goto (by decide +kernel) (by decide +kernel))) <|
  re_a (re_p (ro_iconst (by decide +kernel) (by decide +kernel))) <|
  re_a (re_c (ck_X11_131 (by decide +kernel))) <|
  re_a (re_p (ro_if_eq (by decide +kernel) (by decide +kernel))) <|
  re_a (re_p (ro_iconst (by decide +kernel) (by decide +kernel))) <|
  re_a (re_r ⟨(by decide +kernel), rfl⟩) <|
  re_a (re_p (ro_aload_n (by decide +kernel) rfl)) <|
  re_a (re_h (gf_X11_13 (by decide +kernel)) (rg_getf _ _)) <|
  re_a (re_p (ro_iload_n (by decide +kernel) rfl)) <|
  re_a (re_p (ro_iload_n (by decide +kernel) rfl)) <|
  re_a (re_c (ck_X11_96 (by decide +kernel))) <|
  re_a (re_r ⟨(by decide +kernel), rfl⟩) <|
  re_n
theorem mk_214_0 : ∀ q ∈ ([(0, .inl (ri_pu (ri_icon 0 1))), (1, .inl (ri_pu (ri_istore 2 1))), (2, .inl (ri_pu (ri_icon 0 1))), (3, .inl (ri_pu (ri_istore 3 1))), (4, .inl (ri_pu (ri_iload 3 1))), (5, .inl (ri_pu (ri_icon 3 1))), (6, .inl (ri_pu (ri_icmp (fun x y => decide (y ≤ x)) 43))), (9, .inl (ri_pu (ri_icon 5 1))), (10, .inl (ri_pu (ri_iload 2 1))), (11, .inl (ri_pu (ri_ib fun x y => x * y))), (12, .inl (ri_pu (ri_iload 3 1))), (13, .inl (ri_pu (ri_aload 0 1))), (14, .inl (ri_getf 9 4)), (17, .inl (ri_pu (ri_icon 0 1))), (18, .inl ri_iald), (19, .inl (ri_pu (ri_icmp (fun x y => decide (y ≤ x)) 34))), (22, .inl (ri_pu (ri_aload 0 1))), (23, .inl (ri_getf 9 4)), (26, .inl (ri_pu (ri_iload 3 1))), (27, .inl (ri_pu (ri_icon 3 1))), (28, .inr (.inl (149, 3, none))), (31, .inl (ri_pu (ri_goto 35))), (34, .inl (ri_pu (ri_icon 0 1))), (35, .inl (ri_pu (ri_ib fun x y => x + y))), (36, .inl (ri_pu (ri_istore 2 1))), (37, .inl (ri_pu (ri_iinc 3 1))), (40, .inl (ri_pu (ri_goto 4))), (43, .inl (ri_pu (ri_icon 15 2))), (45, .inl (ri_pu (ri_iload 2 1))), (46, .inl (ri_pu (ri_ib fun x y => x * y))), (47, .inl (ri_pu (ri_icon 5 1))), (48, .inl (ri_pu (ri_aload 0 1))), (49, .inl (ri_getf 9 4)), (52, .inl (ri_pu (ri_iload 1 1))), (53, .inl (ri_pu (ri_icon 1 1))), (54, .inr (.inl (150, 3, none))), (57, .inl (ri_pu (ri_ib fun x y => x * y))), (58, .inl (ri_pu (ri_ib fun x y => x + y))), (59, .inl (ri_pu (ri_aload 0 1))), (60, .inl (ri_getf 9 4))] : List (Nat × ri_C)), re_ok Ex D dT 214 q :=
  re_a (re_p (ro_iconst (by decide +kernel) (by decide +kernel))) <|
  re_a (re_p (ro_istore_n (by decide +kernel) rfl (by decide +kernel))) <|
  re_a (re_p (ro_iconst (by decide +kernel) (by decide +kernel))) <|
  re_a (re_p (ro_istore_n (by decide +kernel) rfl (by decide +kernel))) <|
  re_a (re_p (ro_iload_n (by decide +kernel) rfl)) <|
  re_a (re_p (ro_iconst (by decide +kernel) (by decide +kernel))) <|
  re_a (re_p (ro_icmp_ge (by decide +kernel) (by decide +kernel))) <|
  re_a (re_p (ro_iconst (by decide +kernel) (by decide +kernel))) <|
  re_a (re_p (ro_iload_n (by decide +kernel) rfl)) <|
  re_a (re_p (ro_imul (by decide +kernel))) <|
  re_a (re_p (ro_iload_n (by decide +kernel) rfl)) <|
  re_a (re_p (ro_aload_n (by decide +kernel) rfl)) <|
  re_a (re_h (gf_X11_16 (by decide +kernel)) (rg_getf _ _)) <|
  re_a (re_p (ro_iconst (by decide +kernel) (by decide +kernel))) <|
  re_a (re_h (rh_iald (by decide +kernel)) rg_iald) <|
  re_a (re_p (ro_icmp_ge (by decide +kernel) (by decide +kernel))) <|
  re_a (re_p (ro_aload_n (by decide +kernel) rfl)) <|
  re_a (re_h (gf_X11_16 (by decide +kernel)) (rg_getf _ _)) <|
  re_a (re_p (ro_iload_n (by decide +kernel) rfl)) <|
  re_a (re_p (ro_iconst (by decide +kernel) (by decide +kernel))) <|
  re_a (re_c (ck_X11_51 (by decide +kernel))) <|
  re_a (re_p (ro_goto (by decide +kernel) (by decide +kernel))) <|
  re_a (re_p (ro_iconst (by decide +kernel) (by decide +kernel))) <|
  re_a (re_p (ro_iadd (by decide +kernel))) <|
  re_a (re_p (ro_istore_n (by decide +kernel) rfl (by decide +kernel))) <|
  re_a (re_p (ro_iinc (by decide +kernel) (by decide +kernel) (by decide +kernel))) <|
  re_a (re_p (ro_goto (by decide +kernel) (by decide +kernel))) <|
  re_a (re_p (ro_bipush (by decide +kernel) (by decide +kernel))) <|
  re_a (re_p (ro_iload_n (by decide +kernel) rfl)) <|
  re_a (re_p (ro_imul (by decide +kernel))) <|
  re_a (re_p (ro_iconst (by decide +kernel) (by decide +kernel))) <|
  re_a (re_p (ro_aload_n (by decide +kernel) rfl)) <|
  re_a (re_h (gf_X11_16 (by decide +kernel)) (rg_getf _ _)) <|
  re_a (re_p (ro_iload_n (by decide +kernel) rfl)) <|
  re_a (re_p (ro_iconst (by decide +kernel) (by decide +kernel))) <|
  re_a (re_c (ck_X11_59 (by decide +kernel))) <|
  re_a (re_p (ro_imul (by decide +kernel))) <|
  re_a (re_p (ro_iadd (by decide +kernel))) <|
  re_a (re_p (ro_aload_n (by decide +kernel) rfl)) <|
  re_a (re_h (gf_X11_16 (by decide +kernel)) (rg_getf _ _)) <|
  re_n
theorem mk_214_1 : ∀ q ∈ ([(63, .inl (ri_pu (ri_iload 1 1))), (64, .inl (ri_pu (ri_icon 2 1))), (65, .inr (.inl (150, 3, none))), (68, .inl (ri_pu (ri_ib fun x y => x + y))), (69, .inr (.inr 1))] : List (Nat × ri_C)), re_ok Ex D dT 214 q :=
  re_a (re_p (ro_iload_n (by decide +kernel) rfl)) <|
  re_a (re_p (ro_iconst (by decide +kernel) (by decide +kernel))) <|
  re_a (re_c (ck_X11_59 (by decide +kernel))) <|
  re_a (re_p (ro_iadd (by decide +kernel))) <|
  re_a (re_r ⟨(by decide +kernel), rfl⟩) <|
  re_n
theorem mk_214 : ∀ q ∈ TL_214, re_ok Ex D dT 214 q := re_m mk_214_0 (mk_214_1)
theorem mk_215_0 : ∀ q ∈ ([(0, .inl (ri_pu (ri_iload 2 1))), (1, .inl (ri_pu (ri_icon 15 2))), (3, .inl (ri_pu (ri_idr fun x y => x / y))), (4, .inl (ri_pu (ri_istore 3 1))), (5, .inl (ri_pu (ri_icon 2 1))), (6, .inl (ri_pu (ri_istore 4 2))), (8, .inl (ri_pu (ri_iload 4 2))), (10, .inl (ri_pu (ri_if (fun x => decide (x < 0)) 41))), (13, .inl (ri_pu (ri_aload 0 1))), (14, .inl (ri_getf 9 4)), (17, .inl (ri_pu (ri_icon 9 2))), (19, .inl (ri_pu (ri_icon 10 2))), (21, .inl (ri_pu (ri_iload 4 2))), (23, .inl (ri_pu (ri_ib fun x y => x * y))), (24, .inl (ri_pu (ri_ib fun x y => x + y))), (25, .inl (ri_pu (ri_icon 3 1))), (26, .inl (ri_pu (ri_ib fun x y => x + y))), (27, .inl (ri_pu (ri_iload 3 1))), (28, .inl (ri_pu (ri_icon 5 1))), (29, .inl (ri_pu (ri_idr fun x y => x - x / y * y))), (30, .inl ri_iast), (31, .inl (ri_pu (ri_iload 3 1))), (32, .inl (ri_pu (ri_icon 5 1))), (33, .inl (ri_pu (ri_idr fun x y => x / y))), (34, .inl (ri_pu (ri_istore 3 1))), (35, .inl (ri_pu (ri_iinc 4 (-1)))), (38, .inl (ri_pu (ri_goto 8))), (41, .inl (ri_pu (ri_aload 0 1))), (42, .inl (ri_getf 9 4)), (45, .inl (ri_pu (ri_icon 71 2))), (47, .inl (ri_pu (ri_icon 5 1))), (48, .inl (ri_pu (ri_iload 1 1))), (49, .inl (ri_pu (ri_ib fun x y => x * y))), (50, .inl (ri_pu (ri_ib fun x y => x + y))), (51, .inl (ri_pu (ri_icon 1 1))), (52, .inl (ri_pu (ri_ib fun x y => x + y))), (53, .inl (ri_pu (ri_iload 2 1))), (54, .inl (ri_pu (ri_icon 15 2))), (56, .inl (ri_pu (ri_idr fun x y => x - x / y * y))), (57, .inl (ri_pu (ri_icon 5 1)))] : List (Nat × ri_C)), re_ok Ex D dT 215 q :=
  re_a (re_p (ro_iload_n (by decide +kernel) rfl)) <|
  re_a (re_p (ro_bipush (by decide +kernel) (by decide +kernel))) <|
  re_a (re_p (ro_idiv (by decide +kernel))) <|
  re_a (re_p (ro_istore_n (by decide +kernel) rfl (by decide +kernel))) <|
  re_a (re_p (ro_iconst (by decide +kernel) (by decide +kernel))) <|
  re_a (re_p (ro_istore (by decide +kernel) (by decide +kernel))) <|
  re_a (re_p (ro_iload (by decide +kernel))) <|
  re_a (re_p (ro_if_lt (by decide +kernel) (by decide +kernel))) <|
  re_a (re_p (ro_aload_n (by decide +kernel) rfl)) <|
  re_a (re_h (gf_X11_16 (by decide +kernel)) (rg_getf _ _)) <|
  re_a (re_p (ro_bipush (by decide +kernel) (by decide +kernel))) <|
  re_a (re_p (ro_bipush (by decide +kernel) (by decide +kernel))) <|
  re_a (re_p (ro_iload (by decide +kernel))) <|
  re_a (re_p (ro_imul (by decide +kernel))) <|
  re_a (re_p (ro_iadd (by decide +kernel))) <|
  re_a (re_p (ro_iconst (by decide +kernel) (by decide +kernel))) <|
  re_a (re_p (ro_iadd (by decide +kernel))) <|
  re_a (re_p (ro_iload_n (by decide +kernel) rfl)) <|
  re_a (re_p (ro_iconst (by decide +kernel) (by decide +kernel))) <|
  re_a (re_p (ro_irem (by decide +kernel))) <|
  re_a (re_h (rh_iast (by decide +kernel)) rg_iast) <|
  re_a (re_p (ro_iload_n (by decide +kernel) rfl)) <|
  re_a (re_p (ro_iconst (by decide +kernel) (by decide +kernel))) <|
  re_a (re_p (ro_idiv (by decide +kernel))) <|
  re_a (re_p (ro_istore_n (by decide +kernel) rfl (by decide +kernel))) <|
  re_a (re_p (ro_iinc (by decide +kernel) (by decide +kernel) (by decide +kernel))) <|
  re_a (re_p (ro_goto (by decide +kernel) (by decide +kernel))) <|
  re_a (re_p (ro_aload_n (by decide +kernel) rfl)) <|
  re_a (re_h (gf_X11_16 (by decide +kernel)) (rg_getf _ _)) <|
  re_a (re_p (ro_bipush (by decide +kernel) (by decide +kernel))) <|
  re_a (re_p (ro_iconst (by decide +kernel) (by decide +kernel))) <|
  re_a (re_p (ro_iload_n (by decide +kernel) rfl)) <|
  re_a (re_p (ro_imul (by decide +kernel))) <|
  re_a (re_p (ro_iadd (by decide +kernel))) <|
  re_a (re_p (ro_iconst (by decide +kernel) (by decide +kernel))) <|
  re_a (re_p (ro_iadd (by decide +kernel))) <|
  re_a (re_p (ro_iload_n (by decide +kernel) rfl)) <|
  re_a (re_p (ro_bipush (by decide +kernel) (by decide +kernel))) <|
  re_a (re_p (ro_irem (by decide +kernel))) <|
  re_a (re_p (ro_iconst (by decide +kernel) (by decide +kernel))) <|
  re_n
theorem mk_215_1 : ∀ q ∈ ([(58, .inl (ri_pu (ri_idr fun x y => x / y))), (59, .inl ri_iast), (60, .inl (ri_pu (ri_aload 0 1))), (61, .inl (ri_getf 9 4)), (64, .inl (ri_pu (ri_icon 71 2))), (66, .inl (ri_pu (ri_icon 5 1))), (67, .inl (ri_pu (ri_iload 1 1))), (68, .inl (ri_pu (ri_ib fun x y => x * y))), (69, .inl (ri_pu (ri_ib fun x y => x + y))), (70, .inl (ri_pu (ri_icon 2 1))), (71, .inl (ri_pu (ri_ib fun x y => x + y))), (72, .inl (ri_pu (ri_iload 2 1))), (73, .inl (ri_pu (ri_icon 5 1))), (74, .inl (ri_pu (ri_idr fun x y => x - x / y * y))), (75, .inl ri_iast), (76, .inr (.inr 0))] : List (Nat × ri_C)), re_ok Ex D dT 215 q :=
  re_a (re_p (ro_idiv (by decide +kernel))) <|
  re_a (re_h (rh_iast (by decide +kernel)) rg_iast) <|
  re_a (re_p (ro_aload_n (by decide +kernel) rfl)) <|
  re_a (re_h (gf_X11_16 (by decide +kernel)) (rg_getf _ _)) <|
  re_a (re_p (ro_bipush (by decide +kernel) (by decide +kernel))) <|
  re_a (re_p (ro_iconst (by decide +kernel) (by decide +kernel))) <|
  re_a (re_p (ro_iload_n (by decide +kernel) rfl)) <|
  re_a (re_p (ro_imul (by decide +kernel))) <|
  re_a (re_p (ro_iadd (by decide +kernel))) <|
  re_a (re_p (ro_iconst (by decide +kernel) (by decide +kernel))) <|
  re_a (re_p (ro_iadd (by decide +kernel))) <|
  re_a (re_p (ro_iload_n (by decide +kernel) rfl)) <|
  re_a (re_p (ro_iconst (by decide +kernel) (by decide +kernel))) <|
  re_a (re_p (ro_irem (by decide +kernel))) <|
  re_a (re_h (rh_iast (by decide +kernel)) rg_iast) <|
  re_a (re_r ⟨(by decide +kernel), rfl⟩) <|
  re_n
theorem mk_215 : ∀ q ∈ TL_215, re_ok Ex D dT 215 q := re_m mk_215_0 (mk_215_1)
theorem mk_216_0 : ∀ q ∈ ([(0, .inl (ri_pu (ri_iload 2 1))), (1, .inl (ri_pu (ri_icon 8 2))), (3, .inl (ri_pu (ri_icmp (fun x y => decide (y ≤ x)) 50))), (6, .inl (ri_pu (ri_aload 0 1))), (7, .inl (ri_getf 9 4)), (10, .inl (ri_pu (ri_iload 2 1))), (11, .inr (.inl (155, 2, none))), (14, .inl (ri_pu (ri_if (fun x => decide (x = 0)) 33))), (17, .inl (ri_pu (ri_aload 0 1))), (18, .inl (ri_getf 9 4)), (21, .inl (ri_pu (ri_iload 1 1))), (22, .inl (ri_pu (ri_iload 2 1))), (23, .inr (.inl (164, 3, none))), (26, .inl (ri_pu (ri_if (fun x => decide (¬ x = 0)) 33))), (29, .inl (ri_pu (ri_icon 1 1))), (30, .inl (ri_pu (ri_goto 34))), (33, .inl (ri_pu (ri_icon 0 1))), (34, .inl (ri_pu (ri_istore 3 1))), (35, .inl (ri_pu (ri_iload 3 1))), (36, .inl (ri_pu (ri_if (fun x => decide (x = 0)) 48))), (39, .inl (ri_pu (ri_aload 0 1))), (40, .inl (ri_getf 9 4)), (43, .inl (ri_pu (ri_iload 1 1))), (44, .inl (ri_pu (ri_iload 2 1))), (45, .inr (.inl (169, 3, none))), (48, .inl (ri_pu (ri_iload 3 1))), (49, .inr (.inr 2)), (50, .inl (ri_pu (ri_iload 2 1))), (51, .inl (ri_pu (ri_icon 8 2))), (53, .inl (ri_pu (ri_icmp (fun x y => decide (¬ x = y)) 60))), (56, .inl (ri_pu (ri_icon 1 1))), (57, .inl (ri_pu (ri_goto 61))), (60, .inl (ri_pu (ri_icon (-1) 1))), (61, .inl (ri_pu (ri_istore 3 1))), (62, .inl (ri_pu (ri_aload 0 1))), (63, .inl (ri_getf 9 4)), (66, .inl (ri_pu (ri_iload 1 1))), (67, .inl (ri_pu (ri_iload 3 1))), (68, .inr (.inl (165, 3, none))), (71, .inl (ri_pu (ri_if (fun x => decide (¬ x = 0)) 78)))] : List (Nat × ri_C)), re_ok Ex D dT 216 q :=
  re_a (re_p (ro_iload_n (by decide +kernel) rfl)) <|
  re_a (re_p (ro_bipush (by decide +kernel) (by decide +kernel))) <|
  re_a (re_p (ro_icmp_ge (by decide +kernel) (by decide +kernel))) <|
  re_a (re_p (ro_aload_n (by decide +kernel) rfl)) <|
  re_a (re_h (gf_X11_16 (by decide +kernel)) (rg_getf _ _)) <|
  re_a (re_p (ro_iload_n (by decide +kernel) rfl)) <|
  re_a (re_c (ck_X11_195 (by decide +kernel))) <|
  re_a (re_p (ro_if_eq (by decide +kernel) (by decide +kernel))) <|
  re_a (re_p (ro_aload_n (by decide +kernel) rfl)) <|
  re_a (re_h (gf_X11_16 (by decide +kernel)) (rg_getf _ _)) <|
  re_a (re_p (ro_iload_n (by decide +kernel) rfl)) <|
  re_a (re_p (ro_iload_n (by decide +kernel) rfl)) <|
  re_a (re_c (ck_X11_96 (by decide +kernel))) <|
  re_a (re_p (ro_if_ne (by decide +kernel) (by decide +kernel))) <|
  re_a (re_p (ro_iconst (by decide +kernel) (by decide +kernel))) <|
  re_a (re_p (ro_goto (by decide +kernel) (by decide +kernel))) <|
  re_a (re_p (ro_iconst (by decide +kernel) (by decide +kernel))) <|
  re_a (re_p (ro_istore_n (by decide +kernel) rfl (by decide +kernel))) <|
  re_a (re_p (ro_iload_n (by decide +kernel) rfl)) <|
  re_a (re_p (ro_if_eq (by decide +kernel) (by decide +kernel))) <|
  re_a (re_p (ro_aload_n (by decide +kernel) rfl)) <|
  re_a (re_h (gf_X11_16 (by decide +kernel)) (rg_getf _ _)) <|
  re_a (re_p (ro_iload_n (by decide +kernel) rfl)) <|
  re_a (re_p (ro_iload_n (by decide +kernel) rfl)) <|
  re_a (re_c (ck_X11_99 (by decide +kernel))) <|
  re_a (re_p (ro_iload_n (by decide +kernel) rfl)) <|
  re_a (re_r ⟨(by decide +kernel), rfl⟩) <|
  re_a (re_p (ro_iload_n (by decide +kernel) rfl)) <|
  re_a (re_p (ro_bipush (by decide +kernel) (by decide +kernel))) <|
  re_a (re_p (ro_icmp_ne (by decide +kernel) (by decide +kernel))) <|
  re_a (re_p (ro_iconst (by decide +kernel) (by decide +kernel))) <|
  re_a (re_p (ro_goto (by decide +kernel) (by decide +kernel))) <|
  re_a (re_p (ro_iconst (by decide +kernel) (by decide +kernel))) <|
  re_a (re_p (ro_istore_n (by decide +kernel) rfl (by decide +kernel))) <|
  re_a (re_p (ro_aload_n (by decide +kernel) rfl)) <|
  re_a (re_h (gf_X11_16 (by decide +kernel)) (rg_getf _ _)) <|
  re_a (re_p (ro_iload_n (by decide +kernel) rfl)) <|
  re_a (re_p (ro_iload_n (by decide +kernel) rfl)) <|
  re_a (re_c (ck_X11_106 (by decide +kernel))) <|
  re_a (re_p (ro_if_ne (by decide +kernel) (by decide +kernel))) <|
  re_n
theorem mk_216_1 : ∀ q ∈ ([(74, .inl (ri_pu (ri_icon 1 1))), (75, .inl (ri_pu (ri_goto 79))), (78, .inl (ri_pu (ri_icon 0 1))), (79, .inl (ri_pu (ri_istore 4 2))), (81, .inl (ri_pu (ri_iload 4 2))), (83, .inl (ri_pu (ri_if (fun x => decide (x = 0)) 95))), (86, .inl (ri_pu (ri_aload 0 1))), (87, .inl (ri_getf 9 4)), (90, .inl (ri_pu (ri_iload 1 1))), (91, .inl (ri_pu (ri_iload 3 1))), (92, .inr (.inl (170, 3, none))), (95, .inl (ri_pu (ri_iload 4 2))), (97, .inr (.inr 2))] : List (Nat × ri_C)), re_ok Ex D dT 216 q :=
  re_a (re_p (ro_iconst (by decide +kernel) (by decide +kernel))) <|
  re_a (re_p (ro_goto (by decide +kernel) (by decide +kernel))) <|
  re_a (re_p (ro_iconst (by decide +kernel) (by decide +kernel))) <|
  re_a (re_p (ro_istore (by decide +kernel) (by decide +kernel))) <|
  re_a (re_p (ro_iload (by decide +kernel))) <|
  re_a (re_p (ro_if_eq (by decide +kernel) (by decide +kernel))) <|
  re_a (re_p (ro_aload_n (by decide +kernel) rfl)) <|
  re_a (re_h (gf_X11_16 (by decide +kernel)) (rg_getf _ _)) <|
  re_a (re_p (ro_iload_n (by decide +kernel) rfl)) <|
  re_a (re_p (ro_iload_n (by decide +kernel) rfl)) <|
  re_a (re_c (ck_X11_109 (by decide +kernel))) <|
  re_a (re_p (ro_iload (by decide +kernel))) <|
  re_a (re_r ⟨(by decide +kernel), rfl⟩) <|
  re_n
theorem mk_216 : ∀ q ∈ TL_216, re_ok Ex D dT 216 q := re_m mk_216_0 (mk_216_1)
theorem mk_217_0 : ∀ q ∈ ([(0, .inl (ri_pu (ri_icon 0 1))), (1, .inl (ri_pu (ri_istore 2 1))), (2, .inl (ri_pu (ri_iload 2 1))), (3, .inl (ri_pu (ri_icon 1875 3))), (6, .inl (ri_pu (ri_icmp (fun x y => decide (y ≤ x)) 22))), (9, .inl (ri_pu (ri_aload 0 1))), (10, .inl (ri_getf 9 9)), (13, .inl (ri_pu (ri_iload 2 1))), (14, .inl (ri_pu (ri_icon (-1) 1))), (15, .inl ri_iast), (16, .inl (ri_pu (ri_iinc 2 1))), (19, .inl (ri_pu (ri_goto 2))), (22, .inl (ri_pu (ri_aload 0 1))), (23, .inl (ri_getf 9 3)), (26, .inl (ri_pu (ri_icon 0 1))), (27, .inl (ri_pu (ri_aload 0 1))), (28, .inl (ri_getf 9 4)), (31, .inl (ri_pu (ri_icon 0 1))), (32, .inr (.inl (147, 4, none))), (35, .inl (ri_pu (ri_aload 0 1))), (36, .inl (ri_getf 9 4)), (39, .inl (ri_pu (ri_icon 8 2))), (41, .inl (ri_pu (ri_icon 0 1))), (42, .inl ri_iast), (43, .inl (ri_pu (ri_icon 1 1))), (44, .inl (ri_pu (ri_istore 2 1))), (45, .inl (ri_pu (ri_aload 0 1))), (46, .inl (ri_getf 9 10)), (49, .inl (ri_pu (ri_icon 0 1))), (50, .inl (ri_pu (ri_aload 0 1))), (51, .inl (ri_pu (ri_iload 1 1))), (52, .inr (.inl (214, 2, some 9))), (55, .inl ri_iast), (56, .inl (ri_pu (ri_aload 0 1))), (57, .inl (ri_getf 9 9)), (60, .inl (ri_pu (ri_aload 0 1))), (61, .inl (ri_getf 9 10)), (64, .inl (ri_pu (ri_icon 0 1))), (65, .inl ri_iald), (66, .inl (ri_pu (ri_icon 0 1)))] : List (Nat × ri_C)), re_ok Ex D dT 217 q :=
  re_a (re_p (ro_iconst (by decide +kernel) (by decide +kernel))) <|
  re_a (re_p (ro_istore_n (by decide +kernel) rfl (by decide +kernel))) <|
  re_a (re_p (ro_iload_n (by decide +kernel) rfl)) <|
  re_a (re_p (ro_sipush (by decide +kernel) (by decide +kernel))) <|
  re_a (re_p (ro_icmp_ge (by decide +kernel) (by decide +kernel))) <|
  re_a (re_p (ro_aload_n (by decide +kernel) rfl)) <|
  re_a (re_h (gf_X11_29 (by decide +kernel)) (rg_getf _ _)) <|
  re_a (re_p (ro_iload_n (by decide +kernel) rfl)) <|
  re_a (re_p (ro_iconst (by decide +kernel) (by decide +kernel))) <|
  re_a (re_h (rh_iast (by decide +kernel)) rg_iast) <|
  re_a (re_p (ro_iinc (by decide +kernel) (by decide +kernel) (by decide +kernel))) <|
  re_a (re_p (ro_goto (by decide +kernel) (by decide +kernel))) <|
  re_a (re_p (ro_aload_n (by decide +kernel) rfl)) <|
  re_a (re_h (gf_X11_13 (by decide +kernel)) (rg_getf _ _)) <|
  re_a (re_p (ro_iconst (by decide +kernel) (by decide +kernel))) <|
  re_a (re_p (ro_aload_n (by decide +kernel) rfl)) <|
  re_a (re_h (gf_X11_16 (by decide +kernel)) (rg_getf _ _)) <|
  re_a (re_p (ro_iconst (by decide +kernel) (by decide +kernel))) <|
  re_a (re_c (ck_X11_214 (by decide +kernel))) <|
  re_a (re_p (ro_aload_n (by decide +kernel) rfl)) <|
  re_a (re_h (gf_X11_16 (by decide +kernel)) (rg_getf _ _)) <|
  re_a (re_p (ro_bipush (by decide +kernel) (by decide +kernel))) <|
  re_a (re_p (ro_iconst (by decide +kernel) (by decide +kernel))) <|
  re_a (re_h (rh_iast (by decide +kernel)) rg_iast) <|
  re_a (re_p (ro_iconst (by decide +kernel) (by decide +kernel))) <|
  re_a (re_p (ro_istore_n (by decide +kernel) rfl (by decide +kernel))) <|
  re_a (re_p (ro_aload_n (by decide +kernel) rfl)) <|
  re_a (re_h (gf_X11_32 (by decide +kernel)) (rg_getf _ _)) <|
  re_a (re_p (ro_iconst (by decide +kernel) (by decide +kernel))) <|
  re_a (re_p (ro_aload_n (by decide +kernel) rfl)) <|
  re_a (re_p (ro_iload_n (by decide +kernel) rfl)) <|
  re_a (re_c (ck_X11_241 (by decide +kernel))) <|
  re_a (re_h (rh_iast (by decide +kernel)) rg_iast) <|
  re_a (re_p (ro_aload_n (by decide +kernel) rfl)) <|
  re_a (re_h (gf_X11_29 (by decide +kernel)) (rg_getf _ _)) <|
  re_a (re_p (ro_aload_n (by decide +kernel) rfl)) <|
  re_a (re_h (gf_X11_32 (by decide +kernel)) (rg_getf _ _)) <|
  re_a (re_p (ro_iconst (by decide +kernel) (by decide +kernel))) <|
  re_a (re_h (rh_iald (by decide +kernel)) rg_iald) <|
  re_a (re_p (ro_iconst (by decide +kernel) (by decide +kernel))) <|
  re_n
theorem mk_217_1 : ∀ q ∈ ([(67, .inl ri_iast), (68, .inl (ri_pu (ri_icon 0 1))), (69, .inl (ri_pu (ri_istore 3 1))), (70, .inl (ri_pu (ri_iload 3 1))), (71, .inl (ri_pu (ri_iload 2 1))), (72, .inl (ri_pu (ri_icmp (fun x y => decide (y ≤ x)) 169))), (75, .inl (ri_pu (ri_icon 0 1))), (76, .inl (ri_pu (ri_istore 4 2))), (78, .inl (ri_pu (ri_iload 4 2))), (80, .inl (ri_pu (ri_icon 10 2))), (82, .inl (ri_pu (ri_icmp (fun x y => decide (y ≤ x)) 163))), (85, .inl (ri_pu (ri_aload 0 1))), (86, .inl (ri_pu (ri_iload 1 1))), (87, .inl (ri_pu (ri_aload 0 1))), (88, .inl (ri_getf 9 10)), (91, .inl (ri_pu (ri_iload 3 1))), (92, .inl ri_iald), (93, .inr (.inl (215, 3, some 9))), (96, .inl (ri_pu (ri_aload 0 1))), (97, .inl (ri_pu (ri_iload 1 1))), (98, .inl (ri_pu (ri_iload 4 2))), (100, .inr (.inl (216, 3, some 9))), (103, .inl (ri_pu (ri_if (fun x => decide (x = 0)) 157))), (106, .inl (ri_pu (ri_aload 0 1))), (107, .inl (ri_getf 9 9)), (110, .inl (ri_pu (ri_aload 0 1))), (111, .inl (ri_pu (ri_iload 1 1))), (112, .inr (.inl (214, 2, some 9))), (115, .inl ri_iald), (116, .inl (ri_pu (ri_icon (-1) 1))), (117, .inl (ri_pu (ri_icmp (fun x y => decide (¬ x = y)) 157))), (120, .inl (ri_pu (ri_aload 0 1))), (121, .inl (ri_getf 9 9)), (124, .inl (ri_pu (ri_aload 0 1))), (125, .inl (ri_pu (ri_iload 1 1))), (126, .inr (.inl (214, 2, some 9))), (129, .inl (ri_pu (ri_aload 0 1))), (130, .inl (ri_getf 9 9)), (133, .inl (ri_pu (ri_aload 0 1))), (134, .inl (ri_getf 9 10))] : List (Nat × ri_C)), re_ok Ex D dT 217 q :=
  re_a (re_h (rh_iast (by decide +kernel)) rg_iast) <|
  re_a (re_p (ro_iconst (by decide +kernel) (by decide +kernel))) <|
  re_a (re_p (ro_istore_n (by decide +kernel) rfl (by decide +kernel))) <|
  re_a (re_p (ro_iload_n (by decide +kernel) rfl)) <|
  re_a (re_p (ro_iload_n (by decide +kernel) rfl)) <|
  re_a (re_p (ro_icmp_ge (by decide +kernel) (by decide +kernel))) <|
  re_a (re_p (ro_iconst (by decide +kernel) (by decide +kernel))) <|
  re_a (re_p (ro_istore (by decide +kernel) (by decide +kernel))) <|
  re_a (re_p (ro_iload (by decide +kernel))) <|
  re_a (re_p (ro_bipush (by decide +kernel) (by decide +kernel))) <|
  re_a (re_p (ro_icmp_ge (by decide +kernel) (by decide +kernel))) <|
  re_a (re_p (ro_aload_n (by decide +kernel) rfl)) <|
  re_a (re_p (ro_iload_n (by decide +kernel) rfl)) <|
  re_a (re_p (ro_aload_n (by decide +kernel) rfl)) <|
  re_a (re_h (gf_X11_32 (by decide +kernel)) (rg_getf _ _)) <|
  re_a (re_p (ro_iload_n (by decide +kernel) rfl)) <|
  re_a (re_h (rh_iald (by decide +kernel)) rg_iald) <|
  re_a (re_c (ck_X11_244 (by decide +kernel))) <|
  re_a (re_p (ro_aload_n (by decide +kernel) rfl)) <|
  re_a (re_p (ro_iload_n (by decide +kernel) rfl)) <|
  re_a (re_p (ro_iload (by decide +kernel))) <|
  re_a (re_c (ck_X11_248 (by decide +kernel))) <|
  re_a (re_p (ro_if_eq (by decide +kernel) (by decide +kernel))) <|
  re_a (re_p (ro_aload_n (by decide +kernel) rfl)) <|
  re_a (re_h (gf_X11_29 (by decide +kernel)) (rg_getf _ _)) <|
  re_a (re_p (ro_aload_n (by decide +kernel) rfl)) <|
  re_a (re_p (ro_iload_n (by decide +kernel) rfl)) <|
  re_a (re_c (ck_X11_241 (by decide +kernel))) <|
  re_a (re_h (rh_iald (by decide +kernel)) rg_iald) <|
  re_a (re_p (ro_iconst (by decide +kernel) (by decide +kernel))) <|
  re_a (re_p (ro_icmp_ne (by decide +kernel) (by decide +kernel))) <|
  re_a (re_p (ro_aload_n (by decide +kernel) rfl)) <|
  re_a (re_h (gf_X11_29 (by decide +kernel)) (rg_getf _ _)) <|
  re_a (re_p (ro_aload_n (by decide +kernel) rfl)) <|
  re_a (re_p (ro_iload_n (by decide +kernel) rfl)) <|
  re_a (re_c (ck_X11_241 (by decide +kernel))) <|
  re_a (re_p (ro_aload_n (by decide +kernel) rfl)) <|
  re_a (re_h (gf_X11_29 (by decide +kernel)) (rg_getf _ _)) <|
  re_a (re_p (ro_aload_n (by decide +kernel) rfl)) <|
  re_a (re_h (gf_X11_32 (by decide +kernel)) (rg_getf _ _)) <|
  re_n
theorem mk_217_2 : ∀ q ∈ ([(137, .inl (ri_pu (ri_iload 3 1))), (138, .inl ri_iald), (139, .inl ri_iald), (140, .inl (ri_pu (ri_icon 1 1))), (141, .inl (ri_pu (ri_ib fun x y => x + y))), (142, .inl ri_iast), (143, .inl (ri_pu (ri_aload 0 1))), (144, .inl (ri_getf 9 10)), (147, .inl (ri_pu (ri_iload 2 1))), (148, .inl (ri_pu (ri_aload 0 1))), (149, .inl (ri_pu (ri_iload 1 1))), (150, .inr (.inl (214, 2, some 9))), (153, .inl ri_iast), (154, .inl (ri_pu (ri_iinc 2 1))), (157, .inl (ri_pu (ri_iinc 4 1))), (160, .inl (ri_pu (ri_goto 78))), (163, .inl (ri_pu (ri_iinc 3 1))), (166, .inl (ri_pu (ri_goto 70))), (169, .inl (ri_pu (ri_iload 2 1))), (170, .inr (.inr 1))] : List (Nat × ri_C)), re_ok Ex D dT 217 q :=
  re_a (re_p (ro_iload_n (by decide +kernel) rfl)) <|
  re_a (re_h (rh_iald (by decide +kernel)) rg_iald) <|
  re_a (re_h (rh_iald (by decide +kernel)) rg_iald) <|
  re_a (re_p (ro_iconst (by decide +kernel) (by decide +kernel))) <|
  re_a (re_p (ro_iadd (by decide +kernel))) <|
  re_a (re_h (rh_iast (by decide +kernel)) rg_iast) <|
  re_a (re_p (ro_aload_n (by decide +kernel) rfl)) <|
  re_a (re_h (gf_X11_32 (by decide +kernel)) (rg_getf _ _)) <|
  re_a (re_p (ro_iload_n (by decide +kernel) rfl)) <|
  re_a (re_p (ro_aload_n (by decide +kernel) rfl)) <|
  re_a (re_p (ro_iload_n (by decide +kernel) rfl)) <|
  re_a (re_c (ck_X11_241 (by decide +kernel))) <|
  re_a (re_h (rh_iast (by decide +kernel)) rg_iast) <|
  re_a (re_p (ro_iinc (by decide +kernel) (by decide +kernel) (by decide +kernel))) <|
  re_a (re_p (ro_iinc (by decide +kernel) (by decide +kernel) (by decide +kernel))) <|
  re_a (re_p (ro_goto (by decide +kernel) (by decide +kernel))) <|
  re_a (re_p (ro_iinc (by decide +kernel) (by decide +kernel) (by decide +kernel))) <|
  re_a (re_p (ro_goto (by decide +kernel) (by decide +kernel))) <|
  re_a (re_p (ro_iload_n (by decide +kernel) rfl)) <|
  re_a (re_r ⟨(by decide +kernel), rfl⟩) <|
  re_n
theorem mk_217 : ∀ q ∈ TL_217, re_ok Ex D dT 217 q := re_m mk_217_0 (re_m mk_217_1 (mk_217_2))
end RIMK
