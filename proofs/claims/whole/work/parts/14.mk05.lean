section RIMK
variable {Ex : (Nat → Prop) → State → Heap → Prop} {D : va_G} {dT : Nat → ClassId}
theorem mk_171_0 : ∀ q ∈ ([(0, .inl (ri_pu (ri_aload 0 1))), (1, .inl (ri_pu (ri_icon 3 1))), (2, .inl (ri_pu ri_dup2)), (3, .inl ri_iald), (4, .inl (ri_pu (ri_icon 1 1))), (5, .inl (ri_pu (ri_ib fun x y => x + y))), (6, .inl ri_iast), (7, .inl (ri_pu (ri_aload 0 1))), (8, .inl (ri_pu (ri_icon 7 2))), (10, .inl (ri_pu (ri_iload 1 1))), (11, .inl (ri_pu (ri_icon 1 1))), (12, .inl (ri_pu (ri_ib fun x y => x + y))), (13, .inl ri_iast), (14, .inl (ri_pu (ri_aload 0 1))), (15, .inl (ri_pu (ri_icon 71 2))), (17, .inl (ri_pu (ri_icon 5 1))), (18, .inl (ri_pu (ri_iload 1 1))), (19, .inl (ri_pu (ri_ib fun x y => x * y))), (20, .inl (ri_pu (ri_ib fun x y => x + y))), (21, .inl (ri_pu (ri_icon 4 1))), (22, .inl (ri_pu (ri_ib fun x y => x + y))), (23, .inl (ri_pu ri_dup2)), (24, .inl ri_iald), (25, .inl (ri_pu (ri_icon 1 1))), (26, .inl (ri_pu (ri_ib fun x y => x + y))), (27, .inl ri_iast), (28, .inl (ri_pu (ri_aload 0 1))), (29, .inl (ri_pu (ri_icon 6 2))), (31, .inl (ri_pu ri_dup2)), (32, .inl ri_iald), (33, .inl (ri_pu (ri_icon 1 1))), (34, .inl (ri_pu (ri_ib fun x y => x + y))), (35, .inl ri_iast), (36, .inl (ri_pu (ri_aload 0 1))), (37, .inl (ri_pu (ri_icon 3 1))), (38, .inl ri_iald), (39, .inl (ri_pu (ri_aload 0 1))), (40, .inl (ri_pu (ri_icon 0 1))), (41, .inl ri_iald), (42, .inl (ri_pu (ri_idr fun x y => x - x / y * y)))] : List (Nat × ri_C)), re_ok Ex D dT 171 q :=
  re_a (re_p (ro_aload_n (by decide +kernel) rfl)) <|
  re_a (re_p (ro_iconst (by decide +kernel) (by decide +kernel))) <|
  re_a (re_p (ro_dup2 (by decide +kernel))) <|
  re_a (re_h (rh_iald (by decide +kernel)) rg_iald) <|
  re_a (re_p (ro_iconst (by decide +kernel) (by decide +kernel))) <|
  re_a (re_p (ro_iadd (by decide +kernel))) <|
  re_a (re_h (rh_iast (by decide +kernel)) rg_iast) <|
  re_a (re_p (ro_aload_n (by decide +kernel) rfl)) <|
  re_a (re_p (ro_bipush (by decide +kernel) (by decide +kernel))) <|
  re_a (re_p (ro_iload_n (by decide +kernel) rfl)) <|
  re_a (re_p (ro_iconst (by decide +kernel) (by decide +kernel))) <|
  re_a (re_p (ro_iadd (by decide +kernel))) <|
  re_a (re_h (rh_iast (by decide +kernel)) rg_iast) <|
  re_a (re_p (ro_aload_n (by decide +kernel) rfl)) <|
  re_a (re_p (ro_bipush (by decide +kernel) (by decide +kernel))) <|
  re_a (re_p (ro_iconst (by decide +kernel) (by decide +kernel))) <|
  re_a (re_p (ro_iload_n (by decide +kernel) rfl)) <|
  re_a (re_p (ro_imul (by decide +kernel))) <|
  re_a (re_p (ro_iadd (by decide +kernel))) <|
  re_a (re_p (ro_iconst (by decide +kernel) (by decide +kernel))) <|
  re_a (re_p (ro_iadd (by decide +kernel))) <|
  re_a (re_p (ro_dup2 (by decide +kernel))) <|
  re_a (re_h (rh_iald (by decide +kernel)) rg_iald) <|
  re_a (re_p (ro_iconst (by decide +kernel) (by decide +kernel))) <|
  re_a (re_p (ro_iadd (by decide +kernel))) <|
  re_a (re_h (rh_iast (by decide +kernel)) rg_iast) <|
  re_a (re_p (ro_aload_n (by decide +kernel) rfl)) <|
  re_a (re_p (ro_bipush (by decide +kernel) (by decide +kernel))) <|
  re_a (re_p (ro_dup2 (by decide +kernel))) <|
  re_a (re_h (rh_iald (by decide +kernel)) rg_iald) <|
  re_a (re_p (ro_iconst (by decide +kernel) (by decide +kernel))) <|
  re_a (re_p (ro_iadd (by decide +kernel))) <|
  re_a (re_h (rh_iast (by decide +kernel)) rg_iast) <|
  re_a (re_p (ro_aload_n (by decide +kernel) rfl)) <|
  re_a (re_p (ro_iconst (by decide +kernel) (by decide +kernel))) <|
  re_a (re_h (rh_iald (by decide +kernel)) rg_iald) <|
  re_a (re_p (ro_aload_n (by decide +kernel) rfl)) <|
  re_a (re_p (ro_iconst (by decide +kernel) (by decide +kernel))) <|
  re_a (re_h (rh_iald (by decide +kernel)) rg_iald) <|
  re_a (re_p (ro_irem (by decide +kernel))) <|
  re_n
theorem mk_171_1 : ∀ q ∈ ([(43, .inl (ri_pu (ri_istore 2 1))), (44, .inl (ri_pu (ri_aload 0 1))), (45, .inl (ri_pu (ri_iload 2 1))), (46, .inl (ri_pu (ri_aload 0 1))), (47, .inl (ri_pu (ri_icon 3 1))), (48, .inl ri_iald), (49, .inl (ri_pu (ri_aload 0 1))), (50, .inl (ri_pu (ri_iload 2 1))), (51, .inl (ri_pu (ri_icon 0 1))), (52, .inr (.inl (149, 3, none))), (55, .inl (ri_pu (ri_idr fun x y => x - x / y * y))), (56, .inr (.inl (157, 3, none))), (59, .inl (ri_pu (ri_istore 3 1))), (60, .inl (ri_pu (ri_aload 0 1))), (61, .inl (ri_pu (ri_iload 2 1))), (62, .inl (ri_pu (ri_iload 3 1))), (63, .inr (.inl (159, 3, none))), (66, .inl (ri_pu (ri_istore 4 2))), (68, .inl (ri_pu (ri_icon 9 2))), (70, .inl (ri_pu (ri_icon 10 2))), (72, .inl (ri_pu (ri_iload 2 1))), (73, .inl (ri_pu (ri_ib fun x y => x * y))), (74, .inl (ri_pu (ri_ib fun x y => x + y))), (75, .inl (ri_pu (ri_icon 5 1))), (76, .inl (ri_pu (ri_ib fun x y => x + y))), (77, .inl (ri_pu (ri_iload 3 1))), (78, .inl (ri_pu (ri_ib fun x y => x + y))), (79, .inl (ri_pu (ri_istore 5 2))), (81, .inl (ri_pu (ri_iload 4 2))), (83, .inl (ri_pu (ri_icon (-1) 1))), (84, .inl (ri_pu (ri_icmp (fun x y => decide (x = y)) 97))), (87, .inl (ri_pu (ri_aload 0 1))), (88, .inl (ri_pu (ri_iload 4 2))), (90, .inl (ri_pu (ri_icon 1 1))), (91, .inr (.inl (166, 3, none))), (94, .inl (ri_pu (ri_goto 124))), (97, .inl (ri_pu (ri_aload 0 1))), (98, .inl (ri_pu (ri_iload 5 2))), (100, .inl ri_iald), (101, .inl (ri_pu (ri_icon 9 2)))] : List (Nat × ri_C)), re_ok Ex D dT 171 q :=
  re_a (re_p (ro_istore_n (by decide +kernel) rfl (by decide +kernel))) <|
  re_a (re_p (ro_aload_n (by decide +kernel) rfl)) <|
  re_a (re_p (ro_iload_n (by decide +kernel) rfl)) <|
  re_a (re_p (ro_aload_n (by decide +kernel) rfl)) <|
  re_a (re_p (ro_iconst (by decide +kernel) (by decide +kernel))) <|
  re_a (re_h (rh_iald (by decide +kernel)) rg_iald) <|
  re_a (re_p (ro_aload_n (by decide +kernel) rfl)) <|
  re_a (re_p (ro_iload_n (by decide +kernel) rfl)) <|
  re_a (re_p (ro_iconst (by decide +kernel) (by decide +kernel))) <|
  re_a (re_c (ck_X11_51 (by decide +kernel))) <|
  re_a (re_p (ro_irem (by decide +kernel))) <|
  re_a (re_c (ck_X11_69 (by decide +kernel))) <|
  re_a (re_p (ro_istore_n (by decide +kernel) rfl (by decide +kernel))) <|
  re_a (re_p (ro_aload_n (by decide +kernel) rfl)) <|
  re_a (re_p (ro_iload_n (by decide +kernel) rfl)) <|
  re_a (re_p (ro_iload_n (by decide +kernel) rfl)) <|
  re_a (re_c (ck_X11_72 (by decide +kernel))) <|
  re_a (re_p (ro_istore (by decide +kernel) (by decide +kernel))) <|
  re_a (re_p (ro_bipush (by decide +kernel) (by decide +kernel))) <|
  re_a (re_p (ro_bipush (by decide +kernel) (by decide +kernel))) <|
  re_a (re_p (ro_iload_n (by decide +kernel) rfl)) <|
  re_a (re_p (ro_imul (by decide +kernel))) <|
  re_a (re_p (ro_iadd (by decide +kernel))) <|
  re_a (re_p (ro_iconst (by decide +kernel) (by decide +kernel))) <|
  re_a (re_p (ro_iadd (by decide +kernel))) <|
  re_a (re_p (ro_iload_n (by decide +kernel) rfl)) <|
  re_a (re_p (ro_iadd (by decide +kernel))) <|
  re_a (re_p (ro_istore (by decide +kernel) (by decide +kernel))) <|
  re_a (re_p (ro_iload (by decide +kernel))) <|
  re_a (re_p (ro_iconst (by decide +kernel) (by decide +kernel))) <|
  re_a (re_p (ro_icmp_eq (by decide +kernel) (by decide +kernel))) <|
  re_a (re_p (ro_aload_n (by decide +kernel) rfl)) <|
  re_a (re_p (ro_iload (by decide +kernel))) <|
  re_a (re_p (ro_iconst (by decide +kernel) (by decide +kernel))) <|
  re_a (re_c (ck_X11_82 (by decide +kernel))) <|
  re_a (re_p (ro_goto (by decide +kernel) (by decide +kernel))) <|
  re_a (re_p (ro_aload_n (by decide +kernel) rfl)) <|
  re_a (re_p (ro_iload (by decide +kernel))) <|
  re_a (re_h (rh_iald (by decide +kernel)) rg_iald) <|
  re_a (re_p (ro_bipush (by decide +kernel) (by decide +kernel))) <|
  re_n
theorem mk_171_2 : ∀ q ∈ ([(103, .inl (ri_pu (ri_icmp (fun x y => decide (y ≤ x)) 117))), (106, .inl (ri_pu (ri_aload 0 1))), (107, .inl (ri_pu (ri_iload 5 2))), (109, .inl (ri_pu ri_dup2)), (110, .inl ri_iald), (111, .inl (ri_pu (ri_icon 1 1))), (112, .inl (ri_pu (ri_ib fun x y => x + y))), (113, .inl ri_iast), (114, .inl (ri_pu (ri_goto 124))), (117, .inl (ri_pu (ri_aload 0 1))), (118, .inl (ri_pu (ri_icon 5 1))), (119, .inl (ri_pu ri_dup2)), (120, .inl ri_iald), (121, .inl (ri_pu (ri_icon 1 1))), (122, .inl (ri_pu (ri_ib fun x y => x + y))), (123, .inl ri_iast), (124, .inr (.inr 0))] : List (Nat × ri_C)), re_ok Ex D dT 171 q :=
  re_a (re_p (ro_icmp_ge (by decide +kernel) (by decide +kernel))) <|
  re_a (re_p (ro_aload_n (by decide +kernel) rfl)) <|
  re_a (re_p (ro_iload (by decide +kernel))) <|
  re_a (re_p (ro_dup2 (by decide +kernel))) <|
  re_a (re_h (rh_iald (by decide +kernel)) rg_iald) <|
  re_a (re_p (ro_iconst (by decide +kernel) (by decide +kernel))) <|
  re_a (re_p (ro_iadd (by decide +kernel))) <|
  re_a (re_h (rh_iast (by decide +kernel)) rg_iast) <|
  re_a (re_p (ro_goto (by decide +kernel) (by decide +kernel))) <|
  re_a (re_p (ro_aload_n (by decide +kernel) rfl)) <|
  re_a (re_p (ro_iconst (by decide +kernel) (by decide +kernel))) <|
  re_a (re_p (ro_dup2 (by decide +kernel))) <|
  re_a (re_h (rh_iald (by decide +kernel)) rg_iald) <|
  re_a (re_p (ro_iconst (by decide +kernel) (by decide +kernel))) <|
  re_a (re_p (ro_iadd (by decide +kernel))) <|
  re_a (re_h (rh_iast (by decide +kernel)) rg_iast) <|
  re_a (re_r ⟨(by decide +kernel), rfl⟩) <|
  re_n
theorem mk_171 : ∀ q ∈ TL_171, re_ok Ex D dT 171 q := re_m mk_171_0 (re_m mk_171_1 (mk_171_2))
theorem mk_172 : ∀ q ∈ TL_172, re_ok Ex D dT 172 q :=
  re_a (re_p (ro_aload_n (by decide +kernel) rfl)) <|
  re_a (re_p (ro_iload_n (by decide +kernel) rfl)) <|
  re_a (re_p (ro_iload_n (by decide +kernel) rfl)) <|
  re_a (re_c (ck_X11_96 (by decide +kernel))) <|
  re_a (re_p (ro_istore_n (by decide +kernel) rfl (by decide +kernel))) <|
  re_a (re_p (ro_iload_n (by decide +kernel) rfl)) <|
  re_a (re_p (ro_if_ne (by decide +kernel) (by decide +kernel))) <|
  re_a (re_p (ro_aload_n (by decide +kernel) rfl)) <|
  re_a (re_p (ro_iload_n (by decide +kernel) rfl)) <|
  re_a (re_p (ro_iload_n (by decide +kernel) rfl)) <|
  re_a (re_c (ck_X11_99 (by decide +kernel))) <|
  re_a (re_p (ro_aload_n (by decide +kernel) rfl)) <|
  re_a (re_p (ro_iload_n (by decide +kernel) rfl)) <|
  re_a (re_c (ck_X11_102 (by decide +kernel))) <|
  re_a (re_p (ro_iload_n (by decide +kernel) rfl)) <|
  re_a (re_r ⟨(by decide +kernel), rfl⟩) <|
  re_n
theorem mk_173 : ∀ q ∈ TL_173, re_ok Ex D dT 173 q :=
  re_a (re_p (ro_aload_n (by decide +kernel) rfl)) <|
  re_a (re_p (ro_iload_n (by decide +kernel) rfl)) <|
  re_a (re_p (ro_iload_n (by decide +kernel) rfl)) <|
  re_a (re_c (ck_X11_106 (by decide +kernel))) <|
  re_a (re_p (ro_istore_n (by decide +kernel) rfl (by decide +kernel))) <|
  re_a (re_p (ro_iload_n (by decide +kernel) rfl)) <|
  re_a (re_p (ro_if_ne (by decide +kernel) (by decide +kernel))) <|
  re_a (re_p (ro_aload_n (by decide +kernel) rfl)) <|
  re_a (re_p (ro_iload_n (by decide +kernel) rfl)) <|
  re_a (re_p (ro_iload_n (by decide +kernel) rfl)) <|
  re_a (re_c (ck_X11_109 (by decide +kernel))) <|
  re_a (re_p (ro_aload_n (by decide +kernel) rfl)) <|
  re_a (re_p (ro_iload_n (by decide +kernel) rfl)) <|
  re_a (re_c (ck_X11_102 (by decide +kernel))) <|
  re_a (re_p (ro_iload_n (by decide +kernel) rfl)) <|
  re_a (re_r ⟨(by decide +kernel), rfl⟩) <|
  re_n
theorem mk_174 : ∀ q ∈ TL_174, re_ok Ex D dT 174 q :=
  re_a (re_p (ro_iload_n (by decide +kernel) rfl)) <|
  re_a (re_p (ro_i2l (by decide +kernel))) <|
  re_a (re_p (ro_ldc2 (by decide +kernel) q_1345)) <|
  re_a (re_p (ro_ldc2 (by decide +kernel) q_1350)) <|
  re_a (re_c (ck_X11_43 (by decide +kernel))) <|
  re_a (re_p (ro_if_eq (by decide +kernel) (by decide +kernel))) <|
  re_a (re_p (ro_iload_n (by decide +kernel) rfl)) <|
  re_a (re_p (ro_i2l (by decide +kernel))) <|
  re_a (re_p (ro_ldc2 (by decide +kernel) q_1362)) <|
  re_a (re_p (ro_ldc2 (by decide +kernel) q_1363)) <|
  re_a (re_c (ck_X11_43 (by decide +kernel))) <|
  re_a (re_p (ro_if_eq (by decide +kernel) (by decide +kernel))) <|
  re_a (re_p (ro_iload_n (by decide +kernel) rfl)) <|
  re_a (re_p (ro_i2l (by decide +kernel))) <|
  re_a (re_p (ro_lconst (by decide +kernel) (by decide +kernel))) <|
  re_a (re_p (ro_ldc2 (by decide +kernel) q_1364)) <|
  re_a (re_c (ck_X11_43 (by decide +kernel))) <|
  re_a (re_p (ro_if_eq (by decide +kernel) (by decide +kernel))) <|
  re_a (re_p (ro_iconst (by decide +kernel) (by decide +kernel))) <|
  re_a (re_p (ro_goto (by decide +kernel) (by decide +kernel))) <|
  re_a (re_p (ro_iconst (by decide +kernel) (by decide +kernel))) <|
  re_a (re_r ⟨(by decide +kernel), rfl⟩) <|
  re_n
theorem mk_175_0 : ∀ q ∈ ([(0, .inl (ri_pu (ri_aload 0 1))), (1, .inl (ri_pu (ri_icon 0 1))), (2, .inl ri_iald), (3, .inl (ri_pu (ri_istore 4 2))), (5, .inl (ri_pu (ri_icon 9 2))), (7, .inl (ri_pu (ri_icon 10 2))), (9, .inl (ri_pu (ri_iload 4 2))), (11, .inl (ri_pu (ri_ib fun x y => x * y))), (12, .inl (ri_pu (ri_ib fun x y => x + y))), (13, .inl (ri_pu (ri_istore 5 2))), (15, .inl (ri_pu (ri_icon 0 1))), (16, .inl (ri_pu (ri_istore 6 2))), (18, .inl (ri_pu (ri_iload 6 2))), (20, .inl (ri_pu (ri_icon 10 2))), (22, .inl (ri_pu (ri_icmp (fun x y => decide (y ≤ x)) 39))), (25, .inl (ri_pu (ri_aload 0 1))), (26, .inl (ri_pu (ri_iload 5 2))), (28, .inl (ri_pu (ri_iload 6 2))), (30, .inl (ri_pu (ri_ib fun x y => x + y))), (31, .inl (ri_pu (ri_icon 0 1))), (32, .inl ri_iast), (33, .inl (ri_pu (ri_iinc 6 1))), (36, .inl (ri_pu (ri_goto 18))), (39, .inl (ri_pu (ri_aload 0 1))), (40, .inl (ri_pu (ri_iload 5 2))), (42, .inl (ri_pu (ri_icon 0 1))), (43, .inl (ri_pu (ri_ib fun x y => x + y))), (44, .inl (ri_pu (ri_iload 1 1))), (45, .inl ri_iast), (46, .inl (ri_pu (ri_aload 0 1))), (47, .inl (ri_pu (ri_iload 5 2))), (49, .inl (ri_pu (ri_icon 1 1))), (50, .inl (ri_pu (ri_ib fun x y => x + y))), (51, .inl (ri_pu (ri_iload 2 1))), (52, .inl ri_iast), (53, .inl (ri_pu (ri_aload 0 1))), (54, .inl (ri_pu (ri_iload 5 2))), (56, .inl (ri_pu (ri_icon 2 1))), (57, .inl (ri_pu (ri_ib fun x y => x + y))), (58, .inl (ri_pu (ri_iload 3 1)))] : List (Nat × ri_C)), re_ok Ex D dT 175 q :=
  re_a (re_p (ro_aload_n (by decide +kernel) rfl)) <|
  re_a (re_p (ro_iconst (by decide +kernel) (by decide +kernel))) <|
  re_a (re_h (rh_iald (by decide +kernel)) rg_iald) <|
  re_a (re_p (ro_istore (by decide +kernel) (by decide +kernel))) <|
  re_a (re_p (ro_bipush (by decide +kernel) (by decide +kernel))) <|
  re_a (re_p (ro_bipush (by decide +kernel) (by decide +kernel))) <|
  re_a (re_p (ro_iload (by decide +kernel))) <|
  re_a (re_p (ro_imul (by decide +kernel))) <|
  re_a (re_p (ro_iadd (by decide +kernel))) <|
  re_a (re_p (ro_istore (by decide +kernel) (by decide +kernel))) <|
  re_a (re_p (ro_iconst (by decide +kernel) (by decide +kernel))) <|
  re_a (re_p (ro_istore (by decide +kernel) (by decide +kernel))) <|
  re_a (re_p (ro_iload (by decide +kernel))) <|
  re_a (re_p (ro_bipush (by decide +kernel) (by decide +kernel))) <|
  re_a (re_p (ro_icmp_ge (by decide +kernel) (by decide +kernel))) <|
  re_a (re_p (ro_aload_n (by decide +kernel) rfl)) <|
  re_a (re_p (ro_iload (by decide +kernel))) <|
  re_a (re_p (ro_iload (by decide +kernel))) <|
  re_a (re_p (ro_iadd (by decide +kernel))) <|
  re_a (re_p (ro_iconst (by decide +kernel) (by decide +kernel))) <|
  re_a (re_h (rh_iast (by decide +kernel)) rg_iast) <|
  re_a (re_p (ro_iinc (by decide +kernel) (by decide +kernel) (by decide +kernel))) <|
  re_a (re_p (ro_goto (by decide +kernel) (by decide +kernel))) <|
  re_a (re_p (ro_aload_n (by decide +kernel) rfl)) <|
  re_a (re_p (ro_iload (by decide +kernel))) <|
  re_a (re_p (ro_iconst (by decide +kernel) (by decide +kernel))) <|
  re_a (re_p (ro_iadd (by decide +kernel))) <|
  re_a (re_p (ro_iload_n (by decide +kernel) rfl)) <|
  re_a (re_h (rh_iast (by decide +kernel)) rg_iast) <|
  re_a (re_p (ro_aload_n (by decide +kernel) rfl)) <|
  re_a (re_p (ro_iload (by decide +kernel))) <|
  re_a (re_p (ro_iconst (by decide +kernel) (by decide +kernel))) <|
  re_a (re_p (ro_iadd (by decide +kernel))) <|
  re_a (re_p (ro_iload_n (by decide +kernel) rfl)) <|
  re_a (re_h (rh_iast (by decide +kernel)) rg_iast) <|
  re_a (re_p (ro_aload_n (by decide +kernel) rfl)) <|
  re_a (re_p (ro_iload (by decide +kernel))) <|
  re_a (re_p (ro_iconst (by decide +kernel) (by decide +kernel))) <|
  re_a (re_p (ro_iadd (by decide +kernel))) <|
  re_a (re_p (ro_iload_n (by decide +kernel) rfl)) <|
  re_n
theorem mk_175_1 : ∀ q ∈ ([(59, .inl ri_iast), (60, .inl (ri_pu (ri_aload 0 1))), (61, .inl (ri_pu (ri_icon 0 1))), (62, .inl (ri_pu ri_dup2)), (63, .inl ri_iald), (64, .inl (ri_pu (ri_icon 1 1))), (65, .inl (ri_pu (ri_ib fun x y => x + y))), (66, .inl ri_iast), (67, .inl (ri_pu (ri_iload 4 2))), (69, .inr (.inr 1))] : List (Nat × ri_C)), re_ok Ex D dT 175 q :=
  re_a (re_h (rh_iast (by decide +kernel)) rg_iast) <|
  re_a (re_p (ro_aload_n (by decide +kernel) rfl)) <|
  re_a (re_p (ro_iconst (by decide +kernel) (by decide +kernel))) <|
  re_a (re_p (ro_dup2 (by decide +kernel))) <|
  re_a (re_h (rh_iald (by decide +kernel)) rg_iald) <|
  re_a (re_p (ro_iconst (by decide +kernel) (by decide +kernel))) <|
  re_a (re_p (ro_iadd (by decide +kernel))) <|
  re_a (re_h (rh_iast (by decide +kernel)) rg_iast) <|
  re_a (re_p (ro_iload (by decide +kernel))) <|
  re_a (re_r ⟨(by decide +kernel), rfl⟩) <|
  re_n
theorem mk_175 : ∀ q ∈ TL_175, re_ok Ex D dT 175 q := re_m mk_175_0 (mk_175_1)
theorem mk_176 : ∀ q ∈ TL_176, re_ok Ex D dT 176 q :=
  re_a (re_p (ro_aload_n (by decide +kernel) rfl)) <|
  re_a (re_p (ro_iload_n (by decide +kernel) rfl)) <|
  re_a (re_p (ro_iload_n (by decide +kernel) rfl)) <|
  re_a (re_c (ck_X11_122 (by decide +kernel))) <|
  re_a (re_p (ro_if_eq (by decide +kernel) (by decide +kernel))) <|
  re_a (re_p (ro_aload_n (by decide +kernel) rfl)) <|
  re_a (re_p (ro_iload_n (by decide +kernel) rfl)) <|
  re_a (re_p (ro_iload (by decide +kernel))) <|
  re_a (re_c (ck_X11_122 (by decide +kernel))) <|
  re_a (re_p (ro_if_eq (by decide +kernel) (by decide +kernel))) <|
  re_a (re_p (ro_iload_n (by decide +kernel) rfl)) <|
  re_a (re_p (ro_iload_n (by decide +kernel) rfl)) <|
  re_a (re_p (ro_icmp_eq (by decide +kernel) (by decide +kernel))) <|
  re_a (re_p (ro_aload_n (by decide +kernel) rfl)) <|
  re_a (re_p (ro_iconst (by decide +kernel) (by decide +kernel))) <|
  re_a (re_h (rh_iald (by decide +kernel)) rg_iald) <|
  re_a (re_p (ro_bipush (by decide +kernel) (by decide +kernel))) <|
  re_a (re_p (ro_icmp_ge (by decide +kernel) (by decide +kernel))) <|
  re_a (re_p (ro_iconst (by decide +kernel) (by decide +kernel))) <|
  re_a (re_p (ro_goto (by decide +kernel) (by decide +kernel))) <|
  re_a (re_p (ro_iconst (by decide +kernel) (by decide +kernel))) <|
  re_a (re_r ⟨(by decide +kernel), rfl⟩) <|
  re_n
theorem mk_177_0 : ∀ q ∈ ([(0, .inl (ri_pu (ri_aload 0 1))), (1, .inl (ri_pu (ri_icon 1 1))), (2, .inl ri_iald), (3, .inl (ri_pu (ri_istore 5 2))), (5, .inl (ri_pu (ri_aload 0 1))), (6, .inl (ri_pu (ri_icon 39 2))), (8, .inl (ri_pu (ri_icon 4 1))), (9, .inl (ri_pu (ri_iload 5 2))), (11, .inl (ri_pu (ri_ib fun x y => x * y))), (12, .inl (ri_pu (ri_ib fun x y => x + y))), (13, .inl (ri_pu (ri_iload 1 1))), (14, .inl ri_iast), (15, .inl (ri_pu (ri_aload 0 1))), (16, .inl (ri_pu (ri_icon 39 2))), (18, .inl (ri_pu (ri_icon 4 1))), (19, .inl (ri_pu (ri_iload 5 2))), (21, .inl (ri_pu (ri_ib fun x y => x * y))), (22, .inl (ri_pu (ri_ib fun x y => x + y))), (23, .inl (ri_pu (ri_icon 1 1))), (24, .inl (ri_pu (ri_ib fun x y => x + y))), (25, .inl (ri_pu (ri_iload 2 1))), (26, .inl ri_iast), (27, .inl (ri_pu (ri_aload 0 1))), (28, .inl (ri_pu (ri_icon 39 2))), (30, .inl (ri_pu (ri_icon 4 1))), (31, .inl (ri_pu (ri_iload 5 2))), (33, .inl (ri_pu (ri_ib fun x y => x * y))), (34, .inl (ri_pu (ri_ib fun x y => x + y))), (35, .inl (ri_pu (ri_icon 2 1))), (36, .inl (ri_pu (ri_ib fun x y => x + y))), (37, .inl (ri_pu (ri_iload 3 1))), (38, .inl ri_iast), (39, .inl (ri_pu (ri_aload 0 1))), (40, .inl (ri_pu (ri_icon 39 2))), (42, .inl (ri_pu (ri_icon 4 1))), (43, .inl (ri_pu (ri_iload 5 2))), (45, .inl (ri_pu (ri_ib fun x y => x * y))), (46, .inl (ri_pu (ri_ib fun x y => x + y))), (47, .inl (ri_pu (ri_icon 3 1))), (48, .inl (ri_pu (ri_ib fun x y => x + y)))] : List (Nat × ri_C)), re_ok Ex D dT 177 q :=
  re_a (re_p (ro_aload_n (by decide +kernel) rfl)) <|
  re_a (re_p (ro_iconst (by decide +kernel) (by decide +kernel))) <|
  re_a (re_h (rh_iald (by decide +kernel)) rg_iald) <|
  re_a (re_p (ro_istore (by decide +kernel) (by decide +kernel))) <|
  re_a (re_p (ro_aload_n (by decide +kernel) rfl)) <|
  re_a (re_p (ro_bipush (by decide +kernel) (by decide +kernel))) <|
  re_a (re_p (ro_iconst (by decide +kernel) (by decide +kernel))) <|
  re_a (re_p (ro_iload (by decide +kernel))) <|
  re_a (re_p (ro_imul (by decide +kernel))) <|
  re_a (re_p (ro_iadd (by decide +kernel))) <|
  re_a (re_p (ro_iload_n (by decide +kernel) rfl)) <|
  re_a (re_h (rh_iast (by decide +kernel)) rg_iast) <|
  re_a (re_p (ro_aload_n (by decide +kernel) rfl)) <|
  re_a (re_p (ro_bipush (by decide +kernel) (by decide +kernel))) <|
  re_a (re_p (ro_iconst (by decide +kernel) (by decide +kernel))) <|
  re_a (re_p (ro_iload (by decide +kernel))) <|
  re_a (re_p (ro_imul (by decide +kernel))) <|
  re_a (re_p (ro_iadd (by decide +kernel))) <|
  re_a (re_p (ro_iconst (by decide +kernel) (by decide +kernel))) <|
  re_a (re_p (ro_iadd (by decide +kernel))) <|
  re_a (re_p (ro_iload_n (by decide +kernel) rfl)) <|
  re_a (re_h (rh_iast (by decide +kernel)) rg_iast) <|
  re_a (re_p (ro_aload_n (by decide +kernel) rfl)) <|
  re_a (re_p (ro_bipush (by decide +kernel) (by decide +kernel))) <|
  re_a (re_p (ro_iconst (by decide +kernel) (by decide +kernel))) <|
  re_a (re_p (ro_iload (by decide +kernel))) <|
  re_a (re_p (ro_imul (by decide +kernel))) <|
  re_a (re_p (ro_iadd (by decide +kernel))) <|
  re_a (re_p (ro_iconst (by decide +kernel) (by decide +kernel))) <|
  re_a (re_p (ro_iadd (by decide +kernel))) <|
  re_a (re_p (ro_iload_n (by decide +kernel) rfl)) <|
  re_a (re_h (rh_iast (by decide +kernel)) rg_iast) <|
  re_a (re_p (ro_aload_n (by decide +kernel) rfl)) <|
  re_a (re_p (ro_bipush (by decide +kernel) (by decide +kernel))) <|
  re_a (re_p (ro_iconst (by decide +kernel) (by decide +kernel))) <|
  re_a (re_p (ro_iload (by decide +kernel))) <|
  re_a (re_p (ro_imul (by decide +kernel))) <|
  re_a (re_p (ro_iadd (by decide +kernel))) <|
  re_a (re_p (ro_iconst (by decide +kernel) (by decide +kernel))) <|
  re_a (re_p (ro_iadd (by decide +kernel))) <|
  re_n
theorem mk_177_1 : ∀ q ∈ ([(49, .inl (ri_pu (ri_iload 4 2))), (51, .inl ri_iast), (52, .inl (ri_pu (ri_aload 0 1))), (53, .inl (ri_pu (ri_icon 1 1))), (54, .inl (ri_pu ri_dup2)), (55, .inl ri_iald), (56, .inl (ri_pu (ri_icon 1 1))), (57, .inl (ri_pu (ri_ib fun x y => x + y))), (58, .inl ri_iast), (59, .inl (ri_pu (ri_iload 5 2))), (61, .inr (.inr 1))] : List (Nat × ri_C)), re_ok Ex D dT 177 q :=
  re_a (re_p (ro_iload (by decide +kernel))) <|
  re_a (re_h (rh_iast (by decide +kernel)) rg_iast) <|
  re_a (re_p (ro_aload_n (by decide +kernel) rfl)) <|
  re_a (re_p (ro_iconst (by decide +kernel) (by decide +kernel))) <|
  re_a (re_p (ro_dup2 (by decide +kernel))) <|
  re_a (re_h (rh_iald (by decide +kernel)) rg_iald) <|
  re_a (re_p (ro_iconst (by decide +kernel) (by decide +kernel))) <|
  re_a (re_p (ro_iadd (by decide +kernel))) <|
  re_a (re_h (rh_iast (by decide +kernel)) rg_iast) <|
  re_a (re_p (ro_iload (by decide +kernel))) <|
  re_a (re_r ⟨(by decide +kernel), rfl⟩) <|
  re_n
theorem mk_177 : ∀ q ∈ TL_177, re_ok Ex D dT 177 q := re_m mk_177_0 (mk_177_1)
theorem mk_178 : ∀ q ∈ TL_178, re_ok Ex D dT 178 q :=
  re_a (re_p (ro_aload_n (by decide +kernel) rfl)) <|
  re_a (re_p (ro_iload_n (by decide +kernel) rfl)) <|
  re_a (re_p (ro_iload_n (by decide +kernel) rfl)) <|
  re_a (re_c (ck_X11_122 (by decide +kernel))) <|
  re_a (re_p (ro_if_eq (by decide +kernel) (by decide +kernel))) <|
  re_a (re_p (ro_aload_n (by decide +kernel) rfl)) <|
  re_a (re_p (ro_iload_n (by decide +kernel) rfl)) <|
  re_a (re_p (ro_aload_n (by decide +kernel) rfl)) <|
  re_a (re_p (ro_iload_n (by decide +kernel) rfl)) <|
  re_a (re_p (ro_iload_n (by decide +kernel) rfl)) <|
  re_a (re_c (ck_X11_69 (by decide +kernel))) <|
  re_a (re_c (ck_X11_72 (by decide +kernel))) <|
  re_a (re_p (ro_iconst (by decide +kernel) (by decide +kernel))) <|
  re_a (re_p (ro_icmp_ne (by decide +kernel) (by decide +kernel))) <|
  re_a (re_p (ro_aload_n (by decide +kernel) rfl)) <|
  re_a (re_p (ro_iconst (by decide +kernel) (by decide +kernel))) <|
  re_a (re_h (rh_iald (by decide +kernel)) rg_iald) <|
  re_a (re_p (ro_iconst (by decide +kernel) (by decide +kernel))) <|
  re_a (re_p (ro_icmp_ge (by decide +kernel) (by decide +kernel))) <|
  re_a (re_p (ro_iconst (by decide +kernel) (by decide +kernel))) <|
  re_a (re_p (ro_goto (by decide +kernel) (by decide +kernel))) <|
  re_a (re_p (ro_iconst (by decide +kernel) (by decide +kernel))) <|
  re_a (re_r ⟨(by decide +kernel), rfl⟩) <|
  re_n
theorem mk_179_0 : ∀ q ∈ ([(0, .inl (ri_pu (ri_aload 0 1))), (1, .inl (ri_pu (ri_icon 2 1))), (2, .inl ri_iald), (3, .inl (ri_pu (ri_istore 4 2))), (5, .inl (ri_pu (ri_icon 71 2))), (7, .inl (ri_pu (ri_icon 5 1))), (8, .inl (ri_pu (ri_iload 4 2))), (10, .inl (ri_pu (ri_ib fun x y => x * y))), (11, .inl (ri_pu (ri_ib fun x y => x + y))), (12, .inl (ri_pu (ri_istore 5 2))), (14, .inl (ri_pu (ri_aload 0 1))), (15, .inl (ri_pu (ri_iload 5 2))), (17, .inl (ri_pu (ri_icon 0 1))), (18, .inl (ri_pu (ri_ib fun x y => x + y))), (19, .inl (ri_pu (ri_iload 3 1))), (20, .inl ri_iast), (21, .inl (ri_pu (ri_aload 0 1))), (22, .inl (ri_pu (ri_iload 5 2))), (24, .inl (ri_pu (ri_icon 1 1))), (25, .inl (ri_pu (ri_ib fun x y => x + y))), (26, .inl (ri_pu (ri_iload 1 1))), (27, .inl ri_iast), (28, .inl (ri_pu (ri_aload 0 1))), (29, .inl (ri_pu (ri_iload 5 2))), (31, .inl (ri_pu (ri_icon 2 1))), (32, .inl (ri_pu (ri_ib fun x y => x + y))), (33, .inl (ri_pu (ri_aload 0 1))), (34, .inl (ri_pu (ri_iload 1 1))), (35, .inl (ri_pu (ri_iload 2 1))), (36, .inr (.inl (157, 3, none))), (39, .inl ri_iast), (40, .inl (ri_pu (ri_aload 0 1))), (41, .inl (ri_pu (ri_iload 5 2))), (43, .inl (ri_pu (ri_icon 3 1))), (44, .inl (ri_pu (ri_ib fun x y => x + y))), (45, .inl (ri_pu (ri_icon 0 1))), (46, .inl ri_iast), (47, .inl (ri_pu (ri_aload 0 1))), (48, .inl (ri_pu (ri_iload 5 2))), (50, .inl (ri_pu (ri_icon 4 1)))] : List (Nat × ri_C)), re_ok Ex D dT 179 q :=
  re_a (re_p (ro_aload_n (by decide +kernel) rfl)) <|
  re_a (re_p (ro_iconst (by decide +kernel) (by decide +kernel))) <|
  re_a (re_h (rh_iald (by decide +kernel)) rg_iald) <|
  re_a (re_p (ro_istore (by decide +kernel) (by decide +kernel))) <|
  re_a (re_p (ro_bipush (by decide +kernel) (by decide +kernel))) <|
  re_a (re_p (ro_iconst (by decide +kernel) (by decide +kernel))) <|
  re_a (re_p (ro_iload (by decide +kernel))) <|
  re_a (re_p (ro_imul (by decide +kernel))) <|
  re_a (re_p (ro_iadd (by decide +kernel))) <|
  re_a (re_p (ro_istore (by decide +kernel) (by decide +kernel))) <|
  re_a (re_p (ro_aload_n (by decide +kernel) rfl)) <|
  re_a (re_p (ro_iload (by decide +kernel))) <|
  re_a (re_p (ro_iconst (by decide +kernel) (by decide +kernel))) <|
  re_a (re_p (ro_iadd (by decide +kernel))) <|
  re_a (re_p (ro_iload_n (by decide +kernel) rfl)) <|
  re_a (re_h (rh_iast (by decide +kernel)) rg_iast) <|
  re_a (re_p (ro_aload_n (by decide +kernel) rfl)) <|
  re_a (re_p (ro_iload (by decide +kernel))) <|
  re_a (re_p (ro_iconst (by decide +kernel) (by decide +kernel))) <|
  re_a (re_p (ro_iadd (by decide +kernel))) <|
  re_a (re_p (ro_iload_n (by decide +kernel) rfl)) <|
  re_a (re_h (rh_iast (by decide +kernel)) rg_iast) <|
  re_a (re_p (ro_aload_n (by decide +kernel) rfl)) <|
  re_a (re_p (ro_iload (by decide +kernel))) <|
  re_a (re_p (ro_iconst (by decide +kernel) (by decide +kernel))) <|
  re_a (re_p (ro_iadd (by decide +kernel))) <|
  re_a (re_p (ro_aload_n (by decide +kernel) rfl)) <|
  re_a (re_p (ro_iload_n (by decide +kernel) rfl)) <|
  re_a (re_p (ro_iload_n (by decide +kernel) rfl)) <|
  re_a (re_c (ck_X11_69 (by decide +kernel))) <|
  re_a (re_h (rh_iast (by decide +kernel)) rg_iast) <|
  re_a (re_p (ro_aload_n (by decide +kernel) rfl)) <|
  re_a (re_p (ro_iload (by decide +kernel))) <|
  re_a (re_p (ro_iconst (by decide +kernel) (by decide +kernel))) <|
  re_a (re_p (ro_iadd (by decide +kernel))) <|
  re_a (re_p (ro_iconst (by decide +kernel) (by decide +kernel))) <|
  re_a (re_h (rh_iast (by decide +kernel)) rg_iast) <|
  re_a (re_p (ro_aload_n (by decide +kernel) rfl)) <|
  re_a (re_p (ro_iload (by decide +kernel))) <|
  re_a (re_p (ro_iconst (by decide +kernel) (by decide +kernel))) <|
  re_n
theorem mk_179_1 : ∀ q ∈ ([(51, .inl (ri_pu (ri_ib fun x y => x + y))), (52, .inl (ri_pu (ri_icon 0 1))), (53, .inl ri_iast), (54, .inl (ri_pu (ri_aload 0 1))), (55, .inl (ri_pu (ri_icon 2 1))), (56, .inl (ri_pu ri_dup2)), (57, .inl ri_iald), (58, .inl (ri_pu (ri_icon 1 1))), (59, .inl (ri_pu (ri_ib fun x y => x + y))), (60, .inl ri_iast), (61, .inl (ri_pu (ri_iload 4 2))), (63, .inr (.inr 1))] : List (Nat × ri_C)), re_ok Ex D dT 179 q :=
  re_a (re_p (ro_iadd (by decide +kernel))) <|
  re_a (re_p (ro_iconst (by decide +kernel) (by decide +kernel))) <|
  re_a (re_h (rh_iast (by decide +kernel)) rg_iast) <|
  re_a (re_p (ro_aload_n (by decide +kernel) rfl)) <|
  re_a (re_p (ro_iconst (by decide +kernel) (by decide +kernel))) <|
  re_a (re_p (ro_dup2 (by decide +kernel))) <|
  re_a (re_h (rh_iald (by decide +kernel)) rg_iald) <|
  re_a (re_p (ro_iconst (by decide +kernel) (by decide +kernel))) <|
  re_a (re_p (ro_iadd (by decide +kernel))) <|
  re_a (re_h (rh_iast (by decide +kernel)) rg_iast) <|
  re_a (re_p (ro_iload (by decide +kernel))) <|
  re_a (re_r ⟨(by decide +kernel), rfl⟩) <|
  re_n
theorem mk_179 : ∀ q ∈ TL_179, re_ok Ex D dT 179 q := re_m mk_179_0 (mk_179_1)
theorem mk_180_0 : ∀ q ∈ ([(0, .inl (ri_pu (ri_icon 9 2))), (2, .inl (ri_pu (ri_icon 10 2))), (4, .inl (ri_pu (ri_iload 1 1))), (5, .inl (ri_pu (ri_ib fun x y => x * y))), (6, .inl (ri_pu (ri_ib fun x y => x + y))), (7, .inl (ri_pu (ri_icon 5 1))), (8, .inl (ri_pu (ri_ib fun x y => x + y))), (9, .inl (ri_pu (ri_aload 0 1))), (10, .inl (ri_pu (ri_iload 1 1))), (11, .inl (ri_pu (ri_iload 2 1))), (12, .inr (.inl (157, 3, none))), (15, .inl (ri_pu (ri_ib fun x y => x + y))), (16, .inl (ri_pu (ri_istore 4 2))), (18, .inl (ri_pu (ri_aload 0 1))), (19, .inl (ri_pu (ri_icon 6 2))), (21, .inl (ri_pu ri_dup2)), (22, .inl ri_iald), (23, .inl (ri_pu (ri_iload 3 1))), (24, .inl (ri_pu (ri_ib fun x y => x + y))), (25, .inl ri_iast), (26, .inl (ri_pu (ri_aload 0 1))), (27, .inl (ri_pu (ri_iload 4 2))), (29, .inl (ri_pu ri_dup2)), (30, .inl ri_iald), (31, .inl (ri_pu (ri_iload 3 1))), (32, .inl (ri_pu (ri_ib fun x y => x + y))), (33, .inl ri_iast), (34, .inl (ri_pu (ri_aload 0 1))), (35, .inl (ri_pu (ri_iload 4 2))), (37, .inl ri_iald), (38, .inl (ri_pu (ri_icon 9 2))), (40, .inl (ri_pu (ri_icmp (fun x y => decide (x ≤ y)) 53))), (43, .inl (ri_pu (ri_aload 0 1))), (44, .inl (ri_pu (ri_iload 4 2))), (46, .inl ri_iald), (47, .inl (ri_pu (ri_icon 9 2))), (49, .inl (ri_pu (ri_ib fun x y => x - y))), (50, .inl (ri_pu (ri_goto 54))), (53, .inl (ri_pu (ri_icon 0 1))), (54, .inl (ri_pu (ri_istore 5 2)))] : List (Nat × ri_C)), re_ok Ex D dT 180 q :=
  re_a (re_p (ro_bipush (by decide +kernel) (by decide +kernel))) <|
  re_a (re_p (ro_bipush (by decide +kernel) (by decide +kernel))) <|
  re_a (re_p (ro_iload_n (by decide +kernel) rfl)) <|
  re_a (re_p (ro_imul (by decide +kernel))) <|
  re_a (re_p (ro_iadd (by decide +kernel))) <|
  re_a (re_p (ro_iconst (by decide +kernel) (by decide +kernel))) <|
  re_a (re_p (ro_iadd (by decide +kernel))) <|
  re_a (re_p (ro_aload_n (by decide +kernel) rfl)) <|
  re_a (re_p (ro_iload_n (by decide +kernel) rfl)) <|
  re_a (re_p (ro_iload_n (by decide +kernel) rfl)) <|
  re_a (re_c (ck_X11_69 (by decide +kernel))) <|
  re_a (re_p (ro_iadd (by decide +kernel))) <|
  re_a (re_p (ro_istore (by decide +kernel) (by decide +kernel))) <|
  re_a (re_p (ro_aload_n (by decide +kernel) rfl)) <|
  re_a (re_p (ro_bipush (by decide +kernel) (by decide +kernel))) <|
  re_a (re_p (ro_dup2 (by decide +kernel))) <|
  re_a (re_h (rh_iald (by decide +kernel)) rg_iald) <|
  re_a (re_p (ro_iload_n (by decide +kernel) rfl)) <|
  re_a (re_p (ro_iadd (by decide +kernel))) <|
  re_a (re_h (rh_iast (by decide +kernel)) rg_iast) <|
  re_a (re_p (ro_aload_n (by decide +kernel) rfl)) <|
  re_a (re_p (ro_iload (by decide +kernel))) <|
  re_a (re_p (ro_dup2 (by decide +kernel))) <|
  re_a (re_h (rh_iald (by decide +kernel)) rg_iald) <|
  re_a (re_p (ro_iload_n (by decide +kernel) rfl)) <|
  re_a (re_p (ro_iadd (by decide +kernel))) <|
  re_a (re_h (rh_iast (by decide +kernel)) rg_iast) <|
  re_a (re_p (ro_aload_n (by decide +kernel) rfl)) <|
  re_a (re_p (ro_iload (by decide +kernel))) <|
  re_a (re_h (rh_iald (by decide +kernel)) rg_iald) <|
  re_a (re_p (ro_bipush (by decide +kernel) (by decide +kernel))) <|
  re_a (re_p (ro_icmp_le (by decide +kernel) (by decide +kernel))) <|
  re_a (re_p (ro_aload_n (by decide +kernel) rfl)) <|
  re_a (re_p (ro_iload (by decide +kernel))) <|
  re_a (re_h (rh_iald (by decide +kernel)) rg_iald) <|
  re_a (re_p (ro_bipush (by decide +kernel) (by decide +kernel))) <|
  re_a (re_p (ro_isub (by decide +kernel))) <|
  re_a (re_p (ro_goto (by decide +kernel) (by decide +kernel))) <|
  re_a (re_p (ro_iconst (by decide +kernel) (by decide +kernel))) <|
  re_a (re_p (ro_istore (by decide +kernel) (by decide +kernel))) <|
  re_n
theorem mk_180_1 : ∀ q ∈ ([(56, .inl (ri_pu (ri_aload 0 1))), (57, .inl (ri_pu (ri_iload 4 2))), (59, .inl (ri_pu ri_dup2)), (60, .inl ri_iald), (61, .inl (ri_pu (ri_iload 5 2))), (63, .inl (ri_pu (ri_ib fun x y => x - y))), (64, .inl ri_iast), (65, .inl (ri_pu (ri_aload 0 1))), (66, .inl (ri_pu (ri_icon 5 1))), (67, .inl (ri_pu ri_dup2)), (68, .inl ri_iald), (69, .inl (ri_pu (ri_iload 5 2))), (71, .inl (ri_pu (ri_ib fun x y => x + y))), (72, .inl ri_iast), (73, .inl (ri_pu (ri_aload 0 1))), (74, .inl (ri_pu (ri_iload 4 2))), (76, .inl ri_iald), (77, .inr (.inr 1))] : List (Nat × ri_C)), re_ok Ex D dT 180 q :=
  re_a (re_p (ro_aload_n (by decide +kernel) rfl)) <|
  re_a (re_p (ro_iload (by decide +kernel))) <|
  re_a (re_p (ro_dup2 (by decide +kernel))) <|
  re_a (re_h (rh_iald (by decide +kernel)) rg_iald) <|
  re_a (re_p (ro_iload (by decide +kernel))) <|
  re_a (re_p (ro_isub (by decide +kernel))) <|
  re_a (re_h (rh_iast (by decide +kernel)) rg_iast) <|
  re_a (re_p (ro_aload_n (by decide +kernel) rfl)) <|
  re_a (re_p (ro_iconst (by decide +kernel) (by decide +kernel))) <|
  re_a (re_p (ro_dup2 (by decide +kernel))) <|
  re_a (re_h (rh_iald (by decide +kernel)) rg_iald) <|
  re_a (re_p (ro_iload (by decide +kernel))) <|
  re_a (re_p (ro_iadd (by decide +kernel))) <|
  re_a (re_h (rh_iast (by decide +kernel)) rg_iast) <|
  re_a (re_p (ro_aload_n (by decide +kernel) rfl)) <|
  re_a (re_p (ro_iload (by decide +kernel))) <|
  re_a (re_h (rh_iald (by decide +kernel)) rg_iald) <|
  re_a (re_r ⟨(by decide +kernel), rfl⟩) <|
  re_n
theorem mk_180 : ∀ q ∈ TL_180, re_ok Ex D dT 180 q := re_m mk_180_0 (mk_180_1)
theorem mk_181 : ∀ q ∈ TL_181, re_ok Ex D dT 181 q :=
  re_a (re_p (ro_aload_n (by decide +kernel) rfl)) <|
  re_a (re_p (ro_iload_n (by decide +kernel) rfl)) <|
  re_a (re_p (ro_iload_n (by decide +kernel) rfl)) <|
  re_a (re_c (ck_X11_93 (by decide +kernel))) <|
  re_a (re_p (ro_aload_n (by decide +kernel) rfl)) <|
  re_a (re_p (ro_iload_n (by decide +kernel) rfl)) <|
  re_a (re_p (ro_iconst (by decide +kernel) (by decide +kernel))) <|
  re_a (re_c (ck_X11_51 (by decide +kernel))) <|
  re_a (re_r ⟨(by decide +kernel), rfl⟩) <|
  re_n
theorem mk_182 : ∀ q ∈ TL_182, re_ok Ex D dT 182 q :=
  re_a (re_p (ro_aload_n (by decide +kernel) rfl)) <|
  re_a (re_p (ro_iload_n (by decide +kernel) rfl)) <|
  re_a (re_p (ro_i2l (by decide +kernel))) <|
  re_a (re_p (ro_lconst (by decide +kernel) (by decide +kernel))) <|
  re_a (re_p (ro_ldc2 (by decide +kernel) q_1165)) <|
  re_a (re_c (ck_X11_43 (by decide +kernel))) <|
  re_a (re_p (ro_if_ne (by decide +kernel) (by decide +kernel))) <|
  re_a (re_p (ro_iconst (by decide +kernel) (by decide +kernel))) <|
  re_a (re_p (ro_goto (by decide +kernel) (by decide +kernel))) <|
  re_a (re_p (ro_aload_n (by decide +kernel) rfl)) <|
  re_a (re_h (gf_X11_128 (by decide +kernel)) (rg_getf _ _)) <|
  re_a (re_p (ro_bipush (by decide +kernel) (by decide +kernel))) <|
  re_a (re_p (ro_icmp_ne (by decide +kernel) (by decide +kernel))) <|
  re_a (re_p (ro_iconst (by decide +kernel) (by decide +kernel))) <|
  re_a (re_p (ro_goto (by decide +kernel) (by decide +kernel))) <|
  re_a (re_p (ro_iconst (by decide +kernel) (by decide +kernel))) <|
  re_a (re_c (ck_X11_131 (by decide +kernel))) <|
  re_a (re_p (ro_if_eq (by decide +kernel) (by decide +kernel))) <|
  re_a (re_p (ro_iconst (by decide +kernel) (by decide +kernel))) <|
  re_a (re_r ⟨(by decide +kernel), rfl⟩) <|
  re_a (re_p (ro_aload_n (by decide +kernel) rfl)) <|
  re_a (re_h (gf_X11_7 (by decide +kernel)) (rg_getf _ _)) <|
  re_a (re_p (ro_aload_n (by decide +kernel) rfl)) <|
  re_a (re_h (gf_X11_128 (by decide +kernel)) (rg_getf _ _)) <|
  re_a (re_p (ro_iload_n (by decide +kernel) rfl)) <|
  re_a (re_h (rh_iast (by decide +kernel)) rg_iast) <|
  re_a (re_p (ro_aload_n (by decide +kernel) rfl)) <|
  re_a (re_p (ro_dup (by decide +kernel))) <|
  re_a (re_h (gf_X11_128 (by decide +kernel)) (rg_getf _ _)) <|
  re_a (re_p (ro_iconst (by decide +kernel) (by decide +kernel))) <|
  re_a (re_p (ro_iadd (by decide +kernel))) <|
  re_a (re_h (pf_X11_128 (by decide +kernel)) (rg_puti _ _)) <|
  re_a (re_p (ro_aload_n (by decide +kernel) rfl)) <|
  re_a (re_h (gf_X11_128 (by decide +kernel)) (rg_getf _ _)) <|
  re_a (re_r ⟨(by decide +kernel), rfl⟩) <|
  re_n
theorem mk_183 : ∀ q ∈ TL_183, re_ok Ex D dT 183 q :=
  re_a (re_p (ro_aload_n (by decide +kernel) rfl)) <|
  re_a (re_p (ro_iconst (by decide +kernel) (by decide +kernel))) <|
  re_a (re_h (pf_X11_39 (by decide +kernel)) (rg_puti _ _)) <|
  re_a (re_p (ro_aload_n (by decide +kernel) rfl)) <|
  re_a (re_h (gf_X11_128 (by decide +kernel)) (rg_getf _ _)) <|
  re_a (re_p (ro_istore_n (by decide +kernel) rfl (by decide +kernel))) <|
  re_a (re_p (ro_aload_n (by decide +kernel) rfl)) <|
  re_a (re_p (ro_iconst (by decide +kernel) (by decide +kernel))) <|
  re_a (re_h (pf_X11_128 (by decide +kernel)) (rg_puti _ _)) <|
  re_a (re_p (ro_iload_n (by decide +kernel) rfl)) <|
  re_a (re_r ⟨(by decide +kernel), rfl⟩) <|
  re_n
theorem mk_184_0 : ∀ q ∈ ([(0, .inl (ri_pu (ri_icon 0 1))), (1, .inl (ri_pu (ri_istore 5 2))), (3, .inl (ri_pu (ri_iload 2 1))), (4, .inl (ri_pu (ri_icon 2 1))), (5, .inl (ri_pu (ri_icmp (fun x y => decide (¬ x = y)) 13))), (8, .inl (ri_pu (ri_icon 10 2))), (10, .inl (ri_pu (ri_goto 14))), (13, .inl (ri_pu (ri_icon 1 1))), (14, .inl (ri_pu (ri_istore 6 2))), (16, .inl (ri_pu (ri_iload 6 2))), (18, .inl (ri_pu (ri_if (fun x => decide (x ≤ 0)) 122))), (21, .inl (ri_pu (ri_iload 1 1))), (22, .inl (ri_pu (ri_icon (-1) 1))), (23, .inl (ri_pu (ri_icmp (fun x y => decide (x = y)) 122))), (26, .inl (ri_pu (ri_aload 0 1))), (27, .inl (ri_getf 9 11)), (30, .inl (ri_pu (ri_aload 0 1))), (31, .inl (ri_getf 9 2)), (34, .inl (ri_pu (ri_icmp (fun x y => decide (y ≤ x)) 52))), (37, .inl (ri_pu (ri_aload 0 1))), (38, .inl (ri_getf 9 1)), (41, .inl (ri_pu (ri_aload 0 1))), (42, .inl (ri_getf 9 11)), (45, .inl ri_iald), (46, .inl (ri_pu (ri_icon 48 2))), (48, .inl (ri_pu (ri_ib fun x y => x - y))), (49, .inl (ri_pu (ri_goto 53))), (52, .inl (ri_pu (ri_icon (-1) 1))), (53, .inl (ri_pu (ri_istore 7 2))), (55, .inl (ri_pu (ri_iload 5 2))), (57, .inl (ri_pu (ri_iload 7 2))), (59, .inl (ri_pu (ri_iload 6 2))), (61, .inl (ri_pu (ri_ib fun x y => x * y))), (62, .inl (ri_pu (ri_ib fun x y => x + y))), (63, .inl (ri_pu (ri_istore 8 2))), (65, .inl (ri_pu (ri_iload 7 2))), (67, .inl (ri_pu ri_i2l)), (68, .inl (ri_pu (ri_lcon 0 1))), (69, .inl (ri_pu (ri_lcon 9 3))), (72, .inr (.inl (146, 3, none)))] : List (Nat × ri_C)), re_ok Ex D dT 184 q :=
  re_a (re_p (ro_iconst (by decide +kernel) (by decide +kernel))) <|
  re_a (re_p (ro_istore (by decide +kernel) (by decide +kernel))) <|
  re_a (re_p (ro_iload_n (by decide +kernel) rfl)) <|
  re_a (re_p (ro_iconst (by decide +kernel) (by decide +kernel))) <|
  re_a (re_p (ro_icmp_ne (by decide +kernel) (by decide +kernel))) <|
  re_a (re_p (ro_bipush (by decide +kernel) (by decide +kernel))) <|
  re_a (re_p (ro_goto (by decide +kernel) (by decide +kernel))) <|
  re_a (re_p (ro_iconst (by decide +kernel) (by decide +kernel))) <|
  re_a (re_p (ro_istore (by decide +kernel) (by decide +kernel))) <|
  re_a (re_p (ro_iload (by decide +kernel))) <|
  re_a (re_p (ro_if_le (by decide +kernel) (by decide +kernel))) <|
  re_a (re_p (ro_iload_n (by decide +kernel) rfl)) <|
  re_a (re_p (ro_iconst (by decide +kernel) (by decide +kernel))) <|
  re_a (re_p (ro_icmp_eq (by decide +kernel) (by decide +kernel))) <|
  re_a (re_p (ro_aload_n (by decide +kernel) rfl)) <|
  re_a (re_h (gf_X11_135 (by decide +kernel)) (rg_getf _ _)) <|
  re_a (re_p (ro_aload_n (by decide +kernel) rfl)) <|
  re_a (re_h (gf_X11_128 (by decide +kernel)) (rg_getf _ _)) <|
  re_a (re_p (ro_icmp_ge (by decide +kernel) (by decide +kernel))) <|
  re_a (re_p (ro_aload_n (by decide +kernel) rfl)) <|
  re_a (re_h (gf_X11_7 (by decide +kernel)) (rg_getf _ _)) <|
  re_a (re_p (ro_aload_n (by decide +kernel) rfl)) <|
  re_a (re_h (gf_X11_135 (by decide +kernel)) (rg_getf _ _)) <|
  re_a (re_h (rh_iald (by decide +kernel)) rg_iald) <|
  re_a (re_p (ro_bipush (by decide +kernel) (by decide +kernel))) <|
  re_a (re_p (ro_isub (by decide +kernel))) <|
  re_a (re_p (ro_goto (by decide +kernel) (by decide +kernel))) <|
  re_a (re_p (ro_iconst (by decide +kernel) (by decide +kernel))) <|
  re_a (re_p (ro_istore (by decide +kernel) (by decide +kernel))) <|
  re_a (re_p (ro_iload (by decide +kernel))) <|
  re_a (re_p (ro_iload (by decide +kernel))) <|
  re_a (re_p (ro_iload (by decide +kernel))) <|
  re_a (re_p (ro_imul (by decide +kernel))) <|
  re_a (re_p (ro_iadd (by decide +kernel))) <|
  re_a (re_p (ro_istore (by decide +kernel) (by decide +kernel))) <|
  re_a (re_p (ro_iload (by decide +kernel))) <|
  re_a (re_p (ro_i2l (by decide +kernel))) <|
  re_a (re_p (ro_lconst (by decide +kernel) (by decide +kernel))) <|
  re_a (re_p (ro_ldc2 (by decide +kernel) q_1197)) <|
  re_a (re_c (ck_X11_43 (by decide +kernel))) <|
  re_n
theorem mk_184_1 : ∀ q ∈ ([(75, .inl (ri_pu (ri_if (fun x => decide (x = 0)) 96))), (78, .inl (ri_pu (ri_iload 8 2))), (80, .inl (ri_pu (ri_iload 4 2))), (82, .inl (ri_pu (ri_icmp (fun x y => decide (y < x)) 96))), (85, .inl (ri_pu (ri_iload 8 2))), (87, .inl (ri_pu (ri_iload 6 2))), (89, .inl (ri_pu (ri_ib fun x y => x + y))), (90, .inl (ri_pu (ri_icon 1 1))), (91, .inl (ri_pu (ri_ib fun x y => x - y))), (92, .inl (ri_pu (ri_iload 3 1))), (93, .inl (ri_pu (ri_icmp (fun x y => decide (y ≤ x)) 98))), (96, .inl (ri_pu (ri_icon (-1) 1))), (97, .inr (.inr 1)), (98, .inl (ri_pu (ri_iload 8 2))), (100, .inl (ri_pu (ri_istore 5 2))), (102, .inl (ri_pu (ri_aload 0 1))), (103, .inl (ri_pu ri_dup)), (104, .inl (ri_getf 9 11)), (107, .inl (ri_pu (ri_icon 1 1))), (108, .inl (ri_pu (ri_ib fun x y => x + y))), (109, .inl (ri_puti 9 11)), (112, .inl (ri_pu (ri_iload 6 2))), (114, .inl (ri_pu (ri_icon 10 2))), (116, .inl (ri_pu (ri_idr fun x y => x / y))), (117, .inl (ri_pu (ri_istore 6 2))), (119, .inl (ri_pu (ri_goto 16))), (122, .inl (ri_pu (ri_iload 1 1))), (123, .inl (ri_pu (ri_icon (-1) 1))), (124, .inl (ri_pu (ri_icmp (fun x y => decide (¬ x = y)) 131))), (127, .inl (ri_pu (ri_icon (-1) 1))), (128, .inl (ri_pu (ri_goto 133))), (131, .inl (ri_pu (ri_iload 5 2))), (133, .inr (.inr 1))] : List (Nat × ri_C)), re_ok Ex D dT 184 q :=
  re_a (re_p (ro_if_eq (by decide +kernel) (by decide +kernel))) <|
  re_a (re_p (ro_iload (by decide +kernel))) <|
  re_a (re_p (ro_iload (by decide +kernel))) <|
  re_a (re_p (ro_icmp_gt (by decide +kernel) (by decide +kernel))) <|
  re_a (re_p (ro_iload (by decide +kernel))) <|
  re_a (re_p (ro_iload (by decide +kernel))) <|
  re_a (re_p (ro_iadd (by decide +kernel))) <|
  re_a (re_p (ro_iconst (by decide +kernel) (by decide +kernel))) <|
  re_a (re_p (ro_isub (by decide +kernel))) <|
  re_a (re_p (ro_iload_n (by decide +kernel) rfl)) <|
  re_a (re_p (ro_icmp_ge (by decide +kernel) (by decide +kernel))) <|
  re_a (re_p (ro_iconst (by decide +kernel) (by decide +kernel))) <|
  re_a (re_r ⟨(by decide +kernel), rfl⟩) <|
  re_a (re_p (ro_iload (by decide +kernel))) <|
  re_a (re_p (ro_istore (by decide +kernel) (by decide +kernel))) <|
  re_a (re_p (ro_aload_n (by decide +kernel) rfl)) <|
  re_a (re_p (ro_dup (by decide +kernel))) <|
  re_a (re_h (gf_X11_135 (by decide +kernel)) (rg_getf _ _)) <|
  re_a (re_p (ro_iconst (by decide +kernel) (by decide +kernel))) <|
  re_a (re_p (ro_iadd (by decide +kernel))) <|
  re_a (re_h (pf_X11_135 (by decide +kernel)) (rg_puti _ _)) <|
  re_a (re_p (ro_iload (by decide +kernel))) <|
  re_a (re_p (ro_bipush (by decide +kernel) (by decide +kernel))) <|
  re_a (re_p (ro_idiv (by decide +kernel))) <|
  re_a (re_p (ro_istore (by decide +kernel) (by decide +kernel))) <|
  re_a (re_p (ro_goto (by decide +kernel) (by decide +kernel))) <|
  re_a (re_p (ro_iload_n (by decide +kernel) rfl)) <|
  re_a (re_p (ro_iconst (by decide +kernel) (by decide +kernel))) <|
  re_a (re_p (ro_icmp_ne (by decide +kernel) (by decide +kernel))) <|
  re_a (re_p (ro_iconst (by decide +kernel) (by decide +kernel))) <|
  re_a (re_p (ro_goto (by decide +kernel) (by decide +kernel))) <|
  re_a (re_p (ro_iload (by decide +kernel))) <|
  re_a (re_r ⟨(by decide +kernel), rfl⟩) <|
  re_n
theorem mk_184 : ∀ q ∈ TL_184, re_ok Ex D dT 184 q := re_m mk_184_0 (mk_184_1)
theorem mk_185 : ∀ q ∈ TL_185, re_ok Ex D dT 185 q :=
  re_a (re_p (ro_aload_n (by decide +kernel) rfl)) <|
  re_a (re_p (ro_dup (by decide +kernel))) <|
  re_a (re_h (gf_X11_140 (by decide +kernel)) (rg_getf _ _)) <|
  re_a (re_p (ro_iload_n (by decide +kernel) rfl)) <|
  re_a (re_p (ro_if_eq (by decide +kernel) (by decide +kernel))) <|
  re_a (re_p (ro_iconst (by decide +kernel) (by decide +kernel))) <|
  re_a (re_p (ro_goto (by decide +kernel) (by decide +kernel))) <|
  re_a (re_p (ro_iconst (by decide +kernel) (by decide +kernel))) <|
  re_a (re_p (ro_iadd (by decide +kernel))) <|
  re_a (re_h (pf_X11_140 (by decide +kernel)) (rg_puti _ _)) <|
  re_a (re_p (ro_iconst (by decide +kernel) (by decide +kernel))) <|
  re_a (re_r ⟨(by decide +kernel), rfl⟩) <|
  re_n
theorem mk_186 : ∀ q ∈ TL_186, re_ok Ex D dT 186 q :=
  re_a (re_p (ro_aload_n (by decide +kernel) rfl)) <|
  re_a (re_p (ro_iload_n (by decide +kernel) rfl)) <|
  re_a (re_p (ro_iconst (by decide +kernel) (by decide +kernel))) <|
  re_a (re_p (ro_iconst (by decide +kernel) (by decide +kernel))) <|
  re_a (re_p (ro_iconst (by decide +kernel) (by decide +kernel))) <|
  re_a (re_c (ck_X11_143 (by decide +kernel))) <|
  re_a (re_r ⟨(by decide +kernel), rfl⟩) <|
  re_n
theorem mk_187 : ∀ q ∈ TL_187, re_ok Ex D dT 187 q :=
  re_a (re_p (ro_aload_n (by decide +kernel) rfl)) <|
  re_a (re_p (ro_iload_n (by decide +kernel) rfl)) <|
  re_a (re_p (ro_iconst (by decide +kernel) (by decide +kernel))) <|
  re_a (re_p (ro_iconst (by decide +kernel) (by decide +kernel))) <|
  re_a (re_p (ro_iconst (by decide +kernel) (by decide +kernel))) <|
  re_a (re_c (ck_X11_143 (by decide +kernel))) <|
  re_a (re_r ⟨(by decide +kernel), rfl⟩) <|
  re_n
theorem mk_188_0 : ∀ q ∈ ([(0, .inl (ri_pu (ri_aload 0 1))), (1, .inl (ri_pu (ri_icon 0 1))), (2, .inl (ri_pu (ri_icon 1 1))), (3, .inl (ri_pu (ri_icon 3 1))), (4, .inl (ri_pu (ri_icon 5 1))), (5, .inr (.inl (184, 5, some 9))), (8, .inl (ri_pu (ri_istore 2 1))), (9, .inl (ri_pu (ri_aload 0 1))), (10, .inl (ri_pu (ri_iload 2 1))), (11, .inl (ri_pu (ri_icon 1 1))), (12, .inl (ri_pu (ri_icon 0 1))), (13, .inl (ri_pu (ri_icon 8 2))), (15, .inr (.inl (184, 5, some 9))), (18, .inl (ri_pu (ri_istore 3 1))), (19, .inl (ri_pu (ri_aload 0 1))), (20, .inl (ri_pu (ri_iload 3 1))), (21, .inl (ri_pu (ri_icon 2 1))), (22, .inl (ri_pu (ri_icon 0 1))), (23, .inl (ri_pu (ri_icon 30 2))), (25, .inr (.inl (184, 5, some 9))), (28, .inl (ri_pu (ri_istore 4 2))), (30, .inl (ri_pu (ri_iload 4 2))), (32, .inl (ri_pu (ri_icon (-1) 1))), (33, .inl (ri_pu (ri_icmp (fun x y => decide (x = y)) 72))), (36, .inl (ri_pu (ri_aload 0 1))), (37, .inl (ri_pu (ri_aload 1 1))), (38, .inl (ri_pu (ri_icon 0 1))), (39, .inl ri_iald), (40, .inl (ri_pu (ri_icon 3 1))), (41, .inl (ri_pu (ri_icmp (fun x y => decide (y ≤ x)) 61))), (44, .inl (ri_pu (ri_aload 1 1))), (45, .inl (ri_pu (ri_iload 2 1))), (46, .inl (ri_pu (ri_iload 3 1))), (47, .inl (ri_pu (ri_icon 4 1))), (48, .inl (ri_pu (ri_ib fun x y => x - y))), (49, .inl (ri_pu (ri_iload 4 2))), (51, .inr (.inl (175, 4, none))), (54, .inl (ri_pu (ri_if (fun x => decide (x < 0)) 61))), (57, .inl (ri_pu (ri_icon 1 1))), (58, .inl (ri_pu (ri_goto 62)))] : List (Nat × ri_C)), re_ok Ex D dT 188 q :=
  re_a (re_p (ro_aload_n (by decide +kernel) rfl)) <|
  re_a (re_p (ro_iconst (by decide +kernel) (by decide +kernel))) <|
  re_a (re_p (ro_iconst (by decide +kernel) (by decide +kernel))) <|
  re_a (re_p (ro_iconst (by decide +kernel) (by decide +kernel))) <|
  re_a (re_p (ro_iconst (by decide +kernel) (by decide +kernel))) <|
  re_a (re_c (ck_X11_143 (by decide +kernel))) <|
  re_a (re_p (ro_istore_n (by decide +kernel) rfl (by decide +kernel))) <|
  re_a (re_p (ro_aload_n (by decide +kernel) rfl)) <|
  re_a (re_p (ro_iload_n (by decide +kernel) rfl)) <|
  re_a (re_p (ro_iconst (by decide +kernel) (by decide +kernel))) <|
  re_a (re_p (ro_iconst (by decide +kernel) (by decide +kernel))) <|
  re_a (re_p (ro_bipush (by decide +kernel) (by decide +kernel))) <|
  re_a (re_c (ck_X11_143 (by decide +kernel))) <|
  re_a (re_p (ro_istore_n (by decide +kernel) rfl (by decide +kernel))) <|
  re_a (re_p (ro_aload_n (by decide +kernel) rfl)) <|
  re_a (re_p (ro_iload_n (by decide +kernel) rfl)) <|
  re_a (re_p (ro_iconst (by decide +kernel) (by decide +kernel))) <|
  re_a (re_p (ro_iconst (by decide +kernel) (by decide +kernel))) <|
  re_a (re_p (ro_bipush (by decide +kernel) (by decide +kernel))) <|
  re_a (re_c (ck_X11_143 (by decide +kernel))) <|
  re_a (re_p (ro_istore (by decide +kernel) (by decide +kernel))) <|
  re_a (re_p (ro_iload (by decide +kernel))) <|
  re_a (re_p (ro_iconst (by decide +kernel) (by decide +kernel))) <|
  re_a (re_p (ro_icmp_eq (by decide +kernel) (by decide +kernel))) <|
  re_a (re_p (ro_aload_n (by decide +kernel) rfl)) <|
  re_a (re_p (ro_aload_n (by decide +kernel) rfl)) <|
  re_a (re_p (ro_iconst (by decide +kernel) (by decide +kernel))) <|
  re_a (re_h (rh_iald (by decide +kernel)) rg_iald) <|
  re_a (re_p (ro_iconst (by decide +kernel) (by decide +kernel))) <|
  re_a (re_p (ro_icmp_ge (by decide +kernel) (by decide +kernel))) <|
  re_a (re_p (ro_aload_n (by decide +kernel) rfl)) <|
  re_a (re_p (ro_iload_n (by decide +kernel) rfl)) <|
  re_a (re_p (ro_iload_n (by decide +kernel) rfl)) <|
  re_a (re_p (ro_iconst (by decide +kernel) (by decide +kernel))) <|
  re_a (re_p (ro_isub (by decide +kernel))) <|
  re_a (re_p (ro_iload (by decide +kernel))) <|
  re_a (re_c (ck_X11_147 (by decide +kernel))) <|
  re_a (re_p (ro_if_lt (by decide +kernel) (by decide +kernel))) <|
  re_a (re_p (ro_iconst (by decide +kernel) (by decide +kernel))) <|
  re_a (re_p (ro_goto (by decide +kernel) (by decide +kernel))) <|
  re_n
theorem mk_188_1 : ∀ q ∈ ([(61, .inl (ri_pu (ri_icon 0 1))), (62, .inr (.inl (185, 2, some 9))), (65, .inl (ri_pu (ri_if (fun x => decide (x = 0)) 72))), (68, .inl (ri_pu (ri_icon 1 1))), (69, .inl (ri_pu (ri_goto 73))), (72, .inl (ri_pu (ri_icon 0 1))), (73, .inr (.inr 2))] : List (Nat × ri_C)), re_ok Ex D dT 188 q :=
  re_a (re_p (ro_iconst (by decide +kernel) (by decide +kernel))) <|
  re_a (re_c (ck_X11_150 (by decide +kernel))) <|
  re_a (re_p (ro_if_eq (by decide +kernel) (by decide +kernel))) <|
  re_a (re_p (ro_iconst (by decide +kernel) (by decide +kernel))) <|
  re_a (re_p (ro_goto (by decide +kernel) (by decide +kernel))) <|
  re_a (re_p (ro_iconst (by decide +kernel) (by decide +kernel))) <|
  re_a (re_r ⟨(by decide +kernel), rfl⟩) <|
  re_n
theorem mk_188 : ∀ q ∈ TL_188, re_ok Ex D dT 188 q := re_m mk_188_0 (mk_188_1)
theorem mk_189_0 : ∀ q ∈ ([(0, .inl (ri_pu (ri_aload 0 1))), (1, .inl (ri_pu (ri_icon 0 1))), (2, .inr (.inl (186, 2, some 9))), (5, .inl (ri_pu (ri_istore 2 1))), (6, .inl (ri_pu (ri_aload 0 1))), (7, .inl (ri_pu (ri_iload 2 1))), (8, .inr (.inl (187, 2, some 9))), (11, .inl (ri_pu (ri_istore 3 1))), (12, .inl (ri_pu (ri_aload 0 1))), (13, .inl (ri_pu (ri_iload 3 1))), (14, .inr (.inl (186, 2, some 9))), (17, .inl (ri_pu (ri_istore 4 2))), (19, .inl (ri_pu (ri_aload 0 1))), (20, .inl (ri_pu (ri_iload 4 2))), (22, .inr (.inl (187, 2, some 9))), (25, .inl (ri_pu (ri_istore 5 2))), (27, .inl (ri_pu (ri_iload 5 2))), (29, .inl (ri_pu (ri_icon (-1) 1))), (30, .inl (ri_pu (ri_icmp (fun x y => decide (x = y)) 75))), (33, .inl (ri_pu (ri_aload 0 1))), (34, .inl (ri_pu (ri_aload 1 1))), (35, .inl (ri_pu (ri_iload 2 1))), (36, .inl (ri_pu (ri_iload 3 1))), (37, .inl (ri_pu (ri_iload 4 2))), (39, .inl (ri_pu (ri_iload 5 2))), (41, .inr (.inl (176, 5, none))), (44, .inl (ri_pu (ri_if (fun x => decide (x = 0)) 64))), (47, .inl (ri_pu (ri_aload 1 1))), (48, .inl (ri_pu (ri_iload 2 1))), (49, .inl (ri_pu (ri_iload 3 1))), (50, .inl (ri_pu (ri_iload 4 2))), (52, .inl (ri_pu (ri_iload 5 2))), (54, .inr (.inl (177, 5, none))), (57, .inl (ri_pu (ri_if (fun x => decide (x < 0)) 64))), (60, .inl (ri_pu (ri_icon 1 1))), (61, .inl (ri_pu (ri_goto 65))), (64, .inl (ri_pu (ri_icon 0 1))), (65, .inr (.inl (185, 2, some 9))), (68, .inl (ri_pu (ri_if (fun x => decide (x = 0)) 75))), (71, .inl (ri_pu (ri_icon 1 1)))] : List (Nat × ri_C)), re_ok Ex D dT 189 q :=
  re_a (re_p (ro_aload_n (by decide +kernel) rfl)) <|
  re_a (re_p (ro_iconst (by decide +kernel) (by decide +kernel))) <|
  re_a (re_c (ck_X11_154 (by decide +kernel))) <|
  re_a (re_p (ro_istore_n (by decide +kernel) rfl (by decide +kernel))) <|
  re_a (re_p (ro_aload_n (by decide +kernel) rfl)) <|
  re_a (re_p (ro_iload_n (by decide +kernel) rfl)) <|
  re_a (re_c (ck_X11_158 (by decide +kernel))) <|
  re_a (re_p (ro_istore_n (by decide +kernel) rfl (by decide +kernel))) <|
  re_a (re_p (ro_aload_n (by decide +kernel) rfl)) <|
  re_a (re_p (ro_iload_n (by decide +kernel) rfl)) <|
  re_a (re_c (ck_X11_154 (by decide +kernel))) <|
  re_a (re_p (ro_istore (by decide +kernel) (by decide +kernel))) <|
  re_a (re_p (ro_aload_n (by decide +kernel) rfl)) <|
  re_a (re_p (ro_iload (by decide +kernel))) <|
  re_a (re_c (ck_X11_158 (by decide +kernel))) <|
  re_a (re_p (ro_istore (by decide +kernel) (by decide +kernel))) <|
  re_a (re_p (ro_iload (by decide +kernel))) <|
  re_a (re_p (ro_iconst (by decide +kernel) (by decide +kernel))) <|
  re_a (re_p (ro_icmp_eq (by decide +kernel) (by decide +kernel))) <|
  re_a (re_p (ro_aload_n (by decide +kernel) rfl)) <|
  re_a (re_p (ro_aload_n (by decide +kernel) rfl)) <|
  re_a (re_p (ro_iload_n (by decide +kernel) rfl)) <|
  re_a (re_p (ro_iload_n (by decide +kernel) rfl)) <|
  re_a (re_p (ro_iload (by decide +kernel))) <|
  re_a (re_p (ro_iload (by decide +kernel))) <|
  re_a (re_c (ck_X11_161 (by decide +kernel))) <|
  re_a (re_p (ro_if_eq (by decide +kernel) (by decide +kernel))) <|
  re_a (re_p (ro_aload_n (by decide +kernel) rfl)) <|
  re_a (re_p (ro_iload_n (by decide +kernel) rfl)) <|
  re_a (re_p (ro_iload_n (by decide +kernel) rfl)) <|
  re_a (re_p (ro_iload (by decide +kernel))) <|
  re_a (re_p (ro_iload (by decide +kernel))) <|
  re_a (re_c (ck_X11_165 (by decide +kernel))) <|
  re_a (re_p (ro_if_lt (by decide +kernel) (by decide +kernel))) <|
  re_a (re_p (ro_iconst (by decide +kernel) (by decide +kernel))) <|
  re_a (re_p (ro_goto (by decide +kernel) (by decide +kernel))) <|
  re_a (re_p (ro_iconst (by decide +kernel) (by decide +kernel))) <|
  re_a (re_c (ck_X11_150 (by decide +kernel))) <|
  re_a (re_p (ro_if_eq (by decide +kernel) (by decide +kernel))) <|
  re_a (re_p (ro_iconst (by decide +kernel) (by decide +kernel))) <|
  re_n
theorem mk_189_1 : ∀ q ∈ ([(72, .inl (ri_pu (ri_goto 76))), (75, .inl (ri_pu (ri_icon 0 1))), (76, .inr (.inr 2))] : List (Nat × ri_C)), re_ok Ex D dT 189 q :=
  re_a (re_p (ro_goto (by decide +kernel) (by decide +kernel))) <|
  re_a (re_p (ro_iconst (by decide +kernel) (by decide +kernel))) <|
  re_a (re_r ⟨(by decide +kernel), rfl⟩) <|
  re_n
theorem mk_189 : ∀ q ∈ TL_189, re_ok Ex D dT 189 q := re_m mk_189_0 (mk_189_1)
theorem mk_190_0 : ∀ q ∈ ([(0, .inl (ri_pu (ri_aload 0 1))), (1, .inl (ri_pu (ri_icon 0 1))), (2, .inr (.inl (186, 2, some 9))), (5, .inl (ri_pu (ri_istore 3 1))), (6, .inl (ri_pu (ri_aload 0 1))), (7, .inl (ri_pu (ri_iload 3 1))), (8, .inr (.inl (187, 2, some 9))), (11, .inl (ri_pu (ri_istore 4 2))), (13, .inl (ri_pu (ri_aload 0 1))), (14, .inl (ri_pu (ri_iload 4 2))), (16, .inl (ri_pu (ri_icon 1 1))), (17, .inl (ri_pu (ri_icon 1 1))), (18, .inl (ri_pu (ri_icon 9 2))), (20, .inr (.inl (184, 5, some 9))), (23, .inl (ri_pu (ri_istore 5 2))), (25, .inl (ri_pu (ri_iload 5 2))), (27, .inl (ri_pu (ri_icon (-1) 1))), (28, .inl (ri_pu (ri_icmp (fun x y => decide (x = y)) 103))), (31, .inl (ri_pu (ri_aload 0 1))), (32, .inl (ri_pu (ri_iload 2 1))), (33, .inl (ri_pu (ri_if (fun x => decide (x = 0)) 66))), (36, .inl (ri_pu (ri_aload 1 1))), (37, .inl (ri_pu (ri_iload 3 1))), (38, .inl (ri_pu (ri_iload 4 2))), (40, .inr (.inl (178, 3, none))), (43, .inl (ri_pu (ri_if (fun x => decide (x = 0)) 62))), (46, .inl (ri_pu (ri_aload 1 1))), (47, .inl (ri_pu (ri_iload 3 1))), (48, .inl (ri_pu (ri_iload 4 2))), (50, .inl (ri_pu (ri_iload 5 2))), (52, .inr (.inl (179, 4, none))), (55, .inl (ri_pu (ri_if (fun x => decide (x < 0)) 62))), (58, .inl (ri_pu (ri_icon 1 1))), (59, .inl (ri_pu (ri_goto 93))), (62, .inl (ri_pu (ri_icon 0 1))), (63, .inl (ri_pu (ri_goto 93))), (66, .inl (ri_pu (ri_aload 1 1))), (67, .inl (ri_pu (ri_iload 3 1))), (68, .inl (ri_pu (ri_iload 4 2))), (70, .inr (.inl (153, 3, none)))] : List (Nat × ri_C)), re_ok Ex D dT 190 q :=
  re_a (re_p (ro_aload_n (by decide +kernel) rfl)) <|
  re_a (re_p (ro_iconst (by decide +kernel) (by decide +kernel))) <|
  re_a (re_c (ck_X11_154 (by decide +kernel))) <|
  re_a (re_p (ro_istore_n (by decide +kernel) rfl (by decide +kernel))) <|
  re_a (re_p (ro_aload_n (by decide +kernel) rfl)) <|
  re_a (re_p (ro_iload_n (by decide +kernel) rfl)) <|
  re_a (re_c (ck_X11_158 (by decide +kernel))) <|
  re_a (re_p (ro_istore (by decide +kernel) (by decide +kernel))) <|
  re_a (re_p (ro_aload_n (by decide +kernel) rfl)) <|
  re_a (re_p (ro_iload (by decide +kernel))) <|
  re_a (re_p (ro_iconst (by decide +kernel) (by decide +kernel))) <|
  re_a (re_p (ro_iconst (by decide +kernel) (by decide +kernel))) <|
  re_a (re_p (ro_bipush (by decide +kernel) (by decide +kernel))) <|
  re_a (re_c (ck_X11_143 (by decide +kernel))) <|
  re_a (re_p (ro_istore (by decide +kernel) (by decide +kernel))) <|
  re_a (re_p (ro_iload (by decide +kernel))) <|
  re_a (re_p (ro_iconst (by decide +kernel) (by decide +kernel))) <|
  re_a (re_p (ro_icmp_eq (by decide +kernel) (by decide +kernel))) <|
  re_a (re_p (ro_aload_n (by decide +kernel) rfl)) <|
  re_a (re_p (ro_iload_n (by decide +kernel) rfl)) <|
  re_a (re_p (ro_if_eq (by decide +kernel) (by decide +kernel))) <|
  re_a (re_p (ro_aload_n (by decide +kernel) rfl)) <|
  re_a (re_p (ro_iload_n (by decide +kernel) rfl)) <|
  re_a (re_p (ro_iload (by decide +kernel))) <|
  re_a (re_c (ck_X11_169 (by decide +kernel))) <|
  re_a (re_p (ro_if_eq (by decide +kernel) (by decide +kernel))) <|
  re_a (re_p (ro_aload_n (by decide +kernel) rfl)) <|
  re_a (re_p (ro_iload_n (by decide +kernel) rfl)) <|
  re_a (re_p (ro_iload (by decide +kernel))) <|
  re_a (re_p (ro_iload (by decide +kernel))) <|
  re_a (re_c (ck_X11_172 (by decide +kernel))) <|
  re_a (re_p (ro_if_lt (by decide +kernel) (by decide +kernel))) <|
  re_a (re_p (ro_iconst (by decide +kernel) (by decide +kernel))) <|
  re_a (re_p (ro_goto (by decide +kernel) (by decide +kernel))) <|
  re_a (re_p (ro_iconst (by decide +kernel) (by decide +kernel))) <|
  re_a (re_p (ro_goto (by decide +kernel) (by decide +kernel))) <|
  re_a (re_p (ro_aload_n (by decide +kernel) rfl)) <|
  re_a (re_p (ro_iload_n (by decide +kernel) rfl)) <|
  re_a (re_p (ro_iload (by decide +kernel))) <|
  re_a (re_c (ck_X11_122 (by decide +kernel))) <|
  re_n
theorem mk_190_1 : ∀ q ∈ ([(73, .inl (ri_pu (ri_if (fun x => decide (x = 0)) 92))), (76, .inl (ri_pu (ri_aload 1 1))), (77, .inl (ri_pu (ri_iload 3 1))), (78, .inl (ri_pu (ri_iload 4 2))), (80, .inl (ri_pu (ri_iload 5 2))), (82, .inr (.inl (180, 4, none))), (85, .inl (ri_pu (ri_if (fun x => decide (x < 0)) 92))), (88, .inl (ri_pu (ri_icon 1 1))), (89, .inl (ri_pu (ri_goto 93))), (92, .inl (ri_pu (ri_icon 0 1))), (93, .inr (.inl (185, 2, some 9))), (96, .inl (ri_pu (ri_if (fun x => decide (x = 0)) 103))), (99, .inl (ri_pu (ri_icon 1 1))), (100, .inl (ri_pu (ri_goto 104))), (103, .inl (ri_pu (ri_icon 0 1))), (104, .inr (.inr 2))] : List (Nat × ri_C)), re_ok Ex D dT 190 q :=
  re_a (re_p (ro_if_eq (by decide +kernel) (by decide +kernel))) <|
  re_a (re_p (ro_aload_n (by decide +kernel) rfl)) <|
  re_a (re_p (ro_iload_n (by decide +kernel) rfl)) <|
  re_a (re_p (ro_iload (by decide +kernel))) <|
  re_a (re_p (ro_iload (by decide +kernel))) <|
  re_a (re_c (ck_X11_175 (by decide +kernel))) <|
  re_a (re_p (ro_if_lt (by decide +kernel) (by decide +kernel))) <|
  re_a (re_p (ro_iconst (by decide +kernel) (by decide +kernel))) <|
  re_a (re_p (ro_goto (by decide +kernel) (by decide +kernel))) <|
  re_a (re_p (ro_iconst (by decide +kernel) (by decide +kernel))) <|
  re_a (re_c (ck_X11_150 (by decide +kernel))) <|
  re_a (re_p (ro_if_eq (by decide +kernel) (by decide +kernel))) <|
  re_a (re_p (ro_iconst (by decide +kernel) (by decide +kernel))) <|
  re_a (re_p (ro_goto (by decide +kernel) (by decide +kernel))) <|
  re_a (re_p (ro_iconst (by decide +kernel) (by decide +kernel))) <|
  re_a (re_r ⟨(by decide +kernel), rfl⟩) <|
  re_n
theorem mk_190 : ∀ q ∈ TL_190, re_ok Ex D dT 190 q := re_m mk_190_0 (mk_190_1)
theorem mk_191_0 : ∀ q ∈ ([(0, .inl (ri_pu (ri_aload 0 1))), (1, .inl (ri_pu (ri_icon 0 1))), (2, .inl (ri_pu (ri_icon 1 1))), (3, .inl (ri_pu (ri_icon 0 1))), (4, .inl (ri_pu (ri_icon 4 1))), (5, .inr (.inl (184, 5, some 9))), (8, .inl (ri_pu (ri_istore 2 1))), (9, .inl (ri_pu (ri_iload 2 1))), (10, .inl (ri_pu (ri_icon (-1) 1))), (11, .inl (ri_pu (ri_icmp (fun x y => decide (x = y)) 53))), (14, .inl (ri_pu (ri_aload 0 1))), (15, .inl (ri_getf 9 11)), (18, .inl (ri_pu (ri_aload 0 1))), (19, .inl (ri_getf 9 2)), (22, .inl (ri_pu (ri_icmp (fun x y => decide (x = y)) 53))), (25, .inl (ri_pu (ri_aload 0 1))), (26, .inl (ri_getf 9 1)), (29, .inl (ri_pu (ri_aload 0 1))), (30, .inl (ri_getf 9 11)), (33, .inl ri_iald), (34, .inl (ri_pu (ri_icon 43 2))), (36, .inl (ri_pu (ri_icmp (fun x y => decide (x = y)) 55))), (39, .inl (ri_pu (ri_aload 0 1))), (40, .inl (ri_getf 9 1)), (43, .inl (ri_pu (ri_aload 0 1))), (44, .inl (ri_getf 9 11)), (47, .inl ri_iald), (48, .inl (ri_pu (ri_icon 45 2))), (50, .inl (ri_pu (ri_icmp (fun x y => decide (x = y)) 55))), (53, .inl (ri_pu (ri_icon 0 1))), (54, .inr (.inr 2)), (55, .inl (ri_pu (ri_aload 0 1))), (56, .inl (ri_getf 9 1)), (59, .inl (ri_pu (ri_aload 0 1))), (60, .inl (ri_getf 9 11)), (63, .inl ri_iald), (64, .inl (ri_pu (ri_icon 43 2))), (66, .inl (ri_pu (ri_icmp (fun x y => decide (¬ x = y)) 73))), (69, .inl (ri_pu (ri_icon 1 1))), (70, .inl (ri_pu (ri_goto 74)))] : List (Nat × ri_C)), re_ok Ex D dT 191 q :=
  re_a (re_p (ro_aload_n (by decide +kernel) rfl)) <|
  re_a (re_p (ro_iconst (by decide +kernel) (by decide +kernel))) <|
  re_a (re_p (ro_iconst (by decide +kernel) (by decide +kernel))) <|
  re_a (re_p (ro_iconst (by decide +kernel) (by decide +kernel))) <|
  re_a (re_p (ro_iconst (by decide +kernel) (by decide +kernel))) <|
  re_a (re_c (ck_X11_143 (by decide +kernel))) <|
  re_a (re_p (ro_istore_n (by decide +kernel) rfl (by decide +kernel))) <|
  re_a (re_p (ro_iload_n (by decide +kernel) rfl)) <|
  re_a (re_p (ro_iconst (by decide +kernel) (by decide +kernel))) <|
  re_a (re_p (ro_icmp_eq (by decide +kernel) (by decide +kernel))) <|
  re_a (re_p (ro_aload_n (by decide +kernel) rfl)) <|
  re_a (re_h (gf_X11_135 (by decide +kernel)) (rg_getf _ _)) <|
  re_a (re_p (ro_aload_n (by decide +kernel) rfl)) <|
  re_a (re_h (gf_X11_128 (by decide +kernel)) (rg_getf _ _)) <|
  re_a (re_p (ro_icmp_eq (by decide +kernel) (by decide +kernel))) <|
  re_a (re_p (ro_aload_n (by decide +kernel) rfl)) <|
  re_a (re_h (gf_X11_7 (by decide +kernel)) (rg_getf _ _)) <|
  re_a (re_p (ro_aload_n (by decide +kernel) rfl)) <|
  re_a (re_h (gf_X11_135 (by decide +kernel)) (rg_getf _ _)) <|
  re_a (re_h (rh_iald (by decide +kernel)) rg_iald) <|
  re_a (re_p (ro_bipush (by decide +kernel) (by decide +kernel))) <|
  re_a (re_p (ro_icmp_eq (by decide +kernel) (by decide +kernel))) <|
  re_a (re_p (ro_aload_n (by decide +kernel) rfl)) <|
  re_a (re_h (gf_X11_7 (by decide +kernel)) (rg_getf _ _)) <|
  re_a (re_p (ro_aload_n (by decide +kernel) rfl)) <|
  re_a (re_h (gf_X11_135 (by decide +kernel)) (rg_getf _ _)) <|
  re_a (re_h (rh_iald (by decide +kernel)) rg_iald) <|
  re_a (re_p (ro_bipush (by decide +kernel) (by decide +kernel))) <|
  re_a (re_p (ro_icmp_eq (by decide +kernel) (by decide +kernel))) <|
  re_a (re_p (ro_iconst (by decide +kernel) (by decide +kernel))) <|
  re_a (re_r ⟨(by decide +kernel), rfl⟩) <|
  re_a (re_p (ro_aload_n (by decide +kernel) rfl)) <|
  re_a (re_h (gf_X11_7 (by decide +kernel)) (rg_getf _ _)) <|
  re_a (re_p (ro_aload_n (by decide +kernel) rfl)) <|
  re_a (re_h (gf_X11_135 (by decide +kernel)) (rg_getf _ _)) <|
  re_a (re_h (rh_iald (by decide +kernel)) rg_iald) <|
  re_a (re_p (ro_bipush (by decide +kernel) (by decide +kernel))) <|
  re_a (re_p (ro_icmp_ne (by decide +kernel) (by decide +kernel))) <|
  re_a (re_p (ro_iconst (by decide +kernel) (by decide +kernel))) <|
  re_a (re_p (ro_goto (by decide +kernel) (by decide +kernel))) <|
  re_n
theorem mk_191_1 : ∀ q ∈ ([(73, .inl (ri_pu (ri_icon (-1) 1))), (74, .inl (ri_pu (ri_istore 3 1))), (75, .inl (ri_pu (ri_aload 0 1))), (76, .inl (ri_pu ri_dup)), (77, .inl (ri_getf 9 11)), (80, .inl (ri_pu (ri_icon 1 1))), (81, .inl (ri_pu (ri_ib fun x y => x + y))), (82, .inl (ri_puti 9 11)), (85, .inl (ri_pu (ri_aload 0 1))), (86, .inl (ri_pu (ri_aload 1 1))), (87, .inl (ri_pu (ri_iload 2 1))), (88, .inr (.inl (154, 2, none))), (91, .inl (ri_pu (ri_if (fun x => decide (x = 0)) 107))), (94, .inl (ri_pu (ri_aload 1 1))), (95, .inl (ri_pu (ri_iload 2 1))), (96, .inl (ri_pu (ri_iload 3 1))), (97, .inr (.inl (173, 3, none))), (100, .inl (ri_pu (ri_if (fun x => decide (¬ x = 0)) 107))), (103, .inl (ri_pu (ri_icon 1 1))), (104, .inl (ri_pu (ri_goto 108))), (107, .inl (ri_pu (ri_icon 0 1))), (108, .inr (.inl (185, 2, some 9))), (111, .inr (.inr 2))] : List (Nat × ri_C)), re_ok Ex D dT 191 q :=
  re_a (re_p (ro_iconst (by decide +kernel) (by decide +kernel))) <|
  re_a (re_p (ro_istore_n (by decide +kernel) rfl (by decide +kernel))) <|
  re_a (re_p (ro_aload_n (by decide +kernel) rfl)) <|
  re_a (re_p (ro_dup (by decide +kernel))) <|
  re_a (re_h (gf_X11_135 (by decide +kernel)) (rg_getf _ _)) <|
  re_a (re_p (ro_iconst (by decide +kernel) (by decide +kernel))) <|
  re_a (re_p (ro_iadd (by decide +kernel))) <|
  re_a (re_h (pf_X11_135 (by decide +kernel)) (rg_puti _ _)) <|
  re_a (re_p (ro_aload_n (by decide +kernel) rfl)) <|
  re_a (re_p (ro_aload_n (by decide +kernel) rfl)) <|
  re_a (re_p (ro_iload_n (by decide +kernel) rfl)) <|
  re_a (re_c (ck_X11_178 (by decide +kernel))) <|
  re_a (re_p (ro_if_eq (by decide +kernel) (by decide +kernel))) <|
  re_a (re_p (ro_aload_n (by decide +kernel) rfl)) <|
  re_a (re_p (ro_iload_n (by decide +kernel) rfl)) <|
  re_a (re_p (ro_iload_n (by decide +kernel) rfl)) <|
  re_a (re_c (ck_X11_181 (by decide +kernel))) <|
  re_a (re_p (ro_if_ne (by decide +kernel) (by decide +kernel))) <|
  re_a (re_p (ro_iconst (by decide +kernel) (by decide +kernel))) <|
  re_a (re_p (ro_goto (by decide +kernel) (by decide +kernel))) <|
  re_a (re_p (ro_iconst (by decide +kernel) (by decide +kernel))) <|
  re_a (re_c (ck_X11_150 (by decide +kernel))) <|
  re_a (re_r ⟨(by decide +kernel), rfl⟩) <|
  re_n
theorem mk_191 : ∀ q ∈ TL_191, re_ok Ex D dT 191 q := re_m mk_191_0 (mk_191_1)
theorem mk_192_0 : ∀ q ∈ ([(0, .inl (ri_pu (ri_aload 0 1))), (1, .inl (ri_getf 9 1)), (4, .inl (ri_pu (ri_aload 0 1))), (5, .inl (ri_getf 9 11)), (8, .inl ri_iald), (9, .inl (ri_pu (ri_istore 2 1))), (10, .inl (ri_pu (ri_aload 0 1))), (11, .inl (ri_pu ri_dup)), (12, .inl (ri_getf 9 11)), (15, .inl (ri_pu (ri_icon 1 1))), (16, .inl (ri_pu (ri_ib fun x y => x + y))), (17, .inl (ri_puti 9 11)), (20, .inl (ri_pu (ri_iload 2 1))), (21, .inl (ri_pu (ri_switch 102 [128, 280, 216, 280, 145, 280, 122, 280, 280, 280, 280, 280, 280, 280, 222, 280, 280, 116, 280, 128] 280))), (116, .inl (ri_pu (ri_aload 0 1))), (117, .inl (ri_pu (ri_aload 1 1))), (118, .inr (.inl (188, 2, some 9))), (121, .inr (.inr 2)), (122, .inl (ri_pu (ri_aload 0 1))), (123, .inl (ri_pu (ri_aload 1 1))), (124, .inr (.inl (189, 2, some 9))), (127, .inr (.inr 2)), (128, .inl (ri_pu (ri_aload 0 1))), (129, .inl (ri_pu (ri_aload 1 1))), (130, .inl (ri_pu (ri_iload 2 1))), (131, .inl (ri_pu (ri_icon 102 2))), (133, .inl (ri_pu (ri_icmp (fun x y => decide (¬ x = y)) 140))), (136, .inl (ri_pu (ri_icon 1 1))), (137, .inl (ri_pu (ri_goto 141))), (140, .inl (ri_pu (ri_icon 0 1))), (141, .inr (.inl (190, 3, some 9))), (144, .inr (.inr 2)), (145, .inl (ri_pu (ri_aload 0 1))), (146, .inl (ri_pu (ri_icon 0 1))), (147, .inl (ri_pu (ri_icon 1 1))), (148, .inl (ri_pu (ri_icon 0 1))), (149, .inl (ri_pu (ri_icon 4 1))), (150, .inr (.inl (184, 5, some 9))), (153, .inl (ri_pu (ri_istore 3 1))), (154, .inl (ri_pu (ri_aload 0 1)))] : List (Nat × ri_C)), re_ok Ex D dT 192 q :=
  re_a (re_p (ro_aload_n (by decide +kernel) rfl)) <|
  re_a (re_h (gf_X11_7 (by decide +kernel)) (rg_getf _ _)) <|
  re_a (re_p (ro_aload_n (by decide +kernel) rfl)) <|
  re_a (re_h (gf_X11_135 (by decide +kernel)) (rg_getf _ _)) <|
  re_a (re_h (rh_iald (by decide +kernel)) rg_iald) <|
  re_a (re_p (ro_istore_n (by decide +kernel) rfl (by decide +kernel))) <|
  re_a (re_p (ro_aload_n (by decide +kernel) rfl)) <|
  re_a (re_p (ro_dup (by decide +kernel))) <|
  re_a (re_h (gf_X11_135 (by decide +kernel)) (rg_getf _ _)) <|
  re_a (re_p (ro_iconst (by decide +kernel) (by decide +kernel))) <|
  re_a (re_p (ro_iadd (by decide +kernel))) <|
  re_a (re_h (pf_X11_135 (by decide +kernel)) (rg_puti _ _)) <|
  re_a (re_p (ro_iload_n (by decide +kernel) rfl)) <|
  re_a (re_p (ro_switch (by decide +kernel) (by decide +kernel) (by decide +kernel) (by decide +kernel) (by decide +kernel) (by decide +kernel))) <|
  re_a (re_p (ro_aload_n (by decide +kernel) rfl)) <|
  re_a (re_p (ro_aload_n (by decide +kernel) rfl)) <|
  re_a (re_c (ck_X11_184 (by decide +kernel))) <|
  re_a (re_r ⟨(by decide +kernel), rfl⟩) <|
  re_a (re_p (ro_aload_n (by decide +kernel) rfl)) <|
  re_a (re_p (ro_aload_n (by decide +kernel) rfl)) <|
  re_a (re_c (ck_X11_188 (by decide +kernel))) <|
  re_a (re_r ⟨(by decide +kernel), rfl⟩) <|
  re_a (re_p (ro_aload_n (by decide +kernel) rfl)) <|
  re_a (re_p (ro_aload_n (by decide +kernel) rfl)) <|
  re_a (re_p (ro_iload_n (by decide +kernel) rfl)) <|
  re_a (re_p (ro_bipush (by decide +kernel) (by decide +kernel))) <|
  re_a (re_p (ro_icmp_ne (by decide +kernel) (by decide +kernel))) <|
  re_a (re_p (ro_iconst (by decide +kernel) (by decide +kernel))) <|
  re_a (re_p (ro_goto (by decide +kernel) (by decide +kernel))) <|
  re_a (re_p (ro_iconst (by decide +kernel) (by decide +kernel))) <|
  re_a (re_c (ck_X11_191 (by decide +kernel))) <|
  re_a (re_r ⟨(by decide +kernel), rfl⟩) <|
  re_a (re_p (ro_aload_n (by decide +kernel) rfl)) <|
  re_a (re_p (ro_iconst (by decide +kernel) (by decide +kernel))) <|
  re_a (re_p (ro_iconst (by decide +kernel) (by decide +kernel))) <|
  re_a (re_p (ro_iconst (by decide +kernel) (by decide +kernel))) <|
  re_a (re_p (ro_iconst (by decide +kernel) (by decide +kernel))) <|
  re_a (re_c (ck_X11_143 (by decide +kernel))) <|
  re_a (re_p (ro_istore_n (by decide +kernel) rfl (by decide +kernel))) <|
  re_a (re_p (ro_aload_n (by decide +kernel) rfl)) <|
  re_n
theorem mk_192_1 : ∀ q ∈ ([(155, .inl (ri_pu (ri_iload 3 1))), (156, .inl (ri_pu (ri_icon 1 1))), (157, .inl (ri_pu (ri_icon 0 1))), (158, .inl (ri_pu (ri_icon 7 2))), (160, .inr (.inl (184, 5, some 9))), (163, .inl (ri_pu (ri_istore 4 2))), (165, .inl (ri_pu (ri_iload 4 2))), (167, .inl (ri_pu (ri_icon (-1) 1))), (168, .inl (ri_pu (ri_icmp (fun x y => decide (x = y)) 214))), (171, .inl (ri_pu (ri_aload 0 1))), (172, .inl (ri_pu (ri_aload 1 1))), (173, .inl (ri_pu (ri_iload 3 1))), (174, .inr (.inl (154, 2, none))), (177, .inl (ri_pu (ri_if (fun x => decide (x = 0)) 203))), (180, .inl (ri_pu (ri_aload 1 1))), (181, .inl (ri_pu (ri_iload 4 2))), (183, .inr (.inl (155, 2, none))), (186, .inl (ri_pu (ri_if (fun x => decide (x = 0)) 203))), (189, .inl (ri_pu (ri_aload 1 1))), (190, .inl (ri_pu (ri_iload 3 1))), (191, .inl (ri_pu (ri_iload 4 2))), (193, .inr (.inl (172, 3, none))), (196, .inl (ri_pu (ri_if (fun x => decide (¬ x = 0)) 203))), (199, .inl (ri_pu (ri_icon 1 1))), (200, .inl (ri_pu (ri_goto 204))), (203, .inl (ri_pu (ri_icon 0 1))), (204, .inr (.inl (185, 2, some 9))), (207, .inl (ri_pu (ri_if (fun x => decide (x = 0)) 214))), (210, .inl (ri_pu (ri_icon 1 1))), (211, .inl (ri_pu (ri_goto 215))), (214, .inl (ri_pu (ri_icon 0 1))), (215, .inr (.inr 2)), (216, .inl (ri_pu (ri_aload 0 1))), (217, .inl (ri_pu (ri_aload 1 1))), (218, .inr (.inl (191, 2, some 9))), (221, .inr (.inr 2)), (222, .inl (ri_pu (ri_aload 0 1))), (223, .inl (ri_pu (ri_icon 0 1))), (224, .inr (.inl (186, 2, some 9))), (227, .inl (ri_pu (ri_istore 3 1)))] : List (Nat × ri_C)), re_ok Ex D dT 192 q :=
  re_a (re_p (ro_iload_n (by decide +kernel) rfl)) <|
  re_a (re_p (ro_iconst (by decide +kernel) (by decide +kernel))) <|
  re_a (re_p (ro_iconst (by decide +kernel) (by decide +kernel))) <|
  re_a (re_p (ro_bipush (by decide +kernel) (by decide +kernel))) <|
  re_a (re_c (ck_X11_143 (by decide +kernel))) <|
  re_a (re_p (ro_istore (by decide +kernel) (by decide +kernel))) <|
  re_a (re_p (ro_iload (by decide +kernel))) <|
  re_a (re_p (ro_iconst (by decide +kernel) (by decide +kernel))) <|
  re_a (re_p (ro_icmp_eq (by decide +kernel) (by decide +kernel))) <|
  re_a (re_p (ro_aload_n (by decide +kernel) rfl)) <|
  re_a (re_p (ro_aload_n (by decide +kernel) rfl)) <|
  re_a (re_p (ro_iload_n (by decide +kernel) rfl)) <|
  re_a (re_c (ck_X11_178 (by decide +kernel))) <|
  re_a (re_p (ro_if_eq (by decide +kernel) (by decide +kernel))) <|
  re_a (re_p (ro_aload_n (by decide +kernel) rfl)) <|
  re_a (re_p (ro_iload (by decide +kernel))) <|
  re_a (re_c (ck_X11_195 (by decide +kernel))) <|
  re_a (re_p (ro_if_eq (by decide +kernel) (by decide +kernel))) <|
  re_a (re_p (ro_aload_n (by decide +kernel) rfl)) <|
  re_a (re_p (ro_iload_n (by decide +kernel) rfl)) <|
  re_a (re_p (ro_iload (by decide +kernel))) <|
  re_a (re_c (ck_X11_198 (by decide +kernel))) <|
  re_a (re_p (ro_if_ne (by decide +kernel) (by decide +kernel))) <|
  re_a (re_p (ro_iconst (by decide +kernel) (by decide +kernel))) <|
  re_a (re_p (ro_goto (by decide +kernel) (by decide +kernel))) <|
  re_a (re_p (ro_iconst (by decide +kernel) (by decide +kernel))) <|
  re_a (re_c (ck_X11_150 (by decide +kernel))) <|
  re_a (re_p (ro_if_eq (by decide +kernel) (by decide +kernel))) <|
  re_a (re_p (ro_iconst (by decide +kernel) (by decide +kernel))) <|
  re_a (re_p (ro_goto (by decide +kernel) (by decide +kernel))) <|
  re_a (re_p (ro_iconst (by decide +kernel) (by decide +kernel))) <|
  re_a (re_r ⟨(by decide +kernel), rfl⟩) <|
  re_a (re_p (ro_aload_n (by decide +kernel) rfl)) <|
  re_a (re_p (ro_aload_n (by decide +kernel) rfl)) <|
  re_a (re_c (ck_X11_201 (by decide +kernel))) <|
  re_a (re_r ⟨(by decide +kernel), rfl⟩) <|
  re_a (re_p (ro_aload_n (by decide +kernel) rfl)) <|
  re_a (re_p (ro_iconst (by decide +kernel) (by decide +kernel))) <|
  re_a (re_c (ck_X11_154 (by decide +kernel))) <|
  re_a (re_p (ro_istore_n (by decide +kernel) rfl (by decide +kernel))) <|
  re_n
theorem mk_192_2 : ∀ q ∈ ([(228, .inl (ri_pu (ri_aload 0 1))), (229, .inl (ri_pu (ri_iload 3 1))), (230, .inl (ri_pu (ri_icon 1 1))), (231, .inl (ri_pu (ri_icon 1 1))), (232, .inl (ri_pu (ri_icon 4 1))), (233, .inr (.inl (184, 5, some 9))), (236, .inl (ri_pu (ri_istore 4 2))), (238, .inl (ri_pu (ri_iload 4 2))), (240, .inl (ri_pu (ri_icon (-1) 1))), (241, .inl (ri_pu (ri_icmp (fun x y => decide (x = y)) 278))), (244, .inl (ri_pu (ri_aload 0 1))), (245, .inl (ri_pu (ri_aload 1 1))), (246, .inl (ri_pu (ri_iload 3 1))), (247, .inr (.inl (152, 2, none))), (250, .inl (ri_pu (ri_if (fun x => decide (x = 0)) 267))), (253, .inl (ri_pu (ri_aload 1 1))), (254, .inl (ri_pu (ri_iload 3 1))), (255, .inl (ri_pu (ri_iload 4 2))), (257, .inr (.inl (181, 3, none))), (260, .inl (ri_pu (ri_if (fun x => decide (x < 0)) 267))), (263, .inl (ri_pu (ri_icon 1 1))), (264, .inl (ri_pu (ri_goto 268))), (267, .inl (ri_pu (ri_icon 0 1))), (268, .inr (.inl (185, 2, some 9))), (271, .inl (ri_pu (ri_if (fun x => decide (x = 0)) 278))), (274, .inl (ri_pu (ri_icon 1 1))), (275, .inl (ri_pu (ri_goto 279))), (278, .inl (ri_pu (ri_icon 0 1))), (279, .inr (.inr 2)), (280, .inl (ri_pu (ri_aload 0 1))), (281, .inl (ri_pu ri_dup)), (282, .inl (ri_getf 9 11)), (285, .inl (ri_pu (ri_icon 1 1))), (286, .inl (ri_pu (ri_ib fun x y => x - y))), (287, .inl (ri_puti 9 11)), (290, .inl (ri_pu (ri_icon 0 1))), (291, .inr (.inr 2))] : List (Nat × ri_C)), re_ok Ex D dT 192 q :=
  re_a (re_p (ro_aload_n (by decide +kernel) rfl)) <|
  re_a (re_p (ro_iload_n (by decide +kernel) rfl)) <|
  re_a (re_p (ro_iconst (by decide +kernel) (by decide +kernel))) <|
  re_a (re_p (ro_iconst (by decide +kernel) (by decide +kernel))) <|
  re_a (re_p (ro_iconst (by decide +kernel) (by decide +kernel))) <|
  re_a (re_c (ck_X11_143 (by decide +kernel))) <|
  re_a (re_p (ro_istore (by decide +kernel) (by decide +kernel))) <|
  re_a (re_p (ro_iload (by decide +kernel))) <|
  re_a (re_p (ro_iconst (by decide +kernel) (by decide +kernel))) <|
  re_a (re_p (ro_icmp_eq (by decide +kernel) (by decide +kernel))) <|
  re_a (re_p (ro_aload_n (by decide +kernel) rfl)) <|
  re_a (re_p (ro_aload_n (by decide +kernel) rfl)) <|
  re_a (re_p (ro_iload_n (by decide +kernel) rfl)) <|
  re_a (re_c (ck_X11_47 (by decide +kernel))) <|
  re_a (re_p (ro_if_eq (by decide +kernel) (by decide +kernel))) <|
  re_a (re_p (ro_aload_n (by decide +kernel) rfl)) <|
  re_a (re_p (ro_iload_n (by decide +kernel) rfl)) <|
  re_a (re_p (ro_iload (by decide +kernel))) <|
  re_a (re_c (ck_X11_204 (by decide +kernel))) <|
  re_a (re_p (ro_if_lt (by decide +kernel) (by decide +kernel))) <|
  re_a (re_p (ro_iconst (by decide +kernel) (by decide +kernel))) <|
  re_a (re_p (ro_goto (by decide +kernel) (by decide +kernel))) <|
  re_a (re_p (ro_iconst (by decide +kernel) (by decide +kernel))) <|
  re_a (re_c (ck_X11_150 (by decide +kernel))) <|
  re_a (re_p (ro_if_eq (by decide +kernel) (by decide +kernel))) <|
  re_a (re_p (ro_iconst (by decide +kernel) (by decide +kernel))) <|
  re_a (re_p (ro_goto (by decide +kernel) (by decide +kernel))) <|
  re_a (re_p (ro_iconst (by decide +kernel) (by decide +kernel))) <|
  re_a (re_r ⟨(by decide +kernel), rfl⟩) <|
  re_a (re_p (ro_aload_n (by decide +kernel) rfl)) <|
  re_a (re_p (ro_dup (by decide +kernel))) <|
  re_a (re_h (gf_X11_135 (by decide +kernel)) (rg_getf _ _)) <|
  re_a (re_p (ro_iconst (by decide +kernel) (by decide +kernel))) <|
  re_a (re_p (ro_isub (by decide +kernel))) <|
  re_a (re_h (pf_X11_135 (by decide +kernel)) (rg_puti _ _)) <|
  re_a (re_p (ro_iconst (by decide +kernel) (by decide +kernel))) <|
  re_a (re_r ⟨(by decide +kernel), rfl⟩) <|
  re_n
theorem mk_192 : ∀ q ∈ TL_192, re_ok Ex D dT 192 q := re_m mk_192_0 (re_m mk_192_1 (mk_192_2))
theorem mk_193 : ∀ q ∈ TL_193, re_ok Ex D dT 193 q :=
  re_a (re_p (ro_aload_n (by decide +kernel) rfl)) <|
  re_a (re_c (ck_X11_35 (by decide +kernel))) <|
  re_a (re_p (ro_aload_n (by decide +kernel) rfl)) <|
  re_a (re_p (ro_iconst (by decide +kernel) (by decide +kernel))) <|
  re_a (re_h (pf_X11_140 (by decide +kernel)) (rg_puti _ _)) <|
  re_a (re_p (ro_aload_n (by decide +kernel) rfl)) <|
  re_a (re_p (ro_iconst (by decide +kernel) (by decide +kernel))) <|
  re_a (re_h (pf_X11_135 (by decide +kernel)) (rg_puti _ _)) <|
  re_a (re_p (ro_aload_n (by decide +kernel) rfl)) <|
  re_a (re_h (gf_X11_128 (by decide +kernel)) (rg_getf _ _)) <|
  re_a (re_p (ro_if_eq (by decide +kernel) (by decide +kernel))) <|
  re_a (re_p (ro_aload_n (by decide +kernel) rfl)) <|
  re_a (re_h (gf_X11_7 (by decide +kernel)) (rg_getf _ _)) <|
  re_a (re_p (ro_iconst (by decide +kernel) (by decide +kernel))) <|
  re_a (re_h (rh_iald (by decide +kernel)) rg_iald) <|
  re_a (re_p (ro_bipush (by decide +kernel) (by decide +kernel))) <|
  re_a (re_p (ro_icmp_eq (by decide +kernel) (by decide +kernel))) <|
  re_a (re_p (ro_iconst (by decide +kernel) (by decide +kernel))) <|
  re_a (re_r ⟨(by decide +kernel), rfl⟩) <|
  re_a (re_p (ro_aload_n (by decide +kernel) rfl)) <|
  re_a (re_p (ro_iconst (by decide +kernel) (by decide +kernel))) <|
  re_a (re_h (pf_X11_135 (by decide +kernel)) (rg_puti _ _)) <|
  re_a (re_p (ro_aload_n (by decide +kernel) rfl)) <|
  re_a (re_h (gf_X11_135 (by decide +kernel)) (rg_getf _ _)) <|
  re_a (re_p (ro_aload_n (by decide +kernel) rfl)) <|
  re_a (re_h (gf_X11_128 (by decide +kernel)) (rg_getf _ _)) <|
  re_a (re_p (ro_icmp_ge (by decide +kernel) (by decide +kernel))) <|
  re_a (re_p (ro_aload_n (by decide +kernel) rfl)) <|
  re_a (re_p (ro_aload_n (by decide +kernel) rfl)) <|
  re_a (re_c (ck_X11_207 (by decide +kernel))) <|
  re_a (re_p (ro_if_ne (by decide +kernel) (by decide +kernel))) <|
  re_a (re_p (ro_aload_n (by decide +kernel) rfl)) <|
  re_a (re_h (gf_X11_135 (by decide +kernel)) (rg_getf _ _)) <|
  re_a (re_r ⟨(by decide +kernel), rfl⟩) <|
  re_a (re_p (ro_iconst (by decide +kernel) (by decide +kernel))) <|
  re_a (re_r ⟨(by decide +kernel), rfl⟩) <|
  re_n
end RIMK
