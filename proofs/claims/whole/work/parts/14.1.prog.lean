/-! the methods: name, code, locals, answer; where the words speak of them; their rows -/
def bl_X0_init_0 : List ax_R := (0, .aload_n 0, 0, 0, 0, 0) :: (1, .invokespecial 3, 0, 0, 5, 265) :: (4, .aload_n 0, 0, 0, 0, 0) :: (5, .bipush 100, 0, 0, 0, 0) :: (7, .newarray .int, 100, 0, 0, 139) :: (9, .putfield 11, 2, 1, 1, 267) :: (12, .aload_n 0, 0, 0, 0, 0) :: (13, .bipush 100, 0, 0, 0, 0) ::
  (15, .anewarray 15, 114, 0, 0, 266) :: (18, .putfield 17, 2, 2, 1, 268) :: (21, .return_, 0, 0, 0, 0) :: []
def pr_X0_init : List ax_R := bl_X0_init_0
def pt_X0_init : ax_T := ((⟨"PageServer$Block", "<init>", "()V"⟩, prog_2_method_1_code, 1, none), 264, 91, 263, 0)
def bl_X0_clear_0 : List ax_R := (0, .aload_n 0, 0, 0, 0, 0) :: (1, .iconst 0, 0, 0, 0, 0) :: (2, .putfield 21, 2, 4, 0, 270) :: (5, .aload_n 0, 0, 0, 0, 0) :: (6, .iconst 0, 0, 0, 0, 0) :: (7, .putfield 25, 2, 5, 0, 272) :: (10, .aload_n 0, 0, 0, 0, 0) :: (11, .iconst 0, 0, 0, 0, 0) ::
  (12, .putfield 28, 2, 8, 0, 279) :: (15, .aload_n 0, 0, 0, 0, 0) :: (16, .iconst 0, 0, 0, 0, 0) :: (17, .putfield 32, 2, 0, 0, 281) :: (20, .return_, 0, 0, 0, 0) :: []
def pr_X0_clear : List ax_R := bl_X0_clear_0
def pt_X0_clear : ax_T := ((⟨"PageServer$Block", "clear", "()V"⟩, prog_2_method_2_code, 1, none), 394, 91, 392, 393)
def bl_X0_start_0 : List ax_R := (0, .aload_n 0, 0, 0, 0, 0) :: (1, .invokevirtual 35, 1, 1, 2, 600) :: (4, .aload_n 0, 0, 0, 0, 0) :: (5, .aload_n 1, 0, 0, 0, 0) :: (6, .invokevirtual 38, 50, 1, 5, 601) :: (9, .putfield 44, 2, 6, 0, 275) :: (12, .aload_n 0, 0, 0, 0, 0) :: (13, .aload_n 1, 0, 0, 0, 0) ::
  (14, .iconst 1, 0, 0, 0, 0) :: (15, .invokevirtual 46, 49, 2, 5, 602) :: (18, .putfield 50, 2, 7, 0, 277) :: (21, .return_, 0, 0, 0, 0) :: []
def pr_X0_start : List ax_R := bl_X0_start_0
def pt_X0_start : ax_T := ((⟨"PageServer$Block", "start", "(LPageServer$Frame;)V"⟩, prog_2_method_3_code, 2, none), 599, 91, 597, 598)
def bl_X0_add_84 : List ax_R := (84, .putfield 28, 2, 8, 0, 279) :: (87, .iconst 1, 0, 0, 0, 0) :: (88, .ireturn, 0, 0, 0, 0) :: []
def bl_X0_add_83 : List ax_R := (83, .iconst 0, 0, 0, 0, 0) :: bl_X0_add_84
def bl_X0_add_52 : List ax_R := (52, .aload_n 0, 0, 0, 0, 0) :: (53, .dup, 0, 0, 0, 0) :: (54, .getfield 21, 2, 4, 0, 270) :: (57, .iload_n 2, 0, 0, 0, 0) :: (58, .iadd, 0, 0, 0, 0) :: (59, .putfield 21, 2, 4, 0, 270) :: (62, .aload_n 0, 0, 0, 0, 0) :: (63, .aload_n 1, 0, 0, 0, 0) ::
  (64, .iconst 4, 0, 0, 0, 0) :: (65, .invokevirtual 46, 49, 2, 5, 602) :: (68, .putfield 32, 2, 0, 0, 281) :: (71, .aload_n 0, 0, 0, 0, 0) :: (72, .aload_n 0, 0, 0, 0, 0) :: (73, .getfield 32, 2, 0, 0, 281) :: (76, .ifCond .ne 7, 83, 0, 0, 0) :: (79, .iconst 1, 0, 0, 0, 0) ::
  (80, .goto 4, 84, 0, 0, 0) :: bl_X0_add_83
def bl_X0_add_20 : List ax_R := (20, .iload_n 3, 0, 0, 0, 0) :: (21, .iload_n 2, 0, 0, 0, 0) :: (22, .if_icmp .ge 30, 52, 0, 0, 0) :: (25, .aload_n 0, 0, 0, 0, 0) :: (26, .getfield 11, 2, 1, 1, 267) :: (29, .aload_n 0, 0, 0, 0, 0) :: (30, .getfield 21, 2, 4, 0, 270) :: (33, .iload_n 3, 0, 0, 0, 0) ::
  (34, .iadd, 0, 0, 0, 0) :: (35, .aload_n 1, 0, 0, 0, 0) :: (36, .aload_n 1, 0, 0, 0, 0) :: (37, .invokevirtual 56, 55, 1, 5, 612) :: (40, .iload_n 3, 0, 0, 0, 0) :: (41, .iadd, 0, 0, 0, 0) :: (42, .invokevirtual 59, 51, 2, 5, 616) :: (45, .iastore, 0, 0, 0, 0) ::
  (46, .iinc 3 1, 0, 0, 0, 0) :: (49, .goto (-29), 20, 0, 0, 0) :: bl_X0_add_52
def bl_X0_add_18 : List ax_R := (18, .iconst 0, 0, 0, 0, 0) :: (19, .istore_n 3, 0, 0, 0, 0) :: bl_X0_add_20
def bl_X0_add_0 : List ax_R := (0, .aload_n 1, 0, 0, 0, 0) :: (1, .invokevirtual 53, 56, 1, 5, 611) :: (4, .istore_n 2, 0, 0, 0, 0) :: (5, .aload_n 0, 0, 0, 0, 0) :: (6, .getfield 21, 2, 4, 0, 270) :: (9, .iload_n 2, 0, 0, 0, 0) :: (10, .iadd, 0, 0, 0, 0) :: (11, .bipush 100, 0, 0, 0, 0) ::
  (13, .if_icmp .le 5, 18, 0, 0, 0) :: (16, .iconst 0, 0, 0, 0, 0) :: (17, .ireturn, 0, 0, 0, 0) :: bl_X0_add_18
def pr_X0_add : List ax_R := bl_X0_add_0
def pt_X0_add : ax_T := ((⟨"PageServer$Block", "add", "(LPageServer$Frame;)Z"⟩, prog_2_method_4_code, 4, (some .boolean)), 610, 91, 608, 609)
def bl_X0_field_22 : List ax_R := (22, .areturn, 0, 0, 0, 0) :: []
def bl_X0_field_21 : List ax_R := (21, .aconst_null, 0, 0, 0, 0) :: bl_X0_field_22
def bl_X0_field_0 : List ax_R := (0, .iload_n 1, 0, 0, 0, 0) :: (1, .ifCond .lt 20, 21, 0, 0, 0) :: (4, .iload_n 1, 0, 0, 0, 0) :: (5, .aload_n 0, 0, 0, 0, 0) :: (6, .getfield 25, 2, 5, 0, 272) :: (9, .if_icmp .ge 12, 21, 0, 0, 0) :: (12, .aload_n 0, 0, 0, 0, 0) :: (13, .getfield 17, 2, 2, 1, 268) ::
  (16, .iload_n 1, 0, 0, 0, 0) :: (17, .aaload, 0, 0, 0, 0) :: (18, .goto 4, 22, 0, 0, 0) :: bl_X0_field_21
def pr_X0_field : List ax_R := bl_X0_field_0
def pt_X0_field : ax_T := ((⟨"PageServer$Block", "field", "(I)LPageServer$Field;"⟩, prog_2_method_5_code, 2, (some (.object "PageServer$Field"))), 798, 91, 796, 797)
def bl_X0_read_45 : List ax_R := (45, .iconst 1, 0, 0, 0, 0) :: (46, .ireturn, 0, 0, 0, 0) :: []
def bl_X0_read_39 : List ax_R := (39, .iinc 2 1, 0, 0, 0, 0) :: (42, .goto (-30), 12, 0, 0, 0) :: bl_X0_read_45
def bl_X0_read_12 : List ax_R := (12, .iload_n 2, 0, 0, 0, 0) :: (13, .bipush 100, 0, 0, 0, 0) :: (15, .if_icmp .ge 30, 45, 0, 0, 0) :: (18, .aload_n 0, 0, 0, 0, 0) :: (19, .getfield 63, 2, 3, 0, 269) :: (22, .aload_n 0, 0, 0, 0, 0) :: (23, .getfield 21, 2, 4, 0, 270) :: (26, .if_icmp .ge 19, 45, 0, 0, 0) ::
  (29, .aload_n 0, 0, 0, 0, 0) :: (30, .aload_n 1, 0, 0, 0, 0) :: (31, .invokevirtual 66, 6, 2, 2, 666) :: (34, .ifCond .ne 5, 39, 0, 0, 0) :: (37, .iconst 0, 0, 0, 0, 0) :: (38, .ireturn, 0, 0, 0, 0) :: bl_X0_read_39
def bl_X0_read_0 : List ax_R := (0, .aload_n 0, 0, 0, 0, 0) :: (1, .iconst 0, 0, 0, 0, 0) :: (2, .putfield 32, 2, 0, 0, 281) :: (5, .aload_n 0, 0, 0, 0, 0) :: (6, .iconst 0, 0, 0, 0, 0) :: (7, .putfield 63, 2, 3, 0, 269) :: (10, .iconst 0, 0, 0, 0, 0) :: (11, .istore_n 2, 0, 0, 0, 0) :: bl_X0_read_12
def pr_X0_read : List ax_R := bl_X0_read_0
def pt_X0_read : ax_T := ((⟨"PageServer$Block", "read", "(LPageServer$HeaderTable;)Z"⟩, prog_2_method_6_code, 3, (some .boolean)), 665, 91, 663, 664)
def bl_X0_readNext_95 : List ax_R := (95, .ireturn, 0, 0, 0, 0) :: []
def bl_X0_readNext_94 : List ax_R := (94, .iconst 0, 0, 0, 0, 0) :: bl_X0_readNext_95
def bl_X0_readNext_74 : List ax_R := (74, .iload_n 2, 0, 0, 0, 0) :: (75, .bipush 15, 0, 0, 0, 0) :: (77, .if_icmp .gt 17, 94, 0, 0, 0) :: (80, .aload_n 0, 0, 0, 0, 0) :: (81, .aload_n 1, 0, 0, 0, 0) :: (82, .iload_n 2, 0, 0, 0, 0) :: (83, .iconst 0, 0, 0, 0, 0) :: (84, .invokevirtual 80, 8, 4, 2, 678) ::
  (87, .ifCond .eq 7, 94, 0, 0, 0) :: (90, .iconst 1, 0, 0, 0, 0) :: (91, .goto 4, 95, 0, 0, 0) :: bl_X0_readNext_94
def bl_X0_readNext_58 : List ax_R := (58, .iload_n 2, 0, 0, 0, 0) :: (59, .bipush 32, 0, 0, 0, 0) :: (61, .if_icmp .lt 13, 74, 0, 0, 0) :: (64, .aload_n 0, 0, 0, 0, 0) :: (65, .aload_n 1, 0, 0, 0, 0) :: (66, .iload_n 2, 0, 0, 0, 0) :: (67, .bipush 32, 0, 0, 0, 0) :: (69, .isub, 0, 0, 0, 0) ::
  (70, .invokevirtual 84, 7, 3, 2, 771) :: (73, .ireturn, 0, 0, 0, 0) :: bl_X0_readNext_74
def bl_X0_readNext_41 : List ax_R := (41, .iload_n 2, 0, 0, 0, 0) :: (42, .bipush 64, 0, 0, 0, 0) :: (44, .if_icmp .lt 14, 58, 0, 0, 0) :: (47, .aload_n 0, 0, 0, 0, 0) :: (48, .aload_n 1, 0, 0, 0, 0) :: (49, .iload_n 2, 0, 0, 0, 0) :: (50, .bipush 64, 0, 0, 0, 0) :: (52, .isub, 0, 0, 0, 0) ::
  (53, .iconst 1, 0, 0, 0, 0) :: (54, .invokevirtual 80, 8, 4, 2, 678) :: (57, .ireturn, 0, 0, 0, 0) :: bl_X0_readNext_58
def bl_X0_readNext_0 : List ax_R := (0, .aload_n 0, 0, 0, 0, 0) :: (1, .getfield 11, 2, 1, 1, 267) :: (4, .aload_n 0, 0, 0, 0, 0) :: (5, .getfield 63, 2, 3, 0, 269) :: (8, .iaload, 0, 0, 0, 0) :: (9, .istore_n 2, 0, 0, 0, 0) :: (10, .aload_n 0, 0, 0, 0, 0) :: (11, .dup, 0, 0, 0, 0) ::
  (12, .getfield 63, 2, 3, 0, 269) :: (15, .iconst 1, 0, 0, 0, 0) :: (16, .iadd, 0, 0, 0, 0) :: (17, .putfield 63, 2, 3, 0, 269) :: (20, .iload_n 2, 0, 0, 0, 0) :: (21, .sipush 128, 0, 0, 0, 0) :: (24, .if_icmp .lt 17, 41, 0, 0, 0) :: (27, .aload_n 0, 0, 0, 0, 0) ::
  (28, .aload_n 1, 0, 0, 0, 0) :: (29, .iload_n 2, 0, 0, 0, 0) :: (30, .sipush 128, 0, 0, 0, 0) :: (33, .isub, 0, 0, 0, 0) :: (34, .invokevirtual 70, 59, 2, 6, 670) :: (37, .invokevirtual 76, 9, 2, 2, 674) :: (40, .ireturn, 0, 0, 0, 0) :: bl_X0_readNext_41
def pr_X0_readNext : List ax_R := bl_X0_readNext_0
def pt_X0_readNext : ax_T := ((⟨"PageServer$Block", "readNext", "(LPageServer$HeaderTable;)Z"⟩, prog_2_method_7_code, 3, (some .boolean)), 669, 91, 668, 21)
def bl_X0_readSize_15 : List ax_R := (15, .aload_n 1, 0, 0, 0, 0) :: (16, .iload_n 2, 0, 0, 0, 0) :: (17, .invokevirtual 88, 61, 2, 6, 775) :: (20, .iconst 1, 0, 0, 0, 0) :: (21, .ireturn, 0, 0, 0, 0) :: []
def bl_X0_readSize_13 : List ax_R := (13, .iconst 0, 0, 0, 0, 0) :: (14, .ireturn, 0, 0, 0, 0) :: bl_X0_readSize_15
def bl_X0_readSize_0 : List ax_R := (0, .iload_n 2, 0, 0, 0, 0) :: (1, .bipush 24, 0, 0, 0, 0) :: (3, .if_icmp .gt 10, 13, 0, 0, 0) :: (6, .aload_n 0, 0, 0, 0, 0) :: (7, .getfield 25, 2, 5, 0, 272) :: (10, .ifCond .le 5, 15, 0, 0, 0) :: bl_X0_readSize_13
def pr_X0_readSize : List ax_R := bl_X0_readSize_0
def pt_X0_readSize : ax_T := ((⟨"PageServer$Block", "readSize", "(LPageServer$HeaderTable;I)Z"⟩, prog_2_method_8_code, 3, (some .boolean)), 774, 91, 773, 26)
def bl_X0_readField_63 : List ax_R := (63, .aload_n 0, 0, 0, 0, 0) :: (64, .aload 6, 0, 0, 0, 0) :: (66, .invokevirtual 76, 9, 2, 2, 674) :: (69, .ireturn, 0, 0, 0, 0) :: []
def bl_X0_readField_40 : List ax_R := (40, .new 15, 4, 3, 0, 266) :: (43, .dup, 0, 0, 0, 0) :: (44, .aload 4, 0, 0, 0, 0) :: (46, .aload 5, 0, 0, 0, 0) :: (48, .invokespecial 99, 38, 3, 0, 762) :: (51, .astore 6, 0, 0, 0, 0) :: (53, .iload_n 3, 0, 0, 0, 0) :: (54, .ifCond .eq 9, 63, 0, 0, 0) ::
  (57, .aload_n 1, 0, 0, 0, 0) :: (58, .aload 6, 0, 0, 0, 0) :: (60, .invokevirtual 102, 62, 2, 6, 763) :: bl_X0_readField_63
def bl_X0_readField_26 : List ax_R := (26, .aload_n 0, 0, 0, 0, 0) :: (27, .iconst 0, 0, 0, 0, 0) :: (28, .invokevirtual 92, 10, 2, 2, 682) :: (31, .astore 5, 0, 0, 0, 0) :: (33, .aload 5, 0, 0, 0, 0) :: (35, .ifnonnull 5, 40, 0, 0, 0) :: (38, .iconst 0, 0, 0, 0, 0) :: (39, .ireturn, 0, 0, 0, 0) :: bl_X0_readField_40
def bl_X0_readField_17 : List ax_R := (17, .astore 4, 0, 0, 0, 0) :: (19, .aload 4, 0, 0, 0, 0) :: (21, .ifnonnull 5, 26, 0, 0, 0) :: (24, .iconst 0, 0, 0, 0, 0) :: (25, .ireturn, 0, 0, 0, 0) :: bl_X0_readField_26
def bl_X0_readField_12 : List ax_R := (12, .aload_n 1, 0, 0, 0, 0) :: (13, .iload_n 2, 0, 0, 0, 0) :: (14, .invokevirtual 96, 60, 2, 6, 757) :: bl_X0_readField_17
def bl_X0_readField_0 : List ax_R := (0, .iload_n 2, 0, 0, 0, 0) :: (1, .ifCond .ne 11, 12, 0, 0, 0) :: (4, .aload_n 0, 0, 0, 0, 0) :: (5, .iconst 1, 0, 0, 0, 0) :: (6, .invokevirtual 92, 10, 2, 2, 682) :: (9, .goto 8, 17, 0, 0, 0) :: bl_X0_readField_12
def pr_X0_readField : List ax_R := bl_X0_readField_0
def pt_X0_readField : ax_T := ((⟨"PageServer$Block", "readField", "(LPageServer$HeaderTable;IZ)Z"⟩, prog_2_method_9_code, 7, (some .boolean)), 681, 91, 680, 23)
def bl_X0_keep_15 : List ax_R := (15, .aload_n 0, 0, 0, 0, 0) :: (16, .getfield 17, 2, 2, 1, 268) :: (19, .aload_n 0, 0, 0, 0, 0) :: (20, .getfield 25, 2, 5, 0, 272) :: (23, .aload_n 1, 0, 0, 0, 0) :: (24, .aastore, 0, 0, 0, 0) :: (25, .aload_n 0, 0, 0, 0, 0) :: (26, .dup, 0, 0, 0, 0) ::
  (27, .getfield 25, 2, 5, 0, 272) :: (30, .iconst 1, 0, 0, 0, 0) :: (31, .iadd, 0, 0, 0, 0) :: (32, .putfield 25, 2, 5, 0, 272) :: (35, .iconst 1, 0, 0, 0, 0) :: (36, .ireturn, 0, 0, 0, 0) :: []
def bl_X0_keep_13 : List ax_R := (13, .iconst 0, 0, 0, 0, 0) :: (14, .ireturn, 0, 0, 0, 0) :: bl_X0_keep_15
def bl_X0_keep_0 : List ax_R := (0, .aload_n 1, 0, 0, 0, 0) :: (1, .ifnull 12, 13, 0, 0, 0) :: (4, .aload_n 0, 0, 0, 0, 0) :: (5, .getfield 25, 2, 5, 0, 272) :: (8, .bipush 100, 0, 0, 0, 0) :: (10, .if_icmp .lt 5, 15, 0, 0, 0) :: bl_X0_keep_13
def pr_X0_keep : List ax_R := bl_X0_keep_0
def pt_X0_keep : ax_T := ((⟨"PageServer$Block", "keep", "(LPageServer$Field;)Z"⟩, prog_2_method_10_code, 2, (some .boolean)), 677, 91, 676, 22)
def bl_X0_readText_115 : List ax_R := (115, .aload_n 0, 0, 0, 0, 0) :: (116, .dup, 0, 0, 0, 0) :: (117, .getfield 63, 2, 3, 0, 269) :: (120, .iload_n 2, 0, 0, 0, 0) :: (121, .iadd, 0, 0, 0, 0) :: (122, .putfield 63, 2, 3, 0, 269) :: (125, .new 106, 0, 4, 0, 686) :: (128, .dup, 0, 0, 0, 0) ::
  (129, .aload_n 3, 0, 0, 0, 0) :: (130, .invokespecial 108, 174, 2, 0, 688) :: (133, .areturn, 0, 0, 0, 0) :: []
def bl_X0_readText_102 : List ax_R := (102, .aload_n 3, 0, 0, 0, 0) :: (103, .iload 4, 0, 0, 0, 0) :: (105, .iload 5, 0, 0, 0, 0) :: (107, .i2c, 0, 0, 0, 0) :: (108, .castore, 0, 0, 0, 0) :: (109, .iinc 4 1, 0, 0, 0, 0) :: (112, .goto (-46), 66, 0, 0, 0) :: bl_X0_readText_115
def bl_X0_readText_100 : List ax_R := (100, .aconst_null, 0, 0, 0, 0) :: (101, .areturn, 0, 0, 0, 0) :: bl_X0_readText_102
def bl_X0_readText_66 : List ax_R := (66, .iload 4, 0, 0, 0, 0) :: (68, .iload_n 2, 0, 0, 0, 0) :: (69, .if_icmp .ge 46, 115, 0, 0, 0) :: (72, .aload_n 0, 0, 0, 0, 0) :: (73, .getfield 11, 2, 1, 1, 267) :: (76, .aload_n 0, 0, 0, 0, 0) :: (77, .getfield 63, 2, 3, 0, 269) :: (80, .iload 4, 0, 0, 0, 0) ::
  (82, .iadd, 0, 0, 0, 0) :: (83, .iaload, 0, 0, 0, 0) :: (84, .istore 5, 0, 0, 0, 0) :: (86, .iload 5, 0, 0, 0, 0) :: (88, .bipush 33, 0, 0, 0, 0) :: (90, .if_icmp .lt 10, 100, 0, 0, 0) :: (93, .iload 5, 0, 0, 0, 0) :: (95, .bipush 126, 0, 0, 0, 0) ::
  (97, .if_icmp .le 5, 102, 0, 0, 0) :: bl_X0_readText_100
def bl_X0_readText_59 : List ax_R := (59, .iload_n 2, 0, 0, 0, 0) :: (60, .newarray .char, 101, 0, 0, 756) :: (62, .astore_n 3, 0, 0, 0, 0) :: (63, .iconst 0, 0, 0, 0, 0) :: (64, .istore 4, 0, 0, 0, 0) :: bl_X0_readText_66
def bl_X0_readText_57 : List ax_R := (57, .aconst_null, 0, 0, 0, 0) :: (58, .areturn, 0, 0, 0, 0) :: bl_X0_readText_59
def bl_X0_readText_13 : List ax_R := (13, .aload_n 0, 0, 0, 0, 0) :: (14, .getfield 11, 2, 1, 1, 267) :: (17, .aload_n 0, 0, 0, 0, 0) :: (18, .getfield 63, 2, 3, 0, 269) :: (21, .iaload, 0, 0, 0, 0) :: (22, .istore_n 2, 0, 0, 0, 0) :: (23, .aload_n 0, 0, 0, 0, 0) :: (24, .dup, 0, 0, 0, 0) ::
  (25, .getfield 63, 2, 3, 0, 269) :: (28, .iconst 1, 0, 0, 0, 0) :: (29, .iadd, 0, 0, 0, 0) :: (30, .putfield 63, 2, 3, 0, 269) :: (33, .iload_n 2, 0, 0, 0, 0) :: (34, .iload_n 1, 0, 0, 0, 0) :: (35, .if_icmp .lt 22, 57, 0, 0, 0) :: (38, .iload_n 2, 0, 0, 0, 0) ::
  (39, .bipush 20, 0, 0, 0, 0) :: (41, .if_icmp .gt 16, 57, 0, 0, 0) :: (44, .iload_n 2, 0, 0, 0, 0) :: (45, .aload_n 0, 0, 0, 0, 0) :: (46, .getfield 21, 2, 4, 0, 270) :: (49, .aload_n 0, 0, 0, 0, 0) :: (50, .getfield 63, 2, 3, 0, 269) :: (53, .isub, 0, 0, 0, 0) ::
  (54, .if_icmp .le 5, 59, 0, 0, 0) :: bl_X0_readText_57
def bl_X0_readText_0 : List ax_R := (0, .aload_n 0, 0, 0, 0, 0) :: (1, .getfield 63, 2, 3, 0, 269) :: (4, .aload_n 0, 0, 0, 0, 0) :: (5, .getfield 21, 2, 4, 0, 270) :: (8, .if_icmp .lt 5, 13, 0, 0, 0) :: (11, .aconst_null, 0, 0, 0, 0) :: (12, .areturn, 0, 0, 0, 0) :: bl_X0_readText_13
def pr_X0_readText : List ax_R := bl_X0_readText_0
def pt_X0_readText : ax_T := ((⟨"PageServer$Block", "readText", "(I)Ljava/lang/String;"⟩, prog_2_method_11_code, 6, (some (.object "java/lang/String"))), 685, 91, 684, 24)
def bl_X1_init_0 : List ax_R := (0, .aload_n 0, 0, 0, 0, 0) :: (1, .invokespecial 3, 0, 0, 5, 125) :: (4, .aload_n 0, 0, 0, 0, 0) :: (5, .new 9, 5, 2, 0, 126) :: (8, .dup, 0, 0, 0, 0) :: (9, .invokespecial 11, 42, 1, 10, 0) :: (12, .putfield 12, 3, 1, 1, 408) :: (15, .aload_n 0, 0, 0, 0, 0) ::
  (16, .new 18, 9, 4, 0, 140) :: (19, .dup, 0, 0, 0, 0) :: (20, .invokespecial 20, 72, 1, 10, 0) :: (23, .putfield 21, 3, 2, 1, 409) :: (26, .aload_n 0, 0, 0, 0, 0) :: (27, .new 25, 10, 2, 0, 162) :: (30, .dup, 0, 0, 0, 0) :: (31, .invokespecial 27, 76, 1, 10, 0) ::
  (34, .putfield 28, 3, 0, 1, 410) :: (37, .aload_n 0, 0, 0, 0, 0) :: (38, .new 32, 7, 2, 0, 177) :: (41, .dup, 0, 0, 0, 0) :: (42, .invokespecial 34, 64, 1, 10, 0) :: (45, .putfield 35, 3, 3, 1, 412) :: (48, .aload_n 0, 0, 0, 0, 0) :: (49, .new 39, 6, 5, 0, 190) ::
  (52, .dup, 0, 0, 0, 0) :: (53, .invokespecial 41, 57, 1, 0, 192) :: (56, .putfield 42, 3, 4, 1, 414) :: (59, .aload_n 0, 0, 0, 0, 0) :: (60, .new 46, 2, 9, 0, 260) :: (63, .dup, 0, 0, 0, 0) :: (64, .invokespecial 48, 0, 1, 10, 0) :: (67, .putfield 49, 3, 5, 1, 416) ::
  (70, .aload_n 0, 0, 0, 0, 0) :: (71, .new 53, 12, 3, 0, 302) :: (74, .dup, 0, 0, 0, 0) :: (75, .invokespecial 55, 88, 1, 0, 304) :: (78, .putfield 56, 3, 6, 1, 418) :: (81, .aload_n 0, 0, 0, 0, 0) :: (82, .invokevirtual 60, 12, 1, 3, 375) :: (85, .return_, 0, 0, 0, 0) :: []
def pr_X1_init : List ax_R := bl_X1_init_0
def pt_X1_init : ax_T := ((⟨"PageServer$Connection", "<init>", "()V"⟩, prog_3_method_1_code, 1, none), 124, 83, 123, 0)
def bl_X1_begin_0 : List ax_R := (0, .aload_n 0, 0, 0, 0, 0) :: (1, .getfield 12, 3, 1, 1, 408) :: (4, .invokevirtual 63, 43, 1, 5, 379) :: (7, .aload_n 0, 0, 0, 0, 0) :: (8, .getfield 35, 3, 3, 1, 412) :: (11, .invokevirtual 66, 65, 1, 7, 383) :: (14, .aload_n 0, 0, 0, 0, 0) :: (15, .getfield 42, 3, 4, 1, 414) ::
  (18, .invokevirtual 67, 58, 1, 6, 387) :: (21, .aload_n 0, 0, 0, 0, 0) :: (22, .getfield 49, 3, 5, 1, 416) :: (25, .invokevirtual 68, 1, 1, 2, 391) :: (28, .aload_n 0, 0, 0, 0, 0) :: (29, .getfield 56, 3, 6, 1, 418) :: (32, .invokevirtual 69, 89, 1, 12, 395) :: (35, .aload_n 0, 0, 0, 0, 0) ::
  (36, .iconst 0, 0, 0, 0, 0) :: (37, .putfield 70, 3, 7, 0, 420) :: (40, .aload_n 0, 0, 0, 0, 0) :: (41, .iconst 0, 0, 0, 0, 0) :: (42, .putfield 74, 3, 8, 0, 421) :: (45, .aload_n 0, 0, 0, 0, 0) :: (46, .iconst 0, 0, 0, 0, 0) :: (47, .putfield 78, 3, 9, 0, 422) ::
  (50, .aload_n 0, 0, 0, 0, 0) :: (51, .iconst 0, 0, 0, 0, 0) :: (52, .putfield 81, 3, 10, 0, 423) :: (55, .aload_n 0, 0, 0, 0, 0) :: (56, .bipush 100, 0, 0, 0, 0) :: (58, .putfield 84, 3, 11, 0, 425) :: (61, .aload_n 0, 0, 0, 0, 0) :: (62, .bipush 64, 0, 0, 0, 0) ::
  (64, .putfield 87, 3, 12, 0, 427) :: (67, .aload_n 0, 0, 0, 0, 0) :: (68, .getfield 35, 3, 3, 1, 412) :: (71, .iconst 2, 0, 0, 0, 0) :: (72, .iconst 4, 0, 0, 0, 0) :: (73, .iconst 0, 0, 0, 0, 0) :: (74, .iconst 0, 0, 0, 0, 0) :: (75, .invokevirtual 90, 69, 5, 7, 399) ::
  (78, .aload_n 0, 0, 0, 0, 0) :: (79, .getfield 35, 3, 3, 1, 412) :: (82, .iconst 3, 0, 0, 0, 0) :: (83, .invokevirtual 94, 68, 2, 7, 407) :: (86, .aload_n 0, 0, 0, 0, 0) :: (87, .getfield 35, 3, 3, 1, 412) :: (90, .iconst 4, 0, 0, 0, 0) :: (91, .invokevirtual 94, 68, 2, 7, 407) ::
  (94, .return_, 0, 0, 0, 0) :: []
def pr_X1_begin : List ax_R := bl_X1_begin_0
def pt_X1_begin : ax_T := ((⟨"PageServer$Connection", "begin", "()V"⟩, prog_3_method_2_code, 1, none), 378, 83, 376, 377)
def bl_X1_receive_97 : List ax_R := (97, .aload_n 0, 0, 0, 0, 0) :: (98, .iconst 1, 0, 0, 0, 0) :: (99, .putfield 74, 3, 8, 0, 421) :: (102, .aload_n 0, 0, 0, 0, 0) :: (103, .getfield 12, 3, 1, 1, 408) :: (106, .invokevirtual 63, 43, 1, 5, 379) :: (109, .return_, 0, 0, 0, 0) :: []
def bl_X1_receive_86 : List ax_R := (86, .aload_n 0, 0, 0, 0, 0) :: (87, .getfield 81, 3, 10, 0, 423) :: (90, .ifCond .ne 7, 97, 0, 0, 0) :: (93, .aload_n 0, 0, 0, 0, 0) :: (94, .invokevirtual 125, 33, 1, 3, 865) :: bl_X1_receive_97
def bl_X1_receive_61 : List ax_R := (61, .aload_n 0, 0, 0, 0, 0) :: (62, .invokevirtual 116, 15, 1, 3, 498) :: (65, .aload_n 0, 0, 0, 0, 0) :: (66, .getfield 81, 3, 10, 0, 423) :: (69, .ifCond .ne 17, 86, 0, 0, 0) :: (72, .aload_n 0, 0, 0, 0, 0) :: (73, .getfield 49, 3, 5, 1, 416) :: (76, .getfield 119, 2, 0, 0, 282) ::
  (79, .ifCond .eq 7, 86, 0, 0, 0) :: (82, .aload_n 0, 0, 0, 0, 0) :: (83, .invokevirtual 122, 20, 1, 3, 658) :: bl_X1_receive_86
def bl_X1_receive_50 : List ax_R := (50, .aload_n 0, 0, 0, 0, 0) :: (51, .getfield 12, 3, 1, 1, 408) :: (54, .invokevirtual 113, 46, 1, 5, 494) :: (57, .ifCond .ne 4, 61, 0, 0, 0) :: (60, .return_, 0, 0, 0, 0) :: bl_X1_receive_61
def bl_X1_receive_25 : List ax_R := (25, .aload_n 0, 0, 0, 0, 0) :: (26, .getfield 12, 3, 1, 1, 408) :: (29, .iload_n 1, 0, 0, 0, 0) :: (30, .invokevirtual 105, 44, 2, 5, 482) :: (33, .aload_n 0, 0, 0, 0, 0) :: (34, .getfield 12, 3, 1, 1, 408) :: (37, .invokevirtual 106, 45, 1, 5, 486) :: (40, .ifCond .eq 10, 50, 0, 0, 0) ::
  (43, .aload_n 0, 0, 0, 0, 0) :: (44, .bipush 6, 0, 0, 0, 0) :: (46, .invokevirtual 110, 37, 2, 3, 478) :: (49, .return_, 0, 0, 0, 0) :: bl_X1_receive_50
def bl_X1_receive_8 : List ax_R := (8, .aload_n 0, 0, 0, 0, 0) :: (9, .getfield 70, 3, 7, 0, 420) :: (12, .getstatic 98, 4, 1, 1, 472) :: (15, .arraylength, 0, 0, 0, 0) :: (16, .if_icmp .ge 9, 25, 0, 0, 0) :: (19, .aload_n 0, 0, 0, 0, 0) :: (20, .iload_n 1, 0, 0, 0, 0) :: (21, .invokevirtual 102, 14, 2, 3, 474) ::
  (24, .return_, 0, 0, 0, 0) :: bl_X1_receive_25
def bl_X1_receive_0 : List ax_R := (0, .aload_n 0, 0, 0, 0, 0) :: (1, .getfield 81, 3, 10, 0, 423) :: (4, .ifCond .eq 4, 8, 0, 0, 0) :: (7, .return_, 0, 0, 0, 0) :: bl_X1_receive_8
def pr_X1_receive : List ax_R := bl_X1_receive_0
def pt_X1_receive : ax_T := ((⟨"PageServer$Connection", "receive", "(I)V"⟩, prog_3_method_3_code, 2, none), 471, 83, 469, 470)
def bl_X1_receivePreface_30 : List ax_R := (30, .return_, 0, 0, 0, 0) :: []
def bl_X1_receivePreface_25 : List ax_R := (25, .aload_n 0, 0, 0, 0, 0) :: (26, .iconst 1, 0, 0, 0, 0) :: (27, .invokevirtual 110, 37, 2, 3, 478) :: bl_X1_receivePreface_30
def bl_X1_receivePreface_0 : List ax_R := (0, .iload_n 1, 0, 0, 0, 0) :: (1, .getstatic 98, 4, 1, 1, 472) :: (4, .aload_n 0, 0, 0, 0, 0) :: (5, .getfield 70, 3, 7, 0, 420) :: (8, .iaload, 0, 0, 0, 0) :: (9, .if_icmp .ne 16, 25, 0, 0, 0) :: (12, .aload_n 0, 0, 0, 0, 0) :: (13, .dup, 0, 0, 0, 0) ::
  (14, .getfield 70, 3, 7, 0, 420) :: (17, .iconst 1, 0, 0, 0, 0) :: (18, .iadd, 0, 0, 0, 0) :: (19, .putfield 70, 3, 7, 0, 420) :: (22, .goto 8, 30, 0, 0, 0) :: bl_X1_receivePreface_25
def pr_X1_receivePreface : List ax_R := bl_X1_receivePreface_0
def pt_X1_receivePreface : ax_T := ((⟨"PageServer$Connection", "receivePreface", "(I)V"⟩, prog_3_method_4_code, 2, none), 477, 83, 476, 0)
def bl_X1_lookAtFrame_134 : List ax_R := (134, .return_, 0, 0, 0, 0) :: []
def bl_X1_lookAtFrame_127 : List ax_R := (127, .aload_n 0, 0, 0, 0, 0) :: (128, .invokevirtual 157, 19, 1, 3, 603) :: (131, .goto 3, 134, 0, 0, 0) :: bl_X1_lookAtFrame_134
def bl_X1_lookAtFrame_120 : List ax_R := (120, .aload_n 0, 0, 0, 0, 0) :: (121, .invokevirtual 154, 30, 1, 3, 642) :: (124, .goto 10, 134, 0, 0, 0) :: bl_X1_lookAtFrame_127
def bl_X1_lookAtFrame_111 : List ax_R := (111, .aload_n 0, 0, 0, 0, 0) :: (112, .iconst 2, 0, 0, 0, 0) :: (113, .invokevirtual 150, 29, 2, 3, 638) :: (116, .pop, 0, 0, 0, 0) :: (117, .goto 17, 134, 0, 0, 0) :: bl_X1_lookAtFrame_120
def bl_X1_lookAtFrame_104 : List ax_R := (104, .aload_n 0, 0, 0, 0, 0) :: (105, .invokevirtual 147, 28, 1, 3, 634) :: (108, .goto 26, 134, 0, 0, 0) :: bl_X1_lookAtFrame_111
def bl_X1_lookAtFrame_97 : List ax_R := (97, .aload_n 0, 0, 0, 0, 0) :: (98, .invokevirtual 144, 26, 1, 3, 621) :: (101, .goto 33, 134, 0, 0, 0) :: bl_X1_lookAtFrame_104
def bl_X1_lookAtFrame_90 : List ax_R := (90, .aload_n 0, 0, 0, 0, 0) :: (91, .invokevirtual 141, 25, 1, 3, 617) :: (94, .goto 40, 134, 0, 0, 0) :: bl_X1_lookAtFrame_97
def bl_X1_lookAtFrame_83 : List ax_R := (83, .aload_n 0, 0, 0, 0, 0) :: (84, .invokevirtual 138, 18, 1, 3, 592) :: (87, .goto 47, 134, 0, 0, 0) :: bl_X1_lookAtFrame_90
def bl_X1_lookAtFrame_76 : List ax_R := (76, .aload_n 0, 0, 0, 0, 0) :: (77, .invokevirtual 135, 17, 1, 3, 518) :: (80, .goto 54, 134, 0, 0, 0) :: bl_X1_lookAtFrame_83
def bl_X1_lookAtFrame_13 : List ax_R := (13, .aload_n 0, 0, 0, 0, 0) :: (14, .getfield 12, 3, 1, 1, 408) :: (17, .invokevirtual 131, 48, 1, 5, 506) :: (20, .tableswitch 114 0 9 #[56, 63, 114, 70, 77, 114, 84, 91, 100, 107], 0, 0, 0, 0) :: bl_X1_lookAtFrame_76
def bl_X1_lookAtFrame_0 : List ax_R := (0, .aload_n 0, 0, 0, 0, 0) :: (1, .invokevirtual 128, 16, 1, 3, 502) :: (4, .ifCond .eq 9, 13, 0, 0, 0) :: (7, .aload_n 0, 0, 0, 0, 0) :: (8, .iconst 1, 0, 0, 0, 0) :: (9, .invokevirtual 110, 37, 2, 3, 478) :: (12, .return_, 0, 0, 0, 0) :: bl_X1_lookAtFrame_13
def pr_X1_lookAtFrame : List ax_R := bl_X1_lookAtFrame_0
def pt_X1_lookAtFrame : ax_T := ((⟨"PageServer$Connection", "lookAtFrame", "()V"⟩, prog_3_method_5_code, 1, none), 501, 83, 500, 2)
def bl_X1_isOutOfOrder_83 : List ax_R := (83, .ireturn, 0, 0, 0, 0) :: []
def bl_X1_isOutOfOrder_82 : List ax_R := (82, .iconst 0, 0, 0, 0, 0) :: bl_X1_isOutOfOrder_83
def bl_X1_isOutOfOrder_72 : List ax_R := (72, .iload_n 1, 0, 0, 0, 0) :: (73, .bipush 9, 0, 0, 0, 0) :: (75, .if_icmp .ne 7, 82, 0, 0, 0) :: (78, .iconst 1, 0, 0, 0, 0) :: (79, .goto 4, 83, 0, 0, 0) :: bl_X1_isOutOfOrder_82
def bl_X1_isOutOfOrder_71 : List ax_R := (71, .ireturn, 0, 0, 0, 0) :: bl_X1_isOutOfOrder_72
def bl_X1_isOutOfOrder_70 : List ax_R := (70, .iconst 0, 0, 0, 0, 0) :: bl_X1_isOutOfOrder_71
def bl_X1_isOutOfOrder_66 : List ax_R := (66, .iconst 1, 0, 0, 0, 0) :: (67, .goto 4, 71, 0, 0, 0) :: bl_X1_isOutOfOrder_70
def bl_X1_isOutOfOrder_33 : List ax_R := (33, .aload_n 0, 0, 0, 0, 0) :: (34, .getfield 49, 3, 5, 1, 416) :: (37, .getfield 163, 2, 8, 0, 280) :: (40, .ifCond .eq 32, 72, 0, 0, 0) :: (43, .iload_n 1, 0, 0, 0, 0) :: (44, .bipush 9, 0, 0, 0, 0) :: (46, .if_icmp .ne 20, 66, 0, 0, 0) :: (49, .aload_n 0, 0, 0, 0, 0) ::
  (50, .getfield 12, 3, 1, 1, 408) :: (53, .invokevirtual 166, 50, 1, 5, 514) :: (56, .aload_n 0, 0, 0, 0, 0) :: (57, .getfield 49, 3, 5, 1, 416) :: (60, .getfield 169, 2, 6, 0, 276) :: (63, .if_icmp .eq 7, 70, 0, 0, 0) :: bl_X1_isOutOfOrder_66
def bl_X1_isOutOfOrder_31 : List ax_R := (31, .iconst 1, 0, 0, 0, 0) :: (32, .ireturn, 0, 0, 0, 0) :: bl_X1_isOutOfOrder_33
def bl_X1_isOutOfOrder_0 : List ax_R := (0, .aload_n 0, 0, 0, 0, 0) :: (1, .getfield 12, 3, 1, 1, 408) :: (4, .invokevirtual 131, 48, 1, 5, 506) :: (7, .istore_n 1, 0, 0, 0, 0) :: (8, .aload_n 0, 0, 0, 0, 0) :: (9, .getfield 74, 3, 8, 0, 421) :: (12, .ifCond .ne 21, 33, 0, 0, 0) :: (15, .iload_n 1, 0, 0, 0, 0) ::
  (16, .iconst 4, 0, 0, 0, 0) :: (17, .if_icmp .ne 14, 31, 0, 0, 0) :: (20, .aload_n 0, 0, 0, 0, 0) :: (21, .getfield 12, 3, 1, 1, 408) :: (24, .iconst 1, 0, 0, 0, 0) :: (25, .invokevirtual 160, 49, 2, 5, 510) :: (28, .ifCond .eq 5, 33, 0, 0, 0) :: bl_X1_isOutOfOrder_31
def pr_X1_isOutOfOrder : List ax_R := bl_X1_isOutOfOrder_0
def pt_X1_isOutOfOrder : ax_T := ((⟨"PageServer$Connection", "isOutOfOrder", "()Z"⟩, prog_3_method_6_code, 2, (some .boolean)), 505, 83, 504, 3)
def bl_X1_lookAtData_162 : List ax_R := (162, .return_, 0, 0, 0, 0) :: []
def bl_X1_lookAtData_150 : List ax_R := (150, .aload_n 0, 0, 0, 0, 0) :: (151, .iload_n 1, 0, 0, 0, 0) :: (152, .aload_n 0, 0, 0, 0, 0) :: (153, .getfield 12, 3, 1, 1, 408) :: (156, .invokevirtual 177, 47, 1, 5, 538) :: (159, .invokevirtual 180, 35, 3, 3, 539) :: bl_X1_lookAtData_162
def bl_X1_lookAtData_115 : List ax_R := (115, .aload_n 2, 0, 0, 0, 0) :: (116, .dup, 0, 0, 0, 0) :: (117, .getfield 196, 11, 5, 0, 332) :: (120, .aload_n 0, 0, 0, 0, 0) :: (121, .getfield 12, 3, 1, 1, 408) :: (124, .invokevirtual 199, 56, 1, 5, 556) :: (127, .iadd, 0, 0, 0, 0) :: (128, .putfield 196, 11, 5, 0, 332) ::
  (131, .aload_n 0, 0, 0, 0, 0) :: (132, .getfield 12, 3, 1, 1, 408) :: (135, .iconst 1, 0, 0, 0, 0) :: (136, .invokevirtual 160, 49, 2, 5, 510) :: (139, .ifCond .eq 11, 150, 0, 0, 0) :: (142, .aload_n 0, 0, 0, 0, 0) :: (143, .aload_n 2, 0, 0, 0, 0) :: (144, .invokevirtual 202, 23, 2, 3, 563) ::
  (147, .goto 15, 162, 0, 0, 0) :: bl_X1_lookAtData_150
def bl_X1_lookAtData_96 : List ax_R := (96, .aload_n 0, 0, 0, 0, 0) :: (97, .getfield 12, 3, 1, 1, 408) :: (100, .invokevirtual 177, 47, 1, 5, 538) :: (103, .bipush 50, 0, 0, 0, 0) :: (105, .if_icmp .le 10, 115, 0, 0, 0) :: (108, .aload_n 0, 0, 0, 0, 0) :: (109, .iload_n 1, 0, 0, 0, 0) :: (110, .iconst 3, 0, 0, 0, 0) ::
  (111, .invokevirtual 193, 36, 3, 3, 547) :: (114, .return_, 0, 0, 0, 0) :: bl_X1_lookAtData_115
def bl_X1_lookAtData_89 : List ax_R := (89, .aload_n 0, 0, 0, 0, 0) :: (90, .iload_n 1, 0, 0, 0, 0) :: (91, .iconst 5, 0, 0, 0, 0) :: (92, .invokevirtual 193, 36, 3, 3, 547) :: (95, .return_, 0, 0, 0, 0) :: bl_X1_lookAtData_96
def bl_X1_lookAtData_57 : List ax_R := (57, .aload_n 0, 0, 0, 0, 0) :: (58, .iconst 0, 0, 0, 0, 0) :: (59, .aload_n 0, 0, 0, 0, 0) :: (60, .getfield 12, 3, 1, 1, 408) :: (63, .invokevirtual 177, 47, 1, 5, 538) :: (66, .invokevirtual 180, 35, 3, 3, 539) :: (69, .aload_n 0, 0, 0, 0, 0) :: (70, .getfield 56, 3, 6, 1, 418) ::
  (73, .iload_n 1, 0, 0, 0, 0) :: (74, .invokevirtual 184, 91, 2, 12, 543) :: (77, .astore_n 2, 0, 0, 0, 0) :: (78, .aload_n 2, 0, 0, 0, 0) :: (79, .ifnull 10, 89, 0, 0, 0) :: (82, .aload_n 2, 0, 0, 0, 0) :: (83, .getfield 188, 11, 6, 0, 335) :: (86, .ifCond .eq 10, 96, 0, 0, 0) :: bl_X1_lookAtData_89
def bl_X1_lookAtData_39 : List ax_R := (39, .aload_n 0, 0, 0, 0, 0) :: (40, .getfield 12, 3, 1, 1, 408) :: (43, .invokevirtual 177, 47, 1, 5, 538) :: (46, .bipush 80, 0, 0, 0, 0) :: (48, .if_icmp .le 9, 57, 0, 0, 0) :: (51, .aload_n 0, 0, 0, 0, 0) :: (52, .iconst 3, 0, 0, 0, 0) :: (53, .invokevirtual 110, 37, 2, 3, 478) ::
  (56, .return_, 0, 0, 0, 0) :: bl_X1_lookAtData_57
def bl_X1_lookAtData_33 : List ax_R := (33, .aload_n 0, 0, 0, 0, 0) :: (34, .iconst 1, 0, 0, 0, 0) :: (35, .invokevirtual 110, 37, 2, 3, 478) :: (38, .return_, 0, 0, 0, 0) :: bl_X1_lookAtData_39
def bl_X1_lookAtData_0 : List ax_R := (0, .aload_n 0, 0, 0, 0, 0) :: (1, .getfield 12, 3, 1, 1, 408) :: (4, .invokevirtual 166, 50, 1, 5, 514) :: (7, .istore_n 1, 0, 0, 0, 0) :: (8, .iload_n 1, 0, 0, 0, 0) :: (9, .ifCond .eq 24, 33, 0, 0, 0) :: (12, .aload_n 0, 0, 0, 0, 0) :: (13, .getfield 56, 3, 6, 1, 418) ::
  (16, .iload_n 1, 0, 0, 0, 0) :: (17, .invokevirtual 171, 90, 2, 12, 522) :: (20, .ifCond .ne 13, 33, 0, 0, 0) :: (23, .aload_n 0, 0, 0, 0, 0) :: (24, .getfield 12, 3, 1, 1, 408) :: (27, .invokevirtual 174, 54, 1, 5, 526) :: (30, .ifCond .ne 9, 39, 0, 0, 0) :: bl_X1_lookAtData_33
def pr_X1_lookAtData : List ax_R := bl_X1_lookAtData_0
def pt_X1_lookAtData : ax_T := ((⟨"PageServer$Connection", "lookAtData", "()V"⟩, prog_3_method_7_code, 3, none), 521, 83, 520, 4)
def bl_X1_lookAtHeaders_67 : List ax_R := (67, .aload_n 0, 0, 0, 0, 0) :: (68, .getfield 49, 3, 5, 1, 416) :: (71, .aload_n 0, 0, 0, 0, 0) :: (72, .getfield 12, 3, 1, 1, 408) :: (75, .invokevirtual 209, 2, 2, 2, 596) :: (78, .aload_n 0, 0, 0, 0, 0) :: (79, .invokevirtual 157, 19, 1, 3, 603) :: (82, .return_, 0, 0, 0, 0) :: []
def bl_X1_lookAtHeaders_61 : List ax_R := (61, .aload_n 0, 0, 0, 0, 0) :: (62, .iconst 5, 0, 0, 0, 0) :: (63, .invokevirtual 110, 37, 2, 3, 478) :: (66, .return_, 0, 0, 0, 0) :: bl_X1_lookAtHeaders_67
def bl_X1_lookAtHeaders_30 : List ax_R := (30, .iload_n 1, 0, 0, 0, 0) :: (31, .aload_n 0, 0, 0, 0, 0) :: (32, .getfield 56, 3, 6, 1, 418) :: (35, .getfield 206, 12, 2, 0, 366) :: (38, .if_icmp .gt 29, 67, 0, 0, 0) :: (41, .aload_n 0, 0, 0, 0, 0) :: (42, .getfield 56, 3, 6, 1, 418) :: (45, .iload_n 1, 0, 0, 0, 0) ::
  (46, .invokevirtual 184, 91, 2, 12, 543) :: (49, .astore_n 2, 0, 0, 0, 0) :: (50, .aload_n 2, 0, 0, 0, 0) :: (51, .ifnull 10, 61, 0, 0, 0) :: (54, .aload_n 2, 0, 0, 0, 0) :: (55, .getfield 188, 11, 6, 0, 335) :: (58, .ifCond .eq 9, 67, 0, 0, 0) :: bl_X1_lookAtHeaders_61
def bl_X1_lookAtHeaders_24 : List ax_R := (24, .aload_n 0, 0, 0, 0, 0) :: (25, .iconst 1, 0, 0, 0, 0) :: (26, .invokevirtual 110, 37, 2, 3, 478) :: (29, .return_, 0, 0, 0, 0) :: bl_X1_lookAtHeaders_30
def bl_X1_lookAtHeaders_0 : List ax_R := (0, .aload_n 0, 0, 0, 0, 0) :: (1, .getfield 12, 3, 1, 1, 408) :: (4, .invokevirtual 166, 50, 1, 5, 514) :: (7, .istore_n 1, 0, 0, 0, 0) :: (8, .iload_n 1, 0, 0, 0, 0) :: (9, .iconst 2, 0, 0, 0, 0) :: (10, .irem, 0, 0, 0, 0) :: (11, .ifCond .eq 13, 24, 0, 0, 0) ::
  (14, .aload_n 0, 0, 0, 0, 0) :: (15, .getfield 12, 3, 1, 1, 408) :: (18, .invokevirtual 174, 54, 1, 5, 526) :: (21, .ifCond .ne 9, 30, 0, 0, 0) :: bl_X1_lookAtHeaders_24
def pr_X1_lookAtHeaders : List ax_R := bl_X1_lookAtHeaders_0
def pt_X1_lookAtHeaders : ax_T := ((⟨"PageServer$Connection", "lookAtHeaders", "()V"⟩, prog_3_method_8_code, 3, none), 595, 83, 594, 10)
def bl_X1_addToBlock_20 : List ax_R := (20, .return_, 0, 0, 0, 0) :: []
def bl_X1_addToBlock_0 : List ax_R := (0, .aload_n 0, 0, 0, 0, 0) :: (1, .getfield 49, 3, 5, 1, 416) :: (4, .aload_n 0, 0, 0, 0, 0) :: (5, .getfield 12, 3, 1, 1, 408) :: (8, .invokevirtual 213, 3, 2, 2, 607) :: (11, .ifCond .ne 9, 20, 0, 0, 0) :: (14, .aload_n 0, 0, 0, 0, 0) :: (15, .bipush 9, 0, 0, 0, 0) ::
  (17, .invokevirtual 110, 37, 2, 3, 478) :: bl_X1_addToBlock_20
def pr_X1_addToBlock : List ax_R := bl_X1_addToBlock_0
def pt_X1_addToBlock : ax_T := ((⟨"PageServer$Connection", "addToBlock", "()V"⟩, prog_3_method_9_code, 1, none), 606, 83, 605, 11)
def bl_X1_endBlock_59 : List ax_R := (59, .return_, 0, 0, 0, 0) :: []
def bl_X1_endBlock_54 : List ax_R := (54, .aload_n 0, 0, 0, 0, 0) :: (55, .aload_n 1, 0, 0, 0, 0) :: (56, .invokevirtual 223, 22, 2, 3, 859) :: bl_X1_endBlock_59
def bl_X1_endBlock_21 : List ax_R := (21, .aload_n 0, 0, 0, 0, 0) :: (22, .getfield 56, 3, 6, 1, 418) :: (25, .aload_n 0, 0, 0, 0, 0) :: (26, .getfield 49, 3, 5, 1, 416) :: (29, .getfield 169, 2, 6, 0, 276) :: (32, .invokevirtual 184, 91, 2, 12, 543) :: (35, .astore_n 1, 0, 0, 0, 0) :: (36, .aload_n 1, 0, 0, 0, 0) ::
  (37, .ifnonnull 17, 54, 0, 0, 0) :: (40, .aload_n 0, 0, 0, 0, 0) :: (41, .aload_n 0, 0, 0, 0, 0) :: (42, .getfield 49, 3, 5, 1, 416) :: (45, .getfield 169, 2, 6, 0, 276) :: (48, .invokevirtual 220, 21, 2, 3, 779) :: (51, .goto 8, 59, 0, 0, 0) :: bl_X1_endBlock_54
def bl_X1_endBlock_0 : List ax_R := (0, .aload_n 0, 0, 0, 0, 0) :: (1, .getfield 49, 3, 5, 1, 416) :: (4, .aload_n 0, 0, 0, 0, 0) :: (5, .getfield 42, 3, 4, 1, 414) :: (8, .invokevirtual 216, 5, 2, 2, 662) :: (11, .ifCond .ne 10, 21, 0, 0, 0) :: (14, .aload_n 0, 0, 0, 0, 0) :: (15, .bipush 9, 0, 0, 0, 0) ::
  (17, .invokevirtual 110, 37, 2, 3, 478) :: (20, .return_, 0, 0, 0, 0) :: bl_X1_endBlock_21
def pr_X1_endBlock : List ax_R := bl_X1_endBlock_0
def pt_X1_endBlock : ax_T := ((⟨"PageServer$Connection", "endBlock", "()V"⟩, prog_3_method_10_code, 2, none), 661, 83, 660, 20)
def bl_X1_openStream_83 : List ax_R := (83, .return_, 0, 0, 0, 0) :: []
def bl_X1_openStream_68 : List ax_R := (68, .aload_n 0, 0, 0, 0, 0) :: (69, .getfield 49, 3, 5, 1, 416) :: (72, .getfield 237, 2, 7, 0, 278) :: (75, .ifCond .eq 8, 83, 0, 0, 0) :: (78, .aload_n 0, 0, 0, 0, 0) :: (79, .aload_n 2, 0, 0, 0, 0) :: (80, .invokevirtual 202, 23, 2, 3, 563) :: bl_X1_openStream_83
def bl_X1_openStream_56 : List ax_R := (56, .astore_n 2, 0, 0, 0, 0) :: (57, .aload_n 2, 0, 0, 0, 0) :: (58, .ifnonnull 10, 68, 0, 0, 0) :: (61, .aload_n 0, 0, 0, 0, 0) :: (62, .iload_n 1, 0, 0, 0, 0) :: (63, .iconst 1, 0, 0, 0, 0) :: (64, .invokevirtual 193, 36, 3, 3, 547) :: (67, .return_, 0, 0, 0, 0) :: bl_X1_openStream_68
def bl_X1_openStream_55 : List ax_R := (55, .aconst_null, 0, 0, 0, 0) :: bl_X1_openStream_56
def bl_X1_openStream_26 : List ax_R := (26, .aload_n 0, 0, 0, 0, 0) :: (27, .getfield 21, 3, 2, 1, 409) :: (30, .aload_n 0, 0, 0, 0, 0) :: (31, .getfield 49, 3, 5, 1, 416) :: (34, .invokevirtual 229, 73, 2, 9, 791) :: (37, .ifCond .eq 18, 55, 0, 0, 0) :: (40, .aload_n 0, 0, 0, 0, 0) :: (41, .getfield 56, 3, 6, 1, 418) ::
  (44, .iload_n 1, 0, 0, 0, 0) :: (45, .aload_n 0, 0, 0, 0, 0) :: (46, .getfield 21, 3, 2, 1, 409) :: (49, .invokevirtual 233, 93, 3, 12, 851) :: (52, .goto 4, 56, 0, 0, 0) :: bl_X1_openStream_55
def bl_X1_openStream_0 : List ax_R := (0, .aload_n 0, 0, 0, 0, 0) :: (1, .getfield 56, 3, 6, 1, 418) :: (4, .iload_n 1, 0, 0, 0, 0) :: (5, .putfield 206, 12, 2, 0, 366) :: (8, .aload_n 0, 0, 0, 0, 0) :: (9, .getfield 56, 3, 6, 1, 418) :: (12, .invokevirtual 226, 95, 1, 12, 783) :: (15, .ifCond .eq 11, 26, 0, 0, 0) ::
  (18, .aload_n 0, 0, 0, 0, 0) :: (19, .iload_n 1, 0, 0, 0, 0) :: (20, .bipush 7, 0, 0, 0, 0) :: (22, .invokevirtual 193, 36, 3, 3, 547) :: (25, .return_, 0, 0, 0, 0) :: bl_X1_openStream_26
def pr_X1_openStream : List ax_R := bl_X1_openStream_0
def pt_X1_openStream : ax_T := ((⟨"PageServer$Connection", "openStream", "(I)V"⟩, prog_3_method_11_code, 3, none), 782, 83, 781, 27)
def bl_X1_endOpenStream_73 : List ax_R := (73, .return_, 0, 0, 0, 0) :: []
def bl_X1_endOpenStream_64 : List ax_R := (64, .aload_n 0, 0, 0, 0, 0) :: (65, .aload_n 1, 0, 0, 0, 0) :: (66, .getfield 252, 11, 1, 0, 321) :: (69, .iconst 1, 0, 0, 0, 0) :: (70, .invokevirtual 193, 36, 3, 3, 547) :: bl_X1_endOpenStream_73
def bl_X1_endOpenStream_52 : List ax_R := (52, .iload_n 2, 0, 0, 0, 0) :: (53, .ifCond .eq 11, 64, 0, 0, 0) :: (56, .aload_n 0, 0, 0, 0, 0) :: (57, .aload_n 1, 0, 0, 0, 0) :: (58, .invokevirtual 202, 23, 2, 3, 563) :: (61, .goto 12, 73, 0, 0, 0) :: bl_X1_endOpenStream_64
def bl_X1_endOpenStream_46 : List ax_R := (46, .iinc 3 1, 0, 0, 0, 0) :: (49, .goto (-39), 10, 0, 0, 0) :: bl_X1_endOpenStream_52
def bl_X1_endOpenStream_10 : List ax_R := (10, .iload_n 3, 0, 0, 0, 0) :: (11, .aload_n 0, 0, 0, 0, 0) :: (12, .getfield 49, 3, 5, 1, 416) :: (15, .getfield 240, 2, 5, 0, 274) :: (18, .if_icmp .ge 34, 52, 0, 0, 0) :: (21, .aload_n 0, 0, 0, 0, 0) :: (22, .getfield 49, 3, 5, 1, 416) :: (25, .iload_n 3, 0, 0, 0, 0) ::
  (26, .invokevirtual 243, 4, 2, 2, 863) :: (29, .astore 4, 0, 0, 0, 0) :: (31, .aload 4, 0, 0, 0, 0) :: (33, .ifnull 13, 46, 0, 0, 0) :: (36, .aload 4, 0, 0, 0, 0) :: (38, .invokevirtual 247, 39, 1, 4, 864) :: (41, .ifCond .eq 5, 46, 0, 0, 0) :: (44, .iconst 0, 0, 0, 0, 0) ::
  (45, .istore_n 2, 0, 0, 0, 0) :: bl_X1_endOpenStream_46
def bl_X1_endOpenStream_0 : List ax_R := (0, .aload_n 0, 0, 0, 0, 0) :: (1, .getfield 49, 3, 5, 1, 416) :: (4, .getfield 237, 2, 7, 0, 278) :: (7, .istore_n 2, 0, 0, 0, 0) :: (8, .iconst 0, 0, 0, 0, 0) :: (9, .istore_n 3, 0, 0, 0, 0) :: bl_X1_endOpenStream_10
def pr_X1_endOpenStream : List ax_R := bl_X1_endOpenStream_0
def pt_X1_endOpenStream : ax_T := ((⟨"PageServer$Connection", "endOpenStream", "(LPageServer$Stream;)V"⟩, prog_3_method_12_code, 5, none), 862, 83, 861, 30)
def bl_X1_closeClientSide_29 : List ax_R := (29, .return_, 0, 0, 0, 0) :: []
def bl_X1_closeClientSide_24 : List ax_R := (24, .aload_n 0, 0, 0, 0, 0) :: (25, .aload_n 1, 0, 0, 0, 0) :: (26, .invokevirtual 258, 24, 2, 3, 571) :: bl_X1_closeClientSide_29
def bl_X1_closeClientSide_0 : List ax_R := (0, .aload_n 1, 0, 0, 0, 0) :: (1, .iconst 1, 0, 0, 0, 0) :: (2, .putfield 188, 11, 6, 0, 335) :: (5, .aload_n 1, 0, 0, 0, 0) :: (6, .invokevirtual 255, 87, 1, 11, 567) :: (9, .ifCond .eq 15, 24, 0, 0, 0) :: (12, .aload_n 0, 0, 0, 0, 0) :: (13, .aload_n 1, 0, 0, 0, 0) ::
  (14, .getfield 252, 11, 1, 0, 321) :: (17, .iconst 1, 0, 0, 0, 0) :: (18, .invokevirtual 193, 36, 3, 3, 547) :: (21, .goto 8, 29, 0, 0, 0) :: bl_X1_closeClientSide_24
def pr_X1_closeClientSide : List ax_R := bl_X1_closeClientSide_0
def pt_X1_closeClientSide : ax_T := ((⟨"PageServer$Connection", "closeClientSide", "(LPageServer$Stream;)V"⟩, prog_3_method_13_code, 2, none), 566, 83, 565, 8)
def bl_X1_answer_212 : List ax_R := (212, .return_, 0, 0, 0, 0) :: []
def bl_X1_answer_197 : List ax_R := (197, .aload_n 1, 0, 0, 0, 0) :: (198, .iload 5, 0, 0, 0, 0) :: (200, .putfield 292, 11, 3, 0, 328) :: (203, .aload_n 1, 0, 0, 0, 0) :: (204, .aload 4, 0, 0, 0, 0) :: (206, .getfield 295, 8, 2, 0, 1234) :: (209, .putfield 298, 11, 4, 0, 330) :: bl_X1_answer_212
def bl_X1_answer_189 : List ax_R := (189, .aload_n 1, 0, 0, 0, 0) :: (190, .iconst 0, 0, 0, 0, 0) :: (191, .putfield 289, 11, 0, 0, 318) :: (194, .goto 18, 212, 0, 0, 0) :: bl_X1_answer_197
def bl_X1_answer_179 : List ax_R := (179, .aload 4, 0, 0, 0, 0) :: (181, .ifnull 8, 189, 0, 0, 0) :: (184, .iload 5, 0, 0, 0, 0) :: (186, .ifCond .ne 11, 197, 0, 0, 0) :: bl_X1_answer_189
def bl_X1_answer_151 : List ax_R := (151, .iload 7, 0, 0, 0, 0) :: (153, .getstatic 286, 5, 2, 1, 590) :: (156, .arraylength, 0, 0, 0, 0) :: (157, .if_icmp .ge 22, 179, 0, 0, 0) :: (160, .aload_n 0, 0, 0, 0, 0) :: (161, .getfield 35, 3, 3, 1, 412) :: (164, .getstatic 286, 5, 2, 1, 590) :: (167, .iload 7, 0, 0, 0, 0) ::
  (169, .iaload, 0, 0, 0, 0) :: (170, .invokevirtual 94, 68, 2, 7, 407) :: (173, .iinc 7 1, 0, 0, 0, 0) :: (176, .goto (-25), 151, 0, 0, 0) :: bl_X1_answer_179
def bl_X1_answer_130 : List ax_R := (130, .aload_n 0, 0, 0, 0, 0) :: (131, .getfield 35, 3, 3, 1, 412) :: (134, .getstatic 286, 5, 2, 1, 590) :: (137, .arraylength, 0, 0, 0, 0) :: (138, .iconst 1, 0, 0, 0, 0) :: (139, .iload 6, 0, 0, 0, 0) :: (141, .aload_n 1, 0, 0, 0, 0) :: (142, .getfield 252, 11, 1, 0, 321) ::
  (145, .invokevirtual 90, 69, 5, 7, 399) :: (148, .iconst 0, 0, 0, 0, 0) :: (149, .istore 7, 0, 0, 0, 0) :: bl_X1_answer_151
def bl_X1_answer_124 : List ax_R := (124, .invokevirtual 94, 68, 2, 7, 407) :: (127, .goto 52, 179, 0, 0, 0) :: bl_X1_answer_130
def bl_X1_answer_121 : List ax_R := (121, .sipush 134, 0, 0, 0, 0) :: bl_X1_answer_124
def bl_X1_answer_85 : List ax_R := (85, .istore 6, 0, 0, 0, 0) :: (87, .iload_n 3, 0, 0, 0, 0) :: (88, .ifCond .eq 42, 130, 0, 0, 0) :: (91, .aload_n 0, 0, 0, 0, 0) :: (92, .getfield 35, 3, 3, 1, 412) :: (95, .iconst 1, 0, 0, 0, 0) :: (96, .iconst 1, 0, 0, 0, 0) :: (97, .iload 6, 0, 0, 0, 0) ::
  (99, .aload_n 1, 0, 0, 0, 0) :: (100, .getfield 252, 11, 1, 0, 321) :: (103, .invokevirtual 90, 69, 5, 7, 399) :: (106, .aload_n 0, 0, 0, 0, 0) :: (107, .getfield 35, 3, 3, 1, 412) :: (110, .aload 4, 0, 0, 0, 0) :: (112, .ifnonnull 9, 121, 0, 0, 0) :: (115, .sipush 135, 0, 0, 0, 0) ::
  (118, .goto 6, 124, 0, 0, 0) :: bl_X1_answer_121
def bl_X1_answer_84 : List ax_R := (84, .iconst 4, 0, 0, 0, 0) :: bl_X1_answer_85
def bl_X1_answer_73 : List ax_R := (73, .istore 5, 0, 0, 0, 0) :: (75, .iload 5, 0, 0, 0, 0) :: (77, .ifCond .ne 7, 84, 0, 0, 0) :: (80, .iconst 5, 0, 0, 0, 0) :: (81, .goto 4, 85, 0, 0, 0) :: bl_X1_answer_84
def bl_X1_answer_68 : List ax_R := (68, .aload 4, 0, 0, 0, 0) :: (70, .getfield 281, 8, 1, 0, 1232) :: bl_X1_answer_73
def bl_X1_answer_64 : List ax_R := (64, .iconst 0, 0, 0, 0, 0) :: (65, .goto 8, 73, 0, 0, 0) :: bl_X1_answer_68
def bl_X1_answer_53 : List ax_R := (53, .astore 4, 0, 0, 0, 0) :: (55, .aload 4, 0, 0, 0, 0) :: (57, .ifnull 7, 64, 0, 0, 0) :: (60, .iload_n 2, 0, 0, 0, 0) :: (61, .ifCond .eq 7, 68, 0, 0, 0) :: bl_X1_answer_64
def bl_X1_answer_52 : List ax_R := (52, .aconst_null, 0, 0, 0, 0) :: bl_X1_answer_53
def bl_X1_answer_33 : List ax_R := (33, .istore_n 3, 0, 0, 0, 0) :: (34, .iload_n 3, 0, 0, 0, 0) :: (35, .ifCond .eq 17, 52, 0, 0, 0) :: (38, .aload_n 0, 0, 0, 0, 0) :: (39, .getfield 28, 3, 0, 1, 410) :: (42, .aload_n 1, 0, 0, 0, 0) :: (43, .getfield 275, 11, 9, 1, 341) :: (46, .invokevirtual 278, 81, 2, 10, 585) ::
  (49, .goto 4, 53, 0, 0, 0) :: bl_X1_answer_52
def bl_X1_answer_32 : List ax_R := (32, .iconst 0, 0, 0, 0, 0) :: bl_X1_answer_33
def bl_X1_answer_28 : List ax_R := (28, .iconst 1, 0, 0, 0, 0) :: (29, .goto 4, 33, 0, 0, 0) :: bl_X1_answer_32
def bl_X1_answer_0 : List ax_R := (0, .aload_n 1, 0, 0, 0, 0) :: (1, .getfield 261, 11, 8, 1, 339) :: (4, .ldc_w 265, 0, 7, 1, 12) :: (7, .invokevirtual 267, 179, 2, 0, 576) :: (10, .istore_n 2, 0, 0, 0, 0) :: (11, .iload_n 2, 0, 0, 0, 0) :: (12, .ifCond .ne 16, 28, 0, 0, 0) :: (15, .aload_n 1, 0, 0, 0, 0) ::
  (16, .getfield 261, 11, 8, 1, 339) :: (19, .ldc_w 273, 0, 5, 1, 13) :: (22, .invokevirtual 267, 179, 2, 0, 576) :: (25, .ifCond .eq 7, 32, 0, 0, 0) :: bl_X1_answer_28
def pr_X1_answer : List ax_R := bl_X1_answer_0
def pt_X1_answer : ax_T := ((⟨"PageServer$Connection", "answer", "(LPageServer$Stream;)V"⟩, prog_3_method_14_code, 8, none), 574, 83, 573, 9)
def bl_X1_lookAtReset_59 : List ax_R := (59, .return_, 0, 0, 0, 0) :: []
def bl_X1_lookAtReset_51 : List ax_R := (51, .aload_n 0, 0, 0, 0, 0) :: (52, .getfield 56, 3, 6, 1, 418) :: (55, .iload_n 1, 0, 0, 0, 0) :: (56, .invokevirtual 299, 94, 2, 12, 551) :: bl_X1_lookAtReset_59
def bl_X1_lookAtReset_43 : List ax_R := (43, .aload_n 0, 0, 0, 0, 0) :: (44, .iconst 1, 0, 0, 0, 0) :: (45, .invokevirtual 110, 37, 2, 3, 478) :: (48, .goto 11, 59, 0, 0, 0) :: bl_X1_lookAtReset_51
def bl_X1_lookAtReset_28 : List ax_R := (28, .iload_n 1, 0, 0, 0, 0) :: (29, .ifCond .eq 14, 43, 0, 0, 0) :: (32, .aload_n 0, 0, 0, 0, 0) :: (33, .getfield 56, 3, 6, 1, 418) :: (36, .iload_n 1, 0, 0, 0, 0) :: (37, .invokevirtual 171, 90, 2, 12, 522) :: (40, .ifCond .eq 11, 51, 0, 0, 0) :: bl_X1_lookAtReset_43
def bl_X1_lookAtReset_0 : List ax_R := (0, .aload_n 0, 0, 0, 0, 0) :: (1, .getfield 12, 3, 1, 1, 408) :: (4, .invokevirtual 166, 50, 1, 5, 514) :: (7, .istore_n 1, 0, 0, 0, 0) :: (8, .aload_n 0, 0, 0, 0, 0) :: (9, .getfield 12, 3, 1, 1, 408) :: (12, .invokevirtual 177, 47, 1, 5, 538) :: (15, .iconst 1, 0, 0, 0, 0) ::
  (16, .if_icmp .eq 12, 28, 0, 0, 0) :: (19, .aload_n 0, 0, 0, 0, 0) :: (20, .bipush 6, 0, 0, 0, 0) :: (22, .invokevirtual 110, 37, 2, 3, 478) :: (25, .goto 34, 59, 0, 0, 0) :: bl_X1_lookAtReset_28
def pr_X1_lookAtReset : List ax_R := bl_X1_lookAtReset_0
def pt_X1_lookAtReset : ax_T := ((⟨"PageServer$Connection", "lookAtReset", "()V"⟩, prog_3_method_15_code, 2, none), 620, 83, 619, 12)
def bl_X1_lookAtSettings_73 : List ax_R := (73, .return_, 0, 0, 0, 0) :: []
def bl_X1_lookAtSettings_69 : List ax_R := (69, .aload_n 0, 0, 0, 0, 0) :: (70, .invokevirtual 302, 27, 1, 3, 625) :: bl_X1_lookAtSettings_73
def bl_X1_lookAtSettings_48 : List ax_R := (48, .aload_n 0, 0, 0, 0, 0) :: (49, .getfield 12, 3, 1, 1, 408) :: (52, .invokevirtual 177, 47, 1, 5, 538) :: (55, .iconst 2, 0, 0, 0, 0) :: (56, .irem, 0, 0, 0, 0) :: (57, .ifCond .eq 12, 69, 0, 0, 0) :: (60, .aload_n 0, 0, 0, 0, 0) :: (61, .bipush 6, 0, 0, 0, 0) ::
  (63, .invokevirtual 110, 37, 2, 3, 478) :: (66, .goto 7, 73, 0, 0, 0) :: bl_X1_lookAtSettings_69
def bl_X1_lookAtSettings_18 : List ax_R := (18, .aload_n 0, 0, 0, 0, 0) :: (19, .getfield 12, 3, 1, 1, 408) :: (22, .iconst 1, 0, 0, 0, 0) :: (23, .invokevirtual 160, 49, 2, 5, 510) :: (26, .ifCond .eq 22, 48, 0, 0, 0) :: (29, .aload_n 0, 0, 0, 0, 0) :: (30, .getfield 12, 3, 1, 1, 408) :: (33, .invokevirtual 177, 47, 1, 5, 538) ::
  (36, .ifCond .le 37, 73, 0, 0, 0) :: (39, .aload_n 0, 0, 0, 0, 0) :: (40, .bipush 6, 0, 0, 0, 0) :: (42, .invokevirtual 110, 37, 2, 3, 478) :: (45, .goto 28, 73, 0, 0, 0) :: bl_X1_lookAtSettings_48
def bl_X1_lookAtSettings_0 : List ax_R := (0, .aload_n 0, 0, 0, 0, 0) :: (1, .getfield 12, 3, 1, 1, 408) :: (4, .invokevirtual 166, 50, 1, 5, 514) :: (7, .ifCond .eq 11, 18, 0, 0, 0) :: (10, .aload_n 0, 0, 0, 0, 0) :: (11, .iconst 1, 0, 0, 0, 0) :: (12, .invokevirtual 110, 37, 2, 3, 478) :: (15, .goto 58, 73, 0, 0, 0) :: bl_X1_lookAtSettings_18
def pr_X1_lookAtSettings : List ax_R := bl_X1_lookAtSettings_0
def pt_X1_lookAtSettings : ax_T := ((⟨"PageServer$Connection", "lookAtSettings", "()V"⟩, prog_3_method_16_code, 1, none), 624, 83, 623, 13)
def bl_X1_takeSettings_84 : List ax_R := (84, .aload_n 0, 0, 0, 0, 0) :: (85, .getfield 35, 3, 3, 1, 412) :: (88, .iconst 0, 0, 0, 0, 0) :: (89, .iconst 4, 0, 0, 0, 0) :: (90, .iconst 1, 0, 0, 0, 0) :: (91, .iconst 0, 0, 0, 0, 0) :: (92, .invokevirtual 90, 69, 5, 7, 399) :: (95, .return_, 0, 0, 0, 0) :: []
def bl_X1_takeSettings_78 : List ax_R := (78, .iinc 1 2, 0, 0, 0, 0) :: (81, .goto (-79), 2, 0, 0, 0) :: bl_X1_takeSettings_84
def bl_X1_takeSettings_73 : List ax_R := (73, .aload_n 0, 0, 0, 0, 0) :: (74, .iload_n 2, 0, 0, 0, 0) :: (75, .putfield 87, 3, 12, 0, 427) :: bl_X1_takeSettings_78
def bl_X1_takeSettings_49 : List ax_R := (49, .aload_n 0, 0, 0, 0, 0) :: (50, .getfield 12, 3, 1, 1, 408) :: (53, .iload_n 1, 0, 0, 0, 0) :: (54, .invokevirtual 305, 51, 2, 5, 629) :: (57, .iconst 5, 0, 0, 0, 0) :: (58, .if_icmp .ne 20, 78, 0, 0, 0) :: (61, .iload_n 2, 0, 0, 0, 0) :: (62, .bipush 16, 0, 0, 0, 0) ::
  (64, .if_icmp .ge 9, 73, 0, 0, 0) :: (67, .aload_n 0, 0, 0, 0, 0) :: (68, .iconst 1, 0, 0, 0, 0) :: (69, .invokevirtual 110, 37, 2, 3, 478) :: (72, .return_, 0, 0, 0, 0) :: bl_X1_takeSettings_73
def bl_X1_takeSettings_2 : List ax_R := (2, .iload_n 1, 0, 0, 0, 0) :: (3, .iconst 1, 0, 0, 0, 0) :: (4, .iadd, 0, 0, 0, 0) :: (5, .aload_n 0, 0, 0, 0, 0) :: (6, .getfield 12, 3, 1, 1, 408) :: (9, .invokevirtual 177, 47, 1, 5, 538) :: (12, .if_icmp .ge 72, 84, 0, 0, 0) :: (15, .aload_n 0, 0, 0, 0, 0) ::
  (16, .getfield 12, 3, 1, 1, 408) :: (19, .iload_n 1, 0, 0, 0, 0) :: (20, .iconst 1, 0, 0, 0, 0) :: (21, .iadd, 0, 0, 0, 0) :: (22, .invokevirtual 305, 51, 2, 5, 629) :: (25, .istore_n 2, 0, 0, 0, 0) :: (26, .aload_n 0, 0, 0, 0, 0) :: (27, .getfield 12, 3, 1, 1, 408) ::
  (30, .iload_n 1, 0, 0, 0, 0) :: (31, .invokevirtual 305, 51, 2, 5, 629) :: (34, .iconst 4, 0, 0, 0, 0) :: (35, .if_icmp .ne 14, 49, 0, 0, 0) :: (38, .aload_n 0, 0, 0, 0, 0) :: (39, .getfield 56, 3, 6, 1, 418) :: (42, .iload_n 2, 0, 0, 0, 0) :: (43, .invokevirtual 309, 96, 2, 12, 630) ::
  (46, .goto 32, 78, 0, 0, 0) :: bl_X1_takeSettings_49
def bl_X1_takeSettings_0 : List ax_R := (0, .iconst 0, 0, 0, 0, 0) :: (1, .istore_n 1, 0, 0, 0, 0) :: bl_X1_takeSettings_2
def pr_X1_takeSettings : List ax_R := bl_X1_takeSettings_0
def pt_X1_takeSettings : ax_T := ((⟨"PageServer$Connection", "takeSettings", "()V"⟩, prog_3_method_17_code, 3, none), 628, 83, 627, 14)
def bl_X1_lookAtPing_60 : List ax_R := (60, .return_, 0, 0, 0, 0) :: []
def bl_X1_lookAtPing_34 : List ax_R := (34, .iload_n 1, 0, 0, 0, 0) :: (35, .iconst 4, 0, 0, 0, 0) :: (36, .if_icmp .ge 24, 60, 0, 0, 0) :: (39, .aload_n 0, 0, 0, 0, 0) :: (40, .getfield 35, 3, 3, 1, 412) :: (43, .aload_n 0, 0, 0, 0, 0) :: (44, .getfield 12, 3, 1, 1, 408) :: (47, .iload_n 1, 0, 0, 0, 0) ::
  (48, .invokevirtual 305, 51, 2, 5, 629) :: (51, .invokevirtual 94, 68, 2, 7, 407) :: (54, .iinc 1 1, 0, 0, 0, 0) :: (57, .goto (-23), 34, 0, 0, 0) :: bl_X1_lookAtPing_60
def bl_X1_lookAtPing_20 : List ax_R := (20, .aload_n 0, 0, 0, 0, 0) :: (21, .getfield 35, 3, 3, 1, 412) :: (24, .iconst 4, 0, 0, 0, 0) :: (25, .bipush 6, 0, 0, 0, 0) :: (27, .iconst 1, 0, 0, 0, 0) :: (28, .iconst 0, 0, 0, 0, 0) :: (29, .invokevirtual 90, 69, 5, 7, 399) :: (32, .iconst 0, 0, 0, 0, 0) ::
  (33, .istore_n 1, 0, 0, 0, 0) :: bl_X1_lookAtPing_34
def bl_X1_lookAtPing_19 : List ax_R := (19, .return_, 0, 0, 0, 0) :: bl_X1_lookAtPing_20
def bl_X1_lookAtPing_0 : List ax_R := (0, .aload_n 0, 0, 0, 0, 0) :: (1, .iconst 4, 0, 0, 0, 0) :: (2, .invokevirtual 150, 29, 2, 3, 638) :: (5, .ifCond .eq 14, 19, 0, 0, 0) :: (8, .aload_n 0, 0, 0, 0, 0) :: (9, .getfield 12, 3, 1, 1, 408) :: (12, .iconst 1, 0, 0, 0, 0) :: (13, .invokevirtual 160, 49, 2, 5, 510) ::
  (16, .ifCond .eq 4, 20, 0, 0, 0) :: bl_X1_lookAtPing_19
def pr_X1_lookAtPing : List ax_R := bl_X1_lookAtPing_0
def pt_X1_lookAtPing : ax_T := ((⟨"PageServer$Connection", "lookAtPing", "()V"⟩, prog_3_method_18_code, 2, none), 637, 83, 636, 15)
def bl_X1_demandConnectionFrame_36 : List ax_R := (36, .iconst 1, 0, 0, 0, 0) :: (37, .ireturn, 0, 0, 0, 0) :: []
def bl_X1_demandConnectionFrame_17 : List ax_R := (17, .aload_n 0, 0, 0, 0, 0) :: (18, .getfield 12, 3, 1, 1, 408) :: (21, .invokevirtual 177, 47, 1, 5, 538) :: (24, .iload_n 1, 0, 0, 0, 0) :: (25, .if_icmp .eq 11, 36, 0, 0, 0) :: (28, .aload_n 0, 0, 0, 0, 0) :: (29, .bipush 6, 0, 0, 0, 0) :: (31, .invokevirtual 110, 37, 2, 3, 478) ::
  (34, .iconst 0, 0, 0, 0, 0) :: (35, .ireturn, 0, 0, 0, 0) :: bl_X1_demandConnectionFrame_36
def bl_X1_demandConnectionFrame_0 : List ax_R := (0, .aload_n 0, 0, 0, 0, 0) :: (1, .getfield 12, 3, 1, 1, 408) :: (4, .invokevirtual 166, 50, 1, 5, 514) :: (7, .ifCond .eq 10, 17, 0, 0, 0) :: (10, .aload_n 0, 0, 0, 0, 0) :: (11, .iconst 1, 0, 0, 0, 0) :: (12, .invokevirtual 110, 37, 2, 3, 478) :: (15, .iconst 0, 0, 0, 0, 0) ::
  (16, .ireturn, 0, 0, 0, 0) :: bl_X1_demandConnectionFrame_17
def pr_X1_demandConnectionFrame : List ax_R := bl_X1_demandConnectionFrame_0
def pt_X1_demandConnectionFrame : ax_T := ((⟨"PageServer$Connection", "demandConnectionFrame", "(I)Z"⟩, prog_3_method_19_code, 2, (some .boolean)), 641, 83, 640, 16)
def bl_X1_lookAtWindow_80 : List ax_R := (80, .return_, 0, 0, 0, 0) :: []
def bl_X1_lookAtWindow_61 : List ax_R := (61, .aload_n 0, 0, 0, 0, 0) :: (62, .getfield 56, 3, 6, 1, 418) :: (65, .iload_n 1, 0, 0, 0, 0) :: (66, .invokevirtual 184, 91, 2, 12, 543) :: (69, .astore_n 3, 0, 0, 0, 0) :: (70, .aload_n 3, 0, 0, 0, 0) :: (71, .ifnull 9, 80, 0, 0, 0) :: (74, .aload_n 0, 0, 0, 0, 0) ::
  (75, .aload_n 3, 0, 0, 0, 0) :: (76, .iload_n 2, 0, 0, 0, 0) :: (77, .invokevirtual 318, 32, 3, 3, 654) :: bl_X1_lookAtWindow_80
def bl_X1_lookAtWindow_43 : List ax_R := (43, .aload_n 0, 0, 0, 0, 0) :: (44, .getfield 12, 3, 1, 1, 408) :: (47, .invokevirtual 312, 52, 1, 5, 646) :: (50, .istore_n 2, 0, 0, 0, 0) :: (51, .iload_n 1, 0, 0, 0, 0) :: (52, .ifCond .ne 9, 61, 0, 0, 0) :: (55, .aload_n 0, 0, 0, 0, 0) :: (56, .iload_n 2, 0, 0, 0, 0) ::
  (57, .invokevirtual 315, 31, 2, 3, 650) :: (60, .return_, 0, 0, 0, 0) :: bl_X1_lookAtWindow_61
def bl_X1_lookAtWindow_26 : List ax_R := (26, .aload_n 0, 0, 0, 0, 0) :: (27, .getfield 56, 3, 6, 1, 418) :: (30, .iload_n 1, 0, 0, 0, 0) :: (31, .invokevirtual 171, 90, 2, 12, 522) :: (34, .ifCond .eq 9, 43, 0, 0, 0) :: (37, .aload_n 0, 0, 0, 0, 0) :: (38, .iconst 1, 0, 0, 0, 0) :: (39, .invokevirtual 110, 37, 2, 3, 478) ::
  (42, .return_, 0, 0, 0, 0) :: bl_X1_lookAtWindow_43
def bl_X1_lookAtWindow_0 : List ax_R := (0, .aload_n 0, 0, 0, 0, 0) :: (1, .getfield 12, 3, 1, 1, 408) :: (4, .invokevirtual 166, 50, 1, 5, 514) :: (7, .istore_n 1, 0, 0, 0, 0) :: (8, .aload_n 0, 0, 0, 0, 0) :: (9, .getfield 12, 3, 1, 1, 408) :: (12, .invokevirtual 177, 47, 1, 5, 538) :: (15, .iconst 2, 0, 0, 0, 0) ::
  (16, .if_icmp .eq 10, 26, 0, 0, 0) :: (19, .aload_n 0, 0, 0, 0, 0) :: (20, .bipush 6, 0, 0, 0, 0) :: (22, .invokevirtual 110, 37, 2, 3, 478) :: (25, .return_, 0, 0, 0, 0) :: bl_X1_lookAtWindow_26
def pr_X1_lookAtWindow : List ax_R := bl_X1_lookAtWindow_0
def pt_X1_lookAtWindow : ax_T := ((⟨"PageServer$Connection", "lookAtWindow", "()V"⟩, prog_3_method_20_code, 4, none), 645, 83, 644, 17)
def bl_X1_widenConnection_42 : List ax_R := (42, .return_, 0, 0, 0, 0) :: []
def bl_X1_widenConnection_32 : List ax_R := (32, .aload_n 0, 0, 0, 0, 0) :: (33, .dup, 0, 0, 0, 0) :: (34, .getfield 84, 3, 11, 0, 425) :: (37, .iload_n 1, 0, 0, 0, 0) :: (38, .iadd, 0, 0, 0, 0) :: (39, .putfield 84, 3, 11, 0, 425) :: bl_X1_widenConnection_42
def bl_X1_widenConnection_12 : List ax_R := (12, .aload_n 0, 0, 0, 0, 0) :: (13, .getfield 84, 3, 11, 0, 425) :: (16, .iload_n 1, 0, 0, 0, 0) :: (17, .iadd, 0, 0, 0, 0) :: (18, .sipush 30000, 0, 0, 0, 0) :: (21, .if_icmp .le 11, 32, 0, 0, 0) :: (24, .aload_n 0, 0, 0, 0, 0) :: (25, .iconst 3, 0, 0, 0, 0) ::
  (26, .invokevirtual 110, 37, 2, 3, 478) :: (29, .goto 13, 42, 0, 0, 0) :: bl_X1_widenConnection_32
def bl_X1_widenConnection_0 : List ax_R := (0, .iload_n 1, 0, 0, 0, 0) :: (1, .ifCond .ne 11, 12, 0, 0, 0) :: (4, .aload_n 0, 0, 0, 0, 0) :: (5, .iconst 1, 0, 0, 0, 0) :: (6, .invokevirtual 110, 37, 2, 3, 478) :: (9, .goto 33, 42, 0, 0, 0) :: bl_X1_widenConnection_12
def pr_X1_widenConnection : List ax_R := bl_X1_widenConnection_0
def pt_X1_widenConnection : ax_T := ((⟨"PageServer$Connection", "widenConnection", "(I)V"⟩, prog_3_method_21_code, 2, none), 653, 83, 652, 18)
def bl_X1_widenStream_50 : List ax_R := (50, .return_, 0, 0, 0, 0) :: []
def bl_X1_widenStream_40 : List ax_R := (40, .aload_n 1, 0, 0, 0, 0) :: (41, .dup, 0, 0, 0, 0) :: (42, .getfield 322, 11, 2, 0, 325) :: (45, .iload_n 2, 0, 0, 0, 0) :: (46, .iadd, 0, 0, 0, 0) :: (47, .putfield 322, 11, 2, 0, 325) :: bl_X1_widenStream_50
def bl_X1_widenStream_16 : List ax_R := (16, .aload_n 1, 0, 0, 0, 0) :: (17, .getfield 322, 11, 2, 0, 325) :: (20, .iload_n 2, 0, 0, 0, 0) :: (21, .iadd, 0, 0, 0, 0) :: (22, .sipush 30000, 0, 0, 0, 0) :: (25, .if_icmp .le 15, 40, 0, 0, 0) :: (28, .aload_n 0, 0, 0, 0, 0) :: (29, .aload_n 1, 0, 0, 0, 0) ::
  (30, .getfield 252, 11, 1, 0, 321) :: (33, .iconst 3, 0, 0, 0, 0) :: (34, .invokevirtual 193, 36, 3, 3, 547) :: (37, .goto 13, 50, 0, 0, 0) :: bl_X1_widenStream_40
def bl_X1_widenStream_0 : List ax_R := (0, .iload_n 2, 0, 0, 0, 0) :: (1, .ifCond .ne 15, 16, 0, 0, 0) :: (4, .aload_n 0, 0, 0, 0, 0) :: (5, .aload_n 1, 0, 0, 0, 0) :: (6, .getfield 252, 11, 1, 0, 321) :: (9, .iconst 1, 0, 0, 0, 0) :: (10, .invokevirtual 193, 36, 3, 3, 547) :: (13, .goto 37, 50, 0, 0, 0) :: bl_X1_widenStream_16
def pr_X1_widenStream : List ax_R := bl_X1_widenStream_0
def pt_X1_widenStream : ax_T := ((⟨"PageServer$Connection", "widenStream", "(LPageServer$Stream;I)V"⟩, prog_3_method_22_code, 3, none), 657, 83, 656, 19)
def bl_X1_sendBodies_44 : List ax_R := (44, .return_, 0, 0, 0, 0) :: []
def bl_X1_sendBodies_33 : List ax_R := (33, .aload_n 0, 0, 0, 0, 0) :: (34, .aload_n 2, 0, 0, 0, 0) :: (35, .invokevirtual 326, 34, 2, 3, 881) :: (38, .iinc 1 1, 0, 0, 0, 0) :: (41, .goto (-39), 2, 0, 0, 0) :: bl_X1_sendBodies_44
def bl_X1_sendBodies_2 : List ax_R := (2, .iload_n 1, 0, 0, 0, 0) :: (3, .sipush 1000, 0, 0, 0, 0) :: (6, .if_icmp .ge 38, 44, 0, 0, 0) :: (9, .aload_n 0, 0, 0, 0, 0) :: (10, .getfield 84, 3, 11, 0, 425) :: (13, .ifCond .le 31, 44, 0, 0, 0) :: (16, .aload_n 0, 0, 0, 0, 0) :: (17, .getfield 56, 3, 6, 1, 418) ::
  (20, .aload_n 0, 0, 0, 0, 0) :: (21, .getfield 78, 3, 9, 0, 422) :: (24, .invokevirtual 323, 97, 2, 12, 869) :: (27, .astore_n 2, 0, 0, 0, 0) :: (28, .aload_n 2, 0, 0, 0, 0) :: (29, .ifnonnull 4, 33, 0, 0, 0) :: (32, .return_, 0, 0, 0, 0) :: bl_X1_sendBodies_33
def bl_X1_sendBodies_0 : List ax_R := (0, .iconst 0, 0, 0, 0, 0) :: (1, .istore_n 1, 0, 0, 0, 0) :: bl_X1_sendBodies_2
def pr_X1_sendBodies : List ax_R := bl_X1_sendBodies_0
def pt_X1_sendBodies : ax_T := ((⟨"PageServer$Connection", "sendBodies", "()V"⟩, prog_3_method_23_code, 3, none), 868, 83, 867, 31)
def bl_X1_sendData_135 : List ax_R := (135, .return_, 0, 0, 0, 0) :: []
def bl_X1_sendData_88 : List ax_R := (88, .aload_n 1, 0, 0, 0, 0) :: (89, .dup, 0, 0, 0, 0) :: (90, .getfield 322, 11, 2, 0, 325) :: (93, .iload_n 2, 0, 0, 0, 0) :: (94, .isub, 0, 0, 0, 0) :: (95, .putfield 322, 11, 2, 0, 325) :: (98, .aload_n 0, 0, 0, 0, 0) :: (99, .dup, 0, 0, 0, 0) ::
  (100, .getfield 84, 3, 11, 0, 425) :: (103, .iload_n 2, 0, 0, 0, 0) :: (104, .isub, 0, 0, 0, 0) :: (105, .putfield 84, 3, 11, 0, 425) :: (108, .aload_n 1, 0, 0, 0, 0) :: (109, .dup, 0, 0, 0, 0) :: (110, .getfield 292, 11, 3, 0, 328) :: (113, .iload_n 2, 0, 0, 0, 0) ::
  (114, .isub, 0, 0, 0, 0) :: (115, .putfield 292, 11, 3, 0, 328) :: (118, .aload_n 0, 0, 0, 0, 0) :: (119, .aload_n 1, 0, 0, 0, 0) :: (120, .getfield 252, 11, 1, 0, 321) :: (123, .putfield 78, 3, 9, 0, 422) :: (126, .iload_n 3, 0, 0, 0, 0) :: (127, .ifCond .eq 8, 135, 0, 0, 0) ::
  (130, .aload_n 1, 0, 0, 0, 0) :: (131, .iconst 0, 0, 0, 0, 0) :: (132, .putfield 289, 11, 0, 0, 318) :: bl_X1_sendData_135
def bl_X1_sendData_65 : List ax_R := (65, .iload 4, 0, 0, 0, 0) :: (67, .iload_n 2, 0, 0, 0, 0) :: (68, .if_icmp .ge 20, 88, 0, 0, 0) :: (71, .aload_n 0, 0, 0, 0, 0) :: (72, .getfield 35, 3, 3, 1, 412) :: (75, .aload_n 1, 0, 0, 0, 0) :: (76, .getfield 298, 11, 4, 0, 330) :: (79, .invokevirtual 94, 68, 2, 7, 407) ::
  (82, .iinc 4 1, 0, 0, 0, 0) :: (85, .goto (-20), 65, 0, 0, 0) :: bl_X1_sendData_88
def bl_X1_sendData_55 : List ax_R := (55, .aload_n 1, 0, 0, 0, 0) :: (56, .getfield 252, 11, 1, 0, 321) :: (59, .invokevirtual 90, 69, 5, 7, 399) :: (62, .iconst 0, 0, 0, 0, 0) :: (63, .istore 4, 0, 0, 0, 0) :: bl_X1_sendData_65
def bl_X1_sendData_54 : List ax_R := (54, .iconst 0, 0, 0, 0, 0) :: bl_X1_sendData_55
def bl_X1_sendData_39 : List ax_R := (39, .istore_n 3, 0, 0, 0, 0) :: (40, .aload_n 0, 0, 0, 0, 0) :: (41, .getfield 35, 3, 3, 1, 412) :: (44, .iload_n 2, 0, 0, 0, 0) :: (45, .iconst 0, 0, 0, 0, 0) :: (46, .iload_n 3, 0, 0, 0, 0) :: (47, .ifCond .eq 7, 54, 0, 0, 0) :: (50, .iconst 1, 0, 0, 0, 0) ::
  (51, .goto 4, 55, 0, 0, 0) :: bl_X1_sendData_54
def bl_X1_sendData_38 : List ax_R := (38, .iconst 0, 0, 0, 0, 0) :: bl_X1_sendData_39
def bl_X1_sendData_0 : List ax_R := (0, .aload_n 1, 0, 0, 0, 0) :: (1, .getfield 322, 11, 2, 0, 325) :: (4, .aload_n 0, 0, 0, 0, 0) :: (5, .getfield 84, 3, 11, 0, 425) :: (8, .invokestatic 329, 0, 0, 7, 885) :: (11, .aload_n 0, 0, 0, 0, 0) :: (12, .getfield 87, 3, 12, 0, 427) :: (15, .aload_n 1, 0, 0, 0, 0) ::
  (16, .getfield 292, 11, 3, 0, 328) :: (19, .invokestatic 329, 0, 0, 7, 885) :: (22, .invokestatic 329, 0, 0, 7, 885) :: (25, .istore_n 2, 0, 0, 0, 0) :: (26, .iload_n 2, 0, 0, 0, 0) :: (27, .aload_n 1, 0, 0, 0, 0) :: (28, .getfield 292, 11, 3, 0, 328) :: (31, .if_icmp .ne 7, 38, 0, 0, 0) ::
  (34, .iconst 1, 0, 0, 0, 0) :: (35, .goto 4, 39, 0, 0, 0) :: bl_X1_sendData_38
def pr_X1_sendData : List ax_R := bl_X1_sendData_0
def pt_X1_sendData : ax_T := ((⟨"PageServer$Connection", "sendData", "(LPageServer$Stream;)V"⟩, prog_3_method_24_code, 5, none), 884, 83, 883, 33)
def bl_X1_sendWindow_40 : List ax_R := (40, .return_, 0, 0, 0, 0) :: []
def bl_X1_sendWindow_0 : List ax_R := (0, .iload_n 2, 0, 0, 0, 0) :: (1, .ifCond .le 39, 40, 0, 0, 0) :: (4, .aload_n 0, 0, 0, 0, 0) :: (5, .getfield 35, 3, 3, 1, 412) :: (8, .iconst 2, 0, 0, 0, 0) :: (9, .bipush 8, 0, 0, 0, 0) :: (11, .iconst 0, 0, 0, 0, 0) :: (12, .iload_n 1, 0, 0, 0, 0) ::
  (13, .invokevirtual 90, 69, 5, 7, 399) :: (16, .aload_n 0, 0, 0, 0, 0) :: (17, .getfield 35, 3, 3, 1, 412) :: (20, .iload_n 2, 0, 0, 0, 0) :: (21, .sipush 256, 0, 0, 0, 0) :: (24, .idiv, 0, 0, 0, 0) :: (25, .invokevirtual 94, 68, 2, 7, 407) :: (28, .aload_n 0, 0, 0, 0, 0) ::
  (29, .getfield 35, 3, 3, 1, 412) :: (32, .iload_n 2, 0, 0, 0, 0) :: (33, .sipush 256, 0, 0, 0, 0) :: (36, .irem, 0, 0, 0, 0) :: (37, .invokevirtual 94, 68, 2, 7, 407) :: bl_X1_sendWindow_40
def pr_X1_sendWindow : List ax_R := bl_X1_sendWindow_0
def pt_X1_sendWindow : ax_T := ((⟨"PageServer$Connection", "sendWindow", "(II)V"⟩, prog_3_method_25_code, 3, none), 542, 83, 541, 6)
def bl_X1_sendReset_0 : List ax_R := (0, .aload_n 0, 0, 0, 0, 0) :: (1, .getfield 35, 3, 3, 1, 412) :: (4, .iconst 1, 0, 0, 0, 0) :: (5, .iconst 3, 0, 0, 0, 0) :: (6, .iconst 0, 0, 0, 0, 0) :: (7, .iload_n 1, 0, 0, 0, 0) :: (8, .invokevirtual 90, 69, 5, 7, 399) :: (11, .aload_n 0, 0, 0, 0, 0) ::
  (12, .getfield 35, 3, 3, 1, 412) :: (15, .iload_n 2, 0, 0, 0, 0) :: (16, .invokevirtual 94, 68, 2, 7, 407) :: (19, .aload_n 0, 0, 0, 0, 0) :: (20, .getfield 56, 3, 6, 1, 418) :: (23, .iload_n 1, 0, 0, 0, 0) :: (24, .invokevirtual 299, 94, 2, 12, 551) :: (27, .return_, 0, 0, 0, 0) :: []
def pr_X1_sendReset : List ax_R := bl_X1_sendReset_0
def pt_X1_sendReset : ax_T := ((⟨"PageServer$Connection", "sendReset", "(II)V"⟩, prog_3_method_26_code, 3, none), 550, 83, 549, 7)
def bl_X1_sendAway_0 : List ax_R := (0, .aload_n 0, 0, 0, 0, 0) :: (1, .iload_n 1, 0, 0, 0, 0) :: (2, .putfield 81, 3, 10, 0, 423) :: (5, .aload_n 0, 0, 0, 0, 0) :: (6, .getfield 35, 3, 3, 1, 412) :: (9, .iconst 2, 0, 0, 0, 0) :: (10, .bipush 7, 0, 0, 0, 0) :: (12, .iconst 0, 0, 0, 0, 0) ::
  (13, .iconst 0, 0, 0, 0, 0) :: (14, .invokevirtual 90, 69, 5, 7, 399) :: (17, .aload_n 0, 0, 0, 0, 0) :: (18, .getfield 35, 3, 3, 1, 412) :: (21, .aload_n 0, 0, 0, 0, 0) :: (22, .getfield 56, 3, 6, 1, 418) :: (25, .getfield 206, 12, 2, 0, 366) :: (28, .invokevirtual 94, 68, 2, 7, 407) ::
  (31, .aload_n 0, 0, 0, 0, 0) :: (32, .getfield 35, 3, 3, 1, 412) :: (35, .iload_n 1, 0, 0, 0, 0) :: (36, .invokevirtual 94, 68, 2, 7, 407) :: (39, .return_, 0, 0, 0, 0) :: []
def pr_X1_sendAway : List ax_R := bl_X1_sendAway_0
def pt_X1_sendAway : ax_T := ((⟨"PageServer$Connection", "sendAway", "(I)V"⟩, prog_3_method_27_code, 2, none), 481, 83, 480, 1)
def bl_X2_init_0 : List ax_R := (0, .aload_n 0, 0, 0, 0, 0) :: (1, .invokespecial 3, 0, 0, 5, 204) :: (4, .aload_n 0, 0, 0, 0, 0) :: (5, .aload_n 1, 0, 0, 0, 0) :: (6, .putfield 9, 4, 0, 1, 215) :: (9, .aload_n 0, 0, 0, 0, 0) :: (10, .aload_n 2, 0, 0, 0, 0) :: (11, .putfield 15, 4, 1, 1, 219) ::
  (14, .aload_n 0, 0, 0, 0, 0) :: (15, .iconst 2, 0, 0, 0, 0) :: (16, .aload_n 1, 0, 0, 0, 0) :: (17, .invokevirtual 18, 176, 1, 0, 205) :: (20, .iadd, 0, 0, 0, 0) :: (21, .aload_n 2, 0, 0, 0, 0) :: (22, .invokevirtual 18, 176, 1, 0, 205) :: (25, .iadd, 0, 0, 0, 0) ::
  (26, .putfield 24, 4, 2, 0, 222) :: (29, .return_, 0, 0, 0, 0) :: []
def pr_X2_init : List ax_R := bl_X2_init_0
def pt_X2_init : ax_T := ((⟨"PageServer$Field", "<init>", "(Ljava/lang/String;Ljava/lang/String;)V"⟩, prog_4_method_1_code, 3, none), 203, 89, 202, 0)
def bl_X2_beginsWithColon_28 : List ax_R := (28, .ireturn, 0, 0, 0, 0) :: []
def bl_X2_beginsWithColon_27 : List ax_R := (27, .iconst 0, 0, 0, 0, 0) :: bl_X2_beginsWithColon_28
def bl_X2_beginsWithColon_0 : List ax_R := (0, .aload_n 0, 0, 0, 0, 0) :: (1, .getfield 9, 4, 0, 1, 215) :: (4, .invokevirtual 28, 177, 1, 0, 803) :: (7, .ifCond .ne 20, 27, 0, 0, 0) :: (10, .aload_n 0, 0, 0, 0, 0) :: (11, .getfield 9, 4, 0, 1, 215) :: (14, .iconst 0, 0, 0, 0, 0) :: (15, .invokevirtual 32, 178, 2, 0, 807) ::
  (18, .bipush 58, 0, 0, 0, 0) :: (20, .if_icmp .ne 7, 27, 0, 0, 0) :: (23, .iconst 1, 0, 0, 0, 0) :: (24, .goto 4, 28, 0, 0, 0) :: bl_X2_beginsWithColon_27
def pr_X2_beginsWithColon : List ax_R := bl_X2_beginsWithColon_0
def pt_X2_beginsWithColon : ax_T := ((⟨"PageServer$Field", "beginsWithColon", "()Z"⟩, prog_4_method_2_code, 1, (some .boolean)), 802, 89, 800, 801)
def bl_X2_isNamedByLetters_47 : List ax_R := (47, .iconst 1, 0, 0, 0, 0) :: (48, .ireturn, 0, 0, 0, 0) :: []
def bl_X2_isNamedByLetters_41 : List ax_R := (41, .iinc 1 1, 0, 0, 0, 0) :: (44, .goto (-42), 2, 0, 0, 0) :: bl_X2_isNamedByLetters_47
def bl_X2_isNamedByLetters_39 : List ax_R := (39, .iconst 0, 0, 0, 0, 0) :: (40, .ireturn, 0, 0, 0, 0) :: bl_X2_isNamedByLetters_41
def bl_X2_isNamedByLetters_2 : List ax_R := (2, .iload_n 1, 0, 0, 0, 0) :: (3, .aload_n 0, 0, 0, 0, 0) :: (4, .getfield 9, 4, 0, 1, 215) :: (7, .invokevirtual 18, 176, 1, 0, 205) :: (10, .if_icmp .ge 37, 47, 0, 0, 0) :: (13, .aload_n 0, 0, 0, 0, 0) :: (14, .getfield 9, 4, 0, 1, 215) :: (17, .iload_n 1, 0, 0, 0, 0) ::
  (18, .invokevirtual 32, 178, 2, 0, 807) :: (21, .bipush 97, 0, 0, 0, 0) :: (23, .if_icmp .lt 16, 39, 0, 0, 0) :: (26, .aload_n 0, 0, 0, 0, 0) :: (27, .getfield 9, 4, 0, 1, 215) :: (30, .iload_n 1, 0, 0, 0, 0) :: (31, .invokevirtual 32, 178, 2, 0, 807) :: (34, .bipush 122, 0, 0, 0, 0) ::
  (36, .if_icmp .le 5, 41, 0, 0, 0) :: bl_X2_isNamedByLetters_39
def bl_X2_isNamedByLetters_0 : List ax_R := (0, .iconst 0, 0, 0, 0, 0) :: (1, .istore_n 1, 0, 0, 0, 0) :: bl_X2_isNamedByLetters_2
def pr_X2_isNamedByLetters : List ax_R := bl_X2_isNamedByLetters_0
def pt_X2_isNamedByLetters : ax_T := ((⟨"PageServer$Field", "isNamedByLetters", "()Z"⟩, prog_4_method_3_code, 2, (some .boolean)), 845, 89, 843, 844)
def bl_X2_numberValue_77 : List ax_R := (77, .iload_n 1, 0, 0, 0, 0) :: (78, .ireturn, 0, 0, 0, 0) :: []
def bl_X2_numberValue_61 : List ax_R := (61, .iload_n 1, 0, 0, 0, 0) :: (62, .bipush 10, 0, 0, 0, 0) :: (64, .imul, 0, 0, 0, 0) :: (65, .iload_n 3, 0, 0, 0, 0) :: (66, .bipush 48, 0, 0, 0, 0) :: (68, .isub, 0, 0, 0, 0) :: (69, .iadd, 0, 0, 0, 0) :: (70, .istore_n 1, 0, 0, 0, 0) ::
  (71, .iinc 2 1, 0, 0, 0, 0) :: (74, .goto (-47), 27, 0, 0, 0) :: bl_X2_numberValue_77
def bl_X2_numberValue_59 : List ax_R := (59, .iconst (-1), 0, 0, 0, 0) :: (60, .ireturn, 0, 0, 0, 0) :: bl_X2_numberValue_61
def bl_X2_numberValue_27 : List ax_R := (27, .iload_n 2, 0, 0, 0, 0) :: (28, .aload_n 0, 0, 0, 0, 0) :: (29, .getfield 15, 4, 1, 1, 219) :: (32, .invokevirtual 18, 176, 1, 0, 205) :: (35, .if_icmp .ge 42, 77, 0, 0, 0) :: (38, .aload_n 0, 0, 0, 0, 0) :: (39, .getfield 15, 4, 1, 1, 219) :: (42, .iload_n 2, 0, 0, 0, 0) ::
  (43, .invokevirtual 32, 178, 2, 0, 807) :: (46, .istore_n 3, 0, 0, 0, 0) :: (47, .iload_n 3, 0, 0, 0, 0) :: (48, .bipush 48, 0, 0, 0, 0) :: (50, .if_icmp .lt 9, 59, 0, 0, 0) :: (53, .iload_n 3, 0, 0, 0, 0) :: (54, .bipush 57, 0, 0, 0, 0) :: (56, .if_icmp .le 5, 61, 0, 0, 0) :: bl_X2_numberValue_59
def bl_X2_numberValue_23 : List ax_R := (23, .iconst 0, 0, 0, 0, 0) :: (24, .istore_n 1, 0, 0, 0, 0) :: (25, .iconst 0, 0, 0, 0, 0) :: (26, .istore_n 2, 0, 0, 0, 0) :: bl_X2_numberValue_27
def bl_X2_numberValue_21 : List ax_R := (21, .iconst (-1), 0, 0, 0, 0) :: (22, .ireturn, 0, 0, 0, 0) :: bl_X2_numberValue_23
def bl_X2_numberValue_0 : List ax_R := (0, .aload_n 0, 0, 0, 0, 0) :: (1, .getfield 15, 4, 1, 1, 219) :: (4, .invokevirtual 28, 177, 1, 0, 803) :: (7, .ifCond .ne 14, 21, 0, 0, 0) :: (10, .aload_n 0, 0, 0, 0, 0) :: (11, .getfield 15, 4, 1, 1, 219) :: (14, .invokevirtual 18, 176, 1, 0, 205) :: (17, .iconst 3, 0, 0, 0, 0) ::
  (18, .if_icmp .le 5, 23, 0, 0, 0) :: bl_X2_numberValue_21
def pr_X2_numberValue : List ax_R := bl_X2_numberValue_0
def pt_X2_numberValue : ax_T := ((⟨"PageServer$Field", "numberValue", "()I"⟩, prog_4_method_4_code, 4, (some .int)), 850, 89, 848, 849)
def bl_X3_init_0 : List ax_R := (0, .aload_n 0, 0, 0, 0, 0) :: (1, .invokespecial 3, 0, 0, 5, 131) :: (4, .aload_n 0, 0, 0, 0, 0) :: (5, .sipush 204, 0, 0, 0, 0) :: (8, .newarray .int, 100, 0, 0, 139) :: (10, .putfield 11, 5, 0, 1, 132) :: (13, .return_, 0, 0, 0, 0) :: []
def pr_X3_init : List ax_R := bl_X3_init_0
def pt_X3_init : ax_T := ((⟨"PageServer$Frame", "<init>", "()V"⟩, prog_5_method_1_code, 1, none), 130, 84, 129, 0)
def bl_X3_clear_0 : List ax_R := (0, .aload_n 0, 0, 0, 0, 0) :: (1, .iconst 0, 0, 0, 0, 0) :: (2, .putfield 15, 5, 1, 0, 133) :: (5, .return_, 0, 0, 0, 0) :: []
def pr_X3_clear : List ax_R := bl_X3_clear_0
def pt_X3_clear : ax_T := ((⟨"PageServer$Frame", "clear", "()V"⟩, prog_5_method_2_code, 1, none), 382, 84, 380, 381)
def bl_X3_add_32 : List ax_R := (32, .return_, 0, 0, 0, 0) :: []
def bl_X3_add_0 : List ax_R := (0, .aload_n 0, 0, 0, 0, 0) :: (1, .getfield 15, 5, 1, 0, 133) :: (4, .aload_n 0, 0, 0, 0, 0) :: (5, .getfield 11, 5, 0, 1, 132) :: (8, .arraylength, 0, 0, 0, 0) :: (9, .if_icmp .ge 23, 32, 0, 0, 0) :: (12, .aload_n 0, 0, 0, 0, 0) :: (13, .getfield 11, 5, 0, 1, 132) ::
  (16, .aload_n 0, 0, 0, 0, 0) :: (17, .getfield 15, 5, 1, 0, 133) :: (20, .iload_n 1, 0, 0, 0, 0) :: (21, .iastore, 0, 0, 0, 0) :: (22, .aload_n 0, 0, 0, 0, 0) :: (23, .dup, 0, 0, 0, 0) :: (24, .getfield 15, 5, 1, 0, 133) :: (27, .iconst 1, 0, 0, 0, 0) ::
  (28, .iadd, 0, 0, 0, 0) :: (29, .putfield 15, 5, 1, 0, 133) :: bl_X3_add_32
def pr_X3_add : List ax_R := bl_X3_add_0
def pt_X3_add : ax_T := ((⟨"PageServer$Frame", "add", "(I)V"⟩, prog_5_method_3_code, 2, none), 485, 84, 483, 484)
def bl_X3_isTooLong_23 : List ax_R := (23, .ireturn, 0, 0, 0, 0) :: []
def bl_X3_isTooLong_22 : List ax_R := (22, .iconst 0, 0, 0, 0, 0) :: bl_X3_isTooLong_23
def bl_X3_isTooLong_0 : List ax_R := (0, .aload_n 0, 0, 0, 0, 0) :: (1, .getfield 15, 5, 1, 0, 133) :: (4, .iconst 4, 0, 0, 0, 0) :: (5, .if_icmp .lt 17, 22, 0, 0, 0) :: (8, .aload_n 0, 0, 0, 0, 0) :: (9, .invokevirtual 19, 47, 1, 5, 490) :: (12, .sipush 200, 0, 0, 0, 0) :: (15, .if_icmp .le 7, 22, 0, 0, 0) ::
  (18, .iconst 1, 0, 0, 0, 0) :: (19, .goto 4, 23, 0, 0, 0) :: bl_X3_isTooLong_22
def pr_X3_isTooLong : List ax_R := bl_X3_isTooLong_0
def pt_X3_isTooLong : ax_T := ((⟨"PageServer$Frame", "isTooLong", "()Z"⟩, prog_5_method_4_code, 1, (some .boolean)), 489, 84, 487, 488)
def bl_X3_isWhole_26 : List ax_R := (26, .ireturn, 0, 0, 0, 0) :: []
def bl_X3_isWhole_25 : List ax_R := (25, .iconst 0, 0, 0, 0, 0) :: bl_X3_isWhole_26
def bl_X3_isWhole_0 : List ax_R := (0, .aload_n 0, 0, 0, 0, 0) :: (1, .getfield 15, 5, 1, 0, 133) :: (4, .iconst 4, 0, 0, 0, 0) :: (5, .if_icmp .lt 20, 25, 0, 0, 0) :: (8, .aload_n 0, 0, 0, 0, 0) :: (9, .getfield 15, 5, 1, 0, 133) :: (12, .iconst 4, 0, 0, 0, 0) :: (13, .aload_n 0, 0, 0, 0, 0) ::
  (14, .invokevirtual 19, 47, 1, 5, 490) :: (17, .iadd, 0, 0, 0, 0) :: (18, .if_icmp .lt 7, 25, 0, 0, 0) :: (21, .iconst 1, 0, 0, 0, 0) :: (22, .goto 4, 26, 0, 0, 0) :: bl_X3_isWhole_25
def pr_X3_isWhole : List ax_R := bl_X3_isWhole_0
def pt_X3_isWhole : ax_T := ((⟨"PageServer$Frame", "isWhole", "()Z"⟩, prog_5_method_5_code, 1, (some .boolean)), 497, 84, 495, 496)
def bl_X3_length_0 : List ax_R := (0, .aload_n 0, 0, 0, 0, 0) :: (1, .getfield 11, 5, 0, 1, 132) :: (4, .iconst 0, 0, 0, 0, 0) :: (5, .iaload, 0, 0, 0, 0) :: (6, .ireturn, 0, 0, 0, 0) :: []
def pr_X3_length : List ax_R := bl_X3_length_0
def pt_X3_length : ax_T := ((⟨"PageServer$Frame", "length", "()I"⟩, prog_5_method_6_code, 1, (some .int)), 493, 84, 491, 492)
def bl_X3_type_0 : List ax_R := (0, .aload_n 0, 0, 0, 0, 0) :: (1, .getfield 11, 5, 0, 1, 132) :: (4, .iconst 1, 0, 0, 0, 0) :: (5, .iaload, 0, 0, 0, 0) :: (6, .ireturn, 0, 0, 0, 0) :: []
def pr_X3_type : List ax_R := bl_X3_type_0
def pt_X3_type : ax_T := ((⟨"PageServer$Frame", "type", "()I"⟩, prog_5_method_7_code, 1, (some .int)), 509, 84, 507, 508)
def bl_X3_has_16 : List ax_R := (16, .ireturn, 0, 0, 0, 0) :: []
def bl_X3_has_15 : List ax_R := (15, .iconst 0, 0, 0, 0, 0) :: bl_X3_has_16
def bl_X3_has_0 : List ax_R := (0, .aload_n 0, 0, 0, 0, 0) :: (1, .getfield 11, 5, 0, 1, 132) :: (4, .iconst 2, 0, 0, 0, 0) :: (5, .iaload, 0, 0, 0, 0) :: (6, .iload_n 1, 0, 0, 0, 0) :: (7, .iand, 0, 0, 0, 0) :: (8, .ifCond .eq 7, 15, 0, 0, 0) :: (11, .iconst 1, 0, 0, 0, 0) ::
  (12, .goto 4, 16, 0, 0, 0) :: bl_X3_has_15
def pr_X3_has : List ax_R := bl_X3_has_0
def pt_X3_has : ax_T := ((⟨"PageServer$Frame", "has", "(I)Z"⟩, prog_5_method_8_code, 2, (some .boolean)), 513, 84, 511, 512)
def bl_X3_streamNumber_0 : List ax_R := (0, .aload_n 0, 0, 0, 0, 0) :: (1, .getfield 11, 5, 0, 1, 132) :: (4, .iconst 3, 0, 0, 0, 0) :: (5, .iaload, 0, 0, 0, 0) :: (6, .ireturn, 0, 0, 0, 0) :: []
def pr_X3_streamNumber : List ax_R := bl_X3_streamNumber_0
def pt_X3_streamNumber : ax_T := ((⟨"PageServer$Frame", "streamNumber", "()I"⟩, prog_5_method_9_code, 1, (some .int)), 517, 84, 515, 516)
def bl_X3_byteAt_23 : List ax_R := (23, .ireturn, 0, 0, 0, 0) :: []
def bl_X3_byteAt_22 : List ax_R := (22, .iconst 0, 0, 0, 0, 0) :: bl_X3_byteAt_23
def bl_X3_byteAt_0 : List ax_R := (0, .iload_n 1, 0, 0, 0, 0) :: (1, .ifCond .lt 21, 22, 0, 0, 0) :: (4, .iload_n 1, 0, 0, 0, 0) :: (5, .sipush 200, 0, 0, 0, 0) :: (8, .if_icmp .ge 14, 22, 0, 0, 0) :: (11, .aload_n 0, 0, 0, 0, 0) :: (12, .getfield 11, 5, 0, 1, 132) :: (15, .iconst 4, 0, 0, 0, 0) ::
  (16, .iload_n 1, 0, 0, 0, 0) :: (17, .iadd, 0, 0, 0, 0) :: (18, .iaload, 0, 0, 0, 0) :: (19, .goto 4, 23, 0, 0, 0) :: bl_X3_byteAt_22
def pr_X3_byteAt : List ax_R := bl_X3_byteAt_0
def pt_X3_byteAt : ax_T := ((⟨"PageServer$Frame", "byteAt", "(I)I"⟩, prog_5_method_10_code, 2, (some .int)), 537, 84, 535, 536)
def bl_X3_twoByteNumber_0 : List ax_R := (0, .aload_n 0, 0, 0, 0, 0) :: (1, .iconst 0, 0, 0, 0, 0) :: (2, .invokevirtual 23, 51, 2, 5, 534) :: (5, .sipush 256, 0, 0, 0, 0) :: (8, .imul, 0, 0, 0, 0) :: (9, .aload_n 0, 0, 0, 0, 0) :: (10, .iconst 1, 0, 0, 0, 0) :: (11, .invokevirtual 23, 51, 2, 5, 534) ::
  (14, .iadd, 0, 0, 0, 0) :: (15, .ireturn, 0, 0, 0, 0) :: []
def pr_X3_twoByteNumber : List ax_R := bl_X3_twoByteNumber_0
def pt_X3_twoByteNumber : ax_T := ((⟨"PageServer$Frame", "twoByteNumber", "()I"⟩, prog_5_method_11_code, 1, (some .int)), 649, 84, 647, 648)
def bl_X3_isPadded_36 : List ax_R := (36, .ireturn, 0, 0, 0, 0) :: []
def bl_X3_isPadded_35 : List ax_R := (35, .iconst 0, 0, 0, 0, 0) :: bl_X3_isPadded_36
def bl_X3_isPadded_31 : List ax_R := (31, .iconst 1, 0, 0, 0, 0) :: (32, .goto 4, 36, 0, 0, 0) :: bl_X3_isPadded_35
def bl_X3_isPadded_0 : List ax_R := (0, .aload_n 0, 0, 0, 0, 0) :: (1, .getfield 11, 5, 0, 1, 132) :: (4, .iconst 2, 0, 0, 0, 0) :: (5, .iaload, 0, 0, 0, 0) :: (6, .bipush 8, 0, 0, 0, 0) :: (8, .iand, 0, 0, 0, 0) :: (9, .ifCond .eq 26, 35, 0, 0, 0) :: (12, .aload_n 0, 0, 0, 0, 0) ::
  (13, .getfield 11, 5, 0, 1, 132) :: (16, .iconst 1, 0, 0, 0, 0) :: (17, .iaload, 0, 0, 0, 0) :: (18, .ifCond .eq 13, 31, 0, 0, 0) :: (21, .aload_n 0, 0, 0, 0, 0) :: (22, .getfield 11, 5, 0, 1, 132) :: (25, .iconst 1, 0, 0, 0, 0) :: (26, .iaload, 0, 0, 0, 0) ::
  (27, .iconst 1, 0, 0, 0, 0) :: (28, .if_icmp .ne 7, 35, 0, 0, 0) :: bl_X3_isPadded_31
def pr_X3_isPadded : List ax_R := bl_X3_isPadded_0
def pt_X3_isPadded : ax_T := ((⟨"PageServer$Frame", "isPadded", "()Z"⟩, prog_5_method_12_code, 1, (some .boolean)), 533, 84, 532, 5)
def bl_X3_hasRoomForPadding_24 : List ax_R := (24, .ireturn, 0, 0, 0, 0) :: []
def bl_X3_hasRoomForPadding_23 : List ax_R := (23, .iconst 0, 0, 0, 0, 0) :: bl_X3_hasRoomForPadding_24
def bl_X3_hasRoomForPadding_19 : List ax_R := (19, .iconst 1, 0, 0, 0, 0) :: (20, .goto 4, 24, 0, 0, 0) :: bl_X3_hasRoomForPadding_23
def bl_X3_hasRoomForPadding_0 : List ax_R := (0, .aload_n 0, 0, 0, 0, 0) :: (1, .invokevirtual 27, 53, 1, 5, 530) :: (4, .ifCond .eq 15, 19, 0, 0, 0) :: (7, .aload_n 0, 0, 0, 0, 0) :: (8, .invokevirtual 19, 47, 1, 5, 490) :: (11, .aload_n 0, 0, 0, 0, 0) :: (12, .iconst 0, 0, 0, 0, 0) :: (13, .invokevirtual 23, 51, 2, 5, 534) ::
  (16, .if_icmp .le 7, 23, 0, 0, 0) :: bl_X3_hasRoomForPadding_19
def pr_X3_hasRoomForPadding : List ax_R := bl_X3_hasRoomForPadding_0
def pt_X3_hasRoomForPadding : ax_T := ((⟨"PageServer$Frame", "hasRoomForPadding", "()Z"⟩, prog_5_method_13_code, 1, (some .boolean)), 529, 84, 527, 528)
def bl_X3_contentStart_12 : List ax_R := (12, .ireturn, 0, 0, 0, 0) :: []
def bl_X3_contentStart_11 : List ax_R := (11, .iconst 0, 0, 0, 0, 0) :: bl_X3_contentStart_12
def bl_X3_contentStart_0 : List ax_R := (0, .aload_n 0, 0, 0, 0, 0) :: (1, .invokevirtual 27, 53, 1, 5, 530) :: (4, .ifCond .eq 7, 11, 0, 0, 0) :: (7, .iconst 1, 0, 0, 0, 0) :: (8, .goto 4, 12, 0, 0, 0) :: bl_X3_contentStart_11
def pr_X3_contentStart : List ax_R := bl_X3_contentStart_0
def pt_X3_contentStart : ax_T := ((⟨"PageServer$Frame", "contentStart", "()I"⟩, prog_5_method_14_code, 1, (some .int)), 615, 84, 613, 614)
def bl_X3_contentLength_30 : List ax_R := (30, .ireturn, 0, 0, 0, 0) :: []
def bl_X3_contentLength_26 : List ax_R := (26, .aload_n 0, 0, 0, 0, 0) :: (27, .invokevirtual 19, 47, 1, 5, 490) :: bl_X3_contentLength_30
def bl_X3_contentLength_0 : List ax_R := (0, .aload_n 0, 0, 0, 0, 0) :: (1, .invokevirtual 27, 53, 1, 5, 530) :: (4, .ifCond .eq 22, 26, 0, 0, 0) :: (7, .iconst 0, 0, 0, 0, 0) :: (8, .aload_n 0, 0, 0, 0, 0) :: (9, .invokevirtual 19, 47, 1, 5, 490) :: (12, .iconst 1, 0, 0, 0, 0) :: (13, .isub, 0, 0, 0, 0) ::
  (14, .aload_n 0, 0, 0, 0, 0) :: (15, .iconst 0, 0, 0, 0, 0) :: (16, .invokevirtual 23, 51, 2, 5, 534) :: (19, .isub, 0, 0, 0, 0) :: (20, .invokestatic 31, 0, 0, 6, 560) :: (23, .goto 7, 30, 0, 0, 0) :: bl_X3_contentLength_26
def pr_X3_contentLength : List ax_R := bl_X3_contentLength_0
def pt_X3_contentLength : ax_T := ((⟨"PageServer$Frame", "contentLength", "()I"⟩, prog_5_method_15_code, 1, (some .int)), 559, 84, 557, 558)
def bl_X4_init_0 : List ax_R := (0, .aload_n 0, 0, 0, 0, 0) :: (1, .invokespecial 3, 0, 0, 5, 195) :: (4, .aload_n 0, 0, 0, 0, 0) :: (5, .bipush 7, 0, 0, 0, 0) :: (7, .anewarray 9, 114, 0, 0, 196) :: (10, .putfield 11, 6, 0, 1, 241) :: (13, .aload_n 0, 0, 0, 0, 0) :: (14, .bipush 8, 0, 0, 0, 0) ::
  (16, .anewarray 9, 114, 0, 0, 196) :: (19, .putfield 15, 6, 1, 1, 242) :: (22, .aload_n 0, 0, 0, 0, 0) :: (23, .getfield 11, 6, 0, 1, 241) :: (26, .iconst 0, 0, 0, 0, 0) :: (27, .new 9, 4, 3, 0, 196) :: (30, .dup, 0, 0, 0, 0) :: (31, .ldc 18, 0, 3, 1, 0) ::
  (33, .ldc 20, 0, 5, 1, 1) :: (35, .invokespecial 22, 38, 3, 0, 201) :: (38, .aastore, 0, 0, 0, 0) :: (39, .aload_n 0, 0, 0, 0, 0) :: (40, .getfield 11, 6, 0, 1, 241) :: (43, .iconst 1, 0, 0, 0, 0) :: (44, .new 9, 4, 3, 0, 196) :: (47, .dup, 0, 0, 0, 0) ::
  (48, .ldc 18, 0, 3, 1, 0) :: (50, .ldc 25, 0, 7, 1, 2) :: (52, .invokespecial 22, 38, 3, 0, 201) :: (55, .aastore, 0, 0, 0, 0) :: (56, .aload_n 0, 0, 0, 0, 0) :: (57, .getfield 11, 6, 0, 1, 241) :: (60, .iconst 2, 0, 0, 0, 0) :: (61, .new 9, 4, 3, 0, 196) ::
  (64, .dup, 0, 0, 0, 0) :: (65, .ldc 27, 0, 9, 1, 3) :: (67, .ldc 29, 0, 11, 1, 4) :: (69, .invokespecial 22, 38, 3, 0, 201) :: (72, .aastore, 0, 0, 0, 0) :: (73, .aload_n 0, 0, 0, 0, 0) :: (74, .getfield 11, 6, 0, 1, 241) :: (77, .iconst 3, 0, 0, 0, 0) ::
  (78, .new 9, 4, 3, 0, 196) :: (81, .dup, 0, 0, 0, 0) :: (82, .ldc 31, 0, 13, 1, 5) :: (84, .ldc 33, 0, 15, 1, 6) :: (86, .invokespecial 22, 38, 3, 0, 201) :: (89, .aastore, 0, 0, 0, 0) :: (90, .aload_n 0, 0, 0, 0, 0) :: (91, .getfield 11, 6, 0, 1, 241) ::
  (94, .iconst 4, 0, 0, 0, 0) :: (95, .new 9, 4, 3, 0, 196) :: (98, .dup, 0, 0, 0, 0) :: (99, .ldc 35, 0, 17, 1, 7) :: (101, .ldc 33, 0, 15, 1, 6) :: (103, .invokespecial 22, 38, 3, 0, 201) :: (106, .aastore, 0, 0, 0, 0) :: (107, .aload_n 0, 0, 0, 0, 0) ::
  (108, .getfield 11, 6, 0, 1, 241) :: (111, .iconst 5, 0, 0, 0, 0) :: (112, .new 9, 4, 3, 0, 196) :: (115, .dup, 0, 0, 0, 0) :: (116, .ldc 37, 0, 19, 1, 8) :: (118, .ldc 39, 0, 21, 1, 9) :: (120, .invokespecial 22, 38, 3, 0, 201) :: (123, .aastore, 0, 0, 0, 0) ::
  (124, .aload_n 0, 0, 0, 0, 0) :: (125, .getfield 11, 6, 0, 1, 241) :: (128, .bipush 6, 0, 0, 0, 0) :: (130, .new 9, 4, 3, 0, 196) :: (133, .dup, 0, 0, 0, 0) :: (134, .ldc 37, 0, 19, 1, 8) :: (136, .ldc 41, 0, 23, 1, 10) :: (138, .invokespecial 22, 38, 3, 0, 201) ::
  (141, .aastore, 0, 0, 0, 0) :: (142, .return_, 0, 0, 0, 0) :: []
def pr_X4_init : List ax_R := bl_X4_init_0
def pt_X4_init : ax_T := ((⟨"PageServer$HeaderTable", "<init>", "()V"⟩, prog_6_method_1_code, 1, none), 194, 88, 193, 0)
def bl_X4_clear_0 : List ax_R := (0, .aload_n 0, 0, 0, 0, 0) :: (1, .bipush 24, 0, 0, 0, 0) :: (3, .putfield 43, 6, 2, 0, 243) :: (6, .aload_n 0, 0, 0, 0, 0) :: (7, .iconst 0, 0, 0, 0, 0) :: (8, .putfield 47, 6, 3, 0, 245) :: (11, .aload_n 0, 0, 0, 0, 0) :: (12, .iconst 0, 0, 0, 0, 0) ::
  (13, .putfield 50, 6, 4, 0, 247) :: (16, .return_, 0, 0, 0, 0) :: []
def pr_X4_clear : List ax_R := bl_X4_clear_0
def pt_X4_clear : ax_T := ((⟨"PageServer$HeaderTable", "clear", "()V"⟩, prog_6_method_2_code, 1, none), 390, 88, 388, 389)
def bl_X4_find_49 : List ax_R := (49, .aconst_null, 0, 0, 0, 0) :: (50, .areturn, 0, 0, 0, 0) :: []
def bl_X4_find_20 : List ax_R := (20, .iload_n 1, 0, 0, 0, 0) :: (21, .bipush 7, 0, 0, 0, 0) :: (23, .if_icmp .le 26, 49, 0, 0, 0) :: (26, .iload_n 1, 0, 0, 0, 0) :: (27, .bipush 7, 0, 0, 0, 0) :: (29, .isub, 0, 0, 0, 0) :: (30, .aload_n 0, 0, 0, 0, 0) :: (31, .getfield 47, 6, 3, 0, 245) ::
  (34, .if_icmp .gt 15, 49, 0, 0, 0) :: (37, .aload_n 0, 0, 0, 0, 0) :: (38, .getfield 15, 6, 1, 1, 242) :: (41, .iload_n 1, 0, 0, 0, 0) :: (42, .bipush 7, 0, 0, 0, 0) :: (44, .isub, 0, 0, 0, 0) :: (45, .iconst 1, 0, 0, 0, 0) :: (46, .isub, 0, 0, 0, 0) ::
  (47, .aaload, 0, 0, 0, 0) :: (48, .areturn, 0, 0, 0, 0) :: bl_X4_find_49
def bl_X4_find_0 : List ax_R := (0, .iload_n 1, 0, 0, 0, 0) :: (1, .iconst 1, 0, 0, 0, 0) :: (2, .if_icmp .lt 18, 20, 0, 0, 0) :: (5, .iload_n 1, 0, 0, 0, 0) :: (6, .bipush 7, 0, 0, 0, 0) :: (8, .if_icmp .gt 12, 20, 0, 0, 0) :: (11, .aload_n 0, 0, 0, 0, 0) :: (12, .getfield 11, 6, 0, 1, 241) ::
  (15, .iload_n 1, 0, 0, 0, 0) :: (16, .iconst 1, 0, 0, 0, 0) :: (17, .isub, 0, 0, 0, 0) :: (18, .aaload, 0, 0, 0, 0) :: (19, .areturn, 0, 0, 0, 0) :: bl_X4_find_20
def pr_X4_find : List ax_R := bl_X4_find_0
def pt_X4_find : ax_T := ((⟨"PageServer$HeaderTable", "find", "(I)LPageServer$Field;"⟩, prog_6_method_3_code, 2, (some (.object "PageServer$Field"))), 673, 88, 671, 672)
def bl_X4_findName_18 : List ax_R := (18, .areturn, 0, 0, 0, 0) :: []
def bl_X4_findName_14 : List ax_R := (14, .aload_n 2, 0, 0, 0, 0) :: (15, .getfield 57, 4, 0, 1, 217) :: bl_X4_findName_18
def bl_X4_findName_0 : List ax_R := (0, .aload_n 0, 0, 0, 0, 0) :: (1, .iload_n 1, 0, 0, 0, 0) :: (2, .invokevirtual 53, 59, 2, 6, 761) :: (5, .astore_n 2, 0, 0, 0, 0) :: (6, .aload_n 2, 0, 0, 0, 0) :: (7, .ifnonnull 7, 14, 0, 0, 0) :: (10, .aconst_null, 0, 0, 0, 0) :: (11, .goto 7, 18, 0, 0, 0) :: bl_X4_findName_14
def pr_X4_findName : List ax_R := bl_X4_findName_0
def pt_X4_findName : ax_T := ((⟨"PageServer$HeaderTable", "findName", "(I)Ljava/lang/String;"⟩, prog_6_method_4_code, 3, (some (.object "java/lang/String"))), 760, 88, 758, 759)
def bl_X4_changeSize_0 : List ax_R := (0, .aload_n 0, 0, 0, 0, 0) :: (1, .iload_n 1, 0, 0, 0, 0) :: (2, .putfield 43, 6, 2, 0, 243) :: (5, .aload_n 0, 0, 0, 0, 0) :: (6, .aload_n 0, 0, 0, 0, 0) :: (7, .getfield 43, 6, 2, 0, 243) :: (10, .invokevirtual 61, 63, 2, 6, 767) :: (13, .return_, 0, 0, 0, 0) :: []
def pr_X4_changeSize : List ax_R := bl_X4_changeSize_0
def pt_X4_changeSize : ax_T := ((⟨"PageServer$HeaderTable", "changeSize", "(I)V"⟩, prog_6_method_5_code, 2, none), 778, 88, 776, 777)
def bl_X4_insert_63 : List ax_R := (63, .aload_n 0, 0, 0, 0, 0) :: (64, .getfield 15, 6, 1, 1, 242) :: (67, .iconst 0, 0, 0, 0, 0) :: (68, .aload_n 1, 0, 0, 0, 0) :: (69, .aastore, 0, 0, 0, 0) :: (70, .aload_n 0, 0, 0, 0, 0) :: (71, .dup, 0, 0, 0, 0) :: (72, .getfield 47, 6, 3, 0, 245) ::
  (75, .iconst 1, 0, 0, 0, 0) :: (76, .iadd, 0, 0, 0, 0) :: (77, .putfield 47, 6, 3, 0, 245) :: (80, .aload_n 0, 0, 0, 0, 0) :: (81, .dup, 0, 0, 0, 0) :: (82, .getfield 50, 6, 4, 0, 247) :: (85, .aload_n 1, 0, 0, 0, 0) :: (86, .getfield 65, 4, 2, 0, 223) ::
  (89, .iadd, 0, 0, 0, 0) :: (90, .putfield 50, 6, 4, 0, 247) :: (93, .return_, 0, 0, 0, 0) :: []
def bl_X4_insert_39 : List ax_R := (39, .iload_n 2, 0, 0, 0, 0) :: (40, .ifCond .le 23, 63, 0, 0, 0) :: (43, .aload_n 0, 0, 0, 0, 0) :: (44, .getfield 15, 6, 1, 1, 242) :: (47, .iload_n 2, 0, 0, 0, 0) :: (48, .aload_n 0, 0, 0, 0, 0) :: (49, .getfield 15, 6, 1, 1, 242) :: (52, .iload_n 2, 0, 0, 0, 0) ::
  (53, .iconst 1, 0, 0, 0, 0) :: (54, .isub, 0, 0, 0, 0) :: (55, .aaload, 0, 0, 0, 0) :: (56, .aastore, 0, 0, 0, 0) :: (57, .iinc 2 (-1), 0, 0, 0, 0) :: (60, .goto (-21), 39, 0, 0, 0) :: bl_X4_insert_63
def bl_X4_insert_34 : List ax_R := (34, .aload_n 0, 0, 0, 0, 0) :: (35, .getfield 47, 6, 3, 0, 245) :: (38, .istore_n 2, 0, 0, 0, 0) :: bl_X4_insert_39
def bl_X4_insert_33 : List ax_R := (33, .return_, 0, 0, 0, 0) :: bl_X4_insert_34
def bl_X4_insert_0 : List ax_R := (0, .aload_n 0, 0, 0, 0, 0) :: (1, .aload_n 0, 0, 0, 0, 0) :: (2, .getfield 43, 6, 2, 0, 243) :: (5, .aload_n 1, 0, 0, 0, 0) :: (6, .getfield 65, 4, 2, 0, 223) :: (9, .isub, 0, 0, 0, 0) :: (10, .invokevirtual 61, 63, 2, 6, 767) :: (13, .aload_n 1, 0, 0, 0, 0) ::
  (14, .getfield 65, 4, 2, 0, 223) :: (17, .aload_n 0, 0, 0, 0, 0) :: (18, .getfield 43, 6, 2, 0, 243) :: (21, .if_icmp .gt 12, 33, 0, 0, 0) :: (24, .aload_n 0, 0, 0, 0, 0) :: (25, .getfield 47, 6, 3, 0, 245) :: (28, .bipush 8, 0, 0, 0, 0) :: (30, .if_icmp .lt 4, 34, 0, 0, 0) :: bl_X4_insert_33
def pr_X4_insert : List ax_R := bl_X4_insert_0
def pt_X4_insert : ax_T := ((⟨"PageServer$HeaderTable", "insert", "(LPageServer$Field;)V"⟩, prog_6_method_6_code, 3, none), 766, 88, 764, 765)
def bl_X4_dropOldest_49 : List ax_R := (49, .return_, 0, 0, 0, 0) :: []
def bl_X4_dropOldest_0 : List ax_R := (0, .aload_n 0, 0, 0, 0, 0) :: (1, .getfield 47, 6, 3, 0, 245) :: (4, .ifCond .le 45, 49, 0, 0, 0) :: (7, .aload_n 0, 0, 0, 0, 0) :: (8, .getfield 50, 6, 4, 0, 247) :: (11, .iload_n 1, 0, 0, 0, 0) :: (12, .if_icmp .le 37, 49, 0, 0, 0) :: (15, .aload_n 0, 0, 0, 0, 0) ::
  (16, .dup, 0, 0, 0, 0) :: (17, .getfield 47, 6, 3, 0, 245) :: (20, .iconst 1, 0, 0, 0, 0) :: (21, .isub, 0, 0, 0, 0) :: (22, .putfield 47, 6, 3, 0, 245) :: (25, .aload_n 0, 0, 0, 0, 0) :: (26, .dup, 0, 0, 0, 0) :: (27, .getfield 50, 6, 4, 0, 247) ::
  (30, .aload_n 0, 0, 0, 0, 0) :: (31, .getfield 15, 6, 1, 1, 242) :: (34, .aload_n 0, 0, 0, 0, 0) :: (35, .getfield 47, 6, 3, 0, 245) :: (38, .aaload, 0, 0, 0, 0) :: (39, .getfield 65, 4, 2, 0, 223) :: (42, .isub, 0, 0, 0, 0) :: (43, .putfield 50, 6, 4, 0, 247) ::
  (46, .goto (-46), 0, 0, 0, 0) :: bl_X4_dropOldest_49
def pr_X4_dropOldest : List ax_R := bl_X4_dropOldest_0
def pt_X4_dropOldest : ax_T := ((⟨"PageServer$HeaderTable", "dropOldest", "(I)V"⟩, prog_6_method_7_code, 2, none), 770, 88, 769, 25)
def bl_X5_init_0 : List ax_R := (0, .aload_n 0, 0, 0, 0, 0) :: (1, .invokespecial 3, 0, 0, 5, 182) :: (4, .aload_n 0, 0, 0, 0, 0) :: (5, .sipush 1024, 0, 0, 0, 0) :: (8, .newarray .int, 100, 0, 0, 139) :: (10, .putfield 11, 7, 0, 1, 183) :: (13, .return_, 0, 0, 0, 0) :: []
def pr_X5_init : List ax_R := bl_X5_init_0
def pt_X5_init : ax_T := ((⟨"PageServer$Output", "<init>", "()V"⟩, prog_7_method_1_code, 1, none), 181, 87, 180, 0)
def bl_X5_clear_0 : List ax_R := (0, .aload_n 0, 0, 0, 0, 0) :: (1, .iconst 0, 0, 0, 0, 0) :: (2, .putfield 15, 7, 1, 0, 184) :: (5, .return_, 0, 0, 0, 0) :: []
def pr_X5_clear : List ax_R := bl_X5_clear_0
def pt_X5_clear : ax_T := ((⟨"PageServer$Output", "clear", "()V"⟩, prog_7_method_2_code, 1, none), 386, 87, 384, 385)
def bl_X5_count_0 : List ax_R := (0, .aload_n 0, 0, 0, 0, 0) :: (1, .getfield 15, 7, 1, 0, 184) :: (4, .ireturn, 0, 0, 0, 0) :: []
def pr_X5_count : List ax_R := bl_X5_count_0
def pt_X5_count : ax_T := ((⟨"PageServer$Output", "count", "()I"⟩, prog_7_method_3_code, 1, (some .int)), 467, 87, 465, 466)
def bl_X5_byteAt_22 : List ax_R := (22, .ireturn, 0, 0, 0, 0) :: []
def bl_X5_byteAt_21 : List ax_R := (21, .iconst (-1), 0, 0, 0, 0) :: bl_X5_byteAt_22
def bl_X5_byteAt_0 : List ax_R := (0, .iload_n 1, 0, 0, 0, 0) :: (1, .ifCond .lt 20, 21, 0, 0, 0) :: (4, .iload_n 1, 0, 0, 0, 0) :: (5, .aload_n 0, 0, 0, 0, 0) :: (6, .getfield 15, 7, 1, 0, 184) :: (9, .if_icmp .ge 12, 21, 0, 0, 0) :: (12, .aload_n 0, 0, 0, 0, 0) :: (13, .getfield 11, 7, 0, 1, 183) ::
  (16, .iload_n 1, 0, 0, 0, 0) :: (17, .iaload, 0, 0, 0, 0) :: (18, .goto 4, 22, 0, 0, 0) :: bl_X5_byteAt_21
def pr_X5_byteAt : List ax_R := bl_X5_byteAt_0
def pt_X5_byteAt : ax_T := ((⟨"PageServer$Output", "byteAt", "(I)I"⟩, prog_7_method_4_code, 2, (some .int)), 1269, 87, 1267, 1268)
def bl_X5_add_34 : List ax_R := (34, .return_, 0, 0, 0, 0) :: []
def bl_X5_add_0 : List ax_R := (0, .aload_n 0, 0, 0, 0, 0) :: (1, .getfield 15, 7, 1, 0, 184) :: (4, .sipush 1024, 0, 0, 0, 0) :: (7, .if_icmp .ge 27, 34, 0, 0, 0) :: (10, .aload_n 0, 0, 0, 0, 0) :: (11, .getfield 11, 7, 0, 1, 183) :: (14, .aload_n 0, 0, 0, 0, 0) :: (15, .getfield 15, 7, 1, 0, 184) ::
  (18, .iload_n 1, 0, 0, 0, 0) :: (19, .sipush 255, 0, 0, 0, 0) :: (22, .iand, 0, 0, 0, 0) :: (23, .iastore, 0, 0, 0, 0) :: (24, .aload_n 0, 0, 0, 0, 0) :: (25, .dup, 0, 0, 0, 0) :: (26, .getfield 15, 7, 1, 0, 184) :: (29, .iconst 1, 0, 0, 0, 0) ::
  (30, .iadd, 0, 0, 0, 0) :: (31, .putfield 15, 7, 1, 0, 184) :: bl_X5_add_34
def pr_X5_add : List ax_R := bl_X5_add_0
def pt_X5_add : ax_T := ((⟨"PageServer$Output", "add", "(I)V"⟩, prog_7_method_5_code, 2, none), 406, 87, 404, 405)
def bl_X5_addHead_0 : List ax_R := (0, .aload_n 0, 0, 0, 0, 0) :: (1, .iload_n 1, 0, 0, 0, 0) :: (2, .invokevirtual 19, 68, 2, 7, 403) :: (5, .aload_n 0, 0, 0, 0, 0) :: (6, .iload_n 2, 0, 0, 0, 0) :: (7, .invokevirtual 19, 68, 2, 7, 403) :: (10, .aload_n 0, 0, 0, 0, 0) :: (11, .iload_n 3, 0, 0, 0, 0) ::
  (12, .invokevirtual 19, 68, 2, 7, 403) :: (15, .aload_n 0, 0, 0, 0, 0) :: (16, .iload 4, 0, 0, 0, 0) :: (18, .invokevirtual 19, 68, 2, 7, 403) :: (21, .return_, 0, 0, 0, 0) :: []
def pr_X5_addHead : List ax_R := bl_X5_addHead_0
def pt_X5_addHead : ax_T := ((⟨"PageServer$Output", "addHead", "(IIII)V"⟩, prog_7_method_6_code, 5, none), 402, 87, 400, 401)
def bl_X5_drop_0 : List ax_R := (0, .iconst 0, 0, 0, 0, 0) :: (1, .iload_n 1, 0, 0, 0, 0) :: (2, .aload_n 0, 0, 0, 0, 0) :: (3, .getfield 15, 7, 1, 0, 184) :: (6, .invokestatic 23, 0, 0, 7, 905) :: (9, .invokestatic 29, 0, 0, 6, 906) :: (12, .istore_n 2, 0, 0, 0, 0) :: (13, .aload_n 0, 0, 0, 0, 0) ::
  (14, .getfield 11, 7, 0, 1, 183) :: (17, .iload_n 2, 0, 0, 0, 0) :: (18, .aload_n 0, 0, 0, 0, 0) :: (19, .getfield 11, 7, 0, 1, 183) :: (22, .iconst 0, 0, 0, 0, 0) :: (23, .aload_n 0, 0, 0, 0, 0) :: (24, .getfield 15, 7, 1, 0, 184) :: (27, .iload_n 2, 0, 0, 0, 0) ::
  (28, .isub, 0, 0, 0, 0) :: (29, .invokestatic 32, 0, 0, 8, 907) :: (32, .aload_n 0, 0, 0, 0, 0) :: (33, .dup, 0, 0, 0, 0) :: (34, .getfield 15, 7, 1, 0, 184) :: (37, .iload_n 2, 0, 0, 0, 0) :: (38, .isub, 0, 0, 0, 0) :: (39, .putfield 15, 7, 1, 0, 184) ::
  (42, .return_, 0, 0, 0, 0) :: []
def pr_X5_drop : List ax_R := bl_X5_drop_0
def pt_X5_drop : ax_T := ((⟨"PageServer$Output", "drop", "(I)V"⟩, prog_7_method_7_code, 3, none), 904, 87, 902, 903)
def bl_X6_init_0 : List ax_R := (0, .aload_n 0, 0, 0, 0, 0) :: (1, .invokespecial 1, 0, 0, 5, 1228) :: (4, .aload_n 0, 0, 0, 0, 0) :: (5, .aload_n 1, 0, 0, 0, 0) :: (6, .putfield 7, 8, 0, 1, 1229) :: (9, .aload_n 0, 0, 0, 0, 0) :: (10, .iload_n 2, 0, 0, 0, 0) :: (11, .putfield 13, 8, 1, 0, 1231) ::
  (14, .aload_n 0, 0, 0, 0, 0) :: (15, .iload_n 3, 0, 0, 0, 0) :: (16, .putfield 17, 8, 2, 0, 1233) :: (19, .return_, 0, 0, 0, 0) :: []
def pr_X6_init : List ax_R := bl_X6_init_0
def pt_X6_init : ax_T := ((⟨"PageServer$Page", "<init>", "(Ljava/lang/String;II)V"⟩, prog_8_method_1_code, 4, none), 1227, 110, 1226, 0)
def bl_X7_init_0 : List ax_R := (0, .aload_n 0, 0, 0, 0, 0) :: (1, .invokespecial 3, 0, 0, 5, 145) :: (4, .return_, 0, 0, 0, 0) :: []
def pr_X7_init : List ax_R := bl_X7_init_0
def pt_X7_init : ax_T := ((⟨"PageServer$Request", "<init>", "()V"⟩, prog_9_method_1_code, 1, none), 144, 85, 143, 0)
def bl_X7_readFrom_96 : List ax_R := (96, .ireturn, 0, 0, 0, 0) :: []
def bl_X7_readFrom_95 : List ax_R := (95, .iconst 0, 0, 0, 0, 0) :: bl_X7_readFrom_96
def bl_X7_readFrom_77 : List ax_R := (77, .aload_n 0, 0, 0, 0, 0) :: (78, .getfield 9, 9, 0, 1, 146) :: (81, .ifnull 14, 95, 0, 0, 0) :: (84, .aload_n 0, 0, 0, 0, 0) :: (85, .getfield 15, 9, 1, 1, 148) :: (88, .ifnull 7, 95, 0, 0, 0) :: (91, .iconst 1, 0, 0, 0, 0) :: (92, .goto 4, 96, 0, 0, 0) :: bl_X7_readFrom_95
def bl_X7_readFrom_71 : List ax_R := (71, .iinc 2 1, 0, 0, 0, 0) :: (74, .goto (-52), 22, 0, 0, 0) :: bl_X7_readFrom_77
def bl_X7_readFrom_62 : List ax_R := (62, .istore 4, 0, 0, 0, 0) :: (64, .iload 4, 0, 0, 0, 0) :: (66, .ifCond .ne 5, 71, 0, 0, 0) :: (69, .iconst 0, 0, 0, 0, 0) :: (70, .ireturn, 0, 0, 0, 0) :: bl_X7_readFrom_71
def bl_X7_readFrom_57 : List ax_R := (57, .aload_n 0, 0, 0, 0, 0) :: (58, .aload_n 3, 0, 0, 0, 0) :: (59, .invokevirtual 45, 75, 2, 9, 838) :: bl_X7_readFrom_62
def bl_X7_readFrom_42 : List ax_R := (42, .aload_n 3, 0, 0, 0, 0) :: (43, .invokevirtual 35, 39, 1, 4, 799) :: (46, .ifCond .eq 11, 57, 0, 0, 0) :: (49, .aload_n 0, 0, 0, 0, 0) :: (50, .aload_n 3, 0, 0, 0, 0) :: (51, .invokevirtual 41, 74, 2, 9, 831) :: (54, .goto 8, 62, 0, 0, 0) :: bl_X7_readFrom_57
def bl_X7_readFrom_22 : List ax_R := (22, .iload_n 2, 0, 0, 0, 0) :: (23, .aload_n 1, 0, 0, 0, 0) :: (24, .getfield 26, 2, 5, 0, 273) :: (27, .if_icmp .ge 50, 77, 0, 0, 0) :: (30, .aload_n 1, 0, 0, 0, 0) :: (31, .iload_n 2, 0, 0, 0, 0) :: (32, .invokevirtual 31, 4, 2, 2, 795) :: (35, .astore_n 3, 0, 0, 0, 0) ::
  (36, .aload_n 3, 0, 0, 0, 0) :: (37, .ifnonnull 5, 42, 0, 0, 0) :: (40, .iconst 0, 0, 0, 0, 0) :: (41, .ireturn, 0, 0, 0, 0) :: bl_X7_readFrom_42
def bl_X7_readFrom_0 : List ax_R := (0, .aload_n 0, 0, 0, 0, 0) :: (1, .aconst_null, 0, 0, 0, 0) :: (2, .putfield 9, 9, 0, 1, 146) :: (5, .aload_n 0, 0, 0, 0, 0) :: (6, .aconst_null, 0, 0, 0, 0) :: (7, .putfield 15, 9, 1, 1, 148) :: (10, .aload_n 0, 0, 0, 0, 0) :: (11, .iconst (-1), 0, 0, 0, 0) ::
  (12, .putfield 18, 9, 2, 0, 150) :: (15, .aload_n 0, 0, 0, 0, 0) :: (16, .iconst 0, 0, 0, 0, 0) :: (17, .putfield 22, 9, 3, 0, 152) :: (20, .iconst 0, 0, 0, 0, 0) :: (21, .istore_n 2, 0, 0, 0, 0) :: bl_X7_readFrom_22
def pr_X7_readFrom : List ax_R := bl_X7_readFrom_0
def pt_X7_readFrom : ax_T := ((⟨"PageServer$Request", "readFrom", "(LPageServer$Block;)Z"⟩, prog_9_method_2_code, 5, (some .boolean)), 794, 85, 792, 793)
def bl_X7_acceptsColon_67 : List ax_R := (67, .iconst 0, 0, 0, 0, 0) :: (68, .ireturn, 0, 0, 0, 0) :: []
def bl_X7_acceptsColon_38 : List ax_R := (38, .aload_n 1, 0, 0, 0, 0) :: (39, .getfield 48, 4, 0, 1, 216) :: (42, .ldc 62, 0, 9, 1, 16) :: (44, .invokevirtual 53, 179, 2, 0, 836) :: (47, .ifCond .eq 20, 67, 0, 0, 0) :: (50, .aload_n 0, 0, 0, 0, 0) :: (51, .getfield 15, 9, 1, 1, 148) :: (54, .ifnonnull 13, 67, 0, 0, 0) ::
  (57, .aload_n 0, 0, 0, 0, 0) :: (58, .aload_n 1, 0, 0, 0, 0) :: (59, .getfield 59, 4, 1, 1, 220) :: (62, .putfield 15, 9, 1, 1, 148) :: (65, .iconst 1, 0, 0, 0, 0) :: (66, .ireturn, 0, 0, 0, 0) :: bl_X7_acceptsColon_67
def bl_X7_acceptsColon_9 : List ax_R := (9, .aload_n 1, 0, 0, 0, 0) :: (10, .getfield 48, 4, 0, 1, 216) :: (13, .ldc 51, 0, 3, 1, 15) :: (15, .invokevirtual 53, 179, 2, 0, 836) :: (18, .ifCond .eq 20, 38, 0, 0, 0) :: (21, .aload_n 0, 0, 0, 0, 0) :: (22, .getfield 9, 9, 0, 1, 146) :: (25, .ifnonnull 13, 38, 0, 0, 0) ::
  (28, .aload_n 0, 0, 0, 0, 0) :: (29, .aload_n 1, 0, 0, 0, 0) :: (30, .getfield 59, 4, 1, 1, 220) :: (33, .putfield 9, 9, 0, 1, 146) :: (36, .iconst 1, 0, 0, 0, 0) :: (37, .ireturn, 0, 0, 0, 0) :: bl_X7_acceptsColon_38
def bl_X7_acceptsColon_0 : List ax_R := (0, .aload_n 0, 0, 0, 0, 0) :: (1, .getfield 22, 9, 3, 0, 152) :: (4, .ifCond .eq 5, 9, 0, 0, 0) :: (7, .iconst 0, 0, 0, 0, 0) :: (8, .ireturn, 0, 0, 0, 0) :: bl_X7_acceptsColon_9
def pr_X7_acceptsColon : List ax_R := bl_X7_acceptsColon_0
def pt_X7_acceptsColon : ax_T := ((⟨"PageServer$Request", "acceptsColon", "(LPageServer$Field;)Z"⟩, prog_9_method_3_code, 2, (some .boolean)), 834, 85, 833, 28)
def bl_X7_acceptsOther_59 : List ax_R := (59, .ireturn, 0, 0, 0, 0) :: []
def bl_X7_acceptsOther_58 : List ax_R := (58, .iconst 0, 0, 0, 0, 0) :: bl_X7_acceptsOther_59
def bl_X7_acceptsOther_38 : List ax_R := (38, .aload_n 0, 0, 0, 0, 0) :: (39, .aload_n 1, 0, 0, 0, 0) :: (40, .invokevirtual 68, 41, 1, 4, 847) :: (43, .putfield 18, 9, 2, 0, 150) :: (46, .aload_n 0, 0, 0, 0, 0) :: (47, .getfield 18, 9, 2, 0, 150) :: (50, .iconst (-1), 0, 0, 0, 0) :: (51, .if_icmp .eq 7, 58, 0, 0, 0) ::
  (54, .iconst 1, 0, 0, 0, 0) :: (55, .goto 4, 59, 0, 0, 0) :: bl_X7_acceptsOther_58
def bl_X7_acceptsOther_28 : List ax_R := (28, .aload_n 0, 0, 0, 0, 0) :: (29, .getfield 18, 9, 2, 0, 150) :: (32, .iconst (-1), 0, 0, 0, 0) :: (33, .if_icmp .eq 5, 38, 0, 0, 0) :: (36, .iconst 0, 0, 0, 0, 0) :: (37, .ireturn, 0, 0, 0, 0) :: bl_X7_acceptsOther_38
def bl_X7_acceptsOther_14 : List ax_R := (14, .aload_n 1, 0, 0, 0, 0) :: (15, .getfield 48, 4, 0, 1, 216) :: (18, .ldc 67, 0, 17, 1, 17) :: (20, .invokevirtual 53, 179, 2, 0, 836) :: (23, .ifCond .ne 5, 28, 0, 0, 0) :: (26, .iconst 1, 0, 0, 0, 0) :: (27, .ireturn, 0, 0, 0, 0) :: bl_X7_acceptsOther_28
def bl_X7_acceptsOther_0 : List ax_R := (0, .aload_n 0, 0, 0, 0, 0) :: (1, .iconst 1, 0, 0, 0, 0) :: (2, .putfield 22, 9, 3, 0, 152) :: (5, .aload_n 1, 0, 0, 0, 0) :: (6, .invokevirtual 64, 40, 1, 4, 842) :: (9, .ifCond .ne 5, 14, 0, 0, 0) :: (12, .iconst 0, 0, 0, 0, 0) :: (13, .ireturn, 0, 0, 0, 0) :: bl_X7_acceptsOther_14
def pr_X7_acceptsOther : List ax_R := bl_X7_acceptsOther_0
def pt_X7_acceptsOther : ax_T := ((⟨"PageServer$Request", "acceptsOther", "(LPageServer$Field;)Z"⟩, prog_9_method_4_code, 2, (some .boolean)), 841, 85, 840, 29)
def bl_X8_init_0 : List ax_R := (0, .aload_n 0, 0, 0, 0, 0) :: (1, .invokespecial 3, 0, 0, 5, 167) :: (4, .aload_n 0, 0, 0, 0, 0) :: (5, .bipush 8, 0, 0, 0, 0) :: (7, .anewarray 11, 118, 0, 0, 168) :: (10, .putfield 13, 10, 0, 1, 170) :: (13, .return_, 0, 0, 0, 0) :: []
def pr_X8_init : List ax_R := bl_X8_init_0
def pt_X8_init : ax_T := ((⟨"PageServer$Site", "<init>", "()V"⟩, prog_10_method_1_code, 1, none), 166, 86, 165, 0)
def bl_X8_isPath_39 : List ax_R := (39, .ireturn, 0, 0, 0, 0) :: []
def bl_X8_isPath_38 : List ax_R := (38, .iconst 0, 0, 0, 0, 0) :: bl_X8_isPath_39
def bl_X8_isPath_34 : List ax_R := (34, .iconst 1, 0, 0, 0, 0) :: (35, .goto 4, 39, 0, 0, 0) :: bl_X8_isPath_38
def bl_X8_isPath_25 : List ax_R := (25, .iload_n 3, 0, 0, 0, 0) :: (26, .ifCond .eq 8, 34, 0, 0, 0) :: (29, .iload_n 2, 0, 0, 0, 0) :: (30, .iconst 4, 0, 0, 0, 0) :: (31, .if_icmp .ne 7, 38, 0, 0, 0) :: bl_X8_isPath_34
def bl_X8_isPath_23 : List ax_R := (23, .iconst 0, 0, 0, 0, 0) :: (24, .ireturn, 0, 0, 0, 0) :: bl_X8_isPath_25
def bl_X8_isPath_0 : List ax_R := (0, .iload_n 0, 0, 0, 0, 0) :: (1, .invokestatic 17, 78, 1, 0, 931) :: (4, .istore_n 2, 0, 0, 0, 0) :: (5, .iload_n 1, 0, 0, 0, 0) :: (6, .invokestatic 17, 78, 1, 0, 931) :: (9, .istore_n 3, 0, 0, 0, 0) :: (10, .iload_n 2, 0, 0, 0, 0) :: (11, .ifCond .lt 12, 23, 0, 0, 0) ::
  (14, .iload_n 3, 0, 0, 0, 0) :: (15, .ifCond .lt 8, 23, 0, 0, 0) :: (18, .iload_n 3, 0, 0, 0, 0) :: (19, .iconst 3, 0, 0, 0, 0) :: (20, .if_icmp .le 5, 25, 0, 0, 0) :: bl_X8_isPath_23
def pr_X8_isPath : List ax_R := bl_X8_isPath_0
def pt_X8_isPath : ax_T := ((⟨"PageServer$Site", "isPath", "(II)Z"⟩, prog_10_method_2_code, 4, (some .boolean)), 930, 86, 929, 0)
def bl_X8_countLetters_51 : List ax_R := (51, .iload_n 1, 0, 0, 0, 0) :: (52, .ireturn, 0, 0, 0, 0) :: []
def bl_X8_countLetters_45 : List ax_R := (45, .iinc 2 (-8), 0, 0, 0, 0) :: (48, .goto (-43), 5, 0, 0, 0) :: bl_X8_countLetters_51
def bl_X8_countLetters_43 : List ax_R := (43, .iconst (-1), 0, 0, 0, 0) :: (44, .ireturn, 0, 0, 0, 0) :: bl_X8_countLetters_45
def bl_X8_countLetters_35 : List ax_R := (35, .iload_n 3, 0, 0, 0, 0) :: (36, .ifCond .ne 7, 43, 0, 0, 0) :: (39, .iload_n 1, 0, 0, 0, 0) :: (40, .ifCond .le 5, 45, 0, 0, 0) :: bl_X8_countLetters_43
def bl_X8_countLetters_5 : List ax_R := (5, .iload_n 2, 0, 0, 0, 0) :: (6, .ifCond .lt 45, 51, 0, 0, 0) :: (9, .iload_n 0, 0, 0, 0, 0) :: (10, .iload_n 2, 0, 0, 0, 0) :: (11, .iushr, 0, 0, 0, 0) :: (12, .sipush 255, 0, 0, 0, 0) :: (15, .iand, 0, 0, 0, 0) :: (16, .istore_n 3, 0, 0, 0, 0) ::
  (17, .iload_n 3, 0, 0, 0, 0) :: (18, .bipush 97, 0, 0, 0, 0) :: (20, .if_icmp .lt 15, 35, 0, 0, 0) :: (23, .iload_n 3, 0, 0, 0, 0) :: (24, .bipush 122, 0, 0, 0, 0) :: (26, .if_icmp .gt 9, 35, 0, 0, 0) :: (29, .iinc 1 1, 0, 0, 0, 0) :: (32, .goto 13, 45, 0, 0, 0) :: bl_X8_countLetters_35
def bl_X8_countLetters_0 : List ax_R := (0, .iconst 0, 0, 0, 0, 0) :: (1, .istore_n 1, 0, 0, 0, 0) :: (2, .bipush 24, 0, 0, 0, 0) :: (4, .istore_n 2, 0, 0, 0, 0) :: bl_X8_countLetters_5
def pr_X8_countLetters : List ax_R := bl_X8_countLetters_0
def pt_X8_countLetters : ax_T := ((⟨"PageServer$Site", "countLetters", "(I)I"⟩, prog_10_method_3_code, 4, (some .int)), 933, 86, 932, 0)
def bl_X8_pathText_0 : List ax_R := (0, .new 21, 1, 4, 0, 1005) :: (3, .dup, 0, 0, 0, 0) :: (4, .invokespecial 23, 188, 1, 0, 1007) :: (7, .astore_n 2, 0, 0, 0, 0) :: (8, .aload_n 2, 0, 0, 0, 0) :: (9, .bipush 47, 0, 0, 0, 0) :: (11, .invokevirtual 24, 190, 2, 1, 1029) :: (14, .pop, 0, 0, 0, 0) ::
  (15, .aload_n 2, 0, 0, 0, 0) :: (16, .iload_n 0, 0, 0, 0, 0) :: (17, .invokestatic 28, 80, 2, 0, 1086) :: (20, .aload_n 2, 0, 0, 0, 0) :: (21, .iload_n 1, 0, 0, 0, 0) :: (22, .invokestatic 28, 80, 2, 0, 1086) :: (25, .aload_n 2, 0, 0, 0, 0) :: (26, .invokevirtual 32, 195, 1, 1, 1089) ::
  (29, .areturn, 0, 0, 0, 0) :: []
def pr_X8_pathText : List ax_R := bl_X8_pathText_0
def pt_X8_pathText : ax_T := ((⟨"PageServer$Site", "pathText", "(II)Ljava/lang/String;"⟩, prog_10_method_4_code, 3, (some (.object "java/lang/String"))), 1004, 86, 1003, 0)
def bl_X8_appendLetters_32 : List ax_R := (32, .return_, 0, 0, 0, 0) :: []
def bl_X8_appendLetters_26 : List ax_R := (26, .iinc 2 (-8), 0, 0, 0, 0) :: (29, .goto (-26), 3, 0, 0, 0) :: bl_X8_appendLetters_32
def bl_X8_appendLetters_3 : List ax_R := (3, .iload_n 2, 0, 0, 0, 0) :: (4, .ifCond .lt 28, 32, 0, 0, 0) :: (7, .iload_n 1, 0, 0, 0, 0) :: (8, .iload_n 2, 0, 0, 0, 0) :: (9, .iushr, 0, 0, 0, 0) :: (10, .sipush 255, 0, 0, 0, 0) :: (13, .iand, 0, 0, 0, 0) :: (14, .istore_n 3, 0, 0, 0, 0) ::
  (15, .iload_n 3, 0, 0, 0, 0) :: (16, .ifCond .eq 10, 26, 0, 0, 0) :: (19, .aload_n 0, 0, 0, 0, 0) :: (20, .iload_n 3, 0, 0, 0, 0) :: (21, .i2c, 0, 0, 0, 0) :: (22, .invokevirtual 24, 190, 2, 1, 1029) :: (25, .pop, 0, 0, 0, 0) :: bl_X8_appendLetters_26
def bl_X8_appendLetters_0 : List ax_R := (0, .bipush 24, 0, 0, 0, 0) :: (2, .istore_n 2, 0, 0, 0, 0) :: bl_X8_appendLetters_3
def pr_X8_appendLetters : List ax_R := bl_X8_appendLetters_0
def pt_X8_appendLetters : ax_T := ((⟨"PageServer$Site", "appendLetters", "(Ljava/lang/StringBuilder;I)V"⟩, prog_10_method_5_code, 4, none), 1088, 86, 1087, 0)
def bl_X8_find_39 : List ax_R := (39, .aconst_null, 0, 0, 0, 0) :: (40, .areturn, 0, 0, 0, 0) :: []
def bl_X8_find_33 : List ax_R := (33, .iinc 2 1, 0, 0, 0, 0) :: (36, .goto (-34), 2, 0, 0, 0) :: bl_X8_find_39
def bl_X8_find_2 : List ax_R := (2, .iload_n 2, 0, 0, 0, 0) :: (3, .aload_n 0, 0, 0, 0, 0) :: (4, .getfield 36, 10, 1, 0, 171) :: (7, .if_icmp .ge 32, 39, 0, 0, 0) :: (10, .aload_n 0, 0, 0, 0, 0) :: (11, .getfield 13, 10, 0, 1, 170) :: (14, .iload_n 2, 0, 0, 0, 0) :: (15, .aaload, 0, 0, 0, 0) ::
  (16, .getfield 40, 8, 0, 1, 1230) :: (19, .aload_n 1, 0, 0, 0, 0) :: (20, .invokevirtual 44, 179, 2, 0, 589) :: (23, .ifCond .eq 10, 33, 0, 0, 0) :: (26, .aload_n 0, 0, 0, 0, 0) :: (27, .getfield 13, 10, 0, 1, 170) :: (30, .iload_n 2, 0, 0, 0, 0) :: (31, .aaload, 0, 0, 0, 0) ::
  (32, .areturn, 0, 0, 0, 0) :: bl_X8_find_33
def bl_X8_find_0 : List ax_R := (0, .iconst 0, 0, 0, 0, 0) :: (1, .istore_n 2, 0, 0, 0, 0) :: bl_X8_find_2
def pr_X8_find : List ax_R := bl_X8_find_0
def pt_X8_find : ax_T := ((⟨"PageServer$Site", "find", "(Ljava/lang/String;)LPageServer$Page;"⟩, prog_10_method_6_code, 3, (some (.object "PageServer$Page"))), 588, 86, 586, 587)
def bl_X8_isFull_14 : List ax_R := (14, .ireturn, 0, 0, 0, 0) :: []
def bl_X8_isFull_13 : List ax_R := (13, .iconst 0, 0, 0, 0, 0) :: bl_X8_isFull_14
def bl_X8_isFull_0 : List ax_R := (0, .aload_n 0, 0, 0, 0, 0) :: (1, .getfield 36, 10, 1, 0, 171) :: (4, .bipush 8, 0, 0, 0, 0) :: (6, .if_icmp .lt 7, 13, 0, 0, 0) :: (9, .iconst 1, 0, 0, 0, 0) :: (10, .goto 4, 14, 0, 0, 0) :: bl_X8_isFull_13
def pr_X8_isFull : List ax_R := bl_X8_isFull_0
def pt_X8_isFull : ax_T := ((⟨"PageServer$Site", "isFull", "()Z"⟩, prog_10_method_7_code, 1, (some .boolean)), 1202, 86, 1200, 1201)
def bl_X8_add_9 : List ax_R := (9, .aload_n 0, 0, 0, 0, 0) :: (10, .getfield 13, 10, 0, 1, 170) :: (13, .aload_n 0, 0, 0, 0, 0) :: (14, .getfield 36, 10, 1, 0, 171) :: (17, .new 11, 8, 3, 0, 168) :: (20, .dup, 0, 0, 0, 0) :: (21, .aload_n 1, 0, 0, 0, 0) :: (22, .iload_n 2, 0, 0, 0, 0) ::
  (23, .iload_n 3, 0, 0, 0, 0) :: (24, .invokespecial 54, 71, 4, 0, 1225) :: (27, .aastore, 0, 0, 0, 0) :: (28, .aload_n 0, 0, 0, 0, 0) :: (29, .dup, 0, 0, 0, 0) :: (30, .getfield 36, 10, 1, 0, 171) :: (33, .iconst 1, 0, 0, 0, 0) :: (34, .iadd, 0, 0, 0, 0) ::
  (35, .putfield 36, 10, 1, 0, 171) :: (38, .aload_n 0, 0, 0, 0, 0) :: (39, .getfield 36, 10, 1, 0, 171) :: (42, .iconst 1, 0, 0, 0, 0) :: (43, .isub, 0, 0, 0, 0) :: (44, .ireturn, 0, 0, 0, 0) :: []
def bl_X8_add_0 : List ax_R := (0, .aload_n 0, 0, 0, 0, 0) :: (1, .invokevirtual 50, 82, 1, 10, 1223) :: (4, .ifCond .eq 5, 9, 0, 0, 0) :: (7, .iconst (-1), 0, 0, 0, 0) :: (8, .ireturn, 0, 0, 0, 0) :: bl_X8_add_9
def pr_X8_add : List ax_R := bl_X8_add_0
def pt_X8_add : ax_T := ((⟨"PageServer$Site", "add", "(Ljava/lang/String;II)I"⟩, prog_10_method_8_code, 4, (some .int)), 1222, 86, 1220, 1221)
def bl_X9_init_0 : List ax_R := (0, .aload_n 0, 0, 0, 0, 0) :: (1, .invokespecial 3, 0, 0, 5, 314) :: (4, .aload_n 0, 0, 0, 0, 0) :: (5, .iconst (-1), 0, 0, 0, 0) :: (6, .putfield 9, 11, 7, 0, 337) :: (9, .aload_n 0, 0, 0, 0, 0) :: (10, .ldc 15, 0, 15, 1, 11) :: (12, .putfield 17, 11, 8, 1, 338) ::
  (15, .aload_n 0, 0, 0, 0, 0) :: (16, .ldc 15, 0, 15, 1, 11) :: (18, .putfield 21, 11, 9, 1, 340) :: (21, .return_, 0, 0, 0, 0) :: []
def pr_X9_init : List ax_R := bl_X9_init_0
def pt_X9_init : ax_T := ((⟨"PageServer$Stream", "<init>", "()V"⟩, prog_11_method_1_code, 1, none), 313, 93, 312, 0)
def bl_X9_open_80 : List ax_R := (80, .putfield 21, 11, 9, 1, 340) :: (83, .return_, 0, 0, 0, 0) :: []
def bl_X9_open_76 : List ax_R := (76, .aload_n 3, 0, 0, 0, 0) :: (77, .getfield 50, 9, 1, 1, 149) :: bl_X9_open_80
def bl_X9_open_60 : List ax_R := (60, .putfield 17, 11, 8, 1, 338) :: (63, .aload_n 0, 0, 0, 0, 0) :: (64, .aload_n 3, 0, 0, 0, 0) :: (65, .getfield 50, 9, 1, 1, 149) :: (68, .ifnonnull 8, 76, 0, 0, 0) :: (71, .ldc 15, 0, 15, 1, 11) :: (73, .goto 7, 80, 0, 0, 0) :: bl_X9_open_76
def bl_X9_open_56 : List ax_R := (56, .aload_n 3, 0, 0, 0, 0) :: (57, .getfield 49, 9, 0, 1, 147) :: bl_X9_open_60
def bl_X9_open_0 : List ax_R := (0, .aload_n 0, 0, 0, 0, 0) :: (1, .iconst 1, 0, 0, 0, 0) :: (2, .putfield 24, 11, 0, 0, 316) :: (5, .aload_n 0, 0, 0, 0, 0) :: (6, .iload_n 1, 0, 0, 0, 0) :: (7, .putfield 28, 11, 1, 0, 319) :: (10, .aload_n 0, 0, 0, 0, 0) :: (11, .iload_n 2, 0, 0, 0, 0) ::
  (12, .putfield 31, 11, 2, 0, 322) :: (15, .aload_n 0, 0, 0, 0, 0) :: (16, .iconst 0, 0, 0, 0, 0) :: (17, .putfield 34, 11, 3, 0, 326) :: (20, .aload_n 0, 0, 0, 0, 0) :: (21, .iconst 0, 0, 0, 0, 0) :: (22, .putfield 37, 11, 4, 0, 329) :: (25, .aload_n 0, 0, 0, 0, 0) ::
  (26, .iconst 0, 0, 0, 0, 0) :: (27, .putfield 40, 11, 5, 0, 331) :: (30, .aload_n 0, 0, 0, 0, 0) :: (31, .iconst 0, 0, 0, 0, 0) :: (32, .putfield 43, 11, 6, 0, 334) :: (35, .aload_n 0, 0, 0, 0, 0) :: (36, .aload_n 3, 0, 0, 0, 0) :: (37, .getfield 46, 9, 2, 0, 151) ::
  (40, .putfield 9, 11, 7, 0, 337) :: (43, .aload_n 0, 0, 0, 0, 0) :: (44, .aload_n 3, 0, 0, 0, 0) :: (45, .getfield 49, 9, 0, 1, 147) :: (48, .ifnonnull 8, 56, 0, 0, 0) :: (51, .ldc 15, 0, 15, 1, 11) :: (53, .goto 7, 60, 0, 0, 0) :: bl_X9_open_56
def pr_X9_open : List ax_R := bl_X9_open_0
def pt_X9_open : ax_T := ((⟨"PageServer$Stream", "open", "(IILPageServer$Request;)V"⟩, prog_11_method_2_code, 4, none), 858, 93, 856, 857)
def bl_X9_canSend_26 : List ax_R := (26, .ireturn, 0, 0, 0, 0) :: []
def bl_X9_canSend_25 : List ax_R := (25, .iconst 0, 0, 0, 0, 0) :: bl_X9_canSend_26
def bl_X9_canSend_0 : List ax_R := (0, .aload_n 0, 0, 0, 0, 0) :: (1, .getfield 24, 11, 0, 0, 316) :: (4, .ifCond .eq 21, 25, 0, 0, 0) :: (7, .aload_n 0, 0, 0, 0, 0) :: (8, .getfield 34, 11, 3, 0, 326) :: (11, .ifCond .le 14, 25, 0, 0, 0) :: (14, .aload_n 0, 0, 0, 0, 0) :: (15, .getfield 31, 11, 2, 0, 322) ::
  (18, .ifCond .le 7, 25, 0, 0, 0) :: (21, .iconst 1, 0, 0, 0, 0) :: (22, .goto 4, 26, 0, 0, 0) :: bl_X9_canSend_25
def pr_X9_canSend : List ax_R := bl_X9_canSend_0
def pt_X9_canSend : ax_T := ((⟨"PageServer$Stream", "canSend", "()Z"⟩, prog_11_method_3_code, 1, (some .boolean)), 880, 93, 878, 879)
def bl_X9_hasWrongLength_24 : List ax_R := (24, .ireturn, 0, 0, 0, 0) :: []
def bl_X9_hasWrongLength_23 : List ax_R := (23, .iconst 0, 0, 0, 0, 0) :: bl_X9_hasWrongLength_24
def bl_X9_hasWrongLength_0 : List ax_R := (0, .aload_n 0, 0, 0, 0, 0) :: (1, .getfield 9, 11, 7, 0, 337) :: (4, .iconst (-1), 0, 0, 0, 0) :: (5, .if_icmp .eq 18, 23, 0, 0, 0) :: (8, .aload_n 0, 0, 0, 0, 0) :: (9, .getfield 9, 11, 7, 0, 337) :: (12, .aload_n 0, 0, 0, 0, 0) :: (13, .getfield 40, 11, 5, 0, 331) ::
  (16, .if_icmp .eq 7, 23, 0, 0, 0) :: (19, .iconst 1, 0, 0, 0, 0) :: (20, .goto 4, 24, 0, 0, 0) :: bl_X9_hasWrongLength_23
def pr_X9_hasWrongLength : List ax_R := bl_X9_hasWrongLength_0
def pt_X9_hasWrongLength : ax_T := ((⟨"PageServer$Stream", "hasWrongLength", "()Z"⟩, prog_11_method_4_code, 1, (some .boolean)), 570, 93, 568, 569)
def bl_X10_init_38 : List ax_R := (38, .return_, 0, 0, 0, 0) :: []
def bl_X10_init_14 : List ax_R := (14, .iload_n 1, 0, 0, 0, 0) :: (15, .iconst 4, 0, 0, 0, 0) :: (16, .if_icmp .ge 22, 38, 0, 0, 0) :: (19, .aload_n 0, 0, 0, 0, 0) :: (20, .getfield 11, 12, 0, 1, 363) :: (23, .iload_n 1, 0, 0, 0, 0) :: (24, .new 9, 11, 10, 0, 308) :: (27, .dup, 0, 0, 0, 0) ::
  (28, .invokespecial 15, 84, 1, 10, 0) :: (31, .aastore, 0, 0, 0, 0) :: (32, .iinc 1 1, 0, 0, 0, 0) :: (35, .goto (-21), 14, 0, 0, 0) :: bl_X10_init_38
def bl_X10_init_0 : List ax_R := (0, .aload_n 0, 0, 0, 0, 0) :: (1, .invokespecial 1, 0, 0, 5, 307) :: (4, .aload_n 0, 0, 0, 0, 0) :: (5, .iconst 4, 0, 0, 0, 0) :: (6, .anewarray 9, 121, 0, 0, 308) :: (9, .putfield 11, 12, 0, 1, 363) :: (12, .iconst 0, 0, 0, 0, 0) :: (13, .istore_n 1, 0, 0, 0, 0) :: bl_X10_init_14
def pr_X10_init : List ax_R := bl_X10_init_0
def pt_X10_init : ax_T := ((⟨"PageServer$Streams", "<init>", "()V"⟩, prog_12_method_1_code, 2, none), 306, 92, 305, 0)
def bl_X10_clear_34 : List ax_R := (34, .return_, 0, 0, 0, 0) :: []
def bl_X10_clear_13 : List ax_R := (13, .iload_n 1, 0, 0, 0, 0) :: (14, .iconst 4, 0, 0, 0, 0) :: (15, .if_icmp .ge 19, 34, 0, 0, 0) :: (18, .aload_n 0, 0, 0, 0, 0) :: (19, .getfield 11, 12, 0, 1, 363) :: (22, .iload_n 1, 0, 0, 0, 0) :: (23, .aaload, 0, 0, 0, 0) :: (24, .iconst 0, 0, 0, 0, 0) ::
  (25, .putfield 23, 11, 0, 0, 317) :: (28, .iinc 1 1, 0, 0, 0, 0) :: (31, .goto (-18), 13, 0, 0, 0) :: bl_X10_clear_34
def bl_X10_clear_0 : List ax_R := (0, .aload_n 0, 0, 0, 0, 0) :: (1, .bipush 40, 0, 0, 0, 0) :: (3, .putfield 16, 12, 1, 0, 364) :: (6, .aload_n 0, 0, 0, 0, 0) :: (7, .iconst 0, 0, 0, 0, 0) :: (8, .putfield 20, 12, 2, 0, 365) :: (11, .iconst 0, 0, 0, 0, 0) :: (12, .istore_n 1, 0, 0, 0, 0) :: bl_X10_clear_13
def pr_X10_clear : List ax_R := bl_X10_clear_0
def pt_X10_clear : ax_T := ((⟨"PageServer$Streams", "clear", "()V"⟩, prog_12_method_2_code, 2, none), 398, 92, 396, 397)
def bl_X10_isIdle_23 : List ax_R := (23, .ireturn, 0, 0, 0, 0) :: []
def bl_X10_isIdle_22 : List ax_R := (22, .iconst 0, 0, 0, 0, 0) :: bl_X10_isIdle_23
def bl_X10_isIdle_18 : List ax_R := (18, .iconst 1, 0, 0, 0, 0) :: (19, .goto 4, 23, 0, 0, 0) :: bl_X10_isIdle_22
def bl_X10_isIdle_0 : List ax_R := (0, .iload_n 1, 0, 0, 0, 0) :: (1, .aload_n 0, 0, 0, 0, 0) :: (2, .getfield 20, 12, 2, 0, 365) :: (5, .if_icmp .gt 13, 18, 0, 0, 0) :: (8, .iload_n 1, 0, 0, 0, 0) :: (9, .ifCond .eq 13, 22, 0, 0, 0) :: (12, .iload_n 1, 0, 0, 0, 0) :: (13, .iconst 2, 0, 0, 0, 0) ::
  (14, .irem, 0, 0, 0, 0) :: (15, .ifCond .ne 7, 22, 0, 0, 0) :: bl_X10_isIdle_18
def pr_X10_isIdle : List ax_R := bl_X10_isIdle_0
def pt_X10_isIdle : ax_T := ((⟨"PageServer$Streams", "isIdle", "(I)Z"⟩, prog_12_method_3_code, 2, (some .boolean)), 525, 92, 523, 524)
def bl_X10_find_45 : List ax_R := (45, .aconst_null, 0, 0, 0, 0) :: (46, .areturn, 0, 0, 0, 0) :: []
def bl_X10_find_39 : List ax_R := (39, .iinc 2 1, 0, 0, 0, 0) :: (42, .goto (-40), 2, 0, 0, 0) :: bl_X10_find_45
def bl_X10_find_2 : List ax_R := (2, .iload_n 2, 0, 0, 0, 0) :: (3, .iconst 4, 0, 0, 0, 0) :: (4, .if_icmp .ge 41, 45, 0, 0, 0) :: (7, .aload_n 0, 0, 0, 0, 0) :: (8, .getfield 11, 12, 0, 1, 363) :: (11, .iload_n 2, 0, 0, 0, 0) :: (12, .aaload, 0, 0, 0, 0) :: (13, .getfield 23, 11, 0, 0, 317) ::
  (16, .ifCond .eq 23, 39, 0, 0, 0) :: (19, .aload_n 0, 0, 0, 0, 0) :: (20, .getfield 11, 12, 0, 1, 363) :: (23, .iload_n 2, 0, 0, 0, 0) :: (24, .aaload, 0, 0, 0, 0) :: (25, .getfield 27, 11, 1, 0, 320) :: (28, .iload_n 1, 0, 0, 0, 0) :: (29, .if_icmp .ne 10, 39, 0, 0, 0) ::
  (32, .aload_n 0, 0, 0, 0, 0) :: (33, .getfield 11, 12, 0, 1, 363) :: (36, .iload_n 2, 0, 0, 0, 0) :: (37, .aaload, 0, 0, 0, 0) :: (38, .areturn, 0, 0, 0, 0) :: bl_X10_find_39
def bl_X10_find_0 : List ax_R := (0, .iconst 0, 0, 0, 0, 0) :: (1, .istore_n 2, 0, 0, 0, 0) :: bl_X10_find_2
def pr_X10_find : List ax_R := bl_X10_find_0
def pt_X10_find : ax_T := ((⟨"PageServer$Streams", "find", "(I)LPageServer$Stream;"⟩, prog_12_method_4_code, 3, (some (.object "PageServer$Stream"))), 546, 92, 544, 545)
def bl_X10_countOpen_30 : List ax_R := (30, .iload_n 1, 0, 0, 0, 0) :: (31, .ireturn, 0, 0, 0, 0) :: []
def bl_X10_countOpen_24 : List ax_R := (24, .iinc 2 1, 0, 0, 0, 0) :: (27, .goto (-23), 4, 0, 0, 0) :: bl_X10_countOpen_30
def bl_X10_countOpen_4 : List ax_R := (4, .iload_n 2, 0, 0, 0, 0) :: (5, .iconst 4, 0, 0, 0, 0) :: (6, .if_icmp .ge 24, 30, 0, 0, 0) :: (9, .aload_n 0, 0, 0, 0, 0) :: (10, .getfield 11, 12, 0, 1, 363) :: (13, .iload_n 2, 0, 0, 0, 0) :: (14, .aaload, 0, 0, 0, 0) :: (15, .getfield 23, 11, 0, 0, 317) ::
  (18, .ifCond .eq 6, 24, 0, 0, 0) :: (21, .iinc 1 1, 0, 0, 0, 0) :: bl_X10_countOpen_24
def bl_X10_countOpen_0 : List ax_R := (0, .iconst 0, 0, 0, 0, 0) :: (1, .istore_n 1, 0, 0, 0, 0) :: (2, .iconst 0, 0, 0, 0, 0) :: (3, .istore_n 2, 0, 0, 0, 0) :: bl_X10_countOpen_4
def pr_X10_countOpen : List ax_R := bl_X10_countOpen_0
def pt_X10_countOpen : ax_T := ((⟨"PageServer$Streams", "countOpen", "()I"⟩, prog_12_method_5_code, 3, (some .int)), 790, 92, 788, 789)
def bl_X10_open_47 : List ax_R := (47, .aconst_null, 0, 0, 0, 0) :: (48, .areturn, 0, 0, 0, 0) :: []
def bl_X10_open_41 : List ax_R := (41, .iinc 3 1, 0, 0, 0, 0) :: (44, .goto (-42), 2, 0, 0, 0) :: bl_X10_open_47
def bl_X10_open_2 : List ax_R := (2, .iload_n 3, 0, 0, 0, 0) :: (3, .iconst 4, 0, 0, 0, 0) :: (4, .if_icmp .ge 43, 47, 0, 0, 0) :: (7, .aload_n 0, 0, 0, 0, 0) :: (8, .getfield 11, 12, 0, 1, 363) :: (11, .iload_n 3, 0, 0, 0, 0) :: (12, .aaload, 0, 0, 0, 0) :: (13, .getfield 23, 11, 0, 0, 317) ::
  (16, .ifCond .ne 25, 41, 0, 0, 0) :: (19, .aload_n 0, 0, 0, 0, 0) :: (20, .getfield 11, 12, 0, 1, 363) :: (23, .iload_n 3, 0, 0, 0, 0) :: (24, .aaload, 0, 0, 0, 0) :: (25, .iload_n 1, 0, 0, 0, 0) :: (26, .aload_n 0, 0, 0, 0, 0) :: (27, .getfield 16, 12, 1, 0, 364) ::
  (30, .aload_n 2, 0, 0, 0, 0) :: (31, .invokevirtual 30, 85, 4, 11, 855) :: (34, .aload_n 0, 0, 0, 0, 0) :: (35, .getfield 11, 12, 0, 1, 363) :: (38, .iload_n 3, 0, 0, 0, 0) :: (39, .aaload, 0, 0, 0, 0) :: (40, .areturn, 0, 0, 0, 0) :: bl_X10_open_41
def bl_X10_open_0 : List ax_R := (0, .iconst 0, 0, 0, 0, 0) :: (1, .istore_n 3, 0, 0, 0, 0) :: bl_X10_open_2
def pr_X10_open : List ax_R := bl_X10_open_0
def pt_X10_open : ax_T := ((⟨"PageServer$Streams", "open", "(ILPageServer$Request;)LPageServer$Stream;"⟩, prog_12_method_6_code, 4, (some (.object "PageServer$Stream"))), 854, 92, 852, 853)
def bl_X10_close_15 : List ax_R := (15, .return_, 0, 0, 0, 0) :: []
def bl_X10_close_0 : List ax_R := (0, .aload_n 0, 0, 0, 0, 0) :: (1, .iload_n 1, 0, 0, 0, 0) :: (2, .invokevirtual 34, 91, 2, 12, 555) :: (5, .astore_n 2, 0, 0, 0, 0) :: (6, .aload_n 2, 0, 0, 0, 0) :: (7, .ifnull 8, 15, 0, 0, 0) :: (10, .aload_n 2, 0, 0, 0, 0) :: (11, .iconst 0, 0, 0, 0, 0) ::
  (12, .putfield 23, 11, 0, 0, 317) :: bl_X10_close_15
def pr_X10_close : List ax_R := bl_X10_close_0
def pt_X10_close : ax_T := ((⟨"PageServer$Streams", "close", "(I)V"⟩, prog_12_method_7_code, 3, none), 554, 92, 552, 553)
def bl_X10_isFull_13 : List ax_R := (13, .ireturn, 0, 0, 0, 0) :: []
def bl_X10_isFull_12 : List ax_R := (12, .iconst 0, 0, 0, 0, 0) :: bl_X10_isFull_13
def bl_X10_isFull_0 : List ax_R := (0, .aload_n 0, 0, 0, 0, 0) :: (1, .invokevirtual 38, 92, 1, 12, 787) :: (4, .iconst 4, 0, 0, 0, 0) :: (5, .if_icmp .lt 7, 12, 0, 0, 0) :: (8, .iconst 1, 0, 0, 0, 0) :: (9, .goto 4, 13, 0, 0, 0) :: bl_X10_isFull_12
def pr_X10_isFull : List ax_R := bl_X10_isFull_0
def pt_X10_isFull : ax_T := ((⟨"PageServer$Streams", "isFull", "()Z"⟩, prog_12_method_8_code, 1, (some .boolean)), 786, 92, 784, 785)
def bl_X10_changeFirstWindow_45 : List ax_R := (45, .aload_n 0, 0, 0, 0, 0) :: (46, .iload_n 1, 0, 0, 0, 0) :: (47, .putfield 16, 12, 1, 0, 364) :: (50, .return_, 0, 0, 0, 0) :: []
def bl_X10_changeFirstWindow_39 : List ax_R := (39, .iinc 2 1, 0, 0, 0, 0) :: (42, .goto (-40), 2, 0, 0, 0) :: bl_X10_changeFirstWindow_45
def bl_X10_changeFirstWindow_2 : List ax_R := (2, .iload_n 2, 0, 0, 0, 0) :: (3, .iconst 4, 0, 0, 0, 0) :: (4, .if_icmp .ge 41, 45, 0, 0, 0) :: (7, .aload_n 0, 0, 0, 0, 0) :: (8, .getfield 11, 12, 0, 1, 363) :: (11, .iload_n 2, 0, 0, 0, 0) :: (12, .aaload, 0, 0, 0, 0) :: (13, .getfield 23, 11, 0, 0, 317) ::
  (16, .ifCond .eq 23, 39, 0, 0, 0) :: (19, .aload_n 0, 0, 0, 0, 0) :: (20, .getfield 11, 12, 0, 1, 363) :: (23, .iload_n 2, 0, 0, 0, 0) :: (24, .aaload, 0, 0, 0, 0) :: (25, .dup, 0, 0, 0, 0) :: (26, .getfield 42, 11, 2, 0, 323) :: (29, .iload_n 1, 0, 0, 0, 0) ::
  (30, .aload_n 0, 0, 0, 0, 0) :: (31, .getfield 16, 12, 1, 0, 364) :: (34, .isub, 0, 0, 0, 0) :: (35, .iadd, 0, 0, 0, 0) :: (36, .putfield 42, 11, 2, 0, 323) :: bl_X10_changeFirstWindow_39
def bl_X10_changeFirstWindow_0 : List ax_R := (0, .iconst 0, 0, 0, 0, 0) :: (1, .istore_n 2, 0, 0, 0, 0) :: bl_X10_changeFirstWindow_2
def pr_X10_changeFirstWindow : List ax_R := bl_X10_changeFirstWindow_0
def pt_X10_changeFirstWindow : ax_T := ((⟨"PageServer$Streams", "changeFirstWindow", "(I)V"⟩, prog_12_method_9_code, 3, none), 633, 92, 631, 632)
def bl_X10_nextToSend_19 : List ax_R := (19, .areturn, 0, 0, 0, 0) :: []
def bl_X10_nextToSend_14 : List ax_R := (14, .aload_n 0, 0, 0, 0, 0) :: (15, .iconst 0, 0, 0, 0, 0) :: (16, .invokevirtual 45, 98, 2, 12, 873) :: bl_X10_nextToSend_19
def bl_X10_nextToSend_0 : List ax_R := (0, .aload_n 0, 0, 0, 0, 0) :: (1, .iload_n 1, 0, 0, 0, 0) :: (2, .invokevirtual 45, 98, 2, 12, 873) :: (5, .astore_n 2, 0, 0, 0, 0) :: (6, .aload_n 2, 0, 0, 0, 0) :: (7, .ifnull 7, 14, 0, 0, 0) :: (10, .aload_n 2, 0, 0, 0, 0) :: (11, .goto 8, 19, 0, 0, 0) :: bl_X10_nextToSend_14
def pr_X10_nextToSend : List ax_R := bl_X10_nextToSend_0
def pt_X10_nextToSend : ax_T := ((⟨"PageServer$Streams", "nextToSend", "(I)LPageServer$Stream;"⟩, prog_12_method_10_code, 3, (some (.object "PageServer$Stream"))), 872, 92, 870, 871)
def bl_X10_leastToSend_59 : List ax_R := (59, .aload_n 2, 0, 0, 0, 0) :: (60, .areturn, 0, 0, 0, 0) :: []
def bl_X10_leastToSend_53 : List ax_R := (53, .iinc 3 1, 0, 0, 0, 0) :: (56, .goto (-52), 4, 0, 0, 0) :: bl_X10_leastToSend_59
def bl_X10_leastToSend_50 : List ax_R := (50, .aload 4, 0, 0, 0, 0) :: (52, .astore_n 2, 0, 0, 0, 0) :: bl_X10_leastToSend_53
def bl_X10_leastToSend_4 : List ax_R := (4, .iload_n 3, 0, 0, 0, 0) :: (5, .iconst 4, 0, 0, 0, 0) :: (6, .if_icmp .ge 53, 59, 0, 0, 0) :: (9, .aload_n 0, 0, 0, 0, 0) :: (10, .getfield 11, 12, 0, 1, 363) :: (13, .iload_n 3, 0, 0, 0, 0) :: (14, .aaload, 0, 0, 0, 0) :: (15, .astore 4, 0, 0, 0, 0) ::
  (17, .aload 4, 0, 0, 0, 0) :: (19, .invokevirtual 48, 86, 1, 11, 877) :: (22, .ifCond .eq 31, 53, 0, 0, 0) :: (25, .aload 4, 0, 0, 0, 0) :: (27, .getfield 27, 11, 1, 0, 320) :: (30, .iload_n 1, 0, 0, 0, 0) :: (31, .if_icmp .le 22, 53, 0, 0, 0) :: (34, .aload_n 2, 0, 0, 0, 0) ::
  (35, .ifnull 15, 50, 0, 0, 0) :: (38, .aload 4, 0, 0, 0, 0) :: (40, .getfield 27, 11, 1, 0, 320) :: (43, .aload_n 2, 0, 0, 0, 0) :: (44, .getfield 27, 11, 1, 0, 320) :: (47, .if_icmp .ge 6, 53, 0, 0, 0) :: bl_X10_leastToSend_50
def bl_X10_leastToSend_0 : List ax_R := (0, .aconst_null, 0, 0, 0, 0) :: (1, .astore_n 2, 0, 0, 0, 0) :: (2, .iconst 0, 0, 0, 0, 0) :: (3, .istore_n 3, 0, 0, 0, 0) :: bl_X10_leastToSend_4
def pr_X10_leastToSend : List ax_R := bl_X10_leastToSend_0
def pt_X10_leastToSend : ax_T := ((⟨"PageServer$Streams", "leastToSend", "(I)LPageServer$Stream;"⟩, prog_12_method_11_code, 5, (some (.object "PageServer$Stream"))), 876, 92, 875, 32)
def bl_X11_init_0 : List ax_R := (0, .aload_n 0, 0, 0, 0, 0) :: (1, .invokespecial 1, 0, 0, 5, 117) :: (4, .aload_n 0, 0, 0, 0, 0) :: (5, .new 7, 3, 13, 0, 120) :: (8, .dup, 0, 0, 0, 0) :: (9, .invokespecial 9, 11, 1, 0, 122) :: (12, .putfield 10, 13, 0, 1, 456) :: (15, .return_, 0, 0, 0, 0) :: []
def pr_X11_init : List ax_R := bl_X11_init_0
def pt_X11_init : ax_T := ((⟨"PageServer", "<init>", "()V"⟩, prog_1_method_1_code, 1, none), 116, 82, 115, 0)
def bl_X11_page_106 : List ax_R := (106, .aload_n 0, 0, 0, 0, 0) :: (107, .getfield 10, 13, 0, 1, 456) :: (110, .getfield 35, 3, 0, 1, 411) :: (113, .aload 5, 0, 0, 0, 0) :: (115, .iload_n 3, 0, 0, 0, 0) :: (116, .iload 4, 0, 0, 0, 0) :: (118, .invokevirtual 54, 83, 4, 10, 1219) :: (121, .ireturn, 0, 0, 0, 0) :: []
def bl_X11_page_83 : List ax_R := (83, .aload_n 0, 0, 0, 0, 0) :: (84, .getfield 10, 13, 0, 1, 456) :: (87, .getfield 35, 3, 0, 1, 411) :: (90, .invokevirtual 45, 82, 1, 10, 1199) :: (93, .ifCond .eq 13, 106, 0, 0, 0) :: (96, .new 49, 1, 0, 9, 1203) :: (99, .dup, 0, 0, 0, 0) :: (100, .ldc 51, 0, 0, 99, 0) ::
  (102, .invokespecial 53, 0, 0, 99, 0) :: (105, .athrow, 0, 0, 0, 0) :: bl_X11_page_106
def bl_X11_page_51 : List ax_R := (51, .iload_n 1, 0, 0, 0, 0) :: (52, .iload_n 2, 0, 0, 0, 0) :: (53, .invokestatic 31, 79, 2, 0, 1002) :: (56, .astore 5, 0, 0, 0, 0) :: (58, .aload_n 0, 0, 0, 0, 0) :: (59, .getfield 10, 13, 0, 1, 456) :: (62, .getfield 35, 3, 0, 1, 411) :: (65, .aload 5, 0, 0, 0, 0) ::
  (67, .invokevirtual 39, 81, 2, 10, 1197) :: (70, .ifnull 13, 83, 0, 0, 0) :: (73, .new 22, 0, 0, 9, 934) :: (76, .dup, 0, 0, 0, 0) :: (77, .ldc 43, 0, 0, 99, 0) :: (79, .invokespecial 26, 0, 0, 99, 0) :: (82, .athrow, 0, 0, 0, 0) :: bl_X11_page_83
def bl_X11_page_41 : List ax_R := (41, .new 22, 0, 0, 9, 934) :: (44, .dup, 0, 0, 0, 0) :: (45, .ldc 29, 0, 0, 99, 0) :: (47, .invokespecial 26, 0, 0, 99, 0) :: (50, .athrow, 0, 0, 0, 0) :: bl_X11_page_51
def bl_X11_page_18 : List ax_R := (18, .iload_n 3, 0, 0, 0, 0) :: (19, .ifCond .lt 22, 41, 0, 0, 0) :: (22, .iload_n 3, 0, 0, 0, 0) :: (23, .bipush 60, 0, 0, 0, 0) :: (25, .if_icmp .gt 16, 41, 0, 0, 0) :: (28, .iload 4, 0, 0, 0, 0) :: (30, .ifCond .lt 11, 41, 0, 0, 0) :: (33, .iload 4, 0, 0, 0, 0) ::
  (35, .sipush 255, 0, 0, 0, 0) :: (38, .if_icmp .le 13, 51, 0, 0, 0) :: bl_X11_page_41
def bl_X11_page_0 : List ax_R := (0, .iload_n 1, 0, 0, 0, 0) :: (1, .iload_n 2, 0, 0, 0, 0) :: (2, .invokestatic 16, 77, 2, 0, 928) :: (5, .ifCond .ne 13, 18, 0, 0, 0) :: (8, .new 22, 0, 0, 9, 934) :: (11, .dup, 0, 0, 0, 0) :: (12, .ldc 24, 0, 0, 99, 0) :: (14, .invokespecial 26, 0, 0, 99, 0) ::
  (17, .athrow, 0, 0, 0, 0) :: bl_X11_page_18
def pr_X11_page : List ax_R := bl_X11_page_0
def pt_X11_page : ax_T := ((⟨"PageServer", "page", "(IIII)I"⟩, prog_1_method_2_code, 6, (some .int)), 927, 82, 925, 926)
def bl_X11_feed_59 : List ax_R := (59, .iconst 1, 0, 0, 0, 0) :: (60, .ireturn, 0, 0, 0, 0) :: []
def bl_X11_feed_32 : List ax_R := (32, .iload_n 3, 0, 0, 0, 0) :: (33, .ifCond .lt 26, 59, 0, 0, 0) :: (36, .aload_n 0, 0, 0, 0, 0) :: (37, .getfield 10, 13, 0, 1, 456) :: (40, .iload_n 1, 0, 0, 0, 0) :: (41, .bipush 8, 0, 0, 0, 0) :: (43, .iload_n 3, 0, 0, 0, 0) :: (44, .imul, 0, 0, 0, 0) ::
  (45, .iushr, 0, 0, 0, 0) :: (46, .sipush 255, 0, 0, 0, 0) :: (49, .iand, 0, 0, 0, 0) :: (50, .invokevirtual 68, 13, 2, 3, 468) :: (53, .iinc 3 (-1), 0, 0, 0, 0) :: (56, .goto (-24), 32, 0, 0, 0) :: bl_X11_feed_59
def bl_X11_feed_28 : List ax_R := (28, .iload_n 2, 0, 0, 0, 0) :: (29, .iconst 1, 0, 0, 0, 0) :: (30, .isub, 0, 0, 0, 0) :: (31, .istore_n 3, 0, 0, 0, 0) :: bl_X11_feed_32
def bl_X11_feed_26 : List ax_R := (26, .iconst 0, 0, 0, 0, 0) :: (27, .ireturn, 0, 0, 0, 0) :: bl_X11_feed_28
def bl_X11_feed_0 : List ax_R := (0, .iload_n 2, 0, 0, 0, 0) :: (1, .iconst 1, 0, 0, 0, 0) :: (2, .if_icmp .lt 24, 26, 0, 0, 0) :: (5, .iload_n 2, 0, 0, 0, 0) :: (6, .iconst 4, 0, 0, 0, 0) :: (7, .if_icmp .gt 19, 26, 0, 0, 0) :: (10, .aload_n 0, 0, 0, 0, 0) :: (11, .getfield 10, 13, 0, 1, 456) ::
  (14, .getfield 58, 3, 3, 1, 413) :: (17, .invokevirtual 62, 66, 1, 7, 464) :: (20, .sipush 300, 0, 0, 0, 0) :: (23, .if_icmp .le 5, 28, 0, 0, 0) :: bl_X11_feed_26
def pr_X11_feed : List ax_R := bl_X11_feed_0
def pt_X11_feed : ax_T := ((⟨"PageServer", "feed", "(II)Z"⟩, prog_1_method_3_code, 4, (some .boolean)), 463, 82, 461, 462)
def bl_X11_restart_0 : List ax_R := (0, .aload_n 0, 0, 0, 0, 0) :: (1, .getfield 10, 13, 0, 1, 456) :: (4, .invokevirtual 72, 12, 1, 3, 892) :: (7, .return_, 0, 0, 0, 0) :: []
def pr_X11_restart : List ax_R := bl_X11_restart_0
def pt_X11_restart : ax_T := ((⟨"PageServer", "restart", "()V"⟩, prog_1_method_4_code, 1, none), 891, 82, 889, 890)
def bl_X11_waiting_0 : List ax_R := (0, .aload_n 0, 0, 0, 0, 0) :: (1, .getfield 10, 13, 0, 1, 456) :: (4, .getfield 58, 3, 3, 1, 413) :: (7, .invokevirtual 62, 66, 1, 7, 464) :: (10, .ireturn, 0, 0, 0, 0) :: []
def pr_X11_waiting : List ax_R := bl_X11_waiting_0
def pt_X11_waiting : ax_T := ((⟨"PageServer", "waiting", "()I"⟩, prog_1_method_5_code, 1, (some .int)), 896, 82, 894, 895)
def bl_X11_out_28 : List ax_R := (28, .aload_n 0, 0, 0, 0, 0) :: (29, .getfield 10, 13, 0, 1, 456) :: (32, .getfield 58, 3, 3, 1, 413) :: (35, .iload_n 1, 0, 0, 0, 0) :: (36, .invokevirtual 80, 67, 2, 7, 1266) :: (39, .ireturn, 0, 0, 0, 0) :: []
def bl_X11_out_18 : List ax_R := (18, .new 75, 2, 0, 9, 1250) :: (21, .dup, 0, 0, 0, 0) :: (22, .ldc 77, 0, 0, 99, 0) :: (24, .invokespecial 79, 0, 0, 99, 0) :: (27, .athrow, 0, 0, 0, 0) :: bl_X11_out_28
def bl_X11_out_0 : List ax_R := (0, .iload_n 1, 0, 0, 0, 0) :: (1, .ifCond .lt 17, 18, 0, 0, 0) :: (4, .iload_n 1, 0, 0, 0, 0) :: (5, .aload_n 0, 0, 0, 0, 0) :: (6, .getfield 10, 13, 0, 1, 456) :: (9, .getfield 58, 3, 3, 1, 413) :: (12, .invokevirtual 62, 66, 1, 7, 464) :: (15, .if_icmp .lt 13, 28, 0, 0, 0) :: bl_X11_out_18
def pr_X11_out : List ax_R := bl_X11_out_0
def pt_X11_out : ax_T := ((⟨"PageServer", "out", "(I)I"⟩, prog_1_method_6_code, 2, (some .int)), 1249, 82, 1247, 1248)
def bl_X11_take_0 : List ax_R := (0, .aload_n 0, 0, 0, 0, 0) :: (1, .getfield 10, 13, 0, 1, 456) :: (4, .getfield 58, 3, 3, 1, 413) :: (7, .iload_n 1, 0, 0, 0, 0) :: (8, .invokevirtual 84, 70, 2, 7, 901) :: (11, .return_, 0, 0, 0, 0) :: []
def pr_X11_take : List ax_R := bl_X11_take_0
def pt_X11_take : ax_T := ((⟨"PageServer", "take", "(I)V"⟩, prog_1_method_7_code, 2, none), 900, 82, 898, 899)
def bl_X11_away_0 : List ax_R := (0, .aload_n 0, 0, 0, 0, 0) :: (1, .getfield 10, 13, 0, 1, 456) :: (4, .getfield 87, 3, 10, 0, 424) :: (7, .ireturn, 0, 0, 0, 0) :: []
def pr_X11_away : List ax_R := bl_X11_away_0
def pt_X11_away : ax_T := ((⟨"PageServer", "away", "()I"⟩, prog_1_method_8_code, 1, (some .int)), 913, 82, 911, 912)
def bl_X11_about_130 : List ax_R := (130, .iconst (-1), 0, 0, 0, 0) :: (131, .ireturn, 0, 0, 0, 0) :: []
def bl_X11_about_119 : List ax_R := (119, .aload_n 0, 0, 0, 0, 0) :: (120, .getfield 10, 13, 0, 1, 456) :: (123, .getfield 123, 3, 5, 1, 417) :: (126, .getfield 127, 2, 4, 0, 271) :: (129, .ireturn, 0, 0, 0, 0) :: bl_X11_about_130
def bl_X11_about_108 : List ax_R := (108, .aload_n 0, 0, 0, 0, 0) :: (109, .getfield 10, 13, 0, 1, 456) :: (112, .getfield 109, 3, 4, 1, 415) :: (115, .getfield 120, 6, 4, 0, 248) :: (118, .ireturn, 0, 0, 0, 0) :: bl_X11_about_119
def bl_X11_about_97 : List ax_R := (97, .aload_n 0, 0, 0, 0, 0) :: (98, .getfield 10, 13, 0, 1, 456) :: (101, .getfield 109, 3, 4, 1, 415) :: (104, .getfield 118, 6, 3, 0, 246) :: (107, .ireturn, 0, 0, 0, 0) :: bl_X11_about_108
def bl_X11_about_86 : List ax_R := (86, .aload_n 0, 0, 0, 0, 0) :: (87, .getfield 10, 13, 0, 1, 456) :: (90, .getfield 109, 3, 4, 1, 415) :: (93, .getfield 113, 6, 2, 0, 244) :: (96, .ireturn, 0, 0, 0, 0) :: bl_X11_about_97
def bl_X11_about_78 : List ax_R := (78, .aload_n 0, 0, 0, 0, 0) :: (79, .getfield 10, 13, 0, 1, 456) :: (82, .getfield 106, 3, 12, 0, 428) :: (85, .ireturn, 0, 0, 0, 0) :: bl_X11_about_86
def bl_X11_about_70 : List ax_R := (70, .aload_n 0, 0, 0, 0, 0) :: (71, .getfield 10, 13, 0, 1, 456) :: (74, .getfield 103, 3, 11, 0, 426) :: (77, .ireturn, 0, 0, 0, 0) :: bl_X11_about_78
def bl_X11_about_59 : List ax_R := (59, .aload_n 0, 0, 0, 0, 0) :: (60, .getfield 10, 13, 0, 1, 456) :: (63, .getfield 91, 3, 6, 1, 419) :: (66, .invokevirtual 100, 92, 1, 12, 918) :: (69, .ireturn, 0, 0, 0, 0) :: bl_X11_about_70
def bl_X11_about_48 : List ax_R := (48, .aload_n 0, 0, 0, 0, 0) :: (49, .getfield 10, 13, 0, 1, 456) :: (52, .getfield 91, 3, 6, 1, 419) :: (55, .getfield 95, 12, 2, 0, 367) :: (58, .ireturn, 0, 0, 0, 0) :: bl_X11_about_59
def bl_X11_about_0 : List ax_R := (0, .iload_n 1, 0, 0, 0, 0) :: (1, .tableswitch 129 0 7 #[47, 58, 69, 77, 85, 96, 107, 118], 0, 0, 0, 0) :: bl_X11_about_48
def pr_X11_about : List ax_R := bl_X11_about_0
def pt_X11_about : ax_T := ((⟨"PageServer", "about", "(I)I"⟩, prog_1_method_9_code, 2, (some .int)), 917, 82, 915, 916)
def bl_X11_stream_84 : List ax_R := (84, .new 75, 2, 0, 9, 1250) :: (87, .dup, 0, 0, 0, 0) :: (88, .ldc 148, 0, 0, 99, 0) :: (90, .invokespecial 79, 0, 0, 99, 0) :: (93, .athrow, 0, 0, 0, 0) :: []
def bl_X11_stream_83 : List ax_R := (83, .ireturn, 0, 0, 0, 0) :: bl_X11_stream_84
def bl_X11_stream_82 : List ax_R := (82, .iconst 0, 0, 0, 0, 0) :: bl_X11_stream_83
def bl_X11_stream_71 : List ax_R := (71, .aload_n 3, 0, 0, 0, 0) :: (72, .getfield 144, 11, 6, 0, 336) :: (75, .ifCond .eq 7, 82, 0, 0, 0) :: (78, .iconst 1, 0, 0, 0, 0) :: (79, .goto 4, 83, 0, 0, 0) :: bl_X11_stream_82
def bl_X11_stream_66 : List ax_R := (66, .aload_n 3, 0, 0, 0, 0) :: (67, .getfield 141, 11, 5, 0, 333) :: (70, .ireturn, 0, 0, 0, 0) :: bl_X11_stream_71
def bl_X11_stream_61 : List ax_R := (61, .aload_n 3, 0, 0, 0, 0) :: (62, .getfield 138, 11, 3, 0, 327) :: (65, .ireturn, 0, 0, 0, 0) :: bl_X11_stream_66
def bl_X11_stream_56 : List ax_R := (56, .aload_n 3, 0, 0, 0, 0) :: (57, .getfield 135, 11, 2, 0, 324) :: (60, .ireturn, 0, 0, 0, 0) :: bl_X11_stream_61
def bl_X11_stream_26 : List ax_R := (26, .iload_n 2, 0, 0, 0, 0) :: (27, .tableswitch 57 0 3 #[29, 34, 39, 44], 0, 0, 0, 0) :: bl_X11_stream_56
def bl_X11_stream_0 : List ax_R := (0, .aload_n 0, 0, 0, 0, 0) :: (1, .getfield 10, 13, 0, 1, 456) :: (4, .getfield 91, 3, 6, 1, 419) :: (7, .iload_n 1, 0, 0, 0, 0) :: (8, .invokevirtual 130, 91, 2, 12, 1277) :: (11, .astore_n 3, 0, 0, 0, 0) :: (12, .aload_n 3, 0, 0, 0, 0) :: (13, .ifnonnull 13, 26, 0, 0, 0) ::
  (16, .new 75, 2, 0, 9, 1250) :: (19, .dup, 0, 0, 0, 0) :: (20, .ldc 133, 0, 0, 99, 0) :: (22, .invokespecial 79, 0, 0, 99, 0) :: (25, .athrow, 0, 0, 0, 0) :: bl_X11_stream_26
def pr_X11_stream : List ax_R := bl_X11_stream_0
def pt_X11_stream : ax_T := ((⟨"PageServer", "stream", "(II)I"⟩, prog_1_method_10_code, 4, (some .int)), 1276, 82, 1274, 1275)
def bl_X11_entry_79 : List ax_R := (79, .aload 5, 0, 0, 0, 0) :: (81, .iload_n 3, 0, 0, 0, 0) :: (82, .invokevirtual 171, 178, 2, 0, 1291) :: (85, .ireturn, 0, 0, 0, 0) :: []
def bl_X11_entry_69 : List ax_R := (69, .new 75, 2, 0, 9, 1250) :: (72, .dup, 0, 0, 0, 0) :: (73, .ldc 169, 0, 0, 99, 0) :: (75, .invokespecial 79, 0, 0, 99, 0) :: (78, .athrow, 0, 0, 0, 0) :: bl_X11_entry_79
def bl_X11_entry_54 : List ax_R := (54, .astore 5, 0, 0, 0, 0) :: (56, .iload_n 3, 0, 0, 0, 0) :: (57, .ifCond .lt 12, 69, 0, 0, 0) :: (60, .iload_n 3, 0, 0, 0, 0) :: (61, .aload 5, 0, 0, 0, 0) :: (63, .invokevirtual 164, 176, 1, 0, 1289) :: (66, .if_icmp .lt 13, 79, 0, 0, 0) :: bl_X11_entry_69
def bl_X11_entry_49 : List ax_R := (49, .aload 4, 0, 0, 0, 0) :: (51, .getfield 161, 4, 1, 1, 221) :: bl_X11_entry_54
def bl_X11_entry_37 : List ax_R := (37, .iload_n 2, 0, 0, 0, 0) :: (38, .ifCond .ne 11, 49, 0, 0, 0) :: (41, .aload 4, 0, 0, 0, 0) :: (43, .getfield 155, 4, 0, 1, 218) :: (46, .goto 8, 54, 0, 0, 0) :: bl_X11_entry_49
def bl_X11_entry_27 : List ax_R := (27, .new 75, 2, 0, 9, 1250) :: (30, .dup, 0, 0, 0, 0) :: (31, .ldc 153, 0, 0, 99, 0) :: (33, .invokespecial 79, 0, 0, 99, 0) :: (36, .athrow, 0, 0, 0, 0) :: bl_X11_entry_37
def bl_X11_entry_0 : List ax_R := (0, .aload_n 0, 0, 0, 0, 0) :: (1, .getfield 10, 13, 0, 1, 456) :: (4, .getfield 109, 3, 4, 1, 415) :: (7, .iload_n 1, 0, 0, 0, 0) :: (8, .invokevirtual 150, 59, 2, 6, 1287) :: (11, .astore 4, 0, 0, 0, 0) :: (13, .aload 4, 0, 0, 0, 0) :: (15, .ifnull 12, 27, 0, 0, 0) ::
  (18, .iload_n 2, 0, 0, 0, 0) :: (19, .ifCond .lt 8, 27, 0, 0, 0) :: (22, .iload_n 2, 0, 0, 0, 0) :: (23, .iconst 1, 0, 0, 0, 0) :: (24, .if_icmp .le 13, 37, 0, 0, 0) :: bl_X11_entry_27
def pr_X11_entry : List ax_R := bl_X11_entry_0
def pt_X11_entry : ax_T := ((⟨"PageServer", "entry", "(III)I"⟩, prog_1_method_11_code, 6, (some .int)), 1286, 82, 1284, 1285)
def bl_X12_init_0 : List ax_R := (0, .aload_n 0, 0, 0, 0, 0) :: (1, .invokespecial 1, 0, 0, 5, 1297) :: (4, .aload_n 0, 0, 0, 0, 0) :: (5, .bipush 8, 0, 0, 0, 0) :: (7, .newarray .int, 100, 0, 0, 139) :: (9, .putfield 7, 14, 2, 1, 1316) :: (12, .aload_n 0, 0, 0, 0, 0) :: (13, .bipush 64, 0, 0, 0, 0) ::
  (15, .newarray .char, 101, 0, 0, 756) :: (17, .putfield 13, 14, 3, 1, 1317) :: (20, .aload_n 0, 0, 0, 0, 0) :: (21, .bipush 8, 0, 0, 0, 0) :: (23, .newarray .int, 100, 0, 0, 139) :: (25, .putfield 17, 14, 4, 1, 1318) :: (28, .aload_n 0, 0, 0, 0, 0) :: (29, .bipush 8, 0, 0, 0, 0) ::
  (31, .newarray .int, 100, 0, 0, 139) :: (33, .putfield 20, 14, 5, 1, 1319) :: (36, .aload_n 0, 0, 0, 0, 0) :: (37, .bipush 17, 0, 0, 0, 0) :: (39, .newarray .int, 100, 0, 0, 139) :: (41, .putfield 23, 14, 8, 1, 1322) :: (44, .aload_n 0, 0, 0, 0, 0) :: (45, .sipush 340, 0, 0, 0, 0) ::
  (48, .newarray .char, 101, 0, 0, 756) :: (50, .putfield 26, 14, 9, 1, 1323) :: (53, .aload_n 0, 0, 0, 0, 0) :: (54, .bipush 17, 0, 0, 0, 0) :: (56, .newarray .int, 100, 0, 0, 139) :: (58, .putfield 29, 14, 10, 1, 1324) :: (61, .aload_n 0, 0, 0, 0, 0) :: (62, .sipush 340, 0, 0, 0, 0) ::
  (65, .newarray .char, 101, 0, 0, 756) :: (67, .putfield 32, 14, 11, 1, 1325) :: (70, .aload_n 0, 0, 0, 0, 0) :: (71, .iconst 4, 0, 0, 0, 0) :: (72, .newarray .int, 100, 0, 0, 139) :: (74, .putfield 35, 14, 12, 1, 1326) :: (77, .aload_n 0, 0, 0, 0, 0) :: (78, .iconst 4, 0, 0, 0, 0) ::
  (79, .newarray .int, 100, 0, 0, 139) :: (81, .putfield 38, 14, 13, 1, 1327) :: (84, .aload_n 0, 0, 0, 0, 0) :: (85, .iconst 4, 0, 0, 0, 0) :: (86, .newarray .int, 100, 0, 0, 139) :: (88, .putfield 41, 14, 14, 1, 1328) :: (91, .aload_n 0, 0, 0, 0, 0) :: (92, .iconst 4, 0, 0, 0, 0) ::
  (93, .newarray .int, 100, 0, 0, 139) :: (95, .putfield 44, 14, 15, 1, 1329) :: (98, .aload_n 0, 0, 0, 0, 0) :: (99, .iconst 4, 0, 0, 0, 0) :: (100, .newarray .int, 100, 0, 0, 139) :: (102, .putfield 47, 14, 16, 1, 1330) :: (105, .aload_n 0, 0, 0, 0, 0) :: (106, .iconst 4, 0, 0, 0, 0) ::
  (107, .newarray .int, 100, 0, 0, 139) :: (109, .putfield 50, 14, 17, 1, 1331) :: (112, .aload_n 0, 0, 0, 0, 0) :: (113, .iconst 4, 0, 0, 0, 0) :: (114, .newarray .boolean, 103, 0, 0, 1480) :: (116, .putfield 53, 14, 18, 1, 1332) :: (119, .aload_n 0, 0, 0, 0, 0) :: (120, .iconst 4, 0, 0, 0, 0) ::
  (121, .newarray .int, 100, 0, 0, 139) :: (123, .putfield 57, 14, 19, 1, 1333) :: (126, .aload_n 0, 0, 0, 0, 0) :: (127, .iconst 4, 0, 0, 0, 0) :: (128, .newarray .int, 100, 0, 0, 139) :: (130, .putfield 60, 14, 20, 1, 1334) :: (133, .aload_n 0, 0, 0, 0, 0) :: (134, .bipush 80, 0, 0, 0, 0) ::
  (136, .newarray .char, 101, 0, 0, 756) :: (138, .putfield 63, 14, 21, 1, 1335) :: (141, .aload_n 0, 0, 0, 0, 0) :: (142, .sipush 204, 0, 0, 0, 0) :: (145, .newarray .int, 100, 0, 0, 139) :: (147, .putfield 66, 14, 24, 1, 1338) :: (150, .aload_n 0, 0, 0, 0, 0) :: (151, .bipush 100, 0, 0, 0, 0) ::
  (153, .newarray .int, 100, 0, 0, 139) :: (155, .putfield 69, 14, 35, 1, 1349) :: (158, .aload_n 0, 0, 0, 0, 0) :: (159, .bipush 20, 0, 0, 0, 0) :: (161, .newarray .char, 101, 0, 0, 756) :: (163, .putfield 72, 14, 46, 1, 1360) :: (166, .aload_n 0, 0, 0, 0, 0) :: (167, .sipush 1200, 0, 0, 0, 0) ::
  (170, .newarray .int, 100, 0, 0, 139) :: (172, .putfield 75, 14, 54, 1, 1368) :: (175, .aload_n 0, 0, 0, 0, 0) :: (176, .iconst 0, 0, 0, 0, 0) :: (177, .bipush 109, 0, 0, 0, 0) :: (179, .iconst 0, 0, 0, 0, 0) :: (180, .bipush 71, 0, 0, 0, 0) :: (182, .bipush 69, 0, 0, 0, 0) ::
  (184, .bipush 84, 0, 0, 0, 0) :: (186, .iconst 0, 0, 0, 0, 0) :: (187, .invokevirtual 78, 111, 8, 14, 1298) :: (190, .aload_n 0, 0, 0, 0, 0) :: (191, .iconst 1, 0, 0, 0, 0) :: (192, .bipush 109, 0, 0, 0, 0) :: (194, .iconst 0, 0, 0, 0, 0) :: (195, .bipush 72, 0, 0, 0, 0) ::
  (197, .bipush 69, 0, 0, 0, 0) :: (199, .bipush 65, 0, 0, 0, 0) :: (201, .bipush 68, 0, 0, 0, 0) :: (203, .invokevirtual 78, 111, 8, 14, 1298) :: (206, .aload_n 0, 0, 0, 0, 0) :: (207, .iconst 2, 0, 0, 0, 0) :: (208, .bipush 112, 0, 0, 0, 0) :: (210, .iconst 0, 0, 0, 0, 0) ::
  (211, .bipush 47, 0, 0, 0, 0) :: (213, .iconst 0, 0, 0, 0, 0) :: (214, .iconst 0, 0, 0, 0, 0) :: (215, .iconst 0, 0, 0, 0, 0) :: (216, .invokevirtual 78, 111, 8, 14, 1298) :: (219, .aload_n 0, 0, 0, 0, 0) :: (220, .iconst 3, 0, 0, 0, 0) :: (221, .bipush 104, 0, 0, 0, 0) ::
  (223, .bipush 111, 0, 0, 0, 0) :: (225, .bipush 115, 0, 0, 0, 0) :: (227, .bipush 116, 0, 0, 0, 0) :: (229, .iconst 0, 0, 0, 0, 0) :: (230, .iconst 0, 0, 0, 0, 0) :: (231, .invokevirtual 78, 111, 8, 14, 1298) :: (234, .aload_n 0, 0, 0, 0, 0) :: (235, .iconst 4, 0, 0, 0, 0) ::
  (236, .bipush 108, 0, 0, 0, 0) :: (238, .bipush 101, 0, 0, 0, 0) :: (240, .bipush 110, 0, 0, 0, 0) :: (242, .bipush 103, 0, 0, 0, 0) :: (244, .bipush 116, 0, 0, 0, 0) :: (246, .bipush 104, 0, 0, 0, 0) :: (248, .invokevirtual 78, 111, 8, 14, 1298) :: (251, .aload_n 0, 0, 0, 0, 0) ::
  (252, .iconst 5, 0, 0, 0, 0) :: (253, .bipush 115, 0, 0, 0, 0) :: (255, .iconst 0, 0, 0, 0, 0) :: (256, .bipush 50, 0, 0, 0, 0) :: (258, .bipush 48, 0, 0, 0, 0) :: (260, .bipush 48, 0, 0, 0, 0) :: (262, .iconst 0, 0, 0, 0, 0) :: (263, .invokevirtual 78, 111, 8, 14, 1298) ::
  (266, .aload_n 0, 0, 0, 0, 0) :: (267, .bipush 6, 0, 0, 0, 0) :: (269, .bipush 115, 0, 0, 0, 0) :: (271, .iconst 0, 0, 0, 0, 0) :: (272, .bipush 52, 0, 0, 0, 0) :: (274, .bipush 48, 0, 0, 0, 0) :: (276, .bipush 52, 0, 0, 0, 0) :: (278, .iconst 0, 0, 0, 0, 0) ::
  (279, .invokevirtual 78, 111, 8, 14, 1298) :: (282, .aload_n 0, 0, 0, 0, 0) :: (283, .getfield 23, 14, 8, 1, 1322) :: (286, .iconst 3, 0, 0, 0, 0) :: (287, .iconst 4, 0, 0, 0, 0) :: (288, .iastore, 0, 0, 0, 0) :: (289, .aload_n 0, 0, 0, 0, 0) :: (290, .getfield 23, 14, 8, 1, 1322) ::
  (293, .iconst 4, 0, 0, 0, 0) :: (294, .bipush 6, 0, 0, 0, 0) :: (296, .iastore, 0, 0, 0, 0) :: (297, .aload_n 0, 0, 0, 0, 0) :: (298, .invokevirtual 82, 115, 1, 14, 1302) :: (301, .return_, 0, 0, 0, 0) :: []
def pr_X12_init : List ax_R := bl_X12_init_0
def pt_X12_init : ax_T := ((⟨"PageServerModel", "<init>", "()V"⟩, prog_14_method_1_code, 1, none), 1296, 94, 1295, 0)
def bl_X12_fixed_227 : List ax_R := (227, .iastore, 0, 0, 0, 0) :: (228, .return_, 0, 0, 0, 0) :: []
def bl_X12_fixed_226 : List ax_R := (226, .iconst 1, 0, 0, 0, 0) :: bl_X12_fixed_227
def bl_X12_fixed_217 : List ax_R := (217, .iload 6, 0, 0, 0, 0) :: (219, .ifCond .le 7, 226, 0, 0, 0) :: (222, .iconst 3, 0, 0, 0, 0) :: (223, .goto 4, 227, 0, 0, 0) :: bl_X12_fixed_226
def bl_X12_fixed_208 : List ax_R := (208, .iload 7, 0, 0, 0, 0) :: (210, .ifCond .le 7, 217, 0, 0, 0) :: (213, .iconst 4, 0, 0, 0, 0) :: (214, .goto 13, 227, 0, 0, 0) :: bl_X12_fixed_217
def bl_X12_fixed_140 : List ax_R := (140, .castore, 0, 0, 0, 0) :: (141, .aload_n 0, 0, 0, 0, 0) :: (142, .getfield 23, 14, 8, 1, 1322) :: (145, .iload_n 1, 0, 0, 0, 0) :: (146, .iconst 2, 0, 0, 0, 0) :: (147, .iastore, 0, 0, 0, 0) :: (148, .aload_n 0, 0, 0, 0, 0) :: (149, .getfield 32, 14, 11, 1, 1325) ::
  (152, .iload 9, 0, 0, 0, 0) :: (154, .iload 4, 0, 0, 0, 0) :: (156, .i2c, 0, 0, 0, 0) :: (157, .castore, 0, 0, 0, 0) :: (158, .aload_n 0, 0, 0, 0, 0) :: (159, .getfield 32, 14, 11, 1, 1325) :: (162, .iload 9, 0, 0, 0, 0) :: (164, .iconst 1, 0, 0, 0, 0) ::
  (165, .iadd, 0, 0, 0, 0) :: (166, .iload 5, 0, 0, 0, 0) :: (168, .i2c, 0, 0, 0, 0) :: (169, .castore, 0, 0, 0, 0) :: (170, .aload_n 0, 0, 0, 0, 0) :: (171, .getfield 32, 14, 11, 1, 1325) :: (174, .iload 9, 0, 0, 0, 0) :: (176, .iconst 2, 0, 0, 0, 0) ::
  (177, .iadd, 0, 0, 0, 0) :: (178, .iload 6, 0, 0, 0, 0) :: (180, .i2c, 0, 0, 0, 0) :: (181, .castore, 0, 0, 0, 0) :: (182, .aload_n 0, 0, 0, 0, 0) :: (183, .getfield 32, 14, 11, 1, 1325) :: (186, .iload 9, 0, 0, 0, 0) :: (188, .iconst 3, 0, 0, 0, 0) ::
  (189, .iadd, 0, 0, 0, 0) :: (190, .iload 7, 0, 0, 0, 0) :: (192, .i2c, 0, 0, 0, 0) :: (193, .castore, 0, 0, 0, 0) :: (194, .aload_n 0, 0, 0, 0, 0) :: (195, .getfield 29, 14, 10, 1, 1324) :: (198, .iload_n 1, 0, 0, 0, 0) :: (199, .iload 8, 0, 0, 0, 0) ::
  (201, .ifCond .eq 7, 208, 0, 0, 0) :: (204, .iconst 0, 0, 0, 0, 0) :: (205, .goto 22, 227, 0, 0, 0) :: bl_X12_fixed_208
def bl_X12_fixed_139 : List ax_R := (139, .iconst 0, 0, 0, 0, 0) :: bl_X12_fixed_140
def bl_X12_fixed_119 : List ax_R := (119, .castore, 0, 0, 0, 0) :: (120, .aload_n 0, 0, 0, 0, 0) :: (121, .getfield 26, 14, 9, 1, 1323) :: (124, .iload 9, 0, 0, 0, 0) :: (126, .iconst 5, 0, 0, 0, 0) :: (127, .iadd, 0, 0, 0, 0) :: (128, .iload 8, 0, 0, 0, 0) :: (130, .ifCond .eq 9, 139, 0, 0, 0) ::
  (133, .iload 7, 0, 0, 0, 0) :: (135, .i2c, 0, 0, 0, 0) :: (136, .goto 4, 140, 0, 0, 0) :: bl_X12_fixed_139
def bl_X12_fixed_118 : List ax_R := (118, .iconst 0, 0, 0, 0, 0) :: bl_X12_fixed_119
def bl_X12_fixed_98 : List ax_R := (98, .castore, 0, 0, 0, 0) :: (99, .aload_n 0, 0, 0, 0, 0) :: (100, .getfield 26, 14, 9, 1, 1323) :: (103, .iload 9, 0, 0, 0, 0) :: (105, .iconst 4, 0, 0, 0, 0) :: (106, .iadd, 0, 0, 0, 0) :: (107, .iload 8, 0, 0, 0, 0) :: (109, .ifCond .eq 9, 118, 0, 0, 0) ::
  (112, .iload 6, 0, 0, 0, 0) :: (114, .i2c, 0, 0, 0, 0) :: (115, .goto 4, 119, 0, 0, 0) :: bl_X12_fixed_118
def bl_X12_fixed_97 : List ax_R := (97, .iconst 0, 0, 0, 0, 0) :: bl_X12_fixed_98
def bl_X12_fixed_77 : List ax_R := (77, .castore, 0, 0, 0, 0) :: (78, .aload_n 0, 0, 0, 0, 0) :: (79, .getfield 26, 14, 9, 1, 1323) :: (82, .iload 9, 0, 0, 0, 0) :: (84, .iconst 3, 0, 0, 0, 0) :: (85, .iadd, 0, 0, 0, 0) :: (86, .iload 8, 0, 0, 0, 0) :: (88, .ifCond .eq 9, 97, 0, 0, 0) ::
  (91, .iload 5, 0, 0, 0, 0) :: (93, .i2c, 0, 0, 0, 0) :: (94, .goto 4, 98, 0, 0, 0) :: bl_X12_fixed_97
def bl_X12_fixed_76 : List ax_R := (76, .iconst 0, 0, 0, 0, 0) :: bl_X12_fixed_77
def bl_X12_fixed_56 : List ax_R := (56, .castore, 0, 0, 0, 0) :: (57, .aload_n 0, 0, 0, 0, 0) :: (58, .getfield 26, 14, 9, 1, 1323) :: (61, .iload 9, 0, 0, 0, 0) :: (63, .iconst 2, 0, 0, 0, 0) :: (64, .iadd, 0, 0, 0, 0) :: (65, .iload 8, 0, 0, 0, 0) :: (67, .ifCond .eq 9, 76, 0, 0, 0) ::
  (70, .iload 4, 0, 0, 0, 0) :: (72, .i2c, 0, 0, 0, 0) :: (73, .goto 4, 77, 0, 0, 0) :: bl_X12_fixed_76
def bl_X12_fixed_54 : List ax_R := (54, .iload_n 2, 0, 0, 0, 0) :: (55, .i2c, 0, 0, 0, 0) :: bl_X12_fixed_56
def bl_X12_fixed_35 : List ax_R := (35, .castore, 0, 0, 0, 0) :: (36, .aload_n 0, 0, 0, 0, 0) :: (37, .getfield 26, 14, 9, 1, 1323) :: (40, .iload 9, 0, 0, 0, 0) :: (42, .iconst 1, 0, 0, 0, 0) :: (43, .iadd, 0, 0, 0, 0) :: (44, .iload 8, 0, 0, 0, 0) :: (46, .ifCond .eq 8, 54, 0, 0, 0) ::
  (49, .iload_n 3, 0, 0, 0, 0) :: (50, .i2c, 0, 0, 0, 0) :: (51, .goto 5, 56, 0, 0, 0) :: bl_X12_fixed_54
def bl_X12_fixed_33 : List ax_R := (33, .bipush 58, 0, 0, 0, 0) :: bl_X12_fixed_35
def bl_X12_fixed_9 : List ax_R := (9, .istore 8, 0, 0, 0, 0) :: (11, .bipush 20, 0, 0, 0, 0) :: (13, .iload_n 1, 0, 0, 0, 0) :: (14, .imul, 0, 0, 0, 0) :: (15, .istore 9, 0, 0, 0, 0) :: (17, .aload_n 0, 0, 0, 0, 0) :: (18, .getfield 26, 14, 9, 1, 1323) :: (21, .iload 9, 0, 0, 0, 0) ::
  (23, .iload 8, 0, 0, 0, 0) :: (25, .ifCond .eq 8, 33, 0, 0, 0) :: (28, .iload_n 2, 0, 0, 0, 0) :: (29, .i2c, 0, 0, 0, 0) :: (30, .goto 5, 35, 0, 0, 0) :: bl_X12_fixed_33
def bl_X12_fixed_8 : List ax_R := (8, .iconst 0, 0, 0, 0, 0) :: bl_X12_fixed_9
def bl_X12_fixed_0 : List ax_R := (0, .iload_n 3, 0, 0, 0, 0) :: (1, .ifCond .le 7, 8, 0, 0, 0) :: (4, .iconst 1, 0, 0, 0, 0) :: (5, .goto 4, 9, 0, 0, 0) :: bl_X12_fixed_8
def pr_X12_fixed : List ax_R := bl_X12_fixed_0
def pt_X12_fixed : ax_T := ((⟨"PageServerModel", "fixed", "(IIIIIII)V"⟩, prog_14_method_2_code, 10, none), 1301, 94, 1300, 35)
def bl_X12_thrown_0 : List ax_R := (0, .aload_n 0, 0, 0, 0, 0) :: (1, .getfield 85, 14, 0, 0, 1314) :: (4, .ireturn, 0, 0, 0, 0) :: []
def pr_X12_thrown : List ax_R := bl_X12_thrown_0
def pt_X12_thrown : ax_T := ((⟨"PageServerModel", "thrown", "()I"⟩, prog_14_method_3_code, 1, (some .int)), 1484, 94, 1482, 1483)
def bl_X12_refuse_0 : List ax_R := (0, .aload_n 0, 0, 0, 0, 0) :: (1, .iload_n 1, 0, 0, 0, 0) :: (2, .putfield 85, 14, 0, 0, 1314) :: (5, .iconst 0, 0, 0, 0, 0) :: (6, .ireturn, 0, 0, 0, 0) :: []
def pr_X12_refuse : List ax_R := bl_X12_refuse_0
def pt_X12_refuse : ax_T := ((⟨"PageServerModel", "refuse", "(I)I"⟩, prog_14_method_4_code, 2, (some .int)), 1507, 94, 1506, 39)
def bl_X12_outside_15 : List ax_R := (15, .ireturn, 0, 0, 0, 0) :: []
def bl_X12_outside_14 : List ax_R := (14, .iconst 0, 0, 0, 0, 0) :: bl_X12_outside_15
def bl_X12_outside_10 : List ax_R := (10, .iconst 1, 0, 0, 0, 0) :: (11, .goto 4, 15, 0, 0, 0) :: bl_X12_outside_14
def bl_X12_outside_0 : List ax_R := (0, .iload_n 0, 0, 0, 0, 0) :: (1, .iload_n 1, 0, 0, 0, 0) :: (2, .if_icmp .lt 8, 10, 0, 0, 0) :: (5, .iload_n 0, 0, 0, 0, 0) :: (6, .iload_n 2, 0, 0, 0, 0) :: (7, .if_icmp .le 7, 14, 0, 0, 0) :: bl_X12_outside_10
def pr_X12_outside : List ax_R := bl_X12_outside_0
def pt_X12_outside : ax_T := ((⟨"PageServerModel", "outside", "(III)Z"⟩, prog_14_method_5_code, 3, (some .boolean)), 1503, 94, 1502, 0)
def bl_X12_begin_20 : List ax_R := (20, .aload_n 0, 0, 0, 0, 0) :: (21, .iconst 0, 0, 0, 0, 0) :: (22, .putfield 89, 14, 6, 0, 1320) :: (25, .aload_n 0, 0, 0, 0, 0) :: (26, .bipush 24, 0, 0, 0, 0) :: (28, .putfield 92, 14, 7, 0, 1321) :: (31, .aload_n 0, 0, 0, 0, 0) :: (32, .iconst 0, 0, 0, 0, 0) ::
  (33, .putfield 95, 14, 22, 0, 1336) :: (36, .aload_n 0, 0, 0, 0, 0) :: (37, .iconst 0, 0, 0, 0, 0) :: (38, .putfield 98, 14, 23, 0, 1337) :: (41, .aload_n 0, 0, 0, 0, 0) :: (42, .iconst 1, 0, 0, 0, 0) :: (43, .putfield 101, 14, 31, 0, 1345) :: (46, .aload_n 0, 0, 0, 0, 0) ::
  (47, .iconst (-1), 0, 0, 0, 0) :: (48, .putfield 105, 14, 32, 0, 1346) :: (51, .aload_n 0, 0, 0, 0, 0) :: (52, .iconst 0, 0, 0, 0, 0) :: (53, .putfield 108, 14, 34, 0, 1348) :: (56, .aload_n 0, 0, 0, 0, 0) :: (57, .iconst 0, 0, 0, 0, 0) :: (58, .putfield 111, 14, 47, 0, 1361) ::
  (61, .aload_n 0, 0, 0, 0, 0) :: (62, .iconst 0, 0, 0, 0, 0) :: (63, .putfield 114, 14, 48, 0, 1362) :: (66, .aload_n 0, 0, 0, 0, 0) :: (67, .iconst 0, 0, 0, 0, 0) :: (68, .putfield 117, 14, 49, 0, 1363) :: (71, .aload_n 0, 0, 0, 0, 0) :: (72, .bipush 100, 0, 0, 0, 0) ::
  (74, .putfield 120, 14, 50, 0, 1364) :: (77, .aload_n 0, 0, 0, 0, 0) :: (78, .bipush 40, 0, 0, 0, 0) :: (80, .putfield 123, 14, 51, 0, 1365) :: (83, .aload_n 0, 0, 0, 0, 0) :: (84, .bipush 64, 0, 0, 0, 0) :: (86, .putfield 126, 14, 52, 0, 1366) :: (89, .aload_n 0, 0, 0, 0, 0) ::
  (90, .iconst 0, 0, 0, 0, 0) :: (91, .putfield 129, 14, 53, 0, 1367) :: (94, .aload_n 0, 0, 0, 0, 0) :: (95, .iconst 2, 0, 0, 0, 0) :: (96, .iconst 4, 0, 0, 0, 0) :: (97, .iconst 0, 0, 0, 0, 0) :: (98, .iconst 0, 0, 0, 0, 0) :: (99, .invokevirtual 132, 124, 5, 14, 1306) ::
  (102, .aload_n 0, 0, 0, 0, 0) :: (103, .iconst 3, 0, 0, 0, 0) :: (104, .invokevirtual 136, 123, 2, 14, 1310) :: (107, .aload_n 0, 0, 0, 0, 0) :: (108, .iconst 4, 0, 0, 0, 0) :: (109, .invokevirtual 136, 123, 2, 14, 1310) :: (112, .return_, 0, 0, 0, 0) :: []
def bl_X12_begin_2 : List ax_R := (2, .iload_n 1, 0, 0, 0, 0) :: (3, .iconst 4, 0, 0, 0, 0) :: (4, .if_icmp .ge 16, 20, 0, 0, 0) :: (7, .aload_n 0, 0, 0, 0, 0) :: (8, .getfield 35, 14, 12, 1, 1326) :: (11, .iload_n 1, 0, 0, 0, 0) :: (12, .iconst 0, 0, 0, 0, 0) :: (13, .iastore, 0, 0, 0, 0) ::
  (14, .iinc 1 1, 0, 0, 0, 0) :: (17, .goto (-15), 2, 0, 0, 0) :: bl_X12_begin_20
def bl_X12_begin_0 : List ax_R := (0, .iconst 0, 0, 0, 0, 0) :: (1, .istore_n 1, 0, 0, 0, 0) :: bl_X12_begin_2
def pr_X12_begin : List ax_R := bl_X12_begin_0
def pt_X12_begin : ax_T := ((⟨"PageServerModel", "begin", "()V"⟩, prog_14_method_6_code, 2, none), 1305, 94, 1304, 36)
def bl_X12_byteOf_0 : List ax_R := (0, .iload_n 0, 0, 0, 0, 0) :: (1, .bipush 8, 0, 0, 0, 0) :: (3, .iload_n 1, 0, 0, 0, 0) :: (4, .imul, 0, 0, 0, 0) :: (5, .ishr, 0, 0, 0, 0) :: (6, .sipush 255, 0, 0, 0, 0) :: (9, .iand, 0, 0, 0, 0) :: (10, .ireturn, 0, 0, 0, 0) :: []
def pr_X12_byteOf : List ax_R := bl_X12_byteOf_0
def pt_X12_byteOf : ax_T := ((⟨"PageServerModel", "byteOf", "(II)I"⟩, prog_14_method_7_code, 2, (some .int)), 1494, 94, 1493, 0)
def bl_X12_isLetter_17 : List ax_R := (17, .ireturn, 0, 0, 0, 0) :: []
def bl_X12_isLetter_16 : List ax_R := (16, .iconst 0, 0, 0, 0, 0) :: bl_X12_isLetter_17
def bl_X12_isLetter_0 : List ax_R := (0, .iload_n 0, 0, 0, 0, 0) :: (1, .bipush 97, 0, 0, 0, 0) :: (3, .if_icmp .lt 13, 16, 0, 0, 0) :: (6, .iload_n 0, 0, 0, 0, 0) :: (7, .bipush 122, 0, 0, 0, 0) :: (9, .if_icmp .gt 7, 16, 0, 0, 0) :: (12, .iconst 1, 0, 0, 0, 0) :: (13, .goto 4, 17, 0, 0, 0) :: bl_X12_isLetter_16
def pr_X12_isLetter : List ax_R := bl_X12_isLetter_0
def pt_X12_isLetter : ax_T := ((⟨"PageServerModel", "isLetter", "(I)Z"⟩, prog_14_method_8_code, 1, (some .boolean)), 1497, 94, 1496, 0)
def bl_X12_isText_57 : List ax_R := (57, .iload_n 1, 0, 0, 0, 0) :: (58, .ireturn, 0, 0, 0, 0) :: []
def bl_X12_isText_50 : List ax_R := (50, .istore_n 1, 0, 0, 0, 0) :: (51, .iinc 2 1, 0, 0, 0, 0) :: (54, .goto (-50), 4, 0, 0, 0) :: bl_X12_isText_57
def bl_X12_isText_49 : List ax_R := (49, .iconst 0, 0, 0, 0, 0) :: bl_X12_isText_50
def bl_X12_isText_45 : List ax_R := (45, .iconst 1, 0, 0, 0, 0) :: (46, .goto 4, 50, 0, 0, 0) :: bl_X12_isText_49
def bl_X12_isText_4 : List ax_R := (4, .iload_n 2, 0, 0, 0, 0) :: (5, .iconst 4, 0, 0, 0, 0) :: (6, .if_icmp .ge 51, 57, 0, 0, 0) :: (9, .iload_n 0, 0, 0, 0, 0) :: (10, .iload_n 2, 0, 0, 0, 0) :: (11, .invokestatic 140, 116, 2, 0, 1492) :: (14, .istore_n 3, 0, 0, 0, 0) :: (15, .iload_n 1, 0, 0, 0, 0) ::
  (16, .ifCond .eq 33, 49, 0, 0, 0) :: (19, .iload_n 3, 0, 0, 0, 0) :: (20, .invokestatic 144, 117, 1, 0, 1495) :: (23, .ifCond .ne 22, 45, 0, 0, 0) :: (26, .iload_n 3, 0, 0, 0, 0) :: (27, .ifCond .ne 22, 49, 0, 0, 0) :: (30, .iload_n 2, 0, 0, 0, 0) :: (31, .iconst 3, 0, 0, 0, 0) ::
  (32, .if_icmp .eq 13, 45, 0, 0, 0) :: (35, .iload_n 0, 0, 0, 0, 0) :: (36, .iload_n 2, 0, 0, 0, 0) :: (37, .iconst 1, 0, 0, 0, 0) :: (38, .iadd, 0, 0, 0, 0) :: (39, .invokestatic 140, 116, 2, 0, 1492) :: (42, .ifCond .ne 7, 49, 0, 0, 0) :: bl_X12_isText_45
def bl_X12_isText_0 : List ax_R := (0, .iconst 1, 0, 0, 0, 0) :: (1, .istore_n 1, 0, 0, 0, 0) :: (2, .iconst 0, 0, 0, 0, 0) :: (3, .istore_n 2, 0, 0, 0, 0) :: bl_X12_isText_4
def pr_X12_isText : List ax_R := bl_X12_isText_0
def pt_X12_isText : ax_T := ((⟨"PageServerModel", "isText", "(I)Z"⟩, prog_14_method_9_code, 4, (some .boolean)), 1491, 94, 1490, 0)
def bl_X12_letters_21 : List ax_R := (21, .iload_n 1, 0, 0, 0, 0) :: (22, .ireturn, 0, 0, 0, 0) :: []
def bl_X12_letters_2 : List ax_R := (2, .iload_n 1, 0, 0, 0, 0) :: (3, .iconst 4, 0, 0, 0, 0) :: (4, .if_icmp .ge 17, 21, 0, 0, 0) :: (7, .iload_n 0, 0, 0, 0, 0) :: (8, .iload_n 1, 0, 0, 0, 0) :: (9, .invokestatic 140, 116, 2, 0, 1492) :: (12, .ifCond .eq 9, 21, 0, 0, 0) :: (15, .iinc 1 1, 0, 0, 0, 0) ::
  (18, .goto (-16), 2, 0, 0, 0) :: bl_X12_letters_21
def bl_X12_letters_0 : List ax_R := (0, .iconst 0, 0, 0, 0, 0) :: (1, .istore_n 1, 0, 0, 0, 0) :: bl_X12_letters_2
def pr_X12_letters : List ax_R := bl_X12_letters_0
def pt_X12_letters : ax_T := ((⟨"PageServerModel", "letters", "(I)I"⟩, prog_14_method_10_code, 2, (some .int)), 1500, 94, 1499, 0)
def bl_X12_pageOf_102 : List ax_R := (102, .iload 4, 0, 0, 0, 0) :: (104, .ireturn, 0, 0, 0, 0) :: []
def bl_X12_pageOf_94 : List ax_R := (94, .istore 4, 0, 0, 0, 0) :: (96, .iinc 5 1, 0, 0, 0, 0) :: (99, .goto (-93), 6, 0, 0, 0) :: bl_X12_pageOf_102
def bl_X12_pageOf_92 : List ax_R := (92, .iload 4, 0, 0, 0, 0) :: bl_X12_pageOf_94
def bl_X12_pageOf_82 : List ax_R := (82, .iload 6, 0, 0, 0, 0) :: (84, .ifCond .eq 8, 92, 0, 0, 0) :: (87, .iload 5, 0, 0, 0, 0) :: (89, .goto 5, 94, 0, 0, 0) :: bl_X12_pageOf_92
def bl_X12_pageOf_74 : List ax_R := (74, .istore 6, 0, 0, 0, 0) :: (76, .iinc 7 1, 0, 0, 0, 0) :: (79, .goto (-43), 36, 0, 0, 0) :: bl_X12_pageOf_82
def bl_X12_pageOf_73 : List ax_R := (73, .iconst 0, 0, 0, 0, 0) :: bl_X12_pageOf_74
def bl_X12_pageOf_36 : List ax_R := (36, .iload 7, 0, 0, 0, 0) :: (38, .iload_n 3, 0, 0, 0, 0) :: (39, .if_icmp .ge 43, 82, 0, 0, 0) :: (42, .iload 6, 0, 0, 0, 0) :: (44, .ifCond .eq 38, 82, 0, 0, 0) :: (47, .aload_n 0, 0, 0, 0, 0) :: (48, .getfield 13, 14, 3, 1, 1317) :: (51, .bipush 8, 0, 0, 0, 0) ::
  (53, .iload 5, 0, 0, 0, 0) :: (55, .imul, 0, 0, 0, 0) :: (56, .iload 7, 0, 0, 0, 0) :: (58, .iadd, 0, 0, 0, 0) :: (59, .caload, 0, 0, 0, 0) :: (60, .aload_n 1, 0, 0, 0, 0) :: (61, .iload_n 2, 0, 0, 0, 0) :: (62, .iload 7, 0, 0, 0, 0) ::
  (64, .iadd, 0, 0, 0, 0) :: (65, .caload, 0, 0, 0, 0) :: (66, .if_icmp .ne 7, 73, 0, 0, 0) :: (69, .iconst 1, 0, 0, 0, 0) :: (70, .goto 4, 74, 0, 0, 0) :: bl_X12_pageOf_73
def bl_X12_pageOf_31 : List ax_R := (31, .istore 6, 0, 0, 0, 0) :: (33, .iconst 0, 0, 0, 0, 0) :: (34, .istore 7, 0, 0, 0, 0) :: bl_X12_pageOf_36
def bl_X12_pageOf_30 : List ax_R := (30, .iconst 0, 0, 0, 0, 0) :: bl_X12_pageOf_31
def bl_X12_pageOf_6 : List ax_R := (6, .iload 5, 0, 0, 0, 0) :: (8, .aload_n 0, 0, 0, 0, 0) :: (9, .getfield 148, 14, 1, 0, 1315) :: (12, .if_icmp .ge 90, 102, 0, 0, 0) :: (15, .aload_n 0, 0, 0, 0, 0) :: (16, .getfield 7, 14, 2, 1, 1316) :: (19, .iload 5, 0, 0, 0, 0) :: (21, .iaload, 0, 0, 0, 0) ::
  (22, .iload_n 3, 0, 0, 0, 0) :: (23, .if_icmp .ne 7, 30, 0, 0, 0) :: (26, .iconst 1, 0, 0, 0, 0) :: (27, .goto 4, 31, 0, 0, 0) :: bl_X12_pageOf_30
def bl_X12_pageOf_0 : List ax_R := (0, .iconst (-1), 0, 0, 0, 0) :: (1, .istore 4, 0, 0, 0, 0) :: (3, .iconst 0, 0, 0, 0, 0) :: (4, .istore 5, 0, 0, 0, 0) :: bl_X12_pageOf_6
def pr_X12_pageOf : List ax_R := bl_X12_pageOf_0
def pt_X12_pageOf : ax_T := ((⟨"PageServerModel", "pageOf", "([CII)I"⟩, prog_14_method_11_code, 8, (some .int)), 1515, 94, 1514, 41)
def bl_X12_lay_40 : List ax_R := (40, .return_, 0, 0, 0, 0) :: []
def bl_X12_lay_8 : List ax_R := (8, .iload 4, 0, 0, 0, 0) :: (10, .iload_n 3, 0, 0, 0, 0) :: (11, .if_icmp .ge 29, 40, 0, 0, 0) :: (14, .aload_n 0, 0, 0, 0, 0) :: (15, .getfield 72, 14, 46, 1, 1360) :: (18, .iload_n 1, 0, 0, 0, 0) :: (19, .iload 4, 0, 0, 0, 0) :: (21, .iadd, 0, 0, 0, 0) ::
  (22, .iload_n 2, 0, 0, 0, 0) :: (23, .iload_n 3, 0, 0, 0, 0) :: (24, .iconst 1, 0, 0, 0, 0) :: (25, .isub, 0, 0, 0, 0) :: (26, .iload 4, 0, 0, 0, 0) :: (28, .isub, 0, 0, 0, 0) :: (29, .invokestatic 140, 116, 2, 0, 1492) :: (32, .i2c, 0, 0, 0, 0) ::
  (33, .castore, 0, 0, 0, 0) :: (34, .iinc 4 1, 0, 0, 0, 0) :: (37, .goto (-29), 8, 0, 0, 0) :: bl_X12_lay_40
def bl_X12_lay_0 : List ax_R := (0, .iload_n 2, 0, 0, 0, 0) :: (1, .invokestatic 151, 119, 1, 0, 1498) :: (4, .istore_n 3, 0, 0, 0, 0) :: (5, .iconst 0, 0, 0, 0, 0) :: (6, .istore 4, 0, 0, 0, 0) :: bl_X12_lay_8
def pr_X12_lay : List ax_R := bl_X12_lay_0
def pt_X12_lay : ax_T := ((⟨"PageServerModel", "lay", "(II)V"⟩, prog_14_method_12_code, 5, none), 1511, 94, 1510, 40)
def bl_X12_page_207 : List ax_R := (207, .aload_n 0, 0, 0, 0, 0) :: (208, .getfield 17, 14, 4, 1, 1318) :: (211, .aload_n 0, 0, 0, 0, 0) :: (212, .getfield 148, 14, 1, 0, 1315) :: (215, .iload_n 3, 0, 0, 0, 0) :: (216, .iastore, 0, 0, 0, 0) :: (217, .aload_n 0, 0, 0, 0, 0) :: (218, .getfield 20, 14, 5, 1, 1319) ::
  (221, .aload_n 0, 0, 0, 0, 0) :: (222, .getfield 148, 14, 1, 0, 1315) :: (225, .iload 4, 0, 0, 0, 0) :: (227, .iastore, 0, 0, 0, 0) :: (228, .aload_n 0, 0, 0, 0, 0) :: (229, .dup, 0, 0, 0, 0) :: (230, .getfield 148, 14, 1, 0, 1315) :: (233, .iconst 1, 0, 0, 0, 0) ::
  (234, .iadd, 0, 0, 0, 0) :: (235, .putfield 148, 14, 1, 0, 1315) :: (238, .aload_n 0, 0, 0, 0, 0) :: (239, .getfield 148, 14, 1, 0, 1315) :: (242, .iconst 1, 0, 0, 0, 0) :: (243, .isub, 0, 0, 0, 0) :: (244, .ireturn, 0, 0, 0, 0) :: []
def bl_X12_page_172 : List ax_R := (172, .iload 7, 0, 0, 0, 0) :: (174, .iload 6, 0, 0, 0, 0) :: (176, .if_icmp .ge 31, 207, 0, 0, 0) :: (179, .aload_n 0, 0, 0, 0, 0) :: (180, .getfield 13, 14, 3, 1, 1317) :: (183, .bipush 8, 0, 0, 0, 0) :: (185, .aload_n 0, 0, 0, 0, 0) :: (186, .getfield 148, 14, 1, 0, 1315) ::
  (189, .imul, 0, 0, 0, 0) :: (190, .iload 7, 0, 0, 0, 0) :: (192, .iadd, 0, 0, 0, 0) :: (193, .aload_n 0, 0, 0, 0, 0) :: (194, .getfield 72, 14, 46, 1, 1360) :: (197, .iload 7, 0, 0, 0, 0) :: (199, .caload, 0, 0, 0, 0) :: (200, .castore, 0, 0, 0, 0) ::
  (201, .iinc 7 1, 0, 0, 0, 0) :: (204, .goto (-32), 172, 0, 0, 0) :: bl_X12_page_207
def bl_X12_page_158 : List ax_R := (158, .aload_n 0, 0, 0, 0, 0) :: (159, .getfield 7, 14, 2, 1, 1316) :: (162, .aload_n 0, 0, 0, 0, 0) :: (163, .getfield 148, 14, 1, 0, 1315) :: (166, .iload 6, 0, 0, 0, 0) :: (168, .iastore, 0, 0, 0, 0) :: (169, .iconst 0, 0, 0, 0, 0) :: (170, .istore 7, 0, 0, 0, 0) :: bl_X12_page_172
def bl_X12_page_146 : List ax_R := (146, .putfield 85, 14, 0, 0, 1314) :: (149, .aload_n 0, 0, 0, 0, 0) :: (150, .getfield 85, 14, 0, 0, 1314) :: (153, .ifCond .le 5, 158, 0, 0, 0) :: (156, .iconst 0, 0, 0, 0, 0) :: (157, .ireturn, 0, 0, 0, 0) :: bl_X12_page_158
def bl_X12_page_145 : List ax_R := (145, .iconst 0, 0, 0, 0, 0) :: bl_X12_page_146
def bl_X12_page_132 : List ax_R := (132, .aload_n 0, 0, 0, 0, 0) :: (133, .getfield 148, 14, 1, 0, 1315) :: (136, .bipush 8, 0, 0, 0, 0) :: (138, .if_icmp .ne 7, 145, 0, 0, 0) :: (141, .iconst 2, 0, 0, 0, 0) :: (142, .goto 4, 146, 0, 0, 0) :: bl_X12_page_145
def bl_X12_page_74 : List ax_R := (74, .aload_n 0, 0, 0, 0, 0) :: (75, .getfield 72, 14, 46, 1, 1360) :: (78, .iconst 0, 0, 0, 0, 0) :: (79, .bipush 47, 0, 0, 0, 0) :: (81, .castore, 0, 0, 0, 0) :: (82, .aload_n 0, 0, 0, 0, 0) :: (83, .iconst 1, 0, 0, 0, 0) :: (84, .iload_n 1, 0, 0, 0, 0) ::
  (85, .invokevirtual 165, 121, 3, 14, 1508) :: (88, .aload_n 0, 0, 0, 0, 0) :: (89, .iconst 1, 0, 0, 0, 0) :: (90, .iload_n 1, 0, 0, 0, 0) :: (91, .invokestatic 151, 119, 1, 0, 1498) :: (94, .iadd, 0, 0, 0, 0) :: (95, .iload_n 2, 0, 0, 0, 0) :: (96, .invokevirtual 165, 121, 3, 14, 1508) ::
  (99, .iconst 1, 0, 0, 0, 0) :: (100, .iload_n 1, 0, 0, 0, 0) :: (101, .invokestatic 151, 119, 1, 0, 1498) :: (104, .iadd, 0, 0, 0, 0) :: (105, .iload_n 2, 0, 0, 0, 0) :: (106, .invokestatic 151, 119, 1, 0, 1498) :: (109, .iadd, 0, 0, 0, 0) :: (110, .istore 6, 0, 0, 0, 0) ::
  (112, .aload_n 0, 0, 0, 0, 0) :: (113, .aload_n 0, 0, 0, 0, 0) :: (114, .aload_n 0, 0, 0, 0, 0) :: (115, .getfield 72, 14, 46, 1, 1360) :: (118, .iconst 0, 0, 0, 0, 0) :: (119, .iload 6, 0, 0, 0, 0) :: (121, .invokevirtual 169, 120, 4, 14, 1512) :: (124, .iconst (-1), 0, 0, 0, 0) ::
  (125, .if_icmp .eq 7, 132, 0, 0, 0) :: (128, .iconst 1, 0, 0, 0, 0) :: (129, .goto 17, 146, 0, 0, 0) :: bl_X12_page_132
def bl_X12_page_61 : List ax_R := (61, .istore 5, 0, 0, 0, 0) :: (63, .iload 5, 0, 0, 0, 0) :: (65, .ifCond .ne 9, 74, 0, 0, 0) :: (68, .aload_n 0, 0, 0, 0, 0) :: (69, .iconst 1, 0, 0, 0, 0) :: (70, .invokevirtual 162, 113, 2, 14, 1504) :: (73, .ireturn, 0, 0, 0, 0) :: bl_X12_page_74
def bl_X12_page_60 : List ax_R := (60, .iconst 0, 0, 0, 0, 0) :: bl_X12_page_61
def bl_X12_page_34 : List ax_R := (34, .iload_n 3, 0, 0, 0, 0) :: (35, .iconst 0, 0, 0, 0, 0) :: (36, .bipush 60, 0, 0, 0, 0) :: (38, .invokestatic 158, 114, 3, 0, 1501) :: (41, .ifCond .ne 19, 60, 0, 0, 0) :: (44, .iload 4, 0, 0, 0, 0) :: (46, .iconst 0, 0, 0, 0, 0) :: (47, .sipush 255, 0, 0, 0, 0) ::
  (50, .invokestatic 158, 114, 3, 0, 1501) :: (53, .ifCond .ne 7, 60, 0, 0, 0) :: (56, .iconst 1, 0, 0, 0, 0) :: (57, .goto 4, 61, 0, 0, 0) :: bl_X12_page_60
def bl_X12_page_0 : List ax_R := (0, .iload_n 1, 0, 0, 0, 0) :: (1, .invokestatic 155, 118, 1, 0, 1489) :: (4, .ifCond .eq 56, 60, 0, 0, 0) :: (7, .iload_n 2, 0, 0, 0, 0) :: (8, .invokestatic 155, 118, 1, 0, 1489) :: (11, .ifCond .eq 49, 60, 0, 0, 0) :: (14, .iload_n 2, 0, 0, 0, 0) :: (15, .invokestatic 151, 119, 1, 0, 1498) ::
  (18, .iconst 4, 0, 0, 0, 0) :: (19, .if_icmp .ge 41, 60, 0, 0, 0) :: (22, .iload_n 2, 0, 0, 0, 0) :: (23, .ifCond .eq 11, 34, 0, 0, 0) :: (26, .iload_n 1, 0, 0, 0, 0) :: (27, .invokestatic 151, 119, 1, 0, 1498) :: (30, .iconst 4, 0, 0, 0, 0) :: (31, .if_icmp .ne 29, 60, 0, 0, 0) :: bl_X12_page_34
def pr_X12_page : List ax_R := bl_X12_page_0
def pt_X12_page : ax_T := ((⟨"PageServerModel", "page", "(IIII)I"⟩, prog_14_method_13_code, 8, (some .int)), 1488, 94, 1486, 1487)
def bl_X12_say_0 : List ax_R := (0, .aload_n 0, 0, 0, 0, 0) :: (1, .getfield 75, 14, 54, 1, 1368) :: (4, .aload_n 0, 0, 0, 0, 0) :: (5, .getfield 129, 14, 53, 0, 1367) :: (8, .iload_n 1, 0, 0, 0, 0) :: (9, .sipush 255, 0, 0, 0, 0) :: (12, .iand, 0, 0, 0, 0) :: (13, .iastore, 0, 0, 0, 0) ::
  (14, .aload_n 0, 0, 0, 0, 0) :: (15, .dup, 0, 0, 0, 0) :: (16, .getfield 129, 14, 53, 0, 1367) :: (19, .iconst 1, 0, 0, 0, 0) :: (20, .iadd, 0, 0, 0, 0) :: (21, .putfield 129, 14, 53, 0, 1367) :: (24, .return_, 0, 0, 0, 0) :: []
def pr_X12_say : List ax_R := bl_X12_say_0
def pt_X12_say : ax_T := ((⟨"PageServerModel", "say", "(I)V"⟩, prog_14_method_14_code, 2, none), 1313, 94, 1312, 38)
def bl_X12_head_0 : List ax_R := (0, .aload_n 0, 0, 0, 0, 0) :: (1, .iload_n 1, 0, 0, 0, 0) :: (2, .invokevirtual 136, 123, 2, 14, 1310) :: (5, .aload_n 0, 0, 0, 0, 0) :: (6, .iload_n 2, 0, 0, 0, 0) :: (7, .invokevirtual 136, 123, 2, 14, 1310) :: (10, .aload_n 0, 0, 0, 0, 0) :: (11, .iload_n 3, 0, 0, 0, 0) ::
  (12, .invokevirtual 136, 123, 2, 14, 1310) :: (15, .aload_n 0, 0, 0, 0, 0) :: (16, .iload 4, 0, 0, 0, 0) :: (18, .invokevirtual 136, 123, 2, 14, 1310) :: (21, .return_, 0, 0, 0, 0) :: []
def pr_X12_head : List ax_R := bl_X12_head_0
def pt_X12_head : ax_T := ((⟨"PageServerModel", "head", "(IIII)V"⟩, prog_14_method_15_code, 5, none), 1309, 94, 1308, 37)
def bl_X12_credit_0 : List ax_R := (0, .aload_n 0, 0, 0, 0, 0) :: (1, .iconst 2, 0, 0, 0, 0) :: (2, .bipush 8, 0, 0, 0, 0) :: (4, .iconst 0, 0, 0, 0, 0) :: (5, .iload_n 1, 0, 0, 0, 0) :: (6, .invokevirtual 132, 124, 5, 14, 1306) :: (9, .aload_n 0, 0, 0, 0, 0) :: (10, .iload_n 2, 0, 0, 0, 0) ::
  (11, .sipush 256, 0, 0, 0, 0) :: (14, .idiv, 0, 0, 0, 0) :: (15, .invokevirtual 136, 123, 2, 14, 1310) :: (18, .aload_n 0, 0, 0, 0, 0) :: (19, .iload_n 2, 0, 0, 0, 0) :: (20, .sipush 256, 0, 0, 0, 0) :: (23, .irem, 0, 0, 0, 0) :: (24, .invokevirtual 136, 123, 2, 14, 1310) ::
  (27, .return_, 0, 0, 0, 0) :: []
def pr_X12_credit : List ax_R := bl_X12_credit_0
def pt_X12_credit : ax_T := ((⟨"PageServerModel", "credit", "(II)V"⟩, prog_14_method_16_code, 3, none), 1559, 94, 1558, 51)
def bl_X12_slotOf_35 : List ax_R := (35, .iload_n 2, 0, 0, 0, 0) :: (36, .ireturn, 0, 0, 0, 0) :: []
def bl_X12_slotOf_28 : List ax_R := (28, .istore_n 2, 0, 0, 0, 0) :: (29, .iinc 3 1, 0, 0, 0, 0) :: (32, .goto (-28), 4, 0, 0, 0) :: bl_X12_slotOf_35
def bl_X12_slotOf_27 : List ax_R := (27, .iload_n 2, 0, 0, 0, 0) :: bl_X12_slotOf_28
def bl_X12_slotOf_4 : List ax_R := (4, .iload_n 3, 0, 0, 0, 0) :: (5, .iconst 4, 0, 0, 0, 0) :: (6, .if_icmp .ge 29, 35, 0, 0, 0) :: (9, .iload_n 1, 0, 0, 0, 0) :: (10, .ifCond .le 17, 27, 0, 0, 0) :: (13, .aload_n 0, 0, 0, 0, 0) :: (14, .getfield 35, 14, 12, 1, 1326) :: (17, .iload_n 3, 0, 0, 0, 0) ::
  (18, .iaload, 0, 0, 0, 0) :: (19, .iload_n 1, 0, 0, 0, 0) :: (20, .if_icmp .ne 7, 27, 0, 0, 0) :: (23, .iload_n 3, 0, 0, 0, 0) :: (24, .goto 4, 28, 0, 0, 0) :: bl_X12_slotOf_27
def bl_X12_slotOf_0 : List ax_R := (0, .iconst (-1), 0, 0, 0, 0) :: (1, .istore_n 2, 0, 0, 0, 0) :: (2, .iconst 0, 0, 0, 0, 0) :: (3, .istore_n 3, 0, 0, 0, 0) :: bl_X12_slotOf_4
def pr_X12_slotOf : List ax_R := bl_X12_slotOf_0
def pt_X12_slotOf : ax_T := ((⟨"PageServerModel", "slotOf", "(I)I"⟩, prog_14_method_17_code, 4, (some .int)), 1563, 94, 1562, 52)
def bl_X12_open_32 : List ax_R := (32, .iload_n 1, 0, 0, 0, 0) :: (33, .ireturn, 0, 0, 0, 0) :: []
def bl_X12_open_25 : List ax_R := (25, .istore_n 1, 0, 0, 0, 0) :: (26, .iinc 2 1, 0, 0, 0, 0) :: (29, .goto (-25), 4, 0, 0, 0) :: bl_X12_open_32
def bl_X12_open_24 : List ax_R := (24, .iload_n 1, 0, 0, 0, 0) :: bl_X12_open_25
def bl_X12_open_4 : List ax_R := (4, .iload_n 2, 0, 0, 0, 0) :: (5, .iconst 4, 0, 0, 0, 0) :: (6, .if_icmp .ge 26, 32, 0, 0, 0) :: (9, .aload_n 0, 0, 0, 0, 0) :: (10, .getfield 35, 14, 12, 1, 1326) :: (13, .iload_n 2, 0, 0, 0, 0) :: (14, .iaload, 0, 0, 0, 0) :: (15, .ifCond .le 9, 24, 0, 0, 0) ::
  (18, .iload_n 1, 0, 0, 0, 0) :: (19, .iconst 1, 0, 0, 0, 0) :: (20, .iadd, 0, 0, 0, 0) :: (21, .goto 4, 25, 0, 0, 0) :: bl_X12_open_24
def bl_X12_open_0 : List ax_R := (0, .iconst 0, 0, 0, 0, 0) :: (1, .istore_n 1, 0, 0, 0, 0) :: (2, .iconst 0, 0, 0, 0, 0) :: (3, .istore_n 2, 0, 0, 0, 0) :: bl_X12_open_4
def pr_X12_open : List ax_R := bl_X12_open_0
def pt_X12_open : ax_T := ((⟨"PageServerModel", "open", "()I"⟩, prog_14_method_18_code, 3, (some .int)), 1648, 94, 1647, 73)
def bl_X12_end_18 : List ax_R := (18, .return_, 0, 0, 0, 0) :: []
def bl_X12_end_0 : List ax_R := (0, .aload_n 0, 0, 0, 0, 0) :: (1, .iload_n 1, 0, 0, 0, 0) :: (2, .invokevirtual 173, 126, 2, 14, 1560) :: (5, .istore_n 2, 0, 0, 0, 0) :: (6, .iload_n 2, 0, 0, 0, 0) :: (7, .iconst (-1), 0, 0, 0, 0) :: (8, .if_icmp .eq 10, 18, 0, 0, 0) :: (11, .aload_n 0, 0, 0, 0, 0) ::
  (12, .getfield 35, 14, 12, 1, 1326) :: (15, .iload_n 2, 0, 0, 0, 0) :: (16, .iconst 0, 0, 0, 0, 0) :: (17, .iastore, 0, 0, 0, 0) :: bl_X12_end_18
def pr_X12_end : List ax_R := bl_X12_end_0
def pt_X12_end : ax_T := ((⟨"PageServerModel", "end", "(I)V"⟩, prog_14_method_19_code, 3, none), 1656, 94, 1655, 75)
def bl_X12_idle_23 : List ax_R := (23, .ireturn, 0, 0, 0, 0) :: []
def bl_X12_idle_22 : List ax_R := (22, .iconst 0, 0, 0, 0, 0) :: bl_X12_idle_23
def bl_X12_idle_18 : List ax_R := (18, .iconst 1, 0, 0, 0, 0) :: (19, .goto 4, 23, 0, 0, 0) :: bl_X12_idle_22
def bl_X12_idle_0 : List ax_R := (0, .iload_n 1, 0, 0, 0, 0) :: (1, .aload_n 0, 0, 0, 0, 0) :: (2, .getfield 111, 14, 47, 0, 1361) :: (5, .if_icmp .gt 13, 18, 0, 0, 0) :: (8, .iload_n 1, 0, 0, 0, 0) :: (9, .ifCond .le 13, 22, 0, 0, 0) :: (12, .iload_n 1, 0, 0, 0, 0) :: (13, .iconst 2, 0, 0, 0, 0) ::
  (14, .irem, 0, 0, 0, 0) :: (15, .ifCond .ne 7, 22, 0, 0, 0) :: bl_X12_idle_18
def pr_X12_idle : List ax_R := bl_X12_idle_0
def pt_X12_idle : ax_T := ((⟨"PageServerModel", "idle", "(I)Z"⟩, prog_14_method_20_code, 2, (some .boolean)), 1551, 94, 1550, 49)
def bl_X12_has_14 : List ax_R := (14, .ireturn, 0, 0, 0, 0) :: []
def bl_X12_has_13 : List ax_R := (13, .iconst 0, 0, 0, 0, 0) :: bl_X12_has_14
def bl_X12_has_0 : List ax_R := (0, .aload_n 0, 0, 0, 0, 0) :: (1, .getfield 176, 14, 26, 0, 1340) :: (4, .iload_n 1, 0, 0, 0, 0) :: (5, .iand, 0, 0, 0, 0) :: (6, .ifCond .le 7, 13, 0, 0, 0) :: (9, .iconst 1, 0, 0, 0, 0) :: (10, .goto 4, 14, 0, 0, 0) :: bl_X12_has_13
def pr_X12_has : List ax_R := bl_X12_has_0
def pt_X12_has : ax_T := ((⟨"PageServerModel", "has", "(I)Z"⟩, prog_14_method_21_code, 2, (some .boolean)), 1543, 94, 1542, 47)
def bl_X12_takes_0 : List ax_R := (0, .iconst 2, 0, 0, 0, 0) :: (1, .aload_n 0, 0, 0, 0, 0) :: (2, .getfield 23, 14, 8, 1, 1322) :: (5, .iload_n 1, 0, 0, 0, 0) :: (6, .iaload, 0, 0, 0, 0) :: (7, .iadd, 0, 0, 0, 0) :: (8, .aload_n 0, 0, 0, 0, 0) :: (9, .getfield 29, 14, 10, 1, 1324) ::
  (12, .iload_n 1, 0, 0, 0, 0) :: (13, .iaload, 0, 0, 0, 0) :: (14, .iadd, 0, 0, 0, 0) :: (15, .ireturn, 0, 0, 0, 0) :: []
def pr_X12_takes : List ax_R := bl_X12_takes_0
def pt_X12_takes : ax_T := ((⟨"PageServerModel", "takes", "(I)I"⟩, prog_14_method_22_code, 2, (some .int)), 1611, 94, 1610, 64)
def bl_X12_taken_30 : List ax_R := (30, .iload_n 1, 0, 0, 0, 0) :: (31, .ireturn, 0, 0, 0, 0) :: []
def bl_X12_taken_5 : List ax_R := (5, .iload_n 2, 0, 0, 0, 0) :: (6, .bipush 7, 0, 0, 0, 0) :: (8, .aload_n 0, 0, 0, 0, 0) :: (9, .getfield 89, 14, 6, 0, 1320) :: (12, .iadd, 0, 0, 0, 0) :: (13, .if_icmp .ge 17, 30, 0, 0, 0) :: (16, .iload_n 1, 0, 0, 0, 0) :: (17, .aload_n 0, 0, 0, 0, 0) ::
  (18, .iload_n 2, 0, 0, 0, 0) :: (19, .invokevirtual 179, 131, 2, 14, 1608) :: (22, .iadd, 0, 0, 0, 0) :: (23, .istore_n 1, 0, 0, 0, 0) :: (24, .iinc 2 1, 0, 0, 0, 0) :: (27, .goto (-22), 5, 0, 0, 0) :: bl_X12_taken_30
def bl_X12_taken_0 : List ax_R := (0, .iconst 0, 0, 0, 0, 0) :: (1, .istore_n 1, 0, 0, 0, 0) :: (2, .bipush 7, 0, 0, 0, 0) :: (4, .istore_n 2, 0, 0, 0, 0) :: bl_X12_taken_5
def pr_X12_taken : List ax_R := bl_X12_taken_0
def pt_X12_taken : ax_T := ((⟨"PageServerModel", "taken", "()I"⟩, prog_14_method_23_code, 3, (some .int)), 1619, 94, 1618, 66)
def bl_X12_evict_33 : List ax_R := (33, .return_, 0, 0, 0, 0) :: []
def bl_X12_evict_0 : List ax_R := (0, .aload_n 0, 0, 0, 0, 0) :: (1, .getfield 89, 14, 6, 0, 1320) :: (4, .ifCond .le 29, 33, 0, 0, 0) :: (7, .aload_n 0, 0, 0, 0, 0) :: (8, .invokevirtual 182, 132, 1, 14, 1616) :: (11, .iload_n 1, 0, 0, 0, 0) :: (12, .iadd, 0, 0, 0, 0) :: (13, .aload_n 0, 0, 0, 0, 0) ::
  (14, .getfield 92, 14, 7, 0, 1321) :: (17, .if_icmp .le 16, 33, 0, 0, 0) :: (20, .aload_n 0, 0, 0, 0, 0) :: (21, .dup, 0, 0, 0, 0) :: (22, .getfield 89, 14, 6, 0, 1320) :: (25, .iconst 1, 0, 0, 0, 0) :: (26, .isub, 0, 0, 0, 0) :: (27, .putfield 89, 14, 6, 0, 1320) ::
  (30, .goto (-30), 0, 0, 0, 0) :: bl_X12_evict_33
def pr_X12_evict : List ax_R := bl_X12_evict_0
def pt_X12_evict : ax_T := ((⟨"PageServerModel", "evict", "(I)V"⟩, prog_14_method_24_code, 2, none), 1615, 94, 1614, 65)
def bl_X12_copy_82 : List ax_R := (82, .return_, 0, 0, 0, 0) :: []
def bl_X12_copy_26 : List ax_R := (26, .iload_n 3, 0, 0, 0, 0) :: (27, .bipush 20, 0, 0, 0, 0) :: (29, .if_icmp .ge 53, 82, 0, 0, 0) :: (32, .aload_n 0, 0, 0, 0, 0) :: (33, .getfield 26, 14, 9, 1, 1323) :: (36, .bipush 20, 0, 0, 0, 0) :: (38, .iload_n 2, 0, 0, 0, 0) :: (39, .imul, 0, 0, 0, 0) ::
  (40, .iload_n 3, 0, 0, 0, 0) :: (41, .iadd, 0, 0, 0, 0) :: (42, .aload_n 0, 0, 0, 0, 0) :: (43, .getfield 26, 14, 9, 1, 1323) :: (46, .bipush 20, 0, 0, 0, 0) :: (48, .iload_n 1, 0, 0, 0, 0) :: (49, .imul, 0, 0, 0, 0) :: (50, .iload_n 3, 0, 0, 0, 0) ::
  (51, .iadd, 0, 0, 0, 0) :: (52, .caload, 0, 0, 0, 0) :: (53, .castore, 0, 0, 0, 0) :: (54, .aload_n 0, 0, 0, 0, 0) :: (55, .getfield 32, 14, 11, 1, 1325) :: (58, .bipush 20, 0, 0, 0, 0) :: (60, .iload_n 2, 0, 0, 0, 0) :: (61, .imul, 0, 0, 0, 0) ::
  (62, .iload_n 3, 0, 0, 0, 0) :: (63, .iadd, 0, 0, 0, 0) :: (64, .aload_n 0, 0, 0, 0, 0) :: (65, .getfield 32, 14, 11, 1, 1325) :: (68, .bipush 20, 0, 0, 0, 0) :: (70, .iload_n 1, 0, 0, 0, 0) :: (71, .imul, 0, 0, 0, 0) :: (72, .iload_n 3, 0, 0, 0, 0) ::
  (73, .iadd, 0, 0, 0, 0) :: (74, .caload, 0, 0, 0, 0) :: (75, .castore, 0, 0, 0, 0) :: (76, .iinc 3 1, 0, 0, 0, 0) :: (79, .goto (-53), 26, 0, 0, 0) :: bl_X12_copy_82
def bl_X12_copy_0 : List ax_R := (0, .aload_n 0, 0, 0, 0, 0) :: (1, .getfield 23, 14, 8, 1, 1322) :: (4, .iload_n 2, 0, 0, 0, 0) :: (5, .aload_n 0, 0, 0, 0, 0) :: (6, .getfield 23, 14, 8, 1, 1322) :: (9, .iload_n 1, 0, 0, 0, 0) :: (10, .iaload, 0, 0, 0, 0) :: (11, .iastore, 0, 0, 0, 0) ::
  (12, .aload_n 0, 0, 0, 0, 0) :: (13, .getfield 29, 14, 10, 1, 1324) :: (16, .iload_n 2, 0, 0, 0, 0) :: (17, .aload_n 0, 0, 0, 0, 0) :: (18, .getfield 29, 14, 10, 1, 1324) :: (21, .iload_n 1, 0, 0, 0, 0) :: (22, .iaload, 0, 0, 0, 0) :: (23, .iastore, 0, 0, 0, 0) ::
  (24, .iconst 0, 0, 0, 0, 0) :: (25, .istore_n 3, 0, 0, 0, 0) :: bl_X12_copy_26
def pr_X12_copy : List ax_R := bl_X12_copy_0
def pt_X12_copy : ax_T := ((⟨"PageServerModel", "copy", "(II)V"⟩, prog_14_method_25_code, 4, none), 1595, 94, 1594, 60)
def bl_X12_insert_52 : List ax_R := (52, .aload_n 0, 0, 0, 0, 0) :: (53, .bipush 16, 0, 0, 0, 0) :: (55, .bipush 7, 0, 0, 0, 0) :: (57, .invokevirtual 189, 134, 3, 14, 1592) :: (60, .aload_n 0, 0, 0, 0, 0) :: (61, .dup, 0, 0, 0, 0) :: (62, .getfield 89, 14, 6, 0, 1320) :: (65, .iconst 1, 0, 0, 0, 0) ::
  (66, .iadd, 0, 0, 0, 0) :: (67, .putfield 89, 14, 6, 0, 1320) :: (70, .return_, 0, 0, 0, 0) :: []
def bl_X12_insert_32 : List ax_R := (32, .iload_n 1, 0, 0, 0, 0) :: (33, .bipush 7, 0, 0, 0, 0) :: (35, .if_icmp .lt 17, 52, 0, 0, 0) :: (38, .aload_n 0, 0, 0, 0, 0) :: (39, .iload_n 1, 0, 0, 0, 0) :: (40, .iload_n 1, 0, 0, 0, 0) :: (41, .iconst 1, 0, 0, 0, 0) :: (42, .iadd, 0, 0, 0, 0) ::
  (43, .invokevirtual 189, 134, 3, 14, 1592) :: (46, .iinc 1 (-1), 0, 0, 0, 0) :: (49, .goto (-17), 32, 0, 0, 0) :: bl_X12_insert_52
def bl_X12_insert_24 : List ax_R := (24, .bipush 6, 0, 0, 0, 0) :: (26, .aload_n 0, 0, 0, 0, 0) :: (27, .getfield 89, 14, 6, 0, 1320) :: (30, .iadd, 0, 0, 0, 0) :: (31, .istore_n 1, 0, 0, 0, 0) :: bl_X12_insert_32
def bl_X12_insert_0 : List ax_R := (0, .aload_n 0, 0, 0, 0, 0) :: (1, .aload_n 0, 0, 0, 0, 0) :: (2, .bipush 16, 0, 0, 0, 0) :: (4, .invokevirtual 179, 131, 2, 14, 1608) :: (7, .invokevirtual 186, 133, 2, 14, 1612) :: (10, .aload_n 0, 0, 0, 0, 0) :: (11, .bipush 16, 0, 0, 0, 0) :: (13, .invokevirtual 179, 131, 2, 14, 1608) ::
  (16, .aload_n 0, 0, 0, 0, 0) :: (17, .getfield 92, 14, 7, 0, 1321) :: (20, .if_icmp .le 4, 24, 0, 0, 0) :: (23, .return_, 0, 0, 0, 0) :: bl_X12_insert_24
def pr_X12_insert : List ax_R := bl_X12_insert_0
def pt_X12_insert : ax_T := ((⟨"PageServerModel", "insert", "()V"⟩, prog_14_method_26_code, 2, none), 1607, 94, 1606, 63)
def bl_X12_next_59 : List ax_R := (59, .ireturn, 0, 0, 0, 0) :: []
def bl_X12_next_58 : List ax_R := (58, .iconst 0, 0, 0, 0, 0) :: bl_X12_next_59
def bl_X12_next_24 : List ax_R := (24, .putfield 192, 14, 37, 0, 1351) :: (27, .aload_n 0, 0, 0, 0, 0) :: (28, .dup, 0, 0, 0, 0) :: (29, .getfield 195, 14, 36, 0, 1350) :: (32, .iconst 1, 0, 0, 0, 0) :: (33, .iadd, 0, 0, 0, 0) :: (34, .putfield 195, 14, 36, 0, 1350) :: (37, .aload_n 0, 0, 0, 0, 0) ::
  (38, .getfield 192, 14, 37, 0, 1351) :: (41, .ifCond .eq 17, 58, 0, 0, 0) :: (44, .aload_n 0, 0, 0, 0, 0) :: (45, .getfield 69, 14, 35, 1, 1349) :: (48, .aload_n 0, 0, 0, 0, 0) :: (49, .getfield 195, 14, 36, 0, 1350) :: (52, .iconst 1, 0, 0, 0, 0) :: (53, .isub, 0, 0, 0, 0) ::
  (54, .iaload, 0, 0, 0, 0) :: (55, .goto 4, 59, 0, 0, 0) :: bl_X12_next_58
def bl_X12_next_23 : List ax_R := (23, .iconst 0, 0, 0, 0, 0) :: bl_X12_next_24
def bl_X12_next_0 : List ax_R := (0, .aload_n 0, 0, 0, 0, 0) :: (1, .aload_n 0, 0, 0, 0, 0) :: (2, .getfield 192, 14, 37, 0, 1351) :: (5, .ifCond .eq 18, 23, 0, 0, 0) :: (8, .aload_n 0, 0, 0, 0, 0) :: (9, .getfield 195, 14, 36, 0, 1350) :: (12, .aload_n 0, 0, 0, 0, 0) :: (13, .getfield 108, 14, 34, 0, 1348) ::
  (16, .if_icmp .ge 7, 23, 0, 0, 0) :: (19, .iconst 1, 0, 0, 0, 0) :: (20, .goto 4, 24, 0, 0, 0) :: bl_X12_next_23
def pr_X12_next : List ax_R := bl_X12_next_0
def pt_X12_next : ax_T := ((⟨"PageServerModel", "next", "()I"⟩, prog_14_method_27_code, 1, (some .int)), 1587, 94, 1586, 58)
def bl_X12_readString_141 : List ax_R := (141, .iload_n 2, 0, 0, 0, 0) :: (142, .ireturn, 0, 0, 0, 0) :: []
def bl_X12_readString_135 : List ax_R := (135, .iinc 3 1, 0, 0, 0, 0) :: (138, .goto (-97), 41, 0, 0, 0) :: bl_X12_readString_141
def bl_X12_readString_111 : List ax_R := (111, .aload_n 0, 0, 0, 0, 0) :: (112, .getfield 192, 14, 37, 0, 1351) :: (115, .ifCond .eq 20, 135, 0, 0, 0) :: (118, .iload_n 1, 0, 0, 0, 0) :: (119, .ifCond .ne 16, 135, 0, 0, 0) :: (122, .aload_n 0, 0, 0, 0, 0) :: (123, .getfield 32, 14, 11, 1, 1325) :: (126, .sipush 320, 0, 0, 0, 0) ::
  (129, .iload_n 3, 0, 0, 0, 0) :: (130, .iadd, 0, 0, 0, 0) :: (131, .iload 4, 0, 0, 0, 0) :: (133, .i2c, 0, 0, 0, 0) :: (134, .castore, 0, 0, 0, 0) :: bl_X12_readString_135
def bl_X12_readString_84 : List ax_R := (84, .putfield 192, 14, 37, 0, 1351) :: (87, .aload_n 0, 0, 0, 0, 0) :: (88, .getfield 192, 14, 37, 0, 1351) :: (91, .ifCond .eq 20, 111, 0, 0, 0) :: (94, .iload_n 1, 0, 0, 0, 0) :: (95, .ifCond .eq 16, 111, 0, 0, 0) :: (98, .aload_n 0, 0, 0, 0, 0) :: (99, .getfield 26, 14, 9, 1, 1323) ::
  (102, .sipush 320, 0, 0, 0, 0) :: (105, .iload_n 3, 0, 0, 0, 0) :: (106, .iadd, 0, 0, 0, 0) :: (107, .iload 4, 0, 0, 0, 0) :: (109, .i2c, 0, 0, 0, 0) :: (110, .castore, 0, 0, 0, 0) :: bl_X12_readString_111
def bl_X12_readString_83 : List ax_R := (83, .iconst 0, 0, 0, 0, 0) :: bl_X12_readString_84
def bl_X12_readString_41 : List ax_R := (41, .iload_n 3, 0, 0, 0, 0) :: (42, .iload_n 2, 0, 0, 0, 0) :: (43, .if_icmp .ge 98, 141, 0, 0, 0) :: (46, .aload_n 0, 0, 0, 0, 0) :: (47, .getfield 192, 14, 37, 0, 1351) :: (50, .ifCond .eq 91, 141, 0, 0, 0) :: (53, .aload_n 0, 0, 0, 0, 0) :: (54, .invokevirtual 198, 136, 1, 14, 1584) ::
  (57, .istore 4, 0, 0, 0, 0) :: (59, .aload_n 0, 0, 0, 0, 0) :: (60, .aload_n 0, 0, 0, 0, 0) :: (61, .getfield 192, 14, 37, 0, 1351) :: (64, .ifCond .eq 19, 83, 0, 0, 0) :: (67, .iload 4, 0, 0, 0, 0) :: (69, .bipush 33, 0, 0, 0, 0) :: (71, .bipush 126, 0, 0, 0, 0) ::
  (73, .invokestatic 158, 114, 3, 0, 1501) :: (76, .ifCond .ne 7, 83, 0, 0, 0) :: (79, .iconst 1, 0, 0, 0, 0) :: (80, .goto 4, 84, 0, 0, 0) :: bl_X12_readString_83
def bl_X12_readString_36 : List ax_R := (36, .putfield 192, 14, 37, 0, 1351) :: (39, .iconst 0, 0, 0, 0, 0) :: (40, .istore_n 3, 0, 0, 0, 0) :: bl_X12_readString_41
def bl_X12_readString_35 : List ax_R := (35, .iconst 0, 0, 0, 0, 0) :: bl_X12_readString_36
def bl_X12_readString_23 : List ax_R := (23, .bipush 20, 0, 0, 0, 0) :: (25, .invokestatic 158, 114, 3, 0, 1501) :: (28, .ifCond .ne 7, 35, 0, 0, 0) :: (31, .iconst 1, 0, 0, 0, 0) :: (32, .goto 4, 36, 0, 0, 0) :: bl_X12_readString_35
def bl_X12_readString_22 : List ax_R := (22, .iconst 0, 0, 0, 0, 0) :: bl_X12_readString_23
def bl_X12_readString_0 : List ax_R := (0, .aload_n 0, 0, 0, 0, 0) :: (1, .invokevirtual 198, 136, 1, 14, 1584) :: (4, .istore_n 2, 0, 0, 0, 0) :: (5, .aload_n 0, 0, 0, 0, 0) :: (6, .aload_n 0, 0, 0, 0, 0) :: (7, .getfield 192, 14, 37, 0, 1351) :: (10, .ifCond .eq 25, 35, 0, 0, 0) :: (13, .iload_n 2, 0, 0, 0, 0) ::
  (14, .iload_n 1, 0, 0, 0, 0) :: (15, .ifCond .eq 7, 22, 0, 0, 0) :: (18, .iconst 1, 0, 0, 0, 0) :: (19, .goto 4, 23, 0, 0, 0) :: bl_X12_readString_22
def pr_X12_readString : List ax_R := bl_X12_readString_0
def pt_X12_readString : ax_T := ((⟨"PageServerModel", "readString", "(Z)I"⟩, prog_14_method_28_code, 5, (some .int)), 1603, 94, 1602, 62)
def bl_X12_readName_107 : List ax_R := (107, .return_, 0, 0, 0, 0) :: []
def bl_X12_readName_72 : List ax_R := (72, .iload_n 2, 0, 0, 0, 0) :: (73, .bipush 20, 0, 0, 0, 0) :: (75, .if_icmp .ge 32, 107, 0, 0, 0) :: (78, .aload_n 0, 0, 0, 0, 0) :: (79, .getfield 26, 14, 9, 1, 1323) :: (82, .sipush 320, 0, 0, 0, 0) :: (85, .iload_n 2, 0, 0, 0, 0) :: (86, .iadd, 0, 0, 0, 0) ::
  (87, .aload_n 0, 0, 0, 0, 0) :: (88, .getfield 26, 14, 9, 1, 1323) :: (91, .bipush 20, 0, 0, 0, 0) :: (93, .iload_n 1, 0, 0, 0, 0) :: (94, .iconst 1, 0, 0, 0, 0) :: (95, .isub, 0, 0, 0, 0) :: (96, .imul, 0, 0, 0, 0) :: (97, .iload_n 2, 0, 0, 0, 0) ::
  (98, .iadd, 0, 0, 0, 0) :: (99, .caload, 0, 0, 0, 0) :: (100, .castore, 0, 0, 0, 0) :: (101, .iinc 2 1, 0, 0, 0, 0) :: (104, .goto (-32), 72, 0, 0, 0) :: bl_X12_readName_107
def bl_X12_readName_55 : List ax_R := (55, .aload_n 0, 0, 0, 0, 0) :: (56, .getfield 23, 14, 8, 1, 1322) :: (59, .bipush 16, 0, 0, 0, 0) :: (61, .aload_n 0, 0, 0, 0, 0) :: (62, .getfield 23, 14, 8, 1, 1322) :: (65, .iload_n 1, 0, 0, 0, 0) :: (66, .iconst 1, 0, 0, 0, 0) :: (67, .isub, 0, 0, 0, 0) ::
  (68, .iaload, 0, 0, 0, 0) :: (69, .iastore, 0, 0, 0, 0) :: (70, .iconst 0, 0, 0, 0, 0) :: (71, .istore_n 2, 0, 0, 0, 0) :: bl_X12_readName_72
def bl_X12_readName_54 : List ax_R := (54, .return_, 0, 0, 0, 0) :: bl_X12_readName_55
def bl_X12_readName_43 : List ax_R := (43, .iload_n 1, 0, 0, 0, 0) :: (44, .ifCond .eq 10, 54, 0, 0, 0) :: (47, .aload_n 0, 0, 0, 0, 0) :: (48, .getfield 192, 14, 37, 0, 1351) :: (51, .ifCond .ne 4, 55, 0, 0, 0) :: bl_X12_readName_54
def bl_X12_readName_24 : List ax_R := (24, .putfield 192, 14, 37, 0, 1351) :: (27, .iload_n 1, 0, 0, 0, 0) :: (28, .ifCond .ne 15, 43, 0, 0, 0) :: (31, .aload_n 0, 0, 0, 0, 0) :: (32, .getfield 23, 14, 8, 1, 1322) :: (35, .bipush 16, 0, 0, 0, 0) :: (37, .aload_n 0, 0, 0, 0, 0) :: (38, .iconst 1, 0, 0, 0, 0) ::
  (39, .invokevirtual 201, 137, 2, 14, 1600) :: (42, .iastore, 0, 0, 0, 0) :: bl_X12_readName_43
def bl_X12_readName_23 : List ax_R := (23, .iconst 0, 0, 0, 0, 0) :: bl_X12_readName_24
def bl_X12_readName_0 : List ax_R := (0, .aload_n 0, 0, 0, 0, 0) :: (1, .aload_n 0, 0, 0, 0, 0) :: (2, .getfield 192, 14, 37, 0, 1351) :: (5, .ifCond .eq 18, 23, 0, 0, 0) :: (8, .iload_n 1, 0, 0, 0, 0) :: (9, .bipush 7, 0, 0, 0, 0) :: (11, .aload_n 0, 0, 0, 0, 0) :: (12, .getfield 89, 14, 6, 0, 1320) ::
  (15, .iadd, 0, 0, 0, 0) :: (16, .if_icmp .gt 7, 23, 0, 0, 0) :: (19, .iconst 1, 0, 0, 0, 0) :: (20, .goto 4, 24, 0, 0, 0) :: bl_X12_readName_23
def pr_X12_readName : List ax_R := bl_X12_readName_0
def pt_X12_readName : ax_T := ((⟨"PageServerModel", "readName", "(I)V"⟩, prog_14_method_29_code, 3, none), 1599, 94, 1598, 61)
def bl_X12_readField_184 : List ax_R := (184, .aload_n 0, 0, 0, 0, 0) :: (185, .dup, 0, 0, 0, 0) :: (186, .getfield 211, 14, 38, 0, 1352) :: (189, .iconst 1, 0, 0, 0, 0) :: (190, .iadd, 0, 0, 0, 0) :: (191, .putfield 211, 14, 38, 0, 1352) :: (194, .aload_n 0, 0, 0, 0, 0) :: (195, .invokevirtual 214, 141, 1, 14, 1620) ::
  (198, .return_, 0, 0, 0, 0) :: []
def bl_X12_readField_176 : List ax_R := (176, .aload_n 0, 0, 0, 0, 0) :: (177, .getfield 192, 14, 37, 0, 1351) :: (180, .ifCond .ne 4, 184, 0, 0, 0) :: (183, .return_, 0, 0, 0, 0) :: bl_X12_readField_184
def bl_X12_readField_175 : List ax_R := (175, .return_, 0, 0, 0, 0) :: bl_X12_readField_176
def bl_X12_readField_152 : List ax_R := (152, .putfield 192, 14, 37, 0, 1351) :: (155, .aload_n 0, 0, 0, 0, 0) :: (156, .getfield 192, 14, 37, 0, 1351) :: (159, .ifCond .eq 16, 175, 0, 0, 0) :: (162, .aload_n 0, 0, 0, 0, 0) :: (163, .iload_n 1, 0, 0, 0, 0) :: (164, .bipush 32, 0, 0, 0, 0) :: (166, .isub, 0, 0, 0, 0) ::
  (167, .putfield 92, 14, 7, 0, 1321) :: (170, .aload_n 0, 0, 0, 0, 0) :: (171, .iconst 0, 0, 0, 0, 0) :: (172, .invokevirtual 186, 133, 2, 14, 1612) :: bl_X12_readField_175
def bl_X12_readField_151 : List ax_R := (151, .iconst 0, 0, 0, 0, 0) :: bl_X12_readField_152
def bl_X12_readField_127 : List ax_R := (127, .aload_n 0, 0, 0, 0, 0) :: (128, .iload_n 1, 0, 0, 0, 0) :: (129, .bipush 31, 0, 0, 0, 0) :: (131, .if_icmp .le 20, 151, 0, 0, 0) :: (134, .iload_n 1, 0, 0, 0, 0) :: (135, .bipush 57, 0, 0, 0, 0) :: (137, .if_icmp .ge 14, 151, 0, 0, 0) :: (140, .aload_n 0, 0, 0, 0, 0) ::
  (141, .getfield 211, 14, 38, 0, 1352) :: (144, .ifCond .ne 7, 151, 0, 0, 0) :: (147, .iconst 1, 0, 0, 0, 0) :: (148, .goto 4, 152, 0, 0, 0) :: bl_X12_readField_151
def bl_X12_readField_107 : List ax_R := (107, .aload_n 0, 0, 0, 0, 0) :: (108, .getfield 192, 14, 37, 0, 1351) :: (111, .ifCond .eq 65, 176, 0, 0, 0) :: (114, .iload_n 1, 0, 0, 0, 0) :: (115, .bipush 63, 0, 0, 0, 0) :: (117, .if_icmp .le 59, 176, 0, 0, 0) :: (120, .aload_n 0, 0, 0, 0, 0) :: (121, .invokevirtual 208, 135, 1, 14, 1604) ::
  (124, .goto 52, 176, 0, 0, 0) :: bl_X12_readField_127
def bl_X12_readField_85 : List ax_R := (85, .invokevirtual 205, 138, 2, 14, 1596) :: (88, .aload_n 0, 0, 0, 0, 0) :: (89, .getfield 192, 14, 37, 0, 1351) :: (92, .ifCond .eq 15, 107, 0, 0, 0) :: (95, .aload_n 0, 0, 0, 0, 0) :: (96, .getfield 29, 14, 10, 1, 1324) :: (99, .bipush 16, 0, 0, 0, 0) :: (101, .aload_n 0, 0, 0, 0, 0) ::
  (102, .iconst 0, 0, 0, 0, 0) :: (103, .invokevirtual 201, 137, 2, 14, 1600) :: (106, .iastore, 0, 0, 0, 0) :: bl_X12_readField_107
def bl_X12_readField_84 : List ax_R := (84, .iload_n 1, 0, 0, 0, 0) :: bl_X12_readField_85
def bl_X12_readField_70 : List ax_R := (70, .aload_n 0, 0, 0, 0, 0) :: (71, .iload_n 1, 0, 0, 0, 0) :: (72, .bipush 63, 0, 0, 0, 0) :: (74, .if_icmp .le 10, 84, 0, 0, 0) :: (77, .iload_n 1, 0, 0, 0, 0) :: (78, .bipush 64, 0, 0, 0, 0) :: (80, .isub, 0, 0, 0, 0) :: (81, .goto 4, 85, 0, 0, 0) :: bl_X12_readField_84
def bl_X12_readField_58 : List ax_R := (58, .iload_n 1, 0, 0, 0, 0) :: (59, .bipush 63, 0, 0, 0, 0) :: (61, .if_icmp .gt 9, 70, 0, 0, 0) :: (64, .iload_n 1, 0, 0, 0, 0) :: (65, .bipush 16, 0, 0, 0, 0) :: (67, .if_icmp .ge 60, 127, 0, 0, 0) :: bl_X12_readField_70
def bl_X12_readField_34 : List ax_R := (34, .putfield 192, 14, 37, 0, 1351) :: (37, .aload_n 0, 0, 0, 0, 0) :: (38, .getfield 192, 14, 37, 0, 1351) :: (41, .ifCond .eq 135, 176, 0, 0, 0) :: (44, .aload_n 0, 0, 0, 0, 0) :: (45, .iload_n 1, 0, 0, 0, 0) :: (46, .sipush 129, 0, 0, 0, 0) :: (49, .isub, 0, 0, 0, 0) ::
  (50, .bipush 16, 0, 0, 0, 0) :: (52, .invokevirtual 189, 134, 3, 14, 1592) :: (55, .goto 121, 176, 0, 0, 0) :: bl_X12_readField_58
def bl_X12_readField_33 : List ax_R := (33, .iconst 0, 0, 0, 0, 0) :: bl_X12_readField_34
def bl_X12_readField_0 : List ax_R := (0, .iload_n 1, 0, 0, 0, 0) :: (1, .bipush 127, 0, 0, 0, 0) :: (3, .if_icmp .le 55, 58, 0, 0, 0) :: (6, .aload_n 0, 0, 0, 0, 0) :: (7, .iload_n 1, 0, 0, 0, 0) :: (8, .sipush 128, 0, 0, 0, 0) :: (11, .if_icmp .le 22, 33, 0, 0, 0) :: (14, .iload_n 1, 0, 0, 0, 0) ::
  (15, .sipush 129, 0, 0, 0, 0) :: (18, .isub, 0, 0, 0, 0) :: (19, .bipush 7, 0, 0, 0, 0) :: (21, .aload_n 0, 0, 0, 0, 0) :: (22, .getfield 89, 14, 6, 0, 1320) :: (25, .iadd, 0, 0, 0, 0) :: (26, .if_icmp .ge 7, 33, 0, 0, 0) :: (29, .iconst 1, 0, 0, 0, 0) ::
  (30, .goto 4, 34, 0, 0, 0) :: bl_X12_readField_33
def pr_X12_readField : List ax_R := bl_X12_readField_0
def pt_X12_readField : ax_T := ((⟨"PageServerModel", "readField", "(I)V"⟩, prog_14_method_30_code, 2, none), 1591, 94, 1590, 59)
def bl_X12_isNamed_44 : List ax_R := (44, .ireturn, 0, 0, 0, 0) :: []
def bl_X12_isNamed_43 : List ax_R := (43, .iconst 0, 0, 0, 0, 0) :: bl_X12_isNamed_44
def bl_X12_isNamed_0 : List ax_R := (0, .aload_n 0, 0, 0, 0, 0) :: (1, .getfield 23, 14, 8, 1, 1322) :: (4, .iload_n 1, 0, 0, 0, 0) :: (5, .iaload, 0, 0, 0, 0) :: (6, .iconst 2, 0, 0, 0, 0) :: (7, .if_icmp .ne 36, 43, 0, 0, 0) :: (10, .aload_n 0, 0, 0, 0, 0) :: (11, .getfield 26, 14, 9, 1, 1323) ::
  (14, .bipush 20, 0, 0, 0, 0) :: (16, .iload_n 1, 0, 0, 0, 0) :: (17, .imul, 0, 0, 0, 0) :: (18, .caload, 0, 0, 0, 0) :: (19, .bipush 58, 0, 0, 0, 0) :: (21, .if_icmp .ne 22, 43, 0, 0, 0) :: (24, .aload_n 0, 0, 0, 0, 0) :: (25, .getfield 26, 14, 9, 1, 1323) ::
  (28, .bipush 20, 0, 0, 0, 0) :: (30, .iload_n 1, 0, 0, 0, 0) :: (31, .imul, 0, 0, 0, 0) :: (32, .iconst 1, 0, 0, 0, 0) :: (33, .iadd, 0, 0, 0, 0) :: (34, .caload, 0, 0, 0, 0) :: (35, .iload_n 2, 0, 0, 0, 0) :: (36, .if_icmp .ne 7, 43, 0, 0, 0) ::
  (39, .iconst 1, 0, 0, 0, 0) :: (40, .goto 4, 44, 0, 0, 0) :: bl_X12_isNamed_43
def pr_X12_isNamed : List ax_R := bl_X12_isNamed_0
def pt_X12_isNamed : ax_T := ((⟨"PageServerModel", "isNamed", "(II)Z"⟩, prog_14_method_31_code, 3, (some .boolean)), 1627, 94, 1626, 68)
def bl_X12_judge_243 : List ax_R := (243, .return_, 0, 0, 0, 0) :: []
def bl_X12_judge_232 : List ax_R := (232, .aload_n 0, 0, 0, 0, 0) :: (233, .invokevirtual 242, 142, 1, 14, 1632) :: (236, .ifCond .eq 7, 243, 0, 0, 0) :: (239, .aload_n 0, 0, 0, 0, 0) :: (240, .invokevirtual 246, 143, 1, 14, 1636) :: bl_X12_judge_243
def bl_X12_judge_223 : List ax_R := (223, .putfield 224, 14, 39, 0, 1353) :: (226, .iinc 3 1, 0, 0, 0, 0) :: (229, .goto (-46), 183, 0, 0, 0) :: bl_X12_judge_232
def bl_X12_judge_222 : List ax_R := (222, .iconst 0, 0, 0, 0, 0) :: bl_X12_judge_223
def bl_X12_judge_218 : List ax_R := (218, .iconst 1, 0, 0, 0, 0) :: (219, .goto 4, 223, 0, 0, 0) :: bl_X12_judge_222
def bl_X12_judge_183 : List ax_R := (183, .iload_n 3, 0, 0, 0, 0) :: (184, .aload_n 0, 0, 0, 0, 0) :: (185, .getfield 23, 14, 8, 1, 1322) :: (188, .bipush 16, 0, 0, 0, 0) :: (190, .iaload, 0, 0, 0, 0) :: (191, .if_icmp .ge 41, 232, 0, 0, 0) :: (194, .aload_n 0, 0, 0, 0, 0) :: (195, .aload_n 0, 0, 0, 0, 0) ::
  (196, .getfield 224, 14, 39, 0, 1353) :: (199, .ifCond .ne 19, 218, 0, 0, 0) :: (202, .aload_n 0, 0, 0, 0, 0) :: (203, .getfield 26, 14, 9, 1, 1323) :: (206, .sipush 320, 0, 0, 0, 0) :: (209, .iload_n 3, 0, 0, 0, 0) :: (210, .iadd, 0, 0, 0, 0) :: (211, .caload, 0, 0, 0, 0) ::
  (212, .invokestatic 144, 117, 1, 0, 1495) :: (215, .ifCond .ne 7, 222, 0, 0, 0) :: bl_X12_judge_218
def bl_X12_judge_176 : List ax_R := (176, .aload_n 0, 0, 0, 0, 0) :: (177, .iconst 1, 0, 0, 0, 0) :: (178, .putfield 227, 14, 41, 0, 1355) :: (181, .iconst 0, 0, 0, 0, 0) :: (182, .istore_n 3, 0, 0, 0, 0) :: bl_X12_judge_183
def bl_X12_judge_173 : List ax_R := (173, .goto 70, 243, 0, 0, 0) :: bl_X12_judge_176
def bl_X12_judge_145 : List ax_R := (145, .iload_n 3, 0, 0, 0, 0) :: (146, .bipush 20, 0, 0, 0, 0) :: (148, .if_icmp .ge 25, 173, 0, 0, 0) :: (151, .aload_n 0, 0, 0, 0, 0) :: (152, .getfield 72, 14, 46, 1, 1360) :: (155, .iload_n 3, 0, 0, 0, 0) :: (156, .aload_n 0, 0, 0, 0, 0) :: (157, .getfield 32, 14, 11, 1, 1325) ::
  (160, .sipush 320, 0, 0, 0, 0) :: (163, .iload_n 3, 0, 0, 0, 0) :: (164, .iadd, 0, 0, 0, 0) :: (165, .caload, 0, 0, 0, 0) :: (166, .castore, 0, 0, 0, 0) :: (167, .iinc 3 1, 0, 0, 0, 0) :: (170, .goto (-25), 145, 0, 0, 0) :: bl_X12_judge_173
def bl_X12_judge_124 : List ax_R := (124, .putfield 224, 14, 39, 0, 1353) :: (127, .aload_n 0, 0, 0, 0, 0) :: (128, .iconst 1, 0, 0, 0, 0) :: (129, .putfield 236, 14, 43, 0, 1357) :: (132, .aload_n 0, 0, 0, 0, 0) :: (133, .aload_n 0, 0, 0, 0, 0) :: (134, .getfield 29, 14, 10, 1, 1324) :: (137, .bipush 16, 0, 0, 0, 0) ::
  (139, .iaload, 0, 0, 0, 0) :: (140, .putfield 239, 14, 45, 0, 1359) :: (143, .iconst 0, 0, 0, 0, 0) :: (144, .istore_n 3, 0, 0, 0, 0) :: bl_X12_judge_145
def bl_X12_judge_123 : List ax_R := (123, .iconst 0, 0, 0, 0, 0) :: bl_X12_judge_124
def bl_X12_judge_119 : List ax_R := (119, .iconst 1, 0, 0, 0, 0) :: (120, .goto 4, 124, 0, 0, 0) :: bl_X12_judge_123
def bl_X12_judge_93 : List ax_R := (93, .iload_n 2, 0, 0, 0, 0) :: (94, .ifCond .eq 82, 176, 0, 0, 0) :: (97, .aload_n 0, 0, 0, 0, 0) :: (98, .aload_n 0, 0, 0, 0, 0) :: (99, .getfield 224, 14, 39, 0, 1353) :: (102, .ifCond .ne 17, 119, 0, 0, 0) :: (105, .aload_n 0, 0, 0, 0, 0) :: (106, .getfield 227, 14, 41, 0, 1355) ::
  (109, .ifCond .ne 10, 119, 0, 0, 0) :: (112, .aload_n 0, 0, 0, 0, 0) :: (113, .getfield 236, 14, 43, 0, 1357) :: (116, .ifCond .eq 7, 123, 0, 0, 0) :: bl_X12_judge_119
def bl_X12_judge_79 : List ax_R := (79, .putfield 224, 14, 39, 0, 1353) :: (82, .aload_n 0, 0, 0, 0, 0) :: (83, .aload_n 0, 0, 0, 0, 0) :: (84, .invokevirtual 233, 144, 1, 14, 1628) :: (87, .putfield 230, 14, 42, 0, 1356) :: (90, .goto 153, 243, 0, 0, 0) :: bl_X12_judge_93
def bl_X12_judge_78 : List ax_R := (78, .iconst 0, 0, 0, 0, 0) :: bl_X12_judge_79
def bl_X12_judge_74 : List ax_R := (74, .iconst 1, 0, 0, 0, 0) :: (75, .goto 4, 79, 0, 0, 0) :: bl_X12_judge_78
def bl_X12_judge_26 : List ax_R := (26, .putfield 217, 14, 40, 0, 1354) :: (29, .aload_n 0, 0, 0, 0, 0) :: (30, .bipush 16, 0, 0, 0, 0) :: (32, .bipush 109, 0, 0, 0, 0) :: (34, .invokevirtual 220, 140, 3, 14, 1624) :: (37, .istore_n 1, 0, 0, 0, 0) :: (38, .aload_n 0, 0, 0, 0, 0) :: (39, .bipush 16, 0, 0, 0, 0) ::
  (41, .bipush 112, 0, 0, 0, 0) :: (43, .invokevirtual 220, 140, 3, 14, 1624) :: (46, .istore_n 2, 0, 0, 0, 0) :: (47, .iload_n 1, 0, 0, 0, 0) :: (48, .ifCond .eq 45, 93, 0, 0, 0) :: (51, .aload_n 0, 0, 0, 0, 0) :: (52, .aload_n 0, 0, 0, 0, 0) :: (53, .getfield 224, 14, 39, 0, 1353) ::
  (56, .ifCond .ne 18, 74, 0, 0, 0) :: (59, .aload_n 0, 0, 0, 0, 0) :: (60, .getfield 227, 14, 41, 0, 1355) :: (63, .ifCond .ne 11, 74, 0, 0, 0) :: (66, .aload_n 0, 0, 0, 0, 0) :: (67, .getfield 230, 14, 42, 0, 1356) :: (70, .iconst (-1), 0, 0, 0, 0) :: (71, .if_icmp .eq 7, 78, 0, 0, 0) :: bl_X12_judge_74
def bl_X12_judge_25 : List ax_R := (25, .iconst 0, 0, 0, 0, 0) :: bl_X12_judge_26
def bl_X12_judge_21 : List ax_R := (21, .iconst 1, 0, 0, 0, 0) :: (22, .goto 4, 26, 0, 0, 0) :: bl_X12_judge_25
def bl_X12_judge_0 : List ax_R := (0, .aload_n 0, 0, 0, 0, 0) :: (1, .aload_n 0, 0, 0, 0, 0) :: (2, .getfield 217, 14, 40, 0, 1354) :: (5, .ifCond .ne 16, 21, 0, 0, 0) :: (8, .aload_n 0, 0, 0, 0, 0) :: (9, .getfield 26, 14, 9, 1, 1323) :: (12, .sipush 320, 0, 0, 0, 0) :: (15, .caload, 0, 0, 0, 0) ::
  (16, .bipush 58, 0, 0, 0, 0) :: (18, .if_icmp .ne 7, 25, 0, 0, 0) :: bl_X12_judge_21
def pr_X12_judge : List ax_R := bl_X12_judge_0
def pt_X12_judge : ax_T := ((⟨"PageServerModel", "judge", "()V"⟩, prog_14_method_32_code, 4, none), 1623, 94, 1622, 67)
def bl_X12_isLength_64 : List ax_R := (64, .iload_n 1, 0, 0, 0, 0) :: (65, .ireturn, 0, 0, 0, 0) :: []
def bl_X12_isLength_57 : List ax_R := (57, .istore_n 1, 0, 0, 0, 0) :: (58, .iinc 2 1, 0, 0, 0, 0) :: (61, .goto (-41), 20, 0, 0, 0) :: bl_X12_isLength_64
def bl_X12_isLength_56 : List ax_R := (56, .iconst 0, 0, 0, 0, 0) :: bl_X12_isLength_57
def bl_X12_isLength_20 : List ax_R := (20, .iload_n 2, 0, 0, 0, 0) :: (21, .bipush 6, 0, 0, 0, 0) :: (23, .if_icmp .ge 41, 64, 0, 0, 0) :: (26, .iload_n 1, 0, 0, 0, 0) :: (27, .ifCond .eq 37, 64, 0, 0, 0) :: (30, .aload_n 0, 0, 0, 0, 0) :: (31, .getfield 26, 14, 9, 1, 1323) :: (34, .sipush 320, 0, 0, 0, 0) ::
  (37, .iload_n 2, 0, 0, 0, 0) :: (38, .iadd, 0, 0, 0, 0) :: (39, .caload, 0, 0, 0, 0) :: (40, .aload_n 0, 0, 0, 0, 0) :: (41, .getfield 26, 14, 9, 1, 1323) :: (44, .bipush 80, 0, 0, 0, 0) :: (46, .iload_n 2, 0, 0, 0, 0) :: (47, .iadd, 0, 0, 0, 0) ::
  (48, .caload, 0, 0, 0, 0) :: (49, .if_icmp .ne 7, 56, 0, 0, 0) :: (52, .iconst 1, 0, 0, 0, 0) :: (53, .goto 4, 57, 0, 0, 0) :: bl_X12_isLength_56
def bl_X12_isLength_17 : List ax_R := (17, .istore_n 1, 0, 0, 0, 0) :: (18, .iconst 0, 0, 0, 0, 0) :: (19, .istore_n 2, 0, 0, 0, 0) :: bl_X12_isLength_20
def bl_X12_isLength_16 : List ax_R := (16, .iconst 0, 0, 0, 0, 0) :: bl_X12_isLength_17
def bl_X12_isLength_0 : List ax_R := (0, .aload_n 0, 0, 0, 0, 0) :: (1, .getfield 23, 14, 8, 1, 1322) :: (4, .bipush 16, 0, 0, 0, 0) :: (6, .iaload, 0, 0, 0, 0) :: (7, .bipush 6, 0, 0, 0, 0) :: (9, .if_icmp .ne 7, 16, 0, 0, 0) :: (12, .iconst 1, 0, 0, 0, 0) :: (13, .goto 4, 17, 0, 0, 0) :: bl_X12_isLength_16
def pr_X12_isLength : List ax_R := bl_X12_isLength_0
def pt_X12_isLength : ax_T := ((⟨"PageServerModel", "isLength", "()Z"⟩, prog_14_method_33_code, 3, (some .boolean)), 1635, 94, 1634, 70)
def bl_X12_judgeLength_118 : List ax_R := (118, .aload_n 0, 0, 0, 0, 0) :: (119, .iload_n 1, 0, 0, 0, 0) :: (120, .putfield 249, 14, 44, 0, 1358) :: (123, .return_, 0, 0, 0, 0) :: []
def bl_X12_judgeLength_87 : List ax_R := (87, .putfield 224, 14, 39, 0, 1353) :: (90, .bipush 10, 0, 0, 0, 0) :: (92, .iload_n 1, 0, 0, 0, 0) :: (93, .imul, 0, 0, 0, 0) :: (94, .aload_n 0, 0, 0, 0, 0) :: (95, .getfield 32, 14, 11, 1, 1325) :: (98, .sipush 320, 0, 0, 0, 0) :: (101, .iload_n 2, 0, 0, 0, 0) ::
  (102, .iadd, 0, 0, 0, 0) :: (103, .caload, 0, 0, 0, 0) :: (104, .iadd, 0, 0, 0, 0) :: (105, .bipush 48, 0, 0, 0, 0) :: (107, .isub, 0, 0, 0, 0) :: (108, .ldc 252, 100000, 0, 0, 1640) :: (110, .irem, 0, 0, 0, 0) :: (111, .istore_n 1, 0, 0, 0, 0) ::
  (112, .iinc 2 1, 0, 0, 0, 0) :: (115, .goto (-72), 43, 0, 0, 0) :: bl_X12_judgeLength_118
def bl_X12_judgeLength_86 : List ax_R := (86, .iconst 0, 0, 0, 0, 0) :: bl_X12_judgeLength_87
def bl_X12_judgeLength_82 : List ax_R := (82, .iconst 1, 0, 0, 0, 0) :: (83, .goto 4, 87, 0, 0, 0) :: bl_X12_judgeLength_86
def bl_X12_judgeLength_43 : List ax_R := (43, .iload_n 2, 0, 0, 0, 0) :: (44, .aload_n 0, 0, 0, 0, 0) :: (45, .getfield 29, 14, 10, 1, 1324) :: (48, .bipush 16, 0, 0, 0, 0) :: (50, .iaload, 0, 0, 0, 0) :: (51, .if_icmp .ge 67, 118, 0, 0, 0) :: (54, .aload_n 0, 0, 0, 0, 0) :: (55, .aload_n 0, 0, 0, 0, 0) ::
  (56, .getfield 224, 14, 39, 0, 1353) :: (59, .ifCond .ne 23, 82, 0, 0, 0) :: (62, .aload_n 0, 0, 0, 0, 0) :: (63, .getfield 32, 14, 11, 1, 1325) :: (66, .sipush 320, 0, 0, 0, 0) :: (69, .iload_n 2, 0, 0, 0, 0) :: (70, .iadd, 0, 0, 0, 0) :: (71, .caload, 0, 0, 0, 0) ::
  (72, .bipush 48, 0, 0, 0, 0) :: (74, .bipush 57, 0, 0, 0, 0) :: (76, .invokestatic 158, 114, 3, 0, 1501) :: (79, .ifCond .eq 7, 86, 0, 0, 0) :: bl_X12_judgeLength_82
def bl_X12_judgeLength_36 : List ax_R := (36, .putfield 224, 14, 39, 0, 1353) :: (39, .iconst 0, 0, 0, 0, 0) :: (40, .istore_n 1, 0, 0, 0, 0) :: (41, .iconst 0, 0, 0, 0, 0) :: (42, .istore_n 2, 0, 0, 0, 0) :: bl_X12_judgeLength_43
def bl_X12_judgeLength_35 : List ax_R := (35, .iconst 0, 0, 0, 0, 0) :: bl_X12_judgeLength_36
def bl_X12_judgeLength_31 : List ax_R := (31, .iconst 1, 0, 0, 0, 0) :: (32, .goto 4, 36, 0, 0, 0) :: bl_X12_judgeLength_35
def bl_X12_judgeLength_0 : List ax_R := (0, .aload_n 0, 0, 0, 0, 0) :: (1, .aload_n 0, 0, 0, 0, 0) :: (2, .getfield 224, 14, 39, 0, 1353) :: (5, .ifCond .ne 26, 31, 0, 0, 0) :: (8, .aload_n 0, 0, 0, 0, 0) :: (9, .getfield 249, 14, 44, 0, 1358) :: (12, .iconst (-1), 0, 0, 0, 0) :: (13, .if_icmp .ne 18, 31, 0, 0, 0) ::
  (16, .aload_n 0, 0, 0, 0, 0) :: (17, .getfield 29, 14, 10, 1, 1324) :: (20, .bipush 16, 0, 0, 0, 0) :: (22, .iaload, 0, 0, 0, 0) :: (23, .iconst 1, 0, 0, 0, 0) :: (24, .iconst 3, 0, 0, 0, 0) :: (25, .invokestatic 158, 114, 3, 0, 1501) :: (28, .ifCond .eq 7, 35, 0, 0, 0) :: bl_X12_judgeLength_31
def pr_X12_judgeLength : List ax_R := bl_X12_judgeLength_0
def pt_X12_judgeLength : ax_T := ((⟨"PageServerModel", "judgeLength", "()V"⟩, prog_14_method_34_code, 3, none), 1639, 94, 1638, 71)
def bl_X12_methodOf_130 : List ax_R := (130, .ireturn, 0, 0, 0, 0) :: []
def bl_X12_methodOf_129 : List ax_R := (129, .iconst 2, 0, 0, 0, 0) :: bl_X12_methodOf_130
def bl_X12_methodOf_121 : List ax_R := (121, .iload_n 2, 0, 0, 0, 0) :: (122, .ifCond .eq 7, 129, 0, 0, 0) :: (125, .iconst 1, 0, 0, 0, 0) :: (126, .goto 4, 130, 0, 0, 0) :: bl_X12_methodOf_129
def bl_X12_methodOf_113 : List ax_R := (113, .iload_n 1, 0, 0, 0, 0) :: (114, .ifCond .eq 7, 121, 0, 0, 0) :: (117, .iconst 0, 0, 0, 0, 0) :: (118, .goto 12, 130, 0, 0, 0) :: bl_X12_methodOf_121
def bl_X12_methodOf_106 : List ax_R := (106, .istore_n 2, 0, 0, 0, 0) :: (107, .iinc 3 1, 0, 0, 0, 0) :: (110, .goto (-74), 36, 0, 0, 0) :: bl_X12_methodOf_113
def bl_X12_methodOf_105 : List ax_R := (105, .iconst 0, 0, 0, 0, 0) :: bl_X12_methodOf_106
def bl_X12_methodOf_74 : List ax_R := (74, .istore_n 1, 0, 0, 0, 0) :: (75, .iload_n 2, 0, 0, 0, 0) :: (76, .ifCond .eq 29, 105, 0, 0, 0) :: (79, .aload_n 0, 0, 0, 0, 0) :: (80, .getfield 32, 14, 11, 1, 1325) :: (83, .sipush 320, 0, 0, 0, 0) :: (86, .iload_n 3, 0, 0, 0, 0) :: (87, .iadd, 0, 0, 0, 0) ::
  (88, .caload, 0, 0, 0, 0) :: (89, .aload_n 0, 0, 0, 0, 0) :: (90, .getfield 32, 14, 11, 1, 1325) :: (93, .bipush 20, 0, 0, 0, 0) :: (95, .iload_n 3, 0, 0, 0, 0) :: (96, .iadd, 0, 0, 0, 0) :: (97, .caload, 0, 0, 0, 0) :: (98, .if_icmp .ne 7, 105, 0, 0, 0) ::
  (101, .iconst 1, 0, 0, 0, 0) :: (102, .goto 4, 106, 0, 0, 0) :: bl_X12_methodOf_105
def bl_X12_methodOf_73 : List ax_R := (73, .iconst 0, 0, 0, 0, 0) :: bl_X12_methodOf_74
def bl_X12_methodOf_69 : List ax_R := (69, .iconst 1, 0, 0, 0, 0) :: (70, .goto 4, 74, 0, 0, 0) :: bl_X12_methodOf_73
def bl_X12_methodOf_36 : List ax_R := (36, .iload_n 3, 0, 0, 0, 0) :: (37, .iconst 4, 0, 0, 0, 0) :: (38, .if_icmp .ge 75, 113, 0, 0, 0) :: (41, .iload_n 1, 0, 0, 0, 0) :: (42, .ifCond .eq 31, 73, 0, 0, 0) :: (45, .iload_n 3, 0, 0, 0, 0) :: (46, .iconst 3, 0, 0, 0, 0) :: (47, .if_icmp .eq 22, 69, 0, 0, 0) ::
  (50, .aload_n 0, 0, 0, 0, 0) :: (51, .getfield 32, 14, 11, 1, 1325) :: (54, .sipush 320, 0, 0, 0, 0) :: (57, .iload_n 3, 0, 0, 0, 0) :: (58, .iadd, 0, 0, 0, 0) :: (59, .caload, 0, 0, 0, 0) :: (60, .aload_n 0, 0, 0, 0, 0) :: (61, .getfield 32, 14, 11, 1, 1325) ::
  (64, .iload_n 3, 0, 0, 0, 0) :: (65, .caload, 0, 0, 0, 0) :: (66, .if_icmp .ne 7, 73, 0, 0, 0) :: bl_X12_methodOf_69
def bl_X12_methodOf_33 : List ax_R := (33, .istore_n 2, 0, 0, 0, 0) :: (34, .iconst 0, 0, 0, 0, 0) :: (35, .istore_n 3, 0, 0, 0, 0) :: bl_X12_methodOf_36
def bl_X12_methodOf_32 : List ax_R := (32, .iconst 0, 0, 0, 0, 0) :: bl_X12_methodOf_33
def bl_X12_methodOf_16 : List ax_R := (16, .istore_n 1, 0, 0, 0, 0) :: (17, .aload_n 0, 0, 0, 0, 0) :: (18, .getfield 29, 14, 10, 1, 1324) :: (21, .bipush 16, 0, 0, 0, 0) :: (23, .iaload, 0, 0, 0, 0) :: (24, .iconst 4, 0, 0, 0, 0) :: (25, .if_icmp .ne 7, 32, 0, 0, 0) :: (28, .iconst 1, 0, 0, 0, 0) ::
  (29, .goto 4, 33, 0, 0, 0) :: bl_X12_methodOf_32
def bl_X12_methodOf_15 : List ax_R := (15, .iconst 0, 0, 0, 0, 0) :: bl_X12_methodOf_16
def bl_X12_methodOf_0 : List ax_R := (0, .aload_n 0, 0, 0, 0, 0) :: (1, .getfield 29, 14, 10, 1, 1324) :: (4, .bipush 16, 0, 0, 0, 0) :: (6, .iaload, 0, 0, 0, 0) :: (7, .iconst 3, 0, 0, 0, 0) :: (8, .if_icmp .ne 7, 15, 0, 0, 0) :: (11, .iconst 1, 0, 0, 0, 0) :: (12, .goto 4, 16, 0, 0, 0) :: bl_X12_methodOf_15
def pr_X12_methodOf : List ax_R := bl_X12_methodOf_0
def pt_X12_methodOf : ax_T := ((⟨"PageServerModel", "methodOf", "()I"⟩, prog_14_method_35_code, 4, (some .int)), 1631, 94, 1630, 69)
def bl_X12_readBlock_74 : List ax_R := (74, .aload_n 0, 0, 0, 0, 0) :: (75, .getfield 192, 14, 37, 0, 1351) :: (78, .ireturn, 0, 0, 0, 0) :: []
def bl_X12_readBlock_45 : List ax_R := (45, .aload_n 0, 0, 0, 0, 0) :: (46, .getfield 192, 14, 37, 0, 1351) :: (49, .ifCond .eq 25, 74, 0, 0, 0) :: (52, .aload_n 0, 0, 0, 0, 0) :: (53, .getfield 195, 14, 36, 0, 1350) :: (56, .aload_n 0, 0, 0, 0, 0) :: (57, .getfield 108, 14, 34, 0, 1348) :: (60, .if_icmp .ge 14, 74, 0, 0, 0) ::
  (63, .aload_n 0, 0, 0, 0, 0) :: (64, .aload_n 0, 0, 0, 0, 0) :: (65, .invokevirtual 198, 136, 1, 14, 1584) :: (68, .invokevirtual 253, 139, 2, 14, 1588) :: (71, .goto (-26), 45, 0, 0, 0) :: bl_X12_readBlock_74
def bl_X12_readBlock_0 : List ax_R := (0, .aload_n 0, 0, 0, 0, 0) :: (1, .iconst 0, 0, 0, 0, 0) :: (2, .putfield 195, 14, 36, 0, 1350) :: (5, .aload_n 0, 0, 0, 0, 0) :: (6, .iconst 1, 0, 0, 0, 0) :: (7, .putfield 192, 14, 37, 0, 1351) :: (10, .aload_n 0, 0, 0, 0, 0) :: (11, .iconst 0, 0, 0, 0, 0) ::
  (12, .putfield 211, 14, 38, 0, 1352) :: (15, .aload_n 0, 0, 0, 0, 0) :: (16, .iconst 0, 0, 0, 0, 0) :: (17, .putfield 224, 14, 39, 0, 1353) :: (20, .aload_n 0, 0, 0, 0, 0) :: (21, .iconst 0, 0, 0, 0, 0) :: (22, .putfield 217, 14, 40, 0, 1354) :: (25, .aload_n 0, 0, 0, 0, 0) ::
  (26, .iconst 0, 0, 0, 0, 0) :: (27, .putfield 227, 14, 41, 0, 1355) :: (30, .aload_n 0, 0, 0, 0, 0) :: (31, .iconst (-1), 0, 0, 0, 0) :: (32, .putfield 230, 14, 42, 0, 1356) :: (35, .aload_n 0, 0, 0, 0, 0) :: (36, .iconst 0, 0, 0, 0, 0) :: (37, .putfield 236, 14, 43, 0, 1357) ::
  (40, .aload_n 0, 0, 0, 0, 0) :: (41, .iconst (-1), 0, 0, 0, 0) :: (42, .putfield 249, 14, 44, 0, 1358) :: bl_X12_readBlock_45
def pr_X12_readBlock : List ax_R := bl_X12_readBlock_0
def pt_X12_readBlock : ax_T := ((⟨"PageServerModel", "readBlock", "()Z"⟩, prog_14_method_36_code, 1, (some .boolean)), 1583, 94, 1582, 57)
def bl_X12_unpad_77 : List ax_R := (77, .putfield 265, 14, 30, 0, 1344) :: (80, .iload_n 2, 0, 0, 0, 0) :: (81, .ireturn, 0, 0, 0, 0) :: []
def bl_X12_unpad_73 : List ax_R := (73, .aload_n 0, 0, 0, 0, 0) :: (74, .getfield 259, 14, 28, 0, 1342) :: bl_X12_unpad_77
def bl_X12_unpad_47 : List ax_R := (47, .putfield 262, 14, 29, 0, 1343) :: (50, .aload_n 0, 0, 0, 0, 0) :: (51, .iload_n 1, 0, 0, 0, 0) :: (52, .ifCond .eq 21, 73, 0, 0, 0) :: (55, .iload_n 2, 0, 0, 0, 0) :: (56, .ifCond .eq 17, 73, 0, 0, 0) :: (59, .aload_n 0, 0, 0, 0, 0) :: (60, .getfield 259, 14, 28, 0, 1342) ::
  (63, .aload_n 0, 0, 0, 0, 0) :: (64, .getfield 66, 14, 24, 1, 1338) :: (67, .iconst 4, 0, 0, 0, 0) :: (68, .iaload, 0, 0, 0, 0) :: (69, .isub, 0, 0, 0, 0) :: (70, .goto 7, 77, 0, 0, 0) :: bl_X12_unpad_73
def bl_X12_unpad_46 : List ax_R := (46, .iconst 0, 0, 0, 0, 0) :: bl_X12_unpad_47
def bl_X12_unpad_36 : List ax_R := (36, .istore_n 2, 0, 0, 0, 0) :: (37, .aload_n 0, 0, 0, 0, 0) :: (38, .iload_n 1, 0, 0, 0, 0) :: (39, .ifCond .eq 7, 46, 0, 0, 0) :: (42, .iconst 1, 0, 0, 0, 0) :: (43, .goto 4, 47, 0, 0, 0) :: bl_X12_unpad_46
def bl_X12_unpad_35 : List ax_R := (35, .iconst 0, 0, 0, 0, 0) :: bl_X12_unpad_36
def bl_X12_unpad_31 : List ax_R := (31, .iconst 1, 0, 0, 0, 0) :: (32, .goto 4, 36, 0, 0, 0) :: bl_X12_unpad_35
def bl_X12_unpad_0 : List ax_R := (0, .aload_n 0, 0, 0, 0, 0) :: (1, .bipush 8, 0, 0, 0, 0) :: (3, .invokevirtual 256, 130, 2, 14, 1540) :: (6, .istore_n 1, 0, 0, 0, 0) :: (7, .iload_n 1, 0, 0, 0, 0) :: (8, .ifCond .eq 23, 31, 0, 0, 0) :: (11, .aload_n 0, 0, 0, 0, 0) :: (12, .getfield 259, 14, 28, 0, 1342) ::
  (15, .ifCond .le 20, 35, 0, 0, 0) :: (18, .aload_n 0, 0, 0, 0, 0) :: (19, .getfield 66, 14, 24, 1, 1338) :: (22, .iconst 4, 0, 0, 0, 0) :: (23, .iaload, 0, 0, 0, 0) :: (24, .aload_n 0, 0, 0, 0, 0) :: (25, .getfield 259, 14, 28, 0, 1342) :: (28, .if_icmp .ge 7, 35, 0, 0, 0) :: bl_X12_unpad_31
def pr_X12_unpad : List ax_R := bl_X12_unpad_0
def pt_X12_unpad : ax_T := ((⟨"PageServerModel", "unpad", "()Z"⟩, prog_14_method_37_code, 3, (some .boolean)), 1555, 94, 1554, 50)
def bl_X12_data_143 : List ax_R := (143, .iconst 0, 0, 0, 0, 0) :: (144, .ireturn, 0, 0, 0, 0) :: []
def bl_X12_data_124 : List ax_R := (124, .aload_n 0, 0, 0, 0, 0) :: (125, .getfield 259, 14, 28, 0, 1342) :: (128, .ifCond .le 15, 143, 0, 0, 0) :: (131, .aload_n 0, 0, 0, 0, 0) :: (132, .aload_n 0, 0, 0, 0, 0) :: (133, .getfield 268, 14, 27, 0, 1341) :: (136, .aload_n 0, 0, 0, 0, 0) :: (137, .getfield 259, 14, 28, 0, 1342) ::
  (140, .invokevirtual 277, 125, 3, 14, 1556) :: bl_X12_data_143
def bl_X12_data_92 : List ax_R := (92, .aload_n 0, 0, 0, 0, 0) :: (93, .getfield 41, 14, 14, 1, 1328) :: (96, .iload_n 1, 0, 0, 0, 0) :: (97, .dup2, 0, 0, 0, 0) :: (98, .iaload, 0, 0, 0, 0) :: (99, .aload_n 0, 0, 0, 0, 0) :: (100, .getfield 265, 14, 30, 0, 1344) :: (103, .aload_n 0, 0, 0, 0, 0) ::
  (104, .getfield 262, 14, 29, 0, 1343) :: (107, .isub, 0, 0, 0, 0) :: (108, .iadd, 0, 0, 0, 0) :: (109, .iastore, 0, 0, 0, 0) :: (110, .aload_n 0, 0, 0, 0, 0) :: (111, .iconst 1, 0, 0, 0, 0) :: (112, .invokevirtual 256, 130, 2, 14, 1540) :: (115, .ifCond .eq 9, 124, 0, 0, 0) ::
  (118, .aload_n 0, 0, 0, 0, 0) :: (119, .iload_n 1, 0, 0, 0, 0) :: (120, .invokevirtual 280, 148, 2, 14, 1564) :: (123, .ireturn, 0, 0, 0, 0) :: bl_X12_data_124
def bl_X12_data_80 : List ax_R := (80, .aload_n 0, 0, 0, 0, 0) :: (81, .getfield 259, 14, 28, 0, 1342) :: (84, .bipush 50, 0, 0, 0, 0) :: (86, .if_icmp .le 6, 92, 0, 0, 0) :: (89, .bipush 103, 0, 0, 0, 0) :: (91, .ireturn, 0, 0, 0, 0) :: bl_X12_data_92
def bl_X12_data_77 : List ax_R := (77, .bipush 105, 0, 0, 0, 0) :: (79, .ireturn, 0, 0, 0, 0) :: bl_X12_data_80
def bl_X12_data_54 : List ax_R := (54, .aload_n 0, 0, 0, 0, 0) :: (55, .aload_n 0, 0, 0, 0, 0) :: (56, .getfield 268, 14, 27, 0, 1341) :: (59, .invokevirtual 173, 126, 2, 14, 1560) :: (62, .istore_n 1, 0, 0, 0, 0) :: (63, .iload_n 1, 0, 0, 0, 0) :: (64, .iconst (-1), 0, 0, 0, 0) :: (65, .if_icmp .eq 12, 77, 0, 0, 0) ::
  (68, .aload_n 0, 0, 0, 0, 0) :: (69, .getfield 53, 14, 18, 1, 1332) :: (72, .iload_n 1, 0, 0, 0, 0) :: (73, .baload, 0, 0, 1, 0) :: (74, .ifCond .eq 6, 80, 0, 0, 0) :: bl_X12_data_77
def bl_X12_data_38 : List ax_R := (38, .aload_n 0, 0, 0, 0, 0) :: (39, .getfield 259, 14, 28, 0, 1342) :: (42, .ifCond .le 12, 54, 0, 0, 0) :: (45, .aload_n 0, 0, 0, 0, 0) :: (46, .iconst 0, 0, 0, 0, 0) :: (47, .aload_n 0, 0, 0, 0, 0) :: (48, .getfield 259, 14, 28, 0, 1342) :: (51, .invokevirtual 277, 125, 3, 14, 1556) :: bl_X12_data_54
def bl_X12_data_27 : List ax_R := (27, .aload_n 0, 0, 0, 0, 0) :: (28, .getfield 259, 14, 28, 0, 1342) :: (31, .bipush 80, 0, 0, 0, 0) :: (33, .if_icmp .le 5, 38, 0, 0, 0) :: (36, .iconst 3, 0, 0, 0, 0) :: (37, .ireturn, 0, 0, 0, 0) :: bl_X12_data_38
def bl_X12_data_25 : List ax_R := (25, .iconst 1, 0, 0, 0, 0) :: (26, .ireturn, 0, 0, 0, 0) :: bl_X12_data_27
def bl_X12_data_0 : List ax_R := (0, .aload_n 0, 0, 0, 0, 0) :: (1, .getfield 268, 14, 27, 0, 1341) :: (4, .ifCond .eq 21, 25, 0, 0, 0) :: (7, .aload_n 0, 0, 0, 0, 0) :: (8, .aload_n 0, 0, 0, 0, 0) :: (9, .getfield 268, 14, 27, 0, 1341) :: (12, .invokevirtual 271, 129, 2, 14, 1548) :: (15, .ifCond .ne 10, 25, 0, 0, 0) ::
  (18, .aload_n 0, 0, 0, 0, 0) :: (19, .invokevirtual 274, 146, 1, 14, 1552) :: (22, .ifCond .ne 5, 27, 0, 0, 0) :: bl_X12_data_25
def pr_X12_data : List ax_R := bl_X12_data_0
def pt_X12_data : ax_T := ((⟨"PageServerModel", "data", "()I"⟩, prog_14_method_38_code, 2, (some .int)), 1547, 94, 1546, 48)
def bl_X12_close_35 : List ax_R := (35, .aload_n 0, 0, 0, 0, 0) :: (36, .iload_n 1, 0, 0, 0, 0) :: (37, .invokevirtual 283, 149, 2, 14, 1568) :: (40, .iconst 0, 0, 0, 0, 0) :: (41, .ireturn, 0, 0, 0, 0) :: []
def bl_X12_close_0 : List ax_R := (0, .aload_n 0, 0, 0, 0, 0) :: (1, .getfield 53, 14, 18, 1, 1332) :: (4, .iload_n 1, 0, 0, 0, 0) :: (5, .iconst 1, 0, 0, 0, 0) :: (6, .bastore, 0, 0, 1, 0) :: (7, .aload_n 0, 0, 0, 0, 0) :: (8, .getfield 44, 14, 15, 1, 1329) :: (11, .iload_n 1, 0, 0, 0, 0) ::
  (12, .iaload, 0, 0, 0, 0) :: (13, .iconst (-1), 0, 0, 0, 0) :: (14, .if_icmp .eq 21, 35, 0, 0, 0) :: (17, .aload_n 0, 0, 0, 0, 0) :: (18, .getfield 44, 14, 15, 1, 1329) :: (21, .iload_n 1, 0, 0, 0, 0) :: (22, .iaload, 0, 0, 0, 0) :: (23, .aload_n 0, 0, 0, 0, 0) ::
  (24, .getfield 41, 14, 14, 1, 1328) :: (27, .iload_n 1, 0, 0, 0, 0) :: (28, .iaload, 0, 0, 0, 0) :: (29, .if_icmp .eq 6, 35, 0, 0, 0) :: (32, .bipush 101, 0, 0, 0, 0) :: (34, .ireturn, 0, 0, 0, 0) :: bl_X12_close_35
def pr_X12_close : List ax_R := bl_X12_close_0
def pt_X12_close : ax_T := ((⟨"PageServerModel", "close", "(I)I"⟩, prog_14_method_39_code, 2, (some .int)), 1567, 94, 1566, 53)
def bl_X12_answer_191 : List ax_R := (191, .return_, 0, 0, 0, 0) :: []
def bl_X12_answer_179 : List ax_R := (179, .iastore, 0, 0, 0, 0) :: (180, .iload_n 3, 0, 0, 0, 0) :: (181, .ifCond .ne 10, 191, 0, 0, 0) :: (184, .aload_n 0, 0, 0, 0, 0) :: (185, .getfield 35, 14, 12, 1, 1326) :: (188, .iload_n 1, 0, 0, 0, 0) :: (189, .iconst 0, 0, 0, 0, 0) :: (190, .iastore, 0, 0, 0, 0) :: bl_X12_answer_191
def bl_X12_answer_173 : List ax_R := (173, .aload_n 0, 0, 0, 0, 0) :: (174, .getfield 20, 14, 5, 1, 1319) :: (177, .iload_n 2, 0, 0, 0, 0) :: (178, .iaload, 0, 0, 0, 0) :: bl_X12_answer_179
def bl_X12_answer_153 : List ax_R := (153, .aload_n 0, 0, 0, 0, 0) :: (154, .getfield 47, 14, 16, 1, 1330) :: (157, .iload_n 1, 0, 0, 0, 0) :: (158, .iload_n 3, 0, 0, 0, 0) :: (159, .iastore, 0, 0, 0, 0) :: (160, .aload_n 0, 0, 0, 0, 0) :: (161, .getfield 50, 14, 17, 1, 1331) :: (164, .iload_n 1, 0, 0, 0, 0) ::
  (165, .iload_n 3, 0, 0, 0, 0) :: (166, .ifCond .ne 7, 173, 0, 0, 0) :: (169, .iconst 0, 0, 0, 0, 0) :: (170, .goto 9, 179, 0, 0, 0) :: bl_X12_answer_173
def bl_X12_answer_124 : List ax_R := (124, .aload_n 0, 0, 0, 0, 0) :: (125, .bipush 6, 0, 0, 0, 0) :: (127, .invokevirtual 136, 123, 2, 14, 1310) :: (130, .aload_n 0, 0, 0, 0, 0) :: (131, .iconst 3, 0, 0, 0, 0) :: (132, .invokevirtual 136, 123, 2, 14, 1310) :: (135, .aload_n 0, 0, 0, 0, 0) :: (136, .bipush 52, 0, 0, 0, 0) ::
  (138, .invokevirtual 136, 123, 2, 14, 1310) :: (141, .aload_n 0, 0, 0, 0, 0) :: (142, .bipush 48, 0, 0, 0, 0) :: (144, .invokevirtual 136, 123, 2, 14, 1310) :: (147, .aload_n 0, 0, 0, 0, 0) :: (148, .bipush 53, 0, 0, 0, 0) :: (150, .invokevirtual 136, 123, 2, 14, 1310) :: bl_X12_answer_153
def bl_X12_answer_118 : List ax_R := (118, .invokevirtual 136, 123, 2, 14, 1310) :: (121, .goto 32, 153, 0, 0, 0) :: bl_X12_answer_124
def bl_X12_answer_115 : List ax_R := (115, .sipush 134, 0, 0, 0, 0) :: bl_X12_answer_118
def bl_X12_answer_84 : List ax_R := (84, .aload_n 0, 0, 0, 0, 0) :: (85, .getfield 35, 14, 12, 1, 1326) :: (88, .iload_n 1, 0, 0, 0, 0) :: (89, .iaload, 0, 0, 0, 0) :: (90, .invokevirtual 132, 124, 5, 14, 1306) :: (93, .aload_n 0, 0, 0, 0, 0) :: (94, .getfield 57, 14, 19, 1, 1333) :: (97, .iload_n 1, 0, 0, 0, 0) ::
  (98, .iaload, 0, 0, 0, 0) :: (99, .iconst 2, 0, 0, 0, 0) :: (100, .if_icmp .ge 24, 124, 0, 0, 0) :: (103, .aload_n 0, 0, 0, 0, 0) :: (104, .iload_n 2, 0, 0, 0, 0) :: (105, .iconst (-1), 0, 0, 0, 0) :: (106, .if_icmp .ne 9, 115, 0, 0, 0) :: (109, .sipush 135, 0, 0, 0, 0) ::
  (112, .goto 6, 118, 0, 0, 0) :: bl_X12_answer_115
def bl_X12_answer_83 : List ax_R := (83, .iconst 4, 0, 0, 0, 0) :: bl_X12_answer_84
def bl_X12_answer_74 : List ax_R := (74, .iconst 1, 0, 0, 0, 0) :: (75, .iload_n 3, 0, 0, 0, 0) :: (76, .ifCond .ne 7, 83, 0, 0, 0) :: (79, .iconst 5, 0, 0, 0, 0) :: (80, .goto 4, 84, 0, 0, 0) :: bl_X12_answer_83
def bl_X12_answer_73 : List ax_R := (73, .iconst 5, 0, 0, 0, 0) :: bl_X12_answer_74
def bl_X12_answer_57 : List ax_R := (57, .istore_n 3, 0, 0, 0, 0) :: (58, .aload_n 0, 0, 0, 0, 0) :: (59, .aload_n 0, 0, 0, 0, 0) :: (60, .getfield 57, 14, 19, 1, 1333) :: (63, .iload_n 1, 0, 0, 0, 0) :: (64, .iaload, 0, 0, 0, 0) :: (65, .iconst 2, 0, 0, 0, 0) :: (66, .if_icmp .ge 7, 73, 0, 0, 0) ::
  (69, .iconst 1, 0, 0, 0, 0) :: (70, .goto 4, 74, 0, 0, 0) :: bl_X12_answer_73
def bl_X12_answer_56 : List ax_R := (56, .iconst 0, 0, 0, 0, 0) :: bl_X12_answer_57
def bl_X12_answer_32 : List ax_R := (32, .istore_n 2, 0, 0, 0, 0) :: (33, .aload_n 0, 0, 0, 0, 0) :: (34, .getfield 57, 14, 19, 1, 1333) :: (37, .iload_n 1, 0, 0, 0, 0) :: (38, .iaload, 0, 0, 0, 0) :: (39, .ifCond .ne 17, 56, 0, 0, 0) :: (42, .iload_n 2, 0, 0, 0, 0) :: (43, .iconst (-1), 0, 0, 0, 0) ::
  (44, .if_icmp .eq 12, 56, 0, 0, 0) :: (47, .aload_n 0, 0, 0, 0, 0) :: (48, .getfield 17, 14, 4, 1, 1318) :: (51, .iload_n 2, 0, 0, 0, 0) :: (52, .iaload, 0, 0, 0, 0) :: (53, .goto 4, 57, 0, 0, 0) :: bl_X12_answer_56
def bl_X12_answer_31 : List ax_R := (31, .iconst (-1), 0, 0, 0, 0) :: bl_X12_answer_32
def bl_X12_answer_0 : List ax_R := (0, .aload_n 0, 0, 0, 0, 0) :: (1, .getfield 57, 14, 19, 1, 1333) :: (4, .iload_n 1, 0, 0, 0, 0) :: (5, .iaload, 0, 0, 0, 0) :: (6, .iconst 2, 0, 0, 0, 0) :: (7, .if_icmp .ge 24, 31, 0, 0, 0) :: (10, .aload_n 0, 0, 0, 0, 0) :: (11, .aload_n 0, 0, 0, 0, 0) ::
  (12, .getfield 63, 14, 21, 1, 1335) :: (15, .bipush 20, 0, 0, 0, 0) :: (17, .iload_n 1, 0, 0, 0, 0) :: (18, .imul, 0, 0, 0, 0) :: (19, .aload_n 0, 0, 0, 0, 0) :: (20, .getfield 60, 14, 20, 1, 1334) :: (23, .iload_n 1, 0, 0, 0, 0) :: (24, .iaload, 0, 0, 0, 0) ::
  (25, .invokevirtual 169, 120, 4, 14, 1512) :: (28, .goto 4, 32, 0, 0, 0) :: bl_X12_answer_31
def pr_X12_answer : List ax_R := bl_X12_answer_0
def pt_X12_answer : ax_T := ((⟨"PageServerModel", "answer", "(I)V"⟩, prog_14_method_40_code, 4, none), 1571, 94, 1570, 54)
def bl_X12_headers_54 : List ax_R := (54, .aload_n 0, 0, 0, 0, 0) :: (55, .iconst 0, 0, 0, 0, 0) :: (56, .putfield 108, 14, 34, 0, 1348) :: (59, .aload_n 0, 0, 0, 0, 0) :: (60, .aload_n 0, 0, 0, 0, 0) :: (61, .getfield 268, 14, 27, 0, 1341) :: (64, .putfield 105, 14, 32, 0, 1346) :: (67, .aload_n 0, 0, 0, 0, 0) ::
  (68, .aload_n 0, 0, 0, 0, 0) :: (69, .iconst 1, 0, 0, 0, 0) :: (70, .invokevirtual 256, 130, 2, 14, 1540) :: (73, .putfield 286, 14, 33, 0, 1347) :: (76, .aload_n 0, 0, 0, 0, 0) :: (77, .invokevirtual 289, 151, 1, 14, 1576) :: (80, .ireturn, 0, 0, 0, 0) :: []
def bl_X12_headers_52 : List ax_R := (52, .iconst 5, 0, 0, 0, 0) :: (53, .ireturn, 0, 0, 0, 0) :: bl_X12_headers_54
def bl_X12_headers_18 : List ax_R := (18, .aload_n 0, 0, 0, 0, 0) :: (19, .aload_n 0, 0, 0, 0, 0) :: (20, .getfield 268, 14, 27, 0, 1341) :: (23, .invokevirtual 173, 126, 2, 14, 1560) :: (26, .istore_n 1, 0, 0, 0, 0) :: (27, .aload_n 0, 0, 0, 0, 0) :: (28, .getfield 268, 14, 27, 0, 1341) :: (31, .aload_n 0, 0, 0, 0, 0) ::
  (32, .getfield 111, 14, 47, 0, 1361) :: (35, .if_icmp .gt 19, 54, 0, 0, 0) :: (38, .iload_n 1, 0, 0, 0, 0) :: (39, .iconst (-1), 0, 0, 0, 0) :: (40, .if_icmp .eq 12, 52, 0, 0, 0) :: (43, .aload_n 0, 0, 0, 0, 0) :: (44, .getfield 53, 14, 18, 1, 1332) :: (47, .iload_n 1, 0, 0, 0, 0) ::
  (48, .baload, 0, 0, 1, 0) :: (49, .ifCond .eq 5, 54, 0, 0, 0) :: bl_X12_headers_52
def bl_X12_headers_16 : List ax_R := (16, .iconst 1, 0, 0, 0, 0) :: (17, .ireturn, 0, 0, 0, 0) :: bl_X12_headers_18
def bl_X12_headers_0 : List ax_R := (0, .aload_n 0, 0, 0, 0, 0) :: (1, .getfield 268, 14, 27, 0, 1341) :: (4, .iconst 2, 0, 0, 0, 0) :: (5, .irem, 0, 0, 0, 0) :: (6, .ifCond .eq 10, 16, 0, 0, 0) :: (9, .aload_n 0, 0, 0, 0, 0) :: (10, .invokevirtual 274, 146, 1, 14, 1552) :: (13, .ifCond .ne 5, 18, 0, 0, 0) :: bl_X12_headers_16
def pr_X12_headers : List ax_R := bl_X12_headers_0
def pt_X12_headers : ax_T := ((⟨"PageServerModel", "headers", "()I"⟩, prog_14_method_41_code, 2, (some .int)), 1575, 94, 1574, 55)
def bl_X12_more_136 : List ax_R := (136, .ireturn, 0, 0, 0, 0) :: []
def bl_X12_more_131 : List ax_R := (131, .aload_n 0, 0, 0, 0, 0) :: (132, .iload_n 1, 0, 0, 0, 0) :: (133, .invokevirtual 280, 148, 2, 14, 1564) :: bl_X12_more_136
def bl_X12_more_126 : List ax_R := (126, .bipush 101, 0, 0, 0, 0) :: (128, .goto 8, 136, 0, 0, 0) :: bl_X12_more_131
def bl_X12_more_112 : List ax_R := (112, .aload_n 0, 0, 0, 0, 0) :: (113, .getfield 286, 14, 33, 0, 1347) :: (116, .ifCond .eq 10, 126, 0, 0, 0) :: (119, .aload_n 0, 0, 0, 0, 0) :: (120, .getfield 217, 14, 40, 0, 1354) :: (123, .ifCond .eq 8, 131, 0, 0, 0) :: bl_X12_more_126
def bl_X12_more_93 : List ax_R := (93, .aload_n 0, 0, 0, 0, 0) :: (94, .aload_n 0, 0, 0, 0, 0) :: (95, .getfield 268, 14, 27, 0, 1341) :: (98, .invokevirtual 173, 126, 2, 14, 1560) :: (101, .istore_n 1, 0, 0, 0, 0) :: (102, .iload_n 1, 0, 0, 0, 0) :: (103, .iconst (-1), 0, 0, 0, 0) :: (104, .if_icmp .ne 8, 112, 0, 0, 0) ::
  (107, .aload_n 0, 0, 0, 0, 0) :: (108, .invokevirtual 295, 152, 1, 14, 1641) :: (111, .ireturn, 0, 0, 0, 0) :: bl_X12_more_112
def bl_X12_more_78 : List ax_R := (78, .aload_n 0, 0, 0, 0, 0) :: (79, .iconst (-1), 0, 0, 0, 0) :: (80, .putfield 105, 14, 32, 0, 1346) :: (83, .aload_n 0, 0, 0, 0, 0) :: (84, .invokevirtual 292, 145, 1, 14, 1580) :: (87, .ifCond .ne 6, 93, 0, 0, 0) :: (90, .bipush 9, 0, 0, 0, 0) :: (92, .ireturn, 0, 0, 0, 0) :: bl_X12_more_93
def bl_X12_more_68 : List ax_R := (68, .aload_n 0, 0, 0, 0, 0) :: (69, .iconst 4, 0, 0, 0, 0) :: (70, .invokevirtual 256, 130, 2, 14, 1540) :: (73, .ifCond .ne 5, 78, 0, 0, 0) :: (76, .iconst 0, 0, 0, 0, 0) :: (77, .ireturn, 0, 0, 0, 0) :: bl_X12_more_78
def bl_X12_more_27 : List ax_R := (27, .iload_n 1, 0, 0, 0, 0) :: (28, .aload_n 0, 0, 0, 0, 0) :: (29, .getfield 265, 14, 30, 0, 1344) :: (32, .if_icmp .ge 36, 68, 0, 0, 0) :: (35, .aload_n 0, 0, 0, 0, 0) :: (36, .getfield 69, 14, 35, 1, 1349) :: (39, .aload_n 0, 0, 0, 0, 0) :: (40, .getfield 108, 14, 34, 0, 1348) ::
  (43, .aload_n 0, 0, 0, 0, 0) :: (44, .getfield 66, 14, 24, 1, 1338) :: (47, .iconst 4, 0, 0, 0, 0) :: (48, .iload_n 1, 0, 0, 0, 0) :: (49, .iadd, 0, 0, 0, 0) :: (50, .iaload, 0, 0, 0, 0) :: (51, .iastore, 0, 0, 0, 0) :: (52, .aload_n 0, 0, 0, 0, 0) ::
  (53, .dup, 0, 0, 0, 0) :: (54, .getfield 108, 14, 34, 0, 1348) :: (57, .iconst 1, 0, 0, 0, 0) :: (58, .iadd, 0, 0, 0, 0) :: (59, .putfield 108, 14, 34, 0, 1348) :: (62, .iinc 1 1, 0, 0, 0, 0) :: (65, .goto (-38), 27, 0, 0, 0) :: bl_X12_more_68
def bl_X12_more_22 : List ax_R := (22, .aload_n 0, 0, 0, 0, 0) :: (23, .getfield 262, 14, 29, 0, 1343) :: (26, .istore_n 1, 0, 0, 0, 0) :: bl_X12_more_27
def bl_X12_more_0 : List ax_R := (0, .aload_n 0, 0, 0, 0, 0) :: (1, .getfield 108, 14, 34, 0, 1348) :: (4, .aload_n 0, 0, 0, 0, 0) :: (5, .getfield 265, 14, 30, 0, 1344) :: (8, .iadd, 0, 0, 0, 0) :: (9, .aload_n 0, 0, 0, 0, 0) :: (10, .getfield 262, 14, 29, 0, 1343) :: (13, .isub, 0, 0, 0, 0) ::
  (14, .bipush 100, 0, 0, 0, 0) :: (16, .if_icmp .le 6, 22, 0, 0, 0) :: (19, .bipush 9, 0, 0, 0, 0) :: (21, .ireturn, 0, 0, 0, 0) :: bl_X12_more_22
def pr_X12_more : List ax_R := bl_X12_more_0
def pt_X12_more : ax_T := ((⟨"PageServerModel", "more", "()I"⟩, prog_14_method_42_code, 2, (some .int)), 1579, 94, 1578, 56)
def bl_X12_request_179 : List ax_R := (179, .ireturn, 0, 0, 0, 0) :: []
def bl_X12_request_178 : List ax_R := (178, .iconst 0, 0, 0, 0, 0) :: bl_X12_request_179
def bl_X12_request_163 : List ax_R := (163, .aload_n 0, 0, 0, 0, 0) :: (164, .getfield 286, 14, 33, 0, 1347) :: (167, .ifCond .eq 11, 178, 0, 0, 0) :: (170, .aload_n 0, 0, 0, 0, 0) :: (171, .iload_n 1, 0, 0, 0, 0) :: (172, .invokevirtual 280, 148, 2, 14, 1564) :: (175, .goto 4, 179, 0, 0, 0) :: bl_X12_request_178
def bl_X12_request_134 : List ax_R := (134, .iload_n 2, 0, 0, 0, 0) :: (135, .bipush 20, 0, 0, 0, 0) :: (137, .if_icmp .ge 26, 163, 0, 0, 0) :: (140, .aload_n 0, 0, 0, 0, 0) :: (141, .getfield 63, 14, 21, 1, 1335) :: (144, .bipush 20, 0, 0, 0, 0) :: (146, .iload_n 1, 0, 0, 0, 0) :: (147, .imul, 0, 0, 0, 0) ::
  (148, .iload_n 2, 0, 0, 0, 0) :: (149, .iadd, 0, 0, 0, 0) :: (150, .aload_n 0, 0, 0, 0, 0) :: (151, .getfield 72, 14, 46, 1, 1360) :: (154, .iload_n 2, 0, 0, 0, 0) :: (155, .caload, 0, 0, 0, 0) :: (156, .castore, 0, 0, 0, 0) :: (157, .iinc 2 1, 0, 0, 0, 0) ::
  (160, .goto (-26), 134, 0, 0, 0) :: bl_X12_request_163
def bl_X12_request_61 : List ax_R := (61, .aload_n 0, 0, 0, 0, 0) :: (62, .getfield 35, 14, 12, 1, 1326) :: (65, .iload_n 1, 0, 0, 0, 0) :: (66, .aload_n 0, 0, 0, 0, 0) :: (67, .getfield 268, 14, 27, 0, 1341) :: (70, .iastore, 0, 0, 0, 0) :: (71, .aload_n 0, 0, 0, 0, 0) :: (72, .getfield 38, 14, 13, 1, 1327) ::
  (75, .iload_n 1, 0, 0, 0, 0) :: (76, .aload_n 0, 0, 0, 0, 0) :: (77, .getfield 123, 14, 51, 0, 1365) :: (80, .iastore, 0, 0, 0, 0) :: (81, .aload_n 0, 0, 0, 0, 0) :: (82, .getfield 41, 14, 14, 1, 1328) :: (85, .iload_n 1, 0, 0, 0, 0) :: (86, .iconst 0, 0, 0, 0, 0) ::
  (87, .iastore, 0, 0, 0, 0) :: (88, .aload_n 0, 0, 0, 0, 0) :: (89, .getfield 44, 14, 15, 1, 1329) :: (92, .iload_n 1, 0, 0, 0, 0) :: (93, .aload_n 0, 0, 0, 0, 0) :: (94, .getfield 249, 14, 44, 0, 1358) :: (97, .iastore, 0, 0, 0, 0) :: (98, .aload_n 0, 0, 0, 0, 0) ::
  (99, .getfield 47, 14, 16, 1, 1330) :: (102, .iload_n 1, 0, 0, 0, 0) :: (103, .iconst 0, 0, 0, 0, 0) :: (104, .iastore, 0, 0, 0, 0) :: (105, .aload_n 0, 0, 0, 0, 0) :: (106, .getfield 53, 14, 18, 1, 1332) :: (109, .iload_n 1, 0, 0, 0, 0) :: (110, .iconst 0, 0, 0, 0, 0) ::
  (111, .bastore, 0, 0, 1, 0) :: (112, .aload_n 0, 0, 0, 0, 0) :: (113, .getfield 57, 14, 19, 1, 1333) :: (116, .iload_n 1, 0, 0, 0, 0) :: (117, .aload_n 0, 0, 0, 0, 0) :: (118, .getfield 230, 14, 42, 0, 1356) :: (121, .iastore, 0, 0, 0, 0) :: (122, .aload_n 0, 0, 0, 0, 0) ::
  (123, .getfield 60, 14, 20, 1, 1334) :: (126, .iload_n 1, 0, 0, 0, 0) :: (127, .aload_n 0, 0, 0, 0, 0) :: (128, .getfield 239, 14, 45, 0, 1359) :: (131, .iastore, 0, 0, 0, 0) :: (132, .iconst 0, 0, 0, 0, 0) :: (133, .istore_n 2, 0, 0, 0, 0) :: bl_X12_request_134
def bl_X12_request_46 : List ax_R := (46, .aload_n 0, 0, 0, 0, 0) :: (47, .getfield 35, 14, 12, 1, 1326) :: (50, .iload_n 1, 0, 0, 0, 0) :: (51, .iaload, 0, 0, 0, 0) :: (52, .ifCond .le 9, 61, 0, 0, 0) :: (55, .iinc 1 1, 0, 0, 0, 0) :: (58, .goto (-12), 46, 0, 0, 0) :: bl_X12_request_61
def bl_X12_request_44 : List ax_R := (44, .iconst 0, 0, 0, 0, 0) :: (45, .istore_n 1, 0, 0, 0, 0) :: bl_X12_request_46
def bl_X12_request_41 : List ax_R := (41, .bipush 101, 0, 0, 0, 0) :: (43, .ireturn, 0, 0, 0, 0) :: bl_X12_request_44
def bl_X12_request_19 : List ax_R := (19, .aload_n 0, 0, 0, 0, 0) :: (20, .getfield 224, 14, 39, 0, 1353) :: (23, .ifCond .ne 18, 41, 0, 0, 0) :: (26, .aload_n 0, 0, 0, 0, 0) :: (27, .getfield 230, 14, 42, 0, 1356) :: (30, .iconst (-1), 0, 0, 0, 0) :: (31, .if_icmp .eq 10, 41, 0, 0, 0) :: (34, .aload_n 0, 0, 0, 0, 0) ::
  (35, .getfield 236, 14, 43, 0, 1357) :: (38, .ifCond .ne 6, 44, 0, 0, 0) :: bl_X12_request_41
def bl_X12_request_0 : List ax_R := (0, .aload_n 0, 0, 0, 0, 0) :: (1, .aload_n 0, 0, 0, 0, 0) :: (2, .getfield 268, 14, 27, 0, 1341) :: (5, .putfield 111, 14, 47, 0, 1361) :: (8, .aload_n 0, 0, 0, 0, 0) :: (9, .invokevirtual 298, 127, 1, 14, 1645) :: (12, .iconst 4, 0, 0, 0, 0) :: (13, .if_icmp .ne 6, 19, 0, 0, 0) ::
  (16, .bipush 107, 0, 0, 0, 0) :: (18, .ireturn, 0, 0, 0, 0) :: bl_X12_request_19
def pr_X12_request : List ax_R := bl_X12_request_0
def pt_X12_request : ax_T := ((⟨"PageServerModel", "request", "()I"⟩, prog_14_method_43_code, 3, (some .int)), 1644, 94, 1643, 72)
def bl_X12_settings_161 : List ax_R := (161, .aload_n 0, 0, 0, 0, 0) :: (162, .iconst 0, 0, 0, 0, 0) :: (163, .iconst 4, 0, 0, 0, 0) :: (164, .iconst 1, 0, 0, 0, 0) :: (165, .iconst 0, 0, 0, 0, 0) :: (166, .invokevirtual 132, 124, 5, 14, 1306) :: (169, .iconst 0, 0, 0, 0, 0) :: (170, .ireturn, 0, 0, 0, 0) :: []
def bl_X12_settings_152 : List ax_R := (152, .putfield 123, 14, 51, 0, 1365) :: (155, .iinc 1 2, 0, 0, 0, 0) :: (158, .goto (-112), 46, 0, 0, 0) :: bl_X12_settings_161
def bl_X12_settings_148 : List ax_R := (148, .aload_n 0, 0, 0, 0, 0) :: (149, .getfield 123, 14, 51, 0, 1365) :: bl_X12_settings_152
def bl_X12_settings_138 : List ax_R := (138, .aload_n 0, 0, 0, 0, 0) :: (139, .iload_n 2, 0, 0, 0, 0) :: (140, .iconst 4, 0, 0, 0, 0) :: (141, .if_icmp .ne 7, 148, 0, 0, 0) :: (144, .iload_n 3, 0, 0, 0, 0) :: (145, .goto 7, 152, 0, 0, 0) :: bl_X12_settings_148
def bl_X12_settings_105 : List ax_R := (105, .iload 4, 0, 0, 0, 0) :: (107, .iconst 4, 0, 0, 0, 0) :: (108, .if_icmp .ge 30, 138, 0, 0, 0) :: (111, .iload_n 2, 0, 0, 0, 0) :: (112, .iconst 4, 0, 0, 0, 0) :: (113, .if_icmp .ne 25, 138, 0, 0, 0) :: (116, .aload_n 0, 0, 0, 0, 0) :: (117, .getfield 38, 14, 13, 1, 1327) ::
  (120, .iload 4, 0, 0, 0, 0) :: (122, .dup2, 0, 0, 0, 0) :: (123, .iaload, 0, 0, 0, 0) :: (124, .iload_n 3, 0, 0, 0, 0) :: (125, .aload_n 0, 0, 0, 0, 0) :: (126, .getfield 123, 14, 51, 0, 1365) :: (129, .isub, 0, 0, 0, 0) :: (130, .iadd, 0, 0, 0, 0) ::
  (131, .iastore, 0, 0, 0, 0) :: (132, .iinc 4 1, 0, 0, 0, 0) :: (135, .goto (-30), 105, 0, 0, 0) :: bl_X12_settings_138
def bl_X12_settings_99 : List ax_R := (99, .putfield 126, 14, 52, 0, 1366) :: (102, .iconst 0, 0, 0, 0, 0) :: (103, .istore 4, 0, 0, 0, 0) :: bl_X12_settings_105
def bl_X12_settings_95 : List ax_R := (95, .aload_n 0, 0, 0, 0, 0) :: (96, .getfield 126, 14, 52, 0, 1366) :: bl_X12_settings_99
def bl_X12_settings_85 : List ax_R := (85, .aload_n 0, 0, 0, 0, 0) :: (86, .iload_n 2, 0, 0, 0, 0) :: (87, .iconst 5, 0, 0, 0, 0) :: (88, .if_icmp .ne 7, 95, 0, 0, 0) :: (91, .iload_n 3, 0, 0, 0, 0) :: (92, .goto 7, 99, 0, 0, 0) :: bl_X12_settings_95
def bl_X12_settings_46 : List ax_R := (46, .iload_n 1, 0, 0, 0, 0) :: (47, .aload_n 0, 0, 0, 0, 0) :: (48, .getfield 259, 14, 28, 0, 1342) :: (51, .if_icmp .ge 110, 161, 0, 0, 0) :: (54, .aload_n 0, 0, 0, 0, 0) :: (55, .getfield 66, 14, 24, 1, 1338) :: (58, .iconst 4, 0, 0, 0, 0) :: (59, .iload_n 1, 0, 0, 0, 0) ::
  (60, .iadd, 0, 0, 0, 0) :: (61, .iaload, 0, 0, 0, 0) :: (62, .istore_n 2, 0, 0, 0, 0) :: (63, .aload_n 0, 0, 0, 0, 0) :: (64, .getfield 66, 14, 24, 1, 1338) :: (67, .iconst 5, 0, 0, 0, 0) :: (68, .iload_n 1, 0, 0, 0, 0) :: (69, .iadd, 0, 0, 0, 0) ::
  (70, .iaload, 0, 0, 0, 0) :: (71, .istore_n 3, 0, 0, 0, 0) :: (72, .iload_n 2, 0, 0, 0, 0) :: (73, .iconst 5, 0, 0, 0, 0) :: (74, .if_icmp .ne 11, 85, 0, 0, 0) :: (77, .iload_n 3, 0, 0, 0, 0) :: (78, .bipush 16, 0, 0, 0, 0) :: (80, .if_icmp .ge 5, 85, 0, 0, 0) ::
  (83, .iconst 1, 0, 0, 0, 0) :: (84, .ireturn, 0, 0, 0, 0) :: bl_X12_settings_85
def bl_X12_settings_44 : List ax_R := (44, .iconst 0, 0, 0, 0, 0) :: (45, .istore_n 1, 0, 0, 0, 0) :: bl_X12_settings_46
def bl_X12_settings_31 : List ax_R := (31, .aload_n 0, 0, 0, 0, 0) :: (32, .getfield 259, 14, 28, 0, 1342) :: (35, .iconst 2, 0, 0, 0, 0) :: (36, .irem, 0, 0, 0, 0) :: (37, .iconst 1, 0, 0, 0, 0) :: (38, .if_icmp .ne 6, 44, 0, 0, 0) :: (41, .bipush 6, 0, 0, 0, 0) :: (43, .ireturn, 0, 0, 0, 0) :: bl_X12_settings_44
def bl_X12_settings_30 : List ax_R := (30, .ireturn, 0, 0, 0, 0) :: bl_X12_settings_31
def bl_X12_settings_29 : List ax_R := (29, .iconst 0, 0, 0, 0, 0) :: bl_X12_settings_30
def bl_X12_settings_9 : List ax_R := (9, .aload_n 0, 0, 0, 0, 0) :: (10, .iconst 1, 0, 0, 0, 0) :: (11, .invokevirtual 256, 130, 2, 14, 1540) :: (14, .ifCond .eq 17, 31, 0, 0, 0) :: (17, .aload_n 0, 0, 0, 0, 0) :: (18, .getfield 259, 14, 28, 0, 1342) :: (21, .ifCond .le 8, 29, 0, 0, 0) :: (24, .bipush 6, 0, 0, 0, 0) ::
  (26, .goto 4, 30, 0, 0, 0) :: bl_X12_settings_29
def bl_X12_settings_0 : List ax_R := (0, .aload_n 0, 0, 0, 0, 0) :: (1, .getfield 268, 14, 27, 0, 1341) :: (4, .ifCond .le 5, 9, 0, 0, 0) :: (7, .iconst 1, 0, 0, 0, 0) :: (8, .ireturn, 0, 0, 0, 0) :: bl_X12_settings_9
def pr_X12_settings : List ax_R := bl_X12_settings_0
def pt_X12_settings : ax_T := ((⟨"PageServerModel", "settings", "()I"⟩, prog_14_method_44_code, 5, (some .int)), 1660, 94, 1659, 76)
def bl_X12_ping_64 : List ax_R := (64, .iconst 0, 0, 0, 0, 0) :: (65, .ireturn, 0, 0, 0, 0) :: []
def bl_X12_ping_41 : List ax_R := (41, .iload_n 1, 0, 0, 0, 0) :: (42, .iconst 4, 0, 0, 0, 0) :: (43, .if_icmp .ge 21, 64, 0, 0, 0) :: (46, .aload_n 0, 0, 0, 0, 0) :: (47, .aload_n 0, 0, 0, 0, 0) :: (48, .getfield 66, 14, 24, 1, 1338) :: (51, .iconst 4, 0, 0, 0, 0) :: (52, .iload_n 1, 0, 0, 0, 0) ::
  (53, .iadd, 0, 0, 0, 0) :: (54, .iaload, 0, 0, 0, 0) :: (55, .invokevirtual 136, 123, 2, 14, 1310) :: (58, .iinc 1 1, 0, 0, 0, 0) :: (61, .goto (-20), 41, 0, 0, 0) :: bl_X12_ping_64
def bl_X12_ping_30 : List ax_R := (30, .aload_n 0, 0, 0, 0, 0) :: (31, .iconst 4, 0, 0, 0, 0) :: (32, .bipush 6, 0, 0, 0, 0) :: (34, .iconst 1, 0, 0, 0, 0) :: (35, .iconst 0, 0, 0, 0, 0) :: (36, .invokevirtual 132, 124, 5, 14, 1306) :: (39, .iconst 0, 0, 0, 0, 0) :: (40, .istore_n 1, 0, 0, 0, 0) :: bl_X12_ping_41
def bl_X12_ping_20 : List ax_R := (20, .aload_n 0, 0, 0, 0, 0) :: (21, .iconst 1, 0, 0, 0, 0) :: (22, .invokevirtual 256, 130, 2, 14, 1540) :: (25, .ifCond .eq 5, 30, 0, 0, 0) :: (28, .iconst 0, 0, 0, 0, 0) :: (29, .ireturn, 0, 0, 0, 0) :: bl_X12_ping_30
def bl_X12_ping_9 : List ax_R := (9, .aload_n 0, 0, 0, 0, 0) :: (10, .getfield 259, 14, 28, 0, 1342) :: (13, .iconst 4, 0, 0, 0, 0) :: (14, .if_icmp .eq 6, 20, 0, 0, 0) :: (17, .bipush 6, 0, 0, 0, 0) :: (19, .ireturn, 0, 0, 0, 0) :: bl_X12_ping_20
def bl_X12_ping_0 : List ax_R := (0, .aload_n 0, 0, 0, 0, 0) :: (1, .getfield 268, 14, 27, 0, 1341) :: (4, .ifCond .le 5, 9, 0, 0, 0) :: (7, .iconst 1, 0, 0, 0, 0) :: (8, .ireturn, 0, 0, 0, 0) :: bl_X12_ping_9
def pr_X12_ping : List ax_R := bl_X12_ping_0
def pt_X12_ping : ax_T := ((⟨"PageServerModel", "ping", "()I"⟩, prog_14_method_45_code, 2, (some .int)), 1664, 94, 1663, 77)
def bl_X12_widen_153 : List ax_R := (153, .iconst 0, 0, 0, 0, 0) :: (154, .ireturn, 0, 0, 0, 0) :: []
def bl_X12_widen_143 : List ax_R := (143, .aload_n 0, 0, 0, 0, 0) :: (144, .dup, 0, 0, 0, 0) :: (145, .getfield 120, 14, 50, 0, 1364) :: (148, .iload_n 1, 0, 0, 0, 0) :: (149, .iadd, 0, 0, 0, 0) :: (150, .putfield 120, 14, 50, 0, 1364) :: bl_X12_widen_153
def bl_X12_widen_123 : List ax_R := (123, .aload_n 0, 0, 0, 0, 0) :: (124, .getfield 268, 14, 27, 0, 1341) :: (127, .ifCond .le 16, 143, 0, 0, 0) :: (130, .aload_n 0, 0, 0, 0, 0) :: (131, .getfield 38, 14, 13, 1, 1327) :: (134, .iload_n 2, 0, 0, 0, 0) :: (135, .dup2, 0, 0, 0, 0) :: (136, .iaload, 0, 0, 0, 0) ::
  (137, .iload_n 1, 0, 0, 0, 0) :: (138, .iadd, 0, 0, 0, 0) :: (139, .iastore, 0, 0, 0, 0) :: (140, .goto 13, 153, 0, 0, 0) :: bl_X12_widen_143
def bl_X12_widen_109 : List ax_R := (109, .iload 4, 0, 0, 0, 0) :: (111, .iload_n 1, 0, 0, 0, 0) :: (112, .iadd, 0, 0, 0, 0) :: (113, .sipush 30000, 0, 0, 0, 0) :: (116, .if_icmp .le 7, 123, 0, 0, 0) :: (119, .iload_n 3, 0, 0, 0, 0) :: (120, .iconst 3, 0, 0, 0, 0) :: (121, .iadd, 0, 0, 0, 0) ::
  (122, .ireturn, 0, 0, 0, 0) :: bl_X12_widen_123
def bl_X12_widen_99 : List ax_R := (99, .istore 4, 0, 0, 0, 0) :: (101, .iload_n 1, 0, 0, 0, 0) :: (102, .ifCond .ne 7, 109, 0, 0, 0) :: (105, .iload_n 3, 0, 0, 0, 0) :: (106, .iconst 1, 0, 0, 0, 0) :: (107, .iadd, 0, 0, 0, 0) :: (108, .ireturn, 0, 0, 0, 0) :: bl_X12_widen_109
def bl_X12_widen_95 : List ax_R := (95, .aload_n 0, 0, 0, 0, 0) :: (96, .getfield 120, 14, 50, 0, 1364) :: bl_X12_widen_99
def bl_X12_widen_78 : List ax_R := (78, .istore_n 3, 0, 0, 0, 0) :: (79, .aload_n 0, 0, 0, 0, 0) :: (80, .getfield 268, 14, 27, 0, 1341) :: (83, .ifCond .le 12, 95, 0, 0, 0) :: (86, .aload_n 0, 0, 0, 0, 0) :: (87, .getfield 38, 14, 13, 1, 1327) :: (90, .iload_n 2, 0, 0, 0, 0) :: (91, .iaload, 0, 0, 0, 0) ::
  (92, .goto 7, 99, 0, 0, 0) :: bl_X12_widen_95
def bl_X12_widen_77 : List ax_R := (77, .iconst 0, 0, 0, 0, 0) :: bl_X12_widen_78
def bl_X12_widen_65 : List ax_R := (65, .aload_n 0, 0, 0, 0, 0) :: (66, .getfield 268, 14, 27, 0, 1341) :: (69, .ifCond .le 8, 77, 0, 0, 0) :: (72, .bipush 100, 0, 0, 0, 0) :: (74, .goto 4, 78, 0, 0, 0) :: bl_X12_widen_77
def bl_X12_widen_24 : List ax_R := (24, .sipush 256, 0, 0, 0, 0) :: (27, .aload_n 0, 0, 0, 0, 0) :: (28, .getfield 66, 14, 24, 1, 1338) :: (31, .iconst 4, 0, 0, 0, 0) :: (32, .iaload, 0, 0, 0, 0) :: (33, .imul, 0, 0, 0, 0) :: (34, .aload_n 0, 0, 0, 0, 0) :: (35, .getfield 66, 14, 24, 1, 1338) ::
  (38, .iconst 5, 0, 0, 0, 0) :: (39, .iaload, 0, 0, 0, 0) :: (40, .iadd, 0, 0, 0, 0) :: (41, .istore_n 1, 0, 0, 0, 0) :: (42, .aload_n 0, 0, 0, 0, 0) :: (43, .aload_n 0, 0, 0, 0, 0) :: (44, .getfield 268, 14, 27, 0, 1341) :: (47, .invokevirtual 173, 126, 2, 14, 1560) ::
  (50, .istore_n 2, 0, 0, 0, 0) :: (51, .aload_n 0, 0, 0, 0, 0) :: (52, .getfield 268, 14, 27, 0, 1341) :: (55, .ifCond .le 10, 65, 0, 0, 0) :: (58, .iload_n 2, 0, 0, 0, 0) :: (59, .iconst (-1), 0, 0, 0, 0) :: (60, .if_icmp .ne 5, 65, 0, 0, 0) :: (63, .iconst 0, 0, 0, 0, 0) ::
  (64, .ireturn, 0, 0, 0, 0) :: bl_X12_widen_65
def bl_X12_widen_11 : List ax_R := (11, .aload_n 0, 0, 0, 0, 0) :: (12, .aload_n 0, 0, 0, 0, 0) :: (13, .getfield 268, 14, 27, 0, 1341) :: (16, .invokevirtual 271, 129, 2, 14, 1548) :: (19, .ifCond .eq 5, 24, 0, 0, 0) :: (22, .iconst 1, 0, 0, 0, 0) :: (23, .ireturn, 0, 0, 0, 0) :: bl_X12_widen_24
def bl_X12_widen_0 : List ax_R := (0, .aload_n 0, 0, 0, 0, 0) :: (1, .getfield 259, 14, 28, 0, 1342) :: (4, .iconst 2, 0, 0, 0, 0) :: (5, .if_icmp .eq 6, 11, 0, 0, 0) :: (8, .bipush 6, 0, 0, 0, 0) :: (10, .ireturn, 0, 0, 0, 0) :: bl_X12_widen_11
def pr_X12_widen : List ax_R := bl_X12_widen_0
def pt_X12_widen : ax_T := ((⟨"PageServerModel", "widen", "()I"⟩, prog_14_method_46_code, 5, (some .int)), 1668, 94, 1667, 78)
def bl_X12_drop_31 : List ax_R := (31, .aload_n 0, 0, 0, 0, 0) :: (32, .aload_n 0, 0, 0, 0, 0) :: (33, .getfield 268, 14, 27, 0, 1341) :: (36, .invokevirtual 301, 128, 2, 14, 1653) :: (39, .iconst 0, 0, 0, 0, 0) :: (40, .ireturn, 0, 0, 0, 0) :: []
def bl_X12_drop_29 : List ax_R := (29, .iconst 1, 0, 0, 0, 0) :: (30, .ireturn, 0, 0, 0, 0) :: bl_X12_drop_31
def bl_X12_drop_11 : List ax_R := (11, .aload_n 0, 0, 0, 0, 0) :: (12, .getfield 268, 14, 27, 0, 1341) :: (15, .ifCond .eq 14, 29, 0, 0, 0) :: (18, .aload_n 0, 0, 0, 0, 0) :: (19, .aload_n 0, 0, 0, 0, 0) :: (20, .getfield 268, 14, 27, 0, 1341) :: (23, .invokevirtual 271, 129, 2, 14, 1548) :: (26, .ifCond .eq 5, 31, 0, 0, 0) :: bl_X12_drop_29
def bl_X12_drop_0 : List ax_R := (0, .aload_n 0, 0, 0, 0, 0) :: (1, .getfield 259, 14, 28, 0, 1342) :: (4, .iconst 1, 0, 0, 0, 0) :: (5, .if_icmp .eq 6, 11, 0, 0, 0) :: (8, .bipush 6, 0, 0, 0, 0) :: (10, .ireturn, 0, 0, 0, 0) :: bl_X12_drop_11
def pr_X12_drop : List ax_R := bl_X12_drop_0
def pt_X12_drop : ax_T := ((⟨"PageServerModel", "drop", "()I"⟩, prog_14_method_47_code, 1, (some .int)), 1652, 94, 1651, 74)
def bl_X12_look_221 : List ax_R := (221, .iconst 0, 0, 0, 0, 0) :: (222, .ireturn, 0, 0, 0, 0) :: []
def bl_X12_look_216 : List ax_R := (216, .aload_n 0, 0, 0, 0, 0) :: (217, .invokevirtual 289, 151, 1, 14, 1576) :: (220, .ireturn, 0, 0, 0, 0) :: bl_X12_look_221
def bl_X12_look_211 : List ax_R := (211, .aload_n 0, 0, 0, 0, 0) :: (212, .invokevirtual 322, 155, 1, 14, 1665) :: (215, .ireturn, 0, 0, 0, 0) :: bl_X12_look_216
def bl_X12_look_210 : List ax_R := (210, .ireturn, 0, 0, 0, 0) :: bl_X12_look_211
def bl_X12_look_208 : List ax_R := (208, .bipush 6, 0, 0, 0, 0) :: bl_X12_look_210
def bl_X12_look_196 : List ax_R := (196, .aload_n 0, 0, 0, 0, 0) :: (197, .getfield 259, 14, 28, 0, 1342) :: (200, .iconst 2, 0, 0, 0, 0) :: (201, .if_icmp .ne 7, 208, 0, 0, 0) :: (204, .iconst 0, 0, 0, 0, 0) :: (205, .goto 5, 210, 0, 0, 0) :: bl_X12_look_208
def bl_X12_look_185 : List ax_R := (185, .aload_n 0, 0, 0, 0, 0) :: (186, .getfield 268, 14, 27, 0, 1341) :: (189, .ifCond .le 7, 196, 0, 0, 0) :: (192, .iconst 1, 0, 0, 0, 0) :: (193, .goto 17, 210, 0, 0, 0) :: bl_X12_look_196
def bl_X12_look_180 : List ax_R := (180, .aload_n 0, 0, 0, 0, 0) :: (181, .invokevirtual 319, 154, 1, 14, 1661) :: (184, .ireturn, 0, 0, 0, 0) :: bl_X12_look_185
def bl_X12_look_175 : List ax_R := (175, .aload_n 0, 0, 0, 0, 0) :: (176, .invokevirtual 316, 153, 1, 14, 1657) :: (179, .ireturn, 0, 0, 0, 0) :: bl_X12_look_180
def bl_X12_look_170 : List ax_R := (170, .aload_n 0, 0, 0, 0, 0) :: (171, .invokevirtual 313, 156, 1, 14, 1649) :: (174, .ireturn, 0, 0, 0, 0) :: bl_X12_look_175
def bl_X12_look_165 : List ax_R := (165, .aload_n 0, 0, 0, 0, 0) :: (166, .invokevirtual 310, 150, 1, 14, 1572) :: (169, .ireturn, 0, 0, 0, 0) :: bl_X12_look_170
def bl_X12_look_160 : List ax_R := (160, .aload_n 0, 0, 0, 0, 0) :: (161, .invokevirtual 307, 147, 1, 14, 1544) :: (164, .ireturn, 0, 0, 0, 0) :: bl_X12_look_165
def bl_X12_look_87 : List ax_R := (87, .aload_n 0, 0, 0, 0, 0) :: (88, .iconst 0, 0, 0, 0, 0) :: (89, .putfield 262, 14, 29, 0, 1343) :: (92, .aload_n 0, 0, 0, 0, 0) :: (93, .aload_n 0, 0, 0, 0, 0) :: (94, .getfield 259, 14, 28, 0, 1342) :: (97, .putfield 265, 14, 30, 0, 1344) :: (100, .aload_n 0, 0, 0, 0, 0) ::
  (101, .getfield 304, 14, 25, 0, 1339) :: (104, .tableswitch 117 0 9 #[56, 61, 117, 66, 71, 117, 76, 81, 107, 112], 0, 0, 0, 0) :: bl_X12_look_160
def bl_X12_look_80 : List ax_R := (80, .istore_n 1, 0, 0, 0, 0) :: (81, .iload_n 1, 0, 0, 0, 0) :: (82, .ifCond .ne 5, 87, 0, 0, 0) :: (85, .iconst 1, 0, 0, 0, 0) :: (86, .ireturn, 0, 0, 0, 0) :: bl_X12_look_87
def bl_X12_look_79 : List ax_R := (79, .iconst 0, 0, 0, 0, 0) :: bl_X12_look_80
def bl_X12_look_55 : List ax_R := (55, .aload_n 0, 0, 0, 0, 0) :: (56, .getfield 304, 14, 25, 0, 1339) :: (59, .bipush 9, 0, 0, 0, 0) :: (61, .if_icmp .ne 18, 79, 0, 0, 0) :: (64, .aload_n 0, 0, 0, 0, 0) :: (65, .getfield 268, 14, 27, 0, 1341) :: (68, .aload_n 0, 0, 0, 0, 0) :: (69, .getfield 105, 14, 32, 0, 1346) ::
  (72, .if_icmp .ne 7, 79, 0, 0, 0) :: (75, .iconst 1, 0, 0, 0, 0) :: (76, .goto 4, 80, 0, 0, 0) :: bl_X12_look_79
def bl_X12_look_51 : List ax_R := (51, .iconst 0, 0, 0, 0, 0) :: (52, .goto 28, 80, 0, 0, 0) :: bl_X12_look_55
def bl_X12_look_25 : List ax_R := (25, .aload_n 0, 0, 0, 0, 0) :: (26, .iconst 0, 0, 0, 0, 0) :: (27, .putfield 101, 14, 31, 0, 1345) :: (30, .aload_n 0, 0, 0, 0, 0) :: (31, .getfield 105, 14, 32, 0, 1346) :: (34, .iconst (-1), 0, 0, 0, 0) :: (35, .if_icmp .ne 20, 55, 0, 0, 0) :: (38, .aload_n 0, 0, 0, 0, 0) ::
  (39, .getfield 304, 14, 25, 0, 1339) :: (42, .bipush 9, 0, 0, 0, 0) :: (44, .if_icmp .eq 7, 51, 0, 0, 0) :: (47, .iconst 1, 0, 0, 0, 0) :: (48, .goto 32, 80, 0, 0, 0) :: bl_X12_look_51
def bl_X12_look_23 : List ax_R := (23, .iconst 1, 0, 0, 0, 0) :: (24, .ireturn, 0, 0, 0, 0) :: bl_X12_look_25
def bl_X12_look_0 : List ax_R := (0, .aload_n 0, 0, 0, 0, 0) :: (1, .getfield 101, 14, 31, 0, 1345) :: (4, .ifCond .eq 21, 25, 0, 0, 0) :: (7, .aload_n 0, 0, 0, 0, 0) :: (8, .getfield 304, 14, 25, 0, 1339) :: (11, .iconst 4, 0, 0, 0, 0) :: (12, .if_icmp .ne 11, 23, 0, 0, 0) :: (15, .aload_n 0, 0, 0, 0, 0) ::
  (16, .iconst 1, 0, 0, 0, 0) :: (17, .invokevirtual 256, 130, 2, 14, 1540) :: (20, .ifCond .eq 5, 25, 0, 0, 0) :: bl_X12_look_23
def pr_X12_look : List ax_R := bl_X12_look_0
def pt_X12_look : ax_T := ((⟨"PageServerModel", "look", "()I"⟩, prog_14_method_48_code, 2, (some .int)), 1539, 94, 1538, 46)
def bl_X12_goAway_0 : List ax_R := (0, .aload_n 0, 0, 0, 0, 0) :: (1, .iconst 2, 0, 0, 0, 0) :: (2, .bipush 7, 0, 0, 0, 0) :: (4, .iconst 0, 0, 0, 0, 0) :: (5, .iconst 0, 0, 0, 0, 0) :: (6, .invokevirtual 132, 124, 5, 14, 1306) :: (9, .aload_n 0, 0, 0, 0, 0) :: (10, .aload_n 0, 0, 0, 0, 0) ::
  (11, .getfield 111, 14, 47, 0, 1361) :: (14, .invokevirtual 136, 123, 2, 14, 1310) :: (17, .aload_n 0, 0, 0, 0, 0) :: (18, .iload_n 1, 0, 0, 0, 0) :: (19, .invokevirtual 136, 123, 2, 14, 1310) :: (22, .aload_n 0, 0, 0, 0, 0) :: (23, .iload_n 1, 0, 0, 0, 0) :: (24, .putfield 114, 14, 48, 0, 1362) ::
  (27, .return_, 0, 0, 0, 0) :: []
def pr_X12_goAway : List ax_R := bl_X12_goAway_0
def pt_X12_goAway : ax_T := ((⟨"PageServerModel", "goAway", "(I)V"⟩, prog_14_method_49_code, 2, none), 1531, 94, 1530, 44)
def bl_X12_whole_61 : List ax_R := (61, .return_, 0, 0, 0, 0) :: []
def bl_X12_whole_50 : List ax_R := (50, .aload_n 0, 0, 0, 0, 0) :: (51, .getfield 114, 14, 48, 0, 1362) :: (54, .ifCond .ne 7, 61, 0, 0, 0) :: (57, .aload_n 0, 0, 0, 0, 0) :: (58, .invokevirtual 331, 162, 1, 14, 1669) :: bl_X12_whole_61
def bl_X12_whole_41 : List ax_R := (41, .iload_n 1, 0, 0, 0, 0) :: (42, .ifCond .le 8, 50, 0, 0, 0) :: (45, .aload_n 0, 0, 0, 0, 0) :: (46, .iload_n 1, 0, 0, 0, 0) :: (47, .invokevirtual 328, 158, 2, 14, 1528) :: bl_X12_whole_50
def bl_X12_whole_0 : List ax_R := (0, .aload_n 0, 0, 0, 0, 0) :: (1, .invokevirtual 325, 157, 1, 14, 1536) :: (4, .istore_n 1, 0, 0, 0, 0) :: (5, .iload_n 1, 0, 0, 0, 0) :: (6, .bipush 100, 0, 0, 0, 0) :: (8, .if_icmp .le 33, 41, 0, 0, 0) :: (11, .aload_n 0, 0, 0, 0, 0) :: (12, .iconst 1, 0, 0, 0, 0) ::
  (13, .iconst 3, 0, 0, 0, 0) :: (14, .iconst 0, 0, 0, 0, 0) :: (15, .aload_n 0, 0, 0, 0, 0) :: (16, .getfield 268, 14, 27, 0, 1341) :: (19, .invokevirtual 132, 124, 5, 14, 1306) :: (22, .aload_n 0, 0, 0, 0, 0) :: (23, .iload_n 1, 0, 0, 0, 0) :: (24, .bipush 100, 0, 0, 0, 0) ::
  (26, .isub, 0, 0, 0, 0) :: (27, .invokevirtual 136, 123, 2, 14, 1310) :: (30, .aload_n 0, 0, 0, 0, 0) :: (31, .aload_n 0, 0, 0, 0, 0) :: (32, .getfield 268, 14, 27, 0, 1341) :: (35, .invokevirtual 301, 128, 2, 14, 1653) :: (38, .goto 12, 50, 0, 0, 0) :: bl_X12_whole_41
def pr_X12_whole : List ax_R := bl_X12_whole_0
def pt_X12_whole : ax_T := ((⟨"PageServerModel", "whole", "()V"⟩, prog_14_method_50_code, 2, none), 1535, 94, 1534, 45)
def bl_X12_turn_116 : List ax_R := (116, .iload_n 1, 0, 0, 0, 0) :: (117, .ireturn, 0, 0, 0, 0) :: []
def bl_X12_turn_109 : List ax_R := (109, .istore_n 1, 0, 0, 0, 0) :: (110, .iinc 3 1, 0, 0, 0, 0) :: (113, .goto (-105), 8, 0, 0, 0) :: bl_X12_turn_116
def bl_X12_turn_108 : List ax_R := (108, .iload_n 1, 0, 0, 0, 0) :: bl_X12_turn_109
def bl_X12_turn_98 : List ax_R := (98, .istore_n 2, 0, 0, 0, 0) :: (99, .iload 5, 0, 0, 0, 0) :: (101, .ifCond .eq 7, 108, 0, 0, 0) :: (104, .iload_n 3, 0, 0, 0, 0) :: (105, .goto 4, 109, 0, 0, 0) :: bl_X12_turn_108
def bl_X12_turn_97 : List ax_R := (97, .iload_n 2, 0, 0, 0, 0) :: bl_X12_turn_98
def bl_X12_turn_85 : List ax_R := (85, .istore 5, 0, 0, 0, 0) :: (87, .iload 5, 0, 0, 0, 0) :: (89, .ifCond .eq 8, 97, 0, 0, 0) :: (92, .iload 4, 0, 0, 0, 0) :: (94, .goto 4, 98, 0, 0, 0) :: bl_X12_turn_97
def bl_X12_turn_84 : List ax_R := (84, .iconst 0, 0, 0, 0, 0) :: bl_X12_turn_85
def bl_X12_turn_45 : List ax_R := (45, .istore 4, 0, 0, 0, 0) :: (47, .aload_n 0, 0, 0, 0, 0) :: (48, .getfield 35, 14, 12, 1, 1326) :: (51, .iload_n 3, 0, 0, 0, 0) :: (52, .iaload, 0, 0, 0, 0) :: (53, .ifCond .le 31, 84, 0, 0, 0) :: (56, .aload_n 0, 0, 0, 0, 0) :: (57, .getfield 47, 14, 16, 1, 1330) ::
  (60, .iload_n 3, 0, 0, 0, 0) :: (61, .iaload, 0, 0, 0, 0) :: (62, .ifCond .le 22, 84, 0, 0, 0) :: (65, .aload_n 0, 0, 0, 0, 0) :: (66, .getfield 38, 14, 13, 1, 1327) :: (69, .iload_n 3, 0, 0, 0, 0) :: (70, .iaload, 0, 0, 0, 0) :: (71, .ifCond .le 13, 84, 0, 0, 0) ::
  (74, .iload 4, 0, 0, 0, 0) :: (76, .iload_n 2, 0, 0, 0, 0) :: (77, .if_icmp .ge 7, 84, 0, 0, 0) :: (80, .iconst 1, 0, 0, 0, 0) :: (81, .goto 4, 85, 0, 0, 0) :: bl_X12_turn_84
def bl_X12_turn_35 : List ax_R := (35, .aload_n 0, 0, 0, 0, 0) :: (36, .getfield 35, 14, 12, 1, 1326) :: (39, .iload_n 3, 0, 0, 0, 0) :: (40, .iaload, 0, 0, 0, 0) :: (41, .sipush 300, 0, 0, 0, 0) :: (44, .iadd, 0, 0, 0, 0) :: bl_X12_turn_45
def bl_X12_turn_8 : List ax_R := (8, .iload_n 3, 0, 0, 0, 0) :: (9, .iconst 4, 0, 0, 0, 0) :: (10, .if_icmp .ge 106, 116, 0, 0, 0) :: (13, .aload_n 0, 0, 0, 0, 0) :: (14, .getfield 35, 14, 12, 1, 1326) :: (17, .iload_n 3, 0, 0, 0, 0) :: (18, .iaload, 0, 0, 0, 0) :: (19, .aload_n 0, 0, 0, 0, 0) ::
  (20, .getfield 117, 14, 49, 0, 1363) :: (23, .if_icmp .le 12, 35, 0, 0, 0) :: (26, .aload_n 0, 0, 0, 0, 0) :: (27, .getfield 35, 14, 12, 1, 1326) :: (30, .iload_n 3, 0, 0, 0, 0) :: (31, .iaload, 0, 0, 0, 0) :: (32, .goto 13, 45, 0, 0, 0) :: bl_X12_turn_35
def bl_X12_turn_0 : List ax_R := (0, .iconst (-1), 0, 0, 0, 0) :: (1, .istore_n 1, 0, 0, 0, 0) :: (2, .sipush 1000, 0, 0, 0, 0) :: (5, .istore_n 2, 0, 0, 0, 0) :: (6, .iconst 0, 0, 0, 0, 0) :: (7, .istore_n 3, 0, 0, 0, 0) :: bl_X12_turn_8
def pr_X12_turn : List ax_R := bl_X12_turn_0
def pt_X12_turn : ax_T := ((⟨"PageServerModel", "turn", "()I"⟩, prog_14_method_51_code, 6, (some .int)), 1676, 94, 1675, 80)
def bl_X12_less_10 : List ax_R := (10, .ireturn, 0, 0, 0, 0) :: []
def bl_X12_less_9 : List ax_R := (9, .iload_n 1, 0, 0, 0, 0) :: bl_X12_less_10
def bl_X12_less_0 : List ax_R := (0, .iload_n 0, 0, 0, 0, 0) :: (1, .iload_n 1, 0, 0, 0, 0) :: (2, .if_icmp .ge 7, 9, 0, 0, 0) :: (5, .iload_n 0, 0, 0, 0, 0) :: (6, .goto 4, 10, 0, 0, 0) :: bl_X12_less_9
def pr_X12_less : List ax_R := bl_X12_less_0
def pt_X12_less : ax_T := ((⟨"PageServerModel", "less", "(II)I"⟩, prog_14_method_52_code, 2, (some .int)), 1679, 94, 1678, 0)
def bl_X12_pump_160 : List ax_R := (160, .return_, 0, 0, 0, 0) :: []
def bl_X12_pump_152 : List ax_R := (152, .aload_n 0, 0, 0, 0, 0) :: (153, .invokevirtual 334, 160, 1, 14, 1673) :: (156, .istore_n 1, 0, 0, 0, 0) :: (157, .goto (-152), 5, 0, 0, 0) :: bl_X12_pump_160
def bl_X12_pump_136 : List ax_R := (136, .aload_n 0, 0, 0, 0, 0) :: (137, .getfield 47, 14, 16, 1, 1330) :: (140, .iload_n 1, 0, 0, 0, 0) :: (141, .iaload, 0, 0, 0, 0) :: (142, .ifCond .ne 10, 152, 0, 0, 0) :: (145, .aload_n 0, 0, 0, 0, 0) :: (146, .getfield 35, 14, 12, 1, 1326) :: (149, .iload_n 1, 0, 0, 0, 0) ::
  (150, .iconst 0, 0, 0, 0, 0) :: (151, .iastore, 0, 0, 0, 0) :: bl_X12_pump_152
def bl_X12_pump_115 : List ax_R := (115, .iload_n 3, 0, 0, 0, 0) :: (116, .iload_n 2, 0, 0, 0, 0) :: (117, .if_icmp .ge 19, 136, 0, 0, 0) :: (120, .aload_n 0, 0, 0, 0, 0) :: (121, .aload_n 0, 0, 0, 0, 0) :: (122, .getfield 50, 14, 17, 1, 1331) :: (125, .iload_n 1, 0, 0, 0, 0) :: (126, .iaload, 0, 0, 0, 0) ::
  (127, .invokevirtual 136, 123, 2, 14, 1310) :: (130, .iinc 3 1, 0, 0, 0, 0) :: (133, .goto (-18), 115, 0, 0, 0) :: bl_X12_pump_136
def bl_X12_pump_104 : List ax_R := (104, .aload_n 0, 0, 0, 0, 0) :: (105, .getfield 35, 14, 12, 1, 1326) :: (108, .iload_n 1, 0, 0, 0, 0) :: (109, .iaload, 0, 0, 0, 0) :: (110, .invokevirtual 132, 124, 5, 14, 1306) :: (113, .iconst 0, 0, 0, 0, 0) :: (114, .istore_n 3, 0, 0, 0, 0) :: bl_X12_pump_115
def bl_X12_pump_103 : List ax_R := (103, .iconst 0, 0, 0, 0, 0) :: bl_X12_pump_104
def bl_X12_pump_5 : List ax_R := (5, .iload_n 1, 0, 0, 0, 0) :: (6, .iconst (-1), 0, 0, 0, 0) :: (7, .if_icmp .eq 153, 160, 0, 0, 0) :: (10, .aload_n 0, 0, 0, 0, 0) :: (11, .getfield 120, 14, 50, 0, 1364) :: (14, .ifCond .le 146, 160, 0, 0, 0) :: (17, .aload_n 0, 0, 0, 0, 0) :: (18, .getfield 47, 14, 16, 1, 1330) ::
  (21, .iload_n 1, 0, 0, 0, 0) :: (22, .iaload, 0, 0, 0, 0) :: (23, .aload_n 0, 0, 0, 0, 0) :: (24, .getfield 38, 14, 13, 1, 1327) :: (27, .iload_n 1, 0, 0, 0, 0) :: (28, .iaload, 0, 0, 0, 0) :: (29, .invokestatic 337, 161, 2, 0, 1677) :: (32, .aload_n 0, 0, 0, 0, 0) ::
  (33, .getfield 120, 14, 50, 0, 1364) :: (36, .aload_n 0, 0, 0, 0, 0) :: (37, .getfield 126, 14, 52, 0, 1366) :: (40, .invokestatic 337, 161, 2, 0, 1677) :: (43, .invokestatic 337, 161, 2, 0, 1677) :: (46, .istore_n 2, 0, 0, 0, 0) :: (47, .aload_n 0, 0, 0, 0, 0) :: (48, .getfield 47, 14, 16, 1, 1330) ::
  (51, .iload_n 1, 0, 0, 0, 0) :: (52, .dup2, 0, 0, 0, 0) :: (53, .iaload, 0, 0, 0, 0) :: (54, .iload_n 2, 0, 0, 0, 0) :: (55, .isub, 0, 0, 0, 0) :: (56, .iastore, 0, 0, 0, 0) :: (57, .aload_n 0, 0, 0, 0, 0) :: (58, .getfield 38, 14, 13, 1, 1327) ::
  (61, .iload_n 1, 0, 0, 0, 0) :: (62, .dup2, 0, 0, 0, 0) :: (63, .iaload, 0, 0, 0, 0) :: (64, .iload_n 2, 0, 0, 0, 0) :: (65, .isub, 0, 0, 0, 0) :: (66, .iastore, 0, 0, 0, 0) :: (67, .aload_n 0, 0, 0, 0, 0) :: (68, .dup, 0, 0, 0, 0) ::
  (69, .getfield 120, 14, 50, 0, 1364) :: (72, .iload_n 2, 0, 0, 0, 0) :: (73, .isub, 0, 0, 0, 0) :: (74, .putfield 120, 14, 50, 0, 1364) :: (77, .aload_n 0, 0, 0, 0, 0) :: (78, .aload_n 0, 0, 0, 0, 0) :: (79, .getfield 35, 14, 12, 1, 1326) :: (82, .iload_n 1, 0, 0, 0, 0) ::
  (83, .iaload, 0, 0, 0, 0) :: (84, .putfield 117, 14, 49, 0, 1363) :: (87, .aload_n 0, 0, 0, 0, 0) :: (88, .iload_n 2, 0, 0, 0, 0) :: (89, .iconst 0, 0, 0, 0, 0) :: (90, .aload_n 0, 0, 0, 0, 0) :: (91, .getfield 47, 14, 16, 1, 1330) :: (94, .iload_n 1, 0, 0, 0, 0) ::
  (95, .iaload, 0, 0, 0, 0) :: (96, .ifCond .ne 7, 103, 0, 0, 0) :: (99, .iconst 1, 0, 0, 0, 0) :: (100, .goto 4, 104, 0, 0, 0) :: bl_X12_pump_103
def bl_X12_pump_0 : List ax_R := (0, .aload_n 0, 0, 0, 0, 0) :: (1, .invokevirtual 334, 160, 1, 14, 1673) :: (4, .istore_n 1, 0, 0, 0, 0) :: bl_X12_pump_5
def pr_X12_pump : List ax_R := bl_X12_pump_0
def pt_X12_pump : ax_T := ((⟨"PageServerModel", "pump", "()V"⟩, prog_14_method_53_code, 4, none), 1672, 94, 1671, 79)
def bl_X12_prefaceByte_40 : List ax_R := (40, .ireturn, 0, 0, 0, 0) :: []
def bl_X12_prefaceByte_38 : List ax_R := (38, .bipush 10, 0, 0, 0, 0) :: bl_X12_prefaceByte_40
def bl_X12_prefaceByte_25 : List ax_R := (25, .aload_n 0, 0, 0, 0, 0) :: (26, .getfield 95, 14, 22, 0, 1336) :: (29, .iconst 2, 0, 0, 0, 0) :: (30, .if_icmp .ne 8, 38, 0, 0, 0) :: (33, .bipush 73, 0, 0, 0, 0) :: (35, .goto 5, 40, 0, 0, 0) :: bl_X12_prefaceByte_38
def bl_X12_prefaceByte_12 : List ax_R := (12, .aload_n 0, 0, 0, 0, 0) :: (13, .getfield 95, 14, 22, 0, 1336) :: (16, .iconst 1, 0, 0, 0, 0) :: (17, .if_icmp .ne 8, 25, 0, 0, 0) :: (20, .bipush 82, 0, 0, 0, 0) :: (22, .goto 18, 40, 0, 0, 0) :: bl_X12_prefaceByte_25
def bl_X12_prefaceByte_0 : List ax_R := (0, .aload_n 0, 0, 0, 0, 0) :: (1, .getfield 95, 14, 22, 0, 1336) :: (4, .ifCond .ne 8, 12, 0, 0, 0) :: (7, .bipush 80, 0, 0, 0, 0) :: (9, .goto 31, 40, 0, 0, 0) :: bl_X12_prefaceByte_12
def pr_X12_prefaceByte : List ax_R := bl_X12_prefaceByte_0
def pt_X12_prefaceByte : ax_T := ((⟨"PageServerModel", "prefaceByte", "()I"⟩, prog_14_method_54_code, 1, (some .int)), 1527, 94, 1526, 43)
def bl_X12_take1_152 : List ax_R := (152, .return_, 0, 0, 0, 0) :: []
def bl_X12_take1_100 : List ax_R := (100, .aload_n 0, 0, 0, 0, 0) :: (101, .getfield 98, 14, 23, 0, 1337) :: (104, .iconst 4, 0, 0, 0, 0) :: (105, .aload_n 0, 0, 0, 0, 0) :: (106, .getfield 259, 14, 28, 0, 1342) :: (109, .iadd, 0, 0, 0, 0) :: (110, .if_icmp .ne 42, 152, 0, 0, 0) :: (113, .aload_n 0, 0, 0, 0, 0) ::
  (114, .aload_n 0, 0, 0, 0, 0) :: (115, .getfield 66, 14, 24, 1, 1338) :: (118, .iconst 1, 0, 0, 0, 0) :: (119, .iaload, 0, 0, 0, 0) :: (120, .putfield 304, 14, 25, 0, 1339) :: (123, .aload_n 0, 0, 0, 0, 0) :: (124, .aload_n 0, 0, 0, 0, 0) :: (125, .getfield 66, 14, 24, 1, 1338) ::
  (128, .iconst 2, 0, 0, 0, 0) :: (129, .iaload, 0, 0, 0, 0) :: (130, .putfield 176, 14, 26, 0, 1340) :: (133, .aload_n 0, 0, 0, 0, 0) :: (134, .aload_n 0, 0, 0, 0, 0) :: (135, .getfield 66, 14, 24, 1, 1338) :: (138, .iconst 3, 0, 0, 0, 0) :: (139, .iaload, 0, 0, 0, 0) ::
  (140, .putfield 268, 14, 27, 0, 1341) :: (143, .aload_n 0, 0, 0, 0, 0) :: (144, .iconst 0, 0, 0, 0, 0) :: (145, .putfield 98, 14, 23, 0, 1337) :: (148, .aload_n 0, 0, 0, 0, 0) :: (149, .invokevirtual 343, 159, 1, 14, 1532) :: bl_X12_take1_152
def bl_X12_take1_71 : List ax_R := (71, .aload_n 0, 0, 0, 0, 0) :: (72, .aload_n 0, 0, 0, 0, 0) :: (73, .getfield 66, 14, 24, 1, 1338) :: (76, .iconst 0, 0, 0, 0, 0) :: (77, .iaload, 0, 0, 0, 0) :: (78, .putfield 259, 14, 28, 0, 1342) :: (81, .aload_n 0, 0, 0, 0, 0) :: (82, .getfield 259, 14, 28, 0, 1342) ::
  (85, .sipush 200, 0, 0, 0, 0) :: (88, .if_icmp .le 12, 100, 0, 0, 0) :: (91, .aload_n 0, 0, 0, 0, 0) :: (92, .bipush 6, 0, 0, 0, 0) :: (94, .invokevirtual 328, 158, 2, 14, 1528) :: (97, .goto 55, 152, 0, 0, 0) :: bl_X12_take1_100
def bl_X12_take1_42 : List ax_R := (42, .aload_n 0, 0, 0, 0, 0) :: (43, .getfield 66, 14, 24, 1, 1338) :: (46, .aload_n 0, 0, 0, 0, 0) :: (47, .getfield 98, 14, 23, 0, 1337) :: (50, .iload_n 1, 0, 0, 0, 0) :: (51, .iastore, 0, 0, 0, 0) :: (52, .aload_n 0, 0, 0, 0, 0) :: (53, .dup, 0, 0, 0, 0) ::
  (54, .getfield 98, 14, 23, 0, 1337) :: (57, .iconst 1, 0, 0, 0, 0) :: (58, .iadd, 0, 0, 0, 0) :: (59, .putfield 98, 14, 23, 0, 1337) :: (62, .aload_n 0, 0, 0, 0, 0) :: (63, .getfield 98, 14, 23, 0, 1337) :: (66, .iconst 4, 0, 0, 0, 0) :: (67, .if_icmp .ge 4, 71, 0, 0, 0) ::
  (70, .return_, 0, 0, 0, 0) :: bl_X12_take1_71
def bl_X12_take1_41 : List ax_R := (41, .return_, 0, 0, 0, 0) :: bl_X12_take1_42
def bl_X12_take1_21 : List ax_R := (21, .istore_n 2, 0, 0, 0, 0) :: (22, .aload_n 0, 0, 0, 0, 0) :: (23, .dup, 0, 0, 0, 0) :: (24, .getfield 95, 14, 22, 0, 1336) :: (27, .iconst 1, 0, 0, 0, 0) :: (28, .iadd, 0, 0, 0, 0) :: (29, .putfield 95, 14, 22, 0, 1336) :: (32, .iload_n 2, 0, 0, 0, 0) ::
  (33, .ifCond .ne 8, 41, 0, 0, 0) :: (36, .aload_n 0, 0, 0, 0, 0) :: (37, .iconst 1, 0, 0, 0, 0) :: (38, .invokevirtual 328, 158, 2, 14, 1528) :: bl_X12_take1_41
def bl_X12_take1_20 : List ax_R := (20, .iconst 0, 0, 0, 0, 0) :: bl_X12_take1_21
def bl_X12_take1_0 : List ax_R := (0, .aload_n 0, 0, 0, 0, 0) :: (1, .getfield 95, 14, 22, 0, 1336) :: (4, .iconst 4, 0, 0, 0, 0) :: (5, .if_icmp .ge 37, 42, 0, 0, 0) :: (8, .iload_n 1, 0, 0, 0, 0) :: (9, .aload_n 0, 0, 0, 0, 0) :: (10, .invokevirtual 340, 163, 1, 14, 1524) :: (13, .if_icmp .ne 7, 20, 0, 0, 0) ::
  (16, .iconst 1, 0, 0, 0, 0) :: (17, .goto 4, 21, 0, 0, 0) :: bl_X12_take1_20
def pr_X12_take1 : List ax_R := bl_X12_take1_0
def pt_X12_take1 : ax_T := ((⟨"PageServerModel", "take1", "(I)V"⟩, prog_14_method_55_code, 3, none), 1523, 94, 1522, 42)
def bl_X12_feed_56 : List ax_R := (56, .iconst 1, 0, 0, 0, 0) :: (57, .ireturn, 0, 0, 0, 0) :: []
def bl_X12_feed_50 : List ax_R := (50, .iinc 3 (-1), 0, 0, 0, 0) :: (53, .goto (-23), 30, 0, 0, 0) :: bl_X12_feed_56
def bl_X12_feed_30 : List ax_R := (30, .iload_n 3, 0, 0, 0, 0) :: (31, .ifCond .lt 25, 56, 0, 0, 0) :: (34, .aload_n 0, 0, 0, 0, 0) :: (35, .getfield 114, 14, 48, 0, 1362) :: (38, .ifCond .ne 12, 50, 0, 0, 0) :: (41, .aload_n 0, 0, 0, 0, 0) :: (42, .iload_n 1, 0, 0, 0, 0) :: (43, .iload_n 3, 0, 0, 0, 0) ::
  (44, .invokestatic 140, 116, 2, 0, 1492) :: (47, .invokevirtual 346, 164, 2, 14, 1520) :: bl_X12_feed_50
def bl_X12_feed_26 : List ax_R := (26, .iload_n 2, 0, 0, 0, 0) :: (27, .iconst 1, 0, 0, 0, 0) :: (28, .isub, 0, 0, 0, 0) :: (29, .istore_n 3, 0, 0, 0, 0) :: bl_X12_feed_30
def bl_X12_feed_24 : List ax_R := (24, .iconst 0, 0, 0, 0, 0) :: (25, .ireturn, 0, 0, 0, 0) :: bl_X12_feed_26
def bl_X12_feed_0 : List ax_R := (0, .aload_n 0, 0, 0, 0, 0) :: (1, .iconst 0, 0, 0, 0, 0) :: (2, .putfield 85, 14, 0, 0, 1314) :: (5, .iload_n 2, 0, 0, 0, 0) :: (6, .iconst 1, 0, 0, 0, 0) :: (7, .iconst 4, 0, 0, 0, 0) :: (8, .invokestatic 158, 114, 3, 0, 1501) :: (11, .ifCond .ne 13, 24, 0, 0, 0) ::
  (14, .aload_n 0, 0, 0, 0, 0) :: (15, .getfield 129, 14, 53, 0, 1367) :: (18, .sipush 300, 0, 0, 0, 0) :: (21, .if_icmp .le 5, 26, 0, 0, 0) :: bl_X12_feed_24
def pr_X12_feed : List ax_R := bl_X12_feed_0
def pt_X12_feed : ax_T := ((⟨"PageServerModel", "feed", "(II)Z"⟩, prog_14_method_56_code, 4, (some .boolean)), 1519, 94, 1517, 1518)
def bl_X12_restart_0 : List ax_R := (0, .aload_n 0, 0, 0, 0, 0) :: (1, .iconst 0, 0, 0, 0, 0) :: (2, .putfield 85, 14, 0, 0, 1314) :: (5, .aload_n 0, 0, 0, 0, 0) :: (6, .invokevirtual 82, 115, 1, 14, 1302) :: (9, .return_, 0, 0, 0, 0) :: []
def pr_X12_restart : List ax_R := bl_X12_restart_0
def pt_X12_restart : ax_T := ((⟨"PageServerModel", "restart", "()V"⟩, prog_14_method_57_code, 1, none), 1683, 94, 1681, 1682)
def bl_X12_waiting_0 : List ax_R := (0, .aload_n 0, 0, 0, 0, 0) :: (1, .iconst 0, 0, 0, 0, 0) :: (2, .putfield 85, 14, 0, 0, 1314) :: (5, .aload_n 0, 0, 0, 0, 0) :: (6, .getfield 129, 14, 53, 0, 1367) :: (9, .ireturn, 0, 0, 0, 0) :: []
def pr_X12_waiting : List ax_R := bl_X12_waiting_0
def pt_X12_waiting : ax_T := ((⟨"PageServerModel", "waiting", "()I"⟩, prog_14_method_58_code, 1, (some .int)), 1687, 94, 1685, 1686)
def bl_X12_out_20 : List ax_R := (20, .aload_n 0, 0, 0, 0, 0) :: (21, .iconst 0, 0, 0, 0, 0) :: (22, .putfield 85, 14, 0, 0, 1314) :: (25, .aload_n 0, 0, 0, 0, 0) :: (26, .getfield 75, 14, 54, 1, 1368) :: (29, .iload_n 1, 0, 0, 0, 0) :: (30, .iaload, 0, 0, 0, 0) :: (31, .ireturn, 0, 0, 0, 0) :: []
def bl_X12_out_0 : List ax_R := (0, .iload_n 1, 0, 0, 0, 0) :: (1, .iconst 0, 0, 0, 0, 0) :: (2, .aload_n 0, 0, 0, 0, 0) :: (3, .getfield 129, 14, 53, 0, 1367) :: (6, .iconst 1, 0, 0, 0, 0) :: (7, .isub, 0, 0, 0, 0) :: (8, .invokestatic 158, 114, 3, 0, 1501) :: (11, .ifCond .eq 9, 20, 0, 0, 0) ::
  (14, .aload_n 0, 0, 0, 0, 0) :: (15, .iconst 1, 0, 0, 0, 0) :: (16, .invokevirtual 162, 113, 2, 14, 1504) :: (19, .ireturn, 0, 0, 0, 0) :: bl_X12_out_20
def pr_X12_out : List ax_R := bl_X12_out_0
def pt_X12_out : ax_T := ((⟨"PageServerModel", "out", "(I)I"⟩, prog_14_method_59_code, 2, (some .int)), 1691, 94, 1689, 1690)
def bl_X12_take_60 : List ax_R := (60, .aload_n 0, 0, 0, 0, 0) :: (61, .dup, 0, 0, 0, 0) :: (62, .getfield 129, 14, 53, 0, 1367) :: (65, .iload_n 2, 0, 0, 0, 0) :: (66, .isub, 0, 0, 0, 0) :: (67, .putfield 129, 14, 53, 0, 1367) :: (70, .return_, 0, 0, 0, 0) :: []
def bl_X12_take_32 : List ax_R := (32, .iload_n 3, 0, 0, 0, 0) :: (33, .aload_n 0, 0, 0, 0, 0) :: (34, .getfield 129, 14, 53, 0, 1367) :: (37, .if_icmp .ge 23, 60, 0, 0, 0) :: (40, .aload_n 0, 0, 0, 0, 0) :: (41, .getfield 75, 14, 54, 1, 1368) :: (44, .iload_n 3, 0, 0, 0, 0) :: (45, .iload_n 2, 0, 0, 0, 0) ::
  (46, .isub, 0, 0, 0, 0) :: (47, .aload_n 0, 0, 0, 0, 0) :: (48, .getfield 75, 14, 54, 1, 1368) :: (51, .iload_n 3, 0, 0, 0, 0) :: (52, .iaload, 0, 0, 0, 0) :: (53, .iastore, 0, 0, 0, 0) :: (54, .iinc 3 1, 0, 0, 0, 0) :: (57, .goto (-25), 32, 0, 0, 0) :: bl_X12_take_60
def bl_X12_take_29 : List ax_R := (29, .istore_n 2, 0, 0, 0, 0) :: (30, .iload_n 2, 0, 0, 0, 0) :: (31, .istore_n 3, 0, 0, 0, 0) :: bl_X12_take_32
def bl_X12_take_28 : List ax_R := (28, .iload_n 1, 0, 0, 0, 0) :: bl_X12_take_29
def bl_X12_take_13 : List ax_R := (13, .iload_n 1, 0, 0, 0, 0) :: (14, .aload_n 0, 0, 0, 0, 0) :: (15, .getfield 129, 14, 53, 0, 1367) :: (18, .if_icmp .le 10, 28, 0, 0, 0) :: (21, .aload_n 0, 0, 0, 0, 0) :: (22, .getfield 129, 14, 53, 0, 1367) :: (25, .goto 4, 29, 0, 0, 0) :: bl_X12_take_28
def bl_X12_take_0 : List ax_R := (0, .aload_n 0, 0, 0, 0, 0) :: (1, .iconst 0, 0, 0, 0, 0) :: (2, .putfield 85, 14, 0, 0, 1314) :: (5, .iload_n 1, 0, 0, 0, 0) :: (6, .ifCond .ge 7, 13, 0, 0, 0) :: (9, .iconst 0, 0, 0, 0, 0) :: (10, .goto 19, 29, 0, 0, 0) :: bl_X12_take_13
def pr_X12_take : List ax_R := bl_X12_take_0
def pt_X12_take : ax_T := ((⟨"PageServerModel", "take", "(I)V"⟩, prog_14_method_60_code, 4, none), 1695, 94, 1693, 1694)
def bl_X12_away_0 : List ax_R := (0, .aload_n 0, 0, 0, 0, 0) :: (1, .iconst 0, 0, 0, 0, 0) :: (2, .putfield 85, 14, 0, 0, 1314) :: (5, .aload_n 0, 0, 0, 0, 0) :: (6, .getfield 114, 14, 48, 0, 1362) :: (9, .ireturn, 0, 0, 0, 0) :: []
def pr_X12_away : List ax_R := bl_X12_away_0
def pt_X12_away : ax_T := ((⟨"PageServerModel", "away", "()I"⟩, prog_14_method_61_code, 1, (some .int)), 1699, 94, 1697, 1698)
def bl_X12_about_92 : List ax_R := (92, .iconst (-1), 0, 0, 0, 0) :: (93, .ireturn, 0, 0, 0, 0) :: []
def bl_X12_about_87 : List ax_R := (87, .aload_n 0, 0, 0, 0, 0) :: (88, .getfield 108, 14, 34, 0, 1348) :: (91, .ireturn, 0, 0, 0, 0) :: bl_X12_about_92
def bl_X12_about_82 : List ax_R := (82, .aload_n 0, 0, 0, 0, 0) :: (83, .invokevirtual 182, 132, 1, 14, 1616) :: (86, .ireturn, 0, 0, 0, 0) :: bl_X12_about_87
def bl_X12_about_77 : List ax_R := (77, .aload_n 0, 0, 0, 0, 0) :: (78, .getfield 89, 14, 6, 0, 1320) :: (81, .ireturn, 0, 0, 0, 0) :: bl_X12_about_82
def bl_X12_about_72 : List ax_R := (72, .aload_n 0, 0, 0, 0, 0) :: (73, .getfield 92, 14, 7, 0, 1321) :: (76, .ireturn, 0, 0, 0, 0) :: bl_X12_about_77
def bl_X12_about_67 : List ax_R := (67, .aload_n 0, 0, 0, 0, 0) :: (68, .getfield 126, 14, 52, 0, 1366) :: (71, .ireturn, 0, 0, 0, 0) :: bl_X12_about_72
def bl_X12_about_62 : List ax_R := (62, .aload_n 0, 0, 0, 0, 0) :: (63, .getfield 120, 14, 50, 0, 1364) :: (66, .ireturn, 0, 0, 0, 0) :: bl_X12_about_67
def bl_X12_about_57 : List ax_R := (57, .aload_n 0, 0, 0, 0, 0) :: (58, .invokevirtual 298, 127, 1, 14, 1645) :: (61, .ireturn, 0, 0, 0, 0) :: bl_X12_about_62
def bl_X12_about_52 : List ax_R := (52, .aload_n 0, 0, 0, 0, 0) :: (53, .getfield 111, 14, 47, 0, 1361) :: (56, .ireturn, 0, 0, 0, 0) :: bl_X12_about_57
def bl_X12_about_0 : List ax_R := (0, .aload_n 0, 0, 0, 0, 0) :: (1, .iconst 0, 0, 0, 0, 0) :: (2, .putfield 85, 14, 0, 0, 1314) :: (5, .iload_n 1, 0, 0, 0, 0) :: (6, .tableswitch 86 0 7 #[46, 51, 56, 61, 66, 71, 76, 81], 0, 0, 0, 0) :: bl_X12_about_52
def pr_X12_about : List ax_R := bl_X12_about_0
def pt_X12_about : ax_T := ((⟨"PageServerModel", "about", "(I)I"⟩, prog_14_method_62_code, 2, (some .int)), 1703, 94, 1701, 1702)
def bl_X12_stream_86 : List ax_R := (86, .ireturn, 0, 0, 0, 0) :: []
def bl_X12_stream_85 : List ax_R := (85, .iconst 0, 0, 0, 0, 0) :: bl_X12_stream_86
def bl_X12_stream_72 : List ax_R := (72, .aload_n 0, 0, 0, 0, 0) :: (73, .getfield 53, 14, 18, 1, 1332) :: (76, .iload_n 3, 0, 0, 0, 0) :: (77, .baload, 0, 0, 1, 0) :: (78, .ifCond .eq 7, 85, 0, 0, 0) :: (81, .iconst 1, 0, 0, 0, 0) :: (82, .goto 4, 86, 0, 0, 0) :: bl_X12_stream_85
def bl_X12_stream_58 : List ax_R := (58, .iload_n 2, 0, 0, 0, 0) :: (59, .iconst 2, 0, 0, 0, 0) :: (60, .if_icmp .ne 12, 72, 0, 0, 0) :: (63, .aload_n 0, 0, 0, 0, 0) :: (64, .getfield 41, 14, 14, 1, 1328) :: (67, .iload_n 3, 0, 0, 0, 0) :: (68, .iaload, 0, 0, 0, 0) :: (69, .goto 17, 86, 0, 0, 0) :: bl_X12_stream_72
def bl_X12_stream_44 : List ax_R := (44, .iload_n 2, 0, 0, 0, 0) :: (45, .iconst 1, 0, 0, 0, 0) :: (46, .if_icmp .ne 12, 58, 0, 0, 0) :: (49, .aload_n 0, 0, 0, 0, 0) :: (50, .getfield 47, 14, 16, 1, 1330) :: (53, .iload_n 3, 0, 0, 0, 0) :: (54, .iaload, 0, 0, 0, 0) :: (55, .goto 31, 86, 0, 0, 0) :: bl_X12_stream_58
def bl_X12_stream_26 : List ax_R := (26, .aload_n 0, 0, 0, 0, 0) :: (27, .iconst 0, 0, 0, 0, 0) :: (28, .putfield 85, 14, 0, 0, 1314) :: (31, .iload_n 2, 0, 0, 0, 0) :: (32, .ifCond .ne 12, 44, 0, 0, 0) :: (35, .aload_n 0, 0, 0, 0, 0) :: (36, .getfield 38, 14, 13, 1, 1327) :: (39, .iload_n 3, 0, 0, 0, 0) ::
  (40, .iaload, 0, 0, 0, 0) :: (41, .goto 45, 86, 0, 0, 0) :: bl_X12_stream_44
def bl_X12_stream_20 : List ax_R := (20, .aload_n 0, 0, 0, 0, 0) :: (21, .iconst 1, 0, 0, 0, 0) :: (22, .invokevirtual 162, 113, 2, 14, 1504) :: (25, .ireturn, 0, 0, 0, 0) :: bl_X12_stream_26
def bl_X12_stream_0 : List ax_R := (0, .aload_n 0, 0, 0, 0, 0) :: (1, .iload_n 1, 0, 0, 0, 0) :: (2, .invokevirtual 173, 126, 2, 14, 1560) :: (5, .istore_n 3, 0, 0, 0, 0) :: (6, .iload_n 3, 0, 0, 0, 0) :: (7, .iconst (-1), 0, 0, 0, 0) :: (8, .if_icmp .eq 12, 20, 0, 0, 0) :: (11, .iload_n 2, 0, 0, 0, 0) ::
  (12, .iconst 0, 0, 0, 0, 0) :: (13, .iconst 3, 0, 0, 0, 0) :: (14, .invokestatic 158, 114, 3, 0, 1501) :: (17, .ifCond .eq 9, 26, 0, 0, 0) :: bl_X12_stream_20
def pr_X12_stream : List ax_R := bl_X12_stream_0
def pt_X12_stream : ax_T := ((⟨"PageServerModel", "stream", "(II)I"⟩, prog_14_method_63_code, 4, (some .int)), 1707, 94, 1705, 1706)
def bl_X12_entry_111 : List ax_R := (111, .ireturn, 0, 0, 0, 0) :: []
def bl_X12_entry_98 : List ax_R := (98, .aload_n 0, 0, 0, 0, 0) :: (99, .getfield 32, 14, 11, 1, 1325) :: (102, .bipush 20, 0, 0, 0, 0) :: (104, .iload_n 1, 0, 0, 0, 0) :: (105, .iconst 1, 0, 0, 0, 0) :: (106, .isub, 0, 0, 0, 0) :: (107, .imul, 0, 0, 0, 0) :: (108, .iload_n 3, 0, 0, 0, 0) ::
  (109, .iadd, 0, 0, 0, 0) :: (110, .caload, 0, 0, 0, 0) :: bl_X12_entry_111
def bl_X12_entry_73 : List ax_R := (73, .aload_n 0, 0, 0, 0, 0) :: (74, .iconst 0, 0, 0, 0, 0) :: (75, .putfield 85, 14, 0, 0, 1314) :: (78, .iload_n 2, 0, 0, 0, 0) :: (79, .ifCond .ne 19, 98, 0, 0, 0) :: (82, .aload_n 0, 0, 0, 0, 0) :: (83, .getfield 26, 14, 9, 1, 1323) :: (86, .bipush 20, 0, 0, 0, 0) ::
  (88, .iload_n 1, 0, 0, 0, 0) :: (89, .iconst 1, 0, 0, 0, 0) :: (90, .isub, 0, 0, 0, 0) :: (91, .imul, 0, 0, 0, 0) :: (92, .iload_n 3, 0, 0, 0, 0) :: (93, .iadd, 0, 0, 0, 0) :: (94, .caload, 0, 0, 0, 0) :: (95, .goto 16, 111, 0, 0, 0) :: bl_X12_entry_98
def bl_X12_entry_53 : List ax_R := (53, .istore 4, 0, 0, 0, 0) :: (55, .iload_n 3, 0, 0, 0, 0) :: (56, .iconst 0, 0, 0, 0, 0) :: (57, .iload 4, 0, 0, 0, 0) :: (59, .iconst 1, 0, 0, 0, 0) :: (60, .isub, 0, 0, 0, 0) :: (61, .invokestatic 158, 114, 3, 0, 1501) :: (64, .ifCond .eq 9, 73, 0, 0, 0) ::
  (67, .aload_n 0, 0, 0, 0, 0) :: (68, .iconst 1, 0, 0, 0, 0) :: (69, .invokevirtual 162, 113, 2, 14, 1504) :: (72, .ireturn, 0, 0, 0, 0) :: bl_X12_entry_73
def bl_X12_entry_45 : List ax_R := (45, .aload_n 0, 0, 0, 0, 0) :: (46, .getfield 29, 14, 10, 1, 1324) :: (49, .iload_n 1, 0, 0, 0, 0) :: (50, .iconst 1, 0, 0, 0, 0) :: (51, .isub, 0, 0, 0, 0) :: (52, .iaload, 0, 0, 0, 0) :: bl_X12_entry_53
def bl_X12_entry_30 : List ax_R := (30, .iload_n 2, 0, 0, 0, 0) :: (31, .ifCond .ne 14, 45, 0, 0, 0) :: (34, .aload_n 0, 0, 0, 0, 0) :: (35, .getfield 23, 14, 8, 1, 1322) :: (38, .iload_n 1, 0, 0, 0, 0) :: (39, .iconst 1, 0, 0, 0, 0) :: (40, .isub, 0, 0, 0, 0) :: (41, .iaload, 0, 0, 0, 0) ::
  (42, .goto 11, 53, 0, 0, 0) :: bl_X12_entry_45
def bl_X12_entry_24 : List ax_R := (24, .aload_n 0, 0, 0, 0, 0) :: (25, .iconst 1, 0, 0, 0, 0) :: (26, .invokevirtual 162, 113, 2, 14, 1504) :: (29, .ireturn, 0, 0, 0, 0) :: bl_X12_entry_30
def bl_X12_entry_0 : List ax_R := (0, .iload_n 1, 0, 0, 0, 0) :: (1, .iconst 1, 0, 0, 0, 0) :: (2, .bipush 7, 0, 0, 0, 0) :: (4, .aload_n 0, 0, 0, 0, 0) :: (5, .getfield 89, 14, 6, 0, 1320) :: (8, .iadd, 0, 0, 0, 0) :: (9, .invokestatic 158, 114, 3, 0, 1501) :: (12, .ifCond .ne 12, 24, 0, 0, 0) ::
  (15, .iload_n 2, 0, 0, 0, 0) :: (16, .iconst 0, 0, 0, 0, 0) :: (17, .iconst 1, 0, 0, 0, 0) :: (18, .invokestatic 158, 114, 3, 0, 1501) :: (21, .ifCond .eq 9, 30, 0, 0, 0) :: bl_X12_entry_24
def pr_X12_entry : List ax_R := bl_X12_entry_0
def pt_X12_entry : ax_T := ((⟨"PageServerModel", "entry", "(III)I"⟩, prog_14_method_64_code, 5, (some .int)), 1711, 94, 1709, 1710)
def bl_J0_init_905df_0 : List ax_R := (0, .aload_n 0, 0, 0, 0, 0) :: (1, .aload_n 1, 0, 0, 0, 0) :: (2, .iconst 0, 0, 0, 0, 0) :: (3, .aload_n 1, 0, 0, 0, 0) :: (4, .arraylength, 0, 0, 0, 0) :: (5, .aconst_null, 0, 0, 0, 0) :: (6, .invokespecial 27, 175, 5, 0, 691) :: (9, .return_, 0, 0, 0, 0) :: []
def pr_J0_init_905df : List ax_R := bl_J0_init_905df_0
def pt_J0_init_905df : ax_T := ((⟨"java/lang/String", "<init>", "([C)V"⟩, prog_23_method_3_code, 2, none), 690, 90, 689, 0)
def bl_J0_init_bb550_58 : List ax_R := (58, .aload_n 0, 0, 0, 0, 0) :: (59, .iconst 1, 0, 0, 0, 0) :: (60, .putfield 15, 0, 1, 0, 746) :: (63, .aload_n 0, 0, 0, 0, 0) :: (64, .aload_n 1, 0, 0, 0, 0) :: (65, .iload_n 2, 0, 0, 0, 0) :: (66, .iload_n 3, 0, 0, 0, 0) :: (67, .invokestatic 180, 0, 0, 99, 0) ::
  (70, .putfield 9, 0, 0, 1, 745) :: (73, .return_, 0, 0, 0, 0) :: []
def bl_J0_init_bb550_27 : List ax_R := (27, .getstatic 38, 1, 0, 0, 213) :: (30, .ifCond .eq 28, 58, 0, 0, 0) :: (33, .aload_n 1, 0, 0, 0, 0) :: (34, .iload_n 2, 0, 0, 0, 0) :: (35, .iload_n 3, 0, 0, 0, 0) :: (36, .invokestatic 177, 185, 3, 0, 696) :: (39, .astore 5, 0, 0, 0, 0) :: (41, .aload_n 0, 0, 0, 0, 0) ::
  (42, .aload 5, 0, 0, 0, 0) :: (44, .iload_n 3, 0, 0, 0, 0) :: (45, .invokestatic 47, 204, 2, 0, 741) :: (48, .putfield 15, 0, 1, 0, 746) :: (51, .aload_n 0, 0, 0, 0, 0) :: (52, .aload 5, 0, 0, 0, 0) :: (54, .putfield 9, 0, 0, 1, 745) :: (57, .return_, 0, 0, 0, 0) :: bl_J0_init_bb550_58
def bl_J0_init_bb550_0 : List ax_R := (0, .aload_n 0, 0, 0, 0, 0) :: (1, .invokespecial 1, 0, 0, 5, 694) :: (4, .iload_n 3, 0, 0, 0, 0) :: (5, .ifCond .ne 22, 27, 0, 0, 0) :: (8, .aload_n 0, 0, 0, 0, 0) :: (9, .ldc 7, 0, 15, 1, 14) :: (11, .getfield 9, 0, 0, 1, 745) :: (14, .putfield 9, 0, 0, 1, 745) ::
  (17, .aload_n 0, 0, 0, 0, 0) :: (18, .ldc 7, 0, 15, 1, 14) :: (20, .getfield 15, 0, 1, 0, 746) :: (23, .putfield 15, 0, 1, 0, 746) :: (26, .return_, 0, 0, 0, 0) :: bl_J0_init_bb550_27
def pr_J0_init_bb550 : List ax_R := bl_J0_init_bb550_0
def pt_J0_init_bb550 : ax_T := ((⟨"java/lang/String", "<init>", "([CIILjava/lang/Void;)V"⟩, prog_23_method_149_code, 6, none), 693, 90, 692, 0)
def bl_J0_length_8abf5_0 : List ax_R := (0, .aload_n 0, 0, 0, 0, 0) :: (1, .getfield 9, 0, 0, 1, 745) :: (4, .arraylength, 0, 0, 0, 0) :: (5, .aload_n 0, 0, 0, 0, 0) :: (6, .invokevirtual 335, 180, 1, 0, 209) :: (9, .ishr, 0, 0, 0, 0) :: (10, .ireturn, 0, 0, 0, 0) :: []
def pr_J0_length_8abf5 : List ax_R := bl_J0_length_8abf5_0
def pt_J0_length_8abf5 : ax_T := ((⟨"java/lang/String", "length", "()I"⟩, prog_23_method_54_code, 1, (some .int)), 208, 90, 206, 207)
def bl_J0_isEmpty_aae02_13 : List ax_R := (13, .ireturn, 0, 0, 0, 0) :: []
def bl_J0_isEmpty_aae02_12 : List ax_R := (12, .iconst 0, 0, 0, 0, 0) :: bl_J0_isEmpty_aae02_13
def bl_J0_isEmpty_aae02_0 : List ax_R := (0, .aload_n 0, 0, 0, 0, 0) :: (1, .getfield 9, 0, 0, 1, 745) :: (4, .arraylength, 0, 0, 0, 0) :: (5, .ifCond .ne 7, 12, 0, 0, 0) :: (8, .iconst 1, 0, 0, 0, 0) :: (9, .goto 4, 13, 0, 0, 0) :: bl_J0_isEmpty_aae02_12
def pr_J0_isEmpty_aae02 : List ax_R := bl_J0_isEmpty_aae02_0
def pt_J0_isEmpty_aae02 : ax_T := ((⟨"java/lang/String", "isEmpty", "()Z"⟩, prog_23_method_55_code, 1, (some .boolean)), 806, 90, 804, 805)
def bl_J0_charAt_5068e_16 : List ax_R := (16, .aload_n 0, 0, 0, 0, 0) :: (17, .getfield 9, 0, 0, 1, 745) :: (20, .iload_n 1, 0, 0, 0, 0) :: (21, .invokestatic 498, 0, 0, 99, 0) :: (24, .ireturn, 0, 0, 0, 0) :: []
def bl_J0_charAt_5068e_0 : List ax_R := (0, .aload_n 0, 0, 0, 0, 0) :: (1, .invokevirtual 492, 181, 1, 0, 811) :: (4, .ifCond .eq 12, 16, 0, 0, 0) :: (7, .aload_n 0, 0, 0, 0, 0) :: (8, .getfield 9, 0, 0, 1, 745) :: (11, .iload_n 1, 0, 0, 0, 0) :: (12, .invokestatic 495, 183, 2, 0, 815) :: (15, .ireturn, 0, 0, 0, 0) :: bl_J0_charAt_5068e_16
def pr_J0_charAt_5068e : List ax_R := bl_J0_charAt_5068e_0
def pt_J0_charAt_5068e : ax_T := ((⟨"java/lang/String", "charAt", "(I)C"⟩, prog_23_method_56_code, 2, (some .char)), 810, 90, 808, 809)
def bl_J0_equals_9ea2d_55 : List ax_R := (55, .ireturn, 0, 0, 0, 0) :: []
def bl_J0_equals_9ea2d_54 : List ax_R := (54, .iconst 0, 0, 0, 0, 0) :: bl_J0_equals_9ea2d_55
def bl_J0_equals_9ea2d_36 : List ax_R := (36, .aload_n 0, 0, 0, 0, 0) :: (37, .getfield 9, 0, 0, 1, 745) :: (40, .aload_n 2, 0, 0, 0, 0) :: (41, .getfield 9, 0, 0, 1, 745) :: (44, .invokestatic 541, 184, 2, 0, 581) :: (47, .ifCond .eq 7, 54, 0, 0, 0) :: (50, .iconst 1, 0, 0, 0, 0) :: (51, .goto 4, 55, 0, 0, 0) :: bl_J0_equals_9ea2d_54
def bl_J0_equals_9ea2d_7 : List ax_R := (7, .aload_n 1, 0, 0, 0, 0) :: (8, .instanceof 10, 0, 0, 0, 580) :: (11, .ifCond .eq 43, 54, 0, 0, 0) :: (14, .aload_n 1, 0, 0, 0, 0) :: (15, .checkcast 10, 0, 0, 0, 580) :: (18, .astore_n 2, 0, 0, 0, 0) :: (19, .getstatic 38, 1, 0, 0, 213) :: (22, .ifCond .eq 14, 36, 0, 0, 0) ::
  (25, .aload_n 0, 0, 0, 0, 0) :: (26, .getfield 15, 0, 1, 0, 746) :: (29, .aload_n 2, 0, 0, 0, 0) :: (30, .getfield 15, 0, 1, 0, 746) :: (33, .if_icmp .ne 21, 54, 0, 0, 0) :: bl_J0_equals_9ea2d_36
def bl_J0_equals_9ea2d_0 : List ax_R := (0, .aload_n 0, 0, 0, 0, 0) :: (1, .aload_n 1, 0, 0, 0, 0) :: (2, .if_acmp .ne 5, 7, 0, 0, 0) :: (5, .iconst 1, 0, 0, 0, 0) :: (6, .ireturn, 0, 0, 0, 0) :: bl_J0_equals_9ea2d_7
def pr_J0_equals_9ea2d : List ax_R := bl_J0_equals_9ea2d_0
def pt_J0_equals_9ea2d : ax_T := ((⟨"java/lang/String", "equals", "(Ljava/lang/Object;)Z"⟩, prog_23_method_66_code, 3, (some .boolean)), 579, 90, 577, 578)
def bl_J0_coder_7d493_14 : List ax_R := (14, .ireturn, 0, 0, 0, 0) :: []
def bl_J0_coder_7d493_13 : List ax_R := (13, .iconst 1, 0, 0, 0, 0) :: bl_J0_coder_7d493_14
def bl_J0_coder_7d493_0 : List ax_R := (0, .getstatic 38, 1, 0, 0, 213) :: (3, .ifCond .eq 10, 13, 0, 0, 0) :: (6, .aload_n 0, 0, 0, 0, 0) :: (7, .getfield 15, 0, 1, 0, 746) :: (10, .goto 4, 14, 0, 0, 0) :: bl_J0_coder_7d493_13
def pr_J0_coder_7d493 : List ax_R := bl_J0_coder_7d493_0
def pt_J0_coder_7d493 : ax_T := ((⟨"java/lang/String", "coder", "()B"⟩, prog_23_method_152_code, 1, (some .byte)), 212, 90, 210, 211)
def bl_J0_isLatin1_aae02_18 : List ax_R := (18, .ireturn, 0, 0, 0, 0) :: []
def bl_J0_isLatin1_aae02_17 : List ax_R := (17, .iconst 0, 0, 0, 0, 0) :: bl_J0_isLatin1_aae02_18
def bl_J0_isLatin1_aae02_0 : List ax_R := (0, .getstatic 38, 1, 0, 0, 213) :: (3, .ifCond .eq 14, 17, 0, 0, 0) :: (6, .aload_n 0, 0, 0, 0, 0) :: (7, .getfield 15, 0, 1, 0, 746) :: (10, .ifCond .ne 7, 17, 0, 0, 0) :: (13, .iconst 1, 0, 0, 0, 0) :: (14, .goto 4, 18, 0, 0, 0) :: bl_J0_isLatin1_aae02_17
def pr_J0_isLatin1_aae02 : List ax_R := bl_J0_isLatin1_aae02_0
def pt_J0_isLatin1_aae02 : ax_T := ((⟨"java/lang/String", "isLatin1", "()Z"⟩, prog_23_method_154_code, 1, (some .boolean)), 814, 90, 812, 813)
def bl_J0_checkIndex_df160_0 : List ax_R := (0, .iload_n 0, 0, 0, 0, 0) :: (1, .iload_n 1, 0, 0, 0, 0) :: (2, .getstatic 1053, 0, 0, 2, 736) :: (5, .invokestatic 1059, 187, 3, 0, 821) :: (8, .pop, 0, 0, 0, 0) :: (9, .return_, 0, 0, 0, 0) :: []
def pr_J0_checkIndex_df160 : List ax_R := bl_J0_checkIndex_df160_0
def pt_J0_checkIndex_df160 : ax_T := ((⟨"java/lang/String", "checkIndex", "(II)V"⟩, prog_23_method_155_code, 2, none), 820, 90, 819, 0)
def bl_J1_charAt_3b067_0 : List ax_R := (0, .iload_n 1, 0, 0, 0, 0) :: (1, .aload_n 0, 0, 0, 0, 0) :: (2, .arraylength, 0, 0, 0, 0) :: (3, .invokestatic 9, 182, 2, 0, 818) :: (6, .aload_n 0, 0, 0, 0, 0) :: (7, .iload_n 1, 0, 0, 0, 0) :: (8, .baload, 0, 0, 0, 0) :: (9, .sipush 255, 0, 0, 0, 0) ::
  (12, .iand, 0, 0, 0, 0) :: (13, .i2c, 0, 0, 0, 0) :: (14, .ireturn, 0, 0, 0, 0) :: []
def pr_J1_charAt_3b067 : List ax_R := bl_J1_charAt_3b067_0
def pt_J1_charAt_3b067 : ax_T := ((⟨"java/lang/StringLatin1", "charAt", "([BI)C"⟩, prog_25_method_2_code, 2, (some .char)), 817, 106, 816, 0)
def bl_J1_equals_b5fdf_34 : List ax_R := (34, .iconst 0, 0, 0, 0, 0) :: (35, .ireturn, 0, 0, 0, 0) :: []
def bl_J1_equals_b5fdf_32 : List ax_R := (32, .iconst 1, 0, 0, 0, 0) :: (33, .ireturn, 0, 0, 0, 0) :: bl_J1_equals_b5fdf_34
def bl_J1_equals_b5fdf_26 : List ax_R := (26, .iinc 2 1, 0, 0, 0, 0) :: (29, .goto (-20), 9, 0, 0, 0) :: bl_J1_equals_b5fdf_32
def bl_J1_equals_b5fdf_9 : List ax_R := (9, .iload_n 2, 0, 0, 0, 0) :: (10, .aload_n 0, 0, 0, 0, 0) :: (11, .arraylength, 0, 0, 0, 0) :: (12, .if_icmp .ge 20, 32, 0, 0, 0) :: (15, .aload_n 0, 0, 0, 0, 0) :: (16, .iload_n 2, 0, 0, 0, 0) :: (17, .baload, 0, 0, 0, 0) :: (18, .aload_n 1, 0, 0, 0, 0) ::
  (19, .iload_n 2, 0, 0, 0, 0) :: (20, .baload, 0, 0, 0, 0) :: (21, .if_icmp .eq 5, 26, 0, 0, 0) :: (24, .iconst 0, 0, 0, 0, 0) :: (25, .ireturn, 0, 0, 0, 0) :: bl_J1_equals_b5fdf_26
def bl_J1_equals_b5fdf_0 : List ax_R := (0, .aload_n 0, 0, 0, 0, 0) :: (1, .arraylength, 0, 0, 0, 0) :: (2, .aload_n 1, 0, 0, 0, 0) :: (3, .arraylength, 0, 0, 0, 0) :: (4, .if_icmp .ne 30, 34, 0, 0, 0) :: (7, .iconst 0, 0, 0, 0, 0) :: (8, .istore_n 2, 0, 0, 0, 0) :: bl_J1_equals_b5fdf_9
def pr_J1_equals_b5fdf : List ax_R := bl_J1_equals_b5fdf_0
def pt_J1_equals_b5fdf : ax_T := ((⟨"java/lang/StringLatin1", "equals", "([B[B)Z"⟩, prog_25_method_13_code, 3, (some .boolean)), 583, 106, 582, 0)
def bl_J2_compress_dfd3c_57 : List ax_R := (57, .aload_n 3, 0, 0, 0, 0) :: (58, .areturn, 0, 0, 0, 0) :: []
def bl_J2_compress_dfd3c_54 : List ax_R := (54, .aload 5, 0, 0, 0, 0) :: (56, .areturn, 0, 0, 0, 0) :: bl_J2_compress_dfd3c_57
def bl_J2_compress_dfd3c_0 : List ax_R := (0, .iload_n 2, 0, 0, 0, 0) :: (1, .newarray .byte, 102, 0, 0, 231) :: (3, .astore_n 3, 0, 0, 0, 0) :: (4, .aload_n 0, 0, 0, 0, 0) :: (5, .iload_n 1, 0, 0, 0, 0) :: (6, .aload_n 3, 0, 0, 0, 0) :: (7, .iconst 0, 0, 0, 0, 0) :: (8, .iload_n 2, 0, 0, 0, 0) ::
  (9, .invokestatic 115, 186, 5, 0, 699) :: (12, .istore 4, 0, 0, 0, 0) :: (14, .iload 4, 0, 0, 0, 0) :: (16, .iload_n 2, 0, 0, 0, 0) :: (17, .if_icmp .eq 40, 57, 0, 0, 0) :: (20, .aload_n 0, 0, 0, 0, 0) :: (21, .iload_n 1, 0, 0, 0, 0) :: (22, .iload_n 2, 0, 0, 0, 0) ::
  (23, .invokestatic 119, 0, 0, 99, 0) :: (26, .astore 5, 0, 0, 0, 0) :: (28, .aload 5, 0, 0, 0, 0) :: (30, .iload 4, 0, 0, 0, 0) :: (32, .invokestatic 71, 0, 0, 99, 0) :: (35, .sipush 255, 0, 0, 0, 0) :: (38, .if_icmp .gt 16, 54, 0, 0, 0) :: (41, .aload 5, 0, 0, 0, 0) ::
  (43, .iconst 0, 0, 0, 0, 0) :: (44, .aload_n 3, 0, 0, 0, 0) :: (45, .iconst 0, 0, 0, 0, 0) :: (46, .iload_n 2, 0, 0, 0, 0) :: (47, .invokestatic 123, 0, 0, 99, 0) :: (50, .iload_n 2, 0, 0, 0, 0) :: (51, .if_icmp .eq 6, 57, 0, 0, 0) :: bl_J2_compress_dfd3c_54
def pr_J2_compress_dfd3c : List ax_R := bl_J2_compress_dfd3c_0
def pt_J2_compress_dfd3c : ax_T := ((⟨"java/lang/StringUTF16", "compress", "([CII)[B"⟩, prog_26_method_16_code, 6, (some (.array .byte))), 698, 101, 697, 0)
def bl_J2_compress_fe38e_44 : List ax_R := (44, .iload 4, 0, 0, 0, 0) :: (46, .ireturn, 0, 0, 0, 0) :: []
def bl_J2_compress_fe38e_26 : List ax_R := (26, .aload_n 2, 0, 0, 0, 0) :: (27, .iload_n 3, 0, 0, 0, 0) :: (28, .iload 6, 0, 0, 0, 0) :: (30, .i2b, 0, 0, 0, 0) :: (31, .bastore, 0, 0, 0, 0) :: (32, .iinc 1 1, 0, 0, 0, 0) :: (35, .iinc 3 1, 0, 0, 0, 0) :: (38, .iinc 5 1, 0, 0, 0, 0) ::
  (41, .goto (-38), 3, 0, 0, 0) :: bl_J2_compress_fe38e_44
def bl_J2_compress_fe38e_3 : List ax_R := (3, .iload 5, 0, 0, 0, 0) :: (5, .iload 4, 0, 0, 0, 0) :: (7, .if_icmp .ge 37, 44, 0, 0, 0) :: (10, .aload_n 0, 0, 0, 0, 0) :: (11, .iload_n 1, 0, 0, 0, 0) :: (12, .caload, 0, 0, 0, 0) :: (13, .istore 6, 0, 0, 0, 0) :: (15, .iload 6, 0, 0, 0, 0) ::
  (17, .sipush 255, 0, 0, 0, 0) :: (20, .if_icmp .le 6, 26, 0, 0, 0) :: (23, .iload 5, 0, 0, 0, 0) :: (25, .ireturn, 0, 0, 0, 0) :: bl_J2_compress_fe38e_26
def bl_J2_compress_fe38e_0 : List ax_R := (0, .iconst 0, 0, 0, 0, 0) :: (1, .istore 5, 0, 0, 0, 0) :: bl_J2_compress_fe38e_3
def pr_J2_compress_fe38e : List ax_R := bl_J2_compress_fe38e_0
def pt_J2_compress_fe38e : ax_T := ((⟨"java/lang/StringUTF16", "compress", "([CI[BII)I"⟩, prog_26_method_21_code, 7, (some .int)), 701, 101, 700, 0)
def bl_J3_checkIndex_8e157_16 : List ax_R := (16, .iload_n 0, 0, 0, 0, 0) :: (17, .ireturn, 0, 0, 0, 0) :: []
def bl_J3_checkIndex_8e157_9 : List ax_R := (9, .aload_n 2, 0, 0, 0, 0) :: (10, .iload_n 0, 0, 0, 0, 0) :: (11, .iload_n 1, 0, 0, 0, 0) :: (12, .invokestatic 95, 0, 0, 99, 0) :: (15, .athrow, 0, 0, 0, 0) :: bl_J3_checkIndex_8e157_16
def bl_J3_checkIndex_8e157_0 : List ax_R := (0, .iload_n 0, 0, 0, 0, 0) :: (1, .ifCond .lt 8, 9, 0, 0, 0) :: (4, .iload_n 0, 0, 0, 0, 0) :: (5, .iload_n 1, 0, 0, 0, 0) :: (6, .if_icmp .lt 10, 16, 0, 0, 0) :: bl_J3_checkIndex_8e157_9
def pr_J3_checkIndex_8e157 : List ax_R := bl_J3_checkIndex_8e157_0
def pt_J3_checkIndex_8e157 : ax_T := ((⟨"jdk/internal/util/Preconditions", "checkIndex", "(IILjava/util/function/BiFunction;)I"⟩, prog_32_method_11_code, 3, (some .int)), 823, 107, 822, 0)
def bl_J4_init_da8c8_0 : List ax_R := (0, .aload_n 0, 0, 0, 0, 0) :: (1, .bipush 16, 0, 0, 0, 0) :: (3, .invokespecial 1, 189, 2, 0, 1010) :: (6, .return_, 0, 0, 0, 0) :: []
def pr_J4_init_da8c8 : List ax_R := bl_J4_init_da8c8_0
def pt_J4_init_da8c8 : ax_T := ((⟨"java/lang/StringBuilder", "<init>", "()V"⟩, prog_24_method_1_code, 1, none), 1009, 100, 1008, 0)
def bl_J5_init_d00df_38 : List ax_R := (38, .return_, 0, 0, 0, 0) :: []
def bl_J5_init_d00df_25 : List ax_R := (25, .aload_n 0, 0, 0, 0, 0) :: (26, .iload_n 1, 0, 0, 0, 0) :: (27, .invokestatic 26, 0, 0, 99, 0) :: (30, .putfield 15, 1, 0, 1, 1016) :: (33, .aload_n 0, 0, 0, 0, 0) :: (34, .iconst 1, 0, 0, 0, 0) :: (35, .putfield 22, 1, 1, 0, 1017) :: bl_J5_init_d00df_38
def bl_J5_init_d00df_0 : List ax_R := (0, .aload_n 0, 0, 0, 0, 0) :: (1, .invokespecial 3, 0, 0, 5, 1013) :: (4, .getstatic 18, 1, 0, 0, 1014) :: (7, .ifCond .eq 18, 25, 0, 0, 0) :: (10, .aload_n 0, 0, 0, 0, 0) :: (11, .iload_n 1, 0, 0, 0, 0) :: (12, .newarray .byte, 102, 0, 0, 231) :: (14, .putfield 15, 1, 0, 1, 1016) ::
  (17, .aload_n 0, 0, 0, 0, 0) :: (18, .iconst 0, 0, 0, 0, 0) :: (19, .putfield 22, 1, 1, 0, 1017) :: (22, .goto 16, 38, 0, 0, 0) :: bl_J5_init_d00df_25
def pr_J5_init_d00df : List ax_R := bl_J5_init_d00df_0
def pt_J5_init_d00df : ax_T := ((⟨"java/lang/AbstractStringBuilder", "<init>", "(I)V"⟩, prog_15_method_2_code, 2, none), 1012, 99, 1011, 0)
def bl_J4_append_cf468_0 : List ax_R := (0, .aload_n 0, 0, 0, 0, 0) :: (1, .iload_n 1, 0, 0, 0, 0) :: (2, .invokespecial 50, 191, 2, 11, 1033) :: (5, .pop, 0, 0, 0, 0) :: (6, .aload_n 0, 0, 0, 0, 0) :: (7, .areturn, 0, 0, 0, 0) :: []
def pr_J4_append_cf468 : List ax_R := bl_J4_append_cf468_0
def pt_J4_append_cf468 : ax_T := ((⟨"java/lang/StringBuilder", "append", "(C)Ljava/lang/StringBuilder;"⟩, prog_24_method_14_code, 2, (some (.object "java/lang/StringBuilder"))), 1032, 100, 1030, 1031)
def bl_J5_append_3fe6f_75 : List ax_R := (75, .aload_n 0, 0, 0, 0, 0) :: (76, .areturn, 0, 0, 0, 0) :: []
def bl_J5_append_3fe6f_56 : List ax_R := (56, .aload_n 0, 0, 0, 0, 0) :: (57, .getfield 15, 1, 0, 1, 1016) :: (60, .aload_n 0, 0, 0, 0, 0) :: (61, .dup, 0, 0, 0, 0) :: (62, .getfield 79, 1, 3, 0, 1019) :: (65, .dup_x1, 0, 0, 0, 0) :: (66, .iconst 1, 0, 0, 0, 0) :: (67, .iadd, 0, 0, 0, 0) ::
  (68, .putfield 79, 1, 3, 0, 1019) :: (71, .iload_n 1, 0, 0, 0, 0) :: (72, .invokestatic 197, 0, 0, 99, 0) :: bl_J5_append_3fe6f_75
def bl_J5_append_3fe6f_45 : List ax_R := (45, .aload_n 0, 0, 0, 0, 0) :: (46, .invokevirtual 83, 193, 1, 1, 1065) :: (49, .ifCond .eq 7, 56, 0, 0, 0) :: (52, .aload_n 0, 0, 0, 0, 0) :: (53, .invokevirtual 195, 0, 0, 99, 0) :: bl_J5_append_3fe6f_56
def bl_J5_append_3fe6f_0 : List ax_R := (0, .aload_n 0, 0, 0, 0, 0) :: (1, .aload_n 0, 0, 0, 0, 0) :: (2, .getfield 79, 1, 3, 0, 1019) :: (5, .iconst 1, 0, 0, 0, 0) :: (6, .iadd, 0, 0, 0, 0) :: (7, .invokevirtual 100, 192, 2, 1, 1036) :: (10, .aload_n 0, 0, 0, 0, 0) :: (11, .invokevirtual 83, 193, 1, 1, 1065) ::
  (14, .ifCond .eq 31, 45, 0, 0, 0) :: (17, .iload_n 1, 0, 0, 0, 0) :: (18, .invokestatic 191, 194, 1, 0, 1070) :: (21, .ifCond .eq 24, 45, 0, 0, 0) :: (24, .aload_n 0, 0, 0, 0, 0) :: (25, .getfield 15, 1, 0, 1, 1016) :: (28, .aload_n 0, 0, 0, 0, 0) :: (29, .dup, 0, 0, 0, 0) ::
  (30, .getfield 79, 1, 3, 0, 1019) :: (33, .dup_x1, 0, 0, 0, 0) :: (34, .iconst 1, 0, 0, 0, 0) :: (35, .iadd, 0, 0, 0, 0) :: (36, .putfield 79, 1, 3, 0, 1019) :: (39, .iload_n 1, 0, 0, 0, 0) :: (40, .i2b, 0, 0, 0, 0) :: (41, .bastore, 0, 0, 0, 0) ::
  (42, .goto 33, 75, 0, 0, 0) :: bl_J5_append_3fe6f_45
def pr_J5_append_3fe6f : List ax_R := bl_J5_append_3fe6f_0
def pt_J5_append_3fe6f : ax_T := ((⟨"java/lang/AbstractStringBuilder", "append", "(C)Ljava/lang/AbstractStringBuilder;"⟩, prog_15_method_31_code, 2, (some (.object "java/lang/AbstractStringBuilder"))), 1035, 99, 1034, 1714)
def bl_J5_ensureCapacityInternal_d00df_38 : List ax_R := (38, .return_, 0, 0, 0, 0) :: []
def bl_J5_ensureCapacityInternal_d00df_0 : List ax_R := (0, .aload_n 0, 0, 0, 0, 0) :: (1, .getfield 15, 1, 0, 1, 1016) :: (4, .arraylength, 0, 0, 0, 0) :: (5, .aload_n 0, 0, 0, 0, 0) :: (6, .getfield 22, 1, 1, 0, 1017) :: (9, .ishr, 0, 0, 0, 0) :: (10, .istore_n 2, 0, 0, 0, 0) :: (11, .iload_n 1, 0, 0, 0, 0) ::
  (12, .iload_n 2, 0, 0, 0, 0) :: (13, .isub, 0, 0, 0, 0) :: (14, .ifCond .le 24, 38, 0, 0, 0) :: (17, .aload_n 0, 0, 0, 0, 0) :: (18, .aload_n 0, 0, 0, 0, 0) :: (19, .getfield 15, 1, 0, 1, 1016) :: (22, .aload_n 0, 0, 0, 0, 0) :: (23, .iload_n 1, 0, 0, 0, 0) ::
  (24, .invokevirtual 104, 0, 0, 99, 0) :: (27, .aload_n 0, 0, 0, 0, 0) :: (28, .getfield 22, 1, 1, 0, 1017) :: (31, .ishl, 0, 0, 0, 0) :: (32, .invokestatic 108, 0, 0, 99, 0) :: (35, .putfield 15, 1, 0, 1, 1016) :: bl_J5_ensureCapacityInternal_d00df_38
def pr_J5_ensureCapacityInternal_d00df : List ax_R := bl_J5_ensureCapacityInternal_d00df_0
def pt_J5_ensureCapacityInternal_d00df : ax_T := ((⟨"java/lang/AbstractStringBuilder", "ensureCapacityInternal", "(I)V"⟩, prog_15_method_9_code, 3, none), 1039, 99, 1038, 9999)
def bl_J5_isLatin1_aae02_18 : List ax_R := (18, .ireturn, 0, 0, 0, 0) :: []
def bl_J5_isLatin1_aae02_17 : List ax_R := (17, .iconst 0, 0, 0, 0, 0) :: bl_J5_isLatin1_aae02_18
def bl_J5_isLatin1_aae02_0 : List ax_R := (0, .getstatic 18, 1, 0, 0, 1014) :: (3, .ifCond .eq 14, 17, 0, 0, 0) :: (6, .aload_n 0, 0, 0, 0, 0) :: (7, .getfield 22, 1, 1, 0, 1017) :: (10, .ifCond .ne 7, 17, 0, 0, 0) :: (13, .iconst 1, 0, 0, 0, 0) :: (14, .goto 4, 18, 0, 0, 0) :: bl_J5_isLatin1_aae02_17
def pr_J5_isLatin1_aae02 : List ax_R := bl_J5_isLatin1_aae02_0
def pt_J5_isLatin1_aae02 : ax_T := ((⟨"java/lang/AbstractStringBuilder", "isLatin1", "()Z"⟩, prog_15_method_68_code, 1, (some .boolean)), 1069, 99, 1066, 1068)
def bl_J1_canEncode_fc78d_12 : List ax_R := (12, .ireturn, 0, 0, 0, 0) :: []
def bl_J1_canEncode_fc78d_11 : List ax_R := (11, .iconst 0, 0, 0, 0, 0) :: bl_J1_canEncode_fc78d_12
def bl_J1_canEncode_fc78d_0 : List ax_R := (0, .iload_n 0, 0, 0, 0, 0) :: (1, .sipush 255, 0, 0, 0, 0) :: (4, .if_icmp .gt 7, 11, 0, 0, 0) :: (7, .iconst 1, 0, 0, 0, 0) :: (8, .goto 4, 12, 0, 0, 0) :: bl_J1_canEncode_fc78d_11
def pr_J1_canEncode_fc78d : List ax_R := bl_J1_canEncode_fc78d_0
def pt_J1_canEncode_fc78d : ax_T := ((⟨"java/lang/StringLatin1", "canEncode", "(C)Z"⟩, prog_25_method_3_code, 1, (some .boolean)), 1072, 106, 1071, 0)
def bl_J4_toString_0e30d_0 : List ax_R := (0, .new 18, 0, 4, 0, 1093) :: (3, .dup, 0, 0, 0, 0) :: (4, .aload_n 0, 0, 0, 0, 0) :: (5, .invokespecial 137, 196, 2, 0, 1094) :: (8, .areturn, 0, 0, 0, 0) :: []
def pr_J4_toString_0e30d : List ax_R := bl_J4_toString_0e30d_0
def pt_J4_toString_0e30d : ax_T := ((⟨"java/lang/StringBuilder", "toString", "()Ljava/lang/String;"⟩, prog_24_method_42_code, 1, (some (.object "java/lang/String"))), 1092, 100, 1090, 1091)
def bl_J0_init_81219_0 : List ax_R := (0, .aload_n 0, 0, 0, 0, 0) :: (1, .aload_n 1, 0, 0, 0, 0) :: (2, .aconst_null, 0, 0, 0, 0) :: (3, .invokespecial 489, 197, 3, 0, 1097) :: (6, .return_, 0, 0, 0, 0) :: []
def pr_J0_init_81219 : List ax_R := bl_J0_init_81219_0
def pt_J0_init_81219 : ax_T := ((⟨"java/lang/String", "<init>", "(Ljava/lang/StringBuilder;)V"⟩, prog_23_method_53_code, 2, none), 1096, 90, 1095, 0)
def bl_J0_init_db425_97 : List ax_R := (97, .return_, 0, 0, 0, 0) :: []
def bl_J0_init_db425_79 : List ax_R := (79, .aload_n 0, 0, 0, 0, 0) :: (80, .iconst 1, 0, 0, 0, 0) :: (81, .putfield 15, 0, 1, 0, 746) :: (84, .aload_n 0, 0, 0, 0, 0) :: (85, .aload_n 3, 0, 0, 0, 0) :: (86, .iconst 0, 0, 0, 0, 0) :: (87, .iload 4, 0, 0, 0, 0) :: (89, .iconst 1, 0, 0, 0, 0) ::
  (90, .ishl, 0, 0, 0, 0) :: (91, .invokestatic 54, 201, 3, 0, 1114) :: (94, .putfield 9, 0, 0, 1, 745) :: bl_J0_init_db425_97
def bl_J0_init_db425_41 : List ax_R := (41, .getstatic 38, 1, 0, 0, 213) :: (44, .ifCond .eq 35, 79, 0, 0, 0) :: (47, .aload_n 1, 0, 0, 0, 0) :: (48, .getfield 1048, 1, 2, 0, 1018) :: (51, .ifCond .eq 28, 79, 0, 0, 0) :: (54, .aload_n 0, 0, 0, 0, 0) :: (55, .aload_n 3, 0, 0, 0, 0) :: (56, .iconst 0, 0, 0, 0, 0) ::
  (57, .iload 4, 0, 0, 0, 0) :: (59, .invokestatic 1051, 0, 0, 99, 0) :: (62, .putfield 9, 0, 0, 1, 745) :: (65, .aload_n 0, 0, 0, 0, 0) :: (66, .aload_n 0, 0, 0, 0, 0) :: (67, .getfield 9, 0, 0, 1, 745) :: (70, .iload 4, 0, 0, 0, 0) :: (72, .invokestatic 47, 204, 2, 0, 741) ::
  (75, .putfield 15, 0, 1, 0, 746) :: (78, .return_, 0, 0, 0, 0) :: bl_J0_init_db425_79
def bl_J0_init_db425_0 : List ax_R := (0, .aload_n 0, 0, 0, 0, 0) :: (1, .invokespecial 1, 0, 0, 5, 694) :: (4, .aload_n 1, 0, 0, 0, 0) :: (5, .invokevirtual 552, 198, 1, 1, 1100) :: (8, .astore_n 3, 0, 0, 0, 0) :: (9, .aload_n 1, 0, 0, 0, 0) :: (10, .invokevirtual 549, 199, 1, 1, 6105) :: (13, .istore 4, 0, 0, 0, 0) ::
  (15, .aload_n 1, 0, 0, 0, 0) :: (16, .invokevirtual 1047, 193, 1, 1, 1113) :: (19, .ifCond .eq 22, 41, 0, 0, 0) :: (22, .aload_n 0, 0, 0, 0, 0) :: (23, .iconst 0, 0, 0, 0, 0) :: (24, .putfield 15, 0, 1, 0, 746) :: (27, .aload_n 0, 0, 0, 0, 0) :: (28, .aload_n 3, 0, 0, 0, 0) ::
  (29, .iconst 0, 0, 0, 0, 0) :: (30, .iload 4, 0, 0, 0, 0) :: (32, .invokestatic 54, 201, 3, 0, 1114) :: (35, .putfield 9, 0, 0, 1, 745) :: (38, .goto 59, 97, 0, 0, 0) :: bl_J0_init_db425_41
def pr_J0_init_db425 : List ax_R := bl_J0_init_db425_0
def pt_J0_init_db425 : ax_T := ((⟨"java/lang/String", "<init>", "(Ljava/lang/AbstractStringBuilder;Ljava/lang/Void;)V"⟩, prog_23_method_150_code, 5, none), 1099, 90, 1098, 0)
def bl_J5_getValue_6d5f1_0 : List ax_R := (0, .aload_n 0, 0, 0, 0, 0) :: (1, .getfield 15, 1, 0, 1, 1016) :: (4, .areturn, 0, 0, 0, 0) :: []
def pr_J5_getValue_6d5f1 : List ax_R := bl_J5_getValue_6d5f1_0
def pt_J5_getValue_6d5f1 : ax_T := ((⟨"java/lang/AbstractStringBuilder", "getValue", "()[B"⟩, prog_15_method_64_code, 1, (some (.array .byte))), 1104, 99, 1101, 1103)
def bl_J4_length_8abf5_0 : List ax_R := (0, .aload_n 0, 0, 0, 0, 0) :: (1, .invokespecial 343, 200, 1, 11, 1111) :: (4, .ireturn, 0, 0, 0, 0) :: []
def pr_J4_length_8abf5 : List ax_R := bl_J4_length_8abf5_0
def pt_J4_length_8abf5 : ax_T := ((⟨"java/lang/StringBuilder", "length", "()I"⟩, prog_24_method_93_code, 1, (some .int)), 1110, 100, 1109, 0)
def bl_J5_length_8abf5_0 : List ax_R := (0, .aload_n 0, 0, 0, 0, 0) :: (1, .getfield 79, 1, 3, 0, 1019) :: (4, .ireturn, 0, 0, 0, 0) :: []
def pr_J5_length_8abf5 : List ax_R := bl_J5_length_8abf5_0
def pt_J5_length_8abf5 : ax_T := ((⟨"java/lang/AbstractStringBuilder", "length", "()I"⟩, prog_15_method_6_code, 1, (some .int)), 1112, 99, 1106, 1107)
def bl_J7_copyOfRange_39247_17 : List ax_R := (17, .aload_n 0, 0, 0, 0, 0) :: (18, .invokevirtual 310, 0, 0, 99, 0) :: (21, .checkcast 311, 0, 0, 99, 0) :: (24, .areturn, 0, 0, 0, 0) :: []
def bl_J7_copyOfRange_39247_10 : List ax_R := (10, .aload_n 0, 0, 0, 0, 0) :: (11, .iload_n 1, 0, 0, 0, 0) :: (12, .iload_n 2, 0, 0, 0, 0) :: (13, .invokestatic 339, 202, 3, 0, 1117) :: (16, .areturn, 0, 0, 0, 0) :: bl_J7_copyOfRange_39247_17
def bl_J7_copyOfRange_39247_0 : List ax_R := (0, .iload_n 1, 0, 0, 0, 0) :: (1, .ifCond .ne 9, 10, 0, 0, 0) :: (4, .iload_n 2, 0, 0, 0, 0) :: (5, .aload_n 0, 0, 0, 0, 0) :: (6, .arraylength, 0, 0, 0, 0) :: (7, .if_icmp .eq 10, 17, 0, 0, 0) :: bl_J7_copyOfRange_39247_10
def pr_J7_copyOfRange_39247 : List ax_R := bl_J7_copyOfRange_39247_0
def pt_J7_copyOfRange_39247 : ax_T := ((⟨"java/util/Arrays", "copyOfRange", "([BII)[B"⟩, prog_29_method_132_code, 3, (some (.array .byte))), 1116, 104, 1115, 0)
def bl_J7_copyOfRangeByte_39247_0 : List ax_R := (0, .iload_n 1, 0, 0, 0, 0) :: (1, .iload_n 2, 0, 0, 0, 0) :: (2, .invokestatic 343, 203, 2, 0, 1120) :: (5, .iload_n 2, 0, 0, 0, 0) :: (6, .iload_n 1, 0, 0, 0, 0) :: (7, .isub, 0, 0, 0, 0) :: (8, .istore_n 3, 0, 0, 0, 0) :: (9, .iload_n 3, 0, 0, 0, 0) ::
  (10, .newarray .byte, 102, 0, 0, 231) :: (12, .astore 4, 0, 0, 0, 0) :: (14, .aload_n 0, 0, 0, 0, 0) :: (15, .iload_n 1, 0, 0, 0, 0) :: (16, .aload 4, 0, 0, 0, 0) :: (18, .iconst 0, 0, 0, 0, 0) :: (19, .aload_n 0, 0, 0, 0, 0) :: (20, .arraylength, 0, 0, 0, 0) ::
  (21, .iload_n 1, 0, 0, 0, 0) :: (22, .isub, 0, 0, 0, 0) :: (23, .iload_n 3, 0, 0, 0, 0) :: (24, .invokestatic 304, 0, 0, 7, 1063) :: (27, .invokestatic 150, 0, 0, 8, 1064) :: (30, .aload 4, 0, 0, 0, 0) :: (32, .areturn, 0, 0, 0, 0) :: []
def pr_J7_copyOfRangeByte_39247 : List ax_R := bl_J7_copyOfRangeByte_39247_0
def pt_J7_copyOfRangeByte_39247 : ax_T := ((⟨"java/util/Arrays", "copyOfRangeByte", "([BII)[B"⟩, prog_29_method_133_code, 5, (some (.array .byte))), 1119, 104, 1118, 0)
def bl_J7_checkLength_df160_37 : List ax_R := (37, .return_, 0, 0, 0, 0) :: []
def bl_J7_checkLength_df160_0 : List ax_R := (0, .iload_n 1, 0, 0, 0, 0) :: (1, .iload_n 0, 0, 0, 0, 0) :: (2, .if_icmp .ge 35, 37, 0, 0, 0) :: (5, .new 43, 0, 0, 9, 1123) :: (8, .dup, 0, 0, 0, 0) :: (9, .new 45, 1, 4, 0, 1124) :: (12, .dup, 0, 0, 0, 0) :: (13, .invokespecial 47, 188, 1, 0, 1125) ::
  (16, .iload_n 0, 0, 0, 0, 0) :: (17, .invokevirtual 54, 0, 0, 99, 0) :: (20, .ldc_w 337, 0, 0, 99, 0) :: (23, .invokevirtual 50, 0, 0, 99, 0) :: (26, .iload_n 1, 0, 0, 0, 0) :: (27, .invokevirtual 54, 0, 0, 99, 0) :: (30, .invokevirtual 61, 195, 1, 1, 1191) :: (33, .invokespecial 65, 0, 0, 99, 0) ::
  (36, .athrow, 0, 0, 0, 0) :: bl_J7_checkLength_df160_37
def pr_J7_checkLength_df160 : List ax_R := bl_J7_checkLength_df160_0
def pt_J7_checkLength_df160 : ax_T := ((⟨"java/util/Arrays", "checkLength", "(II)V"⟩, prog_29_method_131_code, 2, none), 1122, 104, 1121, 0)
def bl_J2_coderFromArrayLen_85cad_0 : List ax_R := (0, .iload_n 1, 0, 0, 0, 0) :: (1, .aload_n 0, 0, 0, 0, 0) :: (2, .arraylength, 0, 0, 0, 0) :: (3, .isub, 0, 0, 0, 0) :: (4, .bipush 31, 0, 0, 0, 0) :: (6, .iushr, 0, 0, 0, 0) :: (7, .i2b, 0, 0, 0, 0) :: (8, .ireturn, 0, 0, 0, 0) :: []
def pr_J2_coderFromArrayLen_85cad : List ax_R := bl_J2_coderFromArrayLen_85cad_0
def pt_J2_coderFromArrayLen_85cad : ax_T := ((⟨"java/lang/StringUTF16", "coderFromArrayLen", "([BI)B"⟩, prog_26_method_15_code, 2, (some .byte)), 743, 101, 742, 0)
def ax_P : Nat → Option (ax_T × List ax_R) := fun j => ([(pt_X0_init, pr_X0_init), (pt_X0_clear, pr_X0_clear), (pt_X0_start, pr_X0_start), (pt_X0_add, pr_X0_add), (pt_X0_field, pr_X0_field), (pt_X0_read, pr_X0_read), (pt_X0_readNext, pr_X0_readNext), (pt_X0_readSize, pr_X0_readSize), (pt_X0_readField, pr_X0_readField), (pt_X0_keep, pr_X0_keep), (pt_X0_readText, pr_X0_readText), (pt_X1_init, pr_X1_init), (pt_X1_begin, pr_X1_begin), (pt_X1_receive, pr_X1_receive), (pt_X1_receivePreface, pr_X1_receivePreface), (pt_X1_lookAtFrame, pr_X1_lookAtFrame), (pt_X1_isOutOfOrder, pr_X1_isOutOfOrder), (pt_X1_lookAtData, pr_X1_lookAtData), (pt_X1_lookAtHeaders, pr_X1_lookAtHeaders), (pt_X1_addToBlock, pr_X1_addToBlock), (pt_X1_endBlock, pr_X1_endBlock), (pt_X1_openStream, pr_X1_openStream), (pt_X1_endOpenStream, pr_X1_endOpenStream), (pt_X1_closeClientSide, pr_X1_closeClientSide), (pt_X1_answer, pr_X1_answer), (pt_X1_lookAtReset, pr_X1_lookAtReset), (pt_X1_lookAtSettings, pr_X1_lookAtSettings), (pt_X1_takeSettings, pr_X1_takeSettings), (pt_X1_lookAtPing, pr_X1_lookAtPing), (pt_X1_demandConnectionFrame, pr_X1_demandConnectionFrame), (pt_X1_lookAtWindow, pr_X1_lookAtWindow), (pt_X1_widenConnection, pr_X1_widenConnection), (pt_X1_widenStream, pr_X1_widenStream), (pt_X1_sendBodies, pr_X1_sendBodies), (pt_X1_sendData, pr_X1_sendData), (pt_X1_sendWindow, pr_X1_sendWindow), (pt_X1_sendReset, pr_X1_sendReset), (pt_X1_sendAway, pr_X1_sendAway), (pt_X2_init, pr_X2_init), (pt_X2_beginsWithColon, pr_X2_beginsWithColon), (pt_X2_isNamedByLetters, pr_X2_isNamedByLetters), (pt_X2_numberValue, pr_X2_numberValue), (pt_X3_init, pr_X3_init), (pt_X3_clear, pr_X3_clear), (pt_X3_add, pr_X3_add), (pt_X3_isTooLong, pr_X3_isTooLong), (pt_X3_isWhole, pr_X3_isWhole), (pt_X3_length, pr_X3_length), (pt_X3_type, pr_X3_type), (pt_X3_has, pr_X3_has), (pt_X3_streamNumber, pr_X3_streamNumber), (pt_X3_byteAt, pr_X3_byteAt), (pt_X3_twoByteNumber, pr_X3_twoByteNumber), (pt_X3_isPadded, pr_X3_isPadded), (pt_X3_hasRoomForPadding, pr_X3_hasRoomForPadding), (pt_X3_contentStart, pr_X3_contentStart), (pt_X3_contentLength, pr_X3_contentLength), (pt_X4_init, pr_X4_init), (pt_X4_clear, pr_X4_clear), (pt_X4_find, pr_X4_find), (pt_X4_findName, pr_X4_findName), (pt_X4_changeSize, pr_X4_changeSize), (pt_X4_insert, pr_X4_insert), (pt_X4_dropOldest, pr_X4_dropOldest), (pt_X5_init, pr_X5_init), (pt_X5_clear, pr_X5_clear), (pt_X5_count, pr_X5_count), (pt_X5_byteAt, pr_X5_byteAt), (pt_X5_add, pr_X5_add), (pt_X5_addHead, pr_X5_addHead), (pt_X5_drop, pr_X5_drop), (pt_X6_init, pr_X6_init), (pt_X7_init, pr_X7_init), (pt_X7_readFrom, pr_X7_readFrom), (pt_X7_acceptsColon, pr_X7_acceptsColon), (pt_X7_acceptsOther, pr_X7_acceptsOther), (pt_X8_init, pr_X8_init), (pt_X8_isPath, pr_X8_isPath), (pt_X8_countLetters, pr_X8_countLetters), (pt_X8_pathText, pr_X8_pathText), (pt_X8_appendLetters, pr_X8_appendLetters), (pt_X8_find, pr_X8_find), (pt_X8_isFull, pr_X8_isFull), (pt_X8_add, pr_X8_add), (pt_X9_init, pr_X9_init), (pt_X9_open, pr_X9_open), (pt_X9_canSend, pr_X9_canSend), (pt_X9_hasWrongLength, pr_X9_hasWrongLength), (pt_X10_init, pr_X10_init), (pt_X10_clear, pr_X10_clear), (pt_X10_isIdle, pr_X10_isIdle), (pt_X10_find, pr_X10_find), (pt_X10_countOpen, pr_X10_countOpen), (pt_X10_open, pr_X10_open), (pt_X10_close, pr_X10_close), (pt_X10_isFull, pr_X10_isFull), (pt_X10_changeFirstWindow, pr_X10_changeFirstWindow), (pt_X10_nextToSend, pr_X10_nextToSend), (pt_X10_leastToSend, pr_X10_leastToSend), (pt_X11_init, pr_X11_init), (pt_X11_page, pr_X11_page), (pt_X11_feed, pr_X11_feed), (pt_X11_restart, pr_X11_restart), (pt_X11_waiting, pr_X11_waiting), (pt_X11_out, pr_X11_out), (pt_X11_take, pr_X11_take), (pt_X11_away, pr_X11_away), (pt_X11_about, pr_X11_about), (pt_X11_stream, pr_X11_stream), (pt_X11_entry, pr_X11_entry), (pt_X12_init, pr_X12_init), (pt_X12_fixed, pr_X12_fixed), (pt_X12_thrown, pr_X12_thrown), (pt_X12_refuse, pr_X12_refuse), (pt_X12_outside, pr_X12_outside), (pt_X12_begin, pr_X12_begin), (pt_X12_byteOf, pr_X12_byteOf), (pt_X12_isLetter, pr_X12_isLetter), (pt_X12_isText, pr_X12_isText), (pt_X12_letters, pr_X12_letters), (pt_X12_pageOf, pr_X12_pageOf), (pt_X12_lay, pr_X12_lay), (pt_X12_page, pr_X12_page), (pt_X12_say, pr_X12_say), (pt_X12_head, pr_X12_head), (pt_X12_credit, pr_X12_credit), (pt_X12_slotOf, pr_X12_slotOf), (pt_X12_open, pr_X12_open), (pt_X12_end, pr_X12_end), (pt_X12_idle, pr_X12_idle), (pt_X12_has, pr_X12_has), (pt_X12_takes, pr_X12_takes), (pt_X12_taken, pr_X12_taken), (pt_X12_evict, pr_X12_evict), (pt_X12_copy, pr_X12_copy), (pt_X12_insert, pr_X12_insert), (pt_X12_next, pr_X12_next), (pt_X12_readString, pr_X12_readString), (pt_X12_readName, pr_X12_readName), (pt_X12_readField, pr_X12_readField), (pt_X12_isNamed, pr_X12_isNamed), (pt_X12_judge, pr_X12_judge), (pt_X12_isLength, pr_X12_isLength), (pt_X12_judgeLength, pr_X12_judgeLength), (pt_X12_methodOf, pr_X12_methodOf), (pt_X12_readBlock, pr_X12_readBlock), (pt_X12_unpad, pr_X12_unpad), (pt_X12_data, pr_X12_data), (pt_X12_close, pr_X12_close), (pt_X12_answer, pr_X12_answer), (pt_X12_headers, pr_X12_headers), (pt_X12_more, pr_X12_more), (pt_X12_request, pr_X12_request), (pt_X12_settings, pr_X12_settings), (pt_X12_ping, pr_X12_ping), (pt_X12_widen, pr_X12_widen), (pt_X12_drop, pr_X12_drop), (pt_X12_look, pr_X12_look), (pt_X12_goAway, pr_X12_goAway), (pt_X12_whole, pr_X12_whole), (pt_X12_turn, pr_X12_turn), (pt_X12_less, pr_X12_less), (pt_X12_pump, pr_X12_pump), (pt_X12_prefaceByte, pr_X12_prefaceByte), (pt_X12_take1, pr_X12_take1), (pt_X12_feed, pr_X12_feed), (pt_X12_restart, pr_X12_restart), (pt_X12_waiting, pr_X12_waiting), (pt_X12_out, pr_X12_out), (pt_X12_take, pr_X12_take), (pt_X12_away, pr_X12_away), (pt_X12_about, pr_X12_about), (pt_X12_stream, pr_X12_stream), (pt_X12_entry, pr_X12_entry), (pt_J0_init_905df, pr_J0_init_905df), (pt_J0_init_bb550, pr_J0_init_bb550), (pt_J0_length_8abf5, pr_J0_length_8abf5), (pt_J0_isEmpty_aae02, pr_J0_isEmpty_aae02), (pt_J0_charAt_5068e, pr_J0_charAt_5068e), (pt_J0_equals_9ea2d, pr_J0_equals_9ea2d), (pt_J0_coder_7d493, pr_J0_coder_7d493), (pt_J0_isLatin1_aae02, pr_J0_isLatin1_aae02), (pt_J0_checkIndex_df160, pr_J0_checkIndex_df160), (pt_J1_charAt_3b067, pr_J1_charAt_3b067), (pt_J1_equals_b5fdf, pr_J1_equals_b5fdf), (pt_J2_compress_dfd3c, pr_J2_compress_dfd3c), (pt_J2_compress_fe38e, pr_J2_compress_fe38e), (pt_J3_checkIndex_8e157, pr_J3_checkIndex_8e157), (pt_J4_init_da8c8, pr_J4_init_da8c8), (pt_J5_init_d00df, pr_J5_init_d00df), (pt_J4_append_cf468, pr_J4_append_cf468), (pt_J5_append_3fe6f, pr_J5_append_3fe6f), (pt_J5_ensureCapacityInternal_d00df, pr_J5_ensureCapacityInternal_d00df), (pt_J5_isLatin1_aae02, pr_J5_isLatin1_aae02), (pt_J1_canEncode_fc78d, pr_J1_canEncode_fc78d), (pt_J4_toString_0e30d, pr_J4_toString_0e30d), (pt_J0_init_81219, pr_J0_init_81219), (pt_J0_init_db425, pr_J0_init_db425), (pt_J5_getValue_6d5f1, pr_J5_getValue_6d5f1), (pt_J4_length_8abf5, pr_J4_length_8abf5), (pt_J5_length_8abf5, pr_J5_length_8abf5), (pt_J7_copyOfRange_39247, pr_J7_copyOfRange_39247), (pt_J7_copyOfRangeByte_39247, pr_J7_copyOfRangeByte_39247), (pt_J7_checkLength_df160, pr_J7_checkLength_df160), (pt_J2_coderFromArrayLen_85cad, pr_J2_coderFromArrayLen_85cad)] : List (ax_T × List ax_R))[j]?
def ax_mt : Nat → Option ax_T := fun j => ([pt_X0_init, pt_X0_clear, pt_X0_start, pt_X0_add, pt_X0_field, pt_X0_read, pt_X0_readNext, pt_X0_readSize, pt_X0_readField, pt_X0_keep, pt_X0_readText, pt_X1_init, pt_X1_begin, pt_X1_receive, pt_X1_receivePreface, pt_X1_lookAtFrame, pt_X1_isOutOfOrder, pt_X1_lookAtData, pt_X1_lookAtHeaders, pt_X1_addToBlock, pt_X1_endBlock, pt_X1_openStream, pt_X1_endOpenStream, pt_X1_closeClientSide, pt_X1_answer, pt_X1_lookAtReset, pt_X1_lookAtSettings, pt_X1_takeSettings, pt_X1_lookAtPing, pt_X1_demandConnectionFrame, pt_X1_lookAtWindow, pt_X1_widenConnection, pt_X1_widenStream, pt_X1_sendBodies, pt_X1_sendData, pt_X1_sendWindow, pt_X1_sendReset, pt_X1_sendAway, pt_X2_init, pt_X2_beginsWithColon, pt_X2_isNamedByLetters, pt_X2_numberValue, pt_X3_init, pt_X3_clear, pt_X3_add, pt_X3_isTooLong, pt_X3_isWhole, pt_X3_length, pt_X3_type, pt_X3_has, pt_X3_streamNumber, pt_X3_byteAt, pt_X3_twoByteNumber, pt_X3_isPadded, pt_X3_hasRoomForPadding, pt_X3_contentStart, pt_X3_contentLength, pt_X4_init, pt_X4_clear, pt_X4_find, pt_X4_findName, pt_X4_changeSize, pt_X4_insert, pt_X4_dropOldest, pt_X5_init, pt_X5_clear, pt_X5_count, pt_X5_byteAt, pt_X5_add, pt_X5_addHead, pt_X5_drop, pt_X6_init, pt_X7_init, pt_X7_readFrom, pt_X7_acceptsColon, pt_X7_acceptsOther, pt_X8_init, pt_X8_isPath, pt_X8_countLetters, pt_X8_pathText, pt_X8_appendLetters, pt_X8_find, pt_X8_isFull, pt_X8_add, pt_X9_init, pt_X9_open, pt_X9_canSend, pt_X9_hasWrongLength, pt_X10_init, pt_X10_clear, pt_X10_isIdle, pt_X10_find, pt_X10_countOpen, pt_X10_open, pt_X10_close, pt_X10_isFull, pt_X10_changeFirstWindow, pt_X10_nextToSend, pt_X10_leastToSend, pt_X11_init, pt_X11_page, pt_X11_feed, pt_X11_restart, pt_X11_waiting, pt_X11_out, pt_X11_take, pt_X11_away, pt_X11_about, pt_X11_stream, pt_X11_entry, pt_X12_init, pt_X12_fixed, pt_X12_thrown, pt_X12_refuse, pt_X12_outside, pt_X12_begin, pt_X12_byteOf, pt_X12_isLetter, pt_X12_isText, pt_X12_letters, pt_X12_pageOf, pt_X12_lay, pt_X12_page, pt_X12_say, pt_X12_head, pt_X12_credit, pt_X12_slotOf, pt_X12_open, pt_X12_end, pt_X12_idle, pt_X12_has, pt_X12_takes, pt_X12_taken, pt_X12_evict, pt_X12_copy, pt_X12_insert, pt_X12_next, pt_X12_readString, pt_X12_readName, pt_X12_readField, pt_X12_isNamed, pt_X12_judge, pt_X12_isLength, pt_X12_judgeLength, pt_X12_methodOf, pt_X12_readBlock, pt_X12_unpad, pt_X12_data, pt_X12_close, pt_X12_answer, pt_X12_headers, pt_X12_more, pt_X12_request, pt_X12_settings, pt_X12_ping, pt_X12_widen, pt_X12_drop, pt_X12_look, pt_X12_goAway, pt_X12_whole, pt_X12_turn, pt_X12_less, pt_X12_pump, pt_X12_prefaceByte, pt_X12_take1, pt_X12_feed, pt_X12_restart, pt_X12_waiting, pt_X12_out, pt_X12_take, pt_X12_away, pt_X12_about, pt_X12_stream, pt_X12_entry, pt_J0_init_905df, pt_J0_init_bb550, pt_J0_length_8abf5, pt_J0_isEmpty_aae02, pt_J0_charAt_5068e, pt_J0_equals_9ea2d, pt_J0_coder_7d493, pt_J0_isLatin1_aae02, pt_J0_checkIndex_df160, pt_J1_charAt_3b067, pt_J1_equals_b5fdf, pt_J2_compress_dfd3c, pt_J2_compress_fe38e, pt_J3_checkIndex_8e157, pt_J4_init_da8c8, pt_J5_init_d00df, pt_J4_append_cf468, pt_J5_append_3fe6f, pt_J5_ensureCapacityInternal_d00df, pt_J5_isLatin1_aae02, pt_J1_canEncode_fc78d, pt_J4_toString_0e30d, pt_J0_init_81219, pt_J0_init_db425, pt_J5_getValue_6d5f1, pt_J4_length_8abf5, pt_J5_length_8abf5, pt_J7_copyOfRange_39247, pt_J7_copyOfRangeByte_39247, pt_J7_checkLength_df160, pt_J2_coderFromArrayLen_85cad] : List ax_T)[j]?
