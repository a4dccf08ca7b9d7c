/-! the methods: name, code, locals, answer; where the words speak of them; their rows -/
def bl_X0_init_0 : List ax_R := (0, .aload_n 0, 0, 0, 0, 0) :: (1, .invokespecial 3, 0, 0, 5, 265) :: (4, .aload_n 0, 0, 0, 0, 0) :: (5, .bipush 100, 0, 0, 0, 0) :: (7, .newarray .int, 100, 0, 0, 154) :: (9, .putfield 11, 2, 1, 1, 268) :: (12, .aload_n 0, 0, 0, 0, 0) :: (13, .bipush 100, 0, 0, 0, 0) ::
  (15, .anewarray 15, 114, 0, 0, 266) :: (18, .putfield 17, 2, 2, 1, 269) :: (21, .aload_n 0, 0, 0, 0, 0) :: (22, .aload_n 1, 0, 0, 0, 0) :: (23, .putfield 21, 2, 0, 1, 267) :: (26, .return_, 0, 0, 0, 0) :: []
def pr_X0_init : List ax_R := bl_X0_init_0
def pt_X0_init : ax_T := ((⟨"PageServer$Block", "<init>", "(LPageServer$HeaderTable;)V"⟩, prog_2_method_1_code, 2, none), 264, 91, 263, 0)
def bl_X0_clear_0 : List ax_R := (0, .aload_n 0, 0, 0, 0, 0) :: (1, .iconst 0, 0, 0, 0, 0) :: (2, .putfield 25, 2, 4, 0, 271) :: (5, .aload_n 0, 0, 0, 0, 0) :: (6, .iconst 0, 0, 0, 0, 0) :: (7, .putfield 29, 2, 5, 0, 273) :: (10, .aload_n 0, 0, 0, 0, 0) :: (11, .iconst 0, 0, 0, 0, 0) ::
  (12, .putfield 32, 2, 8, 0, 280) :: (15, .aload_n 0, 0, 0, 0, 0) :: (16, .iconst 0, 0, 0, 0, 0) :: (17, .putfield 36, 2, 9, 0, 282) :: (20, .return_, 0, 0, 0, 0) :: []
def pr_X0_clear : List ax_R := bl_X0_clear_0
def pt_X0_clear : ax_T := ((⟨"PageServer$Block", "clear", "()V"⟩, prog_2_method_2_code, 1, none), 397, 91, 395, 396)
def bl_X0_start_0 : List ax_R := (0, .aload_n 0, 0, 0, 0, 0) :: (1, .invokevirtual 39, 1, 1, 2, 605) :: (4, .aload_n 0, 0, 0, 0, 0) :: (5, .aload_n 1, 0, 0, 0, 0) :: (6, .invokevirtual 42, 50, 1, 5, 606) :: (9, .putfield 48, 2, 6, 0, 276) :: (12, .aload_n 0, 0, 0, 0, 0) :: (13, .aload_n 1, 0, 0, 0, 0) ::
  (14, .iconst 1, 0, 0, 0, 0) :: (15, .invokevirtual 50, 49, 2, 5, 607) :: (18, .putfield 54, 2, 7, 0, 278) :: (21, .return_, 0, 0, 0, 0) :: []
def pr_X0_start : List ax_R := bl_X0_start_0
def pt_X0_start : ax_T := ((⟨"PageServer$Block", "start", "(LPageServer$Frame;)V"⟩, prog_2_method_3_code, 2, none), 604, 91, 602, 603)
def bl_X0_add_84 : List ax_R := (84, .putfield 32, 2, 8, 0, 280) :: (87, .iconst 1, 0, 0, 0, 0) :: (88, .ireturn, 0, 0, 0, 0) :: []
def bl_X0_add_83 : List ax_R := (83, .iconst 0, 0, 0, 0, 0) :: bl_X0_add_84
def bl_X0_add_52 : List ax_R := (52, .aload_n 0, 0, 0, 0, 0) :: (53, .dup, 0, 0, 0, 0) :: (54, .getfield 25, 2, 4, 0, 271) :: (57, .iload_n 2, 0, 0, 0, 0) :: (58, .iadd, 0, 0, 0, 0) :: (59, .putfield 25, 2, 4, 0, 271) :: (62, .aload_n 0, 0, 0, 0, 0) :: (63, .aload_n 1, 0, 0, 0, 0) ::
  (64, .iconst 4, 0, 0, 0, 0) :: (65, .invokevirtual 50, 49, 2, 5, 607) :: (68, .putfield 36, 2, 9, 0, 282) :: (71, .aload_n 0, 0, 0, 0, 0) :: (72, .aload_n 0, 0, 0, 0, 0) :: (73, .getfield 36, 2, 9, 0, 282) :: (76, .ifCond .ne 7, 83, 0, 0, 0) :: (79, .iconst 1, 0, 0, 0, 0) ::
  (80, .goto 4, 84, 0, 0, 0) :: bl_X0_add_83
def bl_X0_add_20 : List ax_R := (20, .iload_n 3, 0, 0, 0, 0) :: (21, .iload_n 2, 0, 0, 0, 0) :: (22, .if_icmp .ge 30, 52, 0, 0, 0) :: (25, .aload_n 0, 0, 0, 0, 0) :: (26, .getfield 11, 2, 1, 1, 268) :: (29, .aload_n 0, 0, 0, 0, 0) :: (30, .getfield 25, 2, 4, 0, 271) :: (33, .iload_n 3, 0, 0, 0, 0) ::
  (34, .iadd, 0, 0, 0, 0) :: (35, .aload_n 1, 0, 0, 0, 0) :: (36, .aload_n 1, 0, 0, 0, 0) :: (37, .invokevirtual 60, 55, 1, 5, 617) :: (40, .iload_n 3, 0, 0, 0, 0) :: (41, .iadd, 0, 0, 0, 0) :: (42, .invokevirtual 63, 51, 2, 5, 621) :: (45, .iastore, 0, 0, 0, 0) ::
  (46, .iinc 3 1, 0, 0, 0, 0) :: (49, .goto (-29), 20, 0, 0, 0) :: bl_X0_add_52
def bl_X0_add_18 : List ax_R := (18, .iconst 0, 0, 0, 0, 0) :: (19, .istore_n 3, 0, 0, 0, 0) :: bl_X0_add_20
def bl_X0_add_0 : List ax_R := (0, .aload_n 1, 0, 0, 0, 0) :: (1, .invokevirtual 57, 56, 1, 5, 616) :: (4, .istore_n 2, 0, 0, 0, 0) :: (5, .aload_n 0, 0, 0, 0, 0) :: (6, .getfield 25, 2, 4, 0, 271) :: (9, .iload_n 2, 0, 0, 0, 0) :: (10, .iadd, 0, 0, 0, 0) :: (11, .bipush 100, 0, 0, 0, 0) ::
  (13, .if_icmp .le 5, 18, 0, 0, 0) :: (16, .iconst 0, 0, 0, 0, 0) :: (17, .ireturn, 0, 0, 0, 0) :: bl_X0_add_18
def pr_X0_add : List ax_R := bl_X0_add_0
def pt_X0_add : ax_T := ((⟨"PageServer$Block", "add", "(LPageServer$Frame;)Z"⟩, prog_2_method_4_code, 4, (some .boolean)), 615, 91, 613, 614)
def bl_X0_field_22 : List ax_R := (22, .areturn, 0, 0, 0, 0) :: []
def bl_X0_field_21 : List ax_R := (21, .aconst_null, 0, 0, 0, 0) :: bl_X0_field_22
def bl_X0_field_0 : List ax_R := (0, .iload_n 1, 0, 0, 0, 0) :: (1, .ifCond .lt 20, 21, 0, 0, 0) :: (4, .iload_n 1, 0, 0, 0, 0) :: (5, .aload_n 0, 0, 0, 0, 0) :: (6, .getfield 29, 2, 5, 0, 273) :: (9, .if_icmp .ge 12, 21, 0, 0, 0) :: (12, .aload_n 0, 0, 0, 0, 0) :: (13, .getfield 17, 2, 2, 1, 269) ::
  (16, .iload_n 1, 0, 0, 0, 0) :: (17, .aaload, 0, 0, 0, 0) :: (18, .goto 4, 22, 0, 0, 0) :: bl_X0_field_21
def pr_X0_field : List ax_R := bl_X0_field_0
def pt_X0_field : ax_T := ((⟨"PageServer$Block", "field", "(I)LPageServer$Field;"⟩, prog_2_method_5_code, 2, (some (.object "PageServer$Field"))), 803, 91, 801, 802)
def bl_X0_read_44 : List ax_R := (44, .iconst 1, 0, 0, 0, 0) :: (45, .ireturn, 0, 0, 0, 0) :: []
def bl_X0_read_38 : List ax_R := (38, .iinc 1 1, 0, 0, 0, 0) :: (41, .goto (-29), 12, 0, 0, 0) :: bl_X0_read_44
def bl_X0_read_12 : List ax_R := (12, .iload_n 1, 0, 0, 0, 0) :: (13, .bipush 100, 0, 0, 0, 0) :: (15, .if_icmp .ge 29, 44, 0, 0, 0) :: (18, .aload_n 0, 0, 0, 0, 0) :: (19, .getfield 67, 2, 3, 0, 270) :: (22, .aload_n 0, 0, 0, 0, 0) :: (23, .getfield 25, 2, 4, 0, 271) :: (26, .if_icmp .ge 18, 44, 0, 0, 0) ::
  (29, .aload_n 0, 0, 0, 0, 0) :: (30, .invokevirtual 70, 6, 1, 2, 671) :: (33, .ifCond .ne 5, 38, 0, 0, 0) :: (36, .iconst 0, 0, 0, 0, 0) :: (37, .ireturn, 0, 0, 0, 0) :: bl_X0_read_38
def bl_X0_read_0 : List ax_R := (0, .aload_n 0, 0, 0, 0, 0) :: (1, .iconst 0, 0, 0, 0, 0) :: (2, .putfield 36, 2, 9, 0, 282) :: (5, .aload_n 0, 0, 0, 0, 0) :: (6, .iconst 0, 0, 0, 0, 0) :: (7, .putfield 67, 2, 3, 0, 270) :: (10, .iconst 0, 0, 0, 0, 0) :: (11, .istore_n 1, 0, 0, 0, 0) :: bl_X0_read_12
def pr_X0_read : List ax_R := bl_X0_read_0
def pt_X0_read : ax_T := ((⟨"PageServer$Block", "read", "()Z"⟩, prog_2_method_6_code, 2, (some .boolean)), 670, 91, 668, 669)
def bl_X0_readNext_95 : List ax_R := (95, .ireturn, 0, 0, 0, 0) :: []
def bl_X0_readNext_94 : List ax_R := (94, .iconst 0, 0, 0, 0, 0) :: bl_X0_readNext_95
def bl_X0_readNext_75 : List ax_R := (75, .iload_n 1, 0, 0, 0, 0) :: (76, .bipush 15, 0, 0, 0, 0) :: (78, .if_icmp .gt 16, 94, 0, 0, 0) :: (81, .aload_n 0, 0, 0, 0, 0) :: (82, .iload_n 1, 0, 0, 0, 0) :: (83, .iconst 0, 0, 0, 0, 0) :: (84, .invokevirtual 84, 8, 3, 2, 683) :: (87, .ifCond .eq 7, 94, 0, 0, 0) ::
  (90, .iconst 1, 0, 0, 0, 0) :: (91, .goto 4, 95, 0, 0, 0) :: bl_X0_readNext_94
def bl_X0_readNext_60 : List ax_R := (60, .iload_n 1, 0, 0, 0, 0) :: (61, .bipush 32, 0, 0, 0, 0) :: (63, .if_icmp .lt 12, 75, 0, 0, 0) :: (66, .aload_n 0, 0, 0, 0, 0) :: (67, .iload_n 1, 0, 0, 0, 0) :: (68, .bipush 32, 0, 0, 0, 0) :: (70, .isub, 0, 0, 0, 0) :: (71, .invokevirtual 88, 7, 2, 2, 776) ::
  (74, .ireturn, 0, 0, 0, 0) :: bl_X0_readNext_75
def bl_X0_readNext_44 : List ax_R := (44, .iload_n 1, 0, 0, 0, 0) :: (45, .bipush 64, 0, 0, 0, 0) :: (47, .if_icmp .lt 13, 60, 0, 0, 0) :: (50, .aload_n 0, 0, 0, 0, 0) :: (51, .iload_n 1, 0, 0, 0, 0) :: (52, .bipush 64, 0, 0, 0, 0) :: (54, .isub, 0, 0, 0, 0) :: (55, .iconst 1, 0, 0, 0, 0) ::
  (56, .invokevirtual 84, 8, 3, 2, 683) :: (59, .ireturn, 0, 0, 0, 0) :: bl_X0_readNext_60
def bl_X0_readNext_0 : List ax_R := (0, .aload_n 0, 0, 0, 0, 0) :: (1, .getfield 11, 2, 1, 1, 268) :: (4, .aload_n 0, 0, 0, 0, 0) :: (5, .getfield 67, 2, 3, 0, 270) :: (8, .iaload, 0, 0, 0, 0) :: (9, .istore_n 1, 0, 0, 0, 0) :: (10, .aload_n 0, 0, 0, 0, 0) :: (11, .dup, 0, 0, 0, 0) ::
  (12, .getfield 67, 2, 3, 0, 270) :: (15, .iconst 1, 0, 0, 0, 0) :: (16, .iadd, 0, 0, 0, 0) :: (17, .putfield 67, 2, 3, 0, 270) :: (20, .iload_n 1, 0, 0, 0, 0) :: (21, .sipush 128, 0, 0, 0, 0) :: (24, .if_icmp .lt 20, 44, 0, 0, 0) :: (27, .aload_n 0, 0, 0, 0, 0) ::
  (28, .aload_n 0, 0, 0, 0, 0) :: (29, .getfield 21, 2, 0, 1, 267) :: (32, .iload_n 1, 0, 0, 0, 0) :: (33, .sipush 128, 0, 0, 0, 0) :: (36, .isub, 0, 0, 0, 0) :: (37, .invokevirtual 74, 59, 2, 6, 675) :: (40, .invokevirtual 80, 9, 2, 2, 679) :: (43, .ireturn, 0, 0, 0, 0) :: bl_X0_readNext_44
def pr_X0_readNext : List ax_R := bl_X0_readNext_0
def pt_X0_readNext : ax_T := ((⟨"PageServer$Block", "readNext", "()Z"⟩, prog_2_method_7_code, 2, (some .boolean)), 674, 91, 673, 21)
def bl_X0_readSize_15 : List ax_R := (15, .aload_n 0, 0, 0, 0, 0) :: (16, .getfield 21, 2, 0, 1, 267) :: (19, .iload_n 1, 0, 0, 0, 0) :: (20, .invokevirtual 91, 61, 2, 6, 780) :: (23, .iconst 1, 0, 0, 0, 0) :: (24, .ireturn, 0, 0, 0, 0) :: []
def bl_X0_readSize_13 : List ax_R := (13, .iconst 0, 0, 0, 0, 0) :: (14, .ireturn, 0, 0, 0, 0) :: bl_X0_readSize_15
def bl_X0_readSize_0 : List ax_R := (0, .iload_n 1, 0, 0, 0, 0) :: (1, .bipush 24, 0, 0, 0, 0) :: (3, .if_icmp .gt 10, 13, 0, 0, 0) :: (6, .aload_n 0, 0, 0, 0, 0) :: (7, .getfield 29, 2, 5, 0, 273) :: (10, .ifCond .le 5, 15, 0, 0, 0) :: bl_X0_readSize_13
def pr_X0_readSize : List ax_R := bl_X0_readSize_0
def pt_X0_readSize : ax_T := ((⟨"PageServer$Block", "readSize", "(I)Z"⟩, prog_2_method_8_code, 2, (some .boolean)), 779, 91, 778, 26)
def bl_X0_readField_66 : List ax_R := (66, .aload_n 0, 0, 0, 0, 0) :: (67, .aload 5, 0, 0, 0, 0) :: (69, .invokevirtual 80, 9, 2, 2, 679) :: (72, .ireturn, 0, 0, 0, 0) :: []
def bl_X0_readField_41 : List ax_R := (41, .new 15, 4, 3, 0, 266) :: (44, .dup, 0, 0, 0, 0) :: (45, .aload_n 3, 0, 0, 0, 0) :: (46, .aload 4, 0, 0, 0, 0) :: (48, .invokespecial 102, 38, 3, 0, 767) :: (51, .astore 5, 0, 0, 0, 0) :: (53, .iload_n 2, 0, 0, 0, 0) :: (54, .ifCond .eq 12, 66, 0, 0, 0) ::
  (57, .aload_n 0, 0, 0, 0, 0) :: (58, .getfield 21, 2, 0, 1, 267) :: (61, .aload 5, 0, 0, 0, 0) :: (63, .invokevirtual 105, 62, 2, 6, 768) :: bl_X0_readField_66
def bl_X0_readField_27 : List ax_R := (27, .aload_n 0, 0, 0, 0, 0) :: (28, .iconst 0, 0, 0, 0, 0) :: (29, .invokevirtual 95, 10, 2, 2, 687) :: (32, .astore 4, 0, 0, 0, 0) :: (34, .aload 4, 0, 0, 0, 0) :: (36, .ifnonnull 5, 41, 0, 0, 0) :: (39, .iconst 0, 0, 0, 0, 0) :: (40, .ireturn, 0, 0, 0, 0) :: bl_X0_readField_41
def bl_X0_readField_20 : List ax_R := (20, .astore_n 3, 0, 0, 0, 0) :: (21, .aload_n 3, 0, 0, 0, 0) :: (22, .ifnonnull 5, 27, 0, 0, 0) :: (25, .iconst 0, 0, 0, 0, 0) :: (26, .ireturn, 0, 0, 0, 0) :: bl_X0_readField_27
def bl_X0_readField_12 : List ax_R := (12, .aload_n 0, 0, 0, 0, 0) :: (13, .getfield 21, 2, 0, 1, 267) :: (16, .iload_n 1, 0, 0, 0, 0) :: (17, .invokevirtual 99, 60, 2, 6, 762) :: bl_X0_readField_20
def bl_X0_readField_0 : List ax_R := (0, .iload_n 1, 0, 0, 0, 0) :: (1, .ifCond .ne 11, 12, 0, 0, 0) :: (4, .aload_n 0, 0, 0, 0, 0) :: (5, .iconst 1, 0, 0, 0, 0) :: (6, .invokevirtual 95, 10, 2, 2, 687) :: (9, .goto 11, 20, 0, 0, 0) :: bl_X0_readField_12
def pr_X0_readField : List ax_R := bl_X0_readField_0
def pt_X0_readField : ax_T := ((⟨"PageServer$Block", "readField", "(IZ)Z"⟩, prog_2_method_9_code, 6, (some .boolean)), 686, 91, 685, 23)
def bl_X0_keep_15 : List ax_R := (15, .aload_n 0, 0, 0, 0, 0) :: (16, .getfield 17, 2, 2, 1, 269) :: (19, .aload_n 0, 0, 0, 0, 0) :: (20, .getfield 29, 2, 5, 0, 273) :: (23, .aload_n 1, 0, 0, 0, 0) :: (24, .aastore, 0, 0, 0, 0) :: (25, .aload_n 0, 0, 0, 0, 0) :: (26, .dup, 0, 0, 0, 0) ::
  (27, .getfield 29, 2, 5, 0, 273) :: (30, .iconst 1, 0, 0, 0, 0) :: (31, .iadd, 0, 0, 0, 0) :: (32, .putfield 29, 2, 5, 0, 273) :: (35, .iconst 1, 0, 0, 0, 0) :: (36, .ireturn, 0, 0, 0, 0) :: []
def bl_X0_keep_13 : List ax_R := (13, .iconst 0, 0, 0, 0, 0) :: (14, .ireturn, 0, 0, 0, 0) :: bl_X0_keep_15
def bl_X0_keep_0 : List ax_R := (0, .aload_n 1, 0, 0, 0, 0) :: (1, .ifnull 12, 13, 0, 0, 0) :: (4, .aload_n 0, 0, 0, 0, 0) :: (5, .getfield 29, 2, 5, 0, 273) :: (8, .bipush 100, 0, 0, 0, 0) :: (10, .if_icmp .lt 5, 15, 0, 0, 0) :: bl_X0_keep_13
def pr_X0_keep : List ax_R := bl_X0_keep_0
def pt_X0_keep : ax_T := ((⟨"PageServer$Block", "keep", "(LPageServer$Field;)Z"⟩, prog_2_method_10_code, 2, (some .boolean)), 682, 91, 681, 22)
def bl_X0_readText_115 : List ax_R := (115, .aload_n 0, 0, 0, 0, 0) :: (116, .dup, 0, 0, 0, 0) :: (117, .getfield 67, 2, 3, 0, 270) :: (120, .iload_n 2, 0, 0, 0, 0) :: (121, .iadd, 0, 0, 0, 0) :: (122, .putfield 67, 2, 3, 0, 270) :: (125, .new 109, 0, 4, 0, 691) :: (128, .dup, 0, 0, 0, 0) ::
  (129, .aload_n 3, 0, 0, 0, 0) :: (130, .invokespecial 111, 174, 2, 0, 693) :: (133, .areturn, 0, 0, 0, 0) :: []
def bl_X0_readText_102 : List ax_R := (102, .aload_n 3, 0, 0, 0, 0) :: (103, .iload 4, 0, 0, 0, 0) :: (105, .iload 5, 0, 0, 0, 0) :: (107, .i2c, 0, 0, 0, 0) :: (108, .castore, 0, 0, 0, 0) :: (109, .iinc 4 1, 0, 0, 0, 0) :: (112, .goto (-46), 66, 0, 0, 0) :: bl_X0_readText_115
def bl_X0_readText_100 : List ax_R := (100, .aconst_null, 0, 0, 0, 0) :: (101, .areturn, 0, 0, 0, 0) :: bl_X0_readText_102
def bl_X0_readText_66 : List ax_R := (66, .iload 4, 0, 0, 0, 0) :: (68, .iload_n 2, 0, 0, 0, 0) :: (69, .if_icmp .ge 46, 115, 0, 0, 0) :: (72, .aload_n 0, 0, 0, 0, 0) :: (73, .getfield 11, 2, 1, 1, 268) :: (76, .aload_n 0, 0, 0, 0, 0) :: (77, .getfield 67, 2, 3, 0, 270) :: (80, .iload 4, 0, 0, 0, 0) ::
  (82, .iadd, 0, 0, 0, 0) :: (83, .iaload, 0, 0, 0, 0) :: (84, .istore 5, 0, 0, 0, 0) :: (86, .iload 5, 0, 0, 0, 0) :: (88, .bipush 33, 0, 0, 0, 0) :: (90, .if_icmp .lt 10, 100, 0, 0, 0) :: (93, .iload 5, 0, 0, 0, 0) :: (95, .bipush 126, 0, 0, 0, 0) ::
  (97, .if_icmp .le 5, 102, 0, 0, 0) :: bl_X0_readText_100
def bl_X0_readText_59 : List ax_R := (59, .iload_n 2, 0, 0, 0, 0) :: (60, .newarray .char, 101, 0, 0, 761) :: (62, .astore_n 3, 0, 0, 0, 0) :: (63, .iconst 0, 0, 0, 0, 0) :: (64, .istore 4, 0, 0, 0, 0) :: bl_X0_readText_66
def bl_X0_readText_57 : List ax_R := (57, .aconst_null, 0, 0, 0, 0) :: (58, .areturn, 0, 0, 0, 0) :: bl_X0_readText_59
def bl_X0_readText_13 : List ax_R := (13, .aload_n 0, 0, 0, 0, 0) :: (14, .getfield 11, 2, 1, 1, 268) :: (17, .aload_n 0, 0, 0, 0, 0) :: (18, .getfield 67, 2, 3, 0, 270) :: (21, .iaload, 0, 0, 0, 0) :: (22, .istore_n 2, 0, 0, 0, 0) :: (23, .aload_n 0, 0, 0, 0, 0) :: (24, .dup, 0, 0, 0, 0) ::
  (25, .getfield 67, 2, 3, 0, 270) :: (28, .iconst 1, 0, 0, 0, 0) :: (29, .iadd, 0, 0, 0, 0) :: (30, .putfield 67, 2, 3, 0, 270) :: (33, .iload_n 2, 0, 0, 0, 0) :: (34, .iload_n 1, 0, 0, 0, 0) :: (35, .if_icmp .lt 22, 57, 0, 0, 0) :: (38, .iload_n 2, 0, 0, 0, 0) ::
  (39, .bipush 20, 0, 0, 0, 0) :: (41, .if_icmp .gt 16, 57, 0, 0, 0) :: (44, .iload_n 2, 0, 0, 0, 0) :: (45, .aload_n 0, 0, 0, 0, 0) :: (46, .getfield 25, 2, 4, 0, 271) :: (49, .aload_n 0, 0, 0, 0, 0) :: (50, .getfield 67, 2, 3, 0, 270) :: (53, .isub, 0, 0, 0, 0) ::
  (54, .if_icmp .le 5, 59, 0, 0, 0) :: bl_X0_readText_57
def bl_X0_readText_0 : List ax_R := (0, .aload_n 0, 0, 0, 0, 0) :: (1, .getfield 67, 2, 3, 0, 270) :: (4, .aload_n 0, 0, 0, 0, 0) :: (5, .getfield 25, 2, 4, 0, 271) :: (8, .if_icmp .lt 5, 13, 0, 0, 0) :: (11, .aconst_null, 0, 0, 0, 0) :: (12, .areturn, 0, 0, 0, 0) :: bl_X0_readText_13
def pr_X0_readText : List ax_R := bl_X0_readText_0
def pt_X0_readText : ax_T := ((⟨"PageServer$Block", "readText", "(I)Ljava/lang/String;"⟩, prog_2_method_11_code, 6, (some (.object "java/lang/String"))), 690, 91, 689, 24)
def bl_X1_init_0 : List ax_R := (0, .aload_n 0, 0, 0, 0, 0) :: (1, .invokespecial 3, 0, 0, 5, 140) :: (4, .aload_n 0, 0, 0, 0, 0) :: (5, .new 9, 5, 2, 0, 141) :: (8, .dup, 0, 0, 0, 0) :: (9, .invokespecial 11, 42, 1, 10, 0) :: (12, .putfield 12, 3, 1, 1, 412) :: (15, .aload_n 0, 0, 0, 0, 0) ::
  (16, .new 18, 9, 4, 0, 155) :: (19, .dup, 0, 0, 0, 0) :: (20, .invokespecial 20, 72, 1, 10, 0) :: (23, .putfield 21, 3, 2, 1, 413) :: (26, .aload_n 0, 0, 0, 0, 0) :: (27, .new 25, 7, 2, 0, 177) :: (30, .dup, 0, 0, 0, 0) :: (31, .invokespecial 27, 64, 1, 10, 0) ::
  (34, .putfield 28, 3, 3, 1, 414) :: (37, .aload_n 0, 0, 0, 0, 0) :: (38, .new 32, 6, 5, 0, 190) :: (41, .dup, 0, 0, 0, 0) :: (42, .invokespecial 34, 57, 1, 0, 192) :: (45, .putfield 35, 3, 4, 1, 416) :: (48, .aload_n 0, 0, 0, 0, 0) :: (49, .new 39, 2, 10, 0, 260) ::
  (52, .dup, 0, 0, 0, 0) :: (53, .aload_n 0, 0, 0, 0, 0) :: (54, .getfield 35, 3, 4, 1, 416) :: (57, .invokespecial 41, 0, 2, 0, 262) :: (60, .putfield 44, 3, 5, 1, 418) :: (63, .aload_n 0, 0, 0, 0, 0) :: (64, .new 48, 12, 3, 0, 305) :: (67, .dup, 0, 0, 0, 0) ::
  (68, .invokespecial 50, 88, 1, 0, 307) :: (71, .putfield 51, 3, 6, 1, 420) :: (74, .aload_n 0, 0, 0, 0, 0) :: (75, .aload_n 1, 0, 0, 0, 0) :: (76, .putfield 55, 3, 0, 1, 411) :: (79, .aload_n 0, 0, 0, 0, 0) :: (80, .invokevirtual 59, 12, 1, 3, 378) :: (83, .return_, 0, 0, 0, 0) :: []
def pr_X1_init : List ax_R := bl_X1_init_0
def pt_X1_init : ax_T := ((⟨"PageServer$Connection", "<init>", "(LPageServer$Site;)V"⟩, prog_3_method_1_code, 2, none), 139, 84, 138, 0)
def bl_X1_begin_0 : List ax_R := (0, .aload_n 0, 0, 0, 0, 0) :: (1, .getfield 12, 3, 1, 1, 412) :: (4, .invokevirtual 62, 43, 1, 5, 382) :: (7, .aload_n 0, 0, 0, 0, 0) :: (8, .getfield 28, 3, 3, 1, 414) :: (11, .invokevirtual 65, 65, 1, 7, 386) :: (14, .aload_n 0, 0, 0, 0, 0) :: (15, .getfield 35, 3, 4, 1, 416) ::
  (18, .invokevirtual 66, 58, 1, 6, 390) :: (21, .aload_n 0, 0, 0, 0, 0) :: (22, .getfield 44, 3, 5, 1, 418) :: (25, .invokevirtual 67, 1, 1, 2, 394) :: (28, .aload_n 0, 0, 0, 0, 0) :: (29, .getfield 51, 3, 6, 1, 420) :: (32, .invokevirtual 68, 89, 1, 12, 398) :: (35, .aload_n 0, 0, 0, 0, 0) ::
  (36, .iconst 0, 0, 0, 0, 0) :: (37, .putfield 69, 3, 7, 0, 422) :: (40, .aload_n 0, 0, 0, 0, 0) :: (41, .iconst 0, 0, 0, 0, 0) :: (42, .putfield 73, 3, 8, 0, 423) :: (45, .aload_n 0, 0, 0, 0, 0) :: (46, .iconst 0, 0, 0, 0, 0) :: (47, .putfield 77, 3, 9, 0, 424) ::
  (50, .aload_n 0, 0, 0, 0, 0) :: (51, .iconst 0, 0, 0, 0, 0) :: (52, .putfield 80, 3, 10, 0, 425) :: (55, .aload_n 0, 0, 0, 0, 0) :: (56, .bipush 100, 0, 0, 0, 0) :: (58, .putfield 83, 3, 11, 0, 427) :: (61, .aload_n 0, 0, 0, 0, 0) :: (62, .bipush 64, 0, 0, 0, 0) ::
  (64, .putfield 86, 3, 12, 0, 429) :: (67, .aload_n 0, 0, 0, 0, 0) :: (68, .getfield 28, 3, 3, 1, 414) :: (71, .iconst 2, 0, 0, 0, 0) :: (72, .iconst 4, 0, 0, 0, 0) :: (73, .iconst 0, 0, 0, 0, 0) :: (74, .iconst 0, 0, 0, 0, 0) :: (75, .invokevirtual 89, 69, 5, 7, 402) ::
  (78, .aload_n 0, 0, 0, 0, 0) :: (79, .getfield 28, 3, 3, 1, 414) :: (82, .iconst 3, 0, 0, 0, 0) :: (83, .invokevirtual 93, 68, 2, 7, 410) :: (86, .aload_n 0, 0, 0, 0, 0) :: (87, .getfield 28, 3, 3, 1, 414) :: (90, .iconst 4, 0, 0, 0, 0) :: (91, .invokevirtual 93, 68, 2, 7, 410) ::
  (94, .return_, 0, 0, 0, 0) :: []
def pr_X1_begin : List ax_R := bl_X1_begin_0
def pt_X1_begin : ax_T := ((⟨"PageServer$Connection", "begin", "()V"⟩, prog_3_method_2_code, 1, none), 381, 84, 379, 380)
def bl_X1_receive_97 : List ax_R := (97, .aload_n 0, 0, 0, 0, 0) :: (98, .iconst 1, 0, 0, 0, 0) :: (99, .putfield 73, 3, 8, 0, 423) :: (102, .aload_n 0, 0, 0, 0, 0) :: (103, .getfield 12, 3, 1, 1, 412) :: (106, .invokevirtual 62, 43, 1, 5, 382) :: (109, .return_, 0, 0, 0, 0) :: []
def bl_X1_receive_86 : List ax_R := (86, .aload_n 0, 0, 0, 0, 0) :: (87, .getfield 80, 3, 10, 0, 425) :: (90, .ifCond .ne 7, 97, 0, 0, 0) :: (93, .aload_n 0, 0, 0, 0, 0) :: (94, .invokevirtual 124, 33, 1, 3, 870) :: bl_X1_receive_97
def bl_X1_receive_61 : List ax_R := (61, .aload_n 0, 0, 0, 0, 0) :: (62, .invokevirtual 115, 15, 1, 3, 503) :: (65, .aload_n 0, 0, 0, 0, 0) :: (66, .getfield 80, 3, 10, 0, 425) :: (69, .ifCond .ne 17, 86, 0, 0, 0) :: (72, .aload_n 0, 0, 0, 0, 0) :: (73, .getfield 44, 3, 5, 1, 418) :: (76, .getfield 118, 2, 9, 0, 283) ::
  (79, .ifCond .eq 7, 86, 0, 0, 0) :: (82, .aload_n 0, 0, 0, 0, 0) :: (83, .invokevirtual 121, 20, 1, 3, 663) :: bl_X1_receive_86
def bl_X1_receive_50 : List ax_R := (50, .aload_n 0, 0, 0, 0, 0) :: (51, .getfield 12, 3, 1, 1, 412) :: (54, .invokevirtual 112, 46, 1, 5, 499) :: (57, .ifCond .ne 4, 61, 0, 0, 0) :: (60, .return_, 0, 0, 0, 0) :: bl_X1_receive_61
def bl_X1_receive_25 : List ax_R := (25, .aload_n 0, 0, 0, 0, 0) :: (26, .getfield 12, 3, 1, 1, 412) :: (29, .iload_n 1, 0, 0, 0, 0) :: (30, .invokevirtual 104, 44, 2, 5, 487) :: (33, .aload_n 0, 0, 0, 0, 0) :: (34, .getfield 12, 3, 1, 1, 412) :: (37, .invokevirtual 105, 45, 1, 5, 491) :: (40, .ifCond .eq 10, 50, 0, 0, 0) ::
  (43, .aload_n 0, 0, 0, 0, 0) :: (44, .bipush 6, 0, 0, 0, 0) :: (46, .invokevirtual 109, 37, 2, 3, 483) :: (49, .return_, 0, 0, 0, 0) :: bl_X1_receive_50
def bl_X1_receive_8 : List ax_R := (8, .aload_n 0, 0, 0, 0, 0) :: (9, .getfield 69, 3, 7, 0, 422) :: (12, .getstatic 97, 4, 1, 1, 477) :: (15, .arraylength, 0, 0, 0, 0) :: (16, .if_icmp .ge 9, 25, 0, 0, 0) :: (19, .aload_n 0, 0, 0, 0, 0) :: (20, .iload_n 1, 0, 0, 0, 0) :: (21, .invokevirtual 101, 14, 2, 3, 479) ::
  (24, .return_, 0, 0, 0, 0) :: bl_X1_receive_25
def bl_X1_receive_0 : List ax_R := (0, .aload_n 0, 0, 0, 0, 0) :: (1, .getfield 80, 3, 10, 0, 425) :: (4, .ifCond .eq 4, 8, 0, 0, 0) :: (7, .return_, 0, 0, 0, 0) :: bl_X1_receive_8
def pr_X1_receive : List ax_R := bl_X1_receive_0
def pt_X1_receive : ax_T := ((⟨"PageServer$Connection", "receive", "(I)V"⟩, prog_3_method_3_code, 2, none), 476, 84, 474, 475)
def bl_X1_receivePreface_30 : List ax_R := (30, .return_, 0, 0, 0, 0) :: []
def bl_X1_receivePreface_25 : List ax_R := (25, .aload_n 0, 0, 0, 0, 0) :: (26, .iconst 1, 0, 0, 0, 0) :: (27, .invokevirtual 109, 37, 2, 3, 483) :: bl_X1_receivePreface_30
def bl_X1_receivePreface_0 : List ax_R := (0, .iload_n 1, 0, 0, 0, 0) :: (1, .getstatic 97, 4, 1, 1, 477) :: (4, .aload_n 0, 0, 0, 0, 0) :: (5, .getfield 69, 3, 7, 0, 422) :: (8, .iaload, 0, 0, 0, 0) :: (9, .if_icmp .ne 16, 25, 0, 0, 0) :: (12, .aload_n 0, 0, 0, 0, 0) :: (13, .dup, 0, 0, 0, 0) ::
  (14, .getfield 69, 3, 7, 0, 422) :: (17, .iconst 1, 0, 0, 0, 0) :: (18, .iadd, 0, 0, 0, 0) :: (19, .putfield 69, 3, 7, 0, 422) :: (22, .goto 8, 30, 0, 0, 0) :: bl_X1_receivePreface_25
def pr_X1_receivePreface : List ax_R := bl_X1_receivePreface_0
def pt_X1_receivePreface : ax_T := ((⟨"PageServer$Connection", "receivePreface", "(I)V"⟩, prog_3_method_4_code, 2, none), 482, 84, 481, 0)
def bl_X1_lookAtFrame_134 : List ax_R := (134, .return_, 0, 0, 0, 0) :: []
def bl_X1_lookAtFrame_127 : List ax_R := (127, .aload_n 0, 0, 0, 0, 0) :: (128, .invokevirtual 156, 19, 1, 3, 608) :: (131, .goto 3, 134, 0, 0, 0) :: bl_X1_lookAtFrame_134
def bl_X1_lookAtFrame_120 : List ax_R := (120, .aload_n 0, 0, 0, 0, 0) :: (121, .invokevirtual 153, 30, 1, 3, 647) :: (124, .goto 10, 134, 0, 0, 0) :: bl_X1_lookAtFrame_127
def bl_X1_lookAtFrame_111 : List ax_R := (111, .aload_n 0, 0, 0, 0, 0) :: (112, .iconst 2, 0, 0, 0, 0) :: (113, .invokevirtual 149, 29, 2, 3, 643) :: (116, .pop, 0, 0, 0, 0) :: (117, .goto 17, 134, 0, 0, 0) :: bl_X1_lookAtFrame_120
def bl_X1_lookAtFrame_104 : List ax_R := (104, .aload_n 0, 0, 0, 0, 0) :: (105, .invokevirtual 146, 28, 1, 3, 639) :: (108, .goto 26, 134, 0, 0, 0) :: bl_X1_lookAtFrame_111
def bl_X1_lookAtFrame_97 : List ax_R := (97, .aload_n 0, 0, 0, 0, 0) :: (98, .invokevirtual 143, 26, 1, 3, 626) :: (101, .goto 33, 134, 0, 0, 0) :: bl_X1_lookAtFrame_104
def bl_X1_lookAtFrame_90 : List ax_R := (90, .aload_n 0, 0, 0, 0, 0) :: (91, .invokevirtual 140, 25, 1, 3, 622) :: (94, .goto 40, 134, 0, 0, 0) :: bl_X1_lookAtFrame_97
def bl_X1_lookAtFrame_83 : List ax_R := (83, .aload_n 0, 0, 0, 0, 0) :: (84, .invokevirtual 137, 18, 1, 3, 597) :: (87, .goto 47, 134, 0, 0, 0) :: bl_X1_lookAtFrame_90
def bl_X1_lookAtFrame_76 : List ax_R := (76, .aload_n 0, 0, 0, 0, 0) :: (77, .invokevirtual 134, 17, 1, 3, 523) :: (80, .goto 54, 134, 0, 0, 0) :: bl_X1_lookAtFrame_83
def bl_X1_lookAtFrame_13 : List ax_R := (13, .aload_n 0, 0, 0, 0, 0) :: (14, .getfield 12, 3, 1, 1, 412) :: (17, .invokevirtual 130, 48, 1, 5, 511) :: (20, .tableswitch 114 0 9 #[56, 63, 114, 70, 77, 114, 84, 91, 100, 107], 0, 0, 0, 0) :: bl_X1_lookAtFrame_76
def bl_X1_lookAtFrame_0 : List ax_R := (0, .aload_n 0, 0, 0, 0, 0) :: (1, .invokevirtual 127, 16, 1, 3, 507) :: (4, .ifCond .eq 9, 13, 0, 0, 0) :: (7, .aload_n 0, 0, 0, 0, 0) :: (8, .iconst 1, 0, 0, 0, 0) :: (9, .invokevirtual 109, 37, 2, 3, 483) :: (12, .return_, 0, 0, 0, 0) :: bl_X1_lookAtFrame_13
def pr_X1_lookAtFrame : List ax_R := bl_X1_lookAtFrame_0
def pt_X1_lookAtFrame : ax_T := ((⟨"PageServer$Connection", "lookAtFrame", "()V"⟩, prog_3_method_5_code, 1, none), 506, 84, 505, 2)
def bl_X1_isOutOfOrder_83 : List ax_R := (83, .ireturn, 0, 0, 0, 0) :: []
def bl_X1_isOutOfOrder_82 : List ax_R := (82, .iconst 0, 0, 0, 0, 0) :: bl_X1_isOutOfOrder_83
def bl_X1_isOutOfOrder_72 : List ax_R := (72, .iload_n 1, 0, 0, 0, 0) :: (73, .bipush 9, 0, 0, 0, 0) :: (75, .if_icmp .ne 7, 82, 0, 0, 0) :: (78, .iconst 1, 0, 0, 0, 0) :: (79, .goto 4, 83, 0, 0, 0) :: bl_X1_isOutOfOrder_82
def bl_X1_isOutOfOrder_71 : List ax_R := (71, .ireturn, 0, 0, 0, 0) :: bl_X1_isOutOfOrder_72
def bl_X1_isOutOfOrder_70 : List ax_R := (70, .iconst 0, 0, 0, 0, 0) :: bl_X1_isOutOfOrder_71
def bl_X1_isOutOfOrder_66 : List ax_R := (66, .iconst 1, 0, 0, 0, 0) :: (67, .goto 4, 71, 0, 0, 0) :: bl_X1_isOutOfOrder_70
def bl_X1_isOutOfOrder_33 : List ax_R := (33, .aload_n 0, 0, 0, 0, 0) :: (34, .getfield 44, 3, 5, 1, 418) :: (37, .getfield 162, 2, 8, 0, 281) :: (40, .ifCond .eq 32, 72, 0, 0, 0) :: (43, .iload_n 1, 0, 0, 0, 0) :: (44, .bipush 9, 0, 0, 0, 0) :: (46, .if_icmp .ne 20, 66, 0, 0, 0) :: (49, .aload_n 0, 0, 0, 0, 0) ::
  (50, .getfield 12, 3, 1, 1, 412) :: (53, .invokevirtual 165, 50, 1, 5, 519) :: (56, .aload_n 0, 0, 0, 0, 0) :: (57, .getfield 44, 3, 5, 1, 418) :: (60, .getfield 168, 2, 6, 0, 277) :: (63, .if_icmp .eq 7, 70, 0, 0, 0) :: bl_X1_isOutOfOrder_66
def bl_X1_isOutOfOrder_31 : List ax_R := (31, .iconst 1, 0, 0, 0, 0) :: (32, .ireturn, 0, 0, 0, 0) :: bl_X1_isOutOfOrder_33
def bl_X1_isOutOfOrder_0 : List ax_R := (0, .aload_n 0, 0, 0, 0, 0) :: (1, .getfield 12, 3, 1, 1, 412) :: (4, .invokevirtual 130, 48, 1, 5, 511) :: (7, .istore_n 1, 0, 0, 0, 0) :: (8, .aload_n 0, 0, 0, 0, 0) :: (9, .getfield 73, 3, 8, 0, 423) :: (12, .ifCond .ne 21, 33, 0, 0, 0) :: (15, .iload_n 1, 0, 0, 0, 0) ::
  (16, .iconst 4, 0, 0, 0, 0) :: (17, .if_icmp .ne 14, 31, 0, 0, 0) :: (20, .aload_n 0, 0, 0, 0, 0) :: (21, .getfield 12, 3, 1, 1, 412) :: (24, .iconst 1, 0, 0, 0, 0) :: (25, .invokevirtual 159, 49, 2, 5, 515) :: (28, .ifCond .eq 5, 33, 0, 0, 0) :: bl_X1_isOutOfOrder_31
def pr_X1_isOutOfOrder : List ax_R := bl_X1_isOutOfOrder_0
def pt_X1_isOutOfOrder : ax_T := ((⟨"PageServer$Connection", "isOutOfOrder", "()Z"⟩, prog_3_method_6_code, 2, (some .boolean)), 510, 84, 509, 3)
def bl_X1_lookAtData_162 : List ax_R := (162, .return_, 0, 0, 0, 0) :: []
def bl_X1_lookAtData_150 : List ax_R := (150, .aload_n 0, 0, 0, 0, 0) :: (151, .iload_n 1, 0, 0, 0, 0) :: (152, .aload_n 0, 0, 0, 0, 0) :: (153, .getfield 12, 3, 1, 1, 412) :: (156, .invokevirtual 176, 47, 1, 5, 543) :: (159, .invokevirtual 179, 35, 3, 3, 544) :: bl_X1_lookAtData_162
def bl_X1_lookAtData_115 : List ax_R := (115, .aload_n 2, 0, 0, 0, 0) :: (116, .dup, 0, 0, 0, 0) :: (117, .getfield 195, 11, 5, 0, 335) :: (120, .aload_n 0, 0, 0, 0, 0) :: (121, .getfield 12, 3, 1, 1, 412) :: (124, .invokevirtual 198, 56, 1, 5, 561) :: (127, .iadd, 0, 0, 0, 0) :: (128, .putfield 195, 11, 5, 0, 335) ::
  (131, .aload_n 0, 0, 0, 0, 0) :: (132, .getfield 12, 3, 1, 1, 412) :: (135, .iconst 1, 0, 0, 0, 0) :: (136, .invokevirtual 159, 49, 2, 5, 515) :: (139, .ifCond .eq 11, 150, 0, 0, 0) :: (142, .aload_n 0, 0, 0, 0, 0) :: (143, .aload_n 2, 0, 0, 0, 0) :: (144, .invokevirtual 201, 23, 2, 3, 568) ::
  (147, .goto 15, 162, 0, 0, 0) :: bl_X1_lookAtData_150
def bl_X1_lookAtData_96 : List ax_R := (96, .aload_n 0, 0, 0, 0, 0) :: (97, .getfield 12, 3, 1, 1, 412) :: (100, .invokevirtual 176, 47, 1, 5, 543) :: (103, .bipush 50, 0, 0, 0, 0) :: (105, .if_icmp .le 10, 115, 0, 0, 0) :: (108, .aload_n 0, 0, 0, 0, 0) :: (109, .iload_n 1, 0, 0, 0, 0) :: (110, .iconst 3, 0, 0, 0, 0) ::
  (111, .invokevirtual 192, 36, 3, 3, 552) :: (114, .return_, 0, 0, 0, 0) :: bl_X1_lookAtData_115
def bl_X1_lookAtData_89 : List ax_R := (89, .aload_n 0, 0, 0, 0, 0) :: (90, .iload_n 1, 0, 0, 0, 0) :: (91, .iconst 5, 0, 0, 0, 0) :: (92, .invokevirtual 192, 36, 3, 3, 552) :: (95, .return_, 0, 0, 0, 0) :: bl_X1_lookAtData_96
def bl_X1_lookAtData_57 : List ax_R := (57, .aload_n 0, 0, 0, 0, 0) :: (58, .iconst 0, 0, 0, 0, 0) :: (59, .aload_n 0, 0, 0, 0, 0) :: (60, .getfield 12, 3, 1, 1, 412) :: (63, .invokevirtual 176, 47, 1, 5, 543) :: (66, .invokevirtual 179, 35, 3, 3, 544) :: (69, .aload_n 0, 0, 0, 0, 0) :: (70, .getfield 51, 3, 6, 1, 420) ::
  (73, .iload_n 1, 0, 0, 0, 0) :: (74, .invokevirtual 183, 91, 2, 12, 548) :: (77, .astore_n 2, 0, 0, 0, 0) :: (78, .aload_n 2, 0, 0, 0, 0) :: (79, .ifnull 10, 89, 0, 0, 0) :: (82, .aload_n 2, 0, 0, 0, 0) :: (83, .getfield 187, 11, 6, 0, 338) :: (86, .ifCond .eq 10, 96, 0, 0, 0) :: bl_X1_lookAtData_89
def bl_X1_lookAtData_39 : List ax_R := (39, .aload_n 0, 0, 0, 0, 0) :: (40, .getfield 12, 3, 1, 1, 412) :: (43, .invokevirtual 176, 47, 1, 5, 543) :: (46, .bipush 80, 0, 0, 0, 0) :: (48, .if_icmp .le 9, 57, 0, 0, 0) :: (51, .aload_n 0, 0, 0, 0, 0) :: (52, .iconst 3, 0, 0, 0, 0) :: (53, .invokevirtual 109, 37, 2, 3, 483) ::
  (56, .return_, 0, 0, 0, 0) :: bl_X1_lookAtData_57
def bl_X1_lookAtData_33 : List ax_R := (33, .aload_n 0, 0, 0, 0, 0) :: (34, .iconst 1, 0, 0, 0, 0) :: (35, .invokevirtual 109, 37, 2, 3, 483) :: (38, .return_, 0, 0, 0, 0) :: bl_X1_lookAtData_39
def bl_X1_lookAtData_0 : List ax_R := (0, .aload_n 0, 0, 0, 0, 0) :: (1, .getfield 12, 3, 1, 1, 412) :: (4, .invokevirtual 165, 50, 1, 5, 519) :: (7, .istore_n 1, 0, 0, 0, 0) :: (8, .iload_n 1, 0, 0, 0, 0) :: (9, .ifCond .eq 24, 33, 0, 0, 0) :: (12, .aload_n 0, 0, 0, 0, 0) :: (13, .getfield 51, 3, 6, 1, 420) ::
  (16, .iload_n 1, 0, 0, 0, 0) :: (17, .invokevirtual 170, 90, 2, 12, 527) :: (20, .ifCond .ne 13, 33, 0, 0, 0) :: (23, .aload_n 0, 0, 0, 0, 0) :: (24, .getfield 12, 3, 1, 1, 412) :: (27, .invokevirtual 173, 54, 1, 5, 531) :: (30, .ifCond .ne 9, 39, 0, 0, 0) :: bl_X1_lookAtData_33
def pr_X1_lookAtData : List ax_R := bl_X1_lookAtData_0
def pt_X1_lookAtData : ax_T := ((⟨"PageServer$Connection", "lookAtData", "()V"⟩, prog_3_method_7_code, 3, none), 526, 84, 525, 4)
def bl_X1_lookAtHeaders_67 : List ax_R := (67, .aload_n 0, 0, 0, 0, 0) :: (68, .getfield 44, 3, 5, 1, 418) :: (71, .aload_n 0, 0, 0, 0, 0) :: (72, .getfield 12, 3, 1, 1, 412) :: (75, .invokevirtual 208, 2, 2, 2, 601) :: (78, .aload_n 0, 0, 0, 0, 0) :: (79, .invokevirtual 156, 19, 1, 3, 608) :: (82, .return_, 0, 0, 0, 0) :: []
def bl_X1_lookAtHeaders_61 : List ax_R := (61, .aload_n 0, 0, 0, 0, 0) :: (62, .iconst 5, 0, 0, 0, 0) :: (63, .invokevirtual 109, 37, 2, 3, 483) :: (66, .return_, 0, 0, 0, 0) :: bl_X1_lookAtHeaders_67
def bl_X1_lookAtHeaders_30 : List ax_R := (30, .iload_n 1, 0, 0, 0, 0) :: (31, .aload_n 0, 0, 0, 0, 0) :: (32, .getfield 51, 3, 6, 1, 420) :: (35, .getfield 205, 12, 2, 0, 369) :: (38, .if_icmp .gt 29, 67, 0, 0, 0) :: (41, .aload_n 0, 0, 0, 0, 0) :: (42, .getfield 51, 3, 6, 1, 420) :: (45, .iload_n 1, 0, 0, 0, 0) ::
  (46, .invokevirtual 183, 91, 2, 12, 548) :: (49, .astore_n 2, 0, 0, 0, 0) :: (50, .aload_n 2, 0, 0, 0, 0) :: (51, .ifnull 10, 61, 0, 0, 0) :: (54, .aload_n 2, 0, 0, 0, 0) :: (55, .getfield 187, 11, 6, 0, 338) :: (58, .ifCond .eq 9, 67, 0, 0, 0) :: bl_X1_lookAtHeaders_61
def bl_X1_lookAtHeaders_24 : List ax_R := (24, .aload_n 0, 0, 0, 0, 0) :: (25, .iconst 1, 0, 0, 0, 0) :: (26, .invokevirtual 109, 37, 2, 3, 483) :: (29, .return_, 0, 0, 0, 0) :: bl_X1_lookAtHeaders_30
def bl_X1_lookAtHeaders_0 : List ax_R := (0, .aload_n 0, 0, 0, 0, 0) :: (1, .getfield 12, 3, 1, 1, 412) :: (4, .invokevirtual 165, 50, 1, 5, 519) :: (7, .istore_n 1, 0, 0, 0, 0) :: (8, .iload_n 1, 0, 0, 0, 0) :: (9, .iconst 2, 0, 0, 0, 0) :: (10, .irem, 0, 0, 0, 0) :: (11, .ifCond .eq 13, 24, 0, 0, 0) ::
  (14, .aload_n 0, 0, 0, 0, 0) :: (15, .getfield 12, 3, 1, 1, 412) :: (18, .invokevirtual 173, 54, 1, 5, 531) :: (21, .ifCond .ne 9, 30, 0, 0, 0) :: bl_X1_lookAtHeaders_24
def pr_X1_lookAtHeaders : List ax_R := bl_X1_lookAtHeaders_0
def pt_X1_lookAtHeaders : ax_T := ((⟨"PageServer$Connection", "lookAtHeaders", "()V"⟩, prog_3_method_8_code, 3, none), 600, 84, 599, 10)
def bl_X1_addToBlock_20 : List ax_R := (20, .return_, 0, 0, 0, 0) :: []
def bl_X1_addToBlock_0 : List ax_R := (0, .aload_n 0, 0, 0, 0, 0) :: (1, .getfield 44, 3, 5, 1, 418) :: (4, .aload_n 0, 0, 0, 0, 0) :: (5, .getfield 12, 3, 1, 1, 412) :: (8, .invokevirtual 212, 3, 2, 2, 612) :: (11, .ifCond .ne 9, 20, 0, 0, 0) :: (14, .aload_n 0, 0, 0, 0, 0) :: (15, .bipush 9, 0, 0, 0, 0) ::
  (17, .invokevirtual 109, 37, 2, 3, 483) :: bl_X1_addToBlock_20
def pr_X1_addToBlock : List ax_R := bl_X1_addToBlock_0
def pt_X1_addToBlock : ax_T := ((⟨"PageServer$Connection", "addToBlock", "()V"⟩, prog_3_method_9_code, 1, none), 611, 84, 610, 11)
def bl_X1_endBlock_55 : List ax_R := (55, .return_, 0, 0, 0, 0) :: []
def bl_X1_endBlock_50 : List ax_R := (50, .aload_n 0, 0, 0, 0, 0) :: (51, .aload_n 1, 0, 0, 0, 0) :: (52, .invokevirtual 221, 22, 2, 3, 864) :: bl_X1_endBlock_55
def bl_X1_endBlock_17 : List ax_R := (17, .aload_n 0, 0, 0, 0, 0) :: (18, .getfield 51, 3, 6, 1, 420) :: (21, .aload_n 0, 0, 0, 0, 0) :: (22, .getfield 44, 3, 5, 1, 418) :: (25, .getfield 168, 2, 6, 0, 277) :: (28, .invokevirtual 183, 91, 2, 12, 548) :: (31, .astore_n 1, 0, 0, 0, 0) :: (32, .aload_n 1, 0, 0, 0, 0) ::
  (33, .ifnonnull 17, 50, 0, 0, 0) :: (36, .aload_n 0, 0, 0, 0, 0) :: (37, .aload_n 0, 0, 0, 0, 0) :: (38, .getfield 44, 3, 5, 1, 418) :: (41, .getfield 168, 2, 6, 0, 277) :: (44, .invokevirtual 218, 21, 2, 3, 784) :: (47, .goto 8, 55, 0, 0, 0) :: bl_X1_endBlock_50
def bl_X1_endBlock_0 : List ax_R := (0, .aload_n 0, 0, 0, 0, 0) :: (1, .getfield 44, 3, 5, 1, 418) :: (4, .invokevirtual 215, 5, 1, 2, 667) :: (7, .ifCond .ne 10, 17, 0, 0, 0) :: (10, .aload_n 0, 0, 0, 0, 0) :: (11, .bipush 9, 0, 0, 0, 0) :: (13, .invokevirtual 109, 37, 2, 3, 483) :: (16, .return_, 0, 0, 0, 0) :: bl_X1_endBlock_17
def pr_X1_endBlock : List ax_R := bl_X1_endBlock_0
def pt_X1_endBlock : ax_T := ((⟨"PageServer$Connection", "endBlock", "()V"⟩, prog_3_method_10_code, 2, none), 666, 84, 665, 20)
def bl_X1_openStream_83 : List ax_R := (83, .return_, 0, 0, 0, 0) :: []
def bl_X1_openStream_68 : List ax_R := (68, .aload_n 0, 0, 0, 0, 0) :: (69, .getfield 44, 3, 5, 1, 418) :: (72, .getfield 235, 2, 7, 0, 279) :: (75, .ifCond .eq 8, 83, 0, 0, 0) :: (78, .aload_n 0, 0, 0, 0, 0) :: (79, .aload_n 2, 0, 0, 0, 0) :: (80, .invokevirtual 201, 23, 2, 3, 568) :: bl_X1_openStream_83
def bl_X1_openStream_56 : List ax_R := (56, .astore_n 2, 0, 0, 0, 0) :: (57, .aload_n 2, 0, 0, 0, 0) :: (58, .ifnonnull 10, 68, 0, 0, 0) :: (61, .aload_n 0, 0, 0, 0, 0) :: (62, .iload_n 1, 0, 0, 0, 0) :: (63, .iconst 1, 0, 0, 0, 0) :: (64, .invokevirtual 192, 36, 3, 3, 552) :: (67, .return_, 0, 0, 0, 0) :: bl_X1_openStream_68
def bl_X1_openStream_55 : List ax_R := (55, .aconst_null, 0, 0, 0, 0) :: bl_X1_openStream_56
def bl_X1_openStream_26 : List ax_R := (26, .aload_n 0, 0, 0, 0, 0) :: (27, .getfield 21, 3, 2, 1, 413) :: (30, .aload_n 0, 0, 0, 0, 0) :: (31, .getfield 44, 3, 5, 1, 418) :: (34, .invokevirtual 227, 73, 2, 9, 796) :: (37, .ifCond .eq 18, 55, 0, 0, 0) :: (40, .aload_n 0, 0, 0, 0, 0) :: (41, .getfield 51, 3, 6, 1, 420) ::
  (44, .iload_n 1, 0, 0, 0, 0) :: (45, .aload_n 0, 0, 0, 0, 0) :: (46, .getfield 21, 3, 2, 1, 413) :: (49, .invokevirtual 231, 93, 3, 12, 856) :: (52, .goto 4, 56, 0, 0, 0) :: bl_X1_openStream_55
def bl_X1_openStream_0 : List ax_R := (0, .aload_n 0, 0, 0, 0, 0) :: (1, .getfield 51, 3, 6, 1, 420) :: (4, .iload_n 1, 0, 0, 0, 0) :: (5, .putfield 205, 12, 2, 0, 369) :: (8, .aload_n 0, 0, 0, 0, 0) :: (9, .getfield 51, 3, 6, 1, 420) :: (12, .invokevirtual 224, 95, 1, 12, 788) :: (15, .ifCond .eq 11, 26, 0, 0, 0) ::
  (18, .aload_n 0, 0, 0, 0, 0) :: (19, .iload_n 1, 0, 0, 0, 0) :: (20, .bipush 7, 0, 0, 0, 0) :: (22, .invokevirtual 192, 36, 3, 3, 552) :: (25, .return_, 0, 0, 0, 0) :: bl_X1_openStream_26
def pr_X1_openStream : List ax_R := bl_X1_openStream_0
def pt_X1_openStream : ax_T := ((⟨"PageServer$Connection", "openStream", "(I)V"⟩, prog_3_method_11_code, 3, none), 787, 84, 786, 27)
def bl_X1_endOpenStream_73 : List ax_R := (73, .return_, 0, 0, 0, 0) :: []
def bl_X1_endOpenStream_64 : List ax_R := (64, .aload_n 0, 0, 0, 0, 0) :: (65, .aload_n 1, 0, 0, 0, 0) :: (66, .getfield 250, 11, 1, 0, 324) :: (69, .iconst 1, 0, 0, 0, 0) :: (70, .invokevirtual 192, 36, 3, 3, 552) :: bl_X1_endOpenStream_73
def bl_X1_endOpenStream_52 : List ax_R := (52, .iload_n 2, 0, 0, 0, 0) :: (53, .ifCond .eq 11, 64, 0, 0, 0) :: (56, .aload_n 0, 0, 0, 0, 0) :: (57, .aload_n 1, 0, 0, 0, 0) :: (58, .invokevirtual 201, 23, 2, 3, 568) :: (61, .goto 12, 73, 0, 0, 0) :: bl_X1_endOpenStream_64
def bl_X1_endOpenStream_46 : List ax_R := (46, .iinc 3 1, 0, 0, 0, 0) :: (49, .goto (-39), 10, 0, 0, 0) :: bl_X1_endOpenStream_52
def bl_X1_endOpenStream_10 : List ax_R := (10, .iload_n 3, 0, 0, 0, 0) :: (11, .aload_n 0, 0, 0, 0, 0) :: (12, .getfield 44, 3, 5, 1, 418) :: (15, .getfield 238, 2, 5, 0, 275) :: (18, .if_icmp .ge 34, 52, 0, 0, 0) :: (21, .aload_n 0, 0, 0, 0, 0) :: (22, .getfield 44, 3, 5, 1, 418) :: (25, .iload_n 3, 0, 0, 0, 0) ::
  (26, .invokevirtual 241, 4, 2, 2, 868) :: (29, .astore 4, 0, 0, 0, 0) :: (31, .aload 4, 0, 0, 0, 0) :: (33, .ifnull 13, 46, 0, 0, 0) :: (36, .aload 4, 0, 0, 0, 0) :: (38, .invokevirtual 245, 39, 1, 4, 869) :: (41, .ifCond .eq 5, 46, 0, 0, 0) :: (44, .iconst 0, 0, 0, 0, 0) ::
  (45, .istore_n 2, 0, 0, 0, 0) :: bl_X1_endOpenStream_46
def bl_X1_endOpenStream_0 : List ax_R := (0, .aload_n 0, 0, 0, 0, 0) :: (1, .getfield 44, 3, 5, 1, 418) :: (4, .getfield 235, 2, 7, 0, 279) :: (7, .istore_n 2, 0, 0, 0, 0) :: (8, .iconst 0, 0, 0, 0, 0) :: (9, .istore_n 3, 0, 0, 0, 0) :: bl_X1_endOpenStream_10
def pr_X1_endOpenStream : List ax_R := bl_X1_endOpenStream_0
def pt_X1_endOpenStream : ax_T := ((⟨"PageServer$Connection", "endOpenStream", "(LPageServer$Stream;)V"⟩, prog_3_method_12_code, 5, none), 867, 84, 866, 30)
def bl_X1_closeClientSide_29 : List ax_R := (29, .return_, 0, 0, 0, 0) :: []
def bl_X1_closeClientSide_24 : List ax_R := (24, .aload_n 0, 0, 0, 0, 0) :: (25, .aload_n 1, 0, 0, 0, 0) :: (26, .invokevirtual 256, 24, 2, 3, 576) :: bl_X1_closeClientSide_29
def bl_X1_closeClientSide_0 : List ax_R := (0, .aload_n 1, 0, 0, 0, 0) :: (1, .iconst 1, 0, 0, 0, 0) :: (2, .putfield 187, 11, 6, 0, 338) :: (5, .aload_n 1, 0, 0, 0, 0) :: (6, .invokevirtual 253, 87, 1, 11, 572) :: (9, .ifCond .eq 15, 24, 0, 0, 0) :: (12, .aload_n 0, 0, 0, 0, 0) :: (13, .aload_n 1, 0, 0, 0, 0) ::
  (14, .getfield 250, 11, 1, 0, 324) :: (17, .iconst 1, 0, 0, 0, 0) :: (18, .invokevirtual 192, 36, 3, 3, 552) :: (21, .goto 8, 29, 0, 0, 0) :: bl_X1_closeClientSide_24
def pr_X1_closeClientSide : List ax_R := bl_X1_closeClientSide_0
def pt_X1_closeClientSide : ax_T := ((⟨"PageServer$Connection", "closeClientSide", "(LPageServer$Stream;)V"⟩, prog_3_method_13_code, 2, none), 571, 84, 570, 8)
def bl_X1_answer_212 : List ax_R := (212, .return_, 0, 0, 0, 0) :: []
def bl_X1_answer_197 : List ax_R := (197, .aload_n 1, 0, 0, 0, 0) :: (198, .iload 5, 0, 0, 0, 0) :: (200, .putfield 292, 11, 3, 0, 331) :: (203, .aload_n 1, 0, 0, 0, 0) :: (204, .aload 4, 0, 0, 0, 0) :: (206, .getfield 295, 8, 2, 0, 1239) :: (209, .putfield 298, 11, 4, 0, 333) :: bl_X1_answer_212
def bl_X1_answer_189 : List ax_R := (189, .aload_n 1, 0, 0, 0, 0) :: (190, .iconst 0, 0, 0, 0, 0) :: (191, .putfield 289, 11, 0, 0, 321) :: (194, .goto 18, 212, 0, 0, 0) :: bl_X1_answer_197
def bl_X1_answer_179 : List ax_R := (179, .aload 4, 0, 0, 0, 0) :: (181, .ifnull 8, 189, 0, 0, 0) :: (184, .iload 5, 0, 0, 0, 0) :: (186, .ifCond .ne 11, 197, 0, 0, 0) :: bl_X1_answer_189
def bl_X1_answer_151 : List ax_R := (151, .iload 7, 0, 0, 0, 0) :: (153, .getstatic 286, 5, 2, 1, 595) :: (156, .arraylength, 0, 0, 0, 0) :: (157, .if_icmp .ge 22, 179, 0, 0, 0) :: (160, .aload_n 0, 0, 0, 0, 0) :: (161, .getfield 28, 3, 3, 1, 414) :: (164, .getstatic 286, 5, 2, 1, 595) :: (167, .iload 7, 0, 0, 0, 0) ::
  (169, .iaload, 0, 0, 0, 0) :: (170, .invokevirtual 93, 68, 2, 7, 410) :: (173, .iinc 7 1, 0, 0, 0, 0) :: (176, .goto (-25), 151, 0, 0, 0) :: bl_X1_answer_179
def bl_X1_answer_130 : List ax_R := (130, .aload_n 0, 0, 0, 0, 0) :: (131, .getfield 28, 3, 3, 1, 414) :: (134, .getstatic 286, 5, 2, 1, 595) :: (137, .arraylength, 0, 0, 0, 0) :: (138, .iconst 1, 0, 0, 0, 0) :: (139, .iload 6, 0, 0, 0, 0) :: (141, .aload_n 1, 0, 0, 0, 0) :: (142, .getfield 250, 11, 1, 0, 324) ::
  (145, .invokevirtual 89, 69, 5, 7, 402) :: (148, .iconst 0, 0, 0, 0, 0) :: (149, .istore 7, 0, 0, 0, 0) :: bl_X1_answer_151
def bl_X1_answer_124 : List ax_R := (124, .invokevirtual 93, 68, 2, 7, 410) :: (127, .goto 52, 179, 0, 0, 0) :: bl_X1_answer_130
def bl_X1_answer_121 : List ax_R := (121, .sipush 134, 0, 0, 0, 0) :: bl_X1_answer_124
def bl_X1_answer_85 : List ax_R := (85, .istore 6, 0, 0, 0, 0) :: (87, .iload_n 3, 0, 0, 0, 0) :: (88, .ifCond .eq 42, 130, 0, 0, 0) :: (91, .aload_n 0, 0, 0, 0, 0) :: (92, .getfield 28, 3, 3, 1, 414) :: (95, .iconst 1, 0, 0, 0, 0) :: (96, .iconst 1, 0, 0, 0, 0) :: (97, .iload 6, 0, 0, 0, 0) ::
  (99, .aload_n 1, 0, 0, 0, 0) :: (100, .getfield 250, 11, 1, 0, 324) :: (103, .invokevirtual 89, 69, 5, 7, 402) :: (106, .aload_n 0, 0, 0, 0, 0) :: (107, .getfield 28, 3, 3, 1, 414) :: (110, .aload 4, 0, 0, 0, 0) :: (112, .ifnonnull 9, 121, 0, 0, 0) :: (115, .sipush 135, 0, 0, 0, 0) ::
  (118, .goto 6, 124, 0, 0, 0) :: bl_X1_answer_121
def bl_X1_answer_84 : List ax_R := (84, .iconst 4, 0, 0, 0, 0) :: bl_X1_answer_85
def bl_X1_answer_73 : List ax_R := (73, .istore 5, 0, 0, 0, 0) :: (75, .iload 5, 0, 0, 0, 0) :: (77, .ifCond .ne 7, 84, 0, 0, 0) :: (80, .iconst 5, 0, 0, 0, 0) :: (81, .goto 4, 85, 0, 0, 0) :: bl_X1_answer_84
def bl_X1_answer_68 : List ax_R := (68, .aload 4, 0, 0, 0, 0) :: (70, .getfield 281, 8, 1, 0, 1237) :: bl_X1_answer_73
def bl_X1_answer_64 : List ax_R := (64, .iconst 0, 0, 0, 0, 0) :: (65, .goto 8, 73, 0, 0, 0) :: bl_X1_answer_68
def bl_X1_answer_53 : List ax_R := (53, .astore 4, 0, 0, 0, 0) :: (55, .aload 4, 0, 0, 0, 0) :: (57, .ifnull 7, 64, 0, 0, 0) :: (60, .iload_n 2, 0, 0, 0, 0) :: (61, .ifCond .eq 7, 68, 0, 0, 0) :: bl_X1_answer_64
def bl_X1_answer_52 : List ax_R := (52, .aconst_null, 0, 0, 0, 0) :: bl_X1_answer_53
def bl_X1_answer_33 : List ax_R := (33, .istore_n 3, 0, 0, 0, 0) :: (34, .iload_n 3, 0, 0, 0, 0) :: (35, .ifCond .eq 17, 52, 0, 0, 0) :: (38, .aload_n 0, 0, 0, 0, 0) :: (39, .getfield 55, 3, 0, 1, 411) :: (42, .aload_n 1, 0, 0, 0, 0) :: (43, .getfield 273, 11, 9, 1, 344) :: (46, .invokevirtual 276, 81, 2, 10, 590) ::
  (49, .goto 4, 53, 0, 0, 0) :: bl_X1_answer_52
def bl_X1_answer_32 : List ax_R := (32, .iconst 0, 0, 0, 0, 0) :: bl_X1_answer_33
def bl_X1_answer_28 : List ax_R := (28, .iconst 1, 0, 0, 0, 0) :: (29, .goto 4, 33, 0, 0, 0) :: bl_X1_answer_32
def bl_X1_answer_0 : List ax_R := (0, .aload_n 1, 0, 0, 0, 0) :: (1, .getfield 259, 11, 8, 1, 342) :: (4, .ldc_w 263, 0, 7, 1, 12) :: (7, .invokevirtual 265, 179, 2, 0, 581) :: (10, .istore_n 2, 0, 0, 0, 0) :: (11, .iload_n 2, 0, 0, 0, 0) :: (12, .ifCond .ne 16, 28, 0, 0, 0) :: (15, .aload_n 1, 0, 0, 0, 0) ::
  (16, .getfield 259, 11, 8, 1, 342) :: (19, .ldc_w 271, 0, 5, 1, 13) :: (22, .invokevirtual 265, 179, 2, 0, 581) :: (25, .ifCond .eq 7, 32, 0, 0, 0) :: bl_X1_answer_28
def pr_X1_answer : List ax_R := bl_X1_answer_0
def pt_X1_answer : ax_T := ((⟨"PageServer$Connection", "answer", "(LPageServer$Stream;)V"⟩, prog_3_method_14_code, 8, none), 579, 84, 578, 9)
def bl_X1_lookAtReset_59 : List ax_R := (59, .return_, 0, 0, 0, 0) :: []
def bl_X1_lookAtReset_51 : List ax_R := (51, .aload_n 0, 0, 0, 0, 0) :: (52, .getfield 51, 3, 6, 1, 420) :: (55, .iload_n 1, 0, 0, 0, 0) :: (56, .invokevirtual 299, 94, 2, 12, 556) :: bl_X1_lookAtReset_59
def bl_X1_lookAtReset_43 : List ax_R := (43, .aload_n 0, 0, 0, 0, 0) :: (44, .iconst 1, 0, 0, 0, 0) :: (45, .invokevirtual 109, 37, 2, 3, 483) :: (48, .goto 11, 59, 0, 0, 0) :: bl_X1_lookAtReset_51
def bl_X1_lookAtReset_28 : List ax_R := (28, .iload_n 1, 0, 0, 0, 0) :: (29, .ifCond .eq 14, 43, 0, 0, 0) :: (32, .aload_n 0, 0, 0, 0, 0) :: (33, .getfield 51, 3, 6, 1, 420) :: (36, .iload_n 1, 0, 0, 0, 0) :: (37, .invokevirtual 170, 90, 2, 12, 527) :: (40, .ifCond .eq 11, 51, 0, 0, 0) :: bl_X1_lookAtReset_43
def bl_X1_lookAtReset_0 : List ax_R := (0, .aload_n 0, 0, 0, 0, 0) :: (1, .getfield 12, 3, 1, 1, 412) :: (4, .invokevirtual 165, 50, 1, 5, 519) :: (7, .istore_n 1, 0, 0, 0, 0) :: (8, .aload_n 0, 0, 0, 0, 0) :: (9, .getfield 12, 3, 1, 1, 412) :: (12, .invokevirtual 176, 47, 1, 5, 543) :: (15, .iconst 1, 0, 0, 0, 0) ::
  (16, .if_icmp .eq 12, 28, 0, 0, 0) :: (19, .aload_n 0, 0, 0, 0, 0) :: (20, .bipush 6, 0, 0, 0, 0) :: (22, .invokevirtual 109, 37, 2, 3, 483) :: (25, .goto 34, 59, 0, 0, 0) :: bl_X1_lookAtReset_28
def pr_X1_lookAtReset : List ax_R := bl_X1_lookAtReset_0
def pt_X1_lookAtReset : ax_T := ((⟨"PageServer$Connection", "lookAtReset", "()V"⟩, prog_3_method_15_code, 2, none), 625, 84, 624, 12)
def bl_X1_lookAtSettings_73 : List ax_R := (73, .return_, 0, 0, 0, 0) :: []
def bl_X1_lookAtSettings_69 : List ax_R := (69, .aload_n 0, 0, 0, 0, 0) :: (70, .invokevirtual 302, 27, 1, 3, 630) :: bl_X1_lookAtSettings_73
def bl_X1_lookAtSettings_48 : List ax_R := (48, .aload_n 0, 0, 0, 0, 0) :: (49, .getfield 12, 3, 1, 1, 412) :: (52, .invokevirtual 176, 47, 1, 5, 543) :: (55, .iconst 2, 0, 0, 0, 0) :: (56, .irem, 0, 0, 0, 0) :: (57, .ifCond .eq 12, 69, 0, 0, 0) :: (60, .aload_n 0, 0, 0, 0, 0) :: (61, .bipush 6, 0, 0, 0, 0) ::
  (63, .invokevirtual 109, 37, 2, 3, 483) :: (66, .goto 7, 73, 0, 0, 0) :: bl_X1_lookAtSettings_69
def bl_X1_lookAtSettings_18 : List ax_R := (18, .aload_n 0, 0, 0, 0, 0) :: (19, .getfield 12, 3, 1, 1, 412) :: (22, .iconst 1, 0, 0, 0, 0) :: (23, .invokevirtual 159, 49, 2, 5, 515) :: (26, .ifCond .eq 22, 48, 0, 0, 0) :: (29, .aload_n 0, 0, 0, 0, 0) :: (30, .getfield 12, 3, 1, 1, 412) :: (33, .invokevirtual 176, 47, 1, 5, 543) ::
  (36, .ifCond .le 37, 73, 0, 0, 0) :: (39, .aload_n 0, 0, 0, 0, 0) :: (40, .bipush 6, 0, 0, 0, 0) :: (42, .invokevirtual 109, 37, 2, 3, 483) :: (45, .goto 28, 73, 0, 0, 0) :: bl_X1_lookAtSettings_48
def bl_X1_lookAtSettings_0 : List ax_R := (0, .aload_n 0, 0, 0, 0, 0) :: (1, .getfield 12, 3, 1, 1, 412) :: (4, .invokevirtual 165, 50, 1, 5, 519) :: (7, .ifCond .eq 11, 18, 0, 0, 0) :: (10, .aload_n 0, 0, 0, 0, 0) :: (11, .iconst 1, 0, 0, 0, 0) :: (12, .invokevirtual 109, 37, 2, 3, 483) :: (15, .goto 58, 73, 0, 0, 0) :: bl_X1_lookAtSettings_18
def pr_X1_lookAtSettings : List ax_R := bl_X1_lookAtSettings_0
def pt_X1_lookAtSettings : ax_T := ((⟨"PageServer$Connection", "lookAtSettings", "()V"⟩, prog_3_method_16_code, 1, none), 629, 84, 628, 13)
def bl_X1_takeSettings_84 : List ax_R := (84, .aload_n 0, 0, 0, 0, 0) :: (85, .getfield 28, 3, 3, 1, 414) :: (88, .iconst 0, 0, 0, 0, 0) :: (89, .iconst 4, 0, 0, 0, 0) :: (90, .iconst 1, 0, 0, 0, 0) :: (91, .iconst 0, 0, 0, 0, 0) :: (92, .invokevirtual 89, 69, 5, 7, 402) :: (95, .return_, 0, 0, 0, 0) :: []
def bl_X1_takeSettings_78 : List ax_R := (78, .iinc 1 2, 0, 0, 0, 0) :: (81, .goto (-79), 2, 0, 0, 0) :: bl_X1_takeSettings_84
def bl_X1_takeSettings_73 : List ax_R := (73, .aload_n 0, 0, 0, 0, 0) :: (74, .iload_n 2, 0, 0, 0, 0) :: (75, .putfield 86, 3, 12, 0, 429) :: bl_X1_takeSettings_78
def bl_X1_takeSettings_49 : List ax_R := (49, .aload_n 0, 0, 0, 0, 0) :: (50, .getfield 12, 3, 1, 1, 412) :: (53, .iload_n 1, 0, 0, 0, 0) :: (54, .invokevirtual 305, 51, 2, 5, 634) :: (57, .iconst 5, 0, 0, 0, 0) :: (58, .if_icmp .ne 20, 78, 0, 0, 0) :: (61, .iload_n 2, 0, 0, 0, 0) :: (62, .bipush 16, 0, 0, 0, 0) ::
  (64, .if_icmp .ge 9, 73, 0, 0, 0) :: (67, .aload_n 0, 0, 0, 0, 0) :: (68, .iconst 1, 0, 0, 0, 0) :: (69, .invokevirtual 109, 37, 2, 3, 483) :: (72, .return_, 0, 0, 0, 0) :: bl_X1_takeSettings_73
def bl_X1_takeSettings_2 : List ax_R := (2, .iload_n 1, 0, 0, 0, 0) :: (3, .iconst 1, 0, 0, 0, 0) :: (4, .iadd, 0, 0, 0, 0) :: (5, .aload_n 0, 0, 0, 0, 0) :: (6, .getfield 12, 3, 1, 1, 412) :: (9, .invokevirtual 176, 47, 1, 5, 543) :: (12, .if_icmp .ge 72, 84, 0, 0, 0) :: (15, .aload_n 0, 0, 0, 0, 0) ::
  (16, .getfield 12, 3, 1, 1, 412) :: (19, .iload_n 1, 0, 0, 0, 0) :: (20, .iconst 1, 0, 0, 0, 0) :: (21, .iadd, 0, 0, 0, 0) :: (22, .invokevirtual 305, 51, 2, 5, 634) :: (25, .istore_n 2, 0, 0, 0, 0) :: (26, .aload_n 0, 0, 0, 0, 0) :: (27, .getfield 12, 3, 1, 1, 412) ::
  (30, .iload_n 1, 0, 0, 0, 0) :: (31, .invokevirtual 305, 51, 2, 5, 634) :: (34, .iconst 4, 0, 0, 0, 0) :: (35, .if_icmp .ne 14, 49, 0, 0, 0) :: (38, .aload_n 0, 0, 0, 0, 0) :: (39, .getfield 51, 3, 6, 1, 420) :: (42, .iload_n 2, 0, 0, 0, 0) :: (43, .invokevirtual 309, 96, 2, 12, 635) ::
  (46, .goto 32, 78, 0, 0, 0) :: bl_X1_takeSettings_49
def bl_X1_takeSettings_0 : List ax_R := (0, .iconst 0, 0, 0, 0, 0) :: (1, .istore_n 1, 0, 0, 0, 0) :: bl_X1_takeSettings_2
def pr_X1_takeSettings : List ax_R := bl_X1_takeSettings_0
def pt_X1_takeSettings : ax_T := ((⟨"PageServer$Connection", "takeSettings", "()V"⟩, prog_3_method_17_code, 3, none), 633, 84, 632, 14)
def bl_X1_lookAtPing_60 : List ax_R := (60, .return_, 0, 0, 0, 0) :: []
def bl_X1_lookAtPing_34 : List ax_R := (34, .iload_n 1, 0, 0, 0, 0) :: (35, .iconst 4, 0, 0, 0, 0) :: (36, .if_icmp .ge 24, 60, 0, 0, 0) :: (39, .aload_n 0, 0, 0, 0, 0) :: (40, .getfield 28, 3, 3, 1, 414) :: (43, .aload_n 0, 0, 0, 0, 0) :: (44, .getfield 12, 3, 1, 1, 412) :: (47, .iload_n 1, 0, 0, 0, 0) ::
  (48, .invokevirtual 305, 51, 2, 5, 634) :: (51, .invokevirtual 93, 68, 2, 7, 410) :: (54, .iinc 1 1, 0, 0, 0, 0) :: (57, .goto (-23), 34, 0, 0, 0) :: bl_X1_lookAtPing_60
def bl_X1_lookAtPing_20 : List ax_R := (20, .aload_n 0, 0, 0, 0, 0) :: (21, .getfield 28, 3, 3, 1, 414) :: (24, .iconst 4, 0, 0, 0, 0) :: (25, .bipush 6, 0, 0, 0, 0) :: (27, .iconst 1, 0, 0, 0, 0) :: (28, .iconst 0, 0, 0, 0, 0) :: (29, .invokevirtual 89, 69, 5, 7, 402) :: (32, .iconst 0, 0, 0, 0, 0) ::
  (33, .istore_n 1, 0, 0, 0, 0) :: bl_X1_lookAtPing_34
def bl_X1_lookAtPing_19 : List ax_R := (19, .return_, 0, 0, 0, 0) :: bl_X1_lookAtPing_20
def bl_X1_lookAtPing_0 : List ax_R := (0, .aload_n 0, 0, 0, 0, 0) :: (1, .iconst 4, 0, 0, 0, 0) :: (2, .invokevirtual 149, 29, 2, 3, 643) :: (5, .ifCond .eq 14, 19, 0, 0, 0) :: (8, .aload_n 0, 0, 0, 0, 0) :: (9, .getfield 12, 3, 1, 1, 412) :: (12, .iconst 1, 0, 0, 0, 0) :: (13, .invokevirtual 159, 49, 2, 5, 515) ::
  (16, .ifCond .eq 4, 20, 0, 0, 0) :: bl_X1_lookAtPing_19
def pr_X1_lookAtPing : List ax_R := bl_X1_lookAtPing_0
def pt_X1_lookAtPing : ax_T := ((⟨"PageServer$Connection", "lookAtPing", "()V"⟩, prog_3_method_18_code, 2, none), 642, 84, 641, 15)
def bl_X1_demandConnectionFrame_36 : List ax_R := (36, .iconst 1, 0, 0, 0, 0) :: (37, .ireturn, 0, 0, 0, 0) :: []
def bl_X1_demandConnectionFrame_17 : List ax_R := (17, .aload_n 0, 0, 0, 0, 0) :: (18, .getfield 12, 3, 1, 1, 412) :: (21, .invokevirtual 176, 47, 1, 5, 543) :: (24, .iload_n 1, 0, 0, 0, 0) :: (25, .if_icmp .eq 11, 36, 0, 0, 0) :: (28, .aload_n 0, 0, 0, 0, 0) :: (29, .bipush 6, 0, 0, 0, 0) :: (31, .invokevirtual 109, 37, 2, 3, 483) ::
  (34, .iconst 0, 0, 0, 0, 0) :: (35, .ireturn, 0, 0, 0, 0) :: bl_X1_demandConnectionFrame_36
def bl_X1_demandConnectionFrame_0 : List ax_R := (0, .aload_n 0, 0, 0, 0, 0) :: (1, .getfield 12, 3, 1, 1, 412) :: (4, .invokevirtual 165, 50, 1, 5, 519) :: (7, .ifCond .eq 10, 17, 0, 0, 0) :: (10, .aload_n 0, 0, 0, 0, 0) :: (11, .iconst 1, 0, 0, 0, 0) :: (12, .invokevirtual 109, 37, 2, 3, 483) :: (15, .iconst 0, 0, 0, 0, 0) ::
  (16, .ireturn, 0, 0, 0, 0) :: bl_X1_demandConnectionFrame_17
def pr_X1_demandConnectionFrame : List ax_R := bl_X1_demandConnectionFrame_0
def pt_X1_demandConnectionFrame : ax_T := ((⟨"PageServer$Connection", "demandConnectionFrame", "(I)Z"⟩, prog_3_method_19_code, 2, (some .boolean)), 646, 84, 645, 16)
def bl_X1_lookAtWindow_80 : List ax_R := (80, .return_, 0, 0, 0, 0) :: []
def bl_X1_lookAtWindow_61 : List ax_R := (61, .aload_n 0, 0, 0, 0, 0) :: (62, .getfield 51, 3, 6, 1, 420) :: (65, .iload_n 1, 0, 0, 0, 0) :: (66, .invokevirtual 183, 91, 2, 12, 548) :: (69, .astore_n 3, 0, 0, 0, 0) :: (70, .aload_n 3, 0, 0, 0, 0) :: (71, .ifnull 9, 80, 0, 0, 0) :: (74, .aload_n 0, 0, 0, 0, 0) ::
  (75, .aload_n 3, 0, 0, 0, 0) :: (76, .iload_n 2, 0, 0, 0, 0) :: (77, .invokevirtual 318, 32, 3, 3, 659) :: bl_X1_lookAtWindow_80
def bl_X1_lookAtWindow_43 : List ax_R := (43, .aload_n 0, 0, 0, 0, 0) :: (44, .getfield 12, 3, 1, 1, 412) :: (47, .invokevirtual 312, 52, 1, 5, 651) :: (50, .istore_n 2, 0, 0, 0, 0) :: (51, .iload_n 1, 0, 0, 0, 0) :: (52, .ifCond .ne 9, 61, 0, 0, 0) :: (55, .aload_n 0, 0, 0, 0, 0) :: (56, .iload_n 2, 0, 0, 0, 0) ::
  (57, .invokevirtual 315, 31, 2, 3, 655) :: (60, .return_, 0, 0, 0, 0) :: bl_X1_lookAtWindow_61
def bl_X1_lookAtWindow_26 : List ax_R := (26, .aload_n 0, 0, 0, 0, 0) :: (27, .getfield 51, 3, 6, 1, 420) :: (30, .iload_n 1, 0, 0, 0, 0) :: (31, .invokevirtual 170, 90, 2, 12, 527) :: (34, .ifCond .eq 9, 43, 0, 0, 0) :: (37, .aload_n 0, 0, 0, 0, 0) :: (38, .iconst 1, 0, 0, 0, 0) :: (39, .invokevirtual 109, 37, 2, 3, 483) ::
  (42, .return_, 0, 0, 0, 0) :: bl_X1_lookAtWindow_43
def bl_X1_lookAtWindow_0 : List ax_R := (0, .aload_n 0, 0, 0, 0, 0) :: (1, .getfield 12, 3, 1, 1, 412) :: (4, .invokevirtual 165, 50, 1, 5, 519) :: (7, .istore_n 1, 0, 0, 0, 0) :: (8, .aload_n 0, 0, 0, 0, 0) :: (9, .getfield 12, 3, 1, 1, 412) :: (12, .invokevirtual 176, 47, 1, 5, 543) :: (15, .iconst 2, 0, 0, 0, 0) ::
  (16, .if_icmp .eq 10, 26, 0, 0, 0) :: (19, .aload_n 0, 0, 0, 0, 0) :: (20, .bipush 6, 0, 0, 0, 0) :: (22, .invokevirtual 109, 37, 2, 3, 483) :: (25, .return_, 0, 0, 0, 0) :: bl_X1_lookAtWindow_26
def pr_X1_lookAtWindow : List ax_R := bl_X1_lookAtWindow_0
def pt_X1_lookAtWindow : ax_T := ((⟨"PageServer$Connection", "lookAtWindow", "()V"⟩, prog_3_method_20_code, 4, none), 650, 84, 649, 17)
def bl_X1_widenConnection_42 : List ax_R := (42, .return_, 0, 0, 0, 0) :: []
def bl_X1_widenConnection_32 : List ax_R := (32, .aload_n 0, 0, 0, 0, 0) :: (33, .dup, 0, 0, 0, 0) :: (34, .getfield 83, 3, 11, 0, 427) :: (37, .iload_n 1, 0, 0, 0, 0) :: (38, .iadd, 0, 0, 0, 0) :: (39, .putfield 83, 3, 11, 0, 427) :: bl_X1_widenConnection_42
def bl_X1_widenConnection_12 : List ax_R := (12, .aload_n 0, 0, 0, 0, 0) :: (13, .getfield 83, 3, 11, 0, 427) :: (16, .iload_n 1, 0, 0, 0, 0) :: (17, .iadd, 0, 0, 0, 0) :: (18, .sipush 30000, 0, 0, 0, 0) :: (21, .if_icmp .le 11, 32, 0, 0, 0) :: (24, .aload_n 0, 0, 0, 0, 0) :: (25, .iconst 3, 0, 0, 0, 0) ::
  (26, .invokevirtual 109, 37, 2, 3, 483) :: (29, .goto 13, 42, 0, 0, 0) :: bl_X1_widenConnection_32
def bl_X1_widenConnection_0 : List ax_R := (0, .iload_n 1, 0, 0, 0, 0) :: (1, .ifCond .ne 11, 12, 0, 0, 0) :: (4, .aload_n 0, 0, 0, 0, 0) :: (5, .iconst 1, 0, 0, 0, 0) :: (6, .invokevirtual 109, 37, 2, 3, 483) :: (9, .goto 33, 42, 0, 0, 0) :: bl_X1_widenConnection_12
def pr_X1_widenConnection : List ax_R := bl_X1_widenConnection_0
def pt_X1_widenConnection : ax_T := ((⟨"PageServer$Connection", "widenConnection", "(I)V"⟩, prog_3_method_21_code, 2, none), 658, 84, 657, 18)
def bl_X1_widenStream_50 : List ax_R := (50, .return_, 0, 0, 0, 0) :: []
def bl_X1_widenStream_40 : List ax_R := (40, .aload_n 1, 0, 0, 0, 0) :: (41, .dup, 0, 0, 0, 0) :: (42, .getfield 322, 11, 2, 0, 328) :: (45, .iload_n 2, 0, 0, 0, 0) :: (46, .iadd, 0, 0, 0, 0) :: (47, .putfield 322, 11, 2, 0, 328) :: bl_X1_widenStream_50
def bl_X1_widenStream_16 : List ax_R := (16, .aload_n 1, 0, 0, 0, 0) :: (17, .getfield 322, 11, 2, 0, 328) :: (20, .iload_n 2, 0, 0, 0, 0) :: (21, .iadd, 0, 0, 0, 0) :: (22, .sipush 30000, 0, 0, 0, 0) :: (25, .if_icmp .le 15, 40, 0, 0, 0) :: (28, .aload_n 0, 0, 0, 0, 0) :: (29, .aload_n 1, 0, 0, 0, 0) ::
  (30, .getfield 250, 11, 1, 0, 324) :: (33, .iconst 3, 0, 0, 0, 0) :: (34, .invokevirtual 192, 36, 3, 3, 552) :: (37, .goto 13, 50, 0, 0, 0) :: bl_X1_widenStream_40
def bl_X1_widenStream_0 : List ax_R := (0, .iload_n 2, 0, 0, 0, 0) :: (1, .ifCond .ne 15, 16, 0, 0, 0) :: (4, .aload_n 0, 0, 0, 0, 0) :: (5, .aload_n 1, 0, 0, 0, 0) :: (6, .getfield 250, 11, 1, 0, 324) :: (9, .iconst 1, 0, 0, 0, 0) :: (10, .invokevirtual 192, 36, 3, 3, 552) :: (13, .goto 37, 50, 0, 0, 0) :: bl_X1_widenStream_16
def pr_X1_widenStream : List ax_R := bl_X1_widenStream_0
def pt_X1_widenStream : ax_T := ((⟨"PageServer$Connection", "widenStream", "(LPageServer$Stream;I)V"⟩, prog_3_method_22_code, 3, none), 662, 84, 661, 19)
def bl_X1_sendBodies_44 : List ax_R := (44, .return_, 0, 0, 0, 0) :: []
def bl_X1_sendBodies_33 : List ax_R := (33, .aload_n 0, 0, 0, 0, 0) :: (34, .aload_n 2, 0, 0, 0, 0) :: (35, .invokevirtual 326, 34, 2, 3, 886) :: (38, .iinc 1 1, 0, 0, 0, 0) :: (41, .goto (-39), 2, 0, 0, 0) :: bl_X1_sendBodies_44
def bl_X1_sendBodies_2 : List ax_R := (2, .iload_n 1, 0, 0, 0, 0) :: (3, .sipush 1000, 0, 0, 0, 0) :: (6, .if_icmp .ge 38, 44, 0, 0, 0) :: (9, .aload_n 0, 0, 0, 0, 0) :: (10, .getfield 83, 3, 11, 0, 427) :: (13, .ifCond .le 31, 44, 0, 0, 0) :: (16, .aload_n 0, 0, 0, 0, 0) :: (17, .getfield 51, 3, 6, 1, 420) ::
  (20, .aload_n 0, 0, 0, 0, 0) :: (21, .getfield 77, 3, 9, 0, 424) :: (24, .invokevirtual 323, 97, 2, 12, 874) :: (27, .astore_n 2, 0, 0, 0, 0) :: (28, .aload_n 2, 0, 0, 0, 0) :: (29, .ifnonnull 4, 33, 0, 0, 0) :: (32, .return_, 0, 0, 0, 0) :: bl_X1_sendBodies_33
def bl_X1_sendBodies_0 : List ax_R := (0, .iconst 0, 0, 0, 0, 0) :: (1, .istore_n 1, 0, 0, 0, 0) :: bl_X1_sendBodies_2
def pr_X1_sendBodies : List ax_R := bl_X1_sendBodies_0
def pt_X1_sendBodies : ax_T := ((⟨"PageServer$Connection", "sendBodies", "()V"⟩, prog_3_method_23_code, 3, none), 873, 84, 872, 31)
def bl_X1_sendData_135 : List ax_R := (135, .return_, 0, 0, 0, 0) :: []
def bl_X1_sendData_88 : List ax_R := (88, .aload_n 1, 0, 0, 0, 0) :: (89, .dup, 0, 0, 0, 0) :: (90, .getfield 322, 11, 2, 0, 328) :: (93, .iload_n 2, 0, 0, 0, 0) :: (94, .isub, 0, 0, 0, 0) :: (95, .putfield 322, 11, 2, 0, 328) :: (98, .aload_n 0, 0, 0, 0, 0) :: (99, .dup, 0, 0, 0, 0) ::
  (100, .getfield 83, 3, 11, 0, 427) :: (103, .iload_n 2, 0, 0, 0, 0) :: (104, .isub, 0, 0, 0, 0) :: (105, .putfield 83, 3, 11, 0, 427) :: (108, .aload_n 1, 0, 0, 0, 0) :: (109, .dup, 0, 0, 0, 0) :: (110, .getfield 292, 11, 3, 0, 331) :: (113, .iload_n 2, 0, 0, 0, 0) ::
  (114, .isub, 0, 0, 0, 0) :: (115, .putfield 292, 11, 3, 0, 331) :: (118, .aload_n 0, 0, 0, 0, 0) :: (119, .aload_n 1, 0, 0, 0, 0) :: (120, .getfield 250, 11, 1, 0, 324) :: (123, .putfield 77, 3, 9, 0, 424) :: (126, .iload_n 3, 0, 0, 0, 0) :: (127, .ifCond .eq 8, 135, 0, 0, 0) ::
  (130, .aload_n 1, 0, 0, 0, 0) :: (131, .iconst 0, 0, 0, 0, 0) :: (132, .putfield 289, 11, 0, 0, 321) :: bl_X1_sendData_135
def bl_X1_sendData_65 : List ax_R := (65, .iload 4, 0, 0, 0, 0) :: (67, .iload_n 2, 0, 0, 0, 0) :: (68, .if_icmp .ge 20, 88, 0, 0, 0) :: (71, .aload_n 0, 0, 0, 0, 0) :: (72, .getfield 28, 3, 3, 1, 414) :: (75, .aload_n 1, 0, 0, 0, 0) :: (76, .getfield 298, 11, 4, 0, 333) :: (79, .invokevirtual 93, 68, 2, 7, 410) ::
  (82, .iinc 4 1, 0, 0, 0, 0) :: (85, .goto (-20), 65, 0, 0, 0) :: bl_X1_sendData_88
def bl_X1_sendData_55 : List ax_R := (55, .aload_n 1, 0, 0, 0, 0) :: (56, .getfield 250, 11, 1, 0, 324) :: (59, .invokevirtual 89, 69, 5, 7, 402) :: (62, .iconst 0, 0, 0, 0, 0) :: (63, .istore 4, 0, 0, 0, 0) :: bl_X1_sendData_65
def bl_X1_sendData_54 : List ax_R := (54, .iconst 0, 0, 0, 0, 0) :: bl_X1_sendData_55
def bl_X1_sendData_39 : List ax_R := (39, .istore_n 3, 0, 0, 0, 0) :: (40, .aload_n 0, 0, 0, 0, 0) :: (41, .getfield 28, 3, 3, 1, 414) :: (44, .iload_n 2, 0, 0, 0, 0) :: (45, .iconst 0, 0, 0, 0, 0) :: (46, .iload_n 3, 0, 0, 0, 0) :: (47, .ifCond .eq 7, 54, 0, 0, 0) :: (50, .iconst 1, 0, 0, 0, 0) ::
  (51, .goto 4, 55, 0, 0, 0) :: bl_X1_sendData_54
def bl_X1_sendData_38 : List ax_R := (38, .iconst 0, 0, 0, 0, 0) :: bl_X1_sendData_39
def bl_X1_sendData_0 : List ax_R := (0, .aload_n 1, 0, 0, 0, 0) :: (1, .getfield 322, 11, 2, 0, 328) :: (4, .aload_n 0, 0, 0, 0, 0) :: (5, .getfield 83, 3, 11, 0, 427) :: (8, .invokestatic 329, 0, 0, 7, 890) :: (11, .aload_n 0, 0, 0, 0, 0) :: (12, .getfield 86, 3, 12, 0, 429) :: (15, .aload_n 1, 0, 0, 0, 0) ::
  (16, .getfield 292, 11, 3, 0, 331) :: (19, .invokestatic 329, 0, 0, 7, 890) :: (22, .invokestatic 329, 0, 0, 7, 890) :: (25, .istore_n 2, 0, 0, 0, 0) :: (26, .iload_n 2, 0, 0, 0, 0) :: (27, .aload_n 1, 0, 0, 0, 0) :: (28, .getfield 292, 11, 3, 0, 331) :: (31, .if_icmp .ne 7, 38, 0, 0, 0) ::
  (34, .iconst 1, 0, 0, 0, 0) :: (35, .goto 4, 39, 0, 0, 0) :: bl_X1_sendData_38
def pr_X1_sendData : List ax_R := bl_X1_sendData_0
def pt_X1_sendData : ax_T := ((⟨"PageServer$Connection", "sendData", "(LPageServer$Stream;)V"⟩, prog_3_method_24_code, 5, none), 889, 84, 888, 33)
def bl_X1_sendWindow_40 : List ax_R := (40, .return_, 0, 0, 0, 0) :: []
def bl_X1_sendWindow_0 : List ax_R := (0, .iload_n 2, 0, 0, 0, 0) :: (1, .ifCond .le 39, 40, 0, 0, 0) :: (4, .aload_n 0, 0, 0, 0, 0) :: (5, .getfield 28, 3, 3, 1, 414) :: (8, .iconst 2, 0, 0, 0, 0) :: (9, .bipush 8, 0, 0, 0, 0) :: (11, .iconst 0, 0, 0, 0, 0) :: (12, .iload_n 1, 0, 0, 0, 0) ::
  (13, .invokevirtual 89, 69, 5, 7, 402) :: (16, .aload_n 0, 0, 0, 0, 0) :: (17, .getfield 28, 3, 3, 1, 414) :: (20, .iload_n 2, 0, 0, 0, 0) :: (21, .sipush 256, 0, 0, 0, 0) :: (24, .idiv, 0, 0, 0, 0) :: (25, .invokevirtual 93, 68, 2, 7, 410) :: (28, .aload_n 0, 0, 0, 0, 0) ::
  (29, .getfield 28, 3, 3, 1, 414) :: (32, .iload_n 2, 0, 0, 0, 0) :: (33, .sipush 256, 0, 0, 0, 0) :: (36, .irem, 0, 0, 0, 0) :: (37, .invokevirtual 93, 68, 2, 7, 410) :: bl_X1_sendWindow_40
def pr_X1_sendWindow : List ax_R := bl_X1_sendWindow_0
def pt_X1_sendWindow : ax_T := ((⟨"PageServer$Connection", "sendWindow", "(II)V"⟩, prog_3_method_25_code, 3, none), 547, 84, 546, 6)
def bl_X1_sendReset_0 : List ax_R := (0, .aload_n 0, 0, 0, 0, 0) :: (1, .getfield 28, 3, 3, 1, 414) :: (4, .iconst 1, 0, 0, 0, 0) :: (5, .iconst 3, 0, 0, 0, 0) :: (6, .iconst 0, 0, 0, 0, 0) :: (7, .iload_n 1, 0, 0, 0, 0) :: (8, .invokevirtual 89, 69, 5, 7, 402) :: (11, .aload_n 0, 0, 0, 0, 0) ::
  (12, .getfield 28, 3, 3, 1, 414) :: (15, .iload_n 2, 0, 0, 0, 0) :: (16, .invokevirtual 93, 68, 2, 7, 410) :: (19, .aload_n 0, 0, 0, 0, 0) :: (20, .getfield 51, 3, 6, 1, 420) :: (23, .iload_n 1, 0, 0, 0, 0) :: (24, .invokevirtual 299, 94, 2, 12, 556) :: (27, .return_, 0, 0, 0, 0) :: []
def pr_X1_sendReset : List ax_R := bl_X1_sendReset_0
def pt_X1_sendReset : ax_T := ((⟨"PageServer$Connection", "sendReset", "(II)V"⟩, prog_3_method_26_code, 3, none), 555, 84, 554, 7)
def bl_X1_sendAway_0 : List ax_R := (0, .aload_n 0, 0, 0, 0, 0) :: (1, .iload_n 1, 0, 0, 0, 0) :: (2, .putfield 80, 3, 10, 0, 425) :: (5, .aload_n 0, 0, 0, 0, 0) :: (6, .getfield 28, 3, 3, 1, 414) :: (9, .iconst 2, 0, 0, 0, 0) :: (10, .bipush 7, 0, 0, 0, 0) :: (12, .iconst 0, 0, 0, 0, 0) ::
  (13, .iconst 0, 0, 0, 0, 0) :: (14, .invokevirtual 89, 69, 5, 7, 402) :: (17, .aload_n 0, 0, 0, 0, 0) :: (18, .getfield 28, 3, 3, 1, 414) :: (21, .aload_n 0, 0, 0, 0, 0) :: (22, .getfield 51, 3, 6, 1, 420) :: (25, .getfield 205, 12, 2, 0, 369) :: (28, .invokevirtual 93, 68, 2, 7, 410) ::
  (31, .aload_n 0, 0, 0, 0, 0) :: (32, .getfield 28, 3, 3, 1, 414) :: (35, .iload_n 1, 0, 0, 0, 0) :: (36, .invokevirtual 93, 68, 2, 7, 410) :: (39, .return_, 0, 0, 0, 0) :: []
def pr_X1_sendAway : List ax_R := bl_X1_sendAway_0
def pt_X1_sendAway : ax_T := ((⟨"PageServer$Connection", "sendAway", "(I)V"⟩, prog_3_method_27_code, 2, none), 486, 84, 485, 1)
def bl_X2_init_0 : List ax_R := (0, .aload_n 0, 0, 0, 0, 0) :: (1, .invokespecial 3, 0, 0, 5, 204) :: (4, .aload_n 0, 0, 0, 0, 0) :: (5, .aload_n 1, 0, 0, 0, 0) :: (6, .putfield 9, 4, 0, 1, 215) :: (9, .aload_n 0, 0, 0, 0, 0) :: (10, .aload_n 2, 0, 0, 0, 0) :: (11, .putfield 15, 4, 1, 1, 219) ::
  (14, .aload_n 0, 0, 0, 0, 0) :: (15, .iconst 2, 0, 0, 0, 0) :: (16, .aload_n 1, 0, 0, 0, 0) :: (17, .invokevirtual 18, 176, 1, 0, 205) :: (20, .iadd, 0, 0, 0, 0) :: (21, .aload_n 2, 0, 0, 0, 0) :: (22, .invokevirtual 18, 176, 1, 0, 205) :: (25, .iadd, 0, 0, 0, 0) ::
  (26, .putfield 24, 4, 2, 0, 222) :: (29, .return_, 0, 0, 0, 0) :: []
def pr_X2_init : List ax_R := bl_X2_init_0
def pt_X2_init : ax_T := ((⟨"PageServer$Field", "<init>", "(Ljava/lang/String;Ljava/lang/String;)V"⟩, prog_4_method_1_code, 3, none), 203, 89, 202, 0)
def bl_X2_beginsWithColon_28 : List ax_R := (28, .ireturn, 0, 0, 0, 0) :: []
def bl_X2_beginsWithColon_27 : List ax_R := (27, .iconst 0, 0, 0, 0, 0) :: bl_X2_beginsWithColon_28
def bl_X2_beginsWithColon_0 : List ax_R := (0, .aload_n 0, 0, 0, 0, 0) :: (1, .getfield 9, 4, 0, 1, 215) :: (4, .invokevirtual 28, 177, 1, 0, 808) :: (7, .ifCond .ne 20, 27, 0, 0, 0) :: (10, .aload_n 0, 0, 0, 0, 0) :: (11, .getfield 9, 4, 0, 1, 215) :: (14, .iconst 0, 0, 0, 0, 0) :: (15, .invokevirtual 32, 178, 2, 0, 812) ::
  (18, .bipush 58, 0, 0, 0, 0) :: (20, .if_icmp .ne 7, 27, 0, 0, 0) :: (23, .iconst 1, 0, 0, 0, 0) :: (24, .goto 4, 28, 0, 0, 0) :: bl_X2_beginsWithColon_27
def pr_X2_beginsWithColon : List ax_R := bl_X2_beginsWithColon_0
def pt_X2_beginsWithColon : ax_T := ((⟨"PageServer$Field", "beginsWithColon", "()Z"⟩, prog_4_method_2_code, 1, (some .boolean)), 807, 89, 805, 806)
def bl_X2_isNamedByLetters_47 : List ax_R := (47, .iconst 1, 0, 0, 0, 0) :: (48, .ireturn, 0, 0, 0, 0) :: []
def bl_X2_isNamedByLetters_41 : List ax_R := (41, .iinc 1 1, 0, 0, 0, 0) :: (44, .goto (-42), 2, 0, 0, 0) :: bl_X2_isNamedByLetters_47
def bl_X2_isNamedByLetters_39 : List ax_R := (39, .iconst 0, 0, 0, 0, 0) :: (40, .ireturn, 0, 0, 0, 0) :: bl_X2_isNamedByLetters_41
def bl_X2_isNamedByLetters_2 : List ax_R := (2, .iload_n 1, 0, 0, 0, 0) :: (3, .aload_n 0, 0, 0, 0, 0) :: (4, .getfield 9, 4, 0, 1, 215) :: (7, .invokevirtual 18, 176, 1, 0, 205) :: (10, .if_icmp .ge 37, 47, 0, 0, 0) :: (13, .aload_n 0, 0, 0, 0, 0) :: (14, .getfield 9, 4, 0, 1, 215) :: (17, .iload_n 1, 0, 0, 0, 0) ::
  (18, .invokevirtual 32, 178, 2, 0, 812) :: (21, .bipush 97, 0, 0, 0, 0) :: (23, .if_icmp .lt 16, 39, 0, 0, 0) :: (26, .aload_n 0, 0, 0, 0, 0) :: (27, .getfield 9, 4, 0, 1, 215) :: (30, .iload_n 1, 0, 0, 0, 0) :: (31, .invokevirtual 32, 178, 2, 0, 812) :: (34, .bipush 122, 0, 0, 0, 0) ::
  (36, .if_icmp .le 5, 41, 0, 0, 0) :: bl_X2_isNamedByLetters_39
def bl_X2_isNamedByLetters_0 : List ax_R := (0, .iconst 0, 0, 0, 0, 0) :: (1, .istore_n 1, 0, 0, 0, 0) :: bl_X2_isNamedByLetters_2
def pr_X2_isNamedByLetters : List ax_R := bl_X2_isNamedByLetters_0
def pt_X2_isNamedByLetters : ax_T := ((⟨"PageServer$Field", "isNamedByLetters", "()Z"⟩, prog_4_method_3_code, 2, (some .boolean)), 850, 89, 848, 849)
def bl_X2_numberValue_77 : List ax_R := (77, .iload_n 1, 0, 0, 0, 0) :: (78, .ireturn, 0, 0, 0, 0) :: []
def bl_X2_numberValue_61 : List ax_R := (61, .iload_n 1, 0, 0, 0, 0) :: (62, .bipush 10, 0, 0, 0, 0) :: (64, .imul, 0, 0, 0, 0) :: (65, .iload_n 3, 0, 0, 0, 0) :: (66, .bipush 48, 0, 0, 0, 0) :: (68, .isub, 0, 0, 0, 0) :: (69, .iadd, 0, 0, 0, 0) :: (70, .istore_n 1, 0, 0, 0, 0) ::
  (71, .iinc 2 1, 0, 0, 0, 0) :: (74, .goto (-47), 27, 0, 0, 0) :: bl_X2_numberValue_77
def bl_X2_numberValue_59 : List ax_R := (59, .iconst (-1), 0, 0, 0, 0) :: (60, .ireturn, 0, 0, 0, 0) :: bl_X2_numberValue_61
def bl_X2_numberValue_27 : List ax_R := (27, .iload_n 2, 0, 0, 0, 0) :: (28, .aload_n 0, 0, 0, 0, 0) :: (29, .getfield 15, 4, 1, 1, 219) :: (32, .invokevirtual 18, 176, 1, 0, 205) :: (35, .if_icmp .ge 42, 77, 0, 0, 0) :: (38, .aload_n 0, 0, 0, 0, 0) :: (39, .getfield 15, 4, 1, 1, 219) :: (42, .iload_n 2, 0, 0, 0, 0) ::
  (43, .invokevirtual 32, 178, 2, 0, 812) :: (46, .istore_n 3, 0, 0, 0, 0) :: (47, .iload_n 3, 0, 0, 0, 0) :: (48, .bipush 48, 0, 0, 0, 0) :: (50, .if_icmp .lt 9, 59, 0, 0, 0) :: (53, .iload_n 3, 0, 0, 0, 0) :: (54, .bipush 57, 0, 0, 0, 0) :: (56, .if_icmp .le 5, 61, 0, 0, 0) :: bl_X2_numberValue_59
def bl_X2_numberValue_23 : List ax_R := (23, .iconst 0, 0, 0, 0, 0) :: (24, .istore_n 1, 0, 0, 0, 0) :: (25, .iconst 0, 0, 0, 0, 0) :: (26, .istore_n 2, 0, 0, 0, 0) :: bl_X2_numberValue_27
def bl_X2_numberValue_21 : List ax_R := (21, .iconst (-1), 0, 0, 0, 0) :: (22, .ireturn, 0, 0, 0, 0) :: bl_X2_numberValue_23
def bl_X2_numberValue_0 : List ax_R := (0, .aload_n 0, 0, 0, 0, 0) :: (1, .getfield 15, 4, 1, 1, 219) :: (4, .invokevirtual 28, 177, 1, 0, 808) :: (7, .ifCond .ne 14, 21, 0, 0, 0) :: (10, .aload_n 0, 0, 0, 0, 0) :: (11, .getfield 15, 4, 1, 1, 219) :: (14, .invokevirtual 18, 176, 1, 0, 205) :: (17, .iconst 3, 0, 0, 0, 0) ::
  (18, .if_icmp .le 5, 23, 0, 0, 0) :: bl_X2_numberValue_21
def pr_X2_numberValue : List ax_R := bl_X2_numberValue_0
def pt_X2_numberValue : ax_T := ((⟨"PageServer$Field", "numberValue", "()I"⟩, prog_4_method_4_code, 4, (some .int)), 855, 89, 853, 854)
def bl_X3_init_0 : List ax_R := (0, .aload_n 0, 0, 0, 0, 0) :: (1, .invokespecial 3, 0, 0, 5, 146) :: (4, .aload_n 0, 0, 0, 0, 0) :: (5, .sipush 204, 0, 0, 0, 0) :: (8, .newarray .int, 100, 0, 0, 154) :: (10, .putfield 11, 5, 0, 1, 147) :: (13, .return_, 0, 0, 0, 0) :: []
def pr_X3_init : List ax_R := bl_X3_init_0
def pt_X3_init : ax_T := ((⟨"PageServer$Frame", "<init>", "()V"⟩, prog_5_method_1_code, 1, none), 145, 85, 144, 0)
def bl_X3_clear_0 : List ax_R := (0, .aload_n 0, 0, 0, 0, 0) :: (1, .iconst 0, 0, 0, 0, 0) :: (2, .putfield 15, 5, 1, 0, 148) :: (5, .return_, 0, 0, 0, 0) :: []
def pr_X3_clear : List ax_R := bl_X3_clear_0
def pt_X3_clear : ax_T := ((⟨"PageServer$Frame", "clear", "()V"⟩, prog_5_method_2_code, 1, none), 385, 85, 383, 384)
def bl_X3_add_32 : List ax_R := (32, .return_, 0, 0, 0, 0) :: []
def bl_X3_add_0 : List ax_R := (0, .aload_n 0, 0, 0, 0, 0) :: (1, .getfield 15, 5, 1, 0, 148) :: (4, .aload_n 0, 0, 0, 0, 0) :: (5, .getfield 11, 5, 0, 1, 147) :: (8, .arraylength, 0, 0, 0, 0) :: (9, .if_icmp .ge 23, 32, 0, 0, 0) :: (12, .aload_n 0, 0, 0, 0, 0) :: (13, .getfield 11, 5, 0, 1, 147) ::
  (16, .aload_n 0, 0, 0, 0, 0) :: (17, .getfield 15, 5, 1, 0, 148) :: (20, .iload_n 1, 0, 0, 0, 0) :: (21, .iastore, 0, 0, 0, 0) :: (22, .aload_n 0, 0, 0, 0, 0) :: (23, .dup, 0, 0, 0, 0) :: (24, .getfield 15, 5, 1, 0, 148) :: (27, .iconst 1, 0, 0, 0, 0) ::
  (28, .iadd, 0, 0, 0, 0) :: (29, .putfield 15, 5, 1, 0, 148) :: bl_X3_add_32
def pr_X3_add : List ax_R := bl_X3_add_0
def pt_X3_add : ax_T := ((⟨"PageServer$Frame", "add", "(I)V"⟩, prog_5_method_3_code, 2, none), 490, 85, 488, 489)
def bl_X3_isTooLong_23 : List ax_R := (23, .ireturn, 0, 0, 0, 0) :: []
def bl_X3_isTooLong_22 : List ax_R := (22, .iconst 0, 0, 0, 0, 0) :: bl_X3_isTooLong_23
def bl_X3_isTooLong_0 : List ax_R := (0, .aload_n 0, 0, 0, 0, 0) :: (1, .getfield 15, 5, 1, 0, 148) :: (4, .iconst 4, 0, 0, 0, 0) :: (5, .if_icmp .lt 17, 22, 0, 0, 0) :: (8, .aload_n 0, 0, 0, 0, 0) :: (9, .invokevirtual 19, 47, 1, 5, 495) :: (12, .sipush 200, 0, 0, 0, 0) :: (15, .if_icmp .le 7, 22, 0, 0, 0) ::
  (18, .iconst 1, 0, 0, 0, 0) :: (19, .goto 4, 23, 0, 0, 0) :: bl_X3_isTooLong_22
def pr_X3_isTooLong : List ax_R := bl_X3_isTooLong_0
def pt_X3_isTooLong : ax_T := ((⟨"PageServer$Frame", "isTooLong", "()Z"⟩, prog_5_method_4_code, 1, (some .boolean)), 494, 85, 492, 493)
def bl_X3_isWhole_26 : List ax_R := (26, .ireturn, 0, 0, 0, 0) :: []
def bl_X3_isWhole_25 : List ax_R := (25, .iconst 0, 0, 0, 0, 0) :: bl_X3_isWhole_26
def bl_X3_isWhole_0 : List ax_R := (0, .aload_n 0, 0, 0, 0, 0) :: (1, .getfield 15, 5, 1, 0, 148) :: (4, .iconst 4, 0, 0, 0, 0) :: (5, .if_icmp .lt 20, 25, 0, 0, 0) :: (8, .aload_n 0, 0, 0, 0, 0) :: (9, .getfield 15, 5, 1, 0, 148) :: (12, .iconst 4, 0, 0, 0, 0) :: (13, .aload_n 0, 0, 0, 0, 0) ::
  (14, .invokevirtual 19, 47, 1, 5, 495) :: (17, .iadd, 0, 0, 0, 0) :: (18, .if_icmp .lt 7, 25, 0, 0, 0) :: (21, .iconst 1, 0, 0, 0, 0) :: (22, .goto 4, 26, 0, 0, 0) :: bl_X3_isWhole_25
def pr_X3_isWhole : List ax_R := bl_X3_isWhole_0
def pt_X3_isWhole : ax_T := ((⟨"PageServer$Frame", "isWhole", "()Z"⟩, prog_5_method_5_code, 1, (some .boolean)), 502, 85, 500, 501)
def bl_X3_length_0 : List ax_R := (0, .aload_n 0, 0, 0, 0, 0) :: (1, .getfield 11, 5, 0, 1, 147) :: (4, .iconst 0, 0, 0, 0, 0) :: (5, .iaload, 0, 0, 0, 0) :: (6, .ireturn, 0, 0, 0, 0) :: []
def pr_X3_length : List ax_R := bl_X3_length_0
def pt_X3_length : ax_T := ((⟨"PageServer$Frame", "length", "()I"⟩, prog_5_method_6_code, 1, (some .int)), 498, 85, 496, 497)
def bl_X3_type_0 : List ax_R := (0, .aload_n 0, 0, 0, 0, 0) :: (1, .getfield 11, 5, 0, 1, 147) :: (4, .iconst 1, 0, 0, 0, 0) :: (5, .iaload, 0, 0, 0, 0) :: (6, .ireturn, 0, 0, 0, 0) :: []
def pr_X3_type : List ax_R := bl_X3_type_0
def pt_X3_type : ax_T := ((⟨"PageServer$Frame", "type", "()I"⟩, prog_5_method_7_code, 1, (some .int)), 514, 85, 512, 513)
def bl_X3_has_16 : List ax_R := (16, .ireturn, 0, 0, 0, 0) :: []
def bl_X3_has_15 : List ax_R := (15, .iconst 0, 0, 0, 0, 0) :: bl_X3_has_16
def bl_X3_has_0 : List ax_R := (0, .aload_n 0, 0, 0, 0, 0) :: (1, .getfield 11, 5, 0, 1, 147) :: (4, .iconst 2, 0, 0, 0, 0) :: (5, .iaload, 0, 0, 0, 0) :: (6, .iload_n 1, 0, 0, 0, 0) :: (7, .iand, 0, 0, 0, 0) :: (8, .ifCond .eq 7, 15, 0, 0, 0) :: (11, .iconst 1, 0, 0, 0, 0) ::
  (12, .goto 4, 16, 0, 0, 0) :: bl_X3_has_15
def pr_X3_has : List ax_R := bl_X3_has_0
def pt_X3_has : ax_T := ((⟨"PageServer$Frame", "has", "(I)Z"⟩, prog_5_method_8_code, 2, (some .boolean)), 518, 85, 516, 517)
def bl_X3_streamNumber_0 : List ax_R := (0, .aload_n 0, 0, 0, 0, 0) :: (1, .getfield 11, 5, 0, 1, 147) :: (4, .iconst 3, 0, 0, 0, 0) :: (5, .iaload, 0, 0, 0, 0) :: (6, .ireturn, 0, 0, 0, 0) :: []
def pr_X3_streamNumber : List ax_R := bl_X3_streamNumber_0
def pt_X3_streamNumber : ax_T := ((⟨"PageServer$Frame", "streamNumber", "()I"⟩, prog_5_method_9_code, 1, (some .int)), 522, 85, 520, 521)
def bl_X3_byteAt_23 : List ax_R := (23, .ireturn, 0, 0, 0, 0) :: []
def bl_X3_byteAt_22 : List ax_R := (22, .iconst 0, 0, 0, 0, 0) :: bl_X3_byteAt_23
def bl_X3_byteAt_0 : List ax_R := (0, .iload_n 1, 0, 0, 0, 0) :: (1, .ifCond .lt 21, 22, 0, 0, 0) :: (4, .iload_n 1, 0, 0, 0, 0) :: (5, .sipush 200, 0, 0, 0, 0) :: (8, .if_icmp .ge 14, 22, 0, 0, 0) :: (11, .aload_n 0, 0, 0, 0, 0) :: (12, .getfield 11, 5, 0, 1, 147) :: (15, .iconst 4, 0, 0, 0, 0) ::
  (16, .iload_n 1, 0, 0, 0, 0) :: (17, .iadd, 0, 0, 0, 0) :: (18, .iaload, 0, 0, 0, 0) :: (19, .goto 4, 23, 0, 0, 0) :: bl_X3_byteAt_22
def pr_X3_byteAt : List ax_R := bl_X3_byteAt_0
def pt_X3_byteAt : ax_T := ((⟨"PageServer$Frame", "byteAt", "(I)I"⟩, prog_5_method_10_code, 2, (some .int)), 542, 85, 540, 541)
def bl_X3_twoByteNumber_0 : List ax_R := (0, .aload_n 0, 0, 0, 0, 0) :: (1, .iconst 0, 0, 0, 0, 0) :: (2, .invokevirtual 23, 51, 2, 5, 539) :: (5, .sipush 256, 0, 0, 0, 0) :: (8, .imul, 0, 0, 0, 0) :: (9, .aload_n 0, 0, 0, 0, 0) :: (10, .iconst 1, 0, 0, 0, 0) :: (11, .invokevirtual 23, 51, 2, 5, 539) ::
  (14, .iadd, 0, 0, 0, 0) :: (15, .ireturn, 0, 0, 0, 0) :: []
def pr_X3_twoByteNumber : List ax_R := bl_X3_twoByteNumber_0
def pt_X3_twoByteNumber : ax_T := ((⟨"PageServer$Frame", "twoByteNumber", "()I"⟩, prog_5_method_11_code, 1, (some .int)), 654, 85, 652, 653)
def bl_X3_isPadded_36 : List ax_R := (36, .ireturn, 0, 0, 0, 0) :: []
def bl_X3_isPadded_35 : List ax_R := (35, .iconst 0, 0, 0, 0, 0) :: bl_X3_isPadded_36
def bl_X3_isPadded_31 : List ax_R := (31, .iconst 1, 0, 0, 0, 0) :: (32, .goto 4, 36, 0, 0, 0) :: bl_X3_isPadded_35
def bl_X3_isPadded_0 : List ax_R := (0, .aload_n 0, 0, 0, 0, 0) :: (1, .getfield 11, 5, 0, 1, 147) :: (4, .iconst 2, 0, 0, 0, 0) :: (5, .iaload, 0, 0, 0, 0) :: (6, .bipush 8, 0, 0, 0, 0) :: (8, .iand, 0, 0, 0, 0) :: (9, .ifCond .eq 26, 35, 0, 0, 0) :: (12, .aload_n 0, 0, 0, 0, 0) ::
  (13, .getfield 11, 5, 0, 1, 147) :: (16, .iconst 1, 0, 0, 0, 0) :: (17, .iaload, 0, 0, 0, 0) :: (18, .ifCond .eq 13, 31, 0, 0, 0) :: (21, .aload_n 0, 0, 0, 0, 0) :: (22, .getfield 11, 5, 0, 1, 147) :: (25, .iconst 1, 0, 0, 0, 0) :: (26, .iaload, 0, 0, 0, 0) ::
  (27, .iconst 1, 0, 0, 0, 0) :: (28, .if_icmp .ne 7, 35, 0, 0, 0) :: bl_X3_isPadded_31
def pr_X3_isPadded : List ax_R := bl_X3_isPadded_0
def pt_X3_isPadded : ax_T := ((⟨"PageServer$Frame", "isPadded", "()Z"⟩, prog_5_method_12_code, 1, (some .boolean)), 538, 85, 537, 5)
def bl_X3_hasRoomForPadding_24 : List ax_R := (24, .ireturn, 0, 0, 0, 0) :: []
def bl_X3_hasRoomForPadding_23 : List ax_R := (23, .iconst 0, 0, 0, 0, 0) :: bl_X3_hasRoomForPadding_24
def bl_X3_hasRoomForPadding_19 : List ax_R := (19, .iconst 1, 0, 0, 0, 0) :: (20, .goto 4, 24, 0, 0, 0) :: bl_X3_hasRoomForPadding_23
def bl_X3_hasRoomForPadding_0 : List ax_R := (0, .aload_n 0, 0, 0, 0, 0) :: (1, .invokevirtual 27, 53, 1, 5, 535) :: (4, .ifCond .eq 15, 19, 0, 0, 0) :: (7, .aload_n 0, 0, 0, 0, 0) :: (8, .invokevirtual 19, 47, 1, 5, 495) :: (11, .aload_n 0, 0, 0, 0, 0) :: (12, .iconst 0, 0, 0, 0, 0) :: (13, .invokevirtual 23, 51, 2, 5, 539) ::
  (16, .if_icmp .le 7, 23, 0, 0, 0) :: bl_X3_hasRoomForPadding_19
def pr_X3_hasRoomForPadding : List ax_R := bl_X3_hasRoomForPadding_0
def pt_X3_hasRoomForPadding : ax_T := ((⟨"PageServer$Frame", "hasRoomForPadding", "()Z"⟩, prog_5_method_13_code, 1, (some .boolean)), 534, 85, 532, 533)
def bl_X3_contentStart_12 : List ax_R := (12, .ireturn, 0, 0, 0, 0) :: []
def bl_X3_contentStart_11 : List ax_R := (11, .iconst 0, 0, 0, 0, 0) :: bl_X3_contentStart_12
def bl_X3_contentStart_0 : List ax_R := (0, .aload_n 0, 0, 0, 0, 0) :: (1, .invokevirtual 27, 53, 1, 5, 535) :: (4, .ifCond .eq 7, 11, 0, 0, 0) :: (7, .iconst 1, 0, 0, 0, 0) :: (8, .goto 4, 12, 0, 0, 0) :: bl_X3_contentStart_11
def pr_X3_contentStart : List ax_R := bl_X3_contentStart_0
def pt_X3_contentStart : ax_T := ((⟨"PageServer$Frame", "contentStart", "()I"⟩, prog_5_method_14_code, 1, (some .int)), 620, 85, 618, 619)
def bl_X3_contentLength_30 : List ax_R := (30, .ireturn, 0, 0, 0, 0) :: []
def bl_X3_contentLength_26 : List ax_R := (26, .aload_n 0, 0, 0, 0, 0) :: (27, .invokevirtual 19, 47, 1, 5, 495) :: bl_X3_contentLength_30
def bl_X3_contentLength_0 : List ax_R := (0, .aload_n 0, 0, 0, 0, 0) :: (1, .invokevirtual 27, 53, 1, 5, 535) :: (4, .ifCond .eq 22, 26, 0, 0, 0) :: (7, .iconst 0, 0, 0, 0, 0) :: (8, .aload_n 0, 0, 0, 0, 0) :: (9, .invokevirtual 19, 47, 1, 5, 495) :: (12, .iconst 1, 0, 0, 0, 0) :: (13, .isub, 0, 0, 0, 0) ::
  (14, .aload_n 0, 0, 0, 0, 0) :: (15, .iconst 0, 0, 0, 0, 0) :: (16, .invokevirtual 23, 51, 2, 5, 539) :: (19, .isub, 0, 0, 0, 0) :: (20, .invokestatic 31, 0, 0, 6, 565) :: (23, .goto 7, 30, 0, 0, 0) :: bl_X3_contentLength_26
def pr_X3_contentLength : List ax_R := bl_X3_contentLength_0
def pt_X3_contentLength : ax_T := ((⟨"PageServer$Frame", "contentLength", "()I"⟩, prog_5_method_15_code, 1, (some .int)), 564, 85, 562, 563)
def bl_X4_init_0 : List ax_R := (0, .aload_n 0, 0, 0, 0, 0) :: (1, .invokespecial 3, 0, 0, 5, 195) :: (4, .aload_n 0, 0, 0, 0, 0) :: (5, .bipush 7, 0, 0, 0, 0) :: (7, .anewarray 9, 114, 0, 0, 196) :: (10, .putfield 11, 6, 0, 1, 241) :: (13, .aload_n 0, 0, 0, 0, 0) :: (14, .bipush 8, 0, 0, 0, 0) ::
  (16, .anewarray 9, 114, 0, 0, 196) :: (19, .putfield 15, 6, 1, 1, 242) :: (22, .aload_n 0, 0, 0, 0, 0) :: (23, .getfield 11, 6, 0, 1, 241) :: (26, .iconst 0, 0, 0, 0, 0) :: (27, .new 9, 4, 3, 0, 196) :: (30, .dup, 0, 0, 0, 0) :: (31, .ldc 18, 0, 3, 1, 0) ::
  (33, .ldc 20, 0, 5, 1, 1) :: (35, .invokespecial 22, 38, 3, 0, 201) :: (38, .aastore, 0, 0, 0, 0) :: (39, .aload_n 0, 0, 0, 0, 0) :: (40, .getfield 11, 6, 0, 1, 241) :: (43, .iconst 1, 0, 0, 0, 0) :: (44, .new 9, 4, 3, 0, 196) :: (47, .dup, 0, 0, 0, 0) ::
  (48, .ldc 18, 0, 3, 1, 0) :: (50, .ldc 25, 0, 7, 1, 2) :: (52, .invokespecial 22, 38, 3, 0, 201) :: (55, .aastore, 0, 0, 0, 0) :: (56, .aload_n 0, 0, 0, 0, 0) :: (57, .getfield 11, 6, 0, 1, 241) :: (60, .iconst 2, 0, 0, 0, 0) :: (61, .new 9, 4, 3, 0, 196) ::
  (64, .dup, 0, 0, 0, 0) :: (65, .ldc 27, 0, 9, 1, 3) :: (67, .ldc 29, 0, 11, 1, 4) :: (69, .invokespecial 22, 38, 3, 0, 201) :: (72, .aastore, 0, 0, 0, 0) :: (73, .aload_n 0, 0, 0, 0, 0) :: (74, .getfield 11, 6, 0, 1, 241) :: (77, .iconst 3, 0, 0, 0, 0) ::
  (78, .new 9, 4, 3, 0, 196) :: (81, .dup, 0, 0, 0, 0) :: (82, .ldc 31, 0, 13, 1, 5) :: (84, .ldc 33, 0, 15, 1, 6) :: (86, .invokespecial 22, 38, 3, 0, 201) :: (89, .aastore, 0, 0, 0, 0) :: (90, .aload_n 0, 0, 0, 0, 0) :: (91, .getfield 11, 6, 0, 1, 241) ::
  (94, .iconst 4, 0, 0, 0, 0) :: (95, .new 9, 4, 3, 0, 196) :: (98, .dup, 0, 0, 0, 0) :: (99, .ldc 35, 0, 17, 1, 7) :: (101, .ldc 33, 0, 15, 1, 6) :: (103, .invokespecial 22, 38, 3, 0, 201) :: (106, .aastore, 0, 0, 0, 0) :: (107, .aload_n 0, 0, 0, 0, 0) ::
  (108, .getfield 11, 6, 0, 1, 241) :: (111, .iconst 5, 0, 0, 0, 0) :: (112, .new 9, 4, 3, 0, 196) :: (115, .dup, 0, 0, 0, 0) :: (116, .ldc 37, 0, 19, 1, 8) :: (118, .ldc 39, 0, 21, 1, 9) :: (120, .invokespecial 22, 38, 3, 0, 201) :: (123, .aastore, 0, 0, 0, 0) ::
  (124, .aload_n 0, 0, 0, 0, 0) :: (125, .getfield 11, 6, 0, 1, 241) :: (128, .bipush 6, 0, 0, 0, 0) :: (130, .new 9, 4, 3, 0, 196) :: (133, .dup, 0, 0, 0, 0) :: (134, .ldc 37, 0, 19, 1, 8) :: (136, .ldc 41, 0, 23, 1, 10) :: (138, .invokespecial 22, 38, 3, 0, 201) ::
  (141, .aastore, 0, 0, 0, 0) :: (142, .return_, 0, 0, 0, 0) :: []
def pr_X4_init : List ax_R := bl_X4_init_0
def pt_X4_init : ax_T := ((⟨"PageServer$HeaderTable", "<init>", "()V"⟩, prog_6_method_1_code, 1, none), 194, 88, 193, 0)
def bl_X4_clear_0 : List ax_R := (0, .aload_n 0, 0, 0, 0, 0) :: (1, .bipush 24, 0, 0, 0, 0) :: (3, .putfield 43, 6, 2, 0, 243) :: (6, .aload_n 0, 0, 0, 0, 0) :: (7, .iconst 0, 0, 0, 0, 0) :: (8, .putfield 47, 6, 3, 0, 245) :: (11, .aload_n 0, 0, 0, 0, 0) :: (12, .iconst 0, 0, 0, 0, 0) ::
  (13, .putfield 50, 6, 4, 0, 247) :: (16, .return_, 0, 0, 0, 0) :: []
def pr_X4_clear : List ax_R := bl_X4_clear_0
def pt_X4_clear : ax_T := ((⟨"PageServer$HeaderTable", "clear", "()V"⟩, prog_6_method_2_code, 1, none), 393, 88, 391, 392)
def bl_X4_find_49 : List ax_R := (49, .aconst_null, 0, 0, 0, 0) :: (50, .areturn, 0, 0, 0, 0) :: []
def bl_X4_find_20 : List ax_R := (20, .iload_n 1, 0, 0, 0, 0) :: (21, .bipush 7, 0, 0, 0, 0) :: (23, .if_icmp .le 26, 49, 0, 0, 0) :: (26, .iload_n 1, 0, 0, 0, 0) :: (27, .bipush 7, 0, 0, 0, 0) :: (29, .isub, 0, 0, 0, 0) :: (30, .aload_n 0, 0, 0, 0, 0) :: (31, .getfield 47, 6, 3, 0, 245) ::
  (34, .if_icmp .gt 15, 49, 0, 0, 0) :: (37, .aload_n 0, 0, 0, 0, 0) :: (38, .getfield 15, 6, 1, 1, 242) :: (41, .iload_n 1, 0, 0, 0, 0) :: (42, .bipush 7, 0, 0, 0, 0) :: (44, .isub, 0, 0, 0, 0) :: (45, .iconst 1, 0, 0, 0, 0) :: (46, .isub, 0, 0, 0, 0) ::
  (47, .aaload, 0, 0, 0, 0) :: (48, .areturn, 0, 0, 0, 0) :: bl_X4_find_49
def bl_X4_find_0 : List ax_R := (0, .iload_n 1, 0, 0, 0, 0) :: (1, .iconst 1, 0, 0, 0, 0) :: (2, .if_icmp .lt 18, 20, 0, 0, 0) :: (5, .iload_n 1, 0, 0, 0, 0) :: (6, .bipush 7, 0, 0, 0, 0) :: (8, .if_icmp .gt 12, 20, 0, 0, 0) :: (11, .aload_n 0, 0, 0, 0, 0) :: (12, .getfield 11, 6, 0, 1, 241) ::
  (15, .iload_n 1, 0, 0, 0, 0) :: (16, .iconst 1, 0, 0, 0, 0) :: (17, .isub, 0, 0, 0, 0) :: (18, .aaload, 0, 0, 0, 0) :: (19, .areturn, 0, 0, 0, 0) :: bl_X4_find_20
def pr_X4_find : List ax_R := bl_X4_find_0
def pt_X4_find : ax_T := ((⟨"PageServer$HeaderTable", "find", "(I)LPageServer$Field;"⟩, prog_6_method_3_code, 2, (some (.object "PageServer$Field"))), 678, 88, 676, 677)
def bl_X4_findName_18 : List ax_R := (18, .areturn, 0, 0, 0, 0) :: []
def bl_X4_findName_14 : List ax_R := (14, .aload_n 2, 0, 0, 0, 0) :: (15, .getfield 57, 4, 0, 1, 217) :: bl_X4_findName_18
def bl_X4_findName_0 : List ax_R := (0, .aload_n 0, 0, 0, 0, 0) :: (1, .iload_n 1, 0, 0, 0, 0) :: (2, .invokevirtual 53, 59, 2, 6, 766) :: (5, .astore_n 2, 0, 0, 0, 0) :: (6, .aload_n 2, 0, 0, 0, 0) :: (7, .ifnonnull 7, 14, 0, 0, 0) :: (10, .aconst_null, 0, 0, 0, 0) :: (11, .goto 7, 18, 0, 0, 0) :: bl_X4_findName_14
def pr_X4_findName : List ax_R := bl_X4_findName_0
def pt_X4_findName : ax_T := ((⟨"PageServer$HeaderTable", "findName", "(I)Ljava/lang/String;"⟩, prog_6_method_4_code, 3, (some (.object "java/lang/String"))), 765, 88, 763, 764)
def bl_X4_changeSize_0 : List ax_R := (0, .aload_n 0, 0, 0, 0, 0) :: (1, .iload_n 1, 0, 0, 0, 0) :: (2, .putfield 43, 6, 2, 0, 243) :: (5, .aload_n 0, 0, 0, 0, 0) :: (6, .aload_n 0, 0, 0, 0, 0) :: (7, .getfield 43, 6, 2, 0, 243) :: (10, .invokevirtual 61, 63, 2, 6, 772) :: (13, .return_, 0, 0, 0, 0) :: []
def pr_X4_changeSize : List ax_R := bl_X4_changeSize_0
def pt_X4_changeSize : ax_T := ((⟨"PageServer$HeaderTable", "changeSize", "(I)V"⟩, prog_6_method_5_code, 2, none), 783, 88, 781, 782)
def bl_X4_insert_63 : List ax_R := (63, .aload_n 0, 0, 0, 0, 0) :: (64, .getfield 15, 6, 1, 1, 242) :: (67, .iconst 0, 0, 0, 0, 0) :: (68, .aload_n 1, 0, 0, 0, 0) :: (69, .aastore, 0, 0, 0, 0) :: (70, .aload_n 0, 0, 0, 0, 0) :: (71, .dup, 0, 0, 0, 0) :: (72, .getfield 47, 6, 3, 0, 245) ::
  (75, .iconst 1, 0, 0, 0, 0) :: (76, .iadd, 0, 0, 0, 0) :: (77, .putfield 47, 6, 3, 0, 245) :: (80, .aload_n 0, 0, 0, 0, 0) :: (81, .dup, 0, 0, 0, 0) :: (82, .getfield 50, 6, 4, 0, 247) :: (85, .aload_n 1, 0, 0, 0, 0) :: (86, .getfield 65, 4, 2, 0, 223) ::
  (89, .iadd, 0, 0, 0, 0) :: (90, .putfield 50, 6, 4, 0, 247) :: (93, .return_, 0, 0, 0, 0) :: []
def bl_X4_insert_39 : List ax_R := (39, .iload_n 2, 0, 0, 0, 0) :: (40, .ifCond .le 23, 63, 0, 0, 0) :: (43, .aload_n 0, 0, 0, 0, 0) :: (44, .getfield 15, 6, 1, 1, 242) :: (47, .iload_n 2, 0, 0, 0, 0) :: (48, .aload_n 0, 0, 0, 0, 0) :: (49, .getfield 15, 6, 1, 1, 242) :: (52, .iload_n 2, 0, 0, 0, 0) ::
  (53, .iconst 1, 0, 0, 0, 0) :: (54, .isub, 0, 0, 0, 0) :: (55, .aaload, 0, 0, 0, 0) :: (56, .aastore, 0, 0, 0, 0) :: (57, .iinc 2 (-1), 0, 0, 0, 0) :: (60, .goto (-21), 39, 0, 0, 0) :: bl_X4_insert_63
def bl_X4_insert_34 : List ax_R := (34, .aload_n 0, 0, 0, 0, 0) :: (35, .getfield 47, 6, 3, 0, 245) :: (38, .istore_n 2, 0, 0, 0, 0) :: bl_X4_insert_39
def bl_X4_insert_33 : List ax_R := (33, .return_, 0, 0, 0, 0) :: bl_X4_insert_34
def bl_X4_insert_0 : List ax_R := (0, .aload_n 0, 0, 0, 0, 0) :: (1, .aload_n 0, 0, 0, 0, 0) :: (2, .getfield 43, 6, 2, 0, 243) :: (5, .aload_n 1, 0, 0, 0, 0) :: (6, .getfield 65, 4, 2, 0, 223) :: (9, .isub, 0, 0, 0, 0) :: (10, .invokevirtual 61, 63, 2, 6, 772) :: (13, .aload_n 1, 0, 0, 0, 0) ::
  (14, .getfield 65, 4, 2, 0, 223) :: (17, .aload_n 0, 0, 0, 0, 0) :: (18, .getfield 43, 6, 2, 0, 243) :: (21, .if_icmp .gt 12, 33, 0, 0, 0) :: (24, .aload_n 0, 0, 0, 0, 0) :: (25, .getfield 47, 6, 3, 0, 245) :: (28, .bipush 8, 0, 0, 0, 0) :: (30, .if_icmp .lt 4, 34, 0, 0, 0) :: bl_X4_insert_33
def pr_X4_insert : List ax_R := bl_X4_insert_0
def pt_X4_insert : ax_T := ((⟨"PageServer$HeaderTable", "insert", "(LPageServer$Field;)V"⟩, prog_6_method_6_code, 3, none), 771, 88, 769, 770)
def bl_X4_dropOldest_49 : List ax_R := (49, .return_, 0, 0, 0, 0) :: []
def bl_X4_dropOldest_0 : List ax_R := (0, .aload_n 0, 0, 0, 0, 0) :: (1, .getfield 47, 6, 3, 0, 245) :: (4, .ifCond .le 45, 49, 0, 0, 0) :: (7, .aload_n 0, 0, 0, 0, 0) :: (8, .getfield 50, 6, 4, 0, 247) :: (11, .iload_n 1, 0, 0, 0, 0) :: (12, .if_icmp .le 37, 49, 0, 0, 0) :: (15, .aload_n 0, 0, 0, 0, 0) ::
  (16, .dup, 0, 0, 0, 0) :: (17, .getfield 47, 6, 3, 0, 245) :: (20, .iconst 1, 0, 0, 0, 0) :: (21, .isub, 0, 0, 0, 0) :: (22, .putfield 47, 6, 3, 0, 245) :: (25, .aload_n 0, 0, 0, 0, 0) :: (26, .dup, 0, 0, 0, 0) :: (27, .getfield 50, 6, 4, 0, 247) ::
  (30, .aload_n 0, 0, 0, 0, 0) :: (31, .getfield 15, 6, 1, 1, 242) :: (34, .aload_n 0, 0, 0, 0, 0) :: (35, .getfield 47, 6, 3, 0, 245) :: (38, .aaload, 0, 0, 0, 0) :: (39, .getfield 65, 4, 2, 0, 223) :: (42, .isub, 0, 0, 0, 0) :: (43, .putfield 50, 6, 4, 0, 247) ::
  (46, .goto (-46), 0, 0, 0, 0) :: bl_X4_dropOldest_49
def pr_X4_dropOldest : List ax_R := bl_X4_dropOldest_0
def pt_X4_dropOldest : ax_T := ((⟨"PageServer$HeaderTable", "dropOldest", "(I)V"⟩, prog_6_method_7_code, 2, none), 775, 88, 774, 25)
def bl_X5_init_0 : List ax_R := (0, .aload_n 0, 0, 0, 0, 0) :: (1, .invokespecial 3, 0, 0, 5, 182) :: (4, .aload_n 0, 0, 0, 0, 0) :: (5, .sipush 1024, 0, 0, 0, 0) :: (8, .newarray .int, 100, 0, 0, 154) :: (10, .putfield 11, 7, 0, 1, 183) :: (13, .return_, 0, 0, 0, 0) :: []
def pr_X5_init : List ax_R := bl_X5_init_0
def pt_X5_init : ax_T := ((⟨"PageServer$Output", "<init>", "()V"⟩, prog_7_method_1_code, 1, none), 181, 87, 180, 0)
def bl_X5_clear_0 : List ax_R := (0, .aload_n 0, 0, 0, 0, 0) :: (1, .iconst 0, 0, 0, 0, 0) :: (2, .putfield 15, 7, 1, 0, 184) :: (5, .return_, 0, 0, 0, 0) :: []
def pr_X5_clear : List ax_R := bl_X5_clear_0
def pt_X5_clear : ax_T := ((⟨"PageServer$Output", "clear", "()V"⟩, prog_7_method_2_code, 1, none), 389, 87, 387, 388)
def bl_X5_count_0 : List ax_R := (0, .aload_n 0, 0, 0, 0, 0) :: (1, .getfield 15, 7, 1, 0, 184) :: (4, .ireturn, 0, 0, 0, 0) :: []
def pr_X5_count : List ax_R := bl_X5_count_0
def pt_X5_count : ax_T := ((⟨"PageServer$Output", "count", "()I"⟩, prog_7_method_3_code, 1, (some .int)), 472, 87, 470, 471)
def bl_X5_byteAt_22 : List ax_R := (22, .ireturn, 0, 0, 0, 0) :: []
def bl_X5_byteAt_21 : List ax_R := (21, .iconst (-1), 0, 0, 0, 0) :: bl_X5_byteAt_22
def bl_X5_byteAt_0 : List ax_R := (0, .iload_n 1, 0, 0, 0, 0) :: (1, .ifCond .lt 20, 21, 0, 0, 0) :: (4, .iload_n 1, 0, 0, 0, 0) :: (5, .aload_n 0, 0, 0, 0, 0) :: (6, .getfield 15, 7, 1, 0, 184) :: (9, .if_icmp .ge 12, 21, 0, 0, 0) :: (12, .aload_n 0, 0, 0, 0, 0) :: (13, .getfield 11, 7, 0, 1, 183) ::
  (16, .iload_n 1, 0, 0, 0, 0) :: (17, .iaload, 0, 0, 0, 0) :: (18, .goto 4, 22, 0, 0, 0) :: bl_X5_byteAt_21
def pr_X5_byteAt : List ax_R := bl_X5_byteAt_0
def pt_X5_byteAt : ax_T := ((⟨"PageServer$Output", "byteAt", "(I)I"⟩, prog_7_method_4_code, 2, (some .int)), 1274, 87, 1272, 1273)
def bl_X5_add_34 : List ax_R := (34, .return_, 0, 0, 0, 0) :: []
def bl_X5_add_0 : List ax_R := (0, .aload_n 0, 0, 0, 0, 0) :: (1, .getfield 15, 7, 1, 0, 184) :: (4, .sipush 1024, 0, 0, 0, 0) :: (7, .if_icmp .ge 27, 34, 0, 0, 0) :: (10, .aload_n 0, 0, 0, 0, 0) :: (11, .getfield 11, 7, 0, 1, 183) :: (14, .aload_n 0, 0, 0, 0, 0) :: (15, .getfield 15, 7, 1, 0, 184) ::
  (18, .iload_n 1, 0, 0, 0, 0) :: (19, .sipush 255, 0, 0, 0, 0) :: (22, .iand, 0, 0, 0, 0) :: (23, .iastore, 0, 0, 0, 0) :: (24, .aload_n 0, 0, 0, 0, 0) :: (25, .dup, 0, 0, 0, 0) :: (26, .getfield 15, 7, 1, 0, 184) :: (29, .iconst 1, 0, 0, 0, 0) ::
  (30, .iadd, 0, 0, 0, 0) :: (31, .putfield 15, 7, 1, 0, 184) :: bl_X5_add_34
def pr_X5_add : List ax_R := bl_X5_add_0
def pt_X5_add : ax_T := ((⟨"PageServer$Output", "add", "(I)V"⟩, prog_7_method_5_code, 2, none), 409, 87, 407, 408)
def bl_X5_addHead_0 : List ax_R := (0, .aload_n 0, 0, 0, 0, 0) :: (1, .iload_n 1, 0, 0, 0, 0) :: (2, .invokevirtual 19, 68, 2, 7, 406) :: (5, .aload_n 0, 0, 0, 0, 0) :: (6, .iload_n 2, 0, 0, 0, 0) :: (7, .invokevirtual 19, 68, 2, 7, 406) :: (10, .aload_n 0, 0, 0, 0, 0) :: (11, .iload_n 3, 0, 0, 0, 0) ::
  (12, .invokevirtual 19, 68, 2, 7, 406) :: (15, .aload_n 0, 0, 0, 0, 0) :: (16, .iload 4, 0, 0, 0, 0) :: (18, .invokevirtual 19, 68, 2, 7, 406) :: (21, .return_, 0, 0, 0, 0) :: []
def pr_X5_addHead : List ax_R := bl_X5_addHead_0
def pt_X5_addHead : ax_T := ((⟨"PageServer$Output", "addHead", "(IIII)V"⟩, prog_7_method_6_code, 5, none), 405, 87, 403, 404)
def bl_X5_drop_0 : List ax_R := (0, .iconst 0, 0, 0, 0, 0) :: (1, .iload_n 1, 0, 0, 0, 0) :: (2, .aload_n 0, 0, 0, 0, 0) :: (3, .getfield 15, 7, 1, 0, 184) :: (6, .invokestatic 23, 0, 0, 7, 910) :: (9, .invokestatic 29, 0, 0, 6, 911) :: (12, .istore_n 2, 0, 0, 0, 0) :: (13, .aload_n 0, 0, 0, 0, 0) ::
  (14, .getfield 11, 7, 0, 1, 183) :: (17, .iload_n 2, 0, 0, 0, 0) :: (18, .aload_n 0, 0, 0, 0, 0) :: (19, .getfield 11, 7, 0, 1, 183) :: (22, .iconst 0, 0, 0, 0, 0) :: (23, .aload_n 0, 0, 0, 0, 0) :: (24, .getfield 15, 7, 1, 0, 184) :: (27, .iload_n 2, 0, 0, 0, 0) ::
  (28, .isub, 0, 0, 0, 0) :: (29, .invokestatic 32, 0, 0, 8, 912) :: (32, .aload_n 0, 0, 0, 0, 0) :: (33, .dup, 0, 0, 0, 0) :: (34, .getfield 15, 7, 1, 0, 184) :: (37, .iload_n 2, 0, 0, 0, 0) :: (38, .isub, 0, 0, 0, 0) :: (39, .putfield 15, 7, 1, 0, 184) ::
  (42, .return_, 0, 0, 0, 0) :: []
def pr_X5_drop : List ax_R := bl_X5_drop_0
def pt_X5_drop : ax_T := ((⟨"PageServer$Output", "drop", "(I)V"⟩, prog_7_method_7_code, 3, none), 909, 87, 907, 908)
def bl_X6_init_0 : List ax_R := (0, .aload_n 0, 0, 0, 0, 0) :: (1, .invokespecial 1, 0, 0, 5, 1233) :: (4, .aload_n 0, 0, 0, 0, 0) :: (5, .aload_n 1, 0, 0, 0, 0) :: (6, .putfield 7, 8, 0, 1, 1234) :: (9, .aload_n 0, 0, 0, 0, 0) :: (10, .iload_n 2, 0, 0, 0, 0) :: (11, .putfield 13, 8, 1, 0, 1236) ::
  (14, .aload_n 0, 0, 0, 0, 0) :: (15, .iload_n 3, 0, 0, 0, 0) :: (16, .putfield 17, 8, 2, 0, 1238) :: (19, .return_, 0, 0, 0, 0) :: []
def pr_X6_init : List ax_R := bl_X6_init_0
def pt_X6_init : ax_T := ((⟨"PageServer$Page", "<init>", "(Ljava/lang/String;II)V"⟩, prog_8_method_1_code, 4, none), 1232, 110, 1231, 0)
def bl_X7_init_0 : List ax_R := (0, .aload_n 0, 0, 0, 0, 0) :: (1, .invokespecial 3, 0, 0, 5, 160) :: (4, .return_, 0, 0, 0, 0) :: []
def pr_X7_init : List ax_R := bl_X7_init_0
def pt_X7_init : ax_T := ((⟨"PageServer$Request", "<init>", "()V"⟩, prog_9_method_1_code, 1, none), 159, 86, 158, 0)
def bl_X7_readFrom_96 : List ax_R := (96, .ireturn, 0, 0, 0, 0) :: []
def bl_X7_readFrom_95 : List ax_R := (95, .iconst 0, 0, 0, 0, 0) :: bl_X7_readFrom_96
def bl_X7_readFrom_77 : List ax_R := (77, .aload_n 0, 0, 0, 0, 0) :: (78, .getfield 9, 9, 0, 1, 161) :: (81, .ifnull 14, 95, 0, 0, 0) :: (84, .aload_n 0, 0, 0, 0, 0) :: (85, .getfield 15, 9, 1, 1, 163) :: (88, .ifnull 7, 95, 0, 0, 0) :: (91, .iconst 1, 0, 0, 0, 0) :: (92, .goto 4, 96, 0, 0, 0) :: bl_X7_readFrom_95
def bl_X7_readFrom_71 : List ax_R := (71, .iinc 2 1, 0, 0, 0, 0) :: (74, .goto (-52), 22, 0, 0, 0) :: bl_X7_readFrom_77
def bl_X7_readFrom_62 : List ax_R := (62, .istore 4, 0, 0, 0, 0) :: (64, .iload 4, 0, 0, 0, 0) :: (66, .ifCond .ne 5, 71, 0, 0, 0) :: (69, .iconst 0, 0, 0, 0, 0) :: (70, .ireturn, 0, 0, 0, 0) :: bl_X7_readFrom_71
def bl_X7_readFrom_57 : List ax_R := (57, .aload_n 0, 0, 0, 0, 0) :: (58, .aload_n 3, 0, 0, 0, 0) :: (59, .invokevirtual 45, 75, 2, 9, 843) :: bl_X7_readFrom_62
def bl_X7_readFrom_42 : List ax_R := (42, .aload_n 3, 0, 0, 0, 0) :: (43, .invokevirtual 35, 39, 1, 4, 804) :: (46, .ifCond .eq 11, 57, 0, 0, 0) :: (49, .aload_n 0, 0, 0, 0, 0) :: (50, .aload_n 3, 0, 0, 0, 0) :: (51, .invokevirtual 41, 74, 2, 9, 836) :: (54, .goto 8, 62, 0, 0, 0) :: bl_X7_readFrom_57
def bl_X7_readFrom_22 : List ax_R := (22, .iload_n 2, 0, 0, 0, 0) :: (23, .aload_n 1, 0, 0, 0, 0) :: (24, .getfield 26, 2, 5, 0, 274) :: (27, .if_icmp .ge 50, 77, 0, 0, 0) :: (30, .aload_n 1, 0, 0, 0, 0) :: (31, .iload_n 2, 0, 0, 0, 0) :: (32, .invokevirtual 31, 4, 2, 2, 800) :: (35, .astore_n 3, 0, 0, 0, 0) ::
  (36, .aload_n 3, 0, 0, 0, 0) :: (37, .ifnonnull 5, 42, 0, 0, 0) :: (40, .iconst 0, 0, 0, 0, 0) :: (41, .ireturn, 0, 0, 0, 0) :: bl_X7_readFrom_42
def bl_X7_readFrom_0 : List ax_R := (0, .aload_n 0, 0, 0, 0, 0) :: (1, .aconst_null, 0, 0, 0, 0) :: (2, .putfield 9, 9, 0, 1, 161) :: (5, .aload_n 0, 0, 0, 0, 0) :: (6, .aconst_null, 0, 0, 0, 0) :: (7, .putfield 15, 9, 1, 1, 163) :: (10, .aload_n 0, 0, 0, 0, 0) :: (11, .iconst (-1), 0, 0, 0, 0) ::
  (12, .putfield 18, 9, 2, 0, 165) :: (15, .aload_n 0, 0, 0, 0, 0) :: (16, .iconst 0, 0, 0, 0, 0) :: (17, .putfield 22, 9, 3, 0, 167) :: (20, .iconst 0, 0, 0, 0, 0) :: (21, .istore_n 2, 0, 0, 0, 0) :: bl_X7_readFrom_22
def pr_X7_readFrom : List ax_R := bl_X7_readFrom_0
def pt_X7_readFrom : ax_T := ((⟨"PageServer$Request", "readFrom", "(LPageServer$Block;)Z"⟩, prog_9_method_2_code, 5, (some .boolean)), 799, 86, 797, 798)
def bl_X7_acceptsColon_67 : List ax_R := (67, .iconst 0, 0, 0, 0, 0) :: (68, .ireturn, 0, 0, 0, 0) :: []
def bl_X7_acceptsColon_38 : List ax_R := (38, .aload_n 1, 0, 0, 0, 0) :: (39, .getfield 48, 4, 0, 1, 216) :: (42, .ldc 62, 0, 9, 1, 16) :: (44, .invokevirtual 53, 179, 2, 0, 841) :: (47, .ifCond .eq 20, 67, 0, 0, 0) :: (50, .aload_n 0, 0, 0, 0, 0) :: (51, .getfield 15, 9, 1, 1, 163) :: (54, .ifnonnull 13, 67, 0, 0, 0) ::
  (57, .aload_n 0, 0, 0, 0, 0) :: (58, .aload_n 1, 0, 0, 0, 0) :: (59, .getfield 59, 4, 1, 1, 220) :: (62, .putfield 15, 9, 1, 1, 163) :: (65, .iconst 1, 0, 0, 0, 0) :: (66, .ireturn, 0, 0, 0, 0) :: bl_X7_acceptsColon_67
def bl_X7_acceptsColon_9 : List ax_R := (9, .aload_n 1, 0, 0, 0, 0) :: (10, .getfield 48, 4, 0, 1, 216) :: (13, .ldc 51, 0, 3, 1, 15) :: (15, .invokevirtual 53, 179, 2, 0, 841) :: (18, .ifCond .eq 20, 38, 0, 0, 0) :: (21, .aload_n 0, 0, 0, 0, 0) :: (22, .getfield 9, 9, 0, 1, 161) :: (25, .ifnonnull 13, 38, 0, 0, 0) ::
  (28, .aload_n 0, 0, 0, 0, 0) :: (29, .aload_n 1, 0, 0, 0, 0) :: (30, .getfield 59, 4, 1, 1, 220) :: (33, .putfield 9, 9, 0, 1, 161) :: (36, .iconst 1, 0, 0, 0, 0) :: (37, .ireturn, 0, 0, 0, 0) :: bl_X7_acceptsColon_38
def bl_X7_acceptsColon_0 : List ax_R := (0, .aload_n 0, 0, 0, 0, 0) :: (1, .getfield 22, 9, 3, 0, 167) :: (4, .ifCond .eq 5, 9, 0, 0, 0) :: (7, .iconst 0, 0, 0, 0, 0) :: (8, .ireturn, 0, 0, 0, 0) :: bl_X7_acceptsColon_9
def pr_X7_acceptsColon : List ax_R := bl_X7_acceptsColon_0
def pt_X7_acceptsColon : ax_T := ((⟨"PageServer$Request", "acceptsColon", "(LPageServer$Field;)Z"⟩, prog_9_method_3_code, 2, (some .boolean)), 839, 86, 838, 28)
def bl_X7_acceptsOther_59 : List ax_R := (59, .ireturn, 0, 0, 0, 0) :: []
def bl_X7_acceptsOther_58 : List ax_R := (58, .iconst 0, 0, 0, 0, 0) :: bl_X7_acceptsOther_59
def bl_X7_acceptsOther_38 : List ax_R := (38, .aload_n 0, 0, 0, 0, 0) :: (39, .aload_n 1, 0, 0, 0, 0) :: (40, .invokevirtual 68, 41, 1, 4, 852) :: (43, .putfield 18, 9, 2, 0, 165) :: (46, .aload_n 0, 0, 0, 0, 0) :: (47, .getfield 18, 9, 2, 0, 165) :: (50, .iconst (-1), 0, 0, 0, 0) :: (51, .if_icmp .eq 7, 58, 0, 0, 0) ::
  (54, .iconst 1, 0, 0, 0, 0) :: (55, .goto 4, 59, 0, 0, 0) :: bl_X7_acceptsOther_58
def bl_X7_acceptsOther_28 : List ax_R := (28, .aload_n 0, 0, 0, 0, 0) :: (29, .getfield 18, 9, 2, 0, 165) :: (32, .iconst (-1), 0, 0, 0, 0) :: (33, .if_icmp .eq 5, 38, 0, 0, 0) :: (36, .iconst 0, 0, 0, 0, 0) :: (37, .ireturn, 0, 0, 0, 0) :: bl_X7_acceptsOther_38
def bl_X7_acceptsOther_14 : List ax_R := (14, .aload_n 1, 0, 0, 0, 0) :: (15, .getfield 48, 4, 0, 1, 216) :: (18, .ldc 67, 0, 17, 1, 17) :: (20, .invokevirtual 53, 179, 2, 0, 841) :: (23, .ifCond .ne 5, 28, 0, 0, 0) :: (26, .iconst 1, 0, 0, 0, 0) :: (27, .ireturn, 0, 0, 0, 0) :: bl_X7_acceptsOther_28
def bl_X7_acceptsOther_0 : List ax_R := (0, .aload_n 0, 0, 0, 0, 0) :: (1, .iconst 1, 0, 0, 0, 0) :: (2, .putfield 22, 9, 3, 0, 167) :: (5, .aload_n 1, 0, 0, 0, 0) :: (6, .invokevirtual 64, 40, 1, 4, 847) :: (9, .ifCond .ne 5, 14, 0, 0, 0) :: (12, .iconst 0, 0, 0, 0, 0) :: (13, .ireturn, 0, 0, 0, 0) :: bl_X7_acceptsOther_14
def pr_X7_acceptsOther : List ax_R := bl_X7_acceptsOther_0
def pt_X7_acceptsOther : ax_T := ((⟨"PageServer$Request", "acceptsOther", "(LPageServer$Field;)Z"⟩, prog_9_method_4_code, 2, (some .boolean)), 846, 86, 845, 29)
def bl_X8_init_0 : List ax_R := (0, .aload_n 0, 0, 0, 0, 0) :: (1, .invokespecial 3, 0, 0, 5, 125) :: (4, .aload_n 0, 0, 0, 0, 0) :: (5, .bipush 8, 0, 0, 0, 0) :: (7, .anewarray 11, 118, 0, 0, 126) :: (10, .putfield 13, 10, 0, 1, 128) :: (13, .return_, 0, 0, 0, 0) :: []
def pr_X8_init : List ax_R := bl_X8_init_0
def pt_X8_init : ax_T := ((⟨"PageServer$Site", "<init>", "()V"⟩, prog_10_method_1_code, 1, none), 124, 83, 123, 0)
def bl_X8_isPath_39 : List ax_R := (39, .ireturn, 0, 0, 0, 0) :: []
def bl_X8_isPath_38 : List ax_R := (38, .iconst 0, 0, 0, 0, 0) :: bl_X8_isPath_39
def bl_X8_isPath_34 : List ax_R := (34, .iconst 1, 0, 0, 0, 0) :: (35, .goto 4, 39, 0, 0, 0) :: bl_X8_isPath_38
def bl_X8_isPath_25 : List ax_R := (25, .iload_n 3, 0, 0, 0, 0) :: (26, .ifCond .eq 8, 34, 0, 0, 0) :: (29, .iload_n 2, 0, 0, 0, 0) :: (30, .iconst 4, 0, 0, 0, 0) :: (31, .if_icmp .ne 7, 38, 0, 0, 0) :: bl_X8_isPath_34
def bl_X8_isPath_23 : List ax_R := (23, .iconst 0, 0, 0, 0, 0) :: (24, .ireturn, 0, 0, 0, 0) :: bl_X8_isPath_25
def bl_X8_isPath_0 : List ax_R := (0, .iload_n 0, 0, 0, 0, 0) :: (1, .invokestatic 17, 78, 1, 0, 936) :: (4, .istore_n 2, 0, 0, 0, 0) :: (5, .iload_n 1, 0, 0, 0, 0) :: (6, .invokestatic 17, 78, 1, 0, 936) :: (9, .istore_n 3, 0, 0, 0, 0) :: (10, .iload_n 2, 0, 0, 0, 0) :: (11, .ifCond .lt 12, 23, 0, 0, 0) ::
  (14, .iload_n 3, 0, 0, 0, 0) :: (15, .ifCond .lt 8, 23, 0, 0, 0) :: (18, .iload_n 3, 0, 0, 0, 0) :: (19, .iconst 3, 0, 0, 0, 0) :: (20, .if_icmp .le 5, 25, 0, 0, 0) :: bl_X8_isPath_23
def pr_X8_isPath : List ax_R := bl_X8_isPath_0
def pt_X8_isPath : ax_T := ((⟨"PageServer$Site", "isPath", "(II)Z"⟩, prog_10_method_2_code, 4, (some .boolean)), 935, 83, 934, 0)
def bl_X8_countLetters_51 : List ax_R := (51, .iload_n 1, 0, 0, 0, 0) :: (52, .ireturn, 0, 0, 0, 0) :: []
def bl_X8_countLetters_45 : List ax_R := (45, .iinc 2 (-8), 0, 0, 0, 0) :: (48, .goto (-43), 5, 0, 0, 0) :: bl_X8_countLetters_51
def bl_X8_countLetters_43 : List ax_R := (43, .iconst (-1), 0, 0, 0, 0) :: (44, .ireturn, 0, 0, 0, 0) :: bl_X8_countLetters_45
def bl_X8_countLetters_35 : List ax_R := (35, .iload_n 3, 0, 0, 0, 0) :: (36, .ifCond .ne 7, 43, 0, 0, 0) :: (39, .iload_n 1, 0, 0, 0, 0) :: (40, .ifCond .le 5, 45, 0, 0, 0) :: bl_X8_countLetters_43
def bl_X8_countLetters_5 : List ax_R := (5, .iload_n 2, 0, 0, 0, 0) :: (6, .ifCond .lt 45, 51, 0, 0, 0) :: (9, .iload_n 0, 0, 0, 0, 0) :: (10, .iload_n 2, 0, 0, 0, 0) :: (11, .iushr, 0, 0, 0, 0) :: (12, .sipush 255, 0, 0, 0, 0) :: (15, .iand, 0, 0, 0, 0) :: (16, .istore_n 3, 0, 0, 0, 0) ::
  (17, .iload_n 3, 0, 0, 0, 0) :: (18, .bipush 97, 0, 0, 0, 0) :: (20, .if_icmp .lt 15, 35, 0, 0, 0) :: (23, .iload_n 3, 0, 0, 0, 0) :: (24, .bipush 122, 0, 0, 0, 0) :: (26, .if_icmp .gt 9, 35, 0, 0, 0) :: (29, .iinc 1 1, 0, 0, 0, 0) :: (32, .goto 13, 45, 0, 0, 0) :: bl_X8_countLetters_35
def bl_X8_countLetters_0 : List ax_R := (0, .iconst 0, 0, 0, 0, 0) :: (1, .istore_n 1, 0, 0, 0, 0) :: (2, .bipush 24, 0, 0, 0, 0) :: (4, .istore_n 2, 0, 0, 0, 0) :: bl_X8_countLetters_5
def pr_X8_countLetters : List ax_R := bl_X8_countLetters_0
def pt_X8_countLetters : ax_T := ((⟨"PageServer$Site", "countLetters", "(I)I"⟩, prog_10_method_3_code, 4, (some .int)), 938, 83, 937, 0)
def bl_X8_pathText_0 : List ax_R := (0, .new 21, 1, 4, 0, 1010) :: (3, .dup, 0, 0, 0, 0) :: (4, .invokespecial 23, 188, 1, 0, 1012) :: (7, .astore_n 2, 0, 0, 0, 0) :: (8, .aload_n 2, 0, 0, 0, 0) :: (9, .bipush 47, 0, 0, 0, 0) :: (11, .invokevirtual 24, 190, 2, 1, 1034) :: (14, .pop, 0, 0, 0, 0) ::
  (15, .aload_n 2, 0, 0, 0, 0) :: (16, .iload_n 0, 0, 0, 0, 0) :: (17, .invokestatic 28, 80, 2, 0, 1091) :: (20, .aload_n 2, 0, 0, 0, 0) :: (21, .iload_n 1, 0, 0, 0, 0) :: (22, .invokestatic 28, 80, 2, 0, 1091) :: (25, .aload_n 2, 0, 0, 0, 0) :: (26, .invokevirtual 32, 195, 1, 1, 1094) ::
  (29, .areturn, 0, 0, 0, 0) :: []
def pr_X8_pathText : List ax_R := bl_X8_pathText_0
def pt_X8_pathText : ax_T := ((⟨"PageServer$Site", "pathText", "(II)Ljava/lang/String;"⟩, prog_10_method_4_code, 3, (some (.object "java/lang/String"))), 1009, 83, 1008, 0)
def bl_X8_appendLetters_32 : List ax_R := (32, .return_, 0, 0, 0, 0) :: []
def bl_X8_appendLetters_26 : List ax_R := (26, .iinc 2 (-8), 0, 0, 0, 0) :: (29, .goto (-26), 3, 0, 0, 0) :: bl_X8_appendLetters_32
def bl_X8_appendLetters_3 : List ax_R := (3, .iload_n 2, 0, 0, 0, 0) :: (4, .ifCond .lt 28, 32, 0, 0, 0) :: (7, .iload_n 1, 0, 0, 0, 0) :: (8, .iload_n 2, 0, 0, 0, 0) :: (9, .iushr, 0, 0, 0, 0) :: (10, .sipush 255, 0, 0, 0, 0) :: (13, .iand, 0, 0, 0, 0) :: (14, .istore_n 3, 0, 0, 0, 0) ::
  (15, .iload_n 3, 0, 0, 0, 0) :: (16, .ifCond .eq 10, 26, 0, 0, 0) :: (19, .aload_n 0, 0, 0, 0, 0) :: (20, .iload_n 3, 0, 0, 0, 0) :: (21, .i2c, 0, 0, 0, 0) :: (22, .invokevirtual 24, 190, 2, 1, 1034) :: (25, .pop, 0, 0, 0, 0) :: bl_X8_appendLetters_26
def bl_X8_appendLetters_0 : List ax_R := (0, .bipush 24, 0, 0, 0, 0) :: (2, .istore_n 2, 0, 0, 0, 0) :: bl_X8_appendLetters_3
def pr_X8_appendLetters : List ax_R := bl_X8_appendLetters_0
def pt_X8_appendLetters : ax_T := ((⟨"PageServer$Site", "appendLetters", "(Ljava/lang/StringBuilder;I)V"⟩, prog_10_method_5_code, 4, none), 1093, 83, 1092, 0)
def bl_X8_find_39 : List ax_R := (39, .aconst_null, 0, 0, 0, 0) :: (40, .areturn, 0, 0, 0, 0) :: []
def bl_X8_find_33 : List ax_R := (33, .iinc 2 1, 0, 0, 0, 0) :: (36, .goto (-34), 2, 0, 0, 0) :: bl_X8_find_39
def bl_X8_find_2 : List ax_R := (2, .iload_n 2, 0, 0, 0, 0) :: (3, .aload_n 0, 0, 0, 0, 0) :: (4, .getfield 36, 10, 1, 0, 129) :: (7, .if_icmp .ge 32, 39, 0, 0, 0) :: (10, .aload_n 0, 0, 0, 0, 0) :: (11, .getfield 13, 10, 0, 1, 128) :: (14, .iload_n 2, 0, 0, 0, 0) :: (15, .aaload, 0, 0, 0, 0) ::
  (16, .getfield 40, 8, 0, 1, 1235) :: (19, .aload_n 1, 0, 0, 0, 0) :: (20, .invokevirtual 44, 179, 2, 0, 594) :: (23, .ifCond .eq 10, 33, 0, 0, 0) :: (26, .aload_n 0, 0, 0, 0, 0) :: (27, .getfield 13, 10, 0, 1, 128) :: (30, .iload_n 2, 0, 0, 0, 0) :: (31, .aaload, 0, 0, 0, 0) ::
  (32, .areturn, 0, 0, 0, 0) :: bl_X8_find_33
def bl_X8_find_0 : List ax_R := (0, .iconst 0, 0, 0, 0, 0) :: (1, .istore_n 2, 0, 0, 0, 0) :: bl_X8_find_2
def pr_X8_find : List ax_R := bl_X8_find_0
def pt_X8_find : ax_T := ((⟨"PageServer$Site", "find", "(Ljava/lang/String;)LPageServer$Page;"⟩, prog_10_method_6_code, 3, (some (.object "PageServer$Page"))), 593, 83, 591, 592)
def bl_X8_isFull_14 : List ax_R := (14, .ireturn, 0, 0, 0, 0) :: []
def bl_X8_isFull_13 : List ax_R := (13, .iconst 0, 0, 0, 0, 0) :: bl_X8_isFull_14
def bl_X8_isFull_0 : List ax_R := (0, .aload_n 0, 0, 0, 0, 0) :: (1, .getfield 36, 10, 1, 0, 129) :: (4, .bipush 8, 0, 0, 0, 0) :: (6, .if_icmp .lt 7, 13, 0, 0, 0) :: (9, .iconst 1, 0, 0, 0, 0) :: (10, .goto 4, 14, 0, 0, 0) :: bl_X8_isFull_13
def pr_X8_isFull : List ax_R := bl_X8_isFull_0
def pt_X8_isFull : ax_T := ((⟨"PageServer$Site", "isFull", "()Z"⟩, prog_10_method_7_code, 1, (some .boolean)), 1207, 83, 1205, 1206)
def bl_X8_add_9 : List ax_R := (9, .aload_n 0, 0, 0, 0, 0) :: (10, .getfield 13, 10, 0, 1, 128) :: (13, .aload_n 0, 0, 0, 0, 0) :: (14, .getfield 36, 10, 1, 0, 129) :: (17, .new 11, 8, 3, 0, 126) :: (20, .dup, 0, 0, 0, 0) :: (21, .aload_n 1, 0, 0, 0, 0) :: (22, .iload_n 2, 0, 0, 0, 0) ::
  (23, .iload_n 3, 0, 0, 0, 0) :: (24, .invokespecial 54, 71, 4, 0, 1230) :: (27, .aastore, 0, 0, 0, 0) :: (28, .aload_n 0, 0, 0, 0, 0) :: (29, .dup, 0, 0, 0, 0) :: (30, .getfield 36, 10, 1, 0, 129) :: (33, .iconst 1, 0, 0, 0, 0) :: (34, .iadd, 0, 0, 0, 0) ::
  (35, .putfield 36, 10, 1, 0, 129) :: (38, .aload_n 0, 0, 0, 0, 0) :: (39, .getfield 36, 10, 1, 0, 129) :: (42, .iconst 1, 0, 0, 0, 0) :: (43, .isub, 0, 0, 0, 0) :: (44, .ireturn, 0, 0, 0, 0) :: []
def bl_X8_add_0 : List ax_R := (0, .aload_n 0, 0, 0, 0, 0) :: (1, .invokevirtual 50, 82, 1, 10, 1228) :: (4, .ifCond .eq 5, 9, 0, 0, 0) :: (7, .iconst (-1), 0, 0, 0, 0) :: (8, .ireturn, 0, 0, 0, 0) :: bl_X8_add_9
def pr_X8_add : List ax_R := bl_X8_add_0
def pt_X8_add : ax_T := ((⟨"PageServer$Site", "add", "(Ljava/lang/String;II)I"⟩, prog_10_method_8_code, 4, (some .int)), 1227, 83, 1225, 1226)
def bl_X9_init_0 : List ax_R := (0, .aload_n 0, 0, 0, 0, 0) :: (1, .invokespecial 3, 0, 0, 5, 317) :: (4, .aload_n 0, 0, 0, 0, 0) :: (5, .iconst (-1), 0, 0, 0, 0) :: (6, .putfield 9, 11, 7, 0, 340) :: (9, .aload_n 0, 0, 0, 0, 0) :: (10, .ldc 15, 0, 15, 1, 11) :: (12, .putfield 17, 11, 8, 1, 341) ::
  (15, .aload_n 0, 0, 0, 0, 0) :: (16, .ldc 15, 0, 15, 1, 11) :: (18, .putfield 21, 11, 9, 1, 343) :: (21, .return_, 0, 0, 0, 0) :: []
def pr_X9_init : List ax_R := bl_X9_init_0
def pt_X9_init : ax_T := ((⟨"PageServer$Stream", "<init>", "()V"⟩, prog_11_method_1_code, 1, none), 316, 93, 315, 0)
def bl_X9_open_80 : List ax_R := (80, .putfield 21, 11, 9, 1, 343) :: (83, .return_, 0, 0, 0, 0) :: []
def bl_X9_open_76 : List ax_R := (76, .aload_n 3, 0, 0, 0, 0) :: (77, .getfield 50, 9, 1, 1, 164) :: bl_X9_open_80
def bl_X9_open_60 : List ax_R := (60, .putfield 17, 11, 8, 1, 341) :: (63, .aload_n 0, 0, 0, 0, 0) :: (64, .aload_n 3, 0, 0, 0, 0) :: (65, .getfield 50, 9, 1, 1, 164) :: (68, .ifnonnull 8, 76, 0, 0, 0) :: (71, .ldc 15, 0, 15, 1, 11) :: (73, .goto 7, 80, 0, 0, 0) :: bl_X9_open_76
def bl_X9_open_56 : List ax_R := (56, .aload_n 3, 0, 0, 0, 0) :: (57, .getfield 49, 9, 0, 1, 162) :: bl_X9_open_60
def bl_X9_open_0 : List ax_R := (0, .aload_n 0, 0, 0, 0, 0) :: (1, .iconst 1, 0, 0, 0, 0) :: (2, .putfield 24, 11, 0, 0, 319) :: (5, .aload_n 0, 0, 0, 0, 0) :: (6, .iload_n 1, 0, 0, 0, 0) :: (7, .putfield 28, 11, 1, 0, 322) :: (10, .aload_n 0, 0, 0, 0, 0) :: (11, .iload_n 2, 0, 0, 0, 0) ::
  (12, .putfield 31, 11, 2, 0, 325) :: (15, .aload_n 0, 0, 0, 0, 0) :: (16, .iconst 0, 0, 0, 0, 0) :: (17, .putfield 34, 11, 3, 0, 329) :: (20, .aload_n 0, 0, 0, 0, 0) :: (21, .iconst 0, 0, 0, 0, 0) :: (22, .putfield 37, 11, 4, 0, 332) :: (25, .aload_n 0, 0, 0, 0, 0) ::
  (26, .iconst 0, 0, 0, 0, 0) :: (27, .putfield 40, 11, 5, 0, 334) :: (30, .aload_n 0, 0, 0, 0, 0) :: (31, .iconst 0, 0, 0, 0, 0) :: (32, .putfield 43, 11, 6, 0, 337) :: (35, .aload_n 0, 0, 0, 0, 0) :: (36, .aload_n 3, 0, 0, 0, 0) :: (37, .getfield 46, 9, 2, 0, 166) ::
  (40, .putfield 9, 11, 7, 0, 340) :: (43, .aload_n 0, 0, 0, 0, 0) :: (44, .aload_n 3, 0, 0, 0, 0) :: (45, .getfield 49, 9, 0, 1, 162) :: (48, .ifnonnull 8, 56, 0, 0, 0) :: (51, .ldc 15, 0, 15, 1, 11) :: (53, .goto 7, 60, 0, 0, 0) :: bl_X9_open_56
def pr_X9_open : List ax_R := bl_X9_open_0
def pt_X9_open : ax_T := ((⟨"PageServer$Stream", "open", "(IILPageServer$Request;)V"⟩, prog_11_method_2_code, 4, none), 863, 93, 861, 862)
def bl_X9_canSend_26 : List ax_R := (26, .ireturn, 0, 0, 0, 0) :: []
def bl_X9_canSend_25 : List ax_R := (25, .iconst 0, 0, 0, 0, 0) :: bl_X9_canSend_26
def bl_X9_canSend_0 : List ax_R := (0, .aload_n 0, 0, 0, 0, 0) :: (1, .getfield 24, 11, 0, 0, 319) :: (4, .ifCond .eq 21, 25, 0, 0, 0) :: (7, .aload_n 0, 0, 0, 0, 0) :: (8, .getfield 34, 11, 3, 0, 329) :: (11, .ifCond .le 14, 25, 0, 0, 0) :: (14, .aload_n 0, 0, 0, 0, 0) :: (15, .getfield 31, 11, 2, 0, 325) ::
  (18, .ifCond .le 7, 25, 0, 0, 0) :: (21, .iconst 1, 0, 0, 0, 0) :: (22, .goto 4, 26, 0, 0, 0) :: bl_X9_canSend_25
def pr_X9_canSend : List ax_R := bl_X9_canSend_0
def pt_X9_canSend : ax_T := ((⟨"PageServer$Stream", "canSend", "()Z"⟩, prog_11_method_3_code, 1, (some .boolean)), 885, 93, 883, 884)
def bl_X9_hasWrongLength_24 : List ax_R := (24, .ireturn, 0, 0, 0, 0) :: []
def bl_X9_hasWrongLength_23 : List ax_R := (23, .iconst 0, 0, 0, 0, 0) :: bl_X9_hasWrongLength_24
def bl_X9_hasWrongLength_0 : List ax_R := (0, .aload_n 0, 0, 0, 0, 0) :: (1, .getfield 9, 11, 7, 0, 340) :: (4, .iconst (-1), 0, 0, 0, 0) :: (5, .if_icmp .eq 18, 23, 0, 0, 0) :: (8, .aload_n 0, 0, 0, 0, 0) :: (9, .getfield 9, 11, 7, 0, 340) :: (12, .aload_n 0, 0, 0, 0, 0) :: (13, .getfield 40, 11, 5, 0, 334) ::
  (16, .if_icmp .eq 7, 23, 0, 0, 0) :: (19, .iconst 1, 0, 0, 0, 0) :: (20, .goto 4, 24, 0, 0, 0) :: bl_X9_hasWrongLength_23
def pr_X9_hasWrongLength : List ax_R := bl_X9_hasWrongLength_0
def pt_X9_hasWrongLength : ax_T := ((⟨"PageServer$Stream", "hasWrongLength", "()Z"⟩, prog_11_method_4_code, 1, (some .boolean)), 575, 93, 573, 574)
def bl_X10_init_38 : List ax_R := (38, .return_, 0, 0, 0, 0) :: []
def bl_X10_init_14 : List ax_R := (14, .iload_n 1, 0, 0, 0, 0) :: (15, .iconst 4, 0, 0, 0, 0) :: (16, .if_icmp .ge 22, 38, 0, 0, 0) :: (19, .aload_n 0, 0, 0, 0, 0) :: (20, .getfield 11, 12, 0, 1, 366) :: (23, .iload_n 1, 0, 0, 0, 0) :: (24, .new 9, 11, 10, 0, 311) :: (27, .dup, 0, 0, 0, 0) ::
  (28, .invokespecial 15, 84, 1, 10, 0) :: (31, .aastore, 0, 0, 0, 0) :: (32, .iinc 1 1, 0, 0, 0, 0) :: (35, .goto (-21), 14, 0, 0, 0) :: bl_X10_init_38
def bl_X10_init_0 : List ax_R := (0, .aload_n 0, 0, 0, 0, 0) :: (1, .invokespecial 1, 0, 0, 5, 310) :: (4, .aload_n 0, 0, 0, 0, 0) :: (5, .iconst 4, 0, 0, 0, 0) :: (6, .anewarray 9, 121, 0, 0, 311) :: (9, .putfield 11, 12, 0, 1, 366) :: (12, .iconst 0, 0, 0, 0, 0) :: (13, .istore_n 1, 0, 0, 0, 0) :: bl_X10_init_14
def pr_X10_init : List ax_R := bl_X10_init_0
def pt_X10_init : ax_T := ((⟨"PageServer$Streams", "<init>", "()V"⟩, prog_12_method_1_code, 2, none), 309, 92, 308, 0)
def bl_X10_clear_34 : List ax_R := (34, .return_, 0, 0, 0, 0) :: []
def bl_X10_clear_13 : List ax_R := (13, .iload_n 1, 0, 0, 0, 0) :: (14, .iconst 4, 0, 0, 0, 0) :: (15, .if_icmp .ge 19, 34, 0, 0, 0) :: (18, .aload_n 0, 0, 0, 0, 0) :: (19, .getfield 11, 12, 0, 1, 366) :: (22, .iload_n 1, 0, 0, 0, 0) :: (23, .aaload, 0, 0, 0, 0) :: (24, .iconst 0, 0, 0, 0, 0) ::
  (25, .putfield 23, 11, 0, 0, 320) :: (28, .iinc 1 1, 0, 0, 0, 0) :: (31, .goto (-18), 13, 0, 0, 0) :: bl_X10_clear_34
def bl_X10_clear_0 : List ax_R := (0, .aload_n 0, 0, 0, 0, 0) :: (1, .bipush 40, 0, 0, 0, 0) :: (3, .putfield 16, 12, 1, 0, 367) :: (6, .aload_n 0, 0, 0, 0, 0) :: (7, .iconst 0, 0, 0, 0, 0) :: (8, .putfield 20, 12, 2, 0, 368) :: (11, .iconst 0, 0, 0, 0, 0) :: (12, .istore_n 1, 0, 0, 0, 0) :: bl_X10_clear_13
def pr_X10_clear : List ax_R := bl_X10_clear_0
def pt_X10_clear : ax_T := ((⟨"PageServer$Streams", "clear", "()V"⟩, prog_12_method_2_code, 2, none), 401, 92, 399, 400)
def bl_X10_isIdle_23 : List ax_R := (23, .ireturn, 0, 0, 0, 0) :: []
def bl_X10_isIdle_22 : List ax_R := (22, .iconst 0, 0, 0, 0, 0) :: bl_X10_isIdle_23
def bl_X10_isIdle_18 : List ax_R := (18, .iconst 1, 0, 0, 0, 0) :: (19, .goto 4, 23, 0, 0, 0) :: bl_X10_isIdle_22
def bl_X10_isIdle_0 : List ax_R := (0, .iload_n 1, 0, 0, 0, 0) :: (1, .aload_n 0, 0, 0, 0, 0) :: (2, .getfield 20, 12, 2, 0, 368) :: (5, .if_icmp .gt 13, 18, 0, 0, 0) :: (8, .iload_n 1, 0, 0, 0, 0) :: (9, .ifCond .eq 13, 22, 0, 0, 0) :: (12, .iload_n 1, 0, 0, 0, 0) :: (13, .iconst 2, 0, 0, 0, 0) ::
  (14, .irem, 0, 0, 0, 0) :: (15, .ifCond .ne 7, 22, 0, 0, 0) :: bl_X10_isIdle_18
def pr_X10_isIdle : List ax_R := bl_X10_isIdle_0
def pt_X10_isIdle : ax_T := ((⟨"PageServer$Streams", "isIdle", "(I)Z"⟩, prog_12_method_3_code, 2, (some .boolean)), 530, 92, 528, 529)
def bl_X10_find_45 : List ax_R := (45, .aconst_null, 0, 0, 0, 0) :: (46, .areturn, 0, 0, 0, 0) :: []
def bl_X10_find_39 : List ax_R := (39, .iinc 2 1, 0, 0, 0, 0) :: (42, .goto (-40), 2, 0, 0, 0) :: bl_X10_find_45
def bl_X10_find_2 : List ax_R := (2, .iload_n 2, 0, 0, 0, 0) :: (3, .iconst 4, 0, 0, 0, 0) :: (4, .if_icmp .ge 41, 45, 0, 0, 0) :: (7, .aload_n 0, 0, 0, 0, 0) :: (8, .getfield 11, 12, 0, 1, 366) :: (11, .iload_n 2, 0, 0, 0, 0) :: (12, .aaload, 0, 0, 0, 0) :: (13, .getfield 23, 11, 0, 0, 320) ::
  (16, .ifCond .eq 23, 39, 0, 0, 0) :: (19, .aload_n 0, 0, 0, 0, 0) :: (20, .getfield 11, 12, 0, 1, 366) :: (23, .iload_n 2, 0, 0, 0, 0) :: (24, .aaload, 0, 0, 0, 0) :: (25, .getfield 27, 11, 1, 0, 323) :: (28, .iload_n 1, 0, 0, 0, 0) :: (29, .if_icmp .ne 10, 39, 0, 0, 0) ::
  (32, .aload_n 0, 0, 0, 0, 0) :: (33, .getfield 11, 12, 0, 1, 366) :: (36, .iload_n 2, 0, 0, 0, 0) :: (37, .aaload, 0, 0, 0, 0) :: (38, .areturn, 0, 0, 0, 0) :: bl_X10_find_39
def bl_X10_find_0 : List ax_R := (0, .iconst 0, 0, 0, 0, 0) :: (1, .istore_n 2, 0, 0, 0, 0) :: bl_X10_find_2
def pr_X10_find : List ax_R := bl_X10_find_0
def pt_X10_find : ax_T := ((⟨"PageServer$Streams", "find", "(I)LPageServer$Stream;"⟩, prog_12_method_4_code, 3, (some (.object "PageServer$Stream"))), 551, 92, 549, 550)
def bl_X10_countOpen_30 : List ax_R := (30, .iload_n 1, 0, 0, 0, 0) :: (31, .ireturn, 0, 0, 0, 0) :: []
def bl_X10_countOpen_24 : List ax_R := (24, .iinc 2 1, 0, 0, 0, 0) :: (27, .goto (-23), 4, 0, 0, 0) :: bl_X10_countOpen_30
def bl_X10_countOpen_4 : List ax_R := (4, .iload_n 2, 0, 0, 0, 0) :: (5, .iconst 4, 0, 0, 0, 0) :: (6, .if_icmp .ge 24, 30, 0, 0, 0) :: (9, .aload_n 0, 0, 0, 0, 0) :: (10, .getfield 11, 12, 0, 1, 366) :: (13, .iload_n 2, 0, 0, 0, 0) :: (14, .aaload, 0, 0, 0, 0) :: (15, .getfield 23, 11, 0, 0, 320) ::
  (18, .ifCond .eq 6, 24, 0, 0, 0) :: (21, .iinc 1 1, 0, 0, 0, 0) :: bl_X10_countOpen_24
def bl_X10_countOpen_0 : List ax_R := (0, .iconst 0, 0, 0, 0, 0) :: (1, .istore_n 1, 0, 0, 0, 0) :: (2, .iconst 0, 0, 0, 0, 0) :: (3, .istore_n 2, 0, 0, 0, 0) :: bl_X10_countOpen_4
def pr_X10_countOpen : List ax_R := bl_X10_countOpen_0
def pt_X10_countOpen : ax_T := ((⟨"PageServer$Streams", "countOpen", "()I"⟩, prog_12_method_5_code, 3, (some .int)), 795, 92, 793, 794)
def bl_X10_open_47 : List ax_R := (47, .aconst_null, 0, 0, 0, 0) :: (48, .areturn, 0, 0, 0, 0) :: []
def bl_X10_open_41 : List ax_R := (41, .iinc 3 1, 0, 0, 0, 0) :: (44, .goto (-42), 2, 0, 0, 0) :: bl_X10_open_47
def bl_X10_open_2 : List ax_R := (2, .iload_n 3, 0, 0, 0, 0) :: (3, .iconst 4, 0, 0, 0, 0) :: (4, .if_icmp .ge 43, 47, 0, 0, 0) :: (7, .aload_n 0, 0, 0, 0, 0) :: (8, .getfield 11, 12, 0, 1, 366) :: (11, .iload_n 3, 0, 0, 0, 0) :: (12, .aaload, 0, 0, 0, 0) :: (13, .getfield 23, 11, 0, 0, 320) ::
  (16, .ifCond .ne 25, 41, 0, 0, 0) :: (19, .aload_n 0, 0, 0, 0, 0) :: (20, .getfield 11, 12, 0, 1, 366) :: (23, .iload_n 3, 0, 0, 0, 0) :: (24, .aaload, 0, 0, 0, 0) :: (25, .iload_n 1, 0, 0, 0, 0) :: (26, .aload_n 0, 0, 0, 0, 0) :: (27, .getfield 16, 12, 1, 0, 367) ::
  (30, .aload_n 2, 0, 0, 0, 0) :: (31, .invokevirtual 30, 85, 4, 11, 860) :: (34, .aload_n 0, 0, 0, 0, 0) :: (35, .getfield 11, 12, 0, 1, 366) :: (38, .iload_n 3, 0, 0, 0, 0) :: (39, .aaload, 0, 0, 0, 0) :: (40, .areturn, 0, 0, 0, 0) :: bl_X10_open_41
def bl_X10_open_0 : List ax_R := (0, .iconst 0, 0, 0, 0, 0) :: (1, .istore_n 3, 0, 0, 0, 0) :: bl_X10_open_2
def pr_X10_open : List ax_R := bl_X10_open_0
def pt_X10_open : ax_T := ((⟨"PageServer$Streams", "open", "(ILPageServer$Request;)LPageServer$Stream;"⟩, prog_12_method_6_code, 4, (some (.object "PageServer$Stream"))), 859, 92, 857, 858)
def bl_X10_close_15 : List ax_R := (15, .return_, 0, 0, 0, 0) :: []
def bl_X10_close_0 : List ax_R := (0, .aload_n 0, 0, 0, 0, 0) :: (1, .iload_n 1, 0, 0, 0, 0) :: (2, .invokevirtual 34, 91, 2, 12, 560) :: (5, .astore_n 2, 0, 0, 0, 0) :: (6, .aload_n 2, 0, 0, 0, 0) :: (7, .ifnull 8, 15, 0, 0, 0) :: (10, .aload_n 2, 0, 0, 0, 0) :: (11, .iconst 0, 0, 0, 0, 0) ::
  (12, .putfield 23, 11, 0, 0, 320) :: bl_X10_close_15
def pr_X10_close : List ax_R := bl_X10_close_0
def pt_X10_close : ax_T := ((⟨"PageServer$Streams", "close", "(I)V"⟩, prog_12_method_7_code, 3, none), 559, 92, 557, 558)
def bl_X10_isFull_13 : List ax_R := (13, .ireturn, 0, 0, 0, 0) :: []
def bl_X10_isFull_12 : List ax_R := (12, .iconst 0, 0, 0, 0, 0) :: bl_X10_isFull_13
def bl_X10_isFull_0 : List ax_R := (0, .aload_n 0, 0, 0, 0, 0) :: (1, .invokevirtual 38, 92, 1, 12, 792) :: (4, .iconst 4, 0, 0, 0, 0) :: (5, .if_icmp .lt 7, 12, 0, 0, 0) :: (8, .iconst 1, 0, 0, 0, 0) :: (9, .goto 4, 13, 0, 0, 0) :: bl_X10_isFull_12
def pr_X10_isFull : List ax_R := bl_X10_isFull_0
def pt_X10_isFull : ax_T := ((⟨"PageServer$Streams", "isFull", "()Z"⟩, prog_12_method_8_code, 1, (some .boolean)), 791, 92, 789, 790)
def bl_X10_changeFirstWindow_45 : List ax_R := (45, .aload_n 0, 0, 0, 0, 0) :: (46, .iload_n 1, 0, 0, 0, 0) :: (47, .putfield 16, 12, 1, 0, 367) :: (50, .return_, 0, 0, 0, 0) :: []
def bl_X10_changeFirstWindow_39 : List ax_R := (39, .iinc 2 1, 0, 0, 0, 0) :: (42, .goto (-40), 2, 0, 0, 0) :: bl_X10_changeFirstWindow_45
def bl_X10_changeFirstWindow_2 : List ax_R := (2, .iload_n 2, 0, 0, 0, 0) :: (3, .iconst 4, 0, 0, 0, 0) :: (4, .if_icmp .ge 41, 45, 0, 0, 0) :: (7, .aload_n 0, 0, 0, 0, 0) :: (8, .getfield 11, 12, 0, 1, 366) :: (11, .iload_n 2, 0, 0, 0, 0) :: (12, .aaload, 0, 0, 0, 0) :: (13, .getfield 23, 11, 0, 0, 320) ::
  (16, .ifCond .eq 23, 39, 0, 0, 0) :: (19, .aload_n 0, 0, 0, 0, 0) :: (20, .getfield 11, 12, 0, 1, 366) :: (23, .iload_n 2, 0, 0, 0, 0) :: (24, .aaload, 0, 0, 0, 0) :: (25, .dup, 0, 0, 0, 0) :: (26, .getfield 42, 11, 2, 0, 326) :: (29, .iload_n 1, 0, 0, 0, 0) ::
  (30, .aload_n 0, 0, 0, 0, 0) :: (31, .getfield 16, 12, 1, 0, 367) :: (34, .isub, 0, 0, 0, 0) :: (35, .iadd, 0, 0, 0, 0) :: (36, .putfield 42, 11, 2, 0, 326) :: bl_X10_changeFirstWindow_39
def bl_X10_changeFirstWindow_0 : List ax_R := (0, .iconst 0, 0, 0, 0, 0) :: (1, .istore_n 2, 0, 0, 0, 0) :: bl_X10_changeFirstWindow_2
def pr_X10_changeFirstWindow : List ax_R := bl_X10_changeFirstWindow_0
def pt_X10_changeFirstWindow : ax_T := ((⟨"PageServer$Streams", "changeFirstWindow", "(I)V"⟩, prog_12_method_9_code, 3, none), 638, 92, 636, 637)
def bl_X10_nextToSend_19 : List ax_R := (19, .areturn, 0, 0, 0, 0) :: []
def bl_X10_nextToSend_14 : List ax_R := (14, .aload_n 0, 0, 0, 0, 0) :: (15, .iconst 0, 0, 0, 0, 0) :: (16, .invokevirtual 45, 98, 2, 12, 878) :: bl_X10_nextToSend_19
def bl_X10_nextToSend_0 : List ax_R := (0, .aload_n 0, 0, 0, 0, 0) :: (1, .iload_n 1, 0, 0, 0, 0) :: (2, .invokevirtual 45, 98, 2, 12, 878) :: (5, .astore_n 2, 0, 0, 0, 0) :: (6, .aload_n 2, 0, 0, 0, 0) :: (7, .ifnull 7, 14, 0, 0, 0) :: (10, .aload_n 2, 0, 0, 0, 0) :: (11, .goto 8, 19, 0, 0, 0) :: bl_X10_nextToSend_14
def pr_X10_nextToSend : List ax_R := bl_X10_nextToSend_0
def pt_X10_nextToSend : ax_T := ((⟨"PageServer$Streams", "nextToSend", "(I)LPageServer$Stream;"⟩, prog_12_method_10_code, 3, (some (.object "PageServer$Stream"))), 877, 92, 875, 876)
def bl_X10_leastToSend_59 : List ax_R := (59, .aload_n 2, 0, 0, 0, 0) :: (60, .areturn, 0, 0, 0, 0) :: []
def bl_X10_leastToSend_53 : List ax_R := (53, .iinc 3 1, 0, 0, 0, 0) :: (56, .goto (-52), 4, 0, 0, 0) :: bl_X10_leastToSend_59
def bl_X10_leastToSend_50 : List ax_R := (50, .aload 4, 0, 0, 0, 0) :: (52, .astore_n 2, 0, 0, 0, 0) :: bl_X10_leastToSend_53
def bl_X10_leastToSend_4 : List ax_R := (4, .iload_n 3, 0, 0, 0, 0) :: (5, .iconst 4, 0, 0, 0, 0) :: (6, .if_icmp .ge 53, 59, 0, 0, 0) :: (9, .aload_n 0, 0, 0, 0, 0) :: (10, .getfield 11, 12, 0, 1, 366) :: (13, .iload_n 3, 0, 0, 0, 0) :: (14, .aaload, 0, 0, 0, 0) :: (15, .astore 4, 0, 0, 0, 0) ::
  (17, .aload 4, 0, 0, 0, 0) :: (19, .invokevirtual 48, 86, 1, 11, 882) :: (22, .ifCond .eq 31, 53, 0, 0, 0) :: (25, .aload 4, 0, 0, 0, 0) :: (27, .getfield 27, 11, 1, 0, 323) :: (30, .iload_n 1, 0, 0, 0, 0) :: (31, .if_icmp .le 22, 53, 0, 0, 0) :: (34, .aload_n 2, 0, 0, 0, 0) ::
  (35, .ifnull 15, 50, 0, 0, 0) :: (38, .aload 4, 0, 0, 0, 0) :: (40, .getfield 27, 11, 1, 0, 323) :: (43, .aload_n 2, 0, 0, 0, 0) :: (44, .getfield 27, 11, 1, 0, 323) :: (47, .if_icmp .ge 6, 53, 0, 0, 0) :: bl_X10_leastToSend_50
def bl_X10_leastToSend_0 : List ax_R := (0, .aconst_null, 0, 0, 0, 0) :: (1, .astore_n 2, 0, 0, 0, 0) :: (2, .iconst 0, 0, 0, 0, 0) :: (3, .istore_n 3, 0, 0, 0, 0) :: bl_X10_leastToSend_4
def pr_X10_leastToSend : List ax_R := bl_X10_leastToSend_0
def pt_X10_leastToSend : ax_T := ((⟨"PageServer$Streams", "leastToSend", "(I)LPageServer$Stream;"⟩, prog_12_method_11_code, 5, (some (.object "PageServer$Stream"))), 881, 92, 880, 32)
def bl_X11_init_0 : List ax_R := (0, .aload_n 0, 0, 0, 0, 0) :: (1, .invokespecial 1, 0, 0, 5, 117) :: (4, .aload_n 0, 0, 0, 0, 0) :: (5, .new 7, 10, 2, 0, 120) :: (8, .dup, 0, 0, 0, 0) :: (9, .invokespecial 9, 76, 1, 10, 0) :: (12, .putfield 10, 13, 0, 1, 458) :: (15, .aload_n 0, 0, 0, 0, 0) ::
  (16, .new 16, 3, 13, 0, 135) :: (19, .dup, 0, 0, 0, 0) :: (20, .aload_n 0, 0, 0, 0, 0) :: (21, .getfield 10, 13, 0, 1, 458) :: (24, .invokespecial 18, 11, 2, 0, 137) :: (27, .putfield 21, 13, 1, 1, 459) :: (30, .return_, 0, 0, 0, 0) :: []
def pr_X11_init : List ax_R := bl_X11_init_0
def pt_X11_init : ax_T := ((⟨"PageServer", "<init>", "()V"⟩, prog_1_method_1_code, 1, none), 116, 82, 115, 0)
def bl_X11_page_100 : List ax_R := (100, .aload_n 0, 0, 0, 0, 0) :: (101, .getfield 10, 13, 0, 1, 458) :: (104, .aload 5, 0, 0, 0, 0) :: (106, .iload_n 3, 0, 0, 0, 0) :: (107, .iload 4, 0, 0, 0, 0) :: (109, .invokevirtual 57, 83, 4, 10, 1224) :: (112, .ireturn, 0, 0, 0, 0) :: []
def bl_X11_page_80 : List ax_R := (80, .aload_n 0, 0, 0, 0, 0) :: (81, .getfield 10, 13, 0, 1, 458) :: (84, .invokevirtual 48, 82, 1, 10, 1204) :: (87, .ifCond .eq 13, 100, 0, 0, 0) :: (90, .new 52, 1, 0, 9, 1208) :: (93, .dup, 0, 0, 0, 0) :: (94, .ldc 54, 0, 0, 99, 0) :: (96, .invokespecial 56, 0, 0, 99, 0) ::
  (99, .athrow, 0, 0, 0, 0) :: bl_X11_page_100
def bl_X11_page_51 : List ax_R := (51, .iload_n 1, 0, 0, 0, 0) :: (52, .iload_n 2, 0, 0, 0, 0) :: (53, .invokestatic 38, 79, 2, 0, 1007) :: (56, .astore 5, 0, 0, 0, 0) :: (58, .aload_n 0, 0, 0, 0, 0) :: (59, .getfield 10, 13, 0, 1, 458) :: (62, .aload 5, 0, 0, 0, 0) :: (64, .invokevirtual 42, 81, 2, 10, 1202) ::
  (67, .ifnull 13, 80, 0, 0, 0) :: (70, .new 29, 0, 0, 9, 939) :: (73, .dup, 0, 0, 0, 0) :: (74, .ldc 46, 0, 0, 99, 0) :: (76, .invokespecial 33, 0, 0, 99, 0) :: (79, .athrow, 0, 0, 0, 0) :: bl_X11_page_80
def bl_X11_page_41 : List ax_R := (41, .new 29, 0, 0, 9, 939) :: (44, .dup, 0, 0, 0, 0) :: (45, .ldc 36, 0, 0, 99, 0) :: (47, .invokespecial 33, 0, 0, 99, 0) :: (50, .athrow, 0, 0, 0, 0) :: bl_X11_page_51
def bl_X11_page_18 : List ax_R := (18, .iload_n 3, 0, 0, 0, 0) :: (19, .ifCond .lt 22, 41, 0, 0, 0) :: (22, .iload_n 3, 0, 0, 0, 0) :: (23, .bipush 60, 0, 0, 0, 0) :: (25, .if_icmp .gt 16, 41, 0, 0, 0) :: (28, .iload 4, 0, 0, 0, 0) :: (30, .ifCond .lt 11, 41, 0, 0, 0) :: (33, .iload 4, 0, 0, 0, 0) ::
  (35, .sipush 255, 0, 0, 0, 0) :: (38, .if_icmp .le 13, 51, 0, 0, 0) :: bl_X11_page_41
def bl_X11_page_0 : List ax_R := (0, .iload_n 1, 0, 0, 0, 0) :: (1, .iload_n 2, 0, 0, 0, 0) :: (2, .invokestatic 25, 77, 2, 0, 933) :: (5, .ifCond .ne 13, 18, 0, 0, 0) :: (8, .new 29, 0, 0, 9, 939) :: (11, .dup, 0, 0, 0, 0) :: (12, .ldc 31, 0, 0, 99, 0) :: (14, .invokespecial 33, 0, 0, 99, 0) ::
  (17, .athrow, 0, 0, 0, 0) :: bl_X11_page_18
def pr_X11_page : List ax_R := bl_X11_page_0
def pt_X11_page : ax_T := ((⟨"PageServer", "page", "(IIII)I"⟩, prog_1_method_2_code, 6, (some .int)), 932, 82, 930, 931)
def bl_X11_feed_59 : List ax_R := (59, .iconst 1, 0, 0, 0, 0) :: (60, .ireturn, 0, 0, 0, 0) :: []
def bl_X11_feed_32 : List ax_R := (32, .iload_n 3, 0, 0, 0, 0) :: (33, .ifCond .lt 26, 59, 0, 0, 0) :: (36, .aload_n 0, 0, 0, 0, 0) :: (37, .getfield 21, 13, 1, 1, 459) :: (40, .iload_n 1, 0, 0, 0, 0) :: (41, .bipush 8, 0, 0, 0, 0) :: (43, .iload_n 3, 0, 0, 0, 0) :: (44, .imul, 0, 0, 0, 0) ::
  (45, .iushr, 0, 0, 0, 0) :: (46, .sipush 255, 0, 0, 0, 0) :: (49, .iand, 0, 0, 0, 0) :: (50, .invokevirtual 71, 13, 2, 3, 473) :: (53, .iinc 3 (-1), 0, 0, 0, 0) :: (56, .goto (-24), 32, 0, 0, 0) :: bl_X11_feed_59
def bl_X11_feed_28 : List ax_R := (28, .iload_n 2, 0, 0, 0, 0) :: (29, .iconst 1, 0, 0, 0, 0) :: (30, .isub, 0, 0, 0, 0) :: (31, .istore_n 3, 0, 0, 0, 0) :: bl_X11_feed_32
def bl_X11_feed_26 : List ax_R := (26, .iconst 0, 0, 0, 0, 0) :: (27, .ireturn, 0, 0, 0, 0) :: bl_X11_feed_28
def bl_X11_feed_0 : List ax_R := (0, .iload_n 2, 0, 0, 0, 0) :: (1, .iconst 1, 0, 0, 0, 0) :: (2, .if_icmp .lt 24, 26, 0, 0, 0) :: (5, .iload_n 2, 0, 0, 0, 0) :: (6, .iconst 4, 0, 0, 0, 0) :: (7, .if_icmp .gt 19, 26, 0, 0, 0) :: (10, .aload_n 0, 0, 0, 0, 0) :: (11, .getfield 21, 13, 1, 1, 459) ::
  (14, .getfield 61, 3, 3, 1, 415) :: (17, .invokevirtual 65, 66, 1, 7, 469) :: (20, .sipush 300, 0, 0, 0, 0) :: (23, .if_icmp .le 5, 28, 0, 0, 0) :: bl_X11_feed_26
def pr_X11_feed : List ax_R := bl_X11_feed_0
def pt_X11_feed : ax_T := ((⟨"PageServer", "feed", "(II)Z"⟩, prog_1_method_3_code, 4, (some .boolean)), 468, 82, 466, 467)
def bl_X11_restart_0 : List ax_R := (0, .aload_n 0, 0, 0, 0, 0) :: (1, .getfield 21, 13, 1, 1, 459) :: (4, .invokevirtual 75, 12, 1, 3, 897) :: (7, .return_, 0, 0, 0, 0) :: []
def pr_X11_restart : List ax_R := bl_X11_restart_0
def pt_X11_restart : ax_T := ((⟨"PageServer", "restart", "()V"⟩, prog_1_method_4_code, 1, none), 896, 82, 894, 895)
def bl_X11_waiting_0 : List ax_R := (0, .aload_n 0, 0, 0, 0, 0) :: (1, .getfield 21, 13, 1, 1, 459) :: (4, .getfield 61, 3, 3, 1, 415) :: (7, .invokevirtual 65, 66, 1, 7, 469) :: (10, .ireturn, 0, 0, 0, 0) :: []
def pr_X11_waiting : List ax_R := bl_X11_waiting_0
def pt_X11_waiting : ax_T := ((⟨"PageServer", "waiting", "()I"⟩, prog_1_method_5_code, 1, (some .int)), 901, 82, 899, 900)
def bl_X11_out_28 : List ax_R := (28, .aload_n 0, 0, 0, 0, 0) :: (29, .getfield 21, 13, 1, 1, 459) :: (32, .getfield 61, 3, 3, 1, 415) :: (35, .iload_n 1, 0, 0, 0, 0) :: (36, .invokevirtual 83, 67, 2, 7, 1271) :: (39, .ireturn, 0, 0, 0, 0) :: []
def bl_X11_out_18 : List ax_R := (18, .new 78, 2, 0, 9, 1255) :: (21, .dup, 0, 0, 0, 0) :: (22, .ldc 80, 0, 0, 99, 0) :: (24, .invokespecial 82, 0, 0, 99, 0) :: (27, .athrow, 0, 0, 0, 0) :: bl_X11_out_28
def bl_X11_out_0 : List ax_R := (0, .iload_n 1, 0, 0, 0, 0) :: (1, .ifCond .lt 17, 18, 0, 0, 0) :: (4, .iload_n 1, 0, 0, 0, 0) :: (5, .aload_n 0, 0, 0, 0, 0) :: (6, .getfield 21, 13, 1, 1, 459) :: (9, .getfield 61, 3, 3, 1, 415) :: (12, .invokevirtual 65, 66, 1, 7, 469) :: (15, .if_icmp .lt 13, 28, 0, 0, 0) :: bl_X11_out_18
def pr_X11_out : List ax_R := bl_X11_out_0
def pt_X11_out : ax_T := ((⟨"PageServer", "out", "(I)I"⟩, prog_1_method_6_code, 2, (some .int)), 1254, 82, 1252, 1253)
def bl_X11_take_0 : List ax_R := (0, .aload_n 0, 0, 0, 0, 0) :: (1, .getfield 21, 13, 1, 1, 459) :: (4, .getfield 61, 3, 3, 1, 415) :: (7, .iload_n 1, 0, 0, 0, 0) :: (8, .invokevirtual 87, 70, 2, 7, 906) :: (11, .return_, 0, 0, 0, 0) :: []
def pr_X11_take : List ax_R := bl_X11_take_0
def pt_X11_take : ax_T := ((⟨"PageServer", "take", "(I)V"⟩, prog_1_method_7_code, 2, none), 905, 82, 903, 904)
def bl_X11_away_0 : List ax_R := (0, .aload_n 0, 0, 0, 0, 0) :: (1, .getfield 21, 13, 1, 1, 459) :: (4, .getfield 90, 3, 10, 0, 426) :: (7, .ireturn, 0, 0, 0, 0) :: []
def pr_X11_away : List ax_R := bl_X11_away_0
def pt_X11_away : ax_T := ((⟨"PageServer", "away", "()I"⟩, prog_1_method_8_code, 1, (some .int)), 918, 82, 916, 917)
def bl_X11_about_130 : List ax_R := (130, .iconst (-1), 0, 0, 0, 0) :: (131, .ireturn, 0, 0, 0, 0) :: []
def bl_X11_about_119 : List ax_R := (119, .aload_n 0, 0, 0, 0, 0) :: (120, .getfield 21, 13, 1, 1, 459) :: (123, .getfield 126, 3, 5, 1, 419) :: (126, .getfield 130, 2, 4, 0, 272) :: (129, .ireturn, 0, 0, 0, 0) :: bl_X11_about_130
def bl_X11_about_108 : List ax_R := (108, .aload_n 0, 0, 0, 0, 0) :: (109, .getfield 21, 13, 1, 1, 459) :: (112, .getfield 112, 3, 4, 1, 417) :: (115, .getfield 123, 6, 4, 0, 248) :: (118, .ireturn, 0, 0, 0, 0) :: bl_X11_about_119
def bl_X11_about_97 : List ax_R := (97, .aload_n 0, 0, 0, 0, 0) :: (98, .getfield 21, 13, 1, 1, 459) :: (101, .getfield 112, 3, 4, 1, 417) :: (104, .getfield 121, 6, 3, 0, 246) :: (107, .ireturn, 0, 0, 0, 0) :: bl_X11_about_108
def bl_X11_about_86 : List ax_R := (86, .aload_n 0, 0, 0, 0, 0) :: (87, .getfield 21, 13, 1, 1, 459) :: (90, .getfield 112, 3, 4, 1, 417) :: (93, .getfield 116, 6, 2, 0, 244) :: (96, .ireturn, 0, 0, 0, 0) :: bl_X11_about_97
def bl_X11_about_78 : List ax_R := (78, .aload_n 0, 0, 0, 0, 0) :: (79, .getfield 21, 13, 1, 1, 459) :: (82, .getfield 109, 3, 12, 0, 430) :: (85, .ireturn, 0, 0, 0, 0) :: bl_X11_about_86
def bl_X11_about_70 : List ax_R := (70, .aload_n 0, 0, 0, 0, 0) :: (71, .getfield 21, 13, 1, 1, 459) :: (74, .getfield 106, 3, 11, 0, 428) :: (77, .ireturn, 0, 0, 0, 0) :: bl_X11_about_78
def bl_X11_about_59 : List ax_R := (59, .aload_n 0, 0, 0, 0, 0) :: (60, .getfield 21, 13, 1, 1, 459) :: (63, .getfield 94, 3, 6, 1, 421) :: (66, .invokevirtual 103, 92, 1, 12, 923) :: (69, .ireturn, 0, 0, 0, 0) :: bl_X11_about_70
def bl_X11_about_48 : List ax_R := (48, .aload_n 0, 0, 0, 0, 0) :: (49, .getfield 21, 13, 1, 1, 459) :: (52, .getfield 94, 3, 6, 1, 421) :: (55, .getfield 98, 12, 2, 0, 370) :: (58, .ireturn, 0, 0, 0, 0) :: bl_X11_about_59
def bl_X11_about_0 : List ax_R := (0, .iload_n 1, 0, 0, 0, 0) :: (1, .tableswitch 129 0 7 #[47, 58, 69, 77, 85, 96, 107, 118], 0, 0, 0, 0) :: bl_X11_about_48
def pr_X11_about : List ax_R := bl_X11_about_0
def pt_X11_about : ax_T := ((⟨"PageServer", "about", "(I)I"⟩, prog_1_method_9_code, 2, (some .int)), 922, 82, 920, 921)
def bl_X11_stream_84 : List ax_R := (84, .new 78, 2, 0, 9, 1255) :: (87, .dup, 0, 0, 0, 0) :: (88, .ldc 151, 0, 0, 99, 0) :: (90, .invokespecial 82, 0, 0, 99, 0) :: (93, .athrow, 0, 0, 0, 0) :: []
def bl_X11_stream_83 : List ax_R := (83, .ireturn, 0, 0, 0, 0) :: bl_X11_stream_84
def bl_X11_stream_82 : List ax_R := (82, .iconst 0, 0, 0, 0, 0) :: bl_X11_stream_83
def bl_X11_stream_71 : List ax_R := (71, .aload_n 3, 0, 0, 0, 0) :: (72, .getfield 147, 11, 6, 0, 339) :: (75, .ifCond .eq 7, 82, 0, 0, 0) :: (78, .iconst 1, 0, 0, 0, 0) :: (79, .goto 4, 83, 0, 0, 0) :: bl_X11_stream_82
def bl_X11_stream_66 : List ax_R := (66, .aload_n 3, 0, 0, 0, 0) :: (67, .getfield 144, 11, 5, 0, 336) :: (70, .ireturn, 0, 0, 0, 0) :: bl_X11_stream_71
def bl_X11_stream_61 : List ax_R := (61, .aload_n 3, 0, 0, 0, 0) :: (62, .getfield 141, 11, 3, 0, 330) :: (65, .ireturn, 0, 0, 0, 0) :: bl_X11_stream_66
def bl_X11_stream_56 : List ax_R := (56, .aload_n 3, 0, 0, 0, 0) :: (57, .getfield 138, 11, 2, 0, 327) :: (60, .ireturn, 0, 0, 0, 0) :: bl_X11_stream_61
def bl_X11_stream_26 : List ax_R := (26, .iload_n 2, 0, 0, 0, 0) :: (27, .tableswitch 57 0 3 #[29, 34, 39, 44], 0, 0, 0, 0) :: bl_X11_stream_56
def bl_X11_stream_0 : List ax_R := (0, .aload_n 0, 0, 0, 0, 0) :: (1, .getfield 21, 13, 1, 1, 459) :: (4, .getfield 94, 3, 6, 1, 421) :: (7, .iload_n 1, 0, 0, 0, 0) :: (8, .invokevirtual 133, 91, 2, 12, 1282) :: (11, .astore_n 3, 0, 0, 0, 0) :: (12, .aload_n 3, 0, 0, 0, 0) :: (13, .ifnonnull 13, 26, 0, 0, 0) ::
  (16, .new 78, 2, 0, 9, 1255) :: (19, .dup, 0, 0, 0, 0) :: (20, .ldc 136, 0, 0, 99, 0) :: (22, .invokespecial 82, 0, 0, 99, 0) :: (25, .athrow, 0, 0, 0, 0) :: bl_X11_stream_26
def pr_X11_stream : List ax_R := bl_X11_stream_0
def pt_X11_stream : ax_T := ((⟨"PageServer", "stream", "(II)I"⟩, prog_1_method_10_code, 4, (some .int)), 1281, 82, 1279, 1280)
def bl_X11_entry_79 : List ax_R := (79, .aload 5, 0, 0, 0, 0) :: (81, .iload_n 3, 0, 0, 0, 0) :: (82, .invokevirtual 174, 178, 2, 0, 1296) :: (85, .ireturn, 0, 0, 0, 0) :: []
def bl_X11_entry_69 : List ax_R := (69, .new 78, 2, 0, 9, 1255) :: (72, .dup, 0, 0, 0, 0) :: (73, .ldc 172, 0, 0, 99, 0) :: (75, .invokespecial 82, 0, 0, 99, 0) :: (78, .athrow, 0, 0, 0, 0) :: bl_X11_entry_79
def bl_X11_entry_54 : List ax_R := (54, .astore 5, 0, 0, 0, 0) :: (56, .iload_n 3, 0, 0, 0, 0) :: (57, .ifCond .lt 12, 69, 0, 0, 0) :: (60, .iload_n 3, 0, 0, 0, 0) :: (61, .aload 5, 0, 0, 0, 0) :: (63, .invokevirtual 167, 176, 1, 0, 1294) :: (66, .if_icmp .lt 13, 79, 0, 0, 0) :: bl_X11_entry_69
def bl_X11_entry_49 : List ax_R := (49, .aload 4, 0, 0, 0, 0) :: (51, .getfield 164, 4, 1, 1, 221) :: bl_X11_entry_54
def bl_X11_entry_37 : List ax_R := (37, .iload_n 2, 0, 0, 0, 0) :: (38, .ifCond .ne 11, 49, 0, 0, 0) :: (41, .aload 4, 0, 0, 0, 0) :: (43, .getfield 158, 4, 0, 1, 218) :: (46, .goto 8, 54, 0, 0, 0) :: bl_X11_entry_49
def bl_X11_entry_27 : List ax_R := (27, .new 78, 2, 0, 9, 1255) :: (30, .dup, 0, 0, 0, 0) :: (31, .ldc 156, 0, 0, 99, 0) :: (33, .invokespecial 82, 0, 0, 99, 0) :: (36, .athrow, 0, 0, 0, 0) :: bl_X11_entry_37
def bl_X11_entry_0 : List ax_R := (0, .aload_n 0, 0, 0, 0, 0) :: (1, .getfield 21, 13, 1, 1, 459) :: (4, .getfield 112, 3, 4, 1, 417) :: (7, .iload_n 1, 0, 0, 0, 0) :: (8, .invokevirtual 153, 59, 2, 6, 1292) :: (11, .astore 4, 0, 0, 0, 0) :: (13, .aload 4, 0, 0, 0, 0) :: (15, .ifnull 12, 27, 0, 0, 0) ::
  (18, .iload_n 2, 0, 0, 0, 0) :: (19, .ifCond .lt 8, 27, 0, 0, 0) :: (22, .iload_n 2, 0, 0, 0, 0) :: (23, .iconst 1, 0, 0, 0, 0) :: (24, .if_icmp .le 13, 37, 0, 0, 0) :: bl_X11_entry_27
def pr_X11_entry : List ax_R := bl_X11_entry_0
def pt_X11_entry : ax_T := ((⟨"PageServer", "entry", "(III)I"⟩, prog_1_method_11_code, 6, (some .int)), 1291, 82, 1289, 1290)
def bl_X12_init_0 : List ax_R := (0, .aload_n 0, 0, 0, 0, 0) :: (1, .invokespecial 1, 0, 0, 5, 1302) :: (4, .aload_n 0, 0, 0, 0, 0) :: (5, .bipush 8, 0, 0, 0, 0) :: (7, .newarray .int, 100, 0, 0, 154) :: (9, .putfield 7, 14, 2, 1, 1321) :: (12, .aload_n 0, 0, 0, 0, 0) :: (13, .bipush 64, 0, 0, 0, 0) ::
  (15, .newarray .char, 101, 0, 0, 761) :: (17, .putfield 13, 14, 3, 1, 1322) :: (20, .aload_n 0, 0, 0, 0, 0) :: (21, .bipush 8, 0, 0, 0, 0) :: (23, .newarray .int, 100, 0, 0, 154) :: (25, .putfield 17, 14, 4, 1, 1323) :: (28, .aload_n 0, 0, 0, 0, 0) :: (29, .bipush 8, 0, 0, 0, 0) ::
  (31, .newarray .int, 100, 0, 0, 154) :: (33, .putfield 20, 14, 5, 1, 1324) :: (36, .aload_n 0, 0, 0, 0, 0) :: (37, .bipush 17, 0, 0, 0, 0) :: (39, .newarray .int, 100, 0, 0, 154) :: (41, .putfield 23, 14, 8, 1, 1327) :: (44, .aload_n 0, 0, 0, 0, 0) :: (45, .sipush 340, 0, 0, 0, 0) ::
  (48, .newarray .char, 101, 0, 0, 761) :: (50, .putfield 26, 14, 9, 1, 1328) :: (53, .aload_n 0, 0, 0, 0, 0) :: (54, .bipush 17, 0, 0, 0, 0) :: (56, .newarray .int, 100, 0, 0, 154) :: (58, .putfield 29, 14, 10, 1, 1329) :: (61, .aload_n 0, 0, 0, 0, 0) :: (62, .sipush 340, 0, 0, 0, 0) ::
  (65, .newarray .char, 101, 0, 0, 761) :: (67, .putfield 32, 14, 11, 1, 1330) :: (70, .aload_n 0, 0, 0, 0, 0) :: (71, .iconst 4, 0, 0, 0, 0) :: (72, .newarray .int, 100, 0, 0, 154) :: (74, .putfield 35, 14, 12, 1, 1331) :: (77, .aload_n 0, 0, 0, 0, 0) :: (78, .iconst 4, 0, 0, 0, 0) ::
  (79, .newarray .int, 100, 0, 0, 154) :: (81, .putfield 38, 14, 13, 1, 1332) :: (84, .aload_n 0, 0, 0, 0, 0) :: (85, .iconst 4, 0, 0, 0, 0) :: (86, .newarray .int, 100, 0, 0, 154) :: (88, .putfield 41, 14, 14, 1, 1333) :: (91, .aload_n 0, 0, 0, 0, 0) :: (92, .iconst 4, 0, 0, 0, 0) ::
  (93, .newarray .int, 100, 0, 0, 154) :: (95, .putfield 44, 14, 15, 1, 1334) :: (98, .aload_n 0, 0, 0, 0, 0) :: (99, .iconst 4, 0, 0, 0, 0) :: (100, .newarray .int, 100, 0, 0, 154) :: (102, .putfield 47, 14, 16, 1, 1335) :: (105, .aload_n 0, 0, 0, 0, 0) :: (106, .iconst 4, 0, 0, 0, 0) ::
  (107, .newarray .int, 100, 0, 0, 154) :: (109, .putfield 50, 14, 17, 1, 1336) :: (112, .aload_n 0, 0, 0, 0, 0) :: (113, .iconst 4, 0, 0, 0, 0) :: (114, .newarray .boolean, 103, 0, 0, 1485) :: (116, .putfield 53, 14, 18, 1, 1337) :: (119, .aload_n 0, 0, 0, 0, 0) :: (120, .iconst 4, 0, 0, 0, 0) ::
  (121, .newarray .int, 100, 0, 0, 154) :: (123, .putfield 57, 14, 19, 1, 1338) :: (126, .aload_n 0, 0, 0, 0, 0) :: (127, .iconst 4, 0, 0, 0, 0) :: (128, .newarray .int, 100, 0, 0, 154) :: (130, .putfield 60, 14, 20, 1, 1339) :: (133, .aload_n 0, 0, 0, 0, 0) :: (134, .bipush 80, 0, 0, 0, 0) ::
  (136, .newarray .char, 101, 0, 0, 761) :: (138, .putfield 63, 14, 21, 1, 1340) :: (141, .aload_n 0, 0, 0, 0, 0) :: (142, .sipush 204, 0, 0, 0, 0) :: (145, .newarray .int, 100, 0, 0, 154) :: (147, .putfield 66, 14, 24, 1, 1343) :: (150, .aload_n 0, 0, 0, 0, 0) :: (151, .bipush 100, 0, 0, 0, 0) ::
  (153, .newarray .int, 100, 0, 0, 154) :: (155, .putfield 69, 14, 35, 1, 1354) :: (158, .aload_n 0, 0, 0, 0, 0) :: (159, .bipush 20, 0, 0, 0, 0) :: (161, .newarray .char, 101, 0, 0, 761) :: (163, .putfield 72, 14, 46, 1, 1365) :: (166, .aload_n 0, 0, 0, 0, 0) :: (167, .sipush 1200, 0, 0, 0, 0) ::
  (170, .newarray .int, 100, 0, 0, 154) :: (172, .putfield 75, 14, 54, 1, 1373) :: (175, .aload_n 0, 0, 0, 0, 0) :: (176, .iconst 0, 0, 0, 0, 0) :: (177, .bipush 109, 0, 0, 0, 0) :: (179, .iconst 0, 0, 0, 0, 0) :: (180, .bipush 71, 0, 0, 0, 0) :: (182, .bipush 69, 0, 0, 0, 0) ::
  (184, .bipush 84, 0, 0, 0, 0) :: (186, .iconst 0, 0, 0, 0, 0) :: (187, .invokevirtual 78, 111, 8, 14, 1303) :: (190, .aload_n 0, 0, 0, 0, 0) :: (191, .iconst 1, 0, 0, 0, 0) :: (192, .bipush 109, 0, 0, 0, 0) :: (194, .iconst 0, 0, 0, 0, 0) :: (195, .bipush 72, 0, 0, 0, 0) ::
  (197, .bipush 69, 0, 0, 0, 0) :: (199, .bipush 65, 0, 0, 0, 0) :: (201, .bipush 68, 0, 0, 0, 0) :: (203, .invokevirtual 78, 111, 8, 14, 1303) :: (206, .aload_n 0, 0, 0, 0, 0) :: (207, .iconst 2, 0, 0, 0, 0) :: (208, .bipush 112, 0, 0, 0, 0) :: (210, .iconst 0, 0, 0, 0, 0) ::
  (211, .bipush 47, 0, 0, 0, 0) :: (213, .iconst 0, 0, 0, 0, 0) :: (214, .iconst 0, 0, 0, 0, 0) :: (215, .iconst 0, 0, 0, 0, 0) :: (216, .invokevirtual 78, 111, 8, 14, 1303) :: (219, .aload_n 0, 0, 0, 0, 0) :: (220, .iconst 3, 0, 0, 0, 0) :: (221, .bipush 104, 0, 0, 0, 0) ::
  (223, .bipush 111, 0, 0, 0, 0) :: (225, .bipush 115, 0, 0, 0, 0) :: (227, .bipush 116, 0, 0, 0, 0) :: (229, .iconst 0, 0, 0, 0, 0) :: (230, .iconst 0, 0, 0, 0, 0) :: (231, .invokevirtual 78, 111, 8, 14, 1303) :: (234, .aload_n 0, 0, 0, 0, 0) :: (235, .iconst 4, 0, 0, 0, 0) ::
  (236, .bipush 108, 0, 0, 0, 0) :: (238, .bipush 101, 0, 0, 0, 0) :: (240, .bipush 110, 0, 0, 0, 0) :: (242, .bipush 103, 0, 0, 0, 0) :: (244, .bipush 116, 0, 0, 0, 0) :: (246, .bipush 104, 0, 0, 0, 0) :: (248, .invokevirtual 78, 111, 8, 14, 1303) :: (251, .aload_n 0, 0, 0, 0, 0) ::
  (252, .iconst 5, 0, 0, 0, 0) :: (253, .bipush 115, 0, 0, 0, 0) :: (255, .iconst 0, 0, 0, 0, 0) :: (256, .bipush 50, 0, 0, 0, 0) :: (258, .bipush 48, 0, 0, 0, 0) :: (260, .bipush 48, 0, 0, 0, 0) :: (262, .iconst 0, 0, 0, 0, 0) :: (263, .invokevirtual 78, 111, 8, 14, 1303) ::
  (266, .aload_n 0, 0, 0, 0, 0) :: (267, .bipush 6, 0, 0, 0, 0) :: (269, .bipush 115, 0, 0, 0, 0) :: (271, .iconst 0, 0, 0, 0, 0) :: (272, .bipush 52, 0, 0, 0, 0) :: (274, .bipush 48, 0, 0, 0, 0) :: (276, .bipush 52, 0, 0, 0, 0) :: (278, .iconst 0, 0, 0, 0, 0) ::
  (279, .invokevirtual 78, 111, 8, 14, 1303) :: (282, .aload_n 0, 0, 0, 0, 0) :: (283, .getfield 23, 14, 8, 1, 1327) :: (286, .iconst 3, 0, 0, 0, 0) :: (287, .iconst 4, 0, 0, 0, 0) :: (288, .iastore, 0, 0, 0, 0) :: (289, .aload_n 0, 0, 0, 0, 0) :: (290, .getfield 23, 14, 8, 1, 1327) ::
  (293, .iconst 4, 0, 0, 0, 0) :: (294, .bipush 6, 0, 0, 0, 0) :: (296, .iastore, 0, 0, 0, 0) :: (297, .aload_n 0, 0, 0, 0, 0) :: (298, .invokevirtual 82, 115, 1, 14, 1307) :: (301, .return_, 0, 0, 0, 0) :: []
def pr_X12_init : List ax_R := bl_X12_init_0
def pt_X12_init : ax_T := ((⟨"PageServerModel", "<init>", "()V"⟩, prog_14_method_1_code, 1, none), 1301, 94, 1300, 0)
def bl_X12_fixed_227 : List ax_R := (227, .iastore, 0, 0, 0, 0) :: (228, .return_, 0, 0, 0, 0) :: []
def bl_X12_fixed_226 : List ax_R := (226, .iconst 1, 0, 0, 0, 0) :: bl_X12_fixed_227
def bl_X12_fixed_217 : List ax_R := (217, .iload 6, 0, 0, 0, 0) :: (219, .ifCond .le 7, 226, 0, 0, 0) :: (222, .iconst 3, 0, 0, 0, 0) :: (223, .goto 4, 227, 0, 0, 0) :: bl_X12_fixed_226
def bl_X12_fixed_208 : List ax_R := (208, .iload 7, 0, 0, 0, 0) :: (210, .ifCond .le 7, 217, 0, 0, 0) :: (213, .iconst 4, 0, 0, 0, 0) :: (214, .goto 13, 227, 0, 0, 0) :: bl_X12_fixed_217
def bl_X12_fixed_140 : List ax_R := (140, .castore, 0, 0, 0, 0) :: (141, .aload_n 0, 0, 0, 0, 0) :: (142, .getfield 23, 14, 8, 1, 1327) :: (145, .iload_n 1, 0, 0, 0, 0) :: (146, .iconst 2, 0, 0, 0, 0) :: (147, .iastore, 0, 0, 0, 0) :: (148, .aload_n 0, 0, 0, 0, 0) :: (149, .getfield 32, 14, 11, 1, 1330) ::
  (152, .iload 9, 0, 0, 0, 0) :: (154, .iload 4, 0, 0, 0, 0) :: (156, .i2c, 0, 0, 0, 0) :: (157, .castore, 0, 0, 0, 0) :: (158, .aload_n 0, 0, 0, 0, 0) :: (159, .getfield 32, 14, 11, 1, 1330) :: (162, .iload 9, 0, 0, 0, 0) :: (164, .iconst 1, 0, 0, 0, 0) ::
  (165, .iadd, 0, 0, 0, 0) :: (166, .iload 5, 0, 0, 0, 0) :: (168, .i2c, 0, 0, 0, 0) :: (169, .castore, 0, 0, 0, 0) :: (170, .aload_n 0, 0, 0, 0, 0) :: (171, .getfield 32, 14, 11, 1, 1330) :: (174, .iload 9, 0, 0, 0, 0) :: (176, .iconst 2, 0, 0, 0, 0) ::
  (177, .iadd, 0, 0, 0, 0) :: (178, .iload 6, 0, 0, 0, 0) :: (180, .i2c, 0, 0, 0, 0) :: (181, .castore, 0, 0, 0, 0) :: (182, .aload_n 0, 0, 0, 0, 0) :: (183, .getfield 32, 14, 11, 1, 1330) :: (186, .iload 9, 0, 0, 0, 0) :: (188, .iconst 3, 0, 0, 0, 0) ::
  (189, .iadd, 0, 0, 0, 0) :: (190, .iload 7, 0, 0, 0, 0) :: (192, .i2c, 0, 0, 0, 0) :: (193, .castore, 0, 0, 0, 0) :: (194, .aload_n 0, 0, 0, 0, 0) :: (195, .getfield 29, 14, 10, 1, 1329) :: (198, .iload_n 1, 0, 0, 0, 0) :: (199, .iload 8, 0, 0, 0, 0) ::
  (201, .ifCond .eq 7, 208, 0, 0, 0) :: (204, .iconst 0, 0, 0, 0, 0) :: (205, .goto 22, 227, 0, 0, 0) :: bl_X12_fixed_208
def bl_X12_fixed_139 : List ax_R := (139, .iconst 0, 0, 0, 0, 0) :: bl_X12_fixed_140
def bl_X12_fixed_119 : List ax_R := (119, .castore, 0, 0, 0, 0) :: (120, .aload_n 0, 0, 0, 0, 0) :: (121, .getfield 26, 14, 9, 1, 1328) :: (124, .iload 9, 0, 0, 0, 0) :: (126, .iconst 5, 0, 0, 0, 0) :: (127, .iadd, 0, 0, 0, 0) :: (128, .iload 8, 0, 0, 0, 0) :: (130, .ifCond .eq 9, 139, 0, 0, 0) ::
  (133, .iload 7, 0, 0, 0, 0) :: (135, .i2c, 0, 0, 0, 0) :: (136, .goto 4, 140, 0, 0, 0) :: bl_X12_fixed_139
def bl_X12_fixed_118 : List ax_R := (118, .iconst 0, 0, 0, 0, 0) :: bl_X12_fixed_119
def bl_X12_fixed_98 : List ax_R := (98, .castore, 0, 0, 0, 0) :: (99, .aload_n 0, 0, 0, 0, 0) :: (100, .getfield 26, 14, 9, 1, 1328) :: (103, .iload 9, 0, 0, 0, 0) :: (105, .iconst 4, 0, 0, 0, 0) :: (106, .iadd, 0, 0, 0, 0) :: (107, .iload 8, 0, 0, 0, 0) :: (109, .ifCond .eq 9, 118, 0, 0, 0) ::
  (112, .iload 6, 0, 0, 0, 0) :: (114, .i2c, 0, 0, 0, 0) :: (115, .goto 4, 119, 0, 0, 0) :: bl_X12_fixed_118
def bl_X12_fixed_97 : List ax_R := (97, .iconst 0, 0, 0, 0, 0) :: bl_X12_fixed_98
def bl_X12_fixed_77 : List ax_R := (77, .castore, 0, 0, 0, 0) :: (78, .aload_n 0, 0, 0, 0, 0) :: (79, .getfield 26, 14, 9, 1, 1328) :: (82, .iload 9, 0, 0, 0, 0) :: (84, .iconst 3, 0, 0, 0, 0) :: (85, .iadd, 0, 0, 0, 0) :: (86, .iload 8, 0, 0, 0, 0) :: (88, .ifCond .eq 9, 97, 0, 0, 0) ::
  (91, .iload 5, 0, 0, 0, 0) :: (93, .i2c, 0, 0, 0, 0) :: (94, .goto 4, 98, 0, 0, 0) :: bl_X12_fixed_97
def bl_X12_fixed_76 : List ax_R := (76, .iconst 0, 0, 0, 0, 0) :: bl_X12_fixed_77
def bl_X12_fixed_56 : List ax_R := (56, .castore, 0, 0, 0, 0) :: (57, .aload_n 0, 0, 0, 0, 0) :: (58, .getfield 26, 14, 9, 1, 1328) :: (61, .iload 9, 0, 0, 0, 0) :: (63, .iconst 2, 0, 0, 0, 0) :: (64, .iadd, 0, 0, 0, 0) :: (65, .iload 8, 0, 0, 0, 0) :: (67, .ifCond .eq 9, 76, 0, 0, 0) ::
  (70, .iload 4, 0, 0, 0, 0) :: (72, .i2c, 0, 0, 0, 0) :: (73, .goto 4, 77, 0, 0, 0) :: bl_X12_fixed_76
def bl_X12_fixed_54 : List ax_R := (54, .iload_n 2, 0, 0, 0, 0) :: (55, .i2c, 0, 0, 0, 0) :: bl_X12_fixed_56
def bl_X12_fixed_35 : List ax_R := (35, .castore, 0, 0, 0, 0) :: (36, .aload_n 0, 0, 0, 0, 0) :: (37, .getfield 26, 14, 9, 1, 1328) :: (40, .iload 9, 0, 0, 0, 0) :: (42, .iconst 1, 0, 0, 0, 0) :: (43, .iadd, 0, 0, 0, 0) :: (44, .iload 8, 0, 0, 0, 0) :: (46, .ifCond .eq 8, 54, 0, 0, 0) ::
  (49, .iload_n 3, 0, 0, 0, 0) :: (50, .i2c, 0, 0, 0, 0) :: (51, .goto 5, 56, 0, 0, 0) :: bl_X12_fixed_54
def bl_X12_fixed_33 : List ax_R := (33, .bipush 58, 0, 0, 0, 0) :: bl_X12_fixed_35
def bl_X12_fixed_9 : List ax_R := (9, .istore 8, 0, 0, 0, 0) :: (11, .bipush 20, 0, 0, 0, 0) :: (13, .iload_n 1, 0, 0, 0, 0) :: (14, .imul, 0, 0, 0, 0) :: (15, .istore 9, 0, 0, 0, 0) :: (17, .aload_n 0, 0, 0, 0, 0) :: (18, .getfield 26, 14, 9, 1, 1328) :: (21, .iload 9, 0, 0, 0, 0) ::
  (23, .iload 8, 0, 0, 0, 0) :: (25, .ifCond .eq 8, 33, 0, 0, 0) :: (28, .iload_n 2, 0, 0, 0, 0) :: (29, .i2c, 0, 0, 0, 0) :: (30, .goto 5, 35, 0, 0, 0) :: bl_X12_fixed_33
def bl_X12_fixed_8 : List ax_R := (8, .iconst 0, 0, 0, 0, 0) :: bl_X12_fixed_9
def bl_X12_fixed_0 : List ax_R := (0, .iload_n 3, 0, 0, 0, 0) :: (1, .ifCond .le 7, 8, 0, 0, 0) :: (4, .iconst 1, 0, 0, 0, 0) :: (5, .goto 4, 9, 0, 0, 0) :: bl_X12_fixed_8
def pr_X12_fixed : List ax_R := bl_X12_fixed_0
def pt_X12_fixed : ax_T := ((⟨"PageServerModel", "fixed", "(IIIIIII)V"⟩, prog_14_method_2_code, 10, none), 1306, 94, 1305, 35)
def bl_X12_thrown_0 : List ax_R := (0, .aload_n 0, 0, 0, 0, 0) :: (1, .getfield 85, 14, 0, 0, 1319) :: (4, .ireturn, 0, 0, 0, 0) :: []
def pr_X12_thrown : List ax_R := bl_X12_thrown_0
def pt_X12_thrown : ax_T := ((⟨"PageServerModel", "thrown", "()I"⟩, prog_14_method_3_code, 1, (some .int)), 1489, 94, 1487, 1488)
def bl_X12_refuse_0 : List ax_R := (0, .aload_n 0, 0, 0, 0, 0) :: (1, .iload_n 1, 0, 0, 0, 0) :: (2, .putfield 85, 14, 0, 0, 1319) :: (5, .iconst 0, 0, 0, 0, 0) :: (6, .ireturn, 0, 0, 0, 0) :: []
def pr_X12_refuse : List ax_R := bl_X12_refuse_0
def pt_X12_refuse : ax_T := ((⟨"PageServerModel", "refuse", "(I)I"⟩, prog_14_method_4_code, 2, (some .int)), 1512, 94, 1511, 39)
def bl_X12_outside_15 : List ax_R := (15, .ireturn, 0, 0, 0, 0) :: []
def bl_X12_outside_14 : List ax_R := (14, .iconst 0, 0, 0, 0, 0) :: bl_X12_outside_15
def bl_X12_outside_10 : List ax_R := (10, .iconst 1, 0, 0, 0, 0) :: (11, .goto 4, 15, 0, 0, 0) :: bl_X12_outside_14
def bl_X12_outside_0 : List ax_R := (0, .iload_n 0, 0, 0, 0, 0) :: (1, .iload_n 1, 0, 0, 0, 0) :: (2, .if_icmp .lt 8, 10, 0, 0, 0) :: (5, .iload_n 0, 0, 0, 0, 0) :: (6, .iload_n 2, 0, 0, 0, 0) :: (7, .if_icmp .le 7, 14, 0, 0, 0) :: bl_X12_outside_10
def pr_X12_outside : List ax_R := bl_X12_outside_0
def pt_X12_outside : ax_T := ((⟨"PageServerModel", "outside", "(III)Z"⟩, prog_14_method_5_code, 3, (some .boolean)), 1508, 94, 1507, 0)
def bl_X12_begin_20 : List ax_R := (20, .aload_n 0, 0, 0, 0, 0) :: (21, .iconst 0, 0, 0, 0, 0) :: (22, .putfield 89, 14, 6, 0, 1325) :: (25, .aload_n 0, 0, 0, 0, 0) :: (26, .bipush 24, 0, 0, 0, 0) :: (28, .putfield 92, 14, 7, 0, 1326) :: (31, .aload_n 0, 0, 0, 0, 0) :: (32, .iconst 0, 0, 0, 0, 0) ::
  (33, .putfield 95, 14, 22, 0, 1341) :: (36, .aload_n 0, 0, 0, 0, 0) :: (37, .iconst 0, 0, 0, 0, 0) :: (38, .putfield 98, 14, 23, 0, 1342) :: (41, .aload_n 0, 0, 0, 0, 0) :: (42, .iconst 1, 0, 0, 0, 0) :: (43, .putfield 101, 14, 31, 0, 1350) :: (46, .aload_n 0, 0, 0, 0, 0) ::
  (47, .iconst (-1), 0, 0, 0, 0) :: (48, .putfield 105, 14, 32, 0, 1351) :: (51, .aload_n 0, 0, 0, 0, 0) :: (52, .iconst 0, 0, 0, 0, 0) :: (53, .putfield 108, 14, 34, 0, 1353) :: (56, .aload_n 0, 0, 0, 0, 0) :: (57, .iconst 0, 0, 0, 0, 0) :: (58, .putfield 111, 14, 47, 0, 1366) ::
  (61, .aload_n 0, 0, 0, 0, 0) :: (62, .iconst 0, 0, 0, 0, 0) :: (63, .putfield 114, 14, 48, 0, 1367) :: (66, .aload_n 0, 0, 0, 0, 0) :: (67, .iconst 0, 0, 0, 0, 0) :: (68, .putfield 117, 14, 49, 0, 1368) :: (71, .aload_n 0, 0, 0, 0, 0) :: (72, .bipush 100, 0, 0, 0, 0) ::
  (74, .putfield 120, 14, 50, 0, 1369) :: (77, .aload_n 0, 0, 0, 0, 0) :: (78, .bipush 40, 0, 0, 0, 0) :: (80, .putfield 123, 14, 51, 0, 1370) :: (83, .aload_n 0, 0, 0, 0, 0) :: (84, .bipush 64, 0, 0, 0, 0) :: (86, .putfield 126, 14, 52, 0, 1371) :: (89, .aload_n 0, 0, 0, 0, 0) ::
  (90, .iconst 0, 0, 0, 0, 0) :: (91, .putfield 129, 14, 53, 0, 1372) :: (94, .aload_n 0, 0, 0, 0, 0) :: (95, .iconst 2, 0, 0, 0, 0) :: (96, .iconst 4, 0, 0, 0, 0) :: (97, .iconst 0, 0, 0, 0, 0) :: (98, .iconst 0, 0, 0, 0, 0) :: (99, .invokevirtual 132, 124, 5, 14, 1311) ::
  (102, .aload_n 0, 0, 0, 0, 0) :: (103, .iconst 3, 0, 0, 0, 0) :: (104, .invokevirtual 136, 123, 2, 14, 1315) :: (107, .aload_n 0, 0, 0, 0, 0) :: (108, .iconst 4, 0, 0, 0, 0) :: (109, .invokevirtual 136, 123, 2, 14, 1315) :: (112, .return_, 0, 0, 0, 0) :: []
def bl_X12_begin_2 : List ax_R := (2, .iload_n 1, 0, 0, 0, 0) :: (3, .iconst 4, 0, 0, 0, 0) :: (4, .if_icmp .ge 16, 20, 0, 0, 0) :: (7, .aload_n 0, 0, 0, 0, 0) :: (8, .getfield 35, 14, 12, 1, 1331) :: (11, .iload_n 1, 0, 0, 0, 0) :: (12, .iconst 0, 0, 0, 0, 0) :: (13, .iastore, 0, 0, 0, 0) ::
  (14, .iinc 1 1, 0, 0, 0, 0) :: (17, .goto (-15), 2, 0, 0, 0) :: bl_X12_begin_20
def bl_X12_begin_0 : List ax_R := (0, .iconst 0, 0, 0, 0, 0) :: (1, .istore_n 1, 0, 0, 0, 0) :: bl_X12_begin_2
def pr_X12_begin : List ax_R := bl_X12_begin_0
def pt_X12_begin : ax_T := ((⟨"PageServerModel", "begin", "()V"⟩, prog_14_method_6_code, 2, none), 1310, 94, 1309, 36)
def bl_X12_byteOf_0 : List ax_R := (0, .iload_n 0, 0, 0, 0, 0) :: (1, .bipush 8, 0, 0, 0, 0) :: (3, .iload_n 1, 0, 0, 0, 0) :: (4, .imul, 0, 0, 0, 0) :: (5, .ishr, 0, 0, 0, 0) :: (6, .sipush 255, 0, 0, 0, 0) :: (9, .iand, 0, 0, 0, 0) :: (10, .ireturn, 0, 0, 0, 0) :: []
def pr_X12_byteOf : List ax_R := bl_X12_byteOf_0
def pt_X12_byteOf : ax_T := ((⟨"PageServerModel", "byteOf", "(II)I"⟩, prog_14_method_7_code, 2, (some .int)), 1499, 94, 1498, 0)
def bl_X12_isLetter_17 : List ax_R := (17, .ireturn, 0, 0, 0, 0) :: []
def bl_X12_isLetter_16 : List ax_R := (16, .iconst 0, 0, 0, 0, 0) :: bl_X12_isLetter_17
def bl_X12_isLetter_0 : List ax_R := (0, .iload_n 0, 0, 0, 0, 0) :: (1, .bipush 97, 0, 0, 0, 0) :: (3, .if_icmp .lt 13, 16, 0, 0, 0) :: (6, .iload_n 0, 0, 0, 0, 0) :: (7, .bipush 122, 0, 0, 0, 0) :: (9, .if_icmp .gt 7, 16, 0, 0, 0) :: (12, .iconst 1, 0, 0, 0, 0) :: (13, .goto 4, 17, 0, 0, 0) :: bl_X12_isLetter_16
def pr_X12_isLetter : List ax_R := bl_X12_isLetter_0
def pt_X12_isLetter : ax_T := ((⟨"PageServerModel", "isLetter", "(I)Z"⟩, prog_14_method_8_code, 1, (some .boolean)), 1502, 94, 1501, 0)
def bl_X12_isText_57 : List ax_R := (57, .iload_n 1, 0, 0, 0, 0) :: (58, .ireturn, 0, 0, 0, 0) :: []
def bl_X12_isText_50 : List ax_R := (50, .istore_n 1, 0, 0, 0, 0) :: (51, .iinc 2 1, 0, 0, 0, 0) :: (54, .goto (-50), 4, 0, 0, 0) :: bl_X12_isText_57
def bl_X12_isText_49 : List ax_R := (49, .iconst 0, 0, 0, 0, 0) :: bl_X12_isText_50
def bl_X12_isText_45 : List ax_R := (45, .iconst 1, 0, 0, 0, 0) :: (46, .goto 4, 50, 0, 0, 0) :: bl_X12_isText_49
def bl_X12_isText_4 : List ax_R := (4, .iload_n 2, 0, 0, 0, 0) :: (5, .iconst 4, 0, 0, 0, 0) :: (6, .if_icmp .ge 51, 57, 0, 0, 0) :: (9, .iload_n 0, 0, 0, 0, 0) :: (10, .iload_n 2, 0, 0, 0, 0) :: (11, .invokestatic 140, 116, 2, 0, 1497) :: (14, .istore_n 3, 0, 0, 0, 0) :: (15, .iload_n 1, 0, 0, 0, 0) ::
  (16, .ifCond .eq 33, 49, 0, 0, 0) :: (19, .iload_n 3, 0, 0, 0, 0) :: (20, .invokestatic 144, 117, 1, 0, 1500) :: (23, .ifCond .ne 22, 45, 0, 0, 0) :: (26, .iload_n 3, 0, 0, 0, 0) :: (27, .ifCond .ne 22, 49, 0, 0, 0) :: (30, .iload_n 2, 0, 0, 0, 0) :: (31, .iconst 3, 0, 0, 0, 0) ::
  (32, .if_icmp .eq 13, 45, 0, 0, 0) :: (35, .iload_n 0, 0, 0, 0, 0) :: (36, .iload_n 2, 0, 0, 0, 0) :: (37, .iconst 1, 0, 0, 0, 0) :: (38, .iadd, 0, 0, 0, 0) :: (39, .invokestatic 140, 116, 2, 0, 1497) :: (42, .ifCond .ne 7, 49, 0, 0, 0) :: bl_X12_isText_45
def bl_X12_isText_0 : List ax_R := (0, .iconst 1, 0, 0, 0, 0) :: (1, .istore_n 1, 0, 0, 0, 0) :: (2, .iconst 0, 0, 0, 0, 0) :: (3, .istore_n 2, 0, 0, 0, 0) :: bl_X12_isText_4
def pr_X12_isText : List ax_R := bl_X12_isText_0
def pt_X12_isText : ax_T := ((⟨"PageServerModel", "isText", "(I)Z"⟩, prog_14_method_9_code, 4, (some .boolean)), 1496, 94, 1495, 0)
def bl_X12_letters_21 : List ax_R := (21, .iload_n 1, 0, 0, 0, 0) :: (22, .ireturn, 0, 0, 0, 0) :: []
def bl_X12_letters_2 : List ax_R := (2, .iload_n 1, 0, 0, 0, 0) :: (3, .iconst 4, 0, 0, 0, 0) :: (4, .if_icmp .ge 17, 21, 0, 0, 0) :: (7, .iload_n 0, 0, 0, 0, 0) :: (8, .iload_n 1, 0, 0, 0, 0) :: (9, .invokestatic 140, 116, 2, 0, 1497) :: (12, .ifCond .eq 9, 21, 0, 0, 0) :: (15, .iinc 1 1, 0, 0, 0, 0) ::
  (18, .goto (-16), 2, 0, 0, 0) :: bl_X12_letters_21
def bl_X12_letters_0 : List ax_R := (0, .iconst 0, 0, 0, 0, 0) :: (1, .istore_n 1, 0, 0, 0, 0) :: bl_X12_letters_2
def pr_X12_letters : List ax_R := bl_X12_letters_0
def pt_X12_letters : ax_T := ((⟨"PageServerModel", "letters", "(I)I"⟩, prog_14_method_10_code, 2, (some .int)), 1505, 94, 1504, 0)
def bl_X12_pageOf_102 : List ax_R := (102, .iload 4, 0, 0, 0, 0) :: (104, .ireturn, 0, 0, 0, 0) :: []
def bl_X12_pageOf_94 : List ax_R := (94, .istore 4, 0, 0, 0, 0) :: (96, .iinc 5 1, 0, 0, 0, 0) :: (99, .goto (-93), 6, 0, 0, 0) :: bl_X12_pageOf_102
def bl_X12_pageOf_92 : List ax_R := (92, .iload 4, 0, 0, 0, 0) :: bl_X12_pageOf_94
def bl_X12_pageOf_82 : List ax_R := (82, .iload 6, 0, 0, 0, 0) :: (84, .ifCond .eq 8, 92, 0, 0, 0) :: (87, .iload 5, 0, 0, 0, 0) :: (89, .goto 5, 94, 0, 0, 0) :: bl_X12_pageOf_92
def bl_X12_pageOf_74 : List ax_R := (74, .istore 6, 0, 0, 0, 0) :: (76, .iinc 7 1, 0, 0, 0, 0) :: (79, .goto (-43), 36, 0, 0, 0) :: bl_X12_pageOf_82
def bl_X12_pageOf_73 : List ax_R := (73, .iconst 0, 0, 0, 0, 0) :: bl_X12_pageOf_74
def bl_X12_pageOf_36 : List ax_R := (36, .iload 7, 0, 0, 0, 0) :: (38, .iload_n 3, 0, 0, 0, 0) :: (39, .if_icmp .ge 43, 82, 0, 0, 0) :: (42, .iload 6, 0, 0, 0, 0) :: (44, .ifCond .eq 38, 82, 0, 0, 0) :: (47, .aload_n 0, 0, 0, 0, 0) :: (48, .getfield 13, 14, 3, 1, 1322) :: (51, .bipush 8, 0, 0, 0, 0) ::
  (53, .iload 5, 0, 0, 0, 0) :: (55, .imul, 0, 0, 0, 0) :: (56, .iload 7, 0, 0, 0, 0) :: (58, .iadd, 0, 0, 0, 0) :: (59, .caload, 0, 0, 0, 0) :: (60, .aload_n 1, 0, 0, 0, 0) :: (61, .iload_n 2, 0, 0, 0, 0) :: (62, .iload 7, 0, 0, 0, 0) ::
  (64, .iadd, 0, 0, 0, 0) :: (65, .caload, 0, 0, 0, 0) :: (66, .if_icmp .ne 7, 73, 0, 0, 0) :: (69, .iconst 1, 0, 0, 0, 0) :: (70, .goto 4, 74, 0, 0, 0) :: bl_X12_pageOf_73
def bl_X12_pageOf_31 : List ax_R := (31, .istore 6, 0, 0, 0, 0) :: (33, .iconst 0, 0, 0, 0, 0) :: (34, .istore 7, 0, 0, 0, 0) :: bl_X12_pageOf_36
def bl_X12_pageOf_30 : List ax_R := (30, .iconst 0, 0, 0, 0, 0) :: bl_X12_pageOf_31
def bl_X12_pageOf_6 : List ax_R := (6, .iload 5, 0, 0, 0, 0) :: (8, .aload_n 0, 0, 0, 0, 0) :: (9, .getfield 148, 14, 1, 0, 1320) :: (12, .if_icmp .ge 90, 102, 0, 0, 0) :: (15, .aload_n 0, 0, 0, 0, 0) :: (16, .getfield 7, 14, 2, 1, 1321) :: (19, .iload 5, 0, 0, 0, 0) :: (21, .iaload, 0, 0, 0, 0) ::
  (22, .iload_n 3, 0, 0, 0, 0) :: (23, .if_icmp .ne 7, 30, 0, 0, 0) :: (26, .iconst 1, 0, 0, 0, 0) :: (27, .goto 4, 31, 0, 0, 0) :: bl_X12_pageOf_30
def bl_X12_pageOf_0 : List ax_R := (0, .iconst (-1), 0, 0, 0, 0) :: (1, .istore 4, 0, 0, 0, 0) :: (3, .iconst 0, 0, 0, 0, 0) :: (4, .istore 5, 0, 0, 0, 0) :: bl_X12_pageOf_6
def pr_X12_pageOf : List ax_R := bl_X12_pageOf_0
def pt_X12_pageOf : ax_T := ((⟨"PageServerModel", "pageOf", "([CII)I"⟩, prog_14_method_11_code, 8, (some .int)), 1520, 94, 1519, 41)
def bl_X12_lay_40 : List ax_R := (40, .return_, 0, 0, 0, 0) :: []
def bl_X12_lay_8 : List ax_R := (8, .iload 4, 0, 0, 0, 0) :: (10, .iload_n 3, 0, 0, 0, 0) :: (11, .if_icmp .ge 29, 40, 0, 0, 0) :: (14, .aload_n 0, 0, 0, 0, 0) :: (15, .getfield 72, 14, 46, 1, 1365) :: (18, .iload_n 1, 0, 0, 0, 0) :: (19, .iload 4, 0, 0, 0, 0) :: (21, .iadd, 0, 0, 0, 0) ::
  (22, .iload_n 2, 0, 0, 0, 0) :: (23, .iload_n 3, 0, 0, 0, 0) :: (24, .iconst 1, 0, 0, 0, 0) :: (25, .isub, 0, 0, 0, 0) :: (26, .iload 4, 0, 0, 0, 0) :: (28, .isub, 0, 0, 0, 0) :: (29, .invokestatic 140, 116, 2, 0, 1497) :: (32, .i2c, 0, 0, 0, 0) ::
  (33, .castore, 0, 0, 0, 0) :: (34, .iinc 4 1, 0, 0, 0, 0) :: (37, .goto (-29), 8, 0, 0, 0) :: bl_X12_lay_40
def bl_X12_lay_0 : List ax_R := (0, .iload_n 2, 0, 0, 0, 0) :: (1, .invokestatic 151, 119, 1, 0, 1503) :: (4, .istore_n 3, 0, 0, 0, 0) :: (5, .iconst 0, 0, 0, 0, 0) :: (6, .istore 4, 0, 0, 0, 0) :: bl_X12_lay_8
def pr_X12_lay : List ax_R := bl_X12_lay_0
def pt_X12_lay : ax_T := ((⟨"PageServerModel", "lay", "(II)V"⟩, prog_14_method_12_code, 5, none), 1516, 94, 1515, 40)
def bl_X12_page_207 : List ax_R := (207, .aload_n 0, 0, 0, 0, 0) :: (208, .getfield 17, 14, 4, 1, 1323) :: (211, .aload_n 0, 0, 0, 0, 0) :: (212, .getfield 148, 14, 1, 0, 1320) :: (215, .iload_n 3, 0, 0, 0, 0) :: (216, .iastore, 0, 0, 0, 0) :: (217, .aload_n 0, 0, 0, 0, 0) :: (218, .getfield 20, 14, 5, 1, 1324) ::
  (221, .aload_n 0, 0, 0, 0, 0) :: (222, .getfield 148, 14, 1, 0, 1320) :: (225, .iload 4, 0, 0, 0, 0) :: (227, .iastore, 0, 0, 0, 0) :: (228, .aload_n 0, 0, 0, 0, 0) :: (229, .dup, 0, 0, 0, 0) :: (230, .getfield 148, 14, 1, 0, 1320) :: (233, .iconst 1, 0, 0, 0, 0) ::
  (234, .iadd, 0, 0, 0, 0) :: (235, .putfield 148, 14, 1, 0, 1320) :: (238, .aload_n 0, 0, 0, 0, 0) :: (239, .getfield 148, 14, 1, 0, 1320) :: (242, .iconst 1, 0, 0, 0, 0) :: (243, .isub, 0, 0, 0, 0) :: (244, .ireturn, 0, 0, 0, 0) :: []
def bl_X12_page_172 : List ax_R := (172, .iload 7, 0, 0, 0, 0) :: (174, .iload 6, 0, 0, 0, 0) :: (176, .if_icmp .ge 31, 207, 0, 0, 0) :: (179, .aload_n 0, 0, 0, 0, 0) :: (180, .getfield 13, 14, 3, 1, 1322) :: (183, .bipush 8, 0, 0, 0, 0) :: (185, .aload_n 0, 0, 0, 0, 0) :: (186, .getfield 148, 14, 1, 0, 1320) ::
  (189, .imul, 0, 0, 0, 0) :: (190, .iload 7, 0, 0, 0, 0) :: (192, .iadd, 0, 0, 0, 0) :: (193, .aload_n 0, 0, 0, 0, 0) :: (194, .getfield 72, 14, 46, 1, 1365) :: (197, .iload 7, 0, 0, 0, 0) :: (199, .caload, 0, 0, 0, 0) :: (200, .castore, 0, 0, 0, 0) ::
  (201, .iinc 7 1, 0, 0, 0, 0) :: (204, .goto (-32), 172, 0, 0, 0) :: bl_X12_page_207
def bl_X12_page_158 : List ax_R := (158, .aload_n 0, 0, 0, 0, 0) :: (159, .getfield 7, 14, 2, 1, 1321) :: (162, .aload_n 0, 0, 0, 0, 0) :: (163, .getfield 148, 14, 1, 0, 1320) :: (166, .iload 6, 0, 0, 0, 0) :: (168, .iastore, 0, 0, 0, 0) :: (169, .iconst 0, 0, 0, 0, 0) :: (170, .istore 7, 0, 0, 0, 0) :: bl_X12_page_172
def bl_X12_page_146 : List ax_R := (146, .putfield 85, 14, 0, 0, 1319) :: (149, .aload_n 0, 0, 0, 0, 0) :: (150, .getfield 85, 14, 0, 0, 1319) :: (153, .ifCond .le 5, 158, 0, 0, 0) :: (156, .iconst 0, 0, 0, 0, 0) :: (157, .ireturn, 0, 0, 0, 0) :: bl_X12_page_158
def bl_X12_page_145 : List ax_R := (145, .iconst 0, 0, 0, 0, 0) :: bl_X12_page_146
def bl_X12_page_132 : List ax_R := (132, .aload_n 0, 0, 0, 0, 0) :: (133, .getfield 148, 14, 1, 0, 1320) :: (136, .bipush 8, 0, 0, 0, 0) :: (138, .if_icmp .ne 7, 145, 0, 0, 0) :: (141, .iconst 2, 0, 0, 0, 0) :: (142, .goto 4, 146, 0, 0, 0) :: bl_X12_page_145
def bl_X12_page_74 : List ax_R := (74, .aload_n 0, 0, 0, 0, 0) :: (75, .getfield 72, 14, 46, 1, 1365) :: (78, .iconst 0, 0, 0, 0, 0) :: (79, .bipush 47, 0, 0, 0, 0) :: (81, .castore, 0, 0, 0, 0) :: (82, .aload_n 0, 0, 0, 0, 0) :: (83, .iconst 1, 0, 0, 0, 0) :: (84, .iload_n 1, 0, 0, 0, 0) ::
  (85, .invokevirtual 165, 121, 3, 14, 1513) :: (88, .aload_n 0, 0, 0, 0, 0) :: (89, .iconst 1, 0, 0, 0, 0) :: (90, .iload_n 1, 0, 0, 0, 0) :: (91, .invokestatic 151, 119, 1, 0, 1503) :: (94, .iadd, 0, 0, 0, 0) :: (95, .iload_n 2, 0, 0, 0, 0) :: (96, .invokevirtual 165, 121, 3, 14, 1513) ::
  (99, .iconst 1, 0, 0, 0, 0) :: (100, .iload_n 1, 0, 0, 0, 0) :: (101, .invokestatic 151, 119, 1, 0, 1503) :: (104, .iadd, 0, 0, 0, 0) :: (105, .iload_n 2, 0, 0, 0, 0) :: (106, .invokestatic 151, 119, 1, 0, 1503) :: (109, .iadd, 0, 0, 0, 0) :: (110, .istore 6, 0, 0, 0, 0) ::
  (112, .aload_n 0, 0, 0, 0, 0) :: (113, .aload_n 0, 0, 0, 0, 0) :: (114, .aload_n 0, 0, 0, 0, 0) :: (115, .getfield 72, 14, 46, 1, 1365) :: (118, .iconst 0, 0, 0, 0, 0) :: (119, .iload 6, 0, 0, 0, 0) :: (121, .invokevirtual 169, 120, 4, 14, 1517) :: (124, .iconst (-1), 0, 0, 0, 0) ::
  (125, .if_icmp .eq 7, 132, 0, 0, 0) :: (128, .iconst 1, 0, 0, 0, 0) :: (129, .goto 17, 146, 0, 0, 0) :: bl_X12_page_132
def bl_X12_page_61 : List ax_R := (61, .istore 5, 0, 0, 0, 0) :: (63, .iload 5, 0, 0, 0, 0) :: (65, .ifCond .ne 9, 74, 0, 0, 0) :: (68, .aload_n 0, 0, 0, 0, 0) :: (69, .iconst 1, 0, 0, 0, 0) :: (70, .invokevirtual 162, 113, 2, 14, 1509) :: (73, .ireturn, 0, 0, 0, 0) :: bl_X12_page_74
def bl_X12_page_60 : List ax_R := (60, .iconst 0, 0, 0, 0, 0) :: bl_X12_page_61
def bl_X12_page_34 : List ax_R := (34, .iload_n 3, 0, 0, 0, 0) :: (35, .iconst 0, 0, 0, 0, 0) :: (36, .bipush 60, 0, 0, 0, 0) :: (38, .invokestatic 158, 114, 3, 0, 1506) :: (41, .ifCond .ne 19, 60, 0, 0, 0) :: (44, .iload 4, 0, 0, 0, 0) :: (46, .iconst 0, 0, 0, 0, 0) :: (47, .sipush 255, 0, 0, 0, 0) ::
  (50, .invokestatic 158, 114, 3, 0, 1506) :: (53, .ifCond .ne 7, 60, 0, 0, 0) :: (56, .iconst 1, 0, 0, 0, 0) :: (57, .goto 4, 61, 0, 0, 0) :: bl_X12_page_60
def bl_X12_page_0 : List ax_R := (0, .iload_n 1, 0, 0, 0, 0) :: (1, .invokestatic 155, 118, 1, 0, 1494) :: (4, .ifCond .eq 56, 60, 0, 0, 0) :: (7, .iload_n 2, 0, 0, 0, 0) :: (8, .invokestatic 155, 118, 1, 0, 1494) :: (11, .ifCond .eq 49, 60, 0, 0, 0) :: (14, .iload_n 2, 0, 0, 0, 0) :: (15, .invokestatic 151, 119, 1, 0, 1503) ::
  (18, .iconst 4, 0, 0, 0, 0) :: (19, .if_icmp .ge 41, 60, 0, 0, 0) :: (22, .iload_n 2, 0, 0, 0, 0) :: (23, .ifCond .eq 11, 34, 0, 0, 0) :: (26, .iload_n 1, 0, 0, 0, 0) :: (27, .invokestatic 151, 119, 1, 0, 1503) :: (30, .iconst 4, 0, 0, 0, 0) :: (31, .if_icmp .ne 29, 60, 0, 0, 0) :: bl_X12_page_34
def pr_X12_page : List ax_R := bl_X12_page_0
def pt_X12_page : ax_T := ((⟨"PageServerModel", "page", "(IIII)I"⟩, prog_14_method_13_code, 8, (some .int)), 1493, 94, 1491, 1492)
def bl_X12_say_0 : List ax_R := (0, .aload_n 0, 0, 0, 0, 0) :: (1, .getfield 75, 14, 54, 1, 1373) :: (4, .aload_n 0, 0, 0, 0, 0) :: (5, .getfield 129, 14, 53, 0, 1372) :: (8, .iload_n 1, 0, 0, 0, 0) :: (9, .sipush 255, 0, 0, 0, 0) :: (12, .iand, 0, 0, 0, 0) :: (13, .iastore, 0, 0, 0, 0) ::
  (14, .aload_n 0, 0, 0, 0, 0) :: (15, .dup, 0, 0, 0, 0) :: (16, .getfield 129, 14, 53, 0, 1372) :: (19, .iconst 1, 0, 0, 0, 0) :: (20, .iadd, 0, 0, 0, 0) :: (21, .putfield 129, 14, 53, 0, 1372) :: (24, .return_, 0, 0, 0, 0) :: []
def pr_X12_say : List ax_R := bl_X12_say_0
def pt_X12_say : ax_T := ((⟨"PageServerModel", "say", "(I)V"⟩, prog_14_method_14_code, 2, none), 1318, 94, 1317, 38)
def bl_X12_head_0 : List ax_R := (0, .aload_n 0, 0, 0, 0, 0) :: (1, .iload_n 1, 0, 0, 0, 0) :: (2, .invokevirtual 136, 123, 2, 14, 1315) :: (5, .aload_n 0, 0, 0, 0, 0) :: (6, .iload_n 2, 0, 0, 0, 0) :: (7, .invokevirtual 136, 123, 2, 14, 1315) :: (10, .aload_n 0, 0, 0, 0, 0) :: (11, .iload_n 3, 0, 0, 0, 0) ::
  (12, .invokevirtual 136, 123, 2, 14, 1315) :: (15, .aload_n 0, 0, 0, 0, 0) :: (16, .iload 4, 0, 0, 0, 0) :: (18, .invokevirtual 136, 123, 2, 14, 1315) :: (21, .return_, 0, 0, 0, 0) :: []
def pr_X12_head : List ax_R := bl_X12_head_0
def pt_X12_head : ax_T := ((⟨"PageServerModel", "head", "(IIII)V"⟩, prog_14_method_15_code, 5, none), 1314, 94, 1313, 37)
def bl_X12_credit_0 : List ax_R := (0, .aload_n 0, 0, 0, 0, 0) :: (1, .iconst 2, 0, 0, 0, 0) :: (2, .bipush 8, 0, 0, 0, 0) :: (4, .iconst 0, 0, 0, 0, 0) :: (5, .iload_n 1, 0, 0, 0, 0) :: (6, .invokevirtual 132, 124, 5, 14, 1311) :: (9, .aload_n 0, 0, 0, 0, 0) :: (10, .iload_n 2, 0, 0, 0, 0) ::
  (11, .sipush 256, 0, 0, 0, 0) :: (14, .idiv, 0, 0, 0, 0) :: (15, .invokevirtual 136, 123, 2, 14, 1315) :: (18, .aload_n 0, 0, 0, 0, 0) :: (19, .iload_n 2, 0, 0, 0, 0) :: (20, .sipush 256, 0, 0, 0, 0) :: (23, .irem, 0, 0, 0, 0) :: (24, .invokevirtual 136, 123, 2, 14, 1315) ::
  (27, .return_, 0, 0, 0, 0) :: []
def pr_X12_credit : List ax_R := bl_X12_credit_0
def pt_X12_credit : ax_T := ((⟨"PageServerModel", "credit", "(II)V"⟩, prog_14_method_16_code, 3, none), 1564, 94, 1563, 51)
def bl_X12_slotOf_35 : List ax_R := (35, .iload_n 2, 0, 0, 0, 0) :: (36, .ireturn, 0, 0, 0, 0) :: []
def bl_X12_slotOf_28 : List ax_R := (28, .istore_n 2, 0, 0, 0, 0) :: (29, .iinc 3 1, 0, 0, 0, 0) :: (32, .goto (-28), 4, 0, 0, 0) :: bl_X12_slotOf_35
def bl_X12_slotOf_27 : List ax_R := (27, .iload_n 2, 0, 0, 0, 0) :: bl_X12_slotOf_28
def bl_X12_slotOf_4 : List ax_R := (4, .iload_n 3, 0, 0, 0, 0) :: (5, .iconst 4, 0, 0, 0, 0) :: (6, .if_icmp .ge 29, 35, 0, 0, 0) :: (9, .iload_n 1, 0, 0, 0, 0) :: (10, .ifCond .le 17, 27, 0, 0, 0) :: (13, .aload_n 0, 0, 0, 0, 0) :: (14, .getfield 35, 14, 12, 1, 1331) :: (17, .iload_n 3, 0, 0, 0, 0) ::
  (18, .iaload, 0, 0, 0, 0) :: (19, .iload_n 1, 0, 0, 0, 0) :: (20, .if_icmp .ne 7, 27, 0, 0, 0) :: (23, .iload_n 3, 0, 0, 0, 0) :: (24, .goto 4, 28, 0, 0, 0) :: bl_X12_slotOf_27
def bl_X12_slotOf_0 : List ax_R := (0, .iconst (-1), 0, 0, 0, 0) :: (1, .istore_n 2, 0, 0, 0, 0) :: (2, .iconst 0, 0, 0, 0, 0) :: (3, .istore_n 3, 0, 0, 0, 0) :: bl_X12_slotOf_4
def pr_X12_slotOf : List ax_R := bl_X12_slotOf_0
def pt_X12_slotOf : ax_T := ((⟨"PageServerModel", "slotOf", "(I)I"⟩, prog_14_method_17_code, 4, (some .int)), 1568, 94, 1567, 52)
def bl_X12_open_32 : List ax_R := (32, .iload_n 1, 0, 0, 0, 0) :: (33, .ireturn, 0, 0, 0, 0) :: []
def bl_X12_open_25 : List ax_R := (25, .istore_n 1, 0, 0, 0, 0) :: (26, .iinc 2 1, 0, 0, 0, 0) :: (29, .goto (-25), 4, 0, 0, 0) :: bl_X12_open_32
def bl_X12_open_24 : List ax_R := (24, .iload_n 1, 0, 0, 0, 0) :: bl_X12_open_25
def bl_X12_open_4 : List ax_R := (4, .iload_n 2, 0, 0, 0, 0) :: (5, .iconst 4, 0, 0, 0, 0) :: (6, .if_icmp .ge 26, 32, 0, 0, 0) :: (9, .aload_n 0, 0, 0, 0, 0) :: (10, .getfield 35, 14, 12, 1, 1331) :: (13, .iload_n 2, 0, 0, 0, 0) :: (14, .iaload, 0, 0, 0, 0) :: (15, .ifCond .le 9, 24, 0, 0, 0) ::
  (18, .iload_n 1, 0, 0, 0, 0) :: (19, .iconst 1, 0, 0, 0, 0) :: (20, .iadd, 0, 0, 0, 0) :: (21, .goto 4, 25, 0, 0, 0) :: bl_X12_open_24
def bl_X12_open_0 : List ax_R := (0, .iconst 0, 0, 0, 0, 0) :: (1, .istore_n 1, 0, 0, 0, 0) :: (2, .iconst 0, 0, 0, 0, 0) :: (3, .istore_n 2, 0, 0, 0, 0) :: bl_X12_open_4
def pr_X12_open : List ax_R := bl_X12_open_0
def pt_X12_open : ax_T := ((⟨"PageServerModel", "open", "()I"⟩, prog_14_method_18_code, 3, (some .int)), 1653, 94, 1652, 73)
def bl_X12_end_18 : List ax_R := (18, .return_, 0, 0, 0, 0) :: []
def bl_X12_end_0 : List ax_R := (0, .aload_n 0, 0, 0, 0, 0) :: (1, .iload_n 1, 0, 0, 0, 0) :: (2, .invokevirtual 173, 126, 2, 14, 1565) :: (5, .istore_n 2, 0, 0, 0, 0) :: (6, .iload_n 2, 0, 0, 0, 0) :: (7, .iconst (-1), 0, 0, 0, 0) :: (8, .if_icmp .eq 10, 18, 0, 0, 0) :: (11, .aload_n 0, 0, 0, 0, 0) ::
  (12, .getfield 35, 14, 12, 1, 1331) :: (15, .iload_n 2, 0, 0, 0, 0) :: (16, .iconst 0, 0, 0, 0, 0) :: (17, .iastore, 0, 0, 0, 0) :: bl_X12_end_18
def pr_X12_end : List ax_R := bl_X12_end_0
def pt_X12_end : ax_T := ((⟨"PageServerModel", "end", "(I)V"⟩, prog_14_method_19_code, 3, none), 1661, 94, 1660, 75)
def bl_X12_idle_23 : List ax_R := (23, .ireturn, 0, 0, 0, 0) :: []
def bl_X12_idle_22 : List ax_R := (22, .iconst 0, 0, 0, 0, 0) :: bl_X12_idle_23
def bl_X12_idle_18 : List ax_R := (18, .iconst 1, 0, 0, 0, 0) :: (19, .goto 4, 23, 0, 0, 0) :: bl_X12_idle_22
def bl_X12_idle_0 : List ax_R := (0, .iload_n 1, 0, 0, 0, 0) :: (1, .aload_n 0, 0, 0, 0, 0) :: (2, .getfield 111, 14, 47, 0, 1366) :: (5, .if_icmp .gt 13, 18, 0, 0, 0) :: (8, .iload_n 1, 0, 0, 0, 0) :: (9, .ifCond .le 13, 22, 0, 0, 0) :: (12, .iload_n 1, 0, 0, 0, 0) :: (13, .iconst 2, 0, 0, 0, 0) ::
  (14, .irem, 0, 0, 0, 0) :: (15, .ifCond .ne 7, 22, 0, 0, 0) :: bl_X12_idle_18
def pr_X12_idle : List ax_R := bl_X12_idle_0
def pt_X12_idle : ax_T := ((⟨"PageServerModel", "idle", "(I)Z"⟩, prog_14_method_20_code, 2, (some .boolean)), 1556, 94, 1555, 49)
def bl_X12_has_14 : List ax_R := (14, .ireturn, 0, 0, 0, 0) :: []
def bl_X12_has_13 : List ax_R := (13, .iconst 0, 0, 0, 0, 0) :: bl_X12_has_14
def bl_X12_has_0 : List ax_R := (0, .aload_n 0, 0, 0, 0, 0) :: (1, .getfield 176, 14, 26, 0, 1345) :: (4, .iload_n 1, 0, 0, 0, 0) :: (5, .iand, 0, 0, 0, 0) :: (6, .ifCond .le 7, 13, 0, 0, 0) :: (9, .iconst 1, 0, 0, 0, 0) :: (10, .goto 4, 14, 0, 0, 0) :: bl_X12_has_13
def pr_X12_has : List ax_R := bl_X12_has_0
def pt_X12_has : ax_T := ((⟨"PageServerModel", "has", "(I)Z"⟩, prog_14_method_21_code, 2, (some .boolean)), 1548, 94, 1547, 47)
def bl_X12_takes_0 : List ax_R := (0, .iconst 2, 0, 0, 0, 0) :: (1, .aload_n 0, 0, 0, 0, 0) :: (2, .getfield 23, 14, 8, 1, 1327) :: (5, .iload_n 1, 0, 0, 0, 0) :: (6, .iaload, 0, 0, 0, 0) :: (7, .iadd, 0, 0, 0, 0) :: (8, .aload_n 0, 0, 0, 0, 0) :: (9, .getfield 29, 14, 10, 1, 1329) ::
  (12, .iload_n 1, 0, 0, 0, 0) :: (13, .iaload, 0, 0, 0, 0) :: (14, .iadd, 0, 0, 0, 0) :: (15, .ireturn, 0, 0, 0, 0) :: []
def pr_X12_takes : List ax_R := bl_X12_takes_0
def pt_X12_takes : ax_T := ((⟨"PageServerModel", "takes", "(I)I"⟩, prog_14_method_22_code, 2, (some .int)), 1616, 94, 1615, 64)
def bl_X12_taken_30 : List ax_R := (30, .iload_n 1, 0, 0, 0, 0) :: (31, .ireturn, 0, 0, 0, 0) :: []
def bl_X12_taken_5 : List ax_R := (5, .iload_n 2, 0, 0, 0, 0) :: (6, .bipush 7, 0, 0, 0, 0) :: (8, .aload_n 0, 0, 0, 0, 0) :: (9, .getfield 89, 14, 6, 0, 1325) :: (12, .iadd, 0, 0, 0, 0) :: (13, .if_icmp .ge 17, 30, 0, 0, 0) :: (16, .iload_n 1, 0, 0, 0, 0) :: (17, .aload_n 0, 0, 0, 0, 0) ::
  (18, .iload_n 2, 0, 0, 0, 0) :: (19, .invokevirtual 179, 131, 2, 14, 1613) :: (22, .iadd, 0, 0, 0, 0) :: (23, .istore_n 1, 0, 0, 0, 0) :: (24, .iinc 2 1, 0, 0, 0, 0) :: (27, .goto (-22), 5, 0, 0, 0) :: bl_X12_taken_30
def bl_X12_taken_0 : List ax_R := (0, .iconst 0, 0, 0, 0, 0) :: (1, .istore_n 1, 0, 0, 0, 0) :: (2, .bipush 7, 0, 0, 0, 0) :: (4, .istore_n 2, 0, 0, 0, 0) :: bl_X12_taken_5
def pr_X12_taken : List ax_R := bl_X12_taken_0
def pt_X12_taken : ax_T := ((⟨"PageServerModel", "taken", "()I"⟩, prog_14_method_23_code, 3, (some .int)), 1624, 94, 1623, 66)
def bl_X12_evict_33 : List ax_R := (33, .return_, 0, 0, 0, 0) :: []
def bl_X12_evict_0 : List ax_R := (0, .aload_n 0, 0, 0, 0, 0) :: (1, .getfield 89, 14, 6, 0, 1325) :: (4, .ifCond .le 29, 33, 0, 0, 0) :: (7, .aload_n 0, 0, 0, 0, 0) :: (8, .invokevirtual 182, 132, 1, 14, 1621) :: (11, .iload_n 1, 0, 0, 0, 0) :: (12, .iadd, 0, 0, 0, 0) :: (13, .aload_n 0, 0, 0, 0, 0) ::
  (14, .getfield 92, 14, 7, 0, 1326) :: (17, .if_icmp .le 16, 33, 0, 0, 0) :: (20, .aload_n 0, 0, 0, 0, 0) :: (21, .dup, 0, 0, 0, 0) :: (22, .getfield 89, 14, 6, 0, 1325) :: (25, .iconst 1, 0, 0, 0, 0) :: (26, .isub, 0, 0, 0, 0) :: (27, .putfield 89, 14, 6, 0, 1325) ::
  (30, .goto (-30), 0, 0, 0, 0) :: bl_X12_evict_33
def pr_X12_evict : List ax_R := bl_X12_evict_0
def pt_X12_evict : ax_T := ((⟨"PageServerModel", "evict", "(I)V"⟩, prog_14_method_24_code, 2, none), 1620, 94, 1619, 65)
def bl_X12_copy_82 : List ax_R := (82, .return_, 0, 0, 0, 0) :: []
def bl_X12_copy_26 : List ax_R := (26, .iload_n 3, 0, 0, 0, 0) :: (27, .bipush 20, 0, 0, 0, 0) :: (29, .if_icmp .ge 53, 82, 0, 0, 0) :: (32, .aload_n 0, 0, 0, 0, 0) :: (33, .getfield 26, 14, 9, 1, 1328) :: (36, .bipush 20, 0, 0, 0, 0) :: (38, .iload_n 2, 0, 0, 0, 0) :: (39, .imul, 0, 0, 0, 0) ::
  (40, .iload_n 3, 0, 0, 0, 0) :: (41, .iadd, 0, 0, 0, 0) :: (42, .aload_n 0, 0, 0, 0, 0) :: (43, .getfield 26, 14, 9, 1, 1328) :: (46, .bipush 20, 0, 0, 0, 0) :: (48, .iload_n 1, 0, 0, 0, 0) :: (49, .imul, 0, 0, 0, 0) :: (50, .iload_n 3, 0, 0, 0, 0) ::
  (51, .iadd, 0, 0, 0, 0) :: (52, .caload, 0, 0, 0, 0) :: (53, .castore, 0, 0, 0, 0) :: (54, .aload_n 0, 0, 0, 0, 0) :: (55, .getfield 32, 14, 11, 1, 1330) :: (58, .bipush 20, 0, 0, 0, 0) :: (60, .iload_n 2, 0, 0, 0, 0) :: (61, .imul, 0, 0, 0, 0) ::
  (62, .iload_n 3, 0, 0, 0, 0) :: (63, .iadd, 0, 0, 0, 0) :: (64, .aload_n 0, 0, 0, 0, 0) :: (65, .getfield 32, 14, 11, 1, 1330) :: (68, .bipush 20, 0, 0, 0, 0) :: (70, .iload_n 1, 0, 0, 0, 0) :: (71, .imul, 0, 0, 0, 0) :: (72, .iload_n 3, 0, 0, 0, 0) ::
  (73, .iadd, 0, 0, 0, 0) :: (74, .caload, 0, 0, 0, 0) :: (75, .castore, 0, 0, 0, 0) :: (76, .iinc 3 1, 0, 0, 0, 0) :: (79, .goto (-53), 26, 0, 0, 0) :: bl_X12_copy_82
def bl_X12_copy_0 : List ax_R := (0, .aload_n 0, 0, 0, 0, 0) :: (1, .getfield 23, 14, 8, 1, 1327) :: (4, .iload_n 2, 0, 0, 0, 0) :: (5, .aload_n 0, 0, 0, 0, 0) :: (6, .getfield 23, 14, 8, 1, 1327) :: (9, .iload_n 1, 0, 0, 0, 0) :: (10, .iaload, 0, 0, 0, 0) :: (11, .iastore, 0, 0, 0, 0) ::
  (12, .aload_n 0, 0, 0, 0, 0) :: (13, .getfield 29, 14, 10, 1, 1329) :: (16, .iload_n 2, 0, 0, 0, 0) :: (17, .aload_n 0, 0, 0, 0, 0) :: (18, .getfield 29, 14, 10, 1, 1329) :: (21, .iload_n 1, 0, 0, 0, 0) :: (22, .iaload, 0, 0, 0, 0) :: (23, .iastore, 0, 0, 0, 0) ::
  (24, .iconst 0, 0, 0, 0, 0) :: (25, .istore_n 3, 0, 0, 0, 0) :: bl_X12_copy_26
def pr_X12_copy : List ax_R := bl_X12_copy_0
def pt_X12_copy : ax_T := ((⟨"PageServerModel", "copy", "(II)V"⟩, prog_14_method_25_code, 4, none), 1600, 94, 1599, 60)
def bl_X12_insert_52 : List ax_R := (52, .aload_n 0, 0, 0, 0, 0) :: (53, .bipush 16, 0, 0, 0, 0) :: (55, .bipush 7, 0, 0, 0, 0) :: (57, .invokevirtual 189, 134, 3, 14, 1597) :: (60, .aload_n 0, 0, 0, 0, 0) :: (61, .dup, 0, 0, 0, 0) :: (62, .getfield 89, 14, 6, 0, 1325) :: (65, .iconst 1, 0, 0, 0, 0) ::
  (66, .iadd, 0, 0, 0, 0) :: (67, .putfield 89, 14, 6, 0, 1325) :: (70, .return_, 0, 0, 0, 0) :: []
def bl_X12_insert_32 : List ax_R := (32, .iload_n 1, 0, 0, 0, 0) :: (33, .bipush 7, 0, 0, 0, 0) :: (35, .if_icmp .lt 17, 52, 0, 0, 0) :: (38, .aload_n 0, 0, 0, 0, 0) :: (39, .iload_n 1, 0, 0, 0, 0) :: (40, .iload_n 1, 0, 0, 0, 0) :: (41, .iconst 1, 0, 0, 0, 0) :: (42, .iadd, 0, 0, 0, 0) ::
  (43, .invokevirtual 189, 134, 3, 14, 1597) :: (46, .iinc 1 (-1), 0, 0, 0, 0) :: (49, .goto (-17), 32, 0, 0, 0) :: bl_X12_insert_52
def bl_X12_insert_24 : List ax_R := (24, .bipush 6, 0, 0, 0, 0) :: (26, .aload_n 0, 0, 0, 0, 0) :: (27, .getfield 89, 14, 6, 0, 1325) :: (30, .iadd, 0, 0, 0, 0) :: (31, .istore_n 1, 0, 0, 0, 0) :: bl_X12_insert_32
def bl_X12_insert_0 : List ax_R := (0, .aload_n 0, 0, 0, 0, 0) :: (1, .aload_n 0, 0, 0, 0, 0) :: (2, .bipush 16, 0, 0, 0, 0) :: (4, .invokevirtual 179, 131, 2, 14, 1613) :: (7, .invokevirtual 186, 133, 2, 14, 1617) :: (10, .aload_n 0, 0, 0, 0, 0) :: (11, .bipush 16, 0, 0, 0, 0) :: (13, .invokevirtual 179, 131, 2, 14, 1613) ::
  (16, .aload_n 0, 0, 0, 0, 0) :: (17, .getfield 92, 14, 7, 0, 1326) :: (20, .if_icmp .le 4, 24, 0, 0, 0) :: (23, .return_, 0, 0, 0, 0) :: bl_X12_insert_24
def pr_X12_insert : List ax_R := bl_X12_insert_0
def pt_X12_insert : ax_T := ((⟨"PageServerModel", "insert", "()V"⟩, prog_14_method_26_code, 2, none), 1612, 94, 1611, 63)
def bl_X12_next_59 : List ax_R := (59, .ireturn, 0, 0, 0, 0) :: []
def bl_X12_next_58 : List ax_R := (58, .iconst 0, 0, 0, 0, 0) :: bl_X12_next_59
def bl_X12_next_24 : List ax_R := (24, .putfield 192, 14, 37, 0, 1356) :: (27, .aload_n 0, 0, 0, 0, 0) :: (28, .dup, 0, 0, 0, 0) :: (29, .getfield 195, 14, 36, 0, 1355) :: (32, .iconst 1, 0, 0, 0, 0) :: (33, .iadd, 0, 0, 0, 0) :: (34, .putfield 195, 14, 36, 0, 1355) :: (37, .aload_n 0, 0, 0, 0, 0) ::
  (38, .getfield 192, 14, 37, 0, 1356) :: (41, .ifCond .eq 17, 58, 0, 0, 0) :: (44, .aload_n 0, 0, 0, 0, 0) :: (45, .getfield 69, 14, 35, 1, 1354) :: (48, .aload_n 0, 0, 0, 0, 0) :: (49, .getfield 195, 14, 36, 0, 1355) :: (52, .iconst 1, 0, 0, 0, 0) :: (53, .isub, 0, 0, 0, 0) ::
  (54, .iaload, 0, 0, 0, 0) :: (55, .goto 4, 59, 0, 0, 0) :: bl_X12_next_58
def bl_X12_next_23 : List ax_R := (23, .iconst 0, 0, 0, 0, 0) :: bl_X12_next_24
def bl_X12_next_0 : List ax_R := (0, .aload_n 0, 0, 0, 0, 0) :: (1, .aload_n 0, 0, 0, 0, 0) :: (2, .getfield 192, 14, 37, 0, 1356) :: (5, .ifCond .eq 18, 23, 0, 0, 0) :: (8, .aload_n 0, 0, 0, 0, 0) :: (9, .getfield 195, 14, 36, 0, 1355) :: (12, .aload_n 0, 0, 0, 0, 0) :: (13, .getfield 108, 14, 34, 0, 1353) ::
  (16, .if_icmp .ge 7, 23, 0, 0, 0) :: (19, .iconst 1, 0, 0, 0, 0) :: (20, .goto 4, 24, 0, 0, 0) :: bl_X12_next_23
def pr_X12_next : List ax_R := bl_X12_next_0
def pt_X12_next : ax_T := ((⟨"PageServerModel", "next", "()I"⟩, prog_14_method_27_code, 1, (some .int)), 1592, 94, 1591, 58)
def bl_X12_readString_141 : List ax_R := (141, .iload_n 2, 0, 0, 0, 0) :: (142, .ireturn, 0, 0, 0, 0) :: []
def bl_X12_readString_135 : List ax_R := (135, .iinc 3 1, 0, 0, 0, 0) :: (138, .goto (-97), 41, 0, 0, 0) :: bl_X12_readString_141
def bl_X12_readString_111 : List ax_R := (111, .aload_n 0, 0, 0, 0, 0) :: (112, .getfield 192, 14, 37, 0, 1356) :: (115, .ifCond .eq 20, 135, 0, 0, 0) :: (118, .iload_n 1, 0, 0, 0, 0) :: (119, .ifCond .ne 16, 135, 0, 0, 0) :: (122, .aload_n 0, 0, 0, 0, 0) :: (123, .getfield 32, 14, 11, 1, 1330) :: (126, .sipush 320, 0, 0, 0, 0) ::
  (129, .iload_n 3, 0, 0, 0, 0) :: (130, .iadd, 0, 0, 0, 0) :: (131, .iload 4, 0, 0, 0, 0) :: (133, .i2c, 0, 0, 0, 0) :: (134, .castore, 0, 0, 0, 0) :: bl_X12_readString_135
def bl_X12_readString_84 : List ax_R := (84, .putfield 192, 14, 37, 0, 1356) :: (87, .aload_n 0, 0, 0, 0, 0) :: (88, .getfield 192, 14, 37, 0, 1356) :: (91, .ifCond .eq 20, 111, 0, 0, 0) :: (94, .iload_n 1, 0, 0, 0, 0) :: (95, .ifCond .eq 16, 111, 0, 0, 0) :: (98, .aload_n 0, 0, 0, 0, 0) :: (99, .getfield 26, 14, 9, 1, 1328) ::
  (102, .sipush 320, 0, 0, 0, 0) :: (105, .iload_n 3, 0, 0, 0, 0) :: (106, .iadd, 0, 0, 0, 0) :: (107, .iload 4, 0, 0, 0, 0) :: (109, .i2c, 0, 0, 0, 0) :: (110, .castore, 0, 0, 0, 0) :: bl_X12_readString_111
def bl_X12_readString_83 : List ax_R := (83, .iconst 0, 0, 0, 0, 0) :: bl_X12_readString_84
def bl_X12_readString_41 : List ax_R := (41, .iload_n 3, 0, 0, 0, 0) :: (42, .iload_n 2, 0, 0, 0, 0) :: (43, .if_icmp .ge 98, 141, 0, 0, 0) :: (46, .aload_n 0, 0, 0, 0, 0) :: (47, .getfield 192, 14, 37, 0, 1356) :: (50, .ifCond .eq 91, 141, 0, 0, 0) :: (53, .aload_n 0, 0, 0, 0, 0) :: (54, .invokevirtual 198, 136, 1, 14, 1589) ::
  (57, .istore 4, 0, 0, 0, 0) :: (59, .aload_n 0, 0, 0, 0, 0) :: (60, .aload_n 0, 0, 0, 0, 0) :: (61, .getfield 192, 14, 37, 0, 1356) :: (64, .ifCond .eq 19, 83, 0, 0, 0) :: (67, .iload 4, 0, 0, 0, 0) :: (69, .bipush 33, 0, 0, 0, 0) :: (71, .bipush 126, 0, 0, 0, 0) ::
  (73, .invokestatic 158, 114, 3, 0, 1506) :: (76, .ifCond .ne 7, 83, 0, 0, 0) :: (79, .iconst 1, 0, 0, 0, 0) :: (80, .goto 4, 84, 0, 0, 0) :: bl_X12_readString_83
def bl_X12_readString_36 : List ax_R := (36, .putfield 192, 14, 37, 0, 1356) :: (39, .iconst 0, 0, 0, 0, 0) :: (40, .istore_n 3, 0, 0, 0, 0) :: bl_X12_readString_41
def bl_X12_readString_35 : List ax_R := (35, .iconst 0, 0, 0, 0, 0) :: bl_X12_readString_36
def bl_X12_readString_23 : List ax_R := (23, .bipush 20, 0, 0, 0, 0) :: (25, .invokestatic 158, 114, 3, 0, 1506) :: (28, .ifCond .ne 7, 35, 0, 0, 0) :: (31, .iconst 1, 0, 0, 0, 0) :: (32, .goto 4, 36, 0, 0, 0) :: bl_X12_readString_35
def bl_X12_readString_22 : List ax_R := (22, .iconst 0, 0, 0, 0, 0) :: bl_X12_readString_23
def bl_X12_readString_0 : List ax_R := (0, .aload_n 0, 0, 0, 0, 0) :: (1, .invokevirtual 198, 136, 1, 14, 1589) :: (4, .istore_n 2, 0, 0, 0, 0) :: (5, .aload_n 0, 0, 0, 0, 0) :: (6, .aload_n 0, 0, 0, 0, 0) :: (7, .getfield 192, 14, 37, 0, 1356) :: (10, .ifCond .eq 25, 35, 0, 0, 0) :: (13, .iload_n 2, 0, 0, 0, 0) ::
  (14, .iload_n 1, 0, 0, 0, 0) :: (15, .ifCond .eq 7, 22, 0, 0, 0) :: (18, .iconst 1, 0, 0, 0, 0) :: (19, .goto 4, 23, 0, 0, 0) :: bl_X12_readString_22
def pr_X12_readString : List ax_R := bl_X12_readString_0
def pt_X12_readString : ax_T := ((⟨"PageServerModel", "readString", "(Z)I"⟩, prog_14_method_28_code, 5, (some .int)), 1608, 94, 1607, 62)
def bl_X12_readName_107 : List ax_R := (107, .return_, 0, 0, 0, 0) :: []
def bl_X12_readName_72 : List ax_R := (72, .iload_n 2, 0, 0, 0, 0) :: (73, .bipush 20, 0, 0, 0, 0) :: (75, .if_icmp .ge 32, 107, 0, 0, 0) :: (78, .aload_n 0, 0, 0, 0, 0) :: (79, .getfield 26, 14, 9, 1, 1328) :: (82, .sipush 320, 0, 0, 0, 0) :: (85, .iload_n 2, 0, 0, 0, 0) :: (86, .iadd, 0, 0, 0, 0) ::
  (87, .aload_n 0, 0, 0, 0, 0) :: (88, .getfield 26, 14, 9, 1, 1328) :: (91, .bipush 20, 0, 0, 0, 0) :: (93, .iload_n 1, 0, 0, 0, 0) :: (94, .iconst 1, 0, 0, 0, 0) :: (95, .isub, 0, 0, 0, 0) :: (96, .imul, 0, 0, 0, 0) :: (97, .iload_n 2, 0, 0, 0, 0) ::
  (98, .iadd, 0, 0, 0, 0) :: (99, .caload, 0, 0, 0, 0) :: (100, .castore, 0, 0, 0, 0) :: (101, .iinc 2 1, 0, 0, 0, 0) :: (104, .goto (-32), 72, 0, 0, 0) :: bl_X12_readName_107
def bl_X12_readName_55 : List ax_R := (55, .aload_n 0, 0, 0, 0, 0) :: (56, .getfield 23, 14, 8, 1, 1327) :: (59, .bipush 16, 0, 0, 0, 0) :: (61, .aload_n 0, 0, 0, 0, 0) :: (62, .getfield 23, 14, 8, 1, 1327) :: (65, .iload_n 1, 0, 0, 0, 0) :: (66, .iconst 1, 0, 0, 0, 0) :: (67, .isub, 0, 0, 0, 0) ::
  (68, .iaload, 0, 0, 0, 0) :: (69, .iastore, 0, 0, 0, 0) :: (70, .iconst 0, 0, 0, 0, 0) :: (71, .istore_n 2, 0, 0, 0, 0) :: bl_X12_readName_72
def bl_X12_readName_54 : List ax_R := (54, .return_, 0, 0, 0, 0) :: bl_X12_readName_55
def bl_X12_readName_43 : List ax_R := (43, .iload_n 1, 0, 0, 0, 0) :: (44, .ifCond .eq 10, 54, 0, 0, 0) :: (47, .aload_n 0, 0, 0, 0, 0) :: (48, .getfield 192, 14, 37, 0, 1356) :: (51, .ifCond .ne 4, 55, 0, 0, 0) :: bl_X12_readName_54
def bl_X12_readName_24 : List ax_R := (24, .putfield 192, 14, 37, 0, 1356) :: (27, .iload_n 1, 0, 0, 0, 0) :: (28, .ifCond .ne 15, 43, 0, 0, 0) :: (31, .aload_n 0, 0, 0, 0, 0) :: (32, .getfield 23, 14, 8, 1, 1327) :: (35, .bipush 16, 0, 0, 0, 0) :: (37, .aload_n 0, 0, 0, 0, 0) :: (38, .iconst 1, 0, 0, 0, 0) ::
  (39, .invokevirtual 201, 137, 2, 14, 1605) :: (42, .iastore, 0, 0, 0, 0) :: bl_X12_readName_43
def bl_X12_readName_23 : List ax_R := (23, .iconst 0, 0, 0, 0, 0) :: bl_X12_readName_24
def bl_X12_readName_0 : List ax_R := (0, .aload_n 0, 0, 0, 0, 0) :: (1, .aload_n 0, 0, 0, 0, 0) :: (2, .getfield 192, 14, 37, 0, 1356) :: (5, .ifCond .eq 18, 23, 0, 0, 0) :: (8, .iload_n 1, 0, 0, 0, 0) :: (9, .bipush 7, 0, 0, 0, 0) :: (11, .aload_n 0, 0, 0, 0, 0) :: (12, .getfield 89, 14, 6, 0, 1325) ::
  (15, .iadd, 0, 0, 0, 0) :: (16, .if_icmp .gt 7, 23, 0, 0, 0) :: (19, .iconst 1, 0, 0, 0, 0) :: (20, .goto 4, 24, 0, 0, 0) :: bl_X12_readName_23
def pr_X12_readName : List ax_R := bl_X12_readName_0
def pt_X12_readName : ax_T := ((⟨"PageServerModel", "readName", "(I)V"⟩, prog_14_method_29_code, 3, none), 1604, 94, 1603, 61)
def bl_X12_readField_184 : List ax_R := (184, .aload_n 0, 0, 0, 0, 0) :: (185, .dup, 0, 0, 0, 0) :: (186, .getfield 211, 14, 38, 0, 1357) :: (189, .iconst 1, 0, 0, 0, 0) :: (190, .iadd, 0, 0, 0, 0) :: (191, .putfield 211, 14, 38, 0, 1357) :: (194, .aload_n 0, 0, 0, 0, 0) :: (195, .invokevirtual 214, 141, 1, 14, 1625) ::
  (198, .return_, 0, 0, 0, 0) :: []
def bl_X12_readField_176 : List ax_R := (176, .aload_n 0, 0, 0, 0, 0) :: (177, .getfield 192, 14, 37, 0, 1356) :: (180, .ifCond .ne 4, 184, 0, 0, 0) :: (183, .return_, 0, 0, 0, 0) :: bl_X12_readField_184
def bl_X12_readField_175 : List ax_R := (175, .return_, 0, 0, 0, 0) :: bl_X12_readField_176
def bl_X12_readField_152 : List ax_R := (152, .putfield 192, 14, 37, 0, 1356) :: (155, .aload_n 0, 0, 0, 0, 0) :: (156, .getfield 192, 14, 37, 0, 1356) :: (159, .ifCond .eq 16, 175, 0, 0, 0) :: (162, .aload_n 0, 0, 0, 0, 0) :: (163, .iload_n 1, 0, 0, 0, 0) :: (164, .bipush 32, 0, 0, 0, 0) :: (166, .isub, 0, 0, 0, 0) ::
  (167, .putfield 92, 14, 7, 0, 1326) :: (170, .aload_n 0, 0, 0, 0, 0) :: (171, .iconst 0, 0, 0, 0, 0) :: (172, .invokevirtual 186, 133, 2, 14, 1617) :: bl_X12_readField_175
def bl_X12_readField_151 : List ax_R := (151, .iconst 0, 0, 0, 0, 0) :: bl_X12_readField_152
def bl_X12_readField_127 : List ax_R := (127, .aload_n 0, 0, 0, 0, 0) :: (128, .iload_n 1, 0, 0, 0, 0) :: (129, .bipush 31, 0, 0, 0, 0) :: (131, .if_icmp .le 20, 151, 0, 0, 0) :: (134, .iload_n 1, 0, 0, 0, 0) :: (135, .bipush 57, 0, 0, 0, 0) :: (137, .if_icmp .ge 14, 151, 0, 0, 0) :: (140, .aload_n 0, 0, 0, 0, 0) ::
  (141, .getfield 211, 14, 38, 0, 1357) :: (144, .ifCond .ne 7, 151, 0, 0, 0) :: (147, .iconst 1, 0, 0, 0, 0) :: (148, .goto 4, 152, 0, 0, 0) :: bl_X12_readField_151
def bl_X12_readField_107 : List ax_R := (107, .aload_n 0, 0, 0, 0, 0) :: (108, .getfield 192, 14, 37, 0, 1356) :: (111, .ifCond .eq 65, 176, 0, 0, 0) :: (114, .iload_n 1, 0, 0, 0, 0) :: (115, .bipush 63, 0, 0, 0, 0) :: (117, .if_icmp .le 59, 176, 0, 0, 0) :: (120, .aload_n 0, 0, 0, 0, 0) :: (121, .invokevirtual 208, 135, 1, 14, 1609) ::
  (124, .goto 52, 176, 0, 0, 0) :: bl_X12_readField_127
def bl_X12_readField_85 : List ax_R := (85, .invokevirtual 205, 138, 2, 14, 1601) :: (88, .aload_n 0, 0, 0, 0, 0) :: (89, .getfield 192, 14, 37, 0, 1356) :: (92, .ifCond .eq 15, 107, 0, 0, 0) :: (95, .aload_n 0, 0, 0, 0, 0) :: (96, .getfield 29, 14, 10, 1, 1329) :: (99, .bipush 16, 0, 0, 0, 0) :: (101, .aload_n 0, 0, 0, 0, 0) ::
  (102, .iconst 0, 0, 0, 0, 0) :: (103, .invokevirtual 201, 137, 2, 14, 1605) :: (106, .iastore, 0, 0, 0, 0) :: bl_X12_readField_107
def bl_X12_readField_84 : List ax_R := (84, .iload_n 1, 0, 0, 0, 0) :: bl_X12_readField_85
def bl_X12_readField_70 : List ax_R := (70, .aload_n 0, 0, 0, 0, 0) :: (71, .iload_n 1, 0, 0, 0, 0) :: (72, .bipush 63, 0, 0, 0, 0) :: (74, .if_icmp .le 10, 84, 0, 0, 0) :: (77, .iload_n 1, 0, 0, 0, 0) :: (78, .bipush 64, 0, 0, 0, 0) :: (80, .isub, 0, 0, 0, 0) :: (81, .goto 4, 85, 0, 0, 0) :: bl_X12_readField_84
def bl_X12_readField_58 : List ax_R := (58, .iload_n 1, 0, 0, 0, 0) :: (59, .bipush 63, 0, 0, 0, 0) :: (61, .if_icmp .gt 9, 70, 0, 0, 0) :: (64, .iload_n 1, 0, 0, 0, 0) :: (65, .bipush 16, 0, 0, 0, 0) :: (67, .if_icmp .ge 60, 127, 0, 0, 0) :: bl_X12_readField_70
def bl_X12_readField_34 : List ax_R := (34, .putfield 192, 14, 37, 0, 1356) :: (37, .aload_n 0, 0, 0, 0, 0) :: (38, .getfield 192, 14, 37, 0, 1356) :: (41, .ifCond .eq 135, 176, 0, 0, 0) :: (44, .aload_n 0, 0, 0, 0, 0) :: (45, .iload_n 1, 0, 0, 0, 0) :: (46, .sipush 129, 0, 0, 0, 0) :: (49, .isub, 0, 0, 0, 0) ::
  (50, .bipush 16, 0, 0, 0, 0) :: (52, .invokevirtual 189, 134, 3, 14, 1597) :: (55, .goto 121, 176, 0, 0, 0) :: bl_X12_readField_58
def bl_X12_readField_33 : List ax_R := (33, .iconst 0, 0, 0, 0, 0) :: bl_X12_readField_34
def bl_X12_readField_0 : List ax_R := (0, .iload_n 1, 0, 0, 0, 0) :: (1, .bipush 127, 0, 0, 0, 0) :: (3, .if_icmp .le 55, 58, 0, 0, 0) :: (6, .aload_n 0, 0, 0, 0, 0) :: (7, .iload_n 1, 0, 0, 0, 0) :: (8, .sipush 128, 0, 0, 0, 0) :: (11, .if_icmp .le 22, 33, 0, 0, 0) :: (14, .iload_n 1, 0, 0, 0, 0) ::
  (15, .sipush 129, 0, 0, 0, 0) :: (18, .isub, 0, 0, 0, 0) :: (19, .bipush 7, 0, 0, 0, 0) :: (21, .aload_n 0, 0, 0, 0, 0) :: (22, .getfield 89, 14, 6, 0, 1325) :: (25, .iadd, 0, 0, 0, 0) :: (26, .if_icmp .ge 7, 33, 0, 0, 0) :: (29, .iconst 1, 0, 0, 0, 0) ::
  (30, .goto 4, 34, 0, 0, 0) :: bl_X12_readField_33
def pr_X12_readField : List ax_R := bl_X12_readField_0
def pt_X12_readField : ax_T := ((⟨"PageServerModel", "readField", "(I)V"⟩, prog_14_method_30_code, 2, none), 1596, 94, 1595, 59)
def bl_X12_isNamed_44 : List ax_R := (44, .ireturn, 0, 0, 0, 0) :: []
def bl_X12_isNamed_43 : List ax_R := (43, .iconst 0, 0, 0, 0, 0) :: bl_X12_isNamed_44
def bl_X12_isNamed_0 : List ax_R := (0, .aload_n 0, 0, 0, 0, 0) :: (1, .getfield 23, 14, 8, 1, 1327) :: (4, .iload_n 1, 0, 0, 0, 0) :: (5, .iaload, 0, 0, 0, 0) :: (6, .iconst 2, 0, 0, 0, 0) :: (7, .if_icmp .ne 36, 43, 0, 0, 0) :: (10, .aload_n 0, 0, 0, 0, 0) :: (11, .getfield 26, 14, 9, 1, 1328) ::
  (14, .bipush 20, 0, 0, 0, 0) :: (16, .iload_n 1, 0, 0, 0, 0) :: (17, .imul, 0, 0, 0, 0) :: (18, .caload, 0, 0, 0, 0) :: (19, .bipush 58, 0, 0, 0, 0) :: (21, .if_icmp .ne 22, 43, 0, 0, 0) :: (24, .aload_n 0, 0, 0, 0, 0) :: (25, .getfield 26, 14, 9, 1, 1328) ::
  (28, .bipush 20, 0, 0, 0, 0) :: (30, .iload_n 1, 0, 0, 0, 0) :: (31, .imul, 0, 0, 0, 0) :: (32, .iconst 1, 0, 0, 0, 0) :: (33, .iadd, 0, 0, 0, 0) :: (34, .caload, 0, 0, 0, 0) :: (35, .iload_n 2, 0, 0, 0, 0) :: (36, .if_icmp .ne 7, 43, 0, 0, 0) ::
  (39, .iconst 1, 0, 0, 0, 0) :: (40, .goto 4, 44, 0, 0, 0) :: bl_X12_isNamed_43
def pr_X12_isNamed : List ax_R := bl_X12_isNamed_0
def pt_X12_isNamed : ax_T := ((⟨"PageServerModel", "isNamed", "(II)Z"⟩, prog_14_method_31_code, 3, (some .boolean)), 1632, 94, 1631, 68)
def bl_X12_judge_243 : List ax_R := (243, .return_, 0, 0, 0, 0) :: []
def bl_X12_judge_232 : List ax_R := (232, .aload_n 0, 0, 0, 0, 0) :: (233, .invokevirtual 242, 142, 1, 14, 1637) :: (236, .ifCond .eq 7, 243, 0, 0, 0) :: (239, .aload_n 0, 0, 0, 0, 0) :: (240, .invokevirtual 246, 143, 1, 14, 1641) :: bl_X12_judge_243
def bl_X12_judge_223 : List ax_R := (223, .putfield 224, 14, 39, 0, 1358) :: (226, .iinc 3 1, 0, 0, 0, 0) :: (229, .goto (-46), 183, 0, 0, 0) :: bl_X12_judge_232
def bl_X12_judge_222 : List ax_R := (222, .iconst 0, 0, 0, 0, 0) :: bl_X12_judge_223
def bl_X12_judge_218 : List ax_R := (218, .iconst 1, 0, 0, 0, 0) :: (219, .goto 4, 223, 0, 0, 0) :: bl_X12_judge_222
def bl_X12_judge_183 : List ax_R := (183, .iload_n 3, 0, 0, 0, 0) :: (184, .aload_n 0, 0, 0, 0, 0) :: (185, .getfield 23, 14, 8, 1, 1327) :: (188, .bipush 16, 0, 0, 0, 0) :: (190, .iaload, 0, 0, 0, 0) :: (191, .if_icmp .ge 41, 232, 0, 0, 0) :: (194, .aload_n 0, 0, 0, 0, 0) :: (195, .aload_n 0, 0, 0, 0, 0) ::
  (196, .getfield 224, 14, 39, 0, 1358) :: (199, .ifCond .ne 19, 218, 0, 0, 0) :: (202, .aload_n 0, 0, 0, 0, 0) :: (203, .getfield 26, 14, 9, 1, 1328) :: (206, .sipush 320, 0, 0, 0, 0) :: (209, .iload_n 3, 0, 0, 0, 0) :: (210, .iadd, 0, 0, 0, 0) :: (211, .caload, 0, 0, 0, 0) ::
  (212, .invokestatic 144, 117, 1, 0, 1500) :: (215, .ifCond .ne 7, 222, 0, 0, 0) :: bl_X12_judge_218
def bl_X12_judge_176 : List ax_R := (176, .aload_n 0, 0, 0, 0, 0) :: (177, .iconst 1, 0, 0, 0, 0) :: (178, .putfield 227, 14, 41, 0, 1360) :: (181, .iconst 0, 0, 0, 0, 0) :: (182, .istore_n 3, 0, 0, 0, 0) :: bl_X12_judge_183
def bl_X12_judge_173 : List ax_R := (173, .goto 70, 243, 0, 0, 0) :: bl_X12_judge_176
def bl_X12_judge_145 : List ax_R := (145, .iload_n 3, 0, 0, 0, 0) :: (146, .bipush 20, 0, 0, 0, 0) :: (148, .if_icmp .ge 25, 173, 0, 0, 0) :: (151, .aload_n 0, 0, 0, 0, 0) :: (152, .getfield 72, 14, 46, 1, 1365) :: (155, .iload_n 3, 0, 0, 0, 0) :: (156, .aload_n 0, 0, 0, 0, 0) :: (157, .getfield 32, 14, 11, 1, 1330) ::
  (160, .sipush 320, 0, 0, 0, 0) :: (163, .iload_n 3, 0, 0, 0, 0) :: (164, .iadd, 0, 0, 0, 0) :: (165, .caload, 0, 0, 0, 0) :: (166, .castore, 0, 0, 0, 0) :: (167, .iinc 3 1, 0, 0, 0, 0) :: (170, .goto (-25), 145, 0, 0, 0) :: bl_X12_judge_173
def bl_X12_judge_124 : List ax_R := (124, .putfield 224, 14, 39, 0, 1358) :: (127, .aload_n 0, 0, 0, 0, 0) :: (128, .iconst 1, 0, 0, 0, 0) :: (129, .putfield 236, 14, 43, 0, 1362) :: (132, .aload_n 0, 0, 0, 0, 0) :: (133, .aload_n 0, 0, 0, 0, 0) :: (134, .getfield 29, 14, 10, 1, 1329) :: (137, .bipush 16, 0, 0, 0, 0) ::
  (139, .iaload, 0, 0, 0, 0) :: (140, .putfield 239, 14, 45, 0, 1364) :: (143, .iconst 0, 0, 0, 0, 0) :: (144, .istore_n 3, 0, 0, 0, 0) :: bl_X12_judge_145
def bl_X12_judge_123 : List ax_R := (123, .iconst 0, 0, 0, 0, 0) :: bl_X12_judge_124
def bl_X12_judge_119 : List ax_R := (119, .iconst 1, 0, 0, 0, 0) :: (120, .goto 4, 124, 0, 0, 0) :: bl_X12_judge_123
def bl_X12_judge_93 : List ax_R := (93, .iload_n 2, 0, 0, 0, 0) :: (94, .ifCond .eq 82, 176, 0, 0, 0) :: (97, .aload_n 0, 0, 0, 0, 0) :: (98, .aload_n 0, 0, 0, 0, 0) :: (99, .getfield 224, 14, 39, 0, 1358) :: (102, .ifCond .ne 17, 119, 0, 0, 0) :: (105, .aload_n 0, 0, 0, 0, 0) :: (106, .getfield 227, 14, 41, 0, 1360) ::
  (109, .ifCond .ne 10, 119, 0, 0, 0) :: (112, .aload_n 0, 0, 0, 0, 0) :: (113, .getfield 236, 14, 43, 0, 1362) :: (116, .ifCond .eq 7, 123, 0, 0, 0) :: bl_X12_judge_119
def bl_X12_judge_79 : List ax_R := (79, .putfield 224, 14, 39, 0, 1358) :: (82, .aload_n 0, 0, 0, 0, 0) :: (83, .aload_n 0, 0, 0, 0, 0) :: (84, .invokevirtual 233, 144, 1, 14, 1633) :: (87, .putfield 230, 14, 42, 0, 1361) :: (90, .goto 153, 243, 0, 0, 0) :: bl_X12_judge_93
def bl_X12_judge_78 : List ax_R := (78, .iconst 0, 0, 0, 0, 0) :: bl_X12_judge_79
def bl_X12_judge_74 : List ax_R := (74, .iconst 1, 0, 0, 0, 0) :: (75, .goto 4, 79, 0, 0, 0) :: bl_X12_judge_78
def bl_X12_judge_26 : List ax_R := (26, .putfield 217, 14, 40, 0, 1359) :: (29, .aload_n 0, 0, 0, 0, 0) :: (30, .bipush 16, 0, 0, 0, 0) :: (32, .bipush 109, 0, 0, 0, 0) :: (34, .invokevirtual 220, 140, 3, 14, 1629) :: (37, .istore_n 1, 0, 0, 0, 0) :: (38, .aload_n 0, 0, 0, 0, 0) :: (39, .bipush 16, 0, 0, 0, 0) ::
  (41, .bipush 112, 0, 0, 0, 0) :: (43, .invokevirtual 220, 140, 3, 14, 1629) :: (46, .istore_n 2, 0, 0, 0, 0) :: (47, .iload_n 1, 0, 0, 0, 0) :: (48, .ifCond .eq 45, 93, 0, 0, 0) :: (51, .aload_n 0, 0, 0, 0, 0) :: (52, .aload_n 0, 0, 0, 0, 0) :: (53, .getfield 224, 14, 39, 0, 1358) ::
  (56, .ifCond .ne 18, 74, 0, 0, 0) :: (59, .aload_n 0, 0, 0, 0, 0) :: (60, .getfield 227, 14, 41, 0, 1360) :: (63, .ifCond .ne 11, 74, 0, 0, 0) :: (66, .aload_n 0, 0, 0, 0, 0) :: (67, .getfield 230, 14, 42, 0, 1361) :: (70, .iconst (-1), 0, 0, 0, 0) :: (71, .if_icmp .eq 7, 78, 0, 0, 0) :: bl_X12_judge_74
def bl_X12_judge_25 : List ax_R := (25, .iconst 0, 0, 0, 0, 0) :: bl_X12_judge_26
def bl_X12_judge_21 : List ax_R := (21, .iconst 1, 0, 0, 0, 0) :: (22, .goto 4, 26, 0, 0, 0) :: bl_X12_judge_25
def bl_X12_judge_0 : List ax_R := (0, .aload_n 0, 0, 0, 0, 0) :: (1, .aload_n 0, 0, 0, 0, 0) :: (2, .getfield 217, 14, 40, 0, 1359) :: (5, .ifCond .ne 16, 21, 0, 0, 0) :: (8, .aload_n 0, 0, 0, 0, 0) :: (9, .getfield 26, 14, 9, 1, 1328) :: (12, .sipush 320, 0, 0, 0, 0) :: (15, .caload, 0, 0, 0, 0) ::
  (16, .bipush 58, 0, 0, 0, 0) :: (18, .if_icmp .ne 7, 25, 0, 0, 0) :: bl_X12_judge_21
def pr_X12_judge : List ax_R := bl_X12_judge_0
def pt_X12_judge : ax_T := ((⟨"PageServerModel", "judge", "()V"⟩, prog_14_method_32_code, 4, none), 1628, 94, 1627, 67)
def bl_X12_isLength_64 : List ax_R := (64, .iload_n 1, 0, 0, 0, 0) :: (65, .ireturn, 0, 0, 0, 0) :: []
def bl_X12_isLength_57 : List ax_R := (57, .istore_n 1, 0, 0, 0, 0) :: (58, .iinc 2 1, 0, 0, 0, 0) :: (61, .goto (-41), 20, 0, 0, 0) :: bl_X12_isLength_64
def bl_X12_isLength_56 : List ax_R := (56, .iconst 0, 0, 0, 0, 0) :: bl_X12_isLength_57
def bl_X12_isLength_20 : List ax_R := (20, .iload_n 2, 0, 0, 0, 0) :: (21, .bipush 6, 0, 0, 0, 0) :: (23, .if_icmp .ge 41, 64, 0, 0, 0) :: (26, .iload_n 1, 0, 0, 0, 0) :: (27, .ifCond .eq 37, 64, 0, 0, 0) :: (30, .aload_n 0, 0, 0, 0, 0) :: (31, .getfield 26, 14, 9, 1, 1328) :: (34, .sipush 320, 0, 0, 0, 0) ::
  (37, .iload_n 2, 0, 0, 0, 0) :: (38, .iadd, 0, 0, 0, 0) :: (39, .caload, 0, 0, 0, 0) :: (40, .aload_n 0, 0, 0, 0, 0) :: (41, .getfield 26, 14, 9, 1, 1328) :: (44, .bipush 80, 0, 0, 0, 0) :: (46, .iload_n 2, 0, 0, 0, 0) :: (47, .iadd, 0, 0, 0, 0) ::
  (48, .caload, 0, 0, 0, 0) :: (49, .if_icmp .ne 7, 56, 0, 0, 0) :: (52, .iconst 1, 0, 0, 0, 0) :: (53, .goto 4, 57, 0, 0, 0) :: bl_X12_isLength_56
def bl_X12_isLength_17 : List ax_R := (17, .istore_n 1, 0, 0, 0, 0) :: (18, .iconst 0, 0, 0, 0, 0) :: (19, .istore_n 2, 0, 0, 0, 0) :: bl_X12_isLength_20
def bl_X12_isLength_16 : List ax_R := (16, .iconst 0, 0, 0, 0, 0) :: bl_X12_isLength_17
def bl_X12_isLength_0 : List ax_R := (0, .aload_n 0, 0, 0, 0, 0) :: (1, .getfield 23, 14, 8, 1, 1327) :: (4, .bipush 16, 0, 0, 0, 0) :: (6, .iaload, 0, 0, 0, 0) :: (7, .bipush 6, 0, 0, 0, 0) :: (9, .if_icmp .ne 7, 16, 0, 0, 0) :: (12, .iconst 1, 0, 0, 0, 0) :: (13, .goto 4, 17, 0, 0, 0) :: bl_X12_isLength_16
def pr_X12_isLength : List ax_R := bl_X12_isLength_0
def pt_X12_isLength : ax_T := ((⟨"PageServerModel", "isLength", "()Z"⟩, prog_14_method_33_code, 3, (some .boolean)), 1640, 94, 1639, 70)
def bl_X12_judgeLength_118 : List ax_R := (118, .aload_n 0, 0, 0, 0, 0) :: (119, .iload_n 1, 0, 0, 0, 0) :: (120, .putfield 249, 14, 44, 0, 1363) :: (123, .return_, 0, 0, 0, 0) :: []
def bl_X12_judgeLength_87 : List ax_R := (87, .putfield 224, 14, 39, 0, 1358) :: (90, .bipush 10, 0, 0, 0, 0) :: (92, .iload_n 1, 0, 0, 0, 0) :: (93, .imul, 0, 0, 0, 0) :: (94, .aload_n 0, 0, 0, 0, 0) :: (95, .getfield 32, 14, 11, 1, 1330) :: (98, .sipush 320, 0, 0, 0, 0) :: (101, .iload_n 2, 0, 0, 0, 0) ::
  (102, .iadd, 0, 0, 0, 0) :: (103, .caload, 0, 0, 0, 0) :: (104, .iadd, 0, 0, 0, 0) :: (105, .bipush 48, 0, 0, 0, 0) :: (107, .isub, 0, 0, 0, 0) :: (108, .ldc 252, 100000, 0, 0, 1645) :: (110, .irem, 0, 0, 0, 0) :: (111, .istore_n 1, 0, 0, 0, 0) ::
  (112, .iinc 2 1, 0, 0, 0, 0) :: (115, .goto (-72), 43, 0, 0, 0) :: bl_X12_judgeLength_118
def bl_X12_judgeLength_86 : List ax_R := (86, .iconst 0, 0, 0, 0, 0) :: bl_X12_judgeLength_87
def bl_X12_judgeLength_82 : List ax_R := (82, .iconst 1, 0, 0, 0, 0) :: (83, .goto 4, 87, 0, 0, 0) :: bl_X12_judgeLength_86
def bl_X12_judgeLength_43 : List ax_R := (43, .iload_n 2, 0, 0, 0, 0) :: (44, .aload_n 0, 0, 0, 0, 0) :: (45, .getfield 29, 14, 10, 1, 1329) :: (48, .bipush 16, 0, 0, 0, 0) :: (50, .iaload, 0, 0, 0, 0) :: (51, .if_icmp .ge 67, 118, 0, 0, 0) :: (54, .aload_n 0, 0, 0, 0, 0) :: (55, .aload_n 0, 0, 0, 0, 0) ::
  (56, .getfield 224, 14, 39, 0, 1358) :: (59, .ifCond .ne 23, 82, 0, 0, 0) :: (62, .aload_n 0, 0, 0, 0, 0) :: (63, .getfield 32, 14, 11, 1, 1330) :: (66, .sipush 320, 0, 0, 0, 0) :: (69, .iload_n 2, 0, 0, 0, 0) :: (70, .iadd, 0, 0, 0, 0) :: (71, .caload, 0, 0, 0, 0) ::
  (72, .bipush 48, 0, 0, 0, 0) :: (74, .bipush 57, 0, 0, 0, 0) :: (76, .invokestatic 158, 114, 3, 0, 1506) :: (79, .ifCond .eq 7, 86, 0, 0, 0) :: bl_X12_judgeLength_82
def bl_X12_judgeLength_36 : List ax_R := (36, .putfield 224, 14, 39, 0, 1358) :: (39, .iconst 0, 0, 0, 0, 0) :: (40, .istore_n 1, 0, 0, 0, 0) :: (41, .iconst 0, 0, 0, 0, 0) :: (42, .istore_n 2, 0, 0, 0, 0) :: bl_X12_judgeLength_43
def bl_X12_judgeLength_35 : List ax_R := (35, .iconst 0, 0, 0, 0, 0) :: bl_X12_judgeLength_36
def bl_X12_judgeLength_31 : List ax_R := (31, .iconst 1, 0, 0, 0, 0) :: (32, .goto 4, 36, 0, 0, 0) :: bl_X12_judgeLength_35
def bl_X12_judgeLength_0 : List ax_R := (0, .aload_n 0, 0, 0, 0, 0) :: (1, .aload_n 0, 0, 0, 0, 0) :: (2, .getfield 224, 14, 39, 0, 1358) :: (5, .ifCond .ne 26, 31, 0, 0, 0) :: (8, .aload_n 0, 0, 0, 0, 0) :: (9, .getfield 249, 14, 44, 0, 1363) :: (12, .iconst (-1), 0, 0, 0, 0) :: (13, .if_icmp .ne 18, 31, 0, 0, 0) ::
  (16, .aload_n 0, 0, 0, 0, 0) :: (17, .getfield 29, 14, 10, 1, 1329) :: (20, .bipush 16, 0, 0, 0, 0) :: (22, .iaload, 0, 0, 0, 0) :: (23, .iconst 1, 0, 0, 0, 0) :: (24, .iconst 3, 0, 0, 0, 0) :: (25, .invokestatic 158, 114, 3, 0, 1506) :: (28, .ifCond .eq 7, 35, 0, 0, 0) :: bl_X12_judgeLength_31
def pr_X12_judgeLength : List ax_R := bl_X12_judgeLength_0
def pt_X12_judgeLength : ax_T := ((⟨"PageServerModel", "judgeLength", "()V"⟩, prog_14_method_34_code, 3, none), 1644, 94, 1643, 71)
def bl_X12_methodOf_130 : List ax_R := (130, .ireturn, 0, 0, 0, 0) :: []
def bl_X12_methodOf_129 : List ax_R := (129, .iconst 2, 0, 0, 0, 0) :: bl_X12_methodOf_130
def bl_X12_methodOf_121 : List ax_R := (121, .iload_n 2, 0, 0, 0, 0) :: (122, .ifCond .eq 7, 129, 0, 0, 0) :: (125, .iconst 1, 0, 0, 0, 0) :: (126, .goto 4, 130, 0, 0, 0) :: bl_X12_methodOf_129
def bl_X12_methodOf_113 : List ax_R := (113, .iload_n 1, 0, 0, 0, 0) :: (114, .ifCond .eq 7, 121, 0, 0, 0) :: (117, .iconst 0, 0, 0, 0, 0) :: (118, .goto 12, 130, 0, 0, 0) :: bl_X12_methodOf_121
def bl_X12_methodOf_106 : List ax_R := (106, .istore_n 2, 0, 0, 0, 0) :: (107, .iinc 3 1, 0, 0, 0, 0) :: (110, .goto (-74), 36, 0, 0, 0) :: bl_X12_methodOf_113
def bl_X12_methodOf_105 : List ax_R := (105, .iconst 0, 0, 0, 0, 0) :: bl_X12_methodOf_106
def bl_X12_methodOf_74 : List ax_R := (74, .istore_n 1, 0, 0, 0, 0) :: (75, .iload_n 2, 0, 0, 0, 0) :: (76, .ifCond .eq 29, 105, 0, 0, 0) :: (79, .aload_n 0, 0, 0, 0, 0) :: (80, .getfield 32, 14, 11, 1, 1330) :: (83, .sipush 320, 0, 0, 0, 0) :: (86, .iload_n 3, 0, 0, 0, 0) :: (87, .iadd, 0, 0, 0, 0) ::
  (88, .caload, 0, 0, 0, 0) :: (89, .aload_n 0, 0, 0, 0, 0) :: (90, .getfield 32, 14, 11, 1, 1330) :: (93, .bipush 20, 0, 0, 0, 0) :: (95, .iload_n 3, 0, 0, 0, 0) :: (96, .iadd, 0, 0, 0, 0) :: (97, .caload, 0, 0, 0, 0) :: (98, .if_icmp .ne 7, 105, 0, 0, 0) ::
  (101, .iconst 1, 0, 0, 0, 0) :: (102, .goto 4, 106, 0, 0, 0) :: bl_X12_methodOf_105
def bl_X12_methodOf_73 : List ax_R := (73, .iconst 0, 0, 0, 0, 0) :: bl_X12_methodOf_74
def bl_X12_methodOf_69 : List ax_R := (69, .iconst 1, 0, 0, 0, 0) :: (70, .goto 4, 74, 0, 0, 0) :: bl_X12_methodOf_73
def bl_X12_methodOf_36 : List ax_R := (36, .iload_n 3, 0, 0, 0, 0) :: (37, .iconst 4, 0, 0, 0, 0) :: (38, .if_icmp .ge 75, 113, 0, 0, 0) :: (41, .iload_n 1, 0, 0, 0, 0) :: (42, .ifCond .eq 31, 73, 0, 0, 0) :: (45, .iload_n 3, 0, 0, 0, 0) :: (46, .iconst 3, 0, 0, 0, 0) :: (47, .if_icmp .eq 22, 69, 0, 0, 0) ::
  (50, .aload_n 0, 0, 0, 0, 0) :: (51, .getfield 32, 14, 11, 1, 1330) :: (54, .sipush 320, 0, 0, 0, 0) :: (57, .iload_n 3, 0, 0, 0, 0) :: (58, .iadd, 0, 0, 0, 0) :: (59, .caload, 0, 0, 0, 0) :: (60, .aload_n 0, 0, 0, 0, 0) :: (61, .getfield 32, 14, 11, 1, 1330) ::
  (64, .iload_n 3, 0, 0, 0, 0) :: (65, .caload, 0, 0, 0, 0) :: (66, .if_icmp .ne 7, 73, 0, 0, 0) :: bl_X12_methodOf_69
def bl_X12_methodOf_33 : List ax_R := (33, .istore_n 2, 0, 0, 0, 0) :: (34, .iconst 0, 0, 0, 0, 0) :: (35, .istore_n 3, 0, 0, 0, 0) :: bl_X12_methodOf_36
def bl_X12_methodOf_32 : List ax_R := (32, .iconst 0, 0, 0, 0, 0) :: bl_X12_methodOf_33
def bl_X12_methodOf_16 : List ax_R := (16, .istore_n 1, 0, 0, 0, 0) :: (17, .aload_n 0, 0, 0, 0, 0) :: (18, .getfield 29, 14, 10, 1, 1329) :: (21, .bipush 16, 0, 0, 0, 0) :: (23, .iaload, 0, 0, 0, 0) :: (24, .iconst 4, 0, 0, 0, 0) :: (25, .if_icmp .ne 7, 32, 0, 0, 0) :: (28, .iconst 1, 0, 0, 0, 0) ::
  (29, .goto 4, 33, 0, 0, 0) :: bl_X12_methodOf_32
def bl_X12_methodOf_15 : List ax_R := (15, .iconst 0, 0, 0, 0, 0) :: bl_X12_methodOf_16
def bl_X12_methodOf_0 : List ax_R := (0, .aload_n 0, 0, 0, 0, 0) :: (1, .getfield 29, 14, 10, 1, 1329) :: (4, .bipush 16, 0, 0, 0, 0) :: (6, .iaload, 0, 0, 0, 0) :: (7, .iconst 3, 0, 0, 0, 0) :: (8, .if_icmp .ne 7, 15, 0, 0, 0) :: (11, .iconst 1, 0, 0, 0, 0) :: (12, .goto 4, 16, 0, 0, 0) :: bl_X12_methodOf_15
def pr_X12_methodOf : List ax_R := bl_X12_methodOf_0
def pt_X12_methodOf : ax_T := ((⟨"PageServerModel", "methodOf", "()I"⟩, prog_14_method_35_code, 4, (some .int)), 1636, 94, 1635, 69)
def bl_X12_readBlock_74 : List ax_R := (74, .aload_n 0, 0, 0, 0, 0) :: (75, .getfield 192, 14, 37, 0, 1356) :: (78, .ireturn, 0, 0, 0, 0) :: []
def bl_X12_readBlock_45 : List ax_R := (45, .aload_n 0, 0, 0, 0, 0) :: (46, .getfield 192, 14, 37, 0, 1356) :: (49, .ifCond .eq 25, 74, 0, 0, 0) :: (52, .aload_n 0, 0, 0, 0, 0) :: (53, .getfield 195, 14, 36, 0, 1355) :: (56, .aload_n 0, 0, 0, 0, 0) :: (57, .getfield 108, 14, 34, 0, 1353) :: (60, .if_icmp .ge 14, 74, 0, 0, 0) ::
  (63, .aload_n 0, 0, 0, 0, 0) :: (64, .aload_n 0, 0, 0, 0, 0) :: (65, .invokevirtual 198, 136, 1, 14, 1589) :: (68, .invokevirtual 253, 139, 2, 14, 1593) :: (71, .goto (-26), 45, 0, 0, 0) :: bl_X12_readBlock_74
def bl_X12_readBlock_0 : List ax_R := (0, .aload_n 0, 0, 0, 0, 0) :: (1, .iconst 0, 0, 0, 0, 0) :: (2, .putfield 195, 14, 36, 0, 1355) :: (5, .aload_n 0, 0, 0, 0, 0) :: (6, .iconst 1, 0, 0, 0, 0) :: (7, .putfield 192, 14, 37, 0, 1356) :: (10, .aload_n 0, 0, 0, 0, 0) :: (11, .iconst 0, 0, 0, 0, 0) ::
  (12, .putfield 211, 14, 38, 0, 1357) :: (15, .aload_n 0, 0, 0, 0, 0) :: (16, .iconst 0, 0, 0, 0, 0) :: (17, .putfield 224, 14, 39, 0, 1358) :: (20, .aload_n 0, 0, 0, 0, 0) :: (21, .iconst 0, 0, 0, 0, 0) :: (22, .putfield 217, 14, 40, 0, 1359) :: (25, .aload_n 0, 0, 0, 0, 0) ::
  (26, .iconst 0, 0, 0, 0, 0) :: (27, .putfield 227, 14, 41, 0, 1360) :: (30, .aload_n 0, 0, 0, 0, 0) :: (31, .iconst (-1), 0, 0, 0, 0) :: (32, .putfield 230, 14, 42, 0, 1361) :: (35, .aload_n 0, 0, 0, 0, 0) :: (36, .iconst 0, 0, 0, 0, 0) :: (37, .putfield 236, 14, 43, 0, 1362) ::
  (40, .aload_n 0, 0, 0, 0, 0) :: (41, .iconst (-1), 0, 0, 0, 0) :: (42, .putfield 249, 14, 44, 0, 1363) :: bl_X12_readBlock_45
def pr_X12_readBlock : List ax_R := bl_X12_readBlock_0
def pt_X12_readBlock : ax_T := ((⟨"PageServerModel", "readBlock", "()Z"⟩, prog_14_method_36_code, 1, (some .boolean)), 1588, 94, 1587, 57)
def bl_X12_unpad_77 : List ax_R := (77, .putfield 265, 14, 30, 0, 1349) :: (80, .iload_n 2, 0, 0, 0, 0) :: (81, .ireturn, 0, 0, 0, 0) :: []
def bl_X12_unpad_73 : List ax_R := (73, .aload_n 0, 0, 0, 0, 0) :: (74, .getfield 259, 14, 28, 0, 1347) :: bl_X12_unpad_77
def bl_X12_unpad_47 : List ax_R := (47, .putfield 262, 14, 29, 0, 1348) :: (50, .aload_n 0, 0, 0, 0, 0) :: (51, .iload_n 1, 0, 0, 0, 0) :: (52, .ifCond .eq 21, 73, 0, 0, 0) :: (55, .iload_n 2, 0, 0, 0, 0) :: (56, .ifCond .eq 17, 73, 0, 0, 0) :: (59, .aload_n 0, 0, 0, 0, 0) :: (60, .getfield 259, 14, 28, 0, 1347) ::
  (63, .aload_n 0, 0, 0, 0, 0) :: (64, .getfield 66, 14, 24, 1, 1343) :: (67, .iconst 4, 0, 0, 0, 0) :: (68, .iaload, 0, 0, 0, 0) :: (69, .isub, 0, 0, 0, 0) :: (70, .goto 7, 77, 0, 0, 0) :: bl_X12_unpad_73
def bl_X12_unpad_46 : List ax_R := (46, .iconst 0, 0, 0, 0, 0) :: bl_X12_unpad_47
def bl_X12_unpad_36 : List ax_R := (36, .istore_n 2, 0, 0, 0, 0) :: (37, .aload_n 0, 0, 0, 0, 0) :: (38, .iload_n 1, 0, 0, 0, 0) :: (39, .ifCond .eq 7, 46, 0, 0, 0) :: (42, .iconst 1, 0, 0, 0, 0) :: (43, .goto 4, 47, 0, 0, 0) :: bl_X12_unpad_46
def bl_X12_unpad_35 : List ax_R := (35, .iconst 0, 0, 0, 0, 0) :: bl_X12_unpad_36
def bl_X12_unpad_31 : List ax_R := (31, .iconst 1, 0, 0, 0, 0) :: (32, .goto 4, 36, 0, 0, 0) :: bl_X12_unpad_35
def bl_X12_unpad_0 : List ax_R := (0, .aload_n 0, 0, 0, 0, 0) :: (1, .bipush 8, 0, 0, 0, 0) :: (3, .invokevirtual 256, 130, 2, 14, 1545) :: (6, .istore_n 1, 0, 0, 0, 0) :: (7, .iload_n 1, 0, 0, 0, 0) :: (8, .ifCond .eq 23, 31, 0, 0, 0) :: (11, .aload_n 0, 0, 0, 0, 0) :: (12, .getfield 259, 14, 28, 0, 1347) ::
  (15, .ifCond .le 20, 35, 0, 0, 0) :: (18, .aload_n 0, 0, 0, 0, 0) :: (19, .getfield 66, 14, 24, 1, 1343) :: (22, .iconst 4, 0, 0, 0, 0) :: (23, .iaload, 0, 0, 0, 0) :: (24, .aload_n 0, 0, 0, 0, 0) :: (25, .getfield 259, 14, 28, 0, 1347) :: (28, .if_icmp .ge 7, 35, 0, 0, 0) :: bl_X12_unpad_31
def pr_X12_unpad : List ax_R := bl_X12_unpad_0
def pt_X12_unpad : ax_T := ((⟨"PageServerModel", "unpad", "()Z"⟩, prog_14_method_37_code, 3, (some .boolean)), 1560, 94, 1559, 50)
def bl_X12_data_143 : List ax_R := (143, .iconst 0, 0, 0, 0, 0) :: (144, .ireturn, 0, 0, 0, 0) :: []
def bl_X12_data_124 : List ax_R := (124, .aload_n 0, 0, 0, 0, 0) :: (125, .getfield 259, 14, 28, 0, 1347) :: (128, .ifCond .le 15, 143, 0, 0, 0) :: (131, .aload_n 0, 0, 0, 0, 0) :: (132, .aload_n 0, 0, 0, 0, 0) :: (133, .getfield 268, 14, 27, 0, 1346) :: (136, .aload_n 0, 0, 0, 0, 0) :: (137, .getfield 259, 14, 28, 0, 1347) ::
  (140, .invokevirtual 277, 125, 3, 14, 1561) :: bl_X12_data_143
def bl_X12_data_92 : List ax_R := (92, .aload_n 0, 0, 0, 0, 0) :: (93, .getfield 41, 14, 14, 1, 1333) :: (96, .iload_n 1, 0, 0, 0, 0) :: (97, .dup2, 0, 0, 0, 0) :: (98, .iaload, 0, 0, 0, 0) :: (99, .aload_n 0, 0, 0, 0, 0) :: (100, .getfield 265, 14, 30, 0, 1349) :: (103, .aload_n 0, 0, 0, 0, 0) ::
  (104, .getfield 262, 14, 29, 0, 1348) :: (107, .isub, 0, 0, 0, 0) :: (108, .iadd, 0, 0, 0, 0) :: (109, .iastore, 0, 0, 0, 0) :: (110, .aload_n 0, 0, 0, 0, 0) :: (111, .iconst 1, 0, 0, 0, 0) :: (112, .invokevirtual 256, 130, 2, 14, 1545) :: (115, .ifCond .eq 9, 124, 0, 0, 0) ::
  (118, .aload_n 0, 0, 0, 0, 0) :: (119, .iload_n 1, 0, 0, 0, 0) :: (120, .invokevirtual 280, 148, 2, 14, 1569) :: (123, .ireturn, 0, 0, 0, 0) :: bl_X12_data_124
def bl_X12_data_80 : List ax_R := (80, .aload_n 0, 0, 0, 0, 0) :: (81, .getfield 259, 14, 28, 0, 1347) :: (84, .bipush 50, 0, 0, 0, 0) :: (86, .if_icmp .le 6, 92, 0, 0, 0) :: (89, .bipush 103, 0, 0, 0, 0) :: (91, .ireturn, 0, 0, 0, 0) :: bl_X12_data_92
def bl_X12_data_77 : List ax_R := (77, .bipush 105, 0, 0, 0, 0) :: (79, .ireturn, 0, 0, 0, 0) :: bl_X12_data_80
def bl_X12_data_54 : List ax_R := (54, .aload_n 0, 0, 0, 0, 0) :: (55, .aload_n 0, 0, 0, 0, 0) :: (56, .getfield 268, 14, 27, 0, 1346) :: (59, .invokevirtual 173, 126, 2, 14, 1565) :: (62, .istore_n 1, 0, 0, 0, 0) :: (63, .iload_n 1, 0, 0, 0, 0) :: (64, .iconst (-1), 0, 0, 0, 0) :: (65, .if_icmp .eq 12, 77, 0, 0, 0) ::
  (68, .aload_n 0, 0, 0, 0, 0) :: (69, .getfield 53, 14, 18, 1, 1337) :: (72, .iload_n 1, 0, 0, 0, 0) :: (73, .baload, 0, 0, 1, 0) :: (74, .ifCond .eq 6, 80, 0, 0, 0) :: bl_X12_data_77
def bl_X12_data_38 : List ax_R := (38, .aload_n 0, 0, 0, 0, 0) :: (39, .getfield 259, 14, 28, 0, 1347) :: (42, .ifCond .le 12, 54, 0, 0, 0) :: (45, .aload_n 0, 0, 0, 0, 0) :: (46, .iconst 0, 0, 0, 0, 0) :: (47, .aload_n 0, 0, 0, 0, 0) :: (48, .getfield 259, 14, 28, 0, 1347) :: (51, .invokevirtual 277, 125, 3, 14, 1561) :: bl_X12_data_54
def bl_X12_data_27 : List ax_R := (27, .aload_n 0, 0, 0, 0, 0) :: (28, .getfield 259, 14, 28, 0, 1347) :: (31, .bipush 80, 0, 0, 0, 0) :: (33, .if_icmp .le 5, 38, 0, 0, 0) :: (36, .iconst 3, 0, 0, 0, 0) :: (37, .ireturn, 0, 0, 0, 0) :: bl_X12_data_38
def bl_X12_data_25 : List ax_R := (25, .iconst 1, 0, 0, 0, 0) :: (26, .ireturn, 0, 0, 0, 0) :: bl_X12_data_27
def bl_X12_data_0 : List ax_R := (0, .aload_n 0, 0, 0, 0, 0) :: (1, .getfield 268, 14, 27, 0, 1346) :: (4, .ifCond .eq 21, 25, 0, 0, 0) :: (7, .aload_n 0, 0, 0, 0, 0) :: (8, .aload_n 0, 0, 0, 0, 0) :: (9, .getfield 268, 14, 27, 0, 1346) :: (12, .invokevirtual 271, 129, 2, 14, 1553) :: (15, .ifCond .ne 10, 25, 0, 0, 0) ::
  (18, .aload_n 0, 0, 0, 0, 0) :: (19, .invokevirtual 274, 146, 1, 14, 1557) :: (22, .ifCond .ne 5, 27, 0, 0, 0) :: bl_X12_data_25
def pr_X12_data : List ax_R := bl_X12_data_0
def pt_X12_data : ax_T := ((⟨"PageServerModel", "data", "()I"⟩, prog_14_method_38_code, 2, (some .int)), 1552, 94, 1551, 48)
def bl_X12_close_35 : List ax_R := (35, .aload_n 0, 0, 0, 0, 0) :: (36, .iload_n 1, 0, 0, 0, 0) :: (37, .invokevirtual 283, 149, 2, 14, 1573) :: (40, .iconst 0, 0, 0, 0, 0) :: (41, .ireturn, 0, 0, 0, 0) :: []
def bl_X12_close_0 : List ax_R := (0, .aload_n 0, 0, 0, 0, 0) :: (1, .getfield 53, 14, 18, 1, 1337) :: (4, .iload_n 1, 0, 0, 0, 0) :: (5, .iconst 1, 0, 0, 0, 0) :: (6, .bastore, 0, 0, 1, 0) :: (7, .aload_n 0, 0, 0, 0, 0) :: (8, .getfield 44, 14, 15, 1, 1334) :: (11, .iload_n 1, 0, 0, 0, 0) ::
  (12, .iaload, 0, 0, 0, 0) :: (13, .iconst (-1), 0, 0, 0, 0) :: (14, .if_icmp .eq 21, 35, 0, 0, 0) :: (17, .aload_n 0, 0, 0, 0, 0) :: (18, .getfield 44, 14, 15, 1, 1334) :: (21, .iload_n 1, 0, 0, 0, 0) :: (22, .iaload, 0, 0, 0, 0) :: (23, .aload_n 0, 0, 0, 0, 0) ::
  (24, .getfield 41, 14, 14, 1, 1333) :: (27, .iload_n 1, 0, 0, 0, 0) :: (28, .iaload, 0, 0, 0, 0) :: (29, .if_icmp .eq 6, 35, 0, 0, 0) :: (32, .bipush 101, 0, 0, 0, 0) :: (34, .ireturn, 0, 0, 0, 0) :: bl_X12_close_35
def pr_X12_close : List ax_R := bl_X12_close_0
def pt_X12_close : ax_T := ((⟨"PageServerModel", "close", "(I)I"⟩, prog_14_method_39_code, 2, (some .int)), 1572, 94, 1571, 53)
def bl_X12_answer_191 : List ax_R := (191, .return_, 0, 0, 0, 0) :: []
def bl_X12_answer_179 : List ax_R := (179, .iastore, 0, 0, 0, 0) :: (180, .iload_n 3, 0, 0, 0, 0) :: (181, .ifCond .ne 10, 191, 0, 0, 0) :: (184, .aload_n 0, 0, 0, 0, 0) :: (185, .getfield 35, 14, 12, 1, 1331) :: (188, .iload_n 1, 0, 0, 0, 0) :: (189, .iconst 0, 0, 0, 0, 0) :: (190, .iastore, 0, 0, 0, 0) :: bl_X12_answer_191
def bl_X12_answer_173 : List ax_R := (173, .aload_n 0, 0, 0, 0, 0) :: (174, .getfield 20, 14, 5, 1, 1324) :: (177, .iload_n 2, 0, 0, 0, 0) :: (178, .iaload, 0, 0, 0, 0) :: bl_X12_answer_179
def bl_X12_answer_153 : List ax_R := (153, .aload_n 0, 0, 0, 0, 0) :: (154, .getfield 47, 14, 16, 1, 1335) :: (157, .iload_n 1, 0, 0, 0, 0) :: (158, .iload_n 3, 0, 0, 0, 0) :: (159, .iastore, 0, 0, 0, 0) :: (160, .aload_n 0, 0, 0, 0, 0) :: (161, .getfield 50, 14, 17, 1, 1336) :: (164, .iload_n 1, 0, 0, 0, 0) ::
  (165, .iload_n 3, 0, 0, 0, 0) :: (166, .ifCond .ne 7, 173, 0, 0, 0) :: (169, .iconst 0, 0, 0, 0, 0) :: (170, .goto 9, 179, 0, 0, 0) :: bl_X12_answer_173
def bl_X12_answer_124 : List ax_R := (124, .aload_n 0, 0, 0, 0, 0) :: (125, .bipush 6, 0, 0, 0, 0) :: (127, .invokevirtual 136, 123, 2, 14, 1315) :: (130, .aload_n 0, 0, 0, 0, 0) :: (131, .iconst 3, 0, 0, 0, 0) :: (132, .invokevirtual 136, 123, 2, 14, 1315) :: (135, .aload_n 0, 0, 0, 0, 0) :: (136, .bipush 52, 0, 0, 0, 0) ::
  (138, .invokevirtual 136, 123, 2, 14, 1315) :: (141, .aload_n 0, 0, 0, 0, 0) :: (142, .bipush 48, 0, 0, 0, 0) :: (144, .invokevirtual 136, 123, 2, 14, 1315) :: (147, .aload_n 0, 0, 0, 0, 0) :: (148, .bipush 53, 0, 0, 0, 0) :: (150, .invokevirtual 136, 123, 2, 14, 1315) :: bl_X12_answer_153
def bl_X12_answer_118 : List ax_R := (118, .invokevirtual 136, 123, 2, 14, 1315) :: (121, .goto 32, 153, 0, 0, 0) :: bl_X12_answer_124
def bl_X12_answer_115 : List ax_R := (115, .sipush 134, 0, 0, 0, 0) :: bl_X12_answer_118
def bl_X12_answer_84 : List ax_R := (84, .aload_n 0, 0, 0, 0, 0) :: (85, .getfield 35, 14, 12, 1, 1331) :: (88, .iload_n 1, 0, 0, 0, 0) :: (89, .iaload, 0, 0, 0, 0) :: (90, .invokevirtual 132, 124, 5, 14, 1311) :: (93, .aload_n 0, 0, 0, 0, 0) :: (94, .getfield 57, 14, 19, 1, 1338) :: (97, .iload_n 1, 0, 0, 0, 0) ::
  (98, .iaload, 0, 0, 0, 0) :: (99, .iconst 2, 0, 0, 0, 0) :: (100, .if_icmp .ge 24, 124, 0, 0, 0) :: (103, .aload_n 0, 0, 0, 0, 0) :: (104, .iload_n 2, 0, 0, 0, 0) :: (105, .iconst (-1), 0, 0, 0, 0) :: (106, .if_icmp .ne 9, 115, 0, 0, 0) :: (109, .sipush 135, 0, 0, 0, 0) ::
  (112, .goto 6, 118, 0, 0, 0) :: bl_X12_answer_115
def bl_X12_answer_83 : List ax_R := (83, .iconst 4, 0, 0, 0, 0) :: bl_X12_answer_84
def bl_X12_answer_74 : List ax_R := (74, .iconst 1, 0, 0, 0, 0) :: (75, .iload_n 3, 0, 0, 0, 0) :: (76, .ifCond .ne 7, 83, 0, 0, 0) :: (79, .iconst 5, 0, 0, 0, 0) :: (80, .goto 4, 84, 0, 0, 0) :: bl_X12_answer_83
def bl_X12_answer_73 : List ax_R := (73, .iconst 5, 0, 0, 0, 0) :: bl_X12_answer_74
def bl_X12_answer_57 : List ax_R := (57, .istore_n 3, 0, 0, 0, 0) :: (58, .aload_n 0, 0, 0, 0, 0) :: (59, .aload_n 0, 0, 0, 0, 0) :: (60, .getfield 57, 14, 19, 1, 1338) :: (63, .iload_n 1, 0, 0, 0, 0) :: (64, .iaload, 0, 0, 0, 0) :: (65, .iconst 2, 0, 0, 0, 0) :: (66, .if_icmp .ge 7, 73, 0, 0, 0) ::
  (69, .iconst 1, 0, 0, 0, 0) :: (70, .goto 4, 74, 0, 0, 0) :: bl_X12_answer_73
def bl_X12_answer_56 : List ax_R := (56, .iconst 0, 0, 0, 0, 0) :: bl_X12_answer_57
def bl_X12_answer_32 : List ax_R := (32, .istore_n 2, 0, 0, 0, 0) :: (33, .aload_n 0, 0, 0, 0, 0) :: (34, .getfield 57, 14, 19, 1, 1338) :: (37, .iload_n 1, 0, 0, 0, 0) :: (38, .iaload, 0, 0, 0, 0) :: (39, .ifCond .ne 17, 56, 0, 0, 0) :: (42, .iload_n 2, 0, 0, 0, 0) :: (43, .iconst (-1), 0, 0, 0, 0) ::
  (44, .if_icmp .eq 12, 56, 0, 0, 0) :: (47, .aload_n 0, 0, 0, 0, 0) :: (48, .getfield 17, 14, 4, 1, 1323) :: (51, .iload_n 2, 0, 0, 0, 0) :: (52, .iaload, 0, 0, 0, 0) :: (53, .goto 4, 57, 0, 0, 0) :: bl_X12_answer_56
def bl_X12_answer_31 : List ax_R := (31, .iconst (-1), 0, 0, 0, 0) :: bl_X12_answer_32
def bl_X12_answer_0 : List ax_R := (0, .aload_n 0, 0, 0, 0, 0) :: (1, .getfield 57, 14, 19, 1, 1338) :: (4, .iload_n 1, 0, 0, 0, 0) :: (5, .iaload, 0, 0, 0, 0) :: (6, .iconst 2, 0, 0, 0, 0) :: (7, .if_icmp .ge 24, 31, 0, 0, 0) :: (10, .aload_n 0, 0, 0, 0, 0) :: (11, .aload_n 0, 0, 0, 0, 0) ::
  (12, .getfield 63, 14, 21, 1, 1340) :: (15, .bipush 20, 0, 0, 0, 0) :: (17, .iload_n 1, 0, 0, 0, 0) :: (18, .imul, 0, 0, 0, 0) :: (19, .aload_n 0, 0, 0, 0, 0) :: (20, .getfield 60, 14, 20, 1, 1339) :: (23, .iload_n 1, 0, 0, 0, 0) :: (24, .iaload, 0, 0, 0, 0) ::
  (25, .invokevirtual 169, 120, 4, 14, 1517) :: (28, .goto 4, 32, 0, 0, 0) :: bl_X12_answer_31
def pr_X12_answer : List ax_R := bl_X12_answer_0
def pt_X12_answer : ax_T := ((⟨"PageServerModel", "answer", "(I)V"⟩, prog_14_method_40_code, 4, none), 1576, 94, 1575, 54)
def bl_X12_headers_54 : List ax_R := (54, .aload_n 0, 0, 0, 0, 0) :: (55, .iconst 0, 0, 0, 0, 0) :: (56, .putfield 108, 14, 34, 0, 1353) :: (59, .aload_n 0, 0, 0, 0, 0) :: (60, .aload_n 0, 0, 0, 0, 0) :: (61, .getfield 268, 14, 27, 0, 1346) :: (64, .putfield 105, 14, 32, 0, 1351) :: (67, .aload_n 0, 0, 0, 0, 0) ::
  (68, .aload_n 0, 0, 0, 0, 0) :: (69, .iconst 1, 0, 0, 0, 0) :: (70, .invokevirtual 256, 130, 2, 14, 1545) :: (73, .putfield 286, 14, 33, 0, 1352) :: (76, .aload_n 0, 0, 0, 0, 0) :: (77, .invokevirtual 289, 151, 1, 14, 1581) :: (80, .ireturn, 0, 0, 0, 0) :: []
def bl_X12_headers_52 : List ax_R := (52, .iconst 5, 0, 0, 0, 0) :: (53, .ireturn, 0, 0, 0, 0) :: bl_X12_headers_54
def bl_X12_headers_18 : List ax_R := (18, .aload_n 0, 0, 0, 0, 0) :: (19, .aload_n 0, 0, 0, 0, 0) :: (20, .getfield 268, 14, 27, 0, 1346) :: (23, .invokevirtual 173, 126, 2, 14, 1565) :: (26, .istore_n 1, 0, 0, 0, 0) :: (27, .aload_n 0, 0, 0, 0, 0) :: (28, .getfield 268, 14, 27, 0, 1346) :: (31, .aload_n 0, 0, 0, 0, 0) ::
  (32, .getfield 111, 14, 47, 0, 1366) :: (35, .if_icmp .gt 19, 54, 0, 0, 0) :: (38, .iload_n 1, 0, 0, 0, 0) :: (39, .iconst (-1), 0, 0, 0, 0) :: (40, .if_icmp .eq 12, 52, 0, 0, 0) :: (43, .aload_n 0, 0, 0, 0, 0) :: (44, .getfield 53, 14, 18, 1, 1337) :: (47, .iload_n 1, 0, 0, 0, 0) ::
  (48, .baload, 0, 0, 1, 0) :: (49, .ifCond .eq 5, 54, 0, 0, 0) :: bl_X12_headers_52
def bl_X12_headers_16 : List ax_R := (16, .iconst 1, 0, 0, 0, 0) :: (17, .ireturn, 0, 0, 0, 0) :: bl_X12_headers_18
def bl_X12_headers_0 : List ax_R := (0, .aload_n 0, 0, 0, 0, 0) :: (1, .getfield 268, 14, 27, 0, 1346) :: (4, .iconst 2, 0, 0, 0, 0) :: (5, .irem, 0, 0, 0, 0) :: (6, .ifCond .eq 10, 16, 0, 0, 0) :: (9, .aload_n 0, 0, 0, 0, 0) :: (10, .invokevirtual 274, 146, 1, 14, 1557) :: (13, .ifCond .ne 5, 18, 0, 0, 0) :: bl_X12_headers_16
def pr_X12_headers : List ax_R := bl_X12_headers_0
def pt_X12_headers : ax_T := ((⟨"PageServerModel", "headers", "()I"⟩, prog_14_method_41_code, 2, (some .int)), 1580, 94, 1579, 55)
def bl_X12_more_136 : List ax_R := (136, .ireturn, 0, 0, 0, 0) :: []
def bl_X12_more_131 : List ax_R := (131, .aload_n 0, 0, 0, 0, 0) :: (132, .iload_n 1, 0, 0, 0, 0) :: (133, .invokevirtual 280, 148, 2, 14, 1569) :: bl_X12_more_136
def bl_X12_more_126 : List ax_R := (126, .bipush 101, 0, 0, 0, 0) :: (128, .goto 8, 136, 0, 0, 0) :: bl_X12_more_131
def bl_X12_more_112 : List ax_R := (112, .aload_n 0, 0, 0, 0, 0) :: (113, .getfield 286, 14, 33, 0, 1352) :: (116, .ifCond .eq 10, 126, 0, 0, 0) :: (119, .aload_n 0, 0, 0, 0, 0) :: (120, .getfield 217, 14, 40, 0, 1359) :: (123, .ifCond .eq 8, 131, 0, 0, 0) :: bl_X12_more_126
def bl_X12_more_93 : List ax_R := (93, .aload_n 0, 0, 0, 0, 0) :: (94, .aload_n 0, 0, 0, 0, 0) :: (95, .getfield 268, 14, 27, 0, 1346) :: (98, .invokevirtual 173, 126, 2, 14, 1565) :: (101, .istore_n 1, 0, 0, 0, 0) :: (102, .iload_n 1, 0, 0, 0, 0) :: (103, .iconst (-1), 0, 0, 0, 0) :: (104, .if_icmp .ne 8, 112, 0, 0, 0) ::
  (107, .aload_n 0, 0, 0, 0, 0) :: (108, .invokevirtual 295, 152, 1, 14, 1646) :: (111, .ireturn, 0, 0, 0, 0) :: bl_X12_more_112
def bl_X12_more_78 : List ax_R := (78, .aload_n 0, 0, 0, 0, 0) :: (79, .iconst (-1), 0, 0, 0, 0) :: (80, .putfield 105, 14, 32, 0, 1351) :: (83, .aload_n 0, 0, 0, 0, 0) :: (84, .invokevirtual 292, 145, 1, 14, 1585) :: (87, .ifCond .ne 6, 93, 0, 0, 0) :: (90, .bipush 9, 0, 0, 0, 0) :: (92, .ireturn, 0, 0, 0, 0) :: bl_X12_more_93
def bl_X12_more_68 : List ax_R := (68, .aload_n 0, 0, 0, 0, 0) :: (69, .iconst 4, 0, 0, 0, 0) :: (70, .invokevirtual 256, 130, 2, 14, 1545) :: (73, .ifCond .ne 5, 78, 0, 0, 0) :: (76, .iconst 0, 0, 0, 0, 0) :: (77, .ireturn, 0, 0, 0, 0) :: bl_X12_more_78
def bl_X12_more_27 : List ax_R := (27, .iload_n 1, 0, 0, 0, 0) :: (28, .aload_n 0, 0, 0, 0, 0) :: (29, .getfield 265, 14, 30, 0, 1349) :: (32, .if_icmp .ge 36, 68, 0, 0, 0) :: (35, .aload_n 0, 0, 0, 0, 0) :: (36, .getfield 69, 14, 35, 1, 1354) :: (39, .aload_n 0, 0, 0, 0, 0) :: (40, .getfield 108, 14, 34, 0, 1353) ::
  (43, .aload_n 0, 0, 0, 0, 0) :: (44, .getfield 66, 14, 24, 1, 1343) :: (47, .iconst 4, 0, 0, 0, 0) :: (48, .iload_n 1, 0, 0, 0, 0) :: (49, .iadd, 0, 0, 0, 0) :: (50, .iaload, 0, 0, 0, 0) :: (51, .iastore, 0, 0, 0, 0) :: (52, .aload_n 0, 0, 0, 0, 0) ::
  (53, .dup, 0, 0, 0, 0) :: (54, .getfield 108, 14, 34, 0, 1353) :: (57, .iconst 1, 0, 0, 0, 0) :: (58, .iadd, 0, 0, 0, 0) :: (59, .putfield 108, 14, 34, 0, 1353) :: (62, .iinc 1 1, 0, 0, 0, 0) :: (65, .goto (-38), 27, 0, 0, 0) :: bl_X12_more_68
def bl_X12_more_22 : List ax_R := (22, .aload_n 0, 0, 0, 0, 0) :: (23, .getfield 262, 14, 29, 0, 1348) :: (26, .istore_n 1, 0, 0, 0, 0) :: bl_X12_more_27
def bl_X12_more_0 : List ax_R := (0, .aload_n 0, 0, 0, 0, 0) :: (1, .getfield 108, 14, 34, 0, 1353) :: (4, .aload_n 0, 0, 0, 0, 0) :: (5, .getfield 265, 14, 30, 0, 1349) :: (8, .iadd, 0, 0, 0, 0) :: (9, .aload_n 0, 0, 0, 0, 0) :: (10, .getfield 262, 14, 29, 0, 1348) :: (13, .isub, 0, 0, 0, 0) ::
  (14, .bipush 100, 0, 0, 0, 0) :: (16, .if_icmp .le 6, 22, 0, 0, 0) :: (19, .bipush 9, 0, 0, 0, 0) :: (21, .ireturn, 0, 0, 0, 0) :: bl_X12_more_22
def pr_X12_more : List ax_R := bl_X12_more_0
def pt_X12_more : ax_T := ((⟨"PageServerModel", "more", "()I"⟩, prog_14_method_42_code, 2, (some .int)), 1584, 94, 1583, 56)
def bl_X12_request_179 : List ax_R := (179, .ireturn, 0, 0, 0, 0) :: []
def bl_X12_request_178 : List ax_R := (178, .iconst 0, 0, 0, 0, 0) :: bl_X12_request_179
def bl_X12_request_163 : List ax_R := (163, .aload_n 0, 0, 0, 0, 0) :: (164, .getfield 286, 14, 33, 0, 1352) :: (167, .ifCond .eq 11, 178, 0, 0, 0) :: (170, .aload_n 0, 0, 0, 0, 0) :: (171, .iload_n 1, 0, 0, 0, 0) :: (172, .invokevirtual 280, 148, 2, 14, 1569) :: (175, .goto 4, 179, 0, 0, 0) :: bl_X12_request_178
def bl_X12_request_134 : List ax_R := (134, .iload_n 2, 0, 0, 0, 0) :: (135, .bipush 20, 0, 0, 0, 0) :: (137, .if_icmp .ge 26, 163, 0, 0, 0) :: (140, .aload_n 0, 0, 0, 0, 0) :: (141, .getfield 63, 14, 21, 1, 1340) :: (144, .bipush 20, 0, 0, 0, 0) :: (146, .iload_n 1, 0, 0, 0, 0) :: (147, .imul, 0, 0, 0, 0) ::
  (148, .iload_n 2, 0, 0, 0, 0) :: (149, .iadd, 0, 0, 0, 0) :: (150, .aload_n 0, 0, 0, 0, 0) :: (151, .getfield 72, 14, 46, 1, 1365) :: (154, .iload_n 2, 0, 0, 0, 0) :: (155, .caload, 0, 0, 0, 0) :: (156, .castore, 0, 0, 0, 0) :: (157, .iinc 2 1, 0, 0, 0, 0) ::
  (160, .goto (-26), 134, 0, 0, 0) :: bl_X12_request_163
def bl_X12_request_61 : List ax_R := (61, .aload_n 0, 0, 0, 0, 0) :: (62, .getfield 35, 14, 12, 1, 1331) :: (65, .iload_n 1, 0, 0, 0, 0) :: (66, .aload_n 0, 0, 0, 0, 0) :: (67, .getfield 268, 14, 27, 0, 1346) :: (70, .iastore, 0, 0, 0, 0) :: (71, .aload_n 0, 0, 0, 0, 0) :: (72, .getfield 38, 14, 13, 1, 1332) ::
  (75, .iload_n 1, 0, 0, 0, 0) :: (76, .aload_n 0, 0, 0, 0, 0) :: (77, .getfield 123, 14, 51, 0, 1370) :: (80, .iastore, 0, 0, 0, 0) :: (81, .aload_n 0, 0, 0, 0, 0) :: (82, .getfield 41, 14, 14, 1, 1333) :: (85, .iload_n 1, 0, 0, 0, 0) :: (86, .iconst 0, 0, 0, 0, 0) ::
  (87, .iastore, 0, 0, 0, 0) :: (88, .aload_n 0, 0, 0, 0, 0) :: (89, .getfield 44, 14, 15, 1, 1334) :: (92, .iload_n 1, 0, 0, 0, 0) :: (93, .aload_n 0, 0, 0, 0, 0) :: (94, .getfield 249, 14, 44, 0, 1363) :: (97, .iastore, 0, 0, 0, 0) :: (98, .aload_n 0, 0, 0, 0, 0) ::
  (99, .getfield 47, 14, 16, 1, 1335) :: (102, .iload_n 1, 0, 0, 0, 0) :: (103, .iconst 0, 0, 0, 0, 0) :: (104, .iastore, 0, 0, 0, 0) :: (105, .aload_n 0, 0, 0, 0, 0) :: (106, .getfield 53, 14, 18, 1, 1337) :: (109, .iload_n 1, 0, 0, 0, 0) :: (110, .iconst 0, 0, 0, 0, 0) ::
  (111, .bastore, 0, 0, 1, 0) :: (112, .aload_n 0, 0, 0, 0, 0) :: (113, .getfield 57, 14, 19, 1, 1338) :: (116, .iload_n 1, 0, 0, 0, 0) :: (117, .aload_n 0, 0, 0, 0, 0) :: (118, .getfield 230, 14, 42, 0, 1361) :: (121, .iastore, 0, 0, 0, 0) :: (122, .aload_n 0, 0, 0, 0, 0) ::
  (123, .getfield 60, 14, 20, 1, 1339) :: (126, .iload_n 1, 0, 0, 0, 0) :: (127, .aload_n 0, 0, 0, 0, 0) :: (128, .getfield 239, 14, 45, 0, 1364) :: (131, .iastore, 0, 0, 0, 0) :: (132, .iconst 0, 0, 0, 0, 0) :: (133, .istore_n 2, 0, 0, 0, 0) :: bl_X12_request_134
def bl_X12_request_46 : List ax_R := (46, .aload_n 0, 0, 0, 0, 0) :: (47, .getfield 35, 14, 12, 1, 1331) :: (50, .iload_n 1, 0, 0, 0, 0) :: (51, .iaload, 0, 0, 0, 0) :: (52, .ifCond .le 9, 61, 0, 0, 0) :: (55, .iinc 1 1, 0, 0, 0, 0) :: (58, .goto (-12), 46, 0, 0, 0) :: bl_X12_request_61
def bl_X12_request_44 : List ax_R := (44, .iconst 0, 0, 0, 0, 0) :: (45, .istore_n 1, 0, 0, 0, 0) :: bl_X12_request_46
def bl_X12_request_41 : List ax_R := (41, .bipush 101, 0, 0, 0, 0) :: (43, .ireturn, 0, 0, 0, 0) :: bl_X12_request_44
def bl_X12_request_19 : List ax_R := (19, .aload_n 0, 0, 0, 0, 0) :: (20, .getfield 224, 14, 39, 0, 1358) :: (23, .ifCond .ne 18, 41, 0, 0, 0) :: (26, .aload_n 0, 0, 0, 0, 0) :: (27, .getfield 230, 14, 42, 0, 1361) :: (30, .iconst (-1), 0, 0, 0, 0) :: (31, .if_icmp .eq 10, 41, 0, 0, 0) :: (34, .aload_n 0, 0, 0, 0, 0) ::
  (35, .getfield 236, 14, 43, 0, 1362) :: (38, .ifCond .ne 6, 44, 0, 0, 0) :: bl_X12_request_41
def bl_X12_request_0 : List ax_R := (0, .aload_n 0, 0, 0, 0, 0) :: (1, .aload_n 0, 0, 0, 0, 0) :: (2, .getfield 268, 14, 27, 0, 1346) :: (5, .putfield 111, 14, 47, 0, 1366) :: (8, .aload_n 0, 0, 0, 0, 0) :: (9, .invokevirtual 298, 127, 1, 14, 1650) :: (12, .iconst 4, 0, 0, 0, 0) :: (13, .if_icmp .ne 6, 19, 0, 0, 0) ::
  (16, .bipush 107, 0, 0, 0, 0) :: (18, .ireturn, 0, 0, 0, 0) :: bl_X12_request_19
def pr_X12_request : List ax_R := bl_X12_request_0
def pt_X12_request : ax_T := ((⟨"PageServerModel", "request", "()I"⟩, prog_14_method_43_code, 3, (some .int)), 1649, 94, 1648, 72)
def bl_X12_settings_161 : List ax_R := (161, .aload_n 0, 0, 0, 0, 0) :: (162, .iconst 0, 0, 0, 0, 0) :: (163, .iconst 4, 0, 0, 0, 0) :: (164, .iconst 1, 0, 0, 0, 0) :: (165, .iconst 0, 0, 0, 0, 0) :: (166, .invokevirtual 132, 124, 5, 14, 1311) :: (169, .iconst 0, 0, 0, 0, 0) :: (170, .ireturn, 0, 0, 0, 0) :: []
def bl_X12_settings_152 : List ax_R := (152, .putfield 123, 14, 51, 0, 1370) :: (155, .iinc 1 2, 0, 0, 0, 0) :: (158, .goto (-112), 46, 0, 0, 0) :: bl_X12_settings_161
def bl_X12_settings_148 : List ax_R := (148, .aload_n 0, 0, 0, 0, 0) :: (149, .getfield 123, 14, 51, 0, 1370) :: bl_X12_settings_152
def bl_X12_settings_138 : List ax_R := (138, .aload_n 0, 0, 0, 0, 0) :: (139, .iload_n 2, 0, 0, 0, 0) :: (140, .iconst 4, 0, 0, 0, 0) :: (141, .if_icmp .ne 7, 148, 0, 0, 0) :: (144, .iload_n 3, 0, 0, 0, 0) :: (145, .goto 7, 152, 0, 0, 0) :: bl_X12_settings_148
def bl_X12_settings_105 : List ax_R := (105, .iload 4, 0, 0, 0, 0) :: (107, .iconst 4, 0, 0, 0, 0) :: (108, .if_icmp .ge 30, 138, 0, 0, 0) :: (111, .iload_n 2, 0, 0, 0, 0) :: (112, .iconst 4, 0, 0, 0, 0) :: (113, .if_icmp .ne 25, 138, 0, 0, 0) :: (116, .aload_n 0, 0, 0, 0, 0) :: (117, .getfield 38, 14, 13, 1, 1332) ::
  (120, .iload 4, 0, 0, 0, 0) :: (122, .dup2, 0, 0, 0, 0) :: (123, .iaload, 0, 0, 0, 0) :: (124, .iload_n 3, 0, 0, 0, 0) :: (125, .aload_n 0, 0, 0, 0, 0) :: (126, .getfield 123, 14, 51, 0, 1370) :: (129, .isub, 0, 0, 0, 0) :: (130, .iadd, 0, 0, 0, 0) ::
  (131, .iastore, 0, 0, 0, 0) :: (132, .iinc 4 1, 0, 0, 0, 0) :: (135, .goto (-30), 105, 0, 0, 0) :: bl_X12_settings_138
def bl_X12_settings_99 : List ax_R := (99, .putfield 126, 14, 52, 0, 1371) :: (102, .iconst 0, 0, 0, 0, 0) :: (103, .istore 4, 0, 0, 0, 0) :: bl_X12_settings_105
def bl_X12_settings_95 : List ax_R := (95, .aload_n 0, 0, 0, 0, 0) :: (96, .getfield 126, 14, 52, 0, 1371) :: bl_X12_settings_99
def bl_X12_settings_85 : List ax_R := (85, .aload_n 0, 0, 0, 0, 0) :: (86, .iload_n 2, 0, 0, 0, 0) :: (87, .iconst 5, 0, 0, 0, 0) :: (88, .if_icmp .ne 7, 95, 0, 0, 0) :: (91, .iload_n 3, 0, 0, 0, 0) :: (92, .goto 7, 99, 0, 0, 0) :: bl_X12_settings_95
def bl_X12_settings_46 : List ax_R := (46, .iload_n 1, 0, 0, 0, 0) :: (47, .aload_n 0, 0, 0, 0, 0) :: (48, .getfield 259, 14, 28, 0, 1347) :: (51, .if_icmp .ge 110, 161, 0, 0, 0) :: (54, .aload_n 0, 0, 0, 0, 0) :: (55, .getfield 66, 14, 24, 1, 1343) :: (58, .iconst 4, 0, 0, 0, 0) :: (59, .iload_n 1, 0, 0, 0, 0) ::
  (60, .iadd, 0, 0, 0, 0) :: (61, .iaload, 0, 0, 0, 0) :: (62, .istore_n 2, 0, 0, 0, 0) :: (63, .aload_n 0, 0, 0, 0, 0) :: (64, .getfield 66, 14, 24, 1, 1343) :: (67, .iconst 5, 0, 0, 0, 0) :: (68, .iload_n 1, 0, 0, 0, 0) :: (69, .iadd, 0, 0, 0, 0) ::
  (70, .iaload, 0, 0, 0, 0) :: (71, .istore_n 3, 0, 0, 0, 0) :: (72, .iload_n 2, 0, 0, 0, 0) :: (73, .iconst 5, 0, 0, 0, 0) :: (74, .if_icmp .ne 11, 85, 0, 0, 0) :: (77, .iload_n 3, 0, 0, 0, 0) :: (78, .bipush 16, 0, 0, 0, 0) :: (80, .if_icmp .ge 5, 85, 0, 0, 0) ::
  (83, .iconst 1, 0, 0, 0, 0) :: (84, .ireturn, 0, 0, 0, 0) :: bl_X12_settings_85
def bl_X12_settings_44 : List ax_R := (44, .iconst 0, 0, 0, 0, 0) :: (45, .istore_n 1, 0, 0, 0, 0) :: bl_X12_settings_46
def bl_X12_settings_31 : List ax_R := (31, .aload_n 0, 0, 0, 0, 0) :: (32, .getfield 259, 14, 28, 0, 1347) :: (35, .iconst 2, 0, 0, 0, 0) :: (36, .irem, 0, 0, 0, 0) :: (37, .iconst 1, 0, 0, 0, 0) :: (38, .if_icmp .ne 6, 44, 0, 0, 0) :: (41, .bipush 6, 0, 0, 0, 0) :: (43, .ireturn, 0, 0, 0, 0) :: bl_X12_settings_44
def bl_X12_settings_30 : List ax_R := (30, .ireturn, 0, 0, 0, 0) :: bl_X12_settings_31
def bl_X12_settings_29 : List ax_R := (29, .iconst 0, 0, 0, 0, 0) :: bl_X12_settings_30
def bl_X12_settings_9 : List ax_R := (9, .aload_n 0, 0, 0, 0, 0) :: (10, .iconst 1, 0, 0, 0, 0) :: (11, .invokevirtual 256, 130, 2, 14, 1545) :: (14, .ifCond .eq 17, 31, 0, 0, 0) :: (17, .aload_n 0, 0, 0, 0, 0) :: (18, .getfield 259, 14, 28, 0, 1347) :: (21, .ifCond .le 8, 29, 0, 0, 0) :: (24, .bipush 6, 0, 0, 0, 0) ::
  (26, .goto 4, 30, 0, 0, 0) :: bl_X12_settings_29
def bl_X12_settings_0 : List ax_R := (0, .aload_n 0, 0, 0, 0, 0) :: (1, .getfield 268, 14, 27, 0, 1346) :: (4, .ifCond .le 5, 9, 0, 0, 0) :: (7, .iconst 1, 0, 0, 0, 0) :: (8, .ireturn, 0, 0, 0, 0) :: bl_X12_settings_9
def pr_X12_settings : List ax_R := bl_X12_settings_0
def pt_X12_settings : ax_T := ((⟨"PageServerModel", "settings", "()I"⟩, prog_14_method_44_code, 5, (some .int)), 1665, 94, 1664, 76)
def bl_X12_ping_64 : List ax_R := (64, .iconst 0, 0, 0, 0, 0) :: (65, .ireturn, 0, 0, 0, 0) :: []
def bl_X12_ping_41 : List ax_R := (41, .iload_n 1, 0, 0, 0, 0) :: (42, .iconst 4, 0, 0, 0, 0) :: (43, .if_icmp .ge 21, 64, 0, 0, 0) :: (46, .aload_n 0, 0, 0, 0, 0) :: (47, .aload_n 0, 0, 0, 0, 0) :: (48, .getfield 66, 14, 24, 1, 1343) :: (51, .iconst 4, 0, 0, 0, 0) :: (52, .iload_n 1, 0, 0, 0, 0) ::
  (53, .iadd, 0, 0, 0, 0) :: (54, .iaload, 0, 0, 0, 0) :: (55, .invokevirtual 136, 123, 2, 14, 1315) :: (58, .iinc 1 1, 0, 0, 0, 0) :: (61, .goto (-20), 41, 0, 0, 0) :: bl_X12_ping_64
def bl_X12_ping_30 : List ax_R := (30, .aload_n 0, 0, 0, 0, 0) :: (31, .iconst 4, 0, 0, 0, 0) :: (32, .bipush 6, 0, 0, 0, 0) :: (34, .iconst 1, 0, 0, 0, 0) :: (35, .iconst 0, 0, 0, 0, 0) :: (36, .invokevirtual 132, 124, 5, 14, 1311) :: (39, .iconst 0, 0, 0, 0, 0) :: (40, .istore_n 1, 0, 0, 0, 0) :: bl_X12_ping_41
def bl_X12_ping_20 : List ax_R := (20, .aload_n 0, 0, 0, 0, 0) :: (21, .iconst 1, 0, 0, 0, 0) :: (22, .invokevirtual 256, 130, 2, 14, 1545) :: (25, .ifCond .eq 5, 30, 0, 0, 0) :: (28, .iconst 0, 0, 0, 0, 0) :: (29, .ireturn, 0, 0, 0, 0) :: bl_X12_ping_30
def bl_X12_ping_9 : List ax_R := (9, .aload_n 0, 0, 0, 0, 0) :: (10, .getfield 259, 14, 28, 0, 1347) :: (13, .iconst 4, 0, 0, 0, 0) :: (14, .if_icmp .eq 6, 20, 0, 0, 0) :: (17, .bipush 6, 0, 0, 0, 0) :: (19, .ireturn, 0, 0, 0, 0) :: bl_X12_ping_20
def bl_X12_ping_0 : List ax_R := (0, .aload_n 0, 0, 0, 0, 0) :: (1, .getfield 268, 14, 27, 0, 1346) :: (4, .ifCond .le 5, 9, 0, 0, 0) :: (7, .iconst 1, 0, 0, 0, 0) :: (8, .ireturn, 0, 0, 0, 0) :: bl_X12_ping_9
def pr_X12_ping : List ax_R := bl_X12_ping_0
def pt_X12_ping : ax_T := ((⟨"PageServerModel", "ping", "()I"⟩, prog_14_method_45_code, 2, (some .int)), 1669, 94, 1668, 77)
def bl_X12_widen_153 : List ax_R := (153, .iconst 0, 0, 0, 0, 0) :: (154, .ireturn, 0, 0, 0, 0) :: []
def bl_X12_widen_143 : List ax_R := (143, .aload_n 0, 0, 0, 0, 0) :: (144, .dup, 0, 0, 0, 0) :: (145, .getfield 120, 14, 50, 0, 1369) :: (148, .iload_n 1, 0, 0, 0, 0) :: (149, .iadd, 0, 0, 0, 0) :: (150, .putfield 120, 14, 50, 0, 1369) :: bl_X12_widen_153
def bl_X12_widen_123 : List ax_R := (123, .aload_n 0, 0, 0, 0, 0) :: (124, .getfield 268, 14, 27, 0, 1346) :: (127, .ifCond .le 16, 143, 0, 0, 0) :: (130, .aload_n 0, 0, 0, 0, 0) :: (131, .getfield 38, 14, 13, 1, 1332) :: (134, .iload_n 2, 0, 0, 0, 0) :: (135, .dup2, 0, 0, 0, 0) :: (136, .iaload, 0, 0, 0, 0) ::
  (137, .iload_n 1, 0, 0, 0, 0) :: (138, .iadd, 0, 0, 0, 0) :: (139, .iastore, 0, 0, 0, 0) :: (140, .goto 13, 153, 0, 0, 0) :: bl_X12_widen_143
def bl_X12_widen_109 : List ax_R := (109, .iload 4, 0, 0, 0, 0) :: (111, .iload_n 1, 0, 0, 0, 0) :: (112, .iadd, 0, 0, 0, 0) :: (113, .sipush 30000, 0, 0, 0, 0) :: (116, .if_icmp .le 7, 123, 0, 0, 0) :: (119, .iload_n 3, 0, 0, 0, 0) :: (120, .iconst 3, 0, 0, 0, 0) :: (121, .iadd, 0, 0, 0, 0) ::
  (122, .ireturn, 0, 0, 0, 0) :: bl_X12_widen_123
def bl_X12_widen_99 : List ax_R := (99, .istore 4, 0, 0, 0, 0) :: (101, .iload_n 1, 0, 0, 0, 0) :: (102, .ifCond .ne 7, 109, 0, 0, 0) :: (105, .iload_n 3, 0, 0, 0, 0) :: (106, .iconst 1, 0, 0, 0, 0) :: (107, .iadd, 0, 0, 0, 0) :: (108, .ireturn, 0, 0, 0, 0) :: bl_X12_widen_109
def bl_X12_widen_95 : List ax_R := (95, .aload_n 0, 0, 0, 0, 0) :: (96, .getfield 120, 14, 50, 0, 1369) :: bl_X12_widen_99
def bl_X12_widen_78 : List ax_R := (78, .istore_n 3, 0, 0, 0, 0) :: (79, .aload_n 0, 0, 0, 0, 0) :: (80, .getfield 268, 14, 27, 0, 1346) :: (83, .ifCond .le 12, 95, 0, 0, 0) :: (86, .aload_n 0, 0, 0, 0, 0) :: (87, .getfield 38, 14, 13, 1, 1332) :: (90, .iload_n 2, 0, 0, 0, 0) :: (91, .iaload, 0, 0, 0, 0) ::
  (92, .goto 7, 99, 0, 0, 0) :: bl_X12_widen_95
def bl_X12_widen_77 : List ax_R := (77, .iconst 0, 0, 0, 0, 0) :: bl_X12_widen_78
def bl_X12_widen_65 : List ax_R := (65, .aload_n 0, 0, 0, 0, 0) :: (66, .getfield 268, 14, 27, 0, 1346) :: (69, .ifCond .le 8, 77, 0, 0, 0) :: (72, .bipush 100, 0, 0, 0, 0) :: (74, .goto 4, 78, 0, 0, 0) :: bl_X12_widen_77
def bl_X12_widen_24 : List ax_R := (24, .sipush 256, 0, 0, 0, 0) :: (27, .aload_n 0, 0, 0, 0, 0) :: (28, .getfield 66, 14, 24, 1, 1343) :: (31, .iconst 4, 0, 0, 0, 0) :: (32, .iaload, 0, 0, 0, 0) :: (33, .imul, 0, 0, 0, 0) :: (34, .aload_n 0, 0, 0, 0, 0) :: (35, .getfield 66, 14, 24, 1, 1343) ::
  (38, .iconst 5, 0, 0, 0, 0) :: (39, .iaload, 0, 0, 0, 0) :: (40, .iadd, 0, 0, 0, 0) :: (41, .istore_n 1, 0, 0, 0, 0) :: (42, .aload_n 0, 0, 0, 0, 0) :: (43, .aload_n 0, 0, 0, 0, 0) :: (44, .getfield 268, 14, 27, 0, 1346) :: (47, .invokevirtual 173, 126, 2, 14, 1565) ::
  (50, .istore_n 2, 0, 0, 0, 0) :: (51, .aload_n 0, 0, 0, 0, 0) :: (52, .getfield 268, 14, 27, 0, 1346) :: (55, .ifCond .le 10, 65, 0, 0, 0) :: (58, .iload_n 2, 0, 0, 0, 0) :: (59, .iconst (-1), 0, 0, 0, 0) :: (60, .if_icmp .ne 5, 65, 0, 0, 0) :: (63, .iconst 0, 0, 0, 0, 0) ::
  (64, .ireturn, 0, 0, 0, 0) :: bl_X12_widen_65
def bl_X12_widen_11 : List ax_R := (11, .aload_n 0, 0, 0, 0, 0) :: (12, .aload_n 0, 0, 0, 0, 0) :: (13, .getfield 268, 14, 27, 0, 1346) :: (16, .invokevirtual 271, 129, 2, 14, 1553) :: (19, .ifCond .eq 5, 24, 0, 0, 0) :: (22, .iconst 1, 0, 0, 0, 0) :: (23, .ireturn, 0, 0, 0, 0) :: bl_X12_widen_24
def bl_X12_widen_0 : List ax_R := (0, .aload_n 0, 0, 0, 0, 0) :: (1, .getfield 259, 14, 28, 0, 1347) :: (4, .iconst 2, 0, 0, 0, 0) :: (5, .if_icmp .eq 6, 11, 0, 0, 0) :: (8, .bipush 6, 0, 0, 0, 0) :: (10, .ireturn, 0, 0, 0, 0) :: bl_X12_widen_11
def pr_X12_widen : List ax_R := bl_X12_widen_0
def pt_X12_widen : ax_T := ((⟨"PageServerModel", "widen", "()I"⟩, prog_14_method_46_code, 5, (some .int)), 1673, 94, 1672, 78)
def bl_X12_drop_31 : List ax_R := (31, .aload_n 0, 0, 0, 0, 0) :: (32, .aload_n 0, 0, 0, 0, 0) :: (33, .getfield 268, 14, 27, 0, 1346) :: (36, .invokevirtual 301, 128, 2, 14, 1658) :: (39, .iconst 0, 0, 0, 0, 0) :: (40, .ireturn, 0, 0, 0, 0) :: []
def bl_X12_drop_29 : List ax_R := (29, .iconst 1, 0, 0, 0, 0) :: (30, .ireturn, 0, 0, 0, 0) :: bl_X12_drop_31
def bl_X12_drop_11 : List ax_R := (11, .aload_n 0, 0, 0, 0, 0) :: (12, .getfield 268, 14, 27, 0, 1346) :: (15, .ifCond .eq 14, 29, 0, 0, 0) :: (18, .aload_n 0, 0, 0, 0, 0) :: (19, .aload_n 0, 0, 0, 0, 0) :: (20, .getfield 268, 14, 27, 0, 1346) :: (23, .invokevirtual 271, 129, 2, 14, 1553) :: (26, .ifCond .eq 5, 31, 0, 0, 0) :: bl_X12_drop_29
def bl_X12_drop_0 : List ax_R := (0, .aload_n 0, 0, 0, 0, 0) :: (1, .getfield 259, 14, 28, 0, 1347) :: (4, .iconst 1, 0, 0, 0, 0) :: (5, .if_icmp .eq 6, 11, 0, 0, 0) :: (8, .bipush 6, 0, 0, 0, 0) :: (10, .ireturn, 0, 0, 0, 0) :: bl_X12_drop_11
def pr_X12_drop : List ax_R := bl_X12_drop_0
def pt_X12_drop : ax_T := ((⟨"PageServerModel", "drop", "()I"⟩, prog_14_method_47_code, 1, (some .int)), 1657, 94, 1656, 74)
def bl_X12_look_221 : List ax_R := (221, .iconst 0, 0, 0, 0, 0) :: (222, .ireturn, 0, 0, 0, 0) :: []
def bl_X12_look_216 : List ax_R := (216, .aload_n 0, 0, 0, 0, 0) :: (217, .invokevirtual 289, 151, 1, 14, 1581) :: (220, .ireturn, 0, 0, 0, 0) :: bl_X12_look_221
def bl_X12_look_211 : List ax_R := (211, .aload_n 0, 0, 0, 0, 0) :: (212, .invokevirtual 322, 155, 1, 14, 1670) :: (215, .ireturn, 0, 0, 0, 0) :: bl_X12_look_216
def bl_X12_look_210 : List ax_R := (210, .ireturn, 0, 0, 0, 0) :: bl_X12_look_211
def bl_X12_look_208 : List ax_R := (208, .bipush 6, 0, 0, 0, 0) :: bl_X12_look_210
def bl_X12_look_196 : List ax_R := (196, .aload_n 0, 0, 0, 0, 0) :: (197, .getfield 259, 14, 28, 0, 1347) :: (200, .iconst 2, 0, 0, 0, 0) :: (201, .if_icmp .ne 7, 208, 0, 0, 0) :: (204, .iconst 0, 0, 0, 0, 0) :: (205, .goto 5, 210, 0, 0, 0) :: bl_X12_look_208
def bl_X12_look_185 : List ax_R := (185, .aload_n 0, 0, 0, 0, 0) :: (186, .getfield 268, 14, 27, 0, 1346) :: (189, .ifCond .le 7, 196, 0, 0, 0) :: (192, .iconst 1, 0, 0, 0, 0) :: (193, .goto 17, 210, 0, 0, 0) :: bl_X12_look_196
def bl_X12_look_180 : List ax_R := (180, .aload_n 0, 0, 0, 0, 0) :: (181, .invokevirtual 319, 154, 1, 14, 1666) :: (184, .ireturn, 0, 0, 0, 0) :: bl_X12_look_185
def bl_X12_look_175 : List ax_R := (175, .aload_n 0, 0, 0, 0, 0) :: (176, .invokevirtual 316, 153, 1, 14, 1662) :: (179, .ireturn, 0, 0, 0, 0) :: bl_X12_look_180
def bl_X12_look_170 : List ax_R := (170, .aload_n 0, 0, 0, 0, 0) :: (171, .invokevirtual 313, 156, 1, 14, 1654) :: (174, .ireturn, 0, 0, 0, 0) :: bl_X12_look_175
def bl_X12_look_165 : List ax_R := (165, .aload_n 0, 0, 0, 0, 0) :: (166, .invokevirtual 310, 150, 1, 14, 1577) :: (169, .ireturn, 0, 0, 0, 0) :: bl_X12_look_170
def bl_X12_look_160 : List ax_R := (160, .aload_n 0, 0, 0, 0, 0) :: (161, .invokevirtual 307, 147, 1, 14, 1549) :: (164, .ireturn, 0, 0, 0, 0) :: bl_X12_look_165
def bl_X12_look_87 : List ax_R := (87, .aload_n 0, 0, 0, 0, 0) :: (88, .iconst 0, 0, 0, 0, 0) :: (89, .putfield 262, 14, 29, 0, 1348) :: (92, .aload_n 0, 0, 0, 0, 0) :: (93, .aload_n 0, 0, 0, 0, 0) :: (94, .getfield 259, 14, 28, 0, 1347) :: (97, .putfield 265, 14, 30, 0, 1349) :: (100, .aload_n 0, 0, 0, 0, 0) ::
  (101, .getfield 304, 14, 25, 0, 1344) :: (104, .tableswitch 117 0 9 #[56, 61, 117, 66, 71, 117, 76, 81, 107, 112], 0, 0, 0, 0) :: bl_X12_look_160
def bl_X12_look_80 : List ax_R := (80, .istore_n 1, 0, 0, 0, 0) :: (81, .iload_n 1, 0, 0, 0, 0) :: (82, .ifCond .ne 5, 87, 0, 0, 0) :: (85, .iconst 1, 0, 0, 0, 0) :: (86, .ireturn, 0, 0, 0, 0) :: bl_X12_look_87
def bl_X12_look_79 : List ax_R := (79, .iconst 0, 0, 0, 0, 0) :: bl_X12_look_80
def bl_X12_look_55 : List ax_R := (55, .aload_n 0, 0, 0, 0, 0) :: (56, .getfield 304, 14, 25, 0, 1344) :: (59, .bipush 9, 0, 0, 0, 0) :: (61, .if_icmp .ne 18, 79, 0, 0, 0) :: (64, .aload_n 0, 0, 0, 0, 0) :: (65, .getfield 268, 14, 27, 0, 1346) :: (68, .aload_n 0, 0, 0, 0, 0) :: (69, .getfield 105, 14, 32, 0, 1351) ::
  (72, .if_icmp .ne 7, 79, 0, 0, 0) :: (75, .iconst 1, 0, 0, 0, 0) :: (76, .goto 4, 80, 0, 0, 0) :: bl_X12_look_79
def bl_X12_look_51 : List ax_R := (51, .iconst 0, 0, 0, 0, 0) :: (52, .goto 28, 80, 0, 0, 0) :: bl_X12_look_55
def bl_X12_look_25 : List ax_R := (25, .aload_n 0, 0, 0, 0, 0) :: (26, .iconst 0, 0, 0, 0, 0) :: (27, .putfield 101, 14, 31, 0, 1350) :: (30, .aload_n 0, 0, 0, 0, 0) :: (31, .getfield 105, 14, 32, 0, 1351) :: (34, .iconst (-1), 0, 0, 0, 0) :: (35, .if_icmp .ne 20, 55, 0, 0, 0) :: (38, .aload_n 0, 0, 0, 0, 0) ::
  (39, .getfield 304, 14, 25, 0, 1344) :: (42, .bipush 9, 0, 0, 0, 0) :: (44, .if_icmp .eq 7, 51, 0, 0, 0) :: (47, .iconst 1, 0, 0, 0, 0) :: (48, .goto 32, 80, 0, 0, 0) :: bl_X12_look_51
def bl_X12_look_23 : List ax_R := (23, .iconst 1, 0, 0, 0, 0) :: (24, .ireturn, 0, 0, 0, 0) :: bl_X12_look_25
def bl_X12_look_0 : List ax_R := (0, .aload_n 0, 0, 0, 0, 0) :: (1, .getfield 101, 14, 31, 0, 1350) :: (4, .ifCond .eq 21, 25, 0, 0, 0) :: (7, .aload_n 0, 0, 0, 0, 0) :: (8, .getfield 304, 14, 25, 0, 1344) :: (11, .iconst 4, 0, 0, 0, 0) :: (12, .if_icmp .ne 11, 23, 0, 0, 0) :: (15, .aload_n 0, 0, 0, 0, 0) ::
  (16, .iconst 1, 0, 0, 0, 0) :: (17, .invokevirtual 256, 130, 2, 14, 1545) :: (20, .ifCond .eq 5, 25, 0, 0, 0) :: bl_X12_look_23
def pr_X12_look : List ax_R := bl_X12_look_0
def pt_X12_look : ax_T := ((⟨"PageServerModel", "look", "()I"⟩, prog_14_method_48_code, 2, (some .int)), 1544, 94, 1543, 46)
def bl_X12_goAway_0 : List ax_R := (0, .aload_n 0, 0, 0, 0, 0) :: (1, .iconst 2, 0, 0, 0, 0) :: (2, .bipush 7, 0, 0, 0, 0) :: (4, .iconst 0, 0, 0, 0, 0) :: (5, .iconst 0, 0, 0, 0, 0) :: (6, .invokevirtual 132, 124, 5, 14, 1311) :: (9, .aload_n 0, 0, 0, 0, 0) :: (10, .aload_n 0, 0, 0, 0, 0) ::
  (11, .getfield 111, 14, 47, 0, 1366) :: (14, .invokevirtual 136, 123, 2, 14, 1315) :: (17, .aload_n 0, 0, 0, 0, 0) :: (18, .iload_n 1, 0, 0, 0, 0) :: (19, .invokevirtual 136, 123, 2, 14, 1315) :: (22, .aload_n 0, 0, 0, 0, 0) :: (23, .iload_n 1, 0, 0, 0, 0) :: (24, .putfield 114, 14, 48, 0, 1367) ::
  (27, .return_, 0, 0, 0, 0) :: []
def pr_X12_goAway : List ax_R := bl_X12_goAway_0
def pt_X12_goAway : ax_T := ((⟨"PageServerModel", "goAway", "(I)V"⟩, prog_14_method_49_code, 2, none), 1536, 94, 1535, 44)
def bl_X12_whole_61 : List ax_R := (61, .return_, 0, 0, 0, 0) :: []
def bl_X12_whole_50 : List ax_R := (50, .aload_n 0, 0, 0, 0, 0) :: (51, .getfield 114, 14, 48, 0, 1367) :: (54, .ifCond .ne 7, 61, 0, 0, 0) :: (57, .aload_n 0, 0, 0, 0, 0) :: (58, .invokevirtual 331, 162, 1, 14, 1674) :: bl_X12_whole_61
def bl_X12_whole_41 : List ax_R := (41, .iload_n 1, 0, 0, 0, 0) :: (42, .ifCond .le 8, 50, 0, 0, 0) :: (45, .aload_n 0, 0, 0, 0, 0) :: (46, .iload_n 1, 0, 0, 0, 0) :: (47, .invokevirtual 328, 158, 2, 14, 1533) :: bl_X12_whole_50
def bl_X12_whole_0 : List ax_R := (0, .aload_n 0, 0, 0, 0, 0) :: (1, .invokevirtual 325, 157, 1, 14, 1541) :: (4, .istore_n 1, 0, 0, 0, 0) :: (5, .iload_n 1, 0, 0, 0, 0) :: (6, .bipush 100, 0, 0, 0, 0) :: (8, .if_icmp .le 33, 41, 0, 0, 0) :: (11, .aload_n 0, 0, 0, 0, 0) :: (12, .iconst 1, 0, 0, 0, 0) ::
  (13, .iconst 3, 0, 0, 0, 0) :: (14, .iconst 0, 0, 0, 0, 0) :: (15, .aload_n 0, 0, 0, 0, 0) :: (16, .getfield 268, 14, 27, 0, 1346) :: (19, .invokevirtual 132, 124, 5, 14, 1311) :: (22, .aload_n 0, 0, 0, 0, 0) :: (23, .iload_n 1, 0, 0, 0, 0) :: (24, .bipush 100, 0, 0, 0, 0) ::
  (26, .isub, 0, 0, 0, 0) :: (27, .invokevirtual 136, 123, 2, 14, 1315) :: (30, .aload_n 0, 0, 0, 0, 0) :: (31, .aload_n 0, 0, 0, 0, 0) :: (32, .getfield 268, 14, 27, 0, 1346) :: (35, .invokevirtual 301, 128, 2, 14, 1658) :: (38, .goto 12, 50, 0, 0, 0) :: bl_X12_whole_41
def pr_X12_whole : List ax_R := bl_X12_whole_0
def pt_X12_whole : ax_T := ((⟨"PageServerModel", "whole", "()V"⟩, prog_14_method_50_code, 2, none), 1540, 94, 1539, 45)
def bl_X12_turn_116 : List ax_R := (116, .iload_n 1, 0, 0, 0, 0) :: (117, .ireturn, 0, 0, 0, 0) :: []
def bl_X12_turn_109 : List ax_R := (109, .istore_n 1, 0, 0, 0, 0) :: (110, .iinc 3 1, 0, 0, 0, 0) :: (113, .goto (-105), 8, 0, 0, 0) :: bl_X12_turn_116
def bl_X12_turn_108 : List ax_R := (108, .iload_n 1, 0, 0, 0, 0) :: bl_X12_turn_109
def bl_X12_turn_98 : List ax_R := (98, .istore_n 2, 0, 0, 0, 0) :: (99, .iload 5, 0, 0, 0, 0) :: (101, .ifCond .eq 7, 108, 0, 0, 0) :: (104, .iload_n 3, 0, 0, 0, 0) :: (105, .goto 4, 109, 0, 0, 0) :: bl_X12_turn_108
def bl_X12_turn_97 : List ax_R := (97, .iload_n 2, 0, 0, 0, 0) :: bl_X12_turn_98
def bl_X12_turn_85 : List ax_R := (85, .istore 5, 0, 0, 0, 0) :: (87, .iload 5, 0, 0, 0, 0) :: (89, .ifCond .eq 8, 97, 0, 0, 0) :: (92, .iload 4, 0, 0, 0, 0) :: (94, .goto 4, 98, 0, 0, 0) :: bl_X12_turn_97
def bl_X12_turn_84 : List ax_R := (84, .iconst 0, 0, 0, 0, 0) :: bl_X12_turn_85
def bl_X12_turn_45 : List ax_R := (45, .istore 4, 0, 0, 0, 0) :: (47, .aload_n 0, 0, 0, 0, 0) :: (48, .getfield 35, 14, 12, 1, 1331) :: (51, .iload_n 3, 0, 0, 0, 0) :: (52, .iaload, 0, 0, 0, 0) :: (53, .ifCond .le 31, 84, 0, 0, 0) :: (56, .aload_n 0, 0, 0, 0, 0) :: (57, .getfield 47, 14, 16, 1, 1335) ::
  (60, .iload_n 3, 0, 0, 0, 0) :: (61, .iaload, 0, 0, 0, 0) :: (62, .ifCond .le 22, 84, 0, 0, 0) :: (65, .aload_n 0, 0, 0, 0, 0) :: (66, .getfield 38, 14, 13, 1, 1332) :: (69, .iload_n 3, 0, 0, 0, 0) :: (70, .iaload, 0, 0, 0, 0) :: (71, .ifCond .le 13, 84, 0, 0, 0) ::
  (74, .iload 4, 0, 0, 0, 0) :: (76, .iload_n 2, 0, 0, 0, 0) :: (77, .if_icmp .ge 7, 84, 0, 0, 0) :: (80, .iconst 1, 0, 0, 0, 0) :: (81, .goto 4, 85, 0, 0, 0) :: bl_X12_turn_84
def bl_X12_turn_35 : List ax_R := (35, .aload_n 0, 0, 0, 0, 0) :: (36, .getfield 35, 14, 12, 1, 1331) :: (39, .iload_n 3, 0, 0, 0, 0) :: (40, .iaload, 0, 0, 0, 0) :: (41, .sipush 300, 0, 0, 0, 0) :: (44, .iadd, 0, 0, 0, 0) :: bl_X12_turn_45
def bl_X12_turn_8 : List ax_R := (8, .iload_n 3, 0, 0, 0, 0) :: (9, .iconst 4, 0, 0, 0, 0) :: (10, .if_icmp .ge 106, 116, 0, 0, 0) :: (13, .aload_n 0, 0, 0, 0, 0) :: (14, .getfield 35, 14, 12, 1, 1331) :: (17, .iload_n 3, 0, 0, 0, 0) :: (18, .iaload, 0, 0, 0, 0) :: (19, .aload_n 0, 0, 0, 0, 0) ::
  (20, .getfield 117, 14, 49, 0, 1368) :: (23, .if_icmp .le 12, 35, 0, 0, 0) :: (26, .aload_n 0, 0, 0, 0, 0) :: (27, .getfield 35, 14, 12, 1, 1331) :: (30, .iload_n 3, 0, 0, 0, 0) :: (31, .iaload, 0, 0, 0, 0) :: (32, .goto 13, 45, 0, 0, 0) :: bl_X12_turn_35
def bl_X12_turn_0 : List ax_R := (0, .iconst (-1), 0, 0, 0, 0) :: (1, .istore_n 1, 0, 0, 0, 0) :: (2, .sipush 1000, 0, 0, 0, 0) :: (5, .istore_n 2, 0, 0, 0, 0) :: (6, .iconst 0, 0, 0, 0, 0) :: (7, .istore_n 3, 0, 0, 0, 0) :: bl_X12_turn_8
def pr_X12_turn : List ax_R := bl_X12_turn_0
def pt_X12_turn : ax_T := ((⟨"PageServerModel", "turn", "()I"⟩, prog_14_method_51_code, 6, (some .int)), 1681, 94, 1680, 80)
def bl_X12_less_10 : List ax_R := (10, .ireturn, 0, 0, 0, 0) :: []
def bl_X12_less_9 : List ax_R := (9, .iload_n 1, 0, 0, 0, 0) :: bl_X12_less_10
def bl_X12_less_0 : List ax_R := (0, .iload_n 0, 0, 0, 0, 0) :: (1, .iload_n 1, 0, 0, 0, 0) :: (2, .if_icmp .ge 7, 9, 0, 0, 0) :: (5, .iload_n 0, 0, 0, 0, 0) :: (6, .goto 4, 10, 0, 0, 0) :: bl_X12_less_9
def pr_X12_less : List ax_R := bl_X12_less_0
def pt_X12_less : ax_T := ((⟨"PageServerModel", "less", "(II)I"⟩, prog_14_method_52_code, 2, (some .int)), 1684, 94, 1683, 0)
def bl_X12_pump_160 : List ax_R := (160, .return_, 0, 0, 0, 0) :: []
def bl_X12_pump_152 : List ax_R := (152, .aload_n 0, 0, 0, 0, 0) :: (153, .invokevirtual 334, 160, 1, 14, 1678) :: (156, .istore_n 1, 0, 0, 0, 0) :: (157, .goto (-152), 5, 0, 0, 0) :: bl_X12_pump_160
def bl_X12_pump_136 : List ax_R := (136, .aload_n 0, 0, 0, 0, 0) :: (137, .getfield 47, 14, 16, 1, 1335) :: (140, .iload_n 1, 0, 0, 0, 0) :: (141, .iaload, 0, 0, 0, 0) :: (142, .ifCond .ne 10, 152, 0, 0, 0) :: (145, .aload_n 0, 0, 0, 0, 0) :: (146, .getfield 35, 14, 12, 1, 1331) :: (149, .iload_n 1, 0, 0, 0, 0) ::
  (150, .iconst 0, 0, 0, 0, 0) :: (151, .iastore, 0, 0, 0, 0) :: bl_X12_pump_152
def bl_X12_pump_115 : List ax_R := (115, .iload_n 3, 0, 0, 0, 0) :: (116, .iload_n 2, 0, 0, 0, 0) :: (117, .if_icmp .ge 19, 136, 0, 0, 0) :: (120, .aload_n 0, 0, 0, 0, 0) :: (121, .aload_n 0, 0, 0, 0, 0) :: (122, .getfield 50, 14, 17, 1, 1336) :: (125, .iload_n 1, 0, 0, 0, 0) :: (126, .iaload, 0, 0, 0, 0) ::
  (127, .invokevirtual 136, 123, 2, 14, 1315) :: (130, .iinc 3 1, 0, 0, 0, 0) :: (133, .goto (-18), 115, 0, 0, 0) :: bl_X12_pump_136
def bl_X12_pump_104 : List ax_R := (104, .aload_n 0, 0, 0, 0, 0) :: (105, .getfield 35, 14, 12, 1, 1331) :: (108, .iload_n 1, 0, 0, 0, 0) :: (109, .iaload, 0, 0, 0, 0) :: (110, .invokevirtual 132, 124, 5, 14, 1311) :: (113, .iconst 0, 0, 0, 0, 0) :: (114, .istore_n 3, 0, 0, 0, 0) :: bl_X12_pump_115
def bl_X12_pump_103 : List ax_R := (103, .iconst 0, 0, 0, 0, 0) :: bl_X12_pump_104
def bl_X12_pump_5 : List ax_R := (5, .iload_n 1, 0, 0, 0, 0) :: (6, .iconst (-1), 0, 0, 0, 0) :: (7, .if_icmp .eq 153, 160, 0, 0, 0) :: (10, .aload_n 0, 0, 0, 0, 0) :: (11, .getfield 120, 14, 50, 0, 1369) :: (14, .ifCond .le 146, 160, 0, 0, 0) :: (17, .aload_n 0, 0, 0, 0, 0) :: (18, .getfield 47, 14, 16, 1, 1335) ::
  (21, .iload_n 1, 0, 0, 0, 0) :: (22, .iaload, 0, 0, 0, 0) :: (23, .aload_n 0, 0, 0, 0, 0) :: (24, .getfield 38, 14, 13, 1, 1332) :: (27, .iload_n 1, 0, 0, 0, 0) :: (28, .iaload, 0, 0, 0, 0) :: (29, .invokestatic 337, 161, 2, 0, 1682) :: (32, .aload_n 0, 0, 0, 0, 0) ::
  (33, .getfield 120, 14, 50, 0, 1369) :: (36, .aload_n 0, 0, 0, 0, 0) :: (37, .getfield 126, 14, 52, 0, 1371) :: (40, .invokestatic 337, 161, 2, 0, 1682) :: (43, .invokestatic 337, 161, 2, 0, 1682) :: (46, .istore_n 2, 0, 0, 0, 0) :: (47, .aload_n 0, 0, 0, 0, 0) :: (48, .getfield 47, 14, 16, 1, 1335) ::
  (51, .iload_n 1, 0, 0, 0, 0) :: (52, .dup2, 0, 0, 0, 0) :: (53, .iaload, 0, 0, 0, 0) :: (54, .iload_n 2, 0, 0, 0, 0) :: (55, .isub, 0, 0, 0, 0) :: (56, .iastore, 0, 0, 0, 0) :: (57, .aload_n 0, 0, 0, 0, 0) :: (58, .getfield 38, 14, 13, 1, 1332) ::
  (61, .iload_n 1, 0, 0, 0, 0) :: (62, .dup2, 0, 0, 0, 0) :: (63, .iaload, 0, 0, 0, 0) :: (64, .iload_n 2, 0, 0, 0, 0) :: (65, .isub, 0, 0, 0, 0) :: (66, .iastore, 0, 0, 0, 0) :: (67, .aload_n 0, 0, 0, 0, 0) :: (68, .dup, 0, 0, 0, 0) ::
  (69, .getfield 120, 14, 50, 0, 1369) :: (72, .iload_n 2, 0, 0, 0, 0) :: (73, .isub, 0, 0, 0, 0) :: (74, .putfield 120, 14, 50, 0, 1369) :: (77, .aload_n 0, 0, 0, 0, 0) :: (78, .aload_n 0, 0, 0, 0, 0) :: (79, .getfield 35, 14, 12, 1, 1331) :: (82, .iload_n 1, 0, 0, 0, 0) ::
  (83, .iaload, 0, 0, 0, 0) :: (84, .putfield 117, 14, 49, 0, 1368) :: (87, .aload_n 0, 0, 0, 0, 0) :: (88, .iload_n 2, 0, 0, 0, 0) :: (89, .iconst 0, 0, 0, 0, 0) :: (90, .aload_n 0, 0, 0, 0, 0) :: (91, .getfield 47, 14, 16, 1, 1335) :: (94, .iload_n 1, 0, 0, 0, 0) ::
  (95, .iaload, 0, 0, 0, 0) :: (96, .ifCond .ne 7, 103, 0, 0, 0) :: (99, .iconst 1, 0, 0, 0, 0) :: (100, .goto 4, 104, 0, 0, 0) :: bl_X12_pump_103
def bl_X12_pump_0 : List ax_R := (0, .aload_n 0, 0, 0, 0, 0) :: (1, .invokevirtual 334, 160, 1, 14, 1678) :: (4, .istore_n 1, 0, 0, 0, 0) :: bl_X12_pump_5
def pr_X12_pump : List ax_R := bl_X12_pump_0
def pt_X12_pump : ax_T := ((⟨"PageServerModel", "pump", "()V"⟩, prog_14_method_53_code, 4, none), 1677, 94, 1676, 79)
def bl_X12_prefaceByte_40 : List ax_R := (40, .ireturn, 0, 0, 0, 0) :: []
def bl_X12_prefaceByte_38 : List ax_R := (38, .bipush 10, 0, 0, 0, 0) :: bl_X12_prefaceByte_40
def bl_X12_prefaceByte_25 : List ax_R := (25, .aload_n 0, 0, 0, 0, 0) :: (26, .getfield 95, 14, 22, 0, 1341) :: (29, .iconst 2, 0, 0, 0, 0) :: (30, .if_icmp .ne 8, 38, 0, 0, 0) :: (33, .bipush 73, 0, 0, 0, 0) :: (35, .goto 5, 40, 0, 0, 0) :: bl_X12_prefaceByte_38
def bl_X12_prefaceByte_12 : List ax_R := (12, .aload_n 0, 0, 0, 0, 0) :: (13, .getfield 95, 14, 22, 0, 1341) :: (16, .iconst 1, 0, 0, 0, 0) :: (17, .if_icmp .ne 8, 25, 0, 0, 0) :: (20, .bipush 82, 0, 0, 0, 0) :: (22, .goto 18, 40, 0, 0, 0) :: bl_X12_prefaceByte_25
def bl_X12_prefaceByte_0 : List ax_R := (0, .aload_n 0, 0, 0, 0, 0) :: (1, .getfield 95, 14, 22, 0, 1341) :: (4, .ifCond .ne 8, 12, 0, 0, 0) :: (7, .bipush 80, 0, 0, 0, 0) :: (9, .goto 31, 40, 0, 0, 0) :: bl_X12_prefaceByte_12
def pr_X12_prefaceByte : List ax_R := bl_X12_prefaceByte_0
def pt_X12_prefaceByte : ax_T := ((⟨"PageServerModel", "prefaceByte", "()I"⟩, prog_14_method_54_code, 1, (some .int)), 1532, 94, 1531, 43)
def bl_X12_take1_152 : List ax_R := (152, .return_, 0, 0, 0, 0) :: []
def bl_X12_take1_100 : List ax_R := (100, .aload_n 0, 0, 0, 0, 0) :: (101, .getfield 98, 14, 23, 0, 1342) :: (104, .iconst 4, 0, 0, 0, 0) :: (105, .aload_n 0, 0, 0, 0, 0) :: (106, .getfield 259, 14, 28, 0, 1347) :: (109, .iadd, 0, 0, 0, 0) :: (110, .if_icmp .ne 42, 152, 0, 0, 0) :: (113, .aload_n 0, 0, 0, 0, 0) ::
  (114, .aload_n 0, 0, 0, 0, 0) :: (115, .getfield 66, 14, 24, 1, 1343) :: (118, .iconst 1, 0, 0, 0, 0) :: (119, .iaload, 0, 0, 0, 0) :: (120, .putfield 304, 14, 25, 0, 1344) :: (123, .aload_n 0, 0, 0, 0, 0) :: (124, .aload_n 0, 0, 0, 0, 0) :: (125, .getfield 66, 14, 24, 1, 1343) ::
  (128, .iconst 2, 0, 0, 0, 0) :: (129, .iaload, 0, 0, 0, 0) :: (130, .putfield 176, 14, 26, 0, 1345) :: (133, .aload_n 0, 0, 0, 0, 0) :: (134, .aload_n 0, 0, 0, 0, 0) :: (135, .getfield 66, 14, 24, 1, 1343) :: (138, .iconst 3, 0, 0, 0, 0) :: (139, .iaload, 0, 0, 0, 0) ::
  (140, .putfield 268, 14, 27, 0, 1346) :: (143, .aload_n 0, 0, 0, 0, 0) :: (144, .iconst 0, 0, 0, 0, 0) :: (145, .putfield 98, 14, 23, 0, 1342) :: (148, .aload_n 0, 0, 0, 0, 0) :: (149, .invokevirtual 343, 159, 1, 14, 1537) :: bl_X12_take1_152
def bl_X12_take1_71 : List ax_R := (71, .aload_n 0, 0, 0, 0, 0) :: (72, .aload_n 0, 0, 0, 0, 0) :: (73, .getfield 66, 14, 24, 1, 1343) :: (76, .iconst 0, 0, 0, 0, 0) :: (77, .iaload, 0, 0, 0, 0) :: (78, .putfield 259, 14, 28, 0, 1347) :: (81, .aload_n 0, 0, 0, 0, 0) :: (82, .getfield 259, 14, 28, 0, 1347) ::
  (85, .sipush 200, 0, 0, 0, 0) :: (88, .if_icmp .le 12, 100, 0, 0, 0) :: (91, .aload_n 0, 0, 0, 0, 0) :: (92, .bipush 6, 0, 0, 0, 0) :: (94, .invokevirtual 328, 158, 2, 14, 1533) :: (97, .goto 55, 152, 0, 0, 0) :: bl_X12_take1_100
def bl_X12_take1_42 : List ax_R := (42, .aload_n 0, 0, 0, 0, 0) :: (43, .getfield 66, 14, 24, 1, 1343) :: (46, .aload_n 0, 0, 0, 0, 0) :: (47, .getfield 98, 14, 23, 0, 1342) :: (50, .iload_n 1, 0, 0, 0, 0) :: (51, .iastore, 0, 0, 0, 0) :: (52, .aload_n 0, 0, 0, 0, 0) :: (53, .dup, 0, 0, 0, 0) ::
  (54, .getfield 98, 14, 23, 0, 1342) :: (57, .iconst 1, 0, 0, 0, 0) :: (58, .iadd, 0, 0, 0, 0) :: (59, .putfield 98, 14, 23, 0, 1342) :: (62, .aload_n 0, 0, 0, 0, 0) :: (63, .getfield 98, 14, 23, 0, 1342) :: (66, .iconst 4, 0, 0, 0, 0) :: (67, .if_icmp .ge 4, 71, 0, 0, 0) ::
  (70, .return_, 0, 0, 0, 0) :: bl_X12_take1_71
def bl_X12_take1_41 : List ax_R := (41, .return_, 0, 0, 0, 0) :: bl_X12_take1_42
def bl_X12_take1_21 : List ax_R := (21, .istore_n 2, 0, 0, 0, 0) :: (22, .aload_n 0, 0, 0, 0, 0) :: (23, .dup, 0, 0, 0, 0) :: (24, .getfield 95, 14, 22, 0, 1341) :: (27, .iconst 1, 0, 0, 0, 0) :: (28, .iadd, 0, 0, 0, 0) :: (29, .putfield 95, 14, 22, 0, 1341) :: (32, .iload_n 2, 0, 0, 0, 0) ::
  (33, .ifCond .ne 8, 41, 0, 0, 0) :: (36, .aload_n 0, 0, 0, 0, 0) :: (37, .iconst 1, 0, 0, 0, 0) :: (38, .invokevirtual 328, 158, 2, 14, 1533) :: bl_X12_take1_41
def bl_X12_take1_20 : List ax_R := (20, .iconst 0, 0, 0, 0, 0) :: bl_X12_take1_21
def bl_X12_take1_0 : List ax_R := (0, .aload_n 0, 0, 0, 0, 0) :: (1, .getfield 95, 14, 22, 0, 1341) :: (4, .iconst 4, 0, 0, 0, 0) :: (5, .if_icmp .ge 37, 42, 0, 0, 0) :: (8, .iload_n 1, 0, 0, 0, 0) :: (9, .aload_n 0, 0, 0, 0, 0) :: (10, .invokevirtual 340, 163, 1, 14, 1529) :: (13, .if_icmp .ne 7, 20, 0, 0, 0) ::
  (16, .iconst 1, 0, 0, 0, 0) :: (17, .goto 4, 21, 0, 0, 0) :: bl_X12_take1_20
def pr_X12_take1 : List ax_R := bl_X12_take1_0
def pt_X12_take1 : ax_T := ((⟨"PageServerModel", "take1", "(I)V"⟩, prog_14_method_55_code, 3, none), 1528, 94, 1527, 42)
def bl_X12_feed_56 : List ax_R := (56, .iconst 1, 0, 0, 0, 0) :: (57, .ireturn, 0, 0, 0, 0) :: []
def bl_X12_feed_50 : List ax_R := (50, .iinc 3 (-1), 0, 0, 0, 0) :: (53, .goto (-23), 30, 0, 0, 0) :: bl_X12_feed_56
def bl_X12_feed_30 : List ax_R := (30, .iload_n 3, 0, 0, 0, 0) :: (31, .ifCond .lt 25, 56, 0, 0, 0) :: (34, .aload_n 0, 0, 0, 0, 0) :: (35, .getfield 114, 14, 48, 0, 1367) :: (38, .ifCond .ne 12, 50, 0, 0, 0) :: (41, .aload_n 0, 0, 0, 0, 0) :: (42, .iload_n 1, 0, 0, 0, 0) :: (43, .iload_n 3, 0, 0, 0, 0) ::
  (44, .invokestatic 140, 116, 2, 0, 1497) :: (47, .invokevirtual 346, 164, 2, 14, 1525) :: bl_X12_feed_50
def bl_X12_feed_26 : List ax_R := (26, .iload_n 2, 0, 0, 0, 0) :: (27, .iconst 1, 0, 0, 0, 0) :: (28, .isub, 0, 0, 0, 0) :: (29, .istore_n 3, 0, 0, 0, 0) :: bl_X12_feed_30
def bl_X12_feed_24 : List ax_R := (24, .iconst 0, 0, 0, 0, 0) :: (25, .ireturn, 0, 0, 0, 0) :: bl_X12_feed_26
def bl_X12_feed_0 : List ax_R := (0, .aload_n 0, 0, 0, 0, 0) :: (1, .iconst 0, 0, 0, 0, 0) :: (2, .putfield 85, 14, 0, 0, 1319) :: (5, .iload_n 2, 0, 0, 0, 0) :: (6, .iconst 1, 0, 0, 0, 0) :: (7, .iconst 4, 0, 0, 0, 0) :: (8, .invokestatic 158, 114, 3, 0, 1506) :: (11, .ifCond .ne 13, 24, 0, 0, 0) ::
  (14, .aload_n 0, 0, 0, 0, 0) :: (15, .getfield 129, 14, 53, 0, 1372) :: (18, .sipush 300, 0, 0, 0, 0) :: (21, .if_icmp .le 5, 26, 0, 0, 0) :: bl_X12_feed_24
def pr_X12_feed : List ax_R := bl_X12_feed_0
def pt_X12_feed : ax_T := ((⟨"PageServerModel", "feed", "(II)Z"⟩, prog_14_method_56_code, 4, (some .boolean)), 1524, 94, 1522, 1523)
def bl_X12_restart_0 : List ax_R := (0, .aload_n 0, 0, 0, 0, 0) :: (1, .iconst 0, 0, 0, 0, 0) :: (2, .putfield 85, 14, 0, 0, 1319) :: (5, .aload_n 0, 0, 0, 0, 0) :: (6, .invokevirtual 82, 115, 1, 14, 1307) :: (9, .return_, 0, 0, 0, 0) :: []
def pr_X12_restart : List ax_R := bl_X12_restart_0
def pt_X12_restart : ax_T := ((⟨"PageServerModel", "restart", "()V"⟩, prog_14_method_57_code, 1, none), 1688, 94, 1686, 1687)
def bl_X12_waiting_0 : List ax_R := (0, .aload_n 0, 0, 0, 0, 0) :: (1, .iconst 0, 0, 0, 0, 0) :: (2, .putfield 85, 14, 0, 0, 1319) :: (5, .aload_n 0, 0, 0, 0, 0) :: (6, .getfield 129, 14, 53, 0, 1372) :: (9, .ireturn, 0, 0, 0, 0) :: []
def pr_X12_waiting : List ax_R := bl_X12_waiting_0
def pt_X12_waiting : ax_T := ((⟨"PageServerModel", "waiting", "()I"⟩, prog_14_method_58_code, 1, (some .int)), 1692, 94, 1690, 1691)
def bl_X12_out_20 : List ax_R := (20, .aload_n 0, 0, 0, 0, 0) :: (21, .iconst 0, 0, 0, 0, 0) :: (22, .putfield 85, 14, 0, 0, 1319) :: (25, .aload_n 0, 0, 0, 0, 0) :: (26, .getfield 75, 14, 54, 1, 1373) :: (29, .iload_n 1, 0, 0, 0, 0) :: (30, .iaload, 0, 0, 0, 0) :: (31, .ireturn, 0, 0, 0, 0) :: []
def bl_X12_out_0 : List ax_R := (0, .iload_n 1, 0, 0, 0, 0) :: (1, .iconst 0, 0, 0, 0, 0) :: (2, .aload_n 0, 0, 0, 0, 0) :: (3, .getfield 129, 14, 53, 0, 1372) :: (6, .iconst 1, 0, 0, 0, 0) :: (7, .isub, 0, 0, 0, 0) :: (8, .invokestatic 158, 114, 3, 0, 1506) :: (11, .ifCond .eq 9, 20, 0, 0, 0) ::
  (14, .aload_n 0, 0, 0, 0, 0) :: (15, .iconst 1, 0, 0, 0, 0) :: (16, .invokevirtual 162, 113, 2, 14, 1509) :: (19, .ireturn, 0, 0, 0, 0) :: bl_X12_out_20
def pr_X12_out : List ax_R := bl_X12_out_0
def pt_X12_out : ax_T := ((⟨"PageServerModel", "out", "(I)I"⟩, prog_14_method_59_code, 2, (some .int)), 1696, 94, 1694, 1695)
def bl_X12_take_60 : List ax_R := (60, .aload_n 0, 0, 0, 0, 0) :: (61, .dup, 0, 0, 0, 0) :: (62, .getfield 129, 14, 53, 0, 1372) :: (65, .iload_n 2, 0, 0, 0, 0) :: (66, .isub, 0, 0, 0, 0) :: (67, .putfield 129, 14, 53, 0, 1372) :: (70, .return_, 0, 0, 0, 0) :: []
def bl_X12_take_32 : List ax_R := (32, .iload_n 3, 0, 0, 0, 0) :: (33, .aload_n 0, 0, 0, 0, 0) :: (34, .getfield 129, 14, 53, 0, 1372) :: (37, .if_icmp .ge 23, 60, 0, 0, 0) :: (40, .aload_n 0, 0, 0, 0, 0) :: (41, .getfield 75, 14, 54, 1, 1373) :: (44, .iload_n 3, 0, 0, 0, 0) :: (45, .iload_n 2, 0, 0, 0, 0) ::
  (46, .isub, 0, 0, 0, 0) :: (47, .aload_n 0, 0, 0, 0, 0) :: (48, .getfield 75, 14, 54, 1, 1373) :: (51, .iload_n 3, 0, 0, 0, 0) :: (52, .iaload, 0, 0, 0, 0) :: (53, .iastore, 0, 0, 0, 0) :: (54, .iinc 3 1, 0, 0, 0, 0) :: (57, .goto (-25), 32, 0, 0, 0) :: bl_X12_take_60
def bl_X12_take_29 : List ax_R := (29, .istore_n 2, 0, 0, 0, 0) :: (30, .iload_n 2, 0, 0, 0, 0) :: (31, .istore_n 3, 0, 0, 0, 0) :: bl_X12_take_32
def bl_X12_take_28 : List ax_R := (28, .iload_n 1, 0, 0, 0, 0) :: bl_X12_take_29
def bl_X12_take_13 : List ax_R := (13, .iload_n 1, 0, 0, 0, 0) :: (14, .aload_n 0, 0, 0, 0, 0) :: (15, .getfield 129, 14, 53, 0, 1372) :: (18, .if_icmp .le 10, 28, 0, 0, 0) :: (21, .aload_n 0, 0, 0, 0, 0) :: (22, .getfield 129, 14, 53, 0, 1372) :: (25, .goto 4, 29, 0, 0, 0) :: bl_X12_take_28
def bl_X12_take_0 : List ax_R := (0, .aload_n 0, 0, 0, 0, 0) :: (1, .iconst 0, 0, 0, 0, 0) :: (2, .putfield 85, 14, 0, 0, 1319) :: (5, .iload_n 1, 0, 0, 0, 0) :: (6, .ifCond .ge 7, 13, 0, 0, 0) :: (9, .iconst 0, 0, 0, 0, 0) :: (10, .goto 19, 29, 0, 0, 0) :: bl_X12_take_13
def pr_X12_take : List ax_R := bl_X12_take_0
def pt_X12_take : ax_T := ((⟨"PageServerModel", "take", "(I)V"⟩, prog_14_method_60_code, 4, none), 1700, 94, 1698, 1699)
def bl_X12_away_0 : List ax_R := (0, .aload_n 0, 0, 0, 0, 0) :: (1, .iconst 0, 0, 0, 0, 0) :: (2, .putfield 85, 14, 0, 0, 1319) :: (5, .aload_n 0, 0, 0, 0, 0) :: (6, .getfield 114, 14, 48, 0, 1367) :: (9, .ireturn, 0, 0, 0, 0) :: []
def pr_X12_away : List ax_R := bl_X12_away_0
def pt_X12_away : ax_T := ((⟨"PageServerModel", "away", "()I"⟩, prog_14_method_61_code, 1, (some .int)), 1704, 94, 1702, 1703)
def bl_X12_about_92 : List ax_R := (92, .iconst (-1), 0, 0, 0, 0) :: (93, .ireturn, 0, 0, 0, 0) :: []
def bl_X12_about_87 : List ax_R := (87, .aload_n 0, 0, 0, 0, 0) :: (88, .getfield 108, 14, 34, 0, 1353) :: (91, .ireturn, 0, 0, 0, 0) :: bl_X12_about_92
def bl_X12_about_82 : List ax_R := (82, .aload_n 0, 0, 0, 0, 0) :: (83, .invokevirtual 182, 132, 1, 14, 1621) :: (86, .ireturn, 0, 0, 0, 0) :: bl_X12_about_87
def bl_X12_about_77 : List ax_R := (77, .aload_n 0, 0, 0, 0, 0) :: (78, .getfield 89, 14, 6, 0, 1325) :: (81, .ireturn, 0, 0, 0, 0) :: bl_X12_about_82
def bl_X12_about_72 : List ax_R := (72, .aload_n 0, 0, 0, 0, 0) :: (73, .getfield 92, 14, 7, 0, 1326) :: (76, .ireturn, 0, 0, 0, 0) :: bl_X12_about_77
def bl_X12_about_67 : List ax_R := (67, .aload_n 0, 0, 0, 0, 0) :: (68, .getfield 126, 14, 52, 0, 1371) :: (71, .ireturn, 0, 0, 0, 0) :: bl_X12_about_72
def bl_X12_about_62 : List ax_R := (62, .aload_n 0, 0, 0, 0, 0) :: (63, .getfield 120, 14, 50, 0, 1369) :: (66, .ireturn, 0, 0, 0, 0) :: bl_X12_about_67
def bl_X12_about_57 : List ax_R := (57, .aload_n 0, 0, 0, 0, 0) :: (58, .invokevirtual 298, 127, 1, 14, 1650) :: (61, .ireturn, 0, 0, 0, 0) :: bl_X12_about_62
def bl_X12_about_52 : List ax_R := (52, .aload_n 0, 0, 0, 0, 0) :: (53, .getfield 111, 14, 47, 0, 1366) :: (56, .ireturn, 0, 0, 0, 0) :: bl_X12_about_57
def bl_X12_about_0 : List ax_R := (0, .aload_n 0, 0, 0, 0, 0) :: (1, .iconst 0, 0, 0, 0, 0) :: (2, .putfield 85, 14, 0, 0, 1319) :: (5, .iload_n 1, 0, 0, 0, 0) :: (6, .tableswitch 86 0 7 #[46, 51, 56, 61, 66, 71, 76, 81], 0, 0, 0, 0) :: bl_X12_about_52
def pr_X12_about : List ax_R := bl_X12_about_0
def pt_X12_about : ax_T := ((⟨"PageServerModel", "about", "(I)I"⟩, prog_14_method_62_code, 2, (some .int)), 1708, 94, 1706, 1707)
def bl_X12_stream_86 : List ax_R := (86, .ireturn, 0, 0, 0, 0) :: []
def bl_X12_stream_85 : List ax_R := (85, .iconst 0, 0, 0, 0, 0) :: bl_X12_stream_86
def bl_X12_stream_72 : List ax_R := (72, .aload_n 0, 0, 0, 0, 0) :: (73, .getfield 53, 14, 18, 1, 1337) :: (76, .iload_n 3, 0, 0, 0, 0) :: (77, .baload, 0, 0, 1, 0) :: (78, .ifCond .eq 7, 85, 0, 0, 0) :: (81, .iconst 1, 0, 0, 0, 0) :: (82, .goto 4, 86, 0, 0, 0) :: bl_X12_stream_85
def bl_X12_stream_58 : List ax_R := (58, .iload_n 2, 0, 0, 0, 0) :: (59, .iconst 2, 0, 0, 0, 0) :: (60, .if_icmp .ne 12, 72, 0, 0, 0) :: (63, .aload_n 0, 0, 0, 0, 0) :: (64, .getfield 41, 14, 14, 1, 1333) :: (67, .iload_n 3, 0, 0, 0, 0) :: (68, .iaload, 0, 0, 0, 0) :: (69, .goto 17, 86, 0, 0, 0) :: bl_X12_stream_72
def bl_X12_stream_44 : List ax_R := (44, .iload_n 2, 0, 0, 0, 0) :: (45, .iconst 1, 0, 0, 0, 0) :: (46, .if_icmp .ne 12, 58, 0, 0, 0) :: (49, .aload_n 0, 0, 0, 0, 0) :: (50, .getfield 47, 14, 16, 1, 1335) :: (53, .iload_n 3, 0, 0, 0, 0) :: (54, .iaload, 0, 0, 0, 0) :: (55, .goto 31, 86, 0, 0, 0) :: bl_X12_stream_58
def bl_X12_stream_26 : List ax_R := (26, .aload_n 0, 0, 0, 0, 0) :: (27, .iconst 0, 0, 0, 0, 0) :: (28, .putfield 85, 14, 0, 0, 1319) :: (31, .iload_n 2, 0, 0, 0, 0) :: (32, .ifCond .ne 12, 44, 0, 0, 0) :: (35, .aload_n 0, 0, 0, 0, 0) :: (36, .getfield 38, 14, 13, 1, 1332) :: (39, .iload_n 3, 0, 0, 0, 0) ::
  (40, .iaload, 0, 0, 0, 0) :: (41, .goto 45, 86, 0, 0, 0) :: bl_X12_stream_44
def bl_X12_stream_20 : List ax_R := (20, .aload_n 0, 0, 0, 0, 0) :: (21, .iconst 1, 0, 0, 0, 0) :: (22, .invokevirtual 162, 113, 2, 14, 1509) :: (25, .ireturn, 0, 0, 0, 0) :: bl_X12_stream_26
def bl_X12_stream_0 : List ax_R := (0, .aload_n 0, 0, 0, 0, 0) :: (1, .iload_n 1, 0, 0, 0, 0) :: (2, .invokevirtual 173, 126, 2, 14, 1565) :: (5, .istore_n 3, 0, 0, 0, 0) :: (6, .iload_n 3, 0, 0, 0, 0) :: (7, .iconst (-1), 0, 0, 0, 0) :: (8, .if_icmp .eq 12, 20, 0, 0, 0) :: (11, .iload_n 2, 0, 0, 0, 0) ::
  (12, .iconst 0, 0, 0, 0, 0) :: (13, .iconst 3, 0, 0, 0, 0) :: (14, .invokestatic 158, 114, 3, 0, 1506) :: (17, .ifCond .eq 9, 26, 0, 0, 0) :: bl_X12_stream_20
def pr_X12_stream : List ax_R := bl_X12_stream_0
def pt_X12_stream : ax_T := ((⟨"PageServerModel", "stream", "(II)I"⟩, prog_14_method_63_code, 4, (some .int)), 1712, 94, 1710, 1711)
def bl_X12_entry_111 : List ax_R := (111, .ireturn, 0, 0, 0, 0) :: []
def bl_X12_entry_98 : List ax_R := (98, .aload_n 0, 0, 0, 0, 0) :: (99, .getfield 32, 14, 11, 1, 1330) :: (102, .bipush 20, 0, 0, 0, 0) :: (104, .iload_n 1, 0, 0, 0, 0) :: (105, .iconst 1, 0, 0, 0, 0) :: (106, .isub, 0, 0, 0, 0) :: (107, .imul, 0, 0, 0, 0) :: (108, .iload_n 3, 0, 0, 0, 0) ::
  (109, .iadd, 0, 0, 0, 0) :: (110, .caload, 0, 0, 0, 0) :: bl_X12_entry_111
def bl_X12_entry_73 : List ax_R := (73, .aload_n 0, 0, 0, 0, 0) :: (74, .iconst 0, 0, 0, 0, 0) :: (75, .putfield 85, 14, 0, 0, 1319) :: (78, .iload_n 2, 0, 0, 0, 0) :: (79, .ifCond .ne 19, 98, 0, 0, 0) :: (82, .aload_n 0, 0, 0, 0, 0) :: (83, .getfield 26, 14, 9, 1, 1328) :: (86, .bipush 20, 0, 0, 0, 0) ::
  (88, .iload_n 1, 0, 0, 0, 0) :: (89, .iconst 1, 0, 0, 0, 0) :: (90, .isub, 0, 0, 0, 0) :: (91, .imul, 0, 0, 0, 0) :: (92, .iload_n 3, 0, 0, 0, 0) :: (93, .iadd, 0, 0, 0, 0) :: (94, .caload, 0, 0, 0, 0) :: (95, .goto 16, 111, 0, 0, 0) :: bl_X12_entry_98
def bl_X12_entry_53 : List ax_R := (53, .istore 4, 0, 0, 0, 0) :: (55, .iload_n 3, 0, 0, 0, 0) :: (56, .iconst 0, 0, 0, 0, 0) :: (57, .iload 4, 0, 0, 0, 0) :: (59, .iconst 1, 0, 0, 0, 0) :: (60, .isub, 0, 0, 0, 0) :: (61, .invokestatic 158, 114, 3, 0, 1506) :: (64, .ifCond .eq 9, 73, 0, 0, 0) ::
  (67, .aload_n 0, 0, 0, 0, 0) :: (68, .iconst 1, 0, 0, 0, 0) :: (69, .invokevirtual 162, 113, 2, 14, 1509) :: (72, .ireturn, 0, 0, 0, 0) :: bl_X12_entry_73
def bl_X12_entry_45 : List ax_R := (45, .aload_n 0, 0, 0, 0, 0) :: (46, .getfield 29, 14, 10, 1, 1329) :: (49, .iload_n 1, 0, 0, 0, 0) :: (50, .iconst 1, 0, 0, 0, 0) :: (51, .isub, 0, 0, 0, 0) :: (52, .iaload, 0, 0, 0, 0) :: bl_X12_entry_53
def bl_X12_entry_30 : List ax_R := (30, .iload_n 2, 0, 0, 0, 0) :: (31, .ifCond .ne 14, 45, 0, 0, 0) :: (34, .aload_n 0, 0, 0, 0, 0) :: (35, .getfield 23, 14, 8, 1, 1327) :: (38, .iload_n 1, 0, 0, 0, 0) :: (39, .iconst 1, 0, 0, 0, 0) :: (40, .isub, 0, 0, 0, 0) :: (41, .iaload, 0, 0, 0, 0) ::
  (42, .goto 11, 53, 0, 0, 0) :: bl_X12_entry_45
def bl_X12_entry_24 : List ax_R := (24, .aload_n 0, 0, 0, 0, 0) :: (25, .iconst 1, 0, 0, 0, 0) :: (26, .invokevirtual 162, 113, 2, 14, 1509) :: (29, .ireturn, 0, 0, 0, 0) :: bl_X12_entry_30
def bl_X12_entry_0 : List ax_R := (0, .iload_n 1, 0, 0, 0, 0) :: (1, .iconst 1, 0, 0, 0, 0) :: (2, .bipush 7, 0, 0, 0, 0) :: (4, .aload_n 0, 0, 0, 0, 0) :: (5, .getfield 89, 14, 6, 0, 1325) :: (8, .iadd, 0, 0, 0, 0) :: (9, .invokestatic 158, 114, 3, 0, 1506) :: (12, .ifCond .ne 12, 24, 0, 0, 0) ::
  (15, .iload_n 2, 0, 0, 0, 0) :: (16, .iconst 0, 0, 0, 0, 0) :: (17, .iconst 1, 0, 0, 0, 0) :: (18, .invokestatic 158, 114, 3, 0, 1506) :: (21, .ifCond .eq 9, 30, 0, 0, 0) :: bl_X12_entry_24
def pr_X12_entry : List ax_R := bl_X12_entry_0
def pt_X12_entry : ax_T := ((⟨"PageServerModel", "entry", "(III)I"⟩, prog_14_method_64_code, 5, (some .int)), 1716, 94, 1714, 1715)
def bl_J0_init_905df_0 : List ax_R := (0, .aload_n 0, 0, 0, 0, 0) :: (1, .aload_n 1, 0, 0, 0, 0) :: (2, .iconst 0, 0, 0, 0, 0) :: (3, .aload_n 1, 0, 0, 0, 0) :: (4, .arraylength, 0, 0, 0, 0) :: (5, .aconst_null, 0, 0, 0, 0) :: (6, .invokespecial 27, 175, 5, 0, 696) :: (9, .return_, 0, 0, 0, 0) :: []
def pr_J0_init_905df : List ax_R := bl_J0_init_905df_0
def pt_J0_init_905df : ax_T := ((⟨"java/lang/String", "<init>", "([C)V"⟩, prog_23_method_3_code, 2, none), 695, 90, 694, 0)
def bl_J0_init_bb550_58 : List ax_R := (58, .aload_n 0, 0, 0, 0, 0) :: (59, .iconst 1, 0, 0, 0, 0) :: (60, .putfield 15, 0, 1, 0, 751) :: (63, .aload_n 0, 0, 0, 0, 0) :: (64, .aload_n 1, 0, 0, 0, 0) :: (65, .iload_n 2, 0, 0, 0, 0) :: (66, .iload_n 3, 0, 0, 0, 0) :: (67, .invokestatic 180, 0, 0, 99, 0) ::
  (70, .putfield 9, 0, 0, 1, 750) :: (73, .return_, 0, 0, 0, 0) :: []
def bl_J0_init_bb550_27 : List ax_R := (27, .getstatic 38, 1, 0, 0, 213) :: (30, .ifCond .eq 28, 58, 0, 0, 0) :: (33, .aload_n 1, 0, 0, 0, 0) :: (34, .iload_n 2, 0, 0, 0, 0) :: (35, .iload_n 3, 0, 0, 0, 0) :: (36, .invokestatic 177, 185, 3, 0, 701) :: (39, .astore 5, 0, 0, 0, 0) :: (41, .aload_n 0, 0, 0, 0, 0) ::
  (42, .aload 5, 0, 0, 0, 0) :: (44, .iload_n 3, 0, 0, 0, 0) :: (45, .invokestatic 47, 204, 2, 0, 746) :: (48, .putfield 15, 0, 1, 0, 751) :: (51, .aload_n 0, 0, 0, 0, 0) :: (52, .aload 5, 0, 0, 0, 0) :: (54, .putfield 9, 0, 0, 1, 750) :: (57, .return_, 0, 0, 0, 0) :: bl_J0_init_bb550_58
def bl_J0_init_bb550_0 : List ax_R := (0, .aload_n 0, 0, 0, 0, 0) :: (1, .invokespecial 1, 0, 0, 5, 699) :: (4, .iload_n 3, 0, 0, 0, 0) :: (5, .ifCond .ne 22, 27, 0, 0, 0) :: (8, .aload_n 0, 0, 0, 0, 0) :: (9, .ldc 7, 0, 15, 1, 14) :: (11, .getfield 9, 0, 0, 1, 750) :: (14, .putfield 9, 0, 0, 1, 750) ::
  (17, .aload_n 0, 0, 0, 0, 0) :: (18, .ldc 7, 0, 15, 1, 14) :: (20, .getfield 15, 0, 1, 0, 751) :: (23, .putfield 15, 0, 1, 0, 751) :: (26, .return_, 0, 0, 0, 0) :: bl_J0_init_bb550_27
def pr_J0_init_bb550 : List ax_R := bl_J0_init_bb550_0
def pt_J0_init_bb550 : ax_T := ((⟨"java/lang/String", "<init>", "([CIILjava/lang/Void;)V"⟩, prog_23_method_149_code, 6, none), 698, 90, 697, 0)
def bl_J0_length_8abf5_0 : List ax_R := (0, .aload_n 0, 0, 0, 0, 0) :: (1, .getfield 9, 0, 0, 1, 750) :: (4, .arraylength, 0, 0, 0, 0) :: (5, .aload_n 0, 0, 0, 0, 0) :: (6, .invokevirtual 335, 180, 1, 0, 209) :: (9, .ishr, 0, 0, 0, 0) :: (10, .ireturn, 0, 0, 0, 0) :: []
def pr_J0_length_8abf5 : List ax_R := bl_J0_length_8abf5_0
def pt_J0_length_8abf5 : ax_T := ((⟨"java/lang/String", "length", "()I"⟩, prog_23_method_54_code, 1, (some .int)), 208, 90, 206, 207)
def bl_J0_isEmpty_aae02_13 : List ax_R := (13, .ireturn, 0, 0, 0, 0) :: []
def bl_J0_isEmpty_aae02_12 : List ax_R := (12, .iconst 0, 0, 0, 0, 0) :: bl_J0_isEmpty_aae02_13
def bl_J0_isEmpty_aae02_0 : List ax_R := (0, .aload_n 0, 0, 0, 0, 0) :: (1, .getfield 9, 0, 0, 1, 750) :: (4, .arraylength, 0, 0, 0, 0) :: (5, .ifCond .ne 7, 12, 0, 0, 0) :: (8, .iconst 1, 0, 0, 0, 0) :: (9, .goto 4, 13, 0, 0, 0) :: bl_J0_isEmpty_aae02_12
def pr_J0_isEmpty_aae02 : List ax_R := bl_J0_isEmpty_aae02_0
def pt_J0_isEmpty_aae02 : ax_T := ((⟨"java/lang/String", "isEmpty", "()Z"⟩, prog_23_method_55_code, 1, (some .boolean)), 811, 90, 809, 810)
def bl_J0_charAt_5068e_16 : List ax_R := (16, .aload_n 0, 0, 0, 0, 0) :: (17, .getfield 9, 0, 0, 1, 750) :: (20, .iload_n 1, 0, 0, 0, 0) :: (21, .invokestatic 498, 0, 0, 99, 0) :: (24, .ireturn, 0, 0, 0, 0) :: []
def bl_J0_charAt_5068e_0 : List ax_R := (0, .aload_n 0, 0, 0, 0, 0) :: (1, .invokevirtual 492, 181, 1, 0, 816) :: (4, .ifCond .eq 12, 16, 0, 0, 0) :: (7, .aload_n 0, 0, 0, 0, 0) :: (8, .getfield 9, 0, 0, 1, 750) :: (11, .iload_n 1, 0, 0, 0, 0) :: (12, .invokestatic 495, 183, 2, 0, 820) :: (15, .ireturn, 0, 0, 0, 0) :: bl_J0_charAt_5068e_16
def pr_J0_charAt_5068e : List ax_R := bl_J0_charAt_5068e_0
def pt_J0_charAt_5068e : ax_T := ((⟨"java/lang/String", "charAt", "(I)C"⟩, prog_23_method_56_code, 2, (some .char)), 815, 90, 813, 814)
def bl_J0_equals_9ea2d_55 : List ax_R := (55, .ireturn, 0, 0, 0, 0) :: []
def bl_J0_equals_9ea2d_54 : List ax_R := (54, .iconst 0, 0, 0, 0, 0) :: bl_J0_equals_9ea2d_55
def bl_J0_equals_9ea2d_36 : List ax_R := (36, .aload_n 0, 0, 0, 0, 0) :: (37, .getfield 9, 0, 0, 1, 750) :: (40, .aload_n 2, 0, 0, 0, 0) :: (41, .getfield 9, 0, 0, 1, 750) :: (44, .invokestatic 541, 184, 2, 0, 586) :: (47, .ifCond .eq 7, 54, 0, 0, 0) :: (50, .iconst 1, 0, 0, 0, 0) :: (51, .goto 4, 55, 0, 0, 0) :: bl_J0_equals_9ea2d_54
def bl_J0_equals_9ea2d_7 : List ax_R := (7, .aload_n 1, 0, 0, 0, 0) :: (8, .instanceof 10, 0, 0, 0, 585) :: (11, .ifCond .eq 43, 54, 0, 0, 0) :: (14, .aload_n 1, 0, 0, 0, 0) :: (15, .checkcast 10, 0, 0, 0, 585) :: (18, .astore_n 2, 0, 0, 0, 0) :: (19, .getstatic 38, 1, 0, 0, 213) :: (22, .ifCond .eq 14, 36, 0, 0, 0) ::
  (25, .aload_n 0, 0, 0, 0, 0) :: (26, .getfield 15, 0, 1, 0, 751) :: (29, .aload_n 2, 0, 0, 0, 0) :: (30, .getfield 15, 0, 1, 0, 751) :: (33, .if_icmp .ne 21, 54, 0, 0, 0) :: bl_J0_equals_9ea2d_36
def bl_J0_equals_9ea2d_0 : List ax_R := (0, .aload_n 0, 0, 0, 0, 0) :: (1, .aload_n 1, 0, 0, 0, 0) :: (2, .if_acmp .ne 5, 7, 0, 0, 0) :: (5, .iconst 1, 0, 0, 0, 0) :: (6, .ireturn, 0, 0, 0, 0) :: bl_J0_equals_9ea2d_7
def pr_J0_equals_9ea2d : List ax_R := bl_J0_equals_9ea2d_0
def pt_J0_equals_9ea2d : ax_T := ((⟨"java/lang/String", "equals", "(Ljava/lang/Object;)Z"⟩, prog_23_method_66_code, 3, (some .boolean)), 584, 90, 582, 583)
def bl_J0_coder_7d493_14 : List ax_R := (14, .ireturn, 0, 0, 0, 0) :: []
def bl_J0_coder_7d493_13 : List ax_R := (13, .iconst 1, 0, 0, 0, 0) :: bl_J0_coder_7d493_14
def bl_J0_coder_7d493_0 : List ax_R := (0, .getstatic 38, 1, 0, 0, 213) :: (3, .ifCond .eq 10, 13, 0, 0, 0) :: (6, .aload_n 0, 0, 0, 0, 0) :: (7, .getfield 15, 0, 1, 0, 751) :: (10, .goto 4, 14, 0, 0, 0) :: bl_J0_coder_7d493_13
def pr_J0_coder_7d493 : List ax_R := bl_J0_coder_7d493_0
def pt_J0_coder_7d493 : ax_T := ((⟨"java/lang/String", "coder", "()B"⟩, prog_23_method_152_code, 1, (some .byte)), 212, 90, 210, 211)
def bl_J0_isLatin1_aae02_18 : List ax_R := (18, .ireturn, 0, 0, 0, 0) :: []
def bl_J0_isLatin1_aae02_17 : List ax_R := (17, .iconst 0, 0, 0, 0, 0) :: bl_J0_isLatin1_aae02_18
def bl_J0_isLatin1_aae02_0 : List ax_R := (0, .getstatic 38, 1, 0, 0, 213) :: (3, .ifCond .eq 14, 17, 0, 0, 0) :: (6, .aload_n 0, 0, 0, 0, 0) :: (7, .getfield 15, 0, 1, 0, 751) :: (10, .ifCond .ne 7, 17, 0, 0, 0) :: (13, .iconst 1, 0, 0, 0, 0) :: (14, .goto 4, 18, 0, 0, 0) :: bl_J0_isLatin1_aae02_17
def pr_J0_isLatin1_aae02 : List ax_R := bl_J0_isLatin1_aae02_0
def pt_J0_isLatin1_aae02 : ax_T := ((⟨"java/lang/String", "isLatin1", "()Z"⟩, prog_23_method_154_code, 1, (some .boolean)), 819, 90, 817, 818)
def bl_J0_checkIndex_df160_0 : List ax_R := (0, .iload_n 0, 0, 0, 0, 0) :: (1, .iload_n 1, 0, 0, 0, 0) :: (2, .getstatic 1053, 0, 0, 2, 741) :: (5, .invokestatic 1059, 187, 3, 0, 826) :: (8, .pop, 0, 0, 0, 0) :: (9, .return_, 0, 0, 0, 0) :: []
def pr_J0_checkIndex_df160 : List ax_R := bl_J0_checkIndex_df160_0
def pt_J0_checkIndex_df160 : ax_T := ((⟨"java/lang/String", "checkIndex", "(II)V"⟩, prog_23_method_155_code, 2, none), 825, 90, 824, 0)
def bl_J1_charAt_3b067_0 : List ax_R := (0, .iload_n 1, 0, 0, 0, 0) :: (1, .aload_n 0, 0, 0, 0, 0) :: (2, .arraylength, 0, 0, 0, 0) :: (3, .invokestatic 9, 182, 2, 0, 823) :: (6, .aload_n 0, 0, 0, 0, 0) :: (7, .iload_n 1, 0, 0, 0, 0) :: (8, .baload, 0, 0, 0, 0) :: (9, .sipush 255, 0, 0, 0, 0) ::
  (12, .iand, 0, 0, 0, 0) :: (13, .i2c, 0, 0, 0, 0) :: (14, .ireturn, 0, 0, 0, 0) :: []
def pr_J1_charAt_3b067 : List ax_R := bl_J1_charAt_3b067_0
def pt_J1_charAt_3b067 : ax_T := ((⟨"java/lang/StringLatin1", "charAt", "([BI)C"⟩, prog_25_method_2_code, 2, (some .char)), 822, 106, 821, 0)
def bl_J1_equals_b5fdf_34 : List ax_R := (34, .iconst 0, 0, 0, 0, 0) :: (35, .ireturn, 0, 0, 0, 0) :: []
def bl_J1_equals_b5fdf_32 : List ax_R := (32, .iconst 1, 0, 0, 0, 0) :: (33, .ireturn, 0, 0, 0, 0) :: bl_J1_equals_b5fdf_34
def bl_J1_equals_b5fdf_26 : List ax_R := (26, .iinc 2 1, 0, 0, 0, 0) :: (29, .goto (-20), 9, 0, 0, 0) :: bl_J1_equals_b5fdf_32
def bl_J1_equals_b5fdf_9 : List ax_R := (9, .iload_n 2, 0, 0, 0, 0) :: (10, .aload_n 0, 0, 0, 0, 0) :: (11, .arraylength, 0, 0, 0, 0) :: (12, .if_icmp .ge 20, 32, 0, 0, 0) :: (15, .aload_n 0, 0, 0, 0, 0) :: (16, .iload_n 2, 0, 0, 0, 0) :: (17, .baload, 0, 0, 0, 0) :: (18, .aload_n 1, 0, 0, 0, 0) ::
  (19, .iload_n 2, 0, 0, 0, 0) :: (20, .baload, 0, 0, 0, 0) :: (21, .if_icmp .eq 5, 26, 0, 0, 0) :: (24, .iconst 0, 0, 0, 0, 0) :: (25, .ireturn, 0, 0, 0, 0) :: bl_J1_equals_b5fdf_26
def bl_J1_equals_b5fdf_0 : List ax_R := (0, .aload_n 0, 0, 0, 0, 0) :: (1, .arraylength, 0, 0, 0, 0) :: (2, .aload_n 1, 0, 0, 0, 0) :: (3, .arraylength, 0, 0, 0, 0) :: (4, .if_icmp .ne 30, 34, 0, 0, 0) :: (7, .iconst 0, 0, 0, 0, 0) :: (8, .istore_n 2, 0, 0, 0, 0) :: bl_J1_equals_b5fdf_9
def pr_J1_equals_b5fdf : List ax_R := bl_J1_equals_b5fdf_0
def pt_J1_equals_b5fdf : ax_T := ((⟨"java/lang/StringLatin1", "equals", "([B[B)Z"⟩, prog_25_method_13_code, 3, (some .boolean)), 588, 106, 587, 0)
def bl_J2_compress_dfd3c_57 : List ax_R := (57, .aload_n 3, 0, 0, 0, 0) :: (58, .areturn, 0, 0, 0, 0) :: []
def bl_J2_compress_dfd3c_54 : List ax_R := (54, .aload 5, 0, 0, 0, 0) :: (56, .areturn, 0, 0, 0, 0) :: bl_J2_compress_dfd3c_57
def bl_J2_compress_dfd3c_0 : List ax_R := (0, .iload_n 2, 0, 0, 0, 0) :: (1, .newarray .byte, 102, 0, 0, 231) :: (3, .astore_n 3, 0, 0, 0, 0) :: (4, .aload_n 0, 0, 0, 0, 0) :: (5, .iload_n 1, 0, 0, 0, 0) :: (6, .aload_n 3, 0, 0, 0, 0) :: (7, .iconst 0, 0, 0, 0, 0) :: (8, .iload_n 2, 0, 0, 0, 0) ::
  (9, .invokestatic 115, 186, 5, 0, 704) :: (12, .istore 4, 0, 0, 0, 0) :: (14, .iload 4, 0, 0, 0, 0) :: (16, .iload_n 2, 0, 0, 0, 0) :: (17, .if_icmp .eq 40, 57, 0, 0, 0) :: (20, .aload_n 0, 0, 0, 0, 0) :: (21, .iload_n 1, 0, 0, 0, 0) :: (22, .iload_n 2, 0, 0, 0, 0) ::
  (23, .invokestatic 119, 0, 0, 99, 0) :: (26, .astore 5, 0, 0, 0, 0) :: (28, .aload 5, 0, 0, 0, 0) :: (30, .iload 4, 0, 0, 0, 0) :: (32, .invokestatic 71, 0, 0, 99, 0) :: (35, .sipush 255, 0, 0, 0, 0) :: (38, .if_icmp .gt 16, 54, 0, 0, 0) :: (41, .aload 5, 0, 0, 0, 0) ::
  (43, .iconst 0, 0, 0, 0, 0) :: (44, .aload_n 3, 0, 0, 0, 0) :: (45, .iconst 0, 0, 0, 0, 0) :: (46, .iload_n 2, 0, 0, 0, 0) :: (47, .invokestatic 123, 0, 0, 99, 0) :: (50, .iload_n 2, 0, 0, 0, 0) :: (51, .if_icmp .eq 6, 57, 0, 0, 0) :: bl_J2_compress_dfd3c_54
def pr_J2_compress_dfd3c : List ax_R := bl_J2_compress_dfd3c_0
def pt_J2_compress_dfd3c : ax_T := ((⟨"java/lang/StringUTF16", "compress", "([CII)[B"⟩, prog_26_method_16_code, 6, (some (.array .byte))), 703, 101, 702, 0)
def bl_J2_compress_fe38e_44 : List ax_R := (44, .iload 4, 0, 0, 0, 0) :: (46, .ireturn, 0, 0, 0, 0) :: []
def bl_J2_compress_fe38e_26 : List ax_R := (26, .aload_n 2, 0, 0, 0, 0) :: (27, .iload_n 3, 0, 0, 0, 0) :: (28, .iload 6, 0, 0, 0, 0) :: (30, .i2b, 0, 0, 0, 0) :: (31, .bastore, 0, 0, 0, 0) :: (32, .iinc 1 1, 0, 0, 0, 0) :: (35, .iinc 3 1, 0, 0, 0, 0) :: (38, .iinc 5 1, 0, 0, 0, 0) ::
  (41, .goto (-38), 3, 0, 0, 0) :: bl_J2_compress_fe38e_44
def bl_J2_compress_fe38e_3 : List ax_R := (3, .iload 5, 0, 0, 0, 0) :: (5, .iload 4, 0, 0, 0, 0) :: (7, .if_icmp .ge 37, 44, 0, 0, 0) :: (10, .aload_n 0, 0, 0, 0, 0) :: (11, .iload_n 1, 0, 0, 0, 0) :: (12, .caload, 0, 0, 0, 0) :: (13, .istore 6, 0, 0, 0, 0) :: (15, .iload 6, 0, 0, 0, 0) ::
  (17, .sipush 255, 0, 0, 0, 0) :: (20, .if_icmp .le 6, 26, 0, 0, 0) :: (23, .iload 5, 0, 0, 0, 0) :: (25, .ireturn, 0, 0, 0, 0) :: bl_J2_compress_fe38e_26
def bl_J2_compress_fe38e_0 : List ax_R := (0, .iconst 0, 0, 0, 0, 0) :: (1, .istore 5, 0, 0, 0, 0) :: bl_J2_compress_fe38e_3
def pr_J2_compress_fe38e : List ax_R := bl_J2_compress_fe38e_0
def pt_J2_compress_fe38e : ax_T := ((⟨"java/lang/StringUTF16", "compress", "([CI[BII)I"⟩, prog_26_method_21_code, 7, (some .int)), 706, 101, 705, 0)
def bl_J3_checkIndex_8e157_16 : List ax_R := (16, .iload_n 0, 0, 0, 0, 0) :: (17, .ireturn, 0, 0, 0, 0) :: []
def bl_J3_checkIndex_8e157_9 : List ax_R := (9, .aload_n 2, 0, 0, 0, 0) :: (10, .iload_n 0, 0, 0, 0, 0) :: (11, .iload_n 1, 0, 0, 0, 0) :: (12, .invokestatic 95, 0, 0, 99, 0) :: (15, .athrow, 0, 0, 0, 0) :: bl_J3_checkIndex_8e157_16
def bl_J3_checkIndex_8e157_0 : List ax_R := (0, .iload_n 0, 0, 0, 0, 0) :: (1, .ifCond .lt 8, 9, 0, 0, 0) :: (4, .iload_n 0, 0, 0, 0, 0) :: (5, .iload_n 1, 0, 0, 0, 0) :: (6, .if_icmp .lt 10, 16, 0, 0, 0) :: bl_J3_checkIndex_8e157_9
def pr_J3_checkIndex_8e157 : List ax_R := bl_J3_checkIndex_8e157_0
def pt_J3_checkIndex_8e157 : ax_T := ((⟨"jdk/internal/util/Preconditions", "checkIndex", "(IILjava/util/function/BiFunction;)I"⟩, prog_32_method_11_code, 3, (some .int)), 828, 107, 827, 0)
def bl_J4_init_da8c8_0 : List ax_R := (0, .aload_n 0, 0, 0, 0, 0) :: (1, .bipush 16, 0, 0, 0, 0) :: (3, .invokespecial 1, 189, 2, 0, 1015) :: (6, .return_, 0, 0, 0, 0) :: []
def pr_J4_init_da8c8 : List ax_R := bl_J4_init_da8c8_0
def pt_J4_init_da8c8 : ax_T := ((⟨"java/lang/StringBuilder", "<init>", "()V"⟩, prog_24_method_1_code, 1, none), 1014, 100, 1013, 0)
def bl_J5_init_d00df_38 : List ax_R := (38, .return_, 0, 0, 0, 0) :: []
def bl_J5_init_d00df_25 : List ax_R := (25, .aload_n 0, 0, 0, 0, 0) :: (26, .iload_n 1, 0, 0, 0, 0) :: (27, .invokestatic 26, 0, 0, 99, 0) :: (30, .putfield 15, 1, 0, 1, 1021) :: (33, .aload_n 0, 0, 0, 0, 0) :: (34, .iconst 1, 0, 0, 0, 0) :: (35, .putfield 22, 1, 1, 0, 1022) :: bl_J5_init_d00df_38
def bl_J5_init_d00df_0 : List ax_R := (0, .aload_n 0, 0, 0, 0, 0) :: (1, .invokespecial 3, 0, 0, 5, 1018) :: (4, .getstatic 18, 1, 0, 0, 1019) :: (7, .ifCond .eq 18, 25, 0, 0, 0) :: (10, .aload_n 0, 0, 0, 0, 0) :: (11, .iload_n 1, 0, 0, 0, 0) :: (12, .newarray .byte, 102, 0, 0, 231) :: (14, .putfield 15, 1, 0, 1, 1021) ::
  (17, .aload_n 0, 0, 0, 0, 0) :: (18, .iconst 0, 0, 0, 0, 0) :: (19, .putfield 22, 1, 1, 0, 1022) :: (22, .goto 16, 38, 0, 0, 0) :: bl_J5_init_d00df_25
def pr_J5_init_d00df : List ax_R := bl_J5_init_d00df_0
def pt_J5_init_d00df : ax_T := ((⟨"java/lang/AbstractStringBuilder", "<init>", "(I)V"⟩, prog_15_method_2_code, 2, none), 1017, 99, 1016, 0)
def bl_J4_append_cf468_0 : List ax_R := (0, .aload_n 0, 0, 0, 0, 0) :: (1, .iload_n 1, 0, 0, 0, 0) :: (2, .invokespecial 50, 191, 2, 11, 1038) :: (5, .pop, 0, 0, 0, 0) :: (6, .aload_n 0, 0, 0, 0, 0) :: (7, .areturn, 0, 0, 0, 0) :: []
def pr_J4_append_cf468 : List ax_R := bl_J4_append_cf468_0
def pt_J4_append_cf468 : ax_T := ((⟨"java/lang/StringBuilder", "append", "(C)Ljava/lang/StringBuilder;"⟩, prog_24_method_14_code, 2, (some (.object "java/lang/StringBuilder"))), 1037, 100, 1035, 1036)
def bl_J5_append_3fe6f_75 : List ax_R := (75, .aload_n 0, 0, 0, 0, 0) :: (76, .areturn, 0, 0, 0, 0) :: []
def bl_J5_append_3fe6f_56 : List ax_R := (56, .aload_n 0, 0, 0, 0, 0) :: (57, .getfield 15, 1, 0, 1, 1021) :: (60, .aload_n 0, 0, 0, 0, 0) :: (61, .dup, 0, 0, 0, 0) :: (62, .getfield 79, 1, 3, 0, 1024) :: (65, .dup_x1, 0, 0, 0, 0) :: (66, .iconst 1, 0, 0, 0, 0) :: (67, .iadd, 0, 0, 0, 0) ::
  (68, .putfield 79, 1, 3, 0, 1024) :: (71, .iload_n 1, 0, 0, 0, 0) :: (72, .invokestatic 197, 0, 0, 99, 0) :: bl_J5_append_3fe6f_75
def bl_J5_append_3fe6f_45 : List ax_R := (45, .aload_n 0, 0, 0, 0, 0) :: (46, .invokevirtual 83, 193, 1, 1, 1070) :: (49, .ifCond .eq 7, 56, 0, 0, 0) :: (52, .aload_n 0, 0, 0, 0, 0) :: (53, .invokevirtual 195, 0, 0, 99, 0) :: bl_J5_append_3fe6f_56
def bl_J5_append_3fe6f_0 : List ax_R := (0, .aload_n 0, 0, 0, 0, 0) :: (1, .aload_n 0, 0, 0, 0, 0) :: (2, .getfield 79, 1, 3, 0, 1024) :: (5, .iconst 1, 0, 0, 0, 0) :: (6, .iadd, 0, 0, 0, 0) :: (7, .invokevirtual 100, 192, 2, 1, 1041) :: (10, .aload_n 0, 0, 0, 0, 0) :: (11, .invokevirtual 83, 193, 1, 1, 1070) ::
  (14, .ifCond .eq 31, 45, 0, 0, 0) :: (17, .iload_n 1, 0, 0, 0, 0) :: (18, .invokestatic 191, 194, 1, 0, 1075) :: (21, .ifCond .eq 24, 45, 0, 0, 0) :: (24, .aload_n 0, 0, 0, 0, 0) :: (25, .getfield 15, 1, 0, 1, 1021) :: (28, .aload_n 0, 0, 0, 0, 0) :: (29, .dup, 0, 0, 0, 0) ::
  (30, .getfield 79, 1, 3, 0, 1024) :: (33, .dup_x1, 0, 0, 0, 0) :: (34, .iconst 1, 0, 0, 0, 0) :: (35, .iadd, 0, 0, 0, 0) :: (36, .putfield 79, 1, 3, 0, 1024) :: (39, .iload_n 1, 0, 0, 0, 0) :: (40, .i2b, 0, 0, 0, 0) :: (41, .bastore, 0, 0, 0, 0) ::
  (42, .goto 33, 75, 0, 0, 0) :: bl_J5_append_3fe6f_45
def pr_J5_append_3fe6f : List ax_R := bl_J5_append_3fe6f_0
def pt_J5_append_3fe6f : ax_T := ((⟨"java/lang/AbstractStringBuilder", "append", "(C)Ljava/lang/AbstractStringBuilder;"⟩, prog_15_method_31_code, 2, (some (.object "java/lang/AbstractStringBuilder"))), 1040, 99, 1039, 1719)
def bl_J5_ensureCapacityInternal_d00df_38 : List ax_R := (38, .return_, 0, 0, 0, 0) :: []
def bl_J5_ensureCapacityInternal_d00df_0 : List ax_R := (0, .aload_n 0, 0, 0, 0, 0) :: (1, .getfield 15, 1, 0, 1, 1021) :: (4, .arraylength, 0, 0, 0, 0) :: (5, .aload_n 0, 0, 0, 0, 0) :: (6, .getfield 22, 1, 1, 0, 1022) :: (9, .ishr, 0, 0, 0, 0) :: (10, .istore_n 2, 0, 0, 0, 0) :: (11, .iload_n 1, 0, 0, 0, 0) ::
  (12, .iload_n 2, 0, 0, 0, 0) :: (13, .isub, 0, 0, 0, 0) :: (14, .ifCond .le 24, 38, 0, 0, 0) :: (17, .aload_n 0, 0, 0, 0, 0) :: (18, .aload_n 0, 0, 0, 0, 0) :: (19, .getfield 15, 1, 0, 1, 1021) :: (22, .aload_n 0, 0, 0, 0, 0) :: (23, .iload_n 1, 0, 0, 0, 0) ::
  (24, .invokevirtual 104, 0, 0, 99, 0) :: (27, .aload_n 0, 0, 0, 0, 0) :: (28, .getfield 22, 1, 1, 0, 1022) :: (31, .ishl, 0, 0, 0, 0) :: (32, .invokestatic 108, 0, 0, 99, 0) :: (35, .putfield 15, 1, 0, 1, 1021) :: bl_J5_ensureCapacityInternal_d00df_38
def pr_J5_ensureCapacityInternal_d00df : List ax_R := bl_J5_ensureCapacityInternal_d00df_0
def pt_J5_ensureCapacityInternal_d00df : ax_T := ((⟨"java/lang/AbstractStringBuilder", "ensureCapacityInternal", "(I)V"⟩, prog_15_method_9_code, 3, none), 1044, 99, 1043, 9999)
def bl_J5_isLatin1_aae02_18 : List ax_R := (18, .ireturn, 0, 0, 0, 0) :: []
def bl_J5_isLatin1_aae02_17 : List ax_R := (17, .iconst 0, 0, 0, 0, 0) :: bl_J5_isLatin1_aae02_18
def bl_J5_isLatin1_aae02_0 : List ax_R := (0, .getstatic 18, 1, 0, 0, 1019) :: (3, .ifCond .eq 14, 17, 0, 0, 0) :: (6, .aload_n 0, 0, 0, 0, 0) :: (7, .getfield 22, 1, 1, 0, 1022) :: (10, .ifCond .ne 7, 17, 0, 0, 0) :: (13, .iconst 1, 0, 0, 0, 0) :: (14, .goto 4, 18, 0, 0, 0) :: bl_J5_isLatin1_aae02_17
def pr_J5_isLatin1_aae02 : List ax_R := bl_J5_isLatin1_aae02_0
def pt_J5_isLatin1_aae02 : ax_T := ((⟨"java/lang/AbstractStringBuilder", "isLatin1", "()Z"⟩, prog_15_method_68_code, 1, (some .boolean)), 1074, 99, 1071, 1073)
def bl_J1_canEncode_fc78d_12 : List ax_R := (12, .ireturn, 0, 0, 0, 0) :: []
def bl_J1_canEncode_fc78d_11 : List ax_R := (11, .iconst 0, 0, 0, 0, 0) :: bl_J1_canEncode_fc78d_12
def bl_J1_canEncode_fc78d_0 : List ax_R := (0, .iload_n 0, 0, 0, 0, 0) :: (1, .sipush 255, 0, 0, 0, 0) :: (4, .if_icmp .gt 7, 11, 0, 0, 0) :: (7, .iconst 1, 0, 0, 0, 0) :: (8, .goto 4, 12, 0, 0, 0) :: bl_J1_canEncode_fc78d_11
def pr_J1_canEncode_fc78d : List ax_R := bl_J1_canEncode_fc78d_0
def pt_J1_canEncode_fc78d : ax_T := ((⟨"java/lang/StringLatin1", "canEncode", "(C)Z"⟩, prog_25_method_3_code, 1, (some .boolean)), 1077, 106, 1076, 0)
def bl_J4_toString_0e30d_0 : List ax_R := (0, .new 18, 0, 4, 0, 1098) :: (3, .dup, 0, 0, 0, 0) :: (4, .aload_n 0, 0, 0, 0, 0) :: (5, .invokespecial 137, 196, 2, 0, 1099) :: (8, .areturn, 0, 0, 0, 0) :: []
def pr_J4_toString_0e30d : List ax_R := bl_J4_toString_0e30d_0
def pt_J4_toString_0e30d : ax_T := ((⟨"java/lang/StringBuilder", "toString", "()Ljava/lang/String;"⟩, prog_24_method_42_code, 1, (some (.object "java/lang/String"))), 1097, 100, 1095, 1096)
def bl_J0_init_81219_0 : List ax_R := (0, .aload_n 0, 0, 0, 0, 0) :: (1, .aload_n 1, 0, 0, 0, 0) :: (2, .aconst_null, 0, 0, 0, 0) :: (3, .invokespecial 489, 197, 3, 0, 1102) :: (6, .return_, 0, 0, 0, 0) :: []
def pr_J0_init_81219 : List ax_R := bl_J0_init_81219_0
def pt_J0_init_81219 : ax_T := ((⟨"java/lang/String", "<init>", "(Ljava/lang/StringBuilder;)V"⟩, prog_23_method_53_code, 2, none), 1101, 90, 1100, 0)
def bl_J0_init_db425_97 : List ax_R := (97, .return_, 0, 0, 0, 0) :: []
def bl_J0_init_db425_79 : List ax_R := (79, .aload_n 0, 0, 0, 0, 0) :: (80, .iconst 1, 0, 0, 0, 0) :: (81, .putfield 15, 0, 1, 0, 751) :: (84, .aload_n 0, 0, 0, 0, 0) :: (85, .aload_n 3, 0, 0, 0, 0) :: (86, .iconst 0, 0, 0, 0, 0) :: (87, .iload 4, 0, 0, 0, 0) :: (89, .iconst 1, 0, 0, 0, 0) ::
  (90, .ishl, 0, 0, 0, 0) :: (91, .invokestatic 54, 201, 3, 0, 1119) :: (94, .putfield 9, 0, 0, 1, 750) :: bl_J0_init_db425_97
def bl_J0_init_db425_41 : List ax_R := (41, .getstatic 38, 1, 0, 0, 213) :: (44, .ifCond .eq 35, 79, 0, 0, 0) :: (47, .aload_n 1, 0, 0, 0, 0) :: (48, .getfield 1048, 1, 2, 0, 1023) :: (51, .ifCond .eq 28, 79, 0, 0, 0) :: (54, .aload_n 0, 0, 0, 0, 0) :: (55, .aload_n 3, 0, 0, 0, 0) :: (56, .iconst 0, 0, 0, 0, 0) ::
  (57, .iload 4, 0, 0, 0, 0) :: (59, .invokestatic 1051, 0, 0, 99, 0) :: (62, .putfield 9, 0, 0, 1, 750) :: (65, .aload_n 0, 0, 0, 0, 0) :: (66, .aload_n 0, 0, 0, 0, 0) :: (67, .getfield 9, 0, 0, 1, 750) :: (70, .iload 4, 0, 0, 0, 0) :: (72, .invokestatic 47, 204, 2, 0, 746) ::
  (75, .putfield 15, 0, 1, 0, 751) :: (78, .return_, 0, 0, 0, 0) :: bl_J0_init_db425_79
def bl_J0_init_db425_0 : List ax_R := (0, .aload_n 0, 0, 0, 0, 0) :: (1, .invokespecial 1, 0, 0, 5, 699) :: (4, .aload_n 1, 0, 0, 0, 0) :: (5, .invokevirtual 552, 198, 1, 1, 1105) :: (8, .astore_n 3, 0, 0, 0, 0) :: (9, .aload_n 1, 0, 0, 0, 0) :: (10, .invokevirtual 549, 199, 1, 1, 6110) :: (13, .istore 4, 0, 0, 0, 0) ::
  (15, .aload_n 1, 0, 0, 0, 0) :: (16, .invokevirtual 1047, 193, 1, 1, 1118) :: (19, .ifCond .eq 22, 41, 0, 0, 0) :: (22, .aload_n 0, 0, 0, 0, 0) :: (23, .iconst 0, 0, 0, 0, 0) :: (24, .putfield 15, 0, 1, 0, 751) :: (27, .aload_n 0, 0, 0, 0, 0) :: (28, .aload_n 3, 0, 0, 0, 0) ::
  (29, .iconst 0, 0, 0, 0, 0) :: (30, .iload 4, 0, 0, 0, 0) :: (32, .invokestatic 54, 201, 3, 0, 1119) :: (35, .putfield 9, 0, 0, 1, 750) :: (38, .goto 59, 97, 0, 0, 0) :: bl_J0_init_db425_41
def pr_J0_init_db425 : List ax_R := bl_J0_init_db425_0
def pt_J0_init_db425 : ax_T := ((⟨"java/lang/String", "<init>", "(Ljava/lang/AbstractStringBuilder;Ljava/lang/Void;)V"⟩, prog_23_method_150_code, 5, none), 1104, 90, 1103, 0)
def bl_J5_getValue_6d5f1_0 : List ax_R := (0, .aload_n 0, 0, 0, 0, 0) :: (1, .getfield 15, 1, 0, 1, 1021) :: (4, .areturn, 0, 0, 0, 0) :: []
def pr_J5_getValue_6d5f1 : List ax_R := bl_J5_getValue_6d5f1_0
def pt_J5_getValue_6d5f1 : ax_T := ((⟨"java/lang/AbstractStringBuilder", "getValue", "()[B"⟩, prog_15_method_64_code, 1, (some (.array .byte))), 1109, 99, 1106, 1108)
def bl_J4_length_8abf5_0 : List ax_R := (0, .aload_n 0, 0, 0, 0, 0) :: (1, .invokespecial 343, 200, 1, 11, 1116) :: (4, .ireturn, 0, 0, 0, 0) :: []
def pr_J4_length_8abf5 : List ax_R := bl_J4_length_8abf5_0
def pt_J4_length_8abf5 : ax_T := ((⟨"java/lang/StringBuilder", "length", "()I"⟩, prog_24_method_93_code, 1, (some .int)), 1115, 100, 1114, 0)
def bl_J5_length_8abf5_0 : List ax_R := (0, .aload_n 0, 0, 0, 0, 0) :: (1, .getfield 79, 1, 3, 0, 1024) :: (4, .ireturn, 0, 0, 0, 0) :: []
def pr_J5_length_8abf5 : List ax_R := bl_J5_length_8abf5_0
def pt_J5_length_8abf5 : ax_T := ((⟨"java/lang/AbstractStringBuilder", "length", "()I"⟩, prog_15_method_6_code, 1, (some .int)), 1117, 99, 1111, 1112)
def bl_J7_copyOfRange_39247_17 : List ax_R := (17, .aload_n 0, 0, 0, 0, 0) :: (18, .invokevirtual 310, 0, 0, 99, 0) :: (21, .checkcast 311, 0, 0, 99, 0) :: (24, .areturn, 0, 0, 0, 0) :: []
def bl_J7_copyOfRange_39247_10 : List ax_R := (10, .aload_n 0, 0, 0, 0, 0) :: (11, .iload_n 1, 0, 0, 0, 0) :: (12, .iload_n 2, 0, 0, 0, 0) :: (13, .invokestatic 339, 202, 3, 0, 1122) :: (16, .areturn, 0, 0, 0, 0) :: bl_J7_copyOfRange_39247_17
def bl_J7_copyOfRange_39247_0 : List ax_R := (0, .iload_n 1, 0, 0, 0, 0) :: (1, .ifCond .ne 9, 10, 0, 0, 0) :: (4, .iload_n 2, 0, 0, 0, 0) :: (5, .aload_n 0, 0, 0, 0, 0) :: (6, .arraylength, 0, 0, 0, 0) :: (7, .if_icmp .eq 10, 17, 0, 0, 0) :: bl_J7_copyOfRange_39247_10
def pr_J7_copyOfRange_39247 : List ax_R := bl_J7_copyOfRange_39247_0
def pt_J7_copyOfRange_39247 : ax_T := ((⟨"java/util/Arrays", "copyOfRange", "([BII)[B"⟩, prog_29_method_132_code, 3, (some (.array .byte))), 1121, 104, 1120, 0)
def bl_J7_copyOfRangeByte_39247_0 : List ax_R := (0, .iload_n 1, 0, 0, 0, 0) :: (1, .iload_n 2, 0, 0, 0, 0) :: (2, .invokestatic 343, 203, 2, 0, 1125) :: (5, .iload_n 2, 0, 0, 0, 0) :: (6, .iload_n 1, 0, 0, 0, 0) :: (7, .isub, 0, 0, 0, 0) :: (8, .istore_n 3, 0, 0, 0, 0) :: (9, .iload_n 3, 0, 0, 0, 0) ::
  (10, .newarray .byte, 102, 0, 0, 231) :: (12, .astore 4, 0, 0, 0, 0) :: (14, .aload_n 0, 0, 0, 0, 0) :: (15, .iload_n 1, 0, 0, 0, 0) :: (16, .aload 4, 0, 0, 0, 0) :: (18, .iconst 0, 0, 0, 0, 0) :: (19, .aload_n 0, 0, 0, 0, 0) :: (20, .arraylength, 0, 0, 0, 0) ::
  (21, .iload_n 1, 0, 0, 0, 0) :: (22, .isub, 0, 0, 0, 0) :: (23, .iload_n 3, 0, 0, 0, 0) :: (24, .invokestatic 304, 0, 0, 7, 1068) :: (27, .invokestatic 150, 0, 0, 8, 1069) :: (30, .aload 4, 0, 0, 0, 0) :: (32, .areturn, 0, 0, 0, 0) :: []
def pr_J7_copyOfRangeByte_39247 : List ax_R := bl_J7_copyOfRangeByte_39247_0
def pt_J7_copyOfRangeByte_39247 : ax_T := ((⟨"java/util/Arrays", "copyOfRangeByte", "([BII)[B"⟩, prog_29_method_133_code, 5, (some (.array .byte))), 1124, 104, 1123, 0)
def bl_J7_checkLength_df160_37 : List ax_R := (37, .return_, 0, 0, 0, 0) :: []
def bl_J7_checkLength_df160_0 : List ax_R := (0, .iload_n 1, 0, 0, 0, 0) :: (1, .iload_n 0, 0, 0, 0, 0) :: (2, .if_icmp .ge 35, 37, 0, 0, 0) :: (5, .new 43, 0, 0, 9, 1128) :: (8, .dup, 0, 0, 0, 0) :: (9, .new 45, 1, 4, 0, 1129) :: (12, .dup, 0, 0, 0, 0) :: (13, .invokespecial 47, 188, 1, 0, 1130) ::
  (16, .iload_n 0, 0, 0, 0, 0) :: (17, .invokevirtual 54, 0, 0, 99, 0) :: (20, .ldc_w 337, 0, 0, 99, 0) :: (23, .invokevirtual 50, 0, 0, 99, 0) :: (26, .iload_n 1, 0, 0, 0, 0) :: (27, .invokevirtual 54, 0, 0, 99, 0) :: (30, .invokevirtual 61, 195, 1, 1, 1196) :: (33, .invokespecial 65, 0, 0, 99, 0) ::
  (36, .athrow, 0, 0, 0, 0) :: bl_J7_checkLength_df160_37
def pr_J7_checkLength_df160 : List ax_R := bl_J7_checkLength_df160_0
def pt_J7_checkLength_df160 : ax_T := ((⟨"java/util/Arrays", "checkLength", "(II)V"⟩, prog_29_method_131_code, 2, none), 1127, 104, 1126, 0)
def bl_J2_coderFromArrayLen_85cad_0 : List ax_R := (0, .iload_n 1, 0, 0, 0, 0) :: (1, .aload_n 0, 0, 0, 0, 0) :: (2, .arraylength, 0, 0, 0, 0) :: (3, .isub, 0, 0, 0, 0) :: (4, .bipush 31, 0, 0, 0, 0) :: (6, .iushr, 0, 0, 0, 0) :: (7, .i2b, 0, 0, 0, 0) :: (8, .ireturn, 0, 0, 0, 0) :: []
def pr_J2_coderFromArrayLen_85cad : List ax_R := bl_J2_coderFromArrayLen_85cad_0
def pt_J2_coderFromArrayLen_85cad : ax_T := ((⟨"java/lang/StringUTF16", "coderFromArrayLen", "([BI)B"⟩, prog_26_method_15_code, 2, (some .byte)), 748, 101, 747, 0)
def ax_P : Nat → Option (ax_T × List ax_R) := fun j => ([(pt_X0_init, pr_X0_init), (pt_X0_clear, pr_X0_clear), (pt_X0_start, pr_X0_start), (pt_X0_add, pr_X0_add), (pt_X0_field, pr_X0_field), (pt_X0_read, pr_X0_read), (pt_X0_readNext, pr_X0_readNext), (pt_X0_readSize, pr_X0_readSize), (pt_X0_readField, pr_X0_readField), (pt_X0_keep, pr_X0_keep), (pt_X0_readText, pr_X0_readText), (pt_X1_init, pr_X1_init), (pt_X1_begin, pr_X1_begin), (pt_X1_receive, pr_X1_receive), (pt_X1_receivePreface, pr_X1_receivePreface), (pt_X1_lookAtFrame, pr_X1_lookAtFrame), (pt_X1_isOutOfOrder, pr_X1_isOutOfOrder), (pt_X1_lookAtData, pr_X1_lookAtData), (pt_X1_lookAtHeaders, pr_X1_lookAtHeaders), (pt_X1_addToBlock, pr_X1_addToBlock), (pt_X1_endBlock, pr_X1_endBlock), (pt_X1_openStream, pr_X1_openStream), (pt_X1_endOpenStream, pr_X1_endOpenStream), (pt_X1_closeClientSide, pr_X1_closeClientSide), (pt_X1_answer, pr_X1_answer), (pt_X1_lookAtReset, pr_X1_lookAtReset), (pt_X1_lookAtSettings, pr_X1_lookAtSettings), (pt_X1_takeSettings, pr_X1_takeSettings), (pt_X1_lookAtPing, pr_X1_lookAtPing), (pt_X1_demandConnectionFrame, pr_X1_demandConnectionFrame), (pt_X1_lookAtWindow, pr_X1_lookAtWindow), (pt_X1_widenConnection, pr_X1_widenConnection), (pt_X1_widenStream, pr_X1_widenStream), (pt_X1_sendBodies, pr_X1_sendBodies), (pt_X1_sendData, pr_X1_sendData), (pt_X1_sendWindow, pr_X1_sendWindow), (pt_X1_sendReset, pr_X1_sendReset), (pt_X1_sendAway, pr_X1_sendAway), (pt_X2_init, pr_X2_init), (pt_X2_beginsWithColon, pr_X2_beginsWithColon), (pt_X2_isNamedByLetters, pr_X2_isNamedByLetters), (pt_X2_numberValue, pr_X2_numberValue), (pt_X3_init, pr_X3_init), (pt_X3_clear, pr_X3_clear), (pt_X3_add, pr_X3_add), (pt_X3_isTooLong, pr_X3_isTooLong), (pt_X3_isWhole, pr_X3_isWhole), (pt_X3_length, pr_X3_length), (pt_X3_type, pr_X3_type), (pt_X3_has, pr_X3_has), (pt_X3_streamNumber, pr_X3_streamNumber), (pt_X3_byteAt, pr_X3_byteAt), (pt_X3_twoByteNumber, pr_X3_twoByteNumber), (pt_X3_isPadded, pr_X3_isPadded), (pt_X3_hasRoomForPadding, pr_X3_hasRoomForPadding), (pt_X3_contentStart, pr_X3_contentStart), (pt_X3_contentLength, pr_X3_contentLength), (pt_X4_init, pr_X4_init), (pt_X4_clear, pr_X4_clear), (pt_X4_find, pr_X4_find), (pt_X4_findName, pr_X4_findName), (pt_X4_changeSize, pr_X4_changeSize), (pt_X4_insert, pr_X4_insert), (pt_X4_dropOldest, pr_X4_dropOldest), (pt_X5_init, pr_X5_init), (pt_X5_clear, pr_X5_clear), (pt_X5_count, pr_X5_count), (pt_X5_byteAt, pr_X5_byteAt), (pt_X5_add, pr_X5_add), (pt_X5_addHead, pr_X5_addHead), (pt_X5_drop, pr_X5_drop), (pt_X6_init, pr_X6_init), (pt_X7_init, pr_X7_init), (pt_X7_readFrom, pr_X7_readFrom), (pt_X7_acceptsColon, pr_X7_acceptsColon), (pt_X7_acceptsOther, pr_X7_acceptsOther), (pt_X8_init, pr_X8_init), (pt_X8_isPath, pr_X8_isPath), (pt_X8_countLetters, pr_X8_countLetters), (pt_X8_pathText, pr_X8_pathText), (pt_X8_appendLetters, pr_X8_appendLetters), (pt_X8_find, pr_X8_find), (pt_X8_isFull, pr_X8_isFull), (pt_X8_add, pr_X8_add), (pt_X9_init, pr_X9_init), (pt_X9_open, pr_X9_open), (pt_X9_canSend, pr_X9_canSend), (pt_X9_hasWrongLength, pr_X9_hasWrongLength), (pt_X10_init, pr_X10_init), (pt_X10_clear, pr_X10_clear), (pt_X10_isIdle, pr_X10_isIdle), (pt_X10_find, pr_X10_find), (pt_X10_countOpen, pr_X10_countOpen), (pt_X10_open, pr_X10_open), (pt_X10_close, pr_X10_close), (pt_X10_isFull, pr_X10_isFull), (pt_X10_changeFirstWindow, pr_X10_changeFirstWindow), (pt_X10_nextToSend, pr_X10_nextToSend), (pt_X10_leastToSend, pr_X10_leastToSend), (pt_X11_init, pr_X11_init), (pt_X11_page, pr_X11_page), (pt_X11_feed, pr_X11_feed), (pt_X11_restart, pr_X11_restart), (pt_X11_waiting, pr_X11_waiting), (pt_X11_out, pr_X11_out), (pt_X11_take, pr_X11_take), (pt_X11_away, pr_X11_away), (pt_X11_about, pr_X11_about), (pt_X11_stream, pr_X11_stream), (pt_X11_entry, pr_X11_entry), (pt_X12_init, pr_X12_init), (pt_X12_fixed, pr_X12_fixed), (pt_X12_thrown, pr_X12_thrown), (pt_X12_refuse, pr_X12_refuse), (pt_X12_outside, pr_X12_outside), (pt_X12_begin, pr_X12_begin), (pt_X12_byteOf, pr_X12_byteOf), (pt_X12_isLetter, pr_X12_isLetter), (pt_X12_isText, pr_X12_isText), (pt_X12_letters, pr_X12_letters), (pt_X12_pageOf, pr_X12_pageOf), (pt_X12_lay, pr_X12_lay), (pt_X12_page, pr_X12_page), (pt_X12_say, pr_X12_say), (pt_X12_head, pr_X12_head), (pt_X12_credit, pr_X12_credit), (pt_X12_slotOf, pr_X12_slotOf), (pt_X12_open, pr_X12_open), (pt_X12_end, pr_X12_end), (pt_X12_idle, pr_X12_idle), (pt_X12_has, pr_X12_has), (pt_X12_takes, pr_X12_takes), (pt_X12_taken, pr_X12_taken), (pt_X12_evict, pr_X12_evict), (pt_X12_copy, pr_X12_copy), (pt_X12_insert, pr_X12_insert), (pt_X12_next, pr_X12_next), (pt_X12_readString, pr_X12_readString), (pt_X12_readName, pr_X12_readName), (pt_X12_readField, pr_X12_readField), (pt_X12_isNamed, pr_X12_isNamed), (pt_X12_judge, pr_X12_judge), (pt_X12_isLength, pr_X12_isLength), (pt_X12_judgeLength, pr_X12_judgeLength), (pt_X12_methodOf, pr_X12_methodOf), (pt_X12_readBlock, pr_X12_readBlock), (pt_X12_unpad, pr_X12_unpad), (pt_X12_data, pr_X12_data), (pt_X12_close, pr_X12_close), (pt_X12_answer, pr_X12_answer), (pt_X12_headers, pr_X12_headers), (pt_X12_more, pr_X12_more), (pt_X12_request, pr_X12_request), (pt_X12_settings, pr_X12_settings), (pt_X12_ping, pr_X12_ping), (pt_X12_widen, pr_X12_widen), (pt_X12_drop, pr_X12_drop), (pt_X12_look, pr_X12_look), (pt_X12_goAway, pr_X12_goAway), (pt_X12_whole, pr_X12_whole), (pt_X12_turn, pr_X12_turn), (pt_X12_less, pr_X12_less), (pt_X12_pump, pr_X12_pump), (pt_X12_prefaceByte, pr_X12_prefaceByte), (pt_X12_take1, pr_X12_take1), (pt_X12_feed, pr_X12_feed), (pt_X12_restart, pr_X12_restart), (pt_X12_waiting, pr_X12_waiting), (pt_X12_out, pr_X12_out), (pt_X12_take, pr_X12_take), (pt_X12_away, pr_X12_away), (pt_X12_about, pr_X12_about), (pt_X12_stream, pr_X12_stream), (pt_X12_entry, pr_X12_entry), (pt_J0_init_905df, pr_J0_init_905df), (pt_J0_init_bb550, pr_J0_init_bb550), (pt_J0_length_8abf5, pr_J0_length_8abf5), (pt_J0_isEmpty_aae02, pr_J0_isEmpty_aae02), (pt_J0_charAt_5068e, pr_J0_charAt_5068e), (pt_J0_equals_9ea2d, pr_J0_equals_9ea2d), (pt_J0_coder_7d493, pr_J0_coder_7d493), (pt_J0_isLatin1_aae02, pr_J0_isLatin1_aae02), (pt_J0_checkIndex_df160, pr_J0_checkIndex_df160), (pt_J1_charAt_3b067, pr_J1_charAt_3b067), (pt_J1_equals_b5fdf, pr_J1_equals_b5fdf), (pt_J2_compress_dfd3c, pr_J2_compress_dfd3c), (pt_J2_compress_fe38e, pr_J2_compress_fe38e), (pt_J3_checkIndex_8e157, pr_J3_checkIndex_8e157), (pt_J4_init_da8c8, pr_J4_init_da8c8), (pt_J5_init_d00df, pr_J5_init_d00df), (pt_J4_append_cf468, pr_J4_append_cf468), (pt_J5_append_3fe6f, pr_J5_append_3fe6f), (pt_J5_ensureCapacityInternal_d00df, pr_J5_ensureCapacityInternal_d00df), (pt_J5_isLatin1_aae02, pr_J5_isLatin1_aae02), (pt_J1_canEncode_fc78d, pr_J1_canEncode_fc78d), (pt_J4_toString_0e30d, pr_J4_toString_0e30d), (pt_J0_init_81219, pr_J0_init_81219), (pt_J0_init_db425, pr_J0_init_db425), (pt_J5_getValue_6d5f1, pr_J5_getValue_6d5f1), (pt_J4_length_8abf5, pr_J4_length_8abf5), (pt_J5_length_8abf5, pr_J5_length_8abf5), (pt_J7_copyOfRange_39247, pr_J7_copyOfRange_39247), (pt_J7_copyOfRangeByte_39247, pr_J7_copyOfRangeByte_39247), (pt_J7_checkLength_df160, pr_J7_checkLength_df160), (pt_J2_coderFromArrayLen_85cad, pr_J2_coderFromArrayLen_85cad)] : List (ax_T × List ax_R))[j]?
def ax_mt : Nat → Option ax_T := fun j => ([pt_X0_init, pt_X0_clear, pt_X0_start, pt_X0_add, pt_X0_field, pt_X0_read, pt_X0_readNext, pt_X0_readSize, pt_X0_readField, pt_X0_keep, pt_X0_readText, pt_X1_init, pt_X1_begin, pt_X1_receive, pt_X1_receivePreface, pt_X1_lookAtFrame, pt_X1_isOutOfOrder, pt_X1_lookAtData, pt_X1_lookAtHeaders, pt_X1_addToBlock, pt_X1_endBlock, pt_X1_openStream, pt_X1_endOpenStream, pt_X1_closeClientSide, pt_X1_answer, pt_X1_lookAtReset, pt_X1_lookAtSettings, pt_X1_takeSettings, pt_X1_lookAtPing, pt_X1_demandConnectionFrame, pt_X1_lookAtWindow, pt_X1_widenConnection, pt_X1_widenStream, pt_X1_sendBodies, pt_X1_sendData, pt_X1_sendWindow, pt_X1_sendReset, pt_X1_sendAway, pt_X2_init, pt_X2_beginsWithColon, pt_X2_isNamedByLetters, pt_X2_numberValue, pt_X3_init, pt_X3_clear, pt_X3_add, pt_X3_isTooLong, pt_X3_isWhole, pt_X3_length, pt_X3_type, pt_X3_has, pt_X3_streamNumber, pt_X3_byteAt, pt_X3_twoByteNumber, pt_X3_isPadded, pt_X3_hasRoomForPadding, pt_X3_contentStart, pt_X3_contentLength, pt_X4_init, pt_X4_clear, pt_X4_find, pt_X4_findName, pt_X4_changeSize, pt_X4_insert, pt_X4_dropOldest, pt_X5_init, pt_X5_clear, pt_X5_count, pt_X5_byteAt, pt_X5_add, pt_X5_addHead, pt_X5_drop, pt_X6_init, pt_X7_init, pt_X7_readFrom, pt_X7_acceptsColon, pt_X7_acceptsOther, pt_X8_init, pt_X8_isPath, pt_X8_countLetters, pt_X8_pathText, pt_X8_appendLetters, pt_X8_find, pt_X8_isFull, pt_X8_add, pt_X9_init, pt_X9_open, pt_X9_canSend, pt_X9_hasWrongLength, pt_X10_init, pt_X10_clear, pt_X10_isIdle, pt_X10_find, pt_X10_countOpen, pt_X10_open, pt_X10_close, pt_X10_isFull, pt_X10_changeFirstWindow, pt_X10_nextToSend, pt_X10_leastToSend, pt_X11_init, pt_X11_page, pt_X11_feed, pt_X11_restart, pt_X11_waiting, pt_X11_out, pt_X11_take, pt_X11_away, pt_X11_about, pt_X11_stream, pt_X11_entry, pt_X12_init, pt_X12_fixed, pt_X12_thrown, pt_X12_refuse, pt_X12_outside, pt_X12_begin, pt_X12_byteOf, pt_X12_isLetter, pt_X12_isText, pt_X12_letters, pt_X12_pageOf, pt_X12_lay, pt_X12_page, pt_X12_say, pt_X12_head, pt_X12_credit, pt_X12_slotOf, pt_X12_open, pt_X12_end, pt_X12_idle, pt_X12_has, pt_X12_takes, pt_X12_taken, pt_X12_evict, pt_X12_copy, pt_X12_insert, pt_X12_next, pt_X12_readString, pt_X12_readName, pt_X12_readField, pt_X12_isNamed, pt_X12_judge, pt_X12_isLength, pt_X12_judgeLength, pt_X12_methodOf, pt_X12_readBlock, pt_X12_unpad, pt_X12_data, pt_X12_close, pt_X12_answer, pt_X12_headers, pt_X12_more, pt_X12_request, pt_X12_settings, pt_X12_ping, pt_X12_widen, pt_X12_drop, pt_X12_look, pt_X12_goAway, pt_X12_whole, pt_X12_turn, pt_X12_less, pt_X12_pump, pt_X12_prefaceByte, pt_X12_take1, pt_X12_feed, pt_X12_restart, pt_X12_waiting, pt_X12_out, pt_X12_take, pt_X12_away, pt_X12_about, pt_X12_stream, pt_X12_entry, pt_J0_init_905df, pt_J0_init_bb550, pt_J0_length_8abf5, pt_J0_isEmpty_aae02, pt_J0_charAt_5068e, pt_J0_equals_9ea2d, pt_J0_coder_7d493, pt_J0_isLatin1_aae02, pt_J0_checkIndex_df160, pt_J1_charAt_3b067, pt_J1_equals_b5fdf, pt_J2_compress_dfd3c, pt_J2_compress_fe38e, pt_J3_checkIndex_8e157, pt_J4_init_da8c8, pt_J5_init_d00df, pt_J4_append_cf468, pt_J5_append_3fe6f, pt_J5_ensureCapacityInternal_d00df, pt_J5_isLatin1_aae02, pt_J1_canEncode_fc78d, pt_J4_toString_0e30d, pt_J0_init_81219, pt_J0_init_db425, pt_J5_getValue_6d5f1, pt_J4_length_8abf5, pt_J5_length_8abf5, pt_J7_copyOfRange_39247, pt_J7_copyOfRangeByte_39247, pt_J7_checkLength_df160, pt_J2_coderFromArrayLen_85cad] : List ax_T)[j]?
