/-! the law: its rows -/
def bl_L_law_516 : List ax_R := (516, .iconst 1, 0, 0, 0, 0) :: (517, .ireturn, 0, 0, 0, 0) :: []
def bl_L_law_510 : List ax_R := (510, .iinc 4 5, 0, 0, 0, 0) :: (513, .goto (-490), 23, 0, 0, 0) :: bl_L_law_516
def bl_L_law_507 : List ax_R := (507, .goto 3, 510, 0, 0, 0) :: bl_L_law_510
def bl_L_law_490 : List ax_R := (490, .iload 5, 0, 0, 0, 0) :: (492, .ifCond .ne 15, 507, 0, 0, 0) :: (495, .aload_n 3, 0, 0, 0, 0) :: (496, .iconst 0, 0, 0, 0, 0) :: (497, .laload, 0, 0, 0, 0) :: (498, .iload 6, 0, 0, 0, 0) :: (500, .i2l, 0, 0, 0, 0) :: (501, .lcmp, 0, 0, 0, 0) ::
  (502, .ifCond .eq 5, 507, 0, 0, 0) :: (505, .iconst 0, 0, 0, 0, 0) :: (506, .ireturn, 0, 0, 0, 0) :: bl_L_law_507
def bl_L_law_430 : List ax_R := (430, .aload_n 1, 0, 0, 0, 0) :: (431, .aload_n 0, 0, 0, 0, 0) :: (432, .iload 4, 0, 0, 0, 0) :: (434, .iconst 1, 0, 0, 0, 0) :: (435, .iadd, 0, 0, 0, 0) :: (436, .iaload, 0, 0, 0, 0) :: (437, .aload_n 0, 0, 0, 0, 0) :: (438, .iload 4, 0, 0, 0, 0) ::
  (440, .iconst 2, 0, 0, 0, 0) :: (441, .iadd, 0, 0, 0, 0) :: (442, .iaload, 0, 0, 0, 0) :: (443, .aload_n 0, 0, 0, 0, 0) :: (444, .iload 4, 0, 0, 0, 0) :: (446, .iconst 3, 0, 0, 0, 0) :: (447, .iadd, 0, 0, 0, 0) :: (448, .iaload, 0, 0, 0, 0) ::
  (449, .aload_n 3, 0, 0, 0, 0) :: (450, .invokestatic 79, 303, 5, 0, 1280) :: (453, .istore 5, 0, 0, 0, 0) :: (455, .aload_n 2, 0, 0, 0, 0) :: (456, .aload_n 0, 0, 0, 0, 0) :: (457, .iload 4, 0, 0, 0, 0) :: (459, .iconst 1, 0, 0, 0, 0) :: (460, .iadd, 0, 0, 0, 0) ::
  (461, .iaload, 0, 0, 0, 0) :: (462, .aload_n 0, 0, 0, 0, 0) :: (463, .iload 4, 0, 0, 0, 0) :: (465, .iconst 2, 0, 0, 0, 0) :: (466, .iadd, 0, 0, 0, 0) :: (467, .iaload, 0, 0, 0, 0) :: (468, .aload_n 0, 0, 0, 0, 0) :: (469, .iload 4, 0, 0, 0, 0) ::
  (471, .iconst 3, 0, 0, 0, 0) :: (472, .iadd, 0, 0, 0, 0) :: (473, .iaload, 0, 0, 0, 0) :: (474, .invokevirtual 82, 173, 4, 14, 1708) :: (477, .istore 6, 0, 0, 0, 0) :: (479, .aload_n 2, 0, 0, 0, 0) :: (480, .invokevirtual 41, 112, 1, 14, 1481) :: (483, .iload 5, 0, 0, 0, 0) ::
  (485, .if_icmp .eq 5, 490, 0, 0, 0) :: (488, .iconst 0, 0, 0, 0, 0) :: (489, .ireturn, 0, 0, 0, 0) :: bl_L_law_490
def bl_L_law_427 : List ax_R := (427, .goto 83, 510, 0, 0, 0) :: bl_L_law_430
def bl_L_law_410 : List ax_R := (410, .iload 5, 0, 0, 0, 0) :: (412, .ifCond .ne 15, 427, 0, 0, 0) :: (415, .aload_n 3, 0, 0, 0, 0) :: (416, .iconst 0, 0, 0, 0, 0) :: (417, .laload, 0, 0, 0, 0) :: (418, .iload 6, 0, 0, 0, 0) :: (420, .i2l, 0, 0, 0, 0) :: (421, .lcmp, 0, 0, 0, 0) ::
  (422, .ifCond .eq 5, 427, 0, 0, 0) :: (425, .iconst 0, 0, 0, 0, 0) :: (426, .ireturn, 0, 0, 0, 0) :: bl_L_law_427
def bl_L_law_362 : List ax_R := (362, .aload_n 1, 0, 0, 0, 0) :: (363, .aload_n 0, 0, 0, 0, 0) :: (364, .iload 4, 0, 0, 0, 0) :: (366, .iconst 1, 0, 0, 0, 0) :: (367, .iadd, 0, 0, 0, 0) :: (368, .iaload, 0, 0, 0, 0) :: (369, .aload_n 0, 0, 0, 0, 0) :: (370, .iload 4, 0, 0, 0, 0) ::
  (372, .iconst 2, 0, 0, 0, 0) :: (373, .iadd, 0, 0, 0, 0) :: (374, .iaload, 0, 0, 0, 0) :: (375, .aload_n 3, 0, 0, 0, 0) :: (376, .invokestatic 75, 302, 4, 0, 1270) :: (379, .istore 5, 0, 0, 0, 0) :: (381, .aload_n 2, 0, 0, 0, 0) :: (382, .aload_n 0, 0, 0, 0, 0) ::
  (383, .iload 4, 0, 0, 0, 0) :: (385, .iconst 1, 0, 0, 0, 0) :: (386, .iadd, 0, 0, 0, 0) :: (387, .iaload, 0, 0, 0, 0) :: (388, .aload_n 0, 0, 0, 0, 0) :: (389, .iload 4, 0, 0, 0, 0) :: (391, .iconst 2, 0, 0, 0, 0) :: (392, .iadd, 0, 0, 0, 0) ::
  (393, .iaload, 0, 0, 0, 0) :: (394, .invokevirtual 78, 172, 3, 14, 1704) :: (397, .istore 6, 0, 0, 0, 0) :: (399, .aload_n 2, 0, 0, 0, 0) :: (400, .invokevirtual 41, 112, 1, 14, 1481) :: (403, .iload 5, 0, 0, 0, 0) :: (405, .if_icmp .eq 5, 410, 0, 0, 0) :: (408, .iconst 0, 0, 0, 0, 0) ::
  (409, .ireturn, 0, 0, 0, 0) :: bl_L_law_410
def bl_L_law_337 : List ax_R := (337, .aload_n 1, 0, 0, 0, 0) :: (338, .aload_n 0, 0, 0, 0, 0) :: (339, .iload 4, 0, 0, 0, 0) :: (341, .iconst 1, 0, 0, 0, 0) :: (342, .iadd, 0, 0, 0, 0) :: (343, .iaload, 0, 0, 0, 0) :: (344, .invokevirtual 71, 107, 2, 13, 914) :: (347, .aload_n 2, 0, 0, 0, 0) ::
  (348, .aload_n 0, 0, 0, 0, 0) :: (349, .iload 4, 0, 0, 0, 0) :: (351, .iconst 1, 0, 0, 0, 0) :: (352, .iadd, 0, 0, 0, 0) :: (353, .iaload, 0, 0, 0, 0) :: (354, .invokevirtual 74, 171, 2, 14, 1700) :: (357, .if_icmp .eq 153, 510, 0, 0, 0) :: (360, .iconst 0, 0, 0, 0, 0) ::
  (361, .ireturn, 0, 0, 0, 0) :: bl_L_law_362
def bl_L_law_324 : List ax_R := (324, .aload_n 1, 0, 0, 0, 0) :: (325, .invokevirtual 67, 106, 1, 13, 910) :: (328, .aload_n 2, 0, 0, 0, 0) :: (329, .invokevirtual 70, 170, 1, 14, 1696) :: (332, .if_icmp .eq 178, 510, 0, 0, 0) :: (335, .iconst 0, 0, 0, 0, 0) :: (336, .ireturn, 0, 0, 0, 0) :: bl_L_law_337
def bl_L_law_301 : List ax_R := (301, .aload_n 1, 0, 0, 0, 0) :: (302, .aload_n 0, 0, 0, 0, 0) :: (303, .iload 4, 0, 0, 0, 0) :: (305, .iconst 1, 0, 0, 0, 0) :: (306, .iadd, 0, 0, 0, 0) :: (307, .iaload, 0, 0, 0, 0) :: (308, .invokevirtual 62, 105, 2, 13, 897) :: (311, .aload_n 2, 0, 0, 0, 0) ::
  (312, .aload_n 0, 0, 0, 0, 0) :: (313, .iload 4, 0, 0, 0, 0) :: (315, .iconst 1, 0, 0, 0, 0) :: (316, .iadd, 0, 0, 0, 0) :: (317, .iaload, 0, 0, 0, 0) :: (318, .invokevirtual 66, 169, 2, 14, 1692) :: (321, .goto 189, 510, 0, 0, 0) :: bl_L_law_324
def bl_L_law_298 : List ax_R := (298, .goto 212, 510, 0, 0, 0) :: bl_L_law_301
def bl_L_law_281 : List ax_R := (281, .iload 5, 0, 0, 0, 0) :: (283, .ifCond .ne 15, 298, 0, 0, 0) :: (286, .aload_n 3, 0, 0, 0, 0) :: (287, .iconst 0, 0, 0, 0, 0) :: (288, .laload, 0, 0, 0, 0) :: (289, .iload 6, 0, 0, 0, 0) :: (291, .i2l, 0, 0, 0, 0) :: (292, .lcmp, 0, 0, 0, 0) ::
  (293, .ifCond .eq 5, 298, 0, 0, 0) :: (296, .iconst 0, 0, 0, 0, 0) :: (297, .ireturn, 0, 0, 0, 0) :: bl_L_law_298
def bl_L_law_245 : List ax_R := (245, .aload_n 1, 0, 0, 0, 0) :: (246, .aload_n 0, 0, 0, 0, 0) :: (247, .iload 4, 0, 0, 0, 0) :: (249, .iconst 1, 0, 0, 0, 0) :: (250, .iadd, 0, 0, 0, 0) :: (251, .iaload, 0, 0, 0, 0) :: (252, .aload_n 3, 0, 0, 0, 0) :: (253, .invokestatic 58, 301, 3, 0, 1242) ::
  (256, .istore 5, 0, 0, 0, 0) :: (258, .aload_n 2, 0, 0, 0, 0) :: (259, .aload_n 0, 0, 0, 0, 0) :: (260, .iload 4, 0, 0, 0, 0) :: (262, .iconst 1, 0, 0, 0, 0) :: (263, .iadd, 0, 0, 0, 0) :: (264, .iaload, 0, 0, 0, 0) :: (265, .invokevirtual 61, 168, 2, 14, 1688) ::
  (268, .istore 6, 0, 0, 0, 0) :: (270, .aload_n 2, 0, 0, 0, 0) :: (271, .invokevirtual 41, 112, 1, 14, 1481) :: (274, .iload 5, 0, 0, 0, 0) :: (276, .if_icmp .eq 5, 281, 0, 0, 0) :: (279, .iconst 0, 0, 0, 0, 0) :: (280, .ireturn, 0, 0, 0, 0) :: bl_L_law_281
def bl_L_law_232 : List ax_R := (232, .aload_n 1, 0, 0, 0, 0) :: (233, .invokevirtual 54, 103, 1, 13, 893) :: (236, .aload_n 2, 0, 0, 0, 0) :: (237, .invokevirtual 57, 167, 1, 14, 1684) :: (240, .if_icmp .eq 270, 510, 0, 0, 0) :: (243, .iconst 0, 0, 0, 0, 0) :: (244, .ireturn, 0, 0, 0, 0) :: bl_L_law_245
def bl_L_law_221 : List ax_R := (221, .aload_n 1, 0, 0, 0, 0) :: (222, .invokevirtual 50, 102, 1, 13, 888) :: (225, .aload_n 2, 0, 0, 0, 0) :: (226, .invokevirtual 53, 166, 1, 14, 1680) :: (229, .goto 281, 510, 0, 0, 0) :: bl_L_law_232
def bl_L_law_184 : List ax_R := (184, .aload_n 1, 0, 0, 0, 0) :: (185, .aload_n 0, 0, 0, 0, 0) :: (186, .iload 4, 0, 0, 0, 0) :: (188, .iconst 1, 0, 0, 0, 0) :: (189, .iadd, 0, 0, 0, 0) :: (190, .iaload, 0, 0, 0, 0) :: (191, .aload_n 0, 0, 0, 0, 0) :: (192, .iload 4, 0, 0, 0, 0) ::
  (194, .iconst 2, 0, 0, 0, 0) :: (195, .iadd, 0, 0, 0, 0) :: (196, .iaload, 0, 0, 0, 0) :: (197, .invokevirtual 45, 101, 3, 13, 460) :: (200, .aload_n 2, 0, 0, 0, 0) :: (201, .aload_n 0, 0, 0, 0, 0) :: (202, .iload 4, 0, 0, 0, 0) :: (204, .iconst 1, 0, 0, 0, 0) ::
  (205, .iadd, 0, 0, 0, 0) :: (206, .iaload, 0, 0, 0, 0) :: (207, .aload_n 0, 0, 0, 0, 0) :: (208, .iload 4, 0, 0, 0, 0) :: (210, .iconst 2, 0, 0, 0, 0) :: (211, .iadd, 0, 0, 0, 0) :: (212, .iaload, 0, 0, 0, 0) :: (213, .invokevirtual 49, 165, 3, 14, 1516) ::
  (216, .if_icmp .eq 294, 510, 0, 0, 0) :: (219, .iconst 0, 0, 0, 0, 0) :: (220, .ireturn, 0, 0, 0, 0) :: bl_L_law_221
def bl_L_law_181 : List ax_R := (181, .goto 329, 510, 0, 0, 0) :: bl_L_law_184
def bl_L_law_164 : List ax_R := (164, .iload 5, 0, 0, 0, 0) :: (166, .ifCond .ne 15, 181, 0, 0, 0) :: (169, .aload_n 3, 0, 0, 0, 0) :: (170, .iconst 0, 0, 0, 0, 0) :: (171, .laload, 0, 0, 0, 0) :: (172, .iload 6, 0, 0, 0, 0) :: (174, .i2l, 0, 0, 0, 0) :: (175, .lcmp, 0, 0, 0, 0) ::
  (176, .ifCond .eq 5, 181, 0, 0, 0) :: (179, .iconst 0, 0, 0, 0, 0) :: (180, .ireturn, 0, 0, 0, 0) :: bl_L_law_181
def bl_L_law_92 : List ax_R := (92, .aload_n 1, 0, 0, 0, 0) :: (93, .aload_n 0, 0, 0, 0, 0) :: (94, .iload 4, 0, 0, 0, 0) :: (96, .iconst 1, 0, 0, 0, 0) :: (97, .iadd, 0, 0, 0, 0) :: (98, .iaload, 0, 0, 0, 0) :: (99, .aload_n 0, 0, 0, 0, 0) :: (100, .iload 4, 0, 0, 0, 0) ::
  (102, .iconst 2, 0, 0, 0, 0) :: (103, .iadd, 0, 0, 0, 0) :: (104, .iaload, 0, 0, 0, 0) :: (105, .aload_n 0, 0, 0, 0, 0) :: (106, .iload 4, 0, 0, 0, 0) :: (108, .iconst 3, 0, 0, 0, 0) :: (109, .iadd, 0, 0, 0, 0) :: (110, .iaload, 0, 0, 0, 0) ::
  (111, .aload_n 0, 0, 0, 0, 0) :: (112, .iload 4, 0, 0, 0, 0) :: (114, .iconst 4, 0, 0, 0, 0) :: (115, .iadd, 0, 0, 0, 0) :: (116, .iaload, 0, 0, 0, 0) :: (117, .aload_n 3, 0, 0, 0, 0) :: (118, .invokestatic 35, 300, 6, 0, 919) :: (121, .istore 5, 0, 0, 0, 0) ::
  (123, .aload_n 2, 0, 0, 0, 0) :: (124, .aload_n 0, 0, 0, 0, 0) :: (125, .iload 4, 0, 0, 0, 0) :: (127, .iconst 1, 0, 0, 0, 0) :: (128, .iadd, 0, 0, 0, 0) :: (129, .iaload, 0, 0, 0, 0) :: (130, .aload_n 0, 0, 0, 0, 0) :: (131, .iload 4, 0, 0, 0, 0) ::
  (133, .iconst 2, 0, 0, 0, 0) :: (134, .iadd, 0, 0, 0, 0) :: (135, .iaload, 0, 0, 0, 0) :: (136, .aload_n 0, 0, 0, 0, 0) :: (137, .iload 4, 0, 0, 0, 0) :: (139, .iconst 3, 0, 0, 0, 0) :: (140, .iadd, 0, 0, 0, 0) :: (141, .iaload, 0, 0, 0, 0) ::
  (142, .aload_n 0, 0, 0, 0, 0) :: (143, .iload 4, 0, 0, 0, 0) :: (145, .iconst 4, 0, 0, 0, 0) :: (146, .iadd, 0, 0, 0, 0) :: (147, .iaload, 0, 0, 0, 0) :: (148, .invokevirtual 40, 122, 5, 14, 1485) :: (151, .istore 6, 0, 0, 0, 0) :: (153, .aload_n 2, 0, 0, 0, 0) ::
  (154, .invokevirtual 41, 112, 1, 14, 1481) :: (157, .iload 5, 0, 0, 0, 0) :: (159, .if_icmp .eq 5, 164, 0, 0, 0) :: (162, .iconst 0, 0, 0, 0, 0) :: (163, .ireturn, 0, 0, 0, 0) :: bl_L_law_164
def bl_L_law_23 : List ax_R := (23, .iload 4, 0, 0, 0, 0) :: (25, .aload_n 0, 0, 0, 0, 0) :: (26, .arraylength, 0, 0, 0, 0) :: (27, .iconst 5, 0, 0, 0, 0) :: (28, .isub, 0, 0, 0, 0) :: (29, .if_icmp .gt 487, 516, 0, 0, 0) :: (32, .aload_n 0, 0, 0, 0, 0) :: (33, .iload 4, 0, 0, 0, 0) ::
  (35, .iaload, 0, 0, 0, 0) :: (36, .bipush 15, 0, 0, 0, 0) :: (38, .iand, 0, 0, 0, 0) :: (39, .tableswitch 471 0 9 #[53, 145, 182, 193, 206, 262, 285, 298, 323, 391], 0, 0, 0, 0) :: bl_L_law_92
def bl_L_law_0 : List ax_R := (0, .new 8, 13, 1, 0, 112) :: (3, .dup, 0, 0, 0, 0) :: (4, .invokespecial 31, 99, 1, 0, 114) :: (7, .astore_n 1, 0, 0, 0, 0) :: (8, .new 32, 14, 55, 0, 1292) :: (11, .dup, 0, 0, 0, 0) :: (12, .invokespecial 34, 110, 1, 0, 1294) :: (15, .astore_n 2, 0, 0, 0, 0) ::
  (16, .iconst 1, 0, 0, 0, 0) :: (17, .newarray .long, 104, 0, 0, 1712) :: (19, .astore_n 3, 0, 0, 0, 0) :: (20, .iconst 0, 0, 0, 0, 0) :: (21, .istore 4, 0, 0, 0, 0) :: bl_L_law_23
def pr_L_law : List ax_R := bl_L_law_0
set_option maxRecDepth 20000 in
theorem at_L_law_0 : ax_at pr_L_law 0 = bl_L_law_0 := rfl
set_option maxRecDepth 20000 in
theorem at_L_law_23 : ax_at pr_L_law 23 = bl_L_law_23 := rfl
set_option maxRecDepth 20000 in
theorem at_L_law_92 : ax_at pr_L_law 92 = bl_L_law_92 := rfl
set_option maxRecDepth 20000 in
theorem at_L_law_164 : ax_at pr_L_law 164 = bl_L_law_164 := rfl
set_option maxRecDepth 20000 in
theorem at_L_law_181 : ax_at pr_L_law 181 = bl_L_law_181 := rfl
set_option maxRecDepth 20000 in
theorem at_L_law_184 : ax_at pr_L_law 184 = bl_L_law_184 := rfl
set_option maxRecDepth 20000 in
theorem at_L_law_221 : ax_at pr_L_law 221 = bl_L_law_221 := rfl
set_option maxRecDepth 20000 in
theorem at_L_law_232 : ax_at pr_L_law 232 = bl_L_law_232 := rfl
set_option maxRecDepth 20000 in
theorem at_L_law_245 : ax_at pr_L_law 245 = bl_L_law_245 := rfl
set_option maxRecDepth 20000 in
theorem at_L_law_281 : ax_at pr_L_law 281 = bl_L_law_281 := rfl
set_option maxRecDepth 20000 in
theorem at_L_law_298 : ax_at pr_L_law 298 = bl_L_law_298 := rfl
set_option maxRecDepth 20000 in
theorem at_L_law_301 : ax_at pr_L_law 301 = bl_L_law_301 := rfl
set_option maxRecDepth 20000 in
theorem at_L_law_324 : ax_at pr_L_law 324 = bl_L_law_324 := rfl
set_option maxRecDepth 20000 in
theorem at_L_law_337 : ax_at pr_L_law 337 = bl_L_law_337 := rfl
set_option maxRecDepth 20000 in
theorem at_L_law_362 : ax_at pr_L_law 362 = bl_L_law_362 := rfl
set_option maxRecDepth 20000 in
theorem at_L_law_410 : ax_at pr_L_law 410 = bl_L_law_410 := rfl
set_option maxRecDepth 20000 in
theorem at_L_law_427 : ax_at pr_L_law 427 = bl_L_law_427 := rfl
set_option maxRecDepth 20000 in
theorem at_L_law_430 : ax_at pr_L_law 430 = bl_L_law_430 := rfl
set_option maxRecDepth 20000 in
theorem at_L_law_490 : ax_at pr_L_law 490 = bl_L_law_490 := rfl
set_option maxRecDepth 20000 in
theorem at_L_law_507 : ax_at pr_L_law 507 = bl_L_law_507 := rfl
set_option maxRecDepth 20000 in
theorem at_L_law_510 : ax_at pr_L_law 510 = bl_L_law_510 := rfl
set_option maxRecDepth 20000 in
theorem at_L_law_516 : ax_at pr_L_law 516 = bl_L_law_516 := rfl
def hT_L : ax_HL := fun j => if j < 300 then none else ([(pt_L_page, hh_page), (pt_L_out, hh_out), (pt_L_stream, hh_stream), (pt_L_entry, hh_entry)] : List (ax_T × List (Nat × Nat × Nat × Nat)))[j - 300]?
def ax_rwL (r : ax_R) : Bool := ((r.2.2.2.2.1 == 99 || ax_rok ax_mt "PageServerLaw" false false (some .boolean) 7 r.1 r.2.2.1 r.2.2.2.1 r.2.2.2.2.1 r.2.2.2.2.2 r.2.1) || ax_rokH hT_L "PageServerLaw" r.2.2.1 r.2.2.2.1 r.2.2.2.2.1 r.2.2.2.2.2 r.2.1) && ax_dec code r.1 r.2.1
def ax_adj : List ax_R → Bool
  | [] => true
  | r :: rest => (match rest with
      | [] => true
      | r2 :: _ => ax_last r.2.1 || (r2.1 == r.1 + ax_len r.2.1)) && ax_adj rest
theorem ax_codL_of : ∀ (cod : List ax_R), (∀ r ∈ cod, ax_rwL r = true) → ax_adj cod = true → ax_codL ax_mt hT_L "PageServerLaw" false false (some .boolean) 7 code cod = true
  | [], _, _ => rfl
  | r :: rest, h, g => by
    have h1 := h r (List.mem_cons_self ..)
    unfold ax_rwL at h1
    rw [Bool.and_eq_true] at h1
    unfold ax_adj at g
    rw [Bool.and_eq_true] at g
    have ih := ax_codL_of rest (fun x hx => h x (List.mem_cons_of_mem _ hx)) g.2
    unfold ax_codL
    rw [Bool.and_eq_true, Bool.and_eq_true, Bool.and_eq_true]
    exact ⟨h1.1, h1.2, g.1, ih⟩
def sg_0 : List ax_R := [(0, .new 8, 13, 1, 0, 112), (3, .dup, 0, 0, 0, 0), (4, .invokespecial 31, 99, 1, 0, 114), (7, .astore_n 1, 0, 0, 0, 0), (8, .new 32, 14, 55, 0, 1292), (11, .dup, 0, 0, 0, 0), (12, .invokespecial 34, 110, 1, 0, 1294), (15, .astore_n 2, 0, 0, 0, 0), (16, .iconst 1, 0, 0, 0, 0), (17, .newarray .long, 104, 0, 0, 1712), (19, .astore_n 3, 0, 0, 0, 0), (20, .iconst 0, 0, 0, 0, 0), (21, .istore 4, 0, 0, 0, 0), (23, .iload 4, 0, 0, 0, 0), (25, .aload_n 0, 0, 0, 0, 0), (26, .arraylength, 0, 0, 0, 0)]
def sg_1 : List ax_R := [(27, .iconst 5, 0, 0, 0, 0), (28, .isub, 0, 0, 0, 0), (29, .if_icmp .gt 487, 516, 0, 0, 0), (32, .aload_n 0, 0, 0, 0, 0), (33, .iload 4, 0, 0, 0, 0), (35, .iaload, 0, 0, 0, 0), (36, .bipush 15, 0, 0, 0, 0), (38, .iand, 0, 0, 0, 0), (39, .tableswitch 471 0 9 #[53, 145, 182, 193, 206, 262, 285, 298, 323, 391], 0, 0, 0, 0), (92, .aload_n 1, 0, 0, 0, 0), (93, .aload_n 0, 0, 0, 0, 0), (94, .iload 4, 0, 0, 0, 0), (96, .iconst 1, 0, 0, 0, 0), (97, .iadd, 0, 0, 0, 0), (98, .iaload, 0, 0, 0, 0), (99, .aload_n 0, 0, 0, 0, 0)]
def sg_2 : List ax_R := [(100, .iload 4, 0, 0, 0, 0), (102, .iconst 2, 0, 0, 0, 0), (103, .iadd, 0, 0, 0, 0), (104, .iaload, 0, 0, 0, 0), (105, .aload_n 0, 0, 0, 0, 0), (106, .iload 4, 0, 0, 0, 0), (108, .iconst 3, 0, 0, 0, 0), (109, .iadd, 0, 0, 0, 0), (110, .iaload, 0, 0, 0, 0), (111, .aload_n 0, 0, 0, 0, 0), (112, .iload 4, 0, 0, 0, 0), (114, .iconst 4, 0, 0, 0, 0), (115, .iadd, 0, 0, 0, 0), (116, .iaload, 0, 0, 0, 0), (117, .aload_n 3, 0, 0, 0, 0), (118, .invokestatic 35, 300, 6, 0, 919)]
def sg_3 : List ax_R := [(121, .istore 5, 0, 0, 0, 0), (123, .aload_n 2, 0, 0, 0, 0), (124, .aload_n 0, 0, 0, 0, 0), (125, .iload 4, 0, 0, 0, 0), (127, .iconst 1, 0, 0, 0, 0), (128, .iadd, 0, 0, 0, 0), (129, .iaload, 0, 0, 0, 0), (130, .aload_n 0, 0, 0, 0, 0), (131, .iload 4, 0, 0, 0, 0), (133, .iconst 2, 0, 0, 0, 0), (134, .iadd, 0, 0, 0, 0), (135, .iaload, 0, 0, 0, 0), (136, .aload_n 0, 0, 0, 0, 0), (137, .iload 4, 0, 0, 0, 0), (139, .iconst 3, 0, 0, 0, 0), (140, .iadd, 0, 0, 0, 0)]
def sg_4 : List ax_R := [(141, .iaload, 0, 0, 0, 0), (142, .aload_n 0, 0, 0, 0, 0), (143, .iload 4, 0, 0, 0, 0), (145, .iconst 4, 0, 0, 0, 0), (146, .iadd, 0, 0, 0, 0), (147, .iaload, 0, 0, 0, 0), (148, .invokevirtual 40, 122, 5, 14, 1485), (151, .istore 6, 0, 0, 0, 0), (153, .aload_n 2, 0, 0, 0, 0), (154, .invokevirtual 41, 112, 1, 14, 1481), (157, .iload 5, 0, 0, 0, 0), (159, .if_icmp .eq 5, 164, 0, 0, 0), (162, .iconst 0, 0, 0, 0, 0), (163, .ireturn, 0, 0, 0, 0), (164, .iload 5, 0, 0, 0, 0), (166, .ifCond .ne 15, 181, 0, 0, 0)]
def sg_5 : List ax_R := [(169, .aload_n 3, 0, 0, 0, 0), (170, .iconst 0, 0, 0, 0, 0), (171, .laload, 0, 0, 0, 0), (172, .iload 6, 0, 0, 0, 0), (174, .i2l, 0, 0, 0, 0), (175, .lcmp, 0, 0, 0, 0), (176, .ifCond .eq 5, 181, 0, 0, 0), (179, .iconst 0, 0, 0, 0, 0), (180, .ireturn, 0, 0, 0, 0), (181, .goto 329, 510, 0, 0, 0), (184, .aload_n 1, 0, 0, 0, 0), (185, .aload_n 0, 0, 0, 0, 0), (186, .iload 4, 0, 0, 0, 0), (188, .iconst 1, 0, 0, 0, 0), (189, .iadd, 0, 0, 0, 0), (190, .iaload, 0, 0, 0, 0)]
def sg_6 : List ax_R := [(191, .aload_n 0, 0, 0, 0, 0), (192, .iload 4, 0, 0, 0, 0), (194, .iconst 2, 0, 0, 0, 0), (195, .iadd, 0, 0, 0, 0), (196, .iaload, 0, 0, 0, 0), (197, .invokevirtual 45, 101, 3, 13, 460), (200, .aload_n 2, 0, 0, 0, 0), (201, .aload_n 0, 0, 0, 0, 0), (202, .iload 4, 0, 0, 0, 0), (204, .iconst 1, 0, 0, 0, 0), (205, .iadd, 0, 0, 0, 0), (206, .iaload, 0, 0, 0, 0), (207, .aload_n 0, 0, 0, 0, 0), (208, .iload 4, 0, 0, 0, 0), (210, .iconst 2, 0, 0, 0, 0), (211, .iadd, 0, 0, 0, 0)]
def sg_7 : List ax_R := [(212, .iaload, 0, 0, 0, 0), (213, .invokevirtual 49, 165, 3, 14, 1516), (216, .if_icmp .eq 294, 510, 0, 0, 0), (219, .iconst 0, 0, 0, 0, 0), (220, .ireturn, 0, 0, 0, 0), (221, .aload_n 1, 0, 0, 0, 0), (222, .invokevirtual 50, 102, 1, 13, 888), (225, .aload_n 2, 0, 0, 0, 0), (226, .invokevirtual 53, 166, 1, 14, 1680), (229, .goto 281, 510, 0, 0, 0), (232, .aload_n 1, 0, 0, 0, 0), (233, .invokevirtual 54, 103, 1, 13, 893), (236, .aload_n 2, 0, 0, 0, 0), (237, .invokevirtual 57, 167, 1, 14, 1684), (240, .if_icmp .eq 270, 510, 0, 0, 0), (243, .iconst 0, 0, 0, 0, 0)]
def sg_8 : List ax_R := [(244, .ireturn, 0, 0, 0, 0), (245, .aload_n 1, 0, 0, 0, 0), (246, .aload_n 0, 0, 0, 0, 0), (247, .iload 4, 0, 0, 0, 0), (249, .iconst 1, 0, 0, 0, 0), (250, .iadd, 0, 0, 0, 0), (251, .iaload, 0, 0, 0, 0), (252, .aload_n 3, 0, 0, 0, 0), (253, .invokestatic 58, 301, 3, 0, 1242), (256, .istore 5, 0, 0, 0, 0), (258, .aload_n 2, 0, 0, 0, 0), (259, .aload_n 0, 0, 0, 0, 0), (260, .iload 4, 0, 0, 0, 0), (262, .iconst 1, 0, 0, 0, 0), (263, .iadd, 0, 0, 0, 0), (264, .iaload, 0, 0, 0, 0)]
def sg_9 : List ax_R := [(265, .invokevirtual 61, 168, 2, 14, 1688), (268, .istore 6, 0, 0, 0, 0), (270, .aload_n 2, 0, 0, 0, 0), (271, .invokevirtual 41, 112, 1, 14, 1481), (274, .iload 5, 0, 0, 0, 0), (276, .if_icmp .eq 5, 281, 0, 0, 0), (279, .iconst 0, 0, 0, 0, 0), (280, .ireturn, 0, 0, 0, 0), (281, .iload 5, 0, 0, 0, 0), (283, .ifCond .ne 15, 298, 0, 0, 0), (286, .aload_n 3, 0, 0, 0, 0), (287, .iconst 0, 0, 0, 0, 0), (288, .laload, 0, 0, 0, 0), (289, .iload 6, 0, 0, 0, 0), (291, .i2l, 0, 0, 0, 0), (292, .lcmp, 0, 0, 0, 0)]
def sg_10 : List ax_R := [(293, .ifCond .eq 5, 298, 0, 0, 0), (296, .iconst 0, 0, 0, 0, 0), (297, .ireturn, 0, 0, 0, 0), (298, .goto 212, 510, 0, 0, 0), (301, .aload_n 1, 0, 0, 0, 0), (302, .aload_n 0, 0, 0, 0, 0), (303, .iload 4, 0, 0, 0, 0), (305, .iconst 1, 0, 0, 0, 0), (306, .iadd, 0, 0, 0, 0), (307, .iaload, 0, 0, 0, 0), (308, .invokevirtual 62, 105, 2, 13, 897), (311, .aload_n 2, 0, 0, 0, 0), (312, .aload_n 0, 0, 0, 0, 0), (313, .iload 4, 0, 0, 0, 0), (315, .iconst 1, 0, 0, 0, 0), (316, .iadd, 0, 0, 0, 0)]
def sg_11 : List ax_R := [(317, .iaload, 0, 0, 0, 0), (318, .invokevirtual 66, 169, 2, 14, 1692), (321, .goto 189, 510, 0, 0, 0), (324, .aload_n 1, 0, 0, 0, 0), (325, .invokevirtual 67, 106, 1, 13, 910), (328, .aload_n 2, 0, 0, 0, 0), (329, .invokevirtual 70, 170, 1, 14, 1696), (332, .if_icmp .eq 178, 510, 0, 0, 0), (335, .iconst 0, 0, 0, 0, 0), (336, .ireturn, 0, 0, 0, 0), (337, .aload_n 1, 0, 0, 0, 0), (338, .aload_n 0, 0, 0, 0, 0), (339, .iload 4, 0, 0, 0, 0), (341, .iconst 1, 0, 0, 0, 0), (342, .iadd, 0, 0, 0, 0), (343, .iaload, 0, 0, 0, 0)]
def sg_12 : List ax_R := [(344, .invokevirtual 71, 107, 2, 13, 914), (347, .aload_n 2, 0, 0, 0, 0), (348, .aload_n 0, 0, 0, 0, 0), (349, .iload 4, 0, 0, 0, 0), (351, .iconst 1, 0, 0, 0, 0), (352, .iadd, 0, 0, 0, 0), (353, .iaload, 0, 0, 0, 0), (354, .invokevirtual 74, 171, 2, 14, 1700), (357, .if_icmp .eq 153, 510, 0, 0, 0), (360, .iconst 0, 0, 0, 0, 0), (361, .ireturn, 0, 0, 0, 0), (362, .aload_n 1, 0, 0, 0, 0), (363, .aload_n 0, 0, 0, 0, 0), (364, .iload 4, 0, 0, 0, 0), (366, .iconst 1, 0, 0, 0, 0), (367, .iadd, 0, 0, 0, 0)]
def sg_13 : List ax_R := [(368, .iaload, 0, 0, 0, 0), (369, .aload_n 0, 0, 0, 0, 0), (370, .iload 4, 0, 0, 0, 0), (372, .iconst 2, 0, 0, 0, 0), (373, .iadd, 0, 0, 0, 0), (374, .iaload, 0, 0, 0, 0), (375, .aload_n 3, 0, 0, 0, 0), (376, .invokestatic 75, 302, 4, 0, 1270), (379, .istore 5, 0, 0, 0, 0), (381, .aload_n 2, 0, 0, 0, 0), (382, .aload_n 0, 0, 0, 0, 0), (383, .iload 4, 0, 0, 0, 0), (385, .iconst 1, 0, 0, 0, 0), (386, .iadd, 0, 0, 0, 0), (387, .iaload, 0, 0, 0, 0), (388, .aload_n 0, 0, 0, 0, 0)]
def sg_14 : List ax_R := [(389, .iload 4, 0, 0, 0, 0), (391, .iconst 2, 0, 0, 0, 0), (392, .iadd, 0, 0, 0, 0), (393, .iaload, 0, 0, 0, 0), (394, .invokevirtual 78, 172, 3, 14, 1704), (397, .istore 6, 0, 0, 0, 0), (399, .aload_n 2, 0, 0, 0, 0), (400, .invokevirtual 41, 112, 1, 14, 1481), (403, .iload 5, 0, 0, 0, 0), (405, .if_icmp .eq 5, 410, 0, 0, 0), (408, .iconst 0, 0, 0, 0, 0), (409, .ireturn, 0, 0, 0, 0), (410, .iload 5, 0, 0, 0, 0), (412, .ifCond .ne 15, 427, 0, 0, 0), (415, .aload_n 3, 0, 0, 0, 0), (416, .iconst 0, 0, 0, 0, 0)]
def sg_15 : List ax_R := [(417, .laload, 0, 0, 0, 0), (418, .iload 6, 0, 0, 0, 0), (420, .i2l, 0, 0, 0, 0), (421, .lcmp, 0, 0, 0, 0), (422, .ifCond .eq 5, 427, 0, 0, 0), (425, .iconst 0, 0, 0, 0, 0), (426, .ireturn, 0, 0, 0, 0), (427, .goto 83, 510, 0, 0, 0), (430, .aload_n 1, 0, 0, 0, 0), (431, .aload_n 0, 0, 0, 0, 0), (432, .iload 4, 0, 0, 0, 0), (434, .iconst 1, 0, 0, 0, 0), (435, .iadd, 0, 0, 0, 0), (436, .iaload, 0, 0, 0, 0), (437, .aload_n 0, 0, 0, 0, 0), (438, .iload 4, 0, 0, 0, 0)]
def sg_16 : List ax_R := [(440, .iconst 2, 0, 0, 0, 0), (441, .iadd, 0, 0, 0, 0), (442, .iaload, 0, 0, 0, 0), (443, .aload_n 0, 0, 0, 0, 0), (444, .iload 4, 0, 0, 0, 0), (446, .iconst 3, 0, 0, 0, 0), (447, .iadd, 0, 0, 0, 0), (448, .iaload, 0, 0, 0, 0), (449, .aload_n 3, 0, 0, 0, 0), (450, .invokestatic 79, 303, 5, 0, 1280), (453, .istore 5, 0, 0, 0, 0), (455, .aload_n 2, 0, 0, 0, 0), (456, .aload_n 0, 0, 0, 0, 0), (457, .iload 4, 0, 0, 0, 0), (459, .iconst 1, 0, 0, 0, 0), (460, .iadd, 0, 0, 0, 0)]
def sg_17 : List ax_R := [(461, .iaload, 0, 0, 0, 0), (462, .aload_n 0, 0, 0, 0, 0), (463, .iload 4, 0, 0, 0, 0), (465, .iconst 2, 0, 0, 0, 0), (466, .iadd, 0, 0, 0, 0), (467, .iaload, 0, 0, 0, 0), (468, .aload_n 0, 0, 0, 0, 0), (469, .iload 4, 0, 0, 0, 0), (471, .iconst 3, 0, 0, 0, 0), (472, .iadd, 0, 0, 0, 0), (473, .iaload, 0, 0, 0, 0), (474, .invokevirtual 82, 173, 4, 14, 1708), (477, .istore 6, 0, 0, 0, 0), (479, .aload_n 2, 0, 0, 0, 0), (480, .invokevirtual 41, 112, 1, 14, 1481), (483, .iload 5, 0, 0, 0, 0)]
def sg_18 : List ax_R := [(485, .if_icmp .eq 5, 490, 0, 0, 0), (488, .iconst 0, 0, 0, 0, 0), (489, .ireturn, 0, 0, 0, 0), (490, .iload 5, 0, 0, 0, 0), (492, .ifCond .ne 15, 507, 0, 0, 0), (495, .aload_n 3, 0, 0, 0, 0), (496, .iconst 0, 0, 0, 0, 0), (497, .laload, 0, 0, 0, 0), (498, .iload 6, 0, 0, 0, 0), (500, .i2l, 0, 0, 0, 0), (501, .lcmp, 0, 0, 0, 0), (502, .ifCond .eq 5, 507, 0, 0, 0), (505, .iconst 0, 0, 0, 0, 0), (506, .ireturn, 0, 0, 0, 0), (507, .goto 3, 510, 0, 0, 0), (510, .iinc 4 5, 0, 0, 0, 0)]
def sg_19 : List ax_R := [(513, .goto (-490), 23, 0, 0, 0), (516, .iconst 1, 0, 0, 0, 0), (517, .ireturn, 0, 0, 0, 0)]
set_option maxRecDepth 20000 in
theorem sg_all : pr_L_law = sg_0 ++ (sg_1 ++ (sg_2 ++ (sg_3 ++ (sg_4 ++ (sg_5 ++ (sg_6 ++ (sg_7 ++ (sg_8 ++ (sg_9 ++ (sg_10 ++ (sg_11 ++ (sg_12 ++ (sg_13 ++ (sg_14 ++ (sg_15 ++ (sg_16 ++ (sg_17 ++ (sg_18 ++ (sg_19))))))))))))))))))) := rfl
set_option maxRecDepth 20000 in
theorem sg_adj : ax_adj pr_L_law = true := by decide +kernel
