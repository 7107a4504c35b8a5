/-! the law's code -/
def q_L_law_0 : List (Nat × mw_I) := [(0, mw_b (.aload_n 0) 1 0),
  (1, ((.invokestatic 209), 3, (1, 1, 0), [7155, 7156], yL_build, 0)),
  (4, mw_b (.astore_n 1) 1 1),
  (5, mw_b (.aload_n 0) 1 0),
  (6, ((.invokestatic 209), 3, (1, 1, 0), [7155, 7156], yL_build, 0)),
  (9, mw_b (.astore_n 2) 1 2),
  (10, mw_b (.aload_n 1) 1 1),
  (11, ((.invokevirtual 213), 3, (1, 0, 15), [7131, 7132, 7133], yX11_save, 0)),
  (14, mw_b (.istore_n 3) 1 3),
  (15, mw_b (.aload_n 1) 1 1),
  (16, ((.invokestatic 216), 3, (1, 1, 0), [7227, 7228], yL_state, 0)),
  (19, mw_b (.istore 4) 2 4),
  (21, mw_b (.aload_n 1) 1 1),
  (22, ((.ldc 219), 2, (1, 10, 0), [], mw_nm, 0)),
  (24, ((.invokestatic 221), 3, (2, 1, 0), [7142, 7143], yL_put, 0)),
  (27, mw_b (.aload_n 1) 1 1),
  (28, ((.invokevirtual 225), 3, (1, 0, 15), [5153, 5154, 5155], yX11_run, 0)),
  (31, mw_c (.iconst 3) 1 (3))]
def q_L_law_1 : List (Nat × mw_I) := [(32, mw_b (.if_icmp .ne 39) 3 71),
  (35, mw_b (.aload_n 2) 1 2),
  (36, mw_c (.iconst 5) 1 (5)),
  (37, ((.invokevirtual 83), 3, (2, 0, 15), [5087, 5088, 5089], yX11_pass, 0)),
  (40, mw_b (.ifCond .lt 31) 3 71),
  (43, mw_b (.aload_n 2) 1 2),
  (44, mw_c (.bipush 24) 2 (24)),
  (46, ((.invokevirtual 83), 3, (2, 0, 15), [5087, 5088, 5089], yX11_pass, 0)),
  (49, mw_b (.ifCond .lt 22) 3 71),
  (52, mw_b (.aload_n 2) 1 2),
  (53, mw_c (.iconst 1) 1 (1)),
  (54, ((.invokevirtual 83), 3, (2, 0, 15), [5087, 5088, 5089], yX11_pass, 0)),
  (57, mw_b (.ifCond .lt 14) 3 71),
  (60, mw_b (.aload_n 1) 1 1),
  (61, ((.invokestatic 216), 3, (1, 1, 0), [7227, 7228], yL_state, 0))]
def q_L_law_2 : List (Nat × mw_I) := [(64, mw_b (.aload_n 2) 1 2),
  (65, ((.invokestatic 216), 3, (1, 1, 0), [7227, 7228], yL_state, 0)),
  (68, mw_b (.if_icmp .eq 5) 3 73),
  (71, mw_c (.iconst 0) 1 (0)),
  (72, mw_a (.ireturn) 1),
  (73, mw_b (.aload_n 1) 1 1),
  (74, ((.invokevirtual 228), 3, (1, 0, 15), [7123, 7124, 7125], yX11_undo, 0)),
  (77, mw_b (.ifCond .lt 42) 3 119),
  (80, mw_b (.aload_n 1) 1 1),
  (81, ((.invokestatic 216), 3, (1, 1, 0), [7227, 7228], yL_state, 0)),
  (84, mw_b (.iload 4) 2 4),
  (86, mw_b (.if_icmp .ne 33) 3 119),
  (89, mw_b (.aload_n 2) 1 2),
  (90, ((.invokevirtual 228), 3, (1, 0, 15), [7123, 7124, 7125], yX11_undo, 0)),
  (93, mw_b (.ifCond .lt 26) 3 119)]
def q_L_law_3 : List (Nat × mw_I) := [(96, mw_b (.aload_n 2) 1 2),
  (97, ((.invokevirtual 228), 3, (1, 0, 15), [7123, 7124, 7125], yX11_undo, 0)),
  (100, mw_b (.ifCond .lt 19) 3 119),
  (103, mw_b (.aload_n 2) 1 2),
  (104, ((.invokevirtual 228), 3, (1, 0, 15), [7123, 7124, 7125], yX11_undo, 0)),
  (107, mw_b (.ifCond .lt 12) 3 119),
  (110, mw_b (.aload_n 2) 1 2),
  (111, ((.invokestatic 216), 3, (1, 1, 0), [7227, 7228], yL_state, 0)),
  (114, mw_b (.iload 4) 2 4),
  (116, mw_b (.if_icmp .eq 5) 3 121),
  (119, mw_c (.iconst 0) 1 (0)),
  (120, mw_a (.ireturn) 1),
  (121, mw_b (.aload_n 1) 1 1),
  (122, ((.ldc 231), 2, (1, 11, 0), [], mw_nm, 0)),
  (124, ((.invokestatic 221), 3, (2, 1, 0), [7142, 7143], yL_put, 0)),
  (127, mw_b (.aload_n 1) 1 1)]
def q_L_law_4 : List (Nat × mw_I) := [(128, ((.invokestatic 233), 3, (1, 5, 0), [8188, 8189], yL_runs, 0)),
  (131, mw_c (.bipush (-2)) 2 (-2)),
  (133, mw_b (.if_icmp .ne 20) 3 153),
  (136, mw_b (.aload_n 1) 1 1),
  (137, ((.invokevirtual 236), 3, (1, 0, 15), [6023, 6024, 6025], yX11_failedCommand, 0)),
  (140, mw_c (.iconst 1) 1 (1)),
  (141, mw_b (.if_icmp .ne 12) 3 153),
  (144, mw_b (.aload_n 1) 1 1),
  (145, ((.invokestatic 216), 3, (1, 1, 0), [7227, 7228], yL_state, 0)),
  (148, mw_b (.iload 4) 2 4),
  (150, mw_b (.if_icmp .eq 5) 3 155),
  (153, mw_c (.iconst 0) 1 (0)),
  (154, mw_a (.ireturn) 1),
  (155, mw_b (.aload_n 1) 1 1),
  (156, ((.ldc 239), 2, (1, 12, 0), [], mw_nm, 0)),
  (158, ((.invokestatic 221), 3, (2, 1, 0), [7142, 7143], yL_put, 0))]
def q_L_law_5 : List (Nat × mw_I) := [(161, mw_b (.aload_n 1) 1 1),
  (162, ((.invokestatic 233), 3, (1, 5, 0), [8188, 8189], yL_runs, 0)),
  (165, mw_c (.bipush (-2)) 2 (-2)),
  (167, mw_b (.if_icmp .ne 19) 3 186),
  (170, mw_b (.aload_n 1) 1 1),
  (171, ((.invokevirtual 236), 3, (1, 0, 15), [6023, 6024, 6025], yX11_failedCommand, 0)),
  (174, mw_b (.ifCond .ne 12) 3 186),
  (177, mw_b (.aload_n 1) 1 1),
  (178, ((.invokestatic 216), 3, (1, 1, 0), [7227, 7228], yL_state, 0)),
  (181, mw_b (.iload 4) 2 4),
  (183, mw_b (.if_icmp .eq 5) 3 188),
  (186, mw_c (.iconst 0) 1 (0)),
  (187, mw_a (.ireturn) 1),
  (188, mw_b (.aload_n 1) 1 1),
  (189, ((.ldc 241), 2, (1, 13, 0), [], mw_nm, 0)),
  (191, mw_c (.iconst 1) 1 (1))]
def q_L_law_6 : List (Nat × mw_I) := [(192, ((.invokestatic 243), 3, (3, 1, 0), [8191, 8192], yL_fails, 0)),
  (195, mw_b (.ifCond .eq 119) 3 314),
  (198, mw_b (.aload_n 1) 1 1),
  (199, ((.ldc 247), 2, (1, 14, 0), [], mw_nm, 0)),
  (201, mw_c (.iconst 1) 1 (1)),
  (202, ((.invokestatic 243), 3, (3, 1, 0), [8191, 8192], yL_fails, 0)),
  (205, mw_b (.ifCond .eq 109) 3 314),
  (208, mw_b (.aload_n 1) 1 1),
  (209, ((.ldc 249), 2, (1, 15, 0), [], mw_nm, 0)),
  (211, mw_c (.bipush 9) 2 (9)),
  (213, ((.invokestatic 243), 3, (3, 1, 0), [8191, 8192], yL_fails, 0)),
  (216, mw_b (.ifCond .eq 98) 3 314),
  (219, mw_b (.aload_n 1) 1 1),
  (220, ((.ldc 251), 2, (1, 16, 0), [], mw_nm, 0)),
  (222, mw_c (.bipush 9) 2 (9))]
def q_L_law_7 : List (Nat × mw_I) := [(224, ((.invokestatic 243), 3, (3, 1, 0), [8191, 8192], yL_fails, 0)),
  (227, mw_b (.ifCond .eq 87) 3 314),
  (230, mw_b (.aload_n 1) 1 1),
  (231, ((.ldc 253), 2, (1, 17, 0), [], mw_nm, 0)),
  (233, mw_c (.bipush 7) 2 (7)),
  (235, ((.invokestatic 243), 3, (3, 1, 0), [8191, 8192], yL_fails, 0)),
  (238, mw_b (.ifCond .eq 76) 3 314),
  (241, mw_b (.aload_n 1) 1 1),
  (242, ((.ldc 255), 2, (1, 18, 0), [], mw_nm, 0)),
  (244, mw_c (.iconst 0) 1 (0)),
  (245, ((.invokestatic 243), 3, (3, 1, 0), [8191, 8192], yL_fails, 0)),
  (248, mw_b (.ifCond .eq 66) 3 314),
  (251, mw_b (.aload_n 1) 1 1),
  (252, ((.ldc_w 257), 3, (1, 19, 0), [], mw_nm, 0)),
  (255, mw_c (.bipush 7) 2 (7))]
def q_L_law_8 : List (Nat × mw_I) := [(257, ((.invokestatic 243), 3, (3, 1, 0), [8191, 8192], yL_fails, 0)),
  (260, mw_b (.ifCond .eq 54) 3 314),
  (263, mw_b (.aload_n 1) 1 1),
  (264, ((.ldc_w 259), 3, (1, 20, 0), [], mw_nm, 0)),
  (267, mw_c (.bipush 7) 2 (7)),
  (269, ((.invokestatic 243), 3, (3, 1, 0), [8191, 8192], yL_fails, 0)),
  (272, mw_b (.ifCond .eq 42) 3 314),
  (275, mw_b (.aload_n 1) 1 1),
  (276, ((.ldc_w 261), 3, (1, 21, 0), [], mw_nm, 0)),
  (279, mw_c (.bipush 9) 2 (9)),
  (281, ((.invokestatic 243), 3, (3, 1, 0), [8191, 8192], yL_fails, 0)),
  (284, mw_b (.ifCond .eq 30) 3 314),
  (287, mw_b (.aload_n 1) 1 1)]
def q_L_law_9 : List (Nat × mw_I) := [(288, ((.ldc_w 263), 3, (1, 22, 0), [], mw_nm, 0)),
  (291, mw_c (.iconst 0) 1 (0)),
  (292, ((.invokestatic 243), 3, (3, 1, 0), [8191, 8192], yL_fails, 0)),
  (295, mw_b (.ifCond .eq 19) 3 314),
  (298, mw_b (.aload_n 1) 1 1),
  (299, ((.invokevirtual 236), 3, (1, 0, 15), [6023, 6024, 6025], yX11_failedCommand, 0)),
  (302, mw_b (.ifCond .ne 12) 3 314),
  (305, mw_b (.aload_n 1) 1 1),
  (306, ((.invokestatic 216), 3, (1, 1, 0), [7227, 7228], yL_state, 0)),
  (309, mw_b (.iload 4) 2 4),
  (311, mw_b (.if_icmp .eq 5) 3 316),
  (314, mw_c (.iconst 0) 1 (0)),
  (315, mw_a (.ireturn) 1),
  (316, mw_b (.aload_n 0) 1 0),
  (317, mw_c (.bipush 13) 2 (13)),
  (319, ((.invokestatic 24), 3, (2, 1, 0), [7139, 7140], yL_at, 0))]
def q_L_law_10 : List (Nat × mw_I) := [(322, mw_b (.istore 5) 2 5),
  (324, mw_c (.iconst 1) 1 (1)),
  (325, mw_b (.iload 5) 2 5),
  (327, mw_c (.bipush 15) 2 (15)),
  (329, mw_a (.iand) 1),
  (330, mw_a (.iadd) 1),
  (331, mw_b (.istore 6) 2 6),
  (333, mw_c (.iconst 1) 1 (1)),
  (334, mw_b (.iload 5) 2 5),
  (336, mw_c (.iconst 4) 1 (4)),
  (337, mw_a (.ishr) 1),
  (338, mw_c (.iconst 3) 1 (3)),
  (339, mw_a (.iand) 1),
  (340, mw_a (.iadd) 1),
  (341, mw_b (.istore 7) 2 7),
  (343, ((.new 18), 3, (15, 13, 0), [1041, 1042, 1001], mw_nm, 0)),
  (346, mw_a (.dup) 1),
  (347, ((.invokespecial 23), 3, (1, 2, 0), [1043, 1044], yX11_init, 0)),
  (350, mw_b (.astore 8) 2 8)]
def q_L_law_11 : List (Nat × mw_I) := [(352, mw_b (.aload 8) 2 8),
  (354, ((.invokevirtual 265), 3, (1, 0, 15), [7099, 7100, 7101], yX11_isConsistent, 0)),
  (357, mw_b (.ifCond .eq 75) 3 432),
  (360, mw_b (.aload 8) 2 8),
  (362, ((.invokevirtual 101), 3, (1, 0, 15), [3220, 3221, 3222], yX11_cheapestNet, 0)),
  (365, mw_b (.ifCond .ne 67) 3 432),
  (368, mw_b (.aload 8) 2 8),
  (370, mw_c (.bipush 9) 2 (9)),
  (372, ((.invokevirtual 268), 3, (2, 0, 15), [3061, 3062, 3063], yX11_tide, 0)),
  (375, mw_c (.iconst 3) 1 (3)),
  (376, mw_b (.if_icmp .ne 56) 3 432),
  (379, mw_b (.aload 8) 2 8),
  (381, mw_c (.bipush 6) 2 (6)),
  (383, ((.invokevirtual 268), 3, (2, 0, 15), [3061, 3062, 3063], yX11_tide, 0))]
def q_L_law_12 : List (Nat × mw_I) := [(386, mw_c (.bipush 6) 2 (6)),
  (388, mw_b (.if_icmp .ne 44) 3 432),
  (391, mw_b (.aload 8) 2 8),
  (393, mw_c (.iconst 2) 1 (2)),
  (394, mw_c (.iconst 0) 1 (0)),
  (395, mw_c (.iconst 0) 1 (0)),
  (396, mw_c (.iconst 0) 1 (0)),
  (397, ((.invokestatic 30), 3, (5, 5, 0), [7158, 7159], yL_act, 0)),
  (400, mw_c (.iconst (-1)) 1 (-1)),
  (401, mw_b (.if_icmp .ne 31) 3 432),
  (404, mw_b (.aload 8) 2 8),
  (406, mw_c (.iconst 4) 1 (4)),
  (407, mw_c (.iconst 0) 1 (0)),
  (408, mw_c (.iconst 0) 1 (0)),
  (409, mw_c (.iconst 0) 1 (0)),
  (410, ((.invokestatic 30), 3, (5, 5, 0), [7158, 7159], yL_act, 0)),
  (413, mw_c (.bipush (-5)) 2 (-5)),
  (415, mw_b (.if_icmp .ne 17) 3 432)]
def q_L_law_13 : List (Nat × mw_I) := [(418, mw_b (.aload 8) 2 8),
  (420, mw_c (.bipush 17) 2 (17)),
  (422, mw_c (.iconst 0) 1 (0)),
  (423, mw_c (.iconst 0) 1 (0)),
  (424, mw_c (.iconst 0) 1 (0)),
  (425, ((.invokestatic 30), 3, (5, 5, 0), [7158, 7159], yL_act, 0)),
  (428, mw_c (.iconst (-1)) 1 (-1)),
  (429, mw_b (.if_icmp .eq 5) 3 434),
  (432, mw_c (.iconst 0) 1 (0)),
  (433, mw_a (.ireturn) 1),
  (434, mw_b (.aload 8) 2 8),
  (436, ((.new 271), 3, (1, 4, 0), [8198, 2225, 1014], mw_nm, 0)),
  (439, mw_a (.dup) 1),
  (440, ((.invokespecial 273), 3, (1, 2, 0), [8199, 2227], yJ4_init_da8c8, 0)),
  (443, ((.ldc_w 274), 3, (1, 23, 0), [], mw_nm, 0)),
  (446, ((.invokevirtual 276), 3, (2, 0, 1), [8200, 6047, 6048], yJ4_append_15ec4, 0))]
def q_L_law_14 : List (Nat × mw_I) := [(449, mw_b (.iload 7) 2 7),
  (451, ((.invokevirtual 279), 3, (2, 0, 1), [8201, 6142, 6143], yJ4_append_bf812, 0)),
  (454, ((.ldc_w 282), 3, (1, 24, 0), [], mw_nm, 0)),
  (457, ((.invokevirtual 276), 3, (2, 0, 1), [8200, 6047, 6048], yJ4_append_15ec4, 0)),
  (460, ((.invokevirtual 284), 3, (1, 0, 1), [8202, 6167, 6168], yJ4_toString_0e30d, 0)),
  (463, ((.invokestatic 221), 3, (2, 1, 0), [7142, 7143], yL_put, 0)),
  (466, mw_b (.aload 8) 2 8),
  (468, ((.invokevirtual 225), 3, (1, 0, 15), [5153, 5154, 5155], yX11_run, 0)),
  (471, mw_c (.iconst 5) 1 (5)),
  (472, mw_b (.if_icmp .ne 69) 3 541),
  (475, mw_b (.aload 8) 2 8),
  (477, ((.invokevirtual 101), 3, (1, 0, 15), [3220, 3221, 3222], yX11_cheapestNet, 0))]
def q_L_law_15 : List (Nat × mw_I) := [(480, mw_b (.iload 7) 2 7),
  (482, mw_c (.iconst 3) 1 (3)),
  (483, mw_a (.iadd) 1),
  (484, mw_b (.if_icmp .ne 57) 3 541),
  (487, mw_b (.aload 8) 2 8),
  (489, ((.invokevirtual 104), 3, (1, 0, 15), [3236, 3237, 3238], yX11_cheapestNetByGrowing, 0)),
  (492, mw_b (.iload 7) 2 7),
  (494, mw_c (.iconst 3) 1 (3)),
  (495, mw_a (.iadd) 1),
  (496, mw_b (.if_icmp .ne 45) 3 541),
  (499, mw_b (.aload 8) 2 8),
  (501, mw_c (.iconst 0) 1 (0)),
  (502, mw_c (.iconst 2) 1 (2)),
  (503, ((.invokevirtual 89), 3, (3, 0, 15), [3140, 3141, 3142], yX11_wayHours, 0)),
  (506, mw_b (.iload 7) 2 7),
  (508, mw_c (.iconst 3) 1 (3)),
  (509, mw_a (.iadd) 1),
  (510, mw_b (.if_icmp .ne 31) 3 541)]
def q_L_law_16 : List (Nat × mw_I) := [(513, mw_b (.aload 8) 2 8),
  (515, mw_c (.iconst 2) 1 (2)),
  (516, mw_c (.iconst 0) 1 (0)),
  (517, ((.invokevirtual 92), 3, (3, 0, 15), [3208, 3209, 3210], yX11_wayHoursByTable, 0)),
  (520, mw_b (.iload 7) 2 7),
  (522, mw_c (.iconst 3) 1 (3)),
  (523, mw_a (.iadd) 1),
  (524, mw_b (.if_icmp .ne 17) 3 541),
  (527, mw_b (.aload 8) 2 8),
  (529, mw_c (.bipush 9) 2 (9)),
  (531, mw_c (.iconst 0) 1 (0)),
  (532, mw_c (.iconst 3) 1 (3)),
  (533, mw_c (.iconst 0) 1 (0)),
  (534, ((.invokestatic 30), 3, (5, 5, 0), [7158, 7159], yL_act, 0)),
  (537, mw_c (.iconst (-1)) 1 (-1)),
  (538, mw_b (.if_icmp .eq 5) 3 543),
  (541, mw_c (.iconst 0) 1 (0)),
  (542, mw_a (.ireturn) 1),
  (543, mw_b (.aload 8) 2 8)]
def q_L_law_17 : List (Nat × mw_I) := [(545, ((.new 271), 3, (1, 4, 0), [8198, 2225, 1014], mw_nm, 0)),
  (548, mw_a (.dup) 1),
  (549, ((.invokespecial 273), 3, (1, 2, 0), [8199, 2227], yJ4_init_da8c8, 0)),
  (552, ((.ldc_w 288), 3, (1, 25, 0), [], mw_nm, 0)),
  (555, ((.invokevirtual 276), 3, (2, 0, 1), [8200, 6047, 6048], yJ4_append_15ec4, 0)),
  (558, mw_b (.iload 6) 2 6),
  (560, ((.invokevirtual 279), 3, (2, 0, 1), [8201, 6142, 6143], yJ4_append_bf812, 0)),
  (563, ((.ldc_w 290), 3, (1, 26, 0), [], mw_nm, 0)),
  (566, ((.invokevirtual 276), 3, (2, 0, 1), [8200, 6047, 6048], yJ4_append_15ec4, 0)),
  (569, ((.invokevirtual 284), 3, (1, 0, 1), [8202, 6167, 6168], yJ4_toString_0e30d, 0)),
  (572, ((.invokestatic 221), 3, (2, 1, 0), [7142, 7143], yL_put, 0)),
  (575, mw_b (.aload 8) 2 8)]
def q_L_law_18 : List (Nat × mw_I) := [(577, ((.invokestatic 233), 3, (1, 5, 0), [8188, 8189], yL_runs, 0)),
  (580, mw_c (.bipush (-2)) 2 (-2)),
  (582, mw_b (.if_icmp .ne 29) 3 611),
  (585, mw_b (.aload 8) 2 8),
  (587, ((.invokevirtual 236), 3, (1, 0, 15), [6023, 6024, 6025], yX11_failedCommand, 0)),
  (590, mw_c (.iconst 3) 1 (3)),
  (591, mw_b (.if_icmp .ne 20) 3 611),
  (594, mw_b (.aload 8) 2 8),
  (596, ((.invokevirtual 40), 3, (1, 0, 15), [5020, 5021, 5022], yX11_moonCount, 0)),
  (599, mw_b (.ifCond .ne 12) 3 611),
  (602, mw_b (.aload 8) 2 8),
  (604, ((.invokevirtual 292), 3, (1, 0, 15), [3057, 3058, 3059], yX11_channelCount, 0)),
  (607, mw_c (.iconst 2) 1 (2))]
def q_L_law_19 : List (Nat × mw_I) := [(608, mw_b (.if_icmp .eq 5) 3 613),
  (611, mw_c (.iconst 0) 1 (0)),
  (612, mw_a (.ireturn) 1),
  (613, mw_b (.aload 8) 2 8),
  (615, ((.new 271), 3, (1, 4, 0), [8198, 2225, 1014], mw_nm, 0)),
  (618, mw_a (.dup) 1),
  (619, ((.invokespecial 273), 3, (1, 2, 0), [8199, 2227], yJ4_init_da8c8, 0)),
  (622, ((.ldc_w 288), 3, (1, 25, 0), [], mw_nm, 0)),
  (625, ((.invokevirtual 276), 3, (2, 0, 1), [8200, 6047, 6048], yJ4_append_15ec4, 0)),
  (628, mw_b (.iload 6) 2 6),
  (630, ((.invokevirtual 279), 3, (2, 0, 1), [8201, 6142, 6143], yJ4_append_bf812, 0)),
  (633, ((.ldc_w 295), 3, (1, 27, 0), [], mw_nm, 0)),
  (636, ((.invokevirtual 276), 3, (2, 0, 1), [8200, 6047, 6048], yJ4_append_15ec4, 0)),
  (639, ((.invokevirtual 284), 3, (1, 0, 1), [8202, 6167, 6168], yJ4_toString_0e30d, 0))]
def q_L_law_20 : List (Nat × mw_I) := [(642, ((.invokestatic 221), 3, (2, 1, 0), [7142, 7143], yL_put, 0)),
  (645, mw_b (.aload 8) 2 8),
  (647, ((.invokevirtual 225), 3, (1, 0, 15), [5153, 5154, 5155], yX11_run, 0)),
  (650, mw_c (.iconst 4) 1 (4)),
  (651, mw_b (.if_icmp .ne 219) 3 870),
  (654, mw_b (.aload 8) 2 8),
  (656, mw_c (.iconst 0) 1 (0)),
  (657, ((.invokevirtual 206), 3, (2, 0, 15), [5037, 5038, 5039], yX11_fareOf, 0)),
  (660, mw_c (.iconst 5) 1 (5)),
  (661, mw_b (.iload 7) 2 7),
  (663, mw_c (.iconst 3) 1 (3)),
  (664, mw_a (.iadd) 1),
  (665, mw_a (.imul) 1),
  (666, mw_b (.if_icmp .ne 204) 3 870),
  (669, mw_b (.aload 8) 2 8),
  (671, mw_c (.iconst 1) 1 (1))]
def q_L_law_21 : List (Nat × mw_I) := [(672, ((.invokevirtual 206), 3, (2, 0, 15), [5037, 5038, 5039], yX11_fareOf, 0)),
  (675, mw_c (.iconst 3) 1 (3)),
  (676, mw_b (.iload 7) 2 7),
  (678, mw_c (.iconst 3) 1 (3)),
  (679, mw_a (.iadd) 1),
  (680, mw_a (.imul) 1),
  (681, mw_b (.if_icmp .ne 189) 3 870),
  (684, mw_b (.aload 8) 2 8),
  (686, mw_c (.iconst 2) 1 (2)),
  (687, ((.invokevirtual 206), 3, (2, 0, 15), [5037, 5038, 5039], yX11_fareOf, 0)),
  (690, mw_c (.iconst 2) 1 (2)),
  (691, mw_b (.iload 7) 2 7),
  (693, mw_a (.imul) 1),
  (694, mw_b (.if_icmp .ne 176) 3 870),
  (697, mw_b (.aload 8) 2 8),
  (699, mw_c (.iconst 0) 1 (0)),
  (700, ((.invokevirtual 297), 3, (2, 0, 15), [5042, 5043, 5044], yX11_moonAtRank, 0)),
  (703, mw_b (.ifCond .ne 167) 3 870)]
def q_L_law_22 : List (Nat × mw_I) := [(706, mw_b (.aload 8) 2 8),
  (708, mw_c (.iconst 2) 1 (2)),
  (709, ((.invokevirtual 297), 3, (2, 0, 15), [5042, 5043, 5044], yX11_moonAtRank, 0)),
  (712, mw_c (.iconst 2) 1 (2)),
  (713, mw_b (.if_icmp .ne 157) 3 870),
  (716, mw_b (.aload 8) 2 8),
  (718, mw_c (.iconst 3) 1 (3)),
  (719, mw_b (.iload 7) 2 7),
  (721, mw_c (.iconst 3) 1 (3)),
  (722, mw_a (.iadd) 1),
  (723, mw_a (.imul) 1),
  (724, ((.invokevirtual 300), 3, (2, 0, 15), [5059, 5060, 5061], yX11_countBelow, 0)),
  (727, mw_c (.iconst 1) 1 (1)),
  (728, mw_b (.if_icmp .ne 142) 3 870),
  (731, mw_b (.aload 8) 2 8),
  (733, mw_c (.iconst 3) 1 (3)),
  (734, mw_b (.iload 7) 2 7)]
def q_L_law_23 : List (Nat × mw_I) := [(736, mw_c (.iconst 3) 1 (3)),
  (737, mw_a (.iadd) 1),
  (738, mw_a (.imul) 1),
  (739, ((.invokevirtual 303), 3, (2, 0, 15), [5079, 5080, 5081], yX11_countBelowByAsking, 0)),
  (742, mw_c (.iconst 1) 1 (1)),
  (743, mw_b (.if_icmp .ne 127) 3 870),
  (746, mw_b (.aload 8) 2 8),
  (748, mw_c (.iconst 0) 1 (0)),
  (749, ((.invokevirtual 306), 3, (2, 0, 15), [4127, 4128, 4129], yX11_isStranded, 0)),
  (752, mw_b (.ifCond .eq 118) 3 870),
  (755, mw_b (.aload 8) 2 8),
  (757, mw_c (.iconst 0) 1 (0)),
  (758, ((.invokevirtual 107), 3, (2, 0, 15), [4234, 4235, 4236], yX11_bestLoad, 0)),
  (761, mw_c (.bipush 8) 2 (8)),
  (763, mw_b (.iload 7) 2 7),
  (765, mw_c (.iconst 3) 1 (3)),
  (766, mw_a (.iadd) 1),
  (767, mw_a (.imul) 1)]
def q_L_law_24 : List (Nat × mw_I) := [(768, mw_b (.if_icmp .ne 102) 3 870),
  (771, mw_b (.aload 8) 2 8),
  (773, mw_c (.iconst 0) 1 (0)),
  (774, ((.invokevirtual 110), 3, (2, 0, 15), [5000, 5001, 5002], yX11_bestLoadByTable, 0)),
  (777, mw_c (.bipush 8) 2 (8)),
  (779, mw_b (.iload 7) 2 7),
  (781, mw_c (.iconst 3) 1 (3)),
  (782, mw_a (.iadd) 1),
  (783, mw_a (.imul) 1),
  (784, mw_b (.if_icmp .ne 86) 3 870),
  (787, mw_b (.aload 8) 2 8),
  (789, mw_c (.iconst 5) 1 (5)),
  (790, mw_c (.iconst 0) 1 (0)),
  (791, mw_c (.iconst 0) 1 (0)),
  (792, mw_c (.iconst 0) 1 (0)),
  (793, ((.invokestatic 30), 3, (5, 5, 0), [7158, 7159], yL_act, 0)),
  (796, mw_c (.bipush (-4)) 2 (-4)),
  (798, mw_b (.if_icmp .ne 72) 3 870)]
def q_L_law_25 : List (Nat × mw_I) := [(801, mw_b (.aload 8) 2 8),
  (803, mw_c (.iconst 3) 1 (3)),
  (804, mw_c (.iconst 0) 1 (0)),
  (805, mw_c (.iconst 0) 1 (0)),
  (806, mw_c (.iconst 0) 1 (0)),
  (807, ((.invokestatic 30), 3, (5, 5, 0), [7158, 7159], yL_act, 0)),
  (810, mw_c (.bipush (-4)) 2 (-4)),
  (812, mw_b (.if_icmp .ne 58) 3 870),
  (815, mw_b (.aload 8) 2 8),
  (817, ((.invokevirtual 310), 3, (1, 0, 15), [5112, 5113, 5114], yX11_refusalReason, 0)),
  (820, mw_c (.iconst 5) 1 (5)),
  (821, mw_b (.if_icmp .ne 49) 3 870),
  (824, mw_b (.aload 8) 2 8),
  (826, mw_c (.iconst 2) 1 (2)),
  (827, mw_c (.iconst 0) 1 (0)),
  (828, mw_c (.iconst 2) 1 (2)),
  (829, mw_c (.iconst 0) 1 (0)),
  (830, ((.invokestatic 30), 3, (5, 5, 0), [7158, 7159], yL_act, 0))]
def q_L_law_26 : List (Nat × mw_I) := [(833, mw_c (.bipush (-4)) 2 (-4)),
  (835, mw_b (.if_icmp .ne 35) 3 870),
  (838, mw_b (.aload 8) 2 8),
  (840, ((.invokevirtual 310), 3, (1, 0, 15), [5112, 5113, 5114], yX11_refusalReason, 0)),
  (843, mw_c (.iconst 1) 1 (1)),
  (844, mw_b (.if_icmp .ne 26) 3 870),
  (847, mw_b (.aload 8) 2 8),
  (849, mw_c (.iconst 2) 1 (2)),
  (850, mw_c (.iconst 0) 1 (0)),
  (851, mw_c (.iconst 1) 1 (1)),
  (852, mw_c (.iconst 0) 1 (0)),
  (853, ((.invokestatic 30), 3, (5, 5, 0), [7158, 7159], yL_act, 0)),
  (856, mw_c (.bipush (-4)) 2 (-4)),
  (858, mw_b (.if_icmp .ne 12) 3 870),
  (861, mw_b (.aload 8) 2 8),
  (863, ((.invokevirtual 310), 3, (1, 0, 15), [5112, 5113, 5114], yX11_refusalReason, 0))]
def q_L_law_27 : List (Nat × mw_I) := [(866, mw_c (.iconst 2) 1 (2)),
  (867, mw_b (.if_icmp .eq 5) 3 872),
  (870, mw_c (.iconst 0) 1 (0)),
  (871, mw_a (.ireturn) 1),
  (872, mw_b (.aload 8) 2 8),
  (874, mw_c (.iconst 0) 1 (0)),
  (875, mw_c (.iconst 0) 1 (0)),
  (876, ((.invokevirtual 95), 3, (3, 0, 15), [4140, 4141, 4142], yX11_earliestArrival, 0)),
  (879, mw_b (.ifCond .ne 224) 3 1103),
  (882, mw_b (.aload 8) 2 8),
  (884, mw_c (.iconst 0) 1 (0)),
  (885, mw_c (.iconst 1) 1 (1)),
  (886, ((.invokevirtual 95), 3, (3, 0, 15), [4140, 4141, 4142], yX11_earliestArrival, 0)),
  (889, mw_c (.iconst 1) 1 (1)),
  (890, mw_b (.iload 7) 2 7),
  (892, mw_a (.iadd) 1),
  (893, mw_b (.if_icmp .ne 210) 3 1103)]
def q_L_law_28 : List (Nat × mw_I) := [(896, mw_b (.aload 8) 2 8),
  (898, mw_c (.iconst 0) 1 (0)),
  (899, mw_c (.iconst 1) 1 (1)),
  (900, ((.invokevirtual 98), 3, (3, 0, 15), [4167, 4168, 4169], yX11_earliestArrivalByHours, 0)),
  (903, mw_c (.iconst 1) 1 (1)),
  (904, mw_b (.iload 7) 2 7),
  (906, mw_a (.iadd) 1),
  (907, mw_b (.if_icmp .ne 196) 3 1103),
  (910, mw_b (.aload 8) 2 8),
  (912, mw_c (.iconst 1) 1 (1)),
  (913, ((.invokevirtual 83), 3, (2, 0, 15), [5087, 5088, 5089], yX11_pass, 0)),
  (916, mw_b (.ifCond .ne 187) 3 1103),
  (919, mw_b (.aload 8) 2 8),
  (921, mw_c (.iconst 0) 1 (0)),
  (922, ((.invokevirtual 306), 3, (2, 0, 15), [4127, 4128, 4129], yX11_isStranded, 0)),
  (925, mw_b (.ifCond .ne 178) 3 1103)]
def q_L_law_29 : List (Nat × mw_I) := [(928, mw_b (.aload 8) 2 8),
  (930, mw_c (.iconst 0) 1 (0)),
  (931, ((.invokevirtual 77), 3, (2, 0, 15), [4208, 4209, 4210], yX11_loadBest, 0)),
  (934, mw_c (.iconst 2) 1 (2)),
  (935, mw_b (.if_icmp .ne 168) 3 1103),
  (938, mw_b (.aload 8) 2 8),
  (940, mw_c (.iconst 0) 1 (0)),
  (941, ((.invokevirtual 179), 3, (2, 0, 15), [4132, 4133, 4134], yX11_loadOf, 0)),
  (944, mw_b (.iload 6) 2 6),
  (946, mw_c (.bipush 24) 2 (24)),
  (948, mw_a (.iadd) 1),
  (949, mw_b (.if_icmp .ne 154) 3 1103),
  (952, mw_b (.aload 8) 2 8),
  (954, mw_c (.iconst 3) 1 (3)),
  (955, mw_c (.iconst 0) 1 (0)),
  (956, mw_c (.iconst 2) 1 (2)),
  (957, mw_c (.iconst 0) 1 (0)),
  (958, ((.invokestatic 30), 3, (5, 5, 0), [7158, 7159], yL_act, 0))]
def q_L_law_30 : List (Nat × mw_I) := [(961, mw_b (.iload 6) 2 6),
  (963, mw_c (.bipush 54) 2 (54)),
  (965, mw_a (.iadd) 1),
  (966, mw_c (.bipush 40) 2 (40)),
  (968, mw_b (.if_icmp .le 8) 3 976),
  (971, mw_c (.bipush (-4)) 2 (-4)),
  (973, mw_b (.goto 4) 3 977),
  (976, mw_c (.iconst 0) 1 (0)),
  (977, mw_b (.if_icmp .ne 126) 3 1103),
  (980, mw_b (.aload 8) 2 8),
  (982, ((.invokevirtual 310), 3, (1, 0, 15), [5112, 5113, 5114], yX11_refusalReason, 0)),
  (985, mw_c (.bipush 6) 2 (6)),
  (987, mw_b (.if_icmp .ne 116) 3 1103),
  (990, mw_b (.aload 8) 2 8)]
def q_L_law_31 : List (Nat × mw_I) := [(992, mw_c (.iconst 3) 1 (3)),
  (993, mw_c (.iconst 0) 1 (0)),
  (994, mw_c (.iconst 1) 1 (1)),
  (995, mw_c (.iconst 0) 1 (0)),
  (996, ((.invokestatic 30), 3, (5, 5, 0), [7158, 7159], yL_act, 0)),
  (999, mw_c (.bipush (-3)) 2 (-3)),
  (1001, mw_b (.if_icmp .ne 102) 3 1103),
  (1004, mw_b (.aload 8) 2 8),
  (1006, mw_c (.iconst 0) 1 (0)),
  (1007, mw_c (.iconst 1) 1 (1)),
  (1008, ((.invokevirtual 67), 3, (3, 0, 15), [4081, 4082, 4083], yX11_sail, 0)),
  (1011, mw_c (.iconst 1) 1 (1)),
  (1012, mw_b (.iload 7) 2 7),
  (1014, mw_a (.iadd) 1),
  (1015, mw_b (.if_icmp .ne 88) 3 1103),
  (1018, mw_b (.aload 8) 2 8),
  (1020, mw_c (.iconst 4) 1 (4)),
  (1021, mw_c (.iconst 0) 1 (0)),
  (1022, mw_c (.iconst 0) 1 (0)),
  (1023, mw_c (.iconst 0) 1 (0))]
def q_L_law_32 : List (Nat × mw_I) := [(1024, ((.invokestatic 30), 3, (5, 5, 0), [7158, 7159], yL_act, 0)),
  (1027, mw_c (.bipush (-4)) 2 (-4)),
  (1029, mw_b (.if_icmp .ne 74) 3 1103),
  (1032, mw_b (.aload 8) 2 8),
  (1034, mw_c (.bipush 8) 2 (8)),
  (1036, mw_c (.iconst 0) 1 (0)),
  (1037, mw_c (.iconst 0) 1 (0)),
  (1038, mw_c (.iconst 0) 1 (0)),
  (1039, ((.invokestatic 30), 3, (5, 5, 0), [7158, 7159], yL_act, 0)),
  (1042, mw_c (.bipush (-3)) 2 (-3)),
  (1044, mw_b (.if_icmp .ne 59) 3 1103),
  (1047, mw_b (.aload 8) 2 8),
  (1049, mw_b (.aload 8) 2 8),
  (1051, mw_c (.iconst 0) 1 (0)),
  (1052, ((.invokevirtual 313), 3, (2, 0, 15), [6027, 6028, 6029], yX11_describeFerry, 0)),
  (1055, ((.new 271), 3, (1, 4, 0), [8198, 2225, 1014], mw_nm, 0))]
def q_L_law_33 : List (Nat × mw_I) := [(1058, mw_a (.dup) 1),
  (1059, ((.invokespecial 273), 3, (1, 2, 0), [8199, 2227], yJ4_init_da8c8, 0)),
  (1062, ((.ldc_w 316), 3, (1, 28, 0), [], mw_nm, 0)),
  (1065, ((.invokevirtual 276), 3, (2, 0, 1), [8200, 6047, 6048], yJ4_append_15ec4, 0)),
  (1068, mw_b (.iload 7) 2 7),
  (1070, ((.invokevirtual 279), 3, (2, 0, 1), [8201, 6142, 6143], yJ4_append_bf812, 0)),
  (1073, ((.ldc_w 318), 3, (1, 29, 0), [], mw_nm, 0)),
  (1076, ((.invokevirtual 276), 3, (2, 0, 1), [8200, 6047, 6048], yJ4_append_15ec4, 0)),
  (1079, ((.invokevirtual 284), 3, (1, 0, 1), [8202, 6167, 6168], yJ4_toString_0e30d, 0)),
  (1082, ((.invokestatic 320), 3, (3, 1, 0), [8171, 8172], yL_isLine, 0)),
  (1085, mw_b (.ifCond .eq 18) 3 1103)]
def q_L_law_34 : List (Nat × mw_I) := [(1088, mw_b (.aload 8) 2 8),
  (1090, mw_c (.bipush 15) 2 (15)),
  (1092, mw_c (.iconst 0) 1 (0)),
  (1093, mw_c (.iconst 0) 1 (0)),
  (1094, mw_c (.iconst 0) 1 (0)),
  (1095, ((.invokestatic 30), 3, (5, 5, 0), [7158, 7159], yL_act, 0)),
  (1098, mw_c (.bipush (-3)) 2 (-3)),
  (1100, mw_b (.if_icmp .eq 5) 3 1105),
  (1103, mw_c (.iconst 0) 1 (0)),
  (1104, mw_a (.ireturn) 1),
  (1105, mw_b (.aload 8) 2 8),
  (1107, mw_b (.iload 7) 2 7),
  (1109, ((.invokevirtual 83), 3, (2, 0, 15), [5087, 5088, 5089], yX11_pass, 0)),
  (1112, mw_c (.iconst 1) 1 (1)),
  (1113, mw_b (.if_icmp .ne 216) 3 1329),
  (1116, mw_b (.aload 8) 2 8),
  (1118, mw_c (.iconst 0) 1 (0)),
  (1119, ((.invokevirtual 125), 3, (2, 0, 15), [4113, 4114, 4115], yX11_craterOf, 0))]
def q_L_law_35 : List (Nat × mw_I) := [(1122, mw_c (.iconst 1) 1 (1)),
  (1123, mw_b (.if_icmp .ne 206) 3 1329),
  (1126, mw_b (.aload 8) 2 8),
  (1128, mw_c (.iconst 0) 1 (0)),
  (1129, ((.invokevirtual 324), 3, (2, 0, 15), [5133, 5134, 5135], yX11_passageCrater, 0)),
  (1132, mw_c (.iconst 1) 1 (1)),
  (1133, mw_b (.if_icmp .ne 196) 3 1329),
  (1136, mw_b (.aload 8) 2 8),
  (1138, mw_c (.iconst 0) 1 (0)),
  (1139, ((.invokevirtual 327), 3, (2, 0, 15), [5137, 5138, 5139], yX11_passageHour, 0)),
  (1142, mw_c (.iconst 1) 1 (1)),
  (1143, mw_b (.iload 7) 2 7),
  (1145, mw_a (.iadd) 1),
  (1146, mw_b (.if_icmp .ne 183) 3 1329),
  (1149, mw_b (.aload 8) 2 8),
  (1151, mw_c (.iconst 0) 1 (0))]
def q_L_law_36 : List (Nat × mw_I) := [(1152, ((.invokevirtual 330), 3, (2, 0, 15), [5120, 5121, 5122], yX11_passageFerry, 0)),
  (1155, mw_b (.ifCond .ne 174) 3 1329),
  (1158, mw_b (.aload 8) 2 8),
  (1160, mw_c (.iconst 2) 1 (2)),
  (1161, mw_c (.iconst 0) 1 (0)),
  (1162, mw_c (.iconst 0) 1 (0)),
  (1163, mw_c (.iconst 0) 1 (0)),
  (1164, ((.invokestatic 30), 3, (5, 5, 0), [7158, 7159], yL_act, 0)),
  (1167, mw_b (.iload 7) 2 7),
  (1169, mw_b (.ifCond .ne 8) 3 1177),
  (1172, mw_c (.bipush (-4)) 2 (-4)),
  (1174, mw_b (.goto 9) 3 1183),
  (1177, mw_c (.iconst 1) 1 (1)),
  (1178, mw_c (.iconst 2) 1 (2)),
  (1179, mw_b (.iload 7) 2 7),
  (1181, mw_a (.imul) 1),
  (1182, mw_a (.iadd) 1),
  (1183, mw_b (.if_icmp .ne 146) 3 1329)]
def q_L_law_37 : List (Nat × mw_I) := [(1186, mw_b (.aload 8) 2 8),
  (1188, ((.invokevirtual 228), 3, (1, 0, 15), [7123, 7124, 7125], yX11_undo, 0)),
  (1191, mw_b (.ifCond .lt 138) 3 1329),
  (1194, mw_b (.aload 8) 2 8),
  (1196, mw_c (.iconst 0) 1 (0)),
  (1197, ((.invokevirtual 306), 3, (2, 0, 15), [4127, 4128, 4129], yX11_isStranded, 0)),
  (1200, mw_b (.ifCond .ne 129) 3 1329),
  (1203, mw_b (.aload 8) 2 8),
  (1205, mw_c (.iconst 1) 1 (1)),
  (1206, ((.invokevirtual 74), 3, (2, 0, 15), [4183, 4184, 4185], yX11_land, 0)),
  (1209, mw_b (.ifCond .ne 120) 3 1329),
  (1212, mw_b (.aload 8) 2 8),
  (1214, mw_c (.iconst 1) 1 (1)),
  (1215, ((.invokevirtual 116), 3, (2, 0, 15), [5024, 5025, 5026], yX11_shoreOf, 0))]
def q_L_law_38 : List (Nat × mw_I) := [(1218, mw_c (.iconst 1) 1 (1)),
  (1219, mw_b (.if_icmp .ne 110) 3 1329),
  (1222, mw_b (.aload 8) 2 8),
  (1224, mw_c (.iconst 1) 1 (1)),
  (1225, ((.invokevirtual 206), 3, (2, 0, 15), [5037, 5038, 5039], yX11_fareOf, 0)),
  (1228, mw_c (.iconst 3) 1 (3)),
  (1229, mw_b (.iload 7) 2 7),
  (1231, mw_c (.iconst 3) 1 (3)),
  (1232, mw_a (.iadd) 1),
  (1233, mw_a (.imul) 1),
  (1234, mw_b (.if_icmp .ne 95) 3 1329),
  (1237, mw_b (.aload 8) 2 8),
  (1239, mw_c (.iconst 0) 1 (0)),
  (1240, mw_c (.iconst 2) 1 (2)),
  (1241, ((.invokevirtual 67), 3, (3, 0, 15), [4081, 4082, 4083], yX11_sail, 0)),
  (1244, mw_b (.iload 7) 2 7),
  (1246, mw_c (.iconst 4) 1 (4)),
  (1247, mw_a (.iadd) 1)]
def q_L_law_39 : List (Nat × mw_I) := [(1248, mw_b (.if_icmp .ne 81) 3 1329),
  (1251, mw_b (.aload 8) 2 8),
  (1253, mw_c (.iconst 3) 1 (3)),
  (1254, ((.invokevirtual 83), 3, (2, 0, 15), [5087, 5088, 5089], yX11_pass, 0)),
  (1257, mw_c (.iconst 1) 1 (1)),
  (1258, mw_b (.if_icmp .ne 71) 3 1329),
  (1261, mw_b (.aload 8) 2 8),
  (1263, mw_c (.iconst 0) 1 (0)),
  (1264, ((.invokevirtual 74), 3, (2, 0, 15), [4183, 4184, 4185], yX11_land, 0)),
  (1267, mw_c (.iconst 5) 1 (5)),
  (1268, mw_b (.iload 7) 2 7),
  (1270, mw_c (.iconst 3) 1 (3)),
  (1271, mw_a (.iadd) 1),
  (1272, mw_a (.imul) 1),
  (1273, mw_b (.if_icmp .ne 56) 3 1329),
  (1276, mw_b (.aload 8) 2 8),
  (1278, ((.invokevirtual 156), 3, (1, 0, 15), [5145, 5146, 5147], yX11_coins, 0))]
def q_L_law_40 : List (Nat × mw_I) := [(1281, ((.ldc2_w 333), 3, (0, 0, 0), [8223], mw_nm, (5))),
  (1284, mw_b (.iload 7) 2 7),
  (1286, mw_c (.iconst 3) 1 (3)),
  (1287, mw_a (.iadd) 1),
  (1288, mw_a (.i2l) 1),
  (1289, mw_a (.lmul) 1),
  (1290, mw_a (.lcmp) 1),
  (1291, mw_b (.ifCond .ne 38) 3 1329),
  (1294, mw_b (.aload 8) 2 8),
  (1296, ((.invokevirtual 153), 3, (1, 0, 15), [5149, 5150, 5151], yX11_fareTotal, 0)),
  (1299, mw_c (.iconst 5) 1 (5)),
  (1300, mw_b (.iload 7) 2 7),
  (1302, mw_c (.iconst 3) 1 (3)),
  (1303, mw_a (.iadd) 1),
  (1304, mw_a (.imul) 1),
  (1305, mw_b (.if_icmp .ne 24) 3 1329),
  (1308, mw_b (.aload 8) 2 8),
  (1310, ((.invokevirtual 40), 3, (1, 0, 15), [5020, 5021, 5022], yX11_moonCount, 0))]
def q_L_law_41 : List (Nat × mw_I) := [(1313, mw_c (.iconst 2) 1 (2)),
  (1314, mw_b (.if_icmp .ne 15) 3 1329),
  (1317, mw_b (.aload 8) 2 8),
  (1319, ((.invokevirtual 335), 3, (1, 0, 15), [7076, 7077, 7078], yX11_meanPhase, 0)),
  (1322, ((.ldc2_w 339), 3, (1, 0, 0), [8224], mw_nm, 0)),
  (1325, mw_a (.dcmp .l) 1),
  (1326, mw_b (.ifCond .eq 5) 3 1331),
  (1329, mw_c (.iconst 0) 1 (0)),
  (1330, mw_a (.ireturn) 1),
  (1331, mw_b (.aload 8) 2 8),
  (1333, mw_c (.iconst 1) 1 (1)),
  (1334, mw_c (.bipush 12) 2 (12)),
  (1336, mw_c (.bipush 50) 2 (50)),
  (1338, ((.invokevirtual 63), 3, (4, 0, 15), [4008, 4009, 4010], yX11_addFerry, 0)),
  (1341, mw_c (.iconst 1) 1 (1)),
  (1342, mw_b (.if_icmp .ne 94) 3 1436)]
def q_L_law_42 : List (Nat × mw_I) := [(1345, mw_b (.aload 8) 2 8),
  (1347, mw_c (.iconst 1) 1 (1)),
  (1348, ((.invokevirtual 306), 3, (2, 0, 15), [4127, 4128, 4129], yX11_isStranded, 0)),
  (1351, mw_b (.ifCond .eq 85) 3 1436),
  (1354, mw_b (.aload 8) 2 8),
  (1356, mw_c (.iconst 1) 1 (1)),
  (1357, ((.invokevirtual 80), 3, (2, 0, 15), [5012, 5013, 5014], yX11_rescue, 0)),
  (1360, mw_b (.ifCond .ne 76) 3 1436),
  (1363, mw_b (.aload 8) 2 8),
  (1365, mw_c (.bipush 6) 2 (6)),
  (1367, mw_c (.iconst 0) 1 (0)),
  (1368, mw_c (.iconst 0) 1 (0)),
  (1369, mw_c (.iconst 0) 1 (0)),
  (1370, ((.invokestatic 30), 3, (5, 5, 0), [7158, 7159], yL_act, 0)),
  (1373, mw_c (.bipush (-3)) 2 (-3)),
  (1375, mw_b (.if_icmp .ne 61) 3 1436)]
def q_L_law_43 : List (Nat × mw_I) := [(1378, mw_b (.aload 8) 2 8),
  (1380, mw_c (.bipush 20) 2 (20)),
  (1382, mw_b (.iload 7) 2 7),
  (1384, mw_a (.isub) 1),
  (1385, ((.invokevirtual 83), 3, (2, 0, 15), [5087, 5088, 5089], yX11_pass, 0)),
  (1388, mw_b (.ifCond .ne 48) 3 1436),
  (1391, mw_b (.aload 8) 2 8),
  (1393, mw_c (.iconst 1) 1 (1)),
  (1394, ((.invokevirtual 203), 3, (2, 0, 15), [5033, 5034, 5035], yX11_phaseOf, 0)),
  (1397, mw_c (.iconst 3) 1 (3)),
  (1398, mw_b (.if_icmp .ne 38) 3 1436),
  (1401, mw_b (.aload 8) 2 8),
  (1403, mw_c (.iconst 2) 1 (2)),
  (1404, ((.invokevirtual 203), 3, (2, 0, 15), [5033, 5034, 5035], yX11_phaseOf, 0)),
  (1407, mw_c (.iconst 2) 1 (2))]
def q_L_law_44 : List (Nat × mw_I) := [(1408, mw_b (.if_icmp .ne 28) 3 1436),
  (1411, mw_b (.aload 8) 2 8),
  (1413, ((.invokevirtual 163), 3, (1, 0, 15), [5141, 5142, 5143], yX11_strandingCount, 0)),
  (1416, mw_b (.ifCond .ne 20) 3 1436),
  (1419, mw_b (.aload 8) 2 8),
  (1421, ((.invokevirtual 160), 3, (1, 0, 15), [5116, 5117, 5118], yX11_passageCount, 0)),
  (1424, mw_c (.iconst 2) 1 (2)),
  (1425, mw_b (.if_icmp .ne 11) 3 1436),
  (1428, mw_b (.aload 8) 2 8),
  (1430, ((.invokevirtual 265), 3, (1, 0, 15), [7099, 7100, 7101], yX11_isConsistent, 0)),
  (1433, mw_b (.ifCond .ne 5) 3 1438),
  (1436, mw_c (.iconst 0) 1 (0)),
  (1437, mw_a (.ireturn) 1),
  (1438, mw_b (.aload_n 1) 1 1),
  (1439, ((.invokevirtual 341), 3, (1, 0, 15), [7135, 7136, 7137], yX11_restore, 0))]
def q_L_law_45 : List (Nat × mw_I) := [(1442, mw_b (.iload_n 3) 1 3),
  (1443, mw_b (.if_icmp .ne 16) 3 1459),
  (1446, mw_b (.aload_n 1) 1 1),
  (1447, ((.invokestatic 216), 3, (1, 1, 0), [7227, 7228], yL_state, 0)),
  (1450, mw_b (.iload 4) 2 4),
  (1452, mw_b (.if_icmp .ne 7) 3 1459),
  (1455, mw_c (.iconst 1) 1 (1)),
  (1456, mw_b (.goto 4) 3 1460),
  (1459, mw_c (.iconst 0) 1 (0)),
  (1460, mw_a (.ireturn) 1)]
def p_L_law : mw_Code := [q_L_law_0, q_L_law_1, q_L_law_2, q_L_law_3, q_L_law_4, q_L_law_5, q_L_law_6, q_L_law_7, q_L_law_8, q_L_law_9, q_L_law_10, q_L_law_11, q_L_law_12, q_L_law_13, q_L_law_14, q_L_law_15, q_L_law_16, q_L_law_17, q_L_law_18, q_L_law_19, q_L_law_20, q_L_law_21, q_L_law_22, q_L_law_23, q_L_law_24, q_L_law_25, q_L_law_26, q_L_law_27, q_L_law_28, q_L_law_29, q_L_law_30, q_L_law_31, q_L_law_32, q_L_law_33, q_L_law_34, q_L_law_35, q_L_law_36, q_L_law_37, q_L_law_38, q_L_law_39, q_L_law_40, q_L_law_41, q_L_law_42, q_L_law_43, q_L_law_44, q_L_law_45]
def d_L_law : mw_CD := (yL_law, cL_law, 9, (some .boolean), p_L_law, [])
theorem k_L_law_0 : q_L_law_0.all (fun z => mw_chkI yL_law cL_law z.1 z.2) = true := by decide +kernel
theorem k_L_law_1 : q_L_law_1.all (fun z => mw_chkI yL_law cL_law z.1 z.2) = true := by decide +kernel
theorem k_L_law_2 : q_L_law_2.all (fun z => mw_chkI yL_law cL_law z.1 z.2) = true := by decide +kernel
theorem k_L_law_3 : q_L_law_3.all (fun z => mw_chkI yL_law cL_law z.1 z.2) = true := by decide +kernel
theorem k_L_law_4 : q_L_law_4.all (fun z => mw_chkI yL_law cL_law z.1 z.2) = true := by decide +kernel
theorem k_L_law_5 : q_L_law_5.all (fun z => mw_chkI yL_law cL_law z.1 z.2) = true := by decide +kernel
theorem k_L_law_6 : q_L_law_6.all (fun z => mw_chkI yL_law cL_law z.1 z.2) = true := by decide +kernel
theorem k_L_law_7 : q_L_law_7.all (fun z => mw_chkI yL_law cL_law z.1 z.2) = true := by decide +kernel
theorem k_L_law_8 : q_L_law_8.all (fun z => mw_chkI yL_law cL_law z.1 z.2) = true := by decide +kernel
theorem k_L_law_9 : q_L_law_9.all (fun z => mw_chkI yL_law cL_law z.1 z.2) = true := by decide +kernel
theorem k_L_law_10 : q_L_law_10.all (fun z => mw_chkI yL_law cL_law z.1 z.2) = true := by decide +kernel
theorem k_L_law_11 : q_L_law_11.all (fun z => mw_chkI yL_law cL_law z.1 z.2) = true := by decide +kernel
theorem k_L_law_12 : q_L_law_12.all (fun z => mw_chkI yL_law cL_law z.1 z.2) = true := by decide +kernel
theorem k_L_law_13 : q_L_law_13.all (fun z => mw_chkI yL_law cL_law z.1 z.2) = true := by decide +kernel
theorem k_L_law_14 : q_L_law_14.all (fun z => mw_chkI yL_law cL_law z.1 z.2) = true := by decide +kernel
theorem k_L_law_15 : q_L_law_15.all (fun z => mw_chkI yL_law cL_law z.1 z.2) = true := by decide +kernel
theorem k_L_law_16 : q_L_law_16.all (fun z => mw_chkI yL_law cL_law z.1 z.2) = true := by decide +kernel
theorem k_L_law_17 : q_L_law_17.all (fun z => mw_chkI yL_law cL_law z.1 z.2) = true := by decide +kernel
theorem k_L_law_18 : q_L_law_18.all (fun z => mw_chkI yL_law cL_law z.1 z.2) = true := by decide +kernel
theorem k_L_law_19 : q_L_law_19.all (fun z => mw_chkI yL_law cL_law z.1 z.2) = true := by decide +kernel
theorem k_L_law_20 : q_L_law_20.all (fun z => mw_chkI yL_law cL_law z.1 z.2) = true := by decide +kernel
theorem k_L_law_21 : q_L_law_21.all (fun z => mw_chkI yL_law cL_law z.1 z.2) = true := by decide +kernel
theorem k_L_law_22 : q_L_law_22.all (fun z => mw_chkI yL_law cL_law z.1 z.2) = true := by decide +kernel
theorem k_L_law_23 : q_L_law_23.all (fun z => mw_chkI yL_law cL_law z.1 z.2) = true := by decide +kernel
theorem k_L_law_24 : q_L_law_24.all (fun z => mw_chkI yL_law cL_law z.1 z.2) = true := by decide +kernel
theorem k_L_law_25 : q_L_law_25.all (fun z => mw_chkI yL_law cL_law z.1 z.2) = true := by decide +kernel
theorem k_L_law_26 : q_L_law_26.all (fun z => mw_chkI yL_law cL_law z.1 z.2) = true := by decide +kernel
theorem k_L_law_27 : q_L_law_27.all (fun z => mw_chkI yL_law cL_law z.1 z.2) = true := by decide +kernel
theorem k_L_law_28 : q_L_law_28.all (fun z => mw_chkI yL_law cL_law z.1 z.2) = true := by decide +kernel
theorem k_L_law_29 : q_L_law_29.all (fun z => mw_chkI yL_law cL_law z.1 z.2) = true := by decide +kernel
theorem k_L_law_30 : q_L_law_30.all (fun z => mw_chkI yL_law cL_law z.1 z.2) = true := by decide +kernel
theorem k_L_law_31 : q_L_law_31.all (fun z => mw_chkI yL_law cL_law z.1 z.2) = true := by decide +kernel
theorem k_L_law_32 : q_L_law_32.all (fun z => mw_chkI yL_law cL_law z.1 z.2) = true := by decide +kernel
theorem k_L_law_33 : q_L_law_33.all (fun z => mw_chkI yL_law cL_law z.1 z.2) = true := by decide +kernel
theorem k_L_law_34 : q_L_law_34.all (fun z => mw_chkI yL_law cL_law z.1 z.2) = true := by decide +kernel
theorem k_L_law_35 : q_L_law_35.all (fun z => mw_chkI yL_law cL_law z.1 z.2) = true := by decide +kernel
theorem k_L_law_36 : q_L_law_36.all (fun z => mw_chkI yL_law cL_law z.1 z.2) = true := by decide +kernel
theorem k_L_law_37 : q_L_law_37.all (fun z => mw_chkI yL_law cL_law z.1 z.2) = true := by decide +kernel
theorem k_L_law_38 : q_L_law_38.all (fun z => mw_chkI yL_law cL_law z.1 z.2) = true := by decide +kernel
theorem k_L_law_39 : q_L_law_39.all (fun z => mw_chkI yL_law cL_law z.1 z.2) = true := by decide +kernel
theorem k_L_law_40 : q_L_law_40.all (fun z => mw_chkI yL_law cL_law z.1 z.2) = true := by decide +kernel
theorem k_L_law_41 : q_L_law_41.all (fun z => mw_chkI yL_law cL_law z.1 z.2) = true := by decide +kernel
theorem k_L_law_42 : q_L_law_42.all (fun z => mw_chkI yL_law cL_law z.1 z.2) = true := by decide +kernel
theorem k_L_law_43 : q_L_law_43.all (fun z => mw_chkI yL_law cL_law z.1 z.2) = true := by decide +kernel
theorem k_L_law_44 : q_L_law_44.all (fun z => mw_chkI yL_law cL_law z.1 z.2) = true := by decide +kernel
theorem k_L_law_45 : q_L_law_45.all (fun z => mw_chkI yL_law cL_law z.1 z.2) = true := by decide +kernel
theorem mw_all_cons {α : Type} {f : α → Bool} {a : α} {l : List α} (h1 : f a = true) (h2 : l.all f = true) : (a :: l).all f = true := by
  rw [List.all_cons, h1, h2]
  rfl
theorem ch_L_law : mw_chk d_L_law = true := by
  show p_L_law.all (fun l => l.all (fun z => mw_chkI yL_law cL_law z.1 z.2)) = true
  unfold p_L_law
  refine mw_all_cons k_L_law_0 ?_
  refine mw_all_cons k_L_law_1 ?_
  refine mw_all_cons k_L_law_2 ?_
  refine mw_all_cons k_L_law_3 ?_
  refine mw_all_cons k_L_law_4 ?_
  refine mw_all_cons k_L_law_5 ?_
  refine mw_all_cons k_L_law_6 ?_
  refine mw_all_cons k_L_law_7 ?_
  refine mw_all_cons k_L_law_8 ?_
  refine mw_all_cons k_L_law_9 ?_
  refine mw_all_cons k_L_law_10 ?_
  refine mw_all_cons k_L_law_11 ?_
  refine mw_all_cons k_L_law_12 ?_
  refine mw_all_cons k_L_law_13 ?_
  refine mw_all_cons k_L_law_14 ?_
  refine mw_all_cons k_L_law_15 ?_
  refine mw_all_cons k_L_law_16 ?_
  refine mw_all_cons k_L_law_17 ?_
  refine mw_all_cons k_L_law_18 ?_
  refine mw_all_cons k_L_law_19 ?_
  refine mw_all_cons k_L_law_20 ?_
  refine mw_all_cons k_L_law_21 ?_
  refine mw_all_cons k_L_law_22 ?_
  refine mw_all_cons k_L_law_23 ?_
  refine mw_all_cons k_L_law_24 ?_
  refine mw_all_cons k_L_law_25 ?_
  refine mw_all_cons k_L_law_26 ?_
  refine mw_all_cons k_L_law_27 ?_
  refine mw_all_cons k_L_law_28 ?_
  refine mw_all_cons k_L_law_29 ?_
  refine mw_all_cons k_L_law_30 ?_
  refine mw_all_cons k_L_law_31 ?_
  refine mw_all_cons k_L_law_32 ?_
  refine mw_all_cons k_L_law_33 ?_
  refine mw_all_cons k_L_law_34 ?_
  refine mw_all_cons k_L_law_35 ?_
  refine mw_all_cons k_L_law_36 ?_
  refine mw_all_cons k_L_law_37 ?_
  refine mw_all_cons k_L_law_38 ?_
  refine mw_all_cons k_L_law_39 ?_
  refine mw_all_cons k_L_law_40 ?_
  refine mw_all_cons k_L_law_41 ?_
  refine mw_all_cons k_L_law_42 ?_
  refine mw_all_cons k_L_law_43 ?_
  refine mw_all_cons k_L_law_44 ?_
  refine mw_all_cons k_L_law_45 ?_
  rfl
theorem l_L_law_0 : mw_lk d_L_law 0 = some (mw_b (.aload_n 0) 1 0) := mw_is_eq (by decide +kernel)
theorem l_L_law_1 : mw_lk d_L_law 1 = some (((.invokestatic 209), 3, (1, 1, 0), [7155, 7156], yL_build, 0)) := mw_is_eq (by decide +kernel)
theorem l_L_law_4 : mw_lk d_L_law 4 = some (mw_b (.astore_n 1) 1 1) := mw_is_eq (by decide +kernel)
theorem l_L_law_5 : mw_lk d_L_law 5 = some (mw_b (.aload_n 0) 1 0) := mw_is_eq (by decide +kernel)
theorem l_L_law_6 : mw_lk d_L_law 6 = some (((.invokestatic 209), 3, (1, 1, 0), [7155, 7156], yL_build, 0)) := mw_is_eq (by decide +kernel)
theorem l_L_law_9 : mw_lk d_L_law 9 = some (mw_b (.astore_n 2) 1 2) := mw_is_eq (by decide +kernel)
theorem l_L_law_10 : mw_lk d_L_law 10 = some (mw_b (.aload_n 1) 1 1) := mw_is_eq (by decide +kernel)
theorem l_L_law_11 : mw_lk d_L_law 11 = some (((.invokevirtual 213), 3, (1, 0, 15), [7131, 7132, 7133], yX11_save, 0)) := mw_is_eq (by decide +kernel)
theorem l_L_law_14 : mw_lk d_L_law 14 = some (mw_b (.istore_n 3) 1 3) := mw_is_eq (by decide +kernel)
theorem l_L_law_15 : mw_lk d_L_law 15 = some (mw_b (.aload_n 1) 1 1) := mw_is_eq (by decide +kernel)
theorem l_L_law_16 : mw_lk d_L_law 16 = some (((.invokestatic 216), 3, (1, 1, 0), [7227, 7228], yL_state, 0)) := mw_is_eq (by decide +kernel)
theorem l_L_law_19 : mw_lk d_L_law 19 = some (mw_b (.istore 4) 2 4) := mw_is_eq (by decide +kernel)
theorem l_L_law_21 : mw_lk d_L_law 21 = some (mw_b (.aload_n 1) 1 1) := mw_is_eq (by decide +kernel)
theorem l_L_law_22 : mw_lk d_L_law 22 = some (((.ldc 219), 2, (1, 10, 0), [], mw_nm, 0)) := mw_is_eq (by decide +kernel)
theorem l_L_law_24 : mw_lk d_L_law 24 = some (((.invokestatic 221), 3, (2, 1, 0), [7142, 7143], yL_put, 0)) := mw_is_eq (by decide +kernel)
theorem l_L_law_27 : mw_lk d_L_law 27 = some (mw_b (.aload_n 1) 1 1) := mw_is_eq (by decide +kernel)
theorem l_L_law_28 : mw_lk d_L_law 28 = some (((.invokevirtual 225), 3, (1, 0, 15), [5153, 5154, 5155], yX11_run, 0)) := mw_is_eq (by decide +kernel)
theorem l_L_law_31 : mw_lk d_L_law 31 = some (mw_c (.iconst 3) 1 (3)) := mw_is_eq (by decide +kernel)
theorem l_L_law_32 : mw_lk d_L_law 32 = some (mw_b (.if_icmp .ne 39) 3 71) := mw_is_eq (by decide +kernel)
theorem l_L_law_35 : mw_lk d_L_law 35 = some (mw_b (.aload_n 2) 1 2) := mw_is_eq (by decide +kernel)
theorem l_L_law_36 : mw_lk d_L_law 36 = some (mw_c (.iconst 5) 1 (5)) := mw_is_eq (by decide +kernel)
theorem l_L_law_37 : mw_lk d_L_law 37 = some (((.invokevirtual 83), 3, (2, 0, 15), [5087, 5088, 5089], yX11_pass, 0)) := mw_is_eq (by decide +kernel)
theorem l_L_law_40 : mw_lk d_L_law 40 = some (mw_b (.ifCond .lt 31) 3 71) := mw_is_eq (by decide +kernel)
theorem l_L_law_43 : mw_lk d_L_law 43 = some (mw_b (.aload_n 2) 1 2) := mw_is_eq (by decide +kernel)
theorem l_L_law_44 : mw_lk d_L_law 44 = some (mw_c (.bipush 24) 2 (24)) := mw_is_eq (by decide +kernel)
theorem l_L_law_46 : mw_lk d_L_law 46 = some (((.invokevirtual 83), 3, (2, 0, 15), [5087, 5088, 5089], yX11_pass, 0)) := mw_is_eq (by decide +kernel)
theorem l_L_law_49 : mw_lk d_L_law 49 = some (mw_b (.ifCond .lt 22) 3 71) := mw_is_eq (by decide +kernel)
theorem l_L_law_52 : mw_lk d_L_law 52 = some (mw_b (.aload_n 2) 1 2) := mw_is_eq (by decide +kernel)
theorem l_L_law_53 : mw_lk d_L_law 53 = some (mw_c (.iconst 1) 1 (1)) := mw_is_eq (by decide +kernel)
theorem l_L_law_54 : mw_lk d_L_law 54 = some (((.invokevirtual 83), 3, (2, 0, 15), [5087, 5088, 5089], yX11_pass, 0)) := mw_is_eq (by decide +kernel)
theorem l_L_law_57 : mw_lk d_L_law 57 = some (mw_b (.ifCond .lt 14) 3 71) := mw_is_eq (by decide +kernel)
theorem l_L_law_60 : mw_lk d_L_law 60 = some (mw_b (.aload_n 1) 1 1) := mw_is_eq (by decide +kernel)
theorem l_L_law_61 : mw_lk d_L_law 61 = some (((.invokestatic 216), 3, (1, 1, 0), [7227, 7228], yL_state, 0)) := mw_is_eq (by decide +kernel)
theorem l_L_law_64 : mw_lk d_L_law 64 = some (mw_b (.aload_n 2) 1 2) := mw_is_eq (by decide +kernel)
theorem l_L_law_65 : mw_lk d_L_law 65 = some (((.invokestatic 216), 3, (1, 1, 0), [7227, 7228], yL_state, 0)) := mw_is_eq (by decide +kernel)
theorem l_L_law_68 : mw_lk d_L_law 68 = some (mw_b (.if_icmp .eq 5) 3 73) := mw_is_eq (by decide +kernel)
theorem l_L_law_71 : mw_lk d_L_law 71 = some (mw_c (.iconst 0) 1 (0)) := mw_is_eq (by decide +kernel)
theorem l_L_law_72 : mw_lk d_L_law 72 = some (mw_a (.ireturn) 1) := mw_is_eq (by decide +kernel)
theorem l_L_law_73 : mw_lk d_L_law 73 = some (mw_b (.aload_n 1) 1 1) := mw_is_eq (by decide +kernel)
theorem l_L_law_74 : mw_lk d_L_law 74 = some (((.invokevirtual 228), 3, (1, 0, 15), [7123, 7124, 7125], yX11_undo, 0)) := mw_is_eq (by decide +kernel)
theorem l_L_law_77 : mw_lk d_L_law 77 = some (mw_b (.ifCond .lt 42) 3 119) := mw_is_eq (by decide +kernel)
theorem l_L_law_80 : mw_lk d_L_law 80 = some (mw_b (.aload_n 1) 1 1) := mw_is_eq (by decide +kernel)
theorem l_L_law_81 : mw_lk d_L_law 81 = some (((.invokestatic 216), 3, (1, 1, 0), [7227, 7228], yL_state, 0)) := mw_is_eq (by decide +kernel)
theorem l_L_law_84 : mw_lk d_L_law 84 = some (mw_b (.iload 4) 2 4) := mw_is_eq (by decide +kernel)
theorem l_L_law_86 : mw_lk d_L_law 86 = some (mw_b (.if_icmp .ne 33) 3 119) := mw_is_eq (by decide +kernel)
theorem l_L_law_89 : mw_lk d_L_law 89 = some (mw_b (.aload_n 2) 1 2) := mw_is_eq (by decide +kernel)
theorem l_L_law_90 : mw_lk d_L_law 90 = some (((.invokevirtual 228), 3, (1, 0, 15), [7123, 7124, 7125], yX11_undo, 0)) := mw_is_eq (by decide +kernel)
theorem l_L_law_93 : mw_lk d_L_law 93 = some (mw_b (.ifCond .lt 26) 3 119) := mw_is_eq (by decide +kernel)
theorem l_L_law_96 : mw_lk d_L_law 96 = some (mw_b (.aload_n 2) 1 2) := mw_is_eq (by decide +kernel)
theorem l_L_law_97 : mw_lk d_L_law 97 = some (((.invokevirtual 228), 3, (1, 0, 15), [7123, 7124, 7125], yX11_undo, 0)) := mw_is_eq (by decide +kernel)
theorem l_L_law_100 : mw_lk d_L_law 100 = some (mw_b (.ifCond .lt 19) 3 119) := mw_is_eq (by decide +kernel)
theorem l_L_law_103 : mw_lk d_L_law 103 = some (mw_b (.aload_n 2) 1 2) := mw_is_eq (by decide +kernel)
theorem l_L_law_104 : mw_lk d_L_law 104 = some (((.invokevirtual 228), 3, (1, 0, 15), [7123, 7124, 7125], yX11_undo, 0)) := mw_is_eq (by decide +kernel)
theorem l_L_law_107 : mw_lk d_L_law 107 = some (mw_b (.ifCond .lt 12) 3 119) := mw_is_eq (by decide +kernel)
theorem l_L_law_110 : mw_lk d_L_law 110 = some (mw_b (.aload_n 2) 1 2) := mw_is_eq (by decide +kernel)
theorem l_L_law_111 : mw_lk d_L_law 111 = some (((.invokestatic 216), 3, (1, 1, 0), [7227, 7228], yL_state, 0)) := mw_is_eq (by decide +kernel)
theorem l_L_law_114 : mw_lk d_L_law 114 = some (mw_b (.iload 4) 2 4) := mw_is_eq (by decide +kernel)
theorem l_L_law_116 : mw_lk d_L_law 116 = some (mw_b (.if_icmp .eq 5) 3 121) := mw_is_eq (by decide +kernel)
theorem l_L_law_119 : mw_lk d_L_law 119 = some (mw_c (.iconst 0) 1 (0)) := mw_is_eq (by decide +kernel)
theorem l_L_law_120 : mw_lk d_L_law 120 = some (mw_a (.ireturn) 1) := mw_is_eq (by decide +kernel)
theorem l_L_law_121 : mw_lk d_L_law 121 = some (mw_b (.aload_n 1) 1 1) := mw_is_eq (by decide +kernel)
theorem l_L_law_122 : mw_lk d_L_law 122 = some (((.ldc 231), 2, (1, 11, 0), [], mw_nm, 0)) := mw_is_eq (by decide +kernel)
theorem l_L_law_124 : mw_lk d_L_law 124 = some (((.invokestatic 221), 3, (2, 1, 0), [7142, 7143], yL_put, 0)) := mw_is_eq (by decide +kernel)
theorem l_L_law_127 : mw_lk d_L_law 127 = some (mw_b (.aload_n 1) 1 1) := mw_is_eq (by decide +kernel)
theorem l_L_law_128 : mw_lk d_L_law 128 = some (((.invokestatic 233), 3, (1, 5, 0), [8188, 8189], yL_runs, 0)) := mw_is_eq (by decide +kernel)
theorem l_L_law_131 : mw_lk d_L_law 131 = some (mw_c (.bipush (-2)) 2 (-2)) := mw_is_eq (by decide +kernel)
theorem l_L_law_133 : mw_lk d_L_law 133 = some (mw_b (.if_icmp .ne 20) 3 153) := mw_is_eq (by decide +kernel)
theorem l_L_law_136 : mw_lk d_L_law 136 = some (mw_b (.aload_n 1) 1 1) := mw_is_eq (by decide +kernel)
theorem l_L_law_137 : mw_lk d_L_law 137 = some (((.invokevirtual 236), 3, (1, 0, 15), [6023, 6024, 6025], yX11_failedCommand, 0)) := mw_is_eq (by decide +kernel)
theorem l_L_law_140 : mw_lk d_L_law 140 = some (mw_c (.iconst 1) 1 (1)) := mw_is_eq (by decide +kernel)
theorem l_L_law_141 : mw_lk d_L_law 141 = some (mw_b (.if_icmp .ne 12) 3 153) := mw_is_eq (by decide +kernel)
theorem l_L_law_144 : mw_lk d_L_law 144 = some (mw_b (.aload_n 1) 1 1) := mw_is_eq (by decide +kernel)
theorem l_L_law_145 : mw_lk d_L_law 145 = some (((.invokestatic 216), 3, (1, 1, 0), [7227, 7228], yL_state, 0)) := mw_is_eq (by decide +kernel)
theorem l_L_law_148 : mw_lk d_L_law 148 = some (mw_b (.iload 4) 2 4) := mw_is_eq (by decide +kernel)
theorem l_L_law_150 : mw_lk d_L_law 150 = some (mw_b (.if_icmp .eq 5) 3 155) := mw_is_eq (by decide +kernel)
theorem l_L_law_153 : mw_lk d_L_law 153 = some (mw_c (.iconst 0) 1 (0)) := mw_is_eq (by decide +kernel)
theorem l_L_law_154 : mw_lk d_L_law 154 = some (mw_a (.ireturn) 1) := mw_is_eq (by decide +kernel)
theorem l_L_law_155 : mw_lk d_L_law 155 = some (mw_b (.aload_n 1) 1 1) := mw_is_eq (by decide +kernel)
theorem l_L_law_156 : mw_lk d_L_law 156 = some (((.ldc 239), 2, (1, 12, 0), [], mw_nm, 0)) := mw_is_eq (by decide +kernel)
theorem l_L_law_158 : mw_lk d_L_law 158 = some (((.invokestatic 221), 3, (2, 1, 0), [7142, 7143], yL_put, 0)) := mw_is_eq (by decide +kernel)
theorem l_L_law_161 : mw_lk d_L_law 161 = some (mw_b (.aload_n 1) 1 1) := mw_is_eq (by decide +kernel)
theorem l_L_law_162 : mw_lk d_L_law 162 = some (((.invokestatic 233), 3, (1, 5, 0), [8188, 8189], yL_runs, 0)) := mw_is_eq (by decide +kernel)
theorem l_L_law_165 : mw_lk d_L_law 165 = some (mw_c (.bipush (-2)) 2 (-2)) := mw_is_eq (by decide +kernel)
theorem l_L_law_167 : mw_lk d_L_law 167 = some (mw_b (.if_icmp .ne 19) 3 186) := mw_is_eq (by decide +kernel)
theorem l_L_law_170 : mw_lk d_L_law 170 = some (mw_b (.aload_n 1) 1 1) := mw_is_eq (by decide +kernel)
theorem l_L_law_171 : mw_lk d_L_law 171 = some (((.invokevirtual 236), 3, (1, 0, 15), [6023, 6024, 6025], yX11_failedCommand, 0)) := mw_is_eq (by decide +kernel)
theorem l_L_law_174 : mw_lk d_L_law 174 = some (mw_b (.ifCond .ne 12) 3 186) := mw_is_eq (by decide +kernel)
theorem l_L_law_177 : mw_lk d_L_law 177 = some (mw_b (.aload_n 1) 1 1) := mw_is_eq (by decide +kernel)
theorem l_L_law_178 : mw_lk d_L_law 178 = some (((.invokestatic 216), 3, (1, 1, 0), [7227, 7228], yL_state, 0)) := mw_is_eq (by decide +kernel)
theorem l_L_law_181 : mw_lk d_L_law 181 = some (mw_b (.iload 4) 2 4) := mw_is_eq (by decide +kernel)
theorem l_L_law_183 : mw_lk d_L_law 183 = some (mw_b (.if_icmp .eq 5) 3 188) := mw_is_eq (by decide +kernel)
theorem l_L_law_186 : mw_lk d_L_law 186 = some (mw_c (.iconst 0) 1 (0)) := mw_is_eq (by decide +kernel)
theorem l_L_law_187 : mw_lk d_L_law 187 = some (mw_a (.ireturn) 1) := mw_is_eq (by decide +kernel)
theorem l_L_law_188 : mw_lk d_L_law 188 = some (mw_b (.aload_n 1) 1 1) := mw_is_eq (by decide +kernel)
theorem l_L_law_189 : mw_lk d_L_law 189 = some (((.ldc 241), 2, (1, 13, 0), [], mw_nm, 0)) := mw_is_eq (by decide +kernel)
theorem l_L_law_191 : mw_lk d_L_law 191 = some (mw_c (.iconst 1) 1 (1)) := mw_is_eq (by decide +kernel)
theorem l_L_law_192 : mw_lk d_L_law 192 = some (((.invokestatic 243), 3, (3, 1, 0), [8191, 8192], yL_fails, 0)) := mw_is_eq (by decide +kernel)
theorem l_L_law_195 : mw_lk d_L_law 195 = some (mw_b (.ifCond .eq 119) 3 314) := mw_is_eq (by decide +kernel)
theorem l_L_law_198 : mw_lk d_L_law 198 = some (mw_b (.aload_n 1) 1 1) := mw_is_eq (by decide +kernel)
theorem l_L_law_199 : mw_lk d_L_law 199 = some (((.ldc 247), 2, (1, 14, 0), [], mw_nm, 0)) := mw_is_eq (by decide +kernel)
theorem l_L_law_201 : mw_lk d_L_law 201 = some (mw_c (.iconst 1) 1 (1)) := mw_is_eq (by decide +kernel)
theorem l_L_law_202 : mw_lk d_L_law 202 = some (((.invokestatic 243), 3, (3, 1, 0), [8191, 8192], yL_fails, 0)) := mw_is_eq (by decide +kernel)
theorem l_L_law_205 : mw_lk d_L_law 205 = some (mw_b (.ifCond .eq 109) 3 314) := mw_is_eq (by decide +kernel)
theorem l_L_law_208 : mw_lk d_L_law 208 = some (mw_b (.aload_n 1) 1 1) := mw_is_eq (by decide +kernel)
theorem l_L_law_209 : mw_lk d_L_law 209 = some (((.ldc 249), 2, (1, 15, 0), [], mw_nm, 0)) := mw_is_eq (by decide +kernel)
theorem l_L_law_211 : mw_lk d_L_law 211 = some (mw_c (.bipush 9) 2 (9)) := mw_is_eq (by decide +kernel)
theorem l_L_law_213 : mw_lk d_L_law 213 = some (((.invokestatic 243), 3, (3, 1, 0), [8191, 8192], yL_fails, 0)) := mw_is_eq (by decide +kernel)
theorem l_L_law_216 : mw_lk d_L_law 216 = some (mw_b (.ifCond .eq 98) 3 314) := mw_is_eq (by decide +kernel)
theorem l_L_law_219 : mw_lk d_L_law 219 = some (mw_b (.aload_n 1) 1 1) := mw_is_eq (by decide +kernel)
theorem l_L_law_220 : mw_lk d_L_law 220 = some (((.ldc 251), 2, (1, 16, 0), [], mw_nm, 0)) := mw_is_eq (by decide +kernel)
theorem l_L_law_222 : mw_lk d_L_law 222 = some (mw_c (.bipush 9) 2 (9)) := mw_is_eq (by decide +kernel)
theorem l_L_law_224 : mw_lk d_L_law 224 = some (((.invokestatic 243), 3, (3, 1, 0), [8191, 8192], yL_fails, 0)) := mw_is_eq (by decide +kernel)
theorem l_L_law_227 : mw_lk d_L_law 227 = some (mw_b (.ifCond .eq 87) 3 314) := mw_is_eq (by decide +kernel)
theorem l_L_law_230 : mw_lk d_L_law 230 = some (mw_b (.aload_n 1) 1 1) := mw_is_eq (by decide +kernel)
theorem l_L_law_231 : mw_lk d_L_law 231 = some (((.ldc 253), 2, (1, 17, 0), [], mw_nm, 0)) := mw_is_eq (by decide +kernel)
theorem l_L_law_233 : mw_lk d_L_law 233 = some (mw_c (.bipush 7) 2 (7)) := mw_is_eq (by decide +kernel)
theorem l_L_law_235 : mw_lk d_L_law 235 = some (((.invokestatic 243), 3, (3, 1, 0), [8191, 8192], yL_fails, 0)) := mw_is_eq (by decide +kernel)
theorem l_L_law_238 : mw_lk d_L_law 238 = some (mw_b (.ifCond .eq 76) 3 314) := mw_is_eq (by decide +kernel)
theorem l_L_law_241 : mw_lk d_L_law 241 = some (mw_b (.aload_n 1) 1 1) := mw_is_eq (by decide +kernel)
theorem l_L_law_242 : mw_lk d_L_law 242 = some (((.ldc 255), 2, (1, 18, 0), [], mw_nm, 0)) := mw_is_eq (by decide +kernel)
theorem l_L_law_244 : mw_lk d_L_law 244 = some (mw_c (.iconst 0) 1 (0)) := mw_is_eq (by decide +kernel)
theorem l_L_law_245 : mw_lk d_L_law 245 = some (((.invokestatic 243), 3, (3, 1, 0), [8191, 8192], yL_fails, 0)) := mw_is_eq (by decide +kernel)
theorem l_L_law_248 : mw_lk d_L_law 248 = some (mw_b (.ifCond .eq 66) 3 314) := mw_is_eq (by decide +kernel)
theorem l_L_law_251 : mw_lk d_L_law 251 = some (mw_b (.aload_n 1) 1 1) := mw_is_eq (by decide +kernel)
theorem l_L_law_252 : mw_lk d_L_law 252 = some (((.ldc_w 257), 3, (1, 19, 0), [], mw_nm, 0)) := mw_is_eq (by decide +kernel)
theorem l_L_law_255 : mw_lk d_L_law 255 = some (mw_c (.bipush 7) 2 (7)) := mw_is_eq (by decide +kernel)
theorem l_L_law_257 : mw_lk d_L_law 257 = some (((.invokestatic 243), 3, (3, 1, 0), [8191, 8192], yL_fails, 0)) := mw_is_eq (by decide +kernel)
theorem l_L_law_260 : mw_lk d_L_law 260 = some (mw_b (.ifCond .eq 54) 3 314) := mw_is_eq (by decide +kernel)
theorem l_L_law_263 : mw_lk d_L_law 263 = some (mw_b (.aload_n 1) 1 1) := mw_is_eq (by decide +kernel)
theorem l_L_law_264 : mw_lk d_L_law 264 = some (((.ldc_w 259), 3, (1, 20, 0), [], mw_nm, 0)) := mw_is_eq (by decide +kernel)
theorem l_L_law_267 : mw_lk d_L_law 267 = some (mw_c (.bipush 7) 2 (7)) := mw_is_eq (by decide +kernel)
theorem l_L_law_269 : mw_lk d_L_law 269 = some (((.invokestatic 243), 3, (3, 1, 0), [8191, 8192], yL_fails, 0)) := mw_is_eq (by decide +kernel)
theorem l_L_law_272 : mw_lk d_L_law 272 = some (mw_b (.ifCond .eq 42) 3 314) := mw_is_eq (by decide +kernel)
theorem l_L_law_275 : mw_lk d_L_law 275 = some (mw_b (.aload_n 1) 1 1) := mw_is_eq (by decide +kernel)
theorem l_L_law_276 : mw_lk d_L_law 276 = some (((.ldc_w 261), 3, (1, 21, 0), [], mw_nm, 0)) := mw_is_eq (by decide +kernel)
theorem l_L_law_279 : mw_lk d_L_law 279 = some (mw_c (.bipush 9) 2 (9)) := mw_is_eq (by decide +kernel)
theorem l_L_law_281 : mw_lk d_L_law 281 = some (((.invokestatic 243), 3, (3, 1, 0), [8191, 8192], yL_fails, 0)) := mw_is_eq (by decide +kernel)
theorem l_L_law_284 : mw_lk d_L_law 284 = some (mw_b (.ifCond .eq 30) 3 314) := mw_is_eq (by decide +kernel)
theorem l_L_law_287 : mw_lk d_L_law 287 = some (mw_b (.aload_n 1) 1 1) := mw_is_eq (by decide +kernel)
theorem l_L_law_288 : mw_lk d_L_law 288 = some (((.ldc_w 263), 3, (1, 22, 0), [], mw_nm, 0)) := mw_is_eq (by decide +kernel)
theorem l_L_law_291 : mw_lk d_L_law 291 = some (mw_c (.iconst 0) 1 (0)) := mw_is_eq (by decide +kernel)
theorem l_L_law_292 : mw_lk d_L_law 292 = some (((.invokestatic 243), 3, (3, 1, 0), [8191, 8192], yL_fails, 0)) := mw_is_eq (by decide +kernel)
theorem l_L_law_295 : mw_lk d_L_law 295 = some (mw_b (.ifCond .eq 19) 3 314) := mw_is_eq (by decide +kernel)
theorem l_L_law_298 : mw_lk d_L_law 298 = some (mw_b (.aload_n 1) 1 1) := mw_is_eq (by decide +kernel)
theorem l_L_law_299 : mw_lk d_L_law 299 = some (((.invokevirtual 236), 3, (1, 0, 15), [6023, 6024, 6025], yX11_failedCommand, 0)) := mw_is_eq (by decide +kernel)
theorem l_L_law_302 : mw_lk d_L_law 302 = some (mw_b (.ifCond .ne 12) 3 314) := mw_is_eq (by decide +kernel)
theorem l_L_law_305 : mw_lk d_L_law 305 = some (mw_b (.aload_n 1) 1 1) := mw_is_eq (by decide +kernel)
theorem l_L_law_306 : mw_lk d_L_law 306 = some (((.invokestatic 216), 3, (1, 1, 0), [7227, 7228], yL_state, 0)) := mw_is_eq (by decide +kernel)
theorem l_L_law_309 : mw_lk d_L_law 309 = some (mw_b (.iload 4) 2 4) := mw_is_eq (by decide +kernel)
theorem l_L_law_311 : mw_lk d_L_law 311 = some (mw_b (.if_icmp .eq 5) 3 316) := mw_is_eq (by decide +kernel)
theorem l_L_law_314 : mw_lk d_L_law 314 = some (mw_c (.iconst 0) 1 (0)) := mw_is_eq (by decide +kernel)
theorem l_L_law_315 : mw_lk d_L_law 315 = some (mw_a (.ireturn) 1) := mw_is_eq (by decide +kernel)
theorem l_L_law_316 : mw_lk d_L_law 316 = some (mw_b (.aload_n 0) 1 0) := mw_is_eq (by decide +kernel)
theorem l_L_law_317 : mw_lk d_L_law 317 = some (mw_c (.bipush 13) 2 (13)) := mw_is_eq (by decide +kernel)
theorem l_L_law_319 : mw_lk d_L_law 319 = some (((.invokestatic 24), 3, (2, 1, 0), [7139, 7140], yL_at, 0)) := mw_is_eq (by decide +kernel)
theorem l_L_law_322 : mw_lk d_L_law 322 = some (mw_b (.istore 5) 2 5) := mw_is_eq (by decide +kernel)
theorem l_L_law_324 : mw_lk d_L_law 324 = some (mw_c (.iconst 1) 1 (1)) := mw_is_eq (by decide +kernel)
theorem l_L_law_325 : mw_lk d_L_law 325 = some (mw_b (.iload 5) 2 5) := mw_is_eq (by decide +kernel)
theorem l_L_law_327 : mw_lk d_L_law 327 = some (mw_c (.bipush 15) 2 (15)) := mw_is_eq (by decide +kernel)
theorem l_L_law_329 : mw_lk d_L_law 329 = some (mw_a (.iand) 1) := mw_is_eq (by decide +kernel)
theorem l_L_law_330 : mw_lk d_L_law 330 = some (mw_a (.iadd) 1) := mw_is_eq (by decide +kernel)
theorem l_L_law_331 : mw_lk d_L_law 331 = some (mw_b (.istore 6) 2 6) := mw_is_eq (by decide +kernel)
theorem l_L_law_333 : mw_lk d_L_law 333 = some (mw_c (.iconst 1) 1 (1)) := mw_is_eq (by decide +kernel)
theorem l_L_law_334 : mw_lk d_L_law 334 = some (mw_b (.iload 5) 2 5) := mw_is_eq (by decide +kernel)
theorem l_L_law_336 : mw_lk d_L_law 336 = some (mw_c (.iconst 4) 1 (4)) := mw_is_eq (by decide +kernel)
theorem l_L_law_337 : mw_lk d_L_law 337 = some (mw_a (.ishr) 1) := mw_is_eq (by decide +kernel)
theorem l_L_law_338 : mw_lk d_L_law 338 = some (mw_c (.iconst 3) 1 (3)) := mw_is_eq (by decide +kernel)
theorem l_L_law_339 : mw_lk d_L_law 339 = some (mw_a (.iand) 1) := mw_is_eq (by decide +kernel)
theorem l_L_law_340 : mw_lk d_L_law 340 = some (mw_a (.iadd) 1) := mw_is_eq (by decide +kernel)
theorem l_L_law_341 : mw_lk d_L_law 341 = some (mw_b (.istore 7) 2 7) := mw_is_eq (by decide +kernel)
theorem l_L_law_343 : mw_lk d_L_law 343 = some (((.new 18), 3, (15, 13, 0), [1041, 1042, 1001], mw_nm, 0)) := mw_is_eq (by decide +kernel)
theorem l_L_law_346 : mw_lk d_L_law 346 = some (mw_a (.dup) 1) := mw_is_eq (by decide +kernel)
theorem l_L_law_347 : mw_lk d_L_law 347 = some (((.invokespecial 23), 3, (1, 2, 0), [1043, 1044], yX11_init, 0)) := mw_is_eq (by decide +kernel)
theorem l_L_law_350 : mw_lk d_L_law 350 = some (mw_b (.astore 8) 2 8) := mw_is_eq (by decide +kernel)
theorem l_L_law_352 : mw_lk d_L_law 352 = some (mw_b (.aload 8) 2 8) := mw_is_eq (by decide +kernel)
theorem l_L_law_354 : mw_lk d_L_law 354 = some (((.invokevirtual 265), 3, (1, 0, 15), [7099, 7100, 7101], yX11_isConsistent, 0)) := mw_is_eq (by decide +kernel)
theorem l_L_law_357 : mw_lk d_L_law 357 = some (mw_b (.ifCond .eq 75) 3 432) := mw_is_eq (by decide +kernel)
theorem l_L_law_360 : mw_lk d_L_law 360 = some (mw_b (.aload 8) 2 8) := mw_is_eq (by decide +kernel)
theorem l_L_law_362 : mw_lk d_L_law 362 = some (((.invokevirtual 101), 3, (1, 0, 15), [3220, 3221, 3222], yX11_cheapestNet, 0)) := mw_is_eq (by decide +kernel)
theorem l_L_law_365 : mw_lk d_L_law 365 = some (mw_b (.ifCond .ne 67) 3 432) := mw_is_eq (by decide +kernel)
theorem l_L_law_368 : mw_lk d_L_law 368 = some (mw_b (.aload 8) 2 8) := mw_is_eq (by decide +kernel)
theorem l_L_law_370 : mw_lk d_L_law 370 = some (mw_c (.bipush 9) 2 (9)) := mw_is_eq (by decide +kernel)
theorem l_L_law_372 : mw_lk d_L_law 372 = some (((.invokevirtual 268), 3, (2, 0, 15), [3061, 3062, 3063], yX11_tide, 0)) := mw_is_eq (by decide +kernel)
theorem l_L_law_375 : mw_lk d_L_law 375 = some (mw_c (.iconst 3) 1 (3)) := mw_is_eq (by decide +kernel)
theorem l_L_law_376 : mw_lk d_L_law 376 = some (mw_b (.if_icmp .ne 56) 3 432) := mw_is_eq (by decide +kernel)
theorem l_L_law_379 : mw_lk d_L_law 379 = some (mw_b (.aload 8) 2 8) := mw_is_eq (by decide +kernel)
theorem l_L_law_381 : mw_lk d_L_law 381 = some (mw_c (.bipush 6) 2 (6)) := mw_is_eq (by decide +kernel)
theorem l_L_law_383 : mw_lk d_L_law 383 = some (((.invokevirtual 268), 3, (2, 0, 15), [3061, 3062, 3063], yX11_tide, 0)) := mw_is_eq (by decide +kernel)
theorem l_L_law_386 : mw_lk d_L_law 386 = some (mw_c (.bipush 6) 2 (6)) := mw_is_eq (by decide +kernel)
theorem l_L_law_388 : mw_lk d_L_law 388 = some (mw_b (.if_icmp .ne 44) 3 432) := mw_is_eq (by decide +kernel)
theorem l_L_law_391 : mw_lk d_L_law 391 = some (mw_b (.aload 8) 2 8) := mw_is_eq (by decide +kernel)
theorem l_L_law_393 : mw_lk d_L_law 393 = some (mw_c (.iconst 2) 1 (2)) := mw_is_eq (by decide +kernel)
theorem l_L_law_394 : mw_lk d_L_law 394 = some (mw_c (.iconst 0) 1 (0)) := mw_is_eq (by decide +kernel)
theorem l_L_law_395 : mw_lk d_L_law 395 = some (mw_c (.iconst 0) 1 (0)) := mw_is_eq (by decide +kernel)
theorem l_L_law_396 : mw_lk d_L_law 396 = some (mw_c (.iconst 0) 1 (0)) := mw_is_eq (by decide +kernel)
theorem l_L_law_397 : mw_lk d_L_law 397 = some (((.invokestatic 30), 3, (5, 5, 0), [7158, 7159], yL_act, 0)) := mw_is_eq (by decide +kernel)
theorem l_L_law_400 : mw_lk d_L_law 400 = some (mw_c (.iconst (-1)) 1 (-1)) := mw_is_eq (by decide +kernel)
theorem l_L_law_401 : mw_lk d_L_law 401 = some (mw_b (.if_icmp .ne 31) 3 432) := mw_is_eq (by decide +kernel)
theorem l_L_law_404 : mw_lk d_L_law 404 = some (mw_b (.aload 8) 2 8) := mw_is_eq (by decide +kernel)
theorem l_L_law_406 : mw_lk d_L_law 406 = some (mw_c (.iconst 4) 1 (4)) := mw_is_eq (by decide +kernel)
theorem l_L_law_407 : mw_lk d_L_law 407 = some (mw_c (.iconst 0) 1 (0)) := mw_is_eq (by decide +kernel)
theorem l_L_law_408 : mw_lk d_L_law 408 = some (mw_c (.iconst 0) 1 (0)) := mw_is_eq (by decide +kernel)
theorem l_L_law_409 : mw_lk d_L_law 409 = some (mw_c (.iconst 0) 1 (0)) := mw_is_eq (by decide +kernel)
theorem l_L_law_410 : mw_lk d_L_law 410 = some (((.invokestatic 30), 3, (5, 5, 0), [7158, 7159], yL_act, 0)) := mw_is_eq (by decide +kernel)
theorem l_L_law_413 : mw_lk d_L_law 413 = some (mw_c (.bipush (-5)) 2 (-5)) := mw_is_eq (by decide +kernel)
theorem l_L_law_415 : mw_lk d_L_law 415 = some (mw_b (.if_icmp .ne 17) 3 432) := mw_is_eq (by decide +kernel)
theorem l_L_law_418 : mw_lk d_L_law 418 = some (mw_b (.aload 8) 2 8) := mw_is_eq (by decide +kernel)
theorem l_L_law_420 : mw_lk d_L_law 420 = some (mw_c (.bipush 17) 2 (17)) := mw_is_eq (by decide +kernel)
theorem l_L_law_422 : mw_lk d_L_law 422 = some (mw_c (.iconst 0) 1 (0)) := mw_is_eq (by decide +kernel)
theorem l_L_law_423 : mw_lk d_L_law 423 = some (mw_c (.iconst 0) 1 (0)) := mw_is_eq (by decide +kernel)
theorem l_L_law_424 : mw_lk d_L_law 424 = some (mw_c (.iconst 0) 1 (0)) := mw_is_eq (by decide +kernel)
theorem l_L_law_425 : mw_lk d_L_law 425 = some (((.invokestatic 30), 3, (5, 5, 0), [7158, 7159], yL_act, 0)) := mw_is_eq (by decide +kernel)
theorem l_L_law_428 : mw_lk d_L_law 428 = some (mw_c (.iconst (-1)) 1 (-1)) := mw_is_eq (by decide +kernel)
theorem l_L_law_429 : mw_lk d_L_law 429 = some (mw_b (.if_icmp .eq 5) 3 434) := mw_is_eq (by decide +kernel)
theorem l_L_law_432 : mw_lk d_L_law 432 = some (mw_c (.iconst 0) 1 (0)) := mw_is_eq (by decide +kernel)
theorem l_L_law_433 : mw_lk d_L_law 433 = some (mw_a (.ireturn) 1) := mw_is_eq (by decide +kernel)
theorem l_L_law_434 : mw_lk d_L_law 434 = some (mw_b (.aload 8) 2 8) := mw_is_eq (by decide +kernel)
theorem l_L_law_436 : mw_lk d_L_law 436 = some (((.new 271), 3, (1, 4, 0), [8198, 2225, 1014], mw_nm, 0)) := mw_is_eq (by decide +kernel)
theorem l_L_law_439 : mw_lk d_L_law 439 = some (mw_a (.dup) 1) := mw_is_eq (by decide +kernel)
theorem l_L_law_440 : mw_lk d_L_law 440 = some (((.invokespecial 273), 3, (1, 2, 0), [8199, 2227], yJ4_init_da8c8, 0)) := mw_is_eq (by decide +kernel)
theorem l_L_law_443 : mw_lk d_L_law 443 = some (((.ldc_w 274), 3, (1, 23, 0), [], mw_nm, 0)) := mw_is_eq (by decide +kernel)
theorem l_L_law_446 : mw_lk d_L_law 446 = some (((.invokevirtual 276), 3, (2, 0, 1), [8200, 6047, 6048], yJ4_append_15ec4, 0)) := mw_is_eq (by decide +kernel)
theorem l_L_law_449 : mw_lk d_L_law 449 = some (mw_b (.iload 7) 2 7) := mw_is_eq (by decide +kernel)
theorem l_L_law_451 : mw_lk d_L_law 451 = some (((.invokevirtual 279), 3, (2, 0, 1), [8201, 6142, 6143], yJ4_append_bf812, 0)) := mw_is_eq (by decide +kernel)
theorem l_L_law_454 : mw_lk d_L_law 454 = some (((.ldc_w 282), 3, (1, 24, 0), [], mw_nm, 0)) := mw_is_eq (by decide +kernel)
theorem l_L_law_457 : mw_lk d_L_law 457 = some (((.invokevirtual 276), 3, (2, 0, 1), [8200, 6047, 6048], yJ4_append_15ec4, 0)) := mw_is_eq (by decide +kernel)
theorem l_L_law_460 : mw_lk d_L_law 460 = some (((.invokevirtual 284), 3, (1, 0, 1), [8202, 6167, 6168], yJ4_toString_0e30d, 0)) := mw_is_eq (by decide +kernel)
theorem l_L_law_463 : mw_lk d_L_law 463 = some (((.invokestatic 221), 3, (2, 1, 0), [7142, 7143], yL_put, 0)) := mw_is_eq (by decide +kernel)
theorem l_L_law_466 : mw_lk d_L_law 466 = some (mw_b (.aload 8) 2 8) := mw_is_eq (by decide +kernel)
theorem l_L_law_468 : mw_lk d_L_law 468 = some (((.invokevirtual 225), 3, (1, 0, 15), [5153, 5154, 5155], yX11_run, 0)) := mw_is_eq (by decide +kernel)
theorem l_L_law_471 : mw_lk d_L_law 471 = some (mw_c (.iconst 5) 1 (5)) := mw_is_eq (by decide +kernel)
theorem l_L_law_472 : mw_lk d_L_law 472 = some (mw_b (.if_icmp .ne 69) 3 541) := mw_is_eq (by decide +kernel)
theorem l_L_law_475 : mw_lk d_L_law 475 = some (mw_b (.aload 8) 2 8) := mw_is_eq (by decide +kernel)
theorem l_L_law_477 : mw_lk d_L_law 477 = some (((.invokevirtual 101), 3, (1, 0, 15), [3220, 3221, 3222], yX11_cheapestNet, 0)) := mw_is_eq (by decide +kernel)
theorem l_L_law_480 : mw_lk d_L_law 480 = some (mw_b (.iload 7) 2 7) := mw_is_eq (by decide +kernel)
theorem l_L_law_482 : mw_lk d_L_law 482 = some (mw_c (.iconst 3) 1 (3)) := mw_is_eq (by decide +kernel)
theorem l_L_law_483 : mw_lk d_L_law 483 = some (mw_a (.iadd) 1) := mw_is_eq (by decide +kernel)
theorem l_L_law_484 : mw_lk d_L_law 484 = some (mw_b (.if_icmp .ne 57) 3 541) := mw_is_eq (by decide +kernel)
theorem l_L_law_487 : mw_lk d_L_law 487 = some (mw_b (.aload 8) 2 8) := mw_is_eq (by decide +kernel)
theorem l_L_law_489 : mw_lk d_L_law 489 = some (((.invokevirtual 104), 3, (1, 0, 15), [3236, 3237, 3238], yX11_cheapestNetByGrowing, 0)) := mw_is_eq (by decide +kernel)
theorem l_L_law_492 : mw_lk d_L_law 492 = some (mw_b (.iload 7) 2 7) := mw_is_eq (by decide +kernel)
theorem l_L_law_494 : mw_lk d_L_law 494 = some (mw_c (.iconst 3) 1 (3)) := mw_is_eq (by decide +kernel)
theorem l_L_law_495 : mw_lk d_L_law 495 = some (mw_a (.iadd) 1) := mw_is_eq (by decide +kernel)
theorem l_L_law_496 : mw_lk d_L_law 496 = some (mw_b (.if_icmp .ne 45) 3 541) := mw_is_eq (by decide +kernel)
theorem l_L_law_499 : mw_lk d_L_law 499 = some (mw_b (.aload 8) 2 8) := mw_is_eq (by decide +kernel)
theorem l_L_law_501 : mw_lk d_L_law 501 = some (mw_c (.iconst 0) 1 (0)) := mw_is_eq (by decide +kernel)
theorem l_L_law_502 : mw_lk d_L_law 502 = some (mw_c (.iconst 2) 1 (2)) := mw_is_eq (by decide +kernel)
theorem l_L_law_503 : mw_lk d_L_law 503 = some (((.invokevirtual 89), 3, (3, 0, 15), [3140, 3141, 3142], yX11_wayHours, 0)) := mw_is_eq (by decide +kernel)
theorem l_L_law_506 : mw_lk d_L_law 506 = some (mw_b (.iload 7) 2 7) := mw_is_eq (by decide +kernel)
theorem l_L_law_508 : mw_lk d_L_law 508 = some (mw_c (.iconst 3) 1 (3)) := mw_is_eq (by decide +kernel)
theorem l_L_law_509 : mw_lk d_L_law 509 = some (mw_a (.iadd) 1) := mw_is_eq (by decide +kernel)
theorem l_L_law_510 : mw_lk d_L_law 510 = some (mw_b (.if_icmp .ne 31) 3 541) := mw_is_eq (by decide +kernel)
theorem l_L_law_513 : mw_lk d_L_law 513 = some (mw_b (.aload 8) 2 8) := mw_is_eq (by decide +kernel)
theorem l_L_law_515 : mw_lk d_L_law 515 = some (mw_c (.iconst 2) 1 (2)) := mw_is_eq (by decide +kernel)
theorem l_L_law_516 : mw_lk d_L_law 516 = some (mw_c (.iconst 0) 1 (0)) := mw_is_eq (by decide +kernel)
theorem l_L_law_517 : mw_lk d_L_law 517 = some (((.invokevirtual 92), 3, (3, 0, 15), [3208, 3209, 3210], yX11_wayHoursByTable, 0)) := mw_is_eq (by decide +kernel)
theorem l_L_law_520 : mw_lk d_L_law 520 = some (mw_b (.iload 7) 2 7) := mw_is_eq (by decide +kernel)
theorem l_L_law_522 : mw_lk d_L_law 522 = some (mw_c (.iconst 3) 1 (3)) := mw_is_eq (by decide +kernel)
theorem l_L_law_523 : mw_lk d_L_law 523 = some (mw_a (.iadd) 1) := mw_is_eq (by decide +kernel)
theorem l_L_law_524 : mw_lk d_L_law 524 = some (mw_b (.if_icmp .ne 17) 3 541) := mw_is_eq (by decide +kernel)
theorem l_L_law_527 : mw_lk d_L_law 527 = some (mw_b (.aload 8) 2 8) := mw_is_eq (by decide +kernel)
theorem l_L_law_529 : mw_lk d_L_law 529 = some (mw_c (.bipush 9) 2 (9)) := mw_is_eq (by decide +kernel)
theorem l_L_law_531 : mw_lk d_L_law 531 = some (mw_c (.iconst 0) 1 (0)) := mw_is_eq (by decide +kernel)
theorem l_L_law_532 : mw_lk d_L_law 532 = some (mw_c (.iconst 3) 1 (3)) := mw_is_eq (by decide +kernel)
theorem l_L_law_533 : mw_lk d_L_law 533 = some (mw_c (.iconst 0) 1 (0)) := mw_is_eq (by decide +kernel)
theorem l_L_law_534 : mw_lk d_L_law 534 = some (((.invokestatic 30), 3, (5, 5, 0), [7158, 7159], yL_act, 0)) := mw_is_eq (by decide +kernel)
theorem l_L_law_537 : mw_lk d_L_law 537 = some (mw_c (.iconst (-1)) 1 (-1)) := mw_is_eq (by decide +kernel)
theorem l_L_law_538 : mw_lk d_L_law 538 = some (mw_b (.if_icmp .eq 5) 3 543) := mw_is_eq (by decide +kernel)
theorem l_L_law_541 : mw_lk d_L_law 541 = some (mw_c (.iconst 0) 1 (0)) := mw_is_eq (by decide +kernel)
theorem l_L_law_542 : mw_lk d_L_law 542 = some (mw_a (.ireturn) 1) := mw_is_eq (by decide +kernel)
theorem l_L_law_543 : mw_lk d_L_law 543 = some (mw_b (.aload 8) 2 8) := mw_is_eq (by decide +kernel)
theorem l_L_law_545 : mw_lk d_L_law 545 = some (((.new 271), 3, (1, 4, 0), [8198, 2225, 1014], mw_nm, 0)) := mw_is_eq (by decide +kernel)
theorem l_L_law_548 : mw_lk d_L_law 548 = some (mw_a (.dup) 1) := mw_is_eq (by decide +kernel)
theorem l_L_law_549 : mw_lk d_L_law 549 = some (((.invokespecial 273), 3, (1, 2, 0), [8199, 2227], yJ4_init_da8c8, 0)) := mw_is_eq (by decide +kernel)
theorem l_L_law_552 : mw_lk d_L_law 552 = some (((.ldc_w 288), 3, (1, 25, 0), [], mw_nm, 0)) := mw_is_eq (by decide +kernel)
theorem l_L_law_555 : mw_lk d_L_law 555 = some (((.invokevirtual 276), 3, (2, 0, 1), [8200, 6047, 6048], yJ4_append_15ec4, 0)) := mw_is_eq (by decide +kernel)
theorem l_L_law_558 : mw_lk d_L_law 558 = some (mw_b (.iload 6) 2 6) := mw_is_eq (by decide +kernel)
theorem l_L_law_560 : mw_lk d_L_law 560 = some (((.invokevirtual 279), 3, (2, 0, 1), [8201, 6142, 6143], yJ4_append_bf812, 0)) := mw_is_eq (by decide +kernel)
theorem l_L_law_563 : mw_lk d_L_law 563 = some (((.ldc_w 290), 3, (1, 26, 0), [], mw_nm, 0)) := mw_is_eq (by decide +kernel)
theorem l_L_law_566 : mw_lk d_L_law 566 = some (((.invokevirtual 276), 3, (2, 0, 1), [8200, 6047, 6048], yJ4_append_15ec4, 0)) := mw_is_eq (by decide +kernel)
theorem l_L_law_569 : mw_lk d_L_law 569 = some (((.invokevirtual 284), 3, (1, 0, 1), [8202, 6167, 6168], yJ4_toString_0e30d, 0)) := mw_is_eq (by decide +kernel)
theorem l_L_law_572 : mw_lk d_L_law 572 = some (((.invokestatic 221), 3, (2, 1, 0), [7142, 7143], yL_put, 0)) := mw_is_eq (by decide +kernel)
theorem l_L_law_575 : mw_lk d_L_law 575 = some (mw_b (.aload 8) 2 8) := mw_is_eq (by decide +kernel)
theorem l_L_law_577 : mw_lk d_L_law 577 = some (((.invokestatic 233), 3, (1, 5, 0), [8188, 8189], yL_runs, 0)) := mw_is_eq (by decide +kernel)
theorem l_L_law_580 : mw_lk d_L_law 580 = some (mw_c (.bipush (-2)) 2 (-2)) := mw_is_eq (by decide +kernel)
theorem l_L_law_582 : mw_lk d_L_law 582 = some (mw_b (.if_icmp .ne 29) 3 611) := mw_is_eq (by decide +kernel)
theorem l_L_law_585 : mw_lk d_L_law 585 = some (mw_b (.aload 8) 2 8) := mw_is_eq (by decide +kernel)
theorem l_L_law_587 : mw_lk d_L_law 587 = some (((.invokevirtual 236), 3, (1, 0, 15), [6023, 6024, 6025], yX11_failedCommand, 0)) := mw_is_eq (by decide +kernel)
theorem l_L_law_590 : mw_lk d_L_law 590 = some (mw_c (.iconst 3) 1 (3)) := mw_is_eq (by decide +kernel)
theorem l_L_law_591 : mw_lk d_L_law 591 = some (mw_b (.if_icmp .ne 20) 3 611) := mw_is_eq (by decide +kernel)
theorem l_L_law_594 : mw_lk d_L_law 594 = some (mw_b (.aload 8) 2 8) := mw_is_eq (by decide +kernel)
theorem l_L_law_596 : mw_lk d_L_law 596 = some (((.invokevirtual 40), 3, (1, 0, 15), [5020, 5021, 5022], yX11_moonCount, 0)) := mw_is_eq (by decide +kernel)
theorem l_L_law_599 : mw_lk d_L_law 599 = some (mw_b (.ifCond .ne 12) 3 611) := mw_is_eq (by decide +kernel)
theorem l_L_law_602 : mw_lk d_L_law 602 = some (mw_b (.aload 8) 2 8) := mw_is_eq (by decide +kernel)
theorem l_L_law_604 : mw_lk d_L_law 604 = some (((.invokevirtual 292), 3, (1, 0, 15), [3057, 3058, 3059], yX11_channelCount, 0)) := mw_is_eq (by decide +kernel)
theorem l_L_law_607 : mw_lk d_L_law 607 = some (mw_c (.iconst 2) 1 (2)) := mw_is_eq (by decide +kernel)
theorem l_L_law_608 : mw_lk d_L_law 608 = some (mw_b (.if_icmp .eq 5) 3 613) := mw_is_eq (by decide +kernel)
theorem l_L_law_611 : mw_lk d_L_law 611 = some (mw_c (.iconst 0) 1 (0)) := mw_is_eq (by decide +kernel)
theorem l_L_law_612 : mw_lk d_L_law 612 = some (mw_a (.ireturn) 1) := mw_is_eq (by decide +kernel)
theorem l_L_law_613 : mw_lk d_L_law 613 = some (mw_b (.aload 8) 2 8) := mw_is_eq (by decide +kernel)
theorem l_L_law_615 : mw_lk d_L_law 615 = some (((.new 271), 3, (1, 4, 0), [8198, 2225, 1014], mw_nm, 0)) := mw_is_eq (by decide +kernel)
theorem l_L_law_618 : mw_lk d_L_law 618 = some (mw_a (.dup) 1) := mw_is_eq (by decide +kernel)
theorem l_L_law_619 : mw_lk d_L_law 619 = some (((.invokespecial 273), 3, (1, 2, 0), [8199, 2227], yJ4_init_da8c8, 0)) := mw_is_eq (by decide +kernel)
theorem l_L_law_622 : mw_lk d_L_law 622 = some (((.ldc_w 288), 3, (1, 25, 0), [], mw_nm, 0)) := mw_is_eq (by decide +kernel)
theorem l_L_law_625 : mw_lk d_L_law 625 = some (((.invokevirtual 276), 3, (2, 0, 1), [8200, 6047, 6048], yJ4_append_15ec4, 0)) := mw_is_eq (by decide +kernel)
theorem l_L_law_628 : mw_lk d_L_law 628 = some (mw_b (.iload 6) 2 6) := mw_is_eq (by decide +kernel)
theorem l_L_law_630 : mw_lk d_L_law 630 = some (((.invokevirtual 279), 3, (2, 0, 1), [8201, 6142, 6143], yJ4_append_bf812, 0)) := mw_is_eq (by decide +kernel)
theorem l_L_law_633 : mw_lk d_L_law 633 = some (((.ldc_w 295), 3, (1, 27, 0), [], mw_nm, 0)) := mw_is_eq (by decide +kernel)
theorem l_L_law_636 : mw_lk d_L_law 636 = some (((.invokevirtual 276), 3, (2, 0, 1), [8200, 6047, 6048], yJ4_append_15ec4, 0)) := mw_is_eq (by decide +kernel)
theorem l_L_law_639 : mw_lk d_L_law 639 = some (((.invokevirtual 284), 3, (1, 0, 1), [8202, 6167, 6168], yJ4_toString_0e30d, 0)) := mw_is_eq (by decide +kernel)
theorem l_L_law_642 : mw_lk d_L_law 642 = some (((.invokestatic 221), 3, (2, 1, 0), [7142, 7143], yL_put, 0)) := mw_is_eq (by decide +kernel)
theorem l_L_law_645 : mw_lk d_L_law 645 = some (mw_b (.aload 8) 2 8) := mw_is_eq (by decide +kernel)
theorem l_L_law_647 : mw_lk d_L_law 647 = some (((.invokevirtual 225), 3, (1, 0, 15), [5153, 5154, 5155], yX11_run, 0)) := mw_is_eq (by decide +kernel)
theorem l_L_law_650 : mw_lk d_L_law 650 = some (mw_c (.iconst 4) 1 (4)) := mw_is_eq (by decide +kernel)
theorem l_L_law_651 : mw_lk d_L_law 651 = some (mw_b (.if_icmp .ne 219) 3 870) := mw_is_eq (by decide +kernel)
theorem l_L_law_654 : mw_lk d_L_law 654 = some (mw_b (.aload 8) 2 8) := mw_is_eq (by decide +kernel)
theorem l_L_law_656 : mw_lk d_L_law 656 = some (mw_c (.iconst 0) 1 (0)) := mw_is_eq (by decide +kernel)
theorem l_L_law_657 : mw_lk d_L_law 657 = some (((.invokevirtual 206), 3, (2, 0, 15), [5037, 5038, 5039], yX11_fareOf, 0)) := mw_is_eq (by decide +kernel)
theorem l_L_law_660 : mw_lk d_L_law 660 = some (mw_c (.iconst 5) 1 (5)) := mw_is_eq (by decide +kernel)
theorem l_L_law_661 : mw_lk d_L_law 661 = some (mw_b (.iload 7) 2 7) := mw_is_eq (by decide +kernel)
theorem l_L_law_663 : mw_lk d_L_law 663 = some (mw_c (.iconst 3) 1 (3)) := mw_is_eq (by decide +kernel)
theorem l_L_law_664 : mw_lk d_L_law 664 = some (mw_a (.iadd) 1) := mw_is_eq (by decide +kernel)
theorem l_L_law_665 : mw_lk d_L_law 665 = some (mw_a (.imul) 1) := mw_is_eq (by decide +kernel)
theorem l_L_law_666 : mw_lk d_L_law 666 = some (mw_b (.if_icmp .ne 204) 3 870) := mw_is_eq (by decide +kernel)
theorem l_L_law_669 : mw_lk d_L_law 669 = some (mw_b (.aload 8) 2 8) := mw_is_eq (by decide +kernel)
theorem l_L_law_671 : mw_lk d_L_law 671 = some (mw_c (.iconst 1) 1 (1)) := mw_is_eq (by decide +kernel)
theorem l_L_law_672 : mw_lk d_L_law 672 = some (((.invokevirtual 206), 3, (2, 0, 15), [5037, 5038, 5039], yX11_fareOf, 0)) := mw_is_eq (by decide +kernel)
theorem l_L_law_675 : mw_lk d_L_law 675 = some (mw_c (.iconst 3) 1 (3)) := mw_is_eq (by decide +kernel)
theorem l_L_law_676 : mw_lk d_L_law 676 = some (mw_b (.iload 7) 2 7) := mw_is_eq (by decide +kernel)
theorem l_L_law_678 : mw_lk d_L_law 678 = some (mw_c (.iconst 3) 1 (3)) := mw_is_eq (by decide +kernel)
theorem l_L_law_679 : mw_lk d_L_law 679 = some (mw_a (.iadd) 1) := mw_is_eq (by decide +kernel)
theorem l_L_law_680 : mw_lk d_L_law 680 = some (mw_a (.imul) 1) := mw_is_eq (by decide +kernel)
theorem l_L_law_681 : mw_lk d_L_law 681 = some (mw_b (.if_icmp .ne 189) 3 870) := mw_is_eq (by decide +kernel)
theorem l_L_law_684 : mw_lk d_L_law 684 = some (mw_b (.aload 8) 2 8) := mw_is_eq (by decide +kernel)
theorem l_L_law_686 : mw_lk d_L_law 686 = some (mw_c (.iconst 2) 1 (2)) := mw_is_eq (by decide +kernel)
theorem l_L_law_687 : mw_lk d_L_law 687 = some (((.invokevirtual 206), 3, (2, 0, 15), [5037, 5038, 5039], yX11_fareOf, 0)) := mw_is_eq (by decide +kernel)
theorem l_L_law_690 : mw_lk d_L_law 690 = some (mw_c (.iconst 2) 1 (2)) := mw_is_eq (by decide +kernel)
theorem l_L_law_691 : mw_lk d_L_law 691 = some (mw_b (.iload 7) 2 7) := mw_is_eq (by decide +kernel)
theorem l_L_law_693 : mw_lk d_L_law 693 = some (mw_a (.imul) 1) := mw_is_eq (by decide +kernel)
theorem l_L_law_694 : mw_lk d_L_law 694 = some (mw_b (.if_icmp .ne 176) 3 870) := mw_is_eq (by decide +kernel)
theorem l_L_law_697 : mw_lk d_L_law 697 = some (mw_b (.aload 8) 2 8) := mw_is_eq (by decide +kernel)
theorem l_L_law_699 : mw_lk d_L_law 699 = some (mw_c (.iconst 0) 1 (0)) := mw_is_eq (by decide +kernel)
theorem l_L_law_700 : mw_lk d_L_law 700 = some (((.invokevirtual 297), 3, (2, 0, 15), [5042, 5043, 5044], yX11_moonAtRank, 0)) := mw_is_eq (by decide +kernel)
theorem l_L_law_703 : mw_lk d_L_law 703 = some (mw_b (.ifCond .ne 167) 3 870) := mw_is_eq (by decide +kernel)
theorem l_L_law_706 : mw_lk d_L_law 706 = some (mw_b (.aload 8) 2 8) := mw_is_eq (by decide +kernel)
theorem l_L_law_708 : mw_lk d_L_law 708 = some (mw_c (.iconst 2) 1 (2)) := mw_is_eq (by decide +kernel)
theorem l_L_law_709 : mw_lk d_L_law 709 = some (((.invokevirtual 297), 3, (2, 0, 15), [5042, 5043, 5044], yX11_moonAtRank, 0)) := mw_is_eq (by decide +kernel)
theorem l_L_law_712 : mw_lk d_L_law 712 = some (mw_c (.iconst 2) 1 (2)) := mw_is_eq (by decide +kernel)
theorem l_L_law_713 : mw_lk d_L_law 713 = some (mw_b (.if_icmp .ne 157) 3 870) := mw_is_eq (by decide +kernel)
theorem l_L_law_716 : mw_lk d_L_law 716 = some (mw_b (.aload 8) 2 8) := mw_is_eq (by decide +kernel)
theorem l_L_law_718 : mw_lk d_L_law 718 = some (mw_c (.iconst 3) 1 (3)) := mw_is_eq (by decide +kernel)
theorem l_L_law_719 : mw_lk d_L_law 719 = some (mw_b (.iload 7) 2 7) := mw_is_eq (by decide +kernel)
theorem l_L_law_721 : mw_lk d_L_law 721 = some (mw_c (.iconst 3) 1 (3)) := mw_is_eq (by decide +kernel)
theorem l_L_law_722 : mw_lk d_L_law 722 = some (mw_a (.iadd) 1) := mw_is_eq (by decide +kernel)
theorem l_L_law_723 : mw_lk d_L_law 723 = some (mw_a (.imul) 1) := mw_is_eq (by decide +kernel)
theorem l_L_law_724 : mw_lk d_L_law 724 = some (((.invokevirtual 300), 3, (2, 0, 15), [5059, 5060, 5061], yX11_countBelow, 0)) := mw_is_eq (by decide +kernel)
theorem l_L_law_727 : mw_lk d_L_law 727 = some (mw_c (.iconst 1) 1 (1)) := mw_is_eq (by decide +kernel)
theorem l_L_law_728 : mw_lk d_L_law 728 = some (mw_b (.if_icmp .ne 142) 3 870) := mw_is_eq (by decide +kernel)
theorem l_L_law_731 : mw_lk d_L_law 731 = some (mw_b (.aload 8) 2 8) := mw_is_eq (by decide +kernel)
theorem l_L_law_733 : mw_lk d_L_law 733 = some (mw_c (.iconst 3) 1 (3)) := mw_is_eq (by decide +kernel)
theorem l_L_law_734 : mw_lk d_L_law 734 = some (mw_b (.iload 7) 2 7) := mw_is_eq (by decide +kernel)
theorem l_L_law_736 : mw_lk d_L_law 736 = some (mw_c (.iconst 3) 1 (3)) := mw_is_eq (by decide +kernel)
theorem l_L_law_737 : mw_lk d_L_law 737 = some (mw_a (.iadd) 1) := mw_is_eq (by decide +kernel)
theorem l_L_law_738 : mw_lk d_L_law 738 = some (mw_a (.imul) 1) := mw_is_eq (by decide +kernel)
theorem l_L_law_739 : mw_lk d_L_law 739 = some (((.invokevirtual 303), 3, (2, 0, 15), [5079, 5080, 5081], yX11_countBelowByAsking, 0)) := mw_is_eq (by decide +kernel)
theorem l_L_law_742 : mw_lk d_L_law 742 = some (mw_c (.iconst 1) 1 (1)) := mw_is_eq (by decide +kernel)
theorem l_L_law_743 : mw_lk d_L_law 743 = some (mw_b (.if_icmp .ne 127) 3 870) := mw_is_eq (by decide +kernel)
theorem l_L_law_746 : mw_lk d_L_law 746 = some (mw_b (.aload 8) 2 8) := mw_is_eq (by decide +kernel)
theorem l_L_law_748 : mw_lk d_L_law 748 = some (mw_c (.iconst 0) 1 (0)) := mw_is_eq (by decide +kernel)
theorem l_L_law_749 : mw_lk d_L_law 749 = some (((.invokevirtual 306), 3, (2, 0, 15), [4127, 4128, 4129], yX11_isStranded, 0)) := mw_is_eq (by decide +kernel)
theorem l_L_law_752 : mw_lk d_L_law 752 = some (mw_b (.ifCond .eq 118) 3 870) := mw_is_eq (by decide +kernel)
theorem l_L_law_755 : mw_lk d_L_law 755 = some (mw_b (.aload 8) 2 8) := mw_is_eq (by decide +kernel)
theorem l_L_law_757 : mw_lk d_L_law 757 = some (mw_c (.iconst 0) 1 (0)) := mw_is_eq (by decide +kernel)
theorem l_L_law_758 : mw_lk d_L_law 758 = some (((.invokevirtual 107), 3, (2, 0, 15), [4234, 4235, 4236], yX11_bestLoad, 0)) := mw_is_eq (by decide +kernel)
theorem l_L_law_761 : mw_lk d_L_law 761 = some (mw_c (.bipush 8) 2 (8)) := mw_is_eq (by decide +kernel)
theorem l_L_law_763 : mw_lk d_L_law 763 = some (mw_b (.iload 7) 2 7) := mw_is_eq (by decide +kernel)
theorem l_L_law_765 : mw_lk d_L_law 765 = some (mw_c (.iconst 3) 1 (3)) := mw_is_eq (by decide +kernel)
theorem l_L_law_766 : mw_lk d_L_law 766 = some (mw_a (.iadd) 1) := mw_is_eq (by decide +kernel)
theorem l_L_law_767 : mw_lk d_L_law 767 = some (mw_a (.imul) 1) := mw_is_eq (by decide +kernel)
theorem l_L_law_768 : mw_lk d_L_law 768 = some (mw_b (.if_icmp .ne 102) 3 870) := mw_is_eq (by decide +kernel)
theorem l_L_law_771 : mw_lk d_L_law 771 = some (mw_b (.aload 8) 2 8) := mw_is_eq (by decide +kernel)
theorem l_L_law_773 : mw_lk d_L_law 773 = some (mw_c (.iconst 0) 1 (0)) := mw_is_eq (by decide +kernel)
theorem l_L_law_774 : mw_lk d_L_law 774 = some (((.invokevirtual 110), 3, (2, 0, 15), [5000, 5001, 5002], yX11_bestLoadByTable, 0)) := mw_is_eq (by decide +kernel)
theorem l_L_law_777 : mw_lk d_L_law 777 = some (mw_c (.bipush 8) 2 (8)) := mw_is_eq (by decide +kernel)
theorem l_L_law_779 : mw_lk d_L_law 779 = some (mw_b (.iload 7) 2 7) := mw_is_eq (by decide +kernel)
theorem l_L_law_781 : mw_lk d_L_law 781 = some (mw_c (.iconst 3) 1 (3)) := mw_is_eq (by decide +kernel)
theorem l_L_law_782 : mw_lk d_L_law 782 = some (mw_a (.iadd) 1) := mw_is_eq (by decide +kernel)
theorem l_L_law_783 : mw_lk d_L_law 783 = some (mw_a (.imul) 1) := mw_is_eq (by decide +kernel)
theorem l_L_law_784 : mw_lk d_L_law 784 = some (mw_b (.if_icmp .ne 86) 3 870) := mw_is_eq (by decide +kernel)
theorem l_L_law_787 : mw_lk d_L_law 787 = some (mw_b (.aload 8) 2 8) := mw_is_eq (by decide +kernel)
theorem l_L_law_789 : mw_lk d_L_law 789 = some (mw_c (.iconst 5) 1 (5)) := mw_is_eq (by decide +kernel)
theorem l_L_law_790 : mw_lk d_L_law 790 = some (mw_c (.iconst 0) 1 (0)) := mw_is_eq (by decide +kernel)
theorem l_L_law_791 : mw_lk d_L_law 791 = some (mw_c (.iconst 0) 1 (0)) := mw_is_eq (by decide +kernel)
theorem l_L_law_792 : mw_lk d_L_law 792 = some (mw_c (.iconst 0) 1 (0)) := mw_is_eq (by decide +kernel)
theorem l_L_law_793 : mw_lk d_L_law 793 = some (((.invokestatic 30), 3, (5, 5, 0), [7158, 7159], yL_act, 0)) := mw_is_eq (by decide +kernel)
theorem l_L_law_796 : mw_lk d_L_law 796 = some (mw_c (.bipush (-4)) 2 (-4)) := mw_is_eq (by decide +kernel)
theorem l_L_law_798 : mw_lk d_L_law 798 = some (mw_b (.if_icmp .ne 72) 3 870) := mw_is_eq (by decide +kernel)
theorem l_L_law_801 : mw_lk d_L_law 801 = some (mw_b (.aload 8) 2 8) := mw_is_eq (by decide +kernel)
theorem l_L_law_803 : mw_lk d_L_law 803 = some (mw_c (.iconst 3) 1 (3)) := mw_is_eq (by decide +kernel)
theorem l_L_law_804 : mw_lk d_L_law 804 = some (mw_c (.iconst 0) 1 (0)) := mw_is_eq (by decide +kernel)
theorem l_L_law_805 : mw_lk d_L_law 805 = some (mw_c (.iconst 0) 1 (0)) := mw_is_eq (by decide +kernel)
theorem l_L_law_806 : mw_lk d_L_law 806 = some (mw_c (.iconst 0) 1 (0)) := mw_is_eq (by decide +kernel)
theorem l_L_law_807 : mw_lk d_L_law 807 = some (((.invokestatic 30), 3, (5, 5, 0), [7158, 7159], yL_act, 0)) := mw_is_eq (by decide +kernel)
theorem l_L_law_810 : mw_lk d_L_law 810 = some (mw_c (.bipush (-4)) 2 (-4)) := mw_is_eq (by decide +kernel)
theorem l_L_law_812 : mw_lk d_L_law 812 = some (mw_b (.if_icmp .ne 58) 3 870) := mw_is_eq (by decide +kernel)
theorem l_L_law_815 : mw_lk d_L_law 815 = some (mw_b (.aload 8) 2 8) := mw_is_eq (by decide +kernel)
theorem l_L_law_817 : mw_lk d_L_law 817 = some (((.invokevirtual 310), 3, (1, 0, 15), [5112, 5113, 5114], yX11_refusalReason, 0)) := mw_is_eq (by decide +kernel)
theorem l_L_law_820 : mw_lk d_L_law 820 = some (mw_c (.iconst 5) 1 (5)) := mw_is_eq (by decide +kernel)
theorem l_L_law_821 : mw_lk d_L_law 821 = some (mw_b (.if_icmp .ne 49) 3 870) := mw_is_eq (by decide +kernel)
theorem l_L_law_824 : mw_lk d_L_law 824 = some (mw_b (.aload 8) 2 8) := mw_is_eq (by decide +kernel)
theorem l_L_law_826 : mw_lk d_L_law 826 = some (mw_c (.iconst 2) 1 (2)) := mw_is_eq (by decide +kernel)
theorem l_L_law_827 : mw_lk d_L_law 827 = some (mw_c (.iconst 0) 1 (0)) := mw_is_eq (by decide +kernel)
theorem l_L_law_828 : mw_lk d_L_law 828 = some (mw_c (.iconst 2) 1 (2)) := mw_is_eq (by decide +kernel)
theorem l_L_law_829 : mw_lk d_L_law 829 = some (mw_c (.iconst 0) 1 (0)) := mw_is_eq (by decide +kernel)
theorem l_L_law_830 : mw_lk d_L_law 830 = some (((.invokestatic 30), 3, (5, 5, 0), [7158, 7159], yL_act, 0)) := mw_is_eq (by decide +kernel)
theorem l_L_law_833 : mw_lk d_L_law 833 = some (mw_c (.bipush (-4)) 2 (-4)) := mw_is_eq (by decide +kernel)
theorem l_L_law_835 : mw_lk d_L_law 835 = some (mw_b (.if_icmp .ne 35) 3 870) := mw_is_eq (by decide +kernel)
theorem l_L_law_838 : mw_lk d_L_law 838 = some (mw_b (.aload 8) 2 8) := mw_is_eq (by decide +kernel)
theorem l_L_law_840 : mw_lk d_L_law 840 = some (((.invokevirtual 310), 3, (1, 0, 15), [5112, 5113, 5114], yX11_refusalReason, 0)) := mw_is_eq (by decide +kernel)
theorem l_L_law_843 : mw_lk d_L_law 843 = some (mw_c (.iconst 1) 1 (1)) := mw_is_eq (by decide +kernel)
theorem l_L_law_844 : mw_lk d_L_law 844 = some (mw_b (.if_icmp .ne 26) 3 870) := mw_is_eq (by decide +kernel)
theorem l_L_law_847 : mw_lk d_L_law 847 = some (mw_b (.aload 8) 2 8) := mw_is_eq (by decide +kernel)
theorem l_L_law_849 : mw_lk d_L_law 849 = some (mw_c (.iconst 2) 1 (2)) := mw_is_eq (by decide +kernel)
theorem l_L_law_850 : mw_lk d_L_law 850 = some (mw_c (.iconst 0) 1 (0)) := mw_is_eq (by decide +kernel)
theorem l_L_law_851 : mw_lk d_L_law 851 = some (mw_c (.iconst 1) 1 (1)) := mw_is_eq (by decide +kernel)
theorem l_L_law_852 : mw_lk d_L_law 852 = some (mw_c (.iconst 0) 1 (0)) := mw_is_eq (by decide +kernel)
theorem l_L_law_853 : mw_lk d_L_law 853 = some (((.invokestatic 30), 3, (5, 5, 0), [7158, 7159], yL_act, 0)) := mw_is_eq (by decide +kernel)
theorem l_L_law_856 : mw_lk d_L_law 856 = some (mw_c (.bipush (-4)) 2 (-4)) := mw_is_eq (by decide +kernel)
theorem l_L_law_858 : mw_lk d_L_law 858 = some (mw_b (.if_icmp .ne 12) 3 870) := mw_is_eq (by decide +kernel)
theorem l_L_law_861 : mw_lk d_L_law 861 = some (mw_b (.aload 8) 2 8) := mw_is_eq (by decide +kernel)
theorem l_L_law_863 : mw_lk d_L_law 863 = some (((.invokevirtual 310), 3, (1, 0, 15), [5112, 5113, 5114], yX11_refusalReason, 0)) := mw_is_eq (by decide +kernel)
theorem l_L_law_866 : mw_lk d_L_law 866 = some (mw_c (.iconst 2) 1 (2)) := mw_is_eq (by decide +kernel)
theorem l_L_law_867 : mw_lk d_L_law 867 = some (mw_b (.if_icmp .eq 5) 3 872) := mw_is_eq (by decide +kernel)
theorem l_L_law_870 : mw_lk d_L_law 870 = some (mw_c (.iconst 0) 1 (0)) := mw_is_eq (by decide +kernel)
theorem l_L_law_871 : mw_lk d_L_law 871 = some (mw_a (.ireturn) 1) := mw_is_eq (by decide +kernel)
theorem l_L_law_872 : mw_lk d_L_law 872 = some (mw_b (.aload 8) 2 8) := mw_is_eq (by decide +kernel)
theorem l_L_law_874 : mw_lk d_L_law 874 = some (mw_c (.iconst 0) 1 (0)) := mw_is_eq (by decide +kernel)
theorem l_L_law_875 : mw_lk d_L_law 875 = some (mw_c (.iconst 0) 1 (0)) := mw_is_eq (by decide +kernel)
theorem l_L_law_876 : mw_lk d_L_law 876 = some (((.invokevirtual 95), 3, (3, 0, 15), [4140, 4141, 4142], yX11_earliestArrival, 0)) := mw_is_eq (by decide +kernel)
theorem l_L_law_879 : mw_lk d_L_law 879 = some (mw_b (.ifCond .ne 224) 3 1103) := mw_is_eq (by decide +kernel)
theorem l_L_law_882 : mw_lk d_L_law 882 = some (mw_b (.aload 8) 2 8) := mw_is_eq (by decide +kernel)
theorem l_L_law_884 : mw_lk d_L_law 884 = some (mw_c (.iconst 0) 1 (0)) := mw_is_eq (by decide +kernel)
theorem l_L_law_885 : mw_lk d_L_law 885 = some (mw_c (.iconst 1) 1 (1)) := mw_is_eq (by decide +kernel)
theorem l_L_law_886 : mw_lk d_L_law 886 = some (((.invokevirtual 95), 3, (3, 0, 15), [4140, 4141, 4142], yX11_earliestArrival, 0)) := mw_is_eq (by decide +kernel)
theorem l_L_law_889 : mw_lk d_L_law 889 = some (mw_c (.iconst 1) 1 (1)) := mw_is_eq (by decide +kernel)
theorem l_L_law_890 : mw_lk d_L_law 890 = some (mw_b (.iload 7) 2 7) := mw_is_eq (by decide +kernel)
theorem l_L_law_892 : mw_lk d_L_law 892 = some (mw_a (.iadd) 1) := mw_is_eq (by decide +kernel)
theorem l_L_law_893 : mw_lk d_L_law 893 = some (mw_b (.if_icmp .ne 210) 3 1103) := mw_is_eq (by decide +kernel)
theorem l_L_law_896 : mw_lk d_L_law 896 = some (mw_b (.aload 8) 2 8) := mw_is_eq (by decide +kernel)
theorem l_L_law_898 : mw_lk d_L_law 898 = some (mw_c (.iconst 0) 1 (0)) := mw_is_eq (by decide +kernel)
theorem l_L_law_899 : mw_lk d_L_law 899 = some (mw_c (.iconst 1) 1 (1)) := mw_is_eq (by decide +kernel)
theorem l_L_law_900 : mw_lk d_L_law 900 = some (((.invokevirtual 98), 3, (3, 0, 15), [4167, 4168, 4169], yX11_earliestArrivalByHours, 0)) := mw_is_eq (by decide +kernel)
theorem l_L_law_903 : mw_lk d_L_law 903 = some (mw_c (.iconst 1) 1 (1)) := mw_is_eq (by decide +kernel)
theorem l_L_law_904 : mw_lk d_L_law 904 = some (mw_b (.iload 7) 2 7) := mw_is_eq (by decide +kernel)
theorem l_L_law_906 : mw_lk d_L_law 906 = some (mw_a (.iadd) 1) := mw_is_eq (by decide +kernel)
theorem l_L_law_907 : mw_lk d_L_law 907 = some (mw_b (.if_icmp .ne 196) 3 1103) := mw_is_eq (by decide +kernel)
theorem l_L_law_910 : mw_lk d_L_law 910 = some (mw_b (.aload 8) 2 8) := mw_is_eq (by decide +kernel)
theorem l_L_law_912 : mw_lk d_L_law 912 = some (mw_c (.iconst 1) 1 (1)) := mw_is_eq (by decide +kernel)
theorem l_L_law_913 : mw_lk d_L_law 913 = some (((.invokevirtual 83), 3, (2, 0, 15), [5087, 5088, 5089], yX11_pass, 0)) := mw_is_eq (by decide +kernel)
theorem l_L_law_916 : mw_lk d_L_law 916 = some (mw_b (.ifCond .ne 187) 3 1103) := mw_is_eq (by decide +kernel)
theorem l_L_law_919 : mw_lk d_L_law 919 = some (mw_b (.aload 8) 2 8) := mw_is_eq (by decide +kernel)
theorem l_L_law_921 : mw_lk d_L_law 921 = some (mw_c (.iconst 0) 1 (0)) := mw_is_eq (by decide +kernel)
theorem l_L_law_922 : mw_lk d_L_law 922 = some (((.invokevirtual 306), 3, (2, 0, 15), [4127, 4128, 4129], yX11_isStranded, 0)) := mw_is_eq (by decide +kernel)
theorem l_L_law_925 : mw_lk d_L_law 925 = some (mw_b (.ifCond .ne 178) 3 1103) := mw_is_eq (by decide +kernel)
theorem l_L_law_928 : mw_lk d_L_law 928 = some (mw_b (.aload 8) 2 8) := mw_is_eq (by decide +kernel)
theorem l_L_law_930 : mw_lk d_L_law 930 = some (mw_c (.iconst 0) 1 (0)) := mw_is_eq (by decide +kernel)
theorem l_L_law_931 : mw_lk d_L_law 931 = some (((.invokevirtual 77), 3, (2, 0, 15), [4208, 4209, 4210], yX11_loadBest, 0)) := mw_is_eq (by decide +kernel)
theorem l_L_law_934 : mw_lk d_L_law 934 = some (mw_c (.iconst 2) 1 (2)) := mw_is_eq (by decide +kernel)
theorem l_L_law_935 : mw_lk d_L_law 935 = some (mw_b (.if_icmp .ne 168) 3 1103) := mw_is_eq (by decide +kernel)
theorem l_L_law_938 : mw_lk d_L_law 938 = some (mw_b (.aload 8) 2 8) := mw_is_eq (by decide +kernel)
theorem l_L_law_940 : mw_lk d_L_law 940 = some (mw_c (.iconst 0) 1 (0)) := mw_is_eq (by decide +kernel)
theorem l_L_law_941 : mw_lk d_L_law 941 = some (((.invokevirtual 179), 3, (2, 0, 15), [4132, 4133, 4134], yX11_loadOf, 0)) := mw_is_eq (by decide +kernel)
theorem l_L_law_944 : mw_lk d_L_law 944 = some (mw_b (.iload 6) 2 6) := mw_is_eq (by decide +kernel)
theorem l_L_law_946 : mw_lk d_L_law 946 = some (mw_c (.bipush 24) 2 (24)) := mw_is_eq (by decide +kernel)
theorem l_L_law_948 : mw_lk d_L_law 948 = some (mw_a (.iadd) 1) := mw_is_eq (by decide +kernel)
theorem l_L_law_949 : mw_lk d_L_law 949 = some (mw_b (.if_icmp .ne 154) 3 1103) := mw_is_eq (by decide +kernel)
theorem l_L_law_952 : mw_lk d_L_law 952 = some (mw_b (.aload 8) 2 8) := mw_is_eq (by decide +kernel)
theorem l_L_law_954 : mw_lk d_L_law 954 = some (mw_c (.iconst 3) 1 (3)) := mw_is_eq (by decide +kernel)
theorem l_L_law_955 : mw_lk d_L_law 955 = some (mw_c (.iconst 0) 1 (0)) := mw_is_eq (by decide +kernel)
theorem l_L_law_956 : mw_lk d_L_law 956 = some (mw_c (.iconst 2) 1 (2)) := mw_is_eq (by decide +kernel)
theorem l_L_law_957 : mw_lk d_L_law 957 = some (mw_c (.iconst 0) 1 (0)) := mw_is_eq (by decide +kernel)
theorem l_L_law_958 : mw_lk d_L_law 958 = some (((.invokestatic 30), 3, (5, 5, 0), [7158, 7159], yL_act, 0)) := mw_is_eq (by decide +kernel)
theorem l_L_law_961 : mw_lk d_L_law 961 = some (mw_b (.iload 6) 2 6) := mw_is_eq (by decide +kernel)
theorem l_L_law_963 : mw_lk d_L_law 963 = some (mw_c (.bipush 54) 2 (54)) := mw_is_eq (by decide +kernel)
theorem l_L_law_965 : mw_lk d_L_law 965 = some (mw_a (.iadd) 1) := mw_is_eq (by decide +kernel)
theorem l_L_law_966 : mw_lk d_L_law 966 = some (mw_c (.bipush 40) 2 (40)) := mw_is_eq (by decide +kernel)
theorem l_L_law_968 : mw_lk d_L_law 968 = some (mw_b (.if_icmp .le 8) 3 976) := mw_is_eq (by decide +kernel)
theorem l_L_law_971 : mw_lk d_L_law 971 = some (mw_c (.bipush (-4)) 2 (-4)) := mw_is_eq (by decide +kernel)
theorem l_L_law_973 : mw_lk d_L_law 973 = some (mw_b (.goto 4) 3 977) := mw_is_eq (by decide +kernel)
theorem l_L_law_976 : mw_lk d_L_law 976 = some (mw_c (.iconst 0) 1 (0)) := mw_is_eq (by decide +kernel)
theorem l_L_law_977 : mw_lk d_L_law 977 = some (mw_b (.if_icmp .ne 126) 3 1103) := mw_is_eq (by decide +kernel)
theorem l_L_law_980 : mw_lk d_L_law 980 = some (mw_b (.aload 8) 2 8) := mw_is_eq (by decide +kernel)
theorem l_L_law_982 : mw_lk d_L_law 982 = some (((.invokevirtual 310), 3, (1, 0, 15), [5112, 5113, 5114], yX11_refusalReason, 0)) := mw_is_eq (by decide +kernel)
theorem l_L_law_985 : mw_lk d_L_law 985 = some (mw_c (.bipush 6) 2 (6)) := mw_is_eq (by decide +kernel)
theorem l_L_law_987 : mw_lk d_L_law 987 = some (mw_b (.if_icmp .ne 116) 3 1103) := mw_is_eq (by decide +kernel)
theorem l_L_law_990 : mw_lk d_L_law 990 = some (mw_b (.aload 8) 2 8) := mw_is_eq (by decide +kernel)
theorem l_L_law_992 : mw_lk d_L_law 992 = some (mw_c (.iconst 3) 1 (3)) := mw_is_eq (by decide +kernel)
theorem l_L_law_993 : mw_lk d_L_law 993 = some (mw_c (.iconst 0) 1 (0)) := mw_is_eq (by decide +kernel)
theorem l_L_law_994 : mw_lk d_L_law 994 = some (mw_c (.iconst 1) 1 (1)) := mw_is_eq (by decide +kernel)
theorem l_L_law_995 : mw_lk d_L_law 995 = some (mw_c (.iconst 0) 1 (0)) := mw_is_eq (by decide +kernel)
theorem l_L_law_996 : mw_lk d_L_law 996 = some (((.invokestatic 30), 3, (5, 5, 0), [7158, 7159], yL_act, 0)) := mw_is_eq (by decide +kernel)
theorem l_L_law_999 : mw_lk d_L_law 999 = some (mw_c (.bipush (-3)) 2 (-3)) := mw_is_eq (by decide +kernel)
theorem l_L_law_1001 : mw_lk d_L_law 1001 = some (mw_b (.if_icmp .ne 102) 3 1103) := mw_is_eq (by decide +kernel)
theorem l_L_law_1004 : mw_lk d_L_law 1004 = some (mw_b (.aload 8) 2 8) := mw_is_eq (by decide +kernel)
theorem l_L_law_1006 : mw_lk d_L_law 1006 = some (mw_c (.iconst 0) 1 (0)) := mw_is_eq (by decide +kernel)
theorem l_L_law_1007 : mw_lk d_L_law 1007 = some (mw_c (.iconst 1) 1 (1)) := mw_is_eq (by decide +kernel)
theorem l_L_law_1008 : mw_lk d_L_law 1008 = some (((.invokevirtual 67), 3, (3, 0, 15), [4081, 4082, 4083], yX11_sail, 0)) := mw_is_eq (by decide +kernel)
theorem l_L_law_1011 : mw_lk d_L_law 1011 = some (mw_c (.iconst 1) 1 (1)) := mw_is_eq (by decide +kernel)
theorem l_L_law_1012 : mw_lk d_L_law 1012 = some (mw_b (.iload 7) 2 7) := mw_is_eq (by decide +kernel)
theorem l_L_law_1014 : mw_lk d_L_law 1014 = some (mw_a (.iadd) 1) := mw_is_eq (by decide +kernel)
theorem l_L_law_1015 : mw_lk d_L_law 1015 = some (mw_b (.if_icmp .ne 88) 3 1103) := mw_is_eq (by decide +kernel)
theorem l_L_law_1018 : mw_lk d_L_law 1018 = some (mw_b (.aload 8) 2 8) := mw_is_eq (by decide +kernel)
theorem l_L_law_1020 : mw_lk d_L_law 1020 = some (mw_c (.iconst 4) 1 (4)) := mw_is_eq (by decide +kernel)
theorem l_L_law_1021 : mw_lk d_L_law 1021 = some (mw_c (.iconst 0) 1 (0)) := mw_is_eq (by decide +kernel)
theorem l_L_law_1022 : mw_lk d_L_law 1022 = some (mw_c (.iconst 0) 1 (0)) := mw_is_eq (by decide +kernel)
theorem l_L_law_1023 : mw_lk d_L_law 1023 = some (mw_c (.iconst 0) 1 (0)) := mw_is_eq (by decide +kernel)
theorem l_L_law_1024 : mw_lk d_L_law 1024 = some (((.invokestatic 30), 3, (5, 5, 0), [7158, 7159], yL_act, 0)) := mw_is_eq (by decide +kernel)
theorem l_L_law_1027 : mw_lk d_L_law 1027 = some (mw_c (.bipush (-4)) 2 (-4)) := mw_is_eq (by decide +kernel)
theorem l_L_law_1029 : mw_lk d_L_law 1029 = some (mw_b (.if_icmp .ne 74) 3 1103) := mw_is_eq (by decide +kernel)
theorem l_L_law_1032 : mw_lk d_L_law 1032 = some (mw_b (.aload 8) 2 8) := mw_is_eq (by decide +kernel)
theorem l_L_law_1034 : mw_lk d_L_law 1034 = some (mw_c (.bipush 8) 2 (8)) := mw_is_eq (by decide +kernel)
theorem l_L_law_1036 : mw_lk d_L_law 1036 = some (mw_c (.iconst 0) 1 (0)) := mw_is_eq (by decide +kernel)
theorem l_L_law_1037 : mw_lk d_L_law 1037 = some (mw_c (.iconst 0) 1 (0)) := mw_is_eq (by decide +kernel)
theorem l_L_law_1038 : mw_lk d_L_law 1038 = some (mw_c (.iconst 0) 1 (0)) := mw_is_eq (by decide +kernel)
theorem l_L_law_1039 : mw_lk d_L_law 1039 = some (((.invokestatic 30), 3, (5, 5, 0), [7158, 7159], yL_act, 0)) := mw_is_eq (by decide +kernel)
theorem l_L_law_1042 : mw_lk d_L_law 1042 = some (mw_c (.bipush (-3)) 2 (-3)) := mw_is_eq (by decide +kernel)
theorem l_L_law_1044 : mw_lk d_L_law 1044 = some (mw_b (.if_icmp .ne 59) 3 1103) := mw_is_eq (by decide +kernel)
theorem l_L_law_1047 : mw_lk d_L_law 1047 = some (mw_b (.aload 8) 2 8) := mw_is_eq (by decide +kernel)
theorem l_L_law_1049 : mw_lk d_L_law 1049 = some (mw_b (.aload 8) 2 8) := mw_is_eq (by decide +kernel)
theorem l_L_law_1051 : mw_lk d_L_law 1051 = some (mw_c (.iconst 0) 1 (0)) := mw_is_eq (by decide +kernel)
theorem l_L_law_1052 : mw_lk d_L_law 1052 = some (((.invokevirtual 313), 3, (2, 0, 15), [6027, 6028, 6029], yX11_describeFerry, 0)) := mw_is_eq (by decide +kernel)
theorem l_L_law_1055 : mw_lk d_L_law 1055 = some (((.new 271), 3, (1, 4, 0), [8198, 2225, 1014], mw_nm, 0)) := mw_is_eq (by decide +kernel)
theorem l_L_law_1058 : mw_lk d_L_law 1058 = some (mw_a (.dup) 1) := mw_is_eq (by decide +kernel)
theorem l_L_law_1059 : mw_lk d_L_law 1059 = some (((.invokespecial 273), 3, (1, 2, 0), [8199, 2227], yJ4_init_da8c8, 0)) := mw_is_eq (by decide +kernel)
theorem l_L_law_1062 : mw_lk d_L_law 1062 = some (((.ldc_w 316), 3, (1, 28, 0), [], mw_nm, 0)) := mw_is_eq (by decide +kernel)
theorem l_L_law_1065 : mw_lk d_L_law 1065 = some (((.invokevirtual 276), 3, (2, 0, 1), [8200, 6047, 6048], yJ4_append_15ec4, 0)) := mw_is_eq (by decide +kernel)
theorem l_L_law_1068 : mw_lk d_L_law 1068 = some (mw_b (.iload 7) 2 7) := mw_is_eq (by decide +kernel)
theorem l_L_law_1070 : mw_lk d_L_law 1070 = some (((.invokevirtual 279), 3, (2, 0, 1), [8201, 6142, 6143], yJ4_append_bf812, 0)) := mw_is_eq (by decide +kernel)
theorem l_L_law_1073 : mw_lk d_L_law 1073 = some (((.ldc_w 318), 3, (1, 29, 0), [], mw_nm, 0)) := mw_is_eq (by decide +kernel)
theorem l_L_law_1076 : mw_lk d_L_law 1076 = some (((.invokevirtual 276), 3, (2, 0, 1), [8200, 6047, 6048], yJ4_append_15ec4, 0)) := mw_is_eq (by decide +kernel)
theorem l_L_law_1079 : mw_lk d_L_law 1079 = some (((.invokevirtual 284), 3, (1, 0, 1), [8202, 6167, 6168], yJ4_toString_0e30d, 0)) := mw_is_eq (by decide +kernel)
theorem l_L_law_1082 : mw_lk d_L_law 1082 = some (((.invokestatic 320), 3, (3, 1, 0), [8171, 8172], yL_isLine, 0)) := mw_is_eq (by decide +kernel)
theorem l_L_law_1085 : mw_lk d_L_law 1085 = some (mw_b (.ifCond .eq 18) 3 1103) := mw_is_eq (by decide +kernel)
theorem l_L_law_1088 : mw_lk d_L_law 1088 = some (mw_b (.aload 8) 2 8) := mw_is_eq (by decide +kernel)
theorem l_L_law_1090 : mw_lk d_L_law 1090 = some (mw_c (.bipush 15) 2 (15)) := mw_is_eq (by decide +kernel)
theorem l_L_law_1092 : mw_lk d_L_law 1092 = some (mw_c (.iconst 0) 1 (0)) := mw_is_eq (by decide +kernel)
theorem l_L_law_1093 : mw_lk d_L_law 1093 = some (mw_c (.iconst 0) 1 (0)) := mw_is_eq (by decide +kernel)
theorem l_L_law_1094 : mw_lk d_L_law 1094 = some (mw_c (.iconst 0) 1 (0)) := mw_is_eq (by decide +kernel)
theorem l_L_law_1095 : mw_lk d_L_law 1095 = some (((.invokestatic 30), 3, (5, 5, 0), [7158, 7159], yL_act, 0)) := mw_is_eq (by decide +kernel)
theorem l_L_law_1098 : mw_lk d_L_law 1098 = some (mw_c (.bipush (-3)) 2 (-3)) := mw_is_eq (by decide +kernel)
theorem l_L_law_1100 : mw_lk d_L_law 1100 = some (mw_b (.if_icmp .eq 5) 3 1105) := mw_is_eq (by decide +kernel)
theorem l_L_law_1103 : mw_lk d_L_law 1103 = some (mw_c (.iconst 0) 1 (0)) := mw_is_eq (by decide +kernel)
theorem l_L_law_1104 : mw_lk d_L_law 1104 = some (mw_a (.ireturn) 1) := mw_is_eq (by decide +kernel)
theorem l_L_law_1105 : mw_lk d_L_law 1105 = some (mw_b (.aload 8) 2 8) := mw_is_eq (by decide +kernel)
theorem l_L_law_1107 : mw_lk d_L_law 1107 = some (mw_b (.iload 7) 2 7) := mw_is_eq (by decide +kernel)
theorem l_L_law_1109 : mw_lk d_L_law 1109 = some (((.invokevirtual 83), 3, (2, 0, 15), [5087, 5088, 5089], yX11_pass, 0)) := mw_is_eq (by decide +kernel)
theorem l_L_law_1112 : mw_lk d_L_law 1112 = some (mw_c (.iconst 1) 1 (1)) := mw_is_eq (by decide +kernel)
theorem l_L_law_1113 : mw_lk d_L_law 1113 = some (mw_b (.if_icmp .ne 216) 3 1329) := mw_is_eq (by decide +kernel)
theorem l_L_law_1116 : mw_lk d_L_law 1116 = some (mw_b (.aload 8) 2 8) := mw_is_eq (by decide +kernel)
theorem l_L_law_1118 : mw_lk d_L_law 1118 = some (mw_c (.iconst 0) 1 (0)) := mw_is_eq (by decide +kernel)
theorem l_L_law_1119 : mw_lk d_L_law 1119 = some (((.invokevirtual 125), 3, (2, 0, 15), [4113, 4114, 4115], yX11_craterOf, 0)) := mw_is_eq (by decide +kernel)
theorem l_L_law_1122 : mw_lk d_L_law 1122 = some (mw_c (.iconst 1) 1 (1)) := mw_is_eq (by decide +kernel)
theorem l_L_law_1123 : mw_lk d_L_law 1123 = some (mw_b (.if_icmp .ne 206) 3 1329) := mw_is_eq (by decide +kernel)
theorem l_L_law_1126 : mw_lk d_L_law 1126 = some (mw_b (.aload 8) 2 8) := mw_is_eq (by decide +kernel)
theorem l_L_law_1128 : mw_lk d_L_law 1128 = some (mw_c (.iconst 0) 1 (0)) := mw_is_eq (by decide +kernel)
theorem l_L_law_1129 : mw_lk d_L_law 1129 = some (((.invokevirtual 324), 3, (2, 0, 15), [5133, 5134, 5135], yX11_passageCrater, 0)) := mw_is_eq (by decide +kernel)
theorem l_L_law_1132 : mw_lk d_L_law 1132 = some (mw_c (.iconst 1) 1 (1)) := mw_is_eq (by decide +kernel)
theorem l_L_law_1133 : mw_lk d_L_law 1133 = some (mw_b (.if_icmp .ne 196) 3 1329) := mw_is_eq (by decide +kernel)
theorem l_L_law_1136 : mw_lk d_L_law 1136 = some (mw_b (.aload 8) 2 8) := mw_is_eq (by decide +kernel)
theorem l_L_law_1138 : mw_lk d_L_law 1138 = some (mw_c (.iconst 0) 1 (0)) := mw_is_eq (by decide +kernel)
theorem l_L_law_1139 : mw_lk d_L_law 1139 = some (((.invokevirtual 327), 3, (2, 0, 15), [5137, 5138, 5139], yX11_passageHour, 0)) := mw_is_eq (by decide +kernel)
theorem l_L_law_1142 : mw_lk d_L_law 1142 = some (mw_c (.iconst 1) 1 (1)) := mw_is_eq (by decide +kernel)
theorem l_L_law_1143 : mw_lk d_L_law 1143 = some (mw_b (.iload 7) 2 7) := mw_is_eq (by decide +kernel)
theorem l_L_law_1145 : mw_lk d_L_law 1145 = some (mw_a (.iadd) 1) := mw_is_eq (by decide +kernel)
theorem l_L_law_1146 : mw_lk d_L_law 1146 = some (mw_b (.if_icmp .ne 183) 3 1329) := mw_is_eq (by decide +kernel)
theorem l_L_law_1149 : mw_lk d_L_law 1149 = some (mw_b (.aload 8) 2 8) := mw_is_eq (by decide +kernel)
theorem l_L_law_1151 : mw_lk d_L_law 1151 = some (mw_c (.iconst 0) 1 (0)) := mw_is_eq (by decide +kernel)
theorem l_L_law_1152 : mw_lk d_L_law 1152 = some (((.invokevirtual 330), 3, (2, 0, 15), [5120, 5121, 5122], yX11_passageFerry, 0)) := mw_is_eq (by decide +kernel)
theorem l_L_law_1155 : mw_lk d_L_law 1155 = some (mw_b (.ifCond .ne 174) 3 1329) := mw_is_eq (by decide +kernel)
theorem l_L_law_1158 : mw_lk d_L_law 1158 = some (mw_b (.aload 8) 2 8) := mw_is_eq (by decide +kernel)
theorem l_L_law_1160 : mw_lk d_L_law 1160 = some (mw_c (.iconst 2) 1 (2)) := mw_is_eq (by decide +kernel)
theorem l_L_law_1161 : mw_lk d_L_law 1161 = some (mw_c (.iconst 0) 1 (0)) := mw_is_eq (by decide +kernel)
theorem l_L_law_1162 : mw_lk d_L_law 1162 = some (mw_c (.iconst 0) 1 (0)) := mw_is_eq (by decide +kernel)
theorem l_L_law_1163 : mw_lk d_L_law 1163 = some (mw_c (.iconst 0) 1 (0)) := mw_is_eq (by decide +kernel)
theorem l_L_law_1164 : mw_lk d_L_law 1164 = some (((.invokestatic 30), 3, (5, 5, 0), [7158, 7159], yL_act, 0)) := mw_is_eq (by decide +kernel)
theorem l_L_law_1167 : mw_lk d_L_law 1167 = some (mw_b (.iload 7) 2 7) := mw_is_eq (by decide +kernel)
theorem l_L_law_1169 : mw_lk d_L_law 1169 = some (mw_b (.ifCond .ne 8) 3 1177) := mw_is_eq (by decide +kernel)
theorem l_L_law_1172 : mw_lk d_L_law 1172 = some (mw_c (.bipush (-4)) 2 (-4)) := mw_is_eq (by decide +kernel)
theorem l_L_law_1174 : mw_lk d_L_law 1174 = some (mw_b (.goto 9) 3 1183) := mw_is_eq (by decide +kernel)
theorem l_L_law_1177 : mw_lk d_L_law 1177 = some (mw_c (.iconst 1) 1 (1)) := mw_is_eq (by decide +kernel)
theorem l_L_law_1178 : mw_lk d_L_law 1178 = some (mw_c (.iconst 2) 1 (2)) := mw_is_eq (by decide +kernel)
theorem l_L_law_1179 : mw_lk d_L_law 1179 = some (mw_b (.iload 7) 2 7) := mw_is_eq (by decide +kernel)
theorem l_L_law_1181 : mw_lk d_L_law 1181 = some (mw_a (.imul) 1) := mw_is_eq (by decide +kernel)
theorem l_L_law_1182 : mw_lk d_L_law 1182 = some (mw_a (.iadd) 1) := mw_is_eq (by decide +kernel)
theorem l_L_law_1183 : mw_lk d_L_law 1183 = some (mw_b (.if_icmp .ne 146) 3 1329) := mw_is_eq (by decide +kernel)
theorem l_L_law_1186 : mw_lk d_L_law 1186 = some (mw_b (.aload 8) 2 8) := mw_is_eq (by decide +kernel)
theorem l_L_law_1188 : mw_lk d_L_law 1188 = some (((.invokevirtual 228), 3, (1, 0, 15), [7123, 7124, 7125], yX11_undo, 0)) := mw_is_eq (by decide +kernel)
theorem l_L_law_1191 : mw_lk d_L_law 1191 = some (mw_b (.ifCond .lt 138) 3 1329) := mw_is_eq (by decide +kernel)
theorem l_L_law_1194 : mw_lk d_L_law 1194 = some (mw_b (.aload 8) 2 8) := mw_is_eq (by decide +kernel)
theorem l_L_law_1196 : mw_lk d_L_law 1196 = some (mw_c (.iconst 0) 1 (0)) := mw_is_eq (by decide +kernel)
theorem l_L_law_1197 : mw_lk d_L_law 1197 = some (((.invokevirtual 306), 3, (2, 0, 15), [4127, 4128, 4129], yX11_isStranded, 0)) := mw_is_eq (by decide +kernel)
theorem l_L_law_1200 : mw_lk d_L_law 1200 = some (mw_b (.ifCond .ne 129) 3 1329) := mw_is_eq (by decide +kernel)
theorem l_L_law_1203 : mw_lk d_L_law 1203 = some (mw_b (.aload 8) 2 8) := mw_is_eq (by decide +kernel)
theorem l_L_law_1205 : mw_lk d_L_law 1205 = some (mw_c (.iconst 1) 1 (1)) := mw_is_eq (by decide +kernel)
theorem l_L_law_1206 : mw_lk d_L_law 1206 = some (((.invokevirtual 74), 3, (2, 0, 15), [4183, 4184, 4185], yX11_land, 0)) := mw_is_eq (by decide +kernel)
theorem l_L_law_1209 : mw_lk d_L_law 1209 = some (mw_b (.ifCond .ne 120) 3 1329) := mw_is_eq (by decide +kernel)
theorem l_L_law_1212 : mw_lk d_L_law 1212 = some (mw_b (.aload 8) 2 8) := mw_is_eq (by decide +kernel)
theorem l_L_law_1214 : mw_lk d_L_law 1214 = some (mw_c (.iconst 1) 1 (1)) := mw_is_eq (by decide +kernel)
theorem l_L_law_1215 : mw_lk d_L_law 1215 = some (((.invokevirtual 116), 3, (2, 0, 15), [5024, 5025, 5026], yX11_shoreOf, 0)) := mw_is_eq (by decide +kernel)
theorem l_L_law_1218 : mw_lk d_L_law 1218 = some (mw_c (.iconst 1) 1 (1)) := mw_is_eq (by decide +kernel)
theorem l_L_law_1219 : mw_lk d_L_law 1219 = some (mw_b (.if_icmp .ne 110) 3 1329) := mw_is_eq (by decide +kernel)
theorem l_L_law_1222 : mw_lk d_L_law 1222 = some (mw_b (.aload 8) 2 8) := mw_is_eq (by decide +kernel)
theorem l_L_law_1224 : mw_lk d_L_law 1224 = some (mw_c (.iconst 1) 1 (1)) := mw_is_eq (by decide +kernel)
theorem l_L_law_1225 : mw_lk d_L_law 1225 = some (((.invokevirtual 206), 3, (2, 0, 15), [5037, 5038, 5039], yX11_fareOf, 0)) := mw_is_eq (by decide +kernel)
theorem l_L_law_1228 : mw_lk d_L_law 1228 = some (mw_c (.iconst 3) 1 (3)) := mw_is_eq (by decide +kernel)
theorem l_L_law_1229 : mw_lk d_L_law 1229 = some (mw_b (.iload 7) 2 7) := mw_is_eq (by decide +kernel)
theorem l_L_law_1231 : mw_lk d_L_law 1231 = some (mw_c (.iconst 3) 1 (3)) := mw_is_eq (by decide +kernel)
theorem l_L_law_1232 : mw_lk d_L_law 1232 = some (mw_a (.iadd) 1) := mw_is_eq (by decide +kernel)
theorem l_L_law_1233 : mw_lk d_L_law 1233 = some (mw_a (.imul) 1) := mw_is_eq (by decide +kernel)
theorem l_L_law_1234 : mw_lk d_L_law 1234 = some (mw_b (.if_icmp .ne 95) 3 1329) := mw_is_eq (by decide +kernel)
theorem l_L_law_1237 : mw_lk d_L_law 1237 = some (mw_b (.aload 8) 2 8) := mw_is_eq (by decide +kernel)
theorem l_L_law_1239 : mw_lk d_L_law 1239 = some (mw_c (.iconst 0) 1 (0)) := mw_is_eq (by decide +kernel)
theorem l_L_law_1240 : mw_lk d_L_law 1240 = some (mw_c (.iconst 2) 1 (2)) := mw_is_eq (by decide +kernel)
theorem l_L_law_1241 : mw_lk d_L_law 1241 = some (((.invokevirtual 67), 3, (3, 0, 15), [4081, 4082, 4083], yX11_sail, 0)) := mw_is_eq (by decide +kernel)
theorem l_L_law_1244 : mw_lk d_L_law 1244 = some (mw_b (.iload 7) 2 7) := mw_is_eq (by decide +kernel)
theorem l_L_law_1246 : mw_lk d_L_law 1246 = some (mw_c (.iconst 4) 1 (4)) := mw_is_eq (by decide +kernel)
theorem l_L_law_1247 : mw_lk d_L_law 1247 = some (mw_a (.iadd) 1) := mw_is_eq (by decide +kernel)
theorem l_L_law_1248 : mw_lk d_L_law 1248 = some (mw_b (.if_icmp .ne 81) 3 1329) := mw_is_eq (by decide +kernel)
theorem l_L_law_1251 : mw_lk d_L_law 1251 = some (mw_b (.aload 8) 2 8) := mw_is_eq (by decide +kernel)
theorem l_L_law_1253 : mw_lk d_L_law 1253 = some (mw_c (.iconst 3) 1 (3)) := mw_is_eq (by decide +kernel)
theorem l_L_law_1254 : mw_lk d_L_law 1254 = some (((.invokevirtual 83), 3, (2, 0, 15), [5087, 5088, 5089], yX11_pass, 0)) := mw_is_eq (by decide +kernel)
theorem l_L_law_1257 : mw_lk d_L_law 1257 = some (mw_c (.iconst 1) 1 (1)) := mw_is_eq (by decide +kernel)
theorem l_L_law_1258 : mw_lk d_L_law 1258 = some (mw_b (.if_icmp .ne 71) 3 1329) := mw_is_eq (by decide +kernel)
theorem l_L_law_1261 : mw_lk d_L_law 1261 = some (mw_b (.aload 8) 2 8) := mw_is_eq (by decide +kernel)
theorem l_L_law_1263 : mw_lk d_L_law 1263 = some (mw_c (.iconst 0) 1 (0)) := mw_is_eq (by decide +kernel)
theorem l_L_law_1264 : mw_lk d_L_law 1264 = some (((.invokevirtual 74), 3, (2, 0, 15), [4183, 4184, 4185], yX11_land, 0)) := mw_is_eq (by decide +kernel)
theorem l_L_law_1267 : mw_lk d_L_law 1267 = some (mw_c (.iconst 5) 1 (5)) := mw_is_eq (by decide +kernel)
theorem l_L_law_1268 : mw_lk d_L_law 1268 = some (mw_b (.iload 7) 2 7) := mw_is_eq (by decide +kernel)
theorem l_L_law_1270 : mw_lk d_L_law 1270 = some (mw_c (.iconst 3) 1 (3)) := mw_is_eq (by decide +kernel)
theorem l_L_law_1271 : mw_lk d_L_law 1271 = some (mw_a (.iadd) 1) := mw_is_eq (by decide +kernel)
theorem l_L_law_1272 : mw_lk d_L_law 1272 = some (mw_a (.imul) 1) := mw_is_eq (by decide +kernel)
theorem l_L_law_1273 : mw_lk d_L_law 1273 = some (mw_b (.if_icmp .ne 56) 3 1329) := mw_is_eq (by decide +kernel)
theorem l_L_law_1276 : mw_lk d_L_law 1276 = some (mw_b (.aload 8) 2 8) := mw_is_eq (by decide +kernel)
theorem l_L_law_1278 : mw_lk d_L_law 1278 = some (((.invokevirtual 156), 3, (1, 0, 15), [5145, 5146, 5147], yX11_coins, 0)) := mw_is_eq (by decide +kernel)
theorem l_L_law_1281 : mw_lk d_L_law 1281 = some (((.ldc2_w 333), 3, (0, 0, 0), [8223], mw_nm, (5))) := mw_is_eq (by decide +kernel)
theorem l_L_law_1284 : mw_lk d_L_law 1284 = some (mw_b (.iload 7) 2 7) := mw_is_eq (by decide +kernel)
theorem l_L_law_1286 : mw_lk d_L_law 1286 = some (mw_c (.iconst 3) 1 (3)) := mw_is_eq (by decide +kernel)
theorem l_L_law_1287 : mw_lk d_L_law 1287 = some (mw_a (.iadd) 1) := mw_is_eq (by decide +kernel)
theorem l_L_law_1288 : mw_lk d_L_law 1288 = some (mw_a (.i2l) 1) := mw_is_eq (by decide +kernel)
theorem l_L_law_1289 : mw_lk d_L_law 1289 = some (mw_a (.lmul) 1) := mw_is_eq (by decide +kernel)
theorem l_L_law_1290 : mw_lk d_L_law 1290 = some (mw_a (.lcmp) 1) := mw_is_eq (by decide +kernel)
theorem l_L_law_1291 : mw_lk d_L_law 1291 = some (mw_b (.ifCond .ne 38) 3 1329) := mw_is_eq (by decide +kernel)
theorem l_L_law_1294 : mw_lk d_L_law 1294 = some (mw_b (.aload 8) 2 8) := mw_is_eq (by decide +kernel)
theorem l_L_law_1296 : mw_lk d_L_law 1296 = some (((.invokevirtual 153), 3, (1, 0, 15), [5149, 5150, 5151], yX11_fareTotal, 0)) := mw_is_eq (by decide +kernel)
theorem l_L_law_1299 : mw_lk d_L_law 1299 = some (mw_c (.iconst 5) 1 (5)) := mw_is_eq (by decide +kernel)
theorem l_L_law_1300 : mw_lk d_L_law 1300 = some (mw_b (.iload 7) 2 7) := mw_is_eq (by decide +kernel)
theorem l_L_law_1302 : mw_lk d_L_law 1302 = some (mw_c (.iconst 3) 1 (3)) := mw_is_eq (by decide +kernel)
theorem l_L_law_1303 : mw_lk d_L_law 1303 = some (mw_a (.iadd) 1) := mw_is_eq (by decide +kernel)
theorem l_L_law_1304 : mw_lk d_L_law 1304 = some (mw_a (.imul) 1) := mw_is_eq (by decide +kernel)
theorem l_L_law_1305 : mw_lk d_L_law 1305 = some (mw_b (.if_icmp .ne 24) 3 1329) := mw_is_eq (by decide +kernel)
theorem l_L_law_1308 : mw_lk d_L_law 1308 = some (mw_b (.aload 8) 2 8) := mw_is_eq (by decide +kernel)
theorem l_L_law_1310 : mw_lk d_L_law 1310 = some (((.invokevirtual 40), 3, (1, 0, 15), [5020, 5021, 5022], yX11_moonCount, 0)) := mw_is_eq (by decide +kernel)
theorem l_L_law_1313 : mw_lk d_L_law 1313 = some (mw_c (.iconst 2) 1 (2)) := mw_is_eq (by decide +kernel)
theorem l_L_law_1314 : mw_lk d_L_law 1314 = some (mw_b (.if_icmp .ne 15) 3 1329) := mw_is_eq (by decide +kernel)
theorem l_L_law_1317 : mw_lk d_L_law 1317 = some (mw_b (.aload 8) 2 8) := mw_is_eq (by decide +kernel)
theorem l_L_law_1319 : mw_lk d_L_law 1319 = some (((.invokevirtual 335), 3, (1, 0, 15), [7076, 7077, 7078], yX11_meanPhase, 0)) := mw_is_eq (by decide +kernel)
theorem l_L_law_1322 : mw_lk d_L_law 1322 = some (((.ldc2_w 339), 3, (1, 0, 0), [8224], mw_nm, 0)) := mw_is_eq (by decide +kernel)
theorem l_L_law_1325 : mw_lk d_L_law 1325 = some (mw_a (.dcmp .l) 1) := mw_is_eq (by decide +kernel)
theorem l_L_law_1326 : mw_lk d_L_law 1326 = some (mw_b (.ifCond .eq 5) 3 1331) := mw_is_eq (by decide +kernel)
theorem l_L_law_1329 : mw_lk d_L_law 1329 = some (mw_c (.iconst 0) 1 (0)) := mw_is_eq (by decide +kernel)
theorem l_L_law_1330 : mw_lk d_L_law 1330 = some (mw_a (.ireturn) 1) := mw_is_eq (by decide +kernel)
theorem l_L_law_1331 : mw_lk d_L_law 1331 = some (mw_b (.aload 8) 2 8) := mw_is_eq (by decide +kernel)
theorem l_L_law_1333 : mw_lk d_L_law 1333 = some (mw_c (.iconst 1) 1 (1)) := mw_is_eq (by decide +kernel)
theorem l_L_law_1334 : mw_lk d_L_law 1334 = some (mw_c (.bipush 12) 2 (12)) := mw_is_eq (by decide +kernel)
theorem l_L_law_1336 : mw_lk d_L_law 1336 = some (mw_c (.bipush 50) 2 (50)) := mw_is_eq (by decide +kernel)
theorem l_L_law_1338 : mw_lk d_L_law 1338 = some (((.invokevirtual 63), 3, (4, 0, 15), [4008, 4009, 4010], yX11_addFerry, 0)) := mw_is_eq (by decide +kernel)
theorem l_L_law_1341 : mw_lk d_L_law 1341 = some (mw_c (.iconst 1) 1 (1)) := mw_is_eq (by decide +kernel)
theorem l_L_law_1342 : mw_lk d_L_law 1342 = some (mw_b (.if_icmp .ne 94) 3 1436) := mw_is_eq (by decide +kernel)
theorem l_L_law_1345 : mw_lk d_L_law 1345 = some (mw_b (.aload 8) 2 8) := mw_is_eq (by decide +kernel)
theorem l_L_law_1347 : mw_lk d_L_law 1347 = some (mw_c (.iconst 1) 1 (1)) := mw_is_eq (by decide +kernel)
theorem l_L_law_1348 : mw_lk d_L_law 1348 = some (((.invokevirtual 306), 3, (2, 0, 15), [4127, 4128, 4129], yX11_isStranded, 0)) := mw_is_eq (by decide +kernel)
theorem l_L_law_1351 : mw_lk d_L_law 1351 = some (mw_b (.ifCond .eq 85) 3 1436) := mw_is_eq (by decide +kernel)
theorem l_L_law_1354 : mw_lk d_L_law 1354 = some (mw_b (.aload 8) 2 8) := mw_is_eq (by decide +kernel)
theorem l_L_law_1356 : mw_lk d_L_law 1356 = some (mw_c (.iconst 1) 1 (1)) := mw_is_eq (by decide +kernel)
theorem l_L_law_1357 : mw_lk d_L_law 1357 = some (((.invokevirtual 80), 3, (2, 0, 15), [5012, 5013, 5014], yX11_rescue, 0)) := mw_is_eq (by decide +kernel)
theorem l_L_law_1360 : mw_lk d_L_law 1360 = some (mw_b (.ifCond .ne 76) 3 1436) := mw_is_eq (by decide +kernel)
theorem l_L_law_1363 : mw_lk d_L_law 1363 = some (mw_b (.aload 8) 2 8) := mw_is_eq (by decide +kernel)
theorem l_L_law_1365 : mw_lk d_L_law 1365 = some (mw_c (.bipush 6) 2 (6)) := mw_is_eq (by decide +kernel)
theorem l_L_law_1367 : mw_lk d_L_law 1367 = some (mw_c (.iconst 0) 1 (0)) := mw_is_eq (by decide +kernel)
theorem l_L_law_1368 : mw_lk d_L_law 1368 = some (mw_c (.iconst 0) 1 (0)) := mw_is_eq (by decide +kernel)
theorem l_L_law_1369 : mw_lk d_L_law 1369 = some (mw_c (.iconst 0) 1 (0)) := mw_is_eq (by decide +kernel)
theorem l_L_law_1370 : mw_lk d_L_law 1370 = some (((.invokestatic 30), 3, (5, 5, 0), [7158, 7159], yL_act, 0)) := mw_is_eq (by decide +kernel)
theorem l_L_law_1373 : mw_lk d_L_law 1373 = some (mw_c (.bipush (-3)) 2 (-3)) := mw_is_eq (by decide +kernel)
theorem l_L_law_1375 : mw_lk d_L_law 1375 = some (mw_b (.if_icmp .ne 61) 3 1436) := mw_is_eq (by decide +kernel)
theorem l_L_law_1378 : mw_lk d_L_law 1378 = some (mw_b (.aload 8) 2 8) := mw_is_eq (by decide +kernel)
theorem l_L_law_1380 : mw_lk d_L_law 1380 = some (mw_c (.bipush 20) 2 (20)) := mw_is_eq (by decide +kernel)
theorem l_L_law_1382 : mw_lk d_L_law 1382 = some (mw_b (.iload 7) 2 7) := mw_is_eq (by decide +kernel)
theorem l_L_law_1384 : mw_lk d_L_law 1384 = some (mw_a (.isub) 1) := mw_is_eq (by decide +kernel)
theorem l_L_law_1385 : mw_lk d_L_law 1385 = some (((.invokevirtual 83), 3, (2, 0, 15), [5087, 5088, 5089], yX11_pass, 0)) := mw_is_eq (by decide +kernel)
theorem l_L_law_1388 : mw_lk d_L_law 1388 = some (mw_b (.ifCond .ne 48) 3 1436) := mw_is_eq (by decide +kernel)
theorem l_L_law_1391 : mw_lk d_L_law 1391 = some (mw_b (.aload 8) 2 8) := mw_is_eq (by decide +kernel)
theorem l_L_law_1393 : mw_lk d_L_law 1393 = some (mw_c (.iconst 1) 1 (1)) := mw_is_eq (by decide +kernel)
theorem l_L_law_1394 : mw_lk d_L_law 1394 = some (((.invokevirtual 203), 3, (2, 0, 15), [5033, 5034, 5035], yX11_phaseOf, 0)) := mw_is_eq (by decide +kernel)
theorem l_L_law_1397 : mw_lk d_L_law 1397 = some (mw_c (.iconst 3) 1 (3)) := mw_is_eq (by decide +kernel)
theorem l_L_law_1398 : mw_lk d_L_law 1398 = some (mw_b (.if_icmp .ne 38) 3 1436) := mw_is_eq (by decide +kernel)
theorem l_L_law_1401 : mw_lk d_L_law 1401 = some (mw_b (.aload 8) 2 8) := mw_is_eq (by decide +kernel)
theorem l_L_law_1403 : mw_lk d_L_law 1403 = some (mw_c (.iconst 2) 1 (2)) := mw_is_eq (by decide +kernel)
theorem l_L_law_1404 : mw_lk d_L_law 1404 = some (((.invokevirtual 203), 3, (2, 0, 15), [5033, 5034, 5035], yX11_phaseOf, 0)) := mw_is_eq (by decide +kernel)
theorem l_L_law_1407 : mw_lk d_L_law 1407 = some (mw_c (.iconst 2) 1 (2)) := mw_is_eq (by decide +kernel)
theorem l_L_law_1408 : mw_lk d_L_law 1408 = some (mw_b (.if_icmp .ne 28) 3 1436) := mw_is_eq (by decide +kernel)
theorem l_L_law_1411 : mw_lk d_L_law 1411 = some (mw_b (.aload 8) 2 8) := mw_is_eq (by decide +kernel)
theorem l_L_law_1413 : mw_lk d_L_law 1413 = some (((.invokevirtual 163), 3, (1, 0, 15), [5141, 5142, 5143], yX11_strandingCount, 0)) := mw_is_eq (by decide +kernel)
theorem l_L_law_1416 : mw_lk d_L_law 1416 = some (mw_b (.ifCond .ne 20) 3 1436) := mw_is_eq (by decide +kernel)
theorem l_L_law_1419 : mw_lk d_L_law 1419 = some (mw_b (.aload 8) 2 8) := mw_is_eq (by decide +kernel)
theorem l_L_law_1421 : mw_lk d_L_law 1421 = some (((.invokevirtual 160), 3, (1, 0, 15), [5116, 5117, 5118], yX11_passageCount, 0)) := mw_is_eq (by decide +kernel)
theorem l_L_law_1424 : mw_lk d_L_law 1424 = some (mw_c (.iconst 2) 1 (2)) := mw_is_eq (by decide +kernel)
theorem l_L_law_1425 : mw_lk d_L_law 1425 = some (mw_b (.if_icmp .ne 11) 3 1436) := mw_is_eq (by decide +kernel)
theorem l_L_law_1428 : mw_lk d_L_law 1428 = some (mw_b (.aload 8) 2 8) := mw_is_eq (by decide +kernel)
theorem l_L_law_1430 : mw_lk d_L_law 1430 = some (((.invokevirtual 265), 3, (1, 0, 15), [7099, 7100, 7101], yX11_isConsistent, 0)) := mw_is_eq (by decide +kernel)
theorem l_L_law_1433 : mw_lk d_L_law 1433 = some (mw_b (.ifCond .ne 5) 3 1438) := mw_is_eq (by decide +kernel)
theorem l_L_law_1436 : mw_lk d_L_law 1436 = some (mw_c (.iconst 0) 1 (0)) := mw_is_eq (by decide +kernel)
theorem l_L_law_1437 : mw_lk d_L_law 1437 = some (mw_a (.ireturn) 1) := mw_is_eq (by decide +kernel)
theorem l_L_law_1438 : mw_lk d_L_law 1438 = some (mw_b (.aload_n 1) 1 1) := mw_is_eq (by decide +kernel)
theorem l_L_law_1439 : mw_lk d_L_law 1439 = some (((.invokevirtual 341), 3, (1, 0, 15), [7135, 7136, 7137], yX11_restore, 0)) := mw_is_eq (by decide +kernel)
theorem l_L_law_1442 : mw_lk d_L_law 1442 = some (mw_b (.iload_n 3) 1 3) := mw_is_eq (by decide +kernel)
theorem l_L_law_1443 : mw_lk d_L_law 1443 = some (mw_b (.if_icmp .ne 16) 3 1459) := mw_is_eq (by decide +kernel)
theorem l_L_law_1446 : mw_lk d_L_law 1446 = some (mw_b (.aload_n 1) 1 1) := mw_is_eq (by decide +kernel)
theorem l_L_law_1447 : mw_lk d_L_law 1447 = some (((.invokestatic 216), 3, (1, 1, 0), [7227, 7228], yL_state, 0)) := mw_is_eq (by decide +kernel)
theorem l_L_law_1450 : mw_lk d_L_law 1450 = some (mw_b (.iload 4) 2 4) := mw_is_eq (by decide +kernel)
theorem l_L_law_1452 : mw_lk d_L_law 1452 = some (mw_b (.if_icmp .ne 7) 3 1459) := mw_is_eq (by decide +kernel)
theorem l_L_law_1455 : mw_lk d_L_law 1455 = some (mw_c (.iconst 1) 1 (1)) := mw_is_eq (by decide +kernel)
theorem l_L_law_1456 : mw_lk d_L_law 1456 = some (mw_b (.goto 4) 3 1460) := mw_is_eq (by decide +kernel)
theorem l_L_law_1459 : mw_lk d_L_law 1459 = some (mw_c (.iconst 0) 1 (0)) := mw_is_eq (by decide +kernel)
theorem l_L_law_1460 : mw_lk d_L_law 1460 = some (mw_a (.ireturn) 1) := mw_is_eq (by decide +kernel)
