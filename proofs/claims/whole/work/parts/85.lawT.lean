/-! the law's code -/
def q_L_law_0 : List (Nat × mw_I) := [(0, ((.new 8), 3, (15, 13, 0), [1037, 1038, 1001], mw_nm, 0)),
  (3, mw_a (.dup) 1),
  (4, ((.invokespecial 175), 3, (1, 2, 0), [1039, 1040], yX11_init, 0)),
  (7, mw_b (.astore_n 1) 1 1),
  (8, ((.new 176), 3, (16, 20, 0), [8154, 8155, 1017], mw_nm, 0)),
  (11, mw_a (.dup) 1),
  (12, ((.invokespecial 178), 3, (1, 2, 0), [8156, 8157], yX12_init, 0)),
  (15, mw_b (.astore_n 2) 1 2),
  (16, mw_c (.iconst 1) 1 (1)),
  (17, ((.newarray .long), 2, (0, 0, 0), [10209], mw_nm, 0)),
  (19, mw_b (.astore_n 3) 1 3),
  (20, mw_c (.iconst 1) 1 (1)),
  (21, ((.newarray .double), 2, (0, 0, 0), [10210], mw_nm, 0)),
  (23, mw_b (.astore 4) 2 4),
  (25, mw_c (.iconst 0) 1 (0)),
  (26, mw_b (.istore 5) 2 5),
  (28, mw_b (.iload 5) 2 5),
  (30, mw_b (.aload_n 0) 1 0),
  (31, mw_a (.arraylength) 1)]
def q_L_law_1 : List (Nat × mw_I) := [(32, mw_c (.iconst 5) 1 (5)),
  (33, mw_a (.isub) 1),
  (34, mw_b (.if_icmp .gt 3272) 3 3306),
  (37, mw_b (.aload_n 0) 1 0),
  (38, mw_b (.iload 5) 2 5),
  (40, mw_a (.iaload) 1),
  (41, mw_c (.bipush 63) 2 (63)),
  (43, mw_a (.iand) 1),
  (44, ((.tableswitch 3256 0 59 #[256, 312, 404, 460, 473, 486, 542, 610, 666, 734, 802, 846, 890, 970, 1038, 1101, 1157, 1213, 1269, 1332, 1388, 1456, 1524, 1616, 1684, 1740, 1796, 1852, 1908, 1964, 1977, 2033, 2089, 2145, 2201, 2257, 2313, 2338, 2363, 2419, 2432, 2476, 2489, 2545, 2601, 2657, 2670, 2684, 2697, 2755, 2799, 2843, 2887, 2943, 2999, 3064, 3142, 3155, 3199, 3212]), 256, (3300, 0, 0), [300, 356, 448, 504, 517, 530, 586, 654, 710, 778, 846, 890, 934, 1014, 1082, 1145, 1201, 1257, 1313, 1376, 1432, 1500, 1568, 1660, 1728, 1784, 1840, 1896, 1952, 2008, 2021, 2077, 2133, 2189, 2245, 2301, 2357, 2382, 2407, 2463, 2476, 2520, 2533, 2589, 2645, 2701, 2714, 2728, 2741, 2799, 2843, 2887, 2931, 2987, 3043, 3108, 3186, 3199, 3243, 3256], mw_nm, 0))]
def q_L_law_2 : List (Nat × mw_I) := []
def q_L_law_3 : List (Nat × mw_I) := []
def q_L_law_4 : List (Nat × mw_I) := []
def q_L_law_5 : List (Nat × mw_I) := []
def q_L_law_6 : List (Nat × mw_I) := []
def q_L_law_7 : List (Nat × mw_I) := []
def q_L_law_8 : List (Nat × mw_I) := []
def q_L_law_9 : List (Nat × mw_I) := [(300, mw_b (.aload_n 1) 1 1),
  (301, mw_b (.aload_n 0) 1 0),
  (302, mw_b (.iload 5) 2 5),
  (304, mw_c (.iconst 1) 1 (1)),
  (305, mw_a (.iadd) 1),
  (306, mw_a (.iaload) 1),
  (307, mw_b (.aload_n 3) 1 3),
  (308, ((.invokestatic 179), 3, (3, 5, 0), [4053, 4054], yL_addCrater, 0)),
  (311, mw_b (.istore 6) 2 6),
  (313, mw_b (.aload_n 2) 1 2),
  (314, mw_b (.aload_n 0) 1 0),
  (315, mw_b (.iload 5) 2 5),
  (317, mw_c (.iconst 1) 1 (1)),
  (318, mw_a (.iadd) 1),
  (319, mw_a (.iaload) 1)]
def q_L_law_10 : List (Nat × mw_I) := [(320, ((.invokevirtual 184), 3, (2, 0, 16), [8225, 8226, 8227], yX12_addCrater, 0)),
  (323, mw_b (.istore 7) 2 7),
  (325, mw_b (.aload_n 2) 1 2),
  (326, ((.invokevirtual 185), 3, (1, 0, 16), [8221, 8222, 8223], yX12_thrown, 0)),
  (329, mw_b (.iload 6) 2 6),
  (331, mw_b (.if_icmp .eq 5) 3 336),
  (334, mw_c (.iconst 0) 1 (0)),
  (335, mw_a (.ireturn) 1),
  (336, mw_b (.iload 6) 2 6),
  (338, mw_b (.ifCond .ne 15) 3 353),
  (341, mw_b (.aload_n 3) 1 3),
  (342, mw_c (.iconst 0) 1 (0)),
  (343, mw_a (.laload) 1),
  (344, mw_b (.iload 7) 2 7),
  (346, mw_a (.i2l) 1),
  (347, mw_a (.lcmp) 1),
  (348, mw_b (.ifCond .eq 5) 3 353),
  (351, mw_c (.iconst 0) 1 (0))]
def q_L_law_11 : List (Nat × mw_I) := [(352, mw_a (.ireturn) 1),
  (353, mw_b (.goto 2947) 3 3300),
  (356, mw_b (.aload_n 1) 1 1),
  (357, mw_b (.aload_n 0) 1 0),
  (358, mw_b (.iload 5) 2 5),
  (360, mw_c (.iconst 1) 1 (1)),
  (361, mw_a (.iadd) 1),
  (362, mw_a (.iaload) 1),
  (363, mw_b (.aload_n 0) 1 0),
  (364, mw_b (.iload 5) 2 5),
  (366, mw_c (.iconst 2) 1 (2)),
  (367, mw_a (.iadd) 1),
  (368, mw_a (.iaload) 1),
  (369, mw_b (.aload_n 0) 1 0),
  (370, mw_b (.iload 5) 2 5),
  (372, mw_c (.iconst 3) 1 (3)),
  (373, mw_a (.iadd) 1),
  (374, mw_a (.iaload) 1),
  (375, mw_b (.aload_n 0) 1 0),
  (376, mw_b (.iload 5) 2 5),
  (378, mw_c (.iconst 4) 1 (4)),
  (379, mw_a (.iadd) 1),
  (380, mw_a (.iaload) 1),
  (381, mw_b (.aload_n 3) 1 3),
  (382, ((.invokestatic 188), 3, (6, 5, 0), [4208, 4209], yL_addChannel, 0))]
def q_L_law_12 : List (Nat × mw_I) := [(385, mw_b (.istore 6) 2 6),
  (387, mw_b (.aload_n 2) 1 2),
  (388, mw_b (.aload_n 0) 1 0),
  (389, mw_b (.iload 5) 2 5),
  (391, mw_c (.iconst 1) 1 (1)),
  (392, mw_a (.iadd) 1),
  (393, mw_a (.iaload) 1),
  (394, mw_b (.aload_n 0) 1 0),
  (395, mw_b (.iload 5) 2 5),
  (397, mw_c (.iconst 2) 1 (2)),
  (398, mw_a (.iadd) 1),
  (399, mw_a (.iaload) 1),
  (400, mw_b (.aload_n 0) 1 0),
  (401, mw_b (.iload 5) 2 5),
  (403, mw_c (.iconst 3) 1 (3)),
  (404, mw_a (.iadd) 1),
  (405, mw_a (.iaload) 1),
  (406, mw_b (.aload_n 0) 1 0),
  (407, mw_b (.iload 5) 2 5),
  (409, mw_c (.iconst 4) 1 (4)),
  (410, mw_a (.iadd) 1),
  (411, mw_a (.iaload) 1),
  (412, ((.invokevirtual 191), 3, (5, 0, 16), [9015, 9016, 9017], yX12_addChannel, 0)),
  (415, mw_b (.istore 7) 2 7)]
def q_L_law_13 : List (Nat × mw_I) := [(417, mw_b (.aload_n 2) 1 2),
  (418, ((.invokevirtual 185), 3, (1, 0, 16), [8221, 8222, 8223], yX12_thrown, 0)),
  (421, mw_b (.iload 6) 2 6),
  (423, mw_b (.if_icmp .eq 5) 3 428),
  (426, mw_c (.iconst 0) 1 (0)),
  (427, mw_a (.ireturn) 1),
  (428, mw_b (.iload 6) 2 6),
  (430, mw_b (.ifCond .ne 15) 3 445),
  (433, mw_b (.aload_n 3) 1 3),
  (434, mw_c (.iconst 0) 1 (0)),
  (435, mw_a (.laload) 1),
  (436, mw_b (.iload 7) 2 7),
  (438, mw_a (.i2l) 1),
  (439, mw_a (.lcmp) 1),
  (440, mw_b (.ifCond .eq 5) 3 445),
  (443, mw_c (.iconst 0) 1 (0)),
  (444, mw_a (.ireturn) 1),
  (445, mw_b (.goto 2855) 3 3300)]
def q_L_law_14 : List (Nat × mw_I) := [(448, mw_b (.aload_n 1) 1 1),
  (449, mw_b (.aload_n 0) 1 0),
  (450, mw_b (.iload 5) 2 5),
  (452, mw_c (.iconst 1) 1 (1)),
  (453, mw_a (.iadd) 1),
  (454, mw_a (.iaload) 1),
  (455, mw_b (.aload_n 3) 1 3),
  (456, ((.invokestatic 192), 3, (3, 5, 0), [5020, 5021], yL_removeChannel, 0)),
  (459, mw_b (.istore 6) 2 6),
  (461, mw_b (.aload_n 2) 1 2),
  (462, mw_b (.aload_n 0) 1 0),
  (463, mw_b (.iload 5) 2 5),
  (465, mw_c (.iconst 1) 1 (1)),
  (466, mw_a (.iadd) 1),
  (467, mw_a (.iaload) 1),
  (468, ((.invokevirtual 194), 3, (2, 0, 16), [9035, 9036, 9037], yX12_removeChannel, 0)),
  (471, mw_b (.istore 7) 2 7),
  (473, mw_b (.aload_n 2) 1 2),
  (474, ((.invokevirtual 185), 3, (1, 0, 16), [8221, 8222, 8223], yX12_thrown, 0)),
  (477, mw_b (.iload 6) 2 6),
  (479, mw_b (.if_icmp .eq 5) 3 484)]
def q_L_law_15 : List (Nat × mw_I) := [(482, mw_c (.iconst 0) 1 (0)),
  (483, mw_a (.ireturn) 1),
  (484, mw_b (.iload 6) 2 6),
  (486, mw_b (.ifCond .ne 15) 3 501),
  (489, mw_b (.aload_n 3) 1 3),
  (490, mw_c (.iconst 0) 1 (0)),
  (491, mw_a (.laload) 1),
  (492, mw_b (.iload 7) 2 7),
  (494, mw_a (.i2l) 1),
  (495, mw_a (.lcmp) 1),
  (496, mw_b (.ifCond .eq 5) 3 501),
  (499, mw_c (.iconst 0) 1 (0)),
  (500, mw_a (.ireturn) 1),
  (501, mw_b (.goto 2799) 3 3300),
  (504, mw_b (.aload_n 1) 1 1),
  (505, ((.invokevirtual 195), 3, (1, 0, 15), [3054, 3055, 3056], yX11_craterCount, 0)),
  (508, mw_b (.aload_n 2) 1 2),
  (509, ((.invokevirtual 198), 3, (1, 0, 16), [9047, 9048, 9049], yX12_craterCount, 0))]
def q_L_law_16 : List (Nat × mw_I) := [(512, mw_b (.if_icmp .eq 2788) 3 3300),
  (515, mw_c (.iconst 0) 1 (0)),
  (516, mw_a (.ireturn) 1),
  (517, mw_b (.aload_n 1) 1 1),
  (518, ((.invokevirtual 199), 3, (1, 0, 15), [3058, 3059, 3060], yX11_channelCount, 0)),
  (521, mw_b (.aload_n 2) 1 2),
  (522, ((.invokevirtual 202), 3, (1, 0, 16), [9051, 9052, 9053], yX12_channelCount, 0)),
  (525, mw_b (.if_icmp .eq 2775) 3 3300),
  (528, mw_c (.iconst 0) 1 (0)),
  (529, mw_a (.ireturn) 1),
  (530, mw_b (.aload_n 1) 1 1),
  (531, mw_b (.aload_n 0) 1 0),
  (532, mw_b (.iload 5) 2 5),
  (534, mw_c (.iconst 1) 1 (1)),
  (535, mw_a (.iadd) 1),
  (536, mw_a (.iaload) 1),
  (537, mw_b (.aload_n 3) 1 3),
  (538, ((.invokestatic 203), 3, (3, 5, 0), [5043, 5044], yL_depthOf, 0)),
  (541, mw_b (.istore 6) 2 6),
  (543, mw_b (.aload_n 2) 1 2)]
def q_L_law_17 : List (Nat × mw_I) := [(544, mw_b (.aload_n 0) 1 0),
  (545, mw_b (.iload 5) 2 5),
  (547, mw_c (.iconst 1) 1 (1)),
  (548, mw_a (.iadd) 1),
  (549, mw_a (.iaload) 1),
  (550, ((.invokevirtual 205), 3, (2, 0, 16), [9055, 9056, 9057], yX12_depthOf, 0)),
  (553, mw_b (.istore 7) 2 7),
  (555, mw_b (.aload_n 2) 1 2),
  (556, ((.invokevirtual 185), 3, (1, 0, 16), [8221, 8222, 8223], yX12_thrown, 0)),
  (559, mw_b (.iload 6) 2 6),
  (561, mw_b (.if_icmp .eq 5) 3 566),
  (564, mw_c (.iconst 0) 1 (0)),
  (565, mw_a (.ireturn) 1),
  (566, mw_b (.iload 6) 2 6),
  (568, mw_b (.ifCond .ne 15) 3 583),
  (571, mw_b (.aload_n 3) 1 3),
  (572, mw_c (.iconst 0) 1 (0)),
  (573, mw_a (.laload) 1),
  (574, mw_b (.iload 7) 2 7)]
def q_L_law_18 : List (Nat × mw_I) := [(576, mw_a (.i2l) 1),
  (577, mw_a (.lcmp) 1),
  (578, mw_b (.ifCond .eq 5) 3 583),
  (581, mw_c (.iconst 0) 1 (0)),
  (582, mw_a (.ireturn) 1),
  (583, mw_b (.goto 2717) 3 3300),
  (586, mw_b (.aload_n 1) 1 1),
  (587, mw_b (.aload_n 0) 1 0),
  (588, mw_b (.iload 5) 2 5),
  (590, mw_c (.iconst 1) 1 (1)),
  (591, mw_a (.iadd) 1),
  (592, mw_a (.iaload) 1),
  (593, mw_b (.aload_n 0) 1 0),
  (594, mw_b (.iload 5) 2 5),
  (596, mw_c (.iconst 2) 1 (2)),
  (597, mw_a (.iadd) 1),
  (598, mw_a (.iaload) 1),
  (599, mw_b (.aload_n 3) 1 3),
  (600, ((.invokestatic 206), 3, (4, 5, 0), [5055, 5056], yL_channelBetween, 0)),
  (603, mw_b (.istore 6) 2 6),
  (605, mw_b (.aload_n 2) 1 2),
  (606, mw_b (.aload_n 0) 1 0),
  (607, mw_b (.iload 5) 2 5)]
def q_L_law_19 : List (Nat × mw_I) := [(609, mw_c (.iconst 1) 1 (1)),
  (610, mw_a (.iadd) 1),
  (611, mw_a (.iaload) 1),
  (612, mw_b (.aload_n 0) 1 0),
  (613, mw_b (.iload 5) 2 5),
  (615, mw_c (.iconst 2) 1 (2)),
  (616, mw_a (.iadd) 1),
  (617, mw_a (.iaload) 1),
  (618, ((.invokevirtual 209), 3, (3, 0, 16), [9059, 9060, 9061], yX12_channelBetween, 0)),
  (621, mw_b (.istore 7) 2 7),
  (623, mw_b (.aload_n 2) 1 2),
  (624, ((.invokevirtual 185), 3, (1, 0, 16), [8221, 8222, 8223], yX12_thrown, 0)),
  (627, mw_b (.iload 6) 2 6),
  (629, mw_b (.if_icmp .eq 5) 3 634),
  (632, mw_c (.iconst 0) 1 (0)),
  (633, mw_a (.ireturn) 1),
  (634, mw_b (.iload 6) 2 6),
  (636, mw_b (.ifCond .ne 15) 3 651),
  (639, mw_b (.aload_n 3) 1 3)]
def q_L_law_20 : List (Nat × mw_I) := [(640, mw_c (.iconst 0) 1 (0)),
  (641, mw_a (.laload) 1),
  (642, mw_b (.iload 7) 2 7),
  (644, mw_a (.i2l) 1),
  (645, mw_a (.lcmp) 1),
  (646, mw_b (.ifCond .eq 5) 3 651),
  (649, mw_c (.iconst 0) 1 (0)),
  (650, mw_a (.ireturn) 1),
  (651, mw_b (.goto 2649) 3 3300),
  (654, mw_b (.aload_n 1) 1 1),
  (655, mw_b (.aload_n 0) 1 0),
  (656, mw_b (.iload 5) 2 5),
  (658, mw_c (.iconst 1) 1 (1)),
  (659, mw_a (.iadd) 1),
  (660, mw_a (.iaload) 1),
  (661, mw_b (.aload_n 3) 1 3),
  (662, ((.invokestatic 210), 3, (3, 5, 0), [5067, 5068], yL_tide, 0)),
  (665, mw_b (.istore 6) 2 6),
  (667, mw_b (.aload_n 2) 1 2),
  (668, mw_b (.aload_n 0) 1 0),
  (669, mw_b (.iload 5) 2 5),
  (671, mw_c (.iconst 1) 1 (1))]
def q_L_law_21 : List (Nat × mw_I) := [(672, mw_a (.iadd) 1),
  (673, mw_a (.iaload) 1),
  (674, ((.invokevirtual 212), 3, (2, 0, 16), [9063, 9064, 9065], yX12_tide, 0)),
  (677, mw_b (.istore 7) 2 7),
  (679, mw_b (.aload_n 2) 1 2),
  (680, ((.invokevirtual 185), 3, (1, 0, 16), [8221, 8222, 8223], yX12_thrown, 0)),
  (683, mw_b (.iload 6) 2 6),
  (685, mw_b (.if_icmp .eq 5) 3 690),
  (688, mw_c (.iconst 0) 1 (0)),
  (689, mw_a (.ireturn) 1),
  (690, mw_b (.iload 6) 2 6),
  (692, mw_b (.ifCond .ne 15) 3 707),
  (695, mw_b (.aload_n 3) 1 3),
  (696, mw_c (.iconst 0) 1 (0)),
  (697, mw_a (.laload) 1),
  (698, mw_b (.iload 7) 2 7),
  (700, mw_a (.i2l) 1),
  (701, mw_a (.lcmp) 1),
  (702, mw_b (.ifCond .eq 5) 3 707)]
def q_L_law_22 : List (Nat × mw_I) := [(705, mw_c (.iconst 0) 1 (0)),
  (706, mw_a (.ireturn) 1),
  (707, mw_b (.goto 2593) 3 3300),
  (710, mw_b (.aload_n 1) 1 1),
  (711, mw_b (.aload_n 0) 1 0),
  (712, mw_b (.iload 5) 2 5),
  (714, mw_c (.iconst 1) 1 (1)),
  (715, mw_a (.iadd) 1),
  (716, mw_a (.iaload) 1),
  (717, mw_b (.aload_n 0) 1 0),
  (718, mw_b (.iload 5) 2 5),
  (720, mw_c (.iconst 2) 1 (2)),
  (721, mw_a (.iadd) 1),
  (722, mw_a (.iaload) 1),
  (723, mw_b (.aload_n 3) 1 3),
  (724, ((.invokestatic 213), 3, (4, 5, 0), [5075, 5076], yL_wayHours, 0)),
  (727, mw_b (.istore 6) 2 6),
  (729, mw_b (.aload_n 2) 1 2),
  (730, mw_b (.aload_n 0) 1 0),
  (731, mw_b (.iload 5) 2 5),
  (733, mw_c (.iconst 1) 1 (1)),
  (734, mw_a (.iadd) 1),
  (735, mw_a (.iaload) 1)]
def q_L_law_23 : List (Nat × mw_I) := [(736, mw_b (.aload_n 0) 1 0),
  (737, mw_b (.iload 5) 2 5),
  (739, mw_c (.iconst 2) 1 (2)),
  (740, mw_a (.iadd) 1),
  (741, mw_a (.iaload) 1),
  (742, ((.invokevirtual 215), 3, (3, 0, 16), [9070, 9071, 9072], yX12_wayHours, 0)),
  (745, mw_b (.istore 7) 2 7),
  (747, mw_b (.aload_n 2) 1 2),
  (748, ((.invokevirtual 185), 3, (1, 0, 16), [8221, 8222, 8223], yX12_thrown, 0)),
  (751, mw_b (.iload 6) 2 6),
  (753, mw_b (.if_icmp .eq 5) 3 758),
  (756, mw_c (.iconst 0) 1 (0)),
  (757, mw_a (.ireturn) 1),
  (758, mw_b (.iload 6) 2 6),
  (760, mw_b (.ifCond .ne 15) 3 775),
  (763, mw_b (.aload_n 3) 1 3),
  (764, mw_c (.iconst 0) 1 (0)),
  (765, mw_a (.laload) 1),
  (766, mw_b (.iload 7) 2 7)]
def q_L_law_24 : List (Nat × mw_I) := [(768, mw_a (.i2l) 1),
  (769, mw_a (.lcmp) 1),
  (770, mw_b (.ifCond .eq 5) 3 775),
  (773, mw_c (.iconst 0) 1 (0)),
  (774, mw_a (.ireturn) 1),
  (775, mw_b (.goto 2525) 3 3300),
  (778, mw_b (.aload_n 1) 1 1),
  (779, mw_b (.aload_n 0) 1 0),
  (780, mw_b (.iload 5) 2 5),
  (782, mw_c (.iconst 1) 1 (1)),
  (783, mw_a (.iadd) 1),
  (784, mw_a (.iaload) 1),
  (785, mw_b (.aload_n 0) 1 0),
  (786, mw_b (.iload 5) 2 5),
  (788, mw_c (.iconst 2) 1 (2)),
  (789, mw_a (.iadd) 1),
  (790, mw_a (.iaload) 1),
  (791, mw_b (.aload_n 3) 1 3),
  (792, ((.invokestatic 216), 3, (4, 5, 0), [5082, 5083], yL_wayHoursByTable, 0)),
  (795, mw_b (.istore 6) 2 6),
  (797, mw_b (.aload_n 2) 1 2),
  (798, mw_b (.aload_n 0) 1 0),
  (799, mw_b (.iload 5) 2 5)]
def q_L_law_25 : List (Nat × mw_I) := [(801, mw_c (.iconst 1) 1 (1)),
  (802, mw_a (.iadd) 1),
  (803, mw_a (.iaload) 1),
  (804, mw_b (.aload_n 0) 1 0),
  (805, mw_b (.iload 5) 2 5),
  (807, mw_c (.iconst 2) 1 (2)),
  (808, mw_a (.iadd) 1),
  (809, mw_a (.iaload) 1),
  (810, ((.invokevirtual 218), 3, (3, 0, 16), [9078, 9079, 9080], yX12_wayHoursByTable, 0)),
  (813, mw_b (.istore 7) 2 7),
  (815, mw_b (.aload_n 2) 1 2),
  (816, ((.invokevirtual 185), 3, (1, 0, 16), [8221, 8222, 8223], yX12_thrown, 0)),
  (819, mw_b (.iload 6) 2 6),
  (821, mw_b (.if_icmp .eq 5) 3 826),
  (824, mw_c (.iconst 0) 1 (0)),
  (825, mw_a (.ireturn) 1),
  (826, mw_b (.iload 6) 2 6),
  (828, mw_b (.ifCond .ne 15) 3 843),
  (831, mw_b (.aload_n 3) 1 3)]
def q_L_law_26 : List (Nat × mw_I) := [(832, mw_c (.iconst 0) 1 (0)),
  (833, mw_a (.laload) 1),
  (834, mw_b (.iload 7) 2 7),
  (836, mw_a (.i2l) 1),
  (837, mw_a (.lcmp) 1),
  (838, mw_b (.ifCond .eq 5) 3 843),
  (841, mw_c (.iconst 0) 1 (0)),
  (842, mw_a (.ireturn) 1),
  (843, mw_b (.goto 2457) 3 3300),
  (846, mw_b (.aload_n 1) 1 1),
  (847, mw_b (.aload_n 3) 1 3),
  (848, ((.invokestatic 219), 3, (2, 5, 0), [5089, 5090], yL_cheapestNet, 0)),
  (851, mw_b (.istore 6) 2 6),
  (853, mw_b (.aload_n 2) 1 2),
  (854, ((.invokevirtual 222), 3, (1, 0, 16), [9083, 9084, 9085], yX12_cheapestNet, 0)),
  (857, mw_b (.istore 7) 2 7),
  (859, mw_b (.aload_n 2) 1 2),
  (860, ((.invokevirtual 185), 3, (1, 0, 16), [8221, 8222, 8223], yX12_thrown, 0)),
  (863, mw_b (.iload 6) 2 6)]
def q_L_law_27 : List (Nat × mw_I) := [(865, mw_b (.if_icmp .eq 5) 3 870),
  (868, mw_c (.iconst 0) 1 (0)),
  (869, mw_a (.ireturn) 1),
  (870, mw_b (.iload 6) 2 6),
  (872, mw_b (.ifCond .ne 15) 3 887),
  (875, mw_b (.aload_n 3) 1 3),
  (876, mw_c (.iconst 0) 1 (0)),
  (877, mw_a (.laload) 1),
  (878, mw_b (.iload 7) 2 7),
  (880, mw_a (.i2l) 1),
  (881, mw_a (.lcmp) 1),
  (882, mw_b (.ifCond .eq 5) 3 887),
  (885, mw_c (.iconst 0) 1 (0)),
  (886, mw_a (.ireturn) 1),
  (887, mw_b (.goto 2413) 3 3300),
  (890, mw_b (.aload_n 1) 1 1),
  (891, mw_b (.aload_n 3) 1 3),
  (892, ((.invokestatic 223), 3, (2, 5, 0), [5096, 5097], yL_cheapestNetByGrowing, 0)),
  (895, mw_b (.istore 6) 2 6)]
def q_L_law_28 : List (Nat × mw_I) := [(897, mw_b (.aload_n 2) 1 2),
  (898, ((.invokevirtual 225), 3, (1, 0, 16), [9091, 9092, 9093], yX12_cheapestNetByGrowing, 0)),
  (901, mw_b (.istore 7) 2 7),
  (903, mw_b (.aload_n 2) 1 2),
  (904, ((.invokevirtual 185), 3, (1, 0, 16), [8221, 8222, 8223], yX12_thrown, 0)),
  (907, mw_b (.iload 6) 2 6),
  (909, mw_b (.if_icmp .eq 5) 3 914),
  (912, mw_c (.iconst 0) 1 (0)),
  (913, mw_a (.ireturn) 1),
  (914, mw_b (.iload 6) 2 6),
  (916, mw_b (.ifCond .ne 15) 3 931),
  (919, mw_b (.aload_n 3) 1 3),
  (920, mw_c (.iconst 0) 1 (0)),
  (921, mw_a (.laload) 1),
  (922, mw_b (.iload 7) 2 7),
  (924, mw_a (.i2l) 1),
  (925, mw_a (.lcmp) 1),
  (926, mw_b (.ifCond .eq 5) 3 931)]
def q_L_law_29 : List (Nat × mw_I) := [(929, mw_c (.iconst 0) 1 (0)),
  (930, mw_a (.ireturn) 1),
  (931, mw_b (.goto 2369) 3 3300),
  (934, mw_b (.aload_n 1) 1 1),
  (935, mw_b (.aload_n 0) 1 0),
  (936, mw_b (.iload 5) 2 5),
  (938, mw_c (.iconst 1) 1 (1)),
  (939, mw_a (.iadd) 1),
  (940, mw_a (.iaload) 1),
  (941, mw_b (.aload_n 0) 1 0),
  (942, mw_b (.iload 5) 2 5),
  (944, mw_c (.iconst 2) 1 (2)),
  (945, mw_a (.iadd) 1),
  (946, mw_a (.iaload) 1),
  (947, mw_b (.aload_n 0) 1 0),
  (948, mw_b (.iload 5) 2 5),
  (950, mw_c (.iconst 3) 1 (3)),
  (951, mw_a (.iadd) 1),
  (952, mw_a (.iaload) 1),
  (953, mw_b (.aload_n 3) 1 3),
  (954, ((.invokestatic 226), 3, (5, 5, 0), [5103, 5104], yL_addFerry, 0)),
  (957, mw_b (.istore 6) 2 6),
  (959, mw_b (.aload_n 2) 1 2)]
def q_L_law_30 : List (Nat × mw_I) := [(960, mw_b (.aload_n 0) 1 0),
  (961, mw_b (.iload 5) 2 5),
  (963, mw_c (.iconst 1) 1 (1)),
  (964, mw_a (.iadd) 1),
  (965, mw_a (.iaload) 1),
  (966, mw_b (.aload_n 0) 1 0),
  (967, mw_b (.iload 5) 2 5),
  (969, mw_c (.iconst 2) 1 (2)),
  (970, mw_a (.iadd) 1),
  (971, mw_a (.iaload) 1),
  (972, mw_b (.aload_n 0) 1 0),
  (973, mw_b (.iload 5) 2 5),
  (975, mw_c (.iconst 3) 1 (3)),
  (976, mw_a (.iadd) 1),
  (977, mw_a (.iaload) 1),
  (978, ((.invokevirtual 229), 3, (4, 0, 16), [9096, 9097, 9098], yX12_addFerry, 0)),
  (981, mw_b (.istore 7) 2 7),
  (983, mw_b (.aload_n 2) 1 2),
  (984, ((.invokevirtual 185), 3, (1, 0, 16), [8221, 8222, 8223], yX12_thrown, 0)),
  (987, mw_b (.iload 6) 2 6),
  (989, mw_b (.if_icmp .eq 5) 3 994)]
def q_L_law_31 : List (Nat × mw_I) := [(992, mw_c (.iconst 0) 1 (0)),
  (993, mw_a (.ireturn) 1),
  (994, mw_b (.iload 6) 2 6),
  (996, mw_b (.ifCond .ne 15) 3 1011),
  (999, mw_b (.aload_n 3) 1 3),
  (1000, mw_c (.iconst 0) 1 (0)),
  (1001, mw_a (.laload) 1),
  (1002, mw_b (.iload 7) 2 7),
  (1004, mw_a (.i2l) 1),
  (1005, mw_a (.lcmp) 1),
  (1006, mw_b (.ifCond .eq 5) 3 1011),
  (1009, mw_c (.iconst 0) 1 (0)),
  (1010, mw_a (.ireturn) 1),
  (1011, mw_b (.goto 2289) 3 3300),
  (1014, mw_b (.aload_n 1) 1 1),
  (1015, mw_b (.aload_n 0) 1 0),
  (1016, mw_b (.iload 5) 2 5),
  (1018, mw_c (.iconst 1) 1 (1)),
  (1019, mw_a (.iadd) 1),
  (1020, mw_a (.iaload) 1),
  (1021, mw_b (.aload_n 0) 1 0),
  (1022, mw_b (.iload 5) 2 5)]
def q_L_law_32 : List (Nat × mw_I) := [(1024, mw_c (.iconst 2) 1 (2)),
  (1025, mw_a (.iadd) 1),
  (1026, mw_a (.iaload) 1),
  (1027, mw_b (.aload_n 3) 1 3),
  (1028, ((.invokestatic 230), 3, (4, 5, 0), [5114, 5115], yL_sail, 0)),
  (1031, mw_b (.istore 6) 2 6),
  (1033, mw_b (.aload_n 2) 1 2),
  (1034, mw_b (.aload_n 0) 1 0),
  (1035, mw_b (.iload 5) 2 5),
  (1037, mw_c (.iconst 1) 1 (1)),
  (1038, mw_a (.iadd) 1),
  (1039, mw_a (.iaload) 1),
  (1040, mw_b (.aload_n 0) 1 0),
  (1041, mw_b (.iload 5) 2 5),
  (1043, mw_c (.iconst 2) 1 (2)),
  (1044, mw_a (.iadd) 1),
  (1045, mw_a (.iaload) 1),
  (1046, ((.invokevirtual 232), 3, (3, 0, 16), [9104, 9105, 9106], yX12_sail, 0)),
  (1049, mw_b (.istore 7) 2 7),
  (1051, mw_b (.aload_n 2) 1 2),
  (1052, ((.invokevirtual 185), 3, (1, 0, 16), [8221, 8222, 8223], yX12_thrown, 0)),
  (1055, mw_b (.iload 6) 2 6)]
def q_L_law_33 : List (Nat × mw_I) := [(1057, mw_b (.if_icmp .eq 5) 3 1062),
  (1060, mw_c (.iconst 0) 1 (0)),
  (1061, mw_a (.ireturn) 1),
  (1062, mw_b (.iload 6) 2 6),
  (1064, mw_b (.ifCond .ne 15) 3 1079),
  (1067, mw_b (.aload_n 3) 1 3),
  (1068, mw_c (.iconst 0) 1 (0)),
  (1069, mw_a (.laload) 1),
  (1070, mw_b (.iload 7) 2 7),
  (1072, mw_a (.i2l) 1),
  (1073, mw_a (.lcmp) 1),
  (1074, mw_b (.ifCond .eq 5) 3 1079),
  (1077, mw_c (.iconst 0) 1 (0)),
  (1078, mw_a (.ireturn) 1),
  (1079, mw_b (.goto 2221) 3 3300),
  (1082, mw_b (.aload_n 1) 1 1),
  (1083, mw_b (.aload_n 0) 1 0),
  (1084, mw_b (.iload 5) 2 5),
  (1086, mw_c (.iconst 1) 1 (1)),
  (1087, mw_a (.iadd) 1)]
def q_L_law_34 : List (Nat × mw_I) := [(1088, mw_a (.iaload) 1),
  (1089, mw_b (.aload_n 3) 1 3),
  (1090, ((.invokestatic 233), 3, (3, 5, 0), [5141, 5142], yL_isAtSea, 0)),
  (1093, mw_b (.istore 6) 2 6),
  (1095, mw_b (.aload_n 2) 1 2),
  (1096, mw_b (.aload_n 0) 1 0),
  (1097, mw_b (.iload 5) 2 5),
  (1099, mw_c (.iconst 1) 1 (1)),
  (1100, mw_a (.iadd) 1),
  (1101, mw_a (.iaload) 1),
  (1102, ((.invokevirtual 235), 3, (2, 0, 16), [9132, 9133, 9134], yX12_isAtSea, 0)),
  (1105, mw_b (.istore 7) 2 7),
  (1107, mw_b (.aload_n 2) 1 2),
  (1108, ((.invokevirtual 185), 3, (1, 0, 16), [8221, 8222, 8223], yX12_thrown, 0)),
  (1111, mw_b (.iload 6) 2 6),
  (1113, mw_b (.if_icmp .eq 5) 3 1118),
  (1116, mw_c (.iconst 0) 1 (0)),
  (1117, mw_a (.ireturn) 1),
  (1118, mw_b (.iload 6) 2 6)]
def q_L_law_35 : List (Nat × mw_I) := [(1120, mw_b (.ifCond .ne 22) 3 1142),
  (1123, mw_b (.aload_n 3) 1 3),
  (1124, mw_c (.iconst 0) 1 (0)),
  (1125, mw_a (.laload) 1),
  (1126, mw_b (.iload 7) 2 7),
  (1128, mw_b (.ifCond .eq 7) 3 1135),
  (1131, mw_a (.lconst 1) 1),
  (1132, mw_b (.goto 4) 3 1136),
  (1135, mw_a (.lconst 0) 1),
  (1136, mw_a (.lcmp) 1),
  (1137, mw_b (.ifCond .eq 5) 3 1142),
  (1140, mw_c (.iconst 0) 1 (0)),
  (1141, mw_a (.ireturn) 1),
  (1142, mw_b (.goto 2158) 3 3300),
  (1145, mw_b (.aload_n 1) 1 1),
  (1146, mw_b (.aload_n 0) 1 0),
  (1147, mw_b (.iload 5) 2 5),
  (1149, mw_c (.iconst 1) 1 (1)),
  (1150, mw_a (.iadd) 1),
  (1151, mw_a (.iaload) 1)]
def q_L_law_36 : List (Nat × mw_I) := [(1152, mw_b (.aload_n 3) 1 3),
  (1153, ((.invokestatic 236), 3, (3, 5, 0), [5153, 5154], yL_craterOf, 0)),
  (1156, mw_b (.istore 6) 2 6),
  (1158, mw_b (.aload_n 2) 1 2),
  (1159, mw_b (.aload_n 0) 1 0),
  (1160, mw_b (.iload 5) 2 5),
  (1162, mw_c (.iconst 1) 1 (1)),
  (1163, mw_a (.iadd) 1),
  (1164, mw_a (.iaload) 1),
  (1165, ((.invokevirtual 238), 3, (2, 0, 16), [9136, 9137, 9138], yX12_craterOf, 0)),
  (1168, mw_b (.istore 7) 2 7),
  (1170, mw_b (.aload_n 2) 1 2),
  (1171, ((.invokevirtual 185), 3, (1, 0, 16), [8221, 8222, 8223], yX12_thrown, 0)),
  (1174, mw_b (.iload 6) 2 6),
  (1176, mw_b (.if_icmp .eq 5) 3 1181),
  (1179, mw_c (.iconst 0) 1 (0)),
  (1180, mw_a (.ireturn) 1),
  (1181, mw_b (.iload 6) 2 6),
  (1183, mw_b (.ifCond .ne 15) 3 1198)]
def q_L_law_37 : List (Nat × mw_I) := [(1186, mw_b (.aload_n 3) 1 3),
  (1187, mw_c (.iconst 0) 1 (0)),
  (1188, mw_a (.laload) 1),
  (1189, mw_b (.iload 7) 2 7),
  (1191, mw_a (.i2l) 1),
  (1192, mw_a (.lcmp) 1),
  (1193, mw_b (.ifCond .eq 5) 3 1198),
  (1196, mw_c (.iconst 0) 1 (0)),
  (1197, mw_a (.ireturn) 1),
  (1198, mw_b (.goto 2102) 3 3300),
  (1201, mw_b (.aload_n 1) 1 1),
  (1202, mw_b (.aload_n 0) 1 0),
  (1203, mw_b (.iload 5) 2 5),
  (1205, mw_c (.iconst 1) 1 (1)),
  (1206, mw_a (.iadd) 1),
  (1207, mw_a (.iaload) 1),
  (1208, mw_b (.aload_n 3) 1 3),
  (1209, ((.invokestatic 239), 3, (3, 5, 0), [5164, 5165], yL_targetOf, 0)),
  (1212, mw_b (.istore 6) 2 6),
  (1214, mw_b (.aload_n 2) 1 2),
  (1215, mw_b (.aload_n 0) 1 0)]
def q_L_law_38 : List (Nat × mw_I) := [(1216, mw_b (.iload 5) 2 5),
  (1218, mw_c (.iconst 1) 1 (1)),
  (1219, mw_a (.iadd) 1),
  (1220, mw_a (.iaload) 1),
  (1221, ((.invokevirtual 241), 3, (2, 0, 16), [9140, 9141, 9142], yX12_targetOf, 0)),
  (1224, mw_b (.istore 7) 2 7),
  (1226, mw_b (.aload_n 2) 1 2),
  (1227, ((.invokevirtual 185), 3, (1, 0, 16), [8221, 8222, 8223], yX12_thrown, 0)),
  (1230, mw_b (.iload 6) 2 6),
  (1232, mw_b (.if_icmp .eq 5) 3 1237),
  (1235, mw_c (.iconst 0) 1 (0)),
  (1236, mw_a (.ireturn) 1),
  (1237, mw_b (.iload 6) 2 6),
  (1239, mw_b (.ifCond .ne 15) 3 1254),
  (1242, mw_b (.aload_n 3) 1 3),
  (1243, mw_c (.iconst 0) 1 (0)),
  (1244, mw_a (.laload) 1),
  (1245, mw_b (.iload 7) 2 7),
  (1247, mw_a (.i2l) 1)]
def q_L_law_39 : List (Nat × mw_I) := [(1248, mw_a (.lcmp) 1),
  (1249, mw_b (.ifCond .eq 5) 3 1254),
  (1252, mw_c (.iconst 0) 1 (0)),
  (1253, mw_a (.ireturn) 1),
  (1254, mw_b (.goto 2046) 3 3300),
  (1257, mw_b (.aload_n 1) 1 1),
  (1258, mw_b (.aload_n 0) 1 0),
  (1259, mw_b (.iload 5) 2 5),
  (1261, mw_c (.iconst 1) 1 (1)),
  (1262, mw_a (.iadd) 1),
  (1263, mw_a (.iaload) 1),
  (1264, mw_b (.aload_n 3) 1 3),
  (1265, ((.invokestatic 242), 3, (3, 5, 0), [5171, 5172], yL_hoursLeft, 0)),
  (1268, mw_b (.istore 6) 2 6),
  (1270, mw_b (.aload_n 2) 1 2),
  (1271, mw_b (.aload_n 0) 1 0),
  (1272, mw_b (.iload 5) 2 5),
  (1274, mw_c (.iconst 1) 1 (1)),
  (1275, mw_a (.iadd) 1),
  (1276, mw_a (.iaload) 1),
  (1277, ((.invokevirtual 244), 3, (2, 0, 16), [9144, 9145, 9146], yX12_hoursLeft, 0))]
def q_L_law_40 : List (Nat × mw_I) := [(1280, mw_b (.istore 7) 2 7),
  (1282, mw_b (.aload_n 2) 1 2),
  (1283, ((.invokevirtual 185), 3, (1, 0, 16), [8221, 8222, 8223], yX12_thrown, 0)),
  (1286, mw_b (.iload 6) 2 6),
  (1288, mw_b (.if_icmp .eq 5) 3 1293),
  (1291, mw_c (.iconst 0) 1 (0)),
  (1292, mw_a (.ireturn) 1),
  (1293, mw_b (.iload 6) 2 6),
  (1295, mw_b (.ifCond .ne 15) 3 1310),
  (1298, mw_b (.aload_n 3) 1 3),
  (1299, mw_c (.iconst 0) 1 (0)),
  (1300, mw_a (.laload) 1),
  (1301, mw_b (.iload 7) 2 7),
  (1303, mw_a (.i2l) 1),
  (1304, mw_a (.lcmp) 1),
  (1305, mw_b (.ifCond .eq 5) 3 1310),
  (1308, mw_c (.iconst 0) 1 (0)),
  (1309, mw_a (.ireturn) 1),
  (1310, mw_b (.goto 1990) 3 3300)]
def q_L_law_41 : List (Nat × mw_I) := [(1313, mw_b (.aload_n 1) 1 1),
  (1314, mw_b (.aload_n 0) 1 0),
  (1315, mw_b (.iload 5) 2 5),
  (1317, mw_c (.iconst 1) 1 (1)),
  (1318, mw_a (.iadd) 1),
  (1319, mw_a (.iaload) 1),
  (1320, mw_b (.aload_n 3) 1 3),
  (1321, ((.invokestatic 245), 3, (3, 5, 0), [5179, 5180], yL_isStranded, 0)),
  (1324, mw_b (.istore 6) 2 6),
  (1326, mw_b (.aload_n 2) 1 2),
  (1327, mw_b (.aload_n 0) 1 0),
  (1328, mw_b (.iload 5) 2 5),
  (1330, mw_c (.iconst 1) 1 (1)),
  (1331, mw_a (.iadd) 1),
  (1332, mw_a (.iaload) 1),
  (1333, ((.invokevirtual 247), 3, (2, 0, 16), [9152, 9153, 9154], yX12_isStranded, 0)),
  (1336, mw_b (.istore 7) 2 7),
  (1338, mw_b (.aload_n 2) 1 2),
  (1339, ((.invokevirtual 185), 3, (1, 0, 16), [8221, 8222, 8223], yX12_thrown, 0)),
  (1342, mw_b (.iload 6) 2 6)]
def q_L_law_42 : List (Nat × mw_I) := [(1344, mw_b (.if_icmp .eq 5) 3 1349),
  (1347, mw_c (.iconst 0) 1 (0)),
  (1348, mw_a (.ireturn) 1),
  (1349, mw_b (.iload 6) 2 6),
  (1351, mw_b (.ifCond .ne 22) 3 1373),
  (1354, mw_b (.aload_n 3) 1 3),
  (1355, mw_c (.iconst 0) 1 (0)),
  (1356, mw_a (.laload) 1),
  (1357, mw_b (.iload 7) 2 7),
  (1359, mw_b (.ifCond .eq 7) 3 1366),
  (1362, mw_a (.lconst 1) 1),
  (1363, mw_b (.goto 4) 3 1367),
  (1366, mw_a (.lconst 0) 1),
  (1367, mw_a (.lcmp) 1),
  (1368, mw_b (.ifCond .eq 5) 3 1373),
  (1371, mw_c (.iconst 0) 1 (0)),
  (1372, mw_a (.ireturn) 1),
  (1373, mw_b (.goto 1927) 3 3300)]
def q_L_law_43 : List (Nat × mw_I) := [(1376, mw_b (.aload_n 1) 1 1),
  (1377, mw_b (.aload_n 0) 1 0),
  (1378, mw_b (.iload 5) 2 5),
  (1380, mw_c (.iconst 1) 1 (1)),
  (1381, mw_a (.iadd) 1),
  (1382, mw_a (.iaload) 1),
  (1383, mw_b (.aload_n 3) 1 3),
  (1384, ((.invokestatic 248), 3, (3, 5, 0), [5187, 5188], yL_loadOf, 0)),
  (1387, mw_b (.istore 6) 2 6),
  (1389, mw_b (.aload_n 2) 1 2),
  (1390, mw_b (.aload_n 0) 1 0),
  (1391, mw_b (.iload 5) 2 5),
  (1393, mw_c (.iconst 1) 1 (1)),
  (1394, mw_a (.iadd) 1),
  (1395, mw_a (.iaload) 1),
  (1396, ((.invokevirtual 250), 3, (2, 0, 16), [9156, 9157, 9158], yX12_loadOf, 0)),
  (1399, mw_b (.istore 7) 2 7),
  (1401, mw_b (.aload_n 2) 1 2),
  (1402, ((.invokevirtual 185), 3, (1, 0, 16), [8221, 8222, 8223], yX12_thrown, 0)),
  (1405, mw_b (.iload 6) 2 6),
  (1407, mw_b (.if_icmp .eq 5) 3 1412)]
def q_L_law_44 : List (Nat × mw_I) := [(1410, mw_c (.iconst 0) 1 (0)),
  (1411, mw_a (.ireturn) 1),
  (1412, mw_b (.iload 6) 2 6),
  (1414, mw_b (.ifCond .ne 15) 3 1429),
  (1417, mw_b (.aload_n 3) 1 3),
  (1418, mw_c (.iconst 0) 1 (0)),
  (1419, mw_a (.laload) 1),
  (1420, mw_b (.iload 7) 2 7),
  (1422, mw_a (.i2l) 1),
  (1423, mw_a (.lcmp) 1),
  (1424, mw_b (.ifCond .eq 5) 3 1429),
  (1427, mw_c (.iconst 0) 1 (0)),
  (1428, mw_a (.ireturn) 1),
  (1429, mw_b (.goto 1871) 3 3300),
  (1432, mw_b (.aload_n 1) 1 1),
  (1433, mw_b (.aload_n 0) 1 0),
  (1434, mw_b (.iload 5) 2 5),
  (1436, mw_c (.iconst 1) 1 (1)),
  (1437, mw_a (.iadd) 1),
  (1438, mw_a (.iaload) 1),
  (1439, mw_b (.aload_n 0) 1 0)]
def q_L_law_45 : List (Nat × mw_I) := [(1440, mw_b (.iload 5) 2 5),
  (1442, mw_c (.iconst 2) 1 (2)),
  (1443, mw_a (.iadd) 1),
  (1444, mw_a (.iaload) 1),
  (1445, mw_b (.aload_n 3) 1 3),
  (1446, ((.invokestatic 251), 3, (4, 5, 0), [5195, 5196], yL_earliestArrival, 0)),
  (1449, mw_b (.istore 6) 2 6),
  (1451, mw_b (.aload_n 2) 1 2),
  (1452, mw_b (.aload_n 0) 1 0),
  (1453, mw_b (.iload 5) 2 5),
  (1455, mw_c (.iconst 1) 1 (1)),
  (1456, mw_a (.iadd) 1),
  (1457, mw_a (.iaload) 1),
  (1458, mw_b (.aload_n 0) 1 0),
  (1459, mw_b (.iload 5) 2 5),
  (1461, mw_c (.iconst 2) 1 (2)),
  (1462, mw_a (.iadd) 1),
  (1463, mw_a (.iaload) 1),
  (1464, ((.invokevirtual 253), 3, (3, 0, 16), [9164, 9165, 9166], yX12_earliestArrival, 0)),
  (1467, mw_b (.istore 7) 2 7),
  (1469, mw_b (.aload_n 2) 1 2),
  (1470, ((.invokevirtual 185), 3, (1, 0, 16), [8221, 8222, 8223], yX12_thrown, 0))]
def q_L_law_46 : List (Nat × mw_I) := [(1473, mw_b (.iload 6) 2 6),
  (1475, mw_b (.if_icmp .eq 5) 3 1480),
  (1478, mw_c (.iconst 0) 1 (0)),
  (1479, mw_a (.ireturn) 1),
  (1480, mw_b (.iload 6) 2 6),
  (1482, mw_b (.ifCond .ne 15) 3 1497),
  (1485, mw_b (.aload_n 3) 1 3),
  (1486, mw_c (.iconst 0) 1 (0)),
  (1487, mw_a (.laload) 1),
  (1488, mw_b (.iload 7) 2 7),
  (1490, mw_a (.i2l) 1),
  (1491, mw_a (.lcmp) 1),
  (1492, mw_b (.ifCond .eq 5) 3 1497),
  (1495, mw_c (.iconst 0) 1 (0)),
  (1496, mw_a (.ireturn) 1),
  (1497, mw_b (.goto 1803) 3 3300),
  (1500, mw_b (.aload_n 1) 1 1),
  (1501, mw_b (.aload_n 0) 1 0),
  (1502, mw_b (.iload 5) 2 5)]
def q_L_law_47 : List (Nat × mw_I) := [(1504, mw_c (.iconst 1) 1 (1)),
  (1505, mw_a (.iadd) 1),
  (1506, mw_a (.iaload) 1),
  (1507, mw_b (.aload_n 0) 1 0),
  (1508, mw_b (.iload 5) 2 5),
  (1510, mw_c (.iconst 2) 1 (2)),
  (1511, mw_a (.iadd) 1),
  (1512, mw_a (.iaload) 1),
  (1513, mw_b (.aload_n 3) 1 3),
  (1514, ((.invokestatic 254), 3, (4, 5, 0), [5202, 5203], yL_earliestArrivalByHours, 0)),
  (1517, mw_b (.istore 6) 2 6),
  (1519, mw_b (.aload_n 2) 1 2),
  (1520, mw_b (.aload_n 0) 1 0),
  (1521, mw_b (.iload 5) 2 5),
  (1523, mw_c (.iconst 1) 1 (1)),
  (1524, mw_a (.iadd) 1),
  (1525, mw_a (.iaload) 1),
  (1526, mw_b (.aload_n 0) 1 0),
  (1527, mw_b (.iload 5) 2 5),
  (1529, mw_c (.iconst 2) 1 (2)),
  (1530, mw_a (.iadd) 1),
  (1531, mw_a (.iaload) 1),
  (1532, ((.invokevirtual 256), 3, (3, 0, 16), [9173, 9174, 9175], yX12_earliestArrivalByHours, 0)),
  (1535, mw_b (.istore 7) 2 7)]
def q_L_law_48 : List (Nat × mw_I) := [(1537, mw_b (.aload_n 2) 1 2),
  (1538, ((.invokevirtual 185), 3, (1, 0, 16), [8221, 8222, 8223], yX12_thrown, 0)),
  (1541, mw_b (.iload 6) 2 6),
  (1543, mw_b (.if_icmp .eq 5) 3 1548),
  (1546, mw_c (.iconst 0) 1 (0)),
  (1547, mw_a (.ireturn) 1),
  (1548, mw_b (.iload 6) 2 6),
  (1550, mw_b (.ifCond .ne 15) 3 1565),
  (1553, mw_b (.aload_n 3) 1 3),
  (1554, mw_c (.iconst 0) 1 (0)),
  (1555, mw_a (.laload) 1),
  (1556, mw_b (.iload 7) 2 7),
  (1558, mw_a (.i2l) 1),
  (1559, mw_a (.lcmp) 1),
  (1560, mw_b (.ifCond .eq 5) 3 1565),
  (1563, mw_c (.iconst 0) 1 (0)),
  (1564, mw_a (.ireturn) 1),
  (1565, mw_b (.goto 1735) 3 3300)]
def q_L_law_49 : List (Nat × mw_I) := [(1568, mw_b (.aload_n 1) 1 1),
  (1569, mw_b (.aload_n 0) 1 0),
  (1570, mw_b (.iload 5) 2 5),
  (1572, mw_c (.iconst 1) 1 (1)),
  (1573, mw_a (.iadd) 1),
  (1574, mw_a (.iaload) 1),
  (1575, mw_b (.aload_n 0) 1 0),
  (1576, mw_b (.iload 5) 2 5),
  (1578, mw_c (.iconst 2) 1 (2)),
  (1579, mw_a (.iadd) 1),
  (1580, mw_a (.iaload) 1),
  (1581, mw_b (.aload_n 0) 1 0),
  (1582, mw_b (.iload 5) 2 5),
  (1584, mw_c (.iconst 3) 1 (3)),
  (1585, mw_a (.iadd) 1),
  (1586, mw_a (.iaload) 1),
  (1587, mw_b (.aload_n 0) 1 0),
  (1588, mw_b (.iload 5) 2 5),
  (1590, mw_c (.iconst 4) 1 (4)),
  (1591, mw_a (.iadd) 1),
  (1592, mw_a (.iaload) 1),
  (1593, mw_b (.aload_n 3) 1 3),
  (1594, ((.invokestatic 257), 3, (6, 5, 0), [5209, 5210], yL_addMoon, 0)),
  (1597, mw_b (.istore 6) 2 6),
  (1599, mw_b (.aload_n 2) 1 2)]
def q_L_law_50 : List (Nat × mw_I) := [(1600, mw_b (.aload_n 0) 1 0),
  (1601, mw_b (.iload 5) 2 5),
  (1603, mw_c (.iconst 1) 1 (1)),
  (1604, mw_a (.iadd) 1),
  (1605, mw_a (.iaload) 1),
  (1606, mw_b (.aload_n 0) 1 0),
  (1607, mw_b (.iload 5) 2 5),
  (1609, mw_c (.iconst 2) 1 (2)),
  (1610, mw_a (.iadd) 1),
  (1611, mw_a (.iaload) 1),
  (1612, mw_b (.aload_n 0) 1 0),
  (1613, mw_b (.iload 5) 2 5),
  (1615, mw_c (.iconst 3) 1 (3)),
  (1616, mw_a (.iadd) 1),
  (1617, mw_a (.iaload) 1),
  (1618, mw_b (.aload_n 0) 1 0),
  (1619, mw_b (.iload 5) 2 5),
  (1621, mw_c (.iconst 4) 1 (4)),
  (1622, mw_a (.iadd) 1),
  (1623, mw_a (.iaload) 1),
  (1624, ((.invokevirtual 259), 3, (5, 0, 16), [9178, 9179, 9180], yX12_addMoon, 0)),
  (1627, mw_b (.istore 7) 2 7),
  (1629, mw_b (.aload_n 2) 1 2),
  (1630, ((.invokevirtual 185), 3, (1, 0, 16), [8221, 8222, 8223], yX12_thrown, 0))]
def q_L_law_51 : List (Nat × mw_I) := [(1633, mw_b (.iload 6) 2 6),
  (1635, mw_b (.if_icmp .eq 5) 3 1640),
  (1638, mw_c (.iconst 0) 1 (0)),
  (1639, mw_a (.ireturn) 1),
  (1640, mw_b (.iload 6) 2 6),
  (1642, mw_b (.ifCond .ne 15) 3 1657),
  (1645, mw_b (.aload_n 3) 1 3),
  (1646, mw_c (.iconst 0) 1 (0)),
  (1647, mw_a (.laload) 1),
  (1648, mw_b (.iload 7) 2 7),
  (1650, mw_a (.i2l) 1),
  (1651, mw_a (.lcmp) 1),
  (1652, mw_b (.ifCond .eq 5) 3 1657),
  (1655, mw_c (.iconst 0) 1 (0)),
  (1656, mw_a (.ireturn) 1),
  (1657, mw_b (.goto 1643) 3 3300),
  (1660, mw_b (.aload_n 1) 1 1),
  (1661, mw_b (.aload_n 0) 1 0),
  (1662, mw_b (.iload 5) 2 5)]
def q_L_law_52 : List (Nat × mw_I) := [(1664, mw_c (.iconst 1) 1 (1)),
  (1665, mw_a (.iadd) 1),
  (1666, mw_a (.iaload) 1),
  (1667, mw_b (.aload_n 0) 1 0),
  (1668, mw_b (.iload 5) 2 5),
  (1670, mw_c (.iconst 2) 1 (2)),
  (1671, mw_a (.iadd) 1),
  (1672, mw_a (.iaload) 1),
  (1673, mw_b (.aload_n 3) 1 3),
  (1674, ((.invokestatic 260), 3, (4, 5, 0), [5224, 5225], yL_board, 0)),
  (1677, mw_b (.istore 6) 2 6),
  (1679, mw_b (.aload_n 2) 1 2),
  (1680, mw_b (.aload_n 0) 1 0),
  (1681, mw_b (.iload 5) 2 5),
  (1683, mw_c (.iconst 1) 1 (1)),
  (1684, mw_a (.iadd) 1),
  (1685, mw_a (.iaload) 1),
  (1686, mw_b (.aload_n 0) 1 0),
  (1687, mw_b (.iload 5) 2 5),
  (1689, mw_c (.iconst 2) 1 (2)),
  (1690, mw_a (.iadd) 1),
  (1691, mw_a (.iaload) 1),
  (1692, ((.invokevirtual 262), 3, (3, 0, 16), [9186, 9187, 9188], yX12_board, 0)),
  (1695, mw_b (.istore 7) 2 7)]
def q_L_law_53 : List (Nat × mw_I) := [(1697, mw_b (.aload_n 2) 1 2),
  (1698, ((.invokevirtual 185), 3, (1, 0, 16), [8221, 8222, 8223], yX12_thrown, 0)),
  (1701, mw_b (.iload 6) 2 6),
  (1703, mw_b (.if_icmp .eq 5) 3 1708),
  (1706, mw_c (.iconst 0) 1 (0)),
  (1707, mw_a (.ireturn) 1),
  (1708, mw_b (.iload 6) 2 6),
  (1710, mw_b (.ifCond .ne 15) 3 1725),
  (1713, mw_b (.aload_n 3) 1 3),
  (1714, mw_c (.iconst 0) 1 (0)),
  (1715, mw_a (.laload) 1),
  (1716, mw_b (.iload 7) 2 7),
  (1718, mw_a (.i2l) 1),
  (1719, mw_a (.lcmp) 1),
  (1720, mw_b (.ifCond .eq 5) 3 1725),
  (1723, mw_c (.iconst 0) 1 (0)),
  (1724, mw_a (.ireturn) 1),
  (1725, mw_b (.goto 1575) 3 3300)]
def q_L_law_54 : List (Nat × mw_I) := [(1728, mw_b (.aload_n 1) 1 1),
  (1729, mw_b (.aload_n 0) 1 0),
  (1730, mw_b (.iload 5) 2 5),
  (1732, mw_c (.iconst 1) 1 (1)),
  (1733, mw_a (.iadd) 1),
  (1734, mw_a (.iaload) 1),
  (1735, mw_b (.aload_n 3) 1 3),
  (1736, ((.invokestatic 263), 3, (3, 5, 0), [6004, 6005], yL_land, 0)),
  (1739, mw_b (.istore 6) 2 6),
  (1741, mw_b (.aload_n 2) 1 2),
  (1742, mw_b (.aload_n 0) 1 0),
  (1743, mw_b (.iload 5) 2 5),
  (1745, mw_c (.iconst 1) 1 (1)),
  (1746, mw_a (.iadd) 1),
  (1747, mw_a (.iaload) 1),
  (1748, ((.invokevirtual 265), 3, (2, 0, 16), [9198, 9199, 9200], yX12_land, 0)),
  (1751, mw_b (.istore 7) 2 7),
  (1753, mw_b (.aload_n 2) 1 2),
  (1754, ((.invokevirtual 185), 3, (1, 0, 16), [8221, 8222, 8223], yX12_thrown, 0)),
  (1757, mw_b (.iload 6) 2 6),
  (1759, mw_b (.if_icmp .eq 5) 3 1764)]
def q_L_law_55 : List (Nat × mw_I) := [(1762, mw_c (.iconst 0) 1 (0)),
  (1763, mw_a (.ireturn) 1),
  (1764, mw_b (.iload 6) 2 6),
  (1766, mw_b (.ifCond .ne 15) 3 1781),
  (1769, mw_b (.aload_n 3) 1 3),
  (1770, mw_c (.iconst 0) 1 (0)),
  (1771, mw_a (.laload) 1),
  (1772, mw_b (.iload 7) 2 7),
  (1774, mw_a (.i2l) 1),
  (1775, mw_a (.lcmp) 1),
  (1776, mw_b (.ifCond .eq 5) 3 1781),
  (1779, mw_c (.iconst 0) 1 (0)),
  (1780, mw_a (.ireturn) 1),
  (1781, mw_b (.goto 1519) 3 3300),
  (1784, mw_b (.aload_n 1) 1 1),
  (1785, mw_b (.aload_n 0) 1 0),
  (1786, mw_b (.iload 5) 2 5),
  (1788, mw_c (.iconst 1) 1 (1)),
  (1789, mw_a (.iadd) 1),
  (1790, mw_a (.iaload) 1),
  (1791, mw_b (.aload_n 3) 1 3)]
def q_L_law_56 : List (Nat × mw_I) := [(1792, ((.invokestatic 266), 3, (3, 5, 0), [6020, 6021], yL_loadBest, 0)),
  (1795, mw_b (.istore 6) 2 6),
  (1797, mw_b (.aload_n 2) 1 2),
  (1798, mw_b (.aload_n 0) 1 0),
  (1799, mw_b (.iload 5) 2 5),
  (1801, mw_c (.iconst 1) 1 (1)),
  (1802, mw_a (.iadd) 1),
  (1803, mw_a (.iaload) 1),
  (1804, ((.invokevirtual 268), 3, (2, 0, 16), [9214, 9215, 9216], yX12_loadBest, 0)),
  (1807, mw_b (.istore 7) 2 7),
  (1809, mw_b (.aload_n 2) 1 2),
  (1810, ((.invokevirtual 185), 3, (1, 0, 16), [8221, 8222, 8223], yX12_thrown, 0)),
  (1813, mw_b (.iload 6) 2 6),
  (1815, mw_b (.if_icmp .eq 5) 3 1820),
  (1818, mw_c (.iconst 0) 1 (0)),
  (1819, mw_a (.ireturn) 1),
  (1820, mw_b (.iload 6) 2 6),
  (1822, mw_b (.ifCond .ne 15) 3 1837)]
def q_L_law_57 : List (Nat × mw_I) := [(1825, mw_b (.aload_n 3) 1 3),
  (1826, mw_c (.iconst 0) 1 (0)),
  (1827, mw_a (.laload) 1),
  (1828, mw_b (.iload 7) 2 7),
  (1830, mw_a (.i2l) 1),
  (1831, mw_a (.lcmp) 1),
  (1832, mw_b (.ifCond .eq 5) 3 1837),
  (1835, mw_c (.iconst 0) 1 (0)),
  (1836, mw_a (.ireturn) 1),
  (1837, mw_b (.goto 1463) 3 3300),
  (1840, mw_b (.aload_n 1) 1 1),
  (1841, mw_b (.aload_n 0) 1 0),
  (1842, mw_b (.iload 5) 2 5),
  (1844, mw_c (.iconst 1) 1 (1)),
  (1845, mw_a (.iadd) 1),
  (1846, mw_a (.iaload) 1),
  (1847, mw_b (.aload_n 3) 1 3),
  (1848, ((.invokestatic 269), 3, (3, 5, 0), [6033, 6034], yL_bestLoad, 0)),
  (1851, mw_b (.istore 6) 2 6),
  (1853, mw_b (.aload_n 2) 1 2),
  (1854, mw_b (.aload_n 0) 1 0),
  (1855, mw_b (.iload 5) 2 5)]
def q_L_law_58 : List (Nat × mw_I) := [(1857, mw_c (.iconst 1) 1 (1)),
  (1858, mw_a (.iadd) 1),
  (1859, mw_a (.iaload) 1),
  (1860, ((.invokevirtual 271), 3, (2, 0, 16), [9237, 9238, 9239], yX12_bestLoad, 0)),
  (1863, mw_b (.istore 7) 2 7),
  (1865, mw_b (.aload_n 2) 1 2),
  (1866, ((.invokevirtual 185), 3, (1, 0, 16), [8221, 8222, 8223], yX12_thrown, 0)),
  (1869, mw_b (.iload 6) 2 6),
  (1871, mw_b (.if_icmp .eq 5) 3 1876),
  (1874, mw_c (.iconst 0) 1 (0)),
  (1875, mw_a (.ireturn) 1),
  (1876, mw_b (.iload 6) 2 6),
  (1878, mw_b (.ifCond .ne 15) 3 1893),
  (1881, mw_b (.aload_n 3) 1 3),
  (1882, mw_c (.iconst 0) 1 (0)),
  (1883, mw_a (.laload) 1),
  (1884, mw_b (.iload 7) 2 7),
  (1886, mw_a (.i2l) 1),
  (1887, mw_a (.lcmp) 1)]
def q_L_law_59 : List (Nat × mw_I) := [(1888, mw_b (.ifCond .eq 5) 3 1893),
  (1891, mw_c (.iconst 0) 1 (0)),
  (1892, mw_a (.ireturn) 1),
  (1893, mw_b (.goto 1407) 3 3300),
  (1896, mw_b (.aload_n 1) 1 1),
  (1897, mw_b (.aload_n 0) 1 0),
  (1898, mw_b (.iload 5) 2 5),
  (1900, mw_c (.iconst 1) 1 (1)),
  (1901, mw_a (.iadd) 1),
  (1902, mw_a (.iaload) 1),
  (1903, mw_b (.aload_n 3) 1 3),
  (1904, ((.invokestatic 272), 3, (3, 5, 0), [6040, 6041], yL_bestLoadByTable, 0)),
  (1907, mw_b (.istore 6) 2 6),
  (1909, mw_b (.aload_n 2) 1 2),
  (1910, mw_b (.aload_n 0) 1 0),
  (1911, mw_b (.iload 5) 2 5),
  (1913, mw_c (.iconst 1) 1 (1)),
  (1914, mw_a (.iadd) 1),
  (1915, mw_a (.iaload) 1),
  (1916, ((.invokevirtual 274), 3, (2, 0, 16), [10001, 10002, 10003], yX12_bestLoadByTable, 0)),
  (1919, mw_b (.istore 7) 2 7)]
def q_L_law_60 : List (Nat × mw_I) := [(1921, mw_b (.aload_n 2) 1 2),
  (1922, ((.invokevirtual 185), 3, (1, 0, 16), [8221, 8222, 8223], yX12_thrown, 0)),
  (1925, mw_b (.iload 6) 2 6),
  (1927, mw_b (.if_icmp .eq 5) 3 1932),
  (1930, mw_c (.iconst 0) 1 (0)),
  (1931, mw_a (.ireturn) 1),
  (1932, mw_b (.iload 6) 2 6),
  (1934, mw_b (.ifCond .ne 15) 3 1949),
  (1937, mw_b (.aload_n 3) 1 3),
  (1938, mw_c (.iconst 0) 1 (0)),
  (1939, mw_a (.laload) 1),
  (1940, mw_b (.iload 7) 2 7),
  (1942, mw_a (.i2l) 1),
  (1943, mw_a (.lcmp) 1),
  (1944, mw_b (.ifCond .eq 5) 3 1949),
  (1947, mw_c (.iconst 0) 1 (0)),
  (1948, mw_a (.ireturn) 1),
  (1949, mw_b (.goto 1351) 3 3300)]
def q_L_law_61 : List (Nat × mw_I) := [(1952, mw_b (.aload_n 1) 1 1),
  (1953, mw_b (.aload_n 0) 1 0),
  (1954, mw_b (.iload 5) 2 5),
  (1956, mw_c (.iconst 1) 1 (1)),
  (1957, mw_a (.iadd) 1),
  (1958, mw_a (.iaload) 1),
  (1959, mw_b (.aload_n 3) 1 3),
  (1960, ((.invokestatic 275), 3, (3, 5, 0), [6047, 6048], yL_rescue, 0)),
  (1963, mw_b (.istore 6) 2 6),
  (1965, mw_b (.aload_n 2) 1 2),
  (1966, mw_b (.aload_n 0) 1 0),
  (1967, mw_b (.iload 5) 2 5),
  (1969, mw_c (.iconst 1) 1 (1)),
  (1970, mw_a (.iadd) 1),
  (1971, mw_a (.iaload) 1),
  (1972, ((.invokevirtual 277), 3, (2, 0, 16), [10006, 10007, 10008], yX12_rescue, 0)),
  (1975, mw_b (.istore 7) 2 7),
  (1977, mw_b (.aload_n 2) 1 2),
  (1978, ((.invokevirtual 185), 3, (1, 0, 16), [8221, 8222, 8223], yX12_thrown, 0)),
  (1981, mw_b (.iload 6) 2 6),
  (1983, mw_b (.if_icmp .eq 5) 3 1988)]
def q_L_law_62 : List (Nat × mw_I) := [(1986, mw_c (.iconst 0) 1 (0)),
  (1987, mw_a (.ireturn) 1),
  (1988, mw_b (.iload 6) 2 6),
  (1990, mw_b (.ifCond .ne 15) 3 2005),
  (1993, mw_b (.aload_n 3) 1 3),
  (1994, mw_c (.iconst 0) 1 (0)),
  (1995, mw_a (.laload) 1),
  (1996, mw_b (.iload 7) 2 7),
  (1998, mw_a (.i2l) 1),
  (1999, mw_a (.lcmp) 1),
  (2000, mw_b (.ifCond .eq 5) 3 2005),
  (2003, mw_c (.iconst 0) 1 (0)),
  (2004, mw_a (.ireturn) 1),
  (2005, mw_b (.goto 1295) 3 3300),
  (2008, mw_b (.aload_n 1) 1 1),
  (2009, ((.invokevirtual 278), 3, (1, 0, 15), [3062, 3063, 3064], yX11_moonCount, 0)),
  (2012, mw_b (.aload_n 2) 1 2),
  (2013, ((.invokevirtual 281), 3, (1, 0, 16), [10014, 10015, 10016], yX12_moonCount, 0))]
def q_L_law_63 : List (Nat × mw_I) := [(2016, mw_b (.if_icmp .eq 1284) 3 3300),
  (2019, mw_c (.iconst 0) 1 (0)),
  (2020, mw_a (.ireturn) 1),
  (2021, mw_b (.aload_n 1) 1 1),
  (2022, mw_b (.aload_n 0) 1 0),
  (2023, mw_b (.iload 5) 2 5),
  (2025, mw_c (.iconst 1) 1 (1)),
  (2026, mw_a (.iadd) 1),
  (2027, mw_a (.iaload) 1),
  (2028, mw_b (.aload_n 3) 1 3),
  (2029, ((.invokestatic 282), 3, (3, 5, 0), [6058, 6059], yL_moonAt, 0)),
  (2032, mw_b (.istore 6) 2 6),
  (2034, mw_b (.aload_n 2) 1 2),
  (2035, mw_b (.aload_n 0) 1 0),
  (2036, mw_b (.iload 5) 2 5),
  (2038, mw_c (.iconst 1) 1 (1)),
  (2039, mw_a (.iadd) 1),
  (2040, mw_a (.iaload) 1),
  (2041, ((.invokevirtual 284), 3, (2, 0, 16), [10018, 10019, 10020], yX12_moonAt, 0)),
  (2044, mw_b (.istore 7) 2 7),
  (2046, mw_b (.aload_n 2) 1 2),
  (2047, ((.invokevirtual 185), 3, (1, 0, 16), [8221, 8222, 8223], yX12_thrown, 0))]
def q_L_law_64 : List (Nat × mw_I) := [(2050, mw_b (.iload 6) 2 6),
  (2052, mw_b (.if_icmp .eq 5) 3 2057),
  (2055, mw_c (.iconst 0) 1 (0)),
  (2056, mw_a (.ireturn) 1),
  (2057, mw_b (.iload 6) 2 6),
  (2059, mw_b (.ifCond .ne 15) 3 2074),
  (2062, mw_b (.aload_n 3) 1 3),
  (2063, mw_c (.iconst 0) 1 (0)),
  (2064, mw_a (.laload) 1),
  (2065, mw_b (.iload 7) 2 7),
  (2067, mw_a (.i2l) 1),
  (2068, mw_a (.lcmp) 1),
  (2069, mw_b (.ifCond .eq 5) 3 2074),
  (2072, mw_c (.iconst 0) 1 (0)),
  (2073, mw_a (.ireturn) 1),
  (2074, mw_b (.goto 1226) 3 3300),
  (2077, mw_b (.aload_n 1) 1 1),
  (2078, mw_b (.aload_n 0) 1 0),
  (2079, mw_b (.iload 5) 2 5)]
def q_L_law_65 : List (Nat × mw_I) := [(2081, mw_c (.iconst 1) 1 (1)),
  (2082, mw_a (.iadd) 1),
  (2083, mw_a (.iaload) 1),
  (2084, mw_b (.aload_n 3) 1 3),
  (2085, ((.invokestatic 285), 3, (3, 5, 0), [6065, 6066], yL_ferryOf, 0)),
  (2088, mw_b (.istore 6) 2 6),
  (2090, mw_b (.aload_n 2) 1 2),
  (2091, mw_b (.aload_n 0) 1 0),
  (2092, mw_b (.iload 5) 2 5),
  (2094, mw_c (.iconst 1) 1 (1)),
  (2095, mw_a (.iadd) 1),
  (2096, mw_a (.iaload) 1),
  (2097, ((.invokevirtual 287), 3, (2, 0, 16), [10022, 10023, 10024], yX12_ferryOf, 0)),
  (2100, mw_b (.istore 7) 2 7),
  (2102, mw_b (.aload_n 2) 1 2),
  (2103, ((.invokevirtual 185), 3, (1, 0, 16), [8221, 8222, 8223], yX12_thrown, 0)),
  (2106, mw_b (.iload 6) 2 6),
  (2108, mw_b (.if_icmp .eq 5) 3 2113),
  (2111, mw_c (.iconst 0) 1 (0))]
def q_L_law_66 : List (Nat × mw_I) := [(2112, mw_a (.ireturn) 1),
  (2113, mw_b (.iload 6) 2 6),
  (2115, mw_b (.ifCond .ne 15) 3 2130),
  (2118, mw_b (.aload_n 3) 1 3),
  (2119, mw_c (.iconst 0) 1 (0)),
  (2120, mw_a (.laload) 1),
  (2121, mw_b (.iload 7) 2 7),
  (2123, mw_a (.i2l) 1),
  (2124, mw_a (.lcmp) 1),
  (2125, mw_b (.ifCond .eq 5) 3 2130),
  (2128, mw_c (.iconst 0) 1 (0)),
  (2129, mw_a (.ireturn) 1),
  (2130, mw_b (.goto 1170) 3 3300),
  (2133, mw_b (.aload_n 1) 1 1),
  (2134, mw_b (.aload_n 0) 1 0),
  (2135, mw_b (.iload 5) 2 5),
  (2137, mw_c (.iconst 1) 1 (1)),
  (2138, mw_a (.iadd) 1),
  (2139, mw_a (.iaload) 1),
  (2140, mw_b (.aload_n 3) 1 3),
  (2141, ((.invokestatic 288), 3, (3, 5, 0), [6077, 6078], yL_shoreOf, 0))]
def q_L_law_67 : List (Nat × mw_I) := [(2144, mw_b (.istore 6) 2 6),
  (2146, mw_b (.aload_n 2) 1 2),
  (2147, mw_b (.aload_n 0) 1 0),
  (2148, mw_b (.iload 5) 2 5),
  (2150, mw_c (.iconst 1) 1 (1)),
  (2151, mw_a (.iadd) 1),
  (2152, mw_a (.iaload) 1),
  (2153, ((.invokevirtual 290), 3, (2, 0, 16), [10026, 10027, 10028], yX12_shoreOf, 0)),
  (2156, mw_b (.istore 7) 2 7),
  (2158, mw_b (.aload_n 2) 1 2),
  (2159, ((.invokevirtual 185), 3, (1, 0, 16), [8221, 8222, 8223], yX12_thrown, 0)),
  (2162, mw_b (.iload 6) 2 6),
  (2164, mw_b (.if_icmp .eq 5) 3 2169),
  (2167, mw_c (.iconst 0) 1 (0)),
  (2168, mw_a (.ireturn) 1),
  (2169, mw_b (.iload 6) 2 6),
  (2171, mw_b (.ifCond .ne 15) 3 2186),
  (2174, mw_b (.aload_n 3) 1 3),
  (2175, mw_c (.iconst 0) 1 (0))]
def q_L_law_68 : List (Nat × mw_I) := [(2176, mw_a (.laload) 1),
  (2177, mw_b (.iload 7) 2 7),
  (2179, mw_a (.i2l) 1),
  (2180, mw_a (.lcmp) 1),
  (2181, mw_b (.ifCond .eq 5) 3 2186),
  (2184, mw_c (.iconst 0) 1 (0)),
  (2185, mw_a (.ireturn) 1),
  (2186, mw_b (.goto 1114) 3 3300),
  (2189, mw_b (.aload_n 1) 1 1),
  (2190, mw_b (.aload_n 0) 1 0),
  (2191, mw_b (.iload 5) 2 5),
  (2193, mw_c (.iconst 1) 1 (1)),
  (2194, mw_a (.iadd) 1),
  (2195, mw_a (.iaload) 1),
  (2196, mw_b (.aload_n 3) 1 3),
  (2197, ((.invokestatic 291), 3, (3, 5, 0), [6084, 6085], yL_phaseOf, 0)),
  (2200, mw_b (.istore 6) 2 6),
  (2202, mw_b (.aload_n 2) 1 2),
  (2203, mw_b (.aload_n 0) 1 0),
  (2204, mw_b (.iload 5) 2 5),
  (2206, mw_c (.iconst 1) 1 (1)),
  (2207, mw_a (.iadd) 1)]
def q_L_law_69 : List (Nat × mw_I) := [(2208, mw_a (.iaload) 1),
  (2209, ((.invokevirtual 293), 3, (2, 0, 16), [10030, 10031, 10032], yX12_phaseOf, 0)),
  (2212, mw_b (.istore 7) 2 7),
  (2214, mw_b (.aload_n 2) 1 2),
  (2215, ((.invokevirtual 185), 3, (1, 0, 16), [8221, 8222, 8223], yX12_thrown, 0)),
  (2218, mw_b (.iload 6) 2 6),
  (2220, mw_b (.if_icmp .eq 5) 3 2225),
  (2223, mw_c (.iconst 0) 1 (0)),
  (2224, mw_a (.ireturn) 1),
  (2225, mw_b (.iload 6) 2 6),
  (2227, mw_b (.ifCond .ne 15) 3 2242),
  (2230, mw_b (.aload_n 3) 1 3),
  (2231, mw_c (.iconst 0) 1 (0)),
  (2232, mw_a (.laload) 1),
  (2233, mw_b (.iload 7) 2 7),
  (2235, mw_a (.i2l) 1),
  (2236, mw_a (.lcmp) 1),
  (2237, mw_b (.ifCond .eq 5) 3 2242)]
def q_L_law_70 : List (Nat × mw_I) := [(2240, mw_c (.iconst 0) 1 (0)),
  (2241, mw_a (.ireturn) 1),
  (2242, mw_b (.goto 1058) 3 3300),
  (2245, mw_b (.aload_n 1) 1 1),
  (2246, mw_b (.aload_n 0) 1 0),
  (2247, mw_b (.iload 5) 2 5),
  (2249, mw_c (.iconst 1) 1 (1)),
  (2250, mw_a (.iadd) 1),
  (2251, mw_a (.iaload) 1),
  (2252, mw_b (.aload_n 3) 1 3),
  (2253, ((.invokestatic 294), 3, (3, 5, 0), [6091, 6092], yL_fareOf, 0)),
  (2256, mw_b (.istore 6) 2 6),
  (2258, mw_b (.aload_n 2) 1 2),
  (2259, mw_b (.aload_n 0) 1 0),
  (2260, mw_b (.iload 5) 2 5),
  (2262, mw_c (.iconst 1) 1 (1)),
  (2263, mw_a (.iadd) 1),
  (2264, mw_a (.iaload) 1),
  (2265, ((.invokevirtual 296), 3, (2, 0, 16), [10034, 10035, 10036], yX12_fareOf, 0)),
  (2268, mw_b (.istore 7) 2 7),
  (2270, mw_b (.aload_n 2) 1 2),
  (2271, ((.invokevirtual 185), 3, (1, 0, 16), [8221, 8222, 8223], yX12_thrown, 0))]
def q_L_law_71 : List (Nat × mw_I) := [(2274, mw_b (.iload 6) 2 6),
  (2276, mw_b (.if_icmp .eq 5) 3 2281),
  (2279, mw_c (.iconst 0) 1 (0)),
  (2280, mw_a (.ireturn) 1),
  (2281, mw_b (.iload 6) 2 6),
  (2283, mw_b (.ifCond .ne 15) 3 2298),
  (2286, mw_b (.aload_n 3) 1 3),
  (2287, mw_c (.iconst 0) 1 (0)),
  (2288, mw_a (.laload) 1),
  (2289, mw_b (.iload 7) 2 7),
  (2291, mw_a (.i2l) 1),
  (2292, mw_a (.lcmp) 1),
  (2293, mw_b (.ifCond .eq 5) 3 2298),
  (2296, mw_c (.iconst 0) 1 (0)),
  (2297, mw_a (.ireturn) 1),
  (2298, mw_b (.goto 1002) 3 3300),
  (2301, mw_b (.aload_n 1) 1 1),
  (2302, mw_b (.aload_n 0) 1 0),
  (2303, mw_b (.iload 5) 2 5)]
def q_L_law_72 : List (Nat × mw_I) := [(2305, mw_c (.iconst 1) 1 (1)),
  (2306, mw_a (.iadd) 1),
  (2307, mw_a (.iaload) 1),
  (2308, mw_b (.aload_n 3) 1 3),
  (2309, ((.invokestatic 297), 3, (3, 5, 0), [6099, 6100], yL_moonAtRank, 0)),
  (2312, mw_b (.istore 6) 2 6),
  (2314, mw_b (.aload_n 2) 1 2),
  (2315, mw_b (.aload_n 0) 1 0),
  (2316, mw_b (.iload 5) 2 5),
  (2318, mw_c (.iconst 1) 1 (1)),
  (2319, mw_a (.iadd) 1),
  (2320, mw_a (.iaload) 1),
  (2321, ((.invokevirtual 299), 3, (2, 0, 16), [10038, 10039, 10040], yX12_moonAtRank, 0)),
  (2324, mw_b (.istore 7) 2 7),
  (2326, mw_b (.aload_n 2) 1 2),
  (2327, ((.invokevirtual 185), 3, (1, 0, 16), [8221, 8222, 8223], yX12_thrown, 0)),
  (2330, mw_b (.iload 6) 2 6),
  (2332, mw_b (.if_icmp .eq 5) 3 2337),
  (2335, mw_c (.iconst 0) 1 (0))]
def q_L_law_73 : List (Nat × mw_I) := [(2336, mw_a (.ireturn) 1),
  (2337, mw_b (.iload 6) 2 6),
  (2339, mw_b (.ifCond .ne 15) 3 2354),
  (2342, mw_b (.aload_n 3) 1 3),
  (2343, mw_c (.iconst 0) 1 (0)),
  (2344, mw_a (.laload) 1),
  (2345, mw_b (.iload 7) 2 7),
  (2347, mw_a (.i2l) 1),
  (2348, mw_a (.lcmp) 1),
  (2349, mw_b (.ifCond .eq 5) 3 2354),
  (2352, mw_c (.iconst 0) 1 (0)),
  (2353, mw_a (.ireturn) 1),
  (2354, mw_b (.goto 946) 3 3300),
  (2357, mw_b (.aload_n 1) 1 1),
  (2358, mw_b (.aload_n 0) 1 0),
  (2359, mw_b (.iload 5) 2 5),
  (2361, mw_c (.iconst 1) 1 (1)),
  (2362, mw_a (.iadd) 1),
  (2363, mw_a (.iaload) 1),
  (2364, ((.invokevirtual 300), 3, (2, 0, 15), [3066, 3067, 3068], yX11_countBelow, 0)),
  (2367, mw_b (.aload_n 2) 1 2)]
def q_L_law_74 : List (Nat × mw_I) := [(2368, mw_b (.aload_n 0) 1 0),
  (2369, mw_b (.iload 5) 2 5),
  (2371, mw_c (.iconst 1) 1 (1)),
  (2372, mw_a (.iadd) 1),
  (2373, mw_a (.iaload) 1),
  (2374, ((.invokevirtual 303), 3, (2, 0, 16), [10042, 10043, 10044], yX12_countBelow, 0)),
  (2377, mw_b (.if_icmp .eq 923) 3 3300),
  (2380, mw_c (.iconst 0) 1 (0)),
  (2381, mw_a (.ireturn) 1),
  (2382, mw_b (.aload_n 1) 1 1),
  (2383, mw_b (.aload_n 0) 1 0),
  (2384, mw_b (.iload 5) 2 5),
  (2386, mw_c (.iconst 1) 1 (1)),
  (2387, mw_a (.iadd) 1),
  (2388, mw_a (.iaload) 1),
  (2389, ((.invokevirtual 304), 3, (2, 0, 15), [3117, 3118, 3119], yX11_countBelowByAsking, 0)),
  (2392, mw_b (.aload_n 2) 1 2),
  (2393, mw_b (.aload_n 0) 1 0),
  (2394, mw_b (.iload 5) 2 5),
  (2396, mw_c (.iconst 1) 1 (1)),
  (2397, mw_a (.iadd) 1),
  (2398, mw_a (.iaload) 1),
  (2399, ((.invokevirtual 307), 3, (2, 0, 16), [10046, 10047, 10048], yX12_countBelowByAsking, 0))]
def q_L_law_75 : List (Nat × mw_I) := [(2402, mw_b (.if_icmp .eq 898) 3 3300),
  (2405, mw_c (.iconst 0) 1 (0)),
  (2406, mw_a (.ireturn) 1),
  (2407, mw_b (.aload_n 1) 1 1),
  (2408, mw_b (.aload_n 0) 1 0),
  (2409, mw_b (.iload 5) 2 5),
  (2411, mw_c (.iconst 1) 1 (1)),
  (2412, mw_a (.iadd) 1),
  (2413, mw_a (.iaload) 1),
  (2414, mw_b (.aload_n 3) 1 3),
  (2415, ((.invokestatic 308), 3, (3, 5, 0), [6114, 6115], yL_pass, 0)),
  (2418, mw_b (.istore 6) 2 6),
  (2420, mw_b (.aload_n 2) 1 2),
  (2421, mw_b (.aload_n 0) 1 0),
  (2422, mw_b (.iload 5) 2 5),
  (2424, mw_c (.iconst 1) 1 (1)),
  (2425, mw_a (.iadd) 1),
  (2426, mw_a (.iaload) 1),
  (2427, ((.invokevirtual 310), 3, (2, 0, 16), [10051, 10052, 10053], yX12_pass, 0)),
  (2430, mw_b (.istore 7) 2 7)]
def q_L_law_76 : List (Nat × mw_I) := [(2432, mw_b (.aload_n 2) 1 2),
  (2433, ((.invokevirtual 185), 3, (1, 0, 16), [8221, 8222, 8223], yX12_thrown, 0)),
  (2436, mw_b (.iload 6) 2 6),
  (2438, mw_b (.if_icmp .eq 5) 3 2443),
  (2441, mw_c (.iconst 0) 1 (0)),
  (2442, mw_a (.ireturn) 1),
  (2443, mw_b (.iload 6) 2 6),
  (2445, mw_b (.ifCond .ne 15) 3 2460),
  (2448, mw_b (.aload_n 3) 1 3),
  (2449, mw_c (.iconst 0) 1 (0)),
  (2450, mw_a (.laload) 1),
  (2451, mw_b (.iload 7) 2 7),
  (2453, mw_a (.i2l) 1),
  (2454, mw_a (.lcmp) 1),
  (2455, mw_b (.ifCond .eq 5) 3 2460),
  (2458, mw_c (.iconst 0) 1 (0)),
  (2459, mw_a (.ireturn) 1),
  (2460, mw_b (.goto 840) 3 3300),
  (2463, mw_b (.aload_n 1) 1 1)]
def q_L_law_77 : List (Nat × mw_I) := [(2464, ((.invokevirtual 311), 3, (1, 0, 15), [3125, 3126, 3127], yX11_hour, 0)),
  (2467, mw_b (.aload_n 2) 1 2),
  (2468, ((.invokevirtual 314), 3, (1, 0, 16), [10067, 10068, 10069], yX12_hour, 0)),
  (2471, mw_b (.if_icmp .eq 829) 3 3300),
  (2474, mw_c (.iconst 0) 1 (0)),
  (2475, mw_a (.ireturn) 1),
  (2476, mw_b (.aload_n 1) 1 1),
  (2477, mw_b (.aload_n 3) 1 3),
  (2478, ((.invokestatic 315), 3, (2, 5, 0), [6142, 6143], yL_refusalReason, 0)),
  (2481, mw_b (.istore 6) 2 6),
  (2483, mw_b (.aload_n 2) 1 2),
  (2484, ((.invokevirtual 317), 3, (1, 0, 16), [10071, 10072, 10073], yX12_refusalReason, 0)),
  (2487, mw_b (.istore 7) 2 7),
  (2489, mw_b (.aload_n 2) 1 2),
  (2490, ((.invokevirtual 185), 3, (1, 0, 16), [8221, 8222, 8223], yX12_thrown, 0)),
  (2493, mw_b (.iload 6) 2 6),
  (2495, mw_b (.if_icmp .eq 5) 3 2500)]
def q_L_law_78 : List (Nat × mw_I) := [(2498, mw_c (.iconst 0) 1 (0)),
  (2499, mw_a (.ireturn) 1),
  (2500, mw_b (.iload 6) 2 6),
  (2502, mw_b (.ifCond .ne 15) 3 2517),
  (2505, mw_b (.aload_n 3) 1 3),
  (2506, mw_c (.iconst 0) 1 (0)),
  (2507, mw_a (.laload) 1),
  (2508, mw_b (.iload 7) 2 7),
  (2510, mw_a (.i2l) 1),
  (2511, mw_a (.lcmp) 1),
  (2512, mw_b (.ifCond .eq 5) 3 2517),
  (2515, mw_c (.iconst 0) 1 (0)),
  (2516, mw_a (.ireturn) 1),
  (2517, mw_b (.goto 783) 3 3300),
  (2520, mw_b (.aload_n 1) 1 1),
  (2521, ((.invokevirtual 318), 3, (1, 0, 15), [3129, 3130, 3131], yX11_passageCount, 0)),
  (2524, mw_b (.aload_n 2) 1 2),
  (2525, ((.invokevirtual 321), 3, (1, 0, 16), [10075, 10076, 10077], yX12_passageCount, 0))]
def q_L_law_79 : List (Nat × mw_I) := [(2528, mw_b (.if_icmp .eq 772) 3 3300),
  (2531, mw_c (.iconst 0) 1 (0)),
  (2532, mw_a (.ireturn) 1),
  (2533, mw_b (.aload_n 1) 1 1),
  (2534, mw_b (.aload_n 0) 1 0),
  (2535, mw_b (.iload 5) 2 5),
  (2537, mw_c (.iconst 1) 1 (1)),
  (2538, mw_a (.iadd) 1),
  (2539, mw_a (.iaload) 1),
  (2540, mw_b (.aload_n 3) 1 3),
  (2541, ((.invokestatic 322), 3, (3, 5, 0), [6149, 6150], yL_passageFerry, 0)),
  (2544, mw_b (.istore 6) 2 6),
  (2546, mw_b (.aload_n 2) 1 2),
  (2547, mw_b (.aload_n 0) 1 0),
  (2548, mw_b (.iload 5) 2 5),
  (2550, mw_c (.iconst 1) 1 (1)),
  (2551, mw_a (.iadd) 1),
  (2552, mw_a (.iaload) 1),
  (2553, ((.invokevirtual 324), 3, (2, 0, 16), [10079, 10080, 10081], yX12_passageFerry, 0)),
  (2556, mw_b (.istore 7) 2 7),
  (2558, mw_b (.aload_n 2) 1 2),
  (2559, ((.invokevirtual 185), 3, (1, 0, 16), [8221, 8222, 8223], yX12_thrown, 0))]
def q_L_law_80 : List (Nat × mw_I) := [(2562, mw_b (.iload 6) 2 6),
  (2564, mw_b (.if_icmp .eq 5) 3 2569),
  (2567, mw_c (.iconst 0) 1 (0)),
  (2568, mw_a (.ireturn) 1),
  (2569, mw_b (.iload 6) 2 6),
  (2571, mw_b (.ifCond .ne 15) 3 2586),
  (2574, mw_b (.aload_n 3) 1 3),
  (2575, mw_c (.iconst 0) 1 (0)),
  (2576, mw_a (.laload) 1),
  (2577, mw_b (.iload 7) 2 7),
  (2579, mw_a (.i2l) 1),
  (2580, mw_a (.lcmp) 1),
  (2581, mw_b (.ifCond .eq 5) 3 2586),
  (2584, mw_c (.iconst 0) 1 (0)),
  (2585, mw_a (.ireturn) 1),
  (2586, mw_b (.goto 714) 3 3300),
  (2589, mw_b (.aload_n 1) 1 1),
  (2590, mw_b (.aload_n 0) 1 0),
  (2591, mw_b (.iload 5) 2 5)]
def q_L_law_81 : List (Nat × mw_I) := [(2593, mw_c (.iconst 1) 1 (1)),
  (2594, mw_a (.iadd) 1),
  (2595, mw_a (.iaload) 1),
  (2596, mw_b (.aload_n 3) 1 3),
  (2597, ((.invokestatic 325), 3, (3, 5, 0), [6165, 6166], yL_passageCrater, 0)),
  (2600, mw_b (.istore 6) 2 6),
  (2602, mw_b (.aload_n 2) 1 2),
  (2603, mw_b (.aload_n 0) 1 0),
  (2604, mw_b (.iload 5) 2 5),
  (2606, mw_c (.iconst 1) 1 (1)),
  (2607, mw_a (.iadd) 1),
  (2608, mw_a (.iaload) 1),
  (2609, ((.invokevirtual 327), 3, (2, 0, 16), [10087, 10088, 10089], yX12_passageCrater, 0)),
  (2612, mw_b (.istore 7) 2 7),
  (2614, mw_b (.aload_n 2) 1 2),
  (2615, ((.invokevirtual 185), 3, (1, 0, 16), [8221, 8222, 8223], yX12_thrown, 0)),
  (2618, mw_b (.iload 6) 2 6),
  (2620, mw_b (.if_icmp .eq 5) 3 2625),
  (2623, mw_c (.iconst 0) 1 (0))]
def q_L_law_82 : List (Nat × mw_I) := [(2624, mw_a (.ireturn) 1),
  (2625, mw_b (.iload 6) 2 6),
  (2627, mw_b (.ifCond .ne 15) 3 2642),
  (2630, mw_b (.aload_n 3) 1 3),
  (2631, mw_c (.iconst 0) 1 (0)),
  (2632, mw_a (.laload) 1),
  (2633, mw_b (.iload 7) 2 7),
  (2635, mw_a (.i2l) 1),
  (2636, mw_a (.lcmp) 1),
  (2637, mw_b (.ifCond .eq 5) 3 2642),
  (2640, mw_c (.iconst 0) 1 (0)),
  (2641, mw_a (.ireturn) 1),
  (2642, mw_b (.goto 658) 3 3300),
  (2645, mw_b (.aload_n 1) 1 1),
  (2646, mw_b (.aload_n 0) 1 0),
  (2647, mw_b (.iload 5) 2 5),
  (2649, mw_c (.iconst 1) 1 (1)),
  (2650, mw_a (.iadd) 1),
  (2651, mw_a (.iaload) 1),
  (2652, mw_b (.aload_n 3) 1 3),
  (2653, ((.invokestatic 328), 3, (3, 5, 0), [6172, 6173], yL_passageHour, 0))]
def q_L_law_83 : List (Nat × mw_I) := [(2656, mw_b (.istore 6) 2 6),
  (2658, mw_b (.aload_n 2) 1 2),
  (2659, mw_b (.aload_n 0) 1 0),
  (2660, mw_b (.iload 5) 2 5),
  (2662, mw_c (.iconst 1) 1 (1)),
  (2663, mw_a (.iadd) 1),
  (2664, mw_a (.iaload) 1),
  (2665, ((.invokevirtual 330), 3, (2, 0, 16), [10091, 10092, 10093], yX12_passageHour, 0)),
  (2668, mw_b (.istore 7) 2 7),
  (2670, mw_b (.aload_n 2) 1 2),
  (2671, ((.invokevirtual 185), 3, (1, 0, 16), [8221, 8222, 8223], yX12_thrown, 0)),
  (2674, mw_b (.iload 6) 2 6),
  (2676, mw_b (.if_icmp .eq 5) 3 2681),
  (2679, mw_c (.iconst 0) 1 (0)),
  (2680, mw_a (.ireturn) 1),
  (2681, mw_b (.iload 6) 2 6),
  (2683, mw_b (.ifCond .ne 15) 3 2698),
  (2686, mw_b (.aload_n 3) 1 3),
  (2687, mw_c (.iconst 0) 1 (0))]
def q_L_law_84 : List (Nat × mw_I) := [(2688, mw_a (.laload) 1),
  (2689, mw_b (.iload 7) 2 7),
  (2691, mw_a (.i2l) 1),
  (2692, mw_a (.lcmp) 1),
  (2693, mw_b (.ifCond .eq 5) 3 2698),
  (2696, mw_c (.iconst 0) 1 (0)),
  (2697, mw_a (.ireturn) 1),
  (2698, mw_b (.goto 602) 3 3300),
  (2701, mw_b (.aload_n 1) 1 1),
  (2702, ((.invokevirtual 331), 3, (1, 0, 15), [3133, 3134, 3135], yX11_strandingCount, 0)),
  (2705, mw_b (.aload_n 2) 1 2),
  (2706, ((.invokevirtual 334), 3, (1, 0, 16), [10095, 10096, 10097], yX12_strandingCount, 0)),
  (2709, mw_b (.if_icmp .eq 591) 3 3300),
  (2712, mw_c (.iconst 0) 1 (0)),
  (2713, mw_a (.ireturn) 1),
  (2714, mw_b (.aload_n 1) 1 1),
  (2715, ((.invokevirtual 335), 3, (1, 0, 15), [3137, 3138, 3139], yX11_coins, 0)),
  (2718, mw_b (.aload_n 2) 1 2),
  (2719, ((.invokevirtual 339), 3, (1, 0, 16), [10099, 10100, 10101], yX12_coins, 0))]
def q_L_law_85 : List (Nat × mw_I) := [(2722, mw_a (.lcmp) 1),
  (2723, mw_b (.ifCond .eq 577) 3 3300),
  (2726, mw_c (.iconst 0) 1 (0)),
  (2727, mw_a (.ireturn) 1),
  (2728, mw_b (.aload_n 1) 1 1),
  (2729, ((.invokevirtual 340), 3, (1, 0, 15), [3141, 3142, 3143], yX11_fareTotal, 0)),
  (2732, mw_b (.aload_n 2) 1 2),
  (2733, ((.invokevirtual 343), 3, (1, 0, 16), [10104, 10105, 10106], yX12_fareTotal, 0)),
  (2736, mw_b (.if_icmp .eq 564) 3 3300),
  (2739, mw_c (.iconst 0) 1 (0)),
  (2740, mw_a (.ireturn) 1),
  (2741, mw_b (.aload_n 1) 1 1),
  (2742, mw_b (.aload_n 0) 1 0),
  (2743, mw_b (.iload 5) 2 5),
  (2745, mw_c (.iconst 1) 1 (1)),
  (2746, mw_a (.iadd) 1),
  (2747, mw_a (.iaload) 1),
  (2748, mw_a (.i2c) 1),
  (2749, mw_b (.aload_n 3) 1 3),
  (2750, ((.invokestatic 344), 3, (3, 5, 0), [6179, 6180], yL_append, 0))]
def q_L_law_86 : List (Nat × mw_I) := [(2753, mw_b (.istore 6) 2 6),
  (2755, mw_b (.aload_n 2) 1 2),
  (2756, mw_b (.aload_n 0) 1 0),
  (2757, mw_b (.iload 5) 2 5),
  (2759, mw_c (.iconst 1) 1 (1)),
  (2760, mw_a (.iadd) 1),
  (2761, mw_a (.iaload) 1),
  (2762, mw_a (.i2c) 1),
  (2763, ((.invokevirtual 347), 3, (2, 0, 16), [10108, 10109, 10110], yX12_append, 0)),
  (2766, mw_b (.istore 7) 2 7),
  (2768, mw_b (.aload_n 2) 1 2),
  (2769, ((.invokevirtual 185), 3, (1, 0, 16), [8221, 8222, 8223], yX12_thrown, 0)),
  (2772, mw_b (.iload 6) 2 6),
  (2774, mw_b (.if_icmp .eq 5) 3 2779),
  (2777, mw_c (.iconst 0) 1 (0)),
  (2778, mw_a (.ireturn) 1),
  (2779, mw_b (.iload 6) 2 6),
  (2781, mw_b (.ifCond .ne 15) 3 2796)]
def q_L_law_87 : List (Nat × mw_I) := [(2784, mw_b (.aload_n 3) 1 3),
  (2785, mw_c (.iconst 0) 1 (0)),
  (2786, mw_a (.laload) 1),
  (2787, mw_b (.iload 7) 2 7),
  (2789, mw_a (.i2l) 1),
  (2790, mw_a (.lcmp) 1),
  (2791, mw_b (.ifCond .eq 5) 3 2796),
  (2794, mw_c (.iconst 0) 1 (0)),
  (2795, mw_a (.ireturn) 1),
  (2796, mw_b (.goto 504) 3 3300),
  (2799, mw_b (.aload_n 1) 1 1),
  (2800, mw_b (.aload_n 3) 1 3),
  (2801, ((.invokestatic 348), 3, (2, 5, 0), [6190, 6191], yL_run, 0)),
  (2804, mw_b (.istore 6) 2 6),
  (2806, mw_b (.aload_n 2) 1 2),
  (2807, ((.invokevirtual 350), 3, (1, 0, 16), [10112, 10113, 10114], yX12_run, 0)),
  (2810, mw_b (.istore 7) 2 7),
  (2812, mw_b (.aload_n 2) 1 2),
  (2813, ((.invokevirtual 185), 3, (1, 0, 16), [8221, 8222, 8223], yX12_thrown, 0))]
def q_L_law_88 : List (Nat × mw_I) := [(2816, mw_b (.iload 6) 2 6),
  (2818, mw_b (.if_icmp .eq 5) 3 2823),
  (2821, mw_c (.iconst 0) 1 (0)),
  (2822, mw_a (.ireturn) 1),
  (2823, mw_b (.iload 6) 2 6),
  (2825, mw_b (.ifCond .ne 15) 3 2840),
  (2828, mw_b (.aload_n 3) 1 3),
  (2829, mw_c (.iconst 0) 1 (0)),
  (2830, mw_a (.laload) 1),
  (2831, mw_b (.iload 7) 2 7),
  (2833, mw_a (.i2l) 1),
  (2834, mw_a (.lcmp) 1),
  (2835, mw_b (.ifCond .eq 5) 3 2840),
  (2838, mw_c (.iconst 0) 1 (0)),
  (2839, mw_a (.ireturn) 1),
  (2840, mw_b (.goto 460) 3 3300),
  (2843, mw_b (.aload_n 1) 1 1),
  (2844, mw_b (.aload_n 3) 1 3),
  (2845, ((.invokestatic 351), 3, (2, 5, 0), [7046, 7047], yL_errorPosition, 0))]
def q_L_law_89 : List (Nat × mw_I) := [(2848, mw_b (.istore 6) 2 6),
  (2850, mw_b (.aload_n 2) 1 2),
  (2851, ((.invokevirtual 353), 3, (1, 0, 16), [10160, 10161, 10162], yX12_errorPosition, 0)),
  (2854, mw_b (.istore 7) 2 7),
  (2856, mw_b (.aload_n 2) 1 2),
  (2857, ((.invokevirtual 185), 3, (1, 0, 16), [8221, 8222, 8223], yX12_thrown, 0)),
  (2860, mw_b (.iload 6) 2 6),
  (2862, mw_b (.if_icmp .eq 5) 3 2867),
  (2865, mw_c (.iconst 0) 1 (0)),
  (2866, mw_a (.ireturn) 1),
  (2867, mw_b (.iload 6) 2 6),
  (2869, mw_b (.ifCond .ne 15) 3 2884),
  (2872, mw_b (.aload_n 3) 1 3),
  (2873, mw_c (.iconst 0) 1 (0)),
  (2874, mw_a (.laload) 1),
  (2875, mw_b (.iload 7) 2 7),
  (2877, mw_a (.i2l) 1),
  (2878, mw_a (.lcmp) 1),
  (2879, mw_b (.ifCond .eq 5) 3 2884)]
def q_L_law_90 : List (Nat × mw_I) := [(2882, mw_c (.iconst 0) 1 (0)),
  (2883, mw_a (.ireturn) 1),
  (2884, mw_b (.goto 416) 3 3300),
  (2887, mw_b (.aload_n 1) 1 1),
  (2888, mw_b (.aload_n 3) 1 3),
  (2889, ((.invokestatic 354), 3, (2, 5, 0), [7053, 7054], yL_failedCommand, 0)),
  (2892, mw_b (.istore 6) 2 6),
  (2894, mw_b (.aload_n 2) 1 2),
  (2895, ((.invokevirtual 356), 3, (1, 0, 16), [10164, 10165, 10166], yX12_failedCommand, 0)),
  (2898, mw_b (.istore 7) 2 7),
  (2900, mw_b (.aload_n 2) 1 2),
  (2901, ((.invokevirtual 185), 3, (1, 0, 16), [8221, 8222, 8223], yX12_thrown, 0)),
  (2904, mw_b (.iload 6) 2 6),
  (2906, mw_b (.if_icmp .eq 5) 3 2911),
  (2909, mw_c (.iconst 0) 1 (0)),
  (2910, mw_a (.ireturn) 1),
  (2911, mw_b (.iload 6) 2 6)]
def q_L_law_91 : List (Nat × mw_I) := [(2913, mw_b (.ifCond .ne 15) 3 2928),
  (2916, mw_b (.aload_n 3) 1 3),
  (2917, mw_c (.iconst 0) 1 (0)),
  (2918, mw_a (.laload) 1),
  (2919, mw_b (.iload 7) 2 7),
  (2921, mw_a (.i2l) 1),
  (2922, mw_a (.lcmp) 1),
  (2923, mw_b (.ifCond .eq 5) 3 2928),
  (2926, mw_c (.iconst 0) 1 (0)),
  (2927, mw_a (.ireturn) 1),
  (2928, mw_b (.goto 372) 3 3300),
  (2931, mw_b (.aload_n 1) 1 1),
  (2932, mw_b (.aload_n 0) 1 0),
  (2933, mw_b (.iload 5) 2 5),
  (2935, mw_c (.iconst 1) 1 (1)),
  (2936, mw_a (.iadd) 1),
  (2937, mw_a (.iaload) 1),
  (2938, mw_b (.aload_n 3) 1 3),
  (2939, ((.invokestatic 357), 3, (3, 5, 0), [7060, 7061], yL_describeFerry, 0)),
  (2942, mw_b (.istore 6) 2 6)]
def q_L_law_92 : List (Nat × mw_I) := [(2944, mw_b (.aload_n 2) 1 2),
  (2945, mw_b (.aload_n 0) 1 0),
  (2946, mw_b (.iload 5) 2 5),
  (2948, mw_c (.iconst 1) 1 (1)),
  (2949, mw_a (.iadd) 1),
  (2950, mw_a (.iaload) 1),
  (2951, ((.invokevirtual 359), 3, (2, 0, 16), [10168, 10169, 10170], yX12_describeFerry, 0)),
  (2954, mw_b (.istore 7) 2 7),
  (2956, mw_b (.aload_n 2) 1 2),
  (2957, ((.invokevirtual 185), 3, (1, 0, 16), [8221, 8222, 8223], yX12_thrown, 0)),
  (2960, mw_b (.iload 6) 2 6),
  (2962, mw_b (.if_icmp .eq 5) 3 2967),
  (2965, mw_c (.iconst 0) 1 (0)),
  (2966, mw_a (.ireturn) 1),
  (2967, mw_b (.iload 6) 2 6),
  (2969, mw_b (.ifCond .ne 15) 3 2984),
  (2972, mw_b (.aload_n 3) 1 3),
  (2973, mw_c (.iconst 0) 1 (0)),
  (2974, mw_a (.laload) 1),
  (2975, mw_b (.iload 7) 2 7)]
def q_L_law_93 : List (Nat × mw_I) := [(2977, mw_a (.i2l) 1),
  (2978, mw_a (.lcmp) 1),
  (2979, mw_b (.ifCond .eq 5) 3 2984),
  (2982, mw_c (.iconst 0) 1 (0)),
  (2983, mw_a (.ireturn) 1),
  (2984, mw_b (.goto 316) 3 3300),
  (2987, mw_b (.aload_n 1) 1 1),
  (2988, mw_b (.aload_n 0) 1 0),
  (2989, mw_b (.iload 5) 2 5),
  (2991, mw_c (.iconst 1) 1 (1)),
  (2992, mw_a (.iadd) 1),
  (2993, mw_a (.iaload) 1),
  (2994, mw_b (.aload_n 3) 1 3),
  (2995, ((.invokestatic 360), 3, (3, 5, 0), [8082, 8083], yL_lineAt, 0)),
  (2998, mw_b (.istore 6) 2 6),
  (3000, mw_b (.aload_n 2) 1 2),
  (3001, mw_b (.aload_n 0) 1 0),
  (3002, mw_b (.iload 5) 2 5),
  (3004, mw_c (.iconst 1) 1 (1)),
  (3005, mw_a (.iadd) 1),
  (3006, mw_a (.iaload) 1),
  (3007, ((.invokevirtual 362), 3, (2, 0, 16), [10181, 10182, 10183], yX12_lineAt, 0))]
def q_L_law_94 : List (Nat × mw_I) := [(3010, mw_b (.istore 7) 2 7),
  (3012, mw_b (.aload_n 2) 1 2),
  (3013, ((.invokevirtual 185), 3, (1, 0, 16), [8221, 8222, 8223], yX12_thrown, 0)),
  (3016, mw_b (.iload 6) 2 6),
  (3018, mw_b (.if_icmp .eq 5) 3 3023),
  (3021, mw_c (.iconst 0) 1 (0)),
  (3022, mw_a (.ireturn) 1),
  (3023, mw_b (.iload 6) 2 6),
  (3025, mw_b (.ifCond .ne 15) 3 3040),
  (3028, mw_b (.aload_n 3) 1 3),
  (3029, mw_c (.iconst 0) 1 (0)),
  (3030, mw_a (.laload) 1),
  (3031, mw_b (.iload 7) 2 7),
  (3033, mw_a (.i2l) 1),
  (3034, mw_a (.lcmp) 1),
  (3035, mw_b (.ifCond .eq 5) 3 3040),
  (3038, mw_c (.iconst 0) 1 (0)),
  (3039, mw_a (.ireturn) 1)]
def q_L_law_95 : List (Nat × mw_I) := [(3040, mw_b (.goto 260) 3 3300),
  (3043, mw_b (.aload_n 1) 1 1),
  (3044, mw_b (.aload 4) 2 4),
  (3046, ((.invokestatic 363), 3, (2, 5, 0), [8099, 8100], yL_meanPhase, 0)),
  (3049, mw_b (.istore 6) 2 6),
  (3051, mw_b (.aload_n 2) 1 2),
  (3052, ((.invokevirtual 366), 3, (1, 0, 16), [10185, 10186, 10187], yX12_meanPhase, 0)),
  (3055, mw_b (.dstore 7) 2 7),
  (3057, mw_b (.aload_n 2) 1 2),
  (3058, ((.invokevirtual 185), 3, (1, 0, 16), [8221, 8222, 8223], yX12_thrown, 0)),
  (3061, mw_b (.iload 6) 2 6),
  (3063, mw_b (.if_icmp .eq 5) 3 3068),
  (3066, mw_c (.iconst 0) 1 (0)),
  (3067, mw_a (.ireturn) 1),
  (3068, mw_b (.iload 6) 2 6),
  (3070, mw_b (.ifCond .ne 35) 3 3105)]
def q_L_law_96 : List (Nat × mw_I) := [(3073, mw_b (.aload 4) 2 4),
  (3075, mw_c (.iconst 0) 1 (0)),
  (3076, mw_a (.daload) 1),
  (3077, mw_b (.dload 7) 2 7),
  (3079, mw_a (.dcmp .l) 1),
  (3080, mw_b (.ifCond .eq 25) 3 3105),
  (3083, mw_b (.aload 4) 2 4),
  (3085, mw_c (.iconst 0) 1 (0)),
  (3086, mw_a (.daload) 1),
  (3087, mw_b (.aload 4) 2 4),
  (3089, mw_c (.iconst 0) 1 (0)),
  (3090, mw_a (.daload) 1),
  (3091, mw_a (.dcmp .l) 1),
  (3092, mw_b (.ifCond .eq 11) 3 3103),
  (3095, mw_b (.dload 7) 2 7),
  (3097, mw_b (.dload 7) 2 7),
  (3099, mw_a (.dcmp .l) 1),
  (3100, mw_b (.ifCond .ne 5) 3 3105),
  (3103, mw_c (.iconst 0) 1 (0))]
def q_L_law_97 : List (Nat × mw_I) := [(3104, mw_a (.ireturn) 1),
  (3105, mw_b (.goto 195) 3 3300),
  (3108, mw_b (.aload_n 1) 1 1),
  (3109, mw_b (.aload_n 0) 1 0),
  (3110, mw_b (.iload 5) 2 5),
  (3112, mw_c (.iconst 1) 1 (1)),
  (3113, mw_a (.iadd) 1),
  (3114, mw_a (.iaload) 1),
  (3115, mw_b (.aload 4) 2 4),
  (3117, ((.invokestatic 367), 3, (3, 5, 0), [8129, 8130], yL_loadShare, 0)),
  (3120, mw_b (.istore 6) 2 6),
  (3122, mw_b (.aload_n 2) 1 2),
  (3123, mw_b (.aload_n 0) 1 0),
  (3124, mw_b (.iload 5) 2 5),
  (3126, mw_c (.iconst 1) 1 (1)),
  (3127, mw_a (.iadd) 1),
  (3128, mw_a (.iaload) 1),
  (3129, ((.invokevirtual 370), 3, (2, 0, 16), [10189, 10190, 10191], yX12_loadShare, 0)),
  (3132, mw_b (.fstore 7) 2 7),
  (3134, mw_b (.aload_n 2) 1 2),
  (3135, ((.invokevirtual 185), 3, (1, 0, 16), [8221, 8222, 8223], yX12_thrown, 0))]
def q_L_law_98 : List (Nat × mw_I) := [(3138, mw_b (.iload 6) 2 6),
  (3140, mw_b (.if_icmp .eq 5) 3 3145),
  (3143, mw_c (.iconst 0) 1 (0)),
  (3144, mw_a (.ireturn) 1),
  (3145, mw_b (.iload 6) 2 6),
  (3147, mw_b (.ifCond .ne 36) 3 3183),
  (3150, mw_b (.aload 4) 2 4),
  (3152, mw_c (.iconst 0) 1 (0)),
  (3153, mw_a (.daload) 1),
  (3154, mw_b (.fload 7) 2 7),
  (3156, mw_a (.f2d) 1),
  (3157, mw_a (.dcmp .l) 1),
  (3158, mw_b (.ifCond .eq 25) 3 3183),
  (3161, mw_b (.aload 4) 2 4),
  (3163, mw_c (.iconst 0) 1 (0)),
  (3164, mw_a (.daload) 1),
  (3165, mw_b (.aload 4) 2 4),
  (3167, mw_c (.iconst 0) 1 (0))]
def q_L_law_99 : List (Nat × mw_I) := [(3168, mw_a (.daload) 1),
  (3169, mw_a (.dcmp .l) 1),
  (3170, mw_b (.ifCond .eq 11) 3 3181),
  (3173, mw_b (.fload 7) 2 7),
  (3175, mw_b (.fload 7) 2 7),
  (3177, mw_a (.fcmp .l) 1),
  (3178, mw_b (.ifCond .ne 5) 3 3183),
  (3181, mw_c (.iconst 0) 1 (0)),
  (3182, mw_a (.ireturn) 1),
  (3183, mw_b (.goto 117) 3 3300),
  (3186, mw_b (.aload_n 1) 1 1),
  (3187, ((.invokevirtual 371), 3, (1, 0, 15), [3145, 3146, 3147], yX11_isConsistent, 0)),
  (3190, mw_b (.aload_n 2) 1 2),
  (3191, ((.invokevirtual 375), 3, (1, 0, 16), [10193, 10194, 10195], yX12_isConsistent, 0)),
  (3194, mw_b (.if_icmp .eq 106) 3 3300),
  (3197, mw_c (.iconst 0) 1 (0)),
  (3198, mw_a (.ireturn) 1),
  (3199, mw_b (.aload_n 1) 1 1)]
def q_L_law_100 : List (Nat × mw_I) := [(3200, mw_b (.aload_n 3) 1 3),
  (3201, ((.invokestatic 376), 3, (2, 5, 0), [8136, 8137], yL_undo, 0)),
  (3204, mw_b (.istore 6) 2 6),
  (3206, mw_b (.aload_n 2) 1 2),
  (3207, ((.invokevirtual 378), 3, (1, 0, 16), [10197, 10198, 10199], yX12_undo, 0)),
  (3210, mw_b (.istore 7) 2 7),
  (3212, mw_b (.aload_n 2) 1 2),
  (3213, ((.invokevirtual 185), 3, (1, 0, 16), [8221, 8222, 8223], yX12_thrown, 0)),
  (3216, mw_b (.iload 6) 2 6),
  (3218, mw_b (.if_icmp .eq 5) 3 3223),
  (3221, mw_c (.iconst 0) 1 (0)),
  (3222, mw_a (.ireturn) 1),
  (3223, mw_b (.iload 6) 2 6),
  (3225, mw_b (.ifCond .ne 15) 3 3240),
  (3228, mw_b (.aload_n 3) 1 3),
  (3229, mw_c (.iconst 0) 1 (0)),
  (3230, mw_a (.laload) 1),
  (3231, mw_b (.iload 7) 2 7)]
def q_L_law_101 : List (Nat × mw_I) := [(3233, mw_a (.i2l) 1),
  (3234, mw_a (.lcmp) 1),
  (3235, mw_b (.ifCond .eq 5) 3 3240),
  (3238, mw_c (.iconst 0) 1 (0)),
  (3239, mw_a (.ireturn) 1),
  (3240, mw_b (.goto 60) 3 3300),
  (3243, mw_b (.aload_n 1) 1 1),
  (3244, ((.invokevirtual 379), 3, (1, 0, 15), [4028, 4029, 4030], yX11_save, 0)),
  (3247, mw_b (.aload_n 2) 1 2),
  (3248, ((.invokevirtual 382), 3, (1, 0, 16), [10201, 10202, 10203], yX12_save, 0)),
  (3251, mw_b (.if_icmp .eq 49) 3 3300),
  (3254, mw_c (.iconst 0) 1 (0)),
  (3255, mw_a (.ireturn) 1),
  (3256, mw_b (.aload_n 1) 1 1),
  (3257, mw_b (.aload_n 3) 1 3),
  (3258, ((.invokestatic 383), 3, (2, 5, 0), [8147, 8148], yL_restore, 0)),
  (3261, mw_b (.istore 6) 2 6),
  (3263, mw_b (.aload_n 2) 1 2)]
def q_L_law_102 : List (Nat × mw_I) := [(3264, ((.invokevirtual 385), 3, (1, 0, 16), [10205, 10206, 10207], yX12_restore, 0)),
  (3267, mw_b (.istore 7) 2 7),
  (3269, mw_b (.aload_n 2) 1 2),
  (3270, ((.invokevirtual 185), 3, (1, 0, 16), [8221, 8222, 8223], yX12_thrown, 0)),
  (3273, mw_b (.iload 6) 2 6),
  (3275, mw_b (.if_icmp .eq 5) 3 3280),
  (3278, mw_c (.iconst 0) 1 (0)),
  (3279, mw_a (.ireturn) 1),
  (3280, mw_b (.iload 6) 2 6),
  (3282, mw_b (.ifCond .ne 15) 3 3297),
  (3285, mw_b (.aload_n 3) 1 3),
  (3286, mw_c (.iconst 0) 1 (0)),
  (3287, mw_a (.laload) 1),
  (3288, mw_b (.iload 7) 2 7),
  (3290, mw_a (.i2l) 1),
  (3291, mw_a (.lcmp) 1),
  (3292, mw_b (.ifCond .eq 5) 3 3297),
  (3295, mw_c (.iconst 0) 1 (0))]
def q_L_law_103 : List (Nat × mw_I) := [(3296, mw_a (.ireturn) 1),
  (3297, mw_b (.goto 3) 3 3300),
  (3300, ((.iinc 5 5), 3, (5, 0, 0), [], mw_nm, (5))),
  (3303, mw_b (.goto (-3275)) 3 28),
  (3306, mw_c (.iconst 1) 1 (1)),
  (3307, mw_a (.ireturn) 1)]
def p_L_law : mw_Code := [q_L_law_0, q_L_law_1, q_L_law_2, q_L_law_3, q_L_law_4, q_L_law_5, q_L_law_6, q_L_law_7, q_L_law_8, q_L_law_9, q_L_law_10, q_L_law_11, q_L_law_12, q_L_law_13, q_L_law_14, q_L_law_15, q_L_law_16, q_L_law_17, q_L_law_18, q_L_law_19, q_L_law_20, q_L_law_21, q_L_law_22, q_L_law_23, q_L_law_24, q_L_law_25, q_L_law_26, q_L_law_27, q_L_law_28, q_L_law_29, q_L_law_30, q_L_law_31, q_L_law_32, q_L_law_33, q_L_law_34, q_L_law_35, q_L_law_36, q_L_law_37, q_L_law_38, q_L_law_39, q_L_law_40, q_L_law_41, q_L_law_42, q_L_law_43, q_L_law_44, q_L_law_45, q_L_law_46, q_L_law_47, q_L_law_48, q_L_law_49, q_L_law_50, q_L_law_51, q_L_law_52, q_L_law_53, q_L_law_54, q_L_law_55, q_L_law_56, q_L_law_57, q_L_law_58, q_L_law_59, q_L_law_60, q_L_law_61, q_L_law_62, q_L_law_63, q_L_law_64, q_L_law_65, q_L_law_66, q_L_law_67, q_L_law_68, q_L_law_69, q_L_law_70, q_L_law_71, q_L_law_72, q_L_law_73, q_L_law_74, q_L_law_75, q_L_law_76, q_L_law_77, q_L_law_78, q_L_law_79, q_L_law_80, q_L_law_81, q_L_law_82, q_L_law_83, q_L_law_84, q_L_law_85, q_L_law_86, q_L_law_87, q_L_law_88, q_L_law_89, q_L_law_90, q_L_law_91, q_L_law_92, q_L_law_93, q_L_law_94, q_L_law_95, q_L_law_96, q_L_law_97, q_L_law_98, q_L_law_99, q_L_law_100, q_L_law_101, q_L_law_102, q_L_law_103]
def d_L_law : mw_CD := (yL_law, cL_law, 9, (some .boolean), p_L_law, [])
theorem k_L_law_0 : q_L_law_0.all (fun z => mw_chkI yL_law cL_law z.1 z.2) = true := by decide +kernel
theorem k_L_law_1 : q_L_law_1.all (fun z => mw_chkI yL_law cL_law z.1 z.2) = true := by decide +kernel
theorem k_L_law_2 : q_L_law_2.all (fun z => mw_chkI yL_law cL_law z.1 z.2) = true := by decide +kernel
theorem k_L_law_3 : q_L_law_3.all (fun z => mw_chkI yL_law cL_law z.1 z.2) = true := by decide +kernel
theorem k_L_law_4 : q_L_law_4.all (fun z => mw_chkI yL_law cL_law z.1 z.2) = true := by decide +kernel
theorem k_L_law_5 : q_L_law_5.all (fun z => mw_chkI yL_law cL_law z.1 z.2) = true := by decide +kernel
theorem k_L_law_6 : q_L_law_6.all (fun z => mw_chkI yL_law cL_law z.1 z.2) = true := by decide +kernel
theorem k_L_law_7 : q_L_law_7.all (fun z => mw_chkI yL_law cL_law z.1 z.2) = true := by decide +kernel
theorem k_L_law_8 : q_L_law_8.all (fun z => mw_chkI yL_law cL_law z.1 z.2) = true := by decide +kernel
theorem k_L_law_9 : q_L_law_9.all (fun z => mw_chkI yL_law cL_law z.1 z.2) = true := by decide +kernel
theorem k_L_law_10 : q_L_law_10.all (fun z => mw_chkI yL_law cL_law z.1 z.2) = true := by decide +kernel
theorem k_L_law_11 : q_L_law_11.all (fun z => mw_chkI yL_law cL_law z.1 z.2) = true := by decide +kernel
theorem k_L_law_12 : q_L_law_12.all (fun z => mw_chkI yL_law cL_law z.1 z.2) = true := by decide +kernel
theorem k_L_law_13 : q_L_law_13.all (fun z => mw_chkI yL_law cL_law z.1 z.2) = true := by decide +kernel
theorem k_L_law_14 : q_L_law_14.all (fun z => mw_chkI yL_law cL_law z.1 z.2) = true := by decide +kernel
theorem k_L_law_15 : q_L_law_15.all (fun z => mw_chkI yL_law cL_law z.1 z.2) = true := by decide +kernel
theorem k_L_law_16 : q_L_law_16.all (fun z => mw_chkI yL_law cL_law z.1 z.2) = true := by decide +kernel
theorem k_L_law_17 : q_L_law_17.all (fun z => mw_chkI yL_law cL_law z.1 z.2) = true := by decide +kernel
theorem k_L_law_18 : q_L_law_18.all (fun z => mw_chkI yL_law cL_law z.1 z.2) = true := by decide +kernel
theorem k_L_law_19 : q_L_law_19.all (fun z => mw_chkI yL_law cL_law z.1 z.2) = true := by decide +kernel
theorem k_L_law_20 : q_L_law_20.all (fun z => mw_chkI yL_law cL_law z.1 z.2) = true := by decide +kernel
theorem k_L_law_21 : q_L_law_21.all (fun z => mw_chkI yL_law cL_law z.1 z.2) = true := by decide +kernel
theorem k_L_law_22 : q_L_law_22.all (fun z => mw_chkI yL_law cL_law z.1 z.2) = true := by decide +kernel
theorem k_L_law_23 : q_L_law_23.all (fun z => mw_chkI yL_law cL_law z.1 z.2) = true := by decide +kernel
theorem k_L_law_24 : q_L_law_24.all (fun z => mw_chkI yL_law cL_law z.1 z.2) = true := by decide +kernel
theorem k_L_law_25 : q_L_law_25.all (fun z => mw_chkI yL_law cL_law z.1 z.2) = true := by decide +kernel
theorem k_L_law_26 : q_L_law_26.all (fun z => mw_chkI yL_law cL_law z.1 z.2) = true := by decide +kernel
theorem k_L_law_27 : q_L_law_27.all (fun z => mw_chkI yL_law cL_law z.1 z.2) = true := by decide +kernel
theorem k_L_law_28 : q_L_law_28.all (fun z => mw_chkI yL_law cL_law z.1 z.2) = true := by decide +kernel
theorem k_L_law_29 : q_L_law_29.all (fun z => mw_chkI yL_law cL_law z.1 z.2) = true := by decide +kernel
theorem k_L_law_30 : q_L_law_30.all (fun z => mw_chkI yL_law cL_law z.1 z.2) = true := by decide +kernel
theorem k_L_law_31 : q_L_law_31.all (fun z => mw_chkI yL_law cL_law z.1 z.2) = true := by decide +kernel
theorem k_L_law_32 : q_L_law_32.all (fun z => mw_chkI yL_law cL_law z.1 z.2) = true := by decide +kernel
theorem k_L_law_33 : q_L_law_33.all (fun z => mw_chkI yL_law cL_law z.1 z.2) = true := by decide +kernel
theorem k_L_law_34 : q_L_law_34.all (fun z => mw_chkI yL_law cL_law z.1 z.2) = true := by decide +kernel
theorem k_L_law_35 : q_L_law_35.all (fun z => mw_chkI yL_law cL_law z.1 z.2) = true := by decide +kernel
theorem k_L_law_36 : q_L_law_36.all (fun z => mw_chkI yL_law cL_law z.1 z.2) = true := by decide +kernel
theorem k_L_law_37 : q_L_law_37.all (fun z => mw_chkI yL_law cL_law z.1 z.2) = true := by decide +kernel
theorem k_L_law_38 : q_L_law_38.all (fun z => mw_chkI yL_law cL_law z.1 z.2) = true := by decide +kernel
theorem k_L_law_39 : q_L_law_39.all (fun z => mw_chkI yL_law cL_law z.1 z.2) = true := by decide +kernel
theorem k_L_law_40 : q_L_law_40.all (fun z => mw_chkI yL_law cL_law z.1 z.2) = true := by decide +kernel
theorem k_L_law_41 : q_L_law_41.all (fun z => mw_chkI yL_law cL_law z.1 z.2) = true := by decide +kernel
theorem k_L_law_42 : q_L_law_42.all (fun z => mw_chkI yL_law cL_law z.1 z.2) = true := by decide +kernel
theorem k_L_law_43 : q_L_law_43.all (fun z => mw_chkI yL_law cL_law z.1 z.2) = true := by decide +kernel
theorem k_L_law_44 : q_L_law_44.all (fun z => mw_chkI yL_law cL_law z.1 z.2) = true := by decide +kernel
theorem k_L_law_45 : q_L_law_45.all (fun z => mw_chkI yL_law cL_law z.1 z.2) = true := by decide +kernel
theorem k_L_law_46 : q_L_law_46.all (fun z => mw_chkI yL_law cL_law z.1 z.2) = true := by decide +kernel
theorem k_L_law_47 : q_L_law_47.all (fun z => mw_chkI yL_law cL_law z.1 z.2) = true := by decide +kernel
theorem k_L_law_48 : q_L_law_48.all (fun z => mw_chkI yL_law cL_law z.1 z.2) = true := by decide +kernel
theorem k_L_law_49 : q_L_law_49.all (fun z => mw_chkI yL_law cL_law z.1 z.2) = true := by decide +kernel
theorem k_L_law_50 : q_L_law_50.all (fun z => mw_chkI yL_law cL_law z.1 z.2) = true := by decide +kernel
theorem k_L_law_51 : q_L_law_51.all (fun z => mw_chkI yL_law cL_law z.1 z.2) = true := by decide +kernel
theorem k_L_law_52 : q_L_law_52.all (fun z => mw_chkI yL_law cL_law z.1 z.2) = true := by decide +kernel
theorem k_L_law_53 : q_L_law_53.all (fun z => mw_chkI yL_law cL_law z.1 z.2) = true := by decide +kernel
theorem k_L_law_54 : q_L_law_54.all (fun z => mw_chkI yL_law cL_law z.1 z.2) = true := by decide +kernel
theorem k_L_law_55 : q_L_law_55.all (fun z => mw_chkI yL_law cL_law z.1 z.2) = true := by decide +kernel
theorem k_L_law_56 : q_L_law_56.all (fun z => mw_chkI yL_law cL_law z.1 z.2) = true := by decide +kernel
theorem k_L_law_57 : q_L_law_57.all (fun z => mw_chkI yL_law cL_law z.1 z.2) = true := by decide +kernel
theorem k_L_law_58 : q_L_law_58.all (fun z => mw_chkI yL_law cL_law z.1 z.2) = true := by decide +kernel
theorem k_L_law_59 : q_L_law_59.all (fun z => mw_chkI yL_law cL_law z.1 z.2) = true := by decide +kernel
theorem k_L_law_60 : q_L_law_60.all (fun z => mw_chkI yL_law cL_law z.1 z.2) = true := by decide +kernel
theorem k_L_law_61 : q_L_law_61.all (fun z => mw_chkI yL_law cL_law z.1 z.2) = true := by decide +kernel
theorem k_L_law_62 : q_L_law_62.all (fun z => mw_chkI yL_law cL_law z.1 z.2) = true := by decide +kernel
theorem k_L_law_63 : q_L_law_63.all (fun z => mw_chkI yL_law cL_law z.1 z.2) = true := by decide +kernel
theorem k_L_law_64 : q_L_law_64.all (fun z => mw_chkI yL_law cL_law z.1 z.2) = true := by decide +kernel
theorem k_L_law_65 : q_L_law_65.all (fun z => mw_chkI yL_law cL_law z.1 z.2) = true := by decide +kernel
theorem k_L_law_66 : q_L_law_66.all (fun z => mw_chkI yL_law cL_law z.1 z.2) = true := by decide +kernel
theorem k_L_law_67 : q_L_law_67.all (fun z => mw_chkI yL_law cL_law z.1 z.2) = true := by decide +kernel
theorem k_L_law_68 : q_L_law_68.all (fun z => mw_chkI yL_law cL_law z.1 z.2) = true := by decide +kernel
theorem k_L_law_69 : q_L_law_69.all (fun z => mw_chkI yL_law cL_law z.1 z.2) = true := by decide +kernel
theorem k_L_law_70 : q_L_law_70.all (fun z => mw_chkI yL_law cL_law z.1 z.2) = true := by decide +kernel
theorem k_L_law_71 : q_L_law_71.all (fun z => mw_chkI yL_law cL_law z.1 z.2) = true := by decide +kernel
theorem k_L_law_72 : q_L_law_72.all (fun z => mw_chkI yL_law cL_law z.1 z.2) = true := by decide +kernel
theorem k_L_law_73 : q_L_law_73.all (fun z => mw_chkI yL_law cL_law z.1 z.2) = true := by decide +kernel
theorem k_L_law_74 : q_L_law_74.all (fun z => mw_chkI yL_law cL_law z.1 z.2) = true := by decide +kernel
theorem k_L_law_75 : q_L_law_75.all (fun z => mw_chkI yL_law cL_law z.1 z.2) = true := by decide +kernel
theorem k_L_law_76 : q_L_law_76.all (fun z => mw_chkI yL_law cL_law z.1 z.2) = true := by decide +kernel
theorem k_L_law_77 : q_L_law_77.all (fun z => mw_chkI yL_law cL_law z.1 z.2) = true := by decide +kernel
theorem k_L_law_78 : q_L_law_78.all (fun z => mw_chkI yL_law cL_law z.1 z.2) = true := by decide +kernel
theorem k_L_law_79 : q_L_law_79.all (fun z => mw_chkI yL_law cL_law z.1 z.2) = true := by decide +kernel
theorem k_L_law_80 : q_L_law_80.all (fun z => mw_chkI yL_law cL_law z.1 z.2) = true := by decide +kernel
theorem k_L_law_81 : q_L_law_81.all (fun z => mw_chkI yL_law cL_law z.1 z.2) = true := by decide +kernel
theorem k_L_law_82 : q_L_law_82.all (fun z => mw_chkI yL_law cL_law z.1 z.2) = true := by decide +kernel
theorem k_L_law_83 : q_L_law_83.all (fun z => mw_chkI yL_law cL_law z.1 z.2) = true := by decide +kernel
theorem k_L_law_84 : q_L_law_84.all (fun z => mw_chkI yL_law cL_law z.1 z.2) = true := by decide +kernel
theorem k_L_law_85 : q_L_law_85.all (fun z => mw_chkI yL_law cL_law z.1 z.2) = true := by decide +kernel
theorem k_L_law_86 : q_L_law_86.all (fun z => mw_chkI yL_law cL_law z.1 z.2) = true := by decide +kernel
theorem k_L_law_87 : q_L_law_87.all (fun z => mw_chkI yL_law cL_law z.1 z.2) = true := by decide +kernel
theorem k_L_law_88 : q_L_law_88.all (fun z => mw_chkI yL_law cL_law z.1 z.2) = true := by decide +kernel
theorem k_L_law_89 : q_L_law_89.all (fun z => mw_chkI yL_law cL_law z.1 z.2) = true := by decide +kernel
theorem k_L_law_90 : q_L_law_90.all (fun z => mw_chkI yL_law cL_law z.1 z.2) = true := by decide +kernel
theorem k_L_law_91 : q_L_law_91.all (fun z => mw_chkI yL_law cL_law z.1 z.2) = true := by decide +kernel
theorem k_L_law_92 : q_L_law_92.all (fun z => mw_chkI yL_law cL_law z.1 z.2) = true := by decide +kernel
theorem k_L_law_93 : q_L_law_93.all (fun z => mw_chkI yL_law cL_law z.1 z.2) = true := by decide +kernel
theorem k_L_law_94 : q_L_law_94.all (fun z => mw_chkI yL_law cL_law z.1 z.2) = true := by decide +kernel
theorem k_L_law_95 : q_L_law_95.all (fun z => mw_chkI yL_law cL_law z.1 z.2) = true := by decide +kernel
theorem k_L_law_96 : q_L_law_96.all (fun z => mw_chkI yL_law cL_law z.1 z.2) = true := by decide +kernel
theorem k_L_law_97 : q_L_law_97.all (fun z => mw_chkI yL_law cL_law z.1 z.2) = true := by decide +kernel
theorem k_L_law_98 : q_L_law_98.all (fun z => mw_chkI yL_law cL_law z.1 z.2) = true := by decide +kernel
theorem k_L_law_99 : q_L_law_99.all (fun z => mw_chkI yL_law cL_law z.1 z.2) = true := by decide +kernel
theorem k_L_law_100 : q_L_law_100.all (fun z => mw_chkI yL_law cL_law z.1 z.2) = true := by decide +kernel
theorem k_L_law_101 : q_L_law_101.all (fun z => mw_chkI yL_law cL_law z.1 z.2) = true := by decide +kernel
theorem k_L_law_102 : q_L_law_102.all (fun z => mw_chkI yL_law cL_law z.1 z.2) = true := by decide +kernel
theorem k_L_law_103 : q_L_law_103.all (fun z => mw_chkI yL_law cL_law z.1 z.2) = true := by decide +kernel
theorem mw_all_cons {α : Type} {f : α → Bool} {a : α} {l : List α} (h1 : f a = true) (h2 : l.all f = true) : (a :: l).all f = true := by
  rw [List.all_cons, h1, h2]
  rfl
theorem ch_L_law : mw_chk d_L_law = true := by
  show p_L_law.all (fun l => l.all (fun z => mw_chkI yL_law cL_law z.1 z.2)) = true
  unfold p_L_law
  refine mw_all_cons k_L_law_0 ?_
  refine mw_all_cons k_L_law_1 ?_
  refine mw_all_cons k_L_law_2 ?_
  refine mw_all_cons k_L_law_3 ?_
  refine mw_all_cons k_L_law_4 ?_
  refine mw_all_cons k_L_law_5 ?_
  refine mw_all_cons k_L_law_6 ?_
  refine mw_all_cons k_L_law_7 ?_
  refine mw_all_cons k_L_law_8 ?_
  refine mw_all_cons k_L_law_9 ?_
  refine mw_all_cons k_L_law_10 ?_
  refine mw_all_cons k_L_law_11 ?_
  refine mw_all_cons k_L_law_12 ?_
  refine mw_all_cons k_L_law_13 ?_
  refine mw_all_cons k_L_law_14 ?_
  refine mw_all_cons k_L_law_15 ?_
  refine mw_all_cons k_L_law_16 ?_
  refine mw_all_cons k_L_law_17 ?_
  refine mw_all_cons k_L_law_18 ?_
  refine mw_all_cons k_L_law_19 ?_
  refine mw_all_cons k_L_law_20 ?_
  refine mw_all_cons k_L_law_21 ?_
  refine mw_all_cons k_L_law_22 ?_
  refine mw_all_cons k_L_law_23 ?_
  refine mw_all_cons k_L_law_24 ?_
  refine mw_all_cons k_L_law_25 ?_
  refine mw_all_cons k_L_law_26 ?_
  refine mw_all_cons k_L_law_27 ?_
  refine mw_all_cons k_L_law_28 ?_
  refine mw_all_cons k_L_law_29 ?_
  refine mw_all_cons k_L_law_30 ?_
  refine mw_all_cons k_L_law_31 ?_
  refine mw_all_cons k_L_law_32 ?_
  refine mw_all_cons k_L_law_33 ?_
  refine mw_all_cons k_L_law_34 ?_
  refine mw_all_cons k_L_law_35 ?_
  refine mw_all_cons k_L_law_36 ?_
  refine mw_all_cons k_L_law_37 ?_
  refine mw_all_cons k_L_law_38 ?_
  refine mw_all_cons k_L_law_39 ?_
  refine mw_all_cons k_L_law_40 ?_
  refine mw_all_cons k_L_law_41 ?_
  refine mw_all_cons k_L_law_42 ?_
  refine mw_all_cons k_L_law_43 ?_
  refine mw_all_cons k_L_law_44 ?_
  refine mw_all_cons k_L_law_45 ?_
  refine mw_all_cons k_L_law_46 ?_
  refine mw_all_cons k_L_law_47 ?_
  refine mw_all_cons k_L_law_48 ?_
  refine mw_all_cons k_L_law_49 ?_
  refine mw_all_cons k_L_law_50 ?_
  refine mw_all_cons k_L_law_51 ?_
  refine mw_all_cons k_L_law_52 ?_
  refine mw_all_cons k_L_law_53 ?_
  refine mw_all_cons k_L_law_54 ?_
  refine mw_all_cons k_L_law_55 ?_
  refine mw_all_cons k_L_law_56 ?_
  refine mw_all_cons k_L_law_57 ?_
  refine mw_all_cons k_L_law_58 ?_
  refine mw_all_cons k_L_law_59 ?_
  refine mw_all_cons k_L_law_60 ?_
  refine mw_all_cons k_L_law_61 ?_
  refine mw_all_cons k_L_law_62 ?_
  refine mw_all_cons k_L_law_63 ?_
  refine mw_all_cons k_L_law_64 ?_
  refine mw_all_cons k_L_law_65 ?_
  refine mw_all_cons k_L_law_66 ?_
  refine mw_all_cons k_L_law_67 ?_
  refine mw_all_cons k_L_law_68 ?_
  refine mw_all_cons k_L_law_69 ?_
  refine mw_all_cons k_L_law_70 ?_
  refine mw_all_cons k_L_law_71 ?_
  refine mw_all_cons k_L_law_72 ?_
  refine mw_all_cons k_L_law_73 ?_
  refine mw_all_cons k_L_law_74 ?_
  refine mw_all_cons k_L_law_75 ?_
  refine mw_all_cons k_L_law_76 ?_
  refine mw_all_cons k_L_law_77 ?_
  refine mw_all_cons k_L_law_78 ?_
  refine mw_all_cons k_L_law_79 ?_
  refine mw_all_cons k_L_law_80 ?_
  refine mw_all_cons k_L_law_81 ?_
  refine mw_all_cons k_L_law_82 ?_
  refine mw_all_cons k_L_law_83 ?_
  refine mw_all_cons k_L_law_84 ?_
  refine mw_all_cons k_L_law_85 ?_
  refine mw_all_cons k_L_law_86 ?_
  refine mw_all_cons k_L_law_87 ?_
  refine mw_all_cons k_L_law_88 ?_
  refine mw_all_cons k_L_law_89 ?_
  refine mw_all_cons k_L_law_90 ?_
  refine mw_all_cons k_L_law_91 ?_
  refine mw_all_cons k_L_law_92 ?_
  refine mw_all_cons k_L_law_93 ?_
  refine mw_all_cons k_L_law_94 ?_
  refine mw_all_cons k_L_law_95 ?_
  refine mw_all_cons k_L_law_96 ?_
  refine mw_all_cons k_L_law_97 ?_
  refine mw_all_cons k_L_law_98 ?_
  refine mw_all_cons k_L_law_99 ?_
  refine mw_all_cons k_L_law_100 ?_
  refine mw_all_cons k_L_law_101 ?_
  refine mw_all_cons k_L_law_102 ?_
  refine mw_all_cons k_L_law_103 ?_
  rfl
theorem l_L_law_0 : mw_lk d_L_law 0 = some (((.new 8), 3, (15, 13, 0), [1037, 1038, 1001], mw_nm, 0)) := mw_is_eq (by decide +kernel)
theorem l_L_law_3 : mw_lk d_L_law 3 = some (mw_a (.dup) 1) := mw_is_eq (by decide +kernel)
theorem l_L_law_4 : mw_lk d_L_law 4 = some (((.invokespecial 175), 3, (1, 2, 0), [1039, 1040], yX11_init, 0)) := mw_is_eq (by decide +kernel)
theorem l_L_law_7 : mw_lk d_L_law 7 = some (mw_b (.astore_n 1) 1 1) := mw_is_eq (by decide +kernel)
theorem l_L_law_8 : mw_lk d_L_law 8 = some (((.new 176), 3, (16, 20, 0), [8154, 8155, 1017], mw_nm, 0)) := mw_is_eq (by decide +kernel)
theorem l_L_law_11 : mw_lk d_L_law 11 = some (mw_a (.dup) 1) := mw_is_eq (by decide +kernel)
theorem l_L_law_12 : mw_lk d_L_law 12 = some (((.invokespecial 178), 3, (1, 2, 0), [8156, 8157], yX12_init, 0)) := mw_is_eq (by decide +kernel)
theorem l_L_law_15 : mw_lk d_L_law 15 = some (mw_b (.astore_n 2) 1 2) := mw_is_eq (by decide +kernel)
theorem l_L_law_16 : mw_lk d_L_law 16 = some (mw_c (.iconst 1) 1 (1)) := mw_is_eq (by decide +kernel)
theorem l_L_law_17 : mw_lk d_L_law 17 = some (((.newarray .long), 2, (0, 0, 0), [10209], mw_nm, 0)) := mw_is_eq (by decide +kernel)
theorem l_L_law_19 : mw_lk d_L_law 19 = some (mw_b (.astore_n 3) 1 3) := mw_is_eq (by decide +kernel)
theorem l_L_law_20 : mw_lk d_L_law 20 = some (mw_c (.iconst 1) 1 (1)) := mw_is_eq (by decide +kernel)
theorem l_L_law_21 : mw_lk d_L_law 21 = some (((.newarray .double), 2, (0, 0, 0), [10210], mw_nm, 0)) := mw_is_eq (by decide +kernel)
theorem l_L_law_23 : mw_lk d_L_law 23 = some (mw_b (.astore 4) 2 4) := mw_is_eq (by decide +kernel)
theorem l_L_law_25 : mw_lk d_L_law 25 = some (mw_c (.iconst 0) 1 (0)) := mw_is_eq (by decide +kernel)
theorem l_L_law_26 : mw_lk d_L_law 26 = some (mw_b (.istore 5) 2 5) := mw_is_eq (by decide +kernel)
theorem l_L_law_28 : mw_lk d_L_law 28 = some (mw_b (.iload 5) 2 5) := mw_is_eq (by decide +kernel)
theorem l_L_law_30 : mw_lk d_L_law 30 = some (mw_b (.aload_n 0) 1 0) := mw_is_eq (by decide +kernel)
theorem l_L_law_31 : mw_lk d_L_law 31 = some (mw_a (.arraylength) 1) := mw_is_eq (by decide +kernel)
theorem l_L_law_32 : mw_lk d_L_law 32 = some (mw_c (.iconst 5) 1 (5)) := mw_is_eq (by decide +kernel)
theorem l_L_law_33 : mw_lk d_L_law 33 = some (mw_a (.isub) 1) := mw_is_eq (by decide +kernel)
theorem l_L_law_34 : mw_lk d_L_law 34 = some (mw_b (.if_icmp .gt 3272) 3 3306) := mw_is_eq (by decide +kernel)
theorem l_L_law_37 : mw_lk d_L_law 37 = some (mw_b (.aload_n 0) 1 0) := mw_is_eq (by decide +kernel)
theorem l_L_law_38 : mw_lk d_L_law 38 = some (mw_b (.iload 5) 2 5) := mw_is_eq (by decide +kernel)
theorem l_L_law_40 : mw_lk d_L_law 40 = some (mw_a (.iaload) 1) := mw_is_eq (by decide +kernel)
theorem l_L_law_41 : mw_lk d_L_law 41 = some (mw_c (.bipush 63) 2 (63)) := mw_is_eq (by decide +kernel)
theorem l_L_law_43 : mw_lk d_L_law 43 = some (mw_a (.iand) 1) := mw_is_eq (by decide +kernel)
theorem l_L_law_44 : mw_lk d_L_law 44 = some (((.tableswitch 3256 0 59 #[256, 312, 404, 460, 473, 486, 542, 610, 666, 734, 802, 846, 890, 970, 1038, 1101, 1157, 1213, 1269, 1332, 1388, 1456, 1524, 1616, 1684, 1740, 1796, 1852, 1908, 1964, 1977, 2033, 2089, 2145, 2201, 2257, 2313, 2338, 2363, 2419, 2432, 2476, 2489, 2545, 2601, 2657, 2670, 2684, 2697, 2755, 2799, 2843, 2887, 2943, 2999, 3064, 3142, 3155, 3199, 3212]), 256, (3300, 0, 0), [300, 356, 448, 504, 517, 530, 586, 654, 710, 778, 846, 890, 934, 1014, 1082, 1145, 1201, 1257, 1313, 1376, 1432, 1500, 1568, 1660, 1728, 1784, 1840, 1896, 1952, 2008, 2021, 2077, 2133, 2189, 2245, 2301, 2357, 2382, 2407, 2463, 2476, 2520, 2533, 2589, 2645, 2701, 2714, 2728, 2741, 2799, 2843, 2887, 2931, 2987, 3043, 3108, 3186, 3199, 3243, 3256], mw_nm, 0)) := mw_is_eq (by decide +kernel)
theorem l_L_law_300 : mw_lk d_L_law 300 = some (mw_b (.aload_n 1) 1 1) := mw_is_eq (by decide +kernel)
theorem l_L_law_301 : mw_lk d_L_law 301 = some (mw_b (.aload_n 0) 1 0) := mw_is_eq (by decide +kernel)
theorem l_L_law_302 : mw_lk d_L_law 302 = some (mw_b (.iload 5) 2 5) := mw_is_eq (by decide +kernel)
theorem l_L_law_304 : mw_lk d_L_law 304 = some (mw_c (.iconst 1) 1 (1)) := mw_is_eq (by decide +kernel)
theorem l_L_law_305 : mw_lk d_L_law 305 = some (mw_a (.iadd) 1) := mw_is_eq (by decide +kernel)
theorem l_L_law_306 : mw_lk d_L_law 306 = some (mw_a (.iaload) 1) := mw_is_eq (by decide +kernel)
theorem l_L_law_307 : mw_lk d_L_law 307 = some (mw_b (.aload_n 3) 1 3) := mw_is_eq (by decide +kernel)
theorem l_L_law_308 : mw_lk d_L_law 308 = some (((.invokestatic 179), 3, (3, 5, 0), [4053, 4054], yL_addCrater, 0)) := mw_is_eq (by decide +kernel)
theorem l_L_law_311 : mw_lk d_L_law 311 = some (mw_b (.istore 6) 2 6) := mw_is_eq (by decide +kernel)
theorem l_L_law_313 : mw_lk d_L_law 313 = some (mw_b (.aload_n 2) 1 2) := mw_is_eq (by decide +kernel)
theorem l_L_law_314 : mw_lk d_L_law 314 = some (mw_b (.aload_n 0) 1 0) := mw_is_eq (by decide +kernel)
theorem l_L_law_315 : mw_lk d_L_law 315 = some (mw_b (.iload 5) 2 5) := mw_is_eq (by decide +kernel)
theorem l_L_law_317 : mw_lk d_L_law 317 = some (mw_c (.iconst 1) 1 (1)) := mw_is_eq (by decide +kernel)
theorem l_L_law_318 : mw_lk d_L_law 318 = some (mw_a (.iadd) 1) := mw_is_eq (by decide +kernel)
theorem l_L_law_319 : mw_lk d_L_law 319 = some (mw_a (.iaload) 1) := mw_is_eq (by decide +kernel)
theorem l_L_law_320 : mw_lk d_L_law 320 = some (((.invokevirtual 184), 3, (2, 0, 16), [8225, 8226, 8227], yX12_addCrater, 0)) := mw_is_eq (by decide +kernel)
theorem l_L_law_323 : mw_lk d_L_law 323 = some (mw_b (.istore 7) 2 7) := mw_is_eq (by decide +kernel)
theorem l_L_law_325 : mw_lk d_L_law 325 = some (mw_b (.aload_n 2) 1 2) := mw_is_eq (by decide +kernel)
theorem l_L_law_326 : mw_lk d_L_law 326 = some (((.invokevirtual 185), 3, (1, 0, 16), [8221, 8222, 8223], yX12_thrown, 0)) := mw_is_eq (by decide +kernel)
theorem l_L_law_329 : mw_lk d_L_law 329 = some (mw_b (.iload 6) 2 6) := mw_is_eq (by decide +kernel)
theorem l_L_law_331 : mw_lk d_L_law 331 = some (mw_b (.if_icmp .eq 5) 3 336) := mw_is_eq (by decide +kernel)
theorem l_L_law_334 : mw_lk d_L_law 334 = some (mw_c (.iconst 0) 1 (0)) := mw_is_eq (by decide +kernel)
theorem l_L_law_335 : mw_lk d_L_law 335 = some (mw_a (.ireturn) 1) := mw_is_eq (by decide +kernel)
theorem l_L_law_336 : mw_lk d_L_law 336 = some (mw_b (.iload 6) 2 6) := mw_is_eq (by decide +kernel)
theorem l_L_law_338 : mw_lk d_L_law 338 = some (mw_b (.ifCond .ne 15) 3 353) := mw_is_eq (by decide +kernel)
theorem l_L_law_341 : mw_lk d_L_law 341 = some (mw_b (.aload_n 3) 1 3) := mw_is_eq (by decide +kernel)
theorem l_L_law_342 : mw_lk d_L_law 342 = some (mw_c (.iconst 0) 1 (0)) := mw_is_eq (by decide +kernel)
theorem l_L_law_343 : mw_lk d_L_law 343 = some (mw_a (.laload) 1) := mw_is_eq (by decide +kernel)
theorem l_L_law_344 : mw_lk d_L_law 344 = some (mw_b (.iload 7) 2 7) := mw_is_eq (by decide +kernel)
theorem l_L_law_346 : mw_lk d_L_law 346 = some (mw_a (.i2l) 1) := mw_is_eq (by decide +kernel)
theorem l_L_law_347 : mw_lk d_L_law 347 = some (mw_a (.lcmp) 1) := mw_is_eq (by decide +kernel)
theorem l_L_law_348 : mw_lk d_L_law 348 = some (mw_b (.ifCond .eq 5) 3 353) := mw_is_eq (by decide +kernel)
theorem l_L_law_351 : mw_lk d_L_law 351 = some (mw_c (.iconst 0) 1 (0)) := mw_is_eq (by decide +kernel)
theorem l_L_law_352 : mw_lk d_L_law 352 = some (mw_a (.ireturn) 1) := mw_is_eq (by decide +kernel)
theorem l_L_law_353 : mw_lk d_L_law 353 = some (mw_b (.goto 2947) 3 3300) := mw_is_eq (by decide +kernel)
theorem l_L_law_356 : mw_lk d_L_law 356 = some (mw_b (.aload_n 1) 1 1) := mw_is_eq (by decide +kernel)
theorem l_L_law_357 : mw_lk d_L_law 357 = some (mw_b (.aload_n 0) 1 0) := mw_is_eq (by decide +kernel)
theorem l_L_law_358 : mw_lk d_L_law 358 = some (mw_b (.iload 5) 2 5) := mw_is_eq (by decide +kernel)
theorem l_L_law_360 : mw_lk d_L_law 360 = some (mw_c (.iconst 1) 1 (1)) := mw_is_eq (by decide +kernel)
theorem l_L_law_361 : mw_lk d_L_law 361 = some (mw_a (.iadd) 1) := mw_is_eq (by decide +kernel)
theorem l_L_law_362 : mw_lk d_L_law 362 = some (mw_a (.iaload) 1) := mw_is_eq (by decide +kernel)
theorem l_L_law_363 : mw_lk d_L_law 363 = some (mw_b (.aload_n 0) 1 0) := mw_is_eq (by decide +kernel)
theorem l_L_law_364 : mw_lk d_L_law 364 = some (mw_b (.iload 5) 2 5) := mw_is_eq (by decide +kernel)
theorem l_L_law_366 : mw_lk d_L_law 366 = some (mw_c (.iconst 2) 1 (2)) := mw_is_eq (by decide +kernel)
theorem l_L_law_367 : mw_lk d_L_law 367 = some (mw_a (.iadd) 1) := mw_is_eq (by decide +kernel)
theorem l_L_law_368 : mw_lk d_L_law 368 = some (mw_a (.iaload) 1) := mw_is_eq (by decide +kernel)
theorem l_L_law_369 : mw_lk d_L_law 369 = some (mw_b (.aload_n 0) 1 0) := mw_is_eq (by decide +kernel)
theorem l_L_law_370 : mw_lk d_L_law 370 = some (mw_b (.iload 5) 2 5) := mw_is_eq (by decide +kernel)
theorem l_L_law_372 : mw_lk d_L_law 372 = some (mw_c (.iconst 3) 1 (3)) := mw_is_eq (by decide +kernel)
theorem l_L_law_373 : mw_lk d_L_law 373 = some (mw_a (.iadd) 1) := mw_is_eq (by decide +kernel)
theorem l_L_law_374 : mw_lk d_L_law 374 = some (mw_a (.iaload) 1) := mw_is_eq (by decide +kernel)
theorem l_L_law_375 : mw_lk d_L_law 375 = some (mw_b (.aload_n 0) 1 0) := mw_is_eq (by decide +kernel)
theorem l_L_law_376 : mw_lk d_L_law 376 = some (mw_b (.iload 5) 2 5) := mw_is_eq (by decide +kernel)
theorem l_L_law_378 : mw_lk d_L_law 378 = some (mw_c (.iconst 4) 1 (4)) := mw_is_eq (by decide +kernel)
theorem l_L_law_379 : mw_lk d_L_law 379 = some (mw_a (.iadd) 1) := mw_is_eq (by decide +kernel)
theorem l_L_law_380 : mw_lk d_L_law 380 = some (mw_a (.iaload) 1) := mw_is_eq (by decide +kernel)
theorem l_L_law_381 : mw_lk d_L_law 381 = some (mw_b (.aload_n 3) 1 3) := mw_is_eq (by decide +kernel)
theorem l_L_law_382 : mw_lk d_L_law 382 = some (((.invokestatic 188), 3, (6, 5, 0), [4208, 4209], yL_addChannel, 0)) := mw_is_eq (by decide +kernel)
theorem l_L_law_385 : mw_lk d_L_law 385 = some (mw_b (.istore 6) 2 6) := mw_is_eq (by decide +kernel)
theorem l_L_law_387 : mw_lk d_L_law 387 = some (mw_b (.aload_n 2) 1 2) := mw_is_eq (by decide +kernel)
theorem l_L_law_388 : mw_lk d_L_law 388 = some (mw_b (.aload_n 0) 1 0) := mw_is_eq (by decide +kernel)
theorem l_L_law_389 : mw_lk d_L_law 389 = some (mw_b (.iload 5) 2 5) := mw_is_eq (by decide +kernel)
theorem l_L_law_391 : mw_lk d_L_law 391 = some (mw_c (.iconst 1) 1 (1)) := mw_is_eq (by decide +kernel)
theorem l_L_law_392 : mw_lk d_L_law 392 = some (mw_a (.iadd) 1) := mw_is_eq (by decide +kernel)
theorem l_L_law_393 : mw_lk d_L_law 393 = some (mw_a (.iaload) 1) := mw_is_eq (by decide +kernel)
theorem l_L_law_394 : mw_lk d_L_law 394 = some (mw_b (.aload_n 0) 1 0) := mw_is_eq (by decide +kernel)
theorem l_L_law_395 : mw_lk d_L_law 395 = some (mw_b (.iload 5) 2 5) := mw_is_eq (by decide +kernel)
theorem l_L_law_397 : mw_lk d_L_law 397 = some (mw_c (.iconst 2) 1 (2)) := mw_is_eq (by decide +kernel)
theorem l_L_law_398 : mw_lk d_L_law 398 = some (mw_a (.iadd) 1) := mw_is_eq (by decide +kernel)
theorem l_L_law_399 : mw_lk d_L_law 399 = some (mw_a (.iaload) 1) := mw_is_eq (by decide +kernel)
theorem l_L_law_400 : mw_lk d_L_law 400 = some (mw_b (.aload_n 0) 1 0) := mw_is_eq (by decide +kernel)
theorem l_L_law_401 : mw_lk d_L_law 401 = some (mw_b (.iload 5) 2 5) := mw_is_eq (by decide +kernel)
theorem l_L_law_403 : mw_lk d_L_law 403 = some (mw_c (.iconst 3) 1 (3)) := mw_is_eq (by decide +kernel)
theorem l_L_law_404 : mw_lk d_L_law 404 = some (mw_a (.iadd) 1) := mw_is_eq (by decide +kernel)
theorem l_L_law_405 : mw_lk d_L_law 405 = some (mw_a (.iaload) 1) := mw_is_eq (by decide +kernel)
theorem l_L_law_406 : mw_lk d_L_law 406 = some (mw_b (.aload_n 0) 1 0) := mw_is_eq (by decide +kernel)
theorem l_L_law_407 : mw_lk d_L_law 407 = some (mw_b (.iload 5) 2 5) := mw_is_eq (by decide +kernel)
theorem l_L_law_409 : mw_lk d_L_law 409 = some (mw_c (.iconst 4) 1 (4)) := mw_is_eq (by decide +kernel)
theorem l_L_law_410 : mw_lk d_L_law 410 = some (mw_a (.iadd) 1) := mw_is_eq (by decide +kernel)
theorem l_L_law_411 : mw_lk d_L_law 411 = some (mw_a (.iaload) 1) := mw_is_eq (by decide +kernel)
theorem l_L_law_412 : mw_lk d_L_law 412 = some (((.invokevirtual 191), 3, (5, 0, 16), [9015, 9016, 9017], yX12_addChannel, 0)) := mw_is_eq (by decide +kernel)
theorem l_L_law_415 : mw_lk d_L_law 415 = some (mw_b (.istore 7) 2 7) := mw_is_eq (by decide +kernel)
theorem l_L_law_417 : mw_lk d_L_law 417 = some (mw_b (.aload_n 2) 1 2) := mw_is_eq (by decide +kernel)
theorem l_L_law_418 : mw_lk d_L_law 418 = some (((.invokevirtual 185), 3, (1, 0, 16), [8221, 8222, 8223], yX12_thrown, 0)) := mw_is_eq (by decide +kernel)
theorem l_L_law_421 : mw_lk d_L_law 421 = some (mw_b (.iload 6) 2 6) := mw_is_eq (by decide +kernel)
theorem l_L_law_423 : mw_lk d_L_law 423 = some (mw_b (.if_icmp .eq 5) 3 428) := mw_is_eq (by decide +kernel)
theorem l_L_law_426 : mw_lk d_L_law 426 = some (mw_c (.iconst 0) 1 (0)) := mw_is_eq (by decide +kernel)
theorem l_L_law_427 : mw_lk d_L_law 427 = some (mw_a (.ireturn) 1) := mw_is_eq (by decide +kernel)
theorem l_L_law_428 : mw_lk d_L_law 428 = some (mw_b (.iload 6) 2 6) := mw_is_eq (by decide +kernel)
theorem l_L_law_430 : mw_lk d_L_law 430 = some (mw_b (.ifCond .ne 15) 3 445) := mw_is_eq (by decide +kernel)
theorem l_L_law_433 : mw_lk d_L_law 433 = some (mw_b (.aload_n 3) 1 3) := mw_is_eq (by decide +kernel)
theorem l_L_law_434 : mw_lk d_L_law 434 = some (mw_c (.iconst 0) 1 (0)) := mw_is_eq (by decide +kernel)
theorem l_L_law_435 : mw_lk d_L_law 435 = some (mw_a (.laload) 1) := mw_is_eq (by decide +kernel)
theorem l_L_law_436 : mw_lk d_L_law 436 = some (mw_b (.iload 7) 2 7) := mw_is_eq (by decide +kernel)
theorem l_L_law_438 : mw_lk d_L_law 438 = some (mw_a (.i2l) 1) := mw_is_eq (by decide +kernel)
theorem l_L_law_439 : mw_lk d_L_law 439 = some (mw_a (.lcmp) 1) := mw_is_eq (by decide +kernel)
theorem l_L_law_440 : mw_lk d_L_law 440 = some (mw_b (.ifCond .eq 5) 3 445) := mw_is_eq (by decide +kernel)
theorem l_L_law_443 : mw_lk d_L_law 443 = some (mw_c (.iconst 0) 1 (0)) := mw_is_eq (by decide +kernel)
theorem l_L_law_444 : mw_lk d_L_law 444 = some (mw_a (.ireturn) 1) := mw_is_eq (by decide +kernel)
theorem l_L_law_445 : mw_lk d_L_law 445 = some (mw_b (.goto 2855) 3 3300) := mw_is_eq (by decide +kernel)
theorem l_L_law_448 : mw_lk d_L_law 448 = some (mw_b (.aload_n 1) 1 1) := mw_is_eq (by decide +kernel)
theorem l_L_law_449 : mw_lk d_L_law 449 = some (mw_b (.aload_n 0) 1 0) := mw_is_eq (by decide +kernel)
theorem l_L_law_450 : mw_lk d_L_law 450 = some (mw_b (.iload 5) 2 5) := mw_is_eq (by decide +kernel)
theorem l_L_law_452 : mw_lk d_L_law 452 = some (mw_c (.iconst 1) 1 (1)) := mw_is_eq (by decide +kernel)
theorem l_L_law_453 : mw_lk d_L_law 453 = some (mw_a (.iadd) 1) := mw_is_eq (by decide +kernel)
theorem l_L_law_454 : mw_lk d_L_law 454 = some (mw_a (.iaload) 1) := mw_is_eq (by decide +kernel)
theorem l_L_law_455 : mw_lk d_L_law 455 = some (mw_b (.aload_n 3) 1 3) := mw_is_eq (by decide +kernel)
theorem l_L_law_456 : mw_lk d_L_law 456 = some (((.invokestatic 192), 3, (3, 5, 0), [5020, 5021], yL_removeChannel, 0)) := mw_is_eq (by decide +kernel)
theorem l_L_law_459 : mw_lk d_L_law 459 = some (mw_b (.istore 6) 2 6) := mw_is_eq (by decide +kernel)
theorem l_L_law_461 : mw_lk d_L_law 461 = some (mw_b (.aload_n 2) 1 2) := mw_is_eq (by decide +kernel)
theorem l_L_law_462 : mw_lk d_L_law 462 = some (mw_b (.aload_n 0) 1 0) := mw_is_eq (by decide +kernel)
theorem l_L_law_463 : mw_lk d_L_law 463 = some (mw_b (.iload 5) 2 5) := mw_is_eq (by decide +kernel)
theorem l_L_law_465 : mw_lk d_L_law 465 = some (mw_c (.iconst 1) 1 (1)) := mw_is_eq (by decide +kernel)
theorem l_L_law_466 : mw_lk d_L_law 466 = some (mw_a (.iadd) 1) := mw_is_eq (by decide +kernel)
theorem l_L_law_467 : mw_lk d_L_law 467 = some (mw_a (.iaload) 1) := mw_is_eq (by decide +kernel)
theorem l_L_law_468 : mw_lk d_L_law 468 = some (((.invokevirtual 194), 3, (2, 0, 16), [9035, 9036, 9037], yX12_removeChannel, 0)) := mw_is_eq (by decide +kernel)
theorem l_L_law_471 : mw_lk d_L_law 471 = some (mw_b (.istore 7) 2 7) := mw_is_eq (by decide +kernel)
theorem l_L_law_473 : mw_lk d_L_law 473 = some (mw_b (.aload_n 2) 1 2) := mw_is_eq (by decide +kernel)
theorem l_L_law_474 : mw_lk d_L_law 474 = some (((.invokevirtual 185), 3, (1, 0, 16), [8221, 8222, 8223], yX12_thrown, 0)) := mw_is_eq (by decide +kernel)
theorem l_L_law_477 : mw_lk d_L_law 477 = some (mw_b (.iload 6) 2 6) := mw_is_eq (by decide +kernel)
theorem l_L_law_479 : mw_lk d_L_law 479 = some (mw_b (.if_icmp .eq 5) 3 484) := mw_is_eq (by decide +kernel)
theorem l_L_law_482 : mw_lk d_L_law 482 = some (mw_c (.iconst 0) 1 (0)) := mw_is_eq (by decide +kernel)
theorem l_L_law_483 : mw_lk d_L_law 483 = some (mw_a (.ireturn) 1) := mw_is_eq (by decide +kernel)
theorem l_L_law_484 : mw_lk d_L_law 484 = some (mw_b (.iload 6) 2 6) := mw_is_eq (by decide +kernel)
theorem l_L_law_486 : mw_lk d_L_law 486 = some (mw_b (.ifCond .ne 15) 3 501) := mw_is_eq (by decide +kernel)
theorem l_L_law_489 : mw_lk d_L_law 489 = some (mw_b (.aload_n 3) 1 3) := mw_is_eq (by decide +kernel)
theorem l_L_law_490 : mw_lk d_L_law 490 = some (mw_c (.iconst 0) 1 (0)) := mw_is_eq (by decide +kernel)
theorem l_L_law_491 : mw_lk d_L_law 491 = some (mw_a (.laload) 1) := mw_is_eq (by decide +kernel)
theorem l_L_law_492 : mw_lk d_L_law 492 = some (mw_b (.iload 7) 2 7) := mw_is_eq (by decide +kernel)
theorem l_L_law_494 : mw_lk d_L_law 494 = some (mw_a (.i2l) 1) := mw_is_eq (by decide +kernel)
theorem l_L_law_495 : mw_lk d_L_law 495 = some (mw_a (.lcmp) 1) := mw_is_eq (by decide +kernel)
theorem l_L_law_496 : mw_lk d_L_law 496 = some (mw_b (.ifCond .eq 5) 3 501) := mw_is_eq (by decide +kernel)
theorem l_L_law_499 : mw_lk d_L_law 499 = some (mw_c (.iconst 0) 1 (0)) := mw_is_eq (by decide +kernel)
theorem l_L_law_500 : mw_lk d_L_law 500 = some (mw_a (.ireturn) 1) := mw_is_eq (by decide +kernel)
theorem l_L_law_501 : mw_lk d_L_law 501 = some (mw_b (.goto 2799) 3 3300) := mw_is_eq (by decide +kernel)
theorem l_L_law_504 : mw_lk d_L_law 504 = some (mw_b (.aload_n 1) 1 1) := mw_is_eq (by decide +kernel)
theorem l_L_law_505 : mw_lk d_L_law 505 = some (((.invokevirtual 195), 3, (1, 0, 15), [3054, 3055, 3056], yX11_craterCount, 0)) := mw_is_eq (by decide +kernel)
theorem l_L_law_508 : mw_lk d_L_law 508 = some (mw_b (.aload_n 2) 1 2) := mw_is_eq (by decide +kernel)
theorem l_L_law_509 : mw_lk d_L_law 509 = some (((.invokevirtual 198), 3, (1, 0, 16), [9047, 9048, 9049], yX12_craterCount, 0)) := mw_is_eq (by decide +kernel)
theorem l_L_law_512 : mw_lk d_L_law 512 = some (mw_b (.if_icmp .eq 2788) 3 3300) := mw_is_eq (by decide +kernel)
theorem l_L_law_515 : mw_lk d_L_law 515 = some (mw_c (.iconst 0) 1 (0)) := mw_is_eq (by decide +kernel)
theorem l_L_law_516 : mw_lk d_L_law 516 = some (mw_a (.ireturn) 1) := mw_is_eq (by decide +kernel)
theorem l_L_law_517 : mw_lk d_L_law 517 = some (mw_b (.aload_n 1) 1 1) := mw_is_eq (by decide +kernel)
theorem l_L_law_518 : mw_lk d_L_law 518 = some (((.invokevirtual 199), 3, (1, 0, 15), [3058, 3059, 3060], yX11_channelCount, 0)) := mw_is_eq (by decide +kernel)
theorem l_L_law_521 : mw_lk d_L_law 521 = some (mw_b (.aload_n 2) 1 2) := mw_is_eq (by decide +kernel)
theorem l_L_law_522 : mw_lk d_L_law 522 = some (((.invokevirtual 202), 3, (1, 0, 16), [9051, 9052, 9053], yX12_channelCount, 0)) := mw_is_eq (by decide +kernel)
theorem l_L_law_525 : mw_lk d_L_law 525 = some (mw_b (.if_icmp .eq 2775) 3 3300) := mw_is_eq (by decide +kernel)
theorem l_L_law_528 : mw_lk d_L_law 528 = some (mw_c (.iconst 0) 1 (0)) := mw_is_eq (by decide +kernel)
theorem l_L_law_529 : mw_lk d_L_law 529 = some (mw_a (.ireturn) 1) := mw_is_eq (by decide +kernel)
theorem l_L_law_530 : mw_lk d_L_law 530 = some (mw_b (.aload_n 1) 1 1) := mw_is_eq (by decide +kernel)
theorem l_L_law_531 : mw_lk d_L_law 531 = some (mw_b (.aload_n 0) 1 0) := mw_is_eq (by decide +kernel)
theorem l_L_law_532 : mw_lk d_L_law 532 = some (mw_b (.iload 5) 2 5) := mw_is_eq (by decide +kernel)
theorem l_L_law_534 : mw_lk d_L_law 534 = some (mw_c (.iconst 1) 1 (1)) := mw_is_eq (by decide +kernel)
theorem l_L_law_535 : mw_lk d_L_law 535 = some (mw_a (.iadd) 1) := mw_is_eq (by decide +kernel)
theorem l_L_law_536 : mw_lk d_L_law 536 = some (mw_a (.iaload) 1) := mw_is_eq (by decide +kernel)
theorem l_L_law_537 : mw_lk d_L_law 537 = some (mw_b (.aload_n 3) 1 3) := mw_is_eq (by decide +kernel)
theorem l_L_law_538 : mw_lk d_L_law 538 = some (((.invokestatic 203), 3, (3, 5, 0), [5043, 5044], yL_depthOf, 0)) := mw_is_eq (by decide +kernel)
theorem l_L_law_541 : mw_lk d_L_law 541 = some (mw_b (.istore 6) 2 6) := mw_is_eq (by decide +kernel)
theorem l_L_law_543 : mw_lk d_L_law 543 = some (mw_b (.aload_n 2) 1 2) := mw_is_eq (by decide +kernel)
theorem l_L_law_544 : mw_lk d_L_law 544 = some (mw_b (.aload_n 0) 1 0) := mw_is_eq (by decide +kernel)
theorem l_L_law_545 : mw_lk d_L_law 545 = some (mw_b (.iload 5) 2 5) := mw_is_eq (by decide +kernel)
theorem l_L_law_547 : mw_lk d_L_law 547 = some (mw_c (.iconst 1) 1 (1)) := mw_is_eq (by decide +kernel)
theorem l_L_law_548 : mw_lk d_L_law 548 = some (mw_a (.iadd) 1) := mw_is_eq (by decide +kernel)
theorem l_L_law_549 : mw_lk d_L_law 549 = some (mw_a (.iaload) 1) := mw_is_eq (by decide +kernel)
theorem l_L_law_550 : mw_lk d_L_law 550 = some (((.invokevirtual 205), 3, (2, 0, 16), [9055, 9056, 9057], yX12_depthOf, 0)) := mw_is_eq (by decide +kernel)
theorem l_L_law_553 : mw_lk d_L_law 553 = some (mw_b (.istore 7) 2 7) := mw_is_eq (by decide +kernel)
theorem l_L_law_555 : mw_lk d_L_law 555 = some (mw_b (.aload_n 2) 1 2) := mw_is_eq (by decide +kernel)
theorem l_L_law_556 : mw_lk d_L_law 556 = some (((.invokevirtual 185), 3, (1, 0, 16), [8221, 8222, 8223], yX12_thrown, 0)) := mw_is_eq (by decide +kernel)
theorem l_L_law_559 : mw_lk d_L_law 559 = some (mw_b (.iload 6) 2 6) := mw_is_eq (by decide +kernel)
theorem l_L_law_561 : mw_lk d_L_law 561 = some (mw_b (.if_icmp .eq 5) 3 566) := mw_is_eq (by decide +kernel)
theorem l_L_law_564 : mw_lk d_L_law 564 = some (mw_c (.iconst 0) 1 (0)) := mw_is_eq (by decide +kernel)
theorem l_L_law_565 : mw_lk d_L_law 565 = some (mw_a (.ireturn) 1) := mw_is_eq (by decide +kernel)
theorem l_L_law_566 : mw_lk d_L_law 566 = some (mw_b (.iload 6) 2 6) := mw_is_eq (by decide +kernel)
theorem l_L_law_568 : mw_lk d_L_law 568 = some (mw_b (.ifCond .ne 15) 3 583) := mw_is_eq (by decide +kernel)
theorem l_L_law_571 : mw_lk d_L_law 571 = some (mw_b (.aload_n 3) 1 3) := mw_is_eq (by decide +kernel)
theorem l_L_law_572 : mw_lk d_L_law 572 = some (mw_c (.iconst 0) 1 (0)) := mw_is_eq (by decide +kernel)
theorem l_L_law_573 : mw_lk d_L_law 573 = some (mw_a (.laload) 1) := mw_is_eq (by decide +kernel)
theorem l_L_law_574 : mw_lk d_L_law 574 = some (mw_b (.iload 7) 2 7) := mw_is_eq (by decide +kernel)
theorem l_L_law_576 : mw_lk d_L_law 576 = some (mw_a (.i2l) 1) := mw_is_eq (by decide +kernel)
theorem l_L_law_577 : mw_lk d_L_law 577 = some (mw_a (.lcmp) 1) := mw_is_eq (by decide +kernel)
theorem l_L_law_578 : mw_lk d_L_law 578 = some (mw_b (.ifCond .eq 5) 3 583) := mw_is_eq (by decide +kernel)
theorem l_L_law_581 : mw_lk d_L_law 581 = some (mw_c (.iconst 0) 1 (0)) := mw_is_eq (by decide +kernel)
theorem l_L_law_582 : mw_lk d_L_law 582 = some (mw_a (.ireturn) 1) := mw_is_eq (by decide +kernel)
theorem l_L_law_583 : mw_lk d_L_law 583 = some (mw_b (.goto 2717) 3 3300) := mw_is_eq (by decide +kernel)
theorem l_L_law_586 : mw_lk d_L_law 586 = some (mw_b (.aload_n 1) 1 1) := mw_is_eq (by decide +kernel)
theorem l_L_law_587 : mw_lk d_L_law 587 = some (mw_b (.aload_n 0) 1 0) := mw_is_eq (by decide +kernel)
theorem l_L_law_588 : mw_lk d_L_law 588 = some (mw_b (.iload 5) 2 5) := mw_is_eq (by decide +kernel)
theorem l_L_law_590 : mw_lk d_L_law 590 = some (mw_c (.iconst 1) 1 (1)) := mw_is_eq (by decide +kernel)
theorem l_L_law_591 : mw_lk d_L_law 591 = some (mw_a (.iadd) 1) := mw_is_eq (by decide +kernel)
theorem l_L_law_592 : mw_lk d_L_law 592 = some (mw_a (.iaload) 1) := mw_is_eq (by decide +kernel)
theorem l_L_law_593 : mw_lk d_L_law 593 = some (mw_b (.aload_n 0) 1 0) := mw_is_eq (by decide +kernel)
theorem l_L_law_594 : mw_lk d_L_law 594 = some (mw_b (.iload 5) 2 5) := mw_is_eq (by decide +kernel)
theorem l_L_law_596 : mw_lk d_L_law 596 = some (mw_c (.iconst 2) 1 (2)) := mw_is_eq (by decide +kernel)
theorem l_L_law_597 : mw_lk d_L_law 597 = some (mw_a (.iadd) 1) := mw_is_eq (by decide +kernel)
theorem l_L_law_598 : mw_lk d_L_law 598 = some (mw_a (.iaload) 1) := mw_is_eq (by decide +kernel)
theorem l_L_law_599 : mw_lk d_L_law 599 = some (mw_b (.aload_n 3) 1 3) := mw_is_eq (by decide +kernel)
theorem l_L_law_600 : mw_lk d_L_law 600 = some (((.invokestatic 206), 3, (4, 5, 0), [5055, 5056], yL_channelBetween, 0)) := mw_is_eq (by decide +kernel)
theorem l_L_law_603 : mw_lk d_L_law 603 = some (mw_b (.istore 6) 2 6) := mw_is_eq (by decide +kernel)
theorem l_L_law_605 : mw_lk d_L_law 605 = some (mw_b (.aload_n 2) 1 2) := mw_is_eq (by decide +kernel)
theorem l_L_law_606 : mw_lk d_L_law 606 = some (mw_b (.aload_n 0) 1 0) := mw_is_eq (by decide +kernel)
theorem l_L_law_607 : mw_lk d_L_law 607 = some (mw_b (.iload 5) 2 5) := mw_is_eq (by decide +kernel)
theorem l_L_law_609 : mw_lk d_L_law 609 = some (mw_c (.iconst 1) 1 (1)) := mw_is_eq (by decide +kernel)
theorem l_L_law_610 : mw_lk d_L_law 610 = some (mw_a (.iadd) 1) := mw_is_eq (by decide +kernel)
theorem l_L_law_611 : mw_lk d_L_law 611 = some (mw_a (.iaload) 1) := mw_is_eq (by decide +kernel)
theorem l_L_law_612 : mw_lk d_L_law 612 = some (mw_b (.aload_n 0) 1 0) := mw_is_eq (by decide +kernel)
theorem l_L_law_613 : mw_lk d_L_law 613 = some (mw_b (.iload 5) 2 5) := mw_is_eq (by decide +kernel)
theorem l_L_law_615 : mw_lk d_L_law 615 = some (mw_c (.iconst 2) 1 (2)) := mw_is_eq (by decide +kernel)
theorem l_L_law_616 : mw_lk d_L_law 616 = some (mw_a (.iadd) 1) := mw_is_eq (by decide +kernel)
theorem l_L_law_617 : mw_lk d_L_law 617 = some (mw_a (.iaload) 1) := mw_is_eq (by decide +kernel)
theorem l_L_law_618 : mw_lk d_L_law 618 = some (((.invokevirtual 209), 3, (3, 0, 16), [9059, 9060, 9061], yX12_channelBetween, 0)) := mw_is_eq (by decide +kernel)
theorem l_L_law_621 : mw_lk d_L_law 621 = some (mw_b (.istore 7) 2 7) := mw_is_eq (by decide +kernel)
theorem l_L_law_623 : mw_lk d_L_law 623 = some (mw_b (.aload_n 2) 1 2) := mw_is_eq (by decide +kernel)
theorem l_L_law_624 : mw_lk d_L_law 624 = some (((.invokevirtual 185), 3, (1, 0, 16), [8221, 8222, 8223], yX12_thrown, 0)) := mw_is_eq (by decide +kernel)
theorem l_L_law_627 : mw_lk d_L_law 627 = some (mw_b (.iload 6) 2 6) := mw_is_eq (by decide +kernel)
theorem l_L_law_629 : mw_lk d_L_law 629 = some (mw_b (.if_icmp .eq 5) 3 634) := mw_is_eq (by decide +kernel)
theorem l_L_law_632 : mw_lk d_L_law 632 = some (mw_c (.iconst 0) 1 (0)) := mw_is_eq (by decide +kernel)
theorem l_L_law_633 : mw_lk d_L_law 633 = some (mw_a (.ireturn) 1) := mw_is_eq (by decide +kernel)
theorem l_L_law_634 : mw_lk d_L_law 634 = some (mw_b (.iload 6) 2 6) := mw_is_eq (by decide +kernel)
theorem l_L_law_636 : mw_lk d_L_law 636 = some (mw_b (.ifCond .ne 15) 3 651) := mw_is_eq (by decide +kernel)
theorem l_L_law_639 : mw_lk d_L_law 639 = some (mw_b (.aload_n 3) 1 3) := mw_is_eq (by decide +kernel)
theorem l_L_law_640 : mw_lk d_L_law 640 = some (mw_c (.iconst 0) 1 (0)) := mw_is_eq (by decide +kernel)
theorem l_L_law_641 : mw_lk d_L_law 641 = some (mw_a (.laload) 1) := mw_is_eq (by decide +kernel)
theorem l_L_law_642 : mw_lk d_L_law 642 = some (mw_b (.iload 7) 2 7) := mw_is_eq (by decide +kernel)
theorem l_L_law_644 : mw_lk d_L_law 644 = some (mw_a (.i2l) 1) := mw_is_eq (by decide +kernel)
theorem l_L_law_645 : mw_lk d_L_law 645 = some (mw_a (.lcmp) 1) := mw_is_eq (by decide +kernel)
theorem l_L_law_646 : mw_lk d_L_law 646 = some (mw_b (.ifCond .eq 5) 3 651) := mw_is_eq (by decide +kernel)
theorem l_L_law_649 : mw_lk d_L_law 649 = some (mw_c (.iconst 0) 1 (0)) := mw_is_eq (by decide +kernel)
theorem l_L_law_650 : mw_lk d_L_law 650 = some (mw_a (.ireturn) 1) := mw_is_eq (by decide +kernel)
theorem l_L_law_651 : mw_lk d_L_law 651 = some (mw_b (.goto 2649) 3 3300) := mw_is_eq (by decide +kernel)
theorem l_L_law_654 : mw_lk d_L_law 654 = some (mw_b (.aload_n 1) 1 1) := mw_is_eq (by decide +kernel)
theorem l_L_law_655 : mw_lk d_L_law 655 = some (mw_b (.aload_n 0) 1 0) := mw_is_eq (by decide +kernel)
theorem l_L_law_656 : mw_lk d_L_law 656 = some (mw_b (.iload 5) 2 5) := mw_is_eq (by decide +kernel)
theorem l_L_law_658 : mw_lk d_L_law 658 = some (mw_c (.iconst 1) 1 (1)) := mw_is_eq (by decide +kernel)
theorem l_L_law_659 : mw_lk d_L_law 659 = some (mw_a (.iadd) 1) := mw_is_eq (by decide +kernel)
theorem l_L_law_660 : mw_lk d_L_law 660 = some (mw_a (.iaload) 1) := mw_is_eq (by decide +kernel)
theorem l_L_law_661 : mw_lk d_L_law 661 = some (mw_b (.aload_n 3) 1 3) := mw_is_eq (by decide +kernel)
theorem l_L_law_662 : mw_lk d_L_law 662 = some (((.invokestatic 210), 3, (3, 5, 0), [5067, 5068], yL_tide, 0)) := mw_is_eq (by decide +kernel)
theorem l_L_law_665 : mw_lk d_L_law 665 = some (mw_b (.istore 6) 2 6) := mw_is_eq (by decide +kernel)
theorem l_L_law_667 : mw_lk d_L_law 667 = some (mw_b (.aload_n 2) 1 2) := mw_is_eq (by decide +kernel)
theorem l_L_law_668 : mw_lk d_L_law 668 = some (mw_b (.aload_n 0) 1 0) := mw_is_eq (by decide +kernel)
theorem l_L_law_669 : mw_lk d_L_law 669 = some (mw_b (.iload 5) 2 5) := mw_is_eq (by decide +kernel)
theorem l_L_law_671 : mw_lk d_L_law 671 = some (mw_c (.iconst 1) 1 (1)) := mw_is_eq (by decide +kernel)
theorem l_L_law_672 : mw_lk d_L_law 672 = some (mw_a (.iadd) 1) := mw_is_eq (by decide +kernel)
theorem l_L_law_673 : mw_lk d_L_law 673 = some (mw_a (.iaload) 1) := mw_is_eq (by decide +kernel)
theorem l_L_law_674 : mw_lk d_L_law 674 = some (((.invokevirtual 212), 3, (2, 0, 16), [9063, 9064, 9065], yX12_tide, 0)) := mw_is_eq (by decide +kernel)
theorem l_L_law_677 : mw_lk d_L_law 677 = some (mw_b (.istore 7) 2 7) := mw_is_eq (by decide +kernel)
theorem l_L_law_679 : mw_lk d_L_law 679 = some (mw_b (.aload_n 2) 1 2) := mw_is_eq (by decide +kernel)
theorem l_L_law_680 : mw_lk d_L_law 680 = some (((.invokevirtual 185), 3, (1, 0, 16), [8221, 8222, 8223], yX12_thrown, 0)) := mw_is_eq (by decide +kernel)
theorem l_L_law_683 : mw_lk d_L_law 683 = some (mw_b (.iload 6) 2 6) := mw_is_eq (by decide +kernel)
theorem l_L_law_685 : mw_lk d_L_law 685 = some (mw_b (.if_icmp .eq 5) 3 690) := mw_is_eq (by decide +kernel)
theorem l_L_law_688 : mw_lk d_L_law 688 = some (mw_c (.iconst 0) 1 (0)) := mw_is_eq (by decide +kernel)
theorem l_L_law_689 : mw_lk d_L_law 689 = some (mw_a (.ireturn) 1) := mw_is_eq (by decide +kernel)
theorem l_L_law_690 : mw_lk d_L_law 690 = some (mw_b (.iload 6) 2 6) := mw_is_eq (by decide +kernel)
theorem l_L_law_692 : mw_lk d_L_law 692 = some (mw_b (.ifCond .ne 15) 3 707) := mw_is_eq (by decide +kernel)
theorem l_L_law_695 : mw_lk d_L_law 695 = some (mw_b (.aload_n 3) 1 3) := mw_is_eq (by decide +kernel)
theorem l_L_law_696 : mw_lk d_L_law 696 = some (mw_c (.iconst 0) 1 (0)) := mw_is_eq (by decide +kernel)
theorem l_L_law_697 : mw_lk d_L_law 697 = some (mw_a (.laload) 1) := mw_is_eq (by decide +kernel)
theorem l_L_law_698 : mw_lk d_L_law 698 = some (mw_b (.iload 7) 2 7) := mw_is_eq (by decide +kernel)
theorem l_L_law_700 : mw_lk d_L_law 700 = some (mw_a (.i2l) 1) := mw_is_eq (by decide +kernel)
theorem l_L_law_701 : mw_lk d_L_law 701 = some (mw_a (.lcmp) 1) := mw_is_eq (by decide +kernel)
theorem l_L_law_702 : mw_lk d_L_law 702 = some (mw_b (.ifCond .eq 5) 3 707) := mw_is_eq (by decide +kernel)
theorem l_L_law_705 : mw_lk d_L_law 705 = some (mw_c (.iconst 0) 1 (0)) := mw_is_eq (by decide +kernel)
theorem l_L_law_706 : mw_lk d_L_law 706 = some (mw_a (.ireturn) 1) := mw_is_eq (by decide +kernel)
theorem l_L_law_707 : mw_lk d_L_law 707 = some (mw_b (.goto 2593) 3 3300) := mw_is_eq (by decide +kernel)
theorem l_L_law_710 : mw_lk d_L_law 710 = some (mw_b (.aload_n 1) 1 1) := mw_is_eq (by decide +kernel)
theorem l_L_law_711 : mw_lk d_L_law 711 = some (mw_b (.aload_n 0) 1 0) := mw_is_eq (by decide +kernel)
theorem l_L_law_712 : mw_lk d_L_law 712 = some (mw_b (.iload 5) 2 5) := mw_is_eq (by decide +kernel)
theorem l_L_law_714 : mw_lk d_L_law 714 = some (mw_c (.iconst 1) 1 (1)) := mw_is_eq (by decide +kernel)
theorem l_L_law_715 : mw_lk d_L_law 715 = some (mw_a (.iadd) 1) := mw_is_eq (by decide +kernel)
theorem l_L_law_716 : mw_lk d_L_law 716 = some (mw_a (.iaload) 1) := mw_is_eq (by decide +kernel)
theorem l_L_law_717 : mw_lk d_L_law 717 = some (mw_b (.aload_n 0) 1 0) := mw_is_eq (by decide +kernel)
theorem l_L_law_718 : mw_lk d_L_law 718 = some (mw_b (.iload 5) 2 5) := mw_is_eq (by decide +kernel)
theorem l_L_law_720 : mw_lk d_L_law 720 = some (mw_c (.iconst 2) 1 (2)) := mw_is_eq (by decide +kernel)
theorem l_L_law_721 : mw_lk d_L_law 721 = some (mw_a (.iadd) 1) := mw_is_eq (by decide +kernel)
theorem l_L_law_722 : mw_lk d_L_law 722 = some (mw_a (.iaload) 1) := mw_is_eq (by decide +kernel)
theorem l_L_law_723 : mw_lk d_L_law 723 = some (mw_b (.aload_n 3) 1 3) := mw_is_eq (by decide +kernel)
theorem l_L_law_724 : mw_lk d_L_law 724 = some (((.invokestatic 213), 3, (4, 5, 0), [5075, 5076], yL_wayHours, 0)) := mw_is_eq (by decide +kernel)
theorem l_L_law_727 : mw_lk d_L_law 727 = some (mw_b (.istore 6) 2 6) := mw_is_eq (by decide +kernel)
theorem l_L_law_729 : mw_lk d_L_law 729 = some (mw_b (.aload_n 2) 1 2) := mw_is_eq (by decide +kernel)
theorem l_L_law_730 : mw_lk d_L_law 730 = some (mw_b (.aload_n 0) 1 0) := mw_is_eq (by decide +kernel)
theorem l_L_law_731 : mw_lk d_L_law 731 = some (mw_b (.iload 5) 2 5) := mw_is_eq (by decide +kernel)
theorem l_L_law_733 : mw_lk d_L_law 733 = some (mw_c (.iconst 1) 1 (1)) := mw_is_eq (by decide +kernel)
theorem l_L_law_734 : mw_lk d_L_law 734 = some (mw_a (.iadd) 1) := mw_is_eq (by decide +kernel)
theorem l_L_law_735 : mw_lk d_L_law 735 = some (mw_a (.iaload) 1) := mw_is_eq (by decide +kernel)
theorem l_L_law_736 : mw_lk d_L_law 736 = some (mw_b (.aload_n 0) 1 0) := mw_is_eq (by decide +kernel)
theorem l_L_law_737 : mw_lk d_L_law 737 = some (mw_b (.iload 5) 2 5) := mw_is_eq (by decide +kernel)
theorem l_L_law_739 : mw_lk d_L_law 739 = some (mw_c (.iconst 2) 1 (2)) := mw_is_eq (by decide +kernel)
theorem l_L_law_740 : mw_lk d_L_law 740 = some (mw_a (.iadd) 1) := mw_is_eq (by decide +kernel)
theorem l_L_law_741 : mw_lk d_L_law 741 = some (mw_a (.iaload) 1) := mw_is_eq (by decide +kernel)
theorem l_L_law_742 : mw_lk d_L_law 742 = some (((.invokevirtual 215), 3, (3, 0, 16), [9070, 9071, 9072], yX12_wayHours, 0)) := mw_is_eq (by decide +kernel)
theorem l_L_law_745 : mw_lk d_L_law 745 = some (mw_b (.istore 7) 2 7) := mw_is_eq (by decide +kernel)
theorem l_L_law_747 : mw_lk d_L_law 747 = some (mw_b (.aload_n 2) 1 2) := mw_is_eq (by decide +kernel)
theorem l_L_law_748 : mw_lk d_L_law 748 = some (((.invokevirtual 185), 3, (1, 0, 16), [8221, 8222, 8223], yX12_thrown, 0)) := mw_is_eq (by decide +kernel)
theorem l_L_law_751 : mw_lk d_L_law 751 = some (mw_b (.iload 6) 2 6) := mw_is_eq (by decide +kernel)
theorem l_L_law_753 : mw_lk d_L_law 753 = some (mw_b (.if_icmp .eq 5) 3 758) := mw_is_eq (by decide +kernel)
theorem l_L_law_756 : mw_lk d_L_law 756 = some (mw_c (.iconst 0) 1 (0)) := mw_is_eq (by decide +kernel)
theorem l_L_law_757 : mw_lk d_L_law 757 = some (mw_a (.ireturn) 1) := mw_is_eq (by decide +kernel)
theorem l_L_law_758 : mw_lk d_L_law 758 = some (mw_b (.iload 6) 2 6) := mw_is_eq (by decide +kernel)
theorem l_L_law_760 : mw_lk d_L_law 760 = some (mw_b (.ifCond .ne 15) 3 775) := mw_is_eq (by decide +kernel)
theorem l_L_law_763 : mw_lk d_L_law 763 = some (mw_b (.aload_n 3) 1 3) := mw_is_eq (by decide +kernel)
theorem l_L_law_764 : mw_lk d_L_law 764 = some (mw_c (.iconst 0) 1 (0)) := mw_is_eq (by decide +kernel)
theorem l_L_law_765 : mw_lk d_L_law 765 = some (mw_a (.laload) 1) := mw_is_eq (by decide +kernel)
theorem l_L_law_766 : mw_lk d_L_law 766 = some (mw_b (.iload 7) 2 7) := mw_is_eq (by decide +kernel)
theorem l_L_law_768 : mw_lk d_L_law 768 = some (mw_a (.i2l) 1) := mw_is_eq (by decide +kernel)
theorem l_L_law_769 : mw_lk d_L_law 769 = some (mw_a (.lcmp) 1) := mw_is_eq (by decide +kernel)
theorem l_L_law_770 : mw_lk d_L_law 770 = some (mw_b (.ifCond .eq 5) 3 775) := mw_is_eq (by decide +kernel)
theorem l_L_law_773 : mw_lk d_L_law 773 = some (mw_c (.iconst 0) 1 (0)) := mw_is_eq (by decide +kernel)
theorem l_L_law_774 : mw_lk d_L_law 774 = some (mw_a (.ireturn) 1) := mw_is_eq (by decide +kernel)
theorem l_L_law_775 : mw_lk d_L_law 775 = some (mw_b (.goto 2525) 3 3300) := mw_is_eq (by decide +kernel)
theorem l_L_law_778 : mw_lk d_L_law 778 = some (mw_b (.aload_n 1) 1 1) := mw_is_eq (by decide +kernel)
theorem l_L_law_779 : mw_lk d_L_law 779 = some (mw_b (.aload_n 0) 1 0) := mw_is_eq (by decide +kernel)
theorem l_L_law_780 : mw_lk d_L_law 780 = some (mw_b (.iload 5) 2 5) := mw_is_eq (by decide +kernel)
theorem l_L_law_782 : mw_lk d_L_law 782 = some (mw_c (.iconst 1) 1 (1)) := mw_is_eq (by decide +kernel)
theorem l_L_law_783 : mw_lk d_L_law 783 = some (mw_a (.iadd) 1) := mw_is_eq (by decide +kernel)
theorem l_L_law_784 : mw_lk d_L_law 784 = some (mw_a (.iaload) 1) := mw_is_eq (by decide +kernel)
theorem l_L_law_785 : mw_lk d_L_law 785 = some (mw_b (.aload_n 0) 1 0) := mw_is_eq (by decide +kernel)
theorem l_L_law_786 : mw_lk d_L_law 786 = some (mw_b (.iload 5) 2 5) := mw_is_eq (by decide +kernel)
theorem l_L_law_788 : mw_lk d_L_law 788 = some (mw_c (.iconst 2) 1 (2)) := mw_is_eq (by decide +kernel)
theorem l_L_law_789 : mw_lk d_L_law 789 = some (mw_a (.iadd) 1) := mw_is_eq (by decide +kernel)
theorem l_L_law_790 : mw_lk d_L_law 790 = some (mw_a (.iaload) 1) := mw_is_eq (by decide +kernel)
theorem l_L_law_791 : mw_lk d_L_law 791 = some (mw_b (.aload_n 3) 1 3) := mw_is_eq (by decide +kernel)
theorem l_L_law_792 : mw_lk d_L_law 792 = some (((.invokestatic 216), 3, (4, 5, 0), [5082, 5083], yL_wayHoursByTable, 0)) := mw_is_eq (by decide +kernel)
theorem l_L_law_795 : mw_lk d_L_law 795 = some (mw_b (.istore 6) 2 6) := mw_is_eq (by decide +kernel)
theorem l_L_law_797 : mw_lk d_L_law 797 = some (mw_b (.aload_n 2) 1 2) := mw_is_eq (by decide +kernel)
theorem l_L_law_798 : mw_lk d_L_law 798 = some (mw_b (.aload_n 0) 1 0) := mw_is_eq (by decide +kernel)
theorem l_L_law_799 : mw_lk d_L_law 799 = some (mw_b (.iload 5) 2 5) := mw_is_eq (by decide +kernel)
theorem l_L_law_801 : mw_lk d_L_law 801 = some (mw_c (.iconst 1) 1 (1)) := mw_is_eq (by decide +kernel)
theorem l_L_law_802 : mw_lk d_L_law 802 = some (mw_a (.iadd) 1) := mw_is_eq (by decide +kernel)
theorem l_L_law_803 : mw_lk d_L_law 803 = some (mw_a (.iaload) 1) := mw_is_eq (by decide +kernel)
theorem l_L_law_804 : mw_lk d_L_law 804 = some (mw_b (.aload_n 0) 1 0) := mw_is_eq (by decide +kernel)
theorem l_L_law_805 : mw_lk d_L_law 805 = some (mw_b (.iload 5) 2 5) := mw_is_eq (by decide +kernel)
theorem l_L_law_807 : mw_lk d_L_law 807 = some (mw_c (.iconst 2) 1 (2)) := mw_is_eq (by decide +kernel)
theorem l_L_law_808 : mw_lk d_L_law 808 = some (mw_a (.iadd) 1) := mw_is_eq (by decide +kernel)
theorem l_L_law_809 : mw_lk d_L_law 809 = some (mw_a (.iaload) 1) := mw_is_eq (by decide +kernel)
theorem l_L_law_810 : mw_lk d_L_law 810 = some (((.invokevirtual 218), 3, (3, 0, 16), [9078, 9079, 9080], yX12_wayHoursByTable, 0)) := mw_is_eq (by decide +kernel)
theorem l_L_law_813 : mw_lk d_L_law 813 = some (mw_b (.istore 7) 2 7) := mw_is_eq (by decide +kernel)
theorem l_L_law_815 : mw_lk d_L_law 815 = some (mw_b (.aload_n 2) 1 2) := mw_is_eq (by decide +kernel)
theorem l_L_law_816 : mw_lk d_L_law 816 = some (((.invokevirtual 185), 3, (1, 0, 16), [8221, 8222, 8223], yX12_thrown, 0)) := mw_is_eq (by decide +kernel)
theorem l_L_law_819 : mw_lk d_L_law 819 = some (mw_b (.iload 6) 2 6) := mw_is_eq (by decide +kernel)
theorem l_L_law_821 : mw_lk d_L_law 821 = some (mw_b (.if_icmp .eq 5) 3 826) := mw_is_eq (by decide +kernel)
theorem l_L_law_824 : mw_lk d_L_law 824 = some (mw_c (.iconst 0) 1 (0)) := mw_is_eq (by decide +kernel)
theorem l_L_law_825 : mw_lk d_L_law 825 = some (mw_a (.ireturn) 1) := mw_is_eq (by decide +kernel)
theorem l_L_law_826 : mw_lk d_L_law 826 = some (mw_b (.iload 6) 2 6) := mw_is_eq (by decide +kernel)
theorem l_L_law_828 : mw_lk d_L_law 828 = some (mw_b (.ifCond .ne 15) 3 843) := mw_is_eq (by decide +kernel)
theorem l_L_law_831 : mw_lk d_L_law 831 = some (mw_b (.aload_n 3) 1 3) := mw_is_eq (by decide +kernel)
theorem l_L_law_832 : mw_lk d_L_law 832 = some (mw_c (.iconst 0) 1 (0)) := mw_is_eq (by decide +kernel)
theorem l_L_law_833 : mw_lk d_L_law 833 = some (mw_a (.laload) 1) := mw_is_eq (by decide +kernel)
theorem l_L_law_834 : mw_lk d_L_law 834 = some (mw_b (.iload 7) 2 7) := mw_is_eq (by decide +kernel)
theorem l_L_law_836 : mw_lk d_L_law 836 = some (mw_a (.i2l) 1) := mw_is_eq (by decide +kernel)
theorem l_L_law_837 : mw_lk d_L_law 837 = some (mw_a (.lcmp) 1) := mw_is_eq (by decide +kernel)
theorem l_L_law_838 : mw_lk d_L_law 838 = some (mw_b (.ifCond .eq 5) 3 843) := mw_is_eq (by decide +kernel)
theorem l_L_law_841 : mw_lk d_L_law 841 = some (mw_c (.iconst 0) 1 (0)) := mw_is_eq (by decide +kernel)
theorem l_L_law_842 : mw_lk d_L_law 842 = some (mw_a (.ireturn) 1) := mw_is_eq (by decide +kernel)
theorem l_L_law_843 : mw_lk d_L_law 843 = some (mw_b (.goto 2457) 3 3300) := mw_is_eq (by decide +kernel)
theorem l_L_law_846 : mw_lk d_L_law 846 = some (mw_b (.aload_n 1) 1 1) := mw_is_eq (by decide +kernel)
theorem l_L_law_847 : mw_lk d_L_law 847 = some (mw_b (.aload_n 3) 1 3) := mw_is_eq (by decide +kernel)
theorem l_L_law_848 : mw_lk d_L_law 848 = some (((.invokestatic 219), 3, (2, 5, 0), [5089, 5090], yL_cheapestNet, 0)) := mw_is_eq (by decide +kernel)
theorem l_L_law_851 : mw_lk d_L_law 851 = some (mw_b (.istore 6) 2 6) := mw_is_eq (by decide +kernel)
theorem l_L_law_853 : mw_lk d_L_law 853 = some (mw_b (.aload_n 2) 1 2) := mw_is_eq (by decide +kernel)
theorem l_L_law_854 : mw_lk d_L_law 854 = some (((.invokevirtual 222), 3, (1, 0, 16), [9083, 9084, 9085], yX12_cheapestNet, 0)) := mw_is_eq (by decide +kernel)
theorem l_L_law_857 : mw_lk d_L_law 857 = some (mw_b (.istore 7) 2 7) := mw_is_eq (by decide +kernel)
theorem l_L_law_859 : mw_lk d_L_law 859 = some (mw_b (.aload_n 2) 1 2) := mw_is_eq (by decide +kernel)
theorem l_L_law_860 : mw_lk d_L_law 860 = some (((.invokevirtual 185), 3, (1, 0, 16), [8221, 8222, 8223], yX12_thrown, 0)) := mw_is_eq (by decide +kernel)
theorem l_L_law_863 : mw_lk d_L_law 863 = some (mw_b (.iload 6) 2 6) := mw_is_eq (by decide +kernel)
theorem l_L_law_865 : mw_lk d_L_law 865 = some (mw_b (.if_icmp .eq 5) 3 870) := mw_is_eq (by decide +kernel)
theorem l_L_law_868 : mw_lk d_L_law 868 = some (mw_c (.iconst 0) 1 (0)) := mw_is_eq (by decide +kernel)
theorem l_L_law_869 : mw_lk d_L_law 869 = some (mw_a (.ireturn) 1) := mw_is_eq (by decide +kernel)
theorem l_L_law_870 : mw_lk d_L_law 870 = some (mw_b (.iload 6) 2 6) := mw_is_eq (by decide +kernel)
theorem l_L_law_872 : mw_lk d_L_law 872 = some (mw_b (.ifCond .ne 15) 3 887) := mw_is_eq (by decide +kernel)
theorem l_L_law_875 : mw_lk d_L_law 875 = some (mw_b (.aload_n 3) 1 3) := mw_is_eq (by decide +kernel)
theorem l_L_law_876 : mw_lk d_L_law 876 = some (mw_c (.iconst 0) 1 (0)) := mw_is_eq (by decide +kernel)
theorem l_L_law_877 : mw_lk d_L_law 877 = some (mw_a (.laload) 1) := mw_is_eq (by decide +kernel)
theorem l_L_law_878 : mw_lk d_L_law 878 = some (mw_b (.iload 7) 2 7) := mw_is_eq (by decide +kernel)
theorem l_L_law_880 : mw_lk d_L_law 880 = some (mw_a (.i2l) 1) := mw_is_eq (by decide +kernel)
theorem l_L_law_881 : mw_lk d_L_law 881 = some (mw_a (.lcmp) 1) := mw_is_eq (by decide +kernel)
theorem l_L_law_882 : mw_lk d_L_law 882 = some (mw_b (.ifCond .eq 5) 3 887) := mw_is_eq (by decide +kernel)
theorem l_L_law_885 : mw_lk d_L_law 885 = some (mw_c (.iconst 0) 1 (0)) := mw_is_eq (by decide +kernel)
theorem l_L_law_886 : mw_lk d_L_law 886 = some (mw_a (.ireturn) 1) := mw_is_eq (by decide +kernel)
theorem l_L_law_887 : mw_lk d_L_law 887 = some (mw_b (.goto 2413) 3 3300) := mw_is_eq (by decide +kernel)
theorem l_L_law_890 : mw_lk d_L_law 890 = some (mw_b (.aload_n 1) 1 1) := mw_is_eq (by decide +kernel)
theorem l_L_law_891 : mw_lk d_L_law 891 = some (mw_b (.aload_n 3) 1 3) := mw_is_eq (by decide +kernel)
theorem l_L_law_892 : mw_lk d_L_law 892 = some (((.invokestatic 223), 3, (2, 5, 0), [5096, 5097], yL_cheapestNetByGrowing, 0)) := mw_is_eq (by decide +kernel)
theorem l_L_law_895 : mw_lk d_L_law 895 = some (mw_b (.istore 6) 2 6) := mw_is_eq (by decide +kernel)
theorem l_L_law_897 : mw_lk d_L_law 897 = some (mw_b (.aload_n 2) 1 2) := mw_is_eq (by decide +kernel)
theorem l_L_law_898 : mw_lk d_L_law 898 = some (((.invokevirtual 225), 3, (1, 0, 16), [9091, 9092, 9093], yX12_cheapestNetByGrowing, 0)) := mw_is_eq (by decide +kernel)
theorem l_L_law_901 : mw_lk d_L_law 901 = some (mw_b (.istore 7) 2 7) := mw_is_eq (by decide +kernel)
theorem l_L_law_903 : mw_lk d_L_law 903 = some (mw_b (.aload_n 2) 1 2) := mw_is_eq (by decide +kernel)
theorem l_L_law_904 : mw_lk d_L_law 904 = some (((.invokevirtual 185), 3, (1, 0, 16), [8221, 8222, 8223], yX12_thrown, 0)) := mw_is_eq (by decide +kernel)
theorem l_L_law_907 : mw_lk d_L_law 907 = some (mw_b (.iload 6) 2 6) := mw_is_eq (by decide +kernel)
theorem l_L_law_909 : mw_lk d_L_law 909 = some (mw_b (.if_icmp .eq 5) 3 914) := mw_is_eq (by decide +kernel)
theorem l_L_law_912 : mw_lk d_L_law 912 = some (mw_c (.iconst 0) 1 (0)) := mw_is_eq (by decide +kernel)
theorem l_L_law_913 : mw_lk d_L_law 913 = some (mw_a (.ireturn) 1) := mw_is_eq (by decide +kernel)
theorem l_L_law_914 : mw_lk d_L_law 914 = some (mw_b (.iload 6) 2 6) := mw_is_eq (by decide +kernel)
theorem l_L_law_916 : mw_lk d_L_law 916 = some (mw_b (.ifCond .ne 15) 3 931) := mw_is_eq (by decide +kernel)
theorem l_L_law_919 : mw_lk d_L_law 919 = some (mw_b (.aload_n 3) 1 3) := mw_is_eq (by decide +kernel)
theorem l_L_law_920 : mw_lk d_L_law 920 = some (mw_c (.iconst 0) 1 (0)) := mw_is_eq (by decide +kernel)
theorem l_L_law_921 : mw_lk d_L_law 921 = some (mw_a (.laload) 1) := mw_is_eq (by decide +kernel)
theorem l_L_law_922 : mw_lk d_L_law 922 = some (mw_b (.iload 7) 2 7) := mw_is_eq (by decide +kernel)
theorem l_L_law_924 : mw_lk d_L_law 924 = some (mw_a (.i2l) 1) := mw_is_eq (by decide +kernel)
theorem l_L_law_925 : mw_lk d_L_law 925 = some (mw_a (.lcmp) 1) := mw_is_eq (by decide +kernel)
theorem l_L_law_926 : mw_lk d_L_law 926 = some (mw_b (.ifCond .eq 5) 3 931) := mw_is_eq (by decide +kernel)
theorem l_L_law_929 : mw_lk d_L_law 929 = some (mw_c (.iconst 0) 1 (0)) := mw_is_eq (by decide +kernel)
theorem l_L_law_930 : mw_lk d_L_law 930 = some (mw_a (.ireturn) 1) := mw_is_eq (by decide +kernel)
theorem l_L_law_931 : mw_lk d_L_law 931 = some (mw_b (.goto 2369) 3 3300) := mw_is_eq (by decide +kernel)
theorem l_L_law_934 : mw_lk d_L_law 934 = some (mw_b (.aload_n 1) 1 1) := mw_is_eq (by decide +kernel)
theorem l_L_law_935 : mw_lk d_L_law 935 = some (mw_b (.aload_n 0) 1 0) := mw_is_eq (by decide +kernel)
theorem l_L_law_936 : mw_lk d_L_law 936 = some (mw_b (.iload 5) 2 5) := mw_is_eq (by decide +kernel)
theorem l_L_law_938 : mw_lk d_L_law 938 = some (mw_c (.iconst 1) 1 (1)) := mw_is_eq (by decide +kernel)
theorem l_L_law_939 : mw_lk d_L_law 939 = some (mw_a (.iadd) 1) := mw_is_eq (by decide +kernel)
theorem l_L_law_940 : mw_lk d_L_law 940 = some (mw_a (.iaload) 1) := mw_is_eq (by decide +kernel)
theorem l_L_law_941 : mw_lk d_L_law 941 = some (mw_b (.aload_n 0) 1 0) := mw_is_eq (by decide +kernel)
theorem l_L_law_942 : mw_lk d_L_law 942 = some (mw_b (.iload 5) 2 5) := mw_is_eq (by decide +kernel)
theorem l_L_law_944 : mw_lk d_L_law 944 = some (mw_c (.iconst 2) 1 (2)) := mw_is_eq (by decide +kernel)
theorem l_L_law_945 : mw_lk d_L_law 945 = some (mw_a (.iadd) 1) := mw_is_eq (by decide +kernel)
theorem l_L_law_946 : mw_lk d_L_law 946 = some (mw_a (.iaload) 1) := mw_is_eq (by decide +kernel)
theorem l_L_law_947 : mw_lk d_L_law 947 = some (mw_b (.aload_n 0) 1 0) := mw_is_eq (by decide +kernel)
theorem l_L_law_948 : mw_lk d_L_law 948 = some (mw_b (.iload 5) 2 5) := mw_is_eq (by decide +kernel)
theorem l_L_law_950 : mw_lk d_L_law 950 = some (mw_c (.iconst 3) 1 (3)) := mw_is_eq (by decide +kernel)
theorem l_L_law_951 : mw_lk d_L_law 951 = some (mw_a (.iadd) 1) := mw_is_eq (by decide +kernel)
theorem l_L_law_952 : mw_lk d_L_law 952 = some (mw_a (.iaload) 1) := mw_is_eq (by decide +kernel)
theorem l_L_law_953 : mw_lk d_L_law 953 = some (mw_b (.aload_n 3) 1 3) := mw_is_eq (by decide +kernel)
theorem l_L_law_954 : mw_lk d_L_law 954 = some (((.invokestatic 226), 3, (5, 5, 0), [5103, 5104], yL_addFerry, 0)) := mw_is_eq (by decide +kernel)
theorem l_L_law_957 : mw_lk d_L_law 957 = some (mw_b (.istore 6) 2 6) := mw_is_eq (by decide +kernel)
theorem l_L_law_959 : mw_lk d_L_law 959 = some (mw_b (.aload_n 2) 1 2) := mw_is_eq (by decide +kernel)
theorem l_L_law_960 : mw_lk d_L_law 960 = some (mw_b (.aload_n 0) 1 0) := mw_is_eq (by decide +kernel)
theorem l_L_law_961 : mw_lk d_L_law 961 = some (mw_b (.iload 5) 2 5) := mw_is_eq (by decide +kernel)
theorem l_L_law_963 : mw_lk d_L_law 963 = some (mw_c (.iconst 1) 1 (1)) := mw_is_eq (by decide +kernel)
theorem l_L_law_964 : mw_lk d_L_law 964 = some (mw_a (.iadd) 1) := mw_is_eq (by decide +kernel)
theorem l_L_law_965 : mw_lk d_L_law 965 = some (mw_a (.iaload) 1) := mw_is_eq (by decide +kernel)
theorem l_L_law_966 : mw_lk d_L_law 966 = some (mw_b (.aload_n 0) 1 0) := mw_is_eq (by decide +kernel)
theorem l_L_law_967 : mw_lk d_L_law 967 = some (mw_b (.iload 5) 2 5) := mw_is_eq (by decide +kernel)
theorem l_L_law_969 : mw_lk d_L_law 969 = some (mw_c (.iconst 2) 1 (2)) := mw_is_eq (by decide +kernel)
theorem l_L_law_970 : mw_lk d_L_law 970 = some (mw_a (.iadd) 1) := mw_is_eq (by decide +kernel)
theorem l_L_law_971 : mw_lk d_L_law 971 = some (mw_a (.iaload) 1) := mw_is_eq (by decide +kernel)
theorem l_L_law_972 : mw_lk d_L_law 972 = some (mw_b (.aload_n 0) 1 0) := mw_is_eq (by decide +kernel)
theorem l_L_law_973 : mw_lk d_L_law 973 = some (mw_b (.iload 5) 2 5) := mw_is_eq (by decide +kernel)
theorem l_L_law_975 : mw_lk d_L_law 975 = some (mw_c (.iconst 3) 1 (3)) := mw_is_eq (by decide +kernel)
theorem l_L_law_976 : mw_lk d_L_law 976 = some (mw_a (.iadd) 1) := mw_is_eq (by decide +kernel)
theorem l_L_law_977 : mw_lk d_L_law 977 = some (mw_a (.iaload) 1) := mw_is_eq (by decide +kernel)
theorem l_L_law_978 : mw_lk d_L_law 978 = some (((.invokevirtual 229), 3, (4, 0, 16), [9096, 9097, 9098], yX12_addFerry, 0)) := mw_is_eq (by decide +kernel)
theorem l_L_law_981 : mw_lk d_L_law 981 = some (mw_b (.istore 7) 2 7) := mw_is_eq (by decide +kernel)
theorem l_L_law_983 : mw_lk d_L_law 983 = some (mw_b (.aload_n 2) 1 2) := mw_is_eq (by decide +kernel)
theorem l_L_law_984 : mw_lk d_L_law 984 = some (((.invokevirtual 185), 3, (1, 0, 16), [8221, 8222, 8223], yX12_thrown, 0)) := mw_is_eq (by decide +kernel)
theorem l_L_law_987 : mw_lk d_L_law 987 = some (mw_b (.iload 6) 2 6) := mw_is_eq (by decide +kernel)
theorem l_L_law_989 : mw_lk d_L_law 989 = some (mw_b (.if_icmp .eq 5) 3 994) := mw_is_eq (by decide +kernel)
theorem l_L_law_992 : mw_lk d_L_law 992 = some (mw_c (.iconst 0) 1 (0)) := mw_is_eq (by decide +kernel)
theorem l_L_law_993 : mw_lk d_L_law 993 = some (mw_a (.ireturn) 1) := mw_is_eq (by decide +kernel)
theorem l_L_law_994 : mw_lk d_L_law 994 = some (mw_b (.iload 6) 2 6) := mw_is_eq (by decide +kernel)
theorem l_L_law_996 : mw_lk d_L_law 996 = some (mw_b (.ifCond .ne 15) 3 1011) := mw_is_eq (by decide +kernel)
theorem l_L_law_999 : mw_lk d_L_law 999 = some (mw_b (.aload_n 3) 1 3) := mw_is_eq (by decide +kernel)
theorem l_L_law_1000 : mw_lk d_L_law 1000 = some (mw_c (.iconst 0) 1 (0)) := mw_is_eq (by decide +kernel)
theorem l_L_law_1001 : mw_lk d_L_law 1001 = some (mw_a (.laload) 1) := mw_is_eq (by decide +kernel)
theorem l_L_law_1002 : mw_lk d_L_law 1002 = some (mw_b (.iload 7) 2 7) := mw_is_eq (by decide +kernel)
theorem l_L_law_1004 : mw_lk d_L_law 1004 = some (mw_a (.i2l) 1) := mw_is_eq (by decide +kernel)
theorem l_L_law_1005 : mw_lk d_L_law 1005 = some (mw_a (.lcmp) 1) := mw_is_eq (by decide +kernel)
theorem l_L_law_1006 : mw_lk d_L_law 1006 = some (mw_b (.ifCond .eq 5) 3 1011) := mw_is_eq (by decide +kernel)
theorem l_L_law_1009 : mw_lk d_L_law 1009 = some (mw_c (.iconst 0) 1 (0)) := mw_is_eq (by decide +kernel)
theorem l_L_law_1010 : mw_lk d_L_law 1010 = some (mw_a (.ireturn) 1) := mw_is_eq (by decide +kernel)
theorem l_L_law_1011 : mw_lk d_L_law 1011 = some (mw_b (.goto 2289) 3 3300) := mw_is_eq (by decide +kernel)
theorem l_L_law_1014 : mw_lk d_L_law 1014 = some (mw_b (.aload_n 1) 1 1) := mw_is_eq (by decide +kernel)
theorem l_L_law_1015 : mw_lk d_L_law 1015 = some (mw_b (.aload_n 0) 1 0) := mw_is_eq (by decide +kernel)
theorem l_L_law_1016 : mw_lk d_L_law 1016 = some (mw_b (.iload 5) 2 5) := mw_is_eq (by decide +kernel)
theorem l_L_law_1018 : mw_lk d_L_law 1018 = some (mw_c (.iconst 1) 1 (1)) := mw_is_eq (by decide +kernel)
theorem l_L_law_1019 : mw_lk d_L_law 1019 = some (mw_a (.iadd) 1) := mw_is_eq (by decide +kernel)
theorem l_L_law_1020 : mw_lk d_L_law 1020 = some (mw_a (.iaload) 1) := mw_is_eq (by decide +kernel)
theorem l_L_law_1021 : mw_lk d_L_law 1021 = some (mw_b (.aload_n 0) 1 0) := mw_is_eq (by decide +kernel)
theorem l_L_law_1022 : mw_lk d_L_law 1022 = some (mw_b (.iload 5) 2 5) := mw_is_eq (by decide +kernel)
theorem l_L_law_1024 : mw_lk d_L_law 1024 = some (mw_c (.iconst 2) 1 (2)) := mw_is_eq (by decide +kernel)
theorem l_L_law_1025 : mw_lk d_L_law 1025 = some (mw_a (.iadd) 1) := mw_is_eq (by decide +kernel)
theorem l_L_law_1026 : mw_lk d_L_law 1026 = some (mw_a (.iaload) 1) := mw_is_eq (by decide +kernel)
theorem l_L_law_1027 : mw_lk d_L_law 1027 = some (mw_b (.aload_n 3) 1 3) := mw_is_eq (by decide +kernel)
theorem l_L_law_1028 : mw_lk d_L_law 1028 = some (((.invokestatic 230), 3, (4, 5, 0), [5114, 5115], yL_sail, 0)) := mw_is_eq (by decide +kernel)
theorem l_L_law_1031 : mw_lk d_L_law 1031 = some (mw_b (.istore 6) 2 6) := mw_is_eq (by decide +kernel)
theorem l_L_law_1033 : mw_lk d_L_law 1033 = some (mw_b (.aload_n 2) 1 2) := mw_is_eq (by decide +kernel)
theorem l_L_law_1034 : mw_lk d_L_law 1034 = some (mw_b (.aload_n 0) 1 0) := mw_is_eq (by decide +kernel)
theorem l_L_law_1035 : mw_lk d_L_law 1035 = some (mw_b (.iload 5) 2 5) := mw_is_eq (by decide +kernel)
theorem l_L_law_1037 : mw_lk d_L_law 1037 = some (mw_c (.iconst 1) 1 (1)) := mw_is_eq (by decide +kernel)
theorem l_L_law_1038 : mw_lk d_L_law 1038 = some (mw_a (.iadd) 1) := mw_is_eq (by decide +kernel)
theorem l_L_law_1039 : mw_lk d_L_law 1039 = some (mw_a (.iaload) 1) := mw_is_eq (by decide +kernel)
theorem l_L_law_1040 : mw_lk d_L_law 1040 = some (mw_b (.aload_n 0) 1 0) := mw_is_eq (by decide +kernel)
theorem l_L_law_1041 : mw_lk d_L_law 1041 = some (mw_b (.iload 5) 2 5) := mw_is_eq (by decide +kernel)
theorem l_L_law_1043 : mw_lk d_L_law 1043 = some (mw_c (.iconst 2) 1 (2)) := mw_is_eq (by decide +kernel)
theorem l_L_law_1044 : mw_lk d_L_law 1044 = some (mw_a (.iadd) 1) := mw_is_eq (by decide +kernel)
theorem l_L_law_1045 : mw_lk d_L_law 1045 = some (mw_a (.iaload) 1) := mw_is_eq (by decide +kernel)
theorem l_L_law_1046 : mw_lk d_L_law 1046 = some (((.invokevirtual 232), 3, (3, 0, 16), [9104, 9105, 9106], yX12_sail, 0)) := mw_is_eq (by decide +kernel)
theorem l_L_law_1049 : mw_lk d_L_law 1049 = some (mw_b (.istore 7) 2 7) := mw_is_eq (by decide +kernel)
theorem l_L_law_1051 : mw_lk d_L_law 1051 = some (mw_b (.aload_n 2) 1 2) := mw_is_eq (by decide +kernel)
theorem l_L_law_1052 : mw_lk d_L_law 1052 = some (((.invokevirtual 185), 3, (1, 0, 16), [8221, 8222, 8223], yX12_thrown, 0)) := mw_is_eq (by decide +kernel)
theorem l_L_law_1055 : mw_lk d_L_law 1055 = some (mw_b (.iload 6) 2 6) := mw_is_eq (by decide +kernel)
theorem l_L_law_1057 : mw_lk d_L_law 1057 = some (mw_b (.if_icmp .eq 5) 3 1062) := mw_is_eq (by decide +kernel)
theorem l_L_law_1060 : mw_lk d_L_law 1060 = some (mw_c (.iconst 0) 1 (0)) := mw_is_eq (by decide +kernel)
theorem l_L_law_1061 : mw_lk d_L_law 1061 = some (mw_a (.ireturn) 1) := mw_is_eq (by decide +kernel)
theorem l_L_law_1062 : mw_lk d_L_law 1062 = some (mw_b (.iload 6) 2 6) := mw_is_eq (by decide +kernel)
theorem l_L_law_1064 : mw_lk d_L_law 1064 = some (mw_b (.ifCond .ne 15) 3 1079) := mw_is_eq (by decide +kernel)
theorem l_L_law_1067 : mw_lk d_L_law 1067 = some (mw_b (.aload_n 3) 1 3) := mw_is_eq (by decide +kernel)
theorem l_L_law_1068 : mw_lk d_L_law 1068 = some (mw_c (.iconst 0) 1 (0)) := mw_is_eq (by decide +kernel)
theorem l_L_law_1069 : mw_lk d_L_law 1069 = some (mw_a (.laload) 1) := mw_is_eq (by decide +kernel)
theorem l_L_law_1070 : mw_lk d_L_law 1070 = some (mw_b (.iload 7) 2 7) := mw_is_eq (by decide +kernel)
theorem l_L_law_1072 : mw_lk d_L_law 1072 = some (mw_a (.i2l) 1) := mw_is_eq (by decide +kernel)
theorem l_L_law_1073 : mw_lk d_L_law 1073 = some (mw_a (.lcmp) 1) := mw_is_eq (by decide +kernel)
theorem l_L_law_1074 : mw_lk d_L_law 1074 = some (mw_b (.ifCond .eq 5) 3 1079) := mw_is_eq (by decide +kernel)
theorem l_L_law_1077 : mw_lk d_L_law 1077 = some (mw_c (.iconst 0) 1 (0)) := mw_is_eq (by decide +kernel)
theorem l_L_law_1078 : mw_lk d_L_law 1078 = some (mw_a (.ireturn) 1) := mw_is_eq (by decide +kernel)
theorem l_L_law_1079 : mw_lk d_L_law 1079 = some (mw_b (.goto 2221) 3 3300) := mw_is_eq (by decide +kernel)
theorem l_L_law_1082 : mw_lk d_L_law 1082 = some (mw_b (.aload_n 1) 1 1) := mw_is_eq (by decide +kernel)
theorem l_L_law_1083 : mw_lk d_L_law 1083 = some (mw_b (.aload_n 0) 1 0) := mw_is_eq (by decide +kernel)
theorem l_L_law_1084 : mw_lk d_L_law 1084 = some (mw_b (.iload 5) 2 5) := mw_is_eq (by decide +kernel)
theorem l_L_law_1086 : mw_lk d_L_law 1086 = some (mw_c (.iconst 1) 1 (1)) := mw_is_eq (by decide +kernel)
theorem l_L_law_1087 : mw_lk d_L_law 1087 = some (mw_a (.iadd) 1) := mw_is_eq (by decide +kernel)
theorem l_L_law_1088 : mw_lk d_L_law 1088 = some (mw_a (.iaload) 1) := mw_is_eq (by decide +kernel)
theorem l_L_law_1089 : mw_lk d_L_law 1089 = some (mw_b (.aload_n 3) 1 3) := mw_is_eq (by decide +kernel)
theorem l_L_law_1090 : mw_lk d_L_law 1090 = some (((.invokestatic 233), 3, (3, 5, 0), [5141, 5142], yL_isAtSea, 0)) := mw_is_eq (by decide +kernel)
theorem l_L_law_1093 : mw_lk d_L_law 1093 = some (mw_b (.istore 6) 2 6) := mw_is_eq (by decide +kernel)
theorem l_L_law_1095 : mw_lk d_L_law 1095 = some (mw_b (.aload_n 2) 1 2) := mw_is_eq (by decide +kernel)
theorem l_L_law_1096 : mw_lk d_L_law 1096 = some (mw_b (.aload_n 0) 1 0) := mw_is_eq (by decide +kernel)
theorem l_L_law_1097 : mw_lk d_L_law 1097 = some (mw_b (.iload 5) 2 5) := mw_is_eq (by decide +kernel)
theorem l_L_law_1099 : mw_lk d_L_law 1099 = some (mw_c (.iconst 1) 1 (1)) := mw_is_eq (by decide +kernel)
theorem l_L_law_1100 : mw_lk d_L_law 1100 = some (mw_a (.iadd) 1) := mw_is_eq (by decide +kernel)
theorem l_L_law_1101 : mw_lk d_L_law 1101 = some (mw_a (.iaload) 1) := mw_is_eq (by decide +kernel)
theorem l_L_law_1102 : mw_lk d_L_law 1102 = some (((.invokevirtual 235), 3, (2, 0, 16), [9132, 9133, 9134], yX12_isAtSea, 0)) := mw_is_eq (by decide +kernel)
theorem l_L_law_1105 : mw_lk d_L_law 1105 = some (mw_b (.istore 7) 2 7) := mw_is_eq (by decide +kernel)
theorem l_L_law_1107 : mw_lk d_L_law 1107 = some (mw_b (.aload_n 2) 1 2) := mw_is_eq (by decide +kernel)
theorem l_L_law_1108 : mw_lk d_L_law 1108 = some (((.invokevirtual 185), 3, (1, 0, 16), [8221, 8222, 8223], yX12_thrown, 0)) := mw_is_eq (by decide +kernel)
theorem l_L_law_1111 : mw_lk d_L_law 1111 = some (mw_b (.iload 6) 2 6) := mw_is_eq (by decide +kernel)
theorem l_L_law_1113 : mw_lk d_L_law 1113 = some (mw_b (.if_icmp .eq 5) 3 1118) := mw_is_eq (by decide +kernel)
theorem l_L_law_1116 : mw_lk d_L_law 1116 = some (mw_c (.iconst 0) 1 (0)) := mw_is_eq (by decide +kernel)
theorem l_L_law_1117 : mw_lk d_L_law 1117 = some (mw_a (.ireturn) 1) := mw_is_eq (by decide +kernel)
theorem l_L_law_1118 : mw_lk d_L_law 1118 = some (mw_b (.iload 6) 2 6) := mw_is_eq (by decide +kernel)
theorem l_L_law_1120 : mw_lk d_L_law 1120 = some (mw_b (.ifCond .ne 22) 3 1142) := mw_is_eq (by decide +kernel)
theorem l_L_law_1123 : mw_lk d_L_law 1123 = some (mw_b (.aload_n 3) 1 3) := mw_is_eq (by decide +kernel)
theorem l_L_law_1124 : mw_lk d_L_law 1124 = some (mw_c (.iconst 0) 1 (0)) := mw_is_eq (by decide +kernel)
theorem l_L_law_1125 : mw_lk d_L_law 1125 = some (mw_a (.laload) 1) := mw_is_eq (by decide +kernel)
theorem l_L_law_1126 : mw_lk d_L_law 1126 = some (mw_b (.iload 7) 2 7) := mw_is_eq (by decide +kernel)
theorem l_L_law_1128 : mw_lk d_L_law 1128 = some (mw_b (.ifCond .eq 7) 3 1135) := mw_is_eq (by decide +kernel)
theorem l_L_law_1131 : mw_lk d_L_law 1131 = some (mw_a (.lconst 1) 1) := mw_is_eq (by decide +kernel)
theorem l_L_law_1132 : mw_lk d_L_law 1132 = some (mw_b (.goto 4) 3 1136) := mw_is_eq (by decide +kernel)
theorem l_L_law_1135 : mw_lk d_L_law 1135 = some (mw_a (.lconst 0) 1) := mw_is_eq (by decide +kernel)
theorem l_L_law_1136 : mw_lk d_L_law 1136 = some (mw_a (.lcmp) 1) := mw_is_eq (by decide +kernel)
theorem l_L_law_1137 : mw_lk d_L_law 1137 = some (mw_b (.ifCond .eq 5) 3 1142) := mw_is_eq (by decide +kernel)
theorem l_L_law_1140 : mw_lk d_L_law 1140 = some (mw_c (.iconst 0) 1 (0)) := mw_is_eq (by decide +kernel)
theorem l_L_law_1141 : mw_lk d_L_law 1141 = some (mw_a (.ireturn) 1) := mw_is_eq (by decide +kernel)
theorem l_L_law_1142 : mw_lk d_L_law 1142 = some (mw_b (.goto 2158) 3 3300) := mw_is_eq (by decide +kernel)
theorem l_L_law_1145 : mw_lk d_L_law 1145 = some (mw_b (.aload_n 1) 1 1) := mw_is_eq (by decide +kernel)
theorem l_L_law_1146 : mw_lk d_L_law 1146 = some (mw_b (.aload_n 0) 1 0) := mw_is_eq (by decide +kernel)
theorem l_L_law_1147 : mw_lk d_L_law 1147 = some (mw_b (.iload 5) 2 5) := mw_is_eq (by decide +kernel)
theorem l_L_law_1149 : mw_lk d_L_law 1149 = some (mw_c (.iconst 1) 1 (1)) := mw_is_eq (by decide +kernel)
theorem l_L_law_1150 : mw_lk d_L_law 1150 = some (mw_a (.iadd) 1) := mw_is_eq (by decide +kernel)
theorem l_L_law_1151 : mw_lk d_L_law 1151 = some (mw_a (.iaload) 1) := mw_is_eq (by decide +kernel)
theorem l_L_law_1152 : mw_lk d_L_law 1152 = some (mw_b (.aload_n 3) 1 3) := mw_is_eq (by decide +kernel)
theorem l_L_law_1153 : mw_lk d_L_law 1153 = some (((.invokestatic 236), 3, (3, 5, 0), [5153, 5154], yL_craterOf, 0)) := mw_is_eq (by decide +kernel)
theorem l_L_law_1156 : mw_lk d_L_law 1156 = some (mw_b (.istore 6) 2 6) := mw_is_eq (by decide +kernel)
theorem l_L_law_1158 : mw_lk d_L_law 1158 = some (mw_b (.aload_n 2) 1 2) := mw_is_eq (by decide +kernel)
theorem l_L_law_1159 : mw_lk d_L_law 1159 = some (mw_b (.aload_n 0) 1 0) := mw_is_eq (by decide +kernel)
theorem l_L_law_1160 : mw_lk d_L_law 1160 = some (mw_b (.iload 5) 2 5) := mw_is_eq (by decide +kernel)
theorem l_L_law_1162 : mw_lk d_L_law 1162 = some (mw_c (.iconst 1) 1 (1)) := mw_is_eq (by decide +kernel)
theorem l_L_law_1163 : mw_lk d_L_law 1163 = some (mw_a (.iadd) 1) := mw_is_eq (by decide +kernel)
theorem l_L_law_1164 : mw_lk d_L_law 1164 = some (mw_a (.iaload) 1) := mw_is_eq (by decide +kernel)
theorem l_L_law_1165 : mw_lk d_L_law 1165 = some (((.invokevirtual 238), 3, (2, 0, 16), [9136, 9137, 9138], yX12_craterOf, 0)) := mw_is_eq (by decide +kernel)
theorem l_L_law_1168 : mw_lk d_L_law 1168 = some (mw_b (.istore 7) 2 7) := mw_is_eq (by decide +kernel)
theorem l_L_law_1170 : mw_lk d_L_law 1170 = some (mw_b (.aload_n 2) 1 2) := mw_is_eq (by decide +kernel)
theorem l_L_law_1171 : mw_lk d_L_law 1171 = some (((.invokevirtual 185), 3, (1, 0, 16), [8221, 8222, 8223], yX12_thrown, 0)) := mw_is_eq (by decide +kernel)
theorem l_L_law_1174 : mw_lk d_L_law 1174 = some (mw_b (.iload 6) 2 6) := mw_is_eq (by decide +kernel)
theorem l_L_law_1176 : mw_lk d_L_law 1176 = some (mw_b (.if_icmp .eq 5) 3 1181) := mw_is_eq (by decide +kernel)
theorem l_L_law_1179 : mw_lk d_L_law 1179 = some (mw_c (.iconst 0) 1 (0)) := mw_is_eq (by decide +kernel)
theorem l_L_law_1180 : mw_lk d_L_law 1180 = some (mw_a (.ireturn) 1) := mw_is_eq (by decide +kernel)
theorem l_L_law_1181 : mw_lk d_L_law 1181 = some (mw_b (.iload 6) 2 6) := mw_is_eq (by decide +kernel)
theorem l_L_law_1183 : mw_lk d_L_law 1183 = some (mw_b (.ifCond .ne 15) 3 1198) := mw_is_eq (by decide +kernel)
theorem l_L_law_1186 : mw_lk d_L_law 1186 = some (mw_b (.aload_n 3) 1 3) := mw_is_eq (by decide +kernel)
theorem l_L_law_1187 : mw_lk d_L_law 1187 = some (mw_c (.iconst 0) 1 (0)) := mw_is_eq (by decide +kernel)
theorem l_L_law_1188 : mw_lk d_L_law 1188 = some (mw_a (.laload) 1) := mw_is_eq (by decide +kernel)
theorem l_L_law_1189 : mw_lk d_L_law 1189 = some (mw_b (.iload 7) 2 7) := mw_is_eq (by decide +kernel)
theorem l_L_law_1191 : mw_lk d_L_law 1191 = some (mw_a (.i2l) 1) := mw_is_eq (by decide +kernel)
theorem l_L_law_1192 : mw_lk d_L_law 1192 = some (mw_a (.lcmp) 1) := mw_is_eq (by decide +kernel)
theorem l_L_law_1193 : mw_lk d_L_law 1193 = some (mw_b (.ifCond .eq 5) 3 1198) := mw_is_eq (by decide +kernel)
theorem l_L_law_1196 : mw_lk d_L_law 1196 = some (mw_c (.iconst 0) 1 (0)) := mw_is_eq (by decide +kernel)
theorem l_L_law_1197 : mw_lk d_L_law 1197 = some (mw_a (.ireturn) 1) := mw_is_eq (by decide +kernel)
theorem l_L_law_1198 : mw_lk d_L_law 1198 = some (mw_b (.goto 2102) 3 3300) := mw_is_eq (by decide +kernel)
theorem l_L_law_1201 : mw_lk d_L_law 1201 = some (mw_b (.aload_n 1) 1 1) := mw_is_eq (by decide +kernel)
theorem l_L_law_1202 : mw_lk d_L_law 1202 = some (mw_b (.aload_n 0) 1 0) := mw_is_eq (by decide +kernel)
theorem l_L_law_1203 : mw_lk d_L_law 1203 = some (mw_b (.iload 5) 2 5) := mw_is_eq (by decide +kernel)
theorem l_L_law_1205 : mw_lk d_L_law 1205 = some (mw_c (.iconst 1) 1 (1)) := mw_is_eq (by decide +kernel)
theorem l_L_law_1206 : mw_lk d_L_law 1206 = some (mw_a (.iadd) 1) := mw_is_eq (by decide +kernel)
theorem l_L_law_1207 : mw_lk d_L_law 1207 = some (mw_a (.iaload) 1) := mw_is_eq (by decide +kernel)
theorem l_L_law_1208 : mw_lk d_L_law 1208 = some (mw_b (.aload_n 3) 1 3) := mw_is_eq (by decide +kernel)
theorem l_L_law_1209 : mw_lk d_L_law 1209 = some (((.invokestatic 239), 3, (3, 5, 0), [5164, 5165], yL_targetOf, 0)) := mw_is_eq (by decide +kernel)
theorem l_L_law_1212 : mw_lk d_L_law 1212 = some (mw_b (.istore 6) 2 6) := mw_is_eq (by decide +kernel)
theorem l_L_law_1214 : mw_lk d_L_law 1214 = some (mw_b (.aload_n 2) 1 2) := mw_is_eq (by decide +kernel)
theorem l_L_law_1215 : mw_lk d_L_law 1215 = some (mw_b (.aload_n 0) 1 0) := mw_is_eq (by decide +kernel)
theorem l_L_law_1216 : mw_lk d_L_law 1216 = some (mw_b (.iload 5) 2 5) := mw_is_eq (by decide +kernel)
theorem l_L_law_1218 : mw_lk d_L_law 1218 = some (mw_c (.iconst 1) 1 (1)) := mw_is_eq (by decide +kernel)
theorem l_L_law_1219 : mw_lk d_L_law 1219 = some (mw_a (.iadd) 1) := mw_is_eq (by decide +kernel)
theorem l_L_law_1220 : mw_lk d_L_law 1220 = some (mw_a (.iaload) 1) := mw_is_eq (by decide +kernel)
theorem l_L_law_1221 : mw_lk d_L_law 1221 = some (((.invokevirtual 241), 3, (2, 0, 16), [9140, 9141, 9142], yX12_targetOf, 0)) := mw_is_eq (by decide +kernel)
theorem l_L_law_1224 : mw_lk d_L_law 1224 = some (mw_b (.istore 7) 2 7) := mw_is_eq (by decide +kernel)
theorem l_L_law_1226 : mw_lk d_L_law 1226 = some (mw_b (.aload_n 2) 1 2) := mw_is_eq (by decide +kernel)
theorem l_L_law_1227 : mw_lk d_L_law 1227 = some (((.invokevirtual 185), 3, (1, 0, 16), [8221, 8222, 8223], yX12_thrown, 0)) := mw_is_eq (by decide +kernel)
theorem l_L_law_1230 : mw_lk d_L_law 1230 = some (mw_b (.iload 6) 2 6) := mw_is_eq (by decide +kernel)
theorem l_L_law_1232 : mw_lk d_L_law 1232 = some (mw_b (.if_icmp .eq 5) 3 1237) := mw_is_eq (by decide +kernel)
theorem l_L_law_1235 : mw_lk d_L_law 1235 = some (mw_c (.iconst 0) 1 (0)) := mw_is_eq (by decide +kernel)
theorem l_L_law_1236 : mw_lk d_L_law 1236 = some (mw_a (.ireturn) 1) := mw_is_eq (by decide +kernel)
theorem l_L_law_1237 : mw_lk d_L_law 1237 = some (mw_b (.iload 6) 2 6) := mw_is_eq (by decide +kernel)
theorem l_L_law_1239 : mw_lk d_L_law 1239 = some (mw_b (.ifCond .ne 15) 3 1254) := mw_is_eq (by decide +kernel)
theorem l_L_law_1242 : mw_lk d_L_law 1242 = some (mw_b (.aload_n 3) 1 3) := mw_is_eq (by decide +kernel)
theorem l_L_law_1243 : mw_lk d_L_law 1243 = some (mw_c (.iconst 0) 1 (0)) := mw_is_eq (by decide +kernel)
theorem l_L_law_1244 : mw_lk d_L_law 1244 = some (mw_a (.laload) 1) := mw_is_eq (by decide +kernel)
theorem l_L_law_1245 : mw_lk d_L_law 1245 = some (mw_b (.iload 7) 2 7) := mw_is_eq (by decide +kernel)
theorem l_L_law_1247 : mw_lk d_L_law 1247 = some (mw_a (.i2l) 1) := mw_is_eq (by decide +kernel)
theorem l_L_law_1248 : mw_lk d_L_law 1248 = some (mw_a (.lcmp) 1) := mw_is_eq (by decide +kernel)
theorem l_L_law_1249 : mw_lk d_L_law 1249 = some (mw_b (.ifCond .eq 5) 3 1254) := mw_is_eq (by decide +kernel)
theorem l_L_law_1252 : mw_lk d_L_law 1252 = some (mw_c (.iconst 0) 1 (0)) := mw_is_eq (by decide +kernel)
theorem l_L_law_1253 : mw_lk d_L_law 1253 = some (mw_a (.ireturn) 1) := mw_is_eq (by decide +kernel)
theorem l_L_law_1254 : mw_lk d_L_law 1254 = some (mw_b (.goto 2046) 3 3300) := mw_is_eq (by decide +kernel)
theorem l_L_law_1257 : mw_lk d_L_law 1257 = some (mw_b (.aload_n 1) 1 1) := mw_is_eq (by decide +kernel)
theorem l_L_law_1258 : mw_lk d_L_law 1258 = some (mw_b (.aload_n 0) 1 0) := mw_is_eq (by decide +kernel)
theorem l_L_law_1259 : mw_lk d_L_law 1259 = some (mw_b (.iload 5) 2 5) := mw_is_eq (by decide +kernel)
theorem l_L_law_1261 : mw_lk d_L_law 1261 = some (mw_c (.iconst 1) 1 (1)) := mw_is_eq (by decide +kernel)
theorem l_L_law_1262 : mw_lk d_L_law 1262 = some (mw_a (.iadd) 1) := mw_is_eq (by decide +kernel)
theorem l_L_law_1263 : mw_lk d_L_law 1263 = some (mw_a (.iaload) 1) := mw_is_eq (by decide +kernel)
theorem l_L_law_1264 : mw_lk d_L_law 1264 = some (mw_b (.aload_n 3) 1 3) := mw_is_eq (by decide +kernel)
theorem l_L_law_1265 : mw_lk d_L_law 1265 = some (((.invokestatic 242), 3, (3, 5, 0), [5171, 5172], yL_hoursLeft, 0)) := mw_is_eq (by decide +kernel)
theorem l_L_law_1268 : mw_lk d_L_law 1268 = some (mw_b (.istore 6) 2 6) := mw_is_eq (by decide +kernel)
theorem l_L_law_1270 : mw_lk d_L_law 1270 = some (mw_b (.aload_n 2) 1 2) := mw_is_eq (by decide +kernel)
theorem l_L_law_1271 : mw_lk d_L_law 1271 = some (mw_b (.aload_n 0) 1 0) := mw_is_eq (by decide +kernel)
theorem l_L_law_1272 : mw_lk d_L_law 1272 = some (mw_b (.iload 5) 2 5) := mw_is_eq (by decide +kernel)
theorem l_L_law_1274 : mw_lk d_L_law 1274 = some (mw_c (.iconst 1) 1 (1)) := mw_is_eq (by decide +kernel)
theorem l_L_law_1275 : mw_lk d_L_law 1275 = some (mw_a (.iadd) 1) := mw_is_eq (by decide +kernel)
theorem l_L_law_1276 : mw_lk d_L_law 1276 = some (mw_a (.iaload) 1) := mw_is_eq (by decide +kernel)
theorem l_L_law_1277 : mw_lk d_L_law 1277 = some (((.invokevirtual 244), 3, (2, 0, 16), [9144, 9145, 9146], yX12_hoursLeft, 0)) := mw_is_eq (by decide +kernel)
theorem l_L_law_1280 : mw_lk d_L_law 1280 = some (mw_b (.istore 7) 2 7) := mw_is_eq (by decide +kernel)
theorem l_L_law_1282 : mw_lk d_L_law 1282 = some (mw_b (.aload_n 2) 1 2) := mw_is_eq (by decide +kernel)
theorem l_L_law_1283 : mw_lk d_L_law 1283 = some (((.invokevirtual 185), 3, (1, 0, 16), [8221, 8222, 8223], yX12_thrown, 0)) := mw_is_eq (by decide +kernel)
theorem l_L_law_1286 : mw_lk d_L_law 1286 = some (mw_b (.iload 6) 2 6) := mw_is_eq (by decide +kernel)
theorem l_L_law_1288 : mw_lk d_L_law 1288 = some (mw_b (.if_icmp .eq 5) 3 1293) := mw_is_eq (by decide +kernel)
theorem l_L_law_1291 : mw_lk d_L_law 1291 = some (mw_c (.iconst 0) 1 (0)) := mw_is_eq (by decide +kernel)
theorem l_L_law_1292 : mw_lk d_L_law 1292 = some (mw_a (.ireturn) 1) := mw_is_eq (by decide +kernel)
theorem l_L_law_1293 : mw_lk d_L_law 1293 = some (mw_b (.iload 6) 2 6) := mw_is_eq (by decide +kernel)
theorem l_L_law_1295 : mw_lk d_L_law 1295 = some (mw_b (.ifCond .ne 15) 3 1310) := mw_is_eq (by decide +kernel)
theorem l_L_law_1298 : mw_lk d_L_law 1298 = some (mw_b (.aload_n 3) 1 3) := mw_is_eq (by decide +kernel)
theorem l_L_law_1299 : mw_lk d_L_law 1299 = some (mw_c (.iconst 0) 1 (0)) := mw_is_eq (by decide +kernel)
theorem l_L_law_1300 : mw_lk d_L_law 1300 = some (mw_a (.laload) 1) := mw_is_eq (by decide +kernel)
theorem l_L_law_1301 : mw_lk d_L_law 1301 = some (mw_b (.iload 7) 2 7) := mw_is_eq (by decide +kernel)
theorem l_L_law_1303 : mw_lk d_L_law 1303 = some (mw_a (.i2l) 1) := mw_is_eq (by decide +kernel)
theorem l_L_law_1304 : mw_lk d_L_law 1304 = some (mw_a (.lcmp) 1) := mw_is_eq (by decide +kernel)
theorem l_L_law_1305 : mw_lk d_L_law 1305 = some (mw_b (.ifCond .eq 5) 3 1310) := mw_is_eq (by decide +kernel)
theorem l_L_law_1308 : mw_lk d_L_law 1308 = some (mw_c (.iconst 0) 1 (0)) := mw_is_eq (by decide +kernel)
theorem l_L_law_1309 : mw_lk d_L_law 1309 = some (mw_a (.ireturn) 1) := mw_is_eq (by decide +kernel)
theorem l_L_law_1310 : mw_lk d_L_law 1310 = some (mw_b (.goto 1990) 3 3300) := mw_is_eq (by decide +kernel)
theorem l_L_law_1313 : mw_lk d_L_law 1313 = some (mw_b (.aload_n 1) 1 1) := mw_is_eq (by decide +kernel)
theorem l_L_law_1314 : mw_lk d_L_law 1314 = some (mw_b (.aload_n 0) 1 0) := mw_is_eq (by decide +kernel)
theorem l_L_law_1315 : mw_lk d_L_law 1315 = some (mw_b (.iload 5) 2 5) := mw_is_eq (by decide +kernel)
theorem l_L_law_1317 : mw_lk d_L_law 1317 = some (mw_c (.iconst 1) 1 (1)) := mw_is_eq (by decide +kernel)
theorem l_L_law_1318 : mw_lk d_L_law 1318 = some (mw_a (.iadd) 1) := mw_is_eq (by decide +kernel)
theorem l_L_law_1319 : mw_lk d_L_law 1319 = some (mw_a (.iaload) 1) := mw_is_eq (by decide +kernel)
theorem l_L_law_1320 : mw_lk d_L_law 1320 = some (mw_b (.aload_n 3) 1 3) := mw_is_eq (by decide +kernel)
theorem l_L_law_1321 : mw_lk d_L_law 1321 = some (((.invokestatic 245), 3, (3, 5, 0), [5179, 5180], yL_isStranded, 0)) := mw_is_eq (by decide +kernel)
theorem l_L_law_1324 : mw_lk d_L_law 1324 = some (mw_b (.istore 6) 2 6) := mw_is_eq (by decide +kernel)
theorem l_L_law_1326 : mw_lk d_L_law 1326 = some (mw_b (.aload_n 2) 1 2) := mw_is_eq (by decide +kernel)
theorem l_L_law_1327 : mw_lk d_L_law 1327 = some (mw_b (.aload_n 0) 1 0) := mw_is_eq (by decide +kernel)
theorem l_L_law_1328 : mw_lk d_L_law 1328 = some (mw_b (.iload 5) 2 5) := mw_is_eq (by decide +kernel)
theorem l_L_law_1330 : mw_lk d_L_law 1330 = some (mw_c (.iconst 1) 1 (1)) := mw_is_eq (by decide +kernel)
theorem l_L_law_1331 : mw_lk d_L_law 1331 = some (mw_a (.iadd) 1) := mw_is_eq (by decide +kernel)
theorem l_L_law_1332 : mw_lk d_L_law 1332 = some (mw_a (.iaload) 1) := mw_is_eq (by decide +kernel)
theorem l_L_law_1333 : mw_lk d_L_law 1333 = some (((.invokevirtual 247), 3, (2, 0, 16), [9152, 9153, 9154], yX12_isStranded, 0)) := mw_is_eq (by decide +kernel)
theorem l_L_law_1336 : mw_lk d_L_law 1336 = some (mw_b (.istore 7) 2 7) := mw_is_eq (by decide +kernel)
theorem l_L_law_1338 : mw_lk d_L_law 1338 = some (mw_b (.aload_n 2) 1 2) := mw_is_eq (by decide +kernel)
theorem l_L_law_1339 : mw_lk d_L_law 1339 = some (((.invokevirtual 185), 3, (1, 0, 16), [8221, 8222, 8223], yX12_thrown, 0)) := mw_is_eq (by decide +kernel)
theorem l_L_law_1342 : mw_lk d_L_law 1342 = some (mw_b (.iload 6) 2 6) := mw_is_eq (by decide +kernel)
theorem l_L_law_1344 : mw_lk d_L_law 1344 = some (mw_b (.if_icmp .eq 5) 3 1349) := mw_is_eq (by decide +kernel)
theorem l_L_law_1347 : mw_lk d_L_law 1347 = some (mw_c (.iconst 0) 1 (0)) := mw_is_eq (by decide +kernel)
theorem l_L_law_1348 : mw_lk d_L_law 1348 = some (mw_a (.ireturn) 1) := mw_is_eq (by decide +kernel)
theorem l_L_law_1349 : mw_lk d_L_law 1349 = some (mw_b (.iload 6) 2 6) := mw_is_eq (by decide +kernel)
theorem l_L_law_1351 : mw_lk d_L_law 1351 = some (mw_b (.ifCond .ne 22) 3 1373) := mw_is_eq (by decide +kernel)
theorem l_L_law_1354 : mw_lk d_L_law 1354 = some (mw_b (.aload_n 3) 1 3) := mw_is_eq (by decide +kernel)
theorem l_L_law_1355 : mw_lk d_L_law 1355 = some (mw_c (.iconst 0) 1 (0)) := mw_is_eq (by decide +kernel)
theorem l_L_law_1356 : mw_lk d_L_law 1356 = some (mw_a (.laload) 1) := mw_is_eq (by decide +kernel)
theorem l_L_law_1357 : mw_lk d_L_law 1357 = some (mw_b (.iload 7) 2 7) := mw_is_eq (by decide +kernel)
theorem l_L_law_1359 : mw_lk d_L_law 1359 = some (mw_b (.ifCond .eq 7) 3 1366) := mw_is_eq (by decide +kernel)
theorem l_L_law_1362 : mw_lk d_L_law 1362 = some (mw_a (.lconst 1) 1) := mw_is_eq (by decide +kernel)
theorem l_L_law_1363 : mw_lk d_L_law 1363 = some (mw_b (.goto 4) 3 1367) := mw_is_eq (by decide +kernel)
theorem l_L_law_1366 : mw_lk d_L_law 1366 = some (mw_a (.lconst 0) 1) := mw_is_eq (by decide +kernel)
theorem l_L_law_1367 : mw_lk d_L_law 1367 = some (mw_a (.lcmp) 1) := mw_is_eq (by decide +kernel)
theorem l_L_law_1368 : mw_lk d_L_law 1368 = some (mw_b (.ifCond .eq 5) 3 1373) := mw_is_eq (by decide +kernel)
theorem l_L_law_1371 : mw_lk d_L_law 1371 = some (mw_c (.iconst 0) 1 (0)) := mw_is_eq (by decide +kernel)
theorem l_L_law_1372 : mw_lk d_L_law 1372 = some (mw_a (.ireturn) 1) := mw_is_eq (by decide +kernel)
theorem l_L_law_1373 : mw_lk d_L_law 1373 = some (mw_b (.goto 1927) 3 3300) := mw_is_eq (by decide +kernel)
theorem l_L_law_1376 : mw_lk d_L_law 1376 = some (mw_b (.aload_n 1) 1 1) := mw_is_eq (by decide +kernel)
theorem l_L_law_1377 : mw_lk d_L_law 1377 = some (mw_b (.aload_n 0) 1 0) := mw_is_eq (by decide +kernel)
theorem l_L_law_1378 : mw_lk d_L_law 1378 = some (mw_b (.iload 5) 2 5) := mw_is_eq (by decide +kernel)
theorem l_L_law_1380 : mw_lk d_L_law 1380 = some (mw_c (.iconst 1) 1 (1)) := mw_is_eq (by decide +kernel)
theorem l_L_law_1381 : mw_lk d_L_law 1381 = some (mw_a (.iadd) 1) := mw_is_eq (by decide +kernel)
theorem l_L_law_1382 : mw_lk d_L_law 1382 = some (mw_a (.iaload) 1) := mw_is_eq (by decide +kernel)
theorem l_L_law_1383 : mw_lk d_L_law 1383 = some (mw_b (.aload_n 3) 1 3) := mw_is_eq (by decide +kernel)
theorem l_L_law_1384 : mw_lk d_L_law 1384 = some (((.invokestatic 248), 3, (3, 5, 0), [5187, 5188], yL_loadOf, 0)) := mw_is_eq (by decide +kernel)
theorem l_L_law_1387 : mw_lk d_L_law 1387 = some (mw_b (.istore 6) 2 6) := mw_is_eq (by decide +kernel)
theorem l_L_law_1389 : mw_lk d_L_law 1389 = some (mw_b (.aload_n 2) 1 2) := mw_is_eq (by decide +kernel)
theorem l_L_law_1390 : mw_lk d_L_law 1390 = some (mw_b (.aload_n 0) 1 0) := mw_is_eq (by decide +kernel)
theorem l_L_law_1391 : mw_lk d_L_law 1391 = some (mw_b (.iload 5) 2 5) := mw_is_eq (by decide +kernel)
theorem l_L_law_1393 : mw_lk d_L_law 1393 = some (mw_c (.iconst 1) 1 (1)) := mw_is_eq (by decide +kernel)
theorem l_L_law_1394 : mw_lk d_L_law 1394 = some (mw_a (.iadd) 1) := mw_is_eq (by decide +kernel)
theorem l_L_law_1395 : mw_lk d_L_law 1395 = some (mw_a (.iaload) 1) := mw_is_eq (by decide +kernel)
theorem l_L_law_1396 : mw_lk d_L_law 1396 = some (((.invokevirtual 250), 3, (2, 0, 16), [9156, 9157, 9158], yX12_loadOf, 0)) := mw_is_eq (by decide +kernel)
theorem l_L_law_1399 : mw_lk d_L_law 1399 = some (mw_b (.istore 7) 2 7) := mw_is_eq (by decide +kernel)
theorem l_L_law_1401 : mw_lk d_L_law 1401 = some (mw_b (.aload_n 2) 1 2) := mw_is_eq (by decide +kernel)
theorem l_L_law_1402 : mw_lk d_L_law 1402 = some (((.invokevirtual 185), 3, (1, 0, 16), [8221, 8222, 8223], yX12_thrown, 0)) := mw_is_eq (by decide +kernel)
theorem l_L_law_1405 : mw_lk d_L_law 1405 = some (mw_b (.iload 6) 2 6) := mw_is_eq (by decide +kernel)
theorem l_L_law_1407 : mw_lk d_L_law 1407 = some (mw_b (.if_icmp .eq 5) 3 1412) := mw_is_eq (by decide +kernel)
theorem l_L_law_1410 : mw_lk d_L_law 1410 = some (mw_c (.iconst 0) 1 (0)) := mw_is_eq (by decide +kernel)
theorem l_L_law_1411 : mw_lk d_L_law 1411 = some (mw_a (.ireturn) 1) := mw_is_eq (by decide +kernel)
theorem l_L_law_1412 : mw_lk d_L_law 1412 = some (mw_b (.iload 6) 2 6) := mw_is_eq (by decide +kernel)
theorem l_L_law_1414 : mw_lk d_L_law 1414 = some (mw_b (.ifCond .ne 15) 3 1429) := mw_is_eq (by decide +kernel)
theorem l_L_law_1417 : mw_lk d_L_law 1417 = some (mw_b (.aload_n 3) 1 3) := mw_is_eq (by decide +kernel)
theorem l_L_law_1418 : mw_lk d_L_law 1418 = some (mw_c (.iconst 0) 1 (0)) := mw_is_eq (by decide +kernel)
theorem l_L_law_1419 : mw_lk d_L_law 1419 = some (mw_a (.laload) 1) := mw_is_eq (by decide +kernel)
theorem l_L_law_1420 : mw_lk d_L_law 1420 = some (mw_b (.iload 7) 2 7) := mw_is_eq (by decide +kernel)
theorem l_L_law_1422 : mw_lk d_L_law 1422 = some (mw_a (.i2l) 1) := mw_is_eq (by decide +kernel)
theorem l_L_law_1423 : mw_lk d_L_law 1423 = some (mw_a (.lcmp) 1) := mw_is_eq (by decide +kernel)
theorem l_L_law_1424 : mw_lk d_L_law 1424 = some (mw_b (.ifCond .eq 5) 3 1429) := mw_is_eq (by decide +kernel)
theorem l_L_law_1427 : mw_lk d_L_law 1427 = some (mw_c (.iconst 0) 1 (0)) := mw_is_eq (by decide +kernel)
theorem l_L_law_1428 : mw_lk d_L_law 1428 = some (mw_a (.ireturn) 1) := mw_is_eq (by decide +kernel)
theorem l_L_law_1429 : mw_lk d_L_law 1429 = some (mw_b (.goto 1871) 3 3300) := mw_is_eq (by decide +kernel)
theorem l_L_law_1432 : mw_lk d_L_law 1432 = some (mw_b (.aload_n 1) 1 1) := mw_is_eq (by decide +kernel)
theorem l_L_law_1433 : mw_lk d_L_law 1433 = some (mw_b (.aload_n 0) 1 0) := mw_is_eq (by decide +kernel)
theorem l_L_law_1434 : mw_lk d_L_law 1434 = some (mw_b (.iload 5) 2 5) := mw_is_eq (by decide +kernel)
theorem l_L_law_1436 : mw_lk d_L_law 1436 = some (mw_c (.iconst 1) 1 (1)) := mw_is_eq (by decide +kernel)
theorem l_L_law_1437 : mw_lk d_L_law 1437 = some (mw_a (.iadd) 1) := mw_is_eq (by decide +kernel)
theorem l_L_law_1438 : mw_lk d_L_law 1438 = some (mw_a (.iaload) 1) := mw_is_eq (by decide +kernel)
theorem l_L_law_1439 : mw_lk d_L_law 1439 = some (mw_b (.aload_n 0) 1 0) := mw_is_eq (by decide +kernel)
theorem l_L_law_1440 : mw_lk d_L_law 1440 = some (mw_b (.iload 5) 2 5) := mw_is_eq (by decide +kernel)
theorem l_L_law_1442 : mw_lk d_L_law 1442 = some (mw_c (.iconst 2) 1 (2)) := mw_is_eq (by decide +kernel)
theorem l_L_law_1443 : mw_lk d_L_law 1443 = some (mw_a (.iadd) 1) := mw_is_eq (by decide +kernel)
theorem l_L_law_1444 : mw_lk d_L_law 1444 = some (mw_a (.iaload) 1) := mw_is_eq (by decide +kernel)
theorem l_L_law_1445 : mw_lk d_L_law 1445 = some (mw_b (.aload_n 3) 1 3) := mw_is_eq (by decide +kernel)
theorem l_L_law_1446 : mw_lk d_L_law 1446 = some (((.invokestatic 251), 3, (4, 5, 0), [5195, 5196], yL_earliestArrival, 0)) := mw_is_eq (by decide +kernel)
theorem l_L_law_1449 : mw_lk d_L_law 1449 = some (mw_b (.istore 6) 2 6) := mw_is_eq (by decide +kernel)
theorem l_L_law_1451 : mw_lk d_L_law 1451 = some (mw_b (.aload_n 2) 1 2) := mw_is_eq (by decide +kernel)
theorem l_L_law_1452 : mw_lk d_L_law 1452 = some (mw_b (.aload_n 0) 1 0) := mw_is_eq (by decide +kernel)
theorem l_L_law_1453 : mw_lk d_L_law 1453 = some (mw_b (.iload 5) 2 5) := mw_is_eq (by decide +kernel)
theorem l_L_law_1455 : mw_lk d_L_law 1455 = some (mw_c (.iconst 1) 1 (1)) := mw_is_eq (by decide +kernel)
theorem l_L_law_1456 : mw_lk d_L_law 1456 = some (mw_a (.iadd) 1) := mw_is_eq (by decide +kernel)
theorem l_L_law_1457 : mw_lk d_L_law 1457 = some (mw_a (.iaload) 1) := mw_is_eq (by decide +kernel)
theorem l_L_law_1458 : mw_lk d_L_law 1458 = some (mw_b (.aload_n 0) 1 0) := mw_is_eq (by decide +kernel)
theorem l_L_law_1459 : mw_lk d_L_law 1459 = some (mw_b (.iload 5) 2 5) := mw_is_eq (by decide +kernel)
theorem l_L_law_1461 : mw_lk d_L_law 1461 = some (mw_c (.iconst 2) 1 (2)) := mw_is_eq (by decide +kernel)
theorem l_L_law_1462 : mw_lk d_L_law 1462 = some (mw_a (.iadd) 1) := mw_is_eq (by decide +kernel)
theorem l_L_law_1463 : mw_lk d_L_law 1463 = some (mw_a (.iaload) 1) := mw_is_eq (by decide +kernel)
theorem l_L_law_1464 : mw_lk d_L_law 1464 = some (((.invokevirtual 253), 3, (3, 0, 16), [9164, 9165, 9166], yX12_earliestArrival, 0)) := mw_is_eq (by decide +kernel)
theorem l_L_law_1467 : mw_lk d_L_law 1467 = some (mw_b (.istore 7) 2 7) := mw_is_eq (by decide +kernel)
theorem l_L_law_1469 : mw_lk d_L_law 1469 = some (mw_b (.aload_n 2) 1 2) := mw_is_eq (by decide +kernel)
theorem l_L_law_1470 : mw_lk d_L_law 1470 = some (((.invokevirtual 185), 3, (1, 0, 16), [8221, 8222, 8223], yX12_thrown, 0)) := mw_is_eq (by decide +kernel)
theorem l_L_law_1473 : mw_lk d_L_law 1473 = some (mw_b (.iload 6) 2 6) := mw_is_eq (by decide +kernel)
theorem l_L_law_1475 : mw_lk d_L_law 1475 = some (mw_b (.if_icmp .eq 5) 3 1480) := mw_is_eq (by decide +kernel)
theorem l_L_law_1478 : mw_lk d_L_law 1478 = some (mw_c (.iconst 0) 1 (0)) := mw_is_eq (by decide +kernel)
theorem l_L_law_1479 : mw_lk d_L_law 1479 = some (mw_a (.ireturn) 1) := mw_is_eq (by decide +kernel)
theorem l_L_law_1480 : mw_lk d_L_law 1480 = some (mw_b (.iload 6) 2 6) := mw_is_eq (by decide +kernel)
theorem l_L_law_1482 : mw_lk d_L_law 1482 = some (mw_b (.ifCond .ne 15) 3 1497) := mw_is_eq (by decide +kernel)
theorem l_L_law_1485 : mw_lk d_L_law 1485 = some (mw_b (.aload_n 3) 1 3) := mw_is_eq (by decide +kernel)
theorem l_L_law_1486 : mw_lk d_L_law 1486 = some (mw_c (.iconst 0) 1 (0)) := mw_is_eq (by decide +kernel)
theorem l_L_law_1487 : mw_lk d_L_law 1487 = some (mw_a (.laload) 1) := mw_is_eq (by decide +kernel)
theorem l_L_law_1488 : mw_lk d_L_law 1488 = some (mw_b (.iload 7) 2 7) := mw_is_eq (by decide +kernel)
theorem l_L_law_1490 : mw_lk d_L_law 1490 = some (mw_a (.i2l) 1) := mw_is_eq (by decide +kernel)
theorem l_L_law_1491 : mw_lk d_L_law 1491 = some (mw_a (.lcmp) 1) := mw_is_eq (by decide +kernel)
theorem l_L_law_1492 : mw_lk d_L_law 1492 = some (mw_b (.ifCond .eq 5) 3 1497) := mw_is_eq (by decide +kernel)
theorem l_L_law_1495 : mw_lk d_L_law 1495 = some (mw_c (.iconst 0) 1 (0)) := mw_is_eq (by decide +kernel)
theorem l_L_law_1496 : mw_lk d_L_law 1496 = some (mw_a (.ireturn) 1) := mw_is_eq (by decide +kernel)
theorem l_L_law_1497 : mw_lk d_L_law 1497 = some (mw_b (.goto 1803) 3 3300) := mw_is_eq (by decide +kernel)
theorem l_L_law_1500 : mw_lk d_L_law 1500 = some (mw_b (.aload_n 1) 1 1) := mw_is_eq (by decide +kernel)
theorem l_L_law_1501 : mw_lk d_L_law 1501 = some (mw_b (.aload_n 0) 1 0) := mw_is_eq (by decide +kernel)
theorem l_L_law_1502 : mw_lk d_L_law 1502 = some (mw_b (.iload 5) 2 5) := mw_is_eq (by decide +kernel)
theorem l_L_law_1504 : mw_lk d_L_law 1504 = some (mw_c (.iconst 1) 1 (1)) := mw_is_eq (by decide +kernel)
theorem l_L_law_1505 : mw_lk d_L_law 1505 = some (mw_a (.iadd) 1) := mw_is_eq (by decide +kernel)
theorem l_L_law_1506 : mw_lk d_L_law 1506 = some (mw_a (.iaload) 1) := mw_is_eq (by decide +kernel)
theorem l_L_law_1507 : mw_lk d_L_law 1507 = some (mw_b (.aload_n 0) 1 0) := mw_is_eq (by decide +kernel)
theorem l_L_law_1508 : mw_lk d_L_law 1508 = some (mw_b (.iload 5) 2 5) := mw_is_eq (by decide +kernel)
theorem l_L_law_1510 : mw_lk d_L_law 1510 = some (mw_c (.iconst 2) 1 (2)) := mw_is_eq (by decide +kernel)
theorem l_L_law_1511 : mw_lk d_L_law 1511 = some (mw_a (.iadd) 1) := mw_is_eq (by decide +kernel)
theorem l_L_law_1512 : mw_lk d_L_law 1512 = some (mw_a (.iaload) 1) := mw_is_eq (by decide +kernel)
theorem l_L_law_1513 : mw_lk d_L_law 1513 = some (mw_b (.aload_n 3) 1 3) := mw_is_eq (by decide +kernel)
theorem l_L_law_1514 : mw_lk d_L_law 1514 = some (((.invokestatic 254), 3, (4, 5, 0), [5202, 5203], yL_earliestArrivalByHours, 0)) := mw_is_eq (by decide +kernel)
theorem l_L_law_1517 : mw_lk d_L_law 1517 = some (mw_b (.istore 6) 2 6) := mw_is_eq (by decide +kernel)
theorem l_L_law_1519 : mw_lk d_L_law 1519 = some (mw_b (.aload_n 2) 1 2) := mw_is_eq (by decide +kernel)
theorem l_L_law_1520 : mw_lk d_L_law 1520 = some (mw_b (.aload_n 0) 1 0) := mw_is_eq (by decide +kernel)
theorem l_L_law_1521 : mw_lk d_L_law 1521 = some (mw_b (.iload 5) 2 5) := mw_is_eq (by decide +kernel)
theorem l_L_law_1523 : mw_lk d_L_law 1523 = some (mw_c (.iconst 1) 1 (1)) := mw_is_eq (by decide +kernel)
theorem l_L_law_1524 : mw_lk d_L_law 1524 = some (mw_a (.iadd) 1) := mw_is_eq (by decide +kernel)
theorem l_L_law_1525 : mw_lk d_L_law 1525 = some (mw_a (.iaload) 1) := mw_is_eq (by decide +kernel)
theorem l_L_law_1526 : mw_lk d_L_law 1526 = some (mw_b (.aload_n 0) 1 0) := mw_is_eq (by decide +kernel)
theorem l_L_law_1527 : mw_lk d_L_law 1527 = some (mw_b (.iload 5) 2 5) := mw_is_eq (by decide +kernel)
theorem l_L_law_1529 : mw_lk d_L_law 1529 = some (mw_c (.iconst 2) 1 (2)) := mw_is_eq (by decide +kernel)
theorem l_L_law_1530 : mw_lk d_L_law 1530 = some (mw_a (.iadd) 1) := mw_is_eq (by decide +kernel)
theorem l_L_law_1531 : mw_lk d_L_law 1531 = some (mw_a (.iaload) 1) := mw_is_eq (by decide +kernel)
theorem l_L_law_1532 : mw_lk d_L_law 1532 = some (((.invokevirtual 256), 3, (3, 0, 16), [9173, 9174, 9175], yX12_earliestArrivalByHours, 0)) := mw_is_eq (by decide +kernel)
theorem l_L_law_1535 : mw_lk d_L_law 1535 = some (mw_b (.istore 7) 2 7) := mw_is_eq (by decide +kernel)
theorem l_L_law_1537 : mw_lk d_L_law 1537 = some (mw_b (.aload_n 2) 1 2) := mw_is_eq (by decide +kernel)
theorem l_L_law_1538 : mw_lk d_L_law 1538 = some (((.invokevirtual 185), 3, (1, 0, 16), [8221, 8222, 8223], yX12_thrown, 0)) := mw_is_eq (by decide +kernel)
theorem l_L_law_1541 : mw_lk d_L_law 1541 = some (mw_b (.iload 6) 2 6) := mw_is_eq (by decide +kernel)
theorem l_L_law_1543 : mw_lk d_L_law 1543 = some (mw_b (.if_icmp .eq 5) 3 1548) := mw_is_eq (by decide +kernel)
theorem l_L_law_1546 : mw_lk d_L_law 1546 = some (mw_c (.iconst 0) 1 (0)) := mw_is_eq (by decide +kernel)
theorem l_L_law_1547 : mw_lk d_L_law 1547 = some (mw_a (.ireturn) 1) := mw_is_eq (by decide +kernel)
theorem l_L_law_1548 : mw_lk d_L_law 1548 = some (mw_b (.iload 6) 2 6) := mw_is_eq (by decide +kernel)
theorem l_L_law_1550 : mw_lk d_L_law 1550 = some (mw_b (.ifCond .ne 15) 3 1565) := mw_is_eq (by decide +kernel)
theorem l_L_law_1553 : mw_lk d_L_law 1553 = some (mw_b (.aload_n 3) 1 3) := mw_is_eq (by decide +kernel)
theorem l_L_law_1554 : mw_lk d_L_law 1554 = some (mw_c (.iconst 0) 1 (0)) := mw_is_eq (by decide +kernel)
theorem l_L_law_1555 : mw_lk d_L_law 1555 = some (mw_a (.laload) 1) := mw_is_eq (by decide +kernel)
theorem l_L_law_1556 : mw_lk d_L_law 1556 = some (mw_b (.iload 7) 2 7) := mw_is_eq (by decide +kernel)
theorem l_L_law_1558 : mw_lk d_L_law 1558 = some (mw_a (.i2l) 1) := mw_is_eq (by decide +kernel)
theorem l_L_law_1559 : mw_lk d_L_law 1559 = some (mw_a (.lcmp) 1) := mw_is_eq (by decide +kernel)
theorem l_L_law_1560 : mw_lk d_L_law 1560 = some (mw_b (.ifCond .eq 5) 3 1565) := mw_is_eq (by decide +kernel)
theorem l_L_law_1563 : mw_lk d_L_law 1563 = some (mw_c (.iconst 0) 1 (0)) := mw_is_eq (by decide +kernel)
theorem l_L_law_1564 : mw_lk d_L_law 1564 = some (mw_a (.ireturn) 1) := mw_is_eq (by decide +kernel)
theorem l_L_law_1565 : mw_lk d_L_law 1565 = some (mw_b (.goto 1735) 3 3300) := mw_is_eq (by decide +kernel)
theorem l_L_law_1568 : mw_lk d_L_law 1568 = some (mw_b (.aload_n 1) 1 1) := mw_is_eq (by decide +kernel)
theorem l_L_law_1569 : mw_lk d_L_law 1569 = some (mw_b (.aload_n 0) 1 0) := mw_is_eq (by decide +kernel)
theorem l_L_law_1570 : mw_lk d_L_law 1570 = some (mw_b (.iload 5) 2 5) := mw_is_eq (by decide +kernel)
theorem l_L_law_1572 : mw_lk d_L_law 1572 = some (mw_c (.iconst 1) 1 (1)) := mw_is_eq (by decide +kernel)
theorem l_L_law_1573 : mw_lk d_L_law 1573 = some (mw_a (.iadd) 1) := mw_is_eq (by decide +kernel)
theorem l_L_law_1574 : mw_lk d_L_law 1574 = some (mw_a (.iaload) 1) := mw_is_eq (by decide +kernel)
theorem l_L_law_1575 : mw_lk d_L_law 1575 = some (mw_b (.aload_n 0) 1 0) := mw_is_eq (by decide +kernel)
theorem l_L_law_1576 : mw_lk d_L_law 1576 = some (mw_b (.iload 5) 2 5) := mw_is_eq (by decide +kernel)
theorem l_L_law_1578 : mw_lk d_L_law 1578 = some (mw_c (.iconst 2) 1 (2)) := mw_is_eq (by decide +kernel)
theorem l_L_law_1579 : mw_lk d_L_law 1579 = some (mw_a (.iadd) 1) := mw_is_eq (by decide +kernel)
theorem l_L_law_1580 : mw_lk d_L_law 1580 = some (mw_a (.iaload) 1) := mw_is_eq (by decide +kernel)
theorem l_L_law_1581 : mw_lk d_L_law 1581 = some (mw_b (.aload_n 0) 1 0) := mw_is_eq (by decide +kernel)
theorem l_L_law_1582 : mw_lk d_L_law 1582 = some (mw_b (.iload 5) 2 5) := mw_is_eq (by decide +kernel)
theorem l_L_law_1584 : mw_lk d_L_law 1584 = some (mw_c (.iconst 3) 1 (3)) := mw_is_eq (by decide +kernel)
theorem l_L_law_1585 : mw_lk d_L_law 1585 = some (mw_a (.iadd) 1) := mw_is_eq (by decide +kernel)
theorem l_L_law_1586 : mw_lk d_L_law 1586 = some (mw_a (.iaload) 1) := mw_is_eq (by decide +kernel)
theorem l_L_law_1587 : mw_lk d_L_law 1587 = some (mw_b (.aload_n 0) 1 0) := mw_is_eq (by decide +kernel)
theorem l_L_law_1588 : mw_lk d_L_law 1588 = some (mw_b (.iload 5) 2 5) := mw_is_eq (by decide +kernel)
theorem l_L_law_1590 : mw_lk d_L_law 1590 = some (mw_c (.iconst 4) 1 (4)) := mw_is_eq (by decide +kernel)
theorem l_L_law_1591 : mw_lk d_L_law 1591 = some (mw_a (.iadd) 1) := mw_is_eq (by decide +kernel)
theorem l_L_law_1592 : mw_lk d_L_law 1592 = some (mw_a (.iaload) 1) := mw_is_eq (by decide +kernel)
theorem l_L_law_1593 : mw_lk d_L_law 1593 = some (mw_b (.aload_n 3) 1 3) := mw_is_eq (by decide +kernel)
theorem l_L_law_1594 : mw_lk d_L_law 1594 = some (((.invokestatic 257), 3, (6, 5, 0), [5209, 5210], yL_addMoon, 0)) := mw_is_eq (by decide +kernel)
theorem l_L_law_1597 : mw_lk d_L_law 1597 = some (mw_b (.istore 6) 2 6) := mw_is_eq (by decide +kernel)
theorem l_L_law_1599 : mw_lk d_L_law 1599 = some (mw_b (.aload_n 2) 1 2) := mw_is_eq (by decide +kernel)
theorem l_L_law_1600 : mw_lk d_L_law 1600 = some (mw_b (.aload_n 0) 1 0) := mw_is_eq (by decide +kernel)
theorem l_L_law_1601 : mw_lk d_L_law 1601 = some (mw_b (.iload 5) 2 5) := mw_is_eq (by decide +kernel)
theorem l_L_law_1603 : mw_lk d_L_law 1603 = some (mw_c (.iconst 1) 1 (1)) := mw_is_eq (by decide +kernel)
theorem l_L_law_1604 : mw_lk d_L_law 1604 = some (mw_a (.iadd) 1) := mw_is_eq (by decide +kernel)
theorem l_L_law_1605 : mw_lk d_L_law 1605 = some (mw_a (.iaload) 1) := mw_is_eq (by decide +kernel)
theorem l_L_law_1606 : mw_lk d_L_law 1606 = some (mw_b (.aload_n 0) 1 0) := mw_is_eq (by decide +kernel)
theorem l_L_law_1607 : mw_lk d_L_law 1607 = some (mw_b (.iload 5) 2 5) := mw_is_eq (by decide +kernel)
theorem l_L_law_1609 : mw_lk d_L_law 1609 = some (mw_c (.iconst 2) 1 (2)) := mw_is_eq (by decide +kernel)
theorem l_L_law_1610 : mw_lk d_L_law 1610 = some (mw_a (.iadd) 1) := mw_is_eq (by decide +kernel)
theorem l_L_law_1611 : mw_lk d_L_law 1611 = some (mw_a (.iaload) 1) := mw_is_eq (by decide +kernel)
theorem l_L_law_1612 : mw_lk d_L_law 1612 = some (mw_b (.aload_n 0) 1 0) := mw_is_eq (by decide +kernel)
theorem l_L_law_1613 : mw_lk d_L_law 1613 = some (mw_b (.iload 5) 2 5) := mw_is_eq (by decide +kernel)
theorem l_L_law_1615 : mw_lk d_L_law 1615 = some (mw_c (.iconst 3) 1 (3)) := mw_is_eq (by decide +kernel)
theorem l_L_law_1616 : mw_lk d_L_law 1616 = some (mw_a (.iadd) 1) := mw_is_eq (by decide +kernel)
theorem l_L_law_1617 : mw_lk d_L_law 1617 = some (mw_a (.iaload) 1) := mw_is_eq (by decide +kernel)
theorem l_L_law_1618 : mw_lk d_L_law 1618 = some (mw_b (.aload_n 0) 1 0) := mw_is_eq (by decide +kernel)
theorem l_L_law_1619 : mw_lk d_L_law 1619 = some (mw_b (.iload 5) 2 5) := mw_is_eq (by decide +kernel)
theorem l_L_law_1621 : mw_lk d_L_law 1621 = some (mw_c (.iconst 4) 1 (4)) := mw_is_eq (by decide +kernel)
theorem l_L_law_1622 : mw_lk d_L_law 1622 = some (mw_a (.iadd) 1) := mw_is_eq (by decide +kernel)
theorem l_L_law_1623 : mw_lk d_L_law 1623 = some (mw_a (.iaload) 1) := mw_is_eq (by decide +kernel)
theorem l_L_law_1624 : mw_lk d_L_law 1624 = some (((.invokevirtual 259), 3, (5, 0, 16), [9178, 9179, 9180], yX12_addMoon, 0)) := mw_is_eq (by decide +kernel)
theorem l_L_law_1627 : mw_lk d_L_law 1627 = some (mw_b (.istore 7) 2 7) := mw_is_eq (by decide +kernel)
theorem l_L_law_1629 : mw_lk d_L_law 1629 = some (mw_b (.aload_n 2) 1 2) := mw_is_eq (by decide +kernel)
theorem l_L_law_1630 : mw_lk d_L_law 1630 = some (((.invokevirtual 185), 3, (1, 0, 16), [8221, 8222, 8223], yX12_thrown, 0)) := mw_is_eq (by decide +kernel)
theorem l_L_law_1633 : mw_lk d_L_law 1633 = some (mw_b (.iload 6) 2 6) := mw_is_eq (by decide +kernel)
theorem l_L_law_1635 : mw_lk d_L_law 1635 = some (mw_b (.if_icmp .eq 5) 3 1640) := mw_is_eq (by decide +kernel)
theorem l_L_law_1638 : mw_lk d_L_law 1638 = some (mw_c (.iconst 0) 1 (0)) := mw_is_eq (by decide +kernel)
theorem l_L_law_1639 : mw_lk d_L_law 1639 = some (mw_a (.ireturn) 1) := mw_is_eq (by decide +kernel)
theorem l_L_law_1640 : mw_lk d_L_law 1640 = some (mw_b (.iload 6) 2 6) := mw_is_eq (by decide +kernel)
theorem l_L_law_1642 : mw_lk d_L_law 1642 = some (mw_b (.ifCond .ne 15) 3 1657) := mw_is_eq (by decide +kernel)
theorem l_L_law_1645 : mw_lk d_L_law 1645 = some (mw_b (.aload_n 3) 1 3) := mw_is_eq (by decide +kernel)
theorem l_L_law_1646 : mw_lk d_L_law 1646 = some (mw_c (.iconst 0) 1 (0)) := mw_is_eq (by decide +kernel)
theorem l_L_law_1647 : mw_lk d_L_law 1647 = some (mw_a (.laload) 1) := mw_is_eq (by decide +kernel)
theorem l_L_law_1648 : mw_lk d_L_law 1648 = some (mw_b (.iload 7) 2 7) := mw_is_eq (by decide +kernel)
theorem l_L_law_1650 : mw_lk d_L_law 1650 = some (mw_a (.i2l) 1) := mw_is_eq (by decide +kernel)
theorem l_L_law_1651 : mw_lk d_L_law 1651 = some (mw_a (.lcmp) 1) := mw_is_eq (by decide +kernel)
theorem l_L_law_1652 : mw_lk d_L_law 1652 = some (mw_b (.ifCond .eq 5) 3 1657) := mw_is_eq (by decide +kernel)
theorem l_L_law_1655 : mw_lk d_L_law 1655 = some (mw_c (.iconst 0) 1 (0)) := mw_is_eq (by decide +kernel)
theorem l_L_law_1656 : mw_lk d_L_law 1656 = some (mw_a (.ireturn) 1) := mw_is_eq (by decide +kernel)
theorem l_L_law_1657 : mw_lk d_L_law 1657 = some (mw_b (.goto 1643) 3 3300) := mw_is_eq (by decide +kernel)
theorem l_L_law_1660 : mw_lk d_L_law 1660 = some (mw_b (.aload_n 1) 1 1) := mw_is_eq (by decide +kernel)
theorem l_L_law_1661 : mw_lk d_L_law 1661 = some (mw_b (.aload_n 0) 1 0) := mw_is_eq (by decide +kernel)
theorem l_L_law_1662 : mw_lk d_L_law 1662 = some (mw_b (.iload 5) 2 5) := mw_is_eq (by decide +kernel)
theorem l_L_law_1664 : mw_lk d_L_law 1664 = some (mw_c (.iconst 1) 1 (1)) := mw_is_eq (by decide +kernel)
theorem l_L_law_1665 : mw_lk d_L_law 1665 = some (mw_a (.iadd) 1) := mw_is_eq (by decide +kernel)
theorem l_L_law_1666 : mw_lk d_L_law 1666 = some (mw_a (.iaload) 1) := mw_is_eq (by decide +kernel)
theorem l_L_law_1667 : mw_lk d_L_law 1667 = some (mw_b (.aload_n 0) 1 0) := mw_is_eq (by decide +kernel)
theorem l_L_law_1668 : mw_lk d_L_law 1668 = some (mw_b (.iload 5) 2 5) := mw_is_eq (by decide +kernel)
theorem l_L_law_1670 : mw_lk d_L_law 1670 = some (mw_c (.iconst 2) 1 (2)) := mw_is_eq (by decide +kernel)
theorem l_L_law_1671 : mw_lk d_L_law 1671 = some (mw_a (.iadd) 1) := mw_is_eq (by decide +kernel)
theorem l_L_law_1672 : mw_lk d_L_law 1672 = some (mw_a (.iaload) 1) := mw_is_eq (by decide +kernel)
theorem l_L_law_1673 : mw_lk d_L_law 1673 = some (mw_b (.aload_n 3) 1 3) := mw_is_eq (by decide +kernel)
theorem l_L_law_1674 : mw_lk d_L_law 1674 = some (((.invokestatic 260), 3, (4, 5, 0), [5224, 5225], yL_board, 0)) := mw_is_eq (by decide +kernel)
theorem l_L_law_1677 : mw_lk d_L_law 1677 = some (mw_b (.istore 6) 2 6) := mw_is_eq (by decide +kernel)
theorem l_L_law_1679 : mw_lk d_L_law 1679 = some (mw_b (.aload_n 2) 1 2) := mw_is_eq (by decide +kernel)
theorem l_L_law_1680 : mw_lk d_L_law 1680 = some (mw_b (.aload_n 0) 1 0) := mw_is_eq (by decide +kernel)
theorem l_L_law_1681 : mw_lk d_L_law 1681 = some (mw_b (.iload 5) 2 5) := mw_is_eq (by decide +kernel)
theorem l_L_law_1683 : mw_lk d_L_law 1683 = some (mw_c (.iconst 1) 1 (1)) := mw_is_eq (by decide +kernel)
theorem l_L_law_1684 : mw_lk d_L_law 1684 = some (mw_a (.iadd) 1) := mw_is_eq (by decide +kernel)
theorem l_L_law_1685 : mw_lk d_L_law 1685 = some (mw_a (.iaload) 1) := mw_is_eq (by decide +kernel)
theorem l_L_law_1686 : mw_lk d_L_law 1686 = some (mw_b (.aload_n 0) 1 0) := mw_is_eq (by decide +kernel)
theorem l_L_law_1687 : mw_lk d_L_law 1687 = some (mw_b (.iload 5) 2 5) := mw_is_eq (by decide +kernel)
theorem l_L_law_1689 : mw_lk d_L_law 1689 = some (mw_c (.iconst 2) 1 (2)) := mw_is_eq (by decide +kernel)
theorem l_L_law_1690 : mw_lk d_L_law 1690 = some (mw_a (.iadd) 1) := mw_is_eq (by decide +kernel)
theorem l_L_law_1691 : mw_lk d_L_law 1691 = some (mw_a (.iaload) 1) := mw_is_eq (by decide +kernel)
theorem l_L_law_1692 : mw_lk d_L_law 1692 = some (((.invokevirtual 262), 3, (3, 0, 16), [9186, 9187, 9188], yX12_board, 0)) := mw_is_eq (by decide +kernel)
theorem l_L_law_1695 : mw_lk d_L_law 1695 = some (mw_b (.istore 7) 2 7) := mw_is_eq (by decide +kernel)
theorem l_L_law_1697 : mw_lk d_L_law 1697 = some (mw_b (.aload_n 2) 1 2) := mw_is_eq (by decide +kernel)
theorem l_L_law_1698 : mw_lk d_L_law 1698 = some (((.invokevirtual 185), 3, (1, 0, 16), [8221, 8222, 8223], yX12_thrown, 0)) := mw_is_eq (by decide +kernel)
theorem l_L_law_1701 : mw_lk d_L_law 1701 = some (mw_b (.iload 6) 2 6) := mw_is_eq (by decide +kernel)
theorem l_L_law_1703 : mw_lk d_L_law 1703 = some (mw_b (.if_icmp .eq 5) 3 1708) := mw_is_eq (by decide +kernel)
theorem l_L_law_1706 : mw_lk d_L_law 1706 = some (mw_c (.iconst 0) 1 (0)) := mw_is_eq (by decide +kernel)
theorem l_L_law_1707 : mw_lk d_L_law 1707 = some (mw_a (.ireturn) 1) := mw_is_eq (by decide +kernel)
theorem l_L_law_1708 : mw_lk d_L_law 1708 = some (mw_b (.iload 6) 2 6) := mw_is_eq (by decide +kernel)
theorem l_L_law_1710 : mw_lk d_L_law 1710 = some (mw_b (.ifCond .ne 15) 3 1725) := mw_is_eq (by decide +kernel)
theorem l_L_law_1713 : mw_lk d_L_law 1713 = some (mw_b (.aload_n 3) 1 3) := mw_is_eq (by decide +kernel)
theorem l_L_law_1714 : mw_lk d_L_law 1714 = some (mw_c (.iconst 0) 1 (0)) := mw_is_eq (by decide +kernel)
theorem l_L_law_1715 : mw_lk d_L_law 1715 = some (mw_a (.laload) 1) := mw_is_eq (by decide +kernel)
theorem l_L_law_1716 : mw_lk d_L_law 1716 = some (mw_b (.iload 7) 2 7) := mw_is_eq (by decide +kernel)
theorem l_L_law_1718 : mw_lk d_L_law 1718 = some (mw_a (.i2l) 1) := mw_is_eq (by decide +kernel)
theorem l_L_law_1719 : mw_lk d_L_law 1719 = some (mw_a (.lcmp) 1) := mw_is_eq (by decide +kernel)
theorem l_L_law_1720 : mw_lk d_L_law 1720 = some (mw_b (.ifCond .eq 5) 3 1725) := mw_is_eq (by decide +kernel)
theorem l_L_law_1723 : mw_lk d_L_law 1723 = some (mw_c (.iconst 0) 1 (0)) := mw_is_eq (by decide +kernel)
theorem l_L_law_1724 : mw_lk d_L_law 1724 = some (mw_a (.ireturn) 1) := mw_is_eq (by decide +kernel)
theorem l_L_law_1725 : mw_lk d_L_law 1725 = some (mw_b (.goto 1575) 3 3300) := mw_is_eq (by decide +kernel)
theorem l_L_law_1728 : mw_lk d_L_law 1728 = some (mw_b (.aload_n 1) 1 1) := mw_is_eq (by decide +kernel)
theorem l_L_law_1729 : mw_lk d_L_law 1729 = some (mw_b (.aload_n 0) 1 0) := mw_is_eq (by decide +kernel)
theorem l_L_law_1730 : mw_lk d_L_law 1730 = some (mw_b (.iload 5) 2 5) := mw_is_eq (by decide +kernel)
theorem l_L_law_1732 : mw_lk d_L_law 1732 = some (mw_c (.iconst 1) 1 (1)) := mw_is_eq (by decide +kernel)
theorem l_L_law_1733 : mw_lk d_L_law 1733 = some (mw_a (.iadd) 1) := mw_is_eq (by decide +kernel)
theorem l_L_law_1734 : mw_lk d_L_law 1734 = some (mw_a (.iaload) 1) := mw_is_eq (by decide +kernel)
theorem l_L_law_1735 : mw_lk d_L_law 1735 = some (mw_b (.aload_n 3) 1 3) := mw_is_eq (by decide +kernel)
theorem l_L_law_1736 : mw_lk d_L_law 1736 = some (((.invokestatic 263), 3, (3, 5, 0), [6004, 6005], yL_land, 0)) := mw_is_eq (by decide +kernel)
theorem l_L_law_1739 : mw_lk d_L_law 1739 = some (mw_b (.istore 6) 2 6) := mw_is_eq (by decide +kernel)
theorem l_L_law_1741 : mw_lk d_L_law 1741 = some (mw_b (.aload_n 2) 1 2) := mw_is_eq (by decide +kernel)
theorem l_L_law_1742 : mw_lk d_L_law 1742 = some (mw_b (.aload_n 0) 1 0) := mw_is_eq (by decide +kernel)
theorem l_L_law_1743 : mw_lk d_L_law 1743 = some (mw_b (.iload 5) 2 5) := mw_is_eq (by decide +kernel)
theorem l_L_law_1745 : mw_lk d_L_law 1745 = some (mw_c (.iconst 1) 1 (1)) := mw_is_eq (by decide +kernel)
theorem l_L_law_1746 : mw_lk d_L_law 1746 = some (mw_a (.iadd) 1) := mw_is_eq (by decide +kernel)
theorem l_L_law_1747 : mw_lk d_L_law 1747 = some (mw_a (.iaload) 1) := mw_is_eq (by decide +kernel)
theorem l_L_law_1748 : mw_lk d_L_law 1748 = some (((.invokevirtual 265), 3, (2, 0, 16), [9198, 9199, 9200], yX12_land, 0)) := mw_is_eq (by decide +kernel)
theorem l_L_law_1751 : mw_lk d_L_law 1751 = some (mw_b (.istore 7) 2 7) := mw_is_eq (by decide +kernel)
theorem l_L_law_1753 : mw_lk d_L_law 1753 = some (mw_b (.aload_n 2) 1 2) := mw_is_eq (by decide +kernel)
theorem l_L_law_1754 : mw_lk d_L_law 1754 = some (((.invokevirtual 185), 3, (1, 0, 16), [8221, 8222, 8223], yX12_thrown, 0)) := mw_is_eq (by decide +kernel)
theorem l_L_law_1757 : mw_lk d_L_law 1757 = some (mw_b (.iload 6) 2 6) := mw_is_eq (by decide +kernel)
theorem l_L_law_1759 : mw_lk d_L_law 1759 = some (mw_b (.if_icmp .eq 5) 3 1764) := mw_is_eq (by decide +kernel)
theorem l_L_law_1762 : mw_lk d_L_law 1762 = some (mw_c (.iconst 0) 1 (0)) := mw_is_eq (by decide +kernel)
theorem l_L_law_1763 : mw_lk d_L_law 1763 = some (mw_a (.ireturn) 1) := mw_is_eq (by decide +kernel)
theorem l_L_law_1764 : mw_lk d_L_law 1764 = some (mw_b (.iload 6) 2 6) := mw_is_eq (by decide +kernel)
theorem l_L_law_1766 : mw_lk d_L_law 1766 = some (mw_b (.ifCond .ne 15) 3 1781) := mw_is_eq (by decide +kernel)
theorem l_L_law_1769 : mw_lk d_L_law 1769 = some (mw_b (.aload_n 3) 1 3) := mw_is_eq (by decide +kernel)
theorem l_L_law_1770 : mw_lk d_L_law 1770 = some (mw_c (.iconst 0) 1 (0)) := mw_is_eq (by decide +kernel)
theorem l_L_law_1771 : mw_lk d_L_law 1771 = some (mw_a (.laload) 1) := mw_is_eq (by decide +kernel)
theorem l_L_law_1772 : mw_lk d_L_law 1772 = some (mw_b (.iload 7) 2 7) := mw_is_eq (by decide +kernel)
theorem l_L_law_1774 : mw_lk d_L_law 1774 = some (mw_a (.i2l) 1) := mw_is_eq (by decide +kernel)
theorem l_L_law_1775 : mw_lk d_L_law 1775 = some (mw_a (.lcmp) 1) := mw_is_eq (by decide +kernel)
theorem l_L_law_1776 : mw_lk d_L_law 1776 = some (mw_b (.ifCond .eq 5) 3 1781) := mw_is_eq (by decide +kernel)
theorem l_L_law_1779 : mw_lk d_L_law 1779 = some (mw_c (.iconst 0) 1 (0)) := mw_is_eq (by decide +kernel)
theorem l_L_law_1780 : mw_lk d_L_law 1780 = some (mw_a (.ireturn) 1) := mw_is_eq (by decide +kernel)
theorem l_L_law_1781 : mw_lk d_L_law 1781 = some (mw_b (.goto 1519) 3 3300) := mw_is_eq (by decide +kernel)
theorem l_L_law_1784 : mw_lk d_L_law 1784 = some (mw_b (.aload_n 1) 1 1) := mw_is_eq (by decide +kernel)
theorem l_L_law_1785 : mw_lk d_L_law 1785 = some (mw_b (.aload_n 0) 1 0) := mw_is_eq (by decide +kernel)
theorem l_L_law_1786 : mw_lk d_L_law 1786 = some (mw_b (.iload 5) 2 5) := mw_is_eq (by decide +kernel)
theorem l_L_law_1788 : mw_lk d_L_law 1788 = some (mw_c (.iconst 1) 1 (1)) := mw_is_eq (by decide +kernel)
theorem l_L_law_1789 : mw_lk d_L_law 1789 = some (mw_a (.iadd) 1) := mw_is_eq (by decide +kernel)
theorem l_L_law_1790 : mw_lk d_L_law 1790 = some (mw_a (.iaload) 1) := mw_is_eq (by decide +kernel)
theorem l_L_law_1791 : mw_lk d_L_law 1791 = some (mw_b (.aload_n 3) 1 3) := mw_is_eq (by decide +kernel)
theorem l_L_law_1792 : mw_lk d_L_law 1792 = some (((.invokestatic 266), 3, (3, 5, 0), [6020, 6021], yL_loadBest, 0)) := mw_is_eq (by decide +kernel)
theorem l_L_law_1795 : mw_lk d_L_law 1795 = some (mw_b (.istore 6) 2 6) := mw_is_eq (by decide +kernel)
theorem l_L_law_1797 : mw_lk d_L_law 1797 = some (mw_b (.aload_n 2) 1 2) := mw_is_eq (by decide +kernel)
theorem l_L_law_1798 : mw_lk d_L_law 1798 = some (mw_b (.aload_n 0) 1 0) := mw_is_eq (by decide +kernel)
theorem l_L_law_1799 : mw_lk d_L_law 1799 = some (mw_b (.iload 5) 2 5) := mw_is_eq (by decide +kernel)
theorem l_L_law_1801 : mw_lk d_L_law 1801 = some (mw_c (.iconst 1) 1 (1)) := mw_is_eq (by decide +kernel)
theorem l_L_law_1802 : mw_lk d_L_law 1802 = some (mw_a (.iadd) 1) := mw_is_eq (by decide +kernel)
theorem l_L_law_1803 : mw_lk d_L_law 1803 = some (mw_a (.iaload) 1) := mw_is_eq (by decide +kernel)
theorem l_L_law_1804 : mw_lk d_L_law 1804 = some (((.invokevirtual 268), 3, (2, 0, 16), [9214, 9215, 9216], yX12_loadBest, 0)) := mw_is_eq (by decide +kernel)
theorem l_L_law_1807 : mw_lk d_L_law 1807 = some (mw_b (.istore 7) 2 7) := mw_is_eq (by decide +kernel)
theorem l_L_law_1809 : mw_lk d_L_law 1809 = some (mw_b (.aload_n 2) 1 2) := mw_is_eq (by decide +kernel)
theorem l_L_law_1810 : mw_lk d_L_law 1810 = some (((.invokevirtual 185), 3, (1, 0, 16), [8221, 8222, 8223], yX12_thrown, 0)) := mw_is_eq (by decide +kernel)
theorem l_L_law_1813 : mw_lk d_L_law 1813 = some (mw_b (.iload 6) 2 6) := mw_is_eq (by decide +kernel)
theorem l_L_law_1815 : mw_lk d_L_law 1815 = some (mw_b (.if_icmp .eq 5) 3 1820) := mw_is_eq (by decide +kernel)
theorem l_L_law_1818 : mw_lk d_L_law 1818 = some (mw_c (.iconst 0) 1 (0)) := mw_is_eq (by decide +kernel)
theorem l_L_law_1819 : mw_lk d_L_law 1819 = some (mw_a (.ireturn) 1) := mw_is_eq (by decide +kernel)
theorem l_L_law_1820 : mw_lk d_L_law 1820 = some (mw_b (.iload 6) 2 6) := mw_is_eq (by decide +kernel)
theorem l_L_law_1822 : mw_lk d_L_law 1822 = some (mw_b (.ifCond .ne 15) 3 1837) := mw_is_eq (by decide +kernel)
theorem l_L_law_1825 : mw_lk d_L_law 1825 = some (mw_b (.aload_n 3) 1 3) := mw_is_eq (by decide +kernel)
theorem l_L_law_1826 : mw_lk d_L_law 1826 = some (mw_c (.iconst 0) 1 (0)) := mw_is_eq (by decide +kernel)
theorem l_L_law_1827 : mw_lk d_L_law 1827 = some (mw_a (.laload) 1) := mw_is_eq (by decide +kernel)
theorem l_L_law_1828 : mw_lk d_L_law 1828 = some (mw_b (.iload 7) 2 7) := mw_is_eq (by decide +kernel)
theorem l_L_law_1830 : mw_lk d_L_law 1830 = some (mw_a (.i2l) 1) := mw_is_eq (by decide +kernel)
theorem l_L_law_1831 : mw_lk d_L_law 1831 = some (mw_a (.lcmp) 1) := mw_is_eq (by decide +kernel)
theorem l_L_law_1832 : mw_lk d_L_law 1832 = some (mw_b (.ifCond .eq 5) 3 1837) := mw_is_eq (by decide +kernel)
theorem l_L_law_1835 : mw_lk d_L_law 1835 = some (mw_c (.iconst 0) 1 (0)) := mw_is_eq (by decide +kernel)
theorem l_L_law_1836 : mw_lk d_L_law 1836 = some (mw_a (.ireturn) 1) := mw_is_eq (by decide +kernel)
theorem l_L_law_1837 : mw_lk d_L_law 1837 = some (mw_b (.goto 1463) 3 3300) := mw_is_eq (by decide +kernel)
theorem l_L_law_1840 : mw_lk d_L_law 1840 = some (mw_b (.aload_n 1) 1 1) := mw_is_eq (by decide +kernel)
theorem l_L_law_1841 : mw_lk d_L_law 1841 = some (mw_b (.aload_n 0) 1 0) := mw_is_eq (by decide +kernel)
theorem l_L_law_1842 : mw_lk d_L_law 1842 = some (mw_b (.iload 5) 2 5) := mw_is_eq (by decide +kernel)
theorem l_L_law_1844 : mw_lk d_L_law 1844 = some (mw_c (.iconst 1) 1 (1)) := mw_is_eq (by decide +kernel)
theorem l_L_law_1845 : mw_lk d_L_law 1845 = some (mw_a (.iadd) 1) := mw_is_eq (by decide +kernel)
theorem l_L_law_1846 : mw_lk d_L_law 1846 = some (mw_a (.iaload) 1) := mw_is_eq (by decide +kernel)
theorem l_L_law_1847 : mw_lk d_L_law 1847 = some (mw_b (.aload_n 3) 1 3) := mw_is_eq (by decide +kernel)
theorem l_L_law_1848 : mw_lk d_L_law 1848 = some (((.invokestatic 269), 3, (3, 5, 0), [6033, 6034], yL_bestLoad, 0)) := mw_is_eq (by decide +kernel)
theorem l_L_law_1851 : mw_lk d_L_law 1851 = some (mw_b (.istore 6) 2 6) := mw_is_eq (by decide +kernel)
theorem l_L_law_1853 : mw_lk d_L_law 1853 = some (mw_b (.aload_n 2) 1 2) := mw_is_eq (by decide +kernel)
theorem l_L_law_1854 : mw_lk d_L_law 1854 = some (mw_b (.aload_n 0) 1 0) := mw_is_eq (by decide +kernel)
theorem l_L_law_1855 : mw_lk d_L_law 1855 = some (mw_b (.iload 5) 2 5) := mw_is_eq (by decide +kernel)
theorem l_L_law_1857 : mw_lk d_L_law 1857 = some (mw_c (.iconst 1) 1 (1)) := mw_is_eq (by decide +kernel)
theorem l_L_law_1858 : mw_lk d_L_law 1858 = some (mw_a (.iadd) 1) := mw_is_eq (by decide +kernel)
theorem l_L_law_1859 : mw_lk d_L_law 1859 = some (mw_a (.iaload) 1) := mw_is_eq (by decide +kernel)
theorem l_L_law_1860 : mw_lk d_L_law 1860 = some (((.invokevirtual 271), 3, (2, 0, 16), [9237, 9238, 9239], yX12_bestLoad, 0)) := mw_is_eq (by decide +kernel)
theorem l_L_law_1863 : mw_lk d_L_law 1863 = some (mw_b (.istore 7) 2 7) := mw_is_eq (by decide +kernel)
theorem l_L_law_1865 : mw_lk d_L_law 1865 = some (mw_b (.aload_n 2) 1 2) := mw_is_eq (by decide +kernel)
theorem l_L_law_1866 : mw_lk d_L_law 1866 = some (((.invokevirtual 185), 3, (1, 0, 16), [8221, 8222, 8223], yX12_thrown, 0)) := mw_is_eq (by decide +kernel)
theorem l_L_law_1869 : mw_lk d_L_law 1869 = some (mw_b (.iload 6) 2 6) := mw_is_eq (by decide +kernel)
theorem l_L_law_1871 : mw_lk d_L_law 1871 = some (mw_b (.if_icmp .eq 5) 3 1876) := mw_is_eq (by decide +kernel)
theorem l_L_law_1874 : mw_lk d_L_law 1874 = some (mw_c (.iconst 0) 1 (0)) := mw_is_eq (by decide +kernel)
theorem l_L_law_1875 : mw_lk d_L_law 1875 = some (mw_a (.ireturn) 1) := mw_is_eq (by decide +kernel)
theorem l_L_law_1876 : mw_lk d_L_law 1876 = some (mw_b (.iload 6) 2 6) := mw_is_eq (by decide +kernel)
theorem l_L_law_1878 : mw_lk d_L_law 1878 = some (mw_b (.ifCond .ne 15) 3 1893) := mw_is_eq (by decide +kernel)
theorem l_L_law_1881 : mw_lk d_L_law 1881 = some (mw_b (.aload_n 3) 1 3) := mw_is_eq (by decide +kernel)
theorem l_L_law_1882 : mw_lk d_L_law 1882 = some (mw_c (.iconst 0) 1 (0)) := mw_is_eq (by decide +kernel)
theorem l_L_law_1883 : mw_lk d_L_law 1883 = some (mw_a (.laload) 1) := mw_is_eq (by decide +kernel)
theorem l_L_law_1884 : mw_lk d_L_law 1884 = some (mw_b (.iload 7) 2 7) := mw_is_eq (by decide +kernel)
theorem l_L_law_1886 : mw_lk d_L_law 1886 = some (mw_a (.i2l) 1) := mw_is_eq (by decide +kernel)
theorem l_L_law_1887 : mw_lk d_L_law 1887 = some (mw_a (.lcmp) 1) := mw_is_eq (by decide +kernel)
theorem l_L_law_1888 : mw_lk d_L_law 1888 = some (mw_b (.ifCond .eq 5) 3 1893) := mw_is_eq (by decide +kernel)
theorem l_L_law_1891 : mw_lk d_L_law 1891 = some (mw_c (.iconst 0) 1 (0)) := mw_is_eq (by decide +kernel)
theorem l_L_law_1892 : mw_lk d_L_law 1892 = some (mw_a (.ireturn) 1) := mw_is_eq (by decide +kernel)
theorem l_L_law_1893 : mw_lk d_L_law 1893 = some (mw_b (.goto 1407) 3 3300) := mw_is_eq (by decide +kernel)
theorem l_L_law_1896 : mw_lk d_L_law 1896 = some (mw_b (.aload_n 1) 1 1) := mw_is_eq (by decide +kernel)
theorem l_L_law_1897 : mw_lk d_L_law 1897 = some (mw_b (.aload_n 0) 1 0) := mw_is_eq (by decide +kernel)
theorem l_L_law_1898 : mw_lk d_L_law 1898 = some (mw_b (.iload 5) 2 5) := mw_is_eq (by decide +kernel)
theorem l_L_law_1900 : mw_lk d_L_law 1900 = some (mw_c (.iconst 1) 1 (1)) := mw_is_eq (by decide +kernel)
theorem l_L_law_1901 : mw_lk d_L_law 1901 = some (mw_a (.iadd) 1) := mw_is_eq (by decide +kernel)
theorem l_L_law_1902 : mw_lk d_L_law 1902 = some (mw_a (.iaload) 1) := mw_is_eq (by decide +kernel)
theorem l_L_law_1903 : mw_lk d_L_law 1903 = some (mw_b (.aload_n 3) 1 3) := mw_is_eq (by decide +kernel)
theorem l_L_law_1904 : mw_lk d_L_law 1904 = some (((.invokestatic 272), 3, (3, 5, 0), [6040, 6041], yL_bestLoadByTable, 0)) := mw_is_eq (by decide +kernel)
theorem l_L_law_1907 : mw_lk d_L_law 1907 = some (mw_b (.istore 6) 2 6) := mw_is_eq (by decide +kernel)
theorem l_L_law_1909 : mw_lk d_L_law 1909 = some (mw_b (.aload_n 2) 1 2) := mw_is_eq (by decide +kernel)
theorem l_L_law_1910 : mw_lk d_L_law 1910 = some (mw_b (.aload_n 0) 1 0) := mw_is_eq (by decide +kernel)
theorem l_L_law_1911 : mw_lk d_L_law 1911 = some (mw_b (.iload 5) 2 5) := mw_is_eq (by decide +kernel)
theorem l_L_law_1913 : mw_lk d_L_law 1913 = some (mw_c (.iconst 1) 1 (1)) := mw_is_eq (by decide +kernel)
theorem l_L_law_1914 : mw_lk d_L_law 1914 = some (mw_a (.iadd) 1) := mw_is_eq (by decide +kernel)
theorem l_L_law_1915 : mw_lk d_L_law 1915 = some (mw_a (.iaload) 1) := mw_is_eq (by decide +kernel)
theorem l_L_law_1916 : mw_lk d_L_law 1916 = some (((.invokevirtual 274), 3, (2, 0, 16), [10001, 10002, 10003], yX12_bestLoadByTable, 0)) := mw_is_eq (by decide +kernel)
theorem l_L_law_1919 : mw_lk d_L_law 1919 = some (mw_b (.istore 7) 2 7) := mw_is_eq (by decide +kernel)
theorem l_L_law_1921 : mw_lk d_L_law 1921 = some (mw_b (.aload_n 2) 1 2) := mw_is_eq (by decide +kernel)
theorem l_L_law_1922 : mw_lk d_L_law 1922 = some (((.invokevirtual 185), 3, (1, 0, 16), [8221, 8222, 8223], yX12_thrown, 0)) := mw_is_eq (by decide +kernel)
theorem l_L_law_1925 : mw_lk d_L_law 1925 = some (mw_b (.iload 6) 2 6) := mw_is_eq (by decide +kernel)
theorem l_L_law_1927 : mw_lk d_L_law 1927 = some (mw_b (.if_icmp .eq 5) 3 1932) := mw_is_eq (by decide +kernel)
theorem l_L_law_1930 : mw_lk d_L_law 1930 = some (mw_c (.iconst 0) 1 (0)) := mw_is_eq (by decide +kernel)
theorem l_L_law_1931 : mw_lk d_L_law 1931 = some (mw_a (.ireturn) 1) := mw_is_eq (by decide +kernel)
theorem l_L_law_1932 : mw_lk d_L_law 1932 = some (mw_b (.iload 6) 2 6) := mw_is_eq (by decide +kernel)
theorem l_L_law_1934 : mw_lk d_L_law 1934 = some (mw_b (.ifCond .ne 15) 3 1949) := mw_is_eq (by decide +kernel)
theorem l_L_law_1937 : mw_lk d_L_law 1937 = some (mw_b (.aload_n 3) 1 3) := mw_is_eq (by decide +kernel)
theorem l_L_law_1938 : mw_lk d_L_law 1938 = some (mw_c (.iconst 0) 1 (0)) := mw_is_eq (by decide +kernel)
theorem l_L_law_1939 : mw_lk d_L_law 1939 = some (mw_a (.laload) 1) := mw_is_eq (by decide +kernel)
theorem l_L_law_1940 : mw_lk d_L_law 1940 = some (mw_b (.iload 7) 2 7) := mw_is_eq (by decide +kernel)
theorem l_L_law_1942 : mw_lk d_L_law 1942 = some (mw_a (.i2l) 1) := mw_is_eq (by decide +kernel)
theorem l_L_law_1943 : mw_lk d_L_law 1943 = some (mw_a (.lcmp) 1) := mw_is_eq (by decide +kernel)
theorem l_L_law_1944 : mw_lk d_L_law 1944 = some (mw_b (.ifCond .eq 5) 3 1949) := mw_is_eq (by decide +kernel)
theorem l_L_law_1947 : mw_lk d_L_law 1947 = some (mw_c (.iconst 0) 1 (0)) := mw_is_eq (by decide +kernel)
theorem l_L_law_1948 : mw_lk d_L_law 1948 = some (mw_a (.ireturn) 1) := mw_is_eq (by decide +kernel)
theorem l_L_law_1949 : mw_lk d_L_law 1949 = some (mw_b (.goto 1351) 3 3300) := mw_is_eq (by decide +kernel)
theorem l_L_law_1952 : mw_lk d_L_law 1952 = some (mw_b (.aload_n 1) 1 1) := mw_is_eq (by decide +kernel)
theorem l_L_law_1953 : mw_lk d_L_law 1953 = some (mw_b (.aload_n 0) 1 0) := mw_is_eq (by decide +kernel)
theorem l_L_law_1954 : mw_lk d_L_law 1954 = some (mw_b (.iload 5) 2 5) := mw_is_eq (by decide +kernel)
theorem l_L_law_1956 : mw_lk d_L_law 1956 = some (mw_c (.iconst 1) 1 (1)) := mw_is_eq (by decide +kernel)
theorem l_L_law_1957 : mw_lk d_L_law 1957 = some (mw_a (.iadd) 1) := mw_is_eq (by decide +kernel)
theorem l_L_law_1958 : mw_lk d_L_law 1958 = some (mw_a (.iaload) 1) := mw_is_eq (by decide +kernel)
theorem l_L_law_1959 : mw_lk d_L_law 1959 = some (mw_b (.aload_n 3) 1 3) := mw_is_eq (by decide +kernel)
theorem l_L_law_1960 : mw_lk d_L_law 1960 = some (((.invokestatic 275), 3, (3, 5, 0), [6047, 6048], yL_rescue, 0)) := mw_is_eq (by decide +kernel)
theorem l_L_law_1963 : mw_lk d_L_law 1963 = some (mw_b (.istore 6) 2 6) := mw_is_eq (by decide +kernel)
theorem l_L_law_1965 : mw_lk d_L_law 1965 = some (mw_b (.aload_n 2) 1 2) := mw_is_eq (by decide +kernel)
theorem l_L_law_1966 : mw_lk d_L_law 1966 = some (mw_b (.aload_n 0) 1 0) := mw_is_eq (by decide +kernel)
theorem l_L_law_1967 : mw_lk d_L_law 1967 = some (mw_b (.iload 5) 2 5) := mw_is_eq (by decide +kernel)
theorem l_L_law_1969 : mw_lk d_L_law 1969 = some (mw_c (.iconst 1) 1 (1)) := mw_is_eq (by decide +kernel)
theorem l_L_law_1970 : mw_lk d_L_law 1970 = some (mw_a (.iadd) 1) := mw_is_eq (by decide +kernel)
theorem l_L_law_1971 : mw_lk d_L_law 1971 = some (mw_a (.iaload) 1) := mw_is_eq (by decide +kernel)
theorem l_L_law_1972 : mw_lk d_L_law 1972 = some (((.invokevirtual 277), 3, (2, 0, 16), [10006, 10007, 10008], yX12_rescue, 0)) := mw_is_eq (by decide +kernel)
theorem l_L_law_1975 : mw_lk d_L_law 1975 = some (mw_b (.istore 7) 2 7) := mw_is_eq (by decide +kernel)
theorem l_L_law_1977 : mw_lk d_L_law 1977 = some (mw_b (.aload_n 2) 1 2) := mw_is_eq (by decide +kernel)
theorem l_L_law_1978 : mw_lk d_L_law 1978 = some (((.invokevirtual 185), 3, (1, 0, 16), [8221, 8222, 8223], yX12_thrown, 0)) := mw_is_eq (by decide +kernel)
theorem l_L_law_1981 : mw_lk d_L_law 1981 = some (mw_b (.iload 6) 2 6) := mw_is_eq (by decide +kernel)
theorem l_L_law_1983 : mw_lk d_L_law 1983 = some (mw_b (.if_icmp .eq 5) 3 1988) := mw_is_eq (by decide +kernel)
theorem l_L_law_1986 : mw_lk d_L_law 1986 = some (mw_c (.iconst 0) 1 (0)) := mw_is_eq (by decide +kernel)
theorem l_L_law_1987 : mw_lk d_L_law 1987 = some (mw_a (.ireturn) 1) := mw_is_eq (by decide +kernel)
theorem l_L_law_1988 : mw_lk d_L_law 1988 = some (mw_b (.iload 6) 2 6) := mw_is_eq (by decide +kernel)
theorem l_L_law_1990 : mw_lk d_L_law 1990 = some (mw_b (.ifCond .ne 15) 3 2005) := mw_is_eq (by decide +kernel)
theorem l_L_law_1993 : mw_lk d_L_law 1993 = some (mw_b (.aload_n 3) 1 3) := mw_is_eq (by decide +kernel)
theorem l_L_law_1994 : mw_lk d_L_law 1994 = some (mw_c (.iconst 0) 1 (0)) := mw_is_eq (by decide +kernel)
theorem l_L_law_1995 : mw_lk d_L_law 1995 = some (mw_a (.laload) 1) := mw_is_eq (by decide +kernel)
theorem l_L_law_1996 : mw_lk d_L_law 1996 = some (mw_b (.iload 7) 2 7) := mw_is_eq (by decide +kernel)
theorem l_L_law_1998 : mw_lk d_L_law 1998 = some (mw_a (.i2l) 1) := mw_is_eq (by decide +kernel)
theorem l_L_law_1999 : mw_lk d_L_law 1999 = some (mw_a (.lcmp) 1) := mw_is_eq (by decide +kernel)
theorem l_L_law_2000 : mw_lk d_L_law 2000 = some (mw_b (.ifCond .eq 5) 3 2005) := mw_is_eq (by decide +kernel)
theorem l_L_law_2003 : mw_lk d_L_law 2003 = some (mw_c (.iconst 0) 1 (0)) := mw_is_eq (by decide +kernel)
theorem l_L_law_2004 : mw_lk d_L_law 2004 = some (mw_a (.ireturn) 1) := mw_is_eq (by decide +kernel)
theorem l_L_law_2005 : mw_lk d_L_law 2005 = some (mw_b (.goto 1295) 3 3300) := mw_is_eq (by decide +kernel)
theorem l_L_law_2008 : mw_lk d_L_law 2008 = some (mw_b (.aload_n 1) 1 1) := mw_is_eq (by decide +kernel)
theorem l_L_law_2009 : mw_lk d_L_law 2009 = some (((.invokevirtual 278), 3, (1, 0, 15), [3062, 3063, 3064], yX11_moonCount, 0)) := mw_is_eq (by decide +kernel)
theorem l_L_law_2012 : mw_lk d_L_law 2012 = some (mw_b (.aload_n 2) 1 2) := mw_is_eq (by decide +kernel)
theorem l_L_law_2013 : mw_lk d_L_law 2013 = some (((.invokevirtual 281), 3, (1, 0, 16), [10014, 10015, 10016], yX12_moonCount, 0)) := mw_is_eq (by decide +kernel)
theorem l_L_law_2016 : mw_lk d_L_law 2016 = some (mw_b (.if_icmp .eq 1284) 3 3300) := mw_is_eq (by decide +kernel)
theorem l_L_law_2019 : mw_lk d_L_law 2019 = some (mw_c (.iconst 0) 1 (0)) := mw_is_eq (by decide +kernel)
theorem l_L_law_2020 : mw_lk d_L_law 2020 = some (mw_a (.ireturn) 1) := mw_is_eq (by decide +kernel)
theorem l_L_law_2021 : mw_lk d_L_law 2021 = some (mw_b (.aload_n 1) 1 1) := mw_is_eq (by decide +kernel)
theorem l_L_law_2022 : mw_lk d_L_law 2022 = some (mw_b (.aload_n 0) 1 0) := mw_is_eq (by decide +kernel)
theorem l_L_law_2023 : mw_lk d_L_law 2023 = some (mw_b (.iload 5) 2 5) := mw_is_eq (by decide +kernel)
theorem l_L_law_2025 : mw_lk d_L_law 2025 = some (mw_c (.iconst 1) 1 (1)) := mw_is_eq (by decide +kernel)
theorem l_L_law_2026 : mw_lk d_L_law 2026 = some (mw_a (.iadd) 1) := mw_is_eq (by decide +kernel)
theorem l_L_law_2027 : mw_lk d_L_law 2027 = some (mw_a (.iaload) 1) := mw_is_eq (by decide +kernel)
theorem l_L_law_2028 : mw_lk d_L_law 2028 = some (mw_b (.aload_n 3) 1 3) := mw_is_eq (by decide +kernel)
theorem l_L_law_2029 : mw_lk d_L_law 2029 = some (((.invokestatic 282), 3, (3, 5, 0), [6058, 6059], yL_moonAt, 0)) := mw_is_eq (by decide +kernel)
theorem l_L_law_2032 : mw_lk d_L_law 2032 = some (mw_b (.istore 6) 2 6) := mw_is_eq (by decide +kernel)
theorem l_L_law_2034 : mw_lk d_L_law 2034 = some (mw_b (.aload_n 2) 1 2) := mw_is_eq (by decide +kernel)
theorem l_L_law_2035 : mw_lk d_L_law 2035 = some (mw_b (.aload_n 0) 1 0) := mw_is_eq (by decide +kernel)
theorem l_L_law_2036 : mw_lk d_L_law 2036 = some (mw_b (.iload 5) 2 5) := mw_is_eq (by decide +kernel)
theorem l_L_law_2038 : mw_lk d_L_law 2038 = some (mw_c (.iconst 1) 1 (1)) := mw_is_eq (by decide +kernel)
theorem l_L_law_2039 : mw_lk d_L_law 2039 = some (mw_a (.iadd) 1) := mw_is_eq (by decide +kernel)
theorem l_L_law_2040 : mw_lk d_L_law 2040 = some (mw_a (.iaload) 1) := mw_is_eq (by decide +kernel)
theorem l_L_law_2041 : mw_lk d_L_law 2041 = some (((.invokevirtual 284), 3, (2, 0, 16), [10018, 10019, 10020], yX12_moonAt, 0)) := mw_is_eq (by decide +kernel)
theorem l_L_law_2044 : mw_lk d_L_law 2044 = some (mw_b (.istore 7) 2 7) := mw_is_eq (by decide +kernel)
theorem l_L_law_2046 : mw_lk d_L_law 2046 = some (mw_b (.aload_n 2) 1 2) := mw_is_eq (by decide +kernel)
theorem l_L_law_2047 : mw_lk d_L_law 2047 = some (((.invokevirtual 185), 3, (1, 0, 16), [8221, 8222, 8223], yX12_thrown, 0)) := mw_is_eq (by decide +kernel)
theorem l_L_law_2050 : mw_lk d_L_law 2050 = some (mw_b (.iload 6) 2 6) := mw_is_eq (by decide +kernel)
theorem l_L_law_2052 : mw_lk d_L_law 2052 = some (mw_b (.if_icmp .eq 5) 3 2057) := mw_is_eq (by decide +kernel)
theorem l_L_law_2055 : mw_lk d_L_law 2055 = some (mw_c (.iconst 0) 1 (0)) := mw_is_eq (by decide +kernel)
theorem l_L_law_2056 : mw_lk d_L_law 2056 = some (mw_a (.ireturn) 1) := mw_is_eq (by decide +kernel)
theorem l_L_law_2057 : mw_lk d_L_law 2057 = some (mw_b (.iload 6) 2 6) := mw_is_eq (by decide +kernel)
theorem l_L_law_2059 : mw_lk d_L_law 2059 = some (mw_b (.ifCond .ne 15) 3 2074) := mw_is_eq (by decide +kernel)
theorem l_L_law_2062 : mw_lk d_L_law 2062 = some (mw_b (.aload_n 3) 1 3) := mw_is_eq (by decide +kernel)
theorem l_L_law_2063 : mw_lk d_L_law 2063 = some (mw_c (.iconst 0) 1 (0)) := mw_is_eq (by decide +kernel)
theorem l_L_law_2064 : mw_lk d_L_law 2064 = some (mw_a (.laload) 1) := mw_is_eq (by decide +kernel)
theorem l_L_law_2065 : mw_lk d_L_law 2065 = some (mw_b (.iload 7) 2 7) := mw_is_eq (by decide +kernel)
theorem l_L_law_2067 : mw_lk d_L_law 2067 = some (mw_a (.i2l) 1) := mw_is_eq (by decide +kernel)
theorem l_L_law_2068 : mw_lk d_L_law 2068 = some (mw_a (.lcmp) 1) := mw_is_eq (by decide +kernel)
theorem l_L_law_2069 : mw_lk d_L_law 2069 = some (mw_b (.ifCond .eq 5) 3 2074) := mw_is_eq (by decide +kernel)
theorem l_L_law_2072 : mw_lk d_L_law 2072 = some (mw_c (.iconst 0) 1 (0)) := mw_is_eq (by decide +kernel)
theorem l_L_law_2073 : mw_lk d_L_law 2073 = some (mw_a (.ireturn) 1) := mw_is_eq (by decide +kernel)
theorem l_L_law_2074 : mw_lk d_L_law 2074 = some (mw_b (.goto 1226) 3 3300) := mw_is_eq (by decide +kernel)
theorem l_L_law_2077 : mw_lk d_L_law 2077 = some (mw_b (.aload_n 1) 1 1) := mw_is_eq (by decide +kernel)
theorem l_L_law_2078 : mw_lk d_L_law 2078 = some (mw_b (.aload_n 0) 1 0) := mw_is_eq (by decide +kernel)
theorem l_L_law_2079 : mw_lk d_L_law 2079 = some (mw_b (.iload 5) 2 5) := mw_is_eq (by decide +kernel)
theorem l_L_law_2081 : mw_lk d_L_law 2081 = some (mw_c (.iconst 1) 1 (1)) := mw_is_eq (by decide +kernel)
theorem l_L_law_2082 : mw_lk d_L_law 2082 = some (mw_a (.iadd) 1) := mw_is_eq (by decide +kernel)
theorem l_L_law_2083 : mw_lk d_L_law 2083 = some (mw_a (.iaload) 1) := mw_is_eq (by decide +kernel)
theorem l_L_law_2084 : mw_lk d_L_law 2084 = some (mw_b (.aload_n 3) 1 3) := mw_is_eq (by decide +kernel)
theorem l_L_law_2085 : mw_lk d_L_law 2085 = some (((.invokestatic 285), 3, (3, 5, 0), [6065, 6066], yL_ferryOf, 0)) := mw_is_eq (by decide +kernel)
theorem l_L_law_2088 : mw_lk d_L_law 2088 = some (mw_b (.istore 6) 2 6) := mw_is_eq (by decide +kernel)
theorem l_L_law_2090 : mw_lk d_L_law 2090 = some (mw_b (.aload_n 2) 1 2) := mw_is_eq (by decide +kernel)
theorem l_L_law_2091 : mw_lk d_L_law 2091 = some (mw_b (.aload_n 0) 1 0) := mw_is_eq (by decide +kernel)
theorem l_L_law_2092 : mw_lk d_L_law 2092 = some (mw_b (.iload 5) 2 5) := mw_is_eq (by decide +kernel)
theorem l_L_law_2094 : mw_lk d_L_law 2094 = some (mw_c (.iconst 1) 1 (1)) := mw_is_eq (by decide +kernel)
theorem l_L_law_2095 : mw_lk d_L_law 2095 = some (mw_a (.iadd) 1) := mw_is_eq (by decide +kernel)
theorem l_L_law_2096 : mw_lk d_L_law 2096 = some (mw_a (.iaload) 1) := mw_is_eq (by decide +kernel)
theorem l_L_law_2097 : mw_lk d_L_law 2097 = some (((.invokevirtual 287), 3, (2, 0, 16), [10022, 10023, 10024], yX12_ferryOf, 0)) := mw_is_eq (by decide +kernel)
theorem l_L_law_2100 : mw_lk d_L_law 2100 = some (mw_b (.istore 7) 2 7) := mw_is_eq (by decide +kernel)
theorem l_L_law_2102 : mw_lk d_L_law 2102 = some (mw_b (.aload_n 2) 1 2) := mw_is_eq (by decide +kernel)
theorem l_L_law_2103 : mw_lk d_L_law 2103 = some (((.invokevirtual 185), 3, (1, 0, 16), [8221, 8222, 8223], yX12_thrown, 0)) := mw_is_eq (by decide +kernel)
theorem l_L_law_2106 : mw_lk d_L_law 2106 = some (mw_b (.iload 6) 2 6) := mw_is_eq (by decide +kernel)
theorem l_L_law_2108 : mw_lk d_L_law 2108 = some (mw_b (.if_icmp .eq 5) 3 2113) := mw_is_eq (by decide +kernel)
theorem l_L_law_2111 : mw_lk d_L_law 2111 = some (mw_c (.iconst 0) 1 (0)) := mw_is_eq (by decide +kernel)
theorem l_L_law_2112 : mw_lk d_L_law 2112 = some (mw_a (.ireturn) 1) := mw_is_eq (by decide +kernel)
theorem l_L_law_2113 : mw_lk d_L_law 2113 = some (mw_b (.iload 6) 2 6) := mw_is_eq (by decide +kernel)
theorem l_L_law_2115 : mw_lk d_L_law 2115 = some (mw_b (.ifCond .ne 15) 3 2130) := mw_is_eq (by decide +kernel)
theorem l_L_law_2118 : mw_lk d_L_law 2118 = some (mw_b (.aload_n 3) 1 3) := mw_is_eq (by decide +kernel)
theorem l_L_law_2119 : mw_lk d_L_law 2119 = some (mw_c (.iconst 0) 1 (0)) := mw_is_eq (by decide +kernel)
theorem l_L_law_2120 : mw_lk d_L_law 2120 = some (mw_a (.laload) 1) := mw_is_eq (by decide +kernel)
theorem l_L_law_2121 : mw_lk d_L_law 2121 = some (mw_b (.iload 7) 2 7) := mw_is_eq (by decide +kernel)
theorem l_L_law_2123 : mw_lk d_L_law 2123 = some (mw_a (.i2l) 1) := mw_is_eq (by decide +kernel)
theorem l_L_law_2124 : mw_lk d_L_law 2124 = some (mw_a (.lcmp) 1) := mw_is_eq (by decide +kernel)
theorem l_L_law_2125 : mw_lk d_L_law 2125 = some (mw_b (.ifCond .eq 5) 3 2130) := mw_is_eq (by decide +kernel)
theorem l_L_law_2128 : mw_lk d_L_law 2128 = some (mw_c (.iconst 0) 1 (0)) := mw_is_eq (by decide +kernel)
theorem l_L_law_2129 : mw_lk d_L_law 2129 = some (mw_a (.ireturn) 1) := mw_is_eq (by decide +kernel)
theorem l_L_law_2130 : mw_lk d_L_law 2130 = some (mw_b (.goto 1170) 3 3300) := mw_is_eq (by decide +kernel)
theorem l_L_law_2133 : mw_lk d_L_law 2133 = some (mw_b (.aload_n 1) 1 1) := mw_is_eq (by decide +kernel)
theorem l_L_law_2134 : mw_lk d_L_law 2134 = some (mw_b (.aload_n 0) 1 0) := mw_is_eq (by decide +kernel)
theorem l_L_law_2135 : mw_lk d_L_law 2135 = some (mw_b (.iload 5) 2 5) := mw_is_eq (by decide +kernel)
theorem l_L_law_2137 : mw_lk d_L_law 2137 = some (mw_c (.iconst 1) 1 (1)) := mw_is_eq (by decide +kernel)
theorem l_L_law_2138 : mw_lk d_L_law 2138 = some (mw_a (.iadd) 1) := mw_is_eq (by decide +kernel)
theorem l_L_law_2139 : mw_lk d_L_law 2139 = some (mw_a (.iaload) 1) := mw_is_eq (by decide +kernel)
theorem l_L_law_2140 : mw_lk d_L_law 2140 = some (mw_b (.aload_n 3) 1 3) := mw_is_eq (by decide +kernel)
theorem l_L_law_2141 : mw_lk d_L_law 2141 = some (((.invokestatic 288), 3, (3, 5, 0), [6077, 6078], yL_shoreOf, 0)) := mw_is_eq (by decide +kernel)
theorem l_L_law_2144 : mw_lk d_L_law 2144 = some (mw_b (.istore 6) 2 6) := mw_is_eq (by decide +kernel)
theorem l_L_law_2146 : mw_lk d_L_law 2146 = some (mw_b (.aload_n 2) 1 2) := mw_is_eq (by decide +kernel)
theorem l_L_law_2147 : mw_lk d_L_law 2147 = some (mw_b (.aload_n 0) 1 0) := mw_is_eq (by decide +kernel)
theorem l_L_law_2148 : mw_lk d_L_law 2148 = some (mw_b (.iload 5) 2 5) := mw_is_eq (by decide +kernel)
theorem l_L_law_2150 : mw_lk d_L_law 2150 = some (mw_c (.iconst 1) 1 (1)) := mw_is_eq (by decide +kernel)
theorem l_L_law_2151 : mw_lk d_L_law 2151 = some (mw_a (.iadd) 1) := mw_is_eq (by decide +kernel)
theorem l_L_law_2152 : mw_lk d_L_law 2152 = some (mw_a (.iaload) 1) := mw_is_eq (by decide +kernel)
theorem l_L_law_2153 : mw_lk d_L_law 2153 = some (((.invokevirtual 290), 3, (2, 0, 16), [10026, 10027, 10028], yX12_shoreOf, 0)) := mw_is_eq (by decide +kernel)
theorem l_L_law_2156 : mw_lk d_L_law 2156 = some (mw_b (.istore 7) 2 7) := mw_is_eq (by decide +kernel)
theorem l_L_law_2158 : mw_lk d_L_law 2158 = some (mw_b (.aload_n 2) 1 2) := mw_is_eq (by decide +kernel)
theorem l_L_law_2159 : mw_lk d_L_law 2159 = some (((.invokevirtual 185), 3, (1, 0, 16), [8221, 8222, 8223], yX12_thrown, 0)) := mw_is_eq (by decide +kernel)
theorem l_L_law_2162 : mw_lk d_L_law 2162 = some (mw_b (.iload 6) 2 6) := mw_is_eq (by decide +kernel)
theorem l_L_law_2164 : mw_lk d_L_law 2164 = some (mw_b (.if_icmp .eq 5) 3 2169) := mw_is_eq (by decide +kernel)
theorem l_L_law_2167 : mw_lk d_L_law 2167 = some (mw_c (.iconst 0) 1 (0)) := mw_is_eq (by decide +kernel)
theorem l_L_law_2168 : mw_lk d_L_law 2168 = some (mw_a (.ireturn) 1) := mw_is_eq (by decide +kernel)
theorem l_L_law_2169 : mw_lk d_L_law 2169 = some (mw_b (.iload 6) 2 6) := mw_is_eq (by decide +kernel)
theorem l_L_law_2171 : mw_lk d_L_law 2171 = some (mw_b (.ifCond .ne 15) 3 2186) := mw_is_eq (by decide +kernel)
theorem l_L_law_2174 : mw_lk d_L_law 2174 = some (mw_b (.aload_n 3) 1 3) := mw_is_eq (by decide +kernel)
theorem l_L_law_2175 : mw_lk d_L_law 2175 = some (mw_c (.iconst 0) 1 (0)) := mw_is_eq (by decide +kernel)
theorem l_L_law_2176 : mw_lk d_L_law 2176 = some (mw_a (.laload) 1) := mw_is_eq (by decide +kernel)
theorem l_L_law_2177 : mw_lk d_L_law 2177 = some (mw_b (.iload 7) 2 7) := mw_is_eq (by decide +kernel)
theorem l_L_law_2179 : mw_lk d_L_law 2179 = some (mw_a (.i2l) 1) := mw_is_eq (by decide +kernel)
theorem l_L_law_2180 : mw_lk d_L_law 2180 = some (mw_a (.lcmp) 1) := mw_is_eq (by decide +kernel)
theorem l_L_law_2181 : mw_lk d_L_law 2181 = some (mw_b (.ifCond .eq 5) 3 2186) := mw_is_eq (by decide +kernel)
theorem l_L_law_2184 : mw_lk d_L_law 2184 = some (mw_c (.iconst 0) 1 (0)) := mw_is_eq (by decide +kernel)
theorem l_L_law_2185 : mw_lk d_L_law 2185 = some (mw_a (.ireturn) 1) := mw_is_eq (by decide +kernel)
theorem l_L_law_2186 : mw_lk d_L_law 2186 = some (mw_b (.goto 1114) 3 3300) := mw_is_eq (by decide +kernel)
theorem l_L_law_2189 : mw_lk d_L_law 2189 = some (mw_b (.aload_n 1) 1 1) := mw_is_eq (by decide +kernel)
theorem l_L_law_2190 : mw_lk d_L_law 2190 = some (mw_b (.aload_n 0) 1 0) := mw_is_eq (by decide +kernel)
theorem l_L_law_2191 : mw_lk d_L_law 2191 = some (mw_b (.iload 5) 2 5) := mw_is_eq (by decide +kernel)
theorem l_L_law_2193 : mw_lk d_L_law 2193 = some (mw_c (.iconst 1) 1 (1)) := mw_is_eq (by decide +kernel)
theorem l_L_law_2194 : mw_lk d_L_law 2194 = some (mw_a (.iadd) 1) := mw_is_eq (by decide +kernel)
theorem l_L_law_2195 : mw_lk d_L_law 2195 = some (mw_a (.iaload) 1) := mw_is_eq (by decide +kernel)
theorem l_L_law_2196 : mw_lk d_L_law 2196 = some (mw_b (.aload_n 3) 1 3) := mw_is_eq (by decide +kernel)
theorem l_L_law_2197 : mw_lk d_L_law 2197 = some (((.invokestatic 291), 3, (3, 5, 0), [6084, 6085], yL_phaseOf, 0)) := mw_is_eq (by decide +kernel)
theorem l_L_law_2200 : mw_lk d_L_law 2200 = some (mw_b (.istore 6) 2 6) := mw_is_eq (by decide +kernel)
theorem l_L_law_2202 : mw_lk d_L_law 2202 = some (mw_b (.aload_n 2) 1 2) := mw_is_eq (by decide +kernel)
theorem l_L_law_2203 : mw_lk d_L_law 2203 = some (mw_b (.aload_n 0) 1 0) := mw_is_eq (by decide +kernel)
theorem l_L_law_2204 : mw_lk d_L_law 2204 = some (mw_b (.iload 5) 2 5) := mw_is_eq (by decide +kernel)
theorem l_L_law_2206 : mw_lk d_L_law 2206 = some (mw_c (.iconst 1) 1 (1)) := mw_is_eq (by decide +kernel)
theorem l_L_law_2207 : mw_lk d_L_law 2207 = some (mw_a (.iadd) 1) := mw_is_eq (by decide +kernel)
theorem l_L_law_2208 : mw_lk d_L_law 2208 = some (mw_a (.iaload) 1) := mw_is_eq (by decide +kernel)
theorem l_L_law_2209 : mw_lk d_L_law 2209 = some (((.invokevirtual 293), 3, (2, 0, 16), [10030, 10031, 10032], yX12_phaseOf, 0)) := mw_is_eq (by decide +kernel)
theorem l_L_law_2212 : mw_lk d_L_law 2212 = some (mw_b (.istore 7) 2 7) := mw_is_eq (by decide +kernel)
theorem l_L_law_2214 : mw_lk d_L_law 2214 = some (mw_b (.aload_n 2) 1 2) := mw_is_eq (by decide +kernel)
theorem l_L_law_2215 : mw_lk d_L_law 2215 = some (((.invokevirtual 185), 3, (1, 0, 16), [8221, 8222, 8223], yX12_thrown, 0)) := mw_is_eq (by decide +kernel)
theorem l_L_law_2218 : mw_lk d_L_law 2218 = some (mw_b (.iload 6) 2 6) := mw_is_eq (by decide +kernel)
theorem l_L_law_2220 : mw_lk d_L_law 2220 = some (mw_b (.if_icmp .eq 5) 3 2225) := mw_is_eq (by decide +kernel)
theorem l_L_law_2223 : mw_lk d_L_law 2223 = some (mw_c (.iconst 0) 1 (0)) := mw_is_eq (by decide +kernel)
theorem l_L_law_2224 : mw_lk d_L_law 2224 = some (mw_a (.ireturn) 1) := mw_is_eq (by decide +kernel)
theorem l_L_law_2225 : mw_lk d_L_law 2225 = some (mw_b (.iload 6) 2 6) := mw_is_eq (by decide +kernel)
theorem l_L_law_2227 : mw_lk d_L_law 2227 = some (mw_b (.ifCond .ne 15) 3 2242) := mw_is_eq (by decide +kernel)
theorem l_L_law_2230 : mw_lk d_L_law 2230 = some (mw_b (.aload_n 3) 1 3) := mw_is_eq (by decide +kernel)
theorem l_L_law_2231 : mw_lk d_L_law 2231 = some (mw_c (.iconst 0) 1 (0)) := mw_is_eq (by decide +kernel)
theorem l_L_law_2232 : mw_lk d_L_law 2232 = some (mw_a (.laload) 1) := mw_is_eq (by decide +kernel)
theorem l_L_law_2233 : mw_lk d_L_law 2233 = some (mw_b (.iload 7) 2 7) := mw_is_eq (by decide +kernel)
theorem l_L_law_2235 : mw_lk d_L_law 2235 = some (mw_a (.i2l) 1) := mw_is_eq (by decide +kernel)
theorem l_L_law_2236 : mw_lk d_L_law 2236 = some (mw_a (.lcmp) 1) := mw_is_eq (by decide +kernel)
theorem l_L_law_2237 : mw_lk d_L_law 2237 = some (mw_b (.ifCond .eq 5) 3 2242) := mw_is_eq (by decide +kernel)
theorem l_L_law_2240 : mw_lk d_L_law 2240 = some (mw_c (.iconst 0) 1 (0)) := mw_is_eq (by decide +kernel)
theorem l_L_law_2241 : mw_lk d_L_law 2241 = some (mw_a (.ireturn) 1) := mw_is_eq (by decide +kernel)
theorem l_L_law_2242 : mw_lk d_L_law 2242 = some (mw_b (.goto 1058) 3 3300) := mw_is_eq (by decide +kernel)
theorem l_L_law_2245 : mw_lk d_L_law 2245 = some (mw_b (.aload_n 1) 1 1) := mw_is_eq (by decide +kernel)
theorem l_L_law_2246 : mw_lk d_L_law 2246 = some (mw_b (.aload_n 0) 1 0) := mw_is_eq (by decide +kernel)
theorem l_L_law_2247 : mw_lk d_L_law 2247 = some (mw_b (.iload 5) 2 5) := mw_is_eq (by decide +kernel)
theorem l_L_law_2249 : mw_lk d_L_law 2249 = some (mw_c (.iconst 1) 1 (1)) := mw_is_eq (by decide +kernel)
theorem l_L_law_2250 : mw_lk d_L_law 2250 = some (mw_a (.iadd) 1) := mw_is_eq (by decide +kernel)
theorem l_L_law_2251 : mw_lk d_L_law 2251 = some (mw_a (.iaload) 1) := mw_is_eq (by decide +kernel)
theorem l_L_law_2252 : mw_lk d_L_law 2252 = some (mw_b (.aload_n 3) 1 3) := mw_is_eq (by decide +kernel)
theorem l_L_law_2253 : mw_lk d_L_law 2253 = some (((.invokestatic 294), 3, (3, 5, 0), [6091, 6092], yL_fareOf, 0)) := mw_is_eq (by decide +kernel)
theorem l_L_law_2256 : mw_lk d_L_law 2256 = some (mw_b (.istore 6) 2 6) := mw_is_eq (by decide +kernel)
theorem l_L_law_2258 : mw_lk d_L_law 2258 = some (mw_b (.aload_n 2) 1 2) := mw_is_eq (by decide +kernel)
theorem l_L_law_2259 : mw_lk d_L_law 2259 = some (mw_b (.aload_n 0) 1 0) := mw_is_eq (by decide +kernel)
theorem l_L_law_2260 : mw_lk d_L_law 2260 = some (mw_b (.iload 5) 2 5) := mw_is_eq (by decide +kernel)
theorem l_L_law_2262 : mw_lk d_L_law 2262 = some (mw_c (.iconst 1) 1 (1)) := mw_is_eq (by decide +kernel)
theorem l_L_law_2263 : mw_lk d_L_law 2263 = some (mw_a (.iadd) 1) := mw_is_eq (by decide +kernel)
theorem l_L_law_2264 : mw_lk d_L_law 2264 = some (mw_a (.iaload) 1) := mw_is_eq (by decide +kernel)
theorem l_L_law_2265 : mw_lk d_L_law 2265 = some (((.invokevirtual 296), 3, (2, 0, 16), [10034, 10035, 10036], yX12_fareOf, 0)) := mw_is_eq (by decide +kernel)
theorem l_L_law_2268 : mw_lk d_L_law 2268 = some (mw_b (.istore 7) 2 7) := mw_is_eq (by decide +kernel)
theorem l_L_law_2270 : mw_lk d_L_law 2270 = some (mw_b (.aload_n 2) 1 2) := mw_is_eq (by decide +kernel)
theorem l_L_law_2271 : mw_lk d_L_law 2271 = some (((.invokevirtual 185), 3, (1, 0, 16), [8221, 8222, 8223], yX12_thrown, 0)) := mw_is_eq (by decide +kernel)
theorem l_L_law_2274 : mw_lk d_L_law 2274 = some (mw_b (.iload 6) 2 6) := mw_is_eq (by decide +kernel)
theorem l_L_law_2276 : mw_lk d_L_law 2276 = some (mw_b (.if_icmp .eq 5) 3 2281) := mw_is_eq (by decide +kernel)
theorem l_L_law_2279 : mw_lk d_L_law 2279 = some (mw_c (.iconst 0) 1 (0)) := mw_is_eq (by decide +kernel)
theorem l_L_law_2280 : mw_lk d_L_law 2280 = some (mw_a (.ireturn) 1) := mw_is_eq (by decide +kernel)
theorem l_L_law_2281 : mw_lk d_L_law 2281 = some (mw_b (.iload 6) 2 6) := mw_is_eq (by decide +kernel)
theorem l_L_law_2283 : mw_lk d_L_law 2283 = some (mw_b (.ifCond .ne 15) 3 2298) := mw_is_eq (by decide +kernel)
theorem l_L_law_2286 : mw_lk d_L_law 2286 = some (mw_b (.aload_n 3) 1 3) := mw_is_eq (by decide +kernel)
theorem l_L_law_2287 : mw_lk d_L_law 2287 = some (mw_c (.iconst 0) 1 (0)) := mw_is_eq (by decide +kernel)
theorem l_L_law_2288 : mw_lk d_L_law 2288 = some (mw_a (.laload) 1) := mw_is_eq (by decide +kernel)
theorem l_L_law_2289 : mw_lk d_L_law 2289 = some (mw_b (.iload 7) 2 7) := mw_is_eq (by decide +kernel)
theorem l_L_law_2291 : mw_lk d_L_law 2291 = some (mw_a (.i2l) 1) := mw_is_eq (by decide +kernel)
theorem l_L_law_2292 : mw_lk d_L_law 2292 = some (mw_a (.lcmp) 1) := mw_is_eq (by decide +kernel)
theorem l_L_law_2293 : mw_lk d_L_law 2293 = some (mw_b (.ifCond .eq 5) 3 2298) := mw_is_eq (by decide +kernel)
theorem l_L_law_2296 : mw_lk d_L_law 2296 = some (mw_c (.iconst 0) 1 (0)) := mw_is_eq (by decide +kernel)
theorem l_L_law_2297 : mw_lk d_L_law 2297 = some (mw_a (.ireturn) 1) := mw_is_eq (by decide +kernel)
theorem l_L_law_2298 : mw_lk d_L_law 2298 = some (mw_b (.goto 1002) 3 3300) := mw_is_eq (by decide +kernel)
theorem l_L_law_2301 : mw_lk d_L_law 2301 = some (mw_b (.aload_n 1) 1 1) := mw_is_eq (by decide +kernel)
theorem l_L_law_2302 : mw_lk d_L_law 2302 = some (mw_b (.aload_n 0) 1 0) := mw_is_eq (by decide +kernel)
theorem l_L_law_2303 : mw_lk d_L_law 2303 = some (mw_b (.iload 5) 2 5) := mw_is_eq (by decide +kernel)
theorem l_L_law_2305 : mw_lk d_L_law 2305 = some (mw_c (.iconst 1) 1 (1)) := mw_is_eq (by decide +kernel)
theorem l_L_law_2306 : mw_lk d_L_law 2306 = some (mw_a (.iadd) 1) := mw_is_eq (by decide +kernel)
theorem l_L_law_2307 : mw_lk d_L_law 2307 = some (mw_a (.iaload) 1) := mw_is_eq (by decide +kernel)
theorem l_L_law_2308 : mw_lk d_L_law 2308 = some (mw_b (.aload_n 3) 1 3) := mw_is_eq (by decide +kernel)
theorem l_L_law_2309 : mw_lk d_L_law 2309 = some (((.invokestatic 297), 3, (3, 5, 0), [6099, 6100], yL_moonAtRank, 0)) := mw_is_eq (by decide +kernel)
theorem l_L_law_2312 : mw_lk d_L_law 2312 = some (mw_b (.istore 6) 2 6) := mw_is_eq (by decide +kernel)
theorem l_L_law_2314 : mw_lk d_L_law 2314 = some (mw_b (.aload_n 2) 1 2) := mw_is_eq (by decide +kernel)
theorem l_L_law_2315 : mw_lk d_L_law 2315 = some (mw_b (.aload_n 0) 1 0) := mw_is_eq (by decide +kernel)
theorem l_L_law_2316 : mw_lk d_L_law 2316 = some (mw_b (.iload 5) 2 5) := mw_is_eq (by decide +kernel)
theorem l_L_law_2318 : mw_lk d_L_law 2318 = some (mw_c (.iconst 1) 1 (1)) := mw_is_eq (by decide +kernel)
theorem l_L_law_2319 : mw_lk d_L_law 2319 = some (mw_a (.iadd) 1) := mw_is_eq (by decide +kernel)
theorem l_L_law_2320 : mw_lk d_L_law 2320 = some (mw_a (.iaload) 1) := mw_is_eq (by decide +kernel)
theorem l_L_law_2321 : mw_lk d_L_law 2321 = some (((.invokevirtual 299), 3, (2, 0, 16), [10038, 10039, 10040], yX12_moonAtRank, 0)) := mw_is_eq (by decide +kernel)
theorem l_L_law_2324 : mw_lk d_L_law 2324 = some (mw_b (.istore 7) 2 7) := mw_is_eq (by decide +kernel)
theorem l_L_law_2326 : mw_lk d_L_law 2326 = some (mw_b (.aload_n 2) 1 2) := mw_is_eq (by decide +kernel)
theorem l_L_law_2327 : mw_lk d_L_law 2327 = some (((.invokevirtual 185), 3, (1, 0, 16), [8221, 8222, 8223], yX12_thrown, 0)) := mw_is_eq (by decide +kernel)
theorem l_L_law_2330 : mw_lk d_L_law 2330 = some (mw_b (.iload 6) 2 6) := mw_is_eq (by decide +kernel)
theorem l_L_law_2332 : mw_lk d_L_law 2332 = some (mw_b (.if_icmp .eq 5) 3 2337) := mw_is_eq (by decide +kernel)
theorem l_L_law_2335 : mw_lk d_L_law 2335 = some (mw_c (.iconst 0) 1 (0)) := mw_is_eq (by decide +kernel)
theorem l_L_law_2336 : mw_lk d_L_law 2336 = some (mw_a (.ireturn) 1) := mw_is_eq (by decide +kernel)
theorem l_L_law_2337 : mw_lk d_L_law 2337 = some (mw_b (.iload 6) 2 6) := mw_is_eq (by decide +kernel)
theorem l_L_law_2339 : mw_lk d_L_law 2339 = some (mw_b (.ifCond .ne 15) 3 2354) := mw_is_eq (by decide +kernel)
theorem l_L_law_2342 : mw_lk d_L_law 2342 = some (mw_b (.aload_n 3) 1 3) := mw_is_eq (by decide +kernel)
theorem l_L_law_2343 : mw_lk d_L_law 2343 = some (mw_c (.iconst 0) 1 (0)) := mw_is_eq (by decide +kernel)
theorem l_L_law_2344 : mw_lk d_L_law 2344 = some (mw_a (.laload) 1) := mw_is_eq (by decide +kernel)
theorem l_L_law_2345 : mw_lk d_L_law 2345 = some (mw_b (.iload 7) 2 7) := mw_is_eq (by decide +kernel)
theorem l_L_law_2347 : mw_lk d_L_law 2347 = some (mw_a (.i2l) 1) := mw_is_eq (by decide +kernel)
theorem l_L_law_2348 : mw_lk d_L_law 2348 = some (mw_a (.lcmp) 1) := mw_is_eq (by decide +kernel)
theorem l_L_law_2349 : mw_lk d_L_law 2349 = some (mw_b (.ifCond .eq 5) 3 2354) := mw_is_eq (by decide +kernel)
theorem l_L_law_2352 : mw_lk d_L_law 2352 = some (mw_c (.iconst 0) 1 (0)) := mw_is_eq (by decide +kernel)
theorem l_L_law_2353 : mw_lk d_L_law 2353 = some (mw_a (.ireturn) 1) := mw_is_eq (by decide +kernel)
theorem l_L_law_2354 : mw_lk d_L_law 2354 = some (mw_b (.goto 946) 3 3300) := mw_is_eq (by decide +kernel)
theorem l_L_law_2357 : mw_lk d_L_law 2357 = some (mw_b (.aload_n 1) 1 1) := mw_is_eq (by decide +kernel)
theorem l_L_law_2358 : mw_lk d_L_law 2358 = some (mw_b (.aload_n 0) 1 0) := mw_is_eq (by decide +kernel)
theorem l_L_law_2359 : mw_lk d_L_law 2359 = some (mw_b (.iload 5) 2 5) := mw_is_eq (by decide +kernel)
theorem l_L_law_2361 : mw_lk d_L_law 2361 = some (mw_c (.iconst 1) 1 (1)) := mw_is_eq (by decide +kernel)
theorem l_L_law_2362 : mw_lk d_L_law 2362 = some (mw_a (.iadd) 1) := mw_is_eq (by decide +kernel)
theorem l_L_law_2363 : mw_lk d_L_law 2363 = some (mw_a (.iaload) 1) := mw_is_eq (by decide +kernel)
theorem l_L_law_2364 : mw_lk d_L_law 2364 = some (((.invokevirtual 300), 3, (2, 0, 15), [3066, 3067, 3068], yX11_countBelow, 0)) := mw_is_eq (by decide +kernel)
theorem l_L_law_2367 : mw_lk d_L_law 2367 = some (mw_b (.aload_n 2) 1 2) := mw_is_eq (by decide +kernel)
theorem l_L_law_2368 : mw_lk d_L_law 2368 = some (mw_b (.aload_n 0) 1 0) := mw_is_eq (by decide +kernel)
theorem l_L_law_2369 : mw_lk d_L_law 2369 = some (mw_b (.iload 5) 2 5) := mw_is_eq (by decide +kernel)
theorem l_L_law_2371 : mw_lk d_L_law 2371 = some (mw_c (.iconst 1) 1 (1)) := mw_is_eq (by decide +kernel)
theorem l_L_law_2372 : mw_lk d_L_law 2372 = some (mw_a (.iadd) 1) := mw_is_eq (by decide +kernel)
theorem l_L_law_2373 : mw_lk d_L_law 2373 = some (mw_a (.iaload) 1) := mw_is_eq (by decide +kernel)
theorem l_L_law_2374 : mw_lk d_L_law 2374 = some (((.invokevirtual 303), 3, (2, 0, 16), [10042, 10043, 10044], yX12_countBelow, 0)) := mw_is_eq (by decide +kernel)
theorem l_L_law_2377 : mw_lk d_L_law 2377 = some (mw_b (.if_icmp .eq 923) 3 3300) := mw_is_eq (by decide +kernel)
theorem l_L_law_2380 : mw_lk d_L_law 2380 = some (mw_c (.iconst 0) 1 (0)) := mw_is_eq (by decide +kernel)
theorem l_L_law_2381 : mw_lk d_L_law 2381 = some (mw_a (.ireturn) 1) := mw_is_eq (by decide +kernel)
theorem l_L_law_2382 : mw_lk d_L_law 2382 = some (mw_b (.aload_n 1) 1 1) := mw_is_eq (by decide +kernel)
theorem l_L_law_2383 : mw_lk d_L_law 2383 = some (mw_b (.aload_n 0) 1 0) := mw_is_eq (by decide +kernel)
theorem l_L_law_2384 : mw_lk d_L_law 2384 = some (mw_b (.iload 5) 2 5) := mw_is_eq (by decide +kernel)
theorem l_L_law_2386 : mw_lk d_L_law 2386 = some (mw_c (.iconst 1) 1 (1)) := mw_is_eq (by decide +kernel)
theorem l_L_law_2387 : mw_lk d_L_law 2387 = some (mw_a (.iadd) 1) := mw_is_eq (by decide +kernel)
theorem l_L_law_2388 : mw_lk d_L_law 2388 = some (mw_a (.iaload) 1) := mw_is_eq (by decide +kernel)
theorem l_L_law_2389 : mw_lk d_L_law 2389 = some (((.invokevirtual 304), 3, (2, 0, 15), [3117, 3118, 3119], yX11_countBelowByAsking, 0)) := mw_is_eq (by decide +kernel)
theorem l_L_law_2392 : mw_lk d_L_law 2392 = some (mw_b (.aload_n 2) 1 2) := mw_is_eq (by decide +kernel)
theorem l_L_law_2393 : mw_lk d_L_law 2393 = some (mw_b (.aload_n 0) 1 0) := mw_is_eq (by decide +kernel)
theorem l_L_law_2394 : mw_lk d_L_law 2394 = some (mw_b (.iload 5) 2 5) := mw_is_eq (by decide +kernel)
theorem l_L_law_2396 : mw_lk d_L_law 2396 = some (mw_c (.iconst 1) 1 (1)) := mw_is_eq (by decide +kernel)
theorem l_L_law_2397 : mw_lk d_L_law 2397 = some (mw_a (.iadd) 1) := mw_is_eq (by decide +kernel)
theorem l_L_law_2398 : mw_lk d_L_law 2398 = some (mw_a (.iaload) 1) := mw_is_eq (by decide +kernel)
theorem l_L_law_2399 : mw_lk d_L_law 2399 = some (((.invokevirtual 307), 3, (2, 0, 16), [10046, 10047, 10048], yX12_countBelowByAsking, 0)) := mw_is_eq (by decide +kernel)
theorem l_L_law_2402 : mw_lk d_L_law 2402 = some (mw_b (.if_icmp .eq 898) 3 3300) := mw_is_eq (by decide +kernel)
theorem l_L_law_2405 : mw_lk d_L_law 2405 = some (mw_c (.iconst 0) 1 (0)) := mw_is_eq (by decide +kernel)
theorem l_L_law_2406 : mw_lk d_L_law 2406 = some (mw_a (.ireturn) 1) := mw_is_eq (by decide +kernel)
theorem l_L_law_2407 : mw_lk d_L_law 2407 = some (mw_b (.aload_n 1) 1 1) := mw_is_eq (by decide +kernel)
theorem l_L_law_2408 : mw_lk d_L_law 2408 = some (mw_b (.aload_n 0) 1 0) := mw_is_eq (by decide +kernel)
theorem l_L_law_2409 : mw_lk d_L_law 2409 = some (mw_b (.iload 5) 2 5) := mw_is_eq (by decide +kernel)
theorem l_L_law_2411 : mw_lk d_L_law 2411 = some (mw_c (.iconst 1) 1 (1)) := mw_is_eq (by decide +kernel)
theorem l_L_law_2412 : mw_lk d_L_law 2412 = some (mw_a (.iadd) 1) := mw_is_eq (by decide +kernel)
theorem l_L_law_2413 : mw_lk d_L_law 2413 = some (mw_a (.iaload) 1) := mw_is_eq (by decide +kernel)
theorem l_L_law_2414 : mw_lk d_L_law 2414 = some (mw_b (.aload_n 3) 1 3) := mw_is_eq (by decide +kernel)
theorem l_L_law_2415 : mw_lk d_L_law 2415 = some (((.invokestatic 308), 3, (3, 5, 0), [6114, 6115], yL_pass, 0)) := mw_is_eq (by decide +kernel)
theorem l_L_law_2418 : mw_lk d_L_law 2418 = some (mw_b (.istore 6) 2 6) := mw_is_eq (by decide +kernel)
theorem l_L_law_2420 : mw_lk d_L_law 2420 = some (mw_b (.aload_n 2) 1 2) := mw_is_eq (by decide +kernel)
theorem l_L_law_2421 : mw_lk d_L_law 2421 = some (mw_b (.aload_n 0) 1 0) := mw_is_eq (by decide +kernel)
theorem l_L_law_2422 : mw_lk d_L_law 2422 = some (mw_b (.iload 5) 2 5) := mw_is_eq (by decide +kernel)
theorem l_L_law_2424 : mw_lk d_L_law 2424 = some (mw_c (.iconst 1) 1 (1)) := mw_is_eq (by decide +kernel)
theorem l_L_law_2425 : mw_lk d_L_law 2425 = some (mw_a (.iadd) 1) := mw_is_eq (by decide +kernel)
theorem l_L_law_2426 : mw_lk d_L_law 2426 = some (mw_a (.iaload) 1) := mw_is_eq (by decide +kernel)
theorem l_L_law_2427 : mw_lk d_L_law 2427 = some (((.invokevirtual 310), 3, (2, 0, 16), [10051, 10052, 10053], yX12_pass, 0)) := mw_is_eq (by decide +kernel)
theorem l_L_law_2430 : mw_lk d_L_law 2430 = some (mw_b (.istore 7) 2 7) := mw_is_eq (by decide +kernel)
theorem l_L_law_2432 : mw_lk d_L_law 2432 = some (mw_b (.aload_n 2) 1 2) := mw_is_eq (by decide +kernel)
theorem l_L_law_2433 : mw_lk d_L_law 2433 = some (((.invokevirtual 185), 3, (1, 0, 16), [8221, 8222, 8223], yX12_thrown, 0)) := mw_is_eq (by decide +kernel)
theorem l_L_law_2436 : mw_lk d_L_law 2436 = some (mw_b (.iload 6) 2 6) := mw_is_eq (by decide +kernel)
theorem l_L_law_2438 : mw_lk d_L_law 2438 = some (mw_b (.if_icmp .eq 5) 3 2443) := mw_is_eq (by decide +kernel)
theorem l_L_law_2441 : mw_lk d_L_law 2441 = some (mw_c (.iconst 0) 1 (0)) := mw_is_eq (by decide +kernel)
theorem l_L_law_2442 : mw_lk d_L_law 2442 = some (mw_a (.ireturn) 1) := mw_is_eq (by decide +kernel)
theorem l_L_law_2443 : mw_lk d_L_law 2443 = some (mw_b (.iload 6) 2 6) := mw_is_eq (by decide +kernel)
theorem l_L_law_2445 : mw_lk d_L_law 2445 = some (mw_b (.ifCond .ne 15) 3 2460) := mw_is_eq (by decide +kernel)
theorem l_L_law_2448 : mw_lk d_L_law 2448 = some (mw_b (.aload_n 3) 1 3) := mw_is_eq (by decide +kernel)
theorem l_L_law_2449 : mw_lk d_L_law 2449 = some (mw_c (.iconst 0) 1 (0)) := mw_is_eq (by decide +kernel)
theorem l_L_law_2450 : mw_lk d_L_law 2450 = some (mw_a (.laload) 1) := mw_is_eq (by decide +kernel)
theorem l_L_law_2451 : mw_lk d_L_law 2451 = some (mw_b (.iload 7) 2 7) := mw_is_eq (by decide +kernel)
theorem l_L_law_2453 : mw_lk d_L_law 2453 = some (mw_a (.i2l) 1) := mw_is_eq (by decide +kernel)
theorem l_L_law_2454 : mw_lk d_L_law 2454 = some (mw_a (.lcmp) 1) := mw_is_eq (by decide +kernel)
theorem l_L_law_2455 : mw_lk d_L_law 2455 = some (mw_b (.ifCond .eq 5) 3 2460) := mw_is_eq (by decide +kernel)
theorem l_L_law_2458 : mw_lk d_L_law 2458 = some (mw_c (.iconst 0) 1 (0)) := mw_is_eq (by decide +kernel)
theorem l_L_law_2459 : mw_lk d_L_law 2459 = some (mw_a (.ireturn) 1) := mw_is_eq (by decide +kernel)
theorem l_L_law_2460 : mw_lk d_L_law 2460 = some (mw_b (.goto 840) 3 3300) := mw_is_eq (by decide +kernel)
theorem l_L_law_2463 : mw_lk d_L_law 2463 = some (mw_b (.aload_n 1) 1 1) := mw_is_eq (by decide +kernel)
theorem l_L_law_2464 : mw_lk d_L_law 2464 = some (((.invokevirtual 311), 3, (1, 0, 15), [3125, 3126, 3127], yX11_hour, 0)) := mw_is_eq (by decide +kernel)
theorem l_L_law_2467 : mw_lk d_L_law 2467 = some (mw_b (.aload_n 2) 1 2) := mw_is_eq (by decide +kernel)
theorem l_L_law_2468 : mw_lk d_L_law 2468 = some (((.invokevirtual 314), 3, (1, 0, 16), [10067, 10068, 10069], yX12_hour, 0)) := mw_is_eq (by decide +kernel)
theorem l_L_law_2471 : mw_lk d_L_law 2471 = some (mw_b (.if_icmp .eq 829) 3 3300) := mw_is_eq (by decide +kernel)
theorem l_L_law_2474 : mw_lk d_L_law 2474 = some (mw_c (.iconst 0) 1 (0)) := mw_is_eq (by decide +kernel)
theorem l_L_law_2475 : mw_lk d_L_law 2475 = some (mw_a (.ireturn) 1) := mw_is_eq (by decide +kernel)
theorem l_L_law_2476 : mw_lk d_L_law 2476 = some (mw_b (.aload_n 1) 1 1) := mw_is_eq (by decide +kernel)
theorem l_L_law_2477 : mw_lk d_L_law 2477 = some (mw_b (.aload_n 3) 1 3) := mw_is_eq (by decide +kernel)
theorem l_L_law_2478 : mw_lk d_L_law 2478 = some (((.invokestatic 315), 3, (2, 5, 0), [6142, 6143], yL_refusalReason, 0)) := mw_is_eq (by decide +kernel)
theorem l_L_law_2481 : mw_lk d_L_law 2481 = some (mw_b (.istore 6) 2 6) := mw_is_eq (by decide +kernel)
theorem l_L_law_2483 : mw_lk d_L_law 2483 = some (mw_b (.aload_n 2) 1 2) := mw_is_eq (by decide +kernel)
theorem l_L_law_2484 : mw_lk d_L_law 2484 = some (((.invokevirtual 317), 3, (1, 0, 16), [10071, 10072, 10073], yX12_refusalReason, 0)) := mw_is_eq (by decide +kernel)
theorem l_L_law_2487 : mw_lk d_L_law 2487 = some (mw_b (.istore 7) 2 7) := mw_is_eq (by decide +kernel)
theorem l_L_law_2489 : mw_lk d_L_law 2489 = some (mw_b (.aload_n 2) 1 2) := mw_is_eq (by decide +kernel)
theorem l_L_law_2490 : mw_lk d_L_law 2490 = some (((.invokevirtual 185), 3, (1, 0, 16), [8221, 8222, 8223], yX12_thrown, 0)) := mw_is_eq (by decide +kernel)
theorem l_L_law_2493 : mw_lk d_L_law 2493 = some (mw_b (.iload 6) 2 6) := mw_is_eq (by decide +kernel)
theorem l_L_law_2495 : mw_lk d_L_law 2495 = some (mw_b (.if_icmp .eq 5) 3 2500) := mw_is_eq (by decide +kernel)
theorem l_L_law_2498 : mw_lk d_L_law 2498 = some (mw_c (.iconst 0) 1 (0)) := mw_is_eq (by decide +kernel)
theorem l_L_law_2499 : mw_lk d_L_law 2499 = some (mw_a (.ireturn) 1) := mw_is_eq (by decide +kernel)
theorem l_L_law_2500 : mw_lk d_L_law 2500 = some (mw_b (.iload 6) 2 6) := mw_is_eq (by decide +kernel)
theorem l_L_law_2502 : mw_lk d_L_law 2502 = some (mw_b (.ifCond .ne 15) 3 2517) := mw_is_eq (by decide +kernel)
theorem l_L_law_2505 : mw_lk d_L_law 2505 = some (mw_b (.aload_n 3) 1 3) := mw_is_eq (by decide +kernel)
theorem l_L_law_2506 : mw_lk d_L_law 2506 = some (mw_c (.iconst 0) 1 (0)) := mw_is_eq (by decide +kernel)
theorem l_L_law_2507 : mw_lk d_L_law 2507 = some (mw_a (.laload) 1) := mw_is_eq (by decide +kernel)
theorem l_L_law_2508 : mw_lk d_L_law 2508 = some (mw_b (.iload 7) 2 7) := mw_is_eq (by decide +kernel)
theorem l_L_law_2510 : mw_lk d_L_law 2510 = some (mw_a (.i2l) 1) := mw_is_eq (by decide +kernel)
theorem l_L_law_2511 : mw_lk d_L_law 2511 = some (mw_a (.lcmp) 1) := mw_is_eq (by decide +kernel)
theorem l_L_law_2512 : mw_lk d_L_law 2512 = some (mw_b (.ifCond .eq 5) 3 2517) := mw_is_eq (by decide +kernel)
theorem l_L_law_2515 : mw_lk d_L_law 2515 = some (mw_c (.iconst 0) 1 (0)) := mw_is_eq (by decide +kernel)
theorem l_L_law_2516 : mw_lk d_L_law 2516 = some (mw_a (.ireturn) 1) := mw_is_eq (by decide +kernel)
theorem l_L_law_2517 : mw_lk d_L_law 2517 = some (mw_b (.goto 783) 3 3300) := mw_is_eq (by decide +kernel)
theorem l_L_law_2520 : mw_lk d_L_law 2520 = some (mw_b (.aload_n 1) 1 1) := mw_is_eq (by decide +kernel)
theorem l_L_law_2521 : mw_lk d_L_law 2521 = some (((.invokevirtual 318), 3, (1, 0, 15), [3129, 3130, 3131], yX11_passageCount, 0)) := mw_is_eq (by decide +kernel)
theorem l_L_law_2524 : mw_lk d_L_law 2524 = some (mw_b (.aload_n 2) 1 2) := mw_is_eq (by decide +kernel)
theorem l_L_law_2525 : mw_lk d_L_law 2525 = some (((.invokevirtual 321), 3, (1, 0, 16), [10075, 10076, 10077], yX12_passageCount, 0)) := mw_is_eq (by decide +kernel)
theorem l_L_law_2528 : mw_lk d_L_law 2528 = some (mw_b (.if_icmp .eq 772) 3 3300) := mw_is_eq (by decide +kernel)
theorem l_L_law_2531 : mw_lk d_L_law 2531 = some (mw_c (.iconst 0) 1 (0)) := mw_is_eq (by decide +kernel)
theorem l_L_law_2532 : mw_lk d_L_law 2532 = some (mw_a (.ireturn) 1) := mw_is_eq (by decide +kernel)
theorem l_L_law_2533 : mw_lk d_L_law 2533 = some (mw_b (.aload_n 1) 1 1) := mw_is_eq (by decide +kernel)
theorem l_L_law_2534 : mw_lk d_L_law 2534 = some (mw_b (.aload_n 0) 1 0) := mw_is_eq (by decide +kernel)
theorem l_L_law_2535 : mw_lk d_L_law 2535 = some (mw_b (.iload 5) 2 5) := mw_is_eq (by decide +kernel)
theorem l_L_law_2537 : mw_lk d_L_law 2537 = some (mw_c (.iconst 1) 1 (1)) := mw_is_eq (by decide +kernel)
theorem l_L_law_2538 : mw_lk d_L_law 2538 = some (mw_a (.iadd) 1) := mw_is_eq (by decide +kernel)
theorem l_L_law_2539 : mw_lk d_L_law 2539 = some (mw_a (.iaload) 1) := mw_is_eq (by decide +kernel)
theorem l_L_law_2540 : mw_lk d_L_law 2540 = some (mw_b (.aload_n 3) 1 3) := mw_is_eq (by decide +kernel)
theorem l_L_law_2541 : mw_lk d_L_law 2541 = some (((.invokestatic 322), 3, (3, 5, 0), [6149, 6150], yL_passageFerry, 0)) := mw_is_eq (by decide +kernel)
theorem l_L_law_2544 : mw_lk d_L_law 2544 = some (mw_b (.istore 6) 2 6) := mw_is_eq (by decide +kernel)
theorem l_L_law_2546 : mw_lk d_L_law 2546 = some (mw_b (.aload_n 2) 1 2) := mw_is_eq (by decide +kernel)
theorem l_L_law_2547 : mw_lk d_L_law 2547 = some (mw_b (.aload_n 0) 1 0) := mw_is_eq (by decide +kernel)
theorem l_L_law_2548 : mw_lk d_L_law 2548 = some (mw_b (.iload 5) 2 5) := mw_is_eq (by decide +kernel)
theorem l_L_law_2550 : mw_lk d_L_law 2550 = some (mw_c (.iconst 1) 1 (1)) := mw_is_eq (by decide +kernel)
theorem l_L_law_2551 : mw_lk d_L_law 2551 = some (mw_a (.iadd) 1) := mw_is_eq (by decide +kernel)
theorem l_L_law_2552 : mw_lk d_L_law 2552 = some (mw_a (.iaload) 1) := mw_is_eq (by decide +kernel)
theorem l_L_law_2553 : mw_lk d_L_law 2553 = some (((.invokevirtual 324), 3, (2, 0, 16), [10079, 10080, 10081], yX12_passageFerry, 0)) := mw_is_eq (by decide +kernel)
theorem l_L_law_2556 : mw_lk d_L_law 2556 = some (mw_b (.istore 7) 2 7) := mw_is_eq (by decide +kernel)
theorem l_L_law_2558 : mw_lk d_L_law 2558 = some (mw_b (.aload_n 2) 1 2) := mw_is_eq (by decide +kernel)
theorem l_L_law_2559 : mw_lk d_L_law 2559 = some (((.invokevirtual 185), 3, (1, 0, 16), [8221, 8222, 8223], yX12_thrown, 0)) := mw_is_eq (by decide +kernel)
theorem l_L_law_2562 : mw_lk d_L_law 2562 = some (mw_b (.iload 6) 2 6) := mw_is_eq (by decide +kernel)
theorem l_L_law_2564 : mw_lk d_L_law 2564 = some (mw_b (.if_icmp .eq 5) 3 2569) := mw_is_eq (by decide +kernel)
theorem l_L_law_2567 : mw_lk d_L_law 2567 = some (mw_c (.iconst 0) 1 (0)) := mw_is_eq (by decide +kernel)
theorem l_L_law_2568 : mw_lk d_L_law 2568 = some (mw_a (.ireturn) 1) := mw_is_eq (by decide +kernel)
theorem l_L_law_2569 : mw_lk d_L_law 2569 = some (mw_b (.iload 6) 2 6) := mw_is_eq (by decide +kernel)
theorem l_L_law_2571 : mw_lk d_L_law 2571 = some (mw_b (.ifCond .ne 15) 3 2586) := mw_is_eq (by decide +kernel)
theorem l_L_law_2574 : mw_lk d_L_law 2574 = some (mw_b (.aload_n 3) 1 3) := mw_is_eq (by decide +kernel)
theorem l_L_law_2575 : mw_lk d_L_law 2575 = some (mw_c (.iconst 0) 1 (0)) := mw_is_eq (by decide +kernel)
theorem l_L_law_2576 : mw_lk d_L_law 2576 = some (mw_a (.laload) 1) := mw_is_eq (by decide +kernel)
theorem l_L_law_2577 : mw_lk d_L_law 2577 = some (mw_b (.iload 7) 2 7) := mw_is_eq (by decide +kernel)
theorem l_L_law_2579 : mw_lk d_L_law 2579 = some (mw_a (.i2l) 1) := mw_is_eq (by decide +kernel)
theorem l_L_law_2580 : mw_lk d_L_law 2580 = some (mw_a (.lcmp) 1) := mw_is_eq (by decide +kernel)
theorem l_L_law_2581 : mw_lk d_L_law 2581 = some (mw_b (.ifCond .eq 5) 3 2586) := mw_is_eq (by decide +kernel)
theorem l_L_law_2584 : mw_lk d_L_law 2584 = some (mw_c (.iconst 0) 1 (0)) := mw_is_eq (by decide +kernel)
theorem l_L_law_2585 : mw_lk d_L_law 2585 = some (mw_a (.ireturn) 1) := mw_is_eq (by decide +kernel)
theorem l_L_law_2586 : mw_lk d_L_law 2586 = some (mw_b (.goto 714) 3 3300) := mw_is_eq (by decide +kernel)
theorem l_L_law_2589 : mw_lk d_L_law 2589 = some (mw_b (.aload_n 1) 1 1) := mw_is_eq (by decide +kernel)
theorem l_L_law_2590 : mw_lk d_L_law 2590 = some (mw_b (.aload_n 0) 1 0) := mw_is_eq (by decide +kernel)
theorem l_L_law_2591 : mw_lk d_L_law 2591 = some (mw_b (.iload 5) 2 5) := mw_is_eq (by decide +kernel)
theorem l_L_law_2593 : mw_lk d_L_law 2593 = some (mw_c (.iconst 1) 1 (1)) := mw_is_eq (by decide +kernel)
theorem l_L_law_2594 : mw_lk d_L_law 2594 = some (mw_a (.iadd) 1) := mw_is_eq (by decide +kernel)
theorem l_L_law_2595 : mw_lk d_L_law 2595 = some (mw_a (.iaload) 1) := mw_is_eq (by decide +kernel)
theorem l_L_law_2596 : mw_lk d_L_law 2596 = some (mw_b (.aload_n 3) 1 3) := mw_is_eq (by decide +kernel)
theorem l_L_law_2597 : mw_lk d_L_law 2597 = some (((.invokestatic 325), 3, (3, 5, 0), [6165, 6166], yL_passageCrater, 0)) := mw_is_eq (by decide +kernel)
theorem l_L_law_2600 : mw_lk d_L_law 2600 = some (mw_b (.istore 6) 2 6) := mw_is_eq (by decide +kernel)
theorem l_L_law_2602 : mw_lk d_L_law 2602 = some (mw_b (.aload_n 2) 1 2) := mw_is_eq (by decide +kernel)
theorem l_L_law_2603 : mw_lk d_L_law 2603 = some (mw_b (.aload_n 0) 1 0) := mw_is_eq (by decide +kernel)
theorem l_L_law_2604 : mw_lk d_L_law 2604 = some (mw_b (.iload 5) 2 5) := mw_is_eq (by decide +kernel)
theorem l_L_law_2606 : mw_lk d_L_law 2606 = some (mw_c (.iconst 1) 1 (1)) := mw_is_eq (by decide +kernel)
theorem l_L_law_2607 : mw_lk d_L_law 2607 = some (mw_a (.iadd) 1) := mw_is_eq (by decide +kernel)
theorem l_L_law_2608 : mw_lk d_L_law 2608 = some (mw_a (.iaload) 1) := mw_is_eq (by decide +kernel)
theorem l_L_law_2609 : mw_lk d_L_law 2609 = some (((.invokevirtual 327), 3, (2, 0, 16), [10087, 10088, 10089], yX12_passageCrater, 0)) := mw_is_eq (by decide +kernel)
theorem l_L_law_2612 : mw_lk d_L_law 2612 = some (mw_b (.istore 7) 2 7) := mw_is_eq (by decide +kernel)
theorem l_L_law_2614 : mw_lk d_L_law 2614 = some (mw_b (.aload_n 2) 1 2) := mw_is_eq (by decide +kernel)
theorem l_L_law_2615 : mw_lk d_L_law 2615 = some (((.invokevirtual 185), 3, (1, 0, 16), [8221, 8222, 8223], yX12_thrown, 0)) := mw_is_eq (by decide +kernel)
theorem l_L_law_2618 : mw_lk d_L_law 2618 = some (mw_b (.iload 6) 2 6) := mw_is_eq (by decide +kernel)
theorem l_L_law_2620 : mw_lk d_L_law 2620 = some (mw_b (.if_icmp .eq 5) 3 2625) := mw_is_eq (by decide +kernel)
theorem l_L_law_2623 : mw_lk d_L_law 2623 = some (mw_c (.iconst 0) 1 (0)) := mw_is_eq (by decide +kernel)
theorem l_L_law_2624 : mw_lk d_L_law 2624 = some (mw_a (.ireturn) 1) := mw_is_eq (by decide +kernel)
theorem l_L_law_2625 : mw_lk d_L_law 2625 = some (mw_b (.iload 6) 2 6) := mw_is_eq (by decide +kernel)
theorem l_L_law_2627 : mw_lk d_L_law 2627 = some (mw_b (.ifCond .ne 15) 3 2642) := mw_is_eq (by decide +kernel)
theorem l_L_law_2630 : mw_lk d_L_law 2630 = some (mw_b (.aload_n 3) 1 3) := mw_is_eq (by decide +kernel)
theorem l_L_law_2631 : mw_lk d_L_law 2631 = some (mw_c (.iconst 0) 1 (0)) := mw_is_eq (by decide +kernel)
theorem l_L_law_2632 : mw_lk d_L_law 2632 = some (mw_a (.laload) 1) := mw_is_eq (by decide +kernel)
theorem l_L_law_2633 : mw_lk d_L_law 2633 = some (mw_b (.iload 7) 2 7) := mw_is_eq (by decide +kernel)
theorem l_L_law_2635 : mw_lk d_L_law 2635 = some (mw_a (.i2l) 1) := mw_is_eq (by decide +kernel)
theorem l_L_law_2636 : mw_lk d_L_law 2636 = some (mw_a (.lcmp) 1) := mw_is_eq (by decide +kernel)
theorem l_L_law_2637 : mw_lk d_L_law 2637 = some (mw_b (.ifCond .eq 5) 3 2642) := mw_is_eq (by decide +kernel)
theorem l_L_law_2640 : mw_lk d_L_law 2640 = some (mw_c (.iconst 0) 1 (0)) := mw_is_eq (by decide +kernel)
theorem l_L_law_2641 : mw_lk d_L_law 2641 = some (mw_a (.ireturn) 1) := mw_is_eq (by decide +kernel)
theorem l_L_law_2642 : mw_lk d_L_law 2642 = some (mw_b (.goto 658) 3 3300) := mw_is_eq (by decide +kernel)
theorem l_L_law_2645 : mw_lk d_L_law 2645 = some (mw_b (.aload_n 1) 1 1) := mw_is_eq (by decide +kernel)
theorem l_L_law_2646 : mw_lk d_L_law 2646 = some (mw_b (.aload_n 0) 1 0) := mw_is_eq (by decide +kernel)
theorem l_L_law_2647 : mw_lk d_L_law 2647 = some (mw_b (.iload 5) 2 5) := mw_is_eq (by decide +kernel)
theorem l_L_law_2649 : mw_lk d_L_law 2649 = some (mw_c (.iconst 1) 1 (1)) := mw_is_eq (by decide +kernel)
theorem l_L_law_2650 : mw_lk d_L_law 2650 = some (mw_a (.iadd) 1) := mw_is_eq (by decide +kernel)
theorem l_L_law_2651 : mw_lk d_L_law 2651 = some (mw_a (.iaload) 1) := mw_is_eq (by decide +kernel)
theorem l_L_law_2652 : mw_lk d_L_law 2652 = some (mw_b (.aload_n 3) 1 3) := mw_is_eq (by decide +kernel)
theorem l_L_law_2653 : mw_lk d_L_law 2653 = some (((.invokestatic 328), 3, (3, 5, 0), [6172, 6173], yL_passageHour, 0)) := mw_is_eq (by decide +kernel)
theorem l_L_law_2656 : mw_lk d_L_law 2656 = some (mw_b (.istore 6) 2 6) := mw_is_eq (by decide +kernel)
theorem l_L_law_2658 : mw_lk d_L_law 2658 = some (mw_b (.aload_n 2) 1 2) := mw_is_eq (by decide +kernel)
theorem l_L_law_2659 : mw_lk d_L_law 2659 = some (mw_b (.aload_n 0) 1 0) := mw_is_eq (by decide +kernel)
theorem l_L_law_2660 : mw_lk d_L_law 2660 = some (mw_b (.iload 5) 2 5) := mw_is_eq (by decide +kernel)
theorem l_L_law_2662 : mw_lk d_L_law 2662 = some (mw_c (.iconst 1) 1 (1)) := mw_is_eq (by decide +kernel)
theorem l_L_law_2663 : mw_lk d_L_law 2663 = some (mw_a (.iadd) 1) := mw_is_eq (by decide +kernel)
theorem l_L_law_2664 : mw_lk d_L_law 2664 = some (mw_a (.iaload) 1) := mw_is_eq (by decide +kernel)
theorem l_L_law_2665 : mw_lk d_L_law 2665 = some (((.invokevirtual 330), 3, (2, 0, 16), [10091, 10092, 10093], yX12_passageHour, 0)) := mw_is_eq (by decide +kernel)
theorem l_L_law_2668 : mw_lk d_L_law 2668 = some (mw_b (.istore 7) 2 7) := mw_is_eq (by decide +kernel)
theorem l_L_law_2670 : mw_lk d_L_law 2670 = some (mw_b (.aload_n 2) 1 2) := mw_is_eq (by decide +kernel)
theorem l_L_law_2671 : mw_lk d_L_law 2671 = some (((.invokevirtual 185), 3, (1, 0, 16), [8221, 8222, 8223], yX12_thrown, 0)) := mw_is_eq (by decide +kernel)
theorem l_L_law_2674 : mw_lk d_L_law 2674 = some (mw_b (.iload 6) 2 6) := mw_is_eq (by decide +kernel)
theorem l_L_law_2676 : mw_lk d_L_law 2676 = some (mw_b (.if_icmp .eq 5) 3 2681) := mw_is_eq (by decide +kernel)
theorem l_L_law_2679 : mw_lk d_L_law 2679 = some (mw_c (.iconst 0) 1 (0)) := mw_is_eq (by decide +kernel)
theorem l_L_law_2680 : mw_lk d_L_law 2680 = some (mw_a (.ireturn) 1) := mw_is_eq (by decide +kernel)
theorem l_L_law_2681 : mw_lk d_L_law 2681 = some (mw_b (.iload 6) 2 6) := mw_is_eq (by decide +kernel)
theorem l_L_law_2683 : mw_lk d_L_law 2683 = some (mw_b (.ifCond .ne 15) 3 2698) := mw_is_eq (by decide +kernel)
theorem l_L_law_2686 : mw_lk d_L_law 2686 = some (mw_b (.aload_n 3) 1 3) := mw_is_eq (by decide +kernel)
theorem l_L_law_2687 : mw_lk d_L_law 2687 = some (mw_c (.iconst 0) 1 (0)) := mw_is_eq (by decide +kernel)
theorem l_L_law_2688 : mw_lk d_L_law 2688 = some (mw_a (.laload) 1) := mw_is_eq (by decide +kernel)
theorem l_L_law_2689 : mw_lk d_L_law 2689 = some (mw_b (.iload 7) 2 7) := mw_is_eq (by decide +kernel)
theorem l_L_law_2691 : mw_lk d_L_law 2691 = some (mw_a (.i2l) 1) := mw_is_eq (by decide +kernel)
theorem l_L_law_2692 : mw_lk d_L_law 2692 = some (mw_a (.lcmp) 1) := mw_is_eq (by decide +kernel)
theorem l_L_law_2693 : mw_lk d_L_law 2693 = some (mw_b (.ifCond .eq 5) 3 2698) := mw_is_eq (by decide +kernel)
theorem l_L_law_2696 : mw_lk d_L_law 2696 = some (mw_c (.iconst 0) 1 (0)) := mw_is_eq (by decide +kernel)
theorem l_L_law_2697 : mw_lk d_L_law 2697 = some (mw_a (.ireturn) 1) := mw_is_eq (by decide +kernel)
theorem l_L_law_2698 : mw_lk d_L_law 2698 = some (mw_b (.goto 602) 3 3300) := mw_is_eq (by decide +kernel)
theorem l_L_law_2701 : mw_lk d_L_law 2701 = some (mw_b (.aload_n 1) 1 1) := mw_is_eq (by decide +kernel)
theorem l_L_law_2702 : mw_lk d_L_law 2702 = some (((.invokevirtual 331), 3, (1, 0, 15), [3133, 3134, 3135], yX11_strandingCount, 0)) := mw_is_eq (by decide +kernel)
theorem l_L_law_2705 : mw_lk d_L_law 2705 = some (mw_b (.aload_n 2) 1 2) := mw_is_eq (by decide +kernel)
theorem l_L_law_2706 : mw_lk d_L_law 2706 = some (((.invokevirtual 334), 3, (1, 0, 16), [10095, 10096, 10097], yX12_strandingCount, 0)) := mw_is_eq (by decide +kernel)
theorem l_L_law_2709 : mw_lk d_L_law 2709 = some (mw_b (.if_icmp .eq 591) 3 3300) := mw_is_eq (by decide +kernel)
theorem l_L_law_2712 : mw_lk d_L_law 2712 = some (mw_c (.iconst 0) 1 (0)) := mw_is_eq (by decide +kernel)
theorem l_L_law_2713 : mw_lk d_L_law 2713 = some (mw_a (.ireturn) 1) := mw_is_eq (by decide +kernel)
theorem l_L_law_2714 : mw_lk d_L_law 2714 = some (mw_b (.aload_n 1) 1 1) := mw_is_eq (by decide +kernel)
theorem l_L_law_2715 : mw_lk d_L_law 2715 = some (((.invokevirtual 335), 3, (1, 0, 15), [3137, 3138, 3139], yX11_coins, 0)) := mw_is_eq (by decide +kernel)
theorem l_L_law_2718 : mw_lk d_L_law 2718 = some (mw_b (.aload_n 2) 1 2) := mw_is_eq (by decide +kernel)
theorem l_L_law_2719 : mw_lk d_L_law 2719 = some (((.invokevirtual 339), 3, (1, 0, 16), [10099, 10100, 10101], yX12_coins, 0)) := mw_is_eq (by decide +kernel)
theorem l_L_law_2722 : mw_lk d_L_law 2722 = some (mw_a (.lcmp) 1) := mw_is_eq (by decide +kernel)
theorem l_L_law_2723 : mw_lk d_L_law 2723 = some (mw_b (.ifCond .eq 577) 3 3300) := mw_is_eq (by decide +kernel)
theorem l_L_law_2726 : mw_lk d_L_law 2726 = some (mw_c (.iconst 0) 1 (0)) := mw_is_eq (by decide +kernel)
theorem l_L_law_2727 : mw_lk d_L_law 2727 = some (mw_a (.ireturn) 1) := mw_is_eq (by decide +kernel)
theorem l_L_law_2728 : mw_lk d_L_law 2728 = some (mw_b (.aload_n 1) 1 1) := mw_is_eq (by decide +kernel)
theorem l_L_law_2729 : mw_lk d_L_law 2729 = some (((.invokevirtual 340), 3, (1, 0, 15), [3141, 3142, 3143], yX11_fareTotal, 0)) := mw_is_eq (by decide +kernel)
theorem l_L_law_2732 : mw_lk d_L_law 2732 = some (mw_b (.aload_n 2) 1 2) := mw_is_eq (by decide +kernel)
theorem l_L_law_2733 : mw_lk d_L_law 2733 = some (((.invokevirtual 343), 3, (1, 0, 16), [10104, 10105, 10106], yX12_fareTotal, 0)) := mw_is_eq (by decide +kernel)
theorem l_L_law_2736 : mw_lk d_L_law 2736 = some (mw_b (.if_icmp .eq 564) 3 3300) := mw_is_eq (by decide +kernel)
theorem l_L_law_2739 : mw_lk d_L_law 2739 = some (mw_c (.iconst 0) 1 (0)) := mw_is_eq (by decide +kernel)
theorem l_L_law_2740 : mw_lk d_L_law 2740 = some (mw_a (.ireturn) 1) := mw_is_eq (by decide +kernel)
theorem l_L_law_2741 : mw_lk d_L_law 2741 = some (mw_b (.aload_n 1) 1 1) := mw_is_eq (by decide +kernel)
theorem l_L_law_2742 : mw_lk d_L_law 2742 = some (mw_b (.aload_n 0) 1 0) := mw_is_eq (by decide +kernel)
theorem l_L_law_2743 : mw_lk d_L_law 2743 = some (mw_b (.iload 5) 2 5) := mw_is_eq (by decide +kernel)
theorem l_L_law_2745 : mw_lk d_L_law 2745 = some (mw_c (.iconst 1) 1 (1)) := mw_is_eq (by decide +kernel)
theorem l_L_law_2746 : mw_lk d_L_law 2746 = some (mw_a (.iadd) 1) := mw_is_eq (by decide +kernel)
theorem l_L_law_2747 : mw_lk d_L_law 2747 = some (mw_a (.iaload) 1) := mw_is_eq (by decide +kernel)
theorem l_L_law_2748 : mw_lk d_L_law 2748 = some (mw_a (.i2c) 1) := mw_is_eq (by decide +kernel)
theorem l_L_law_2749 : mw_lk d_L_law 2749 = some (mw_b (.aload_n 3) 1 3) := mw_is_eq (by decide +kernel)
theorem l_L_law_2750 : mw_lk d_L_law 2750 = some (((.invokestatic 344), 3, (3, 5, 0), [6179, 6180], yL_append, 0)) := mw_is_eq (by decide +kernel)
theorem l_L_law_2753 : mw_lk d_L_law 2753 = some (mw_b (.istore 6) 2 6) := mw_is_eq (by decide +kernel)
theorem l_L_law_2755 : mw_lk d_L_law 2755 = some (mw_b (.aload_n 2) 1 2) := mw_is_eq (by decide +kernel)
theorem l_L_law_2756 : mw_lk d_L_law 2756 = some (mw_b (.aload_n 0) 1 0) := mw_is_eq (by decide +kernel)
theorem l_L_law_2757 : mw_lk d_L_law 2757 = some (mw_b (.iload 5) 2 5) := mw_is_eq (by decide +kernel)
theorem l_L_law_2759 : mw_lk d_L_law 2759 = some (mw_c (.iconst 1) 1 (1)) := mw_is_eq (by decide +kernel)
theorem l_L_law_2760 : mw_lk d_L_law 2760 = some (mw_a (.iadd) 1) := mw_is_eq (by decide +kernel)
theorem l_L_law_2761 : mw_lk d_L_law 2761 = some (mw_a (.iaload) 1) := mw_is_eq (by decide +kernel)
theorem l_L_law_2762 : mw_lk d_L_law 2762 = some (mw_a (.i2c) 1) := mw_is_eq (by decide +kernel)
theorem l_L_law_2763 : mw_lk d_L_law 2763 = some (((.invokevirtual 347), 3, (2, 0, 16), [10108, 10109, 10110], yX12_append, 0)) := mw_is_eq (by decide +kernel)
theorem l_L_law_2766 : mw_lk d_L_law 2766 = some (mw_b (.istore 7) 2 7) := mw_is_eq (by decide +kernel)
theorem l_L_law_2768 : mw_lk d_L_law 2768 = some (mw_b (.aload_n 2) 1 2) := mw_is_eq (by decide +kernel)
theorem l_L_law_2769 : mw_lk d_L_law 2769 = some (((.invokevirtual 185), 3, (1, 0, 16), [8221, 8222, 8223], yX12_thrown, 0)) := mw_is_eq (by decide +kernel)
theorem l_L_law_2772 : mw_lk d_L_law 2772 = some (mw_b (.iload 6) 2 6) := mw_is_eq (by decide +kernel)
theorem l_L_law_2774 : mw_lk d_L_law 2774 = some (mw_b (.if_icmp .eq 5) 3 2779) := mw_is_eq (by decide +kernel)
theorem l_L_law_2777 : mw_lk d_L_law 2777 = some (mw_c (.iconst 0) 1 (0)) := mw_is_eq (by decide +kernel)
theorem l_L_law_2778 : mw_lk d_L_law 2778 = some (mw_a (.ireturn) 1) := mw_is_eq (by decide +kernel)
theorem l_L_law_2779 : mw_lk d_L_law 2779 = some (mw_b (.iload 6) 2 6) := mw_is_eq (by decide +kernel)
theorem l_L_law_2781 : mw_lk d_L_law 2781 = some (mw_b (.ifCond .ne 15) 3 2796) := mw_is_eq (by decide +kernel)
theorem l_L_law_2784 : mw_lk d_L_law 2784 = some (mw_b (.aload_n 3) 1 3) := mw_is_eq (by decide +kernel)
theorem l_L_law_2785 : mw_lk d_L_law 2785 = some (mw_c (.iconst 0) 1 (0)) := mw_is_eq (by decide +kernel)
theorem l_L_law_2786 : mw_lk d_L_law 2786 = some (mw_a (.laload) 1) := mw_is_eq (by decide +kernel)
theorem l_L_law_2787 : mw_lk d_L_law 2787 = some (mw_b (.iload 7) 2 7) := mw_is_eq (by decide +kernel)
theorem l_L_law_2789 : mw_lk d_L_law 2789 = some (mw_a (.i2l) 1) := mw_is_eq (by decide +kernel)
theorem l_L_law_2790 : mw_lk d_L_law 2790 = some (mw_a (.lcmp) 1) := mw_is_eq (by decide +kernel)
theorem l_L_law_2791 : mw_lk d_L_law 2791 = some (mw_b (.ifCond .eq 5) 3 2796) := mw_is_eq (by decide +kernel)
theorem l_L_law_2794 : mw_lk d_L_law 2794 = some (mw_c (.iconst 0) 1 (0)) := mw_is_eq (by decide +kernel)
theorem l_L_law_2795 : mw_lk d_L_law 2795 = some (mw_a (.ireturn) 1) := mw_is_eq (by decide +kernel)
theorem l_L_law_2796 : mw_lk d_L_law 2796 = some (mw_b (.goto 504) 3 3300) := mw_is_eq (by decide +kernel)
theorem l_L_law_2799 : mw_lk d_L_law 2799 = some (mw_b (.aload_n 1) 1 1) := mw_is_eq (by decide +kernel)
theorem l_L_law_2800 : mw_lk d_L_law 2800 = some (mw_b (.aload_n 3) 1 3) := mw_is_eq (by decide +kernel)
theorem l_L_law_2801 : mw_lk d_L_law 2801 = some (((.invokestatic 348), 3, (2, 5, 0), [6190, 6191], yL_run, 0)) := mw_is_eq (by decide +kernel)
theorem l_L_law_2804 : mw_lk d_L_law 2804 = some (mw_b (.istore 6) 2 6) := mw_is_eq (by decide +kernel)
theorem l_L_law_2806 : mw_lk d_L_law 2806 = some (mw_b (.aload_n 2) 1 2) := mw_is_eq (by decide +kernel)
theorem l_L_law_2807 : mw_lk d_L_law 2807 = some (((.invokevirtual 350), 3, (1, 0, 16), [10112, 10113, 10114], yX12_run, 0)) := mw_is_eq (by decide +kernel)
theorem l_L_law_2810 : mw_lk d_L_law 2810 = some (mw_b (.istore 7) 2 7) := mw_is_eq (by decide +kernel)
theorem l_L_law_2812 : mw_lk d_L_law 2812 = some (mw_b (.aload_n 2) 1 2) := mw_is_eq (by decide +kernel)
theorem l_L_law_2813 : mw_lk d_L_law 2813 = some (((.invokevirtual 185), 3, (1, 0, 16), [8221, 8222, 8223], yX12_thrown, 0)) := mw_is_eq (by decide +kernel)
theorem l_L_law_2816 : mw_lk d_L_law 2816 = some (mw_b (.iload 6) 2 6) := mw_is_eq (by decide +kernel)
theorem l_L_law_2818 : mw_lk d_L_law 2818 = some (mw_b (.if_icmp .eq 5) 3 2823) := mw_is_eq (by decide +kernel)
theorem l_L_law_2821 : mw_lk d_L_law 2821 = some (mw_c (.iconst 0) 1 (0)) := mw_is_eq (by decide +kernel)
theorem l_L_law_2822 : mw_lk d_L_law 2822 = some (mw_a (.ireturn) 1) := mw_is_eq (by decide +kernel)
theorem l_L_law_2823 : mw_lk d_L_law 2823 = some (mw_b (.iload 6) 2 6) := mw_is_eq (by decide +kernel)
theorem l_L_law_2825 : mw_lk d_L_law 2825 = some (mw_b (.ifCond .ne 15) 3 2840) := mw_is_eq (by decide +kernel)
theorem l_L_law_2828 : mw_lk d_L_law 2828 = some (mw_b (.aload_n 3) 1 3) := mw_is_eq (by decide +kernel)
theorem l_L_law_2829 : mw_lk d_L_law 2829 = some (mw_c (.iconst 0) 1 (0)) := mw_is_eq (by decide +kernel)
theorem l_L_law_2830 : mw_lk d_L_law 2830 = some (mw_a (.laload) 1) := mw_is_eq (by decide +kernel)
theorem l_L_law_2831 : mw_lk d_L_law 2831 = some (mw_b (.iload 7) 2 7) := mw_is_eq (by decide +kernel)
theorem l_L_law_2833 : mw_lk d_L_law 2833 = some (mw_a (.i2l) 1) := mw_is_eq (by decide +kernel)
theorem l_L_law_2834 : mw_lk d_L_law 2834 = some (mw_a (.lcmp) 1) := mw_is_eq (by decide +kernel)
theorem l_L_law_2835 : mw_lk d_L_law 2835 = some (mw_b (.ifCond .eq 5) 3 2840) := mw_is_eq (by decide +kernel)
theorem l_L_law_2838 : mw_lk d_L_law 2838 = some (mw_c (.iconst 0) 1 (0)) := mw_is_eq (by decide +kernel)
theorem l_L_law_2839 : mw_lk d_L_law 2839 = some (mw_a (.ireturn) 1) := mw_is_eq (by decide +kernel)
theorem l_L_law_2840 : mw_lk d_L_law 2840 = some (mw_b (.goto 460) 3 3300) := mw_is_eq (by decide +kernel)
theorem l_L_law_2843 : mw_lk d_L_law 2843 = some (mw_b (.aload_n 1) 1 1) := mw_is_eq (by decide +kernel)
theorem l_L_law_2844 : mw_lk d_L_law 2844 = some (mw_b (.aload_n 3) 1 3) := mw_is_eq (by decide +kernel)
theorem l_L_law_2845 : mw_lk d_L_law 2845 = some (((.invokestatic 351), 3, (2, 5, 0), [7046, 7047], yL_errorPosition, 0)) := mw_is_eq (by decide +kernel)
theorem l_L_law_2848 : mw_lk d_L_law 2848 = some (mw_b (.istore 6) 2 6) := mw_is_eq (by decide +kernel)
theorem l_L_law_2850 : mw_lk d_L_law 2850 = some (mw_b (.aload_n 2) 1 2) := mw_is_eq (by decide +kernel)
theorem l_L_law_2851 : mw_lk d_L_law 2851 = some (((.invokevirtual 353), 3, (1, 0, 16), [10160, 10161, 10162], yX12_errorPosition, 0)) := mw_is_eq (by decide +kernel)
theorem l_L_law_2854 : mw_lk d_L_law 2854 = some (mw_b (.istore 7) 2 7) := mw_is_eq (by decide +kernel)
theorem l_L_law_2856 : mw_lk d_L_law 2856 = some (mw_b (.aload_n 2) 1 2) := mw_is_eq (by decide +kernel)
theorem l_L_law_2857 : mw_lk d_L_law 2857 = some (((.invokevirtual 185), 3, (1, 0, 16), [8221, 8222, 8223], yX12_thrown, 0)) := mw_is_eq (by decide +kernel)
theorem l_L_law_2860 : mw_lk d_L_law 2860 = some (mw_b (.iload 6) 2 6) := mw_is_eq (by decide +kernel)
theorem l_L_law_2862 : mw_lk d_L_law 2862 = some (mw_b (.if_icmp .eq 5) 3 2867) := mw_is_eq (by decide +kernel)
theorem l_L_law_2865 : mw_lk d_L_law 2865 = some (mw_c (.iconst 0) 1 (0)) := mw_is_eq (by decide +kernel)
theorem l_L_law_2866 : mw_lk d_L_law 2866 = some (mw_a (.ireturn) 1) := mw_is_eq (by decide +kernel)
theorem l_L_law_2867 : mw_lk d_L_law 2867 = some (mw_b (.iload 6) 2 6) := mw_is_eq (by decide +kernel)
theorem l_L_law_2869 : mw_lk d_L_law 2869 = some (mw_b (.ifCond .ne 15) 3 2884) := mw_is_eq (by decide +kernel)
theorem l_L_law_2872 : mw_lk d_L_law 2872 = some (mw_b (.aload_n 3) 1 3) := mw_is_eq (by decide +kernel)
theorem l_L_law_2873 : mw_lk d_L_law 2873 = some (mw_c (.iconst 0) 1 (0)) := mw_is_eq (by decide +kernel)
theorem l_L_law_2874 : mw_lk d_L_law 2874 = some (mw_a (.laload) 1) := mw_is_eq (by decide +kernel)
theorem l_L_law_2875 : mw_lk d_L_law 2875 = some (mw_b (.iload 7) 2 7) := mw_is_eq (by decide +kernel)
theorem l_L_law_2877 : mw_lk d_L_law 2877 = some (mw_a (.i2l) 1) := mw_is_eq (by decide +kernel)
theorem l_L_law_2878 : mw_lk d_L_law 2878 = some (mw_a (.lcmp) 1) := mw_is_eq (by decide +kernel)
theorem l_L_law_2879 : mw_lk d_L_law 2879 = some (mw_b (.ifCond .eq 5) 3 2884) := mw_is_eq (by decide +kernel)
theorem l_L_law_2882 : mw_lk d_L_law 2882 = some (mw_c (.iconst 0) 1 (0)) := mw_is_eq (by decide +kernel)
theorem l_L_law_2883 : mw_lk d_L_law 2883 = some (mw_a (.ireturn) 1) := mw_is_eq (by decide +kernel)
theorem l_L_law_2884 : mw_lk d_L_law 2884 = some (mw_b (.goto 416) 3 3300) := mw_is_eq (by decide +kernel)
theorem l_L_law_2887 : mw_lk d_L_law 2887 = some (mw_b (.aload_n 1) 1 1) := mw_is_eq (by decide +kernel)
theorem l_L_law_2888 : mw_lk d_L_law 2888 = some (mw_b (.aload_n 3) 1 3) := mw_is_eq (by decide +kernel)
theorem l_L_law_2889 : mw_lk d_L_law 2889 = some (((.invokestatic 354), 3, (2, 5, 0), [7053, 7054], yL_failedCommand, 0)) := mw_is_eq (by decide +kernel)
theorem l_L_law_2892 : mw_lk d_L_law 2892 = some (mw_b (.istore 6) 2 6) := mw_is_eq (by decide +kernel)
theorem l_L_law_2894 : mw_lk d_L_law 2894 = some (mw_b (.aload_n 2) 1 2) := mw_is_eq (by decide +kernel)
theorem l_L_law_2895 : mw_lk d_L_law 2895 = some (((.invokevirtual 356), 3, (1, 0, 16), [10164, 10165, 10166], yX12_failedCommand, 0)) := mw_is_eq (by decide +kernel)
theorem l_L_law_2898 : mw_lk d_L_law 2898 = some (mw_b (.istore 7) 2 7) := mw_is_eq (by decide +kernel)
theorem l_L_law_2900 : mw_lk d_L_law 2900 = some (mw_b (.aload_n 2) 1 2) := mw_is_eq (by decide +kernel)
theorem l_L_law_2901 : mw_lk d_L_law 2901 = some (((.invokevirtual 185), 3, (1, 0, 16), [8221, 8222, 8223], yX12_thrown, 0)) := mw_is_eq (by decide +kernel)
theorem l_L_law_2904 : mw_lk d_L_law 2904 = some (mw_b (.iload 6) 2 6) := mw_is_eq (by decide +kernel)
theorem l_L_law_2906 : mw_lk d_L_law 2906 = some (mw_b (.if_icmp .eq 5) 3 2911) := mw_is_eq (by decide +kernel)
theorem l_L_law_2909 : mw_lk d_L_law 2909 = some (mw_c (.iconst 0) 1 (0)) := mw_is_eq (by decide +kernel)
theorem l_L_law_2910 : mw_lk d_L_law 2910 = some (mw_a (.ireturn) 1) := mw_is_eq (by decide +kernel)
theorem l_L_law_2911 : mw_lk d_L_law 2911 = some (mw_b (.iload 6) 2 6) := mw_is_eq (by decide +kernel)
theorem l_L_law_2913 : mw_lk d_L_law 2913 = some (mw_b (.ifCond .ne 15) 3 2928) := mw_is_eq (by decide +kernel)
theorem l_L_law_2916 : mw_lk d_L_law 2916 = some (mw_b (.aload_n 3) 1 3) := mw_is_eq (by decide +kernel)
theorem l_L_law_2917 : mw_lk d_L_law 2917 = some (mw_c (.iconst 0) 1 (0)) := mw_is_eq (by decide +kernel)
theorem l_L_law_2918 : mw_lk d_L_law 2918 = some (mw_a (.laload) 1) := mw_is_eq (by decide +kernel)
theorem l_L_law_2919 : mw_lk d_L_law 2919 = some (mw_b (.iload 7) 2 7) := mw_is_eq (by decide +kernel)
theorem l_L_law_2921 : mw_lk d_L_law 2921 = some (mw_a (.i2l) 1) := mw_is_eq (by decide +kernel)
theorem l_L_law_2922 : mw_lk d_L_law 2922 = some (mw_a (.lcmp) 1) := mw_is_eq (by decide +kernel)
theorem l_L_law_2923 : mw_lk d_L_law 2923 = some (mw_b (.ifCond .eq 5) 3 2928) := mw_is_eq (by decide +kernel)
theorem l_L_law_2926 : mw_lk d_L_law 2926 = some (mw_c (.iconst 0) 1 (0)) := mw_is_eq (by decide +kernel)
theorem l_L_law_2927 : mw_lk d_L_law 2927 = some (mw_a (.ireturn) 1) := mw_is_eq (by decide +kernel)
theorem l_L_law_2928 : mw_lk d_L_law 2928 = some (mw_b (.goto 372) 3 3300) := mw_is_eq (by decide +kernel)
theorem l_L_law_2931 : mw_lk d_L_law 2931 = some (mw_b (.aload_n 1) 1 1) := mw_is_eq (by decide +kernel)
theorem l_L_law_2932 : mw_lk d_L_law 2932 = some (mw_b (.aload_n 0) 1 0) := mw_is_eq (by decide +kernel)
theorem l_L_law_2933 : mw_lk d_L_law 2933 = some (mw_b (.iload 5) 2 5) := mw_is_eq (by decide +kernel)
theorem l_L_law_2935 : mw_lk d_L_law 2935 = some (mw_c (.iconst 1) 1 (1)) := mw_is_eq (by decide +kernel)
theorem l_L_law_2936 : mw_lk d_L_law 2936 = some (mw_a (.iadd) 1) := mw_is_eq (by decide +kernel)
theorem l_L_law_2937 : mw_lk d_L_law 2937 = some (mw_a (.iaload) 1) := mw_is_eq (by decide +kernel)
theorem l_L_law_2938 : mw_lk d_L_law 2938 = some (mw_b (.aload_n 3) 1 3) := mw_is_eq (by decide +kernel)
theorem l_L_law_2939 : mw_lk d_L_law 2939 = some (((.invokestatic 357), 3, (3, 5, 0), [7060, 7061], yL_describeFerry, 0)) := mw_is_eq (by decide +kernel)
theorem l_L_law_2942 : mw_lk d_L_law 2942 = some (mw_b (.istore 6) 2 6) := mw_is_eq (by decide +kernel)
theorem l_L_law_2944 : mw_lk d_L_law 2944 = some (mw_b (.aload_n 2) 1 2) := mw_is_eq (by decide +kernel)
theorem l_L_law_2945 : mw_lk d_L_law 2945 = some (mw_b (.aload_n 0) 1 0) := mw_is_eq (by decide +kernel)
theorem l_L_law_2946 : mw_lk d_L_law 2946 = some (mw_b (.iload 5) 2 5) := mw_is_eq (by decide +kernel)
theorem l_L_law_2948 : mw_lk d_L_law 2948 = some (mw_c (.iconst 1) 1 (1)) := mw_is_eq (by decide +kernel)
theorem l_L_law_2949 : mw_lk d_L_law 2949 = some (mw_a (.iadd) 1) := mw_is_eq (by decide +kernel)
theorem l_L_law_2950 : mw_lk d_L_law 2950 = some (mw_a (.iaload) 1) := mw_is_eq (by decide +kernel)
theorem l_L_law_2951 : mw_lk d_L_law 2951 = some (((.invokevirtual 359), 3, (2, 0, 16), [10168, 10169, 10170], yX12_describeFerry, 0)) := mw_is_eq (by decide +kernel)
theorem l_L_law_2954 : mw_lk d_L_law 2954 = some (mw_b (.istore 7) 2 7) := mw_is_eq (by decide +kernel)
theorem l_L_law_2956 : mw_lk d_L_law 2956 = some (mw_b (.aload_n 2) 1 2) := mw_is_eq (by decide +kernel)
theorem l_L_law_2957 : mw_lk d_L_law 2957 = some (((.invokevirtual 185), 3, (1, 0, 16), [8221, 8222, 8223], yX12_thrown, 0)) := mw_is_eq (by decide +kernel)
theorem l_L_law_2960 : mw_lk d_L_law 2960 = some (mw_b (.iload 6) 2 6) := mw_is_eq (by decide +kernel)
theorem l_L_law_2962 : mw_lk d_L_law 2962 = some (mw_b (.if_icmp .eq 5) 3 2967) := mw_is_eq (by decide +kernel)
theorem l_L_law_2965 : mw_lk d_L_law 2965 = some (mw_c (.iconst 0) 1 (0)) := mw_is_eq (by decide +kernel)
theorem l_L_law_2966 : mw_lk d_L_law 2966 = some (mw_a (.ireturn) 1) := mw_is_eq (by decide +kernel)
theorem l_L_law_2967 : mw_lk d_L_law 2967 = some (mw_b (.iload 6) 2 6) := mw_is_eq (by decide +kernel)
theorem l_L_law_2969 : mw_lk d_L_law 2969 = some (mw_b (.ifCond .ne 15) 3 2984) := mw_is_eq (by decide +kernel)
theorem l_L_law_2972 : mw_lk d_L_law 2972 = some (mw_b (.aload_n 3) 1 3) := mw_is_eq (by decide +kernel)
theorem l_L_law_2973 : mw_lk d_L_law 2973 = some (mw_c (.iconst 0) 1 (0)) := mw_is_eq (by decide +kernel)
theorem l_L_law_2974 : mw_lk d_L_law 2974 = some (mw_a (.laload) 1) := mw_is_eq (by decide +kernel)
theorem l_L_law_2975 : mw_lk d_L_law 2975 = some (mw_b (.iload 7) 2 7) := mw_is_eq (by decide +kernel)
theorem l_L_law_2977 : mw_lk d_L_law 2977 = some (mw_a (.i2l) 1) := mw_is_eq (by decide +kernel)
theorem l_L_law_2978 : mw_lk d_L_law 2978 = some (mw_a (.lcmp) 1) := mw_is_eq (by decide +kernel)
theorem l_L_law_2979 : mw_lk d_L_law 2979 = some (mw_b (.ifCond .eq 5) 3 2984) := mw_is_eq (by decide +kernel)
theorem l_L_law_2982 : mw_lk d_L_law 2982 = some (mw_c (.iconst 0) 1 (0)) := mw_is_eq (by decide +kernel)
theorem l_L_law_2983 : mw_lk d_L_law 2983 = some (mw_a (.ireturn) 1) := mw_is_eq (by decide +kernel)
theorem l_L_law_2984 : mw_lk d_L_law 2984 = some (mw_b (.goto 316) 3 3300) := mw_is_eq (by decide +kernel)
theorem l_L_law_2987 : mw_lk d_L_law 2987 = some (mw_b (.aload_n 1) 1 1) := mw_is_eq (by decide +kernel)
theorem l_L_law_2988 : mw_lk d_L_law 2988 = some (mw_b (.aload_n 0) 1 0) := mw_is_eq (by decide +kernel)
theorem l_L_law_2989 : mw_lk d_L_law 2989 = some (mw_b (.iload 5) 2 5) := mw_is_eq (by decide +kernel)
theorem l_L_law_2991 : mw_lk d_L_law 2991 = some (mw_c (.iconst 1) 1 (1)) := mw_is_eq (by decide +kernel)
theorem l_L_law_2992 : mw_lk d_L_law 2992 = some (mw_a (.iadd) 1) := mw_is_eq (by decide +kernel)
theorem l_L_law_2993 : mw_lk d_L_law 2993 = some (mw_a (.iaload) 1) := mw_is_eq (by decide +kernel)
theorem l_L_law_2994 : mw_lk d_L_law 2994 = some (mw_b (.aload_n 3) 1 3) := mw_is_eq (by decide +kernel)
theorem l_L_law_2995 : mw_lk d_L_law 2995 = some (((.invokestatic 360), 3, (3, 5, 0), [8082, 8083], yL_lineAt, 0)) := mw_is_eq (by decide +kernel)
theorem l_L_law_2998 : mw_lk d_L_law 2998 = some (mw_b (.istore 6) 2 6) := mw_is_eq (by decide +kernel)
theorem l_L_law_3000 : mw_lk d_L_law 3000 = some (mw_b (.aload_n 2) 1 2) := mw_is_eq (by decide +kernel)
theorem l_L_law_3001 : mw_lk d_L_law 3001 = some (mw_b (.aload_n 0) 1 0) := mw_is_eq (by decide +kernel)
theorem l_L_law_3002 : mw_lk d_L_law 3002 = some (mw_b (.iload 5) 2 5) := mw_is_eq (by decide +kernel)
theorem l_L_law_3004 : mw_lk d_L_law 3004 = some (mw_c (.iconst 1) 1 (1)) := mw_is_eq (by decide +kernel)
theorem l_L_law_3005 : mw_lk d_L_law 3005 = some (mw_a (.iadd) 1) := mw_is_eq (by decide +kernel)
theorem l_L_law_3006 : mw_lk d_L_law 3006 = some (mw_a (.iaload) 1) := mw_is_eq (by decide +kernel)
theorem l_L_law_3007 : mw_lk d_L_law 3007 = some (((.invokevirtual 362), 3, (2, 0, 16), [10181, 10182, 10183], yX12_lineAt, 0)) := mw_is_eq (by decide +kernel)
theorem l_L_law_3010 : mw_lk d_L_law 3010 = some (mw_b (.istore 7) 2 7) := mw_is_eq (by decide +kernel)
theorem l_L_law_3012 : mw_lk d_L_law 3012 = some (mw_b (.aload_n 2) 1 2) := mw_is_eq (by decide +kernel)
theorem l_L_law_3013 : mw_lk d_L_law 3013 = some (((.invokevirtual 185), 3, (1, 0, 16), [8221, 8222, 8223], yX12_thrown, 0)) := mw_is_eq (by decide +kernel)
theorem l_L_law_3016 : mw_lk d_L_law 3016 = some (mw_b (.iload 6) 2 6) := mw_is_eq (by decide +kernel)
theorem l_L_law_3018 : mw_lk d_L_law 3018 = some (mw_b (.if_icmp .eq 5) 3 3023) := mw_is_eq (by decide +kernel)
theorem l_L_law_3021 : mw_lk d_L_law 3021 = some (mw_c (.iconst 0) 1 (0)) := mw_is_eq (by decide +kernel)
theorem l_L_law_3022 : mw_lk d_L_law 3022 = some (mw_a (.ireturn) 1) := mw_is_eq (by decide +kernel)
theorem l_L_law_3023 : mw_lk d_L_law 3023 = some (mw_b (.iload 6) 2 6) := mw_is_eq (by decide +kernel)
theorem l_L_law_3025 : mw_lk d_L_law 3025 = some (mw_b (.ifCond .ne 15) 3 3040) := mw_is_eq (by decide +kernel)
theorem l_L_law_3028 : mw_lk d_L_law 3028 = some (mw_b (.aload_n 3) 1 3) := mw_is_eq (by decide +kernel)
theorem l_L_law_3029 : mw_lk d_L_law 3029 = some (mw_c (.iconst 0) 1 (0)) := mw_is_eq (by decide +kernel)
theorem l_L_law_3030 : mw_lk d_L_law 3030 = some (mw_a (.laload) 1) := mw_is_eq (by decide +kernel)
theorem l_L_law_3031 : mw_lk d_L_law 3031 = some (mw_b (.iload 7) 2 7) := mw_is_eq (by decide +kernel)
theorem l_L_law_3033 : mw_lk d_L_law 3033 = some (mw_a (.i2l) 1) := mw_is_eq (by decide +kernel)
theorem l_L_law_3034 : mw_lk d_L_law 3034 = some (mw_a (.lcmp) 1) := mw_is_eq (by decide +kernel)
theorem l_L_law_3035 : mw_lk d_L_law 3035 = some (mw_b (.ifCond .eq 5) 3 3040) := mw_is_eq (by decide +kernel)
theorem l_L_law_3038 : mw_lk d_L_law 3038 = some (mw_c (.iconst 0) 1 (0)) := mw_is_eq (by decide +kernel)
theorem l_L_law_3039 : mw_lk d_L_law 3039 = some (mw_a (.ireturn) 1) := mw_is_eq (by decide +kernel)
theorem l_L_law_3040 : mw_lk d_L_law 3040 = some (mw_b (.goto 260) 3 3300) := mw_is_eq (by decide +kernel)
theorem l_L_law_3043 : mw_lk d_L_law 3043 = some (mw_b (.aload_n 1) 1 1) := mw_is_eq (by decide +kernel)
theorem l_L_law_3044 : mw_lk d_L_law 3044 = some (mw_b (.aload 4) 2 4) := mw_is_eq (by decide +kernel)
theorem l_L_law_3046 : mw_lk d_L_law 3046 = some (((.invokestatic 363), 3, (2, 5, 0), [8099, 8100], yL_meanPhase, 0)) := mw_is_eq (by decide +kernel)
theorem l_L_law_3049 : mw_lk d_L_law 3049 = some (mw_b (.istore 6) 2 6) := mw_is_eq (by decide +kernel)
theorem l_L_law_3051 : mw_lk d_L_law 3051 = some (mw_b (.aload_n 2) 1 2) := mw_is_eq (by decide +kernel)
theorem l_L_law_3052 : mw_lk d_L_law 3052 = some (((.invokevirtual 366), 3, (1, 0, 16), [10185, 10186, 10187], yX12_meanPhase, 0)) := mw_is_eq (by decide +kernel)
theorem l_L_law_3055 : mw_lk d_L_law 3055 = some (mw_b (.dstore 7) 2 7) := mw_is_eq (by decide +kernel)
theorem l_L_law_3057 : mw_lk d_L_law 3057 = some (mw_b (.aload_n 2) 1 2) := mw_is_eq (by decide +kernel)
theorem l_L_law_3058 : mw_lk d_L_law 3058 = some (((.invokevirtual 185), 3, (1, 0, 16), [8221, 8222, 8223], yX12_thrown, 0)) := mw_is_eq (by decide +kernel)
theorem l_L_law_3061 : mw_lk d_L_law 3061 = some (mw_b (.iload 6) 2 6) := mw_is_eq (by decide +kernel)
theorem l_L_law_3063 : mw_lk d_L_law 3063 = some (mw_b (.if_icmp .eq 5) 3 3068) := mw_is_eq (by decide +kernel)
theorem l_L_law_3066 : mw_lk d_L_law 3066 = some (mw_c (.iconst 0) 1 (0)) := mw_is_eq (by decide +kernel)
theorem l_L_law_3067 : mw_lk d_L_law 3067 = some (mw_a (.ireturn) 1) := mw_is_eq (by decide +kernel)
theorem l_L_law_3068 : mw_lk d_L_law 3068 = some (mw_b (.iload 6) 2 6) := mw_is_eq (by decide +kernel)
theorem l_L_law_3070 : mw_lk d_L_law 3070 = some (mw_b (.ifCond .ne 35) 3 3105) := mw_is_eq (by decide +kernel)
theorem l_L_law_3073 : mw_lk d_L_law 3073 = some (mw_b (.aload 4) 2 4) := mw_is_eq (by decide +kernel)
theorem l_L_law_3075 : mw_lk d_L_law 3075 = some (mw_c (.iconst 0) 1 (0)) := mw_is_eq (by decide +kernel)
theorem l_L_law_3076 : mw_lk d_L_law 3076 = some (mw_a (.daload) 1) := mw_is_eq (by decide +kernel)
theorem l_L_law_3077 : mw_lk d_L_law 3077 = some (mw_b (.dload 7) 2 7) := mw_is_eq (by decide +kernel)
theorem l_L_law_3079 : mw_lk d_L_law 3079 = some (mw_a (.dcmp .l) 1) := mw_is_eq (by decide +kernel)
theorem l_L_law_3080 : mw_lk d_L_law 3080 = some (mw_b (.ifCond .eq 25) 3 3105) := mw_is_eq (by decide +kernel)
theorem l_L_law_3083 : mw_lk d_L_law 3083 = some (mw_b (.aload 4) 2 4) := mw_is_eq (by decide +kernel)
theorem l_L_law_3085 : mw_lk d_L_law 3085 = some (mw_c (.iconst 0) 1 (0)) := mw_is_eq (by decide +kernel)
theorem l_L_law_3086 : mw_lk d_L_law 3086 = some (mw_a (.daload) 1) := mw_is_eq (by decide +kernel)
theorem l_L_law_3087 : mw_lk d_L_law 3087 = some (mw_b (.aload 4) 2 4) := mw_is_eq (by decide +kernel)
theorem l_L_law_3089 : mw_lk d_L_law 3089 = some (mw_c (.iconst 0) 1 (0)) := mw_is_eq (by decide +kernel)
theorem l_L_law_3090 : mw_lk d_L_law 3090 = some (mw_a (.daload) 1) := mw_is_eq (by decide +kernel)
theorem l_L_law_3091 : mw_lk d_L_law 3091 = some (mw_a (.dcmp .l) 1) := mw_is_eq (by decide +kernel)
theorem l_L_law_3092 : mw_lk d_L_law 3092 = some (mw_b (.ifCond .eq 11) 3 3103) := mw_is_eq (by decide +kernel)
theorem l_L_law_3095 : mw_lk d_L_law 3095 = some (mw_b (.dload 7) 2 7) := mw_is_eq (by decide +kernel)
theorem l_L_law_3097 : mw_lk d_L_law 3097 = some (mw_b (.dload 7) 2 7) := mw_is_eq (by decide +kernel)
theorem l_L_law_3099 : mw_lk d_L_law 3099 = some (mw_a (.dcmp .l) 1) := mw_is_eq (by decide +kernel)
theorem l_L_law_3100 : mw_lk d_L_law 3100 = some (mw_b (.ifCond .ne 5) 3 3105) := mw_is_eq (by decide +kernel)
theorem l_L_law_3103 : mw_lk d_L_law 3103 = some (mw_c (.iconst 0) 1 (0)) := mw_is_eq (by decide +kernel)
theorem l_L_law_3104 : mw_lk d_L_law 3104 = some (mw_a (.ireturn) 1) := mw_is_eq (by decide +kernel)
theorem l_L_law_3105 : mw_lk d_L_law 3105 = some (mw_b (.goto 195) 3 3300) := mw_is_eq (by decide +kernel)
theorem l_L_law_3108 : mw_lk d_L_law 3108 = some (mw_b (.aload_n 1) 1 1) := mw_is_eq (by decide +kernel)
theorem l_L_law_3109 : mw_lk d_L_law 3109 = some (mw_b (.aload_n 0) 1 0) := mw_is_eq (by decide +kernel)
theorem l_L_law_3110 : mw_lk d_L_law 3110 = some (mw_b (.iload 5) 2 5) := mw_is_eq (by decide +kernel)
theorem l_L_law_3112 : mw_lk d_L_law 3112 = some (mw_c (.iconst 1) 1 (1)) := mw_is_eq (by decide +kernel)
theorem l_L_law_3113 : mw_lk d_L_law 3113 = some (mw_a (.iadd) 1) := mw_is_eq (by decide +kernel)
theorem l_L_law_3114 : mw_lk d_L_law 3114 = some (mw_a (.iaload) 1) := mw_is_eq (by decide +kernel)
theorem l_L_law_3115 : mw_lk d_L_law 3115 = some (mw_b (.aload 4) 2 4) := mw_is_eq (by decide +kernel)
theorem l_L_law_3117 : mw_lk d_L_law 3117 = some (((.invokestatic 367), 3, (3, 5, 0), [8129, 8130], yL_loadShare, 0)) := mw_is_eq (by decide +kernel)
theorem l_L_law_3120 : mw_lk d_L_law 3120 = some (mw_b (.istore 6) 2 6) := mw_is_eq (by decide +kernel)
theorem l_L_law_3122 : mw_lk d_L_law 3122 = some (mw_b (.aload_n 2) 1 2) := mw_is_eq (by decide +kernel)
theorem l_L_law_3123 : mw_lk d_L_law 3123 = some (mw_b (.aload_n 0) 1 0) := mw_is_eq (by decide +kernel)
theorem l_L_law_3124 : mw_lk d_L_law 3124 = some (mw_b (.iload 5) 2 5) := mw_is_eq (by decide +kernel)
theorem l_L_law_3126 : mw_lk d_L_law 3126 = some (mw_c (.iconst 1) 1 (1)) := mw_is_eq (by decide +kernel)
theorem l_L_law_3127 : mw_lk d_L_law 3127 = some (mw_a (.iadd) 1) := mw_is_eq (by decide +kernel)
theorem l_L_law_3128 : mw_lk d_L_law 3128 = some (mw_a (.iaload) 1) := mw_is_eq (by decide +kernel)
theorem l_L_law_3129 : mw_lk d_L_law 3129 = some (((.invokevirtual 370), 3, (2, 0, 16), [10189, 10190, 10191], yX12_loadShare, 0)) := mw_is_eq (by decide +kernel)
theorem l_L_law_3132 : mw_lk d_L_law 3132 = some (mw_b (.fstore 7) 2 7) := mw_is_eq (by decide +kernel)
theorem l_L_law_3134 : mw_lk d_L_law 3134 = some (mw_b (.aload_n 2) 1 2) := mw_is_eq (by decide +kernel)
theorem l_L_law_3135 : mw_lk d_L_law 3135 = some (((.invokevirtual 185), 3, (1, 0, 16), [8221, 8222, 8223], yX12_thrown, 0)) := mw_is_eq (by decide +kernel)
theorem l_L_law_3138 : mw_lk d_L_law 3138 = some (mw_b (.iload 6) 2 6) := mw_is_eq (by decide +kernel)
theorem l_L_law_3140 : mw_lk d_L_law 3140 = some (mw_b (.if_icmp .eq 5) 3 3145) := mw_is_eq (by decide +kernel)
theorem l_L_law_3143 : mw_lk d_L_law 3143 = some (mw_c (.iconst 0) 1 (0)) := mw_is_eq (by decide +kernel)
theorem l_L_law_3144 : mw_lk d_L_law 3144 = some (mw_a (.ireturn) 1) := mw_is_eq (by decide +kernel)
theorem l_L_law_3145 : mw_lk d_L_law 3145 = some (mw_b (.iload 6) 2 6) := mw_is_eq (by decide +kernel)
theorem l_L_law_3147 : mw_lk d_L_law 3147 = some (mw_b (.ifCond .ne 36) 3 3183) := mw_is_eq (by decide +kernel)
theorem l_L_law_3150 : mw_lk d_L_law 3150 = some (mw_b (.aload 4) 2 4) := mw_is_eq (by decide +kernel)
theorem l_L_law_3152 : mw_lk d_L_law 3152 = some (mw_c (.iconst 0) 1 (0)) := mw_is_eq (by decide +kernel)
theorem l_L_law_3153 : mw_lk d_L_law 3153 = some (mw_a (.daload) 1) := mw_is_eq (by decide +kernel)
theorem l_L_law_3154 : mw_lk d_L_law 3154 = some (mw_b (.fload 7) 2 7) := mw_is_eq (by decide +kernel)
theorem l_L_law_3156 : mw_lk d_L_law 3156 = some (mw_a (.f2d) 1) := mw_is_eq (by decide +kernel)
theorem l_L_law_3157 : mw_lk d_L_law 3157 = some (mw_a (.dcmp .l) 1) := mw_is_eq (by decide +kernel)
theorem l_L_law_3158 : mw_lk d_L_law 3158 = some (mw_b (.ifCond .eq 25) 3 3183) := mw_is_eq (by decide +kernel)
theorem l_L_law_3161 : mw_lk d_L_law 3161 = some (mw_b (.aload 4) 2 4) := mw_is_eq (by decide +kernel)
theorem l_L_law_3163 : mw_lk d_L_law 3163 = some (mw_c (.iconst 0) 1 (0)) := mw_is_eq (by decide +kernel)
theorem l_L_law_3164 : mw_lk d_L_law 3164 = some (mw_a (.daload) 1) := mw_is_eq (by decide +kernel)
theorem l_L_law_3165 : mw_lk d_L_law 3165 = some (mw_b (.aload 4) 2 4) := mw_is_eq (by decide +kernel)
theorem l_L_law_3167 : mw_lk d_L_law 3167 = some (mw_c (.iconst 0) 1 (0)) := mw_is_eq (by decide +kernel)
theorem l_L_law_3168 : mw_lk d_L_law 3168 = some (mw_a (.daload) 1) := mw_is_eq (by decide +kernel)
theorem l_L_law_3169 : mw_lk d_L_law 3169 = some (mw_a (.dcmp .l) 1) := mw_is_eq (by decide +kernel)
theorem l_L_law_3170 : mw_lk d_L_law 3170 = some (mw_b (.ifCond .eq 11) 3 3181) := mw_is_eq (by decide +kernel)
theorem l_L_law_3173 : mw_lk d_L_law 3173 = some (mw_b (.fload 7) 2 7) := mw_is_eq (by decide +kernel)
theorem l_L_law_3175 : mw_lk d_L_law 3175 = some (mw_b (.fload 7) 2 7) := mw_is_eq (by decide +kernel)
theorem l_L_law_3177 : mw_lk d_L_law 3177 = some (mw_a (.fcmp .l) 1) := mw_is_eq (by decide +kernel)
theorem l_L_law_3178 : mw_lk d_L_law 3178 = some (mw_b (.ifCond .ne 5) 3 3183) := mw_is_eq (by decide +kernel)
theorem l_L_law_3181 : mw_lk d_L_law 3181 = some (mw_c (.iconst 0) 1 (0)) := mw_is_eq (by decide +kernel)
theorem l_L_law_3182 : mw_lk d_L_law 3182 = some (mw_a (.ireturn) 1) := mw_is_eq (by decide +kernel)
theorem l_L_law_3183 : mw_lk d_L_law 3183 = some (mw_b (.goto 117) 3 3300) := mw_is_eq (by decide +kernel)
theorem l_L_law_3186 : mw_lk d_L_law 3186 = some (mw_b (.aload_n 1) 1 1) := mw_is_eq (by decide +kernel)
theorem l_L_law_3187 : mw_lk d_L_law 3187 = some (((.invokevirtual 371), 3, (1, 0, 15), [3145, 3146, 3147], yX11_isConsistent, 0)) := mw_is_eq (by decide +kernel)
theorem l_L_law_3190 : mw_lk d_L_law 3190 = some (mw_b (.aload_n 2) 1 2) := mw_is_eq (by decide +kernel)
theorem l_L_law_3191 : mw_lk d_L_law 3191 = some (((.invokevirtual 375), 3, (1, 0, 16), [10193, 10194, 10195], yX12_isConsistent, 0)) := mw_is_eq (by decide +kernel)
theorem l_L_law_3194 : mw_lk d_L_law 3194 = some (mw_b (.if_icmp .eq 106) 3 3300) := mw_is_eq (by decide +kernel)
theorem l_L_law_3197 : mw_lk d_L_law 3197 = some (mw_c (.iconst 0) 1 (0)) := mw_is_eq (by decide +kernel)
theorem l_L_law_3198 : mw_lk d_L_law 3198 = some (mw_a (.ireturn) 1) := mw_is_eq (by decide +kernel)
theorem l_L_law_3199 : mw_lk d_L_law 3199 = some (mw_b (.aload_n 1) 1 1) := mw_is_eq (by decide +kernel)
theorem l_L_law_3200 : mw_lk d_L_law 3200 = some (mw_b (.aload_n 3) 1 3) := mw_is_eq (by decide +kernel)
theorem l_L_law_3201 : mw_lk d_L_law 3201 = some (((.invokestatic 376), 3, (2, 5, 0), [8136, 8137], yL_undo, 0)) := mw_is_eq (by decide +kernel)
theorem l_L_law_3204 : mw_lk d_L_law 3204 = some (mw_b (.istore 6) 2 6) := mw_is_eq (by decide +kernel)
theorem l_L_law_3206 : mw_lk d_L_law 3206 = some (mw_b (.aload_n 2) 1 2) := mw_is_eq (by decide +kernel)
theorem l_L_law_3207 : mw_lk d_L_law 3207 = some (((.invokevirtual 378), 3, (1, 0, 16), [10197, 10198, 10199], yX12_undo, 0)) := mw_is_eq (by decide +kernel)
theorem l_L_law_3210 : mw_lk d_L_law 3210 = some (mw_b (.istore 7) 2 7) := mw_is_eq (by decide +kernel)
theorem l_L_law_3212 : mw_lk d_L_law 3212 = some (mw_b (.aload_n 2) 1 2) := mw_is_eq (by decide +kernel)
theorem l_L_law_3213 : mw_lk d_L_law 3213 = some (((.invokevirtual 185), 3, (1, 0, 16), [8221, 8222, 8223], yX12_thrown, 0)) := mw_is_eq (by decide +kernel)
theorem l_L_law_3216 : mw_lk d_L_law 3216 = some (mw_b (.iload 6) 2 6) := mw_is_eq (by decide +kernel)
theorem l_L_law_3218 : mw_lk d_L_law 3218 = some (mw_b (.if_icmp .eq 5) 3 3223) := mw_is_eq (by decide +kernel)
theorem l_L_law_3221 : mw_lk d_L_law 3221 = some (mw_c (.iconst 0) 1 (0)) := mw_is_eq (by decide +kernel)
theorem l_L_law_3222 : mw_lk d_L_law 3222 = some (mw_a (.ireturn) 1) := mw_is_eq (by decide +kernel)
theorem l_L_law_3223 : mw_lk d_L_law 3223 = some (mw_b (.iload 6) 2 6) := mw_is_eq (by decide +kernel)
theorem l_L_law_3225 : mw_lk d_L_law 3225 = some (mw_b (.ifCond .ne 15) 3 3240) := mw_is_eq (by decide +kernel)
theorem l_L_law_3228 : mw_lk d_L_law 3228 = some (mw_b (.aload_n 3) 1 3) := mw_is_eq (by decide +kernel)
theorem l_L_law_3229 : mw_lk d_L_law 3229 = some (mw_c (.iconst 0) 1 (0)) := mw_is_eq (by decide +kernel)
theorem l_L_law_3230 : mw_lk d_L_law 3230 = some (mw_a (.laload) 1) := mw_is_eq (by decide +kernel)
theorem l_L_law_3231 : mw_lk d_L_law 3231 = some (mw_b (.iload 7) 2 7) := mw_is_eq (by decide +kernel)
theorem l_L_law_3233 : mw_lk d_L_law 3233 = some (mw_a (.i2l) 1) := mw_is_eq (by decide +kernel)
theorem l_L_law_3234 : mw_lk d_L_law 3234 = some (mw_a (.lcmp) 1) := mw_is_eq (by decide +kernel)
theorem l_L_law_3235 : mw_lk d_L_law 3235 = some (mw_b (.ifCond .eq 5) 3 3240) := mw_is_eq (by decide +kernel)
theorem l_L_law_3238 : mw_lk d_L_law 3238 = some (mw_c (.iconst 0) 1 (0)) := mw_is_eq (by decide +kernel)
theorem l_L_law_3239 : mw_lk d_L_law 3239 = some (mw_a (.ireturn) 1) := mw_is_eq (by decide +kernel)
theorem l_L_law_3240 : mw_lk d_L_law 3240 = some (mw_b (.goto 60) 3 3300) := mw_is_eq (by decide +kernel)
theorem l_L_law_3243 : mw_lk d_L_law 3243 = some (mw_b (.aload_n 1) 1 1) := mw_is_eq (by decide +kernel)
theorem l_L_law_3244 : mw_lk d_L_law 3244 = some (((.invokevirtual 379), 3, (1, 0, 15), [4028, 4029, 4030], yX11_save, 0)) := mw_is_eq (by decide +kernel)
theorem l_L_law_3247 : mw_lk d_L_law 3247 = some (mw_b (.aload_n 2) 1 2) := mw_is_eq (by decide +kernel)
theorem l_L_law_3248 : mw_lk d_L_law 3248 = some (((.invokevirtual 382), 3, (1, 0, 16), [10201, 10202, 10203], yX12_save, 0)) := mw_is_eq (by decide +kernel)
theorem l_L_law_3251 : mw_lk d_L_law 3251 = some (mw_b (.if_icmp .eq 49) 3 3300) := mw_is_eq (by decide +kernel)
theorem l_L_law_3254 : mw_lk d_L_law 3254 = some (mw_c (.iconst 0) 1 (0)) := mw_is_eq (by decide +kernel)
theorem l_L_law_3255 : mw_lk d_L_law 3255 = some (mw_a (.ireturn) 1) := mw_is_eq (by decide +kernel)
theorem l_L_law_3256 : mw_lk d_L_law 3256 = some (mw_b (.aload_n 1) 1 1) := mw_is_eq (by decide +kernel)
theorem l_L_law_3257 : mw_lk d_L_law 3257 = some (mw_b (.aload_n 3) 1 3) := mw_is_eq (by decide +kernel)
theorem l_L_law_3258 : mw_lk d_L_law 3258 = some (((.invokestatic 383), 3, (2, 5, 0), [8147, 8148], yL_restore, 0)) := mw_is_eq (by decide +kernel)
theorem l_L_law_3261 : mw_lk d_L_law 3261 = some (mw_b (.istore 6) 2 6) := mw_is_eq (by decide +kernel)
theorem l_L_law_3263 : mw_lk d_L_law 3263 = some (mw_b (.aload_n 2) 1 2) := mw_is_eq (by decide +kernel)
theorem l_L_law_3264 : mw_lk d_L_law 3264 = some (((.invokevirtual 385), 3, (1, 0, 16), [10205, 10206, 10207], yX12_restore, 0)) := mw_is_eq (by decide +kernel)
theorem l_L_law_3267 : mw_lk d_L_law 3267 = some (mw_b (.istore 7) 2 7) := mw_is_eq (by decide +kernel)
theorem l_L_law_3269 : mw_lk d_L_law 3269 = some (mw_b (.aload_n 2) 1 2) := mw_is_eq (by decide +kernel)
theorem l_L_law_3270 : mw_lk d_L_law 3270 = some (((.invokevirtual 185), 3, (1, 0, 16), [8221, 8222, 8223], yX12_thrown, 0)) := mw_is_eq (by decide +kernel)
theorem l_L_law_3273 : mw_lk d_L_law 3273 = some (mw_b (.iload 6) 2 6) := mw_is_eq (by decide +kernel)
theorem l_L_law_3275 : mw_lk d_L_law 3275 = some (mw_b (.if_icmp .eq 5) 3 3280) := mw_is_eq (by decide +kernel)
theorem l_L_law_3278 : mw_lk d_L_law 3278 = some (mw_c (.iconst 0) 1 (0)) := mw_is_eq (by decide +kernel)
theorem l_L_law_3279 : mw_lk d_L_law 3279 = some (mw_a (.ireturn) 1) := mw_is_eq (by decide +kernel)
theorem l_L_law_3280 : mw_lk d_L_law 3280 = some (mw_b (.iload 6) 2 6) := mw_is_eq (by decide +kernel)
theorem l_L_law_3282 : mw_lk d_L_law 3282 = some (mw_b (.ifCond .ne 15) 3 3297) := mw_is_eq (by decide +kernel)
theorem l_L_law_3285 : mw_lk d_L_law 3285 = some (mw_b (.aload_n 3) 1 3) := mw_is_eq (by decide +kernel)
theorem l_L_law_3286 : mw_lk d_L_law 3286 = some (mw_c (.iconst 0) 1 (0)) := mw_is_eq (by decide +kernel)
theorem l_L_law_3287 : mw_lk d_L_law 3287 = some (mw_a (.laload) 1) := mw_is_eq (by decide +kernel)
theorem l_L_law_3288 : mw_lk d_L_law 3288 = some (mw_b (.iload 7) 2 7) := mw_is_eq (by decide +kernel)
theorem l_L_law_3290 : mw_lk d_L_law 3290 = some (mw_a (.i2l) 1) := mw_is_eq (by decide +kernel)
theorem l_L_law_3291 : mw_lk d_L_law 3291 = some (mw_a (.lcmp) 1) := mw_is_eq (by decide +kernel)
theorem l_L_law_3292 : mw_lk d_L_law 3292 = some (mw_b (.ifCond .eq 5) 3 3297) := mw_is_eq (by decide +kernel)
theorem l_L_law_3295 : mw_lk d_L_law 3295 = some (mw_c (.iconst 0) 1 (0)) := mw_is_eq (by decide +kernel)
theorem l_L_law_3296 : mw_lk d_L_law 3296 = some (mw_a (.ireturn) 1) := mw_is_eq (by decide +kernel)
theorem l_L_law_3297 : mw_lk d_L_law 3297 = some (mw_b (.goto 3) 3 3300) := mw_is_eq (by decide +kernel)
theorem l_L_law_3300 : mw_lk d_L_law 3300 = some (((.iinc 5 5), 3, (5, 0, 0), [], mw_nm, (5))) := mw_is_eq (by decide +kernel)
theorem l_L_law_3303 : mw_lk d_L_law 3303 = some (mw_b (.goto (-3275)) 3 28) := mw_is_eq (by decide +kernel)
theorem l_L_law_3306 : mw_lk d_L_law 3306 = some (mw_c (.iconst 1) 1 (1)) := mw_is_eq (by decide +kernel)
theorem l_L_law_3307 : mw_lk d_L_law 3307 = some (mw_a (.ireturn) 1) := mw_is_eq (by decide +kernel)
