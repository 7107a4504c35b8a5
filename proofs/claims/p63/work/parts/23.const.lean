/-! constants; places of the table's rows-/
theorem c_n10 : Int32.ofInt (-10) = (-10) ∧ nw_in (-10) := by decide
theorem c_n9 : Int32.ofInt (-9) = (-9) ∧ nw_in (-9) := by decide
theorem c_n8 : Int32.ofInt (-8) = (-8) ∧ nw_in (-8) := by decide
theorem c_n7 : Int32.ofInt (-7) = (-7) ∧ nw_in (-7) := by decide
theorem c_n6 : Int32.ofInt (-6) = (-6) ∧ nw_in (-6) := by decide
theorem c_n5 : Int32.ofInt (-5) = (-5) ∧ nw_in (-5) := by decide
theorem c_n4 : Int32.ofInt (-4) = (-4) ∧ nw_in (-4) := by decide
theorem c_n3 : Int32.ofInt (-3) = (-3) ∧ nw_in (-3) := by decide
theorem c_n2 : Int32.ofInt (-2) = (-2) ∧ nw_in (-2) := by decide
theorem c_n1 : Int32.ofInt (-1) = (-1) ∧ nw_in (-1) := by decide
theorem c_0 : Int32.ofInt (0) = (0) ∧ nw_in (0) := by decide
theorem c_1 : Int32.ofInt (1) = (1) ∧ nw_in (1) := by decide
theorem c_2 : Int32.ofInt (2) = (2) ∧ nw_in (2) := by decide
theorem c_3 : Int32.ofInt (3) = (3) ∧ nw_in (3) := by decide
theorem c_4 : Int32.ofInt (4) = (4) ∧ nw_in (4) := by decide
theorem c_5 : Int32.ofInt (5) = (5) ∧ nw_in (5) := by decide
theorem c_6 : Int32.ofInt (6) = (6) ∧ nw_in (6) := by decide
theorem c_7 : Int32.ofInt (7) = (7) ∧ nw_in (7) := by decide
theorem c_8 : Int32.ofInt (8) = (8) ∧ nw_in (8) := by decide
theorem c_9 : Int32.ofInt (9) = (9) ∧ nw_in (9) := by decide
theorem c_10 : Int32.ofInt (10) = (10) ∧ nw_in (10) := by decide
theorem c_11 : Int32.ofInt (11) = (11) ∧ nw_in (11) := by decide
theorem c_12 : Int32.ofInt (12) = (12) ∧ nw_in (12) := by decide
theorem c_13 : Int32.ofInt (13) = (13) ∧ nw_in (13) := by decide
theorem c_14 : Int32.ofInt (14) = (14) ∧ nw_in (14) := by decide
theorem c_15 : Int32.ofInt (15) = (15) ∧ nw_in (15) := by decide
theorem c_16 : Int32.ofInt (16) = (16) ∧ nw_in (16) := by decide
theorem c_17 : Int32.ofInt (17) = (17) ∧ nw_in (17) := by decide
theorem c_18 : Int32.ofInt (18) = (18) ∧ nw_in (18) := by decide
theorem c_19 : Int32.ofInt (19) = (19) ∧ nw_in (19) := by decide
theorem c_20 : Int32.ofInt (20) = (20) ∧ nw_in (20) := by decide
theorem c_21 : Int32.ofInt (21) = (21) ∧ nw_in (21) := by decide
theorem c_22 : Int32.ofInt (22) = (22) ∧ nw_in (22) := by decide
theorem c_23 : Int32.ofInt (23) = (23) ∧ nw_in (23) := by decide
theorem c_24 : Int32.ofInt (24) = (24) ∧ nw_in (24) := by decide
theorem c_25 : Int32.ofInt (25) = (25) ∧ nw_in (25) := by decide
theorem c_26 : Int32.ofInt (26) = (26) ∧ nw_in (26) := by decide
theorem c_27 : Int32.ofInt (27) = (27) ∧ nw_in (27) := by decide
theorem c_28 : Int32.ofInt (28) = (28) ∧ nw_in (28) := by decide
theorem c_29 : Int32.ofInt (29) = (29) ∧ nw_in (29) := by decide
theorem c_30 : Int32.ofInt (30) = (30) ∧ nw_in (30) := by decide
theorem c_31 : Int32.ofInt (31) = (31) ∧ nw_in (31) := by decide
theorem c_32 : Int32.ofInt (32) = (32) ∧ nw_in (32) := by decide
theorem c_33 : Int32.ofInt (33) = (33) ∧ nw_in (33) := by decide
theorem c_34 : Int32.ofInt (34) = (34) ∧ nw_in (34) := by decide
theorem c_35 : Int32.ofInt (35) = (35) ∧ nw_in (35) := by decide
theorem c_36 : Int32.ofInt (36) = (36) ∧ nw_in (36) := by decide
theorem c_37 : Int32.ofInt (37) = (37) ∧ nw_in (37) := by decide
theorem c_38 : Int32.ofInt (38) = (38) ∧ nw_in (38) := by decide
theorem c_39 : Int32.ofInt (39) = (39) ∧ nw_in (39) := by decide
theorem c_40 : Int32.ofInt (40) = (40) ∧ nw_in (40) := by decide
theorem c_41 : Int32.ofInt (41) = (41) ∧ nw_in (41) := by decide
theorem c_42 : Int32.ofInt (42) = (42) ∧ nw_in (42) := by decide
theorem c_43 : Int32.ofInt (43) = (43) ∧ nw_in (43) := by decide
theorem c_44 : Int32.ofInt (44) = (44) ∧ nw_in (44) := by decide
theorem c_45 : Int32.ofInt (45) = (45) ∧ nw_in (45) := by decide
theorem c_46 : Int32.ofInt (46) = (46) ∧ nw_in (46) := by decide
theorem c_47 : Int32.ofInt (47) = (47) ∧ nw_in (47) := by decide
theorem c_48 : Int32.ofInt (48) = (48) ∧ nw_in (48) := by decide
theorem c_49 : Int32.ofInt (49) = (49) ∧ nw_in (49) := by decide
theorem c_50 : Int32.ofInt (50) = (50) ∧ nw_in (50) := by decide
theorem c_51 : Int32.ofInt (51) = (51) ∧ nw_in (51) := by decide
theorem c_52 : Int32.ofInt (52) = (52) ∧ nw_in (52) := by decide
theorem c_53 : Int32.ofInt (53) = (53) ∧ nw_in (53) := by decide
theorem c_54 : Int32.ofInt (54) = (54) ∧ nw_in (54) := by decide
theorem c_55 : Int32.ofInt (55) = (55) ∧ nw_in (55) := by decide
theorem c_56 : Int32.ofInt (56) = (56) ∧ nw_in (56) := by decide
theorem c_57 : Int32.ofInt (57) = (57) ∧ nw_in (57) := by decide
theorem c_58 : Int32.ofInt (58) = (58) ∧ nw_in (58) := by decide
theorem c_59 : Int32.ofInt (59) = (59) ∧ nw_in (59) := by decide
theorem c_60 : Int32.ofInt (60) = (60) ∧ nw_in (60) := by decide
theorem c_61 : Int32.ofInt (61) = (61) ∧ nw_in (61) := by decide
theorem c_62 : Int32.ofInt (62) = (62) ∧ nw_in (62) := by decide
theorem c_63 : Int32.ofInt (63) = (63) ∧ nw_in (63) := by decide
theorem c_64 : Int32.ofInt (64) = (64) ∧ nw_in (64) := by decide
theorem c_65 : Int32.ofInt (65) = (65) ∧ nw_in (65) := by decide
theorem c_66 : Int32.ofInt (66) = (66) ∧ nw_in (66) := by decide
theorem c_67 : Int32.ofInt (67) = (67) ∧ nw_in (67) := by decide
theorem c_68 : Int32.ofInt (68) = (68) ∧ nw_in (68) := by decide
theorem c_69 : Int32.ofInt (69) = (69) ∧ nw_in (69) := by decide
theorem c_70 : Int32.ofInt (70) = (70) ∧ nw_in (70) := by decide
theorem c_71 : Int32.ofInt (71) = (71) ∧ nw_in (71) := by decide
theorem c_72 : Int32.ofInt (72) = (72) ∧ nw_in (72) := by decide
theorem c_73 : Int32.ofInt (73) = (73) ∧ nw_in (73) := by decide
theorem c_74 : Int32.ofInt (74) = (74) ∧ nw_in (74) := by decide
theorem c_75 : Int32.ofInt (75) = (75) ∧ nw_in (75) := by decide
theorem c_76 : Int32.ofInt (76) = (76) ∧ nw_in (76) := by decide
theorem c_77 : Int32.ofInt (77) = (77) ∧ nw_in (77) := by decide
theorem c_78 : Int32.ofInt (78) = (78) ∧ nw_in (78) := by decide
theorem c_79 : Int32.ofInt (79) = (79) ∧ nw_in (79) := by decide
theorem c_80 : Int32.ofInt (80) = (80) ∧ nw_in (80) := by decide
theorem c_81 : Int32.ofInt (81) = (81) ∧ nw_in (81) := by decide
theorem c_82 : Int32.ofInt (82) = (82) ∧ nw_in (82) := by decide
theorem c_83 : Int32.ofInt (83) = (83) ∧ nw_in (83) := by decide
theorem c_84 : Int32.ofInt (84) = (84) ∧ nw_in (84) := by decide
theorem c_85 : Int32.ofInt (85) = (85) ∧ nw_in (85) := by decide
theorem c_86 : Int32.ofInt (86) = (86) ∧ nw_in (86) := by decide
theorem c_87 : Int32.ofInt (87) = (87) ∧ nw_in (87) := by decide
theorem c_88 : Int32.ofInt (88) = (88) ∧ nw_in (88) := by decide
theorem c_89 : Int32.ofInt (89) = (89) ∧ nw_in (89) := by decide
theorem c_90 : Int32.ofInt (90) = (90) ∧ nw_in (90) := by decide
theorem c_91 : Int32.ofInt (91) = (91) ∧ nw_in (91) := by decide
theorem c_92 : Int32.ofInt (92) = (92) ∧ nw_in (92) := by decide
theorem c_93 : Int32.ofInt (93) = (93) ∧ nw_in (93) := by decide
theorem c_94 : Int32.ofInt (94) = (94) ∧ nw_in (94) := by decide
theorem c_95 : Int32.ofInt (95) = (95) ∧ nw_in (95) := by decide
theorem c_96 : Int32.ofInt (96) = (96) ∧ nw_in (96) := by decide
theorem c_97 : Int32.ofInt (97) = (97) ∧ nw_in (97) := by decide
theorem c_98 : Int32.ofInt (98) = (98) ∧ nw_in (98) := by decide
theorem c_99 : Int32.ofInt (99) = (99) ∧ nw_in (99) := by decide
theorem c_100 : Int32.ofInt (100) = (100) ∧ nw_in (100) := by decide
theorem c_101 : Int32.ofInt (101) = (101) ∧ nw_in (101) := by decide
theorem c_102 : Int32.ofInt (102) = (102) ∧ nw_in (102) := by decide
theorem c_103 : Int32.ofInt (103) = (103) ∧ nw_in (103) := by decide
theorem c_104 : Int32.ofInt (104) = (104) ∧ nw_in (104) := by decide
theorem c_105 : Int32.ofInt (105) = (105) ∧ nw_in (105) := by decide
theorem c_106 : Int32.ofInt (106) = (106) ∧ nw_in (106) := by decide
theorem c_107 : Int32.ofInt (107) = (107) ∧ nw_in (107) := by decide
theorem c_108 : Int32.ofInt (108) = (108) ∧ nw_in (108) := by decide
theorem c_109 : Int32.ofInt (109) = (109) ∧ nw_in (109) := by decide
theorem c_110 : Int32.ofInt (110) = (110) ∧ nw_in (110) := by decide
theorem c_111 : Int32.ofInt (111) = (111) ∧ nw_in (111) := by decide
theorem c_112 : Int32.ofInt (112) = (112) ∧ nw_in (112) := by decide
theorem c_113 : Int32.ofInt (113) = (113) ∧ nw_in (113) := by decide
theorem c_114 : Int32.ofInt (114) = (114) ∧ nw_in (114) := by decide
theorem c_115 : Int32.ofInt (115) = (115) ∧ nw_in (115) := by decide
theorem c_116 : Int32.ofInt (116) = (116) ∧ nw_in (116) := by decide
theorem c_117 : Int32.ofInt (117) = (117) ∧ nw_in (117) := by decide
theorem c_118 : Int32.ofInt (118) = (118) ∧ nw_in (118) := by decide
theorem c_119 : Int32.ofInt (119) = (119) ∧ nw_in (119) := by decide
theorem c_120 : Int32.ofInt (120) = (120) ∧ nw_in (120) := by decide
theorem c_121 : Int32.ofInt (121) = (121) ∧ nw_in (121) := by decide
theorem c_122 : Int32.ofInt (122) = (122) ∧ nw_in (122) := by decide
theorem c_123 : Int32.ofInt (123) = (123) ∧ nw_in (123) := by decide
theorem c_124 : Int32.ofInt (124) = (124) ∧ nw_in (124) := by decide
theorem c_125 : Int32.ofInt (125) = (125) ∧ nw_in (125) := by decide
theorem c_126 : Int32.ofInt (126) = (126) ∧ nw_in (126) := by decide
theorem c_127 : Int32.ofInt (127) = (127) ∧ nw_in (127) := by decide
theorem c_128 : Int32.ofInt (128) = (128) ∧ nw_in (128) := by decide
theorem c_129 : Int32.ofInt (129) = (129) ∧ nw_in (129) := by decide
theorem c_130 : Int32.ofInt (130) = (130) ∧ nw_in (130) := by decide
theorem c_131 : Int32.ofInt (131) = (131) ∧ nw_in (131) := by decide
theorem c_132 : Int32.ofInt (132) = (132) ∧ nw_in (132) := by decide
theorem c_133 : Int32.ofInt (133) = (133) ∧ nw_in (133) := by decide
theorem c_134 : Int32.ofInt (134) = (134) ∧ nw_in (134) := by decide
theorem c_135 : Int32.ofInt (135) = (135) ∧ nw_in (135) := by decide
theorem c_136 : Int32.ofInt (136) = (136) ∧ nw_in (136) := by decide
theorem c_137 : Int32.ofInt (137) = (137) ∧ nw_in (137) := by decide
theorem c_138 : Int32.ofInt (138) = (138) ∧ nw_in (138) := by decide
theorem c_139 : Int32.ofInt (139) = (139) ∧ nw_in (139) := by decide
theorem c_140 : Int32.ofInt (140) = (140) ∧ nw_in (140) := by decide
theorem c_141 : Int32.ofInt (141) = (141) ∧ nw_in (141) := by decide
theorem c_142 : Int32.ofInt (142) = (142) ∧ nw_in (142) := by decide
theorem c_143 : Int32.ofInt (143) = (143) ∧ nw_in (143) := by decide
theorem c_144 : Int32.ofInt (144) = (144) ∧ nw_in (144) := by decide
theorem c_145 : Int32.ofInt (145) = (145) ∧ nw_in (145) := by decide
theorem c_146 : Int32.ofInt (146) = (146) ∧ nw_in (146) := by decide
theorem c_147 : Int32.ofInt (147) = (147) ∧ nw_in (147) := by decide
theorem c_148 : Int32.ofInt (148) = (148) ∧ nw_in (148) := by decide
theorem c_149 : Int32.ofInt (149) = (149) ∧ nw_in (149) := by decide
theorem c_150 : Int32.ofInt (150) = (150) ∧ nw_in (150) := by decide
theorem c_151 : Int32.ofInt (151) = (151) ∧ nw_in (151) := by decide
theorem c_152 : Int32.ofInt (152) = (152) ∧ nw_in (152) := by decide
theorem c_153 : Int32.ofInt (153) = (153) ∧ nw_in (153) := by decide
theorem c_154 : Int32.ofInt (154) = (154) ∧ nw_in (154) := by decide
theorem c_155 : Int32.ofInt (155) = (155) ∧ nw_in (155) := by decide
theorem c_156 : Int32.ofInt (156) = (156) ∧ nw_in (156) := by decide
theorem c_157 : Int32.ofInt (157) = (157) ∧ nw_in (157) := by decide
theorem c_158 : Int32.ofInt (158) = (158) ∧ nw_in (158) := by decide
theorem c_159 : Int32.ofInt (159) = (159) ∧ nw_in (159) := by decide
theorem c_160 : Int32.ofInt (160) = (160) ∧ nw_in (160) := by decide
theorem c_161 : Int32.ofInt (161) = (161) ∧ nw_in (161) := by decide
theorem c_300 : Int32.ofInt (300) = (300) ∧ nw_in (300) := by decide
theorem c_600 : Int32.ofInt (600) = (600) ∧ nw_in (600) := by decide
theorem c_1024 : Int32.ofInt (1024) = (1024) ∧ nw_in (1024) := by decide
theorem c_1127 : Int32.ofInt (1127) = (1127) ∧ nw_in (1127) := by decide
theorem c_1288 : Int32.ofInt (1288) = (1288) ∧ nw_in (1288) := by decide
theorem c_9999 : Int32.ofInt (9999) = (9999) ∧ nw_in (9999) := by decide
theorem c_10000 : Int32.ofInt (10000) = (10000) ∧ nw_in (10000) := by decide
theorem c_65535 : Int32.ofInt (65535) = (65535) ∧ nw_in (65535) := by decide
theorem c_100000 : Int32.ofInt (100000) = (100000) ∧ nw_in (100000) := by decide
theorem c_100000000 : Int32.ofInt (100000000) = (100000000) ∧ nw_in (100000000) := by decide
theorem nw_cpN {J : Nat → Int → Int} {a b x : Nat} {sp dp n i : Int} (h : ¬ x = b) : nw_cp J a b sp dp n x i = J x i := by simp [nw_cp, h]
theorem nw_tabK {i : Int} {n : Nat} (h : 0 ≤ i ∧ i < (n : Int)) (hn : n = 6 := by rfl) : 32 + i.toNat < 303 ∧ mw_kd0 (32 + i.toNat) = some (20, 6) := by
  subst hn
  obtain ⟨k, hk⟩ : ∃ k : Nat, i.toNat = k := ⟨_, rfl⟩
  rw [hk]
  have : k < 6 := by omega
  match k, this with
  | 0, _ => exact k_32
  | 1, _ => exact k_33
  | 2, _ => exact k_34
  | 3, _ => exact k_35
  | 4, _ => exact k_36
  | 5, _ => exact k_37
  | k + 6, h => omega
theorem nw_tabR {hp : Nat → Nat} {sb : Nat} {i : Int} {n : Nat} (h : 0 ≤ i ∧ i < (n : Int)) (hn : n = 6 := by rfl) : mw_rm0 hp sb 31 i.toNat = some (32 + i.toNat) := by
  subst hn
  obtain ⟨k, hk⟩ : ∃ k : Nat, i.toNat = k := ⟨_, rfl⟩
  rw [hk]
  have : k < 6 := by omega
  match k, this with
  | 0, _ => exact r_31_0
  | 1, _ => exact r_31_1
  | 2, _ => exact r_31_2
  | 3, _ => exact r_31_3
  | 4, _ => exact r_31_4
  | 5, _ => exact r_31_5
  | k + 6, h => omega
theorem l_J9_floorMod_7cf53_0 : mw_lk d_J9_floorMod_7cf53 0 = some (mw_b (.iload_n 0) 1 0) := mw_is_eq (by decide +kernel)
theorem l_J9_floorMod_7cf53_1 : mw_lk d_J9_floorMod_7cf53 1 = some (mw_b (.iload_n 1) 1 1) := mw_is_eq (by decide +kernel)
theorem l_J9_floorMod_7cf53_2 : mw_lk d_J9_floorMod_7cf53 2 = some (mw_a (.irem) 1) := mw_is_eq (by decide +kernel)
theorem l_J9_floorMod_7cf53_3 : mw_lk d_J9_floorMod_7cf53 3 = some (mw_b (.istore_n 2) 1 2) := mw_is_eq (by decide +kernel)
theorem l_J9_floorMod_7cf53_4 : mw_lk d_J9_floorMod_7cf53 4 = some (mw_b (.iload_n 0) 1 0) := mw_is_eq (by decide +kernel)
theorem l_J9_floorMod_7cf53_5 : mw_lk d_J9_floorMod_7cf53 5 = some (mw_b (.iload_n 1) 1 1) := mw_is_eq (by decide +kernel)
theorem l_J9_floorMod_7cf53_6 : mw_lk d_J9_floorMod_7cf53 6 = some (mw_a (.ixor) 1) := mw_is_eq (by decide +kernel)
theorem l_J9_floorMod_7cf53_7 : mw_lk d_J9_floorMod_7cf53 7 = some (mw_b (.ifCond .ge 11) 3 18) := mw_is_eq (by decide +kernel)
theorem l_J9_floorMod_7cf53_10 : mw_lk d_J9_floorMod_7cf53 10 = some (mw_b (.iload_n 2) 1 2) := mw_is_eq (by decide +kernel)
theorem l_J9_floorMod_7cf53_11 : mw_lk d_J9_floorMod_7cf53 11 = some (mw_b (.ifCond .eq 7) 3 18) := mw_is_eq (by decide +kernel)
theorem l_J9_floorMod_7cf53_14 : mw_lk d_J9_floorMod_7cf53 14 = some (mw_b (.iload_n 2) 1 2) := mw_is_eq (by decide +kernel)
theorem l_J9_floorMod_7cf53_15 : mw_lk d_J9_floorMod_7cf53 15 = some (mw_b (.iload_n 1) 1 1) := mw_is_eq (by decide +kernel)
theorem l_J9_floorMod_7cf53_16 : mw_lk d_J9_floorMod_7cf53 16 = some (mw_a (.iadd) 1) := mw_is_eq (by decide +kernel)
theorem l_J9_floorMod_7cf53_17 : mw_lk d_J9_floorMod_7cf53 17 = some (mw_a (.ireturn) 1) := mw_is_eq (by decide +kernel)
theorem l_J9_floorMod_7cf53_18 : mw_lk d_J9_floorMod_7cf53 18 = some (mw_b (.iload_n 2) 1 2) := mw_is_eq (by decide +kernel)
theorem l_J9_floorMod_7cf53_19 : mw_lk d_J9_floorMod_7cf53 19 = some (mw_a (.ireturn) 1) := mw_is_eq (by decide +kernel)
theorem l_J9_min_7cf53_0 : mw_lk d_J9_min_7cf53 0 = some (mw_b (.iload_n 0) 1 0) := mw_is_eq (by decide +kernel)
theorem l_J9_min_7cf53_1 : mw_lk d_J9_min_7cf53 1 = some (mw_b (.iload_n 1) 1 1) := mw_is_eq (by decide +kernel)
theorem l_J9_min_7cf53_2 : mw_lk d_J9_min_7cf53 2 = some (mw_b (.if_icmp .gt 7) 3 9) := mw_is_eq (by decide +kernel)
theorem l_J9_min_7cf53_5 : mw_lk d_J9_min_7cf53 5 = some (mw_b (.iload_n 0) 1 0) := mw_is_eq (by decide +kernel)
theorem l_J9_min_7cf53_6 : mw_lk d_J9_min_7cf53 6 = some (mw_b (.goto 4) 3 10) := mw_is_eq (by decide +kernel)
theorem l_J9_min_7cf53_9 : mw_lk d_J9_min_7cf53 9 = some (mw_b (.iload_n 1) 1 1) := mw_is_eq (by decide +kernel)
theorem l_J9_min_7cf53_10 : mw_lk d_J9_min_7cf53 10 = some (mw_a (.ireturn) 1) := mw_is_eq (by decide +kernel)
theorem l_J9_max_7cf53_0 : mw_lk d_J9_max_7cf53 0 = some (mw_b (.iload_n 0) 1 0) := mw_is_eq (by decide +kernel)
theorem l_J9_max_7cf53_1 : mw_lk d_J9_max_7cf53 1 = some (mw_b (.iload_n 1) 1 1) := mw_is_eq (by decide +kernel)
theorem l_J9_max_7cf53_2 : mw_lk d_J9_max_7cf53 2 = some (mw_b (.if_icmp .lt 7) 3 9) := mw_is_eq (by decide +kernel)
theorem l_J9_max_7cf53_5 : mw_lk d_J9_max_7cf53 5 = some (mw_b (.iload_n 0) 1 0) := mw_is_eq (by decide +kernel)
theorem l_J9_max_7cf53_6 : mw_lk d_J9_max_7cf53 6 = some (mw_b (.goto 4) 3 10) := mw_is_eq (by decide +kernel)
theorem l_J9_max_7cf53_9 : mw_lk d_J9_max_7cf53 9 = some (mw_b (.iload_n 1) 1 1) := mw_is_eq (by decide +kernel)
theorem l_J9_max_7cf53_10 : mw_lk d_J9_max_7cf53 10 = some (mw_a (.ireturn) 1) := mw_is_eq (by decide +kernel)
def p_J7_fill_53178 : mw_Code := [[(0, mw_c (.iconst 0) 1 (0)), (1, mw_b (.istore_n 2) 1 2), (2, mw_b (.aload_n 0) 1 0), (3, mw_a (.arraylength) 1), (4, mw_b (.istore_n 3) 1 3), (5, mw_b (.iload_n 2) 1 2), (6, mw_b (.iload_n 3) 1 3), (7, mw_b (.if_icmp .ge 13) 3 20), (10, mw_b (.aload_n 0) 1 0), (11, mw_b (.iload_n 2) 1 2), (12, mw_b (.iload_n 1) 1 1), (13, mw_a (.iastore) 1), (14, ((.iinc 2 1), 3, (2, 0, 0), [], mw_nm, (1))), (17, mw_b (.goto (-12)) 3 5), (20, mw_a (.return_) 1)]]
def d_J7_fill_53178 : mw_CD := (yJ7_fill_53178, cJ7_fill_53178, 4, none, p_J7_fill_53178, [])
set_option maxRecDepth 100000 in
theorem g_J7_fill_53178 : mw_Good d_J7_fill_53178 := ⟨by decide +kernel, by decide +kernel, by decide, mw_wd_in (i := 1028) (by decide +kernel), ⟨by decide +kernel, by decide +kernel⟩, by decide +kernel, [], by decide +kernel, mw_wd_in (i := 3173) (by decide +kernel)⟩
theorem l_J7_fill_53178_0 : mw_lk d_J7_fill_53178 0 = some (mw_c (.iconst 0) 1 (0)) := mw_is_eq (by decide +kernel)
theorem l_J7_fill_53178_1 : mw_lk d_J7_fill_53178 1 = some (mw_b (.istore_n 2) 1 2) := mw_is_eq (by decide +kernel)
theorem l_J7_fill_53178_2 : mw_lk d_J7_fill_53178 2 = some (mw_b (.aload_n 0) 1 0) := mw_is_eq (by decide +kernel)
theorem l_J7_fill_53178_3 : mw_lk d_J7_fill_53178 3 = some (mw_a (.arraylength) 1) := mw_is_eq (by decide +kernel)
theorem l_J7_fill_53178_4 : mw_lk d_J7_fill_53178 4 = some (mw_b (.istore_n 3) 1 3) := mw_is_eq (by decide +kernel)
theorem l_J7_fill_53178_5 : mw_lk d_J7_fill_53178 5 = some (mw_b (.iload_n 2) 1 2) := mw_is_eq (by decide +kernel)
theorem l_J7_fill_53178_6 : mw_lk d_J7_fill_53178 6 = some (mw_b (.iload_n 3) 1 3) := mw_is_eq (by decide +kernel)
theorem l_J7_fill_53178_7 : mw_lk d_J7_fill_53178 7 = some (mw_b (.if_icmp .ge 13) 3 20) := mw_is_eq (by decide +kernel)
theorem l_J7_fill_53178_10 : mw_lk d_J7_fill_53178 10 = some (mw_b (.aload_n 0) 1 0) := mw_is_eq (by decide +kernel)
theorem l_J7_fill_53178_11 : mw_lk d_J7_fill_53178 11 = some (mw_b (.iload_n 2) 1 2) := mw_is_eq (by decide +kernel)
theorem l_J7_fill_53178_12 : mw_lk d_J7_fill_53178 12 = some (mw_b (.iload_n 1) 1 1) := mw_is_eq (by decide +kernel)
theorem l_J7_fill_53178_13 : mw_lk d_J7_fill_53178 13 = some (mw_a (.iastore) 1) := mw_is_eq (by decide +kernel)
theorem l_J7_fill_53178_14 : mw_lk d_J7_fill_53178 14 = some (((.iinc 2 1), 3, (2, 0, 0), [], mw_nm, (1))) := mw_is_eq (by decide +kernel)
theorem l_J7_fill_53178_17 : mw_lk d_J7_fill_53178 17 = some (mw_b (.goto (-12)) 3 5) := mw_is_eq (by decide +kernel)
theorem l_J7_fill_53178_20 : mw_lk d_J7_fill_53178 20 = some (mw_a (.return_) 1) := mw_is_eq (by decide +kernel)

