/-! looking an instruction up-/
def mw_eqI (p q : mw_I) : Bool := decide (p.1 = q.1) && (Nat.beq p.2.1 q.2.1 && (Nat.beq p.2.2.1.1 q.2.2.1.1 && (Nat.beq p.2.2.1.2.1 q.2.2.1.2.1 && (Nat.beq p.2.2.1.2.2 q.2.2.1.2.2 && (decide (p.2.2.2.1 = q.2.2.2.1) && (decide (p.2.2.2.2.1 = q.2.2.2.2.1) && decide (p.2.2.2.2.2 = q.2.2.2.2.2)))))))
theorem mw_eqI_eq {p q : mw_I} (h : mw_eqI p q = true) : p = q := by
  obtain ⟨p1, p2, ⟨p3, p4, p5⟩, p6, p7, p8⟩ := p
  obtain ⟨q1, q2, ⟨q3, q4, q5⟩, q6, q7, q8⟩ := q
  unfold mw_eqI at h
  simp only [Bool.and_eq_true, decide_eq_true_eq, Nat.beq_eq] at h
  obtain ⟨rfl, rfl, rfl, rfl, rfl, rfl, rfl, rfl⟩ := h
  rfl
def mw_is (cd : mw_CD) (pc : Nat) (q : mw_I) : Bool := match mw_lk cd pc with
  | some p => mw_eqI p q
  | none => false
theorem mw_is_eq {cd : mw_CD} {pc : Nat} {q : mw_I} (h : mw_is cd pc q = true) : mw_lk cd pc = some q := by
  unfold mw_is at h
  split at h
  · rename_i p e
    rw [e, mw_eqI_eq h]
  · cases h
theorem mw_rmE {hp : Nat → Nat} {sb a k b : Nat} (h : Nat.beq a 104 = false) (h2 : Nat.beq a 301 = false) (hr : mw_rt0 a k = some b) : mw_rm0 hp sb a k = some b := by
  unfold mw_rm0
  rw [if_neg (fun e => by rw [e] at h; cases h), if_neg (fun e => by rw [e] at h2; cases h2), hr]
theorem k_0 : 0 < 303 ∧ mw_kd0 0 = some (15, 13) := ⟨by decide, by decide +kernel⟩
theorem k_1 : 1 < 303 ∧ mw_kd0 1 = some (4, 6) := ⟨by decide, by decide +kernel⟩
theorem k_2 : 2 < 303 ∧ mw_kd0 2 = some (12, 6) := ⟨by decide, by decide +kernel⟩
theorem k_3 : 3 < 303 ∧ mw_kd0 3 = some (13, 7) := ⟨by decide, by decide +kernel⟩
theorem k_4 : 4 < 303 ∧ mw_kd0 4 = some (20, 6) := ⟨by decide, by decide +kernel⟩
theorem k_5 : 5 < 303 ∧ mw_kd0 5 = some (20, 10) := ⟨by decide, by decide +kernel⟩
theorem k_6 : 6 < 303 ∧ mw_kd0 6 = some (20, 10) := ⟨by decide, by decide +kernel⟩
theorem k_7 : 7 < 303 ∧ mw_kd0 7 = some (20, 10) := ⟨by decide, by decide +kernel⟩
theorem k_8 : 8 < 303 ∧ mw_kd0 8 = some (20, 10) := ⟨by decide, by decide +kernel⟩
theorem k_9 : 9 < 303 ∧ mw_kd0 9 = some (8, 11) := ⟨by decide, by decide +kernel⟩
theorem k_10 : 10 < 303 ∧ mw_kd0 10 = some (20, 3) := ⟨by decide, by decide +kernel⟩
theorem k_11 : 11 < 303 ∧ mw_kd0 11 = some (20, 3) := ⟨by decide, by decide +kernel⟩
theorem k_12 : 12 < 303 ∧ mw_kd0 12 = some (20, 3) := ⟨by decide, by decide +kernel⟩
theorem k_13 : 13 < 303 ∧ mw_kd0 13 = some (20, 3) := ⟨by decide, by decide +kernel⟩
theorem k_14 : 14 < 303 ∧ mw_kd0 14 = some (20, 3) := ⟨by decide, by decide +kernel⟩
theorem k_15 : 15 < 303 ∧ mw_kd0 15 = some (20, 10) := ⟨by decide, by decide +kernel⟩
theorem k_16 : 16 < 303 ∧ mw_kd0 16 = some (20, 10) := ⟨by decide, by decide +kernel⟩
theorem k_17 : 17 < 303 ∧ mw_kd0 17 = some (20, 10) := ⟨by decide, by decide +kernel⟩
theorem k_18 : 18 < 303 ∧ mw_kd0 18 = some (11, 9) := ⟨by decide, by decide +kernel⟩
theorem k_19 : 19 < 303 ∧ mw_kd0 19 = some (20, 10) := ⟨by decide, by decide +kernel⟩
theorem k_20 : 20 < 303 ∧ mw_kd0 20 = some (20, 10) := ⟨by decide, by decide +kernel⟩
theorem k_21 : 21 < 303 ∧ mw_kd0 21 = some (20, 10) := ⟨by decide, by decide +kernel⟩
theorem k_22 : 22 < 303 ∧ mw_kd0 22 = some (20, 10) := ⟨by decide, by decide +kernel⟩
theorem k_23 : 23 < 303 ∧ mw_kd0 23 = some (20, 10) := ⟨by decide, by decide +kernel⟩
theorem k_24 : 24 < 303 ∧ mw_kd0 24 = some (20, 10) := ⟨by decide, by decide +kernel⟩
theorem k_25 : 25 < 303 ∧ mw_kd0 25 = some (20, 10) := ⟨by decide, by decide +kernel⟩
theorem k_26 : 26 < 303 ∧ mw_kd0 26 = some (10, 9) := ⟨by decide, by decide +kernel⟩
theorem k_27 : 27 < 303 ∧ mw_kd0 27 = some (20, 10) := ⟨by decide, by decide +kernel⟩
theorem k_28 : 28 < 303 ∧ mw_kd0 28 = some (7, 9) := ⟨by decide, by decide +kernel⟩
theorem k_29 : 29 < 303 ∧ mw_kd0 29 = some (14, 8) := ⟨by decide, by decide +kernel⟩
theorem k_30 : 30 < 303 ∧ mw_kd0 30 = some (20, 6) := ⟨by decide, by decide +kernel⟩
theorem k_31 : 31 < 303 ∧ mw_kd0 31 = some (26, 6) := ⟨by decide, by decide +kernel⟩
theorem k_32 : 32 < 303 ∧ mw_kd0 32 = some (20, 6) := ⟨by decide, by decide +kernel⟩
theorem k_33 : 33 < 303 ∧ mw_kd0 33 = some (20, 6) := ⟨by decide, by decide +kernel⟩
theorem k_34 : 34 < 303 ∧ mw_kd0 34 = some (20, 6) := ⟨by decide, by decide +kernel⟩
theorem k_35 : 35 < 303 ∧ mw_kd0 35 = some (20, 6) := ⟨by decide, by decide +kernel⟩
theorem k_36 : 36 < 303 ∧ mw_kd0 36 = some (20, 6) := ⟨by decide, by decide +kernel⟩
theorem k_37 : 37 < 303 ∧ mw_kd0 37 = some (20, 6) := ⟨by decide, by decide +kernel⟩
theorem k_38 : 38 < 303 ∧ mw_kd0 38 = some (20, 6) := ⟨by decide, by decide +kernel⟩
theorem k_39 : 39 < 303 ∧ mw_kd0 39 = some (20, 6) := ⟨by decide, by decide +kernel⟩
theorem k_40 : 40 < 303 ∧ mw_kd0 40 = some (6, 4) := ⟨by decide, by decide +kernel⟩
theorem k_41 : 41 < 303 ∧ mw_kd0 41 = some (20, 21) := ⟨by decide, by decide +kernel⟩
theorem k_42 : 42 < 303 ∧ mw_kd0 42 = some (20, 21) := ⟨by decide, by decide +kernel⟩
theorem k_43 : 43 < 303 ∧ mw_kd0 43 = some (20, 10) := ⟨by decide, by decide +kernel⟩
theorem k_44 : 44 < 303 ∧ mw_kd0 44 = some (20, 6) := ⟨by decide, by decide +kernel⟩
theorem k_45 : 45 < 303 ∧ mw_kd0 45 = some (20, 100) := ⟨by decide, by decide +kernel⟩
theorem k_46 : 46 < 303 ∧ mw_kd0 46 = some (20, 10) := ⟨by decide, by decide +kernel⟩
theorem k_47 : 47 < 303 ∧ mw_kd0 47 = some (20, 10) := ⟨by decide, by decide +kernel⟩
theorem k_48 : 48 < 303 ∧ mw_kd0 48 = some (20, 10) := ⟨by decide, by decide +kernel⟩
theorem k_49 : 49 < 303 ∧ mw_kd0 49 = some (20, 10) := ⟨by decide, by decide +kernel⟩
theorem k_50 : 50 < 303 ∧ mw_kd0 50 = some (20, 10) := ⟨by decide, by decide +kernel⟩
theorem k_51 : 51 < 303 ∧ mw_kd0 51 = some (20, 10) := ⟨by decide, by decide +kernel⟩
theorem k_52 : 52 < 303 ∧ mw_kd0 52 = some (20, 10) := ⟨by decide, by decide +kernel⟩
theorem k_53 : 53 < 303 ∧ mw_kd0 53 = some (20, 10) := ⟨by decide, by decide +kernel⟩
theorem k_54 : 54 < 303 ∧ mw_kd0 54 = some (20, 100) := ⟨by decide, by decide +kernel⟩
theorem k_55 : 55 < 303 ∧ mw_kd0 55 = some (12, 6) := ⟨by decide, by decide +kernel⟩
theorem k_56 : 56 < 303 ∧ mw_kd0 56 = some (13, 7) := ⟨by decide, by decide +kernel⟩
theorem k_57 : 57 < 303 ∧ mw_kd0 57 = some (20, 6) := ⟨by decide, by decide +kernel⟩
theorem k_58 : 58 < 303 ∧ mw_kd0 58 = some (20, 10) := ⟨by decide, by decide +kernel⟩
theorem k_59 : 59 < 303 ∧ mw_kd0 59 = some (20, 10) := ⟨by decide, by decide +kernel⟩
theorem k_60 : 60 < 303 ∧ mw_kd0 60 = some (20, 10) := ⟨by decide, by decide +kernel⟩
theorem k_61 : 61 < 303 ∧ mw_kd0 61 = some (20, 10) := ⟨by decide, by decide +kernel⟩
theorem k_62 : 62 < 303 ∧ mw_kd0 62 = some (8, 11) := ⟨by decide, by decide +kernel⟩
theorem k_63 : 63 < 303 ∧ mw_kd0 63 = some (20, 3) := ⟨by decide, by decide +kernel⟩
theorem k_64 : 64 < 303 ∧ mw_kd0 64 = some (20, 3) := ⟨by decide, by decide +kernel⟩
theorem k_65 : 65 < 303 ∧ mw_kd0 65 = some (20, 3) := ⟨by decide, by decide +kernel⟩
theorem k_66 : 66 < 303 ∧ mw_kd0 66 = some (20, 3) := ⟨by decide, by decide +kernel⟩
theorem k_67 : 67 < 303 ∧ mw_kd0 67 = some (20, 3) := ⟨by decide, by decide +kernel⟩
theorem k_68 : 68 < 303 ∧ mw_kd0 68 = some (20, 10) := ⟨by decide, by decide +kernel⟩
theorem k_69 : 69 < 303 ∧ mw_kd0 69 = some (20, 10) := ⟨by decide, by decide +kernel⟩
theorem k_70 : 70 < 303 ∧ mw_kd0 70 = some (20, 10) := ⟨by decide, by decide +kernel⟩
theorem k_71 : 71 < 303 ∧ mw_kd0 71 = some (11, 9) := ⟨by decide, by decide +kernel⟩
theorem k_72 : 72 < 303 ∧ mw_kd0 72 = some (20, 10) := ⟨by decide, by decide +kernel⟩
theorem k_73 : 73 < 303 ∧ mw_kd0 73 = some (20, 10) := ⟨by decide, by decide +kernel⟩
theorem k_74 : 74 < 303 ∧ mw_kd0 74 = some (20, 10) := ⟨by decide, by decide +kernel⟩
theorem k_75 : 75 < 303 ∧ mw_kd0 75 = some (20, 10) := ⟨by decide, by decide +kernel⟩
theorem k_76 : 76 < 303 ∧ mw_kd0 76 = some (20, 10) := ⟨by decide, by decide +kernel⟩
theorem k_77 : 77 < 303 ∧ mw_kd0 77 = some (20, 10) := ⟨by decide, by decide +kernel⟩
theorem k_78 : 78 < 303 ∧ mw_kd0 78 = some (20, 10) := ⟨by decide, by decide +kernel⟩
theorem k_79 : 79 < 303 ∧ mw_kd0 79 = some (12, 6) := ⟨by decide, by decide +kernel⟩
theorem k_80 : 80 < 303 ∧ mw_kd0 80 = some (13, 7) := ⟨by decide, by decide +kernel⟩
theorem k_81 : 81 < 303 ∧ mw_kd0 81 = some (20, 6) := ⟨by decide, by decide +kernel⟩
theorem k_82 : 82 < 303 ∧ mw_kd0 82 = some (20, 10) := ⟨by decide, by decide +kernel⟩
theorem k_83 : 83 < 303 ∧ mw_kd0 83 = some (20, 10) := ⟨by decide, by decide +kernel⟩
theorem k_84 : 84 < 303 ∧ mw_kd0 84 = some (20, 10) := ⟨by decide, by decide +kernel⟩
theorem k_85 : 85 < 303 ∧ mw_kd0 85 = some (20, 10) := ⟨by decide, by decide +kernel⟩
theorem k_86 : 86 < 303 ∧ mw_kd0 86 = some (8, 11) := ⟨by decide, by decide +kernel⟩
theorem k_87 : 87 < 303 ∧ mw_kd0 87 = some (20, 3) := ⟨by decide, by decide +kernel⟩
theorem k_88 : 88 < 303 ∧ mw_kd0 88 = some (20, 3) := ⟨by decide, by decide +kernel⟩
theorem k_89 : 89 < 303 ∧ mw_kd0 89 = some (20, 3) := ⟨by decide, by decide +kernel⟩
theorem k_90 : 90 < 303 ∧ mw_kd0 90 = some (20, 3) := ⟨by decide, by decide +kernel⟩
theorem k_91 : 91 < 303 ∧ mw_kd0 91 = some (20, 3) := ⟨by decide, by decide +kernel⟩
theorem k_92 : 92 < 303 ∧ mw_kd0 92 = some (20, 10) := ⟨by decide, by decide +kernel⟩
theorem k_93 : 93 < 303 ∧ mw_kd0 93 = some (20, 10) := ⟨by decide, by decide +kernel⟩
theorem k_94 : 94 < 303 ∧ mw_kd0 94 = some (20, 10) := ⟨by decide, by decide +kernel⟩
theorem k_95 : 95 < 303 ∧ mw_kd0 95 = some (11, 9) := ⟨by decide, by decide +kernel⟩
theorem k_96 : 96 < 303 ∧ mw_kd0 96 = some (20, 10) := ⟨by decide, by decide +kernel⟩
theorem k_97 : 97 < 303 ∧ mw_kd0 97 = some (20, 10) := ⟨by decide, by decide +kernel⟩
theorem k_98 : 98 < 303 ∧ mw_kd0 98 = some (20, 10) := ⟨by decide, by decide +kernel⟩
theorem k_99 : 99 < 303 ∧ mw_kd0 99 = some (20, 10) := ⟨by decide, by decide +kernel⟩
theorem k_100 : 100 < 303 ∧ mw_kd0 100 = some (20, 10) := ⟨by decide, by decide +kernel⟩
theorem k_101 : 101 < 303 ∧ mw_kd0 101 = some (20, 10) := ⟨by decide, by decide +kernel⟩
theorem k_102 : 102 < 303 ∧ mw_kd0 102 = some (20, 10) := ⟨by decide, by decide +kernel⟩
theorem k_103 : 103 < 303 ∧ mw_kd0 103 = some (9, 2) := ⟨by decide, by decide +kernel⟩
theorem k_104 : 104 < 303 ∧ mw_kd0 104 = some (25, 8) := ⟨by decide, by decide +kernel⟩
theorem k_105 : 105 < 303 ∧ mw_kd0 105 = some (12, 6) := ⟨by decide, by decide +kernel⟩
theorem k_106 : 106 < 303 ∧ mw_kd0 106 = some (13, 7) := ⟨by decide, by decide +kernel⟩
theorem k_107 : 107 < 303 ∧ mw_kd0 107 = some (20, 6) := ⟨by decide, by decide +kernel⟩
theorem k_108 : 108 < 303 ∧ mw_kd0 108 = some (20, 10) := ⟨by decide, by decide +kernel⟩
theorem k_109 : 109 < 303 ∧ mw_kd0 109 = some (20, 10) := ⟨by decide, by decide +kernel⟩
theorem k_110 : 110 < 303 ∧ mw_kd0 110 = some (20, 10) := ⟨by decide, by decide +kernel⟩
theorem k_111 : 111 < 303 ∧ mw_kd0 111 = some (20, 10) := ⟨by decide, by decide +kernel⟩
theorem k_112 : 112 < 303 ∧ mw_kd0 112 = some (8, 11) := ⟨by decide, by decide +kernel⟩
theorem k_113 : 113 < 303 ∧ mw_kd0 113 = some (20, 3) := ⟨by decide, by decide +kernel⟩
theorem k_114 : 114 < 303 ∧ mw_kd0 114 = some (20, 3) := ⟨by decide, by decide +kernel⟩
theorem k_115 : 115 < 303 ∧ mw_kd0 115 = some (20, 3) := ⟨by decide, by decide +kernel⟩
theorem k_116 : 116 < 303 ∧ mw_kd0 116 = some (20, 3) := ⟨by decide, by decide +kernel⟩
theorem k_117 : 117 < 303 ∧ mw_kd0 117 = some (20, 3) := ⟨by decide, by decide +kernel⟩
theorem k_118 : 118 < 303 ∧ mw_kd0 118 = some (20, 10) := ⟨by decide, by decide +kernel⟩
theorem k_119 : 119 < 303 ∧ mw_kd0 119 = some (20, 10) := ⟨by decide, by decide +kernel⟩
theorem k_120 : 120 < 303 ∧ mw_kd0 120 = some (20, 10) := ⟨by decide, by decide +kernel⟩
theorem k_121 : 121 < 303 ∧ mw_kd0 121 = some (11, 9) := ⟨by decide, by decide +kernel⟩
theorem k_122 : 122 < 303 ∧ mw_kd0 122 = some (20, 10) := ⟨by decide, by decide +kernel⟩
theorem k_123 : 123 < 303 ∧ mw_kd0 123 = some (20, 10) := ⟨by decide, by decide +kernel⟩
theorem k_124 : 124 < 303 ∧ mw_kd0 124 = some (20, 10) := ⟨by decide, by decide +kernel⟩
theorem k_125 : 125 < 303 ∧ mw_kd0 125 = some (20, 10) := ⟨by decide, by decide +kernel⟩
theorem k_126 : 126 < 303 ∧ mw_kd0 126 = some (20, 10) := ⟨by decide, by decide +kernel⟩
theorem k_127 : 127 < 303 ∧ mw_kd0 127 = some (20, 10) := ⟨by decide, by decide +kernel⟩
theorem k_128 : 128 < 303 ∧ mw_kd0 128 = some (20, 10) := ⟨by decide, by decide +kernel⟩
theorem k_129 : 129 < 303 ∧ mw_kd0 129 = some (12, 6) := ⟨by decide, by decide +kernel⟩
theorem k_130 : 130 < 303 ∧ mw_kd0 130 = some (13, 7) := ⟨by decide, by decide +kernel⟩
theorem k_131 : 131 < 303 ∧ mw_kd0 131 = some (20, 6) := ⟨by decide, by decide +kernel⟩
theorem k_132 : 132 < 303 ∧ mw_kd0 132 = some (20, 10) := ⟨by decide, by decide +kernel⟩
theorem k_133 : 133 < 303 ∧ mw_kd0 133 = some (20, 10) := ⟨by decide, by decide +kernel⟩
theorem k_134 : 134 < 303 ∧ mw_kd0 134 = some (20, 10) := ⟨by decide, by decide +kernel⟩
theorem k_135 : 135 < 303 ∧ mw_kd0 135 = some (20, 10) := ⟨by decide, by decide +kernel⟩
theorem k_136 : 136 < 303 ∧ mw_kd0 136 = some (8, 11) := ⟨by decide, by decide +kernel⟩
theorem k_137 : 137 < 303 ∧ mw_kd0 137 = some (20, 3) := ⟨by decide, by decide +kernel⟩
theorem k_138 : 138 < 303 ∧ mw_kd0 138 = some (20, 3) := ⟨by decide, by decide +kernel⟩
theorem k_139 : 139 < 303 ∧ mw_kd0 139 = some (20, 3) := ⟨by decide, by decide +kernel⟩
theorem k_140 : 140 < 303 ∧ mw_kd0 140 = some (20, 3) := ⟨by decide, by decide +kernel⟩
theorem k_141 : 141 < 303 ∧ mw_kd0 141 = some (20, 3) := ⟨by decide, by decide +kernel⟩
theorem k_142 : 142 < 303 ∧ mw_kd0 142 = some (20, 10) := ⟨by decide, by decide +kernel⟩
theorem k_143 : 143 < 303 ∧ mw_kd0 143 = some (20, 10) := ⟨by decide, by decide +kernel⟩
theorem k_144 : 144 < 303 ∧ mw_kd0 144 = some (20, 10) := ⟨by decide, by decide +kernel⟩
theorem k_145 : 145 < 303 ∧ mw_kd0 145 = some (11, 9) := ⟨by decide, by decide +kernel⟩
theorem k_146 : 146 < 303 ∧ mw_kd0 146 = some (20, 10) := ⟨by decide, by decide +kernel⟩
theorem k_147 : 147 < 303 ∧ mw_kd0 147 = some (20, 10) := ⟨by decide, by decide +kernel⟩
theorem k_148 : 148 < 303 ∧ mw_kd0 148 = some (20, 10) := ⟨by decide, by decide +kernel⟩
theorem k_149 : 149 < 303 ∧ mw_kd0 149 = some (20, 10) := ⟨by decide, by decide +kernel⟩
theorem k_150 : 150 < 303 ∧ mw_kd0 150 = some (20, 10) := ⟨by decide, by decide +kernel⟩
theorem k_151 : 151 < 303 ∧ mw_kd0 151 = some (20, 10) := ⟨by decide, by decide +kernel⟩
theorem k_152 : 152 < 303 ∧ mw_kd0 152 = some (20, 10) := ⟨by decide, by decide +kernel⟩
theorem k_153 : 153 < 303 ∧ mw_kd0 153 = some (12, 6) := ⟨by decide, by decide +kernel⟩
theorem k_154 : 154 < 303 ∧ mw_kd0 154 = some (13, 7) := ⟨by decide, by decide +kernel⟩
theorem k_155 : 155 < 303 ∧ mw_kd0 155 = some (20, 6) := ⟨by decide, by decide +kernel⟩
theorem k_156 : 156 < 303 ∧ mw_kd0 156 = some (20, 10) := ⟨by decide, by decide +kernel⟩
theorem k_157 : 157 < 303 ∧ mw_kd0 157 = some (20, 10) := ⟨by decide, by decide +kernel⟩
theorem k_158 : 158 < 303 ∧ mw_kd0 158 = some (20, 10) := ⟨by decide, by decide +kernel⟩
theorem k_159 : 159 < 303 ∧ mw_kd0 159 = some (20, 10) := ⟨by decide, by decide +kernel⟩
theorem k_160 : 160 < 303 ∧ mw_kd0 160 = some (8, 11) := ⟨by decide, by decide +kernel⟩
theorem k_161 : 161 < 303 ∧ mw_kd0 161 = some (20, 3) := ⟨by decide, by decide +kernel⟩
theorem k_162 : 162 < 303 ∧ mw_kd0 162 = some (20, 3) := ⟨by decide, by decide +kernel⟩
theorem k_163 : 163 < 303 ∧ mw_kd0 163 = some (20, 3) := ⟨by decide, by decide +kernel⟩
theorem k_164 : 164 < 303 ∧ mw_kd0 164 = some (20, 3) := ⟨by decide, by decide +kernel⟩
theorem k_165 : 165 < 303 ∧ mw_kd0 165 = some (20, 3) := ⟨by decide, by decide +kernel⟩
theorem k_166 : 166 < 303 ∧ mw_kd0 166 = some (20, 10) := ⟨by decide, by decide +kernel⟩
theorem k_167 : 167 < 303 ∧ mw_kd0 167 = some (20, 10) := ⟨by decide, by decide +kernel⟩
theorem k_168 : 168 < 303 ∧ mw_kd0 168 = some (20, 10) := ⟨by decide, by decide +kernel⟩
theorem k_169 : 169 < 303 ∧ mw_kd0 169 = some (11, 9) := ⟨by decide, by decide +kernel⟩
theorem k_170 : 170 < 303 ∧ mw_kd0 170 = some (20, 10) := ⟨by decide, by decide +kernel⟩
theorem k_171 : 171 < 303 ∧ mw_kd0 171 = some (20, 10) := ⟨by decide, by decide +kernel⟩
theorem k_172 : 172 < 303 ∧ mw_kd0 172 = some (20, 10) := ⟨by decide, by decide +kernel⟩
theorem k_173 : 173 < 303 ∧ mw_kd0 173 = some (20, 10) := ⟨by decide, by decide +kernel⟩
theorem k_174 : 174 < 303 ∧ mw_kd0 174 = some (20, 10) := ⟨by decide, by decide +kernel⟩
theorem k_175 : 175 < 303 ∧ mw_kd0 175 = some (20, 10) := ⟨by decide, by decide +kernel⟩
theorem k_176 : 176 < 303 ∧ mw_kd0 176 = some (20, 10) := ⟨by decide, by decide +kernel⟩
theorem k_177 : 177 < 303 ∧ mw_kd0 177 = some (12, 6) := ⟨by decide, by decide +kernel⟩
theorem k_178 : 178 < 303 ∧ mw_kd0 178 = some (13, 7) := ⟨by decide, by decide +kernel⟩
theorem k_179 : 179 < 303 ∧ mw_kd0 179 = some (20, 6) := ⟨by decide, by decide +kernel⟩
theorem k_180 : 180 < 303 ∧ mw_kd0 180 = some (20, 10) := ⟨by decide, by decide +kernel⟩
theorem k_181 : 181 < 303 ∧ mw_kd0 181 = some (20, 10) := ⟨by decide, by decide +kernel⟩
theorem k_182 : 182 < 303 ∧ mw_kd0 182 = some (20, 10) := ⟨by decide, by decide +kernel⟩
theorem k_183 : 183 < 303 ∧ mw_kd0 183 = some (20, 10) := ⟨by decide, by decide +kernel⟩
theorem k_184 : 184 < 303 ∧ mw_kd0 184 = some (8, 11) := ⟨by decide, by decide +kernel⟩
theorem k_185 : 185 < 303 ∧ mw_kd0 185 = some (20, 3) := ⟨by decide, by decide +kernel⟩
theorem k_186 : 186 < 303 ∧ mw_kd0 186 = some (20, 3) := ⟨by decide, by decide +kernel⟩
theorem k_187 : 187 < 303 ∧ mw_kd0 187 = some (20, 3) := ⟨by decide, by decide +kernel⟩
theorem k_188 : 188 < 303 ∧ mw_kd0 188 = some (20, 3) := ⟨by decide, by decide +kernel⟩
theorem k_189 : 189 < 303 ∧ mw_kd0 189 = some (20, 3) := ⟨by decide, by decide +kernel⟩
theorem k_190 : 190 < 303 ∧ mw_kd0 190 = some (20, 10) := ⟨by decide, by decide +kernel⟩
theorem k_191 : 191 < 303 ∧ mw_kd0 191 = some (20, 10) := ⟨by decide, by decide +kernel⟩
theorem k_192 : 192 < 303 ∧ mw_kd0 192 = some (20, 10) := ⟨by decide, by decide +kernel⟩
theorem k_193 : 193 < 303 ∧ mw_kd0 193 = some (11, 9) := ⟨by decide, by decide +kernel⟩
theorem k_194 : 194 < 303 ∧ mw_kd0 194 = some (20, 10) := ⟨by decide, by decide +kernel⟩
theorem k_195 : 195 < 303 ∧ mw_kd0 195 = some (20, 10) := ⟨by decide, by decide +kernel⟩
theorem k_196 : 196 < 303 ∧ mw_kd0 196 = some (20, 10) := ⟨by decide, by decide +kernel⟩
theorem k_197 : 197 < 303 ∧ mw_kd0 197 = some (20, 10) := ⟨by decide, by decide +kernel⟩
theorem k_198 : 198 < 303 ∧ mw_kd0 198 = some (20, 10) := ⟨by decide, by decide +kernel⟩
theorem k_199 : 199 < 303 ∧ mw_kd0 199 = some (20, 10) := ⟨by decide, by decide +kernel⟩
theorem k_200 : 200 < 303 ∧ mw_kd0 200 = some (20, 10) := ⟨by decide, by decide +kernel⟩
theorem k_201 : 201 < 303 ∧ mw_kd0 201 = some (12, 6) := ⟨by decide, by decide +kernel⟩
theorem k_202 : 202 < 303 ∧ mw_kd0 202 = some (13, 7) := ⟨by decide, by decide +kernel⟩
theorem k_203 : 203 < 303 ∧ mw_kd0 203 = some (20, 6) := ⟨by decide, by decide +kernel⟩
theorem k_204 : 204 < 303 ∧ mw_kd0 204 = some (20, 10) := ⟨by decide, by decide +kernel⟩
theorem k_205 : 205 < 303 ∧ mw_kd0 205 = some (20, 10) := ⟨by decide, by decide +kernel⟩
theorem k_206 : 206 < 303 ∧ mw_kd0 206 = some (20, 10) := ⟨by decide, by decide +kernel⟩
theorem k_207 : 207 < 303 ∧ mw_kd0 207 = some (20, 10) := ⟨by decide, by decide +kernel⟩
theorem k_208 : 208 < 303 ∧ mw_kd0 208 = some (8, 11) := ⟨by decide, by decide +kernel⟩
theorem k_209 : 209 < 303 ∧ mw_kd0 209 = some (20, 3) := ⟨by decide, by decide +kernel⟩
theorem k_210 : 210 < 303 ∧ mw_kd0 210 = some (20, 3) := ⟨by decide, by decide +kernel⟩
theorem k_211 : 211 < 303 ∧ mw_kd0 211 = some (20, 3) := ⟨by decide, by decide +kernel⟩
theorem k_212 : 212 < 303 ∧ mw_kd0 212 = some (20, 3) := ⟨by decide, by decide +kernel⟩
theorem k_213 : 213 < 303 ∧ mw_kd0 213 = some (20, 3) := ⟨by decide, by decide +kernel⟩
theorem k_214 : 214 < 303 ∧ mw_kd0 214 = some (20, 10) := ⟨by decide, by decide +kernel⟩
theorem k_215 : 215 < 303 ∧ mw_kd0 215 = some (20, 10) := ⟨by decide, by decide +kernel⟩
theorem k_216 : 216 < 303 ∧ mw_kd0 216 = some (20, 10) := ⟨by decide, by decide +kernel⟩
theorem k_217 : 217 < 303 ∧ mw_kd0 217 = some (11, 9) := ⟨by decide, by decide +kernel⟩
theorem k_218 : 218 < 303 ∧ mw_kd0 218 = some (20, 10) := ⟨by decide, by decide +kernel⟩
theorem k_219 : 219 < 303 ∧ mw_kd0 219 = some (20, 10) := ⟨by decide, by decide +kernel⟩
theorem k_220 : 220 < 303 ∧ mw_kd0 220 = some (20, 10) := ⟨by decide, by decide +kernel⟩
theorem k_221 : 221 < 303 ∧ mw_kd0 221 = some (20, 10) := ⟨by decide, by decide +kernel⟩
theorem k_222 : 222 < 303 ∧ mw_kd0 222 = some (20, 10) := ⟨by decide, by decide +kernel⟩
theorem k_223 : 223 < 303 ∧ mw_kd0 223 = some (20, 10) := ⟨by decide, by decide +kernel⟩
theorem k_224 : 224 < 303 ∧ mw_kd0 224 = some (20, 10) := ⟨by decide, by decide +kernel⟩
theorem k_225 : 225 < 303 ∧ mw_kd0 225 = some (12, 6) := ⟨by decide, by decide +kernel⟩
theorem k_226 : 226 < 303 ∧ mw_kd0 226 = some (13, 7) := ⟨by decide, by decide +kernel⟩
theorem k_227 : 227 < 303 ∧ mw_kd0 227 = some (20, 6) := ⟨by decide, by decide +kernel⟩
theorem k_228 : 228 < 303 ∧ mw_kd0 228 = some (20, 10) := ⟨by decide, by decide +kernel⟩
theorem k_229 : 229 < 303 ∧ mw_kd0 229 = some (20, 10) := ⟨by decide, by decide +kernel⟩
theorem k_230 : 230 < 303 ∧ mw_kd0 230 = some (20, 10) := ⟨by decide, by decide +kernel⟩
theorem k_231 : 231 < 303 ∧ mw_kd0 231 = some (20, 10) := ⟨by decide, by decide +kernel⟩
theorem k_232 : 232 < 303 ∧ mw_kd0 232 = some (8, 11) := ⟨by decide, by decide +kernel⟩
theorem k_233 : 233 < 303 ∧ mw_kd0 233 = some (20, 3) := ⟨by decide, by decide +kernel⟩
theorem k_234 : 234 < 303 ∧ mw_kd0 234 = some (20, 3) := ⟨by decide, by decide +kernel⟩
theorem k_235 : 235 < 303 ∧ mw_kd0 235 = some (20, 3) := ⟨by decide, by decide +kernel⟩
theorem k_236 : 236 < 303 ∧ mw_kd0 236 = some (20, 3) := ⟨by decide, by decide +kernel⟩
theorem k_237 : 237 < 303 ∧ mw_kd0 237 = some (20, 3) := ⟨by decide, by decide +kernel⟩
theorem k_238 : 238 < 303 ∧ mw_kd0 238 = some (20, 10) := ⟨by decide, by decide +kernel⟩
theorem k_239 : 239 < 303 ∧ mw_kd0 239 = some (20, 10) := ⟨by decide, by decide +kernel⟩
theorem k_240 : 240 < 303 ∧ mw_kd0 240 = some (20, 10) := ⟨by decide, by decide +kernel⟩
theorem k_241 : 241 < 303 ∧ mw_kd0 241 = some (11, 9) := ⟨by decide, by decide +kernel⟩
theorem k_242 : 242 < 303 ∧ mw_kd0 242 = some (20, 10) := ⟨by decide, by decide +kernel⟩
theorem k_243 : 243 < 303 ∧ mw_kd0 243 = some (20, 10) := ⟨by decide, by decide +kernel⟩
theorem k_244 : 244 < 303 ∧ mw_kd0 244 = some (20, 10) := ⟨by decide, by decide +kernel⟩
theorem k_245 : 245 < 303 ∧ mw_kd0 245 = some (20, 10) := ⟨by decide, by decide +kernel⟩
theorem k_246 : 246 < 303 ∧ mw_kd0 246 = some (20, 10) := ⟨by decide, by decide +kernel⟩
theorem k_247 : 247 < 303 ∧ mw_kd0 247 = some (20, 10) := ⟨by decide, by decide +kernel⟩
theorem k_248 : 248 < 303 ∧ mw_kd0 248 = some (20, 10) := ⟨by decide, by decide +kernel⟩
theorem k_249 : 249 < 303 ∧ mw_kd0 249 = some (12, 6) := ⟨by decide, by decide +kernel⟩
theorem k_250 : 250 < 303 ∧ mw_kd0 250 = some (13, 7) := ⟨by decide, by decide +kernel⟩
theorem k_251 : 251 < 303 ∧ mw_kd0 251 = some (20, 6) := ⟨by decide, by decide +kernel⟩
theorem k_252 : 252 < 303 ∧ mw_kd0 252 = some (20, 10) := ⟨by decide, by decide +kernel⟩
theorem k_253 : 253 < 303 ∧ mw_kd0 253 = some (20, 10) := ⟨by decide, by decide +kernel⟩
theorem k_254 : 254 < 303 ∧ mw_kd0 254 = some (20, 10) := ⟨by decide, by decide +kernel⟩
theorem k_255 : 255 < 303 ∧ mw_kd0 255 = some (20, 10) := ⟨by decide, by decide +kernel⟩
theorem k_256 : 256 < 303 ∧ mw_kd0 256 = some (8, 11) := ⟨by decide, by decide +kernel⟩
theorem k_257 : 257 < 303 ∧ mw_kd0 257 = some (20, 3) := ⟨by decide, by decide +kernel⟩
theorem k_258 : 258 < 303 ∧ mw_kd0 258 = some (20, 3) := ⟨by decide, by decide +kernel⟩
theorem k_259 : 259 < 303 ∧ mw_kd0 259 = some (20, 3) := ⟨by decide, by decide +kernel⟩
theorem k_260 : 260 < 303 ∧ mw_kd0 260 = some (20, 3) := ⟨by decide, by decide +kernel⟩
theorem k_261 : 261 < 303 ∧ mw_kd0 261 = some (20, 3) := ⟨by decide, by decide +kernel⟩
theorem k_262 : 262 < 303 ∧ mw_kd0 262 = some (20, 10) := ⟨by decide, by decide +kernel⟩
theorem k_263 : 263 < 303 ∧ mw_kd0 263 = some (20, 10) := ⟨by decide, by decide +kernel⟩
theorem k_264 : 264 < 303 ∧ mw_kd0 264 = some (20, 10) := ⟨by decide, by decide +kernel⟩
theorem k_265 : 265 < 303 ∧ mw_kd0 265 = some (11, 9) := ⟨by decide, by decide +kernel⟩
theorem k_266 : 266 < 303 ∧ mw_kd0 266 = some (20, 10) := ⟨by decide, by decide +kernel⟩
theorem k_267 : 267 < 303 ∧ mw_kd0 267 = some (20, 10) := ⟨by decide, by decide +kernel⟩
theorem k_268 : 268 < 303 ∧ mw_kd0 268 = some (20, 10) := ⟨by decide, by decide +kernel⟩
theorem k_269 : 269 < 303 ∧ mw_kd0 269 = some (20, 10) := ⟨by decide, by decide +kernel⟩
theorem k_270 : 270 < 303 ∧ mw_kd0 270 = some (20, 10) := ⟨by decide, by decide +kernel⟩
theorem k_271 : 271 < 303 ∧ mw_kd0 271 = some (20, 10) := ⟨by decide, by decide +kernel⟩
theorem k_272 : 272 < 303 ∧ mw_kd0 272 = some (20, 10) := ⟨by decide, by decide +kernel⟩
theorem k_273 : 273 < 303 ∧ mw_kd0 273 = some (12, 6) := ⟨by decide, by decide +kernel⟩
theorem k_274 : 274 < 303 ∧ mw_kd0 274 = some (13, 7) := ⟨by decide, by decide +kernel⟩
theorem k_275 : 275 < 303 ∧ mw_kd0 275 = some (20, 6) := ⟨by decide, by decide +kernel⟩
theorem k_276 : 276 < 303 ∧ mw_kd0 276 = some (20, 10) := ⟨by decide, by decide +kernel⟩
theorem k_277 : 277 < 303 ∧ mw_kd0 277 = some (20, 10) := ⟨by decide, by decide +kernel⟩
theorem k_278 : 278 < 303 ∧ mw_kd0 278 = some (20, 10) := ⟨by decide, by decide +kernel⟩
theorem k_279 : 279 < 303 ∧ mw_kd0 279 = some (20, 10) := ⟨by decide, by decide +kernel⟩
theorem k_280 : 280 < 303 ∧ mw_kd0 280 = some (8, 11) := ⟨by decide, by decide +kernel⟩
theorem k_281 : 281 < 303 ∧ mw_kd0 281 = some (20, 3) := ⟨by decide, by decide +kernel⟩
theorem k_282 : 282 < 303 ∧ mw_kd0 282 = some (20, 3) := ⟨by decide, by decide +kernel⟩
theorem k_283 : 283 < 303 ∧ mw_kd0 283 = some (20, 3) := ⟨by decide, by decide +kernel⟩
theorem k_284 : 284 < 303 ∧ mw_kd0 284 = some (20, 3) := ⟨by decide, by decide +kernel⟩
theorem k_285 : 285 < 303 ∧ mw_kd0 285 = some (20, 3) := ⟨by decide, by decide +kernel⟩
theorem k_286 : 286 < 303 ∧ mw_kd0 286 = some (20, 10) := ⟨by decide, by decide +kernel⟩
theorem k_287 : 287 < 303 ∧ mw_kd0 287 = some (20, 10) := ⟨by decide, by decide +kernel⟩
theorem k_288 : 288 < 303 ∧ mw_kd0 288 = some (20, 10) := ⟨by decide, by decide +kernel⟩
theorem k_289 : 289 < 303 ∧ mw_kd0 289 = some (11, 9) := ⟨by decide, by decide +kernel⟩
theorem k_290 : 290 < 303 ∧ mw_kd0 290 = some (20, 10) := ⟨by decide, by decide +kernel⟩
theorem k_291 : 291 < 303 ∧ mw_kd0 291 = some (20, 10) := ⟨by decide, by decide +kernel⟩
theorem k_292 : 292 < 303 ∧ mw_kd0 292 = some (20, 10) := ⟨by decide, by decide +kernel⟩
theorem k_293 : 293 < 303 ∧ mw_kd0 293 = some (20, 10) := ⟨by decide, by decide +kernel⟩
theorem k_294 : 294 < 303 ∧ mw_kd0 294 = some (20, 10) := ⟨by decide, by decide +kernel⟩
theorem k_295 : 295 < 303 ∧ mw_kd0 295 = some (20, 10) := ⟨by decide, by decide +kernel⟩
theorem k_296 : 296 < 303 ∧ mw_kd0 296 = some (20, 10) := ⟨by decide, by decide +kernel⟩
theorem k_297 : 297 < 303 ∧ mw_kd0 297 = some (5, 5) := ⟨by decide, by decide +kernel⟩
theorem k_298 : 298 < 303 ∧ mw_kd0 298 = some (20, 10) := ⟨by decide, by decide +kernel⟩
theorem k_299 : 299 < 303 ∧ mw_kd0 299 = some (21, 60) := ⟨by decide, by decide +kernel⟩
theorem k_300 : 300 < 303 ∧ mw_kd0 300 = some (20, 40) := ⟨by decide, by decide +kernel⟩
theorem k_301 : 301 < 303 ∧ mw_kd0 301 = some (1, 4) := ⟨by decide, by decide +kernel⟩
theorem k_302 : 302 < 303 ∧ mw_kd0 302 = some (24, 16) := ⟨by decide, by decide +kernel⟩
theorem r_0_0 {hp : Nat → Nat} {sb : Nat} : mw_rm0 hp sb 0 0 = some 1 := mw_rmE rfl rfl (by decide +kernel)
theorem r_0_1 {hp : Nat → Nat} {sb : Nat} : mw_rm0 hp sb 0 1 = some 2 := mw_rmE rfl rfl (by decide +kernel)
theorem r_0_2 {hp : Nat → Nat} {sb : Nat} : mw_rm0 hp sb 0 2 = some 26 := mw_rmE rfl rfl (by decide +kernel)
theorem r_0_3 {hp : Nat → Nat} {sb : Nat} : mw_rm0 hp sb 0 3 = some 28 := mw_rmE rfl rfl (by decide +kernel)
theorem r_0_4 {hp : Nat → Nat} {sb : Nat} : mw_rm0 hp sb 0 4 = some 29 := mw_rmE rfl rfl (by decide +kernel)
theorem r_0_5 {hp : Nat → Nat} {sb : Nat} : mw_rm0 hp sb 0 5 = some 55 := mw_rmE rfl rfl (by decide +kernel)
theorem r_0_6 {hp : Nat → Nat} {sb : Nat} : mw_rm0 hp sb 0 6 = some 79 := mw_rmE rfl rfl (by decide +kernel)
theorem r_0_7 {hp : Nat → Nat} {sb : Nat} : mw_rm0 hp sb 0 7 = some 103 := mw_rmE rfl rfl (by decide +kernel)
theorem r_0_8 {hp : Nat → Nat} {sb : Nat} : mw_rm0 hp sb 0 8 = some 297 := mw_rmE rfl rfl (by decide +kernel)
theorem r_0_9 {hp : Nat → Nat} {sb : Nat} : mw_rm0 hp sb 0 9 = some 301 := mw_rmE rfl rfl (by decide +kernel)
theorem r_1_1 {hp : Nat → Nat} {sb : Nat} : mw_rm0 hp sb 1 1 = some 2 := mw_rmE rfl rfl (by decide +kernel)
theorem r_1_2 {hp : Nat → Nat} {sb : Nat} : mw_rm0 hp sb 1 2 = some 26 := mw_rmE rfl rfl (by decide +kernel)
theorem r_1_3 {hp : Nat → Nat} {sb : Nat} : mw_rm0 hp sb 1 3 = some 3 := mw_rmE rfl rfl (by decide +kernel)
theorem r_1_4 {hp : Nat → Nat} {sb : Nat} : mw_rm0 hp sb 1 4 = some 9 := mw_rmE rfl rfl (by decide +kernel)
theorem r_1_5 {hp : Nat → Nat} {sb : Nat} : mw_rm0 hp sb 1 5 = some 18 := mw_rmE rfl rfl (by decide +kernel)
theorem r_2_0 {hp : Nat → Nat} {sb : Nat} : mw_rm0 hp sb 2 0 = some 3 := mw_rmE rfl rfl (by decide +kernel)
theorem r_2_1 {hp : Nat → Nat} {sb : Nat} : mw_rm0 hp sb 2 1 = some 9 := mw_rmE rfl rfl (by decide +kernel)
theorem r_2_2 {hp : Nat → Nat} {sb : Nat} : mw_rm0 hp sb 2 2 = some 18 := mw_rmE rfl rfl (by decide +kernel)
theorem r_3_2 {hp : Nat → Nat} {sb : Nat} : mw_rm0 hp sb 3 2 = some 4 := mw_rmE rfl rfl (by decide +kernel)
theorem r_3_3 {hp : Nat → Nat} {sb : Nat} : mw_rm0 hp sb 3 3 = some 5 := mw_rmE rfl rfl (by decide +kernel)
theorem r_3_4 {hp : Nat → Nat} {sb : Nat} : mw_rm0 hp sb 3 4 = some 6 := mw_rmE rfl rfl (by decide +kernel)
theorem r_3_5 {hp : Nat → Nat} {sb : Nat} : mw_rm0 hp sb 3 5 = some 7 := mw_rmE rfl rfl (by decide +kernel)
theorem r_3_6 {hp : Nat → Nat} {sb : Nat} : mw_rm0 hp sb 3 6 = some 8 := mw_rmE rfl rfl (by decide +kernel)
theorem r_9_1 {hp : Nat → Nat} {sb : Nat} : mw_rm0 hp sb 9 1 = some 10 := mw_rmE rfl rfl (by decide +kernel)
theorem r_9_2 {hp : Nat → Nat} {sb : Nat} : mw_rm0 hp sb 9 2 = some 11 := mw_rmE rfl rfl (by decide +kernel)
theorem r_9_3 {hp : Nat → Nat} {sb : Nat} : mw_rm0 hp sb 9 3 = some 12 := mw_rmE rfl rfl (by decide +kernel)
theorem r_9_4 {hp : Nat → Nat} {sb : Nat} : mw_rm0 hp sb 9 4 = some 13 := mw_rmE rfl rfl (by decide +kernel)
theorem r_9_5 {hp : Nat → Nat} {sb : Nat} : mw_rm0 hp sb 9 5 = some 14 := mw_rmE rfl rfl (by decide +kernel)
theorem r_9_8 {hp : Nat → Nat} {sb : Nat} : mw_rm0 hp sb 9 8 = some 15 := mw_rmE rfl rfl (by decide +kernel)
theorem r_9_9 {hp : Nat → Nat} {sb : Nat} : mw_rm0 hp sb 9 9 = some 16 := mw_rmE rfl rfl (by decide +kernel)
theorem r_9_10 {hp : Nat → Nat} {sb : Nat} : mw_rm0 hp sb 9 10 = some 17 := mw_rmE rfl rfl (by decide +kernel)
theorem r_18_2 {hp : Nat → Nat} {sb : Nat} : mw_rm0 hp sb 18 2 = some 19 := mw_rmE rfl rfl (by decide +kernel)
theorem r_18_3 {hp : Nat → Nat} {sb : Nat} : mw_rm0 hp sb 18 3 = some 20 := mw_rmE rfl rfl (by decide +kernel)
theorem r_18_4 {hp : Nat → Nat} {sb : Nat} : mw_rm0 hp sb 18 4 = some 21 := mw_rmE rfl rfl (by decide +kernel)
theorem r_18_5 {hp : Nat → Nat} {sb : Nat} : mw_rm0 hp sb 18 5 = some 22 := mw_rmE rfl rfl (by decide +kernel)
theorem r_18_6 {hp : Nat → Nat} {sb : Nat} : mw_rm0 hp sb 18 6 = some 23 := mw_rmE rfl rfl (by decide +kernel)
theorem r_18_7 {hp : Nat → Nat} {sb : Nat} : mw_rm0 hp sb 18 7 = some 24 := mw_rmE rfl rfl (by decide +kernel)
theorem r_18_8 {hp : Nat → Nat} {sb : Nat} : mw_rm0 hp sb 18 8 = some 25 := mw_rmE rfl rfl (by decide +kernel)
theorem r_26_2 {hp : Nat → Nat} {sb : Nat} : mw_rm0 hp sb 26 2 = some 27 := mw_rmE rfl rfl (by decide +kernel)
theorem r_26_3 {hp : Nat → Nat} {sb : Nat} : mw_rm0 hp sb 26 3 = some 28 := mw_rmE rfl rfl (by decide +kernel)
theorem r_26_6 {hp : Nat → Nat} {sb : Nat} : mw_rm0 hp sb 26 6 = some 52 := mw_rmE rfl rfl (by decide +kernel)
theorem r_26_7 {hp : Nat → Nat} {sb : Nat} : mw_rm0 hp sb 26 7 = some 53 := mw_rmE rfl rfl (by decide +kernel)
theorem r_26_8 {hp : Nat → Nat} {sb : Nat} : mw_rm0 hp sb 26 8 = some 54 := mw_rmE rfl rfl (by decide +kernel)
theorem r_28_0 {hp : Nat → Nat} {sb : Nat} : mw_rm0 hp sb 28 0 = some 29 := mw_rmE rfl rfl (by decide +kernel)
theorem r_28_1 {hp : Nat → Nat} {sb : Nat} : mw_rm0 hp sb 28 1 = some 46 := mw_rmE rfl rfl (by decide +kernel)
theorem r_28_4 {hp : Nat → Nat} {sb : Nat} : mw_rm0 hp sb 28 4 = some 47 := mw_rmE rfl rfl (by decide +kernel)
theorem r_28_5 {hp : Nat → Nat} {sb : Nat} : mw_rm0 hp sb 28 5 = some 48 := mw_rmE rfl rfl (by decide +kernel)
theorem r_28_6 {hp : Nat → Nat} {sb : Nat} : mw_rm0 hp sb 28 6 = some 49 := mw_rmE rfl rfl (by decide +kernel)
theorem r_28_7 {hp : Nat → Nat} {sb : Nat} : mw_rm0 hp sb 28 7 = some 50 := mw_rmE rfl rfl (by decide +kernel)
theorem r_28_8 {hp : Nat → Nat} {sb : Nat} : mw_rm0 hp sb 28 8 = some 51 := mw_rmE rfl rfl (by decide +kernel)
theorem r_29_0 {hp : Nat → Nat} {sb : Nat} : mw_rm0 hp sb 29 0 = some 30 := mw_rmE rfl rfl (by decide +kernel)
theorem r_29_1 {hp : Nat → Nat} {sb : Nat} : mw_rm0 hp sb 29 1 = some 31 := mw_rmE rfl rfl (by decide +kernel)
theorem r_29_2 {hp : Nat → Nat} {sb : Nat} : mw_rm0 hp sb 29 2 = some 38 := mw_rmE rfl rfl (by decide +kernel)
theorem r_29_3 {hp : Nat → Nat} {sb : Nat} : mw_rm0 hp sb 29 3 = some 39 := mw_rmE rfl rfl (by decide +kernel)
theorem r_29_4 {hp : Nat → Nat} {sb : Nat} : mw_rm0 hp sb 29 4 = some 40 := mw_rmE rfl rfl (by decide +kernel)
theorem r_29_5 {hp : Nat → Nat} {sb : Nat} : mw_rm0 hp sb 29 5 = some 43 := mw_rmE rfl rfl (by decide +kernel)
theorem r_29_6 {hp : Nat → Nat} {sb : Nat} : mw_rm0 hp sb 29 6 = some 44 := mw_rmE rfl rfl (by decide +kernel)
theorem r_29_7 {hp : Nat → Nat} {sb : Nat} : mw_rm0 hp sb 29 7 = some 45 := mw_rmE rfl rfl (by decide +kernel)
theorem r_31_0 {hp : Nat → Nat} {sb : Nat} : mw_rm0 hp sb 31 0 = some 32 := mw_rmE rfl rfl (by decide +kernel)
theorem r_31_1 {hp : Nat → Nat} {sb : Nat} : mw_rm0 hp sb 31 1 = some 33 := mw_rmE rfl rfl (by decide +kernel)
theorem r_31_2 {hp : Nat → Nat} {sb : Nat} : mw_rm0 hp sb 31 2 = some 34 := mw_rmE rfl rfl (by decide +kernel)
theorem r_31_3 {hp : Nat → Nat} {sb : Nat} : mw_rm0 hp sb 31 3 = some 35 := mw_rmE rfl rfl (by decide +kernel)
theorem r_31_4 {hp : Nat → Nat} {sb : Nat} : mw_rm0 hp sb 31 4 = some 36 := mw_rmE rfl rfl (by decide +kernel)
theorem r_31_5 {hp : Nat → Nat} {sb : Nat} : mw_rm0 hp sb 31 5 = some 37 := mw_rmE rfl rfl (by decide +kernel)
theorem r_40_2 {hp : Nat → Nat} {sb : Nat} : mw_rm0 hp sb 40 2 = some 41 := mw_rmE rfl rfl (by decide +kernel)
theorem r_40_3 {hp : Nat → Nat} {sb : Nat} : mw_rm0 hp sb 40 3 = some 42 := mw_rmE rfl rfl (by decide +kernel)
theorem r_55_0 {hp : Nat → Nat} {sb : Nat} : mw_rm0 hp sb 55 0 = some 56 := mw_rmE rfl rfl (by decide +kernel)
theorem r_55_1 {hp : Nat → Nat} {sb : Nat} : mw_rm0 hp sb 55 1 = some 62 := mw_rmE rfl rfl (by decide +kernel)
theorem r_55_2 {hp : Nat → Nat} {sb : Nat} : mw_rm0 hp sb 55 2 = some 71 := mw_rmE rfl rfl (by decide +kernel)
theorem r_56_2 {hp : Nat → Nat} {sb : Nat} : mw_rm0 hp sb 56 2 = some 57 := mw_rmE rfl rfl (by decide +kernel)
theorem r_56_3 {hp : Nat → Nat} {sb : Nat} : mw_rm0 hp sb 56 3 = some 58 := mw_rmE rfl rfl (by decide +kernel)
theorem r_56_4 {hp : Nat → Nat} {sb : Nat} : mw_rm0 hp sb 56 4 = some 59 := mw_rmE rfl rfl (by decide +kernel)
theorem r_56_5 {hp : Nat → Nat} {sb : Nat} : mw_rm0 hp sb 56 5 = some 60 := mw_rmE rfl rfl (by decide +kernel)
theorem r_56_6 {hp : Nat → Nat} {sb : Nat} : mw_rm0 hp sb 56 6 = some 61 := mw_rmE rfl rfl (by decide +kernel)
theorem r_62_1 {hp : Nat → Nat} {sb : Nat} : mw_rm0 hp sb 62 1 = some 63 := mw_rmE rfl rfl (by decide +kernel)
theorem r_62_2 {hp : Nat → Nat} {sb : Nat} : mw_rm0 hp sb 62 2 = some 64 := mw_rmE rfl rfl (by decide +kernel)
theorem r_62_3 {hp : Nat → Nat} {sb : Nat} : mw_rm0 hp sb 62 3 = some 65 := mw_rmE rfl rfl (by decide +kernel)
theorem r_62_4 {hp : Nat → Nat} {sb : Nat} : mw_rm0 hp sb 62 4 = some 66 := mw_rmE rfl rfl (by decide +kernel)
theorem r_62_5 {hp : Nat → Nat} {sb : Nat} : mw_rm0 hp sb 62 5 = some 67 := mw_rmE rfl rfl (by decide +kernel)
theorem r_62_8 {hp : Nat → Nat} {sb : Nat} : mw_rm0 hp sb 62 8 = some 68 := mw_rmE rfl rfl (by decide +kernel)
theorem r_62_9 {hp : Nat → Nat} {sb : Nat} : mw_rm0 hp sb 62 9 = some 69 := mw_rmE rfl rfl (by decide +kernel)
theorem r_62_10 {hp : Nat → Nat} {sb : Nat} : mw_rm0 hp sb 62 10 = some 70 := mw_rmE rfl rfl (by decide +kernel)
theorem r_71_2 {hp : Nat → Nat} {sb : Nat} : mw_rm0 hp sb 71 2 = some 72 := mw_rmE rfl rfl (by decide +kernel)
theorem r_71_3 {hp : Nat → Nat} {sb : Nat} : mw_rm0 hp sb 71 3 = some 73 := mw_rmE rfl rfl (by decide +kernel)
theorem r_71_4 {hp : Nat → Nat} {sb : Nat} : mw_rm0 hp sb 71 4 = some 74 := mw_rmE rfl rfl (by decide +kernel)
theorem r_71_5 {hp : Nat → Nat} {sb : Nat} : mw_rm0 hp sb 71 5 = some 75 := mw_rmE rfl rfl (by decide +kernel)
theorem r_71_6 {hp : Nat → Nat} {sb : Nat} : mw_rm0 hp sb 71 6 = some 76 := mw_rmE rfl rfl (by decide +kernel)
theorem r_71_7 {hp : Nat → Nat} {sb : Nat} : mw_rm0 hp sb 71 7 = some 77 := mw_rmE rfl rfl (by decide +kernel)
theorem r_71_8 {hp : Nat → Nat} {sb : Nat} : mw_rm0 hp sb 71 8 = some 78 := mw_rmE rfl rfl (by decide +kernel)
theorem r_79_0 {hp : Nat → Nat} {sb : Nat} : mw_rm0 hp sb 79 0 = some 80 := mw_rmE rfl rfl (by decide +kernel)
theorem r_79_1 {hp : Nat → Nat} {sb : Nat} : mw_rm0 hp sb 79 1 = some 86 := mw_rmE rfl rfl (by decide +kernel)
theorem r_79_2 {hp : Nat → Nat} {sb : Nat} : mw_rm0 hp sb 79 2 = some 95 := mw_rmE rfl rfl (by decide +kernel)
theorem r_80_2 {hp : Nat → Nat} {sb : Nat} : mw_rm0 hp sb 80 2 = some 81 := mw_rmE rfl rfl (by decide +kernel)
theorem r_80_3 {hp : Nat → Nat} {sb : Nat} : mw_rm0 hp sb 80 3 = some 82 := mw_rmE rfl rfl (by decide +kernel)
theorem r_80_4 {hp : Nat → Nat} {sb : Nat} : mw_rm0 hp sb 80 4 = some 83 := mw_rmE rfl rfl (by decide +kernel)
theorem r_80_5 {hp : Nat → Nat} {sb : Nat} : mw_rm0 hp sb 80 5 = some 84 := mw_rmE rfl rfl (by decide +kernel)
theorem r_80_6 {hp : Nat → Nat} {sb : Nat} : mw_rm0 hp sb 80 6 = some 85 := mw_rmE rfl rfl (by decide +kernel)
theorem r_86_1 {hp : Nat → Nat} {sb : Nat} : mw_rm0 hp sb 86 1 = some 87 := mw_rmE rfl rfl (by decide +kernel)
theorem r_86_2 {hp : Nat → Nat} {sb : Nat} : mw_rm0 hp sb 86 2 = some 88 := mw_rmE rfl rfl (by decide +kernel)
theorem r_86_3 {hp : Nat → Nat} {sb : Nat} : mw_rm0 hp sb 86 3 = some 89 := mw_rmE rfl rfl (by decide +kernel)
theorem r_86_4 {hp : Nat → Nat} {sb : Nat} : mw_rm0 hp sb 86 4 = some 90 := mw_rmE rfl rfl (by decide +kernel)
theorem r_86_5 {hp : Nat → Nat} {sb : Nat} : mw_rm0 hp sb 86 5 = some 91 := mw_rmE rfl rfl (by decide +kernel)
theorem r_86_8 {hp : Nat → Nat} {sb : Nat} : mw_rm0 hp sb 86 8 = some 92 := mw_rmE rfl rfl (by decide +kernel)
theorem r_86_9 {hp : Nat → Nat} {sb : Nat} : mw_rm0 hp sb 86 9 = some 93 := mw_rmE rfl rfl (by decide +kernel)
theorem r_86_10 {hp : Nat → Nat} {sb : Nat} : mw_rm0 hp sb 86 10 = some 94 := mw_rmE rfl rfl (by decide +kernel)
theorem r_95_2 {hp : Nat → Nat} {sb : Nat} : mw_rm0 hp sb 95 2 = some 96 := mw_rmE rfl rfl (by decide +kernel)
theorem r_95_3 {hp : Nat → Nat} {sb : Nat} : mw_rm0 hp sb 95 3 = some 97 := mw_rmE rfl rfl (by decide +kernel)
theorem r_95_4 {hp : Nat → Nat} {sb : Nat} : mw_rm0 hp sb 95 4 = some 98 := mw_rmE rfl rfl (by decide +kernel)
theorem r_95_5 {hp : Nat → Nat} {sb : Nat} : mw_rm0 hp sb 95 5 = some 99 := mw_rmE rfl rfl (by decide +kernel)
theorem r_95_6 {hp : Nat → Nat} {sb : Nat} : mw_rm0 hp sb 95 6 = some 100 := mw_rmE rfl rfl (by decide +kernel)
theorem r_95_7 {hp : Nat → Nat} {sb : Nat} : mw_rm0 hp sb 95 7 = some 101 := mw_rmE rfl rfl (by decide +kernel)
theorem r_95_8 {hp : Nat → Nat} {sb : Nat} : mw_rm0 hp sb 95 8 = some 102 := mw_rmE rfl rfl (by decide +kernel)
theorem r_103_1 {hp : Nat → Nat} {sb : Nat} : mw_rm0 hp sb 103 1 = some 104 := mw_rmE rfl rfl (by decide +kernel)
theorem r_105_0 {hp : Nat → Nat} {sb : Nat} : mw_rm0 hp sb 105 0 = some 106 := mw_rmE rfl rfl (by decide +kernel)
theorem r_105_1 {hp : Nat → Nat} {sb : Nat} : mw_rm0 hp sb 105 1 = some 112 := mw_rmE rfl rfl (by decide +kernel)
theorem r_105_2 {hp : Nat → Nat} {sb : Nat} : mw_rm0 hp sb 105 2 = some 121 := mw_rmE rfl rfl (by decide +kernel)
theorem r_106_2 {hp : Nat → Nat} {sb : Nat} : mw_rm0 hp sb 106 2 = some 107 := mw_rmE rfl rfl (by decide +kernel)
theorem r_106_3 {hp : Nat → Nat} {sb : Nat} : mw_rm0 hp sb 106 3 = some 108 := mw_rmE rfl rfl (by decide +kernel)
theorem r_106_4 {hp : Nat → Nat} {sb : Nat} : mw_rm0 hp sb 106 4 = some 109 := mw_rmE rfl rfl (by decide +kernel)
theorem r_106_5 {hp : Nat → Nat} {sb : Nat} : mw_rm0 hp sb 106 5 = some 110 := mw_rmE rfl rfl (by decide +kernel)
theorem r_106_6 {hp : Nat → Nat} {sb : Nat} : mw_rm0 hp sb 106 6 = some 111 := mw_rmE rfl rfl (by decide +kernel)
theorem r_112_1 {hp : Nat → Nat} {sb : Nat} : mw_rm0 hp sb 112 1 = some 113 := mw_rmE rfl rfl (by decide +kernel)
theorem r_112_2 {hp : Nat → Nat} {sb : Nat} : mw_rm0 hp sb 112 2 = some 114 := mw_rmE rfl rfl (by decide +kernel)
theorem r_112_3 {hp : Nat → Nat} {sb : Nat} : mw_rm0 hp sb 112 3 = some 115 := mw_rmE rfl rfl (by decide +kernel)
theorem r_112_4 {hp : Nat → Nat} {sb : Nat} : mw_rm0 hp sb 112 4 = some 116 := mw_rmE rfl rfl (by decide +kernel)
theorem r_112_5 {hp : Nat → Nat} {sb : Nat} : mw_rm0 hp sb 112 5 = some 117 := mw_rmE rfl rfl (by decide +kernel)
theorem r_112_8 {hp : Nat → Nat} {sb : Nat} : mw_rm0 hp sb 112 8 = some 118 := mw_rmE rfl rfl (by decide +kernel)
theorem r_112_9 {hp : Nat → Nat} {sb : Nat} : mw_rm0 hp sb 112 9 = some 119 := mw_rmE rfl rfl (by decide +kernel)
theorem r_112_10 {hp : Nat → Nat} {sb : Nat} : mw_rm0 hp sb 112 10 = some 120 := mw_rmE rfl rfl (by decide +kernel)
theorem r_121_2 {hp : Nat → Nat} {sb : Nat} : mw_rm0 hp sb 121 2 = some 122 := mw_rmE rfl rfl (by decide +kernel)
theorem r_121_3 {hp : Nat → Nat} {sb : Nat} : mw_rm0 hp sb 121 3 = some 123 := mw_rmE rfl rfl (by decide +kernel)
theorem r_121_4 {hp : Nat → Nat} {sb : Nat} : mw_rm0 hp sb 121 4 = some 124 := mw_rmE rfl rfl (by decide +kernel)
theorem r_121_5 {hp : Nat → Nat} {sb : Nat} : mw_rm0 hp sb 121 5 = some 125 := mw_rmE rfl rfl (by decide +kernel)
theorem r_121_6 {hp : Nat → Nat} {sb : Nat} : mw_rm0 hp sb 121 6 = some 126 := mw_rmE rfl rfl (by decide +kernel)
theorem r_121_7 {hp : Nat → Nat} {sb : Nat} : mw_rm0 hp sb 121 7 = some 127 := mw_rmE rfl rfl (by decide +kernel)
theorem r_121_8 {hp : Nat → Nat} {sb : Nat} : mw_rm0 hp sb 121 8 = some 128 := mw_rmE rfl rfl (by decide +kernel)
theorem r_129_0 {hp : Nat → Nat} {sb : Nat} : mw_rm0 hp sb 129 0 = some 130 := mw_rmE rfl rfl (by decide +kernel)
theorem r_129_1 {hp : Nat → Nat} {sb : Nat} : mw_rm0 hp sb 129 1 = some 136 := mw_rmE rfl rfl (by decide +kernel)
theorem r_129_2 {hp : Nat → Nat} {sb : Nat} : mw_rm0 hp sb 129 2 = some 145 := mw_rmE rfl rfl (by decide +kernel)
theorem r_130_2 {hp : Nat → Nat} {sb : Nat} : mw_rm0 hp sb 130 2 = some 131 := mw_rmE rfl rfl (by decide +kernel)
theorem r_130_3 {hp : Nat → Nat} {sb : Nat} : mw_rm0 hp sb 130 3 = some 132 := mw_rmE rfl rfl (by decide +kernel)
theorem r_130_4 {hp : Nat → Nat} {sb : Nat} : mw_rm0 hp sb 130 4 = some 133 := mw_rmE rfl rfl (by decide +kernel)
theorem r_130_5 {hp : Nat → Nat} {sb : Nat} : mw_rm0 hp sb 130 5 = some 134 := mw_rmE rfl rfl (by decide +kernel)
theorem r_130_6 {hp : Nat → Nat} {sb : Nat} : mw_rm0 hp sb 130 6 = some 135 := mw_rmE rfl rfl (by decide +kernel)
theorem r_136_1 {hp : Nat → Nat} {sb : Nat} : mw_rm0 hp sb 136 1 = some 137 := mw_rmE rfl rfl (by decide +kernel)
theorem r_136_2 {hp : Nat → Nat} {sb : Nat} : mw_rm0 hp sb 136 2 = some 138 := mw_rmE rfl rfl (by decide +kernel)
theorem r_136_3 {hp : Nat → Nat} {sb : Nat} : mw_rm0 hp sb 136 3 = some 139 := mw_rmE rfl rfl (by decide +kernel)
theorem r_136_4 {hp : Nat → Nat} {sb : Nat} : mw_rm0 hp sb 136 4 = some 140 := mw_rmE rfl rfl (by decide +kernel)
theorem r_136_5 {hp : Nat → Nat} {sb : Nat} : mw_rm0 hp sb 136 5 = some 141 := mw_rmE rfl rfl (by decide +kernel)
theorem r_136_8 {hp : Nat → Nat} {sb : Nat} : mw_rm0 hp sb 136 8 = some 142 := mw_rmE rfl rfl (by decide +kernel)
theorem r_136_9 {hp : Nat → Nat} {sb : Nat} : mw_rm0 hp sb 136 9 = some 143 := mw_rmE rfl rfl (by decide +kernel)
theorem r_136_10 {hp : Nat → Nat} {sb : Nat} : mw_rm0 hp sb 136 10 = some 144 := mw_rmE rfl rfl (by decide +kernel)
theorem r_145_2 {hp : Nat → Nat} {sb : Nat} : mw_rm0 hp sb 145 2 = some 146 := mw_rmE rfl rfl (by decide +kernel)
theorem r_145_3 {hp : Nat → Nat} {sb : Nat} : mw_rm0 hp sb 145 3 = some 147 := mw_rmE rfl rfl (by decide +kernel)
theorem r_145_4 {hp : Nat → Nat} {sb : Nat} : mw_rm0 hp sb 145 4 = some 148 := mw_rmE rfl rfl (by decide +kernel)
theorem r_145_5 {hp : Nat → Nat} {sb : Nat} : mw_rm0 hp sb 145 5 = some 149 := mw_rmE rfl rfl (by decide +kernel)
theorem r_145_6 {hp : Nat → Nat} {sb : Nat} : mw_rm0 hp sb 145 6 = some 150 := mw_rmE rfl rfl (by decide +kernel)
theorem r_145_7 {hp : Nat → Nat} {sb : Nat} : mw_rm0 hp sb 145 7 = some 151 := mw_rmE rfl rfl (by decide +kernel)
theorem r_145_8 {hp : Nat → Nat} {sb : Nat} : mw_rm0 hp sb 145 8 = some 152 := mw_rmE rfl rfl (by decide +kernel)
theorem r_153_0 {hp : Nat → Nat} {sb : Nat} : mw_rm0 hp sb 153 0 = some 154 := mw_rmE rfl rfl (by decide +kernel)
theorem r_153_1 {hp : Nat → Nat} {sb : Nat} : mw_rm0 hp sb 153 1 = some 160 := mw_rmE rfl rfl (by decide +kernel)
theorem r_153_2 {hp : Nat → Nat} {sb : Nat} : mw_rm0 hp sb 153 2 = some 169 := mw_rmE rfl rfl (by decide +kernel)
theorem r_154_2 {hp : Nat → Nat} {sb : Nat} : mw_rm0 hp sb 154 2 = some 155 := mw_rmE rfl rfl (by decide +kernel)
theorem r_154_3 {hp : Nat → Nat} {sb : Nat} : mw_rm0 hp sb 154 3 = some 156 := mw_rmE rfl rfl (by decide +kernel)
theorem r_154_4 {hp : Nat → Nat} {sb : Nat} : mw_rm0 hp sb 154 4 = some 157 := mw_rmE rfl rfl (by decide +kernel)
theorem r_154_5 {hp : Nat → Nat} {sb : Nat} : mw_rm0 hp sb 154 5 = some 158 := mw_rmE rfl rfl (by decide +kernel)
theorem r_154_6 {hp : Nat → Nat} {sb : Nat} : mw_rm0 hp sb 154 6 = some 159 := mw_rmE rfl rfl (by decide +kernel)
theorem r_160_1 {hp : Nat → Nat} {sb : Nat} : mw_rm0 hp sb 160 1 = some 161 := mw_rmE rfl rfl (by decide +kernel)
theorem r_160_2 {hp : Nat → Nat} {sb : Nat} : mw_rm0 hp sb 160 2 = some 162 := mw_rmE rfl rfl (by decide +kernel)
theorem r_160_3 {hp : Nat → Nat} {sb : Nat} : mw_rm0 hp sb 160 3 = some 163 := mw_rmE rfl rfl (by decide +kernel)
theorem r_160_4 {hp : Nat → Nat} {sb : Nat} : mw_rm0 hp sb 160 4 = some 164 := mw_rmE rfl rfl (by decide +kernel)
theorem r_160_5 {hp : Nat → Nat} {sb : Nat} : mw_rm0 hp sb 160 5 = some 165 := mw_rmE rfl rfl (by decide +kernel)
theorem r_160_8 {hp : Nat → Nat} {sb : Nat} : mw_rm0 hp sb 160 8 = some 166 := mw_rmE rfl rfl (by decide +kernel)
theorem r_160_9 {hp : Nat → Nat} {sb : Nat} : mw_rm0 hp sb 160 9 = some 167 := mw_rmE rfl rfl (by decide +kernel)
theorem r_160_10 {hp : Nat → Nat} {sb : Nat} : mw_rm0 hp sb 160 10 = some 168 := mw_rmE rfl rfl (by decide +kernel)
theorem r_169_2 {hp : Nat → Nat} {sb : Nat} : mw_rm0 hp sb 169 2 = some 170 := mw_rmE rfl rfl (by decide +kernel)
theorem r_169_3 {hp : Nat → Nat} {sb : Nat} : mw_rm0 hp sb 169 3 = some 171 := mw_rmE rfl rfl (by decide +kernel)
theorem r_169_4 {hp : Nat → Nat} {sb : Nat} : mw_rm0 hp sb 169 4 = some 172 := mw_rmE rfl rfl (by decide +kernel)
theorem r_169_5 {hp : Nat → Nat} {sb : Nat} : mw_rm0 hp sb 169 5 = some 173 := mw_rmE rfl rfl (by decide +kernel)
theorem r_169_6 {hp : Nat → Nat} {sb : Nat} : mw_rm0 hp sb 169 6 = some 174 := mw_rmE rfl rfl (by decide +kernel)
theorem r_169_7 {hp : Nat → Nat} {sb : Nat} : mw_rm0 hp sb 169 7 = some 175 := mw_rmE rfl rfl (by decide +kernel)
theorem r_169_8 {hp : Nat → Nat} {sb : Nat} : mw_rm0 hp sb 169 8 = some 176 := mw_rmE rfl rfl (by decide +kernel)
theorem r_177_0 {hp : Nat → Nat} {sb : Nat} : mw_rm0 hp sb 177 0 = some 178 := mw_rmE rfl rfl (by decide +kernel)
theorem r_177_1 {hp : Nat → Nat} {sb : Nat} : mw_rm0 hp sb 177 1 = some 184 := mw_rmE rfl rfl (by decide +kernel)
theorem r_177_2 {hp : Nat → Nat} {sb : Nat} : mw_rm0 hp sb 177 2 = some 193 := mw_rmE rfl rfl (by decide +kernel)
theorem r_178_2 {hp : Nat → Nat} {sb : Nat} : mw_rm0 hp sb 178 2 = some 179 := mw_rmE rfl rfl (by decide +kernel)
theorem r_178_3 {hp : Nat → Nat} {sb : Nat} : mw_rm0 hp sb 178 3 = some 180 := mw_rmE rfl rfl (by decide +kernel)
theorem r_178_4 {hp : Nat → Nat} {sb : Nat} : mw_rm0 hp sb 178 4 = some 181 := mw_rmE rfl rfl (by decide +kernel)
theorem r_178_5 {hp : Nat → Nat} {sb : Nat} : mw_rm0 hp sb 178 5 = some 182 := mw_rmE rfl rfl (by decide +kernel)
theorem r_178_6 {hp : Nat → Nat} {sb : Nat} : mw_rm0 hp sb 178 6 = some 183 := mw_rmE rfl rfl (by decide +kernel)
theorem r_184_1 {hp : Nat → Nat} {sb : Nat} : mw_rm0 hp sb 184 1 = some 185 := mw_rmE rfl rfl (by decide +kernel)
theorem r_184_2 {hp : Nat → Nat} {sb : Nat} : mw_rm0 hp sb 184 2 = some 186 := mw_rmE rfl rfl (by decide +kernel)
theorem r_184_3 {hp : Nat → Nat} {sb : Nat} : mw_rm0 hp sb 184 3 = some 187 := mw_rmE rfl rfl (by decide +kernel)
theorem r_184_4 {hp : Nat → Nat} {sb : Nat} : mw_rm0 hp sb 184 4 = some 188 := mw_rmE rfl rfl (by decide +kernel)
theorem r_184_5 {hp : Nat → Nat} {sb : Nat} : mw_rm0 hp sb 184 5 = some 189 := mw_rmE rfl rfl (by decide +kernel)
theorem r_184_8 {hp : Nat → Nat} {sb : Nat} : mw_rm0 hp sb 184 8 = some 190 := mw_rmE rfl rfl (by decide +kernel)
theorem r_184_9 {hp : Nat → Nat} {sb : Nat} : mw_rm0 hp sb 184 9 = some 191 := mw_rmE rfl rfl (by decide +kernel)
theorem r_184_10 {hp : Nat → Nat} {sb : Nat} : mw_rm0 hp sb 184 10 = some 192 := mw_rmE rfl rfl (by decide +kernel)
theorem r_193_2 {hp : Nat → Nat} {sb : Nat} : mw_rm0 hp sb 193 2 = some 194 := mw_rmE rfl rfl (by decide +kernel)
theorem r_193_3 {hp : Nat → Nat} {sb : Nat} : mw_rm0 hp sb 193 3 = some 195 := mw_rmE rfl rfl (by decide +kernel)
theorem r_193_4 {hp : Nat → Nat} {sb : Nat} : mw_rm0 hp sb 193 4 = some 196 := mw_rmE rfl rfl (by decide +kernel)
theorem r_193_5 {hp : Nat → Nat} {sb : Nat} : mw_rm0 hp sb 193 5 = some 197 := mw_rmE rfl rfl (by decide +kernel)
theorem r_193_6 {hp : Nat → Nat} {sb : Nat} : mw_rm0 hp sb 193 6 = some 198 := mw_rmE rfl rfl (by decide +kernel)
theorem r_193_7 {hp : Nat → Nat} {sb : Nat} : mw_rm0 hp sb 193 7 = some 199 := mw_rmE rfl rfl (by decide +kernel)
theorem r_193_8 {hp : Nat → Nat} {sb : Nat} : mw_rm0 hp sb 193 8 = some 200 := mw_rmE rfl rfl (by decide +kernel)
theorem r_201_0 {hp : Nat → Nat} {sb : Nat} : mw_rm0 hp sb 201 0 = some 202 := mw_rmE rfl rfl (by decide +kernel)
theorem r_201_1 {hp : Nat → Nat} {sb : Nat} : mw_rm0 hp sb 201 1 = some 208 := mw_rmE rfl rfl (by decide +kernel)
theorem r_201_2 {hp : Nat → Nat} {sb : Nat} : mw_rm0 hp sb 201 2 = some 217 := mw_rmE rfl rfl (by decide +kernel)
theorem r_202_2 {hp : Nat → Nat} {sb : Nat} : mw_rm0 hp sb 202 2 = some 203 := mw_rmE rfl rfl (by decide +kernel)
theorem r_202_3 {hp : Nat → Nat} {sb : Nat} : mw_rm0 hp sb 202 3 = some 204 := mw_rmE rfl rfl (by decide +kernel)
theorem r_202_4 {hp : Nat → Nat} {sb : Nat} : mw_rm0 hp sb 202 4 = some 205 := mw_rmE rfl rfl (by decide +kernel)
theorem r_202_5 {hp : Nat → Nat} {sb : Nat} : mw_rm0 hp sb 202 5 = some 206 := mw_rmE rfl rfl (by decide +kernel)
theorem r_202_6 {hp : Nat → Nat} {sb : Nat} : mw_rm0 hp sb 202 6 = some 207 := mw_rmE rfl rfl (by decide +kernel)
theorem r_208_1 {hp : Nat → Nat} {sb : Nat} : mw_rm0 hp sb 208 1 = some 209 := mw_rmE rfl rfl (by decide +kernel)
theorem r_208_2 {hp : Nat → Nat} {sb : Nat} : mw_rm0 hp sb 208 2 = some 210 := mw_rmE rfl rfl (by decide +kernel)
theorem r_208_3 {hp : Nat → Nat} {sb : Nat} : mw_rm0 hp sb 208 3 = some 211 := mw_rmE rfl rfl (by decide +kernel)
theorem r_208_4 {hp : Nat → Nat} {sb : Nat} : mw_rm0 hp sb 208 4 = some 212 := mw_rmE rfl rfl (by decide +kernel)
theorem r_208_5 {hp : Nat → Nat} {sb : Nat} : mw_rm0 hp sb 208 5 = some 213 := mw_rmE rfl rfl (by decide +kernel)
theorem r_208_8 {hp : Nat → Nat} {sb : Nat} : mw_rm0 hp sb 208 8 = some 214 := mw_rmE rfl rfl (by decide +kernel)
theorem r_208_9 {hp : Nat → Nat} {sb : Nat} : mw_rm0 hp sb 208 9 = some 215 := mw_rmE rfl rfl (by decide +kernel)
theorem r_208_10 {hp : Nat → Nat} {sb : Nat} : mw_rm0 hp sb 208 10 = some 216 := mw_rmE rfl rfl (by decide +kernel)
theorem r_217_2 {hp : Nat → Nat} {sb : Nat} : mw_rm0 hp sb 217 2 = some 218 := mw_rmE rfl rfl (by decide +kernel)
theorem r_217_3 {hp : Nat → Nat} {sb : Nat} : mw_rm0 hp sb 217 3 = some 219 := mw_rmE rfl rfl (by decide +kernel)
theorem r_217_4 {hp : Nat → Nat} {sb : Nat} : mw_rm0 hp sb 217 4 = some 220 := mw_rmE rfl rfl (by decide +kernel)
theorem r_217_5 {hp : Nat → Nat} {sb : Nat} : mw_rm0 hp sb 217 5 = some 221 := mw_rmE rfl rfl (by decide +kernel)
theorem r_217_6 {hp : Nat → Nat} {sb : Nat} : mw_rm0 hp sb 217 6 = some 222 := mw_rmE rfl rfl (by decide +kernel)
theorem r_217_7 {hp : Nat → Nat} {sb : Nat} : mw_rm0 hp sb 217 7 = some 223 := mw_rmE rfl rfl (by decide +kernel)
theorem r_217_8 {hp : Nat → Nat} {sb : Nat} : mw_rm0 hp sb 217 8 = some 224 := mw_rmE rfl rfl (by decide +kernel)
theorem r_225_0 {hp : Nat → Nat} {sb : Nat} : mw_rm0 hp sb 225 0 = some 226 := mw_rmE rfl rfl (by decide +kernel)
theorem r_225_1 {hp : Nat → Nat} {sb : Nat} : mw_rm0 hp sb 225 1 = some 232 := mw_rmE rfl rfl (by decide +kernel)
theorem r_225_2 {hp : Nat → Nat} {sb : Nat} : mw_rm0 hp sb 225 2 = some 241 := mw_rmE rfl rfl (by decide +kernel)
theorem r_226_2 {hp : Nat → Nat} {sb : Nat} : mw_rm0 hp sb 226 2 = some 227 := mw_rmE rfl rfl (by decide +kernel)
theorem r_226_3 {hp : Nat → Nat} {sb : Nat} : mw_rm0 hp sb 226 3 = some 228 := mw_rmE rfl rfl (by decide +kernel)
theorem r_226_4 {hp : Nat → Nat} {sb : Nat} : mw_rm0 hp sb 226 4 = some 229 := mw_rmE rfl rfl (by decide +kernel)
theorem r_226_5 {hp : Nat → Nat} {sb : Nat} : mw_rm0 hp sb 226 5 = some 230 := mw_rmE rfl rfl (by decide +kernel)
theorem r_226_6 {hp : Nat → Nat} {sb : Nat} : mw_rm0 hp sb 226 6 = some 231 := mw_rmE rfl rfl (by decide +kernel)
theorem r_232_1 {hp : Nat → Nat} {sb : Nat} : mw_rm0 hp sb 232 1 = some 233 := mw_rmE rfl rfl (by decide +kernel)
theorem r_232_2 {hp : Nat → Nat} {sb : Nat} : mw_rm0 hp sb 232 2 = some 234 := mw_rmE rfl rfl (by decide +kernel)
theorem r_232_3 {hp : Nat → Nat} {sb : Nat} : mw_rm0 hp sb 232 3 = some 235 := mw_rmE rfl rfl (by decide +kernel)
theorem r_232_4 {hp : Nat → Nat} {sb : Nat} : mw_rm0 hp sb 232 4 = some 236 := mw_rmE rfl rfl (by decide +kernel)
theorem r_232_5 {hp : Nat → Nat} {sb : Nat} : mw_rm0 hp sb 232 5 = some 237 := mw_rmE rfl rfl (by decide +kernel)
theorem r_232_8 {hp : Nat → Nat} {sb : Nat} : mw_rm0 hp sb 232 8 = some 238 := mw_rmE rfl rfl (by decide +kernel)
theorem r_232_9 {hp : Nat → Nat} {sb : Nat} : mw_rm0 hp sb 232 9 = some 239 := mw_rmE rfl rfl (by decide +kernel)
theorem r_232_10 {hp : Nat → Nat} {sb : Nat} : mw_rm0 hp sb 232 10 = some 240 := mw_rmE rfl rfl (by decide +kernel)
theorem r_241_2 {hp : Nat → Nat} {sb : Nat} : mw_rm0 hp sb 241 2 = some 242 := mw_rmE rfl rfl (by decide +kernel)
theorem r_241_3 {hp : Nat → Nat} {sb : Nat} : mw_rm0 hp sb 241 3 = some 243 := mw_rmE rfl rfl (by decide +kernel)
theorem r_241_4 {hp : Nat → Nat} {sb : Nat} : mw_rm0 hp sb 241 4 = some 244 := mw_rmE rfl rfl (by decide +kernel)
theorem r_241_5 {hp : Nat → Nat} {sb : Nat} : mw_rm0 hp sb 241 5 = some 245 := mw_rmE rfl rfl (by decide +kernel)
theorem r_241_6 {hp : Nat → Nat} {sb : Nat} : mw_rm0 hp sb 241 6 = some 246 := mw_rmE rfl rfl (by decide +kernel)
theorem r_241_7 {hp : Nat → Nat} {sb : Nat} : mw_rm0 hp sb 241 7 = some 247 := mw_rmE rfl rfl (by decide +kernel)
theorem r_241_8 {hp : Nat → Nat} {sb : Nat} : mw_rm0 hp sb 241 8 = some 248 := mw_rmE rfl rfl (by decide +kernel)
theorem r_249_0 {hp : Nat → Nat} {sb : Nat} : mw_rm0 hp sb 249 0 = some 250 := mw_rmE rfl rfl (by decide +kernel)
theorem r_249_1 {hp : Nat → Nat} {sb : Nat} : mw_rm0 hp sb 249 1 = some 256 := mw_rmE rfl rfl (by decide +kernel)
theorem r_249_2 {hp : Nat → Nat} {sb : Nat} : mw_rm0 hp sb 249 2 = some 265 := mw_rmE rfl rfl (by decide +kernel)
theorem r_250_2 {hp : Nat → Nat} {sb : Nat} : mw_rm0 hp sb 250 2 = some 251 := mw_rmE rfl rfl (by decide +kernel)
theorem r_250_3 {hp : Nat → Nat} {sb : Nat} : mw_rm0 hp sb 250 3 = some 252 := mw_rmE rfl rfl (by decide +kernel)
theorem r_250_4 {hp : Nat → Nat} {sb : Nat} : mw_rm0 hp sb 250 4 = some 253 := mw_rmE rfl rfl (by decide +kernel)
theorem r_250_5 {hp : Nat → Nat} {sb : Nat} : mw_rm0 hp sb 250 5 = some 254 := mw_rmE rfl rfl (by decide +kernel)
theorem r_250_6 {hp : Nat → Nat} {sb : Nat} : mw_rm0 hp sb 250 6 = some 255 := mw_rmE rfl rfl (by decide +kernel)
theorem r_256_1 {hp : Nat → Nat} {sb : Nat} : mw_rm0 hp sb 256 1 = some 257 := mw_rmE rfl rfl (by decide +kernel)
theorem r_256_2 {hp : Nat → Nat} {sb : Nat} : mw_rm0 hp sb 256 2 = some 258 := mw_rmE rfl rfl (by decide +kernel)
theorem r_256_3 {hp : Nat → Nat} {sb : Nat} : mw_rm0 hp sb 256 3 = some 259 := mw_rmE rfl rfl (by decide +kernel)
theorem r_256_4 {hp : Nat → Nat} {sb : Nat} : mw_rm0 hp sb 256 4 = some 260 := mw_rmE rfl rfl (by decide +kernel)
theorem r_256_5 {hp : Nat → Nat} {sb : Nat} : mw_rm0 hp sb 256 5 = some 261 := mw_rmE rfl rfl (by decide +kernel)
theorem r_256_8 {hp : Nat → Nat} {sb : Nat} : mw_rm0 hp sb 256 8 = some 262 := mw_rmE rfl rfl (by decide +kernel)
theorem r_256_9 {hp : Nat → Nat} {sb : Nat} : mw_rm0 hp sb 256 9 = some 263 := mw_rmE rfl rfl (by decide +kernel)
theorem r_256_10 {hp : Nat → Nat} {sb : Nat} : mw_rm0 hp sb 256 10 = some 264 := mw_rmE rfl rfl (by decide +kernel)
theorem r_265_2 {hp : Nat → Nat} {sb : Nat} : mw_rm0 hp sb 265 2 = some 266 := mw_rmE rfl rfl (by decide +kernel)
theorem r_265_3 {hp : Nat → Nat} {sb : Nat} : mw_rm0 hp sb 265 3 = some 267 := mw_rmE rfl rfl (by decide +kernel)
theorem r_265_4 {hp : Nat → Nat} {sb : Nat} : mw_rm0 hp sb 265 4 = some 268 := mw_rmE rfl rfl (by decide +kernel)
theorem r_265_5 {hp : Nat → Nat} {sb : Nat} : mw_rm0 hp sb 265 5 = some 269 := mw_rmE rfl rfl (by decide +kernel)
theorem r_265_6 {hp : Nat → Nat} {sb : Nat} : mw_rm0 hp sb 265 6 = some 270 := mw_rmE rfl rfl (by decide +kernel)
theorem r_265_7 {hp : Nat → Nat} {sb : Nat} : mw_rm0 hp sb 265 7 = some 271 := mw_rmE rfl rfl (by decide +kernel)
theorem r_265_8 {hp : Nat → Nat} {sb : Nat} : mw_rm0 hp sb 265 8 = some 272 := mw_rmE rfl rfl (by decide +kernel)
theorem r_273_0 {hp : Nat → Nat} {sb : Nat} : mw_rm0 hp sb 273 0 = some 274 := mw_rmE rfl rfl (by decide +kernel)
theorem r_273_1 {hp : Nat → Nat} {sb : Nat} : mw_rm0 hp sb 273 1 = some 280 := mw_rmE rfl rfl (by decide +kernel)
theorem r_273_2 {hp : Nat → Nat} {sb : Nat} : mw_rm0 hp sb 273 2 = some 289 := mw_rmE rfl rfl (by decide +kernel)
theorem r_274_2 {hp : Nat → Nat} {sb : Nat} : mw_rm0 hp sb 274 2 = some 275 := mw_rmE rfl rfl (by decide +kernel)
theorem r_274_3 {hp : Nat → Nat} {sb : Nat} : mw_rm0 hp sb 274 3 = some 276 := mw_rmE rfl rfl (by decide +kernel)
theorem r_274_4 {hp : Nat → Nat} {sb : Nat} : mw_rm0 hp sb 274 4 = some 277 := mw_rmE rfl rfl (by decide +kernel)
theorem r_274_5 {hp : Nat → Nat} {sb : Nat} : mw_rm0 hp sb 274 5 = some 278 := mw_rmE rfl rfl (by decide +kernel)
theorem r_274_6 {hp : Nat → Nat} {sb : Nat} : mw_rm0 hp sb 274 6 = some 279 := mw_rmE rfl rfl (by decide +kernel)
theorem r_280_1 {hp : Nat → Nat} {sb : Nat} : mw_rm0 hp sb 280 1 = some 281 := mw_rmE rfl rfl (by decide +kernel)
theorem r_280_2 {hp : Nat → Nat} {sb : Nat} : mw_rm0 hp sb 280 2 = some 282 := mw_rmE rfl rfl (by decide +kernel)
theorem r_280_3 {hp : Nat → Nat} {sb : Nat} : mw_rm0 hp sb 280 3 = some 283 := mw_rmE rfl rfl (by decide +kernel)
theorem r_280_4 {hp : Nat → Nat} {sb : Nat} : mw_rm0 hp sb 280 4 = some 284 := mw_rmE rfl rfl (by decide +kernel)
theorem r_280_5 {hp : Nat → Nat} {sb : Nat} : mw_rm0 hp sb 280 5 = some 285 := mw_rmE rfl rfl (by decide +kernel)
theorem r_280_8 {hp : Nat → Nat} {sb : Nat} : mw_rm0 hp sb 280 8 = some 286 := mw_rmE rfl rfl (by decide +kernel)
theorem r_280_9 {hp : Nat → Nat} {sb : Nat} : mw_rm0 hp sb 280 9 = some 287 := mw_rmE rfl rfl (by decide +kernel)
theorem r_280_10 {hp : Nat → Nat} {sb : Nat} : mw_rm0 hp sb 280 10 = some 288 := mw_rmE rfl rfl (by decide +kernel)
theorem r_289_2 {hp : Nat → Nat} {sb : Nat} : mw_rm0 hp sb 289 2 = some 290 := mw_rmE rfl rfl (by decide +kernel)
theorem r_289_3 {hp : Nat → Nat} {sb : Nat} : mw_rm0 hp sb 289 3 = some 291 := mw_rmE rfl rfl (by decide +kernel)
theorem r_289_4 {hp : Nat → Nat} {sb : Nat} : mw_rm0 hp sb 289 4 = some 292 := mw_rmE rfl rfl (by decide +kernel)
theorem r_289_5 {hp : Nat → Nat} {sb : Nat} : mw_rm0 hp sb 289 5 = some 293 := mw_rmE rfl rfl (by decide +kernel)
theorem r_289_6 {hp : Nat → Nat} {sb : Nat} : mw_rm0 hp sb 289 6 = some 294 := mw_rmE rfl rfl (by decide +kernel)
theorem r_289_7 {hp : Nat → Nat} {sb : Nat} : mw_rm0 hp sb 289 7 = some 295 := mw_rmE rfl rfl (by decide +kernel)
theorem r_289_8 {hp : Nat → Nat} {sb : Nat} : mw_rm0 hp sb 289 8 = some 296 := mw_rmE rfl rfl (by decide +kernel)
theorem r_297_2 {hp : Nat → Nat} {sb : Nat} : mw_rm0 hp sb 297 2 = some 298 := mw_rmE rfl rfl (by decide +kernel)
theorem r_297_3 {hp : Nat → Nat} {sb : Nat} : mw_rm0 hp sb 297 3 = some 299 := mw_rmE rfl rfl (by decide +kernel)
theorem r_297_4 {hp : Nat → Nat} {sb : Nat} : mw_rm0 hp sb 297 4 = some 300 := mw_rmE rfl rfl (by decide +kernel)
