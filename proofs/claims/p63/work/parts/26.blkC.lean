/-! 26.blkC: blocks of methods, by program-/
section
variable {sc : Nat × (Nat → Int32)} {D : Nat} {J L : Nat → Int → Int} {W : nw_W} {c sl : Nat} {Qr : nw_QR} {Qx : nw_QX}
theorem b_X0_beginPassage_0 {x1 : Int} {x2 : Int} (hD : 3 ≤ D) (h : ((x1 < 0 → Qr (some (.inl (-1))) (J, L, W)) ∧ (0 ≤ x1 → ((J 9 0 ≤ x1 → Qr (some (.inl (-1))) (J, L, W)) ∧ (x1 < J 9 0 → ((x2 < 0 → Qr (some (.inl (-1))) (J, L, W)) ∧ (0 ≤ x2 → ((J 3 0 ≤ x2 → Qr (some (.inl (-1))) (J, L, W)) ∧ (x2 < J 3 0 → ((0 ≤ x1 ∧ x1 < 3) ∧ ((J 11 x1 = (-1) → NW sc d_X9_findChannel 1 (0, [some (.inr (.inl (some 3))), some (.inl (J 10 x1)), some (.inl x2), none], [], (J, L, W), 0, 0) (fun v M9 => NW sc d_X0_beginPassage D (55, [some (.inr (.inl (some 1))), some (.inl x1), some (.inl x2), none], nw_push v [], M9, c, sl) Qr Qx) Qx) ∧ (¬ J 11 x1 = (-1) → Qr (some (.inl (-3))) (J, L, W))))))))))))) :
    NW sc d_X0_beginPassage D (0, [some (.inr (.inl (some 1))), some (.inl x1), some (.inl x2), none], [], (J, L, W), c, sl) Qr Qx := by
  refine nw_aload_n l_X0_beginPassage_0 1 rfl rfl ?_
  refine nw_getA l_X0_beginPassage_1 4 rfl k_1 r_1_4 ?_
  refine nw_iload_n l_X0_beginPassage_4 5 rfl rfl ?_
  refine nw_call0 0 9 l_X0_beginPassage_5 rfl rfl g_X4_hasFerry (Nat.lt_of_lt_of_le (by decide) hD) rfl (Or.inl ⟨_, rfl, k_9⟩) (ls' := [some (.inr (.inl (some 9))), some (.inl x1)]) rfl (st' := []) rfl 8 rfl ?_
  refine nw_iload_n l_X4_hasFerry_0 1 rfl rfl ?_
  refine nw_if_lt l_X4_hasFerry_1 4 rfl (fun q1 => ?_) (fun q1 => ?_)
  · replace h := h.1 q1
    refine nw_iconst (len := 0) l_X4_hasFerry_16 17 rfl c_0 ?_
    refine nw_ireturnZ l_X4_hasFerry_17 rfl (Or.inl rfl) ?_
    refine nw_if_eq l_X0_beginPassage_8 11 rfl (fun _ => ?_) (fun q => absurd q (by decide))
    refine nw_iconst (len := 0) l_X0_beginPassage_22 23 rfl c_n1 ?_
    refine nw_ireturn l_X0_beginPassage_23 rfl ?_
    exact h
  · replace h := h.2 q1
    refine nw_iload_n l_X4_hasFerry_4 5 rfl rfl ?_
    refine nw_aload_n l_X4_hasFerry_5 6 rfl rfl ?_
    refine nw_getI l_X4_hasFerry_6 9 rfl k_9 (v := J 9 0) rfl ?_
    refine nw_ic_ge l_X4_hasFerry_9 12 rfl (fun q2 => ?_) (fun q2 => ?_)
    · replace h := h.1 q2
      refine nw_iconst (len := 0) l_X4_hasFerry_16 17 rfl c_0 ?_
      refine nw_ireturnZ l_X4_hasFerry_17 rfl (Or.inl rfl) ?_
      refine nw_if_eq l_X0_beginPassage_8 11 rfl (fun _ => ?_) (fun q => absurd q (by decide))
      refine nw_iconst (len := 0) l_X0_beginPassage_22 23 rfl c_n1 ?_
      refine nw_ireturn l_X0_beginPassage_23 rfl ?_
      exact h
    · replace h := h.2 q2
      refine nw_iconst (len := 0) l_X4_hasFerry_12 13 rfl c_1 ?_
      refine nw_goto l_X4_hasFerry_13 ?_
      refine nw_ireturnZ l_X4_hasFerry_17 rfl (Or.inr rfl) ?_
      refine nw_if_eq l_X0_beginPassage_8 11 rfl (fun q => absurd q (by decide)) (fun _ => ?_)
      refine nw_aload_n l_X0_beginPassage_11 12 rfl rfl ?_
      refine nw_getA l_X0_beginPassage_12 15 rfl k_1 r_1_3 ?_
      refine nw_iload_n l_X0_beginPassage_15 16 rfl rfl ?_
      refine nw_call0 0 3 l_X0_beginPassage_16 rfl rfl g_X9_hasCrater (Nat.lt_of_lt_of_le (by decide) hD) rfl (Or.inl ⟨_, rfl, k_3⟩) (ls' := [some (.inr (.inl (some 3))), some (.inl x2)]) rfl (st' := []) rfl 19 rfl ?_
      refine nw_iload_n l_X9_hasCrater_0 1 rfl rfl ?_
      refine nw_if_lt l_X9_hasCrater_1 4 rfl (fun q3 => ?_) (fun q3 => ?_)
      · replace h := h.1 q3
        refine nw_iconst (len := 0) l_X9_hasCrater_16 17 rfl c_0 ?_
        refine nw_ireturnZ l_X9_hasCrater_17 rfl (Or.inl rfl) ?_
        refine nw_if_ne l_X0_beginPassage_19 22 rfl (fun q => absurd q (by decide)) (fun _ => ?_)
        refine nw_iconst (len := 0) l_X0_beginPassage_22 23 rfl c_n1 ?_
        refine nw_ireturn l_X0_beginPassage_23 rfl ?_
        exact h
      · replace h := h.2 q3
        refine nw_iload_n l_X9_hasCrater_4 5 rfl rfl ?_
        refine nw_aload_n l_X9_hasCrater_5 6 rfl rfl ?_
        refine nw_getI l_X9_hasCrater_6 9 rfl k_3 (v := J 3 0) rfl ?_
        refine nw_ic_ge l_X9_hasCrater_9 12 rfl (fun q4 => ?_) (fun q4 => ?_)
        · replace h := h.1 q4
          refine nw_iconst (len := 0) l_X9_hasCrater_16 17 rfl c_0 ?_
          refine nw_ireturnZ l_X9_hasCrater_17 rfl (Or.inl rfl) ?_
          refine nw_if_ne l_X0_beginPassage_19 22 rfl (fun q => absurd q (by decide)) (fun _ => ?_)
          refine nw_iconst (len := 0) l_X0_beginPassage_22 23 rfl c_n1 ?_
          refine nw_ireturn l_X0_beginPassage_23 rfl ?_
          exact h
        · replace h := h.2 q4
          refine nw_iconst (len := 0) l_X9_hasCrater_12 13 rfl c_1 ?_
          refine nw_goto l_X9_hasCrater_13 ?_
          refine nw_ireturnZ l_X9_hasCrater_17 rfl (Or.inr rfl) ?_
          refine nw_if_ne l_X0_beginPassage_19 22 rfl (fun _ => ?_) (fun q => absurd q (by decide))
          refine nw_aload_n l_X0_beginPassage_24 25 rfl rfl ?_
          refine nw_getA l_X0_beginPassage_25 28 rfl k_1 r_1_4 ?_
          refine nw_iload_n l_X0_beginPassage_28 29 rfl rfl ?_
          refine nw_call0 0 9 l_X0_beginPassage_29 rfl rfl g_X4_underWay (Nat.lt_of_lt_of_le (by decide) hD) rfl (Or.inl ⟨_, rfl, k_9⟩) (ls' := [some (.inr (.inl (some 9))), some (.inl x1)]) rfl (st' := []) rfl 32 rfl ?_
          refine nw_aload_n l_X4_underWay_0 1 rfl rfl ?_
          refine nw_getA l_X4_underWay_1 4 rfl k_9 r_9_2 ?_
          refine nw_iload_n l_X4_underWay_4 5 rfl rfl ?_
          have o5 := h.1
          replace h := h.2
          refine nw_iald l_X4_underWay_5 6 rfl k_11 o5 (v := J 11 x1) rfl ?_
          refine nw_iconst (len := 0) l_X4_underWay_6 7 rfl c_n1 ?_
          refine nw_ic_eq l_X4_underWay_7 10 rfl (fun q6 => ?_) (fun q6 => ?_)
          · replace h := h.1 q6
            refine nw_iconst (len := 0) l_X4_underWay_14 15 rfl c_0 ?_
            refine nw_ireturnZ l_X4_underWay_15 rfl (Or.inl rfl) ?_
            refine nw_if_eq l_X0_beginPassage_32 35 rfl (fun _ => ?_) (fun q => absurd q (by decide))
            refine nw_aload_n l_X0_beginPassage_38 39 rfl rfl ?_
            refine nw_getA l_X0_beginPassage_39 42 rfl k_1 r_1_3 ?_
            refine nw_aload_n l_X0_beginPassage_42 43 rfl rfl ?_
            refine nw_getA l_X0_beginPassage_43 46 rfl k_1 r_1_4 ?_
            refine nw_getA l_X0_beginPassage_46 49 rfl k_9 r_9_1 ?_
            refine nw_iload_n l_X0_beginPassage_49 50 rfl rfl ?_
            refine nw_iald l_X0_beginPassage_50 51 rfl k_10 o5 (v := J 10 x1) rfl ?_
            refine nw_iload_n l_X0_beginPassage_51 52 rfl rfl ?_
            refine nw_call0 1 3 l_X0_beginPassage_52 rfl rfl g_X9_findChannel (Nat.lt_of_lt_of_le (by decide) hD) rfl (Or.inl ⟨_, rfl, k_3⟩) (ls' := [some (.inr (.inl (some 3))), some (.inl (J 10 x1)), some (.inl x2), none]) rfl (st' := []) rfl 55 rfl ?_
            exact h
          · replace h := h.2 q6
            refine nw_iconst (len := 0) l_X4_underWay_10 11 rfl c_1 ?_
            refine nw_goto l_X4_underWay_11 ?_
            refine nw_ireturnZ l_X4_underWay_15 rfl (Or.inr rfl) ?_
            refine nw_if_eq l_X0_beginPassage_32 35 rfl (fun q => absurd q (by decide)) (fun _ => ?_)
            refine nw_bipush (len := 0) l_X0_beginPassage_35 37 rfl c_n3 ?_
            refine nw_ireturn l_X0_beginPassage_37 rfl ?_
            exact h
theorem b_X0_beginPassage_55 {x1 : Int} {x2 : Int} {y0 : Int} (hD : 3 ≤ D) (h : ((¬ y0 = (-1) → NW sc d_X8_aground 2 (0, [some (.inr (.inl (some 2))), some (.inl x1), none], [], (J, L, W), 0, 0) (fun v M9 => NW sc d_X0_beginPassage D (75, [some (.inr (.inl (some 1))), some (.inl x1), some (.inl x2), some (.inl y0)], nw_push v [], M9, c, sl) Qr Qx) Qx) ∧ (y0 = (-1) → Qr (some (.inl (-4))) (nw_u J 1 0 1, L, W)))) :
    NW sc d_X0_beginPassage D (55, [some (.inr (.inl (some 1))), some (.inl x1), some (.inl x2), none], [.inl y0], (J, L, W), c, sl) Qr Qx := by
  refine nw_istore_n l_X0_beginPassage_55 56 rfl rfl (ls' := [some (.inr (.inl (some 1))), some (.inl x1), some (.inl x2), some (.inl y0)]) rfl ?_
  refine nw_iload_n l_X0_beginPassage_56 57 rfl rfl ?_
  refine nw_iconst (len := 0) l_X0_beginPassage_57 58 rfl c_n1 ?_
  refine nw_ic_ne l_X0_beginPassage_58 61 rfl (fun q1 => ?_) (fun q1 => ?_)
  · replace h := h.1 q1
    refine nw_aload_n l_X0_beginPassage_67 68 rfl rfl ?_
    refine nw_getA l_X0_beginPassage_68 71 rfl k_1 r_1_1 ?_
    refine nw_iload_n l_X0_beginPassage_71 72 rfl rfl ?_
    refine nw_call0 2 2 l_X0_beginPassage_72 rfl rfl g_X8_aground (Nat.lt_of_lt_of_le (by decide) hD) rfl (Or.inl ⟨_, rfl, k_2⟩) (ls' := [some (.inr (.inl (some 2))), some (.inl x1), none]) rfl (st' := []) rfl 75 rfl ?_
    exact h
  · replace h := h.2 q1
    refine nw_aload_n l_X0_beginPassage_61 62 rfl rfl ?_
    refine nw_iconst (len := 0) l_X0_beginPassage_62 63 rfl c_1 ?_
    refine nw_call0 0 1 l_X0_beginPassage_63 rfl rfl g_X0_refuse (Nat.lt_of_lt_of_le (by decide) hD) rfl (Or.inl ⟨_, rfl, k_1⟩) (ls' := [some (.inr (.inl (some 1))), some (.inl 1)]) rfl (st' := []) rfl 66 rfl ?_
    refine nw_aload_n l_X0_refuse_0 1 rfl rfl ?_
    refine nw_iload_n l_X0_refuse_1 2 rfl rfl ?_
    refine nw_putI l_X0_refuse_2 5 rfl k_1 ?_
    refine nw_bipush (len := 0) l_X0_refuse_5 7 rfl c_n4 ?_
    refine nw_ireturn l_X0_refuse_7 rfl ?_
    refine nw_ireturn l_X0_beginPassage_66 rfl ?_
    exact h
theorem b_X0_beginPassage_75 {x1 : Int} {x2 : Int} {x3 : Int} {y0 : Int} (hD : 3 ≤ D) (h : ((y0 = 0 → ((0 ≤ x3 ∧ x3 < 10) ∧ NW sc d_X11_tideIn 1 (0, [some (.inl (J 2 3)), none], [], (J, L, W), 0, 0) (fun v M9 => NW sc d_X0_beginPassage D (103, [some (.inr (.inl (some 1))), some (.inl x1), some (.inl x2), some (.inl x3)], nw_push v [.inl (J 8 x3)], M9, c, sl) Qr Qx) Qx)) ∧ (¬ y0 = 0 → Qr (some (.inl (-4))) (nw_u J 1 0 2, L, W)))) :
    NW sc d_X0_beginPassage D (75, [some (.inr (.inl (some 1))), some (.inl x1), some (.inl x2), some (.inl x3)], [.inl y0], (J, L, W), c, sl) Qr Qx := by
  refine nw_if_eq l_X0_beginPassage_75 78 rfl (fun q1 => ?_) (fun q1 => ?_)
  · replace h := h.1 q1
    refine nw_aload_n l_X0_beginPassage_84 85 rfl rfl ?_
    refine nw_getA l_X0_beginPassage_85 88 rfl k_1 r_1_3 ?_
    refine nw_getA l_X0_beginPassage_88 91 rfl k_3 r_3_6 ?_
    refine nw_iload_n l_X0_beginPassage_91 92 rfl rfl ?_
    have o2 := h.1
    replace h := h.2
    refine nw_iald l_X0_beginPassage_92 93 rfl k_8 o2 (v := J 8 x3) rfl ?_
    refine nw_aload_n l_X0_beginPassage_93 94 rfl rfl ?_
    refine nw_getA l_X0_beginPassage_94 97 rfl k_1 r_1_1 ?_
    refine nw_getI l_X0_beginPassage_97 100 rfl k_2 (v := J 2 3) rfl ?_
    refine nw_call0 1 0 l_X0_beginPassage_100 rfl rfl g_X11_tideIn (Nat.lt_of_lt_of_le (by decide) hD) rfl True.intro (ls' := [some (.inl (J 2 3)), none]) rfl (st' := [.inl (J 8 x3)]) rfl 103 rfl ?_
    exact h
  · replace h := h.2 q1
    refine nw_aload_n l_X0_beginPassage_78 79 rfl rfl ?_
    refine nw_iconst (len := 0) l_X0_beginPassage_79 80 rfl c_2 ?_
    refine nw_call0 0 1 l_X0_beginPassage_80 rfl rfl g_X0_refuse (Nat.lt_of_lt_of_le (by decide) hD) rfl (Or.inl ⟨_, rfl, k_1⟩) (ls' := [some (.inr (.inl (some 1))), some (.inl 2)]) rfl (st' := []) rfl 83 rfl ?_
    refine nw_aload_n l_X0_refuse_0 1 rfl rfl ?_
    refine nw_iload_n l_X0_refuse_1 2 rfl rfl ?_
    refine nw_putI l_X0_refuse_2 5 rfl k_1 ?_
    refine nw_bipush (len := 0) l_X0_refuse_5 7 rfl c_n4 ?_
    refine nw_ireturn l_X0_refuse_7 rfl ?_
    refine nw_ireturn l_X0_beginPassage_83 rfl ?_
    exact h
theorem b_X0_beginPassage_103 {x1 : Int} {x2 : Int} {x3 : Int} {y0 : Int} {y1 : Int} (hD : 3 ≤ D) (h : ((-2147483648 ≤ y1 + y0 ∧ y1 + y0 < 2147483648) ∧ ((0 ≤ x1 ∧ x1 < 3) ∧ ((J 13 x1 ≤ y1 + y0 → ((0 ≤ x3 ∧ x3 < 10) ∧ ((-2147483648 ≤ (J 2 3) + (J 7 x3) ∧ (J 2 3) + (J 7 x3) < 2147483648) ∧ Qr (some (.inl ((J 2 3) + (J 7 x3)))) (nw_u (nw_u J 11 x1 x2) 12 x1 ((J 2 3) + (J 7 x3)), L, W)))) ∧ (y1 + y0 < J 13 x1 → Qr (some (.inl (-4))) (nw_u J 1 0 3, L, W)))))) :
    NW sc d_X0_beginPassage D (103, [some (.inr (.inl (some 1))), some (.inl x1), some (.inl x2), some (.inl x3)], [.inl y0, .inl y1], (J, L, W), c, sl) Qr Qx := by
  have o1 := h.1
  replace h := h.2
  refine nw_iadd l_X0_beginPassage_103 104 rfl o1 ?_
  refine nw_aload_n l_X0_beginPassage_104 105 rfl rfl ?_
  refine nw_getA l_X0_beginPassage_105 108 rfl k_1 r_1_4 ?_
  refine nw_getA l_X0_beginPassage_108 111 rfl k_9 r_9_4 ?_
  refine nw_iload_n l_X0_beginPassage_111 112 rfl rfl ?_
  have o2 := h.1
  replace h := h.2
  refine nw_iald l_X0_beginPassage_112 113 rfl k_13 o2 (v := J 13 x1) rfl ?_
  refine nw_ic_ge l_X0_beginPassage_113 116 rfl (fun q3 => ?_) (fun q3 => ?_)
  · replace h := h.1 q3
    refine nw_aload_n l_X0_beginPassage_122 123 rfl rfl ?_
    refine nw_getA l_X0_beginPassage_123 126 rfl k_1 r_1_4 ?_
    refine nw_getA l_X0_beginPassage_126 129 rfl k_9 r_9_2 ?_
    refine nw_iload_n l_X0_beginPassage_129 130 rfl rfl ?_
    refine nw_iload_n l_X0_beginPassage_130 131 rfl rfl ?_
    refine nw_iast l_X0_beginPassage_131 132 rfl k_11 o2 ?_
    refine nw_aload_n l_X0_beginPassage_132 133 rfl rfl ?_
    refine nw_getA l_X0_beginPassage_133 136 rfl k_1 r_1_4 ?_
    refine nw_getA l_X0_beginPassage_136 139 rfl k_9 r_9_3 ?_
    refine nw_iload_n l_X0_beginPassage_139 140 rfl rfl ?_
    refine nw_aload_n l_X0_beginPassage_140 141 rfl rfl ?_
    refine nw_getA l_X0_beginPassage_141 144 rfl k_1 r_1_1 ?_
    refine nw_getI l_X0_beginPassage_144 147 rfl k_2 (v := J 2 3) (show nw_u J 11 x1 x2 2 3 = J 2 3 from (nw_uN (a := 11) (b := 2) (by decide))) ?_
    refine nw_aload_n l_X0_beginPassage_147 148 rfl rfl ?_
    refine nw_getA l_X0_beginPassage_148 151 rfl k_1 r_1_3 ?_
    refine nw_getA l_X0_beginPassage_151 154 rfl k_3 r_3_5 ?_
    refine nw_iload_n l_X0_beginPassage_154 155 rfl rfl ?_
    have o4 := h.1
    replace h := h.2
    refine nw_iald l_X0_beginPassage_155 156 rfl k_7 o4 (v := J 7 x3) (show nw_u J 11 x1 x2 7 x3 = J 7 x3 from (nw_uN (a := 11) (b := 7) (by decide))) ?_
    have o5 := h.1
    replace h := h.2
    refine nw_iadd l_X0_beginPassage_156 157 rfl o5 ?_
    refine nw_iast l_X0_beginPassage_157 158 rfl k_12 o2 ?_
    refine nw_aload_n l_X0_beginPassage_158 159 rfl rfl ?_
    refine nw_getA l_X0_beginPassage_159 162 rfl k_1 r_1_4 ?_
    refine nw_getA l_X0_beginPassage_162 165 rfl k_9 r_9_3 ?_
    refine nw_iload_n l_X0_beginPassage_165 166 rfl rfl ?_
    refine nw_iald l_X0_beginPassage_166 167 rfl k_12 o2 (v := (J 2 3) + (J 7 x3)) (show nw_u (nw_u J 11 x1 x2) 12 x1 ((J 2 3) + (J 7 x3)) 12 x1 = (J 2 3) + (J 7 x3) from nw_uS) ?_
    refine nw_ireturn l_X0_beginPassage_167 rfl ?_
    exact h
  · replace h := h.2 q3
    refine nw_aload_n l_X0_beginPassage_116 117 rfl rfl ?_
    refine nw_iconst (len := 0) l_X0_beginPassage_117 118 rfl c_3 ?_
    refine nw_call0 0 1 l_X0_beginPassage_118 rfl rfl g_X0_refuse (Nat.lt_of_lt_of_le (by decide) hD) rfl (Or.inl ⟨_, rfl, k_1⟩) (ls' := [some (.inr (.inl (some 1))), some (.inl 3)]) rfl (st' := []) rfl 121 rfl ?_
    refine nw_aload_n l_X0_refuse_0 1 rfl rfl ?_
    refine nw_iload_n l_X0_refuse_1 2 rfl rfl ?_
    refine nw_putI l_X0_refuse_2 5 rfl k_1 ?_
    refine nw_bipush (len := 0) l_X0_refuse_5 7 rfl c_n4 ?_
    refine nw_ireturn l_X0_refuse_7 rfl ?_
    refine nw_ireturn l_X0_beginPassage_121 rfl ?_
    exact h
theorem b_X0_closeChannel_0 {x1 : Int} (hD : 1 ≤ D) (h : ((x1 < 0 → Qr (some (.inl (-1))) (J, L, W)) ∧ (0 ≤ x1 → ((J 3 1 ≤ x1 → Qr (some (.inl (-1))) (J, L, W)) ∧ (x1 < J 3 1 → ((0 ≤ x1 ∧ x1 < 10) ∧ NW sc d_X4_anyBetween 0 (0, [some (.inr (.inl (some 9))), some (.inl (J 5 x1)), some (.inl (J 6 x1)), none, none, none], [], (J, L, W), 0, 0) (fun v M9 => NW sc d_X0_closeChannel D (38, [some (.inr (.inl (some 1))), some (.inl x1)], nw_push v [], M9, c, sl) Qr Qx) Qx)))))) :
    NW sc d_X0_closeChannel D (0, [some (.inr (.inl (some 1))), some (.inl x1)], [], (J, L, W), c, sl) Qr Qx := by
  refine nw_aload_n l_X0_closeChannel_0 1 rfl rfl ?_
  refine nw_getA l_X0_closeChannel_1 4 rfl k_1 r_1_3 ?_
  refine nw_iload_n l_X0_closeChannel_4 5 rfl rfl ?_
  refine nw_call0 0 3 l_X0_closeChannel_5 rfl rfl g_X9_hasChannel (Nat.lt_of_lt_of_le (by decide) hD) rfl (Or.inl ⟨_, rfl, k_3⟩) (ls' := [some (.inr (.inl (some 3))), some (.inl x1)]) rfl (st' := []) rfl 8 rfl ?_
  refine nw_iload_n l_X9_hasChannel_0 1 rfl rfl ?_
  refine nw_if_lt l_X9_hasChannel_1 4 rfl (fun q1 => ?_) (fun q1 => ?_)
  · replace h := h.1 q1
    refine nw_iconst (len := 0) l_X9_hasChannel_16 17 rfl c_0 ?_
    refine nw_ireturnZ l_X9_hasChannel_17 rfl (Or.inl rfl) ?_
    refine nw_if_ne l_X0_closeChannel_8 11 rfl (fun q => absurd q (by decide)) (fun _ => ?_)
    refine nw_iconst (len := 0) l_X0_closeChannel_11 12 rfl c_n1 ?_
    refine nw_ireturn l_X0_closeChannel_12 rfl ?_
    exact h
  · replace h := h.2 q1
    refine nw_iload_n l_X9_hasChannel_4 5 rfl rfl ?_
    refine nw_aload_n l_X9_hasChannel_5 6 rfl rfl ?_
    refine nw_getI l_X9_hasChannel_6 9 rfl k_3 (v := J 3 1) rfl ?_
    refine nw_ic_ge l_X9_hasChannel_9 12 rfl (fun q2 => ?_) (fun q2 => ?_)
    · replace h := h.1 q2
      refine nw_iconst (len := 0) l_X9_hasChannel_16 17 rfl c_0 ?_
      refine nw_ireturnZ l_X9_hasChannel_17 rfl (Or.inl rfl) ?_
      refine nw_if_ne l_X0_closeChannel_8 11 rfl (fun q => absurd q (by decide)) (fun _ => ?_)
      refine nw_iconst (len := 0) l_X0_closeChannel_11 12 rfl c_n1 ?_
      refine nw_ireturn l_X0_closeChannel_12 rfl ?_
      exact h
    · replace h := h.2 q2
      refine nw_iconst (len := 0) l_X9_hasChannel_12 13 rfl c_1 ?_
      refine nw_goto l_X9_hasChannel_13 ?_
      refine nw_ireturnZ l_X9_hasChannel_17 rfl (Or.inr rfl) ?_
      refine nw_if_ne l_X0_closeChannel_8 11 rfl (fun _ => ?_) (fun q => absurd q (by decide))
      refine nw_aload_n l_X0_closeChannel_13 14 rfl rfl ?_
      refine nw_getA l_X0_closeChannel_14 17 rfl k_1 r_1_4 ?_
      refine nw_aload_n l_X0_closeChannel_17 18 rfl rfl ?_
      refine nw_getA l_X0_closeChannel_18 21 rfl k_1 r_1_3 ?_
      refine nw_getA l_X0_closeChannel_21 24 rfl k_3 r_3_3 ?_
      refine nw_iload_n l_X0_closeChannel_24 25 rfl rfl ?_
      have o3 := h.1
      replace h := h.2
      refine nw_iald l_X0_closeChannel_25 26 rfl k_5 o3 (v := J 5 x1) rfl ?_
      refine nw_aload_n l_X0_closeChannel_26 27 rfl rfl ?_
      refine nw_getA l_X0_closeChannel_27 30 rfl k_1 r_1_3 ?_
      refine nw_getA l_X0_closeChannel_30 33 rfl k_3 r_3_4 ?_
      refine nw_iload_n l_X0_closeChannel_33 34 rfl rfl ?_
      refine nw_iald l_X0_closeChannel_34 35 rfl k_6 o3 (v := J 6 x1) rfl ?_
      refine nw_call0 0 9 l_X0_closeChannel_35 rfl rfl g_X4_anyBetween (Nat.lt_of_lt_of_le (by decide) hD) rfl (Or.inl ⟨_, rfl, k_9⟩) (ls' := [some (.inr (.inl (some 9))), some (.inl (J 5 x1)), some (.inl (J 6 x1)), none, none, none]) rfl (st' := []) rfl 38 rfl ?_
      exact h
theorem b_X0_closeChannel_38 {x1 : Int} {y0 : Int} (hD : 1 ≤ D) (h : ((y0 = 0 → NW sc d_X9_dropChannel 0 (0, [some (.inr (.inl (some 3))), some (.inl x1), none], [], (J, L, W), 0, 0) (fun v M9 => NW sc d_X0_closeChannel D (52, [some (.inr (.inl (some 1))), none], nw_push v [], M9, c, sl) Qr Qx) Qx) ∧ (¬ y0 = 0 → Qr (some (.inl (-3))) (J, L, W)))) :
    NW sc d_X0_closeChannel D (38, [some (.inr (.inl (some 1))), some (.inl x1)], [.inl y0], (J, L, W), c, sl) Qr Qx := by
  refine nw_if_eq l_X0_closeChannel_38 41 rfl (fun q1 => ?_) (fun q1 => ?_)
  · replace h := h.1 q1
    refine nw_aload_n l_X0_closeChannel_44 45 rfl rfl ?_
    refine nw_getA l_X0_closeChannel_45 48 rfl k_1 r_1_3 ?_
    refine nw_iload_n l_X0_closeChannel_48 49 rfl rfl ?_
    refine nw_drop (ls' := [some (.inr (.inl (some 1))), none]) ⟨rfl, ⟨True.intro, True.intro⟩⟩ ?_
    refine nw_call0 0 3 l_X0_closeChannel_49 rfl rfl g_X9_dropChannel (Nat.lt_of_lt_of_le (by decide) hD) rfl (Or.inl ⟨_, rfl, k_3⟩) (ls' := [some (.inr (.inl (some 3))), some (.inl x1), none]) rfl (st' := []) rfl 52 rfl ?_
    exact h
  · replace h := h.2 q1
    refine nw_bipush (len := 0) l_X0_closeChannel_41 43 rfl c_n3 ?_
    refine nw_ireturn l_X0_closeChannel_43 rfl ?_
    exact h
theorem b_X0_closeChannel_52  (h : Qr (some (.inl (J 3 1))) (J, L, W)) :
    NW sc d_X0_closeChannel D (52, [some (.inr (.inl (some 1))), none], [], (J, L, W), c, sl) Qr Qx := by
  refine nw_aload_n l_X0_closeChannel_52 53 rfl rfl ?_
  refine nw_getA l_X0_closeChannel_53 56 rfl k_1 r_1_3 ?_
  refine nw_getI l_X0_closeChannel_56 59 rfl k_3 (v := J 3 1) rfl ?_
  refine nw_ireturn l_X0_closeChannel_59 rfl ?_
  exact h
theorem b_X0_enlistFerry_0 {x1 : Int} {x2 : Int} {x3 : Int} (hD : 1 ≤ D) (h : ((x1 < 0 → Qr (some (.inl (-1))) (J, L, W)) ∧ (0 ≤ x1 → ((J 3 0 ≤ x1 → Qr (some (.inl (-1))) (J, L, W)) ∧ (x1 < J 3 0 → ((x2 < 1 → ((x3 < 1 → Qr (some (.inl (-2))) (J, L, W)) ∧ (1 ≤ x3 → ((99 < x3 → Qr (some (.inl (-2))) (J, L, W)) ∧ (x3 ≤ 99 → Qr (some (.inl (-2))) (J, L, W)))))) ∧ (1 ≤ x2 → ((12 < x2 → ((x3 < 1 → Qr (some (.inl (-2))) (J, L, W)) ∧ (1 ≤ x3 → ((99 < x3 → Qr (some (.inl (-2))) (J, L, W)) ∧ (x3 ≤ 99 → Qr (some (.inl (-2))) (J, L, W)))))) ∧ (x2 ≤ 12 → ((x3 < 1 → Qr (some (.inl (-2))) (J, L, W)) ∧ (1 ≤ x3 → ((99 < x3 → Qr (some (.inl (-2))) (J, L, W)) ∧ (x3 ≤ 99 → ((J 9 0 < 3 → ((0 ≤ J 9 0 ∧ J 9 0 < 3) ∧ ((-2147483648 ≤ (J 9 0) + 1 ∧ (J 9 0) + 1 < 2147483648) ∧ Qr (some (.inl (J 9 0))) (nw_u (nw_u (nw_u (nw_u (nw_u (nw_u J 10 (J 9 0) x1) 11 (J 9 0) (-1)) 12 (J 9 0) 0) 13 (J 9 0) x2) 14 (J 9 0) x3) 9 0 ((J 9 0) + 1), L, W)))) ∧ (3 ≤ J 9 0 → Qr (some (.inl (-3))) (J, L, W)))))))))))))))) :
    NW sc d_X0_enlistFerry D (0, [some (.inr (.inl (some 1))), some (.inl x1), some (.inl x2), some (.inl x3), none, none, none], [], (J, L, W), c, sl) Qr Qx := by
  refine nw_aload_n l_X0_enlistFerry_0 1 rfl rfl ?_
  refine nw_getA l_X0_enlistFerry_1 4 rfl k_1 r_1_3 ?_
  refine nw_iload_n l_X0_enlistFerry_4 5 rfl rfl ?_
  refine nw_call0 0 3 l_X0_enlistFerry_5 rfl rfl g_X9_hasCrater (Nat.lt_of_lt_of_le (by decide) hD) rfl (Or.inl ⟨_, rfl, k_3⟩) (ls' := [some (.inr (.inl (some 3))), some (.inl x1)]) rfl (st' := []) rfl 8 rfl ?_
  refine nw_iload_n l_X9_hasCrater_0 1 rfl rfl ?_
  refine nw_if_lt l_X9_hasCrater_1 4 rfl (fun q1 => ?_) (fun q1 => ?_)
  · replace h := h.1 q1
    refine nw_iconst (len := 0) l_X9_hasCrater_16 17 rfl c_0 ?_
    refine nw_ireturnZ l_X9_hasCrater_17 rfl (Or.inl rfl) ?_
    refine nw_if_ne l_X0_enlistFerry_8 11 rfl (fun q => absurd q (by decide)) (fun _ => ?_)
    refine nw_iconst (len := 0) l_X0_enlistFerry_11 12 rfl c_n1 ?_
    refine nw_ireturn l_X0_enlistFerry_12 rfl ?_
    exact h
  · replace h := h.2 q1
    refine nw_iload_n l_X9_hasCrater_4 5 rfl rfl ?_
    refine nw_aload_n l_X9_hasCrater_5 6 rfl rfl ?_
    refine nw_getI l_X9_hasCrater_6 9 rfl k_3 (v := J 3 0) rfl ?_
    refine nw_ic_ge l_X9_hasCrater_9 12 rfl (fun q2 => ?_) (fun q2 => ?_)
    · replace h := h.1 q2
      refine nw_iconst (len := 0) l_X9_hasCrater_16 17 rfl c_0 ?_
      refine nw_ireturnZ l_X9_hasCrater_17 rfl (Or.inl rfl) ?_
      refine nw_if_ne l_X0_enlistFerry_8 11 rfl (fun q => absurd q (by decide)) (fun _ => ?_)
      refine nw_iconst (len := 0) l_X0_enlistFerry_11 12 rfl c_n1 ?_
      refine nw_ireturn l_X0_enlistFerry_12 rfl ?_
      exact h
    · replace h := h.2 q2
      refine nw_iconst (len := 0) l_X9_hasCrater_12 13 rfl c_1 ?_
      refine nw_goto l_X9_hasCrater_13 ?_
      refine nw_ireturnZ l_X9_hasCrater_17 rfl (Or.inr rfl) ?_
      refine nw_if_ne l_X0_enlistFerry_8 11 rfl (fun _ => ?_) (fun q => absurd q (by decide))
      refine nw_iload_n l_X0_enlistFerry_13 14 rfl rfl ?_
      refine nw_iconst (len := 0) l_X0_enlistFerry_14 15 rfl c_1 ?_
      refine nw_ic_lt l_X0_enlistFerry_15 18 rfl (fun q3 => ?_) (fun q3 => ?_)
      · replace h := h.1 q3
        refine nw_iconst (len := 0) l_X0_enlistFerry_28 29 rfl c_0 ?_
        refine nw_istore l_X0_enlistFerry_29 31 rfl rfl (ls' := [some (.inr (.inl (some 1))), some (.inl x1), some (.inl x2), some (.inl x3), some (.inl 0), none, none]) rfl ?_
        refine nw_iload_n l_X0_enlistFerry_31 32 rfl rfl ?_
        refine nw_iconst (len := 0) l_X0_enlistFerry_32 33 rfl c_1 ?_
        refine nw_ic_lt l_X0_enlistFerry_33 36 rfl (fun q4 => ?_) (fun q4 => ?_)
        · replace h := h.1 q4
          refine nw_iconst (len := 0) l_X0_enlistFerry_46 47 rfl c_0 ?_
          refine nw_istore l_X0_enlistFerry_47 49 rfl rfl (ls' := [some (.inr (.inl (some 1))), some (.inl x1), some (.inl x2), some (.inl x3), some (.inl 0), some (.inl 0), none]) rfl ?_
          refine nw_iload l_X0_enlistFerry_49 51 rfl rfl ?_
          refine nw_if_eq l_X0_enlistFerry_51 54 rfl (fun _ => ?_) (fun q => absurd q (by decide))
          refine nw_bipush (len := 0) l_X0_enlistFerry_59 61 rfl c_n2 ?_
          refine nw_ireturn l_X0_enlistFerry_61 rfl ?_
          exact h
        · replace h := h.2 q4
          refine nw_iload_n l_X0_enlistFerry_36 37 rfl rfl ?_
          refine nw_bipush (len := 0) l_X0_enlistFerry_37 39 rfl c_99 ?_
          refine nw_ic_gt l_X0_enlistFerry_39 42 rfl (fun q5 => ?_) (fun q5 => ?_)
          · replace h := h.1 q5
            refine nw_iconst (len := 0) l_X0_enlistFerry_46 47 rfl c_0 ?_
            refine nw_istore l_X0_enlistFerry_47 49 rfl rfl (ls' := [some (.inr (.inl (some 1))), some (.inl x1), some (.inl x2), some (.inl x3), some (.inl 0), some (.inl 0), none]) rfl ?_
            refine nw_iload l_X0_enlistFerry_49 51 rfl rfl ?_
            refine nw_if_eq l_X0_enlistFerry_51 54 rfl (fun _ => ?_) (fun q => absurd q (by decide))
            refine nw_bipush (len := 0) l_X0_enlistFerry_59 61 rfl c_n2 ?_
            refine nw_ireturn l_X0_enlistFerry_61 rfl ?_
            exact h
          · replace h := h.2 q5
            refine nw_iconst (len := 0) l_X0_enlistFerry_42 43 rfl c_1 ?_
            refine nw_goto l_X0_enlistFerry_43 ?_
            refine nw_istore l_X0_enlistFerry_47 49 rfl rfl (ls' := [some (.inr (.inl (some 1))), some (.inl x1), some (.inl x2), some (.inl x3), some (.inl 0), some (.inl 1), none]) rfl ?_
            refine nw_iload l_X0_enlistFerry_49 51 rfl rfl ?_
            refine nw_if_eq l_X0_enlistFerry_51 54 rfl (fun _ => ?_) (fun q => absurd q (by decide))
            refine nw_bipush (len := 0) l_X0_enlistFerry_59 61 rfl c_n2 ?_
            refine nw_ireturn l_X0_enlistFerry_61 rfl ?_
            exact h
      · replace h := h.2 q3
        refine nw_iload_n l_X0_enlistFerry_18 19 rfl rfl ?_
        refine nw_bipush (len := 0) l_X0_enlistFerry_19 21 rfl c_12 ?_
        refine nw_ic_gt l_X0_enlistFerry_21 24 rfl (fun q6 => ?_) (fun q6 => ?_)
        · replace h := h.1 q6
          refine nw_iconst (len := 0) l_X0_enlistFerry_28 29 rfl c_0 ?_
          refine nw_istore l_X0_enlistFerry_29 31 rfl rfl (ls' := [some (.inr (.inl (some 1))), some (.inl x1), some (.inl x2), some (.inl x3), some (.inl 0), none, none]) rfl ?_
          refine nw_iload_n l_X0_enlistFerry_31 32 rfl rfl ?_
          refine nw_iconst (len := 0) l_X0_enlistFerry_32 33 rfl c_1 ?_
          refine nw_ic_lt l_X0_enlistFerry_33 36 rfl (fun q7 => ?_) (fun q7 => ?_)
          · replace h := h.1 q7
            refine nw_iconst (len := 0) l_X0_enlistFerry_46 47 rfl c_0 ?_
            refine nw_istore l_X0_enlistFerry_47 49 rfl rfl (ls' := [some (.inr (.inl (some 1))), some (.inl x1), some (.inl x2), some (.inl x3), some (.inl 0), some (.inl 0), none]) rfl ?_
            refine nw_iload l_X0_enlistFerry_49 51 rfl rfl ?_
            refine nw_if_eq l_X0_enlistFerry_51 54 rfl (fun _ => ?_) (fun q => absurd q (by decide))
            refine nw_bipush (len := 0) l_X0_enlistFerry_59 61 rfl c_n2 ?_
            refine nw_ireturn l_X0_enlistFerry_61 rfl ?_
            exact h
          · replace h := h.2 q7
            refine nw_iload_n l_X0_enlistFerry_36 37 rfl rfl ?_
            refine nw_bipush (len := 0) l_X0_enlistFerry_37 39 rfl c_99 ?_
            refine nw_ic_gt l_X0_enlistFerry_39 42 rfl (fun q8 => ?_) (fun q8 => ?_)
            · replace h := h.1 q8
              refine nw_iconst (len := 0) l_X0_enlistFerry_46 47 rfl c_0 ?_
              refine nw_istore l_X0_enlistFerry_47 49 rfl rfl (ls' := [some (.inr (.inl (some 1))), some (.inl x1), some (.inl x2), some (.inl x3), some (.inl 0), some (.inl 0), none]) rfl ?_
              refine nw_iload l_X0_enlistFerry_49 51 rfl rfl ?_
              refine nw_if_eq l_X0_enlistFerry_51 54 rfl (fun _ => ?_) (fun q => absurd q (by decide))
              refine nw_bipush (len := 0) l_X0_enlistFerry_59 61 rfl c_n2 ?_
              refine nw_ireturn l_X0_enlistFerry_61 rfl ?_
              exact h
            · replace h := h.2 q8
              refine nw_iconst (len := 0) l_X0_enlistFerry_42 43 rfl c_1 ?_
              refine nw_goto l_X0_enlistFerry_43 ?_
              refine nw_istore l_X0_enlistFerry_47 49 rfl rfl (ls' := [some (.inr (.inl (some 1))), some (.inl x1), some (.inl x2), some (.inl x3), some (.inl 0), some (.inl 1), none]) rfl ?_
              refine nw_iload l_X0_enlistFerry_49 51 rfl rfl ?_
              refine nw_if_eq l_X0_enlistFerry_51 54 rfl (fun _ => ?_) (fun q => absurd q (by decide))
              refine nw_bipush (len := 0) l_X0_enlistFerry_59 61 rfl c_n2 ?_
              refine nw_ireturn l_X0_enlistFerry_61 rfl ?_
              exact h
        · replace h := h.2 q6
          refine nw_iconst (len := 0) l_X0_enlistFerry_24 25 rfl c_1 ?_
          refine nw_goto l_X0_enlistFerry_25 ?_
          refine nw_istore l_X0_enlistFerry_29 31 rfl rfl (ls' := [some (.inr (.inl (some 1))), some (.inl x1), some (.inl x2), some (.inl x3), some (.inl 1), none, none]) rfl ?_
          refine nw_iload_n l_X0_enlistFerry_31 32 rfl rfl ?_
          refine nw_iconst (len := 0) l_X0_enlistFerry_32 33 rfl c_1 ?_
          refine nw_ic_lt l_X0_enlistFerry_33 36 rfl (fun q9 => ?_) (fun q9 => ?_)
          · replace h := h.1 q9
            refine nw_iconst (len := 0) l_X0_enlistFerry_46 47 rfl c_0 ?_
            refine nw_istore l_X0_enlistFerry_47 49 rfl rfl (ls' := [some (.inr (.inl (some 1))), some (.inl x1), some (.inl x2), some (.inl x3), some (.inl 1), some (.inl 0), none]) rfl ?_
            refine nw_iload l_X0_enlistFerry_49 51 rfl rfl ?_
            refine nw_if_eq l_X0_enlistFerry_51 54 rfl (fun q => absurd q (by decide)) (fun _ => ?_)
            refine nw_iload l_X0_enlistFerry_54 56 rfl rfl ?_
            refine nw_if_ne l_X0_enlistFerry_56 59 rfl (fun q => absurd q (by decide)) (fun _ => ?_)
            refine nw_bipush (len := 0) l_X0_enlistFerry_59 61 rfl c_n2 ?_
            refine nw_ireturn l_X0_enlistFerry_61 rfl ?_
            exact h
          · replace h := h.2 q9
            refine nw_iload_n l_X0_enlistFerry_36 37 rfl rfl ?_
            refine nw_bipush (len := 0) l_X0_enlistFerry_37 39 rfl c_99 ?_
            refine nw_ic_gt l_X0_enlistFerry_39 42 rfl (fun q10 => ?_) (fun q10 => ?_)
            · replace h := h.1 q10
              refine nw_iconst (len := 0) l_X0_enlistFerry_46 47 rfl c_0 ?_
              refine nw_istore l_X0_enlistFerry_47 49 rfl rfl (ls' := [some (.inr (.inl (some 1))), some (.inl x1), some (.inl x2), some (.inl x3), some (.inl 1), some (.inl 0), none]) rfl ?_
              refine nw_iload l_X0_enlistFerry_49 51 rfl rfl ?_
              refine nw_if_eq l_X0_enlistFerry_51 54 rfl (fun q => absurd q (by decide)) (fun _ => ?_)
              refine nw_iload l_X0_enlistFerry_54 56 rfl rfl ?_
              refine nw_if_ne l_X0_enlistFerry_56 59 rfl (fun q => absurd q (by decide)) (fun _ => ?_)
              refine nw_bipush (len := 0) l_X0_enlistFerry_59 61 rfl c_n2 ?_
              refine nw_ireturn l_X0_enlistFerry_61 rfl ?_
              exact h
            · replace h := h.2 q10
              refine nw_iconst (len := 0) l_X0_enlistFerry_42 43 rfl c_1 ?_
              refine nw_goto l_X0_enlistFerry_43 ?_
              refine nw_istore l_X0_enlistFerry_47 49 rfl rfl (ls' := [some (.inr (.inl (some 1))), some (.inl x1), some (.inl x2), some (.inl x3), some (.inl 1), some (.inl 1), none]) rfl ?_
              refine nw_iload l_X0_enlistFerry_49 51 rfl rfl ?_
              refine nw_if_eq l_X0_enlistFerry_51 54 rfl (fun q => absurd q (by decide)) (fun _ => ?_)
              refine nw_iload l_X0_enlistFerry_54 56 rfl rfl ?_
              refine nw_if_ne l_X0_enlistFerry_56 59 rfl (fun _ => ?_) (fun q => absurd q (by decide))
              refine nw_aload_n l_X0_enlistFerry_62 63 rfl rfl ?_
              refine nw_getA l_X0_enlistFerry_63 66 rfl k_1 r_1_4 ?_
              refine nw_getI l_X0_enlistFerry_66 69 rfl k_9 (v := J 9 0) rfl ?_
              refine nw_iconst (len := 0) l_X0_enlistFerry_69 70 rfl c_3 ?_
              refine nw_ic_lt l_X0_enlistFerry_70 73 rfl (fun q11 => ?_) (fun q11 => ?_)
              · replace h := h.1 q11
                refine nw_aload_n l_X0_enlistFerry_76 77 rfl rfl ?_
                refine nw_getA l_X0_enlistFerry_77 80 rfl k_1 r_1_4 ?_
                refine nw_getI l_X0_enlistFerry_80 83 rfl k_9 (v := J 9 0) rfl ?_
                refine nw_istore l_X0_enlistFerry_83 85 rfl rfl (ls' := [some (.inr (.inl (some 1))), some (.inl x1), some (.inl x2), some (.inl x3), some (.inl 1), some (.inl 1), some (.inl (J 9 0))]) rfl ?_
                refine nw_aload_n l_X0_enlistFerry_85 86 rfl rfl ?_
                refine nw_getA l_X0_enlistFerry_86 89 rfl k_1 r_1_4 ?_
                refine nw_getA l_X0_enlistFerry_89 92 rfl k_9 r_9_1 ?_
                refine nw_iload l_X0_enlistFerry_92 94 rfl rfl ?_
                refine nw_iload_n l_X0_enlistFerry_94 95 rfl rfl ?_
                have o12 := h.1
                replace h := h.2
                refine nw_iast l_X0_enlistFerry_95 96 rfl k_10 o12 ?_
                refine nw_aload_n l_X0_enlistFerry_96 97 rfl rfl ?_
                refine nw_getA l_X0_enlistFerry_97 100 rfl k_1 r_1_4 ?_
                refine nw_getA l_X0_enlistFerry_100 103 rfl k_9 r_9_2 ?_
                refine nw_iload l_X0_enlistFerry_103 105 rfl rfl ?_
                refine nw_iconst (len := 0) l_X0_enlistFerry_105 106 rfl c_n1 ?_
                refine nw_iast l_X0_enlistFerry_106 107 rfl k_11 o12 ?_
                refine nw_aload_n l_X0_enlistFerry_107 108 rfl rfl ?_
                refine nw_getA l_X0_enlistFerry_108 111 rfl k_1 r_1_4 ?_
                refine nw_getA l_X0_enlistFerry_111 114 rfl k_9 r_9_3 ?_
                refine nw_iload l_X0_enlistFerry_114 116 rfl rfl ?_
                refine nw_iconst (len := 0) l_X0_enlistFerry_116 117 rfl c_0 ?_
                refine nw_iast l_X0_enlistFerry_117 118 rfl k_12 o12 ?_
                refine nw_aload_n l_X0_enlistFerry_118 119 rfl rfl ?_
                refine nw_getA l_X0_enlistFerry_119 122 rfl k_1 r_1_4 ?_
                refine nw_getA l_X0_enlistFerry_122 125 rfl k_9 r_9_4 ?_
                refine nw_iload l_X0_enlistFerry_125 127 rfl rfl ?_
                refine nw_iload_n l_X0_enlistFerry_127 128 rfl rfl ?_
                refine nw_iast l_X0_enlistFerry_128 129 rfl k_13 o12 ?_
                refine nw_aload_n l_X0_enlistFerry_129 130 rfl rfl ?_
                refine nw_getA l_X0_enlistFerry_130 133 rfl k_1 r_1_4 ?_
                refine nw_getA l_X0_enlistFerry_133 136 rfl k_9 r_9_5 ?_
                refine nw_iload l_X0_enlistFerry_136 138 rfl rfl ?_
                refine nw_iload_n l_X0_enlistFerry_138 139 rfl rfl ?_
                refine nw_iast l_X0_enlistFerry_139 140 rfl k_14 o12 ?_
                refine nw_aload_n l_X0_enlistFerry_140 141 rfl rfl ?_
                refine nw_getA l_X0_enlistFerry_141 144 rfl k_1 r_1_4 ?_
                refine nw_dupA l_X0_enlistFerry_144 145 rfl ?_
                refine nw_getI l_X0_enlistFerry_145 148 rfl k_9 (v := J 9 0) (show nw_u (nw_u (nw_u (nw_u (nw_u J 10 (J 9 0) x1) 11 (J 9 0) (-1)) 12 (J 9 0) 0) 13 (J 9 0) x2) 14 (J 9 0) x3 9 0 = J 9 0 from (nw_uN (a := 14) (b := 9) (by decide)).trans ((nw_uN (a := 13) (b := 9) (by decide)).trans ((nw_uN (a := 12) (b := 9) (by decide)).trans ((nw_uN (a := 11) (b := 9) (by decide)).trans (nw_uN (a := 10) (b := 9) (by decide)))))) ?_
                refine nw_iconst (len := 0) l_X0_enlistFerry_148 149 rfl c_1 ?_
                have o13 := h.1
                replace h := h.2
                refine nw_iadd l_X0_enlistFerry_149 150 rfl o13 ?_
                refine nw_putI l_X0_enlistFerry_150 153 rfl k_9 ?_
                refine nw_iload l_X0_enlistFerry_153 155 rfl rfl ?_
                refine nw_ireturn l_X0_enlistFerry_155 rfl ?_
                exact h
              · replace h := h.2 q11
                refine nw_bipush (len := 0) l_X0_enlistFerry_73 75 rfl c_n3 ?_
                refine nw_ireturn l_X0_enlistFerry_75 rfl ?_
                exact h
theorem b_X0_enlistMoon_0 {x1 : Int} {x2 : Int} {x3 : Int} {x4 : Int} (hD : 1 ≤ D) (h : ((x1 < 0 → Qr (some (.inl (-1))) (J, L, W)) ∧ (0 ≤ x1 → ((J 3 0 ≤ x1 → Qr (some (.inl (-1))) (J, L, W)) ∧ (x1 < J 3 0 → ((x2 < 0 → Qr (some (.inl (-1))) (J, L, W)) ∧ (0 ≤ x2 → ((J 3 0 ≤ x2 → Qr (some (.inl (-1))) (J, L, W)) ∧ (x2 < J 3 0 → ((x3 < 1 → ((x4 < 0 → ((x1 = x2 → Qr (some (.inl (-2))) (J, L, W)) ∧ (¬ x1 = x2 → Qr (some (.inl (-2))) (J, L, W)))) ∧ (0 ≤ x4 → ((8 ≤ x4 → ((x1 = x2 → Qr (some (.inl (-2))) (J, L, W)) ∧ (¬ x1 = x2 → Qr (some (.inl (-2))) (J, L, W)))) ∧ (x4 < 8 → ((x1 = x2 → Qr (some (.inl (-2))) (J, L, W)) ∧ (¬ x1 = x2 → Qr (some (.inl (-2))) (J, L, W)))))))) ∧ (1 ≤ x3 → ((40 < x3 → ((x4 < 0 → ((x1 = x2 → Qr (some (.inl (-2))) (J, L, W)) ∧ (¬ x1 = x2 → Qr (some (.inl (-2))) (J, L, W)))) ∧ (0 ≤ x4 → ((8 ≤ x4 → ((x1 = x2 → Qr (some (.inl (-2))) (J, L, W)) ∧ (¬ x1 = x2 → Qr (some (.inl (-2))) (J, L, W)))) ∧ (x4 < 8 → ((x1 = x2 → Qr (some (.inl (-2))) (J, L, W)) ∧ (¬ x1 = x2 → Qr (some (.inl (-2))) (J, L, W)))))))) ∧ (x3 ≤ 40 → ((x4 < 0 → ((x1 = x2 → Qr (some (.inl (-2))) (J, L, W)) ∧ (¬ x1 = x2 → Qr (some (.inl (-2))) (J, L, W)))) ∧ (0 ≤ x4 → ((8 ≤ x4 → ((x1 = x2 → Qr (some (.inl (-2))) (J, L, W)) ∧ (¬ x1 = x2 → Qr (some (.inl (-2))) (J, L, W)))) ∧ (x4 < 8 → ((x1 = x2 → Qr (some (.inl (-2))) (J, L, W)) ∧ (¬ x1 = x2 → ((J 18 0 < 10 → ((0 ≤ J 18 0 ∧ J 18 0 < 10) ∧ ((-2147483648 ≤ (J 18 0) + 1 ∧ (J 18 0) + 1 < 2147483648) ∧ ((-2147483648 ≤ (J 18 1) + 1 ∧ (J 18 1) + 1 < 2147483648) ∧ Qr (some (.inl (J 18 1))) (nw_u (nw_u (nw_u (nw_u (nw_u (nw_u (nw_u (nw_u (nw_u J 19 (J 18 0) (J 18 1)) 20 (J 18 0) x1) 21 (J 18 0) x2) 22 (J 18 0) x3) 23 (J 18 0) x4) 24 (J 18 0) (-1)) 25 (J 18 0) x1) 18 0 ((J 18 0) + 1)) 18 1 ((J 18 1) + 1), L, W))))) ∧ (10 ≤ J 18 0 → Qr (some (.inl (-3))) (J, L, W)))))))))))))))))))))) :
    NW sc d_X0_enlistMoon D (0, [some (.inr (.inl (some 1))), some (.inl x1), some (.inl x2), some (.inl x3), some (.inl x4), none, none, none], [], (J, L, W), c, sl) Qr Qx := by
  refine nw_aload_n l_X0_enlistMoon_0 1 rfl rfl ?_
  refine nw_getA l_X0_enlistMoon_1 4 rfl k_1 r_1_3 ?_
  refine nw_iload_n l_X0_enlistMoon_4 5 rfl rfl ?_
  refine nw_call0 0 3 l_X0_enlistMoon_5 rfl rfl g_X9_hasCrater (Nat.lt_of_lt_of_le (by decide) hD) rfl (Or.inl ⟨_, rfl, k_3⟩) (ls' := [some (.inr (.inl (some 3))), some (.inl x1)]) rfl (st' := []) rfl 8 rfl ?_
  refine nw_iload_n l_X9_hasCrater_0 1 rfl rfl ?_
  refine nw_if_lt l_X9_hasCrater_1 4 rfl (fun q1 => ?_) (fun q1 => ?_)
  · replace h := h.1 q1
    refine nw_iconst (len := 0) l_X9_hasCrater_16 17 rfl c_0 ?_
    refine nw_ireturnZ l_X9_hasCrater_17 rfl (Or.inl rfl) ?_
    refine nw_if_eq l_X0_enlistMoon_8 11 rfl (fun _ => ?_) (fun q => absurd q (by decide))
    refine nw_iconst (len := 0) l_X0_enlistMoon_22 23 rfl c_n1 ?_
    refine nw_ireturn l_X0_enlistMoon_23 rfl ?_
    exact h
  · replace h := h.2 q1
    refine nw_iload_n l_X9_hasCrater_4 5 rfl rfl ?_
    refine nw_aload_n l_X9_hasCrater_5 6 rfl rfl ?_
    refine nw_getI l_X9_hasCrater_6 9 rfl k_3 (v := J 3 0) rfl ?_
    refine nw_ic_ge l_X9_hasCrater_9 12 rfl (fun q2 => ?_) (fun q2 => ?_)
    · replace h := h.1 q2
      refine nw_iconst (len := 0) l_X9_hasCrater_16 17 rfl c_0 ?_
      refine nw_ireturnZ l_X9_hasCrater_17 rfl (Or.inl rfl) ?_
      refine nw_if_eq l_X0_enlistMoon_8 11 rfl (fun _ => ?_) (fun q => absurd q (by decide))
      refine nw_iconst (len := 0) l_X0_enlistMoon_22 23 rfl c_n1 ?_
      refine nw_ireturn l_X0_enlistMoon_23 rfl ?_
      exact h
    · replace h := h.2 q2
      refine nw_iconst (len := 0) l_X9_hasCrater_12 13 rfl c_1 ?_
      refine nw_goto l_X9_hasCrater_13 ?_
      refine nw_ireturnZ l_X9_hasCrater_17 rfl (Or.inr rfl) ?_
      refine nw_if_eq l_X0_enlistMoon_8 11 rfl (fun q => absurd q (by decide)) (fun _ => ?_)
      refine nw_aload_n l_X0_enlistMoon_11 12 rfl rfl ?_
      refine nw_getA l_X0_enlistMoon_12 15 rfl k_1 r_1_3 ?_
      refine nw_iload_n l_X0_enlistMoon_15 16 rfl rfl ?_
      refine nw_call0 0 3 l_X0_enlistMoon_16 rfl rfl g_X9_hasCrater (Nat.lt_of_lt_of_le (by decide) hD) rfl (Or.inl ⟨_, rfl, k_3⟩) (ls' := [some (.inr (.inl (some 3))), some (.inl x2)]) rfl (st' := []) rfl 19 rfl ?_
      refine nw_iload_n l_X9_hasCrater_0 1 rfl rfl ?_
      refine nw_if_lt l_X9_hasCrater_1 4 rfl (fun q3 => ?_) (fun q3 => ?_)
      · replace h := h.1 q3
        refine nw_iconst (len := 0) l_X9_hasCrater_16 17 rfl c_0 ?_
        refine nw_ireturnZ l_X9_hasCrater_17 rfl (Or.inl rfl) ?_
        refine nw_if_ne l_X0_enlistMoon_19 22 rfl (fun q => absurd q (by decide)) (fun _ => ?_)
        refine nw_iconst (len := 0) l_X0_enlistMoon_22 23 rfl c_n1 ?_
        refine nw_ireturn l_X0_enlistMoon_23 rfl ?_
        exact h
      · replace h := h.2 q3
        refine nw_iload_n l_X9_hasCrater_4 5 rfl rfl ?_
        refine nw_aload_n l_X9_hasCrater_5 6 rfl rfl ?_
        refine nw_getI l_X9_hasCrater_6 9 rfl k_3 (v := J 3 0) rfl ?_
        refine nw_ic_ge l_X9_hasCrater_9 12 rfl (fun q4 => ?_) (fun q4 => ?_)
        · replace h := h.1 q4
          refine nw_iconst (len := 0) l_X9_hasCrater_16 17 rfl c_0 ?_
          refine nw_ireturnZ l_X9_hasCrater_17 rfl (Or.inl rfl) ?_
          refine nw_if_ne l_X0_enlistMoon_19 22 rfl (fun q => absurd q (by decide)) (fun _ => ?_)
          refine nw_iconst (len := 0) l_X0_enlistMoon_22 23 rfl c_n1 ?_
          refine nw_ireturn l_X0_enlistMoon_23 rfl ?_
          exact h
        · replace h := h.2 q4
          refine nw_iconst (len := 0) l_X9_hasCrater_12 13 rfl c_1 ?_
          refine nw_goto l_X9_hasCrater_13 ?_
          refine nw_ireturnZ l_X9_hasCrater_17 rfl (Or.inr rfl) ?_
          refine nw_if_ne l_X0_enlistMoon_19 22 rfl (fun _ => ?_) (fun q => absurd q (by decide))
          refine nw_iload_n l_X0_enlistMoon_24 25 rfl rfl ?_
          refine nw_iconst (len := 0) l_X0_enlistMoon_25 26 rfl c_1 ?_
          refine nw_ic_lt l_X0_enlistMoon_26 29 rfl (fun q5 => ?_) (fun q5 => ?_)
          · replace h := h.1 q5
            refine nw_iconst (len := 0) l_X0_enlistMoon_39 40 rfl c_0 ?_
            refine nw_istore l_X0_enlistMoon_40 42 rfl rfl (ls' := [some (.inr (.inl (some 1))), some (.inl x1), some (.inl x2), some (.inl x3), some (.inl x4), some (.inl 0), none, none]) rfl ?_
            refine nw_iload l_X0_enlistMoon_42 44 rfl rfl ?_
            refine nw_if_lt l_X0_enlistMoon_44 47 rfl (fun q6 => ?_) (fun q6 => ?_)
            · replace h := h.1 q6
              refine nw_iconst (len := 0) l_X0_enlistMoon_58 59 rfl c_0 ?_
              refine nw_istore l_X0_enlistMoon_59 61 rfl rfl (ls' := [some (.inr (.inl (some 1))), some (.inl x1), some (.inl x2), some (.inl x3), some (.inl x4), some (.inl 0), some (.inl 0), none]) rfl ?_
              refine nw_iload_n l_X0_enlistMoon_61 62 rfl rfl ?_
              refine nw_iload_n l_X0_enlistMoon_62 63 rfl rfl ?_
              refine nw_ic_eq l_X0_enlistMoon_63 66 rfl (fun q7 => ?_) (fun q7 => ?_)
              · replace h := h.1 q7
                refine nw_bipush (len := 0) l_X0_enlistMoon_76 78 rfl c_n2 ?_
                refine nw_ireturn l_X0_enlistMoon_78 rfl ?_
                exact h
              · replace h := h.2 q7
                refine nw_iload l_X0_enlistMoon_66 68 rfl rfl ?_
                refine nw_if_eq l_X0_enlistMoon_68 71 rfl (fun _ => ?_) (fun q => absurd q (by decide))
                refine nw_bipush (len := 0) l_X0_enlistMoon_76 78 rfl c_n2 ?_
                refine nw_ireturn l_X0_enlistMoon_78 rfl ?_
                exact h
            · replace h := h.2 q6
              refine nw_iload l_X0_enlistMoon_47 49 rfl rfl ?_
              refine nw_bipush (len := 0) l_X0_enlistMoon_49 51 rfl c_8 ?_
              refine nw_ic_ge l_X0_enlistMoon_51 54 rfl (fun q8 => ?_) (fun q8 => ?_)
              · replace h := h.1 q8
                refine nw_iconst (len := 0) l_X0_enlistMoon_58 59 rfl c_0 ?_
                refine nw_istore l_X0_enlistMoon_59 61 rfl rfl (ls' := [some (.inr (.inl (some 1))), some (.inl x1), some (.inl x2), some (.inl x3), some (.inl x4), some (.inl 0), some (.inl 0), none]) rfl ?_
                refine nw_iload_n l_X0_enlistMoon_61 62 rfl rfl ?_
                refine nw_iload_n l_X0_enlistMoon_62 63 rfl rfl ?_
                refine nw_ic_eq l_X0_enlistMoon_63 66 rfl (fun q9 => ?_) (fun q9 => ?_)
                · replace h := h.1 q9
                  refine nw_bipush (len := 0) l_X0_enlistMoon_76 78 rfl c_n2 ?_
                  refine nw_ireturn l_X0_enlistMoon_78 rfl ?_
                  exact h
                · replace h := h.2 q9
                  refine nw_iload l_X0_enlistMoon_66 68 rfl rfl ?_
                  refine nw_if_eq l_X0_enlistMoon_68 71 rfl (fun _ => ?_) (fun q => absurd q (by decide))
                  refine nw_bipush (len := 0) l_X0_enlistMoon_76 78 rfl c_n2 ?_
                  refine nw_ireturn l_X0_enlistMoon_78 rfl ?_
                  exact h
              · replace h := h.2 q8
                refine nw_iconst (len := 0) l_X0_enlistMoon_54 55 rfl c_1 ?_
                refine nw_goto l_X0_enlistMoon_55 ?_
                refine nw_istore l_X0_enlistMoon_59 61 rfl rfl (ls' := [some (.inr (.inl (some 1))), some (.inl x1), some (.inl x2), some (.inl x3), some (.inl x4), some (.inl 0), some (.inl 1), none]) rfl ?_
                refine nw_iload_n l_X0_enlistMoon_61 62 rfl rfl ?_
                refine nw_iload_n l_X0_enlistMoon_62 63 rfl rfl ?_
                refine nw_ic_eq l_X0_enlistMoon_63 66 rfl (fun q10 => ?_) (fun q10 => ?_)
                · replace h := h.1 q10
                  refine nw_bipush (len := 0) l_X0_enlistMoon_76 78 rfl c_n2 ?_
                  refine nw_ireturn l_X0_enlistMoon_78 rfl ?_
                  exact h
                · replace h := h.2 q10
                  refine nw_iload l_X0_enlistMoon_66 68 rfl rfl ?_
                  refine nw_if_eq l_X0_enlistMoon_68 71 rfl (fun _ => ?_) (fun q => absurd q (by decide))
                  refine nw_bipush (len := 0) l_X0_enlistMoon_76 78 rfl c_n2 ?_
                  refine nw_ireturn l_X0_enlistMoon_78 rfl ?_
                  exact h
          · replace h := h.2 q5
            refine nw_iload_n l_X0_enlistMoon_29 30 rfl rfl ?_
            refine nw_bipush (len := 0) l_X0_enlistMoon_30 32 rfl c_40 ?_
            refine nw_ic_gt l_X0_enlistMoon_32 35 rfl (fun q11 => ?_) (fun q11 => ?_)
            · replace h := h.1 q11
              refine nw_iconst (len := 0) l_X0_enlistMoon_39 40 rfl c_0 ?_
              refine nw_istore l_X0_enlistMoon_40 42 rfl rfl (ls' := [some (.inr (.inl (some 1))), some (.inl x1), some (.inl x2), some (.inl x3), some (.inl x4), some (.inl 0), none, none]) rfl ?_
              refine nw_iload l_X0_enlistMoon_42 44 rfl rfl ?_
              refine nw_if_lt l_X0_enlistMoon_44 47 rfl (fun q12 => ?_) (fun q12 => ?_)
              · replace h := h.1 q12
                refine nw_iconst (len := 0) l_X0_enlistMoon_58 59 rfl c_0 ?_
                refine nw_istore l_X0_enlistMoon_59 61 rfl rfl (ls' := [some (.inr (.inl (some 1))), some (.inl x1), some (.inl x2), some (.inl x3), some (.inl x4), some (.inl 0), some (.inl 0), none]) rfl ?_
                refine nw_iload_n l_X0_enlistMoon_61 62 rfl rfl ?_
                refine nw_iload_n l_X0_enlistMoon_62 63 rfl rfl ?_
                refine nw_ic_eq l_X0_enlistMoon_63 66 rfl (fun q13 => ?_) (fun q13 => ?_)
                · replace h := h.1 q13
                  refine nw_bipush (len := 0) l_X0_enlistMoon_76 78 rfl c_n2 ?_
                  refine nw_ireturn l_X0_enlistMoon_78 rfl ?_
                  exact h
                · replace h := h.2 q13
                  refine nw_iload l_X0_enlistMoon_66 68 rfl rfl ?_
                  refine nw_if_eq l_X0_enlistMoon_68 71 rfl (fun _ => ?_) (fun q => absurd q (by decide))
                  refine nw_bipush (len := 0) l_X0_enlistMoon_76 78 rfl c_n2 ?_
                  refine nw_ireturn l_X0_enlistMoon_78 rfl ?_
                  exact h
              · replace h := h.2 q12
                refine nw_iload l_X0_enlistMoon_47 49 rfl rfl ?_
                refine nw_bipush (len := 0) l_X0_enlistMoon_49 51 rfl c_8 ?_
                refine nw_ic_ge l_X0_enlistMoon_51 54 rfl (fun q14 => ?_) (fun q14 => ?_)
                · replace h := h.1 q14
                  refine nw_iconst (len := 0) l_X0_enlistMoon_58 59 rfl c_0 ?_
                  refine nw_istore l_X0_enlistMoon_59 61 rfl rfl (ls' := [some (.inr (.inl (some 1))), some (.inl x1), some (.inl x2), some (.inl x3), some (.inl x4), some (.inl 0), some (.inl 0), none]) rfl ?_
                  refine nw_iload_n l_X0_enlistMoon_61 62 rfl rfl ?_
                  refine nw_iload_n l_X0_enlistMoon_62 63 rfl rfl ?_
                  refine nw_ic_eq l_X0_enlistMoon_63 66 rfl (fun q15 => ?_) (fun q15 => ?_)
                  · replace h := h.1 q15
                    refine nw_bipush (len := 0) l_X0_enlistMoon_76 78 rfl c_n2 ?_
                    refine nw_ireturn l_X0_enlistMoon_78 rfl ?_
                    exact h
                  · replace h := h.2 q15
                    refine nw_iload l_X0_enlistMoon_66 68 rfl rfl ?_
                    refine nw_if_eq l_X0_enlistMoon_68 71 rfl (fun _ => ?_) (fun q => absurd q (by decide))
                    refine nw_bipush (len := 0) l_X0_enlistMoon_76 78 rfl c_n2 ?_
                    refine nw_ireturn l_X0_enlistMoon_78 rfl ?_
                    exact h
                · replace h := h.2 q14
                  refine nw_iconst (len := 0) l_X0_enlistMoon_54 55 rfl c_1 ?_
                  refine nw_goto l_X0_enlistMoon_55 ?_
                  refine nw_istore l_X0_enlistMoon_59 61 rfl rfl (ls' := [some (.inr (.inl (some 1))), some (.inl x1), some (.inl x2), some (.inl x3), some (.inl x4), some (.inl 0), some (.inl 1), none]) rfl ?_
                  refine nw_iload_n l_X0_enlistMoon_61 62 rfl rfl ?_
                  refine nw_iload_n l_X0_enlistMoon_62 63 rfl rfl ?_
                  refine nw_ic_eq l_X0_enlistMoon_63 66 rfl (fun q16 => ?_) (fun q16 => ?_)
                  · replace h := h.1 q16
                    refine nw_bipush (len := 0) l_X0_enlistMoon_76 78 rfl c_n2 ?_
                    refine nw_ireturn l_X0_enlistMoon_78 rfl ?_
                    exact h
                  · replace h := h.2 q16
                    refine nw_iload l_X0_enlistMoon_66 68 rfl rfl ?_
                    refine nw_if_eq l_X0_enlistMoon_68 71 rfl (fun _ => ?_) (fun q => absurd q (by decide))
                    refine nw_bipush (len := 0) l_X0_enlistMoon_76 78 rfl c_n2 ?_
                    refine nw_ireturn l_X0_enlistMoon_78 rfl ?_
                    exact h
            · replace h := h.2 q11
              refine nw_iconst (len := 0) l_X0_enlistMoon_35 36 rfl c_1 ?_
              refine nw_goto l_X0_enlistMoon_36 ?_
              refine nw_istore l_X0_enlistMoon_40 42 rfl rfl (ls' := [some (.inr (.inl (some 1))), some (.inl x1), some (.inl x2), some (.inl x3), some (.inl x4), some (.inl 1), none, none]) rfl ?_
              refine nw_iload l_X0_enlistMoon_42 44 rfl rfl ?_
              refine nw_if_lt l_X0_enlistMoon_44 47 rfl (fun q17 => ?_) (fun q17 => ?_)
              · replace h := h.1 q17
                refine nw_iconst (len := 0) l_X0_enlistMoon_58 59 rfl c_0 ?_
                refine nw_istore l_X0_enlistMoon_59 61 rfl rfl (ls' := [some (.inr (.inl (some 1))), some (.inl x1), some (.inl x2), some (.inl x3), some (.inl x4), some (.inl 1), some (.inl 0), none]) rfl ?_
                refine nw_iload_n l_X0_enlistMoon_61 62 rfl rfl ?_
                refine nw_iload_n l_X0_enlistMoon_62 63 rfl rfl ?_
                refine nw_ic_eq l_X0_enlistMoon_63 66 rfl (fun q18 => ?_) (fun q18 => ?_)
                · replace h := h.1 q18
                  refine nw_bipush (len := 0) l_X0_enlistMoon_76 78 rfl c_n2 ?_
                  refine nw_ireturn l_X0_enlistMoon_78 rfl ?_
                  exact h
                · replace h := h.2 q18
                  refine nw_iload l_X0_enlistMoon_66 68 rfl rfl ?_
                  refine nw_if_eq l_X0_enlistMoon_68 71 rfl (fun q => absurd q (by decide)) (fun _ => ?_)
                  refine nw_iload l_X0_enlistMoon_71 73 rfl rfl ?_
                  refine nw_if_ne l_X0_enlistMoon_73 76 rfl (fun q => absurd q (by decide)) (fun _ => ?_)
                  refine nw_bipush (len := 0) l_X0_enlistMoon_76 78 rfl c_n2 ?_
                  refine nw_ireturn l_X0_enlistMoon_78 rfl ?_
                  exact h
              · replace h := h.2 q17
                refine nw_iload l_X0_enlistMoon_47 49 rfl rfl ?_
                refine nw_bipush (len := 0) l_X0_enlistMoon_49 51 rfl c_8 ?_
                refine nw_ic_ge l_X0_enlistMoon_51 54 rfl (fun q19 => ?_) (fun q19 => ?_)
                · replace h := h.1 q19
                  refine nw_iconst (len := 0) l_X0_enlistMoon_58 59 rfl c_0 ?_
                  refine nw_istore l_X0_enlistMoon_59 61 rfl rfl (ls' := [some (.inr (.inl (some 1))), some (.inl x1), some (.inl x2), some (.inl x3), some (.inl x4), some (.inl 1), some (.inl 0), none]) rfl ?_
                  refine nw_iload_n l_X0_enlistMoon_61 62 rfl rfl ?_
                  refine nw_iload_n l_X0_enlistMoon_62 63 rfl rfl ?_
                  refine nw_ic_eq l_X0_enlistMoon_63 66 rfl (fun q20 => ?_) (fun q20 => ?_)
                  · replace h := h.1 q20
                    refine nw_bipush (len := 0) l_X0_enlistMoon_76 78 rfl c_n2 ?_
                    refine nw_ireturn l_X0_enlistMoon_78 rfl ?_
                    exact h
                  · replace h := h.2 q20
                    refine nw_iload l_X0_enlistMoon_66 68 rfl rfl ?_
                    refine nw_if_eq l_X0_enlistMoon_68 71 rfl (fun q => absurd q (by decide)) (fun _ => ?_)
                    refine nw_iload l_X0_enlistMoon_71 73 rfl rfl ?_
                    refine nw_if_ne l_X0_enlistMoon_73 76 rfl (fun q => absurd q (by decide)) (fun _ => ?_)
                    refine nw_bipush (len := 0) l_X0_enlistMoon_76 78 rfl c_n2 ?_
                    refine nw_ireturn l_X0_enlistMoon_78 rfl ?_
                    exact h
                · replace h := h.2 q19
                  refine nw_iconst (len := 0) l_X0_enlistMoon_54 55 rfl c_1 ?_
                  refine nw_goto l_X0_enlistMoon_55 ?_
                  refine nw_istore l_X0_enlistMoon_59 61 rfl rfl (ls' := [some (.inr (.inl (some 1))), some (.inl x1), some (.inl x2), some (.inl x3), some (.inl x4), some (.inl 1), some (.inl 1), none]) rfl ?_
                  refine nw_iload_n l_X0_enlistMoon_61 62 rfl rfl ?_
                  refine nw_iload_n l_X0_enlistMoon_62 63 rfl rfl ?_
                  refine nw_ic_eq l_X0_enlistMoon_63 66 rfl (fun q21 => ?_) (fun q21 => ?_)
                  · replace h := h.1 q21
                    refine nw_bipush (len := 0) l_X0_enlistMoon_76 78 rfl c_n2 ?_
                    refine nw_ireturn l_X0_enlistMoon_78 rfl ?_
                    exact h
                  · replace h := h.2 q21
                    refine nw_iload l_X0_enlistMoon_66 68 rfl rfl ?_
                    refine nw_if_eq l_X0_enlistMoon_68 71 rfl (fun q => absurd q (by decide)) (fun _ => ?_)
                    refine nw_iload l_X0_enlistMoon_71 73 rfl rfl ?_
                    refine nw_if_ne l_X0_enlistMoon_73 76 rfl (fun _ => ?_) (fun q => absurd q (by decide))
                    refine nw_aload_n l_X0_enlistMoon_79 80 rfl rfl ?_
                    refine nw_getA l_X0_enlistMoon_80 83 rfl k_1 r_1_5 ?_
                    refine nw_getI l_X0_enlistMoon_83 86 rfl k_18 (v := J 18 0) rfl ?_
                    refine nw_bipush (len := 0) l_X0_enlistMoon_86 88 rfl c_10 ?_
                    refine nw_ic_lt l_X0_enlistMoon_88 91 rfl (fun q22 => ?_) (fun q22 => ?_)
                    · replace h := h.1 q22
                      refine nw_aload_n l_X0_enlistMoon_94 95 rfl rfl ?_
                      refine nw_getA l_X0_enlistMoon_95 98 rfl k_1 r_1_5 ?_
                      refine nw_getI l_X0_enlistMoon_98 101 rfl k_18 (v := J 18 0) rfl ?_
                      refine nw_istore l_X0_enlistMoon_101 103 rfl rfl (ls' := [some (.inr (.inl (some 1))), some (.inl x1), some (.inl x2), some (.inl x3), some (.inl x4), some (.inl 1), some (.inl 1), some (.inl (J 18 0))]) rfl ?_
                      refine nw_aload_n l_X0_enlistMoon_103 104 rfl rfl ?_
                      refine nw_getA l_X0_enlistMoon_104 107 rfl k_1 r_1_5 ?_
                      refine nw_getA l_X0_enlistMoon_107 110 rfl k_18 r_18_2 ?_
                      refine nw_iload l_X0_enlistMoon_110 112 rfl rfl ?_
                      refine nw_aload_n l_X0_enlistMoon_112 113 rfl rfl ?_
                      refine nw_getA l_X0_enlistMoon_113 116 rfl k_1 r_1_5 ?_
                      refine nw_getI l_X0_enlistMoon_116 119 rfl k_18 (v := J 18 1) rfl ?_
                      have o23 := h.1
                      replace h := h.2
                      refine nw_iast l_X0_enlistMoon_119 120 rfl k_19 o23 ?_
                      refine nw_aload_n l_X0_enlistMoon_120 121 rfl rfl ?_
                      refine nw_getA l_X0_enlistMoon_121 124 rfl k_1 r_1_5 ?_
                      refine nw_getA l_X0_enlistMoon_124 127 rfl k_18 r_18_3 ?_
                      refine nw_iload l_X0_enlistMoon_127 129 rfl rfl ?_
                      refine nw_iload_n l_X0_enlistMoon_129 130 rfl rfl ?_
                      refine nw_iast l_X0_enlistMoon_130 131 rfl k_20 o23 ?_
                      refine nw_aload_n l_X0_enlistMoon_131 132 rfl rfl ?_
                      refine nw_getA l_X0_enlistMoon_132 135 rfl k_1 r_1_5 ?_
                      refine nw_getA l_X0_enlistMoon_135 138 rfl k_18 r_18_4 ?_
                      refine nw_iload l_X0_enlistMoon_138 140 rfl rfl ?_
                      refine nw_iload_n l_X0_enlistMoon_140 141 rfl rfl ?_
                      refine nw_iast l_X0_enlistMoon_141 142 rfl k_21 o23 ?_
                      refine nw_aload_n l_X0_enlistMoon_142 143 rfl rfl ?_
                      refine nw_getA l_X0_enlistMoon_143 146 rfl k_1 r_1_5 ?_
                      refine nw_getA l_X0_enlistMoon_146 149 rfl k_18 r_18_5 ?_
                      refine nw_iload l_X0_enlistMoon_149 151 rfl rfl ?_
                      refine nw_iload_n l_X0_enlistMoon_151 152 rfl rfl ?_
                      refine nw_iast l_X0_enlistMoon_152 153 rfl k_22 o23 ?_
                      refine nw_aload_n l_X0_enlistMoon_153 154 rfl rfl ?_
                      refine nw_getA l_X0_enlistMoon_154 157 rfl k_1 r_1_5 ?_
                      refine nw_getA l_X0_enlistMoon_157 160 rfl k_18 r_18_6 ?_
                      refine nw_iload l_X0_enlistMoon_160 162 rfl rfl ?_
                      refine nw_iload l_X0_enlistMoon_162 164 rfl rfl ?_
                      refine nw_iast l_X0_enlistMoon_164 165 rfl k_23 o23 ?_
                      refine nw_aload_n l_X0_enlistMoon_165 166 rfl rfl ?_
                      refine nw_getA l_X0_enlistMoon_166 169 rfl k_1 r_1_5 ?_
                      refine nw_iload l_X0_enlistMoon_169 171 rfl rfl ?_
                      refine nw_iload_n l_X0_enlistMoon_171 172 rfl rfl ?_
                      refine nw_call0 0 18 l_X0_enlistMoon_172 rfl rfl g_X7_moveAshore (Nat.lt_of_lt_of_le (by decide) hD) rfl (Or.inl ⟨_, rfl, k_18⟩) (ls' := [some (.inr (.inl (some 18))), some (.inl (J 18 0)), some (.inl x1)]) rfl (st' := []) rfl 175 rfl ?_
                      refine nw_aload_n l_X7_moveAshore_0 1 rfl rfl ?_
                      refine nw_getA l_X7_moveAshore_1 4 rfl k_18 r_18_7 ?_
                      refine nw_iload_n l_X7_moveAshore_4 5 rfl rfl ?_
                      refine nw_iconst (len := 0) l_X7_moveAshore_5 6 rfl c_n1 ?_
                      refine nw_iast l_X7_moveAshore_6 7 rfl k_24 o23 ?_
                      refine nw_aload_n l_X7_moveAshore_7 8 rfl rfl ?_
                      refine nw_getA l_X7_moveAshore_8 11 rfl k_18 r_18_8 ?_
                      refine nw_iload_n l_X7_moveAshore_11 12 rfl rfl ?_
                      refine nw_iload_n l_X7_moveAshore_12 13 rfl rfl ?_
                      refine nw_iast l_X7_moveAshore_13 14 rfl k_25 o23 ?_
                      refine nw_return l_X7_moveAshore_14 rfl ?_
                      refine nw_aload_n l_X0_enlistMoon_175 176 rfl rfl ?_
                      refine nw_getA l_X0_enlistMoon_176 179 rfl k_1 r_1_5 ?_
                      refine nw_dupA l_X0_enlistMoon_179 180 rfl ?_
                      refine nw_getI l_X0_enlistMoon_180 183 rfl k_18 (v := J 18 0) (show nw_u (nw_u (nw_u (nw_u (nw_u (nw_u (nw_u J 19 (J 18 0) (J 18 1)) 20 (J 18 0) x1) 21 (J 18 0) x2) 22 (J 18 0) x3) 23 (J 18 0) x4) 24 (J 18 0) (-1)) 25 (J 18 0) x1 18 0 = J 18 0 from (nw_uN (a := 25) (b := 18) (by decide)).trans ((nw_uN (a := 24) (b := 18) (by decide)).trans ((nw_uN (a := 23) (b := 18) (by decide)).trans ((nw_uN (a := 22) (b := 18) (by decide)).trans ((nw_uN (a := 21) (b := 18) (by decide)).trans ((nw_uN (a := 20) (b := 18) (by decide)).trans (nw_uN (a := 19) (b := 18) (by decide)))))))) ?_
                      refine nw_iconst (len := 0) l_X0_enlistMoon_183 184 rfl c_1 ?_
                      have o24 := h.1
                      replace h := h.2
                      refine nw_iadd l_X0_enlistMoon_184 185 rfl o24 ?_
                      refine nw_putI l_X0_enlistMoon_185 188 rfl k_18 ?_
                      refine nw_aload_n l_X0_enlistMoon_188 189 rfl rfl ?_
                      refine nw_getA l_X0_enlistMoon_189 192 rfl k_1 r_1_5 ?_
                      refine nw_dupA l_X0_enlistMoon_192 193 rfl ?_
                      refine nw_getI l_X0_enlistMoon_193 196 rfl k_18 (v := J 18 1) (show nw_u (nw_u (nw_u (nw_u (nw_u (nw_u (nw_u (nw_u J 19 (J 18 0) (J 18 1)) 20 (J 18 0) x1) 21 (J 18 0) x2) 22 (J 18 0) x3) 23 (J 18 0) x4) 24 (J 18 0) (-1)) 25 (J 18 0) x1) 18 0 ((J 18 0) + 1) 18 1 = J 18 1 from (nw_uI (i := 0) (j := 1) (by decide)).trans ((nw_uN (a := 25) (b := 18) (by decide)).trans ((nw_uN (a := 24) (b := 18) (by decide)).trans ((nw_uN (a := 23) (b := 18) (by decide)).trans ((nw_uN (a := 22) (b := 18) (by decide)).trans ((nw_uN (a := 21) (b := 18) (by decide)).trans ((nw_uN (a := 20) (b := 18) (by decide)).trans (nw_uN (a := 19) (b := 18) (by decide))))))))) ?_
                      refine nw_iconst (len := 0) l_X0_enlistMoon_196 197 rfl c_1 ?_
                      have o25 := h.1
                      replace h := h.2
                      refine nw_iadd l_X0_enlistMoon_197 198 rfl o25 ?_
                      refine nw_putI l_X0_enlistMoon_198 201 rfl k_18 ?_
                      refine nw_aload_n l_X0_enlistMoon_201 202 rfl rfl ?_
                      refine nw_getA l_X0_enlistMoon_202 205 rfl k_1 r_1_5 ?_
                      refine nw_getA l_X0_enlistMoon_205 208 rfl k_18 r_18_2 ?_
                      refine nw_iload l_X0_enlistMoon_208 210 rfl rfl ?_
                      refine nw_iald l_X0_enlistMoon_210 211 rfl k_19 o23 (v := J 18 1) (show nw_u (nw_u (nw_u (nw_u (nw_u (nw_u (nw_u (nw_u (nw_u J 19 (J 18 0) (J 18 1)) 20 (J 18 0) x1) 21 (J 18 0) x2) 22 (J 18 0) x3) 23 (J 18 0) x4) 24 (J 18 0) (-1)) 25 (J 18 0) x1) 18 0 ((J 18 0) + 1)) 18 1 ((J 18 1) + 1) 19 (J 18 0) = J 18 1 from (nw_uN (a := 18) (b := 19) (by decide)).trans ((nw_uN (a := 18) (b := 19) (by decide)).trans ((nw_uN (a := 25) (b := 19) (by decide)).trans ((nw_uN (a := 24) (b := 19) (by decide)).trans ((nw_uN (a := 23) (b := 19) (by decide)).trans ((nw_uN (a := 22) (b := 19) (by decide)).trans ((nw_uN (a := 21) (b := 19) (by decide)).trans ((nw_uN (a := 20) (b := 19) (by decide)).trans nw_uS)))))))) ?_
                      refine nw_ireturn l_X0_enlistMoon_211 rfl ?_
                      exact h
                    · replace h := h.2 q22
                      refine nw_bipush (len := 0) l_X0_enlistMoon_91 93 rfl c_n3 ?_
                      refine nw_ireturn l_X0_enlistMoon_93 rfl ?_
                      exact h
theorem b_X0_letOneHourPass_0  (hD : 3 ≤ D) (h : ((-2147483648 ≤ (J 2 3) + 1 ∧ (J 2 3) + 1 < 2147483648) ∧ ((0 ≤ (J 2 3) + 1) ∧ ((¬ ((J 2 3) + 1) % 24 = 0 → NW sc d_X0_letOneHourPass D (37, [some (.inr (.inl (some 1))), some (.inl 0), some (.inl 0)], [], (nw_u J 2 3 ((J 2 3) + 1), L, W), c, sl) Qr Qx) ∧ (((J 2 3) + 1) % 24 = 0 → NW sc d_X7_increasePhases 0 (0, [some (.inr (.inl (some 18))), none], [], (nw_u J 2 3 ((J 2 3) + 1), L, W), 0, 0) (fun v M9 => NW sc d_X0_letOneHourPass D (33, [some (.inr (.inl (some 1))), none, none], nw_push v [], M9, c, sl) Qr Qx) Qx))))) :
    NW sc d_X0_letOneHourPass D (0, [some (.inr (.inl (some 1))), none, none], [], (J, L, W), c, sl) Qr Qx := by
  refine nw_aload_n l_X0_letOneHourPass_0 1 rfl rfl ?_
  refine nw_getA l_X0_letOneHourPass_1 4 rfl k_1 r_1_1 ?_
  refine nw_dupA l_X0_letOneHourPass_4 5 rfl ?_
  refine nw_getI l_X0_letOneHourPass_5 8 rfl k_2 (v := J 2 3) rfl ?_
  refine nw_iconst (len := 0) l_X0_letOneHourPass_8 9 rfl c_1 ?_
  have o1 := h.1
  replace h := h.2
  refine nw_iadd l_X0_letOneHourPass_9 10 rfl o1 ?_
  refine nw_putI l_X0_letOneHourPass_10 13 rfl k_2 ?_
  refine nw_aload_n l_X0_letOneHourPass_13 14 rfl rfl ?_
  refine nw_getA l_X0_letOneHourPass_14 17 rfl k_1 r_1_1 ?_
  refine nw_getI l_X0_letOneHourPass_17 20 rfl k_2 (v := (J 2 3) + 1) (show nw_u J 2 3 ((J 2 3) + 1) 2 3 = (J 2 3) + 1 from nw_uS) ?_
  refine nw_bipush (len := 0) l_X0_letOneHourPass_20 22 rfl c_24 ?_
  have o2 := h.1
  replace h := h.2
  refine nw_irem l_X0_letOneHourPass_22 23 rfl ⟨o2, by decide⟩ ?_
  refine nw_if_ne l_X0_letOneHourPass_23 26 rfl (fun q3 => ?_) (fun q3 => ?_)
  · replace h := h.1 q3
    refine nw_iconst (len := 0) l_X0_letOneHourPass_33 34 rfl c_0 ?_
    refine nw_istore_n l_X0_letOneHourPass_34 35 rfl rfl (ls' := [some (.inr (.inl (some 1))), some (.inl 0), none]) rfl ?_
    refine nw_iconst (len := 0) l_X0_letOneHourPass_35 36 rfl c_0 ?_
    refine nw_istore_n l_X0_letOneHourPass_36 37 rfl rfl (ls' := [some (.inr (.inl (some 1))), some (.inl 0), some (.inl 0)]) rfl ?_
    exact h
  · replace h := h.2 q3
    refine nw_aload_n l_X0_letOneHourPass_26 27 rfl rfl ?_
    refine nw_getA l_X0_letOneHourPass_27 30 rfl k_1 r_1_5 ?_
    refine nw_call0 0 18 l_X0_letOneHourPass_30 rfl rfl g_X7_increasePhases (Nat.lt_of_lt_of_le (by decide) hD) rfl (Or.inl ⟨_, rfl, k_18⟩) (ls' := [some (.inr (.inl (some 18))), none]) rfl (st' := []) rfl 33 rfl ?_
    exact h
theorem b_X0_letOneHourPass_37 {x1 : Int} {x2 : Int} (hD : 3 ≤ D) (h : ((J 9 0 ≤ x2 → Qr (some (.inl x1)) (J, L, W)) ∧ (x2 < J 9 0 → ((0 ≤ x2 ∧ x2 < 3) ∧ ((J 11 x2 = (-1) → ((-2147483648 ≤ x2 + 1 ∧ x2 + 1 < 2147483648) ∧ NW sc d_X0_letOneHourPass D (37, [some (.inr (.inl (some 1))), some (.inl x1), some (.inl (x2 + 1))], [], (J, L, W), c, sl) Qr Qx)) ∧ (¬ J 11 x2 = (-1) → ((¬ J 12 x2 = J 2 3 → ((-2147483648 ≤ x2 + 1 ∧ x2 + 1 < 2147483648) ∧ NW sc d_X0_letOneHourPass D (37, [some (.inr (.inl (some 1))), some (.inl x1), some (.inl (x2 + 1))], [], (J, L, W), c, sl) Qr Qx)) ∧ (J 12 x2 = J 2 3 → NW sc d_X4_endPassage 2 (0, [some (.inr (.inl (some 9))), some (.inl x2), none], [], (J, L, W), 0, 0) (fun v M9 => NW sc d_X0_letOneHourPass D (86, [some (.inr (.inl (some 1))), some (.inl x1), some (.inl x2)], nw_push v [], M9, c, sl) Qr Qx) Qx)))))))) :
    NW sc d_X0_letOneHourPass D (37, [some (.inr (.inl (some 1))), some (.inl x1), some (.inl x2)], [], (J, L, W), c, sl) Qr Qx := by
  refine nw_iload_n l_X0_letOneHourPass_37 38 rfl rfl ?_
  refine nw_aload_n l_X0_letOneHourPass_38 39 rfl rfl ?_
  refine nw_getA l_X0_letOneHourPass_39 42 rfl k_1 r_1_4 ?_
  refine nw_getI l_X0_letOneHourPass_42 45 rfl k_9 (v := J 9 0) rfl ?_
  refine nw_ic_ge l_X0_letOneHourPass_45 48 rfl (fun q1 => ?_) (fun q1 => ?_)
  · replace h := h.1 q1
    refine nw_iload_n l_X0_letOneHourPass_123 124 rfl rfl ?_
    refine nw_ireturn l_X0_letOneHourPass_124 rfl ?_
    exact h
  · replace h := h.2 q1
    refine nw_aload_n l_X0_letOneHourPass_48 49 rfl rfl ?_
    refine nw_getA l_X0_letOneHourPass_49 52 rfl k_1 r_1_4 ?_
    refine nw_iload_n l_X0_letOneHourPass_52 53 rfl rfl ?_
    refine nw_call0 0 9 l_X0_letOneHourPass_53 rfl rfl g_X4_underWay (Nat.lt_of_lt_of_le (by decide) hD) rfl (Or.inl ⟨_, rfl, k_9⟩) (ls' := [some (.inr (.inl (some 9))), some (.inl x2)]) rfl (st' := []) rfl 56 rfl ?_
    refine nw_aload_n l_X4_underWay_0 1 rfl rfl ?_
    refine nw_getA l_X4_underWay_1 4 rfl k_9 r_9_2 ?_
    refine nw_iload_n l_X4_underWay_4 5 rfl rfl ?_
    have o2 := h.1
    replace h := h.2
    refine nw_iald l_X4_underWay_5 6 rfl k_11 o2 (v := J 11 x2) rfl ?_
    refine nw_iconst (len := 0) l_X4_underWay_6 7 rfl c_n1 ?_
    refine nw_ic_eq l_X4_underWay_7 10 rfl (fun q3 => ?_) (fun q3 => ?_)
    · replace h := h.1 q3
      refine nw_iconst (len := 0) l_X4_underWay_14 15 rfl c_0 ?_
      refine nw_ireturnZ l_X4_underWay_15 rfl (Or.inl rfl) ?_
      refine nw_if_eq l_X0_letOneHourPass_56 59 rfl (fun _ => ?_) (fun q => absurd q (by decide))
      have o4 := h.1
      replace h := h.2
      refine nw_iinc l_X0_letOneHourPass_117 120 rfl 1 (by decide) rfl rfl o4 (ls' := [some (.inr (.inl (some 1))), some (.inl x1), some (.inl (x2 + 1))]) rfl ?_
      refine nw_goto l_X0_letOneHourPass_120 ?_
      exact h
    · replace h := h.2 q3
      refine nw_iconst (len := 0) l_X4_underWay_10 11 rfl c_1 ?_
      refine nw_goto l_X4_underWay_11 ?_
      refine nw_ireturnZ l_X4_underWay_15 rfl (Or.inr rfl) ?_
      refine nw_if_eq l_X0_letOneHourPass_56 59 rfl (fun q => absurd q (by decide)) (fun _ => ?_)
      refine nw_aload_n l_X0_letOneHourPass_59 60 rfl rfl ?_
      refine nw_getA l_X0_letOneHourPass_60 63 rfl k_1 r_1_4 ?_
      refine nw_getA l_X0_letOneHourPass_63 66 rfl k_9 r_9_3 ?_
      refine nw_iload_n l_X0_letOneHourPass_66 67 rfl rfl ?_
      refine nw_iald l_X0_letOneHourPass_67 68 rfl k_12 o2 (v := J 12 x2) rfl ?_
      refine nw_aload_n l_X0_letOneHourPass_68 69 rfl rfl ?_
      refine nw_getA l_X0_letOneHourPass_69 72 rfl k_1 r_1_1 ?_
      refine nw_getI l_X0_letOneHourPass_72 75 rfl k_2 (v := J 2 3) rfl ?_
      refine nw_ic_ne l_X0_letOneHourPass_75 78 rfl (fun q5 => ?_) (fun q5 => ?_)
      · replace h := h.1 q5
        have o6 := h.1
        replace h := h.2
        refine nw_iinc l_X0_letOneHourPass_117 120 rfl 1 (by decide) rfl rfl o6 (ls' := [some (.inr (.inl (some 1))), some (.inl x1), some (.inl (x2 + 1))]) rfl ?_
        refine nw_goto l_X0_letOneHourPass_120 ?_
        exact h
      · replace h := h.2 q5
        refine nw_aload_n l_X0_letOneHourPass_78 79 rfl rfl ?_
        refine nw_getA l_X0_letOneHourPass_79 82 rfl k_1 r_1_4 ?_
        refine nw_iload_n l_X0_letOneHourPass_82 83 rfl rfl ?_
        refine nw_call0 2 9 l_X0_letOneHourPass_83 rfl rfl g_X4_endPassage (Nat.lt_of_lt_of_le (by decide) hD) rfl (Or.inl ⟨_, rfl, k_9⟩) (ls' := [some (.inr (.inl (some 9))), some (.inl x2), none]) rfl (st' := []) rfl 86 rfl ?_
        exact h
theorem b_X0_letOneHourPass_33  (h : NW sc d_X0_letOneHourPass D (37, [some (.inr (.inl (some 1))), some (.inl 0), some (.inl 0)], [], (J, L, W), c, sl) Qr Qx) :
    NW sc d_X0_letOneHourPass D (33, [some (.inr (.inl (some 1))), none, none], [], (J, L, W), c, sl) Qr Qx := by
  refine nw_iconst (len := 0) l_X0_letOneHourPass_33 34 rfl c_0 ?_
  refine nw_istore_n l_X0_letOneHourPass_34 35 rfl rfl (ls' := [some (.inr (.inl (some 1))), some (.inl 0), none]) rfl ?_
  refine nw_iconst (len := 0) l_X0_letOneHourPass_35 36 rfl c_0 ?_
  refine nw_istore_n l_X0_letOneHourPass_36 37 rfl rfl (ls' := [some (.inr (.inl (some 1))), some (.inl 0), some (.inl 0)]) rfl ?_
  exact h
theorem b_X0_letOneHourPass_86 {x1 : Int} {x2 : Int} (hD : 3 ≤ D) (h : NW sc d_X8_aground 2 (0, [some (.inr (.inl (some 2))), some (.inl x2), none], [], (J, L, W), 0, 0) (fun v M9 => NW sc d_X0_letOneHourPass D (102, [some (.inr (.inl (some 1))), some (.inl x1), some (.inl x2)], nw_push v [.inl (J 9 7), .inr (.inl (some 9))], M9, c, sl) Qr Qx) Qx) :
    NW sc d_X0_letOneHourPass D (86, [some (.inr (.inl (some 1))), some (.inl x1), some (.inl x2)], [], (J, L, W), c, sl) Qr Qx := by
  refine nw_aload_n l_X0_letOneHourPass_86 87 rfl rfl ?_
  refine nw_getA l_X0_letOneHourPass_87 90 rfl k_1 r_1_4 ?_
  refine nw_dupA l_X0_letOneHourPass_90 91 rfl ?_
  refine nw_getI l_X0_letOneHourPass_91 94 rfl k_9 (v := J 9 7) rfl ?_
  refine nw_aload_n l_X0_letOneHourPass_94 95 rfl rfl ?_
  refine nw_getA l_X0_letOneHourPass_95 98 rfl k_1 r_1_1 ?_
  refine nw_iload_n l_X0_letOneHourPass_98 99 rfl rfl ?_
  refine nw_call0 2 2 l_X0_letOneHourPass_99 rfl rfl g_X8_aground (Nat.lt_of_lt_of_le (by decide) hD) rfl (Or.inl ⟨_, rfl, k_2⟩) (ls' := [some (.inr (.inl (some 2))), some (.inl x2), none]) rfl (st' := [.inl (J 9 7), .inr (.inl (some 9))]) rfl 102 rfl ?_
  exact h
theorem b_X0_letOneHourPass_102 {x1 : Int} {x2 : Int} {y0 : Int} {y1 : Int} (h : ((y0 = 0 → ((-2147483648 ≤ y1 + 0 ∧ y1 + 0 < 2147483648) ∧ ((-2147483648 ≤ x1 + 1 ∧ x1 + 1 < 2147483648) ∧ ((-2147483648 ≤ x2 + 1 ∧ x2 + 1 < 2147483648) ∧ NW sc d_X0_letOneHourPass D (37, [some (.inr (.inl (some 1))), some (.inl (x1 + 1)), some (.inl (x2 + 1))], [], (nw_u J 9 7 (y1 + 0), L, W), c, sl) Qr Qx)))) ∧ (¬ y0 = 0 → ((-2147483648 ≤ y1 + 1 ∧ y1 + 1 < 2147483648) ∧ ((-2147483648 ≤ x1 + 1 ∧ x1 + 1 < 2147483648) ∧ ((-2147483648 ≤ x2 + 1 ∧ x2 + 1 < 2147483648) ∧ NW sc d_X0_letOneHourPass D (37, [some (.inr (.inl (some 1))), some (.inl (x1 + 1)), some (.inl (x2 + 1))], [], (nw_u J 9 7 (y1 + 1), L, W), c, sl) Qr Qx)))))) :
    NW sc d_X0_letOneHourPass D (102, [some (.inr (.inl (some 1))), some (.inl x1), some (.inl x2)], [.inl y0, .inl y1, .inr (.inl (some 9))], (J, L, W), c, sl) Qr Qx := by
  refine nw_if_eq l_X0_letOneHourPass_102 105 rfl (fun q1 => ?_) (fun q1 => ?_)
  · replace h := h.1 q1
    refine nw_iconst (len := 0) l_X0_letOneHourPass_109 110 rfl c_0 ?_
    have o2 := h.1
    replace h := h.2
    refine nw_iadd l_X0_letOneHourPass_110 111 rfl o2 ?_
    refine nw_putI l_X0_letOneHourPass_111 114 rfl k_9 ?_
    have o3 := h.1
    replace h := h.2
    refine nw_iinc l_X0_letOneHourPass_114 117 rfl 1 (by decide) rfl rfl o3 (ls' := [some (.inr (.inl (some 1))), some (.inl (x1 + 1)), some (.inl x2)]) rfl ?_
    have o4 := h.1
    replace h := h.2
    refine nw_iinc l_X0_letOneHourPass_117 120 rfl 1 (by decide) rfl rfl o4 (ls' := [some (.inr (.inl (some 1))), some (.inl (x1 + 1)), some (.inl (x2 + 1))]) rfl ?_
    refine nw_goto l_X0_letOneHourPass_120 ?_
    exact h
  · replace h := h.2 q1
    refine nw_iconst (len := 0) l_X0_letOneHourPass_105 106 rfl c_1 ?_
    refine nw_goto l_X0_letOneHourPass_106 ?_
    have o5 := h.1
    replace h := h.2
    refine nw_iadd l_X0_letOneHourPass_110 111 rfl o5 ?_
    refine nw_putI l_X0_letOneHourPass_111 114 rfl k_9 ?_
    have o6 := h.1
    replace h := h.2
    refine nw_iinc l_X0_letOneHourPass_114 117 rfl 1 (by decide) rfl rfl o6 (ls' := [some (.inr (.inl (some 1))), some (.inl (x1 + 1)), some (.inl x2)]) rfl ?_
    have o7 := h.1
    replace h := h.2
    refine nw_iinc l_X0_letOneHourPass_117 120 rfl 1 (by decide) rfl rfl o7 (ls' := [some (.inr (.inl (some 1))), some (.inl (x1 + 1)), some (.inl (x2 + 1))]) rfl ?_
    refine nw_goto l_X0_letOneHourPass_120 ?_
    exact h
theorem b_X0_letPass_0 {x1 : Int} (h : ((x1 < 1 → Qr (some (.inl (-2))) (J, L, W)) ∧ (1 ≤ x1 → ((x1 ≤ 48 → NW sc d_X0_letPass D (18, [some (.inr (.inl (some 1))), some (.inl x1), some (.inl 0), some (.inl 0)], [], (J, L, W), c, sl) Qr Qx) ∧ (48 < x1 → Qr (some (.inl (-2))) (J, L, W)))))) :
    NW sc d_X0_letPass D (0, [some (.inr (.inl (some 1))), some (.inl x1), none, none], [], (J, L, W), c, sl) Qr Qx := by
  refine nw_iload_n l_X0_letPass_0 1 rfl rfl ?_
  refine nw_iconst (len := 0) l_X0_letPass_1 2 rfl c_1 ?_
  refine nw_ic_lt l_X0_letPass_2 5 rfl (fun q1 => ?_) (fun q1 => ?_)
  · replace h := h.1 q1
    refine nw_bipush (len := 0) l_X0_letPass_11 13 rfl c_n2 ?_
    refine nw_ireturn l_X0_letPass_13 rfl ?_
    exact h
  · replace h := h.2 q1
    refine nw_iload_n l_X0_letPass_5 6 rfl rfl ?_
    refine nw_bipush (len := 0) l_X0_letPass_6 8 rfl c_48 ?_
    refine nw_ic_le l_X0_letPass_8 11 rfl (fun q2 => ?_) (fun q2 => ?_)
    · replace h := h.1 q2
      refine nw_iconst (len := 0) l_X0_letPass_14 15 rfl c_0 ?_
      refine nw_istore_n l_X0_letPass_15 16 rfl rfl (ls' := [some (.inr (.inl (some 1))), some (.inl x1), some (.inl 0), none]) rfl ?_
      refine nw_iconst (len := 0) l_X0_letPass_16 17 rfl c_0 ?_
      refine nw_istore_n l_X0_letPass_17 18 rfl rfl (ls' := [some (.inr (.inl (some 1))), some (.inl x1), some (.inl 0), some (.inl 0)]) rfl ?_
      exact h
    · replace h := h.2 q2
      refine nw_bipush (len := 0) l_X0_letPass_11 13 rfl c_n2 ?_
      refine nw_ireturn l_X0_letPass_13 rfl ?_
      exact h
theorem b_X0_letPass_18 {x1 : Int} {x2 : Int} {x3 : Int} (hD : 4 ≤ D) (h : ((x1 ≤ x3 → Qr (some (.inl x2)) (J, L, W)) ∧ (x3 < x1 → NW sc d_X0_letOneHourPass 3 (0, [some (.inr (.inl (some 1))), none, none], [], (J, L, W), 0, 0) (fun v M9 => NW sc d_X0_letPass D (28, [some (.inr (.inl (some 1))), some (.inl x1), none, some (.inl x3)], nw_push v [.inl x2], M9, c, sl) Qr Qx) Qx))) :
    NW sc d_X0_letPass D (18, [some (.inr (.inl (some 1))), some (.inl x1), some (.inl x2), some (.inl x3)], [], (J, L, W), c, sl) Qr Qx := by
  refine nw_iload_n l_X0_letPass_18 19 rfl rfl ?_
  refine nw_iload_n l_X0_letPass_19 20 rfl rfl ?_
  refine nw_ic_ge l_X0_letPass_20 23 rfl (fun q1 => ?_) (fun q1 => ?_)
  · replace h := h.1 q1
    refine nw_iload_n l_X0_letPass_36 37 rfl rfl ?_
    refine nw_ireturn l_X0_letPass_37 rfl ?_
    exact h
  · replace h := h.2 q1
    refine nw_iload_n l_X0_letPass_23 24 rfl rfl ?_
    refine nw_aload_n l_X0_letPass_24 25 rfl rfl ?_
    refine nw_drop (ls' := [some (.inr (.inl (some 1))), some (.inl x1), none, some (.inl x3)]) ⟨rfl, ⟨rfl, ⟨True.intro, ⟨rfl, True.intro⟩⟩⟩⟩ ?_
    refine nw_call0 3 1 l_X0_letPass_25 rfl rfl g_X0_letOneHourPass (Nat.lt_of_lt_of_le (by decide) hD) rfl (Or.inl ⟨_, rfl, k_1⟩) (ls' := [some (.inr (.inl (some 1))), none, none]) rfl (st' := [.inl x2]) rfl 28 rfl ?_
    exact h
theorem b_X0_letPass_28 {x1 : Int} {x3 : Int} {y0 : Int} {y1 : Int} (h : ((-2147483648 ≤ y1 + y0 ∧ y1 + y0 < 2147483648) ∧ ((-2147483648 ≤ x3 + 1 ∧ x3 + 1 < 2147483648) ∧ NW sc d_X0_letPass D (18, [some (.inr (.inl (some 1))), some (.inl x1), some (.inl (y1 + y0)), some (.inl (x3 + 1))], [], (J, L, W), c, sl) Qr Qx))) :
    NW sc d_X0_letPass D (28, [some (.inr (.inl (some 1))), some (.inl x1), none, some (.inl x3)], [.inl y0, .inl y1], (J, L, W), c, sl) Qr Qx := by
  have o1 := h.1
  replace h := h.2
  refine nw_iadd l_X0_letPass_28 29 rfl o1 ?_
  refine nw_istore_n l_X0_letPass_29 30 rfl rfl (ls' := [some (.inr (.inl (some 1))), some (.inl x1), some (.inl (y1 + y0)), some (.inl x3)]) rfl ?_
  have o2 := h.1
  replace h := h.2
  refine nw_iinc l_X0_letPass_30 33 rfl 1 (by decide) rfl rfl o2 (ls' := [some (.inr (.inl (some 1))), some (.inl x1), some (.inl (y1 + y0)), some (.inl (x3 + 1))]) rfl ?_
  refine nw_goto l_X0_letPass_33 ?_
  exact h
theorem b_X0_openChannel_0 {x1 : Int} {x2 : Int} {x3 : Int} {x4 : Int} (hD : 2 ≤ D) (h : ((x1 < 0 → Qr (some (.inl (-1))) (J, L, W)) ∧ (0 ≤ x1 → ((J 3 0 ≤ x1 → Qr (some (.inl (-1))) (J, L, W)) ∧ (x1 < J 3 0 → ((x2 < 0 → Qr (some (.inl (-1))) (J, L, W)) ∧ (0 ≤ x2 → ((J 3 0 ≤ x2 → Qr (some (.inl (-1))) (J, L, W)) ∧ (x2 < J 3 0 → ((x3 < 1 → ((x4 < 0 → ((x1 = x2 → Qr (some (.inl (-2))) (J, L, W)) ∧ (¬ x1 = x2 → Qr (some (.inl (-2))) (J, L, W)))) ∧ (0 ≤ x4 → ((9 < x4 → ((x1 = x2 → Qr (some (.inl (-2))) (J, L, W)) ∧ (¬ x1 = x2 → Qr (some (.inl (-2))) (J, L, W)))) ∧ (x4 ≤ 9 → ((x1 = x2 → Qr (some (.inl (-2))) (J, L, W)) ∧ (¬ x1 = x2 → Qr (some (.inl (-2))) (J, L, W)))))))) ∧ (1 ≤ x3 → ((9 < x3 → ((x4 < 0 → ((x1 = x2 → Qr (some (.inl (-2))) (J, L, W)) ∧ (¬ x1 = x2 → Qr (some (.inl (-2))) (J, L, W)))) ∧ (0 ≤ x4 → ((9 < x4 → ((x1 = x2 → Qr (some (.inl (-2))) (J, L, W)) ∧ (¬ x1 = x2 → Qr (some (.inl (-2))) (J, L, W)))) ∧ (x4 ≤ 9 → ((x1 = x2 → Qr (some (.inl (-2))) (J, L, W)) ∧ (¬ x1 = x2 → Qr (some (.inl (-2))) (J, L, W)))))))) ∧ (x3 ≤ 9 → ((x4 < 0 → ((x1 = x2 → Qr (some (.inl (-2))) (J, L, W)) ∧ (¬ x1 = x2 → Qr (some (.inl (-2))) (J, L, W)))) ∧ (0 ≤ x4 → ((9 < x4 → ((x1 = x2 → Qr (some (.inl (-2))) (J, L, W)) ∧ (¬ x1 = x2 → Qr (some (.inl (-2))) (J, L, W)))) ∧ (x4 ≤ 9 → ((x1 = x2 → Qr (some (.inl (-2))) (J, L, W)) ∧ (¬ x1 = x2 → ((10 ≤ J 3 1 → Qr (some (.inl (-3))) (J, L, W)) ∧ (J 3 1 < 10 → NW sc d_X9_findChannel 1 (0, [some (.inr (.inl (some 3))), some (.inl x1), some (.inl x2), none], [], (J, L, W), 0, 0) (fun v M9 => NW sc d_X0_openChannel D (100, [some (.inr (.inl (some 1))), some (.inl x1), some (.inl x2), some (.inl x3), some (.inl x4), none, none, none], nw_push v [], M9, c, sl) Qr Qx) Qx))))))))))))))))))))) :
    NW sc d_X0_openChannel D (0, [some (.inr (.inl (some 1))), some (.inl x1), some (.inl x2), some (.inl x3), some (.inl x4), none, none, none], [], (J, L, W), c, sl) Qr Qx := by
  refine nw_aload_n l_X0_openChannel_0 1 rfl rfl ?_
  refine nw_getA l_X0_openChannel_1 4 rfl k_1 r_1_3 ?_
  refine nw_iload_n l_X0_openChannel_4 5 rfl rfl ?_
  refine nw_call0 0 3 l_X0_openChannel_5 rfl rfl g_X9_hasCrater (Nat.lt_of_lt_of_le (by decide) hD) rfl (Or.inl ⟨_, rfl, k_3⟩) (ls' := [some (.inr (.inl (some 3))), some (.inl x1)]) rfl (st' := []) rfl 8 rfl ?_
  refine nw_iload_n l_X9_hasCrater_0 1 rfl rfl ?_
  refine nw_if_lt l_X9_hasCrater_1 4 rfl (fun q1 => ?_) (fun q1 => ?_)
  · replace h := h.1 q1
    refine nw_iconst (len := 0) l_X9_hasCrater_16 17 rfl c_0 ?_
    refine nw_ireturnZ l_X9_hasCrater_17 rfl (Or.inl rfl) ?_
    refine nw_if_eq l_X0_openChannel_8 11 rfl (fun _ => ?_) (fun q => absurd q (by decide))
    refine nw_iconst (len := 0) l_X0_openChannel_22 23 rfl c_n1 ?_
    refine nw_ireturn l_X0_openChannel_23 rfl ?_
    exact h
  · replace h := h.2 q1
    refine nw_iload_n l_X9_hasCrater_4 5 rfl rfl ?_
    refine nw_aload_n l_X9_hasCrater_5 6 rfl rfl ?_
    refine nw_getI l_X9_hasCrater_6 9 rfl k_3 (v := J 3 0) rfl ?_
    refine nw_ic_ge l_X9_hasCrater_9 12 rfl (fun q2 => ?_) (fun q2 => ?_)
    · replace h := h.1 q2
      refine nw_iconst (len := 0) l_X9_hasCrater_16 17 rfl c_0 ?_
      refine nw_ireturnZ l_X9_hasCrater_17 rfl (Or.inl rfl) ?_
      refine nw_if_eq l_X0_openChannel_8 11 rfl (fun _ => ?_) (fun q => absurd q (by decide))
      refine nw_iconst (len := 0) l_X0_openChannel_22 23 rfl c_n1 ?_
      refine nw_ireturn l_X0_openChannel_23 rfl ?_
      exact h
    · replace h := h.2 q2
      refine nw_iconst (len := 0) l_X9_hasCrater_12 13 rfl c_1 ?_
      refine nw_goto l_X9_hasCrater_13 ?_
      refine nw_ireturnZ l_X9_hasCrater_17 rfl (Or.inr rfl) ?_
      refine nw_if_eq l_X0_openChannel_8 11 rfl (fun q => absurd q (by decide)) (fun _ => ?_)
      refine nw_aload_n l_X0_openChannel_11 12 rfl rfl ?_
      refine nw_getA l_X0_openChannel_12 15 rfl k_1 r_1_3 ?_
      refine nw_iload_n l_X0_openChannel_15 16 rfl rfl ?_
      refine nw_call0 0 3 l_X0_openChannel_16 rfl rfl g_X9_hasCrater (Nat.lt_of_lt_of_le (by decide) hD) rfl (Or.inl ⟨_, rfl, k_3⟩) (ls' := [some (.inr (.inl (some 3))), some (.inl x2)]) rfl (st' := []) rfl 19 rfl ?_
      refine nw_iload_n l_X9_hasCrater_0 1 rfl rfl ?_
      refine nw_if_lt l_X9_hasCrater_1 4 rfl (fun q3 => ?_) (fun q3 => ?_)
      · replace h := h.1 q3
        refine nw_iconst (len := 0) l_X9_hasCrater_16 17 rfl c_0 ?_
        refine nw_ireturnZ l_X9_hasCrater_17 rfl (Or.inl rfl) ?_
        refine nw_if_ne l_X0_openChannel_19 22 rfl (fun q => absurd q (by decide)) (fun _ => ?_)
        refine nw_iconst (len := 0) l_X0_openChannel_22 23 rfl c_n1 ?_
        refine nw_ireturn l_X0_openChannel_23 rfl ?_
        exact h
      · replace h := h.2 q3
        refine nw_iload_n l_X9_hasCrater_4 5 rfl rfl ?_
        refine nw_aload_n l_X9_hasCrater_5 6 rfl rfl ?_
        refine nw_getI l_X9_hasCrater_6 9 rfl k_3 (v := J 3 0) rfl ?_
        refine nw_ic_ge l_X9_hasCrater_9 12 rfl (fun q4 => ?_) (fun q4 => ?_)
        · replace h := h.1 q4
          refine nw_iconst (len := 0) l_X9_hasCrater_16 17 rfl c_0 ?_
          refine nw_ireturnZ l_X9_hasCrater_17 rfl (Or.inl rfl) ?_
          refine nw_if_ne l_X0_openChannel_19 22 rfl (fun q => absurd q (by decide)) (fun _ => ?_)
          refine nw_iconst (len := 0) l_X0_openChannel_22 23 rfl c_n1 ?_
          refine nw_ireturn l_X0_openChannel_23 rfl ?_
          exact h
        · replace h := h.2 q4
          refine nw_iconst (len := 0) l_X9_hasCrater_12 13 rfl c_1 ?_
          refine nw_goto l_X9_hasCrater_13 ?_
          refine nw_ireturnZ l_X9_hasCrater_17 rfl (Or.inr rfl) ?_
          refine nw_if_ne l_X0_openChannel_19 22 rfl (fun _ => ?_) (fun q => absurd q (by decide))
          refine nw_iload_n l_X0_openChannel_24 25 rfl rfl ?_
          refine nw_iconst (len := 0) l_X0_openChannel_25 26 rfl c_1 ?_
          refine nw_ic_lt l_X0_openChannel_26 29 rfl (fun q5 => ?_) (fun q5 => ?_)
          · replace h := h.1 q5
            refine nw_iconst (len := 0) l_X0_openChannel_39 40 rfl c_0 ?_
            refine nw_istore l_X0_openChannel_40 42 rfl rfl (ls' := [some (.inr (.inl (some 1))), some (.inl x1), some (.inl x2), some (.inl x3), some (.inl x4), some (.inl 0), none, none]) rfl ?_
            refine nw_iload l_X0_openChannel_42 44 rfl rfl ?_
            refine nw_if_lt l_X0_openChannel_44 47 rfl (fun q6 => ?_) (fun q6 => ?_)
            · replace h := h.1 q6
              refine nw_iconst (len := 0) l_X0_openChannel_58 59 rfl c_0 ?_
              refine nw_istore l_X0_openChannel_59 61 rfl rfl (ls' := [some (.inr (.inl (some 1))), some (.inl x1), some (.inl x2), some (.inl x3), some (.inl x4), some (.inl 0), some (.inl 0), none]) rfl ?_
              refine nw_iload_n l_X0_openChannel_61 62 rfl rfl ?_
              refine nw_iload_n l_X0_openChannel_62 63 rfl rfl ?_
              refine nw_ic_eq l_X0_openChannel_63 66 rfl (fun q7 => ?_) (fun q7 => ?_)
              · replace h := h.1 q7
                refine nw_bipush (len := 0) l_X0_openChannel_76 78 rfl c_n2 ?_
                refine nw_ireturn l_X0_openChannel_78 rfl ?_
                exact h
              · replace h := h.2 q7
                refine nw_iload l_X0_openChannel_66 68 rfl rfl ?_
                refine nw_if_eq l_X0_openChannel_68 71 rfl (fun _ => ?_) (fun q => absurd q (by decide))
                refine nw_bipush (len := 0) l_X0_openChannel_76 78 rfl c_n2 ?_
                refine nw_ireturn l_X0_openChannel_78 rfl ?_
                exact h
            · replace h := h.2 q6
              refine nw_iload l_X0_openChannel_47 49 rfl rfl ?_
              refine nw_bipush (len := 0) l_X0_openChannel_49 51 rfl c_9 ?_
              refine nw_ic_gt l_X0_openChannel_51 54 rfl (fun q8 => ?_) (fun q8 => ?_)
              · replace h := h.1 q8
                refine nw_iconst (len := 0) l_X0_openChannel_58 59 rfl c_0 ?_
                refine nw_istore l_X0_openChannel_59 61 rfl rfl (ls' := [some (.inr (.inl (some 1))), some (.inl x1), some (.inl x2), some (.inl x3), some (.inl x4), some (.inl 0), some (.inl 0), none]) rfl ?_
                refine nw_iload_n l_X0_openChannel_61 62 rfl rfl ?_
                refine nw_iload_n l_X0_openChannel_62 63 rfl rfl ?_
                refine nw_ic_eq l_X0_openChannel_63 66 rfl (fun q9 => ?_) (fun q9 => ?_)
                · replace h := h.1 q9
                  refine nw_bipush (len := 0) l_X0_openChannel_76 78 rfl c_n2 ?_
                  refine nw_ireturn l_X0_openChannel_78 rfl ?_
                  exact h
                · replace h := h.2 q9
                  refine nw_iload l_X0_openChannel_66 68 rfl rfl ?_
                  refine nw_if_eq l_X0_openChannel_68 71 rfl (fun _ => ?_) (fun q => absurd q (by decide))
                  refine nw_bipush (len := 0) l_X0_openChannel_76 78 rfl c_n2 ?_
                  refine nw_ireturn l_X0_openChannel_78 rfl ?_
                  exact h
              · replace h := h.2 q8
                refine nw_iconst (len := 0) l_X0_openChannel_54 55 rfl c_1 ?_
                refine nw_goto l_X0_openChannel_55 ?_
                refine nw_istore l_X0_openChannel_59 61 rfl rfl (ls' := [some (.inr (.inl (some 1))), some (.inl x1), some (.inl x2), some (.inl x3), some (.inl x4), some (.inl 0), some (.inl 1), none]) rfl ?_
                refine nw_iload_n l_X0_openChannel_61 62 rfl rfl ?_
                refine nw_iload_n l_X0_openChannel_62 63 rfl rfl ?_
                refine nw_ic_eq l_X0_openChannel_63 66 rfl (fun q10 => ?_) (fun q10 => ?_)
                · replace h := h.1 q10
                  refine nw_bipush (len := 0) l_X0_openChannel_76 78 rfl c_n2 ?_
                  refine nw_ireturn l_X0_openChannel_78 rfl ?_
                  exact h
                · replace h := h.2 q10
                  refine nw_iload l_X0_openChannel_66 68 rfl rfl ?_
                  refine nw_if_eq l_X0_openChannel_68 71 rfl (fun _ => ?_) (fun q => absurd q (by decide))
                  refine nw_bipush (len := 0) l_X0_openChannel_76 78 rfl c_n2 ?_
                  refine nw_ireturn l_X0_openChannel_78 rfl ?_
                  exact h
          · replace h := h.2 q5
            refine nw_iload_n l_X0_openChannel_29 30 rfl rfl ?_
            refine nw_bipush (len := 0) l_X0_openChannel_30 32 rfl c_9 ?_
            refine nw_ic_gt l_X0_openChannel_32 35 rfl (fun q11 => ?_) (fun q11 => ?_)
            · replace h := h.1 q11
              refine nw_iconst (len := 0) l_X0_openChannel_39 40 rfl c_0 ?_
              refine nw_istore l_X0_openChannel_40 42 rfl rfl (ls' := [some (.inr (.inl (some 1))), some (.inl x1), some (.inl x2), some (.inl x3), some (.inl x4), some (.inl 0), none, none]) rfl ?_
              refine nw_iload l_X0_openChannel_42 44 rfl rfl ?_
              refine nw_if_lt l_X0_openChannel_44 47 rfl (fun q12 => ?_) (fun q12 => ?_)
              · replace h := h.1 q12
                refine nw_iconst (len := 0) l_X0_openChannel_58 59 rfl c_0 ?_
                refine nw_istore l_X0_openChannel_59 61 rfl rfl (ls' := [some (.inr (.inl (some 1))), some (.inl x1), some (.inl x2), some (.inl x3), some (.inl x4), some (.inl 0), some (.inl 0), none]) rfl ?_
                refine nw_iload_n l_X0_openChannel_61 62 rfl rfl ?_
                refine nw_iload_n l_X0_openChannel_62 63 rfl rfl ?_
                refine nw_ic_eq l_X0_openChannel_63 66 rfl (fun q13 => ?_) (fun q13 => ?_)
                · replace h := h.1 q13
                  refine nw_bipush (len := 0) l_X0_openChannel_76 78 rfl c_n2 ?_
                  refine nw_ireturn l_X0_openChannel_78 rfl ?_
                  exact h
                · replace h := h.2 q13
                  refine nw_iload l_X0_openChannel_66 68 rfl rfl ?_
                  refine nw_if_eq l_X0_openChannel_68 71 rfl (fun _ => ?_) (fun q => absurd q (by decide))
                  refine nw_bipush (len := 0) l_X0_openChannel_76 78 rfl c_n2 ?_
                  refine nw_ireturn l_X0_openChannel_78 rfl ?_
                  exact h
              · replace h := h.2 q12
                refine nw_iload l_X0_openChannel_47 49 rfl rfl ?_
                refine nw_bipush (len := 0) l_X0_openChannel_49 51 rfl c_9 ?_
                refine nw_ic_gt l_X0_openChannel_51 54 rfl (fun q14 => ?_) (fun q14 => ?_)
                · replace h := h.1 q14
                  refine nw_iconst (len := 0) l_X0_openChannel_58 59 rfl c_0 ?_
                  refine nw_istore l_X0_openChannel_59 61 rfl rfl (ls' := [some (.inr (.inl (some 1))), some (.inl x1), some (.inl x2), some (.inl x3), some (.inl x4), some (.inl 0), some (.inl 0), none]) rfl ?_
                  refine nw_iload_n l_X0_openChannel_61 62 rfl rfl ?_
                  refine nw_iload_n l_X0_openChannel_62 63 rfl rfl ?_
                  refine nw_ic_eq l_X0_openChannel_63 66 rfl (fun q15 => ?_) (fun q15 => ?_)
                  · replace h := h.1 q15
                    refine nw_bipush (len := 0) l_X0_openChannel_76 78 rfl c_n2 ?_
                    refine nw_ireturn l_X0_openChannel_78 rfl ?_
                    exact h
                  · replace h := h.2 q15
                    refine nw_iload l_X0_openChannel_66 68 rfl rfl ?_
                    refine nw_if_eq l_X0_openChannel_68 71 rfl (fun _ => ?_) (fun q => absurd q (by decide))
                    refine nw_bipush (len := 0) l_X0_openChannel_76 78 rfl c_n2 ?_
                    refine nw_ireturn l_X0_openChannel_78 rfl ?_
                    exact h
                · replace h := h.2 q14
                  refine nw_iconst (len := 0) l_X0_openChannel_54 55 rfl c_1 ?_
                  refine nw_goto l_X0_openChannel_55 ?_
                  refine nw_istore l_X0_openChannel_59 61 rfl rfl (ls' := [some (.inr (.inl (some 1))), some (.inl x1), some (.inl x2), some (.inl x3), some (.inl x4), some (.inl 0), some (.inl 1), none]) rfl ?_
                  refine nw_iload_n l_X0_openChannel_61 62 rfl rfl ?_
                  refine nw_iload_n l_X0_openChannel_62 63 rfl rfl ?_
                  refine nw_ic_eq l_X0_openChannel_63 66 rfl (fun q16 => ?_) (fun q16 => ?_)
                  · replace h := h.1 q16
                    refine nw_bipush (len := 0) l_X0_openChannel_76 78 rfl c_n2 ?_
                    refine nw_ireturn l_X0_openChannel_78 rfl ?_
                    exact h
                  · replace h := h.2 q16
                    refine nw_iload l_X0_openChannel_66 68 rfl rfl ?_
                    refine nw_if_eq l_X0_openChannel_68 71 rfl (fun _ => ?_) (fun q => absurd q (by decide))
                    refine nw_bipush (len := 0) l_X0_openChannel_76 78 rfl c_n2 ?_
                    refine nw_ireturn l_X0_openChannel_78 rfl ?_
                    exact h
            · replace h := h.2 q11
              refine nw_iconst (len := 0) l_X0_openChannel_35 36 rfl c_1 ?_
              refine nw_goto l_X0_openChannel_36 ?_
              refine nw_istore l_X0_openChannel_40 42 rfl rfl (ls' := [some (.inr (.inl (some 1))), some (.inl x1), some (.inl x2), some (.inl x3), some (.inl x4), some (.inl 1), none, none]) rfl ?_
              refine nw_iload l_X0_openChannel_42 44 rfl rfl ?_
              refine nw_if_lt l_X0_openChannel_44 47 rfl (fun q17 => ?_) (fun q17 => ?_)
              · replace h := h.1 q17
                refine nw_iconst (len := 0) l_X0_openChannel_58 59 rfl c_0 ?_
                refine nw_istore l_X0_openChannel_59 61 rfl rfl (ls' := [some (.inr (.inl (some 1))), some (.inl x1), some (.inl x2), some (.inl x3), some (.inl x4), some (.inl 1), some (.inl 0), none]) rfl ?_
                refine nw_iload_n l_X0_openChannel_61 62 rfl rfl ?_
                refine nw_iload_n l_X0_openChannel_62 63 rfl rfl ?_
                refine nw_ic_eq l_X0_openChannel_63 66 rfl (fun q18 => ?_) (fun q18 => ?_)
                · replace h := h.1 q18
                  refine nw_bipush (len := 0) l_X0_openChannel_76 78 rfl c_n2 ?_
                  refine nw_ireturn l_X0_openChannel_78 rfl ?_
                  exact h
                · replace h := h.2 q18
                  refine nw_iload l_X0_openChannel_66 68 rfl rfl ?_
                  refine nw_if_eq l_X0_openChannel_68 71 rfl (fun q => absurd q (by decide)) (fun _ => ?_)
                  refine nw_iload l_X0_openChannel_71 73 rfl rfl ?_
                  refine nw_if_ne l_X0_openChannel_73 76 rfl (fun q => absurd q (by decide)) (fun _ => ?_)
                  refine nw_bipush (len := 0) l_X0_openChannel_76 78 rfl c_n2 ?_
                  refine nw_ireturn l_X0_openChannel_78 rfl ?_
                  exact h
              · replace h := h.2 q17
                refine nw_iload l_X0_openChannel_47 49 rfl rfl ?_
                refine nw_bipush (len := 0) l_X0_openChannel_49 51 rfl c_9 ?_
                refine nw_ic_gt l_X0_openChannel_51 54 rfl (fun q19 => ?_) (fun q19 => ?_)
                · replace h := h.1 q19
                  refine nw_iconst (len := 0) l_X0_openChannel_58 59 rfl c_0 ?_
                  refine nw_istore l_X0_openChannel_59 61 rfl rfl (ls' := [some (.inr (.inl (some 1))), some (.inl x1), some (.inl x2), some (.inl x3), some (.inl x4), some (.inl 1), some (.inl 0), none]) rfl ?_
                  refine nw_iload_n l_X0_openChannel_61 62 rfl rfl ?_
                  refine nw_iload_n l_X0_openChannel_62 63 rfl rfl ?_
                  refine nw_ic_eq l_X0_openChannel_63 66 rfl (fun q20 => ?_) (fun q20 => ?_)
                  · replace h := h.1 q20
                    refine nw_bipush (len := 0) l_X0_openChannel_76 78 rfl c_n2 ?_
                    refine nw_ireturn l_X0_openChannel_78 rfl ?_
                    exact h
                  · replace h := h.2 q20
                    refine nw_iload l_X0_openChannel_66 68 rfl rfl ?_
                    refine nw_if_eq l_X0_openChannel_68 71 rfl (fun q => absurd q (by decide)) (fun _ => ?_)
                    refine nw_iload l_X0_openChannel_71 73 rfl rfl ?_
                    refine nw_if_ne l_X0_openChannel_73 76 rfl (fun q => absurd q (by decide)) (fun _ => ?_)
                    refine nw_bipush (len := 0) l_X0_openChannel_76 78 rfl c_n2 ?_
                    refine nw_ireturn l_X0_openChannel_78 rfl ?_
                    exact h
                · replace h := h.2 q19
                  refine nw_iconst (len := 0) l_X0_openChannel_54 55 rfl c_1 ?_
                  refine nw_goto l_X0_openChannel_55 ?_
                  refine nw_istore l_X0_openChannel_59 61 rfl rfl (ls' := [some (.inr (.inl (some 1))), some (.inl x1), some (.inl x2), some (.inl x3), some (.inl x4), some (.inl 1), some (.inl 1), none]) rfl ?_
                  refine nw_iload_n l_X0_openChannel_61 62 rfl rfl ?_
                  refine nw_iload_n l_X0_openChannel_62 63 rfl rfl ?_
                  refine nw_ic_eq l_X0_openChannel_63 66 rfl (fun q21 => ?_) (fun q21 => ?_)
                  · replace h := h.1 q21
                    refine nw_bipush (len := 0) l_X0_openChannel_76 78 rfl c_n2 ?_
                    refine nw_ireturn l_X0_openChannel_78 rfl ?_
                    exact h
                  · replace h := h.2 q21
                    refine nw_iload l_X0_openChannel_66 68 rfl rfl ?_
                    refine nw_if_eq l_X0_openChannel_68 71 rfl (fun q => absurd q (by decide)) (fun _ => ?_)
                    refine nw_iload l_X0_openChannel_71 73 rfl rfl ?_
                    refine nw_if_ne l_X0_openChannel_73 76 rfl (fun _ => ?_) (fun q => absurd q (by decide))
                    refine nw_aload_n l_X0_openChannel_79 80 rfl rfl ?_
                    refine nw_getA l_X0_openChannel_80 83 rfl k_1 r_1_3 ?_
                    refine nw_getI l_X0_openChannel_83 86 rfl k_3 (v := J 3 1) rfl ?_
                    refine nw_bipush (len := 0) l_X0_openChannel_86 88 rfl c_10 ?_
                    refine nw_ic_ge l_X0_openChannel_88 91 rfl (fun q22 => ?_) (fun q22 => ?_)
                    · replace h := h.1 q22
                      refine nw_bipush (len := 0) l_X0_openChannel_104 106 rfl c_n3 ?_
                      refine nw_ireturn l_X0_openChannel_106 rfl ?_
                      exact h
                    · replace h := h.2 q22
                      refine nw_aload_n l_X0_openChannel_91 92 rfl rfl ?_
                      refine nw_getA l_X0_openChannel_92 95 rfl k_1 r_1_3 ?_
                      refine nw_iload_n l_X0_openChannel_95 96 rfl rfl ?_
                      refine nw_iload_n l_X0_openChannel_96 97 rfl rfl ?_
                      refine nw_drop (ls' := [some (.inr (.inl (some 1))), some (.inl x1), some (.inl x2), some (.inl x3), some (.inl x4), none, none, none]) ⟨rfl, ⟨rfl, ⟨rfl, ⟨rfl, ⟨rfl, ⟨True.intro, ⟨True.intro, ⟨True.intro, True.intro⟩⟩⟩⟩⟩⟩⟩⟩ ?_
                      refine nw_call0 1 3 l_X0_openChannel_97 rfl rfl g_X9_findChannel (Nat.lt_of_lt_of_le (by decide) hD) rfl (Or.inl ⟨_, rfl, k_3⟩) (ls' := [some (.inr (.inl (some 3))), some (.inl x1), some (.inl x2), none]) rfl (st' := []) rfl 100 rfl ?_
                      exact h
theorem b_X0_openChannel_100 {x1 : Int} {x2 : Int} {x3 : Int} {x4 : Int} {y0 : Int} (h : ((y0 = (-1) → ((0 ≤ J 3 1 ∧ J 3 1 < 10) ∧ ((-2147483648 ≤ (J 3 1) + 1 ∧ (J 3 1) + 1 < 2147483648) ∧ Qr (some (.inl (J 3 1))) (nw_u (nw_u (nw_u (nw_u (nw_u J 5 (J 3 1) x1) 6 (J 3 1) x2) 7 (J 3 1) x3) 8 (J 3 1) x4) 3 1 ((J 3 1) + 1), L, W)))) ∧ (¬ y0 = (-1) → Qr (some (.inl (-3))) (J, L, W)))) :
    NW sc d_X0_openChannel D (100, [some (.inr (.inl (some 1))), some (.inl x1), some (.inl x2), some (.inl x3), some (.inl x4), none, none, none], [.inl y0], (J, L, W), c, sl) Qr Qx := by
  refine nw_iconst (len := 0) l_X0_openChannel_100 101 rfl c_n1 ?_
  refine nw_ic_eq l_X0_openChannel_101 104 rfl (fun q1 => ?_) (fun q1 => ?_)
  · replace h := h.1 q1
    refine nw_aload_n l_X0_openChannel_107 108 rfl rfl ?_
    refine nw_getA l_X0_openChannel_108 111 rfl k_1 r_1_3 ?_
    refine nw_getI l_X0_openChannel_111 114 rfl k_3 (v := J 3 1) rfl ?_
    refine nw_istore l_X0_openChannel_114 116 rfl rfl (ls' := [some (.inr (.inl (some 1))), some (.inl x1), some (.inl x2), some (.inl x3), some (.inl x4), none, none, some (.inl (J 3 1))]) rfl ?_
    refine nw_aload_n l_X0_openChannel_116 117 rfl rfl ?_
    refine nw_getA l_X0_openChannel_117 120 rfl k_1 r_1_3 ?_
    refine nw_getA l_X0_openChannel_120 123 rfl k_3 r_3_3 ?_
    refine nw_iload l_X0_openChannel_123 125 rfl rfl ?_
    refine nw_iload_n l_X0_openChannel_125 126 rfl rfl ?_
    have o2 := h.1
    replace h := h.2
    refine nw_iast l_X0_openChannel_126 127 rfl k_5 o2 ?_
    refine nw_aload_n l_X0_openChannel_127 128 rfl rfl ?_
    refine nw_getA l_X0_openChannel_128 131 rfl k_1 r_1_3 ?_
    refine nw_getA l_X0_openChannel_131 134 rfl k_3 r_3_4 ?_
    refine nw_iload l_X0_openChannel_134 136 rfl rfl ?_
    refine nw_iload_n l_X0_openChannel_136 137 rfl rfl ?_
    refine nw_iast l_X0_openChannel_137 138 rfl k_6 o2 ?_
    refine nw_aload_n l_X0_openChannel_138 139 rfl rfl ?_
    refine nw_getA l_X0_openChannel_139 142 rfl k_1 r_1_3 ?_
    refine nw_getA l_X0_openChannel_142 145 rfl k_3 r_3_5 ?_
    refine nw_iload l_X0_openChannel_145 147 rfl rfl ?_
    refine nw_iload_n l_X0_openChannel_147 148 rfl rfl ?_
    refine nw_iast l_X0_openChannel_148 149 rfl k_7 o2 ?_
    refine nw_aload_n l_X0_openChannel_149 150 rfl rfl ?_
    refine nw_getA l_X0_openChannel_150 153 rfl k_1 r_1_3 ?_
    refine nw_getA l_X0_openChannel_153 156 rfl k_3 r_3_6 ?_
    refine nw_iload l_X0_openChannel_156 158 rfl rfl ?_
    refine nw_iload l_X0_openChannel_158 160 rfl rfl ?_
    refine nw_iast l_X0_openChannel_160 161 rfl k_8 o2 ?_
    refine nw_aload_n l_X0_openChannel_161 162 rfl rfl ?_
    refine nw_getA l_X0_openChannel_162 165 rfl k_1 r_1_3 ?_
    refine nw_dupA l_X0_openChannel_165 166 rfl ?_
    refine nw_getI l_X0_openChannel_166 169 rfl k_3 (v := J 3 1) (show nw_u (nw_u (nw_u (nw_u J 5 (J 3 1) x1) 6 (J 3 1) x2) 7 (J 3 1) x3) 8 (J 3 1) x4 3 1 = J 3 1 from (nw_uN (a := 8) (b := 3) (by decide)).trans ((nw_uN (a := 7) (b := 3) (by decide)).trans ((nw_uN (a := 6) (b := 3) (by decide)).trans (nw_uN (a := 5) (b := 3) (by decide))))) ?_
    refine nw_iconst (len := 0) l_X0_openChannel_169 170 rfl c_1 ?_
    have o3 := h.1
    replace h := h.2
    refine nw_iadd l_X0_openChannel_170 171 rfl o3 ?_
    refine nw_putI l_X0_openChannel_171 174 rfl k_3 ?_
    refine nw_iload l_X0_openChannel_174 176 rfl rfl ?_
    refine nw_ireturn l_X0_openChannel_176 rfl ?_
    exact h
  · replace h := h.2 q1
    refine nw_bipush (len := 0) l_X0_openChannel_104 106 rfl c_n3 ?_
    refine nw_ireturn l_X0_openChannel_106 rfl ?_
    exact h
theorem b_X0_openCrater_0 {x1 : Int} (h : ((x1 < 0 → Qr (some (.inl (-2))) (J, L, W)) ∧ (0 ≤ x1 → ((x1 ≤ 9 → ((J 3 0 < 6 → ((0 ≤ J 3 0 ∧ J 3 0 < 6) ∧ ((-2147483648 ≤ (J 3 0) + 1 ∧ (J 3 0) + 1 < 2147483648) ∧ Qr (some (.inl (J 3 0))) (nw_u (nw_u J 4 (J 3 0) x1) 3 0 ((J 3 0) + 1), L, W)))) ∧ (6 ≤ J 3 0 → Qr (some (.inl (-3))) (J, L, W)))) ∧ (9 < x1 → Qr (some (.inl (-2))) (J, L, W)))))) :
    NW sc d_X0_openCrater D (0, [some (.inr (.inl (some 1))), some (.inl x1), none], [], (J, L, W), c, sl) Qr Qx := by
  refine nw_iload_n l_X0_openCrater_0 1 rfl rfl ?_
  refine nw_if_lt l_X0_openCrater_1 4 rfl (fun q1 => ?_) (fun q1 => ?_)
  · replace h := h.1 q1
    refine nw_bipush (len := 0) l_X0_openCrater_10 12 rfl c_n2 ?_
    refine nw_ireturn l_X0_openCrater_12 rfl ?_
    exact h
  · replace h := h.2 q1
    refine nw_iload_n l_X0_openCrater_4 5 rfl rfl ?_
    refine nw_bipush (len := 0) l_X0_openCrater_5 7 rfl c_9 ?_
    refine nw_ic_le l_X0_openCrater_7 10 rfl (fun q2 => ?_) (fun q2 => ?_)
    · replace h := h.1 q2
      refine nw_aload_n l_X0_openCrater_13 14 rfl rfl ?_
      refine nw_getA l_X0_openCrater_14 17 rfl k_1 r_1_3 ?_
      refine nw_getI l_X0_openCrater_17 20 rfl k_3 (v := J 3 0) rfl ?_
      refine nw_bipush (len := 0) l_X0_openCrater_20 22 rfl c_6 ?_
      refine nw_ic_lt l_X0_openCrater_22 25 rfl (fun q3 => ?_) (fun q3 => ?_)
      · replace h := h.1 q3
        refine nw_aload_n l_X0_openCrater_28 29 rfl rfl ?_
        refine nw_getA l_X0_openCrater_29 32 rfl k_1 r_1_3 ?_
        refine nw_getI l_X0_openCrater_32 35 rfl k_3 (v := J 3 0) rfl ?_
        refine nw_istore_n l_X0_openCrater_35 36 rfl rfl (ls' := [some (.inr (.inl (some 1))), some (.inl x1), some (.inl (J 3 0))]) rfl ?_
        refine nw_aload_n l_X0_openCrater_36 37 rfl rfl ?_
        refine nw_getA l_X0_openCrater_37 40 rfl k_1 r_1_3 ?_
        refine nw_getA l_X0_openCrater_40 43 rfl k_3 r_3_2 ?_
        refine nw_iload_n l_X0_openCrater_43 44 rfl rfl ?_
        refine nw_iload_n l_X0_openCrater_44 45 rfl rfl ?_
        have o4 := h.1
        replace h := h.2
        refine nw_iast l_X0_openCrater_45 46 rfl k_4 o4 ?_
        refine nw_aload_n l_X0_openCrater_46 47 rfl rfl ?_
        refine nw_getA l_X0_openCrater_47 50 rfl k_1 r_1_3 ?_
        refine nw_dupA l_X0_openCrater_50 51 rfl ?_
        refine nw_getI l_X0_openCrater_51 54 rfl k_3 (v := J 3 0) (show nw_u J 4 (J 3 0) x1 3 0 = J 3 0 from (nw_uN (a := 4) (b := 3) (by decide))) ?_
        refine nw_iconst (len := 0) l_X0_openCrater_54 55 rfl c_1 ?_
        have o5 := h.1
        replace h := h.2
        refine nw_iadd l_X0_openCrater_55 56 rfl o5 ?_
        refine nw_putI l_X0_openCrater_56 59 rfl k_3 ?_
        refine nw_iload_n l_X0_openCrater_59 60 rfl rfl ?_
        refine nw_ireturn l_X0_openCrater_60 rfl ?_
        exact h
      · replace h := h.2 q3
        refine nw_bipush (len := 0) l_X0_openCrater_25 27 rfl c_n3 ?_
        refine nw_ireturn l_X0_openCrater_27 rfl ?_
        exact h
    · replace h := h.2 q2
      refine nw_bipush (len := 0) l_X0_openCrater_10 12 rfl c_n2 ?_
      refine nw_ireturn l_X0_openCrater_12 rfl ?_
      exact h
theorem b_X0_pullFree_0 {x1 : Int} (hD : 3 ≤ D) (h : ((x1 < 0 → Qr (some (.inl (-1))) (J, L, W)) ∧ (0 ≤ x1 → ((J 9 0 ≤ x1 → Qr (some (.inl (-1))) (J, L, W)) ∧ (x1 < J 9 0 → NW sc d_X8_aground 2 (0, [some (.inr (.inl (some 2))), some (.inl x1), none], [], (J, L, W), 0, 0) (fun v M9 => NW sc d_X0_pullFree D (21, [some (.inr (.inl (some 1))), some (.inl x1), none, none], nw_push v [], M9, c, sl) Qr Qx) Qx))))) :
    NW sc d_X0_pullFree D (0, [some (.inr (.inl (some 1))), some (.inl x1), none, none], [], (J, L, W), c, sl) Qr Qx := by
  refine nw_aload_n l_X0_pullFree_0 1 rfl rfl ?_
  refine nw_getA l_X0_pullFree_1 4 rfl k_1 r_1_4 ?_
  refine nw_iload_n l_X0_pullFree_4 5 rfl rfl ?_
  refine nw_call0 0 9 l_X0_pullFree_5 rfl rfl g_X4_hasFerry (Nat.lt_of_lt_of_le (by decide) hD) rfl (Or.inl ⟨_, rfl, k_9⟩) (ls' := [some (.inr (.inl (some 9))), some (.inl x1)]) rfl (st' := []) rfl 8 rfl ?_
  refine nw_iload_n l_X4_hasFerry_0 1 rfl rfl ?_
  refine nw_if_lt l_X4_hasFerry_1 4 rfl (fun q1 => ?_) (fun q1 => ?_)
  · replace h := h.1 q1
    refine nw_iconst (len := 0) l_X4_hasFerry_16 17 rfl c_0 ?_
    refine nw_ireturnZ l_X4_hasFerry_17 rfl (Or.inl rfl) ?_
    refine nw_if_ne l_X0_pullFree_8 11 rfl (fun q => absurd q (by decide)) (fun _ => ?_)
    refine nw_iconst (len := 0) l_X0_pullFree_11 12 rfl c_n1 ?_
    refine nw_ireturn l_X0_pullFree_12 rfl ?_
    exact h
  · replace h := h.2 q1
    refine nw_iload_n l_X4_hasFerry_4 5 rfl rfl ?_
    refine nw_aload_n l_X4_hasFerry_5 6 rfl rfl ?_
    refine nw_getI l_X4_hasFerry_6 9 rfl k_9 (v := J 9 0) rfl ?_
    refine nw_ic_ge l_X4_hasFerry_9 12 rfl (fun q2 => ?_) (fun q2 => ?_)
    · replace h := h.1 q2
      refine nw_iconst (len := 0) l_X4_hasFerry_16 17 rfl c_0 ?_
      refine nw_ireturnZ l_X4_hasFerry_17 rfl (Or.inl rfl) ?_
      refine nw_if_ne l_X0_pullFree_8 11 rfl (fun q => absurd q (by decide)) (fun _ => ?_)
      refine nw_iconst (len := 0) l_X0_pullFree_11 12 rfl c_n1 ?_
      refine nw_ireturn l_X0_pullFree_12 rfl ?_
      exact h
    · replace h := h.2 q2
      refine nw_iconst (len := 0) l_X4_hasFerry_12 13 rfl c_1 ?_
      refine nw_goto l_X4_hasFerry_13 ?_
      refine nw_ireturnZ l_X4_hasFerry_17 rfl (Or.inr rfl) ?_
      refine nw_if_ne l_X0_pullFree_8 11 rfl (fun _ => ?_) (fun q => absurd q (by decide))
      refine nw_aload_n l_X0_pullFree_13 14 rfl rfl ?_
      refine nw_getA l_X0_pullFree_14 17 rfl k_1 r_1_1 ?_
      refine nw_iload_n l_X0_pullFree_17 18 rfl rfl ?_
      refine nw_call0 2 2 l_X0_pullFree_18 rfl rfl g_X8_aground (Nat.lt_of_lt_of_le (by decide) hD) rfl (Or.inl ⟨_, rfl, k_2⟩) (ls' := [some (.inr (.inl (some 2))), some (.inl x1), none]) rfl (st' := []) rfl 21 rfl ?_
      exact h
theorem b_X0_pullFree_21 {x1 : Int} {y0 : Int} (h : ((¬ y0 = 0 → NW sc d_X0_pullFree D (31, [some (.inr (.inl (some 1))), some (.inl x1), some (.inl 0), some (.inl 0)], [], (J, L, W), c, sl) Qr Qx) ∧ (y0 = 0 → Qr (some (.inl (-3))) (J, L, W)))) :
    NW sc d_X0_pullFree D (21, [some (.inr (.inl (some 1))), some (.inl x1), none, none], [.inl y0], (J, L, W), c, sl) Qr Qx := by
  refine nw_if_ne l_X0_pullFree_21 24 rfl (fun q1 => ?_) (fun q1 => ?_)
  · replace h := h.1 q1
    refine nw_iconst (len := 0) l_X0_pullFree_27 28 rfl c_0 ?_
    refine nw_istore_n l_X0_pullFree_28 29 rfl rfl (ls' := [some (.inr (.inl (some 1))), some (.inl x1), some (.inl 0), none]) rfl ?_
    refine nw_iconst (len := 0) l_X0_pullFree_29 30 rfl c_0 ?_
    refine nw_istore_n l_X0_pullFree_30 31 rfl rfl (ls' := [some (.inr (.inl (some 1))), some (.inl x1), some (.inl 0), some (.inl 0)]) rfl ?_
    exact h
  · replace h := h.2 q1
    refine nw_bipush (len := 0) l_X0_pullFree_24 26 rfl c_n3 ?_
    refine nw_ireturn l_X0_pullFree_26 rfl ?_
    exact h
theorem b_X0_pullFree_31 {x1 : Int} {x2 : Int} {x3 : Int} (hD : 3 ≤ D) (h : ((J 18 0 ≤ x3 → ((-2147483648 ≤ 5 * x2 ∧ 5 * x2 < 2147483648) ∧ ((-9223372036854775808 ≤ (L 2 5) - (5 * x2) ∧ (L 2 5) - (5 * x2) < 9223372036854775808) ∧ Qr (some (.inl x2)) (J, nw_u L 2 5 ((L 2 5) - (5 * x2)), W)))) ∧ (x3 < J 18 0 → ((0 ≤ x3 ∧ x3 < 10) ∧ ((¬ J 24 x3 = x1 → ((-2147483648 ≤ x3 + 1 ∧ x3 + 1 < 2147483648) ∧ NW sc d_X0_pullFree D (31, [some (.inr (.inl (some 1))), some (.inl x1), some (.inl x2), some (.inl (x3 + 1))], [], (J, L, W), c, sl) Qr Qx)) ∧ (J 24 x3 = x1 → ((0 ≤ x1 ∧ x1 < 3) ∧ ((-2147483648 ≤ x2 + 1 ∧ x2 + 1 < 2147483648) ∧ ((-2147483648 ≤ x3 + 1 ∧ x3 + 1 < 2147483648) ∧ NW sc d_X0_pullFree D (31, [some (.inr (.inl (some 1))), some (.inl x1), some (.inl (x2 + 1)), some (.inl (x3 + 1))], [], (nw_u (nw_u J 24 x3 (-1)) 25 x3 (J 10 x1), L, W), c, sl) Qr Qx))))))))) :
    NW sc d_X0_pullFree D (31, [some (.inr (.inl (some 1))), some (.inl x1), some (.inl x2), some (.inl x3)], [], (J, L, W), c, sl) Qr Qx := by
  refine nw_iload_n l_X0_pullFree_31 32 rfl rfl ?_
  refine nw_aload_n l_X0_pullFree_32 33 rfl rfl ?_
  refine nw_getA l_X0_pullFree_33 36 rfl k_1 r_1_5 ?_
  refine nw_getI l_X0_pullFree_36 39 rfl k_18 (v := J 18 0) rfl ?_
  refine nw_ic_ge l_X0_pullFree_39 42 rfl (fun q1 => ?_) (fun q1 => ?_)
  · replace h := h.1 q1
    refine nw_aload_n l_X0_pullFree_81 82 rfl rfl ?_
    refine nw_getA l_X0_pullFree_82 85 rfl k_1 r_1_1 ?_
    refine nw_dupA l_X0_pullFree_85 86 rfl ?_
    refine nw_getL l_X0_pullFree_86 89 rfl k_2 (v := L 2 5) rfl ?_
    refine nw_iconst (len := 0) l_X0_pullFree_89 90 rfl c_5 ?_
    refine nw_iload_n l_X0_pullFree_90 91 rfl rfl ?_
    have o2 := h.1
    replace h := h.2
    refine nw_imul l_X0_pullFree_91 92 rfl o2 ?_
    refine nw_i2l l_X0_pullFree_92 93 rfl ?_
    have o3 := h.1
    replace h := h.2
    refine nw_lsub l_X0_pullFree_93 94 rfl o3 ?_
    refine nw_putL l_X0_pullFree_94 97 rfl k_2 ?_
    refine nw_iload_n l_X0_pullFree_97 98 rfl rfl ?_
    refine nw_ireturn l_X0_pullFree_98 rfl ?_
    exact h
  · replace h := h.2 q1
    refine nw_aload_n l_X0_pullFree_42 43 rfl rfl ?_
    refine nw_getA l_X0_pullFree_43 46 rfl k_1 r_1_5 ?_
    refine nw_getA l_X0_pullFree_46 49 rfl k_18 r_18_7 ?_
    refine nw_iload_n l_X0_pullFree_49 50 rfl rfl ?_
    have o4 := h.1
    replace h := h.2
    refine nw_iald l_X0_pullFree_50 51 rfl k_24 o4 (v := J 24 x3) rfl ?_
    refine nw_iload_n l_X0_pullFree_51 52 rfl rfl ?_
    refine nw_ic_ne l_X0_pullFree_52 55 rfl (fun q5 => ?_) (fun q5 => ?_)
    · replace h := h.1 q5
      have o6 := h.1
      replace h := h.2
      refine nw_iinc l_X0_pullFree_75 78 rfl 1 (by decide) rfl rfl o6 (ls' := [some (.inr (.inl (some 1))), some (.inl x1), some (.inl x2), some (.inl (x3 + 1))]) rfl ?_
      refine nw_goto l_X0_pullFree_78 ?_
      exact h
    · replace h := h.2 q5
      refine nw_aload_n l_X0_pullFree_55 56 rfl rfl ?_
      refine nw_getA l_X0_pullFree_56 59 rfl k_1 r_1_5 ?_
      refine nw_iload_n l_X0_pullFree_59 60 rfl rfl ?_
      refine nw_aload_n l_X0_pullFree_60 61 rfl rfl ?_
      refine nw_getA l_X0_pullFree_61 64 rfl k_1 r_1_4 ?_
      refine nw_getA l_X0_pullFree_64 67 rfl k_9 r_9_1 ?_
      refine nw_iload_n l_X0_pullFree_67 68 rfl rfl ?_
      have o7 := h.1
      replace h := h.2
      refine nw_iald l_X0_pullFree_68 69 rfl k_10 o7 (v := J 10 x1) rfl ?_
      refine nw_call0 0 18 l_X0_pullFree_69 rfl rfl g_X7_moveAshore (Nat.lt_of_lt_of_le (by decide) hD) rfl (Or.inl ⟨_, rfl, k_18⟩) (ls' := [some (.inr (.inl (some 18))), some (.inl x3), some (.inl (J 10 x1))]) rfl (st' := []) rfl 72 rfl ?_
      refine nw_aload_n l_X7_moveAshore_0 1 rfl rfl ?_
      refine nw_getA l_X7_moveAshore_1 4 rfl k_18 r_18_7 ?_
      refine nw_iload_n l_X7_moveAshore_4 5 rfl rfl ?_
      refine nw_iconst (len := 0) l_X7_moveAshore_5 6 rfl c_n1 ?_
      refine nw_iast l_X7_moveAshore_6 7 rfl k_24 o4 ?_
      refine nw_aload_n l_X7_moveAshore_7 8 rfl rfl ?_
      refine nw_getA l_X7_moveAshore_8 11 rfl k_18 r_18_8 ?_
      refine nw_iload_n l_X7_moveAshore_11 12 rfl rfl ?_
      refine nw_iload_n l_X7_moveAshore_12 13 rfl rfl ?_
      refine nw_iast l_X7_moveAshore_13 14 rfl k_25 o4 ?_
      refine nw_return l_X7_moveAshore_14 rfl ?_
      have o8 := h.1
      replace h := h.2
      refine nw_iinc l_X0_pullFree_72 75 rfl 1 (by decide) rfl rfl o8 (ls' := [some (.inr (.inl (some 1))), some (.inl x1), some (.inl (x2 + 1)), some (.inl x3)]) rfl ?_
      have o9 := h.1
      replace h := h.2
      refine nw_iinc l_X0_pullFree_75 78 rfl 1 (by decide) rfl rfl o9 (ls' := [some (.inr (.inl (some 1))), some (.inl x1), some (.inl (x2 + 1)), some (.inl (x3 + 1))]) rfl ?_
      refine nw_goto l_X0_pullFree_78 ?_
      exact h
theorem b_X0_putAshore_0 {x1 : Int} (hD : 3 ≤ D) (h : NW sc d_X7_placeOf 0 (0, [some (.inr (.inl (some 18))), some (.inl x1), none], [], (J, L, W), 0, 0) (fun v M9 => NW sc d_X0_putAshore D (8, [some (.inr (.inl (some 1))), none, none, none, none, none], nw_push v [], M9, c, sl) Qr Qx) Qx) :
    NW sc d_X0_putAshore D (0, [some (.inr (.inl (some 1))), some (.inl x1), none, none, none, none], [], (J, L, W), c, sl) Qr Qx := by
  refine nw_aload_n l_X0_putAshore_0 1 rfl rfl ?_
  refine nw_getA l_X0_putAshore_1 4 rfl k_1 r_1_5 ?_
  refine nw_iload_n l_X0_putAshore_4 5 rfl rfl ?_
  refine nw_drop (ls' := [some (.inr (.inl (some 1))), none, none, none, none, none]) ⟨rfl, ⟨True.intro, ⟨True.intro, ⟨True.intro, ⟨True.intro, ⟨True.intro, True.intro⟩⟩⟩⟩⟩⟩ ?_
  refine nw_call0 0 18 l_X0_putAshore_5 rfl rfl g_X7_placeOf (Nat.lt_of_lt_of_le (by decide) hD) rfl (Or.inl ⟨_, rfl, k_18⟩) (ls' := [some (.inr (.inl (some 18))), some (.inl x1), none]) rfl (st' := []) rfl 8 rfl ?_
  exact h
theorem b_X0_putAshore_8 {y0 : Int} (hD : 3 ≤ D) (h : ((¬ y0 = (-1) → ((0 ≤ y0 ∧ y0 < 10) ∧ ((¬ J 24 y0 = (-1) → ((0 ≤ J 24 y0 ∧ J 24 y0 < 3) ∧ ((J 11 (J 24 y0) = (-1) → NW sc d_X8_aground 2 (0, [some (.inr (.inl (some 2))), some (.inl (J 24 y0)), none], [], (J, L, W), 0, 0) (fun v M9 => NW sc d_X0_putAshore D (54, [some (.inr (.inl (some 1))), none, some (.inl y0), some (.inl (J 24 y0)), none, none], nw_push v [], M9, c, sl) Qr Qx) Qx) ∧ (¬ J 11 (J 24 y0) = (-1) → Qr (some (.inl (-4))) (J, L, W))))) ∧ (J 24 y0 = (-1) → Qr (some (.inl (-3))) (J, L, W))))) ∧ (y0 = (-1) → Qr (some (.inl (-5))) (J, L, W)))) :
    NW sc d_X0_putAshore D (8, [some (.inr (.inl (some 1))), none, none, none, none, none], [.inl y0], (J, L, W), c, sl) Qr Qx := by
  refine nw_istore_n l_X0_putAshore_8 9 rfl rfl (ls' := [some (.inr (.inl (some 1))), none, some (.inl y0), none, none, none]) rfl ?_
  refine nw_iload_n l_X0_putAshore_9 10 rfl rfl ?_
  refine nw_iconst (len := 0) l_X0_putAshore_10 11 rfl c_n1 ?_
  refine nw_ic_ne l_X0_putAshore_11 14 rfl (fun q1 => ?_) (fun q1 => ?_)
  · replace h := h.1 q1
    refine nw_aload_n l_X0_putAshore_17 18 rfl rfl ?_
    refine nw_getA l_X0_putAshore_18 21 rfl k_1 r_1_5 ?_
    refine nw_getA l_X0_putAshore_21 24 rfl k_18 r_18_7 ?_
    refine nw_iload_n l_X0_putAshore_24 25 rfl rfl ?_
    have o2 := h.1
    replace h := h.2
    refine nw_iald l_X0_putAshore_25 26 rfl k_24 o2 (v := J 24 y0) rfl ?_
    refine nw_istore_n l_X0_putAshore_26 27 rfl rfl (ls' := [some (.inr (.inl (some 1))), none, some (.inl y0), some (.inl (J 24 y0)), none, none]) rfl ?_
    refine nw_iload_n l_X0_putAshore_27 28 rfl rfl ?_
    refine nw_iconst (len := 0) l_X0_putAshore_28 29 rfl c_n1 ?_
    refine nw_ic_ne l_X0_putAshore_29 32 rfl (fun q3 => ?_) (fun q3 => ?_)
    · replace h := h.1 q3
      refine nw_aload_n l_X0_putAshore_35 36 rfl rfl ?_
      refine nw_getA l_X0_putAshore_36 39 rfl k_1 r_1_4 ?_
      refine nw_iload_n l_X0_putAshore_39 40 rfl rfl ?_
      refine nw_call0 0 9 l_X0_putAshore_40 rfl rfl g_X4_underWay (Nat.lt_of_lt_of_le (by decide) hD) rfl (Or.inl ⟨_, rfl, k_9⟩) (ls' := [some (.inr (.inl (some 9))), some (.inl (J 24 y0))]) rfl (st' := []) rfl 43 rfl ?_
      refine nw_aload_n l_X4_underWay_0 1 rfl rfl ?_
      refine nw_getA l_X4_underWay_1 4 rfl k_9 r_9_2 ?_
      refine nw_iload_n l_X4_underWay_4 5 rfl rfl ?_
      have o4 := h.1
      replace h := h.2
      refine nw_iald l_X4_underWay_5 6 rfl k_11 o4 (v := J 11 (J 24 y0)) rfl ?_
      refine nw_iconst (len := 0) l_X4_underWay_6 7 rfl c_n1 ?_
      refine nw_ic_eq l_X4_underWay_7 10 rfl (fun q5 => ?_) (fun q5 => ?_)
      · replace h := h.1 q5
        refine nw_iconst (len := 0) l_X4_underWay_14 15 rfl c_0 ?_
        refine nw_ireturnZ l_X4_underWay_15 rfl (Or.inl rfl) ?_
        refine nw_if_ne l_X0_putAshore_43 46 rfl (fun q => absurd q (by decide)) (fun _ => ?_)
        refine nw_aload_n l_X0_putAshore_46 47 rfl rfl ?_
        refine nw_getA l_X0_putAshore_47 50 rfl k_1 r_1_1 ?_
        refine nw_iload_n l_X0_putAshore_50 51 rfl rfl ?_
        refine nw_call0 2 2 l_X0_putAshore_51 rfl rfl g_X8_aground (Nat.lt_of_lt_of_le (by decide) hD) rfl (Or.inl ⟨_, rfl, k_2⟩) (ls' := [some (.inr (.inl (some 2))), some (.inl (J 24 y0)), none]) rfl (st' := []) rfl 54 rfl ?_
        exact h
      · replace h := h.2 q5
        refine nw_iconst (len := 0) l_X4_underWay_10 11 rfl c_1 ?_
        refine nw_goto l_X4_underWay_11 ?_
        refine nw_ireturnZ l_X4_underWay_15 rfl (Or.inr rfl) ?_
        refine nw_if_ne l_X0_putAshore_43 46 rfl (fun _ => ?_) (fun q => absurd q (by decide))
        refine nw_bipush (len := 0) l_X0_putAshore_57 59 rfl c_n4 ?_
        refine nw_ireturn l_X0_putAshore_59 rfl ?_
        exact h
    · replace h := h.2 q3
      refine nw_bipush (len := 0) l_X0_putAshore_32 34 rfl c_n3 ?_
      refine nw_ireturn l_X0_putAshore_34 rfl ?_
      exact h
  · replace h := h.2 q1
    refine nw_bipush (len := 0) l_X0_putAshore_14 16 rfl c_n5 ?_
    refine nw_ireturn l_X0_putAshore_16 rfl ?_
    exact h
theorem b_X0_putAshore_54 {x2 : Int} {x3 : Int} {y0 : Int} (hD : 3 ≤ D) (h : ((y0 = 0 → ((0 ≤ x3 ∧ x3 < 3) ∧ ((0 ≤ x2 ∧ x2 < 10) ∧ ((J 21 x2 = J 10 x3 → NW sc d_X3_fareAt 2 (0, [some (.inr (.inl (some 28))), some (.inr (.inl (some 2))), some (.inl x2), none, none, none], [], (J, L, W), 0, 0) (fun v M9 => NW sc d_X0_putAshore D (112, [some (.inr (.inl (some 1))), none, some (.inl x2), none, none, none], nw_push v [], M9, c, sl) Qr Qx) Qx) ∧ (¬ J 21 x2 = J 10 x3 → Qr (some (.inl 0)) (nw_u (nw_u J 24 x2 (-1)) 25 x2 (J 10 x3), L, W)))))) ∧ (¬ y0 = 0 → Qr (some (.inl (-4))) (J, L, W)))) :
    NW sc d_X0_putAshore D (54, [some (.inr (.inl (some 1))), none, some (.inl x2), some (.inl x3), none, none], [.inl y0], (J, L, W), c, sl) Qr Qx := by
  refine nw_if_eq l_X0_putAshore_54 57 rfl (fun q1 => ?_) (fun q1 => ?_)
  · replace h := h.1 q1
    refine nw_aload_n l_X0_putAshore_60 61 rfl rfl ?_
    refine nw_getA l_X0_putAshore_61 64 rfl k_1 r_1_4 ?_
    refine nw_getA l_X0_putAshore_64 67 rfl k_9 r_9_1 ?_
    refine nw_iload_n l_X0_putAshore_67 68 rfl rfl ?_
    have o2 := h.1
    replace h := h.2
    refine nw_iald l_X0_putAshore_68 69 rfl k_10 o2 (v := J 10 x3) rfl ?_
    refine nw_istore l_X0_putAshore_69 71 rfl rfl (ls' := [some (.inr (.inl (some 1))), none, some (.inl x2), some (.inl x3), some (.inl (J 10 x3)), none]) rfl ?_
    refine nw_aload_n l_X0_putAshore_71 72 rfl rfl ?_
    refine nw_getA l_X0_putAshore_72 75 rfl k_1 r_1_5 ?_
    refine nw_getA l_X0_putAshore_75 78 rfl k_18 r_18_4 ?_
    refine nw_iload_n l_X0_putAshore_78 79 rfl rfl ?_
    have o3 := h.1
    replace h := h.2
    refine nw_iald l_X0_putAshore_79 80 rfl k_21 o3 (v := J 21 x2) rfl ?_
    refine nw_iload l_X0_putAshore_80 82 rfl rfl ?_
    refine nw_ic_eq l_X0_putAshore_82 85 rfl (fun q4 => ?_) (fun q4 => ?_)
    · replace h := h.1 q4
      refine nw_aload_n l_X0_putAshore_97 98 rfl rfl ?_
      refine nw_getA l_X0_putAshore_98 101 rfl k_1 r_1_2 ?_
      refine nw_getA l_X0_putAshore_101 104 rfl k_26 r_26_3 ?_
      refine nw_aload_n l_X0_putAshore_104 105 rfl rfl ?_
      refine nw_getA l_X0_putAshore_105 108 rfl k_1 r_1_1 ?_
      refine nw_iload_n l_X0_putAshore_108 109 rfl rfl ?_
      refine nw_drop (ls' := [some (.inr (.inl (some 1))), none, some (.inl x2), none, none, none]) ⟨rfl, ⟨True.intro, ⟨rfl, ⟨True.intro, ⟨True.intro, ⟨True.intro, True.intro⟩⟩⟩⟩⟩⟩ ?_
      refine nw_call0 2 28 l_X0_putAshore_109 rfl rfl g_X3_fareAt (Nat.lt_of_lt_of_le (by decide) hD) rfl (Or.inl ⟨_, rfl, k_28⟩) (ls' := [some (.inr (.inl (some 28))), some (.inr (.inl (some 2))), some (.inl x2), none, none, none]) rfl (st' := []) rfl 112 rfl ?_
      exact h
    · replace h := h.2 q4
      refine nw_aload_n l_X0_putAshore_85 86 rfl rfl ?_
      refine nw_getA l_X0_putAshore_86 89 rfl k_1 r_1_5 ?_
      refine nw_iload_n l_X0_putAshore_89 90 rfl rfl ?_
      refine nw_iload l_X0_putAshore_90 92 rfl rfl ?_
      refine nw_call0 0 18 l_X0_putAshore_92 rfl rfl g_X7_moveAshore (Nat.lt_of_lt_of_le (by decide) hD) rfl (Or.inl ⟨_, rfl, k_18⟩) (ls' := [some (.inr (.inl (some 18))), some (.inl x2), some (.inl (J 10 x3))]) rfl (st' := []) rfl 95 rfl ?_
      refine nw_aload_n l_X7_moveAshore_0 1 rfl rfl ?_
      refine nw_getA l_X7_moveAshore_1 4 rfl k_18 r_18_7 ?_
      refine nw_iload_n l_X7_moveAshore_4 5 rfl rfl ?_
      refine nw_iconst (len := 0) l_X7_moveAshore_5 6 rfl c_n1 ?_
      refine nw_iast l_X7_moveAshore_6 7 rfl k_24 o3 ?_
      refine nw_aload_n l_X7_moveAshore_7 8 rfl rfl ?_
      refine nw_getA l_X7_moveAshore_8 11 rfl k_18 r_18_8 ?_
      refine nw_iload_n l_X7_moveAshore_11 12 rfl rfl ?_
      refine nw_iload_n l_X7_moveAshore_12 13 rfl rfl ?_
      refine nw_iast l_X7_moveAshore_13 14 rfl k_25 o3 ?_
      refine nw_return l_X7_moveAshore_14 rfl ?_
      refine nw_iconst (len := 0) l_X0_putAshore_95 96 rfl c_0 ?_
      refine nw_ireturn l_X0_putAshore_96 rfl ?_
      exact h
  · replace h := h.2 q1
    refine nw_bipush (len := 0) l_X0_putAshore_57 59 rfl c_n4 ?_
    refine nw_ireturn l_X0_putAshore_59 rfl ?_
    exact h
theorem b_X0_putAshore_112 {x2 : Int} {y0 : Int} (hD : 3 ≤ D) (h : ((-2147483648 ≤ (J 2 4) + y0 ∧ (J 2 4) + y0 < 2147483648) ∧ ((-9223372036854775808 ≤ (L 2 5) + y0 ∧ (L 2 5) + y0 < 9223372036854775808) ∧ NW sc d_X7_dropMoon 0 (0, [some (.inr (.inl (some 18))), some (.inl x2), none], [], (nw_u J 2 4 ((J 2 4) + y0), nw_u L 2 5 ((L 2 5) + y0), W), 0, 0) (fun v M9 => NW sc d_X0_putAshore D (151, [none, none, none, none, none, some (.inl y0)], nw_push v [], M9, c, sl) Qr Qx) Qx))) :
    NW sc d_X0_putAshore D (112, [some (.inr (.inl (some 1))), none, some (.inl x2), none, none, none], [.inl y0], (J, L, W), c, sl) Qr Qx := by
  refine nw_istore l_X0_putAshore_112 114 rfl rfl (ls' := [some (.inr (.inl (some 1))), none, some (.inl x2), none, none, some (.inl y0)]) rfl ?_
  refine nw_aload_n l_X0_putAshore_114 115 rfl rfl ?_
  refine nw_getA l_X0_putAshore_115 118 rfl k_1 r_1_1 ?_
  refine nw_dupA l_X0_putAshore_118 119 rfl ?_
  refine nw_getI l_X0_putAshore_119 122 rfl k_2 (v := J 2 4) rfl ?_
  refine nw_iload l_X0_putAshore_122 124 rfl rfl ?_
  have o1 := h.1
  replace h := h.2
  refine nw_iadd l_X0_putAshore_124 125 rfl o1 ?_
  refine nw_putI l_X0_putAshore_125 128 rfl k_2 ?_
  refine nw_aload_n l_X0_putAshore_128 129 rfl rfl ?_
  refine nw_getA l_X0_putAshore_129 132 rfl k_1 r_1_1 ?_
  refine nw_dupA l_X0_putAshore_132 133 rfl ?_
  refine nw_getL l_X0_putAshore_133 136 rfl k_2 (v := L 2 5) rfl ?_
  refine nw_iload l_X0_putAshore_136 138 rfl rfl ?_
  refine nw_i2l l_X0_putAshore_138 139 rfl ?_
  have o2 := h.1
  replace h := h.2
  refine nw_ladd l_X0_putAshore_139 140 rfl o2 ?_
  refine nw_putL l_X0_putAshore_140 143 rfl k_2 ?_
  refine nw_aload_n l_X0_putAshore_143 144 rfl rfl ?_
  refine nw_getA l_X0_putAshore_144 147 rfl k_1 r_1_5 ?_
  refine nw_iload_n l_X0_putAshore_147 148 rfl rfl ?_
  refine nw_drop (ls' := [none, none, none, none, none, some (.inl y0)]) ⟨True.intro, ⟨True.intro, ⟨True.intro, ⟨True.intro, ⟨True.intro, ⟨rfl, True.intro⟩⟩⟩⟩⟩⟩ ?_
  refine nw_call0 0 18 l_X0_putAshore_148 rfl rfl g_X7_dropMoon (Nat.lt_of_lt_of_le (by decide) hD) rfl (Or.inl ⟨_, rfl, k_18⟩) (ls' := [some (.inr (.inl (some 18))), some (.inl x2), none]) rfl (st' := []) rfl 151 rfl ?_
  exact h
theorem b_X0_putAshore_151 {x5 : Int} (h : Qr (some (.inl x5)) (J, L, W)) :
    NW sc d_X0_putAshore D (151, [none, none, none, none, none, some (.inl x5)], [], (J, L, W), c, sl) Qr Qx := by
  refine nw_iload l_X0_putAshore_151 153 rfl rfl ?_
  refine nw_ireturn l_X0_putAshore_153 rfl ?_
  exact h
theorem b_X0_takeAboard_0 {x1 : Int} {x2 : Int} (hD : 3 ≤ D) (h : ((x1 < 0 → Qr (some (.inl (-1))) (J, L, W)) ∧ (0 ≤ x1 → ((J 9 0 ≤ x1 → Qr (some (.inl (-1))) (J, L, W)) ∧ (x1 < J 9 0 → NW sc d_X7_placeOf 0 (0, [some (.inr (.inl (some 18))), some (.inl x2), none], [], (J, L, W), 0, 0) (fun v M9 => NW sc d_X0_takeAboard D (21, [some (.inr (.inl (some 1))), some (.inl x1), none, none, none], nw_push v [], M9, c, sl) Qr Qx) Qx))))) :
    NW sc d_X0_takeAboard D (0, [some (.inr (.inl (some 1))), some (.inl x1), some (.inl x2), none, none], [], (J, L, W), c, sl) Qr Qx := by
  refine nw_aload_n l_X0_takeAboard_0 1 rfl rfl ?_
  refine nw_getA l_X0_takeAboard_1 4 rfl k_1 r_1_4 ?_
  refine nw_iload_n l_X0_takeAboard_4 5 rfl rfl ?_
  refine nw_call0 0 9 l_X0_takeAboard_5 rfl rfl g_X4_hasFerry (Nat.lt_of_lt_of_le (by decide) hD) rfl (Or.inl ⟨_, rfl, k_9⟩) (ls' := [some (.inr (.inl (some 9))), some (.inl x1)]) rfl (st' := []) rfl 8 rfl ?_
  refine nw_iload_n l_X4_hasFerry_0 1 rfl rfl ?_
  refine nw_if_lt l_X4_hasFerry_1 4 rfl (fun q1 => ?_) (fun q1 => ?_)
  · replace h := h.1 q1
    refine nw_iconst (len := 0) l_X4_hasFerry_16 17 rfl c_0 ?_
    refine nw_ireturnZ l_X4_hasFerry_17 rfl (Or.inl rfl) ?_
    refine nw_if_ne l_X0_takeAboard_8 11 rfl (fun q => absurd q (by decide)) (fun _ => ?_)
    refine nw_iconst (len := 0) l_X0_takeAboard_11 12 rfl c_n1 ?_
    refine nw_ireturn l_X0_takeAboard_12 rfl ?_
    exact h
  · replace h := h.2 q1
    refine nw_iload_n l_X4_hasFerry_4 5 rfl rfl ?_
    refine nw_aload_n l_X4_hasFerry_5 6 rfl rfl ?_
    refine nw_getI l_X4_hasFerry_6 9 rfl k_9 (v := J 9 0) rfl ?_
    refine nw_ic_ge l_X4_hasFerry_9 12 rfl (fun q2 => ?_) (fun q2 => ?_)
    · replace h := h.1 q2
      refine nw_iconst (len := 0) l_X4_hasFerry_16 17 rfl c_0 ?_
      refine nw_ireturnZ l_X4_hasFerry_17 rfl (Or.inl rfl) ?_
      refine nw_if_ne l_X0_takeAboard_8 11 rfl (fun q => absurd q (by decide)) (fun _ => ?_)
      refine nw_iconst (len := 0) l_X0_takeAboard_11 12 rfl c_n1 ?_
      refine nw_ireturn l_X0_takeAboard_12 rfl ?_
      exact h
    · replace h := h.2 q2
      refine nw_iconst (len := 0) l_X4_hasFerry_12 13 rfl c_1 ?_
      refine nw_goto l_X4_hasFerry_13 ?_
      refine nw_ireturnZ l_X4_hasFerry_17 rfl (Or.inr rfl) ?_
      refine nw_if_ne l_X0_takeAboard_8 11 rfl (fun _ => ?_) (fun q => absurd q (by decide))
      refine nw_aload_n l_X0_takeAboard_13 14 rfl rfl ?_
      refine nw_getA l_X0_takeAboard_14 17 rfl k_1 r_1_5 ?_
      refine nw_iload_n l_X0_takeAboard_17 18 rfl rfl ?_
      refine nw_drop (ls' := [some (.inr (.inl (some 1))), some (.inl x1), none, none, none]) ⟨rfl, ⟨rfl, ⟨True.intro, ⟨True.intro, ⟨True.intro, True.intro⟩⟩⟩⟩⟩ ?_
      refine nw_call0 0 18 l_X0_takeAboard_18 rfl rfl g_X7_placeOf (Nat.lt_of_lt_of_le (by decide) hD) rfl (Or.inl ⟨_, rfl, k_18⟩) (ls' := [some (.inr (.inl (some 18))), some (.inl x2), none]) rfl (st' := []) rfl 21 rfl ?_
      exact h
theorem b_X0_takeAboard_21 {x1 : Int} {y0 : Int} (hD : 3 ≤ D) (h : ((¬ y0 = (-1) → ((0 ≤ y0 ∧ y0 < 10) ∧ ((J 24 y0 = (-1) → NW sc d_X7_weightAboard 0 (0, [some (.inr (.inl (some 18))), some (.inl x1), none, none], [], (J, L, W), 0, 0) (fun v M9 => NW sc d_X0_takeAboard D (54, [some (.inr (.inl (some 1))), some (.inl x1), none, some (.inl y0), none], nw_push v [], M9, c, sl) Qr Qx) Qx) ∧ (¬ J 24 y0 = (-1) → Qr (some (.inl (-3))) (J, L, W))))) ∧ (y0 = (-1) → Qr (some (.inl (-5))) (J, L, W)))) :
    NW sc d_X0_takeAboard D (21, [some (.inr (.inl (some 1))), some (.inl x1), none, none, none], [.inl y0], (J, L, W), c, sl) Qr Qx := by
  refine nw_istore_n l_X0_takeAboard_21 22 rfl rfl (ls' := [some (.inr (.inl (some 1))), some (.inl x1), none, some (.inl y0), none]) rfl ?_
  refine nw_iload_n l_X0_takeAboard_22 23 rfl rfl ?_
  refine nw_iconst (len := 0) l_X0_takeAboard_23 24 rfl c_n1 ?_
  refine nw_ic_ne l_X0_takeAboard_24 27 rfl (fun q1 => ?_) (fun q1 => ?_)
  · replace h := h.1 q1
    refine nw_aload_n l_X0_takeAboard_30 31 rfl rfl ?_
    refine nw_getA l_X0_takeAboard_31 34 rfl k_1 r_1_5 ?_
    refine nw_getA l_X0_takeAboard_34 37 rfl k_18 r_18_7 ?_
    refine nw_iload_n l_X0_takeAboard_37 38 rfl rfl ?_
    have o2 := h.1
    replace h := h.2
    refine nw_iald l_X0_takeAboard_38 39 rfl k_24 o2 (v := J 24 y0) rfl ?_
    refine nw_iconst (len := 0) l_X0_takeAboard_39 40 rfl c_n1 ?_
    refine nw_ic_eq l_X0_takeAboard_40 43 rfl (fun q3 => ?_) (fun q3 => ?_)
    · replace h := h.1 q3
      refine nw_aload_n l_X0_takeAboard_46 47 rfl rfl ?_
      refine nw_getA l_X0_takeAboard_47 50 rfl k_1 r_1_5 ?_
      refine nw_iload_n l_X0_takeAboard_50 51 rfl rfl ?_
      refine nw_call0 0 18 l_X0_takeAboard_51 rfl rfl g_X7_weightAboard (Nat.lt_of_lt_of_le (by decide) hD) rfl (Or.inl ⟨_, rfl, k_18⟩) (ls' := [some (.inr (.inl (some 18))), some (.inl x1), none, none]) rfl (st' := []) rfl 54 rfl ?_
      exact h
    · replace h := h.2 q3
      refine nw_bipush (len := 0) l_X0_takeAboard_43 45 rfl c_n3 ?_
      refine nw_ireturn l_X0_takeAboard_45 rfl ?_
      exact h
  · replace h := h.2 q1
    refine nw_bipush (len := 0) l_X0_takeAboard_27 29 rfl c_n5 ?_
    refine nw_ireturn l_X0_takeAboard_29 rfl ?_
    exact h
theorem b_X0_takeAboard_54 {x1 : Int} {x3 : Int} {y0 : Int} (hD : 3 ≤ D) (h : ((0 ≤ x3 ∧ x3 < 10) ∧ ((-2147483648 ≤ y0 + (J 22 x3) ∧ y0 + (J 22 x3) < 2147483648) ∧ ((0 ≤ x1 ∧ x1 < 3) ∧ ((J 11 x1 = (-1) → ((J 25 x3 = J 10 x1 → NW sc d_X8_aground 2 (0, [some (.inr (.inl (some 2))), some (.inl x1), none], [], (J, L, W), 0, 0) (fun v M9 => NW sc d_X0_takeAboard D (112, [some (.inr (.inl (some 1))), some (.inl x1), none, some (.inl x3), some (.inl (y0 + (J 22 x3)))], nw_push v [], M9, c, sl) Qr Qx) Qx) ∧ (¬ J 25 x3 = J 10 x1 → Qr (some (.inl (-4))) (nw_u J 1 0 4, L, W)))) ∧ (¬ J 11 x1 = (-1) → Qr (some (.inl (-4))) (nw_u J 1 0 4, L, W))))))) :
    NW sc d_X0_takeAboard D (54, [some (.inr (.inl (some 1))), some (.inl x1), none, some (.inl x3), none], [.inl y0], (J, L, W), c, sl) Qr Qx := by
  refine nw_aload_n l_X0_takeAboard_54 55 rfl rfl ?_
  refine nw_getA l_X0_takeAboard_55 58 rfl k_1 r_1_5 ?_
  refine nw_getA l_X0_takeAboard_58 61 rfl k_18 r_18_5 ?_
  refine nw_iload_n l_X0_takeAboard_61 62 rfl rfl ?_
  have o1 := h.1
  replace h := h.2
  refine nw_iald l_X0_takeAboard_62 63 rfl k_22 o1 (v := J 22 x3) rfl ?_
  have o2 := h.1
  replace h := h.2
  refine nw_iadd l_X0_takeAboard_63 64 rfl o2 ?_
  refine nw_istore l_X0_takeAboard_64 66 rfl rfl (ls' := [some (.inr (.inl (some 1))), some (.inl x1), none, some (.inl x3), some (.inl (y0 + (J 22 x3)))]) rfl ?_
  refine nw_aload_n l_X0_takeAboard_66 67 rfl rfl ?_
  refine nw_getA l_X0_takeAboard_67 70 rfl k_1 r_1_4 ?_
  refine nw_iload_n l_X0_takeAboard_70 71 rfl rfl ?_
  refine nw_call0 0 9 l_X0_takeAboard_71 rfl rfl g_X4_underWay (Nat.lt_of_lt_of_le (by decide) hD) rfl (Or.inl ⟨_, rfl, k_9⟩) (ls' := [some (.inr (.inl (some 9))), some (.inl x1)]) rfl (st' := []) rfl 74 rfl ?_
  refine nw_aload_n l_X4_underWay_0 1 rfl rfl ?_
  refine nw_getA l_X4_underWay_1 4 rfl k_9 r_9_2 ?_
  refine nw_iload_n l_X4_underWay_4 5 rfl rfl ?_
  have o3 := h.1
  replace h := h.2
  refine nw_iald l_X4_underWay_5 6 rfl k_11 o3 (v := J 11 x1) rfl ?_
  refine nw_iconst (len := 0) l_X4_underWay_6 7 rfl c_n1 ?_
  refine nw_ic_eq l_X4_underWay_7 10 rfl (fun q4 => ?_) (fun q4 => ?_)
  · replace h := h.1 q4
    refine nw_iconst (len := 0) l_X4_underWay_14 15 rfl c_0 ?_
    refine nw_ireturnZ l_X4_underWay_15 rfl (Or.inl rfl) ?_
    refine nw_if_ne l_X0_takeAboard_74 77 rfl (fun q => absurd q (by decide)) (fun _ => ?_)
    refine nw_aload_n l_X0_takeAboard_77 78 rfl rfl ?_
    refine nw_getA l_X0_takeAboard_78 81 rfl k_1 r_1_5 ?_
    refine nw_getA l_X0_takeAboard_81 84 rfl k_18 r_18_8 ?_
    refine nw_iload_n l_X0_takeAboard_84 85 rfl rfl ?_
    refine nw_iald l_X0_takeAboard_85 86 rfl k_25 o1 (v := J 25 x3) rfl ?_
    refine nw_aload_n l_X0_takeAboard_86 87 rfl rfl ?_
    refine nw_getA l_X0_takeAboard_87 90 rfl k_1 r_1_4 ?_
    refine nw_getA l_X0_takeAboard_90 93 rfl k_9 r_9_1 ?_
    refine nw_iload_n l_X0_takeAboard_93 94 rfl rfl ?_
    refine nw_iald l_X0_takeAboard_94 95 rfl k_10 o3 (v := J 10 x1) rfl ?_
    refine nw_ic_eq l_X0_takeAboard_95 98 rfl (fun q5 => ?_) (fun q5 => ?_)
    · replace h := h.1 q5
      refine nw_aload_n l_X0_takeAboard_104 105 rfl rfl ?_
      refine nw_getA l_X0_takeAboard_105 108 rfl k_1 r_1_1 ?_
      refine nw_iload_n l_X0_takeAboard_108 109 rfl rfl ?_
      refine nw_call0 2 2 l_X0_takeAboard_109 rfl rfl g_X8_aground (Nat.lt_of_lt_of_le (by decide) hD) rfl (Or.inl ⟨_, rfl, k_2⟩) (ls' := [some (.inr (.inl (some 2))), some (.inl x1), none]) rfl (st' := []) rfl 112 rfl ?_
      exact h
    · replace h := h.2 q5
      refine nw_aload_n l_X0_takeAboard_98 99 rfl rfl ?_
      refine nw_iconst (len := 0) l_X0_takeAboard_99 100 rfl c_4 ?_
      refine nw_call0 0 1 l_X0_takeAboard_100 rfl rfl g_X0_refuse (Nat.lt_of_lt_of_le (by decide) hD) rfl (Or.inl ⟨_, rfl, k_1⟩) (ls' := [some (.inr (.inl (some 1))), some (.inl 4)]) rfl (st' := []) rfl 103 rfl ?_
      refine nw_aload_n l_X0_refuse_0 1 rfl rfl ?_
      refine nw_iload_n l_X0_refuse_1 2 rfl rfl ?_
      refine nw_putI l_X0_refuse_2 5 rfl k_1 ?_
      refine nw_bipush (len := 0) l_X0_refuse_5 7 rfl c_n4 ?_
      refine nw_ireturn l_X0_refuse_7 rfl ?_
      refine nw_ireturn l_X0_takeAboard_103 rfl ?_
      exact h
  · replace h := h.2 q4
    refine nw_iconst (len := 0) l_X4_underWay_10 11 rfl c_1 ?_
    refine nw_goto l_X4_underWay_11 ?_
    refine nw_ireturnZ l_X4_underWay_15 rfl (Or.inr rfl) ?_
    refine nw_if_ne l_X0_takeAboard_74 77 rfl (fun _ => ?_) (fun q => absurd q (by decide))
    refine nw_aload_n l_X0_takeAboard_98 99 rfl rfl ?_
    refine nw_iconst (len := 0) l_X0_takeAboard_99 100 rfl c_4 ?_
    refine nw_call0 0 1 l_X0_takeAboard_100 rfl rfl g_X0_refuse (Nat.lt_of_lt_of_le (by decide) hD) rfl (Or.inl ⟨_, rfl, k_1⟩) (ls' := [some (.inr (.inl (some 1))), some (.inl 4)]) rfl (st' := []) rfl 103 rfl ?_
    refine nw_aload_n l_X0_refuse_0 1 rfl rfl ?_
    refine nw_iload_n l_X0_refuse_1 2 rfl rfl ?_
    refine nw_putI l_X0_refuse_2 5 rfl k_1 ?_
    refine nw_bipush (len := 0) l_X0_refuse_5 7 rfl c_n4 ?_
    refine nw_ireturn l_X0_refuse_7 rfl ?_
    refine nw_ireturn l_X0_takeAboard_103 rfl ?_
    exact h
theorem b_X0_takeAboard_112 {x1 : Int} {x3 : Int} {x4 : Int} {y0 : Int} (hD : 3 ≤ D) (h : ((y0 = 0 → ((0 ≤ x1 ∧ x1 < 3) ∧ ((x4 ≤ J 14 x1 → ((0 ≤ x3 ∧ x3 < 10) ∧ ((¬ J 23 x3 = 0 → Qr (some (.inl x4)) (nw_u (nw_u J 24 x3 x1) 25 x3 (-1), L, W)) ∧ (J 23 x3 = 0 → Qr (some (.inl (-4))) (nw_u J 1 0 7, L, W))))) ∧ (J 14 x1 < x4 → Qr (some (.inl (-4))) (nw_u J 1 0 6, L, W))))) ∧ (¬ y0 = 0 → Qr (some (.inl (-4))) (nw_u J 1 0 5, L, W)))) :
    NW sc d_X0_takeAboard D (112, [some (.inr (.inl (some 1))), some (.inl x1), none, some (.inl x3), some (.inl x4)], [.inl y0], (J, L, W), c, sl) Qr Qx := by
  refine nw_if_eq l_X0_takeAboard_112 115 rfl (fun q1 => ?_) (fun q1 => ?_)
  · replace h := h.1 q1
    refine nw_iload l_X0_takeAboard_121 123 rfl rfl ?_
    refine nw_aload_n l_X0_takeAboard_123 124 rfl rfl ?_
    refine nw_getA l_X0_takeAboard_124 127 rfl k_1 r_1_4 ?_
    refine nw_getA l_X0_takeAboard_127 130 rfl k_9 r_9_5 ?_
    refine nw_iload_n l_X0_takeAboard_130 131 rfl rfl ?_
    have o2 := h.1
    replace h := h.2
    refine nw_iald l_X0_takeAboard_131 132 rfl k_14 o2 (v := J 14 x1) rfl ?_
    refine nw_ic_le l_X0_takeAboard_132 135 rfl (fun q3 => ?_) (fun q3 => ?_)
    · replace h := h.1 q3
      refine nw_aload_n l_X0_takeAboard_142 143 rfl rfl ?_
      refine nw_getA l_X0_takeAboard_143 146 rfl k_1 r_1_5 ?_
      refine nw_getA l_X0_takeAboard_146 149 rfl k_18 r_18_6 ?_
      refine nw_iload_n l_X0_takeAboard_149 150 rfl rfl ?_
      have o4 := h.1
      replace h := h.2
      refine nw_iald l_X0_takeAboard_150 151 rfl k_23 o4 (v := J 23 x3) rfl ?_
      refine nw_if_ne l_X0_takeAboard_151 154 rfl (fun q5 => ?_) (fun q5 => ?_)
      · replace h := h.1 q5
        refine nw_aload_n l_X0_takeAboard_161 162 rfl rfl ?_
        refine nw_getA l_X0_takeAboard_162 165 rfl k_1 r_1_5 ?_
        refine nw_iload_n l_X0_takeAboard_165 166 rfl rfl ?_
        refine nw_iload_n l_X0_takeAboard_166 167 rfl rfl ?_
        refine nw_call0 0 18 l_X0_takeAboard_167 rfl rfl g_X7_moveAboard (Nat.lt_of_lt_of_le (by decide) hD) rfl (Or.inl ⟨_, rfl, k_18⟩) (ls' := [some (.inr (.inl (some 18))), some (.inl x3), some (.inl x1)]) rfl (st' := []) rfl 170 rfl ?_
        refine nw_aload_n l_X7_moveAboard_0 1 rfl rfl ?_
        refine nw_getA l_X7_moveAboard_1 4 rfl k_18 r_18_7 ?_
        refine nw_iload_n l_X7_moveAboard_4 5 rfl rfl ?_
        refine nw_iload_n l_X7_moveAboard_5 6 rfl rfl ?_
        refine nw_iast l_X7_moveAboard_6 7 rfl k_24 o4 ?_
        refine nw_aload_n l_X7_moveAboard_7 8 rfl rfl ?_
        refine nw_getA l_X7_moveAboard_8 11 rfl k_18 r_18_8 ?_
        refine nw_iload_n l_X7_moveAboard_11 12 rfl rfl ?_
        refine nw_iconst (len := 0) l_X7_moveAboard_12 13 rfl c_n1 ?_
        refine nw_iast l_X7_moveAboard_13 14 rfl k_25 o4 ?_
        refine nw_return l_X7_moveAboard_14 rfl ?_
        refine nw_iload l_X0_takeAboard_170 172 rfl rfl ?_
        refine nw_ireturn l_X0_takeAboard_172 rfl ?_
        exact h
      · replace h := h.2 q5
        refine nw_aload_n l_X0_takeAboard_154 155 rfl rfl ?_
        refine nw_bipush (len := 0) l_X0_takeAboard_155 157 rfl c_7 ?_
        refine nw_call0 0 1 l_X0_takeAboard_157 rfl rfl g_X0_refuse (Nat.lt_of_lt_of_le (by decide) hD) rfl (Or.inl ⟨_, rfl, k_1⟩) (ls' := [some (.inr (.inl (some 1))), some (.inl 7)]) rfl (st' := []) rfl 160 rfl ?_
        refine nw_aload_n l_X0_refuse_0 1 rfl rfl ?_
        refine nw_iload_n l_X0_refuse_1 2 rfl rfl ?_
        refine nw_putI l_X0_refuse_2 5 rfl k_1 ?_
        refine nw_bipush (len := 0) l_X0_refuse_5 7 rfl c_n4 ?_
        refine nw_ireturn l_X0_refuse_7 rfl ?_
        refine nw_ireturn l_X0_takeAboard_160 rfl ?_
        exact h
    · replace h := h.2 q3
      refine nw_aload_n l_X0_takeAboard_135 136 rfl rfl ?_
      refine nw_bipush (len := 0) l_X0_takeAboard_136 138 rfl c_6 ?_
      refine nw_call0 0 1 l_X0_takeAboard_138 rfl rfl g_X0_refuse (Nat.lt_of_lt_of_le (by decide) hD) rfl (Or.inl ⟨_, rfl, k_1⟩) (ls' := [some (.inr (.inl (some 1))), some (.inl 6)]) rfl (st' := []) rfl 141 rfl ?_
      refine nw_aload_n l_X0_refuse_0 1 rfl rfl ?_
      refine nw_iload_n l_X0_refuse_1 2 rfl rfl ?_
      refine nw_putI l_X0_refuse_2 5 rfl k_1 ?_
      refine nw_bipush (len := 0) l_X0_refuse_5 7 rfl c_n4 ?_
      refine nw_ireturn l_X0_refuse_7 rfl ?_
      refine nw_ireturn l_X0_takeAboard_141 rfl ?_
      exact h
  · replace h := h.2 q1
    refine nw_aload_n l_X0_takeAboard_115 116 rfl rfl ?_
    refine nw_iconst (len := 0) l_X0_takeAboard_116 117 rfl c_5 ?_
    refine nw_call0 0 1 l_X0_takeAboard_117 rfl rfl g_X0_refuse (Nat.lt_of_lt_of_le (by decide) hD) rfl (Or.inl ⟨_, rfl, k_1⟩) (ls' := [some (.inr (.inl (some 1))), some (.inl 5)]) rfl (st' := []) rfl 120 rfl ?_
    refine nw_aload_n l_X0_refuse_0 1 rfl rfl ?_
    refine nw_iload_n l_X0_refuse_1 2 rfl rfl ?_
    refine nw_putI l_X0_refuse_2 5 rfl k_1 ?_
    refine nw_bipush (len := 0) l_X0_refuse_5 7 rfl c_n4 ?_
    refine nw_ireturn l_X0_refuse_7 rfl ?_
    refine nw_ireturn l_X0_takeAboard_120 rfl ?_
    exact h
theorem b_X0_takeBestLoad_0 {x1 : Int} (hD : 14 ≤ D) (h : ((x1 < 0 → Qr (some (.inl (-1))) (J, L, W)) ∧ (0 ≤ x1 → ((J 9 0 ≤ x1 → Qr (some (.inl (-1))) (J, L, W)) ∧ (x1 < J 9 0 → ((0 ≤ x1 ∧ x1 < 3) ∧ ((J 11 x1 = (-1) → NW sc d_X8_aground 2 (0, [some (.inr (.inl (some 2))), some (.inl x1), none], [], (J, L, W), 0, 0) (fun v M9 => NW sc d_X0_takeBestLoad D (32, [some (.inr (.inl (some 1))), some (.inl x1), none, none], nw_push v [], M9, c, sl) Qr Qx) Qx) ∧ (¬ J 11 x1 = (-1) → Qr (some (.inl (-4))) (J, L, W))))))))) :
    NW sc d_X0_takeBestLoad D (0, [some (.inr (.inl (some 1))), some (.inl x1), none, none], [], (J, L, W), c, sl) Qr Qx := by
  refine nw_aload_n l_X0_takeBestLoad_0 1 rfl rfl ?_
  refine nw_getA l_X0_takeBestLoad_1 4 rfl k_1 r_1_4 ?_
  refine nw_iload_n l_X0_takeBestLoad_4 5 rfl rfl ?_
  refine nw_call0 0 9 l_X0_takeBestLoad_5 rfl rfl g_X4_hasFerry (Nat.lt_of_lt_of_le (by decide) hD) rfl (Or.inl ⟨_, rfl, k_9⟩) (ls' := [some (.inr (.inl (some 9))), some (.inl x1)]) rfl (st' := []) rfl 8 rfl ?_
  refine nw_iload_n l_X4_hasFerry_0 1 rfl rfl ?_
  refine nw_if_lt l_X4_hasFerry_1 4 rfl (fun q1 => ?_) (fun q1 => ?_)
  · replace h := h.1 q1
    refine nw_iconst (len := 0) l_X4_hasFerry_16 17 rfl c_0 ?_
    refine nw_ireturnZ l_X4_hasFerry_17 rfl (Or.inl rfl) ?_
    refine nw_if_ne l_X0_takeBestLoad_8 11 rfl (fun q => absurd q (by decide)) (fun _ => ?_)
    refine nw_iconst (len := 0) l_X0_takeBestLoad_11 12 rfl c_n1 ?_
    refine nw_ireturn l_X0_takeBestLoad_12 rfl ?_
    exact h
  · replace h := h.2 q1
    refine nw_iload_n l_X4_hasFerry_4 5 rfl rfl ?_
    refine nw_aload_n l_X4_hasFerry_5 6 rfl rfl ?_
    refine nw_getI l_X4_hasFerry_6 9 rfl k_9 (v := J 9 0) rfl ?_
    refine nw_ic_ge l_X4_hasFerry_9 12 rfl (fun q2 => ?_) (fun q2 => ?_)
    · replace h := h.1 q2
      refine nw_iconst (len := 0) l_X4_hasFerry_16 17 rfl c_0 ?_
      refine nw_ireturnZ l_X4_hasFerry_17 rfl (Or.inl rfl) ?_
      refine nw_if_ne l_X0_takeBestLoad_8 11 rfl (fun q => absurd q (by decide)) (fun _ => ?_)
      refine nw_iconst (len := 0) l_X0_takeBestLoad_11 12 rfl c_n1 ?_
      refine nw_ireturn l_X0_takeBestLoad_12 rfl ?_
      exact h
    · replace h := h.2 q2
      refine nw_iconst (len := 0) l_X4_hasFerry_12 13 rfl c_1 ?_
      refine nw_goto l_X4_hasFerry_13 ?_
      refine nw_ireturnZ l_X4_hasFerry_17 rfl (Or.inr rfl) ?_
      refine nw_if_ne l_X0_takeBestLoad_8 11 rfl (fun _ => ?_) (fun q => absurd q (by decide))
      refine nw_aload_n l_X0_takeBestLoad_13 14 rfl rfl ?_
      refine nw_getA l_X0_takeBestLoad_14 17 rfl k_1 r_1_4 ?_
      refine nw_iload_n l_X0_takeBestLoad_17 18 rfl rfl ?_
      refine nw_call0 0 9 l_X0_takeBestLoad_18 rfl rfl g_X4_underWay (Nat.lt_of_lt_of_le (by decide) hD) rfl (Or.inl ⟨_, rfl, k_9⟩) (ls' := [some (.inr (.inl (some 9))), some (.inl x1)]) rfl (st' := []) rfl 21 rfl ?_
      refine nw_aload_n l_X4_underWay_0 1 rfl rfl ?_
      refine nw_getA l_X4_underWay_1 4 rfl k_9 r_9_2 ?_
      refine nw_iload_n l_X4_underWay_4 5 rfl rfl ?_
      have o3 := h.1
      replace h := h.2
      refine nw_iald l_X4_underWay_5 6 rfl k_11 o3 (v := J 11 x1) rfl ?_
      refine nw_iconst (len := 0) l_X4_underWay_6 7 rfl c_n1 ?_
      refine nw_ic_eq l_X4_underWay_7 10 rfl (fun q4 => ?_) (fun q4 => ?_)
      · replace h := h.1 q4
        refine nw_iconst (len := 0) l_X4_underWay_14 15 rfl c_0 ?_
        refine nw_ireturnZ l_X4_underWay_15 rfl (Or.inl rfl) ?_
        refine nw_if_ne l_X0_takeBestLoad_21 24 rfl (fun q => absurd q (by decide)) (fun _ => ?_)
        refine nw_aload_n l_X0_takeBestLoad_24 25 rfl rfl ?_
        refine nw_getA l_X0_takeBestLoad_25 28 rfl k_1 r_1_1 ?_
        refine nw_iload_n l_X0_takeBestLoad_28 29 rfl rfl ?_
        refine nw_call0 2 2 l_X0_takeBestLoad_29 rfl rfl g_X8_aground (Nat.lt_of_lt_of_le (by decide) hD) rfl (Or.inl ⟨_, rfl, k_2⟩) (ls' := [some (.inr (.inl (some 2))), some (.inl x1), none]) rfl (st' := []) rfl 32 rfl ?_
        exact h
      · replace h := h.2 q4
        refine nw_iconst (len := 0) l_X4_underWay_10 11 rfl c_1 ?_
        refine nw_goto l_X4_underWay_11 ?_
        refine nw_ireturnZ l_X4_underWay_15 rfl (Or.inr rfl) ?_
        refine nw_if_ne l_X0_takeBestLoad_21 24 rfl (fun _ => ?_) (fun q => absurd q (by decide))
        refine nw_bipush (len := 0) l_X0_takeBestLoad_35 37 rfl c_n4 ?_
        refine nw_ireturn l_X0_takeBestLoad_37 rfl ?_
        exact h
theorem b_X0_takeBestLoad_32 {x1 : Int} {y0 : Int} (hD : 14 ≤ D) (h : ((y0 = 0 → NW sc d_X6_gather 3 (0, [some (.inr (.inl (some 26))), some (.inr (.inl (some 2))), some (.inl x1), none, none, none], [], (J, L, W), 0, 0) (fun v M9 => NW sc d_X0_takeBestLoad D (50, [some (.inr (.inl (some 1))), some (.inl x1), none, none], nw_push v [], M9, c, sl) Qr Qx) Qx) ∧ (¬ y0 = 0 → Qr (some (.inl (-4))) (J, L, W)))) :
    NW sc d_X0_takeBestLoad D (32, [some (.inr (.inl (some 1))), some (.inl x1), none, none], [.inl y0], (J, L, W), c, sl) Qr Qx := by
  refine nw_if_eq l_X0_takeBestLoad_32 35 rfl (fun q1 => ?_) (fun q1 => ?_)
  · replace h := h.1 q1
    refine nw_aload_n l_X0_takeBestLoad_38 39 rfl rfl ?_
    refine nw_getA l_X0_takeBestLoad_39 42 rfl k_1 r_1_2 ?_
    refine nw_aload_n l_X0_takeBestLoad_42 43 rfl rfl ?_
    refine nw_getA l_X0_takeBestLoad_43 46 rfl k_1 r_1_1 ?_
    refine nw_iload_n l_X0_takeBestLoad_46 47 rfl rfl ?_
    refine nw_call0 3 26 l_X0_takeBestLoad_47 rfl rfl g_X6_gather (Nat.lt_of_lt_of_le (by decide) hD) rfl (Or.inl ⟨_, rfl, k_26⟩) (ls' := [some (.inr (.inl (some 26))), some (.inr (.inl (some 2))), some (.inl x1), none, none, none]) rfl (st' := []) rfl 50 rfl ?_
    exact h
  · replace h := h.2 q1
    refine nw_bipush (len := 0) l_X0_takeBestLoad_35 37 rfl c_n4 ?_
    refine nw_ireturn l_X0_takeBestLoad_37 rfl ?_
    exact h
theorem b_X0_takeBestLoad_50 {x1 : Int} (hD : 14 ≤ D) (h : NW sc d_X6_sumByDeciding 13 (0, [some (.inr (.inl (some 26)))], [], (J, L, W), 0, 0) (fun v M9 => NW sc d_X0_takeBestLoad D (57, [some (.inr (.inl (some 1))), some (.inl x1), none, none], nw_push v [], M9, c, sl) Qr Qx) Qx) :
    NW sc d_X0_takeBestLoad D (50, [some (.inr (.inl (some 1))), some (.inl x1), none, none], [], (J, L, W), c, sl) Qr Qx := by
  refine nw_aload_n l_X0_takeBestLoad_50 51 rfl rfl ?_
  refine nw_getA l_X0_takeBestLoad_51 54 rfl k_1 r_1_2 ?_
  refine nw_call0 13 26 l_X0_takeBestLoad_54 rfl rfl g_X6_sumByDeciding (Nat.lt_of_lt_of_le (by decide) hD) rfl (Or.inl ⟨_, rfl, k_26⟩) (ls' := [some (.inr (.inl (some 26)))]) rfl (st' := []) rfl 57 rfl ?_
  exact h
theorem b_X0_takeBestLoad_57 {x1 : Int} {y0 : Int} (h : NW sc d_X0_takeBestLoad D (62, [some (.inr (.inl (some 1))), some (.inl x1), some (.inl 0), some (.inl 0)], [], (J, L, W), c, sl) Qr Qx) :
    NW sc d_X0_takeBestLoad D (57, [some (.inr (.inl (some 1))), some (.inl x1), none, none], [.inl y0], (J, L, W), c, sl) Qr Qx := by
  refine nw_pop l_X0_takeBestLoad_57 58 rfl ?_
  refine nw_iconst (len := 0) l_X0_takeBestLoad_58 59 rfl c_0 ?_
  refine nw_istore_n l_X0_takeBestLoad_59 60 rfl rfl (ls' := [some (.inr (.inl (some 1))), some (.inl x1), some (.inl 0), none]) rfl ?_
  refine nw_iconst (len := 0) l_X0_takeBestLoad_60 61 rfl c_0 ?_
  refine nw_istore_n l_X0_takeBestLoad_61 62 rfl rfl (ls' := [some (.inr (.inl (some 1))), some (.inl x1), some (.inl 0), some (.inl 0)]) rfl ?_
  exact h
theorem b_X0_takeBestLoad_62 {x1 : Int} {x2 : Int} {x3 : Int} (hD : 14 ≤ D) (h : ((J 26 0 ≤ x3 → Qr (some (.inl x2)) (J, L, W)) ∧ (x3 < J 26 0 → ((¬ nw_xiand (nw_xishr (J 26 1) x3) 1 = 1 → ((-2147483648 ≤ x3 + 1 ∧ x3 + 1 < 2147483648) ∧ NW sc d_X0_takeBestLoad D (62, [some (.inr (.inl (some 1))), some (.inl x1), some (.inl x2), some (.inl (x3 + 1))], [], (J, L, W), c, sl) Qr Qx)) ∧ (nw_xiand (nw_xishr (J 26 1) x3) 1 = 1 → ((0 ≤ x3 ∧ x3 < 10) ∧ ((0 ≤ J 27 x3 ∧ J 27 x3 < 10) ∧ ((-2147483648 ≤ x2 + 1 ∧ x2 + 1 < 2147483648) ∧ ((-2147483648 ≤ x3 + 1 ∧ x3 + 1 < 2147483648) ∧ NW sc d_X0_takeBestLoad D (62, [some (.inr (.inl (some 1))), some (.inl x1), some (.inl (x2 + 1)), some (.inl (x3 + 1))], [], (nw_u (nw_u J 24 (J 27 x3) x1) 25 (J 27 x3) (-1), L, W), c, sl) Qr Qx))))))))) :
    NW sc d_X0_takeBestLoad D (62, [some (.inr (.inl (some 1))), some (.inl x1), some (.inl x2), some (.inl x3)], [], (J, L, W), c, sl) Qr Qx := by
  refine nw_iload_n l_X0_takeBestLoad_62 63 rfl rfl ?_
  refine nw_aload_n l_X0_takeBestLoad_63 64 rfl rfl ?_
  refine nw_getA l_X0_takeBestLoad_64 67 rfl k_1 r_1_2 ?_
  refine nw_getI l_X0_takeBestLoad_67 70 rfl k_26 (v := J 26 0) rfl ?_
  refine nw_ic_ge l_X0_takeBestLoad_70 73 rfl (fun q1 => ?_) (fun q1 => ?_)
  · replace h := h.1 q1
    refine nw_iload_n l_X0_takeBestLoad_114 115 rfl rfl ?_
    refine nw_ireturn l_X0_takeBestLoad_115 rfl ?_
    exact h
  · replace h := h.2 q1
    refine nw_aload_n l_X0_takeBestLoad_73 74 rfl rfl ?_
    refine nw_getA l_X0_takeBestLoad_74 77 rfl k_1 r_1_2 ?_
    refine nw_getI l_X0_takeBestLoad_77 80 rfl k_26 (v := J 26 1) rfl ?_
    refine nw_iload_n l_X0_takeBestLoad_80 81 rfl rfl ?_
    refine nw_ishr l_X0_takeBestLoad_81 82 rfl ?_
    refine nw_iconst (len := 0) l_X0_takeBestLoad_82 83 rfl c_1 ?_
    refine nw_iand l_X0_takeBestLoad_83 84 rfl ?_
    refine nw_iconst (len := 0) l_X0_takeBestLoad_84 85 rfl c_1 ?_
    refine nw_ic_ne l_X0_takeBestLoad_85 88 rfl (fun q2 => ?_) (fun q2 => ?_)
    · replace h := h.1 q2
      have o3 := h.1
      replace h := h.2
      refine nw_iinc l_X0_takeBestLoad_108 111 rfl 1 (by decide) rfl rfl o3 (ls' := [some (.inr (.inl (some 1))), some (.inl x1), some (.inl x2), some (.inl (x3 + 1))]) rfl ?_
      refine nw_goto l_X0_takeBestLoad_111 ?_
      exact h
    · replace h := h.2 q2
      refine nw_aload_n l_X0_takeBestLoad_88 89 rfl rfl ?_
      refine nw_getA l_X0_takeBestLoad_89 92 rfl k_1 r_1_5 ?_
      refine nw_aload_n l_X0_takeBestLoad_92 93 rfl rfl ?_
      refine nw_getA l_X0_takeBestLoad_93 96 rfl k_1 r_1_2 ?_
      refine nw_getA l_X0_takeBestLoad_96 99 rfl k_26 r_26_2 ?_
      refine nw_iload_n l_X0_takeBestLoad_99 100 rfl rfl ?_
      have o4 := h.1
      replace h := h.2
      refine nw_iald l_X0_takeBestLoad_100 101 rfl k_27 o4 (v := J 27 x3) rfl ?_
      refine nw_iload_n l_X0_takeBestLoad_101 102 rfl rfl ?_
      refine nw_call0 0 18 l_X0_takeBestLoad_102 rfl rfl g_X7_moveAboard (Nat.lt_of_lt_of_le (by decide) hD) rfl (Or.inl ⟨_, rfl, k_18⟩) (ls' := [some (.inr (.inl (some 18))), some (.inl (J 27 x3)), some (.inl x1)]) rfl (st' := []) rfl 105 rfl ?_
      refine nw_aload_n l_X7_moveAboard_0 1 rfl rfl ?_
      refine nw_getA l_X7_moveAboard_1 4 rfl k_18 r_18_7 ?_
      refine nw_iload_n l_X7_moveAboard_4 5 rfl rfl ?_
      refine nw_iload_n l_X7_moveAboard_5 6 rfl rfl ?_
      have o5 := h.1
      replace h := h.2
      refine nw_iast l_X7_moveAboard_6 7 rfl k_24 o5 ?_
      refine nw_aload_n l_X7_moveAboard_7 8 rfl rfl ?_
      refine nw_getA l_X7_moveAboard_8 11 rfl k_18 r_18_8 ?_
      refine nw_iload_n l_X7_moveAboard_11 12 rfl rfl ?_
      refine nw_iconst (len := 0) l_X7_moveAboard_12 13 rfl c_n1 ?_
      refine nw_iast l_X7_moveAboard_13 14 rfl k_25 o5 ?_
      refine nw_return l_X7_moveAboard_14 rfl ?_
      have o6 := h.1
      replace h := h.2
      refine nw_iinc l_X0_takeBestLoad_105 108 rfl 1 (by decide) rfl rfl o6 (ls' := [some (.inr (.inl (some 1))), some (.inl x1), some (.inl (x2 + 1)), some (.inl x3)]) rfl ?_
      have o7 := h.1
      replace h := h.2
      refine nw_iinc l_X0_takeBestLoad_108 111 rfl 1 (by decide) rfl rfl o7 (ls' := [some (.inr (.inl (some 1))), some (.inl x1), some (.inl (x2 + 1)), some (.inl (x3 + 1))]) rfl ?_
      refine nw_goto l_X0_takeBestLoad_111 ?_
      exact h
theorem b_X1_addSign_0 {x1 : Int} (h : ((60 ≤ J 297 0 → Qr none (J, L, W)) ∧ (J 297 0 < 60 → ((0 ≤ J 297 0 ∧ J 297 0 < 60) ∧ ((0 ≤ x1 ∧ x1 < 65536) ∧ ((-2147483648 ≤ (J 297 0) + 1 ∧ (J 297 0) + 1 < 2147483648) ∧ Qr none (nw_u (nw_u J 299 (J 297 0) x1) 297 0 ((J 297 0) + 1), L, W))))))) :
    NW sc d_X1_addSign D (0, [some (.inr (.inl (some 297))), some (.inl x1)], [], (J, L, W), c, sl) Qr Qx := by
  refine nw_aload_n l_X1_addSign_0 1 rfl rfl ?_
  refine nw_getI l_X1_addSign_1 4 rfl k_297 (v := J 297 0) rfl ?_
  refine nw_bipush (len := 0) l_X1_addSign_4 6 rfl c_60 ?_
  refine nw_ic_ge l_X1_addSign_6 9 rfl (fun q1 => ?_) (fun q1 => ?_)
  · replace h := h.1 q1
    refine nw_return l_X1_addSign_29 rfl ?_
    exact h
  · replace h := h.2 q1
    refine nw_aload_n l_X1_addSign_9 10 rfl rfl ?_
    refine nw_getA l_X1_addSign_10 13 rfl k_297 r_297_3 ?_
    refine nw_aload_n l_X1_addSign_13 14 rfl rfl ?_
    refine nw_getI l_X1_addSign_14 17 rfl k_297 (v := J 297 0) rfl ?_
    refine nw_iload_n l_X1_addSign_17 18 rfl rfl ?_
    have o2 := h.1
    replace h := h.2
    have o3 := h.1
    replace h := h.2
    refine nw_cast l_X1_addSign_18 19 rfl k_299 o2 o3 ?_
    refine nw_aload_n l_X1_addSign_19 20 rfl rfl ?_
    refine nw_dupA l_X1_addSign_20 21 rfl ?_
    refine nw_getI l_X1_addSign_21 24 rfl k_297 (v := J 297 0) (show nw_u J 299 (J 297 0) x1 297 0 = J 297 0 from (nw_uN (a := 299) (b := 297) (by decide))) ?_
    refine nw_iconst (len := 0) l_X1_addSign_24 25 rfl c_1 ?_
    have o4 := h.1
    replace h := h.2
    refine nw_iadd l_X1_addSign_25 26 rfl o4 ?_
    refine nw_putI l_X1_addSign_26 29 rfl k_297 ?_
    refine nw_return l_X1_addSign_29 rfl ?_
    exact h
theorem b_X1_parse_0  (h : NW sc d_X1_parse D (7, [some (.inr (.inl (some 297))), some (.inl 0), none], [], (nw_u J 297 1 0, L, W), c, sl) Qr Qx) :
    NW sc d_X1_parse D (0, [some (.inr (.inl (some 297))), none, none], [], (J, L, W), c, sl) Qr Qx := by
  refine nw_aload_n l_X1_parse_0 1 rfl rfl ?_
  refine nw_iconst (len := 0) l_X1_parse_1 2 rfl c_0 ?_
  refine nw_putI l_X1_parse_2 5 rfl k_297 ?_
  refine nw_iconst (len := 0) l_X1_parse_5 6 rfl c_0 ?_
  refine nw_istore_n l_X1_parse_6 7 rfl rfl (ls' := [some (.inr (.inl (some 297))), some (.inl 0), none]) rfl ?_
  exact h
theorem b_X1_parse_7 {x1 : Int} (hD : 15 ≤ D) (h : ((10 ≤ J 297 1 → Qr (some (.inl x1)) (J, L, W)) ∧ (J 297 1 < 10 → NW sc d_X1_readCommand 14 (0, [some (.inr (.inl (some 297))), some (.inl x1), none, none, none], [], (J, L, W), 0, 0) (fun v M9 => NW sc d_X1_parse D (21, [some (.inr (.inl (some 297))), none, none], nw_push v [], M9, c, sl) Qr Qx) Qx))) :
    NW sc d_X1_parse D (7, [some (.inr (.inl (some 297))), some (.inl x1), none], [], (J, L, W), c, sl) Qr Qx := by
  refine nw_aload_n l_X1_parse_7 8 rfl rfl ?_
  refine nw_getI l_X1_parse_8 11 rfl k_297 (v := J 297 1) rfl ?_
  refine nw_bipush (len := 0) l_X1_parse_11 13 rfl c_10 ?_
  refine nw_ic_ge l_X1_parse_13 16 rfl (fun q1 => ?_) (fun q1 => ?_)
  · replace h := h.1 q1
    refine nw_iload_n l_X1_parse_70 71 rfl rfl ?_
    refine nw_ireturn l_X1_parse_71 rfl ?_
    exact h
  · replace h := h.2 q1
    refine nw_aload_n l_X1_parse_16 17 rfl rfl ?_
    refine nw_iload_n l_X1_parse_17 18 rfl rfl ?_
    refine nw_drop (ls' := [some (.inr (.inl (some 297))), none, none]) ⟨rfl, ⟨True.intro, ⟨True.intro, True.intro⟩⟩⟩ ?_
    refine nw_call0 14 297 l_X1_parse_18 rfl rfl g_X1_readCommand (Nat.lt_of_lt_of_le (by decide) hD) rfl (Or.inl ⟨_, rfl, k_297⟩) (ls' := [some (.inr (.inl (some 297))), some (.inl x1), none, none, none]) rfl (st' := []) rfl 21 rfl ?_
    exact h
theorem b_X1_parse_21 {y0 : Int} (h : ((0 ≤ y0 → ((-2147483648 ≤ (J 297 1) + 1 ∧ (J 297 1) + 1 < 2147483648) ∧ ((y0 < J 297 0 → ((0 ≤ y0 ∧ y0 < 60) ∧ ((J 299 y0 = 59 → ((-2147483648 ≤ y0 + 1 ∧ y0 + 1 < 2147483648) ∧ NW sc d_X1_parse D (7, [some (.inr (.inl (some 297))), some (.inl (y0 + 1)), none], [], (nw_u J 297 1 ((J 297 1) + 1), L, W), c, sl) Qr Qx)) ∧ (¬ J 299 y0 = 59 → Qr (some (.inl y0)) (nw_u J 297 1 ((J 297 1) + 1), L, W))))) ∧ (J 297 0 ≤ y0 → Qr (some (.inl (-1))) (nw_u J 297 1 ((J 297 1) + 1), L, W))))) ∧ (y0 < 0 → ((-2147483648 ≤ (-1) - y0 ∧ (-1) - y0 < 2147483648) ∧ Qr (some (.inl ((-1) - y0))) (J, L, W))))) :
    NW sc d_X1_parse D (21, [some (.inr (.inl (some 297))), none, none], [.inl y0], (J, L, W), c, sl) Qr Qx := by
  refine nw_istore_n l_X1_parse_21 22 rfl rfl (ls' := [some (.inr (.inl (some 297))), none, some (.inl y0)]) rfl ?_
  refine nw_iload_n l_X1_parse_22 23 rfl rfl ?_
  refine nw_if_ge l_X1_parse_23 26 rfl (fun q1 => ?_) (fun q1 => ?_)
  · replace h := h.1 q1
    refine nw_aload_n l_X1_parse_30 31 rfl rfl ?_
    refine nw_dupA l_X1_parse_31 32 rfl ?_
    refine nw_getI l_X1_parse_32 35 rfl k_297 (v := J 297 1) rfl ?_
    refine nw_iconst (len := 0) l_X1_parse_35 36 rfl c_1 ?_
    have o2 := h.1
    replace h := h.2
    refine nw_iadd l_X1_parse_36 37 rfl o2 ?_
    refine nw_putI l_X1_parse_37 40 rfl k_297 ?_
    refine nw_iload_n l_X1_parse_40 41 rfl rfl ?_
    refine nw_aload_n l_X1_parse_41 42 rfl rfl ?_
    refine nw_getI l_X1_parse_42 45 rfl k_297 (v := J 297 0) (show nw_u J 297 1 ((J 297 1) + 1) 297 0 = J 297 0 from (nw_uI (i := 1) (j := 0) (by decide))) ?_
    refine nw_ic_lt l_X1_parse_45 48 rfl (fun q3 => ?_) (fun q3 => ?_)
    · replace h := h.1 q3
      refine nw_aload_n l_X1_parse_50 51 rfl rfl ?_
      refine nw_getA l_X1_parse_51 54 rfl k_297 r_297_3 ?_
      refine nw_iload_n l_X1_parse_54 55 rfl rfl ?_
      have o4 := h.1
      replace h := h.2
      refine nw_cald l_X1_parse_55 56 rfl k_299 o4 (v := J 299 y0) (show nw_u J 297 1 ((J 297 1) + 1) 299 y0 = J 299 y0 from (nw_uN (a := 297) (b := 299) (by decide))) ?_
      refine nw_bipush (len := 0) l_X1_parse_56 58 rfl c_59 ?_
      refine nw_ic_eq l_X1_parse_58 61 rfl (fun q5 => ?_) (fun q5 => ?_)
      · replace h := h.1 q5
        refine nw_iload_n l_X1_parse_63 64 rfl rfl ?_
        refine nw_iconst (len := 0) l_X1_parse_64 65 rfl c_1 ?_
        have o6 := h.1
        replace h := h.2
        refine nw_iadd l_X1_parse_65 66 rfl o6 ?_
        refine nw_istore_n l_X1_parse_66 67 rfl rfl (ls' := [some (.inr (.inl (some 297))), some (.inl (y0 + 1)), some (.inl y0)]) rfl ?_
        refine nw_goto l_X1_parse_67 ?_
        refine nw_drop (ls' := [some (.inr (.inl (some 297))), some (.inl (y0 + 1)), none]) ⟨rfl, ⟨rfl, ⟨True.intro, True.intro⟩⟩⟩ ?_
        exact h
      · replace h := h.2 q5
        refine nw_iload_n l_X1_parse_61 62 rfl rfl ?_
        refine nw_ireturn l_X1_parse_62 rfl ?_
        exact h
    · replace h := h.2 q3
      refine nw_iconst (len := 0) l_X1_parse_48 49 rfl c_n1 ?_
      refine nw_ireturn l_X1_parse_49 rfl ?_
      exact h
  · replace h := h.2 q1
    refine nw_iconst (len := 0) l_X1_parse_26 27 rfl c_n1 ?_
    refine nw_iload_n l_X1_parse_27 28 rfl rfl ?_
    have o7 := h.1
    replace h := h.2
    refine nw_isub l_X1_parse_28 29 rfl o7 ?_
    refine nw_ireturn l_X1_parse_29 rfl ?_
    exact h
end

