/-! copies, history, forms: blocks of methods, by program -/
theorem c_255 : Int32.ofInt (255) = (255) ∧ nw_in (255) := by decide
section
variable {sc : Nat × (Nat → Int32)} {D : Nat} {J L : Nat → Int → Int} {W : nw_W} {c sl : Nat} {Qr : nw_QR} {Qx : nw_QX}
theorem b_X9_copyFromS_0  {p0 : Nat} (hp0 : nw_st p0 = true) {p1 : Nat} (hp1 : nw_st p1 = true) (h : Qr none (nw_cp (nw_cp (nw_cp (nw_cp (nw_cp (nw_u (nw_u J (p0 + 1) 0 (J (p1 + 1) 0)) (p0 + 1) 1 ((nw_u J (p0 + 1) 0 (J (p1 + 1) 0)) (p1 + 1) 1)) (p1 + 2) (p0 + 2) 0 0 6) (p1 + 3) (p0 + 3) 0 0 10) (p1 + 4) (p0 + 4) 0 0 10) (p1 + 5) (p0 + 5) 0 0 10) (p1 + 6) (p0 + 6) 0 0 10, L, W)) :
    NW sc d_X9_copyFrom D (0, [some (.inr (.inl (some (p0 + 1)))), some (.inr (.inl (some (p1 + 1))))], [], (J, L, W), c, sl) Qr Qx := by
  refine nw_aload_n l_X9_copyFrom_0 1 rfl rfl ?_
  refine nw_aload_n l_X9_copyFrom_1 2 rfl rfl ?_
  refine nw_getI l_X9_copyFrom_2 5 rfl (ks_1 hp1) (v := J (p1 + 1) 0) rfl ?_
  refine nw_putI l_X9_copyFrom_5 8 rfl (ks_1 hp0) ?_
  refine nw_aload_n l_X9_copyFrom_8 9 rfl rfl ?_
  refine nw_aload_n l_X9_copyFrom_9 10 rfl rfl ?_
  refine nw_getI l_X9_copyFrom_10 13 rfl (ks_1 hp1) (v := (nw_u J (p0 + 1) 0 (J (p1 + 1) 0)) (p1 + 1) 1) rfl ?_
  refine nw_putI l_X9_copyFrom_13 16 rfl (ks_1 hp0) ?_
  refine nw_aload_n l_X9_copyFrom_16 17 rfl rfl ?_
  refine nw_getA l_X9_copyFrom_17 20 rfl (ks_1 hp1) (rs_1_2 hp1) ?_
  refine nw_iconst (len := 0) l_X9_copyFrom_20 21 rfl c_0 ?_
  refine nw_aload_n l_X9_copyFrom_21 22 rfl rfl ?_
  refine nw_getA l_X9_copyFrom_22 25 rfl (ks_1 hp0) (rs_1_2 hp0) ?_
  refine nw_iconst (len := 0) l_X9_copyFrom_25 26 rfl c_0 ?_
  refine nw_bipush (len := 0) l_X9_copyFrom_26 28 rfl c_6 ?_
  refine nw_acopy l_X9_copyFrom_28 31 rfl (by decide) (ks_2 hp1) (ks_2 hp0) ⟨by decide, by decide, by decide, by decide, by decide⟩ ?_
  refine nw_aload_n l_X9_copyFrom_31 32 rfl rfl ?_
  refine nw_getA l_X9_copyFrom_32 35 rfl (ks_1 hp1) (rs_1_3 hp1) ?_
  refine nw_iconst (len := 0) l_X9_copyFrom_35 36 rfl c_0 ?_
  refine nw_aload_n l_X9_copyFrom_36 37 rfl rfl ?_
  refine nw_getA l_X9_copyFrom_37 40 rfl (ks_1 hp0) (rs_1_3 hp0) ?_
  refine nw_iconst (len := 0) l_X9_copyFrom_40 41 rfl c_0 ?_
  refine nw_bipush (len := 0) l_X9_copyFrom_41 43 rfl c_10 ?_
  refine nw_acopy l_X9_copyFrom_43 46 rfl (by decide) (ks_3 hp1) (ks_3 hp0) ⟨by decide, by decide, by decide, by decide, by decide⟩ ?_
  refine nw_aload_n l_X9_copyFrom_46 47 rfl rfl ?_
  refine nw_getA l_X9_copyFrom_47 50 rfl (ks_1 hp1) (rs_1_4 hp1) ?_
  refine nw_iconst (len := 0) l_X9_copyFrom_50 51 rfl c_0 ?_
  refine nw_aload_n l_X9_copyFrom_51 52 rfl rfl ?_
  refine nw_getA l_X9_copyFrom_52 55 rfl (ks_1 hp0) (rs_1_4 hp0) ?_
  refine nw_iconst (len := 0) l_X9_copyFrom_55 56 rfl c_0 ?_
  refine nw_bipush (len := 0) l_X9_copyFrom_56 58 rfl c_10 ?_
  refine nw_acopy l_X9_copyFrom_58 61 rfl (by decide) (ks_4 hp1) (ks_4 hp0) ⟨by decide, by decide, by decide, by decide, by decide⟩ ?_
  refine nw_aload_n l_X9_copyFrom_61 62 rfl rfl ?_
  refine nw_getA l_X9_copyFrom_62 65 rfl (ks_1 hp1) (rs_1_5 hp1) ?_
  refine nw_iconst (len := 0) l_X9_copyFrom_65 66 rfl c_0 ?_
  refine nw_aload_n l_X9_copyFrom_66 67 rfl rfl ?_
  refine nw_getA l_X9_copyFrom_67 70 rfl (ks_1 hp0) (rs_1_5 hp0) ?_
  refine nw_iconst (len := 0) l_X9_copyFrom_70 71 rfl c_0 ?_
  refine nw_bipush (len := 0) l_X9_copyFrom_71 73 rfl c_10 ?_
  refine nw_acopy l_X9_copyFrom_73 76 rfl (by decide) (ks_5 hp1) (ks_5 hp0) ⟨by decide, by decide, by decide, by decide, by decide⟩ ?_
  refine nw_aload_n l_X9_copyFrom_76 77 rfl rfl ?_
  refine nw_getA l_X9_copyFrom_77 80 rfl (ks_1 hp1) (rs_1_6 hp1) ?_
  refine nw_iconst (len := 0) l_X9_copyFrom_80 81 rfl c_0 ?_
  refine nw_aload_n l_X9_copyFrom_81 82 rfl rfl ?_
  refine nw_getA l_X9_copyFrom_82 85 rfl (ks_1 hp0) (rs_1_6 hp0) ?_
  refine nw_iconst (len := 0) l_X9_copyFrom_85 86 rfl c_0 ?_
  refine nw_bipush (len := 0) l_X9_copyFrom_86 88 rfl c_10 ?_
  refine nw_acopy l_X9_copyFrom_88 91 rfl (by decide) (ks_6 hp1) (ks_6 hp0) ⟨by decide, by decide, by decide, by decide, by decide⟩ ?_
  refine nw_return l_X9_copyFrom_91 rfl ?_
  exact h
theorem b_X4_copyFromS_0  {p0 : Nat} (hp0 : nw_st p0 = true) {p1 : Nat} (hp1 : nw_st p1 = true) (h : Qr none (nw_cp (nw_cp (nw_cp (nw_u (nw_u (nw_cp (nw_cp (nw_cp (nw_cp (nw_cp (nw_u J (p0 + 7) 0 (J (p1 + 7) 0)) (p1 + 8) (p0 + 8) 0 0 3) (p1 + 9) (p0 + 9) 0 0 3) (p1 + 10) (p0 + 10) 0 0 3) (p1 + 11) (p0 + 11) 0 0 3) (p1 + 12) (p0 + 12) 0 0 3) (p0 + 7) 6 ((nw_cp (nw_cp (nw_cp (nw_cp (nw_cp (nw_u J (p0 + 7) 0 (J (p1 + 7) 0)) (p1 + 8) (p0 + 8) 0 0 3) (p1 + 9) (p0 + 9) 0 0 3) (p1 + 10) (p0 + 10) 0 0 3) (p1 + 11) (p0 + 11) 0 0 3) (p1 + 12) (p0 + 12) 0 0 3) (p1 + 7) 6)) (p0 + 7) 7 ((nw_u (nw_cp (nw_cp (nw_cp (nw_cp (nw_cp (nw_u J (p0 + 7) 0 (J (p1 + 7) 0)) (p1 + 8) (p0 + 8) 0 0 3) (p1 + 9) (p0 + 9) 0 0 3) (p1 + 10) (p0 + 10) 0 0 3) (p1 + 11) (p0 + 11) 0 0 3) (p1 + 12) (p0 + 12) 0 0 3) (p0 + 7) 6 ((nw_cp (nw_cp (nw_cp (nw_cp (nw_cp (nw_u J (p0 + 7) 0 (J (p1 + 7) 0)) (p1 + 8) (p0 + 8) 0 0 3) (p1 + 9) (p0 + 9) 0 0 3) (p1 + 10) (p0 + 10) 0 0 3) (p1 + 11) (p0 + 11) 0 0 3) (p1 + 12) (p0 + 12) 0 0 3) (p1 + 7) 6)) (p1 + 7) 7)) (p1 + 13) (p0 + 13) 0 0 10) (p1 + 14) (p0 + 14) 0 0 10) (p1 + 15) (p0 + 15) 0 0 10, L, W)) :
    NW sc d_X4_copyFrom D (0, [some (.inr (.inl (some (p0 + 7)))), some (.inr (.inl (some (p1 + 7))))], [], (J, L, W), c, sl) Qr Qx := by
  refine nw_aload_n l_X4_copyFrom_0 1 rfl rfl ?_
  refine nw_aload_n l_X4_copyFrom_1 2 rfl rfl ?_
  refine nw_getI l_X4_copyFrom_2 5 rfl (ks_7 hp1) (v := J (p1 + 7) 0) rfl ?_
  refine nw_putI l_X4_copyFrom_5 8 rfl (ks_7 hp0) ?_
  refine nw_aload_n l_X4_copyFrom_8 9 rfl rfl ?_
  refine nw_getA l_X4_copyFrom_9 12 rfl (ks_7 hp1) (rs_7_1 hp1) ?_
  refine nw_iconst (len := 0) l_X4_copyFrom_12 13 rfl c_0 ?_
  refine nw_aload_n l_X4_copyFrom_13 14 rfl rfl ?_
  refine nw_getA l_X4_copyFrom_14 17 rfl (ks_7 hp0) (rs_7_1 hp0) ?_
  refine nw_iconst (len := 0) l_X4_copyFrom_17 18 rfl c_0 ?_
  refine nw_iconst (len := 0) l_X4_copyFrom_18 19 rfl c_3 ?_
  refine nw_acopy l_X4_copyFrom_19 22 rfl (by decide) (ks_8 hp1) (ks_8 hp0) ⟨by decide, by decide, by decide, by decide, by decide⟩ ?_
  refine nw_aload_n l_X4_copyFrom_22 23 rfl rfl ?_
  refine nw_getA l_X4_copyFrom_23 26 rfl (ks_7 hp1) (rs_7_2 hp1) ?_
  refine nw_iconst (len := 0) l_X4_copyFrom_26 27 rfl c_0 ?_
  refine nw_aload_n l_X4_copyFrom_27 28 rfl rfl ?_
  refine nw_getA l_X4_copyFrom_28 31 rfl (ks_7 hp0) (rs_7_2 hp0) ?_
  refine nw_iconst (len := 0) l_X4_copyFrom_31 32 rfl c_0 ?_
  refine nw_iconst (len := 0) l_X4_copyFrom_32 33 rfl c_3 ?_
  refine nw_acopy l_X4_copyFrom_33 36 rfl (by decide) (ks_9 hp1) (ks_9 hp0) ⟨by decide, by decide, by decide, by decide, by decide⟩ ?_
  refine nw_aload_n l_X4_copyFrom_36 37 rfl rfl ?_
  refine nw_getA l_X4_copyFrom_37 40 rfl (ks_7 hp1) (rs_7_3 hp1) ?_
  refine nw_iconst (len := 0) l_X4_copyFrom_40 41 rfl c_0 ?_
  refine nw_aload_n l_X4_copyFrom_41 42 rfl rfl ?_
  refine nw_getA l_X4_copyFrom_42 45 rfl (ks_7 hp0) (rs_7_3 hp0) ?_
  refine nw_iconst (len := 0) l_X4_copyFrom_45 46 rfl c_0 ?_
  refine nw_iconst (len := 0) l_X4_copyFrom_46 47 rfl c_3 ?_
  refine nw_acopy l_X4_copyFrom_47 50 rfl (by decide) (ks_10 hp1) (ks_10 hp0) ⟨by decide, by decide, by decide, by decide, by decide⟩ ?_
  refine nw_aload_n l_X4_copyFrom_50 51 rfl rfl ?_
  refine nw_getA l_X4_copyFrom_51 54 rfl (ks_7 hp1) (rs_7_4 hp1) ?_
  refine nw_iconst (len := 0) l_X4_copyFrom_54 55 rfl c_0 ?_
  refine nw_aload_n l_X4_copyFrom_55 56 rfl rfl ?_
  refine nw_getA l_X4_copyFrom_56 59 rfl (ks_7 hp0) (rs_7_4 hp0) ?_
  refine nw_iconst (len := 0) l_X4_copyFrom_59 60 rfl c_0 ?_
  refine nw_iconst (len := 0) l_X4_copyFrom_60 61 rfl c_3 ?_
  refine nw_acopy l_X4_copyFrom_61 64 rfl (by decide) (ks_11 hp1) (ks_11 hp0) ⟨by decide, by decide, by decide, by decide, by decide⟩ ?_
  refine nw_aload_n l_X4_copyFrom_64 65 rfl rfl ?_
  refine nw_getA l_X4_copyFrom_65 68 rfl (ks_7 hp1) (rs_7_5 hp1) ?_
  refine nw_iconst (len := 0) l_X4_copyFrom_68 69 rfl c_0 ?_
  refine nw_aload_n l_X4_copyFrom_69 70 rfl rfl ?_
  refine nw_getA l_X4_copyFrom_70 73 rfl (ks_7 hp0) (rs_7_5 hp0) ?_
  refine nw_iconst (len := 0) l_X4_copyFrom_73 74 rfl c_0 ?_
  refine nw_iconst (len := 0) l_X4_copyFrom_74 75 rfl c_3 ?_
  refine nw_acopy l_X4_copyFrom_75 78 rfl (by decide) (ks_12 hp1) (ks_12 hp0) ⟨by decide, by decide, by decide, by decide, by decide⟩ ?_
  refine nw_aload_n l_X4_copyFrom_78 79 rfl rfl ?_
  refine nw_aload_n l_X4_copyFrom_79 80 rfl rfl ?_
  refine nw_getI l_X4_copyFrom_80 83 rfl (ks_7 hp1) (v := (nw_cp (nw_cp (nw_cp (nw_cp (nw_cp (nw_u J (p0 + 7) 0 (J (p1 + 7) 0)) (p1 + 8) (p0 + 8) 0 0 3) (p1 + 9) (p0 + 9) 0 0 3) (p1 + 10) (p0 + 10) 0 0 3) (p1 + 11) (p0 + 11) 0 0 3) (p1 + 12) (p0 + 12) 0 0 3) (p1 + 7) 6) rfl ?_
  refine nw_putI l_X4_copyFrom_83 86 rfl (ks_7 hp0) ?_
  refine nw_aload_n l_X4_copyFrom_86 87 rfl rfl ?_
  refine nw_aload_n l_X4_copyFrom_87 88 rfl rfl ?_
  refine nw_getI l_X4_copyFrom_88 91 rfl (ks_7 hp1) (v := (nw_u (nw_cp (nw_cp (nw_cp (nw_cp (nw_cp (nw_u J (p0 + 7) 0 (J (p1 + 7) 0)) (p1 + 8) (p0 + 8) 0 0 3) (p1 + 9) (p0 + 9) 0 0 3) (p1 + 10) (p0 + 10) 0 0 3) (p1 + 11) (p0 + 11) 0 0 3) (p1 + 12) (p0 + 12) 0 0 3) (p0 + 7) 6 ((nw_cp (nw_cp (nw_cp (nw_cp (nw_cp (nw_u J (p0 + 7) 0 (J (p1 + 7) 0)) (p1 + 8) (p0 + 8) 0 0 3) (p1 + 9) (p0 + 9) 0 0 3) (p1 + 10) (p0 + 10) 0 0 3) (p1 + 11) (p0 + 11) 0 0 3) (p1 + 12) (p0 + 12) 0 0 3) (p1 + 7) 6)) (p1 + 7) 7) rfl ?_
  refine nw_putI l_X4_copyFrom_91 94 rfl (ks_7 hp0) ?_
  refine nw_aload_n l_X4_copyFrom_94 95 rfl rfl ?_
  refine nw_getA l_X4_copyFrom_95 98 rfl (ks_7 hp1) (rs_7_8 hp1) ?_
  refine nw_iconst (len := 0) l_X4_copyFrom_98 99 rfl c_0 ?_
  refine nw_aload_n l_X4_copyFrom_99 100 rfl rfl ?_
  refine nw_getA l_X4_copyFrom_100 103 rfl (ks_7 hp0) (rs_7_8 hp0) ?_
  refine nw_iconst (len := 0) l_X4_copyFrom_103 104 rfl c_0 ?_
  refine nw_bipush (len := 0) l_X4_copyFrom_104 106 rfl c_10 ?_
  refine nw_acopy l_X4_copyFrom_106 109 rfl (by decide) (ks_13 hp1) (ks_13 hp0) ⟨by decide, by decide, by decide, by decide, by decide⟩ ?_
  refine nw_aload_n l_X4_copyFrom_109 110 rfl rfl ?_
  refine nw_getA l_X4_copyFrom_110 113 rfl (ks_7 hp1) (rs_7_9 hp1) ?_
  refine nw_iconst (len := 0) l_X4_copyFrom_113 114 rfl c_0 ?_
  refine nw_aload_n l_X4_copyFrom_114 115 rfl rfl ?_
  refine nw_getA l_X4_copyFrom_115 118 rfl (ks_7 hp0) (rs_7_9 hp0) ?_
  refine nw_iconst (len := 0) l_X4_copyFrom_118 119 rfl c_0 ?_
  refine nw_bipush (len := 0) l_X4_copyFrom_119 121 rfl c_10 ?_
  refine nw_acopy l_X4_copyFrom_121 124 rfl (by decide) (ks_14 hp1) (ks_14 hp0) ⟨by decide, by decide, by decide, by decide, by decide⟩ ?_
  refine nw_aload_n l_X4_copyFrom_124 125 rfl rfl ?_
  refine nw_getA l_X4_copyFrom_125 128 rfl (ks_7 hp1) (rs_7_10 hp1) ?_
  refine nw_iconst (len := 0) l_X4_copyFrom_128 129 rfl c_0 ?_
  refine nw_aload_n l_X4_copyFrom_129 130 rfl rfl ?_
  refine nw_getA l_X4_copyFrom_130 133 rfl (ks_7 hp0) (rs_7_10 hp0) ?_
  refine nw_iconst (len := 0) l_X4_copyFrom_133 134 rfl c_0 ?_
  refine nw_bipush (len := 0) l_X4_copyFrom_134 136 rfl c_10 ?_
  refine nw_acopy l_X4_copyFrom_136 139 rfl (by decide) (ks_15 hp1) (ks_15 hp0) ⟨by decide, by decide, by decide, by decide, by decide⟩ ?_
  refine nw_return l_X4_copyFrom_139 rfl ?_
  dsimp only
  exact h
theorem b_X7_copyFromS_0  {p0 : Nat} (hp0 : nw_st p0 = true) {p1 : Nat} (hp1 : nw_st p1 = true) (h : Qr none (nw_cp (nw_cp (nw_cp (nw_cp (nw_cp (nw_cp (nw_cp (nw_u (nw_u J (p0 + 16) 0 (J (p1 + 16) 0)) (p0 + 16) 1 ((nw_u J (p0 + 16) 0 (J (p1 + 16) 0)) (p1 + 16) 1)) (p1 + 17) (p0 + 17) 0 0 10) (p1 + 18) (p0 + 18) 0 0 10) (p1 + 19) (p0 + 19) 0 0 10) (p1 + 20) (p0 + 20) 0 0 10) (p1 + 21) (p0 + 21) 0 0 10) (p1 + 22) (p0 + 22) 0 0 10) (p1 + 23) (p0 + 23) 0 0 10, L, W)) :
    NW sc d_X7_copyFrom D (0, [some (.inr (.inl (some (p0 + 16)))), some (.inr (.inl (some (p1 + 16))))], [], (J, L, W), c, sl) Qr Qx := by
  refine nw_aload_n l_X7_copyFrom_0 1 rfl rfl ?_
  refine nw_aload_n l_X7_copyFrom_1 2 rfl rfl ?_
  refine nw_getI l_X7_copyFrom_2 5 rfl (ks_16 hp1) (v := J (p1 + 16) 0) rfl ?_
  refine nw_putI l_X7_copyFrom_5 8 rfl (ks_16 hp0) ?_
  refine nw_aload_n l_X7_copyFrom_8 9 rfl rfl ?_
  refine nw_aload_n l_X7_copyFrom_9 10 rfl rfl ?_
  refine nw_getI l_X7_copyFrom_10 13 rfl (ks_16 hp1) (v := (nw_u J (p0 + 16) 0 (J (p1 + 16) 0)) (p1 + 16) 1) rfl ?_
  refine nw_putI l_X7_copyFrom_13 16 rfl (ks_16 hp0) ?_
  refine nw_aload_n l_X7_copyFrom_16 17 rfl rfl ?_
  refine nw_getA l_X7_copyFrom_17 20 rfl (ks_16 hp1) (rs_16_2 hp1) ?_
  refine nw_iconst (len := 0) l_X7_copyFrom_20 21 rfl c_0 ?_
  refine nw_aload_n l_X7_copyFrom_21 22 rfl rfl ?_
  refine nw_getA l_X7_copyFrom_22 25 rfl (ks_16 hp0) (rs_16_2 hp0) ?_
  refine nw_iconst (len := 0) l_X7_copyFrom_25 26 rfl c_0 ?_
  refine nw_bipush (len := 0) l_X7_copyFrom_26 28 rfl c_10 ?_
  refine nw_acopy l_X7_copyFrom_28 31 rfl (by decide) (ks_17 hp1) (ks_17 hp0) ⟨by decide, by decide, by decide, by decide, by decide⟩ ?_
  refine nw_aload_n l_X7_copyFrom_31 32 rfl rfl ?_
  refine nw_getA l_X7_copyFrom_32 35 rfl (ks_16 hp1) (rs_16_3 hp1) ?_
  refine nw_iconst (len := 0) l_X7_copyFrom_35 36 rfl c_0 ?_
  refine nw_aload_n l_X7_copyFrom_36 37 rfl rfl ?_
  refine nw_getA l_X7_copyFrom_37 40 rfl (ks_16 hp0) (rs_16_3 hp0) ?_
  refine nw_iconst (len := 0) l_X7_copyFrom_40 41 rfl c_0 ?_
  refine nw_bipush (len := 0) l_X7_copyFrom_41 43 rfl c_10 ?_
  refine nw_acopy l_X7_copyFrom_43 46 rfl (by decide) (ks_18 hp1) (ks_18 hp0) ⟨by decide, by decide, by decide, by decide, by decide⟩ ?_
  refine nw_aload_n l_X7_copyFrom_46 47 rfl rfl ?_
  refine nw_getA l_X7_copyFrom_47 50 rfl (ks_16 hp1) (rs_16_4 hp1) ?_
  refine nw_iconst (len := 0) l_X7_copyFrom_50 51 rfl c_0 ?_
  refine nw_aload_n l_X7_copyFrom_51 52 rfl rfl ?_
  refine nw_getA l_X7_copyFrom_52 55 rfl (ks_16 hp0) (rs_16_4 hp0) ?_
  refine nw_iconst (len := 0) l_X7_copyFrom_55 56 rfl c_0 ?_
  refine nw_bipush (len := 0) l_X7_copyFrom_56 58 rfl c_10 ?_
  refine nw_acopy l_X7_copyFrom_58 61 rfl (by decide) (ks_19 hp1) (ks_19 hp0) ⟨by decide, by decide, by decide, by decide, by decide⟩ ?_
  refine nw_aload_n l_X7_copyFrom_61 62 rfl rfl ?_
  refine nw_getA l_X7_copyFrom_62 65 rfl (ks_16 hp1) (rs_16_5 hp1) ?_
  refine nw_iconst (len := 0) l_X7_copyFrom_65 66 rfl c_0 ?_
  refine nw_aload_n l_X7_copyFrom_66 67 rfl rfl ?_
  refine nw_getA l_X7_copyFrom_67 70 rfl (ks_16 hp0) (rs_16_5 hp0) ?_
  refine nw_iconst (len := 0) l_X7_copyFrom_70 71 rfl c_0 ?_
  refine nw_bipush (len := 0) l_X7_copyFrom_71 73 rfl c_10 ?_
  refine nw_acopy l_X7_copyFrom_73 76 rfl (by decide) (ks_20 hp1) (ks_20 hp0) ⟨by decide, by decide, by decide, by decide, by decide⟩ ?_
  refine nw_aload_n l_X7_copyFrom_76 77 rfl rfl ?_
  refine nw_getA l_X7_copyFrom_77 80 rfl (ks_16 hp1) (rs_16_6 hp1) ?_
  refine nw_iconst (len := 0) l_X7_copyFrom_80 81 rfl c_0 ?_
  refine nw_aload_n l_X7_copyFrom_81 82 rfl rfl ?_
  refine nw_getA l_X7_copyFrom_82 85 rfl (ks_16 hp0) (rs_16_6 hp0) ?_
  refine nw_iconst (len := 0) l_X7_copyFrom_85 86 rfl c_0 ?_
  refine nw_bipush (len := 0) l_X7_copyFrom_86 88 rfl c_10 ?_
  refine nw_acopy l_X7_copyFrom_88 91 rfl (by decide) (ks_21 hp1) (ks_21 hp0) ⟨by decide, by decide, by decide, by decide, by decide⟩ ?_
  refine nw_aload_n l_X7_copyFrom_91 92 rfl rfl ?_
  refine nw_getA l_X7_copyFrom_92 95 rfl (ks_16 hp1) (rs_16_7 hp1) ?_
  refine nw_iconst (len := 0) l_X7_copyFrom_95 96 rfl c_0 ?_
  refine nw_aload_n l_X7_copyFrom_96 97 rfl rfl ?_
  refine nw_getA l_X7_copyFrom_97 100 rfl (ks_16 hp0) (rs_16_7 hp0) ?_
  refine nw_iconst (len := 0) l_X7_copyFrom_100 101 rfl c_0 ?_
  refine nw_bipush (len := 0) l_X7_copyFrom_101 103 rfl c_10 ?_
  refine nw_acopy l_X7_copyFrom_103 106 rfl (by decide) (ks_22 hp1) (ks_22 hp0) ⟨by decide, by decide, by decide, by decide, by decide⟩ ?_
  refine nw_aload_n l_X7_copyFrom_106 107 rfl rfl ?_
  refine nw_getA l_X7_copyFrom_107 110 rfl (ks_16 hp1) (rs_16_8 hp1) ?_
  refine nw_iconst (len := 0) l_X7_copyFrom_110 111 rfl c_0 ?_
  refine nw_aload_n l_X7_copyFrom_111 112 rfl rfl ?_
  refine nw_getA l_X7_copyFrom_112 115 rfl (ks_16 hp0) (rs_16_8 hp0) ?_
  refine nw_iconst (len := 0) l_X7_copyFrom_115 116 rfl c_0 ?_
  refine nw_bipush (len := 0) l_X7_copyFrom_116 118 rfl c_10 ?_
  refine nw_acopy l_X7_copyFrom_118 121 rfl (by decide) (ks_23 hp1) (ks_23 hp0) ⟨by decide, by decide, by decide, by decide, by decide⟩ ?_
  refine nw_return l_X7_copyFrom_121 rfl ?_
  dsimp only
  exact h
theorem b_X8_copyFromS_0  (hD : 1 ≤ D) {p0 : Nat} (hp0 : nw_st p0 = true) {p1 : Nat} (hp1 : nw_st p1 = true) (h : NW sc d_X9_copyFrom 0 (0, [some (.inr (.inl (some (p0 + 1)))), some (.inr (.inl (some (p1 + 1))))], [], (J, L, W), 0, 0) (fun v M9 => NW sc d_X8_copyFrom D (11, [some (.inr (.inl (some p0))), some (.inr (.inl (some p1)))], nw_push v [], M9, c, sl) Qr Qx) Qx) :
    NW sc d_X8_copyFrom D (0, [some (.inr (.inl (some p0))), some (.inr (.inl (some p1)))], [], (J, L, W), c, sl) Qr Qx := by
  refine nw_aload_n l_X8_copyFrom_0 1 rfl rfl ?_
  refine nw_getA l_X8_copyFrom_1 4 rfl (ks_0 hp0) (rs_0_0 hp0) ?_
  refine nw_aload_n l_X8_copyFrom_4 5 rfl rfl ?_
  refine nw_getA l_X8_copyFrom_5 8 rfl (ks_0 hp1) (rs_0_0 hp1) ?_
  refine nw_call0 0 (p0 + 1) l_X8_copyFrom_8 rfl rfl g_X9_copyFrom (Nat.lt_of_lt_of_le (by decide) hD) rfl (Or.inl ⟨_, rfl, (ks_1 hp0)⟩) (ls' := [some (.inr (.inl (some (p0 + 1)))), some (.inr (.inl (some (p1 + 1))))]) rfl (st' := []) rfl 11 rfl ?_
  exact h
theorem b_X8_copyFromS_11  (hD : 1 ≤ D) {p0 : Nat} (hp0 : nw_st p0 = true) {p1 : Nat} (hp1 : nw_st p1 = true) (h : NW sc d_X4_copyFrom 0 (0, [some (.inr (.inl (some (p0 + 7)))), some (.inr (.inl (some (p1 + 7))))], [], (J, L, W), 0, 0) (fun v M9 => NW sc d_X8_copyFrom D (22, [some (.inr (.inl (some p0))), some (.inr (.inl (some p1)))], nw_push v [], M9, c, sl) Qr Qx) Qx) :
    NW sc d_X8_copyFrom D (11, [some (.inr (.inl (some p0))), some (.inr (.inl (some p1)))], [], (J, L, W), c, sl) Qr Qx := by
  refine nw_aload_n l_X8_copyFrom_11 12 rfl rfl ?_
  refine nw_getA l_X8_copyFrom_12 15 rfl (ks_0 hp0) (rs_0_1 hp0) ?_
  refine nw_aload_n l_X8_copyFrom_15 16 rfl rfl ?_
  refine nw_getA l_X8_copyFrom_16 19 rfl (ks_0 hp1) (rs_0_1 hp1) ?_
  refine nw_call0 0 (p0 + 7) l_X8_copyFrom_19 rfl rfl g_X4_copyFrom (Nat.lt_of_lt_of_le (by decide) hD) rfl (Or.inl ⟨_, rfl, (ks_7 hp0)⟩) (ls' := [some (.inr (.inl (some (p0 + 7)))), some (.inr (.inl (some (p1 + 7))))]) rfl (st' := []) rfl 22 rfl ?_
  exact h
theorem b_X8_copyFromS_22  (hD : 1 ≤ D) {p0 : Nat} (hp0 : nw_st p0 = true) {p1 : Nat} (hp1 : nw_st p1 = true) (h : NW sc d_X7_copyFrom 0 (0, [some (.inr (.inl (some (p0 + 16)))), some (.inr (.inl (some (p1 + 16))))], [], (J, L, W), 0, 0) (fun v M9 => NW sc d_X8_copyFrom D (33, [some (.inr (.inl (some p0))), some (.inr (.inl (some p1)))], nw_push v [], M9, c, sl) Qr Qx) Qx) :
    NW sc d_X8_copyFrom D (22, [some (.inr (.inl (some p0))), some (.inr (.inl (some p1)))], [], (J, L, W), c, sl) Qr Qx := by
  refine nw_aload_n l_X8_copyFrom_22 23 rfl rfl ?_
  refine nw_getA l_X8_copyFrom_23 26 rfl (ks_0 hp0) (rs_0_2 hp0) ?_
  refine nw_aload_n l_X8_copyFrom_26 27 rfl rfl ?_
  refine nw_getA l_X8_copyFrom_27 30 rfl (ks_0 hp1) (rs_0_2 hp1) ?_
  refine nw_call0 0 (p0 + 16) l_X8_copyFrom_30 rfl rfl g_X7_copyFrom (Nat.lt_of_lt_of_le (by decide) hD) rfl (Or.inl ⟨_, rfl, (ks_16 hp0)⟩) (ls' := [some (.inr (.inl (some (p0 + 16)))), some (.inr (.inl (some (p1 + 16))))]) rfl (st' := []) rfl 33 rfl ?_
  exact h
theorem b_X8_copyFromS_33  {p0 : Nat} (hp0 : nw_st p0 = true) {p1 : Nat} (hp1 : nw_st p1 = true) (h : Qr none (nw_u (nw_u J p0 3 (J p1 3)) p0 4 ((nw_u J p0 3 (J p1 3)) p1 4), nw_u L p0 5 (L p1 5), W)) :
    NW sc d_X8_copyFrom D (33, [some (.inr (.inl (some p0))), some (.inr (.inl (some p1)))], [], (J, L, W), c, sl) Qr Qx := by
  refine nw_aload_n l_X8_copyFrom_33 34 rfl rfl ?_
  refine nw_aload_n l_X8_copyFrom_34 35 rfl rfl ?_
  refine nw_getI l_X8_copyFrom_35 38 rfl (ks_0 hp1) (v := J p1 3) rfl ?_
  refine nw_putI l_X8_copyFrom_38 41 rfl (ks_0 hp0) ?_
  refine nw_aload_n l_X8_copyFrom_41 42 rfl rfl ?_
  refine nw_aload_n l_X8_copyFrom_42 43 rfl rfl ?_
  refine nw_getI l_X8_copyFrom_43 46 rfl (ks_0 hp1) (v := (nw_u J p0 3 (J p1 3)) p1 4) rfl ?_
  refine nw_putI l_X8_copyFrom_46 49 rfl (ks_0 hp0) ?_
  refine nw_aload_n l_X8_copyFrom_49 50 rfl rfl ?_
  refine nw_aload_n l_X8_copyFrom_50 51 rfl rfl ?_
  refine nw_getL l_X8_copyFrom_51 54 rfl (ks_0 hp1) (v := L p1 5) rfl ?_
  refine nw_putL l_X8_copyFrom_54 57 rfl (ks_0 hp0) ?_
  refine nw_return l_X8_copyFrom_57 rfl ?_
  exact h
theorem b_X5_remember_0  (hD : 2 ≤ D) (hH : ∀ k, k < 8 → nw_st (W.2.1 k) = true) (h : ((J 103 0 < 8 → ((0 ≤ J 103 0 ∧ J 103 0 < 8) ∧ NW sc d_X8_copyFrom 1 (0, [some (.inr (.inl (some (W.2.1 (J 103 0).toNat)))), some (.inr (.inl (some 55)))], [], (J, L, W), 0, 0) (fun v M9 => NW sc d_X5_remember D (26, [some (.inr (.inl (some 103))), none], nw_push v [], M9, c, sl) Qr Qx) Qx)) ∧ (8 ≤ J 103 0 → NW sc d_X5_forgetOldest 0 (0, [some (.inr (.inl (some 103))), none, none], [], (J, L, W), 0, 0) (fun v M9 => NW sc d_X5_remember D (13, [some (.inr (.inl (some 103))), some (.inr (.inl (some 55)))], nw_push v [], M9, c, sl) Qr Qx) Qx))) :
    NW sc d_X5_remember D (0, [some (.inr (.inl (some 103))), some (.inr (.inl (some 55)))], [], (J, L, W), c, sl) Qr Qx := by
  refine nw_aload_n l_X5_remember_0 1 rfl rfl ?_
  refine nw_getI l_X5_remember_1 4 rfl k_103 (v := J 103 0) rfl ?_
  refine nw_bipush (len := 0) l_X5_remember_4 6 rfl c_8 ?_
  refine nw_ic_lt l_X5_remember_6 9 rfl (fun q1 => ?_) (fun q1 => ?_)
  · replace h := h.1 q1
    refine nw_aload_n l_X5_remember_13 14 rfl rfl ?_
    refine nw_getA l_X5_remember_14 17 rfl k_103 r_103_1 ?_
    refine nw_aload_n l_X5_remember_17 18 rfl rfl ?_
    refine nw_getI l_X5_remember_18 21 rfl k_103 (v := J 103 0) rfl ?_
    have o2 := h.1
    replace h := h.2
    refine nw_getHP l_X5_remember_21 22 rfl o2 ?_
    refine nw_aload_n l_X5_remember_22 23 rfl rfl ?_
    refine nw_drop (ls' := [some (.inr (.inl (some 103))), none]) ⟨rfl, ⟨True.intro, True.intro⟩⟩ ?_
    refine nw_call0 1 (W.2.1 (J 103 0).toNat) l_X5_remember_23 rfl rfl g_X8_copyFrom (Nat.lt_of_lt_of_le (by decide) hD) rfl (Or.inl ⟨_, rfl, (ks_0 (hH _ (by omega)))⟩) (ls' := [some (.inr (.inl (some (W.2.1 (J 103 0).toNat)))), some (.inr (.inl (some 55)))]) rfl (st' := []) rfl 26 rfl ?_
    exact h
  · replace h := h.2 q1
    refine nw_aload_n l_X5_remember_9 10 rfl rfl ?_
    refine nw_call0 0 103 l_X5_remember_10 rfl rfl g_X5_forgetOldest (Nat.lt_of_lt_of_le (by decide) hD) rfl (Or.inl ⟨_, rfl, k_103⟩) (ls' := [some (.inr (.inl (some 103))), none, none]) rfl (st' := []) rfl 13 rfl ?_
    exact h
theorem b_X5_remember_26  (h : ((-2147483648 ≤ (J 103 0) + 1 ∧ (J 103 0) + 1 < 2147483648) ∧ Qr none (nw_u J 103 0 ((J 103 0) + 1), L, W))) :
    NW sc d_X5_remember D (26, [some (.inr (.inl (some 103))), none], [], (J, L, W), c, sl) Qr Qx := by
  refine nw_aload_n l_X5_remember_26 27 rfl rfl ?_
  refine nw_dupA l_X5_remember_27 28 rfl ?_
  refine nw_getI l_X5_remember_28 31 rfl k_103 (v := J 103 0) rfl ?_
  refine nw_iconst (len := 0) l_X5_remember_31 32 rfl c_1 ?_
  have o1 := h.1
  replace h := h.2
  refine nw_iadd l_X5_remember_32 33 rfl o1 ?_
  refine nw_putI l_X5_remember_33 36 rfl k_103 ?_
  refine nw_return l_X5_remember_36 rfl ?_
  exact h
theorem b_X5_remember_13  (hD : 2 ≤ D) (hH : ∀ k, k < 8 → nw_st (W.2.1 k) = true) (h : ((0 ≤ J 103 0 ∧ J 103 0 < 8) ∧ NW sc d_X8_copyFrom 1 (0, [some (.inr (.inl (some (W.2.1 (J 103 0).toNat)))), some (.inr (.inl (some 55)))], [], (J, L, W), 0, 0) (fun v M9 => NW sc d_X5_remember D (26, [some (.inr (.inl (some 103))), none], nw_push v [], M9, c, sl) Qr Qx) Qx)) :
    NW sc d_X5_remember D (13, [some (.inr (.inl (some 103))), some (.inr (.inl (some 55)))], [], (J, L, W), c, sl) Qr Qx := by
  refine nw_aload_n l_X5_remember_13 14 rfl rfl ?_
  refine nw_getA l_X5_remember_14 17 rfl k_103 r_103_1 ?_
  refine nw_aload_n l_X5_remember_17 18 rfl rfl ?_
  refine nw_getI l_X5_remember_18 21 rfl k_103 (v := J 103 0) rfl ?_
  have o1 := h.1
  replace h := h.2
  refine nw_getHP l_X5_remember_21 22 rfl o1 ?_
  refine nw_aload_n l_X5_remember_22 23 rfl rfl ?_
  refine nw_drop (ls' := [some (.inr (.inl (some 103))), none]) ⟨rfl, ⟨True.intro, True.intro⟩⟩ ?_
  refine nw_call0 1 (W.2.1 (J 103 0).toNat) l_X5_remember_23 rfl rfl g_X8_copyFrom (Nat.lt_of_lt_of_le (by decide) hD) rfl (Or.inl ⟨_, rfl, (ks_0 (hH _ (by omega)))⟩) (ls' := [some (.inr (.inl (some (W.2.1 (J 103 0).toNat)))), some (.inr (.inl (some 55)))]) rfl (st' := []) rfl 26 rfl ?_
  exact h
theorem b_X5_forgetOldest_0  (h : NW sc d_X5_forgetOldest D (9, [some (.inr (.inl (some 103))), some (.inr (.inl (some (W.2.1 (0 : Int).toNat)))), some (.inl 1)], [], (J, L, W), c, sl) Qr Qx) :
    NW sc d_X5_forgetOldest D (0, [some (.inr (.inl (some 103))), none, none], [], (J, L, W), c, sl) Qr Qx := by
  refine nw_aload_n l_X5_forgetOldest_0 1 rfl rfl ?_
  refine nw_getA l_X5_forgetOldest_1 4 rfl k_103 r_103_1 ?_
  refine nw_iconst (len := 0) l_X5_forgetOldest_4 5 rfl c_0 ?_
  refine nw_getHP l_X5_forgetOldest_5 6 rfl ⟨by decide, by decide⟩ ?_
  refine nw_astore_n l_X5_forgetOldest_6 7 rfl rfl (ls' := [some (.inr (.inl (some 103))), some (.inr (.inl (some (W.2.1 (0 : Int).toNat)))), none]) rfl ?_
  refine nw_iconst (len := 0) l_X5_forgetOldest_7 8 rfl c_1 ?_
  refine nw_istore_n l_X5_forgetOldest_8 9 rfl rfl (ls' := [some (.inr (.inl (some 103))), some (.inr (.inl (some (W.2.1 (0 : Int).toNat)))), some (.inl 1)]) rfl ?_
  exact h
theorem b_X5_forgetOldest_9 {x2 : Int} {p1 : Nat} (hp1 : nw_st p1 = true) (hH : ∀ k, k < 8 → nw_st (W.2.1 k) = true) (h : ((8 ≤ x2 → Qr none (nw_u J 103 0 7, L, nw_hW W ((7 : Int).toNat) p1)) ∧ (x2 < 8 → ((-2147483648 ≤ x2 - 1 ∧ x2 - 1 < 2147483648) ∧ ((0 ≤ x2 ∧ x2 < 8) ∧ ((0 ≤ x2 - 1 ∧ x2 - 1 < 8) ∧ ((-2147483648 ≤ x2 + 1 ∧ x2 + 1 < 2147483648) ∧ NW sc d_X5_forgetOldest D (9, [some (.inr (.inl (some 103))), some (.inr (.inl (some p1))), some (.inl (x2 + 1))], [], (J, L, nw_hW W ((x2 - 1).toNat) (W.2.1 x2.toNat)), c, sl) Qr Qx))))))) :
    NW sc d_X5_forgetOldest D (9, [some (.inr (.inl (some 103))), some (.inr (.inl (some p1))), some (.inl x2)], [], (J, L, W), c, sl) Qr Qx := by
  refine nw_iload_n l_X5_forgetOldest_9 10 rfl rfl ?_
  refine nw_bipush (len := 0) l_X5_forgetOldest_10 12 rfl c_8 ?_
  refine nw_ic_ge l_X5_forgetOldest_12 15 rfl (fun q1 => ?_) (fun q1 => ?_)
  · replace h := h.1 q1
    refine nw_aload_n l_X5_forgetOldest_35 36 rfl rfl ?_
    refine nw_getA l_X5_forgetOldest_36 39 rfl k_103 r_103_1 ?_
    refine nw_bipush (len := 0) l_X5_forgetOldest_39 41 rfl c_7 ?_
    refine nw_aload_n l_X5_forgetOldest_41 42 rfl rfl ?_
    refine nw_putHP l_X5_forgetOldest_42 43 rfl ⟨by decide, by decide⟩ (ks_0 hp1) ?_
    refine nw_aload_n l_X5_forgetOldest_43 44 rfl rfl ?_
    refine nw_bipush (len := 0) l_X5_forgetOldest_44 46 rfl c_7 ?_
    refine nw_putI l_X5_forgetOldest_46 49 rfl k_103 ?_
    refine nw_return l_X5_forgetOldest_49 rfl ?_
    exact h
  · replace h := h.2 q1
    refine nw_aload_n l_X5_forgetOldest_15 16 rfl rfl ?_
    refine nw_getA l_X5_forgetOldest_16 19 rfl k_103 r_103_1 ?_
    refine nw_iload_n l_X5_forgetOldest_19 20 rfl rfl ?_
    refine nw_iconst (len := 0) l_X5_forgetOldest_20 21 rfl c_1 ?_
    have o2 := h.1
    replace h := h.2
    refine nw_isub l_X5_forgetOldest_21 22 rfl o2 ?_
    refine nw_aload_n l_X5_forgetOldest_22 23 rfl rfl ?_
    refine nw_getA l_X5_forgetOldest_23 26 rfl k_103 r_103_1 ?_
    refine nw_iload_n l_X5_forgetOldest_26 27 rfl rfl ?_
    have o3 := h.1
    replace h := h.2
    refine nw_getHP l_X5_forgetOldest_27 28 rfl o3 ?_
    have o4 := h.1
    replace h := h.2
    refine nw_putHP l_X5_forgetOldest_28 29 rfl o4 (ks_0 (hH _ (by omega))) ?_
    have o5 := h.1
    replace h := h.2
    refine nw_iinc l_X5_forgetOldest_29 32 rfl 1 (by decide) rfl rfl o5 (ls' := [some (.inr (.inl (some 103))), some (.inr (.inl (some p1))), some (.inl (x2 + 1))]) rfl ?_
    refine nw_goto l_X5_forgetOldest_32 ?_
    exact h
theorem b_X5_takeBack_0  (hD : 2 ≤ D) (h : ((J 103 0 ≤ 0 → Qr none (J, L, W)) ∧ (0 < J 103 0 → ((-2147483648 ≤ (J 103 0) - 1 ∧ (J 103 0) - 1 < 2147483648) ∧ ((0 ≤ (J 103 0) - 1 ∧ (J 103 0) - 1 < 8) ∧ NW sc d_X8_copyFrom 1 (0, [some (.inr (.inl (some 2))), some (.inr (.inl (some (W.2.1 ((J 103 0) - 1).toNat))))], [], (nw_u J 103 0 ((J 103 0) - 1), L, W), 0, 0) (fun v M9 => NW sc d_X5_takeBack D (30, [none, none], nw_push v [], M9, c, sl) Qr Qx) Qx))))) :
    NW sc d_X5_takeBack D (0, [some (.inr (.inl (some 103))), some (.inr (.inl (some 2)))], [], (J, L, W), c, sl) Qr Qx := by
  refine nw_aload_n l_X5_takeBack_0 1 rfl rfl ?_
  refine nw_getI l_X5_takeBack_1 4 rfl k_103 (v := J 103 0) rfl ?_
  refine nw_if_le l_X5_takeBack_4 7 rfl (fun q1 => ?_) (fun q1 => ?_)
  · replace h := h.1 q1
    refine nw_return l_X5_takeBack_30 rfl ?_
    exact h
  · replace h := h.2 q1
    refine nw_aload_n l_X5_takeBack_7 8 rfl rfl ?_
    refine nw_dupA l_X5_takeBack_8 9 rfl ?_
    refine nw_getI l_X5_takeBack_9 12 rfl k_103 (v := J 103 0) rfl ?_
    refine nw_iconst (len := 0) l_X5_takeBack_12 13 rfl c_1 ?_
    have o2 := h.1
    replace h := h.2
    refine nw_isub l_X5_takeBack_13 14 rfl o2 ?_
    refine nw_putI l_X5_takeBack_14 17 rfl k_103 ?_
    refine nw_aload_n l_X5_takeBack_17 18 rfl rfl ?_
    refine nw_aload_n l_X5_takeBack_18 19 rfl rfl ?_
    refine nw_getA l_X5_takeBack_19 22 rfl k_103 r_103_1 ?_
    refine nw_aload_n l_X5_takeBack_22 23 rfl rfl ?_
    refine nw_getI l_X5_takeBack_23 26 rfl k_103 (v := (J 103 0) - 1) (show nw_u J 103 0 ((J 103 0) - 1) 103 0 = (J 103 0) - 1 from nw_uS) ?_
    have o3 := h.1
    replace h := h.2
    refine nw_getHP l_X5_takeBack_26 27 rfl o3 ?_
    refine nw_drop (ls' := [none, none]) ⟨True.intro, ⟨True.intro, True.intro⟩⟩ ?_
    refine nw_call0 1 2 l_X5_takeBack_27 rfl rfl g_X8_copyFrom (Nat.lt_of_lt_of_le (by decide) hD) rfl (Or.inl ⟨_, rfl, k_2⟩) (ls' := [some (.inr (.inl (some 2))), some (.inr (.inl (some (W.2.1 ((J 103 0) - 1).toNat))))]) rfl (st' := []) rfl 30 rfl ?_
    exact h
theorem b_X5_takeBack_30  (h : Qr none (J, L, W)) :
    NW sc d_X5_takeBack D (30, [none, none], [], (J, L, W), c, sl) Qr Qx := by
  refine nw_return l_X5_takeBack_30 rfl ?_
  exact h
theorem b_X1_readForm_0 {x2 : Int} {u1 : Nat} (hu1 : 1000001 ≤ u1 ∧ u1 < 1000031) (h : ((-2147483648 ≤ (J 297 1) * 4 ∧ (J 297 1) * 4 < 2147483648) ∧ NW sc d_X1_readForm D (13, [some (.inr (.inl (some 297))), some (.inr (.inl (some u1))), none, some (.inl x2), some (.inl ((J 297 1) * 4)), some (.inl 0), none, none, none], [], (J, L, W), c, sl) Qr Qx)) :
    NW sc d_X1_readForm D (0, [some (.inr (.inl (some 297))), some (.inr (.inl (some u1))), some (.inl x2), none, none, none, none, none, none], [], (J, L, W), c, sl) Qr Qx := by
  refine nw_iload_n l_X1_readForm_0 1 rfl rfl ?_
  refine nw_istore_n l_X1_readForm_1 2 rfl rfl (ls' := [some (.inr (.inl (some 297))), some (.inr (.inl (some u1))), some (.inl x2), some (.inl x2), none, none, none, none, none]) rfl ?_
  refine nw_aload_n l_X1_readForm_2 3 rfl rfl ?_
  refine nw_getI l_X1_readForm_3 6 rfl k_297 (v := J 297 1) rfl ?_
  refine nw_iconst (len := 0) l_X1_readForm_6 7 rfl c_4 ?_
  have o1 := h.1
  replace h := h.2
  refine nw_imul l_X1_readForm_7 8 rfl o1 ?_
  refine nw_istore l_X1_readForm_8 10 rfl rfl (ls' := [some (.inr (.inl (some 297))), some (.inr (.inl (some u1))), some (.inl x2), some (.inl x2), some (.inl ((J 297 1) * 4)), none, none, none, none]) rfl ?_
  refine nw_iconst (len := 0) l_X1_readForm_10 11 rfl c_0 ?_
  refine nw_istore l_X1_readForm_11 13 rfl rfl (ls' := [some (.inr (.inl (some 297))), some (.inr (.inl (some u1))), some (.inl x2), some (.inl x2), some (.inl ((J 297 1) * 4)), some (.inl 0), none, none, none]) rfl ?_
  refine nw_drop (ls' := [some (.inr (.inl (some 297))), some (.inr (.inl (some u1))), none, some (.inl x2), some (.inl ((J 297 1) * 4)), some (.inl 0), none, none, none]) ⟨rfl, ⟨rfl, ⟨True.intro, ⟨rfl, ⟨rfl, ⟨rfl, ⟨True.intro, ⟨True.intro, ⟨True.intro, True.intro⟩⟩⟩⟩⟩⟩⟩⟩⟩ ?_
  exact h
theorem b_X1_readForm_13 {x3 : Int} {x4 : Int} {x5 : Int} (hD : 13 ≤ D) {u1 : Nat} (hu1 : 1000001 ≤ u1 ∧ u1 < 1000031) (h5 : 0 ≤ x5) (h : (((mw_ol (u1 + 100) : Int) ≤ x5 → Qr (some (.inl x3)) (J, L, W)) ∧ (x5 < (mw_ol (u1 + 100) : Int) → ((0 ≤ x5 ∧ x5 < (mw_ol (u1 + 100) : Int)) ∧ ((0 ≤ (nw_xiand (nw_ob (u1 + 100) x5) 255) % 65536 ∧ (nw_xiand (nw_ob (u1 + 100) x5) 255) % 65536 < 65536) ∧ (((nw_xiand (nw_ob (u1 + 100) x5) 255) % 65536 = 35 → ((J 297 0 ≤ x3 → ((-2147483648 ≤ (-1) - x3 ∧ (-1) - x3 < 2147483648) ∧ Qr (some (.inl ((-1) - x3))) (J, L, W))) ∧ (x3 < J 297 0 → ((0 ≤ x3 ∧ x3 < 60) ∧ ((J 299 x3 < 48 → ((-2147483648 ≤ (-1) - x3 ∧ (-1) - x3 < 2147483648) ∧ Qr (some (.inl ((-1) - x3))) (J, L, W))) ∧ (48 ≤ J 299 x3 → ((57 < J 299 x3 → ((-2147483648 ≤ (-1) - x3 ∧ (-1) - x3 < 2147483648) ∧ Qr (some (.inl ((-1) - x3))) (J, L, W))) ∧ (J 299 x3 ≤ 57 → ((-2147483648 ≤ (J 299 x3) - 48 ∧ (J 299 x3) - 48 < 2147483648) ∧ ((¬ (nw_xiand (nw_ob (u1 + 100) x5) 255) % 65536 = 42 → ((0 ≤ x4 ∧ x4 < 40) ∧ ((-2147483648 ≤ x4 + 1 ∧ x4 + 1 < 2147483648) ∧ ((-2147483648 ≤ x3 + 1 ∧ x3 + 1 < 2147483648) ∧ ((-2147483648 ≤ x5 + 1 ∧ x5 + 1 < 2147483648) ∧ NW sc d_X1_readForm D (13, [some (.inr (.inl (some 297))), some (.inr (.inl (some u1))), none, some (.inl (x3 + 1)), some (.inl (x4 + 1)), some (.inl (x5 + 1)), none, none, none], [], (nw_u J 300 x4 ((J 299 x3) - 48), L, W), c, sl) Qr Qx))))) ∧ ((nw_xiand (nw_ob (u1 + 100) x5) 255) % 65536 = 42 → ((-2147483648 ≤ x3 + 1 ∧ x3 + 1 < 2147483648) ∧ ((J 297 0 ≤ x3 + 1 → ((0 ≤ x4 ∧ x4 < 40) ∧ ((-2147483648 ≤ x4 + 1 ∧ x4 + 1 < 2147483648) ∧ ((-2147483648 ≤ x5 + 1 ∧ x5 + 1 < 2147483648) ∧ NW sc d_X1_readForm D (13, [some (.inr (.inl (some 297))), some (.inr (.inl (some u1))), none, some (.inl (x3 + 1)), some (.inl (x4 + 1)), some (.inl (x5 + 1)), none, none, none], [], (nw_u J 300 x4 ((J 299 x3) - 48), L, W), c, sl) Qr Qx)))) ∧ (x3 + 1 < J 297 0 → ((0 ≤ x3 + 1 ∧ x3 + 1 < 60) ∧ ((J 299 (x3 + 1) < 48 → ((0 ≤ x4 ∧ x4 < 40) ∧ ((-2147483648 ≤ x4 + 1 ∧ x4 + 1 < 2147483648) ∧ ((-2147483648 ≤ x5 + 1 ∧ x5 + 1 < 2147483648) ∧ NW sc d_X1_readForm D (13, [some (.inr (.inl (some 297))), some (.inr (.inl (some u1))), none, some (.inl (x3 + 1)), some (.inl (x4 + 1)), some (.inl (x5 + 1)), none, none, none], [], (nw_u J 300 x4 ((J 299 x3) - 48), L, W), c, sl) Qr Qx)))) ∧ (48 ≤ J 299 (x3 + 1) → ((57 < J 299 (x3 + 1) → ((0 ≤ x4 ∧ x4 < 40) ∧ ((-2147483648 ≤ x4 + 1 ∧ x4 + 1 < 2147483648) ∧ ((-2147483648 ≤ x5 + 1 ∧ x5 + 1 < 2147483648) ∧ NW sc d_X1_readForm D (13, [some (.inr (.inl (some 297))), some (.inr (.inl (some u1))), none, some (.inl (x3 + 1)), some (.inl (x4 + 1)), some (.inl (x5 + 1)), none, none, none], [], (nw_u J 300 x4 ((J 299 x3) - 48), L, W), c, sl) Qr Qx)))) ∧ (J 299 (x3 + 1) ≤ 57 → ((-2147483648 ≤ ((J 299 x3) - 48) * 10 ∧ ((J 299 x3) - 48) * 10 < 2147483648) ∧ ((-2147483648 ≤ (((J 299 x3) - 48) * 10) + (J 299 (x3 + 1)) ∧ (((J 299 x3) - 48) * 10) + (J 299 (x3 + 1)) < 2147483648) ∧ ((-2147483648 ≤ ((((J 299 x3) - 48) * 10) + (J 299 (x3 + 1))) - 48 ∧ ((((J 299 x3) - 48) * 10) + (J 299 (x3 + 1))) - 48 < 2147483648) ∧ ((0 ≤ x4 ∧ x4 < 40) ∧ ((-2147483648 ≤ x4 + 1 ∧ x4 + 1 < 2147483648) ∧ ((-2147483648 ≤ (x3 + 1) + 1 ∧ (x3 + 1) + 1 < 2147483648) ∧ ((-2147483648 ≤ x5 + 1 ∧ x5 + 1 < 2147483648) ∧ NW sc d_X1_readForm D (13, [some (.inr (.inl (some 297))), some (.inr (.inl (some u1))), none, some (.inl ((x3 + 1) + 1)), some (.inl (x4 + 1)), some (.inl (x5 + 1)), none, none, none], [], (nw_u J 300 x4 (((((J 299 x3) - 48) * 10) + (J 299 (x3 + 1))) - 48), L, W), c, sl) Qr Qx)))))))))))))))))))))))))) ∧ (¬ (nw_xiand (nw_ob (u1 + 100) x5) 255) % 65536 = 35 → ((¬ (nw_xiand (nw_ob (u1 + 100) x5) 255) % 65536 = 42 → ((J 297 0 ≤ x3 → ((-2147483648 ≤ (-1) - x3 ∧ (-1) - x3 < 2147483648) ∧ Qr (some (.inl ((-1) - x3))) (J, L, W))) ∧ (x3 < J 297 0 → ((0 ≤ x3 ∧ x3 < 60) ∧ ((¬ J 299 x3 = (nw_xiand (nw_ob (u1 + 100) x5) 255) % 65536 → ((-2147483648 ≤ (-1) - x3 ∧ (-1) - x3 < 2147483648) ∧ Qr (some (.inl ((-1) - x3))) (J, L, W))) ∧ (J 299 x3 = (nw_xiand (nw_ob (u1 + 100) x5) 255) % 65536 → ((-2147483648 ≤ x3 + 1 ∧ x3 + 1 < 2147483648) ∧ ((-2147483648 ≤ x5 + 1 ∧ x5 + 1 < 2147483648) ∧ NW sc d_X1_readForm D (13, [some (.inr (.inl (some 297))), some (.inr (.inl (some u1))), none, some (.inl (x3 + 1)), some (.inl x4), some (.inl (x5 + 1)), none, none, none], [], (J, L, W), c, sl) Qr Qx)))))))) ∧ ((nw_xiand (nw_ob (u1 + 100) x5) 255) % 65536 = 42 → ((J 297 0 ≤ x3 → ((-2147483648 ≤ (-1) - x3 ∧ (-1) - x3 < 2147483648) ∧ Qr (some (.inl ((-1) - x3))) (J, L, W))) ∧ (x3 < J 297 0 → ((0 ≤ x3 ∧ x3 < 60) ∧ ((J 299 x3 < 48 → ((-2147483648 ≤ (-1) - x3 ∧ (-1) - x3 < 2147483648) ∧ Qr (some (.inl ((-1) - x3))) (J, L, W))) ∧ (48 ≤ J 299 x3 → ((57 < J 299 x3 → ((-2147483648 ≤ (-1) - x3 ∧ (-1) - x3 < 2147483648) ∧ Qr (some (.inl ((-1) - x3))) (J, L, W))) ∧ (J 299 x3 ≤ 57 → ((-2147483648 ≤ (J 299 x3) - 48 ∧ (J 299 x3) - 48 < 2147483648) ∧ ((-2147483648 ≤ x3 + 1 ∧ x3 + 1 < 2147483648) ∧ ((J 297 0 ≤ x3 + 1 → ((0 ≤ x4 ∧ x4 < 40) ∧ ((-2147483648 ≤ x4 + 1 ∧ x4 + 1 < 2147483648) ∧ ((-2147483648 ≤ x5 + 1 ∧ x5 + 1 < 2147483648) ∧ NW sc d_X1_readForm D (13, [some (.inr (.inl (some 297))), some (.inr (.inl (some u1))), none, some (.inl (x3 + 1)), some (.inl (x4 + 1)), some (.inl (x5 + 1)), none, none, none], [], (nw_u J 300 x4 ((J 299 x3) - 48), L, W), c, sl) Qr Qx)))) ∧ (x3 + 1 < J 297 0 → ((0 ≤ x3 + 1 ∧ x3 + 1 < 60) ∧ ((J 299 (x3 + 1) < 48 → ((0 ≤ x4 ∧ x4 < 40) ∧ ((-2147483648 ≤ x4 + 1 ∧ x4 + 1 < 2147483648) ∧ ((-2147483648 ≤ x5 + 1 ∧ x5 + 1 < 2147483648) ∧ NW sc d_X1_readForm D (13, [some (.inr (.inl (some 297))), some (.inr (.inl (some u1))), none, some (.inl (x3 + 1)), some (.inl (x4 + 1)), some (.inl (x5 + 1)), none, none, none], [], (nw_u J 300 x4 ((J 299 x3) - 48), L, W), c, sl) Qr Qx)))) ∧ (48 ≤ J 299 (x3 + 1) → ((57 < J 299 (x3 + 1) → ((0 ≤ x4 ∧ x4 < 40) ∧ ((-2147483648 ≤ x4 + 1 ∧ x4 + 1 < 2147483648) ∧ ((-2147483648 ≤ x5 + 1 ∧ x5 + 1 < 2147483648) ∧ NW sc d_X1_readForm D (13, [some (.inr (.inl (some 297))), some (.inr (.inl (some u1))), none, some (.inl (x3 + 1)), some (.inl (x4 + 1)), some (.inl (x5 + 1)), none, none, none], [], (nw_u J 300 x4 ((J 299 x3) - 48), L, W), c, sl) Qr Qx)))) ∧ (J 299 (x3 + 1) ≤ 57 → ((-2147483648 ≤ ((J 299 x3) - 48) * 10 ∧ ((J 299 x3) - 48) * 10 < 2147483648) ∧ ((-2147483648 ≤ (((J 299 x3) - 48) * 10) + (J 299 (x3 + 1)) ∧ (((J 299 x3) - 48) * 10) + (J 299 (x3 + 1)) < 2147483648) ∧ ((-2147483648 ≤ ((((J 299 x3) - 48) * 10) + (J 299 (x3 + 1))) - 48 ∧ ((((J 299 x3) - 48) * 10) + (J 299 (x3 + 1))) - 48 < 2147483648) ∧ ((0 ≤ x4 ∧ x4 < 40) ∧ ((-2147483648 ≤ x4 + 1 ∧ x4 + 1 < 2147483648) ∧ ((-2147483648 ≤ (x3 + 1) + 1 ∧ (x3 + 1) + 1 < 2147483648) ∧ ((-2147483648 ≤ x5 + 1 ∧ x5 + 1 < 2147483648) ∧ NW sc d_X1_readForm D (13, [some (.inr (.inl (some 297))), some (.inr (.inl (some u1))), none, some (.inl ((x3 + 1) + 1)), some (.inl (x4 + 1)), some (.inl (x5 + 1)), none, none, none], [], (nw_u J 300 x4 (((((J 299 x3) - 48) * 10) + (J 299 (x3 + 1))) - 48), L, W), c, sl) Qr Qx)))))))))))))))))))))))))))))))) :
    NW sc d_X1_readForm D (13, [some (.inr (.inl (some 297))), some (.inr (.inl (some u1))), none, some (.inl x3), some (.inl x4), some (.inl x5), none, none, none], [], (J, L, W), c, sl) Qr Qx := by
  refine nw_iload l_X1_readForm_13 15 rfl rfl ?_
  refine nw_aload_n l_X1_readForm_15 16 rfl rfl ?_
  refine nw_call0 12 u1 l_X1_readForm_16 rfl rfl g_J0_length_8abf5 (Nat.lt_of_lt_of_le (by decide) hD) rfl (Or.inr ⟨rfl, rfl, hu1⟩) (ls' := [some (.inr (.inl (some u1)))]) rfl (st' := [.inl x5]) rfl 19 rfl ?_
  refine nw_aload_n l_J0_length_8abf5_0 1 rfl rfl ?_
  refine nw_getO0 l_J0_length_8abf5_1 4 rfl hu1 ?_
  refine nw_alenO l_J0_length_8abf5_4 5 rfl (nw_oaq hu1) (n := mw_ol (u1 + 100)) ⟨rfl, nw_olB _⟩ ?_
  refine nw_aload_n l_J0_length_8abf5_5 6 rfl rfl ?_
  refine nw_call0 4 u1 l_J0_length_8abf5_6 rfl rfl g_J0_coder_7d493 (by decide) rfl (Or.inr ⟨rfl, rfl, hu1⟩) (ls' := [some (.inr (.inl (some u1)))]) rfl (st' := [.inl (mw_ol (u1 + 100) : Int)]) rfl 9 rfl ?_
  refine nw_gst0 l_J0_coder_7d493_0 3 rfl ?_
  refine nw_if_eq l_J0_coder_7d493_3 6 rfl (fun q => absurd q (by decide)) (fun _ => ?_)
  refine nw_aload_n l_J0_coder_7d493_6 7 rfl rfl ?_
  refine nw_getO1 l_J0_coder_7d493_7 10 rfl hu1 ?_
  refine nw_goto l_J0_coder_7d493_10 ?_
  refine nw_ireturnB l_J0_coder_7d493_14 rfl ⟨by decide, by decide⟩ ?_
  refine nw_ishr0 l_J0_length_8abf5_9 10 rfl ?_
  refine nw_ireturn l_J0_length_8abf5_10 rfl ?_
  refine nw_ic_ge l_X1_readForm_19 22 rfl (fun q1 => ?_) (fun q1 => ?_)
  · replace h := h.1 q1
    refine nw_iload_n l_X1_readForm_155 156 rfl rfl ?_
    refine nw_ireturn l_X1_readForm_156 rfl ?_
    exact h
  · replace h := h.2 q1
    refine nw_aload_n l_X1_readForm_22 23 rfl rfl ?_
    refine nw_iload l_X1_readForm_23 25 rfl rfl ?_
    refine nw_call0 12 u1 l_X1_readForm_25 rfl rfl g_J0_charAt_5068e (Nat.lt_of_lt_of_le (by decide) hD) rfl (Or.inr ⟨rfl, rfl, hu1⟩) (ls' := [some (.inr (.inl (some u1))), some (.inl x5)]) rfl (st' := []) rfl 28 rfl ?_
    refine nw_aload_n l_J0_charAt_5068e_0 1 rfl rfl ?_
    refine nw_call0 4 u1 l_J0_charAt_5068e_1 rfl rfl g_J0_isLatin1_aae02 (by decide) rfl (Or.inr ⟨rfl, rfl, hu1⟩) (ls' := [some (.inr (.inl (some u1)))]) rfl (st' := []) rfl 4 rfl ?_
    refine nw_gst0 l_J0_isLatin1_aae02_0 3 rfl ?_
    refine nw_if_eq l_J0_isLatin1_aae02_3 6 rfl (fun q => absurd q (by decide)) (fun _ => ?_)
    refine nw_aload_n l_J0_isLatin1_aae02_6 7 rfl rfl ?_
    refine nw_getO1 l_J0_isLatin1_aae02_7 10 rfl hu1 ?_
    refine nw_if_ne l_J0_isLatin1_aae02_10 13 rfl (fun q => absurd q (by decide)) (fun _ => ?_)
    refine nw_iconst (len := 0) l_J0_isLatin1_aae02_13 14 rfl c_1 ?_
    refine nw_goto l_J0_isLatin1_aae02_14 ?_
    refine nw_ireturnZ l_J0_isLatin1_aae02_18 rfl (Or.inr rfl) ?_
    refine nw_if_eq l_J0_charAt_5068e_4 7 rfl (fun q => absurd q (by decide)) (fun _ => ?_)
    refine nw_aload_n l_J0_charAt_5068e_7 8 rfl rfl ?_
    refine nw_getO0 l_J0_charAt_5068e_8 11 rfl hu1 ?_
    refine nw_iload_n l_J0_charAt_5068e_11 12 rfl rfl ?_
    refine nw_call0 10 0 l_J0_charAt_5068e_12 rfl rfl g_J1_charAt_3b067 (by decide) rfl True.intro (ls' := [some (.inr (.inl (some (u1 + 100)))), some (.inl x5)]) rfl (st' := []) rfl 15 rfl ?_
    refine nw_iload_n l_J1_charAt_3b067_0 1 rfl rfl ?_
    refine nw_aload_n l_J1_charAt_3b067_1 2 rfl rfl ?_
    refine nw_alenO l_J1_charAt_3b067_2 3 rfl (nw_oaq hu1) (n := mw_ol (u1 + 100)) ⟨rfl, nw_olB _⟩ ?_
    refine nw_call0 6 0 l_J1_charAt_3b067_3 rfl rfl g_J0_checkIndex_df160 (by decide) rfl True.intro (ls' := [some (.inl x5), some (.inl (mw_ol (u1 + 100) : Int))]) rfl (st' := []) rfl 6 rfl ?_
    refine nw_iload_n l_J0_checkIndex_df160_0 1 rfl rfl ?_
    refine nw_iload_n l_J0_checkIndex_df160_1 2 rfl rfl ?_
    refine nw_gst3 l_J0_checkIndex_df160_2 5 rfl ?_
    refine nw_call0 4 0 l_J0_checkIndex_df160_5 rfl rfl g_J3_checkIndex_8e157 (by decide) rfl True.intro (ls' := [some (.inl x5), some (.inl (mw_ol (u1 + 100) : Int)), some (.inr (.inl none))]) rfl (st' := []) rfl 8 rfl ?_
    refine nw_iload_n l_J3_checkIndex_8e157_0 1 rfl rfl ?_
    refine nw_if_lt l_J3_checkIndex_8e157_1 4 rfl (fun q => absurd q (by omega)) (fun _ => ?_)
    refine nw_iload_n l_J3_checkIndex_8e157_4 5 rfl rfl ?_
    refine nw_iload_n l_J3_checkIndex_8e157_5 6 rfl rfl ?_
    refine nw_ic_lt l_J3_checkIndex_8e157_6 9 rfl (fun _ => ?_) (fun q => absurd q (by omega))
    refine nw_iload_n l_J3_checkIndex_8e157_16 17 rfl rfl ?_
    refine nw_ireturn l_J3_checkIndex_8e157_17 rfl ?_
    refine nw_pop l_J0_checkIndex_df160_8 9 rfl ?_
    refine nw_return l_J0_checkIndex_df160_9 rfl ?_
    refine nw_aload_n l_J1_charAt_3b067_6 7 rfl rfl ?_
    refine nw_iload_n l_J1_charAt_3b067_7 8 rfl rfl ?_
    have o2 := h.1
    replace h := h.2
    refine nw_baldO l_J1_charAt_3b067_8 9 rfl (nw_oaq hu1) o2 ?_
    refine nw_sipush (len := 0) l_J1_charAt_3b067_9 12 rfl c_255 ?_
    refine nw_iand l_J1_charAt_3b067_12 13 rfl ?_
    refine nw_i2c l_J1_charAt_3b067_13 14 rfl ?_
    have o3 := h.1
    replace h := h.2
    refine nw_ireturnC l_J1_charAt_3b067_14 rfl o3 ?_
    refine nw_ireturnC l_J0_charAt_5068e_15 rfl o3 ?_
    refine nw_istore l_X1_readForm_28 30 rfl rfl (ls' := [some (.inr (.inl (some 297))), some (.inr (.inl (some u1))), none, some (.inl x3), some (.inl x4), some (.inl x5), some (.inl ((nw_xiand (nw_ob (u1 + 100) x5) 255) % 65536)), none, none]) rfl ?_
    refine nw_iload l_X1_readForm_30 32 rfl rfl ?_
    refine nw_bipush (len := 0) l_X1_readForm_32 34 rfl c_35 ?_
    refine nw_ic_eq l_X1_readForm_34 37 rfl (fun q4 => ?_) (fun q4 => ?_)
    · replace h := h.1 q4
      refine nw_iconst (len := 0) l_X1_readForm_44 45 rfl c_1 ?_
      refine nw_goto l_X1_readForm_45 ?_
      refine nw_istore l_X1_readForm_49 51 rfl rfl (ls' := [some (.inr (.inl (some 297))), some (.inr (.inl (some u1))), none, some (.inl x3), some (.inl x4), some (.inl x5), some (.inl ((nw_xiand (nw_ob (u1 + 100) x5) 255) % 65536)), some (.inl 1), none]) rfl ?_
      refine nw_iload l_X1_readForm_51 53 rfl rfl ?_
      refine nw_if_eq l_X1_readForm_53 56 rfl (fun q => absurd q (by decide)) (fun _ => ?_)
      refine nw_aload_n l_X1_readForm_56 57 rfl rfl ?_
      refine nw_iload_n l_X1_readForm_57 58 rfl rfl ?_
      refine nw_call0 0 297 l_X1_readForm_58 rfl rfl g_X1_isDigit (Nat.lt_of_lt_of_le (by decide) hD) rfl (Or.inl ⟨_, rfl, k_297⟩) (ls' := [some (.inr (.inl (some 297))), some (.inl x3)]) rfl (st' := []) rfl 61 rfl ?_
      refine nw_iload_n l_X1_isDigit_0 1 rfl rfl ?_
      refine nw_aload_n l_X1_isDigit_1 2 rfl rfl ?_
      refine nw_getI l_X1_isDigit_2 5 rfl k_297 (v := J 297 0) rfl ?_
      refine nw_ic_ge l_X1_isDigit_5 8 rfl (fun q5 => ?_) (fun q5 => ?_)
      · replace h := h.1 q5
        refine nw_iconst (len := 0) l_X1_isDigit_34 35 rfl c_0 ?_
        refine nw_ireturnZ l_X1_isDigit_35 rfl (Or.inl rfl) ?_
        refine nw_if_ne l_X1_readForm_61 64 rfl (fun q => absurd q (by decide)) (fun _ => ?_)
        refine nw_goto l_X1_readForm_64 ?_
        refine nw_iconst (len := 0) l_X1_readForm_77 78 rfl c_n1 ?_
        refine nw_iload_n l_X1_readForm_78 79 rfl rfl ?_
        have o6 := h.1
        replace h := h.2
        refine nw_isub l_X1_readForm_79 80 rfl o6 ?_
        refine nw_ireturn l_X1_readForm_80 rfl ?_
        exact h
      · replace h := h.2 q5
        refine nw_aload_n l_X1_isDigit_8 9 rfl rfl ?_
        refine nw_getA l_X1_isDigit_9 12 rfl k_297 r_297_3 ?_
        refine nw_iload_n l_X1_isDigit_12 13 rfl rfl ?_
        have o7 := h.1
        replace h := h.2
        refine nw_cald l_X1_isDigit_13 14 rfl k_299 o7 (v := J 299 x3) rfl ?_
        refine nw_bipush (len := 0) l_X1_isDigit_14 16 rfl c_48 ?_
        refine nw_ic_lt l_X1_isDigit_16 19 rfl (fun q8 => ?_) (fun q8 => ?_)
        · replace h := h.1 q8
          refine nw_iconst (len := 0) l_X1_isDigit_34 35 rfl c_0 ?_
          refine nw_ireturnZ l_X1_isDigit_35 rfl (Or.inl rfl) ?_
          refine nw_if_ne l_X1_readForm_61 64 rfl (fun q => absurd q (by decide)) (fun _ => ?_)
          refine nw_goto l_X1_readForm_64 ?_
          refine nw_iconst (len := 0) l_X1_readForm_77 78 rfl c_n1 ?_
          refine nw_iload_n l_X1_readForm_78 79 rfl rfl ?_
          have o9 := h.1
          replace h := h.2
          refine nw_isub l_X1_readForm_79 80 rfl o9 ?_
          refine nw_ireturn l_X1_readForm_80 rfl ?_
          exact h
        · replace h := h.2 q8
          refine nw_aload_n l_X1_isDigit_19 20 rfl rfl ?_
          refine nw_getA l_X1_isDigit_20 23 rfl k_297 r_297_3 ?_
          refine nw_iload_n l_X1_isDigit_23 24 rfl rfl ?_
          refine nw_cald l_X1_isDigit_24 25 rfl k_299 o7 (v := J 299 x3) rfl ?_
          refine nw_bipush (len := 0) l_X1_isDigit_25 27 rfl c_57 ?_
          refine nw_ic_gt l_X1_isDigit_27 30 rfl (fun q10 => ?_) (fun q10 => ?_)
          · replace h := h.1 q10
            refine nw_iconst (len := 0) l_X1_isDigit_34 35 rfl c_0 ?_
            refine nw_ireturnZ l_X1_isDigit_35 rfl (Or.inl rfl) ?_
            refine nw_if_ne l_X1_readForm_61 64 rfl (fun q => absurd q (by decide)) (fun _ => ?_)
            refine nw_goto l_X1_readForm_64 ?_
            refine nw_iconst (len := 0) l_X1_readForm_77 78 rfl c_n1 ?_
            refine nw_iload_n l_X1_readForm_78 79 rfl rfl ?_
            have o11 := h.1
            replace h := h.2
            refine nw_isub l_X1_readForm_79 80 rfl o11 ?_
            refine nw_ireturn l_X1_readForm_80 rfl ?_
            exact h
          · replace h := h.2 q10
            refine nw_iconst (len := 0) l_X1_isDigit_30 31 rfl c_1 ?_
            refine nw_goto l_X1_isDigit_31 ?_
            refine nw_ireturnZ l_X1_isDigit_35 rfl (Or.inr rfl) ?_
            refine nw_if_ne l_X1_readForm_61 64 rfl (fun _ => ?_) (fun q => absurd q (by decide))
            refine nw_iload l_X1_readForm_81 83 rfl rfl ?_
            refine nw_if_eq l_X1_readForm_83 86 rfl (fun q => absurd q (by decide)) (fun _ => ?_)
            refine nw_aload_n l_X1_readForm_86 87 rfl rfl ?_
            refine nw_getA l_X1_readForm_87 90 rfl k_297 r_297_3 ?_
            refine nw_iload_n l_X1_readForm_90 91 rfl rfl ?_
            refine nw_cald l_X1_readForm_91 92 rfl k_299 o7 (v := J 299 x3) rfl ?_
            refine nw_bipush (len := 0) l_X1_readForm_92 94 rfl c_48 ?_
            have o12 := h.1
            replace h := h.2
            refine nw_isub l_X1_readForm_94 95 rfl o12 ?_
            refine nw_istore l_X1_readForm_95 97 rfl rfl (ls' := [some (.inr (.inl (some 297))), some (.inr (.inl (some u1))), none, some (.inl x3), some (.inl x4), some (.inl x5), some (.inl ((nw_xiand (nw_ob (u1 + 100) x5) 255) % 65536)), some (.inl 1), some (.inl ((J 299 x3) - 48))]) rfl ?_
            refine nw_iload l_X1_readForm_97 99 rfl rfl ?_
            refine nw_bipush (len := 0) l_X1_readForm_99 101 rfl c_42 ?_
            refine nw_ic_ne l_X1_readForm_101 104 rfl (fun q13 => ?_) (fun q13 => ?_)
            · replace h := h.1 q13
              refine nw_aload_n l_X1_readForm_134 135 rfl rfl ?_
              refine nw_getA l_X1_readForm_135 138 rfl k_297 r_297_4 ?_
              refine nw_iload l_X1_readForm_138 140 rfl rfl ?_
              refine nw_iload l_X1_readForm_140 142 rfl rfl ?_
              have o14 := h.1
              replace h := h.2
              refine nw_iast l_X1_readForm_142 143 rfl k_300 o14 ?_
              have o15 := h.1
              replace h := h.2
              refine nw_iinc l_X1_readForm_143 146 rfl 1 (by decide) rfl rfl o15 (ls' := [some (.inr (.inl (some 297))), some (.inr (.inl (some u1))), none, some (.inl x3), some (.inl (x4 + 1)), some (.inl x5), some (.inl ((nw_xiand (nw_ob (u1 + 100) x5) 255) % 65536)), some (.inl 1), some (.inl ((J 299 x3) - 48))]) rfl ?_
              have o16 := h.1
              replace h := h.2
              refine nw_iinc l_X1_readForm_146 149 rfl 1 (by decide) rfl rfl o16 (ls' := [some (.inr (.inl (some 297))), some (.inr (.inl (some u1))), none, some (.inl (x3 + 1)), some (.inl (x4 + 1)), some (.inl x5), some (.inl ((nw_xiand (nw_ob (u1 + 100) x5) 255) % 65536)), some (.inl 1), some (.inl ((J 299 x3) - 48))]) rfl ?_
              have o17 := h.1
              replace h := h.2
              refine nw_iinc l_X1_readForm_149 152 rfl 1 (by decide) rfl rfl o17 (ls' := [some (.inr (.inl (some 297))), some (.inr (.inl (some u1))), none, some (.inl (x3 + 1)), some (.inl (x4 + 1)), some (.inl (x5 + 1)), some (.inl ((nw_xiand (nw_ob (u1 + 100) x5) 255) % 65536)), some (.inl 1), some (.inl ((J 299 x3) - 48))]) rfl ?_
              refine nw_goto l_X1_readForm_152 ?_
              refine nw_drop (ls' := [some (.inr (.inl (some 297))), some (.inr (.inl (some u1))), none, some (.inl (x3 + 1)), some (.inl (x4 + 1)), some (.inl (x5 + 1)), none, none, none]) ⟨rfl, ⟨rfl, ⟨True.intro, ⟨rfl, ⟨rfl, ⟨rfl, ⟨True.intro, ⟨True.intro, ⟨True.intro, True.intro⟩⟩⟩⟩⟩⟩⟩⟩⟩ ?_
              exact h
            · replace h := h.2 q13
              refine nw_aload_n l_X1_readForm_104 105 rfl rfl ?_
              refine nw_iload_n l_X1_readForm_105 106 rfl rfl ?_
              refine nw_iconst (len := 0) l_X1_readForm_106 107 rfl c_1 ?_
              have o18 := h.1
              replace h := h.2
              refine nw_iadd l_X1_readForm_107 108 rfl o18 ?_
              refine nw_call0 0 297 l_X1_readForm_108 rfl rfl g_X1_isDigit (Nat.lt_of_lt_of_le (by decide) hD) rfl (Or.inl ⟨_, rfl, k_297⟩) (ls' := [some (.inr (.inl (some 297))), some (.inl (x3 + 1))]) rfl (st' := []) rfl 111 rfl ?_
              refine nw_iload_n l_X1_isDigit_0 1 rfl rfl ?_
              refine nw_aload_n l_X1_isDigit_1 2 rfl rfl ?_
              refine nw_getI l_X1_isDigit_2 5 rfl k_297 (v := J 297 0) rfl ?_
              refine nw_ic_ge l_X1_isDigit_5 8 rfl (fun q19 => ?_) (fun q19 => ?_)
              · replace h := h.1 q19
                refine nw_iconst (len := 0) l_X1_isDigit_34 35 rfl c_0 ?_
                refine nw_ireturnZ l_X1_isDigit_35 rfl (Or.inl rfl) ?_
                refine nw_if_eq l_X1_readForm_111 114 rfl (fun _ => ?_) (fun q => absurd q (by decide))
                refine nw_aload_n l_X1_readForm_134 135 rfl rfl ?_
                refine nw_getA l_X1_readForm_135 138 rfl k_297 r_297_4 ?_
                refine nw_iload l_X1_readForm_138 140 rfl rfl ?_
                refine nw_iload l_X1_readForm_140 142 rfl rfl ?_
                have o20 := h.1
                replace h := h.2
                refine nw_iast l_X1_readForm_142 143 rfl k_300 o20 ?_
                have o21 := h.1
                replace h := h.2
                refine nw_iinc l_X1_readForm_143 146 rfl 1 (by decide) rfl rfl o21 (ls' := [some (.inr (.inl (some 297))), some (.inr (.inl (some u1))), none, some (.inl x3), some (.inl (x4 + 1)), some (.inl x5), some (.inl ((nw_xiand (nw_ob (u1 + 100) x5) 255) % 65536)), some (.inl 1), some (.inl ((J 299 x3) - 48))]) rfl ?_
                refine nw_iinc l_X1_readForm_146 149 rfl 1 (by decide) rfl rfl o18 (ls' := [some (.inr (.inl (some 297))), some (.inr (.inl (some u1))), none, some (.inl (x3 + 1)), some (.inl (x4 + 1)), some (.inl x5), some (.inl ((nw_xiand (nw_ob (u1 + 100) x5) 255) % 65536)), some (.inl 1), some (.inl ((J 299 x3) - 48))]) rfl ?_
                have o22 := h.1
                replace h := h.2
                refine nw_iinc l_X1_readForm_149 152 rfl 1 (by decide) rfl rfl o22 (ls' := [some (.inr (.inl (some 297))), some (.inr (.inl (some u1))), none, some (.inl (x3 + 1)), some (.inl (x4 + 1)), some (.inl (x5 + 1)), some (.inl ((nw_xiand (nw_ob (u1 + 100) x5) 255) % 65536)), some (.inl 1), some (.inl ((J 299 x3) - 48))]) rfl ?_
                refine nw_goto l_X1_readForm_152 ?_
                refine nw_drop (ls' := [some (.inr (.inl (some 297))), some (.inr (.inl (some u1))), none, some (.inl (x3 + 1)), some (.inl (x4 + 1)), some (.inl (x5 + 1)), none, none, none]) ⟨rfl, ⟨rfl, ⟨True.intro, ⟨rfl, ⟨rfl, ⟨rfl, ⟨True.intro, ⟨True.intro, ⟨True.intro, True.intro⟩⟩⟩⟩⟩⟩⟩⟩⟩ ?_
                exact h
              · replace h := h.2 q19
                refine nw_aload_n l_X1_isDigit_8 9 rfl rfl ?_
                refine nw_getA l_X1_isDigit_9 12 rfl k_297 r_297_3 ?_
                refine nw_iload_n l_X1_isDigit_12 13 rfl rfl ?_
                have o23 := h.1
                replace h := h.2
                refine nw_cald l_X1_isDigit_13 14 rfl k_299 o23 (v := J 299 (x3 + 1)) rfl ?_
                refine nw_bipush (len := 0) l_X1_isDigit_14 16 rfl c_48 ?_
                refine nw_ic_lt l_X1_isDigit_16 19 rfl (fun q24 => ?_) (fun q24 => ?_)
                · replace h := h.1 q24
                  refine nw_iconst (len := 0) l_X1_isDigit_34 35 rfl c_0 ?_
                  refine nw_ireturnZ l_X1_isDigit_35 rfl (Or.inl rfl) ?_
                  refine nw_if_eq l_X1_readForm_111 114 rfl (fun _ => ?_) (fun q => absurd q (by decide))
                  refine nw_aload_n l_X1_readForm_134 135 rfl rfl ?_
                  refine nw_getA l_X1_readForm_135 138 rfl k_297 r_297_4 ?_
                  refine nw_iload l_X1_readForm_138 140 rfl rfl ?_
                  refine nw_iload l_X1_readForm_140 142 rfl rfl ?_
                  have o25 := h.1
                  replace h := h.2
                  refine nw_iast l_X1_readForm_142 143 rfl k_300 o25 ?_
                  have o26 := h.1
                  replace h := h.2
                  refine nw_iinc l_X1_readForm_143 146 rfl 1 (by decide) rfl rfl o26 (ls' := [some (.inr (.inl (some 297))), some (.inr (.inl (some u1))), none, some (.inl x3), some (.inl (x4 + 1)), some (.inl x5), some (.inl ((nw_xiand (nw_ob (u1 + 100) x5) 255) % 65536)), some (.inl 1), some (.inl ((J 299 x3) - 48))]) rfl ?_
                  refine nw_iinc l_X1_readForm_146 149 rfl 1 (by decide) rfl rfl o18 (ls' := [some (.inr (.inl (some 297))), some (.inr (.inl (some u1))), none, some (.inl (x3 + 1)), some (.inl (x4 + 1)), some (.inl x5), some (.inl ((nw_xiand (nw_ob (u1 + 100) x5) 255) % 65536)), some (.inl 1), some (.inl ((J 299 x3) - 48))]) rfl ?_
                  have o27 := h.1
                  replace h := h.2
                  refine nw_iinc l_X1_readForm_149 152 rfl 1 (by decide) rfl rfl o27 (ls' := [some (.inr (.inl (some 297))), some (.inr (.inl (some u1))), none, some (.inl (x3 + 1)), some (.inl (x4 + 1)), some (.inl (x5 + 1)), some (.inl ((nw_xiand (nw_ob (u1 + 100) x5) 255) % 65536)), some (.inl 1), some (.inl ((J 299 x3) - 48))]) rfl ?_
                  refine nw_goto l_X1_readForm_152 ?_
                  refine nw_drop (ls' := [some (.inr (.inl (some 297))), some (.inr (.inl (some u1))), none, some (.inl (x3 + 1)), some (.inl (x4 + 1)), some (.inl (x5 + 1)), none, none, none]) ⟨rfl, ⟨rfl, ⟨True.intro, ⟨rfl, ⟨rfl, ⟨rfl, ⟨True.intro, ⟨True.intro, ⟨True.intro, True.intro⟩⟩⟩⟩⟩⟩⟩⟩⟩ ?_
                  exact h
                · replace h := h.2 q24
                  refine nw_aload_n l_X1_isDigit_19 20 rfl rfl ?_
                  refine nw_getA l_X1_isDigit_20 23 rfl k_297 r_297_3 ?_
                  refine nw_iload_n l_X1_isDigit_23 24 rfl rfl ?_
                  refine nw_cald l_X1_isDigit_24 25 rfl k_299 o23 (v := J 299 (x3 + 1)) rfl ?_
                  refine nw_bipush (len := 0) l_X1_isDigit_25 27 rfl c_57 ?_
                  refine nw_ic_gt l_X1_isDigit_27 30 rfl (fun q28 => ?_) (fun q28 => ?_)
                  · replace h := h.1 q28
                    refine nw_iconst (len := 0) l_X1_isDigit_34 35 rfl c_0 ?_
                    refine nw_ireturnZ l_X1_isDigit_35 rfl (Or.inl rfl) ?_
                    refine nw_if_eq l_X1_readForm_111 114 rfl (fun _ => ?_) (fun q => absurd q (by decide))
                    refine nw_aload_n l_X1_readForm_134 135 rfl rfl ?_
                    refine nw_getA l_X1_readForm_135 138 rfl k_297 r_297_4 ?_
                    refine nw_iload l_X1_readForm_138 140 rfl rfl ?_
                    refine nw_iload l_X1_readForm_140 142 rfl rfl ?_
                    have o29 := h.1
                    replace h := h.2
                    refine nw_iast l_X1_readForm_142 143 rfl k_300 o29 ?_
                    have o30 := h.1
                    replace h := h.2
                    refine nw_iinc l_X1_readForm_143 146 rfl 1 (by decide) rfl rfl o30 (ls' := [some (.inr (.inl (some 297))), some (.inr (.inl (some u1))), none, some (.inl x3), some (.inl (x4 + 1)), some (.inl x5), some (.inl ((nw_xiand (nw_ob (u1 + 100) x5) 255) % 65536)), some (.inl 1), some (.inl ((J 299 x3) - 48))]) rfl ?_
                    refine nw_iinc l_X1_readForm_146 149 rfl 1 (by decide) rfl rfl o18 (ls' := [some (.inr (.inl (some 297))), some (.inr (.inl (some u1))), none, some (.inl (x3 + 1)), some (.inl (x4 + 1)), some (.inl x5), some (.inl ((nw_xiand (nw_ob (u1 + 100) x5) 255) % 65536)), some (.inl 1), some (.inl ((J 299 x3) - 48))]) rfl ?_
                    have o31 := h.1
                    replace h := h.2
                    refine nw_iinc l_X1_readForm_149 152 rfl 1 (by decide) rfl rfl o31 (ls' := [some (.inr (.inl (some 297))), some (.inr (.inl (some u1))), none, some (.inl (x3 + 1)), some (.inl (x4 + 1)), some (.inl (x5 + 1)), some (.inl ((nw_xiand (nw_ob (u1 + 100) x5) 255) % 65536)), some (.inl 1), some (.inl ((J 299 x3) - 48))]) rfl ?_
                    refine nw_goto l_X1_readForm_152 ?_
                    refine nw_drop (ls' := [some (.inr (.inl (some 297))), some (.inr (.inl (some u1))), none, some (.inl (x3 + 1)), some (.inl (x4 + 1)), some (.inl (x5 + 1)), none, none, none]) ⟨rfl, ⟨rfl, ⟨True.intro, ⟨rfl, ⟨rfl, ⟨rfl, ⟨True.intro, ⟨True.intro, ⟨True.intro, True.intro⟩⟩⟩⟩⟩⟩⟩⟩⟩ ?_
                    exact h
                  · replace h := h.2 q28
                    refine nw_iconst (len := 0) l_X1_isDigit_30 31 rfl c_1 ?_
                    refine nw_goto l_X1_isDigit_31 ?_
                    refine nw_ireturnZ l_X1_isDigit_35 rfl (Or.inr rfl) ?_
                    refine nw_if_eq l_X1_readForm_111 114 rfl (fun q => absurd q (by decide)) (fun _ => ?_)
                    refine nw_iinc l_X1_readForm_114 117 rfl 1 (by decide) rfl rfl o18 (ls' := [some (.inr (.inl (some 297))), some (.inr (.inl (some u1))), none, some (.inl (x3 + 1)), some (.inl x4), some (.inl x5), some (.inl ((nw_xiand (nw_ob (u1 + 100) x5) 255) % 65536)), some (.inl 1), some (.inl ((J 299 x3) - 48))]) rfl ?_
                    refine nw_iload l_X1_readForm_117 119 rfl rfl ?_
                    refine nw_bipush (len := 0) l_X1_readForm_119 121 rfl c_10 ?_
                    have o32 := h.1
                    replace h := h.2
                    refine nw_imul l_X1_readForm_121 122 rfl o32 ?_
                    refine nw_aload_n l_X1_readForm_122 123 rfl rfl ?_
                    refine nw_getA l_X1_readForm_123 126 rfl k_297 r_297_3 ?_
                    refine nw_iload_n l_X1_readForm_126 127 rfl rfl ?_
                    refine nw_cald l_X1_readForm_127 128 rfl k_299 o23 (v := J 299 (x3 + 1)) rfl ?_
                    have o33 := h.1
                    replace h := h.2
                    refine nw_iadd l_X1_readForm_128 129 rfl o33 ?_
                    refine nw_bipush (len := 0) l_X1_readForm_129 131 rfl c_48 ?_
                    have o34 := h.1
                    replace h := h.2
                    refine nw_isub l_X1_readForm_131 132 rfl o34 ?_
                    refine nw_istore l_X1_readForm_132 134 rfl rfl (ls' := [some (.inr (.inl (some 297))), some (.inr (.inl (some u1))), none, some (.inl (x3 + 1)), some (.inl x4), some (.inl x5), some (.inl ((nw_xiand (nw_ob (u1 + 100) x5) 255) % 65536)), some (.inl 1), some (.inl (((((J 299 x3) - 48) * 10) + (J 299 (x3 + 1))) - 48))]) rfl ?_
                    refine nw_aload_n l_X1_readForm_134 135 rfl rfl ?_
                    refine nw_getA l_X1_readForm_135 138 rfl k_297 r_297_4 ?_
                    refine nw_iload l_X1_readForm_138 140 rfl rfl ?_
                    refine nw_iload l_X1_readForm_140 142 rfl rfl ?_
                    have o35 := h.1
                    replace h := h.2
                    refine nw_iast l_X1_readForm_142 143 rfl k_300 o35 ?_
                    have o36 := h.1
                    replace h := h.2
                    refine nw_iinc l_X1_readForm_143 146 rfl 1 (by decide) rfl rfl o36 (ls' := [some (.inr (.inl (some 297))), some (.inr (.inl (some u1))), none, some (.inl (x3 + 1)), some (.inl (x4 + 1)), some (.inl x5), some (.inl ((nw_xiand (nw_ob (u1 + 100) x5) 255) % 65536)), some (.inl 1), some (.inl (((((J 299 x3) - 48) * 10) + (J 299 (x3 + 1))) - 48))]) rfl ?_
                    have o37 := h.1
                    replace h := h.2
                    refine nw_iinc l_X1_readForm_146 149 rfl 1 (by decide) rfl rfl o37 (ls' := [some (.inr (.inl (some 297))), some (.inr (.inl (some u1))), none, some (.inl ((x3 + 1) + 1)), some (.inl (x4 + 1)), some (.inl x5), some (.inl ((nw_xiand (nw_ob (u1 + 100) x5) 255) % 65536)), some (.inl 1), some (.inl (((((J 299 x3) - 48) * 10) + (J 299 (x3 + 1))) - 48))]) rfl ?_
                    have o38 := h.1
                    replace h := h.2
                    refine nw_iinc l_X1_readForm_149 152 rfl 1 (by decide) rfl rfl o38 (ls' := [some (.inr (.inl (some 297))), some (.inr (.inl (some u1))), none, some (.inl ((x3 + 1) + 1)), some (.inl (x4 + 1)), some (.inl (x5 + 1)), some (.inl ((nw_xiand (nw_ob (u1 + 100) x5) 255) % 65536)), some (.inl 1), some (.inl (((((J 299 x3) - 48) * 10) + (J 299 (x3 + 1))) - 48))]) rfl ?_
                    refine nw_goto l_X1_readForm_152 ?_
                    refine nw_drop (ls' := [some (.inr (.inl (some 297))), some (.inr (.inl (some u1))), none, some (.inl ((x3 + 1) + 1)), some (.inl (x4 + 1)), some (.inl (x5 + 1)), none, none, none]) ⟨rfl, ⟨rfl, ⟨True.intro, ⟨rfl, ⟨rfl, ⟨rfl, ⟨True.intro, ⟨True.intro, ⟨True.intro, True.intro⟩⟩⟩⟩⟩⟩⟩⟩⟩ ?_
                    exact h
    · replace h := h.2 q4
      refine nw_iload l_X1_readForm_37 39 rfl rfl ?_
      refine nw_bipush (len := 0) l_X1_readForm_39 41 rfl c_42 ?_
      refine nw_ic_ne l_X1_readForm_41 44 rfl (fun q39 => ?_) (fun q39 => ?_)
      · replace h := h.1 q39
        refine nw_iconst (len := 0) l_X1_readForm_48 49 rfl c_0 ?_
        refine nw_istore l_X1_readForm_49 51 rfl rfl (ls' := [some (.inr (.inl (some 297))), some (.inr (.inl (some u1))), none, some (.inl x3), some (.inl x4), some (.inl x5), some (.inl ((nw_xiand (nw_ob (u1 + 100) x5) 255) % 65536)), some (.inl 0), none]) rfl ?_
        refine nw_iload l_X1_readForm_51 53 rfl rfl ?_
        refine nw_if_eq l_X1_readForm_53 56 rfl (fun _ => ?_) (fun q => absurd q (by decide))
        refine nw_aload_n l_X1_readForm_67 68 rfl rfl ?_
        refine nw_iload_n l_X1_readForm_68 69 rfl rfl ?_
        refine nw_iload l_X1_readForm_69 71 rfl rfl ?_
        refine nw_call0 0 297 l_X1_readForm_71 rfl rfl g_X1_isSign (Nat.lt_of_lt_of_le (by decide) hD) rfl (Or.inl ⟨_, rfl, k_297⟩) (ls' := [some (.inr (.inl (some 297))), some (.inl x3), some (.inl ((nw_xiand (nw_ob (u1 + 100) x5) 255) % 65536))]) rfl (st' := []) rfl 74 rfl ?_
        refine nw_iload_n l_X1_isSign_0 1 rfl rfl ?_
        refine nw_aload_n l_X1_isSign_1 2 rfl rfl ?_
        refine nw_getI l_X1_isSign_2 5 rfl k_297 (v := J 297 0) rfl ?_
        refine nw_ic_ge l_X1_isSign_5 8 rfl (fun q40 => ?_) (fun q40 => ?_)
        · replace h := h.1 q40
          refine nw_iconst (len := 0) l_X1_isSign_22 23 rfl c_0 ?_
          refine nw_ireturnZ l_X1_isSign_23 rfl (Or.inl rfl) ?_
          refine nw_if_ne l_X1_readForm_74 77 rfl (fun q => absurd q (by decide)) (fun _ => ?_)
          refine nw_iconst (len := 0) l_X1_readForm_77 78 rfl c_n1 ?_
          refine nw_iload_n l_X1_readForm_78 79 rfl rfl ?_
          have o41 := h.1
          replace h := h.2
          refine nw_isub l_X1_readForm_79 80 rfl o41 ?_
          refine nw_ireturn l_X1_readForm_80 rfl ?_
          exact h
        · replace h := h.2 q40
          refine nw_aload_n l_X1_isSign_8 9 rfl rfl ?_
          refine nw_getA l_X1_isSign_9 12 rfl k_297 r_297_3 ?_
          refine nw_iload_n l_X1_isSign_12 13 rfl rfl ?_
          have o42 := h.1
          replace h := h.2
          refine nw_cald l_X1_isSign_13 14 rfl k_299 o42 (v := J 299 x3) rfl ?_
          refine nw_iload_n l_X1_isSign_14 15 rfl rfl ?_
          refine nw_ic_ne l_X1_isSign_15 18 rfl (fun q43 => ?_) (fun q43 => ?_)
          · replace h := h.1 q43
            refine nw_iconst (len := 0) l_X1_isSign_22 23 rfl c_0 ?_
            refine nw_ireturnZ l_X1_isSign_23 rfl (Or.inl rfl) ?_
            refine nw_if_ne l_X1_readForm_74 77 rfl (fun q => absurd q (by decide)) (fun _ => ?_)
            refine nw_iconst (len := 0) l_X1_readForm_77 78 rfl c_n1 ?_
            refine nw_iload_n l_X1_readForm_78 79 rfl rfl ?_
            have o44 := h.1
            replace h := h.2
            refine nw_isub l_X1_readForm_79 80 rfl o44 ?_
            refine nw_ireturn l_X1_readForm_80 rfl ?_
            exact h
          · replace h := h.2 q43
            refine nw_iconst (len := 0) l_X1_isSign_18 19 rfl c_1 ?_
            refine nw_goto l_X1_isSign_19 ?_
            refine nw_ireturnZ l_X1_isSign_23 rfl (Or.inr rfl) ?_
            refine nw_if_ne l_X1_readForm_74 77 rfl (fun _ => ?_) (fun q => absurd q (by decide))
            refine nw_iload l_X1_readForm_81 83 rfl rfl ?_
            refine nw_if_eq l_X1_readForm_83 86 rfl (fun _ => ?_) (fun q => absurd q (by decide))
            have o45 := h.1
            replace h := h.2
            refine nw_iinc l_X1_readForm_146 149 rfl 1 (by decide) rfl rfl o45 (ls' := [some (.inr (.inl (some 297))), some (.inr (.inl (some u1))), none, some (.inl (x3 + 1)), some (.inl x4), some (.inl x5), some (.inl ((nw_xiand (nw_ob (u1 + 100) x5) 255) % 65536)), some (.inl 0), none]) rfl ?_
            have o46 := h.1
            replace h := h.2
            refine nw_iinc l_X1_readForm_149 152 rfl 1 (by decide) rfl rfl o46 (ls' := [some (.inr (.inl (some 297))), some (.inr (.inl (some u1))), none, some (.inl (x3 + 1)), some (.inl x4), some (.inl (x5 + 1)), some (.inl ((nw_xiand (nw_ob (u1 + 100) x5) 255) % 65536)), some (.inl 0), none]) rfl ?_
            refine nw_goto l_X1_readForm_152 ?_
            refine nw_drop (ls' := [some (.inr (.inl (some 297))), some (.inr (.inl (some u1))), none, some (.inl (x3 + 1)), some (.inl x4), some (.inl (x5 + 1)), none, none, none]) ⟨rfl, ⟨rfl, ⟨True.intro, ⟨rfl, ⟨rfl, ⟨rfl, ⟨True.intro, ⟨True.intro, ⟨True.intro, True.intro⟩⟩⟩⟩⟩⟩⟩⟩⟩ ?_
            exact h
      · replace h := h.2 q39
        refine nw_iconst (len := 0) l_X1_readForm_44 45 rfl c_1 ?_
        refine nw_goto l_X1_readForm_45 ?_
        refine nw_istore l_X1_readForm_49 51 rfl rfl (ls' := [some (.inr (.inl (some 297))), some (.inr (.inl (some u1))), none, some (.inl x3), some (.inl x4), some (.inl x5), some (.inl ((nw_xiand (nw_ob (u1 + 100) x5) 255) % 65536)), some (.inl 1), none]) rfl ?_
        refine nw_iload l_X1_readForm_51 53 rfl rfl ?_
        refine nw_if_eq l_X1_readForm_53 56 rfl (fun q => absurd q (by decide)) (fun _ => ?_)
        refine nw_aload_n l_X1_readForm_56 57 rfl rfl ?_
        refine nw_iload_n l_X1_readForm_57 58 rfl rfl ?_
        refine nw_call0 0 297 l_X1_readForm_58 rfl rfl g_X1_isDigit (Nat.lt_of_lt_of_le (by decide) hD) rfl (Or.inl ⟨_, rfl, k_297⟩) (ls' := [some (.inr (.inl (some 297))), some (.inl x3)]) rfl (st' := []) rfl 61 rfl ?_
        refine nw_iload_n l_X1_isDigit_0 1 rfl rfl ?_
        refine nw_aload_n l_X1_isDigit_1 2 rfl rfl ?_
        refine nw_getI l_X1_isDigit_2 5 rfl k_297 (v := J 297 0) rfl ?_
        refine nw_ic_ge l_X1_isDigit_5 8 rfl (fun q47 => ?_) (fun q47 => ?_)
        · replace h := h.1 q47
          refine nw_iconst (len := 0) l_X1_isDigit_34 35 rfl c_0 ?_
          refine nw_ireturnZ l_X1_isDigit_35 rfl (Or.inl rfl) ?_
          refine nw_if_ne l_X1_readForm_61 64 rfl (fun q => absurd q (by decide)) (fun _ => ?_)
          refine nw_goto l_X1_readForm_64 ?_
          refine nw_iconst (len := 0) l_X1_readForm_77 78 rfl c_n1 ?_
          refine nw_iload_n l_X1_readForm_78 79 rfl rfl ?_
          have o48 := h.1
          replace h := h.2
          refine nw_isub l_X1_readForm_79 80 rfl o48 ?_
          refine nw_ireturn l_X1_readForm_80 rfl ?_
          exact h
        · replace h := h.2 q47
          refine nw_aload_n l_X1_isDigit_8 9 rfl rfl ?_
          refine nw_getA l_X1_isDigit_9 12 rfl k_297 r_297_3 ?_
          refine nw_iload_n l_X1_isDigit_12 13 rfl rfl ?_
          have o49 := h.1
          replace h := h.2
          refine nw_cald l_X1_isDigit_13 14 rfl k_299 o49 (v := J 299 x3) rfl ?_
          refine nw_bipush (len := 0) l_X1_isDigit_14 16 rfl c_48 ?_
          refine nw_ic_lt l_X1_isDigit_16 19 rfl (fun q50 => ?_) (fun q50 => ?_)
          · replace h := h.1 q50
            refine nw_iconst (len := 0) l_X1_isDigit_34 35 rfl c_0 ?_
            refine nw_ireturnZ l_X1_isDigit_35 rfl (Or.inl rfl) ?_
            refine nw_if_ne l_X1_readForm_61 64 rfl (fun q => absurd q (by decide)) (fun _ => ?_)
            refine nw_goto l_X1_readForm_64 ?_
            refine nw_iconst (len := 0) l_X1_readForm_77 78 rfl c_n1 ?_
            refine nw_iload_n l_X1_readForm_78 79 rfl rfl ?_
            have o51 := h.1
            replace h := h.2
            refine nw_isub l_X1_readForm_79 80 rfl o51 ?_
            refine nw_ireturn l_X1_readForm_80 rfl ?_
            exact h
          · replace h := h.2 q50
            refine nw_aload_n l_X1_isDigit_19 20 rfl rfl ?_
            refine nw_getA l_X1_isDigit_20 23 rfl k_297 r_297_3 ?_
            refine nw_iload_n l_X1_isDigit_23 24 rfl rfl ?_
            refine nw_cald l_X1_isDigit_24 25 rfl k_299 o49 (v := J 299 x3) rfl ?_
            refine nw_bipush (len := 0) l_X1_isDigit_25 27 rfl c_57 ?_
            refine nw_ic_gt l_X1_isDigit_27 30 rfl (fun q52 => ?_) (fun q52 => ?_)
            · replace h := h.1 q52
              refine nw_iconst (len := 0) l_X1_isDigit_34 35 rfl c_0 ?_
              refine nw_ireturnZ l_X1_isDigit_35 rfl (Or.inl rfl) ?_
              refine nw_if_ne l_X1_readForm_61 64 rfl (fun q => absurd q (by decide)) (fun _ => ?_)
              refine nw_goto l_X1_readForm_64 ?_
              refine nw_iconst (len := 0) l_X1_readForm_77 78 rfl c_n1 ?_
              refine nw_iload_n l_X1_readForm_78 79 rfl rfl ?_
              have o53 := h.1
              replace h := h.2
              refine nw_isub l_X1_readForm_79 80 rfl o53 ?_
              refine nw_ireturn l_X1_readForm_80 rfl ?_
              exact h
            · replace h := h.2 q52
              refine nw_iconst (len := 0) l_X1_isDigit_30 31 rfl c_1 ?_
              refine nw_goto l_X1_isDigit_31 ?_
              refine nw_ireturnZ l_X1_isDigit_35 rfl (Or.inr rfl) ?_
              refine nw_if_ne l_X1_readForm_61 64 rfl (fun _ => ?_) (fun q => absurd q (by decide))
              refine nw_iload l_X1_readForm_81 83 rfl rfl ?_
              refine nw_if_eq l_X1_readForm_83 86 rfl (fun q => absurd q (by decide)) (fun _ => ?_)
              refine nw_aload_n l_X1_readForm_86 87 rfl rfl ?_
              refine nw_getA l_X1_readForm_87 90 rfl k_297 r_297_3 ?_
              refine nw_iload_n l_X1_readForm_90 91 rfl rfl ?_
              refine nw_cald l_X1_readForm_91 92 rfl k_299 o49 (v := J 299 x3) rfl ?_
              refine nw_bipush (len := 0) l_X1_readForm_92 94 rfl c_48 ?_
              have o54 := h.1
              replace h := h.2
              refine nw_isub l_X1_readForm_94 95 rfl o54 ?_
              refine nw_istore l_X1_readForm_95 97 rfl rfl (ls' := [some (.inr (.inl (some 297))), some (.inr (.inl (some u1))), none, some (.inl x3), some (.inl x4), some (.inl x5), some (.inl ((nw_xiand (nw_ob (u1 + 100) x5) 255) % 65536)), some (.inl 1), some (.inl ((J 299 x3) - 48))]) rfl ?_
              refine nw_iload l_X1_readForm_97 99 rfl rfl ?_
              refine nw_bipush (len := 0) l_X1_readForm_99 101 rfl c_42 ?_
              refine nw_ic_ne l_X1_readForm_101 104 rfl (fun q => absurd q (by omega)) (fun _ => ?_)
              refine nw_aload_n l_X1_readForm_104 105 rfl rfl ?_
              refine nw_iload_n l_X1_readForm_105 106 rfl rfl ?_
              refine nw_iconst (len := 0) l_X1_readForm_106 107 rfl c_1 ?_
              have o55 := h.1
              replace h := h.2
              refine nw_iadd l_X1_readForm_107 108 rfl o55 ?_
              refine nw_call0 0 297 l_X1_readForm_108 rfl rfl g_X1_isDigit (Nat.lt_of_lt_of_le (by decide) hD) rfl (Or.inl ⟨_, rfl, k_297⟩) (ls' := [some (.inr (.inl (some 297))), some (.inl (x3 + 1))]) rfl (st' := []) rfl 111 rfl ?_
              refine nw_iload_n l_X1_isDigit_0 1 rfl rfl ?_
              refine nw_aload_n l_X1_isDigit_1 2 rfl rfl ?_
              refine nw_getI l_X1_isDigit_2 5 rfl k_297 (v := J 297 0) rfl ?_
              refine nw_ic_ge l_X1_isDigit_5 8 rfl (fun q56 => ?_) (fun q56 => ?_)
              · replace h := h.1 q56
                refine nw_iconst (len := 0) l_X1_isDigit_34 35 rfl c_0 ?_
                refine nw_ireturnZ l_X1_isDigit_35 rfl (Or.inl rfl) ?_
                refine nw_if_eq l_X1_readForm_111 114 rfl (fun _ => ?_) (fun q => absurd q (by decide))
                refine nw_aload_n l_X1_readForm_134 135 rfl rfl ?_
                refine nw_getA l_X1_readForm_135 138 rfl k_297 r_297_4 ?_
                refine nw_iload l_X1_readForm_138 140 rfl rfl ?_
                refine nw_iload l_X1_readForm_140 142 rfl rfl ?_
                have o57 := h.1
                replace h := h.2
                refine nw_iast l_X1_readForm_142 143 rfl k_300 o57 ?_
                have o58 := h.1
                replace h := h.2
                refine nw_iinc l_X1_readForm_143 146 rfl 1 (by decide) rfl rfl o58 (ls' := [some (.inr (.inl (some 297))), some (.inr (.inl (some u1))), none, some (.inl x3), some (.inl (x4 + 1)), some (.inl x5), some (.inl ((nw_xiand (nw_ob (u1 + 100) x5) 255) % 65536)), some (.inl 1), some (.inl ((J 299 x3) - 48))]) rfl ?_
                refine nw_iinc l_X1_readForm_146 149 rfl 1 (by decide) rfl rfl o55 (ls' := [some (.inr (.inl (some 297))), some (.inr (.inl (some u1))), none, some (.inl (x3 + 1)), some (.inl (x4 + 1)), some (.inl x5), some (.inl ((nw_xiand (nw_ob (u1 + 100) x5) 255) % 65536)), some (.inl 1), some (.inl ((J 299 x3) - 48))]) rfl ?_
                have o59 := h.1
                replace h := h.2
                refine nw_iinc l_X1_readForm_149 152 rfl 1 (by decide) rfl rfl o59 (ls' := [some (.inr (.inl (some 297))), some (.inr (.inl (some u1))), none, some (.inl (x3 + 1)), some (.inl (x4 + 1)), some (.inl (x5 + 1)), some (.inl ((nw_xiand (nw_ob (u1 + 100) x5) 255) % 65536)), some (.inl 1), some (.inl ((J 299 x3) - 48))]) rfl ?_
                refine nw_goto l_X1_readForm_152 ?_
                refine nw_drop (ls' := [some (.inr (.inl (some 297))), some (.inr (.inl (some u1))), none, some (.inl (x3 + 1)), some (.inl (x4 + 1)), some (.inl (x5 + 1)), none, none, none]) ⟨rfl, ⟨rfl, ⟨True.intro, ⟨rfl, ⟨rfl, ⟨rfl, ⟨True.intro, ⟨True.intro, ⟨True.intro, True.intro⟩⟩⟩⟩⟩⟩⟩⟩⟩ ?_
                exact h
              · replace h := h.2 q56
                refine nw_aload_n l_X1_isDigit_8 9 rfl rfl ?_
                refine nw_getA l_X1_isDigit_9 12 rfl k_297 r_297_3 ?_
                refine nw_iload_n l_X1_isDigit_12 13 rfl rfl ?_
                have o60 := h.1
                replace h := h.2
                refine nw_cald l_X1_isDigit_13 14 rfl k_299 o60 (v := J 299 (x3 + 1)) rfl ?_
                refine nw_bipush (len := 0) l_X1_isDigit_14 16 rfl c_48 ?_
                refine nw_ic_lt l_X1_isDigit_16 19 rfl (fun q61 => ?_) (fun q61 => ?_)
                · replace h := h.1 q61
                  refine nw_iconst (len := 0) l_X1_isDigit_34 35 rfl c_0 ?_
                  refine nw_ireturnZ l_X1_isDigit_35 rfl (Or.inl rfl) ?_
                  refine nw_if_eq l_X1_readForm_111 114 rfl (fun _ => ?_) (fun q => absurd q (by decide))
                  refine nw_aload_n l_X1_readForm_134 135 rfl rfl ?_
                  refine nw_getA l_X1_readForm_135 138 rfl k_297 r_297_4 ?_
                  refine nw_iload l_X1_readForm_138 140 rfl rfl ?_
                  refine nw_iload l_X1_readForm_140 142 rfl rfl ?_
                  have o62 := h.1
                  replace h := h.2
                  refine nw_iast l_X1_readForm_142 143 rfl k_300 o62 ?_
                  have o63 := h.1
                  replace h := h.2
                  refine nw_iinc l_X1_readForm_143 146 rfl 1 (by decide) rfl rfl o63 (ls' := [some (.inr (.inl (some 297))), some (.inr (.inl (some u1))), none, some (.inl x3), some (.inl (x4 + 1)), some (.inl x5), some (.inl ((nw_xiand (nw_ob (u1 + 100) x5) 255) % 65536)), some (.inl 1), some (.inl ((J 299 x3) - 48))]) rfl ?_
                  refine nw_iinc l_X1_readForm_146 149 rfl 1 (by decide) rfl rfl o55 (ls' := [some (.inr (.inl (some 297))), some (.inr (.inl (some u1))), none, some (.inl (x3 + 1)), some (.inl (x4 + 1)), some (.inl x5), some (.inl ((nw_xiand (nw_ob (u1 + 100) x5) 255) % 65536)), some (.inl 1), some (.inl ((J 299 x3) - 48))]) rfl ?_
                  have o64 := h.1
                  replace h := h.2
                  refine nw_iinc l_X1_readForm_149 152 rfl 1 (by decide) rfl rfl o64 (ls' := [some (.inr (.inl (some 297))), some (.inr (.inl (some u1))), none, some (.inl (x3 + 1)), some (.inl (x4 + 1)), some (.inl (x5 + 1)), some (.inl ((nw_xiand (nw_ob (u1 + 100) x5) 255) % 65536)), some (.inl 1), some (.inl ((J 299 x3) - 48))]) rfl ?_
                  refine nw_goto l_X1_readForm_152 ?_
                  refine nw_drop (ls' := [some (.inr (.inl (some 297))), some (.inr (.inl (some u1))), none, some (.inl (x3 + 1)), some (.inl (x4 + 1)), some (.inl (x5 + 1)), none, none, none]) ⟨rfl, ⟨rfl, ⟨True.intro, ⟨rfl, ⟨rfl, ⟨rfl, ⟨True.intro, ⟨True.intro, ⟨True.intro, True.intro⟩⟩⟩⟩⟩⟩⟩⟩⟩ ?_
                  exact h
                · replace h := h.2 q61
                  refine nw_aload_n l_X1_isDigit_19 20 rfl rfl ?_
                  refine nw_getA l_X1_isDigit_20 23 rfl k_297 r_297_3 ?_
                  refine nw_iload_n l_X1_isDigit_23 24 rfl rfl ?_
                  refine nw_cald l_X1_isDigit_24 25 rfl k_299 o60 (v := J 299 (x3 + 1)) rfl ?_
                  refine nw_bipush (len := 0) l_X1_isDigit_25 27 rfl c_57 ?_
                  refine nw_ic_gt l_X1_isDigit_27 30 rfl (fun q65 => ?_) (fun q65 => ?_)
                  · replace h := h.1 q65
                    refine nw_iconst (len := 0) l_X1_isDigit_34 35 rfl c_0 ?_
                    refine nw_ireturnZ l_X1_isDigit_35 rfl (Or.inl rfl) ?_
                    refine nw_if_eq l_X1_readForm_111 114 rfl (fun _ => ?_) (fun q => absurd q (by decide))
                    refine nw_aload_n l_X1_readForm_134 135 rfl rfl ?_
                    refine nw_getA l_X1_readForm_135 138 rfl k_297 r_297_4 ?_
                    refine nw_iload l_X1_readForm_138 140 rfl rfl ?_
                    refine nw_iload l_X1_readForm_140 142 rfl rfl ?_
                    have o66 := h.1
                    replace h := h.2
                    refine nw_iast l_X1_readForm_142 143 rfl k_300 o66 ?_
                    have o67 := h.1
                    replace h := h.2
                    refine nw_iinc l_X1_readForm_143 146 rfl 1 (by decide) rfl rfl o67 (ls' := [some (.inr (.inl (some 297))), some (.inr (.inl (some u1))), none, some (.inl x3), some (.inl (x4 + 1)), some (.inl x5), some (.inl ((nw_xiand (nw_ob (u1 + 100) x5) 255) % 65536)), some (.inl 1), some (.inl ((J 299 x3) - 48))]) rfl ?_
                    refine nw_iinc l_X1_readForm_146 149 rfl 1 (by decide) rfl rfl o55 (ls' := [some (.inr (.inl (some 297))), some (.inr (.inl (some u1))), none, some (.inl (x3 + 1)), some (.inl (x4 + 1)), some (.inl x5), some (.inl ((nw_xiand (nw_ob (u1 + 100) x5) 255) % 65536)), some (.inl 1), some (.inl ((J 299 x3) - 48))]) rfl ?_
                    have o68 := h.1
                    replace h := h.2
                    refine nw_iinc l_X1_readForm_149 152 rfl 1 (by decide) rfl rfl o68 (ls' := [some (.inr (.inl (some 297))), some (.inr (.inl (some u1))), none, some (.inl (x3 + 1)), some (.inl (x4 + 1)), some (.inl (x5 + 1)), some (.inl ((nw_xiand (nw_ob (u1 + 100) x5) 255) % 65536)), some (.inl 1), some (.inl ((J 299 x3) - 48))]) rfl ?_
                    refine nw_goto l_X1_readForm_152 ?_
                    refine nw_drop (ls' := [some (.inr (.inl (some 297))), some (.inr (.inl (some u1))), none, some (.inl (x3 + 1)), some (.inl (x4 + 1)), some (.inl (x5 + 1)), none, none, none]) ⟨rfl, ⟨rfl, ⟨True.intro, ⟨rfl, ⟨rfl, ⟨rfl, ⟨True.intro, ⟨True.intro, ⟨True.intro, True.intro⟩⟩⟩⟩⟩⟩⟩⟩⟩ ?_
                    exact h
                  · replace h := h.2 q65
                    refine nw_iconst (len := 0) l_X1_isDigit_30 31 rfl c_1 ?_
                    refine nw_goto l_X1_isDigit_31 ?_
                    refine nw_ireturnZ l_X1_isDigit_35 rfl (Or.inr rfl) ?_
                    refine nw_if_eq l_X1_readForm_111 114 rfl (fun q => absurd q (by decide)) (fun _ => ?_)
                    refine nw_iinc l_X1_readForm_114 117 rfl 1 (by decide) rfl rfl o55 (ls' := [some (.inr (.inl (some 297))), some (.inr (.inl (some u1))), none, some (.inl (x3 + 1)), some (.inl x4), some (.inl x5), some (.inl ((nw_xiand (nw_ob (u1 + 100) x5) 255) % 65536)), some (.inl 1), some (.inl ((J 299 x3) - 48))]) rfl ?_
                    refine nw_iload l_X1_readForm_117 119 rfl rfl ?_
                    refine nw_bipush (len := 0) l_X1_readForm_119 121 rfl c_10 ?_
                    have o69 := h.1
                    replace h := h.2
                    refine nw_imul l_X1_readForm_121 122 rfl o69 ?_
                    refine nw_aload_n l_X1_readForm_122 123 rfl rfl ?_
                    refine nw_getA l_X1_readForm_123 126 rfl k_297 r_297_3 ?_
                    refine nw_iload_n l_X1_readForm_126 127 rfl rfl ?_
                    refine nw_cald l_X1_readForm_127 128 rfl k_299 o60 (v := J 299 (x3 + 1)) rfl ?_
                    have o70 := h.1
                    replace h := h.2
                    refine nw_iadd l_X1_readForm_128 129 rfl o70 ?_
                    refine nw_bipush (len := 0) l_X1_readForm_129 131 rfl c_48 ?_
                    have o71 := h.1
                    replace h := h.2
                    refine nw_isub l_X1_readForm_131 132 rfl o71 ?_
                    refine nw_istore l_X1_readForm_132 134 rfl rfl (ls' := [some (.inr (.inl (some 297))), some (.inr (.inl (some u1))), none, some (.inl (x3 + 1)), some (.inl x4), some (.inl x5), some (.inl ((nw_xiand (nw_ob (u1 + 100) x5) 255) % 65536)), some (.inl 1), some (.inl (((((J 299 x3) - 48) * 10) + (J 299 (x3 + 1))) - 48))]) rfl ?_
                    refine nw_aload_n l_X1_readForm_134 135 rfl rfl ?_
                    refine nw_getA l_X1_readForm_135 138 rfl k_297 r_297_4 ?_
                    refine nw_iload l_X1_readForm_138 140 rfl rfl ?_
                    refine nw_iload l_X1_readForm_140 142 rfl rfl ?_
                    have o72 := h.1
                    replace h := h.2
                    refine nw_iast l_X1_readForm_142 143 rfl k_300 o72 ?_
                    have o73 := h.1
                    replace h := h.2
                    refine nw_iinc l_X1_readForm_143 146 rfl 1 (by decide) rfl rfl o73 (ls' := [some (.inr (.inl (some 297))), some (.inr (.inl (some u1))), none, some (.inl (x3 + 1)), some (.inl (x4 + 1)), some (.inl x5), some (.inl ((nw_xiand (nw_ob (u1 + 100) x5) 255) % 65536)), some (.inl 1), some (.inl (((((J 299 x3) - 48) * 10) + (J 299 (x3 + 1))) - 48))]) rfl ?_
                    have o74 := h.1
                    replace h := h.2
                    refine nw_iinc l_X1_readForm_146 149 rfl 1 (by decide) rfl rfl o74 (ls' := [some (.inr (.inl (some 297))), some (.inr (.inl (some u1))), none, some (.inl ((x3 + 1) + 1)), some (.inl (x4 + 1)), some (.inl x5), some (.inl ((nw_xiand (nw_ob (u1 + 100) x5) 255) % 65536)), some (.inl 1), some (.inl (((((J 299 x3) - 48) * 10) + (J 299 (x3 + 1))) - 48))]) rfl ?_
                    have o75 := h.1
                    replace h := h.2
                    refine nw_iinc l_X1_readForm_149 152 rfl 1 (by decide) rfl rfl o75 (ls' := [some (.inr (.inl (some 297))), some (.inr (.inl (some u1))), none, some (.inl ((x3 + 1) + 1)), some (.inl (x4 + 1)), some (.inl (x5 + 1)), some (.inl ((nw_xiand (nw_ob (u1 + 100) x5) 255) % 65536)), some (.inl 1), some (.inl (((((J 299 x3) - 48) * 10) + (J 299 (x3 + 1))) - 48))]) rfl ?_
                    refine nw_goto l_X1_readForm_152 ?_
                    refine nw_drop (ls' := [some (.inr (.inl (some 297))), some (.inr (.inl (some u1))), none, some (.inl ((x3 + 1) + 1)), some (.inl (x4 + 1)), some (.inl (x5 + 1)), none, none, none]) ⟨rfl, ⟨rfl, ⟨True.intro, ⟨rfl, ⟨rfl, ⟨rfl, ⟨True.intro, ⟨True.intro, ⟨True.intro, True.intro⟩⟩⟩⟩⟩⟩⟩⟩⟩ ?_
                    exact h
theorem b_X1_readCommand_0 {x1 : Int} (h : ((-2147483648 ≤ (-1) - x1 ∧ (-1) - x1 < 2147483648) ∧ NW sc d_X1_readCommand D (6, [some (.inr (.inl (some 297))), some (.inl x1), some (.inl ((-1) - x1)), some (.inl 0), none], [], (J, L, W), c, sl) Qr Qx)) :
    NW sc d_X1_readCommand D (0, [some (.inr (.inl (some 297))), some (.inl x1), none, none, none], [], (J, L, W), c, sl) Qr Qx := by
  refine nw_iconst (len := 0) l_X1_readCommand_0 1 rfl c_n1 ?_
  refine nw_iload_n l_X1_readCommand_1 2 rfl rfl ?_
  have o1 := h.1
  replace h := h.2
  refine nw_isub l_X1_readCommand_2 3 rfl o1 ?_
  refine nw_istore_n l_X1_readCommand_3 4 rfl rfl (ls' := [some (.inr (.inl (some 297))), some (.inl x1), some (.inl ((-1) - x1)), none, none]) rfl ?_
  refine nw_iconst (len := 0) l_X1_readCommand_4 5 rfl c_0 ?_
  refine nw_istore_n l_X1_readCommand_5 6 rfl rfl (ls' := [some (.inr (.inl (some 297))), some (.inl x1), some (.inl ((-1) - x1)), some (.inl 0), none]) rfl ?_
  exact h
theorem b_X1_readCommand_6 {x1 : Int} {x2 : Int} {x3 : Int} (hD : 14 ≤ D) (h : ((10 ≤ x3 → Qr (some (.inl x2)) (J, L, W)) ∧ (x3 < 10 → ((x3 = 0 → NW sc d_X1_readForm 13 (0, [some (.inr (.inl (some 297))), some (.inr (.inl (some 1000001))), some (.inl x1), none, none, none, none, none, none], [], (J, L, W), 0, 0) (fun v M9 => NW sc d_X1_readCommand D (21, [some (.inr (.inl (some 297))), some (.inl x1), some (.inl x2), some (.inl x3), none], nw_push v [], M9, c, sl) Qr Qx) Qx) ∧ (¬ x3 = 0 → ((x3 = 1 → NW sc d_X1_readForm 13 (0, [some (.inr (.inl (some 297))), some (.inr (.inl (some 1000002))), some (.inl x1), none, none, none, none, none, none], [], (J, L, W), 0, 0) (fun v M9 => NW sc d_X1_readCommand D (21, [some (.inr (.inl (some 297))), some (.inl x1), some (.inl x2), some (.inl x3), none], nw_push v [], M9, c, sl) Qr Qx) Qx) ∧ (¬ x3 = 1 → ((x3 = 2 → NW sc d_X1_readForm 13 (0, [some (.inr (.inl (some 297))), some (.inr (.inl (some 1000003))), some (.inl x1), none, none, none, none, none, none], [], (J, L, W), 0, 0) (fun v M9 => NW sc d_X1_readCommand D (21, [some (.inr (.inl (some 297))), some (.inl x1), some (.inl x2), some (.inl x3), none], nw_push v [], M9, c, sl) Qr Qx) Qx) ∧ (¬ x3 = 2 → ((x3 = 3 → NW sc d_X1_readForm 13 (0, [some (.inr (.inl (some 297))), some (.inr (.inl (some 1000004))), some (.inl x1), none, none, none, none, none, none], [], (J, L, W), 0, 0) (fun v M9 => NW sc d_X1_readCommand D (21, [some (.inr (.inl (some 297))), some (.inl x1), some (.inl x2), some (.inl x3), none], nw_push v [], M9, c, sl) Qr Qx) Qx) ∧ (¬ x3 = 3 → ((x3 = 4 → NW sc d_X1_readForm 13 (0, [some (.inr (.inl (some 297))), some (.inr (.inl (some 1000005))), some (.inl x1), none, none, none, none, none, none], [], (J, L, W), 0, 0) (fun v M9 => NW sc d_X1_readCommand D (21, [some (.inr (.inl (some 297))), some (.inl x1), some (.inl x2), some (.inl x3), none], nw_push v [], M9, c, sl) Qr Qx) Qx) ∧ (¬ x3 = 4 → ((x3 = 5 → NW sc d_X1_readForm 13 (0, [some (.inr (.inl (some 297))), some (.inr (.inl (some 1000006))), some (.inl x1), none, none, none, none, none, none], [], (J, L, W), 0, 0) (fun v M9 => NW sc d_X1_readCommand D (21, [some (.inr (.inl (some 297))), some (.inl x1), some (.inl x2), some (.inl x3), none], nw_push v [], M9, c, sl) Qr Qx) Qx) ∧ (¬ x3 = 5 → ((x3 = 6 → NW sc d_X1_readForm 13 (0, [some (.inr (.inl (some 297))), some (.inr (.inl (some 1000007))), some (.inl x1), none, none, none, none, none, none], [], (J, L, W), 0, 0) (fun v M9 => NW sc d_X1_readCommand D (21, [some (.inr (.inl (some 297))), some (.inl x1), some (.inl x2), some (.inl x3), none], nw_push v [], M9, c, sl) Qr Qx) Qx) ∧ (¬ x3 = 6 → ((x3 = 7 → NW sc d_X1_readForm 13 (0, [some (.inr (.inl (some 297))), some (.inr (.inl (some 1000008))), some (.inl x1), none, none, none, none, none, none], [], (J, L, W), 0, 0) (fun v M9 => NW sc d_X1_readCommand D (21, [some (.inr (.inl (some 297))), some (.inl x1), some (.inl x2), some (.inl x3), none], nw_push v [], M9, c, sl) Qr Qx) Qx) ∧ (¬ x3 = 7 → ((x3 = 8 → NW sc d_X1_readForm 13 (0, [some (.inr (.inl (some 297))), some (.inr (.inl (some 1000009))), some (.inl x1), none, none, none, none, none, none], [], (J, L, W), 0, 0) (fun v M9 => NW sc d_X1_readCommand D (21, [some (.inr (.inl (some 297))), some (.inl x1), some (.inl x2), some (.inl x3), none], nw_push v [], M9, c, sl) Qr Qx) Qx) ∧ (¬ x3 = 8 → NW sc d_X1_readForm 13 (0, [some (.inr (.inl (some 297))), some (.inr (.inl (some 1000010))), some (.inl x1), none, none, none, none, none, none], [], (J, L, W), 0, 0) (fun v M9 => NW sc d_X1_readCommand D (21, [some (.inr (.inl (some 297))), some (.inl x1), some (.inl x2), some (.inl x3), none], nw_push v [], M9, c, sl) Qr Qx) Qx))))))))))))))))))))) :
    NW sc d_X1_readCommand D (6, [some (.inr (.inl (some 297))), some (.inl x1), some (.inl x2), some (.inl x3), none], [], (J, L, W), c, sl) Qr Qx := by
  refine nw_iload_n l_X1_readCommand_6 7 rfl rfl ?_
  refine nw_bipush (len := 0) l_X1_readCommand_7 9 rfl c_10 ?_
  refine nw_ic_ge l_X1_readCommand_9 12 rfl (fun q1 => ?_) (fun q1 => ?_)
  · replace h := h.1 q1
    refine nw_iload_n l_X1_readCommand_54 55 rfl rfl ?_
    refine nw_ireturn l_X1_readCommand_55 rfl ?_
    exact h
  · replace h := h.2 q1
    refine nw_aload_n l_X1_readCommand_12 13 rfl rfl ?_
    refine nw_iload_n l_X1_readCommand_13 14 rfl rfl ?_
    refine nw_call0 0 0 l_X1_readCommand_14 rfl rfl g_X1_formOf (Nat.lt_of_lt_of_le (by decide) hD) rfl True.intro (ls' := [some (.inl x3)]) rfl (st' := [.inr (.inl (some 297))]) rfl 17 rfl ?_
    refine nw_iload_n l_X1_formOf_0 1 rfl rfl ?_
    by_cases q2 : x3 = 0
    · refine nw_tsIn l_X1_formOf_1 52 ⟨by omega, by omega, by rw [q2]; rfl⟩ ?_
      replace h := h.1 q2
      refine nw_ldcS l_X1_formOf_52 54 rfl ?_
      refine nw_areturn l_X1_formOf_54 rfl ?_
      refine nw_iload_n l_X1_readCommand_17 18 rfl rfl ?_
      refine nw_call0 13 297 l_X1_readCommand_18 rfl rfl g_X1_readForm (Nat.lt_of_lt_of_le (by decide) hD) rfl (Or.inl ⟨_, rfl, k_297⟩) (ls' := [some (.inr (.inl (some 297))), some (.inr (.inl (some 1000001))), some (.inl x1), none, none, none, none, none, none]) rfl (st' := []) rfl 21 rfl ?_
      exact h
    replace h := h.2 q2
    by_cases q3 : x3 = 1
    · refine nw_tsIn l_X1_formOf_1 55 ⟨by omega, by omega, by rw [q3]; rfl⟩ ?_
      replace h := h.1 q3
      refine nw_ldcS l_X1_formOf_55 57 rfl ?_
      refine nw_areturn l_X1_formOf_57 rfl ?_
      refine nw_iload_n l_X1_readCommand_17 18 rfl rfl ?_
      refine nw_call0 13 297 l_X1_readCommand_18 rfl rfl g_X1_readForm (Nat.lt_of_lt_of_le (by decide) hD) rfl (Or.inl ⟨_, rfl, k_297⟩) (ls' := [some (.inr (.inl (some 297))), some (.inr (.inl (some 1000002))), some (.inl x1), none, none, none, none, none, none]) rfl (st' := []) rfl 21 rfl ?_
      exact h
    replace h := h.2 q3
    by_cases q4 : x3 = 2
    · refine nw_tsIn l_X1_formOf_1 58 ⟨by omega, by omega, by rw [q4]; rfl⟩ ?_
      replace h := h.1 q4
      refine nw_ldcS l_X1_formOf_58 60 rfl ?_
      refine nw_areturn l_X1_formOf_60 rfl ?_
      refine nw_iload_n l_X1_readCommand_17 18 rfl rfl ?_
      refine nw_call0 13 297 l_X1_readCommand_18 rfl rfl g_X1_readForm (Nat.lt_of_lt_of_le (by decide) hD) rfl (Or.inl ⟨_, rfl, k_297⟩) (ls' := [some (.inr (.inl (some 297))), some (.inr (.inl (some 1000003))), some (.inl x1), none, none, none, none, none, none]) rfl (st' := []) rfl 21 rfl ?_
      exact h
    replace h := h.2 q4
    by_cases q5 : x3 = 3
    · refine nw_tsIn l_X1_formOf_1 61 ⟨by omega, by omega, by rw [q5]; rfl⟩ ?_
      replace h := h.1 q5
      refine nw_ldcS l_X1_formOf_61 63 rfl ?_
      refine nw_areturn l_X1_formOf_63 rfl ?_
      refine nw_iload_n l_X1_readCommand_17 18 rfl rfl ?_
      refine nw_call0 13 297 l_X1_readCommand_18 rfl rfl g_X1_readForm (Nat.lt_of_lt_of_le (by decide) hD) rfl (Or.inl ⟨_, rfl, k_297⟩) (ls' := [some (.inr (.inl (some 297))), some (.inr (.inl (some 1000004))), some (.inl x1), none, none, none, none, none, none]) rfl (st' := []) rfl 21 rfl ?_
      exact h
    replace h := h.2 q5
    by_cases q6 : x3 = 4
    · refine nw_tsIn l_X1_formOf_1 64 ⟨by omega, by omega, by rw [q6]; rfl⟩ ?_
      replace h := h.1 q6
      refine nw_ldcS l_X1_formOf_64 66 rfl ?_
      refine nw_areturn l_X1_formOf_66 rfl ?_
      refine nw_iload_n l_X1_readCommand_17 18 rfl rfl ?_
      refine nw_call0 13 297 l_X1_readCommand_18 rfl rfl g_X1_readForm (Nat.lt_of_lt_of_le (by decide) hD) rfl (Or.inl ⟨_, rfl, k_297⟩) (ls' := [some (.inr (.inl (some 297))), some (.inr (.inl (some 1000005))), some (.inl x1), none, none, none, none, none, none]) rfl (st' := []) rfl 21 rfl ?_
      exact h
    replace h := h.2 q6
    by_cases q7 : x3 = 5
    · refine nw_tsIn l_X1_formOf_1 67 ⟨by omega, by omega, by rw [q7]; rfl⟩ ?_
      replace h := h.1 q7
      refine nw_ldcS l_X1_formOf_67 69 rfl ?_
      refine nw_areturn l_X1_formOf_69 rfl ?_
      refine nw_iload_n l_X1_readCommand_17 18 rfl rfl ?_
      refine nw_call0 13 297 l_X1_readCommand_18 rfl rfl g_X1_readForm (Nat.lt_of_lt_of_le (by decide) hD) rfl (Or.inl ⟨_, rfl, k_297⟩) (ls' := [some (.inr (.inl (some 297))), some (.inr (.inl (some 1000006))), some (.inl x1), none, none, none, none, none, none]) rfl (st' := []) rfl 21 rfl ?_
      exact h
    replace h := h.2 q7
    by_cases q8 : x3 = 6
    · refine nw_tsIn l_X1_formOf_1 70 ⟨by omega, by omega, by rw [q8]; rfl⟩ ?_
      replace h := h.1 q8
      refine nw_ldcS l_X1_formOf_70 72 rfl ?_
      refine nw_areturn l_X1_formOf_72 rfl ?_
      refine nw_iload_n l_X1_readCommand_17 18 rfl rfl ?_
      refine nw_call0 13 297 l_X1_readCommand_18 rfl rfl g_X1_readForm (Nat.lt_of_lt_of_le (by decide) hD) rfl (Or.inl ⟨_, rfl, k_297⟩) (ls' := [some (.inr (.inl (some 297))), some (.inr (.inl (some 1000007))), some (.inl x1), none, none, none, none, none, none]) rfl (st' := []) rfl 21 rfl ?_
      exact h
    replace h := h.2 q8
    by_cases q9 : x3 = 7
    · refine nw_tsIn l_X1_formOf_1 73 ⟨by omega, by omega, by rw [q9]; rfl⟩ ?_
      replace h := h.1 q9
      refine nw_ldcS l_X1_formOf_73 75 rfl ?_
      refine nw_areturn l_X1_formOf_75 rfl ?_
      refine nw_iload_n l_X1_readCommand_17 18 rfl rfl ?_
      refine nw_call0 13 297 l_X1_readCommand_18 rfl rfl g_X1_readForm (Nat.lt_of_lt_of_le (by decide) hD) rfl (Or.inl ⟨_, rfl, k_297⟩) (ls' := [some (.inr (.inl (some 297))), some (.inr (.inl (some 1000008))), some (.inl x1), none, none, none, none, none, none]) rfl (st' := []) rfl 21 rfl ?_
      exact h
    replace h := h.2 q9
    by_cases q10 : x3 = 8
    · refine nw_tsIn l_X1_formOf_1 76 ⟨by omega, by omega, by rw [q10]; rfl⟩ ?_
      replace h := h.1 q10
      refine nw_ldcS l_X1_formOf_76 78 rfl ?_
      refine nw_areturn l_X1_formOf_78 rfl ?_
      refine nw_iload_n l_X1_readCommand_17 18 rfl rfl ?_
      refine nw_call0 13 297 l_X1_readCommand_18 rfl rfl g_X1_readForm (Nat.lt_of_lt_of_le (by decide) hD) rfl (Or.inl ⟨_, rfl, k_297⟩) (ls' := [some (.inr (.inl (some 297))), some (.inr (.inl (some 1000009))), some (.inl x1), none, none, none, none, none, none]) rfl (st' := []) rfl 21 rfl ?_
      exact h
    replace h := h.2 q10
    refine nw_tsOut l_X1_formOf_1 (by omega) ?_
    refine nw_ldcS l_X1_formOf_79 81 rfl ?_
    refine nw_areturn l_X1_formOf_81 rfl ?_
    refine nw_iload_n l_X1_readCommand_17 18 rfl rfl ?_
    refine nw_call0 13 297 l_X1_readCommand_18 rfl rfl g_X1_readForm (Nat.lt_of_lt_of_le (by decide) hD) rfl (Or.inl ⟨_, rfl, k_297⟩) (ls' := [some (.inr (.inl (some 297))), some (.inr (.inl (some 1000010))), some (.inl x1), none, none, none, none, none, none]) rfl (st' := []) rfl 21 rfl ?_
    exact h
theorem b_X1_readCommand_21 {x1 : Int} {x2 : Int} {x3 : Int} {y0 : Int} (hD : 14 ≤ D) (h : ((y0 < 0 → ((y0 < x2 → ((-2147483648 ≤ x3 + 1 ∧ x3 + 1 < 2147483648) ∧ NW sc d_X1_readCommand D (6, [some (.inr (.inl (some 297))), some (.inl x1), some (.inl y0), some (.inl (x3 + 1)), none], [], (J, L, W), c, sl) Qr Qx)) ∧ (x2 ≤ y0 → ((-2147483648 ≤ x3 + 1 ∧ x3 + 1 < 2147483648) ∧ NW sc d_X1_readCommand D (6, [some (.inr (.inl (some 297))), some (.inl x1), some (.inl x2), some (.inl (x3 + 1)), none], [], (J, L, W), c, sl) Qr Qx)))) ∧ (0 ≤ y0 → ((0 ≤ J 297 1 ∧ J 297 1 < 10) ∧ Qr (some (.inl y0)) (nw_u J 298 (J 297 1) x3, L, W))))) :
    NW sc d_X1_readCommand D (21, [some (.inr (.inl (some 297))), some (.inl x1), some (.inl x2), some (.inl x3), none], [.inl y0], (J, L, W), c, sl) Qr Qx := by
  refine nw_istore l_X1_readCommand_21 23 rfl rfl (ls' := [some (.inr (.inl (some 297))), some (.inl x1), some (.inl x2), some (.inl x3), some (.inl y0)]) rfl ?_
  refine nw_iload l_X1_readCommand_23 25 rfl rfl ?_
  refine nw_if_lt l_X1_readCommand_25 28 rfl (fun q1 => ?_) (fun q1 => ?_)
  · replace h := h.1 q1
    refine nw_iload_n l_X1_readCommand_41 42 rfl rfl ?_
    refine nw_iload l_X1_readCommand_42 44 rfl rfl ?_
    refine nw_call0 0 0 l_X1_readCommand_44 rfl rfl g_J9_min_7cf53 (Nat.lt_of_lt_of_le (by decide) hD) rfl True.intro (ls' := [some (.inl x2), some (.inl y0)]) rfl (st' := []) rfl 47 rfl ?_
    refine nw_iload_n l_J9_min_7cf53_0 1 rfl rfl ?_
    refine nw_iload_n l_J9_min_7cf53_1 2 rfl rfl ?_
    refine nw_ic_gt l_J9_min_7cf53_2 5 rfl (fun q2 => ?_) (fun q2 => ?_)
    · replace h := h.1 q2
      refine nw_iload_n l_J9_min_7cf53_9 10 rfl rfl ?_
      refine nw_ireturn l_J9_min_7cf53_10 rfl ?_
      refine nw_istore_n l_X1_readCommand_47 48 rfl rfl (ls' := [some (.inr (.inl (some 297))), some (.inl x1), some (.inl y0), some (.inl x3), some (.inl y0)]) rfl ?_
      have o3 := h.1
      replace h := h.2
      refine nw_iinc l_X1_readCommand_48 51 rfl 1 (by decide) rfl rfl o3 (ls' := [some (.inr (.inl (some 297))), some (.inl x1), some (.inl y0), some (.inl (x3 + 1)), some (.inl y0)]) rfl ?_
      refine nw_goto l_X1_readCommand_51 ?_
      refine nw_drop (ls' := [some (.inr (.inl (some 297))), some (.inl x1), some (.inl y0), some (.inl (x3 + 1)), none]) ⟨rfl, ⟨rfl, ⟨rfl, ⟨rfl, ⟨True.intro, True.intro⟩⟩⟩⟩⟩ ?_
      exact h
    · replace h := h.2 q2
      refine nw_iload_n l_J9_min_7cf53_5 6 rfl rfl ?_
      refine nw_goto l_J9_min_7cf53_6 ?_
      refine nw_ireturn l_J9_min_7cf53_10 rfl ?_
      refine nw_istore_n l_X1_readCommand_47 48 rfl rfl (ls' := [some (.inr (.inl (some 297))), some (.inl x1), some (.inl x2), some (.inl x3), some (.inl y0)]) rfl ?_
      have o4 := h.1
      replace h := h.2
      refine nw_iinc l_X1_readCommand_48 51 rfl 1 (by decide) rfl rfl o4 (ls' := [some (.inr (.inl (some 297))), some (.inl x1), some (.inl x2), some (.inl (x3 + 1)), some (.inl y0)]) rfl ?_
      refine nw_goto l_X1_readCommand_51 ?_
      refine nw_drop (ls' := [some (.inr (.inl (some 297))), some (.inl x1), some (.inl x2), some (.inl (x3 + 1)), none]) ⟨rfl, ⟨rfl, ⟨rfl, ⟨rfl, ⟨True.intro, True.intro⟩⟩⟩⟩⟩ ?_
      exact h
  · replace h := h.2 q1
    refine nw_aload_n l_X1_readCommand_28 29 rfl rfl ?_
    refine nw_getA l_X1_readCommand_29 32 rfl k_297 r_297_2 ?_
    refine nw_aload_n l_X1_readCommand_32 33 rfl rfl ?_
    refine nw_getI l_X1_readCommand_33 36 rfl k_297 (v := J 297 1) rfl ?_
    refine nw_iload_n l_X1_readCommand_36 37 rfl rfl ?_
    have o5 := h.1
    replace h := h.2
    refine nw_iast l_X1_readCommand_37 38 rfl k_298 o5 ?_
    refine nw_iload l_X1_readCommand_38 40 rfl rfl ?_
    refine nw_ireturn l_X1_readCommand_40 rfl ?_
    exact h
end

