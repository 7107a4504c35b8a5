/-! the line, the reference: blocks of methods, by program -/

section
variable {sc : Nat × (Nat → Int32)} {D : Nat} {J L : Nat → Int → Int} {W : nw_W} {c sl : Nat} {Qr : nw_QR} {Qx : nw_QX}
theorem b_X12_describeFerry_0 {x1 : Int} (hD : 3 ≤ D) (h : ((-2147483648 ≤ (J 304 3) - 1 ∧ (J 304 3) - 1 < 2147483648) ∧ ((x1 < 0 → Qr (some (.inl 0)) (nw_u J 303 13 1, L, W)) ∧ (0 ≤ x1 → (((J 304 3) - 1 < x1 → Qr (some (.inl 0)) (nw_u J 303 13 1, L, W)) ∧ (x1 ≤ (J 304 3) - 1 → NW sc d_X12_writesNumber 1 (0, [some (.inr (.inl (some 303))), some (.inl x1), none], [], (nw_u J 303 12 0, L, W), 0, 0) (fun v M9 => NW sc d_X12_describeFerry D (24, [some (.inr (.inl (some 303))), some (.inl x1), none], nw_push v [], M9, c, sl) Qr Qx) Qx)))))) :
    NW sc d_X12_describeFerry D (0, [some (.inr (.inl (some 303))), some (.inl x1), none], [], (J, L, W), c, sl) Qr Qx := by
  refine nw_aload_n l_X12_describeFerry_0 1 rfl rfl ?_
  refine nw_iload_n l_X12_describeFerry_1 2 rfl rfl ?_
  refine nw_call0 1 303 l_X12_describeFerry_2 rfl rfl g_X12_isFerry (Nat.lt_of_lt_of_le (by decide) hD) rfl (Or.inl ⟨_, rfl, k_303⟩) (ls' := [some (.inr (.inl (some 303))), some (.inl x1)]) rfl (st' := []) rfl 5 rfl ?_
  refine nw_iload_n l_X12_isFerry_0 1 rfl rfl ?_
  refine nw_iconst (len := 0) l_X12_isFerry_1 2 rfl c_0 ?_
  refine nw_aload_n l_X12_isFerry_2 3 rfl rfl ?_
  refine nw_getA l_X12_isFerry_3 6 rfl k_303 r_303_0 ?_
  refine nw_iconst (len := 0) l_X12_isFerry_6 7 rfl c_3 ?_
  refine nw_iald l_X12_isFerry_7 8 rfl k_304 ⟨by decide, by decide⟩ (v := J 304 3) rfl ?_
  refine nw_iconst (len := 0) l_X12_isFerry_8 9 rfl c_1 ?_
  have o1 := h.1
  replace h := h.2
  refine nw_isub l_X12_isFerry_9 10 rfl o1 ?_
  refine nw_call0 0 0 l_X12_isFerry_10 rfl rfl g_X12_in (by decide) rfl True.intro (ls' := [some (.inl x1), some (.inl 0), some (.inl ((J 304 3) - 1))]) rfl (st' := []) rfl 13 rfl ?_
  refine nw_iload_n l_X12_in_0 1 rfl rfl ?_
  refine nw_iload_n l_X12_in_1 2 rfl rfl ?_
  refine nw_ic_lt l_X12_in_2 5 rfl (fun q2 => ?_) (fun q2 => ?_)
  · replace h := h.1 q2
    refine nw_iconst (len := 0) l_X12_in_14 15 rfl c_0 ?_
    refine nw_ireturnZ l_X12_in_15 rfl (Or.inl rfl) ?_
    refine nw_ireturnZ l_X12_isFerry_13 rfl (Or.inl rfl) ?_
    refine nw_if_ne l_X12_describeFerry_5 8 rfl (fun q => absurd q (by decide)) (fun _ => ?_)
    refine nw_aload_n l_X12_describeFerry_8 9 rfl rfl ?_
    refine nw_iconst (len := 0) l_X12_describeFerry_9 10 rfl c_1 ?_
    refine nw_call0 0 303 l_X12_describeFerry_10 rfl rfl g_X12_fails (Nat.lt_of_lt_of_le (by decide) hD) rfl (Or.inl ⟨_, rfl, k_303⟩) (ls' := [some (.inr (.inl (some 303))), some (.inl 1)]) rfl (st' := []) rfl 13 rfl ?_
    refine nw_aload_n l_X12_fails_0 1 rfl rfl ?_
    refine nw_iload_n l_X12_fails_1 2 rfl rfl ?_
    refine nw_putI l_X12_fails_2 5 rfl k_303 ?_
    refine nw_iconst (len := 0) l_X12_fails_5 6 rfl c_0 ?_
    refine nw_ireturn l_X12_fails_6 rfl ?_
    refine nw_ireturn l_X12_describeFerry_13 rfl ?_
    exact h
  · replace h := h.2 q2
    refine nw_iload_n l_X12_in_5 6 rfl rfl ?_
    refine nw_iload_n l_X12_in_6 7 rfl rfl ?_
    refine nw_ic_gt l_X12_in_7 10 rfl (fun q3 => ?_) (fun q3 => ?_)
    · replace h := h.1 q3
      refine nw_iconst (len := 0) l_X12_in_14 15 rfl c_0 ?_
      refine nw_ireturnZ l_X12_in_15 rfl (Or.inl rfl) ?_
      refine nw_ireturnZ l_X12_isFerry_13 rfl (Or.inl rfl) ?_
      refine nw_if_ne l_X12_describeFerry_5 8 rfl (fun q => absurd q (by decide)) (fun _ => ?_)
      refine nw_aload_n l_X12_describeFerry_8 9 rfl rfl ?_
      refine nw_iconst (len := 0) l_X12_describeFerry_9 10 rfl c_1 ?_
      refine nw_call0 0 303 l_X12_describeFerry_10 rfl rfl g_X12_fails (Nat.lt_of_lt_of_le (by decide) hD) rfl (Or.inl ⟨_, rfl, k_303⟩) (ls' := [some (.inr (.inl (some 303))), some (.inl 1)]) rfl (st' := []) rfl 13 rfl ?_
      refine nw_aload_n l_X12_fails_0 1 rfl rfl ?_
      refine nw_iload_n l_X12_fails_1 2 rfl rfl ?_
      refine nw_putI l_X12_fails_2 5 rfl k_303 ?_
      refine nw_iconst (len := 0) l_X12_fails_5 6 rfl c_0 ?_
      refine nw_ireturn l_X12_fails_6 rfl ?_
      refine nw_ireturn l_X12_describeFerry_13 rfl ?_
      exact h
    · replace h := h.2 q3
      refine nw_iconst (len := 0) l_X12_in_10 11 rfl c_1 ?_
      refine nw_goto l_X12_in_11 ?_
      refine nw_ireturnZ l_X12_in_15 rfl (Or.inr rfl) ?_
      refine nw_ireturnZ l_X12_isFerry_13 rfl (Or.inr rfl) ?_
      refine nw_if_ne l_X12_describeFerry_5 8 rfl (fun _ => ?_) (fun q => absurd q (by decide))
      refine nw_aload_n l_X12_describeFerry_14 15 rfl rfl ?_
      refine nw_iconst (len := 0) l_X12_describeFerry_15 16 rfl c_0 ?_
      refine nw_putI l_X12_describeFerry_16 19 rfl k_303 ?_
      refine nw_aload_n l_X12_describeFerry_19 20 rfl rfl ?_
      refine nw_iload_n l_X12_describeFerry_20 21 rfl rfl ?_
      refine nw_call0 1 303 l_X12_describeFerry_21 rfl rfl g_X12_writesNumber (Nat.lt_of_lt_of_le (by decide) hD) rfl (Or.inl ⟨_, rfl, k_303⟩) (ls' := [some (.inr (.inl (some 303))), some (.inl x1), none]) rfl (st' := []) rfl 24 rfl ?_
      exact h
theorem b_X12_describeFerry_24 {x1 : Int} (hD : 3 ≤ D) (h : ((-2147483648 ≤ 62 + x1 ∧ 62 + x1 < 2147483648) ∧ ((0 ≤ 62 + x1 ∧ 62 + x1 < 161) ∧ ((J 304 (62 + x1) ≤ 0 → ((0 ≤ J 303 12 ∧ J 303 12 < 80) ∧ ((-2147483648 ≤ (J 303 12) + 1 ∧ (J 303 12) + 1 < 2147483648) ∧ ((-2147483648 ≤ 56 + x1 ∧ 56 + x1 < 2147483648) ∧ ((0 ≤ 56 + x1 ∧ 56 + x1 < 161) ∧ NW sc d_X12_writesNumber 1 (0, [some (.inr (.inl (some 303))), some (.inl (J 304 (56 + x1))), none], [], (nw_u (nw_u J 309 (J 303 12) ((64 : Int) % 65536)) 303 12 ((J 303 12) + 1), L, W), 0, 0) (fun v M9 => NW sc d_X12_describeFerry D (56, [some (.inr (.inl (some 303))), some (.inl x1), none], nw_push v [], M9, c, sl) Qr Qx) Qx))))) ∧ (0 < J 304 (62 + x1) → ((0 ≤ J 303 12 ∧ J 303 12 < 80) ∧ ((-2147483648 ≤ (J 303 12) + 1 ∧ (J 303 12) + 1 < 2147483648) ∧ ((-2147483648 ≤ 56 + x1 ∧ 56 + x1 < 2147483648) ∧ ((0 ≤ 56 + x1 ∧ 56 + x1 < 161) ∧ NW sc d_X12_writesNumber 1 (0, [some (.inr (.inl (some 303))), some (.inl (J 304 (56 + x1))), none], [], (nw_u (nw_u J 309 (J 303 12) ((62 : Int) % 65536)) 303 12 ((J 303 12) + 1), L, W), 0, 0) (fun v M9 => NW sc d_X12_describeFerry D (56, [some (.inr (.inl (some 303))), some (.inl x1), none], nw_push v [], M9, c, sl) Qr Qx) Qx))))))))) :
    NW sc d_X12_describeFerry D (24, [some (.inr (.inl (some 303))), some (.inl x1), none], [], (J, L, W), c, sl) Qr Qx := by
  refine nw_aload_n l_X12_describeFerry_24 25 rfl rfl ?_
  refine nw_aload_n l_X12_describeFerry_25 26 rfl rfl ?_
  refine nw_iload_n l_X12_describeFerry_26 27 rfl rfl ?_
  refine nw_call0 0 303 l_X12_describeFerry_27 rfl rfl g_X12_sails (Nat.lt_of_lt_of_le (by decide) hD) rfl (Or.inl ⟨_, rfl, k_303⟩) (ls' := [some (.inr (.inl (some 303))), some (.inl x1)]) rfl (st' := [.inr (.inl (some 303))]) rfl 30 rfl ?_
  refine nw_aload_n l_X12_sails_0 1 rfl rfl ?_
  refine nw_getA l_X12_sails_1 4 rfl k_303 r_303_0 ?_
  refine nw_bipush (len := 0) l_X12_sails_4 6 rfl c_62 ?_
  refine nw_iload_n l_X12_sails_6 7 rfl rfl ?_
  have o1 := h.1
  replace h := h.2
  refine nw_iadd l_X12_sails_7 8 rfl o1 ?_
  have o2 := h.1
  replace h := h.2
  refine nw_iald l_X12_sails_8 9 rfl k_304 o2 (v := J 304 (62 + x1)) rfl ?_
  refine nw_if_le l_X12_sails_9 12 rfl (fun q3 => ?_) (fun q3 => ?_)
  · replace h := h.1 q3
    refine nw_iconst (len := 0) l_X12_sails_16 17 rfl c_0 ?_
    refine nw_ireturnZ l_X12_sails_17 rfl (Or.inl rfl) ?_
    refine nw_if_eq l_X12_describeFerry_30 33 rfl (fun _ => ?_) (fun q => absurd q (by decide))
    refine nw_bipush (len := 0) l_X12_describeFerry_38 40 rfl c_64 ?_
    refine nw_call0 0 303 l_X12_describeFerry_40 rfl rfl g_X12_writes (Nat.lt_of_lt_of_le (by decide) hD) rfl (Or.inl ⟨_, rfl, k_303⟩) (ls' := [some (.inr (.inl (some 303))), some (.inl 64)]) rfl (st' := []) rfl 43 rfl ?_
    refine nw_aload_n l_X12_writes_0 1 rfl rfl ?_
    refine nw_getA l_X12_writes_1 4 rfl k_303 r_303_11 ?_
    refine nw_aload_n l_X12_writes_4 5 rfl rfl ?_
    refine nw_getI l_X12_writes_5 8 rfl k_303 (v := J 303 12) rfl ?_
    refine nw_iload_n l_X12_writes_8 9 rfl rfl ?_
    refine nw_i2c l_X12_writes_9 10 rfl ?_
    have o4 := h.1
    replace h := h.2
    refine nw_cast l_X12_writes_10 11 rfl k_309 o4 ⟨by decide, by decide⟩ ?_
    refine nw_aload_n l_X12_writes_11 12 rfl rfl ?_
    refine nw_dupA l_X12_writes_12 13 rfl ?_
    refine nw_getI l_X12_writes_13 16 rfl k_303 (v := J 303 12) (show nw_u J 309 (J 303 12) ((64 : Int) % 65536) 303 12 = J 303 12 from (nw_uN (a := 309) (b := 303) (by decide))) ?_
    refine nw_iconst (len := 0) l_X12_writes_16 17 rfl c_1 ?_
    have o5 := h.1
    replace h := h.2
    refine nw_iadd l_X12_writes_17 18 rfl o5 ?_
    refine nw_putI l_X12_writes_18 21 rfl k_303 ?_
    refine nw_return l_X12_writes_21 rfl ?_
    refine nw_aload_n l_X12_describeFerry_43 44 rfl rfl ?_
    refine nw_aload_n l_X12_describeFerry_44 45 rfl rfl ?_
    refine nw_getA l_X12_describeFerry_45 48 rfl k_303 r_303_0 ?_
    refine nw_bipush (len := 0) l_X12_describeFerry_48 50 rfl c_56 ?_
    refine nw_iload_n l_X12_describeFerry_50 51 rfl rfl ?_
    have o6 := h.1
    replace h := h.2
    refine nw_iadd l_X12_describeFerry_51 52 rfl o6 ?_
    have o7 := h.1
    replace h := h.2
    refine nw_iald l_X12_describeFerry_52 53 rfl k_304 o7 (v := J 304 (56 + x1)) (show nw_u (nw_u J 309 (J 303 12) ((64 : Int) % 65536)) 303 12 ((J 303 12) + 1) 304 (56 + x1) = J 304 (56 + x1) from (nw_uN (a := 303) (b := 304) (by decide)).trans (nw_uN (a := 309) (b := 304) (by decide))) ?_
    refine nw_call0 1 303 l_X12_describeFerry_53 rfl rfl g_X12_writesNumber (Nat.lt_of_lt_of_le (by decide) hD) rfl (Or.inl ⟨_, rfl, k_303⟩) (ls' := [some (.inr (.inl (some 303))), some (.inl (J 304 (56 + x1))), none]) rfl (st' := []) rfl 56 rfl ?_
    exact h
  · replace h := h.2 q3
    refine nw_iconst (len := 0) l_X12_sails_12 13 rfl c_1 ?_
    refine nw_goto l_X12_sails_13 ?_
    refine nw_ireturnZ l_X12_sails_17 rfl (Or.inr rfl) ?_
    refine nw_if_eq l_X12_describeFerry_30 33 rfl (fun q => absurd q (by decide)) (fun _ => ?_)
    refine nw_bipush (len := 0) l_X12_describeFerry_33 35 rfl c_62 ?_
    refine nw_goto l_X12_describeFerry_35 ?_
    refine nw_call0 0 303 l_X12_describeFerry_40 rfl rfl g_X12_writes (Nat.lt_of_lt_of_le (by decide) hD) rfl (Or.inl ⟨_, rfl, k_303⟩) (ls' := [some (.inr (.inl (some 303))), some (.inl 62)]) rfl (st' := []) rfl 43 rfl ?_
    refine nw_aload_n l_X12_writes_0 1 rfl rfl ?_
    refine nw_getA l_X12_writes_1 4 rfl k_303 r_303_11 ?_
    refine nw_aload_n l_X12_writes_4 5 rfl rfl ?_
    refine nw_getI l_X12_writes_5 8 rfl k_303 (v := J 303 12) rfl ?_
    refine nw_iload_n l_X12_writes_8 9 rfl rfl ?_
    refine nw_i2c l_X12_writes_9 10 rfl ?_
    have o8 := h.1
    replace h := h.2
    refine nw_cast l_X12_writes_10 11 rfl k_309 o8 ⟨by decide, by decide⟩ ?_
    refine nw_aload_n l_X12_writes_11 12 rfl rfl ?_
    refine nw_dupA l_X12_writes_12 13 rfl ?_
    refine nw_getI l_X12_writes_13 16 rfl k_303 (v := J 303 12) (show nw_u J 309 (J 303 12) ((62 : Int) % 65536) 303 12 = J 303 12 from (nw_uN (a := 309) (b := 303) (by decide))) ?_
    refine nw_iconst (len := 0) l_X12_writes_16 17 rfl c_1 ?_
    have o9 := h.1
    replace h := h.2
    refine nw_iadd l_X12_writes_17 18 rfl o9 ?_
    refine nw_putI l_X12_writes_18 21 rfl k_303 ?_
    refine nw_return l_X12_writes_21 rfl ?_
    refine nw_aload_n l_X12_describeFerry_43 44 rfl rfl ?_
    refine nw_aload_n l_X12_describeFerry_44 45 rfl rfl ?_
    refine nw_getA l_X12_describeFerry_45 48 rfl k_303 r_303_0 ?_
    refine nw_bipush (len := 0) l_X12_describeFerry_48 50 rfl c_56 ?_
    refine nw_iload_n l_X12_describeFerry_50 51 rfl rfl ?_
    have o10 := h.1
    replace h := h.2
    refine nw_iadd l_X12_describeFerry_51 52 rfl o10 ?_
    have o11 := h.1
    replace h := h.2
    refine nw_iald l_X12_describeFerry_52 53 rfl k_304 o11 (v := J 304 (56 + x1)) (show nw_u (nw_u J 309 (J 303 12) ((62 : Int) % 65536)) 303 12 ((J 303 12) + 1) 304 (56 + x1) = J 304 (56 + x1) from (nw_uN (a := 303) (b := 304) (by decide)).trans (nw_uN (a := 309) (b := 304) (by decide))) ?_
    refine nw_call0 1 303 l_X12_describeFerry_53 rfl rfl g_X12_writesNumber (Nat.lt_of_lt_of_le (by decide) hD) rfl (Or.inl ⟨_, rfl, k_303⟩) (ls' := [some (.inr (.inl (some 303))), some (.inl (J 304 (56 + x1))), none]) rfl (st' := []) rfl 56 rfl ?_
    exact h
theorem b_X12_describeFerry_56 {x1 : Int} (hD : 3 ≤ D) (h : ((-2147483648 ≤ 62 + x1 ∧ 62 + x1 < 2147483648) ∧ ((0 ≤ 62 + x1 ∧ 62 + x1 < 161) ∧ ((J 304 (62 + x1) ≤ 0 → NW sc d_X12_isStuck 2 (0, [some (.inr (.inl (some 303))), some (.inl x1)], [], (J, L, W), 0, 0) (fun v M9 => NW sc d_X12_describeFerry D (84, [some (.inr (.inl (some 303))), some (.inl x1), none], nw_push v [], M9, c, sl) Qr Qx) Qx) ∧ (0 < J 304 (62 + x1) → ((0 ≤ J 303 12 ∧ J 303 12 < 80) ∧ ((-2147483648 ≤ (J 303 12) + 1 ∧ (J 303 12) + 1 < 2147483648) ∧ ((-2147483648 ≤ (J 304 (62 + x1)) - (J 304 0) ∧ (J 304 (62 + x1)) - (J 304 0) < 2147483648) ∧ NW sc d_X12_writesNumber 1 (0, [some (.inr (.inl (some 303))), some (.inl ((J 304 (62 + x1)) - (J 304 0))), none], [], (nw_u (nw_u J 309 (J 303 12) ((120 : Int) % 65536)) 303 12 ((J 303 12) + 1), L, W), 0, 0) (fun v M9 => NW sc d_X12_describeFerry D (79, [some (.inr (.inl (some 303))), some (.inl x1), none], nw_push v [], M9, c, sl) Qr Qx) Qx)))))))) :
    NW sc d_X12_describeFerry D (56, [some (.inr (.inl (some 303))), some (.inl x1), none], [], (J, L, W), c, sl) Qr Qx := by
  refine nw_aload_n l_X12_describeFerry_56 57 rfl rfl ?_
  refine nw_iload_n l_X12_describeFerry_57 58 rfl rfl ?_
  refine nw_call0 0 303 l_X12_describeFerry_58 rfl rfl g_X12_sails (Nat.lt_of_lt_of_le (by decide) hD) rfl (Or.inl ⟨_, rfl, k_303⟩) (ls' := [some (.inr (.inl (some 303))), some (.inl x1)]) rfl (st' := []) rfl 61 rfl ?_
  refine nw_aload_n l_X12_sails_0 1 rfl rfl ?_
  refine nw_getA l_X12_sails_1 4 rfl k_303 r_303_0 ?_
  refine nw_bipush (len := 0) l_X12_sails_4 6 rfl c_62 ?_
  refine nw_iload_n l_X12_sails_6 7 rfl rfl ?_
  have o1 := h.1
  replace h := h.2
  refine nw_iadd l_X12_sails_7 8 rfl o1 ?_
  have o2 := h.1
  replace h := h.2
  refine nw_iald l_X12_sails_8 9 rfl k_304 o2 (v := J 304 (62 + x1)) rfl ?_
  refine nw_if_le l_X12_sails_9 12 rfl (fun q3 => ?_) (fun q3 => ?_)
  · replace h := h.1 q3
    refine nw_iconst (len := 0) l_X12_sails_16 17 rfl c_0 ?_
    refine nw_ireturnZ l_X12_sails_17 rfl (Or.inl rfl) ?_
    refine nw_if_eq l_X12_describeFerry_61 64 rfl (fun _ => ?_) (fun q => absurd q (by decide))
    refine nw_aload_n l_X12_describeFerry_79 80 rfl rfl ?_
    refine nw_iload_n l_X12_describeFerry_80 81 rfl rfl ?_
    refine nw_call0 2 303 l_X12_describeFerry_81 rfl rfl g_X12_isStuck (Nat.lt_of_lt_of_le (by decide) hD) rfl (Or.inl ⟨_, rfl, k_303⟩) (ls' := [some (.inr (.inl (some 303))), some (.inl x1)]) rfl (st' := []) rfl 84 rfl ?_
    exact h
  · replace h := h.2 q3
    refine nw_iconst (len := 0) l_X12_sails_12 13 rfl c_1 ?_
    refine nw_goto l_X12_sails_13 ?_
    refine nw_ireturnZ l_X12_sails_17 rfl (Or.inr rfl) ?_
    refine nw_if_eq l_X12_describeFerry_61 64 rfl (fun q => absurd q (by decide)) (fun _ => ?_)
    refine nw_aload_n l_X12_describeFerry_64 65 rfl rfl ?_
    refine nw_bipush (len := 0) l_X12_describeFerry_65 67 rfl c_120 ?_
    refine nw_call0 0 303 l_X12_describeFerry_67 rfl rfl g_X12_writes (Nat.lt_of_lt_of_le (by decide) hD) rfl (Or.inl ⟨_, rfl, k_303⟩) (ls' := [some (.inr (.inl (some 303))), some (.inl 120)]) rfl (st' := []) rfl 70 rfl ?_
    refine nw_aload_n l_X12_writes_0 1 rfl rfl ?_
    refine nw_getA l_X12_writes_1 4 rfl k_303 r_303_11 ?_
    refine nw_aload_n l_X12_writes_4 5 rfl rfl ?_
    refine nw_getI l_X12_writes_5 8 rfl k_303 (v := J 303 12) rfl ?_
    refine nw_iload_n l_X12_writes_8 9 rfl rfl ?_
    refine nw_i2c l_X12_writes_9 10 rfl ?_
    have o4 := h.1
    replace h := h.2
    refine nw_cast l_X12_writes_10 11 rfl k_309 o4 ⟨by decide, by decide⟩ ?_
    refine nw_aload_n l_X12_writes_11 12 rfl rfl ?_
    refine nw_dupA l_X12_writes_12 13 rfl ?_
    refine nw_getI l_X12_writes_13 16 rfl k_303 (v := J 303 12) (show nw_u J 309 (J 303 12) ((120 : Int) % 65536) 303 12 = J 303 12 from (nw_uN (a := 309) (b := 303) (by decide))) ?_
    refine nw_iconst (len := 0) l_X12_writes_16 17 rfl c_1 ?_
    have o5 := h.1
    replace h := h.2
    refine nw_iadd l_X12_writes_17 18 rfl o5 ?_
    refine nw_putI l_X12_writes_18 21 rfl k_303 ?_
    refine nw_return l_X12_writes_21 rfl ?_
    refine nw_aload_n l_X12_describeFerry_70 71 rfl rfl ?_
    refine nw_aload_n l_X12_describeFerry_71 72 rfl rfl ?_
    refine nw_iload_n l_X12_describeFerry_72 73 rfl rfl ?_
    refine nw_call0 1 303 l_X12_describeFerry_73 rfl rfl g_X12_left (Nat.lt_of_lt_of_le (by decide) hD) rfl (Or.inl ⟨_, rfl, k_303⟩) (ls' := [some (.inr (.inl (some 303))), some (.inl x1)]) rfl (st' := [.inr (.inl (some 303))]) rfl 76 rfl ?_
    refine nw_aload_n l_X12_left_0 1 rfl rfl ?_
    refine nw_iload_n l_X12_left_1 2 rfl rfl ?_
    refine nw_call0 0 303 l_X12_left_2 rfl rfl g_X12_sails (by decide) rfl (Or.inl ⟨_, rfl, k_303⟩) (ls' := [some (.inr (.inl (some 303))), some (.inl x1)]) rfl (st' := []) rfl 5 rfl ?_
    refine nw_aload_n l_X12_sails_0 1 rfl rfl ?_
    refine nw_getA l_X12_sails_1 4 rfl k_303 r_303_0 ?_
    refine nw_bipush (len := 0) l_X12_sails_4 6 rfl c_62 ?_
    refine nw_iload_n l_X12_sails_6 7 rfl rfl ?_
    refine nw_iadd l_X12_sails_7 8 rfl o1 ?_
    refine nw_iald l_X12_sails_8 9 rfl k_304 o2 (v := J 304 (62 + x1)) (show nw_u (nw_u J 309 (J 303 12) ((120 : Int) % 65536)) 303 12 ((J 303 12) + 1) 304 (62 + x1) = J 304 (62 + x1) from (nw_uN (a := 303) (b := 304) (by decide)).trans (nw_uN (a := 309) (b := 304) (by decide))) ?_
    refine nw_if_le l_X12_sails_9 12 rfl (fun q => absurd q (by omega)) (fun _ => ?_)
    refine nw_iconst (len := 0) l_X12_sails_12 13 rfl c_1 ?_
    refine nw_goto l_X12_sails_13 ?_
    refine nw_ireturnZ l_X12_sails_17 rfl (Or.inr rfl) ?_
    refine nw_if_eq l_X12_left_5 8 rfl (fun q => absurd q (by decide)) (fun _ => ?_)
    refine nw_aload_n l_X12_left_8 9 rfl rfl ?_
    refine nw_getA l_X12_left_9 12 rfl k_303 r_303_0 ?_
    refine nw_bipush (len := 0) l_X12_left_12 14 rfl c_62 ?_
    refine nw_iload_n l_X12_left_14 15 rfl rfl ?_
    refine nw_iadd l_X12_left_15 16 rfl o1 ?_
    refine nw_iald l_X12_left_16 17 rfl k_304 o2 (v := J 304 (62 + x1)) (show nw_u (nw_u J 309 (J 303 12) ((120 : Int) % 65536)) 303 12 ((J 303 12) + 1) 304 (62 + x1) = J 304 (62 + x1) from (nw_uN (a := 303) (b := 304) (by decide)).trans (nw_uN (a := 309) (b := 304) (by decide))) ?_
    refine nw_aload_n l_X12_left_17 18 rfl rfl ?_
    refine nw_getA l_X12_left_18 21 rfl k_303 r_303_0 ?_
    refine nw_iconst (len := 0) l_X12_left_21 22 rfl c_0 ?_
    refine nw_iald l_X12_left_22 23 rfl k_304 ⟨by decide, by decide⟩ (v := J 304 0) (show nw_u (nw_u J 309 (J 303 12) ((120 : Int) % 65536)) 303 12 ((J 303 12) + 1) 304 0 = J 304 0 from (nw_uN (a := 303) (b := 304) (by decide)).trans (nw_uN (a := 309) (b := 304) (by decide))) ?_
    have o6 := h.1
    replace h := h.2
    refine nw_isub l_X12_left_23 24 rfl o6 ?_
    refine nw_goto l_X12_left_24 ?_
    refine nw_ireturn l_X12_left_28 rfl ?_
    refine nw_call0 1 303 l_X12_describeFerry_76 rfl rfl g_X12_writesNumber (Nat.lt_of_lt_of_le (by decide) hD) rfl (Or.inl ⟨_, rfl, k_303⟩) (ls' := [some (.inr (.inl (some 303))), some (.inl ((J 304 (62 + x1)) - (J 304 0))), none]) rfl (st' := []) rfl 79 rfl ?_
    exact h
theorem b_X12_describeFerry_84 {x1 : Int} {y0 : Int} (hD : 3 ≤ D) (h : ((y0 = 0 → NW sc d_X12_describeFerry D (95, [some (.inr (.inl (some 303))), some (.inl x1), some (.inl 0)], [], (J, L, W), c, sl) Qr Qx) ∧ (¬ y0 = 0 → ((0 ≤ J 303 12 ∧ J 303 12 < 80) ∧ ((-2147483648 ≤ (J 303 12) + 1 ∧ (J 303 12) + 1 < 2147483648) ∧ NW sc d_X12_describeFerry D (95, [some (.inr (.inl (some 303))), some (.inl x1), some (.inl 0)], [], (nw_u (nw_u J 309 (J 303 12) ((33 : Int) % 65536)) 303 12 ((J 303 12) + 1), L, W), c, sl) Qr Qx))))) :
    NW sc d_X12_describeFerry D (84, [some (.inr (.inl (some 303))), some (.inl x1), none], [.inl y0], (J, L, W), c, sl) Qr Qx := by
  refine nw_if_eq l_X12_describeFerry_84 87 rfl (fun q1 => ?_) (fun q1 => ?_)
  · replace h := h.1 q1
    refine nw_iconst (len := 0) l_X12_describeFerry_93 94 rfl c_0 ?_
    refine nw_istore_n l_X12_describeFerry_94 95 rfl rfl (ls' := [some (.inr (.inl (some 303))), some (.inl x1), some (.inl 0)]) rfl ?_
    exact h
  · replace h := h.2 q1
    refine nw_aload_n l_X12_describeFerry_87 88 rfl rfl ?_
    refine nw_bipush (len := 0) l_X12_describeFerry_88 90 rfl c_33 ?_
    refine nw_call0 0 303 l_X12_describeFerry_90 rfl rfl g_X12_writes (Nat.lt_of_lt_of_le (by decide) hD) rfl (Or.inl ⟨_, rfl, k_303⟩) (ls' := [some (.inr (.inl (some 303))), some (.inl 33)]) rfl (st' := []) rfl 93 rfl ?_
    refine nw_aload_n l_X12_writes_0 1 rfl rfl ?_
    refine nw_getA l_X12_writes_1 4 rfl k_303 r_303_11 ?_
    refine nw_aload_n l_X12_writes_4 5 rfl rfl ?_
    refine nw_getI l_X12_writes_5 8 rfl k_303 (v := J 303 12) rfl ?_
    refine nw_iload_n l_X12_writes_8 9 rfl rfl ?_
    refine nw_i2c l_X12_writes_9 10 rfl ?_
    have o2 := h.1
    replace h := h.2
    refine nw_cast l_X12_writes_10 11 rfl k_309 o2 ⟨by decide, by decide⟩ ?_
    refine nw_aload_n l_X12_writes_11 12 rfl rfl ?_
    refine nw_dupA l_X12_writes_12 13 rfl ?_
    refine nw_getI l_X12_writes_13 16 rfl k_303 (v := J 303 12) (show nw_u J 309 (J 303 12) ((33 : Int) % 65536) 303 12 = J 303 12 from (nw_uN (a := 309) (b := 303) (by decide))) ?_
    refine nw_iconst (len := 0) l_X12_writes_16 17 rfl c_1 ?_
    have o3 := h.1
    replace h := h.2
    refine nw_iadd l_X12_writes_17 18 rfl o3 ?_
    refine nw_putI l_X12_writes_18 21 rfl k_303 ?_
    refine nw_return l_X12_writes_21 rfl ?_
    refine nw_iconst (len := 0) l_X12_describeFerry_93 94 rfl c_0 ?_
    refine nw_istore_n l_X12_describeFerry_94 95 rfl rfl (ls' := [some (.inr (.inl (some 303))), some (.inl x1), some (.inl 0)]) rfl ?_
    exact h
theorem b_X12_describeFerry_79 {x1 : Int} (hD : 3 ≤ D) (h : NW sc d_X12_isStuck 2 (0, [some (.inr (.inl (some 303))), some (.inl x1)], [], (J, L, W), 0, 0) (fun v M9 => NW sc d_X12_describeFerry D (84, [some (.inr (.inl (some 303))), some (.inl x1), none], nw_push v [], M9, c, sl) Qr Qx) Qx) :
    NW sc d_X12_describeFerry D (79, [some (.inr (.inl (some 303))), some (.inl x1), none], [], (J, L, W), c, sl) Qr Qx := by
  refine nw_aload_n l_X12_describeFerry_79 80 rfl rfl ?_
  refine nw_iload_n l_X12_describeFerry_80 81 rfl rfl ?_
  refine nw_call0 2 303 l_X12_describeFerry_81 rfl rfl g_X12_isStuck (Nat.lt_of_lt_of_le (by decide) hD) rfl (Or.inl ⟨_, rfl, k_303⟩) (ls' := [some (.inr (.inl (some 303))), some (.inl x1)]) rfl (st' := []) rfl 84 rfl ?_
  exact h
theorem b_X12_describeFerry_95 {x1 : Int} {x2 : Int} (hD : 3 ≤ D) (h : ((J 304 4 ≤ x2 → Qr (some (.inl (J 303 12))) (nw_u J 303 13 0, L, W)) ∧ (x2 < J 304 4 → ((-2147483648 ≤ 121 + x2 ∧ 121 + x2 < 2147483648) ∧ ((0 ≤ 121 + x2 ∧ 121 + x2 < 161) ∧ ((-2147483648 ≤ 10 + x1 ∧ 10 + x1 < 2147483648) ∧ ((¬ J 304 (121 + x2) = 10 + x1 → ((-2147483648 ≤ x2 + 1 ∧ x2 + 1 < 2147483648) ∧ NW sc d_X12_describeFerry D (95, [some (.inr (.inl (some 303))), some (.inl x1), some (.inl (x2 + 1))], [], (J, L, W), c, sl) Qr Qx)) ∧ (J 304 (121 + x2) = 10 + x1 → ((0 ≤ J 303 12 ∧ J 303 12 < 80) ∧ ((-2147483648 ≤ (J 303 12) + 1 ∧ (J 303 12) + 1 < 2147483648) ∧ ((-2147483648 ≤ 71 + x2 ∧ 71 + x2 < 2147483648) ∧ ((0 ≤ 71 + x2 ∧ 71 + x2 < 161) ∧ NW sc d_X12_writesNumber 1 (0, [some (.inr (.inl (some 303))), some (.inl (J 304 (71 + x2))), none], [], (nw_u (nw_u J 309 (J 303 12) ((32 : Int) % 65536)) 303 12 ((J 303 12) + 1), L, W), 0, 0) (fun v M9 => NW sc d_X12_describeFerry D (140, [some (.inr (.inl (some 303))), some (.inl x1), some (.inl x2)], nw_push v [], M9, c, sl) Qr Qx) Qx)))))))))))) :
    NW sc d_X12_describeFerry D (95, [some (.inr (.inl (some 303))), some (.inl x1), some (.inl x2)], [], (J, L, W), c, sl) Qr Qx := by
  refine nw_iload_n l_X12_describeFerry_95 96 rfl rfl ?_
  refine nw_aload_n l_X12_describeFerry_96 97 rfl rfl ?_
  refine nw_getA l_X12_describeFerry_97 100 rfl k_303 r_303_0 ?_
  refine nw_iconst (len := 0) l_X12_describeFerry_100 101 rfl c_4 ?_
  refine nw_iald l_X12_describeFerry_101 102 rfl k_304 ⟨by decide, by decide⟩ (v := J 304 4) rfl ?_
  refine nw_ic_ge l_X12_describeFerry_102 105 rfl (fun q1 => ?_) (fun q1 => ?_)
  · replace h := h.1 q1
    refine nw_aload_n l_X12_describeFerry_146 147 rfl rfl ?_
    refine nw_aload_n l_X12_describeFerry_147 148 rfl rfl ?_
    refine nw_getI l_X12_describeFerry_148 151 rfl k_303 (v := J 303 12) rfl ?_
    refine nw_call0 0 303 l_X12_describeFerry_151 rfl rfl g_X12_done (Nat.lt_of_lt_of_le (by decide) hD) rfl (Or.inl ⟨_, rfl, k_303⟩) (ls' := [some (.inr (.inl (some 303))), some (.inl (J 303 12))]) rfl (st' := []) rfl 154 rfl ?_
    refine nw_aload_n l_X12_done_0 1 rfl rfl ?_
    refine nw_iconst (len := 0) l_X12_done_1 2 rfl c_0 ?_
    refine nw_putI l_X12_done_2 5 rfl k_303 ?_
    refine nw_iload_n l_X12_done_5 6 rfl rfl ?_
    refine nw_ireturn l_X12_done_6 rfl ?_
    refine nw_ireturn l_X12_describeFerry_154 rfl ?_
    exact h
  · replace h := h.2 q1
    refine nw_aload_n l_X12_describeFerry_105 106 rfl rfl ?_
    refine nw_getA l_X12_describeFerry_106 109 rfl k_303 r_303_0 ?_
    refine nw_bipush (len := 0) l_X12_describeFerry_109 111 rfl c_121 ?_
    refine nw_iload_n l_X12_describeFerry_111 112 rfl rfl ?_
    have o2 := h.1
    replace h := h.2
    refine nw_iadd l_X12_describeFerry_112 113 rfl o2 ?_
    have o3 := h.1
    replace h := h.2
    refine nw_iald l_X12_describeFerry_113 114 rfl k_304 o3 (v := J 304 (121 + x2)) rfl ?_
    refine nw_bipush (len := 0) l_X12_describeFerry_114 116 rfl c_10 ?_
    refine nw_iload_n l_X12_describeFerry_116 117 rfl rfl ?_
    have o4 := h.1
    replace h := h.2
    refine nw_iadd l_X12_describeFerry_117 118 rfl o4 ?_
    refine nw_ic_ne l_X12_describeFerry_118 121 rfl (fun q5 => ?_) (fun q5 => ?_)
    · replace h := h.1 q5
      have o6 := h.1
      replace h := h.2
      refine nw_iinc l_X12_describeFerry_140 143 rfl 1 (by decide) rfl rfl o6 (ls' := [some (.inr (.inl (some 303))), some (.inl x1), some (.inl (x2 + 1))]) rfl ?_
      refine nw_goto l_X12_describeFerry_143 ?_
      exact h
    · replace h := h.2 q5
      refine nw_aload_n l_X12_describeFerry_121 122 rfl rfl ?_
      refine nw_bipush (len := 0) l_X12_describeFerry_122 124 rfl c_32 ?_
      refine nw_call0 0 303 l_X12_describeFerry_124 rfl rfl g_X12_writes (Nat.lt_of_lt_of_le (by decide) hD) rfl (Or.inl ⟨_, rfl, k_303⟩) (ls' := [some (.inr (.inl (some 303))), some (.inl 32)]) rfl (st' := []) rfl 127 rfl ?_
      refine nw_aload_n l_X12_writes_0 1 rfl rfl ?_
      refine nw_getA l_X12_writes_1 4 rfl k_303 r_303_11 ?_
      refine nw_aload_n l_X12_writes_4 5 rfl rfl ?_
      refine nw_getI l_X12_writes_5 8 rfl k_303 (v := J 303 12) rfl ?_
      refine nw_iload_n l_X12_writes_8 9 rfl rfl ?_
      refine nw_i2c l_X12_writes_9 10 rfl ?_
      have o7 := h.1
      replace h := h.2
      refine nw_cast l_X12_writes_10 11 rfl k_309 o7 ⟨by decide, by decide⟩ ?_
      refine nw_aload_n l_X12_writes_11 12 rfl rfl ?_
      refine nw_dupA l_X12_writes_12 13 rfl ?_
      refine nw_getI l_X12_writes_13 16 rfl k_303 (v := J 303 12) (show nw_u J 309 (J 303 12) ((32 : Int) % 65536) 303 12 = J 303 12 from (nw_uN (a := 309) (b := 303) (by decide))) ?_
      refine nw_iconst (len := 0) l_X12_writes_16 17 rfl c_1 ?_
      have o8 := h.1
      replace h := h.2
      refine nw_iadd l_X12_writes_17 18 rfl o8 ?_
      refine nw_putI l_X12_writes_18 21 rfl k_303 ?_
      refine nw_return l_X12_writes_21 rfl ?_
      refine nw_aload_n l_X12_describeFerry_127 128 rfl rfl ?_
      refine nw_aload_n l_X12_describeFerry_128 129 rfl rfl ?_
      refine nw_getA l_X12_describeFerry_129 132 rfl k_303 r_303_0 ?_
      refine nw_bipush (len := 0) l_X12_describeFerry_132 134 rfl c_71 ?_
      refine nw_iload_n l_X12_describeFerry_134 135 rfl rfl ?_
      have o9 := h.1
      replace h := h.2
      refine nw_iadd l_X12_describeFerry_135 136 rfl o9 ?_
      have o10 := h.1
      replace h := h.2
      refine nw_iald l_X12_describeFerry_136 137 rfl k_304 o10 (v := J 304 (71 + x2)) (show nw_u (nw_u J 309 (J 303 12) ((32 : Int) % 65536)) 303 12 ((J 303 12) + 1) 304 (71 + x2) = J 304 (71 + x2) from (nw_uN (a := 303) (b := 304) (by decide)).trans (nw_uN (a := 309) (b := 304) (by decide))) ?_
      refine nw_call0 1 303 l_X12_describeFerry_137 rfl rfl g_X12_writesNumber (Nat.lt_of_lt_of_le (by decide) hD) rfl (Or.inl ⟨_, rfl, k_303⟩) (ls' := [some (.inr (.inl (some 303))), some (.inl (J 304 (71 + x2))), none]) rfl (st' := []) rfl 140 rfl ?_
      exact h
theorem b_X12_describeFerry_140 {x1 : Int} {x2 : Int} (h : ((-2147483648 ≤ x2 + 1 ∧ x2 + 1 < 2147483648) ∧ NW sc d_X12_describeFerry D (95, [some (.inr (.inl (some 303))), some (.inl x1), some (.inl (x2 + 1))], [], (J, L, W), c, sl) Qr Qx)) :
    NW sc d_X12_describeFerry D (140, [some (.inr (.inl (some 303))), some (.inl x1), some (.inl x2)], [], (J, L, W), c, sl) Qr Qx := by
  have o1 := h.1
  replace h := h.2
  refine nw_iinc l_X12_describeFerry_140 143 rfl 1 (by decide) rfl rfl o1 (ls' := [some (.inr (.inl (some 303))), some (.inl x1), some (.inl (x2 + 1))]) rfl ?_
  refine nw_goto l_X12_describeFerry_143 ?_
  exact h
end
