/-! 29.blkF: blocks of methods, by program-/
section
variable {sc : Nat × (Nat → Int32)} {D : Nat} {J L : Nat → Int → Int} {W : nw_W} {c sl : Nat} {Qr : nw_QR} {Qx : nw_QX}
theorem b_X12_isPreferred_0 {x0 : Int} {x1 : Int} (h : ((-2147483648 ≤ -(nw_xixor x0 x1) ∧ -(nw_xixor x0 x1) < 2147483648) ∧ ((nw_xiand (nw_xiand x0 (nw_xixor x0 x1)) (-(nw_xixor x0 x1)) = 0 → Qr (some (.inl 0)) (J, L, W)) ∧ (¬ nw_xiand (nw_xiand x0 (nw_xixor x0 x1)) (-(nw_xixor x0 x1)) = 0 → Qr (some (.inl 1)) (J, L, W))))) :
    NW sc d_X12_isPreferred D (0, [some (.inl x0), some (.inl x1), none], [], (J, L, W), c, sl) Qr Qx := by
  refine nw_iload_n l_X12_isPreferred_0 1 rfl rfl ?_
  refine nw_iload_n l_X12_isPreferred_1 2 rfl rfl ?_
  refine nw_ixor l_X12_isPreferred_2 3 rfl ?_
  refine nw_istore_n l_X12_isPreferred_3 4 rfl rfl (ls' := [some (.inl x0), some (.inl x1), some (.inl (nw_xixor x0 x1))]) rfl ?_
  refine nw_iload_n l_X12_isPreferred_4 5 rfl rfl ?_
  refine nw_iload_n l_X12_isPreferred_5 6 rfl rfl ?_
  refine nw_iand l_X12_isPreferred_6 7 rfl ?_
  refine nw_iload_n l_X12_isPreferred_7 8 rfl rfl ?_
  have o1 := h.1
  replace h := h.2
  refine nw_ineg l_X12_isPreferred_8 9 rfl o1 ?_
  refine nw_iand l_X12_isPreferred_9 10 rfl ?_
  refine nw_if_eq l_X12_isPreferred_10 13 rfl (fun q2 => ?_) (fun q2 => ?_)
  · replace h := h.1 q2
    refine nw_iconst (len := 0) l_X12_isPreferred_17 18 rfl c_0 ?_
    refine nw_ireturnZ l_X12_isPreferred_18 rfl (Or.inl rfl) ?_
    exact h
  · replace h := h.2 q2
    refine nw_iconst (len := 0) l_X12_isPreferred_13 14 rfl c_1 ?_
    refine nw_goto l_X12_isPreferred_14 ?_
    refine nw_ireturnZ l_X12_isPreferred_18 rfl (Or.inr rfl) ?_
    exact h
theorem b_X12_isStranded_0 {x1 : Int} (hD : 3 ≤ D) (h : ((-2147483648 ≤ (J 304 3) - 1 ∧ (J 304 3) - 1 < 2147483648) ∧ ((x1 < 0 → Qr (some (.inl 0)) (nw_u J 303 13 1, L, W)) ∧ (0 ≤ x1 → (((J 304 3) - 1 < x1 → Qr (some (.inl 0)) (nw_u J 303 13 1, L, W)) ∧ (x1 ≤ (J 304 3) - 1 → NW sc d_X12_isStuck 2 (0, [some (.inr (.inl (some 303))), some (.inl x1)], [], (nw_u J 303 13 0, L, W), 0, 0) (fun v M9 => NW sc d_X12_isStranded D (29, [none, none], nw_push v [], M9, c, sl) Qr Qx) Qx)))))) :
    NW sc d_X12_isStranded D (0, [some (.inr (.inl (some 303))), some (.inl x1)], [], (J, L, W), c, sl) Qr Qx := by
  refine nw_aload_n l_X12_isStranded_0 1 rfl rfl ?_
  refine nw_aload_n l_X12_isStranded_1 2 rfl rfl ?_
  refine nw_iload_n l_X12_isStranded_2 3 rfl rfl ?_
  refine nw_call0 1 303 l_X12_isStranded_3 rfl rfl g_X12_isFerry (Nat.lt_of_lt_of_le (by decide) hD) rfl (Or.inl ⟨_, rfl, k_303⟩) (ls' := [some (.inr (.inl (some 303))), some (.inl x1)]) rfl (st' := [.inr (.inl (some 303))]) rfl 6 rfl ?_
  refine nw_iload_n l_X12_isFerry_0 1 rfl rfl ?_
  refine nw_iconst (len := 0) l_X12_isFerry_1 2 rfl c_0 ?_
  refine nw_aload_n l_X12_isFerry_2 3 rfl rfl ?_
  refine nw_getA l_X12_isFerry_3 6 rfl k_303 r_303_0 ?_
  refine nw_iconst (len := 0) l_X12_isFerry_6 7 rfl c_3 ?_
  refine nw_iald l_X12_isFerry_7 8 rfl k_304 ⟨by decide, by decide⟩ (v := J 304 3) rfl ?_
  refine nw_iconst (len := 0) l_X12_isFerry_8 9 rfl c_1 ?_
  have o1 := h.1
  replace h := h.2
  refine nw_isub l_X12_isFerry_9 10 rfl o1 ?_
  refine nw_call0 0 0 l_X12_isFerry_10 rfl rfl g_X12_in (by decide) rfl True.intro (ls' := [some (.inl x1), some (.inl 0), some (.inl ((J 304 3) - 1))]) rfl (st' := []) rfl 13 rfl ?_
  refine nw_iload_n l_X12_in_0 1 rfl rfl ?_
  refine nw_iload_n l_X12_in_1 2 rfl rfl ?_
  refine nw_ic_lt l_X12_in_2 5 rfl (fun q2 => ?_) (fun q2 => ?_)
  · replace h := h.1 q2
    refine nw_iconst (len := 0) l_X12_in_14 15 rfl c_0 ?_
    refine nw_ireturnZ l_X12_in_15 rfl (Or.inl rfl) ?_
    refine nw_ireturnZ l_X12_isFerry_13 rfl (Or.inl rfl) ?_
    refine nw_if_eq l_X12_isStranded_6 9 rfl (fun _ => ?_) (fun q => absurd q (by decide))
    refine nw_iconst (len := 0) l_X12_isStranded_13 14 rfl c_1 ?_
    refine nw_putI l_X12_isStranded_14 17 rfl k_303 ?_
    refine nw_aload_n l_X12_isStranded_17 18 rfl rfl ?_
    refine nw_getI l_X12_isStranded_18 21 rfl k_303 (v := 1) (show nw_u J 303 13 1 303 13 = 1 from nw_uS) ?_
    refine nw_if_ne l_X12_isStranded_21 24 rfl (fun _ => ?_) (fun q => absurd q (by decide))
    refine nw_iconst (len := 0) l_X12_isStranded_36 37 rfl c_0 ?_
    refine nw_ireturnZ l_X12_isStranded_37 rfl (Or.inl rfl) ?_
    exact h
  · replace h := h.2 q2
    refine nw_iload_n l_X12_in_5 6 rfl rfl ?_
    refine nw_iload_n l_X12_in_6 7 rfl rfl ?_
    refine nw_ic_gt l_X12_in_7 10 rfl (fun q3 => ?_) (fun q3 => ?_)
    · replace h := h.1 q3
      refine nw_iconst (len := 0) l_X12_in_14 15 rfl c_0 ?_
      refine nw_ireturnZ l_X12_in_15 rfl (Or.inl rfl) ?_
      refine nw_ireturnZ l_X12_isFerry_13 rfl (Or.inl rfl) ?_
      refine nw_if_eq l_X12_isStranded_6 9 rfl (fun _ => ?_) (fun q => absurd q (by decide))
      refine nw_iconst (len := 0) l_X12_isStranded_13 14 rfl c_1 ?_
      refine nw_putI l_X12_isStranded_14 17 rfl k_303 ?_
      refine nw_aload_n l_X12_isStranded_17 18 rfl rfl ?_
      refine nw_getI l_X12_isStranded_18 21 rfl k_303 (v := 1) (show nw_u J 303 13 1 303 13 = 1 from nw_uS) ?_
      refine nw_if_ne l_X12_isStranded_21 24 rfl (fun _ => ?_) (fun q => absurd q (by decide))
      refine nw_iconst (len := 0) l_X12_isStranded_36 37 rfl c_0 ?_
      refine nw_ireturnZ l_X12_isStranded_37 rfl (Or.inl rfl) ?_
      exact h
    · replace h := h.2 q3
      refine nw_iconst (len := 0) l_X12_in_10 11 rfl c_1 ?_
      refine nw_goto l_X12_in_11 ?_
      refine nw_ireturnZ l_X12_in_15 rfl (Or.inr rfl) ?_
      refine nw_ireturnZ l_X12_isFerry_13 rfl (Or.inr rfl) ?_
      refine nw_if_eq l_X12_isStranded_6 9 rfl (fun q => absurd q (by decide)) (fun _ => ?_)
      refine nw_iconst (len := 0) l_X12_isStranded_9 10 rfl c_0 ?_
      refine nw_goto l_X12_isStranded_10 ?_
      refine nw_putI l_X12_isStranded_14 17 rfl k_303 ?_
      refine nw_aload_n l_X12_isStranded_17 18 rfl rfl ?_
      refine nw_getI l_X12_isStranded_18 21 rfl k_303 (v := 0) (show nw_u J 303 13 0 303 13 = 0 from nw_uS) ?_
      refine nw_if_ne l_X12_isStranded_21 24 rfl (fun q => absurd q (by decide)) (fun _ => ?_)
      refine nw_aload_n l_X12_isStranded_24 25 rfl rfl ?_
      refine nw_iload_n l_X12_isStranded_25 26 rfl rfl ?_
      refine nw_drop (ls' := [none, none]) ⟨True.intro, ⟨True.intro, True.intro⟩⟩ ?_
      refine nw_call0 2 303 l_X12_isStranded_26 rfl rfl g_X12_isStuck (Nat.lt_of_lt_of_le (by decide) hD) rfl (Or.inl ⟨_, rfl, k_303⟩) (ls' := [some (.inr (.inl (some 303))), some (.inl x1)]) rfl (st' := []) rfl 29 rfl ?_
      exact h
theorem b_X12_isStranded_29 {y0 : Int} (h : ((y0 = 0 → Qr (some (.inl 0)) (J, L, W)) ∧ (¬ y0 = 0 → Qr (some (.inl 1)) (J, L, W)))) :
    NW sc d_X12_isStranded D (29, [none, none], [.inl y0], (J, L, W), c, sl) Qr Qx := by
  refine nw_if_eq l_X12_isStranded_29 32 rfl (fun q1 => ?_) (fun q1 => ?_)
  · replace h := h.1 q1
    refine nw_iconst (len := 0) l_X12_isStranded_36 37 rfl c_0 ?_
    refine nw_ireturnZ l_X12_isStranded_37 rfl (Or.inl rfl) ?_
    exact h
  · replace h := h.2 q1
    refine nw_iconst (len := 0) l_X12_isStranded_32 33 rfl c_1 ?_
    refine nw_goto l_X12_isStranded_33 ?_
    refine nw_ireturnZ l_X12_isStranded_37 rfl (Or.inr rfl) ?_
    exact h
theorem b_X12_isStuck_0 {x1 : Int} (hD : 2 ≤ D) (h : ((-2147483648 ≤ 62 + x1 ∧ 62 + x1 < 2147483648) ∧ ((0 ≤ 62 + x1 ∧ 62 + x1 < 161) ∧ ((J 304 (62 + x1) ≤ 0 → ((-2147483648 ≤ 56 + x1 ∧ 56 + x1 < 2147483648) ∧ ((0 ≤ 56 + x1 ∧ 56 + x1 < 161) ∧ NW sc d_X12_isTooLow 1 (0, [some (.inr (.inl (some 303))), some (.inl x1), some (.inl (J 304 (56 + x1))), some (.inl (J 304 0))], [], (J, L, W), 0, 0) (fun v M9 => NW sc d_X12_isStuck D (28, [none, none], nw_push v [], M9, c, sl) Qr Qx) Qx))) ∧ (0 < J 304 (62 + x1) → Qr (some (.inl 0)) (J, L, W)))))) :
    NW sc d_X12_isStuck D (0, [some (.inr (.inl (some 303))), some (.inl x1)], [], (J, L, W), c, sl) Qr Qx := by
  refine nw_aload_n l_X12_isStuck_0 1 rfl rfl ?_
  refine nw_iload_n l_X12_isStuck_1 2 rfl rfl ?_
  refine nw_call0 0 303 l_X12_isStuck_2 rfl rfl g_X12_sails (Nat.lt_of_lt_of_le (by decide) hD) rfl (Or.inl ⟨_, rfl, k_303⟩) (ls' := [some (.inr (.inl (some 303))), some (.inl x1)]) rfl (st' := []) rfl 5 rfl ?_
  refine nw_aload_n l_X12_sails_0 1 rfl rfl ?_
  refine nw_getA l_X12_sails_1 4 rfl k_303 r_303_0 ?_
  refine nw_bipush (len := 0) l_X12_sails_4 6 rfl c_62 ?_
  refine nw_iload_n l_X12_sails_6 7 rfl rfl ?_
  have o1 := h.1
  replace h := h.2
  refine nw_iadd l_X12_sails_7 8 rfl o1 ?_
  have o2 := h.1
  replace h := h.2
  refine nw_iald l_X12_sails_8 9 rfl k_304 o2 (v := J 304 (62 + x1)) rfl ?_
  refine nw_if_le l_X12_sails_9 12 rfl (fun q3 => ?_) (fun q3 => ?_)
  · replace h := h.1 q3
    refine nw_iconst (len := 0) l_X12_sails_16 17 rfl c_0 ?_
    refine nw_ireturnZ l_X12_sails_17 rfl (Or.inl rfl) ?_
    refine nw_if_ne l_X12_isStuck_5 8 rfl (fun q => absurd q (by decide)) (fun _ => ?_)
    refine nw_aload_n l_X12_isStuck_8 9 rfl rfl ?_
    refine nw_iload_n l_X12_isStuck_9 10 rfl rfl ?_
    refine nw_aload_n l_X12_isStuck_10 11 rfl rfl ?_
    refine nw_getA l_X12_isStuck_11 14 rfl k_303 r_303_0 ?_
    refine nw_bipush (len := 0) l_X12_isStuck_14 16 rfl c_56 ?_
    refine nw_iload_n l_X12_isStuck_16 17 rfl rfl ?_
    have o4 := h.1
    replace h := h.2
    refine nw_iadd l_X12_isStuck_17 18 rfl o4 ?_
    have o5 := h.1
    replace h := h.2
    refine nw_iald l_X12_isStuck_18 19 rfl k_304 o5 (v := J 304 (56 + x1)) rfl ?_
    refine nw_aload_n l_X12_isStuck_19 20 rfl rfl ?_
    refine nw_getA l_X12_isStuck_20 23 rfl k_303 r_303_0 ?_
    refine nw_iconst (len := 0) l_X12_isStuck_23 24 rfl c_0 ?_
    refine nw_iald l_X12_isStuck_24 25 rfl k_304 ⟨by decide, by decide⟩ (v := J 304 0) rfl ?_
    refine nw_drop (ls' := [none, none]) ⟨True.intro, ⟨True.intro, True.intro⟩⟩ ?_
    refine nw_call0 1 303 l_X12_isStuck_25 rfl rfl g_X12_isTooLow (Nat.lt_of_lt_of_le (by decide) hD) rfl (Or.inl ⟨_, rfl, k_303⟩) (ls' := [some (.inr (.inl (some 303))), some (.inl x1), some (.inl (J 304 (56 + x1))), some (.inl (J 304 0))]) rfl (st' := []) rfl 28 rfl ?_
    exact h
  · replace h := h.2 q3
    refine nw_iconst (len := 0) l_X12_sails_12 13 rfl c_1 ?_
    refine nw_goto l_X12_sails_13 ?_
    refine nw_ireturnZ l_X12_sails_17 rfl (Or.inr rfl) ?_
    refine nw_if_ne l_X12_isStuck_5 8 rfl (fun _ => ?_) (fun q => absurd q (by decide))
    refine nw_iconst (len := 0) l_X12_isStuck_35 36 rfl c_0 ?_
    refine nw_ireturnZ l_X12_isStuck_36 rfl (Or.inl rfl) ?_
    exact h
theorem b_X12_isStuck_28 {y0 : Int} (h : ((y0 = 0 → Qr (some (.inl 0)) (J, L, W)) ∧ (¬ y0 = 0 → Qr (some (.inl 1)) (J, L, W)))) :
    NW sc d_X12_isStuck D (28, [none, none], [.inl y0], (J, L, W), c, sl) Qr Qx := by
  refine nw_if_eq l_X12_isStuck_28 31 rfl (fun q1 => ?_) (fun q1 => ?_)
  · replace h := h.1 q1
    refine nw_iconst (len := 0) l_X12_isStuck_35 36 rfl c_0 ?_
    refine nw_ireturnZ l_X12_isStuck_36 rfl (Or.inl rfl) ?_
    exact h
  · replace h := h.2 q1
    refine nw_iconst (len := 0) l_X12_isStuck_31 32 rfl c_1 ?_
    refine nw_goto l_X12_isStuck_32 ?_
    refine nw_ireturnZ l_X12_isStuck_36 rfl (Or.inr rfl) ?_
    exact h
theorem b_X12_isTooLow_0 {x1 : Int} {x2 : Int} {x3 : Int} (hD : 1 ≤ D) (h : ((-2147483648 ≤ 10 + x2 ∧ 10 + x2 < 2147483648) ∧ ((0 ≤ 10 + x2 ∧ 10 + x2 < 161) ∧ NW sc d_X12_tideAt 0 (0, [some (.inl x3)], [], (J, L, W), 0, 0) (fun v M9 => NW sc d_X12_isTooLow D (13, [some (.inr (.inl (some 303))), some (.inl x1), none, none], nw_push v [.inl (J 304 (10 + x2))], M9, c, sl) Qr Qx) Qx))) :
    NW sc d_X12_isTooLow D (0, [some (.inr (.inl (some 303))), some (.inl x1), some (.inl x2), some (.inl x3)], [], (J, L, W), c, sl) Qr Qx := by
  refine nw_aload_n l_X12_isTooLow_0 1 rfl rfl ?_
  refine nw_getA l_X12_isTooLow_1 4 rfl k_303 r_303_0 ?_
  refine nw_bipush (len := 0) l_X12_isTooLow_4 6 rfl c_10 ?_
  refine nw_iload_n l_X12_isTooLow_6 7 rfl rfl ?_
  have o1 := h.1
  replace h := h.2
  refine nw_iadd l_X12_isTooLow_7 8 rfl o1 ?_
  have o2 := h.1
  replace h := h.2
  refine nw_iald l_X12_isTooLow_8 9 rfl k_304 o2 (v := J 304 (10 + x2)) rfl ?_
  refine nw_iload_n l_X12_isTooLow_9 10 rfl rfl ?_
  refine nw_drop (ls' := [some (.inr (.inl (some 303))), some (.inl x1), none, none]) ⟨rfl, ⟨rfl, ⟨True.intro, ⟨True.intro, True.intro⟩⟩⟩⟩ ?_
  refine nw_call0 0 0 l_X12_isTooLow_10 rfl rfl g_X12_tideAt (Nat.lt_of_lt_of_le (by decide) hD) rfl True.intro (ls' := [some (.inl x3)]) rfl (st' := [.inl (J 304 (10 + x2))]) rfl 13 rfl ?_
  exact h
theorem b_X12_isTooLow_13 {x1 : Int} {y0 : Int} {y1 : Int} (h : ((-2147483648 ≤ y1 + y0 ∧ y1 + y0 < 2147483648) ∧ ((-2147483648 ≤ 65 + x1 ∧ 65 + x1 < 2147483648) ∧ ((0 ≤ 65 + x1 ∧ 65 + x1 < 161) ∧ ((J 304 (65 + x1) ≤ y1 + y0 → Qr (some (.inl 0)) (J, L, W)) ∧ (y1 + y0 < J 304 (65 + x1) → Qr (some (.inl 1)) (J, L, W))))))) :
    NW sc d_X12_isTooLow D (13, [some (.inr (.inl (some 303))), some (.inl x1), none, none], [.inl y0, .inl y1], (J, L, W), c, sl) Qr Qx := by
  have o1 := h.1
  replace h := h.2
  refine nw_iadd l_X12_isTooLow_13 14 rfl o1 ?_
  refine nw_aload_n l_X12_isTooLow_14 15 rfl rfl ?_
  refine nw_getA l_X12_isTooLow_15 18 rfl k_303 r_303_0 ?_
  refine nw_bipush (len := 0) l_X12_isTooLow_18 20 rfl c_65 ?_
  refine nw_iload_n l_X12_isTooLow_20 21 rfl rfl ?_
  have o2 := h.1
  replace h := h.2
  refine nw_iadd l_X12_isTooLow_21 22 rfl o2 ?_
  have o3 := h.1
  replace h := h.2
  refine nw_iald l_X12_isTooLow_22 23 rfl k_304 o3 (v := J 304 (65 + x1)) rfl ?_
  refine nw_ic_ge l_X12_isTooLow_23 26 rfl (fun q4 => ?_) (fun q4 => ?_)
  · replace h := h.1 q4
    refine nw_iconst (len := 0) l_X12_isTooLow_30 31 rfl c_0 ?_
    refine nw_ireturnZ l_X12_isTooLow_31 rfl (Or.inl rfl) ?_
    exact h
  · replace h := h.2 q4
    refine nw_iconst (len := 0) l_X12_isTooLow_26 27 rfl c_1 ?_
    refine nw_goto l_X12_isTooLow_27 ?_
    refine nw_ireturnZ l_X12_isTooLow_31 rfl (Or.inr rfl) ?_
    exact h
theorem b_X12_joins_0 {x1 : Int} {x2 : Int} (h : ((0 ≤ x2 ∧ x2 < 6) ∧ ((0 ≤ x1 ∧ x1 < 6) ∧ NW sc d_X12_joins D (18, [some (.inr (.inl (some 303))), none, none, some (.inl (J 312 x2)), some (.inl (J 312 x1)), some (.inl 0)], [], (J, L, W), c, sl) Qr Qx))) :
    NW sc d_X12_joins D (0, [some (.inr (.inl (some 303))), some (.inl x1), some (.inl x2), none, none, none], [], (J, L, W), c, sl) Qr Qx := by
  refine nw_aload_n l_X12_joins_0 1 rfl rfl ?_
  refine nw_getA l_X12_joins_1 4 rfl k_303 r_303_16 ?_
  refine nw_iload_n l_X12_joins_4 5 rfl rfl ?_
  have o1 := h.1
  replace h := h.2
  refine nw_iald l_X12_joins_5 6 rfl k_312 o1 (v := J 312 x2) rfl ?_
  refine nw_istore_n l_X12_joins_6 7 rfl rfl (ls' := [some (.inr (.inl (some 303))), some (.inl x1), some (.inl x2), some (.inl (J 312 x2)), none, none]) rfl ?_
  refine nw_aload_n l_X12_joins_7 8 rfl rfl ?_
  refine nw_getA l_X12_joins_8 11 rfl k_303 r_303_16 ?_
  refine nw_iload_n l_X12_joins_11 12 rfl rfl ?_
  have o2 := h.1
  replace h := h.2
  refine nw_iald l_X12_joins_12 13 rfl k_312 o2 (v := J 312 x1) rfl ?_
  refine nw_istore l_X12_joins_13 15 rfl rfl (ls' := [some (.inr (.inl (some 303))), some (.inl x1), some (.inl x2), some (.inl (J 312 x2)), some (.inl (J 312 x1)), none]) rfl ?_
  refine nw_iconst (len := 0) l_X12_joins_15 16 rfl c_0 ?_
  refine nw_istore l_X12_joins_16 18 rfl rfl (ls' := [some (.inr (.inl (some 303))), some (.inl x1), some (.inl x2), some (.inl (J 312 x2)), some (.inl (J 312 x1)), some (.inl 0)]) rfl ?_
  refine nw_drop (ls' := [some (.inr (.inl (some 303))), none, none, some (.inl (J 312 x2)), some (.inl (J 312 x1)), some (.inl 0)]) ⟨rfl, ⟨True.intro, ⟨True.intro, ⟨rfl, ⟨rfl, ⟨rfl, True.intro⟩⟩⟩⟩⟩⟩ ?_
  exact h
theorem b_X12_joins_18 {x3 : Int} {x4 : Int} {x5 : Int} (h : ((6 ≤ x5 → ((x3 = x4 → Qr (some (.inl 0)) (J, L, W)) ∧ (¬ x3 = x4 → Qr (some (.inl 1)) (J, L, W)))) ∧ (x5 < 6 → ((0 ≤ x5 ∧ x5 < 6) ∧ ((¬ J 312 x5 = x3 → ((-2147483648 ≤ x5 + 1 ∧ x5 + 1 < 2147483648) ∧ NW sc d_X12_joins D (18, [some (.inr (.inl (some 303))), none, none, some (.inl x3), some (.inl x4), some (.inl (x5 + 1))], [], (nw_u J 312 x5 (J 312 x5), L, W), c, sl) Qr Qx)) ∧ (J 312 x5 = x3 → ((-2147483648 ≤ x5 + 1 ∧ x5 + 1 < 2147483648) ∧ NW sc d_X12_joins D (18, [some (.inr (.inl (some 303))), none, none, some (.inl x3), some (.inl x4), some (.inl (x5 + 1))], [], (nw_u J 312 x5 x4, L, W), c, sl) Qr Qx))))))) :
    NW sc d_X12_joins D (18, [some (.inr (.inl (some 303))), none, none, some (.inl x3), some (.inl x4), some (.inl x5)], [], (J, L, W), c, sl) Qr Qx := by
  refine nw_iload l_X12_joins_18 20 rfl rfl ?_
  refine nw_bipush (len := 0) l_X12_joins_20 22 rfl c_6 ?_
  refine nw_ic_ge l_X12_joins_22 25 rfl (fun q1 => ?_) (fun q1 => ?_)
  · replace h := h.1 q1
    refine nw_iload_n l_X12_joins_61 62 rfl rfl ?_
    refine nw_iload l_X12_joins_62 64 rfl rfl ?_
    refine nw_ic_eq l_X12_joins_64 67 rfl (fun q2 => ?_) (fun q2 => ?_)
    · replace h := h.1 q2
      refine nw_iconst (len := 0) l_X12_joins_71 72 rfl c_0 ?_
      refine nw_ireturnZ l_X12_joins_72 rfl (Or.inl rfl) ?_
      exact h
    · replace h := h.2 q2
      refine nw_iconst (len := 0) l_X12_joins_67 68 rfl c_1 ?_
      refine nw_goto l_X12_joins_68 ?_
      refine nw_ireturnZ l_X12_joins_72 rfl (Or.inr rfl) ?_
      exact h
  · replace h := h.2 q1
    refine nw_aload_n l_X12_joins_25 26 rfl rfl ?_
    refine nw_getA l_X12_joins_26 29 rfl k_303 r_303_16 ?_
    refine nw_iload l_X12_joins_29 31 rfl rfl ?_
    refine nw_aload_n l_X12_joins_31 32 rfl rfl ?_
    refine nw_getA l_X12_joins_32 35 rfl k_303 r_303_16 ?_
    refine nw_iload l_X12_joins_35 37 rfl rfl ?_
    have o3 := h.1
    replace h := h.2
    refine nw_iald l_X12_joins_37 38 rfl k_312 o3 (v := J 312 x5) rfl ?_
    refine nw_iload_n l_X12_joins_38 39 rfl rfl ?_
    refine nw_ic_ne l_X12_joins_39 42 rfl (fun q4 => ?_) (fun q4 => ?_)
    · replace h := h.1 q4
      refine nw_aload_n l_X12_joins_47 48 rfl rfl ?_
      refine nw_getA l_X12_joins_48 51 rfl k_303 r_303_16 ?_
      refine nw_iload l_X12_joins_51 53 rfl rfl ?_
      refine nw_iald l_X12_joins_53 54 rfl k_312 o3 (v := J 312 x5) rfl ?_
      refine nw_iast l_X12_joins_54 55 rfl k_312 o3 ?_
      have o5 := h.1
      replace h := h.2
      refine nw_iinc l_X12_joins_55 58 rfl 1 (by decide) rfl rfl o5 (ls' := [some (.inr (.inl (some 303))), none, none, some (.inl x3), some (.inl x4), some (.inl (x5 + 1))]) rfl ?_
      refine nw_goto l_X12_joins_58 ?_
      exact h
    · replace h := h.2 q4
      refine nw_iload l_X12_joins_42 44 rfl rfl ?_
      refine nw_goto l_X12_joins_44 ?_
      refine nw_iast l_X12_joins_54 55 rfl k_312 o3 ?_
      have o6 := h.1
      replace h := h.2
      refine nw_iinc l_X12_joins_55 58 rfl 1 (by decide) rfl rfl o6 (ls' := [some (.inr (.inl (some 303))), none, none, some (.inl x3), some (.inl x4), some (.inl (x5 + 1))]) rfl ?_
      refine nw_goto l_X12_joins_58 ?_
      exact h
theorem b_X12_kept_0 {x1 : Int} (hD : 1 ≤ D) (h : ((J 303 13 = 0 → ((¬ J 303 3 = 8 → ((-2147483648 ≤ (J 303 3) * 161 ∧ (J 303 3) * 161 < 2147483648) ∧ NW sc d_X12_copy 0 (0, [some (.inr (.inl (some 305))), some (.inl 0), some (.inr (.inl (some 306))), some (.inl ((J 303 3) * 161)), none], [], (J, L, W), 0, 0) (fun v M9 => NW sc d_X12_kept D (92, [some (.inr (.inl (some 303))), some (.inl x1), none], nw_push v [], M9, c, sl) Qr Qx) Qx)) ∧ (J 303 3 = 8 → NW sc d_X12_kept D (33, [some (.inr (.inl (some 303))), some (.inl x1), some (.inl 0)], [], (J, L, W), c, sl) Qr Qx))) ∧ (¬ J 303 13 = 0 → NW sc d_X12_copy 0 (0, [some (.inr (.inl (some 305))), some (.inl 0), some (.inr (.inl (some 304))), some (.inl 0), none], [], (J, L, W), 0, 0) (fun v M9 => NW sc d_X12_kept D (20, [none, none, none], nw_push v [], M9, c, sl) Qr Qx) Qx))) :
    NW sc d_X12_kept D (0, [some (.inr (.inl (some 303))), some (.inl x1), none], [], (J, L, W), c, sl) Qr Qx := by
  refine nw_aload_n l_X12_kept_0 1 rfl rfl ?_
  refine nw_getI l_X12_kept_1 4 rfl k_303 (v := J 303 13) rfl ?_
  refine nw_if_eq l_X12_kept_4 7 rfl (fun q1 => ?_) (fun q1 => ?_)
  · replace h := h.1 q1
    refine nw_aload_n l_X12_kept_22 23 rfl rfl ?_
    refine nw_getI l_X12_kept_23 26 rfl k_303 (v := J 303 3) rfl ?_
    refine nw_bipush (len := 0) l_X12_kept_26 28 rfl c_8 ?_
    refine nw_ic_ne l_X12_kept_28 31 rfl (fun q2 => ?_) (fun q2 => ?_)
    · replace h := h.1 q2
      refine nw_aload_n l_X12_kept_72 73 rfl rfl ?_
      refine nw_getA l_X12_kept_73 76 rfl k_303 r_303_1 ?_
      refine nw_iconst (len := 0) l_X12_kept_76 77 rfl c_0 ?_
      refine nw_aload_n l_X12_kept_77 78 rfl rfl ?_
      refine nw_getA l_X12_kept_78 81 rfl k_303 r_303_2 ?_
      refine nw_aload_n l_X12_kept_81 82 rfl rfl ?_
      refine nw_getI l_X12_kept_82 85 rfl k_303 (v := J 303 3) rfl ?_
      refine nw_sipush (len := 0) l_X12_kept_85 88 rfl c_161 ?_
      have o3 := h.1
      replace h := h.2
      refine nw_imul l_X12_kept_88 89 rfl o3 ?_
      refine nw_call0 0 0 l_X12_kept_89 rfl rfl g_X12_copy (Nat.lt_of_lt_of_le (by decide) hD) rfl True.intro (ls' := [some (.inr (.inl (some 305))), some (.inl 0), some (.inr (.inl (some 306))), some (.inl ((J 303 3) * 161)), none]) rfl (st' := []) rfl 92 rfl ?_
      exact h
    · replace h := h.2 q2
      refine nw_iconst (len := 0) l_X12_kept_31 32 rfl c_0 ?_
      refine nw_istore_n l_X12_kept_32 33 rfl rfl (ls' := [some (.inr (.inl (some 303))), some (.inl x1), some (.inl 0)]) rfl ?_
      exact h
  · replace h := h.2 q1
    refine nw_aload_n l_X12_kept_7 8 rfl rfl ?_
    refine nw_getA l_X12_kept_8 11 rfl k_303 r_303_1 ?_
    refine nw_iconst (len := 0) l_X12_kept_11 12 rfl c_0 ?_
    refine nw_aload_n l_X12_kept_12 13 rfl rfl ?_
    refine nw_getA l_X12_kept_13 16 rfl k_303 r_303_0 ?_
    refine nw_iconst (len := 0) l_X12_kept_16 17 rfl c_0 ?_
    refine nw_drop (ls' := [none, none, none]) ⟨True.intro, ⟨True.intro, ⟨True.intro, True.intro⟩⟩⟩ ?_
    refine nw_call0 0 0 l_X12_kept_17 rfl rfl g_X12_copy (Nat.lt_of_lt_of_le (by decide) hD) rfl True.intro (ls' := [some (.inr (.inl (some 305))), some (.inl 0), some (.inr (.inl (some 304))), some (.inl 0), none]) rfl (st' := []) rfl 20 rfl ?_
    exact h
theorem b_X12_kept_92 {x1 : Int} (h : ((-2147483648 ≤ (J 303 3) + 1 ∧ (J 303 3) + 1 < 2147483648) ∧ Qr (some (.inl x1)) (nw_u J 303 3 ((J 303 3) + 1), L, W))) :
    NW sc d_X12_kept D (92, [some (.inr (.inl (some 303))), some (.inl x1), none], [], (J, L, W), c, sl) Qr Qx := by
  refine nw_aload_n l_X12_kept_92 93 rfl rfl ?_
  refine nw_dupA l_X12_kept_93 94 rfl ?_
  refine nw_getI l_X12_kept_94 97 rfl k_303 (v := J 303 3) rfl ?_
  refine nw_iconst (len := 0) l_X12_kept_97 98 rfl c_1 ?_
  have o1 := h.1
  replace h := h.2
  refine nw_iadd l_X12_kept_98 99 rfl o1 ?_
  refine nw_putI l_X12_kept_99 102 rfl k_303 ?_
  refine nw_iload_n l_X12_kept_102 103 rfl rfl ?_
  refine nw_ireturn l_X12_kept_103 rfl ?_
  exact h
theorem b_X12_kept_33 {x1 : Int} {x2 : Int} (hD : 1 ≤ D) (h : ((1127 ≤ x2 → ((-2147483648 ≤ (J 303 3) - 1 ∧ (J 303 3) - 1 < 2147483648) ∧ ((-2147483648 ≤ ((J 303 3) - 1) * 161 ∧ ((J 303 3) - 1) * 161 < 2147483648) ∧ NW sc d_X12_copy 0 (0, [some (.inr (.inl (some 305))), some (.inl 0), some (.inr (.inl (some 306))), some (.inl (((J 303 3) - 1) * 161)), none], [], (nw_u J 303 3 ((J 303 3) - 1), L, W), 0, 0) (fun v M9 => NW sc d_X12_kept D (92, [some (.inr (.inl (some 303))), some (.inl x1), none], nw_push v [], M9, c, sl) Qr Qx) Qx))) ∧ (x2 < 1127 → ((-2147483648 ≤ x2 + 161 ∧ x2 + 161 < 2147483648) ∧ ((0 ≤ x2 + 161 ∧ x2 + 161 < 1288) ∧ ((0 ≤ x2 ∧ x2 < 1288) ∧ ((-2147483648 ≤ x2 + 1 ∧ x2 + 1 < 2147483648) ∧ NW sc d_X12_kept D (33, [some (.inr (.inl (some 303))), some (.inl x1), some (.inl (x2 + 1))], [], (nw_u J 306 x2 (J 306 (x2 + 161)), L, W), c, sl) Qr Qx))))))) :
    NW sc d_X12_kept D (33, [some (.inr (.inl (some 303))), some (.inl x1), some (.inl x2)], [], (J, L, W), c, sl) Qr Qx := by
  refine nw_iload_n l_X12_kept_33 34 rfl rfl ?_
  refine nw_sipush (len := 0) l_X12_kept_34 37 rfl c_1127 ?_
  refine nw_ic_ge l_X12_kept_37 40 rfl (fun q1 => ?_) (fun q1 => ?_)
  · replace h := h.1 q1
    refine nw_aload_n l_X12_kept_62 63 rfl rfl ?_
    refine nw_dupA l_X12_kept_63 64 rfl ?_
    refine nw_getI l_X12_kept_64 67 rfl k_303 (v := J 303 3) rfl ?_
    refine nw_iconst (len := 0) l_X12_kept_67 68 rfl c_1 ?_
    have o2 := h.1
    replace h := h.2
    refine nw_isub l_X12_kept_68 69 rfl o2 ?_
    refine nw_putI l_X12_kept_69 72 rfl k_303 ?_
    refine nw_aload_n l_X12_kept_72 73 rfl rfl ?_
    refine nw_getA l_X12_kept_73 76 rfl k_303 r_303_1 ?_
    refine nw_iconst (len := 0) l_X12_kept_76 77 rfl c_0 ?_
    refine nw_aload_n l_X12_kept_77 78 rfl rfl ?_
    refine nw_getA l_X12_kept_78 81 rfl k_303 r_303_2 ?_
    refine nw_aload_n l_X12_kept_81 82 rfl rfl ?_
    refine nw_getI l_X12_kept_82 85 rfl k_303 (v := (J 303 3) - 1) (show nw_u J 303 3 ((J 303 3) - 1) 303 3 = (J 303 3) - 1 from nw_uS) ?_
    refine nw_sipush (len := 0) l_X12_kept_85 88 rfl c_161 ?_
    have o3 := h.1
    replace h := h.2
    refine nw_imul l_X12_kept_88 89 rfl o3 ?_
    refine nw_drop (ls' := [some (.inr (.inl (some 303))), some (.inl x1), none]) ⟨rfl, ⟨rfl, ⟨True.intro, True.intro⟩⟩⟩ ?_
    refine nw_call0 0 0 l_X12_kept_89 rfl rfl g_X12_copy (Nat.lt_of_lt_of_le (by decide) hD) rfl True.intro (ls' := [some (.inr (.inl (some 305))), some (.inl 0), some (.inr (.inl (some 306))), some (.inl (((J 303 3) - 1) * 161)), none]) rfl (st' := []) rfl 92 rfl ?_
    exact h
  · replace h := h.2 q1
    refine nw_aload_n l_X12_kept_40 41 rfl rfl ?_
    refine nw_getA l_X12_kept_41 44 rfl k_303 r_303_2 ?_
    refine nw_iload_n l_X12_kept_44 45 rfl rfl ?_
    refine nw_aload_n l_X12_kept_45 46 rfl rfl ?_
    refine nw_getA l_X12_kept_46 49 rfl k_303 r_303_2 ?_
    refine nw_iload_n l_X12_kept_49 50 rfl rfl ?_
    refine nw_sipush (len := 0) l_X12_kept_50 53 rfl c_161 ?_
    have o4 := h.1
    replace h := h.2
    refine nw_iadd l_X12_kept_53 54 rfl o4 ?_
    have o5 := h.1
    replace h := h.2
    refine nw_iald l_X12_kept_54 55 rfl k_306 o5 (v := J 306 (x2 + 161)) rfl ?_
    have o6 := h.1
    replace h := h.2
    refine nw_iast l_X12_kept_55 56 rfl k_306 o6 ?_
    have o7 := h.1
    replace h := h.2
    refine nw_iinc l_X12_kept_56 59 rfl 1 (by decide) rfl rfl o7 (ls' := [some (.inr (.inl (some 303))), some (.inl x1), some (.inl (x2 + 1))]) rfl ?_
    refine nw_goto l_X12_kept_59 ?_
    exact h
theorem b_X12_kept_20  (h : Qr (some (.inl 0)) (J, L, W)) :
    NW sc d_X12_kept D (20, [none, none, none], [], (J, L, W), c, sl) Qr Qx := by
  refine nw_iconst (len := 0) l_X12_kept_20 21 rfl c_0 ?_
  refine nw_ireturn l_X12_kept_21 rfl ?_
  exact h
theorem b_X12_land_0 {x1 : Int} (hD : 4 ≤ D) (h : NW sc d_X12_begin 1 (0, [some (.inr (.inl (some 303)))], [], (J, L, W), 0, 0) (fun v M9 => NW sc d_X12_land D (4, [some (.inr (.inl (some 303))), some (.inl x1)], nw_push v [], M9, c, sl) Qr Qx) Qx) :
    NW sc d_X12_land D (0, [some (.inr (.inl (some 303))), some (.inl x1)], [], (J, L, W), c, sl) Qr Qx := by
  refine nw_aload_n l_X12_land_0 1 rfl rfl ?_
  refine nw_call0 1 303 l_X12_land_1 rfl rfl g_X12_begin (Nat.lt_of_lt_of_le (by decide) hD) rfl (Or.inl ⟨_, rfl, k_303⟩) (ls' := [some (.inr (.inl (some 303)))]) rfl (st' := []) rfl 4 rfl ?_
  exact h
theorem b_X12_land_4 {x1 : Int} (hD : 4 ≤ D) (h : NW sc d_X12_lands 3 (0, [some (.inr (.inl (some 303))), some (.inl x1), none, none, none], [], (J, L, W), 0, 0) (fun v M9 => NW sc d_X12_land D (10, [none, none], nw_push v [.inr (.inl (some 303))], M9, c, sl) Qr Qx) Qx) :
    NW sc d_X12_land D (4, [some (.inr (.inl (some 303))), some (.inl x1)], [], (J, L, W), c, sl) Qr Qx := by
  refine nw_aload_n l_X12_land_4 5 rfl rfl ?_
  refine nw_aload_n l_X12_land_5 6 rfl rfl ?_
  refine nw_iload_n l_X12_land_6 7 rfl rfl ?_
  refine nw_drop (ls' := [none, none]) ⟨True.intro, ⟨True.intro, True.intro⟩⟩ ?_
  refine nw_call0 3 303 l_X12_land_7 rfl rfl g_X12_lands (Nat.lt_of_lt_of_le (by decide) hD) rfl (Or.inl ⟨_, rfl, k_303⟩) (ls' := [some (.inr (.inl (some 303))), some (.inl x1), none, none, none]) rfl (st' := [.inr (.inl (some 303))]) rfl 10 rfl ?_
  exact h
theorem b_X12_land_10 {y0 : Int} (hD : 4 ≤ D) (h : NW sc d_X12_kept 1 (0, [some (.inr (.inl (some 303))), some (.inl y0), none], [], (J, L, W), 0, 0) (fun v M9 => NW sc d_X12_land D (13, [none, none], nw_push v [], M9, c, sl) Qr Qx) Qx) :
    NW sc d_X12_land D (10, [none, none], [.inl y0, .inr (.inl (some 303))], (J, L, W), c, sl) Qr Qx := by
  refine nw_call0 1 303 l_X12_land_10 rfl rfl g_X12_kept (Nat.lt_of_lt_of_le (by decide) hD) rfl (Or.inl ⟨_, rfl, k_303⟩) (ls' := [some (.inr (.inl (some 303))), some (.inl y0), none]) rfl (st' := []) rfl 13 rfl ?_
  exact h
theorem b_X12_land_13 {y0 : Int} (h : Qr (some (.inl y0)) (J, L, W)) :
    NW sc d_X12_land D (13, [none, none], [.inl y0], (J, L, W), c, sl) Qr Qx := by
  refine nw_ireturn l_X12_land_13 rfl ?_
  exact h
theorem b_X12_lands_0 {x1 : Int} (hD : 3 ≤ D) (h : NW sc d_X12_placeOf 0 (0, [some (.inr (.inl (some 303))), some (.inl x1), none], [], (J, L, W), 0, 0) (fun v M9 => NW sc d_X12_lands D (5, [some (.inr (.inl (some 303))), none, none, none, none], nw_push v [], M9, c, sl) Qr Qx) Qx) :
    NW sc d_X12_lands D (0, [some (.inr (.inl (some 303))), some (.inl x1), none, none, none], [], (J, L, W), c, sl) Qr Qx := by
  refine nw_aload_n l_X12_lands_0 1 rfl rfl ?_
  refine nw_iload_n l_X12_lands_1 2 rfl rfl ?_
  refine nw_drop (ls' := [some (.inr (.inl (some 303))), none, none, none, none]) ⟨rfl, ⟨True.intro, ⟨True.intro, ⟨True.intro, ⟨True.intro, True.intro⟩⟩⟩⟩⟩ ?_
  refine nw_call0 0 303 l_X12_lands_2 rfl rfl g_X12_placeOf (Nat.lt_of_lt_of_le (by decide) hD) rfl (Or.inl ⟨_, rfl, k_303⟩) (ls' := [some (.inr (.inl (some 303))), some (.inl x1), none]) rfl (st' := []) rfl 5 rfl ?_
  exact h
theorem b_X12_lands_5 {y0 : Int} (hD : 3 ≤ D) (h : ((¬ y0 = (-1) → ((-2147483648 ≤ 121 + y0 ∧ 121 + y0 < 2147483648) ∧ ((0 ≤ 121 + y0 ∧ 121 + y0 < 161) ∧ ((-2147483648 ≤ (J 304 (121 + y0)) - 10 ∧ (J 304 (121 + y0)) - 10 < 2147483648) ∧ ((0 ≤ (J 304 (121 + y0)) - 10 → ((-2147483648 ≤ 62 + ((J 304 (121 + y0)) - 10) ∧ 62 + ((J 304 (121 + y0)) - 10) < 2147483648) ∧ ((0 ≤ 62 + ((J 304 (121 + y0)) - 10) ∧ 62 + ((J 304 (121 + y0)) - 10) < 161) ∧ ((J 304 (62 + ((J 304 (121 + y0)) - 10)) ≤ 0 → NW sc d_X12_isStuck 2 (0, [some (.inr (.inl (some 303))), some (.inl ((J 304 (121 + y0)) - 10))], [], (J, L, W), 0, 0) (fun v M9 => NW sc d_X12_lands D (53, [some (.inr (.inl (some 303))), none, some (.inl y0), some (.inl ((J 304 (121 + y0)) - 10)), none], nw_push v [], M9, c, sl) Qr Qx) Qx) ∧ (0 < J 304 (62 + ((J 304 (121 + y0)) - 10)) → Qr (some (.inl 0)) (nw_u J 303 13 3, L, W)))))) ∧ ((J 304 (121 + y0)) - 10 < 0 → Qr (some (.inl 0)) (nw_u J 303 13 2, L, W))))))) ∧ (y0 = (-1) → Qr (some (.inl 0)) (nw_u J 303 13 1, L, W)))) :
    NW sc d_X12_lands D (5, [some (.inr (.inl (some 303))), none, none, none, none], [.inl y0], (J, L, W), c, sl) Qr Qx := by
  refine nw_istore_n l_X12_lands_5 6 rfl rfl (ls' := [some (.inr (.inl (some 303))), none, some (.inl y0), none, none]) rfl ?_
  refine nw_iload_n l_X12_lands_6 7 rfl rfl ?_
  refine nw_iconst (len := 0) l_X12_lands_7 8 rfl c_n1 ?_
  refine nw_ic_ne l_X12_lands_8 11 rfl (fun q1 => ?_) (fun q1 => ?_)
  · replace h := h.1 q1
    refine nw_aload_n l_X12_lands_17 18 rfl rfl ?_
    refine nw_getA l_X12_lands_18 21 rfl k_303 r_303_0 ?_
    refine nw_bipush (len := 0) l_X12_lands_21 23 rfl c_121 ?_
    refine nw_iload_n l_X12_lands_23 24 rfl rfl ?_
    have o2 := h.1
    replace h := h.2
    refine nw_iadd l_X12_lands_24 25 rfl o2 ?_
    have o3 := h.1
    replace h := h.2
    refine nw_iald l_X12_lands_25 26 rfl k_304 o3 (v := J 304 (121 + y0)) rfl ?_
    refine nw_bipush (len := 0) l_X12_lands_26 28 rfl c_10 ?_
    have o4 := h.1
    replace h := h.2
    refine nw_isub l_X12_lands_28 29 rfl o4 ?_
    refine nw_istore_n l_X12_lands_29 30 rfl rfl (ls' := [some (.inr (.inl (some 303))), none, some (.inl y0), some (.inl ((J 304 (121 + y0)) - 10)), none]) rfl ?_
    refine nw_iload_n l_X12_lands_30 31 rfl rfl ?_
    refine nw_if_ge l_X12_lands_31 34 rfl (fun q5 => ?_) (fun q5 => ?_)
    · replace h := h.1 q5
      refine nw_aload_n l_X12_lands_40 41 rfl rfl ?_
      refine nw_iload_n l_X12_lands_41 42 rfl rfl ?_
      refine nw_call0 0 303 l_X12_lands_42 rfl rfl g_X12_sails (Nat.lt_of_lt_of_le (by decide) hD) rfl (Or.inl ⟨_, rfl, k_303⟩) (ls' := [some (.inr (.inl (some 303))), some (.inl ((J 304 (121 + y0)) - 10))]) rfl (st' := []) rfl 45 rfl ?_
      refine nw_aload_n l_X12_sails_0 1 rfl rfl ?_
      refine nw_getA l_X12_sails_1 4 rfl k_303 r_303_0 ?_
      refine nw_bipush (len := 0) l_X12_sails_4 6 rfl c_62 ?_
      refine nw_iload_n l_X12_sails_6 7 rfl rfl ?_
      have o6 := h.1
      replace h := h.2
      refine nw_iadd l_X12_sails_7 8 rfl o6 ?_
      have o7 := h.1
      replace h := h.2
      refine nw_iald l_X12_sails_8 9 rfl k_304 o7 (v := J 304 (62 + ((J 304 (121 + y0)) - 10))) rfl ?_
      refine nw_if_le l_X12_sails_9 12 rfl (fun q8 => ?_) (fun q8 => ?_)
      · replace h := h.1 q8
        refine nw_iconst (len := 0) l_X12_sails_16 17 rfl c_0 ?_
        refine nw_ireturnZ l_X12_sails_17 rfl (Or.inl rfl) ?_
        refine nw_if_ne l_X12_lands_45 48 rfl (fun q => absurd q (by decide)) (fun _ => ?_)
        refine nw_aload_n l_X12_lands_48 49 rfl rfl ?_
        refine nw_iload_n l_X12_lands_49 50 rfl rfl ?_
        refine nw_call0 2 303 l_X12_lands_50 rfl rfl g_X12_isStuck (Nat.lt_of_lt_of_le (by decide) hD) rfl (Or.inl ⟨_, rfl, k_303⟩) (ls' := [some (.inr (.inl (some 303))), some (.inl ((J 304 (121 + y0)) - 10))]) rfl (st' := []) rfl 53 rfl ?_
        exact h
      · replace h := h.2 q8
        refine nw_iconst (len := 0) l_X12_sails_12 13 rfl c_1 ?_
        refine nw_goto l_X12_sails_13 ?_
        refine nw_ireturnZ l_X12_sails_17 rfl (Or.inr rfl) ?_
        refine nw_if_ne l_X12_lands_45 48 rfl (fun _ => ?_) (fun q => absurd q (by decide))
        refine nw_aload_n l_X12_lands_56 57 rfl rfl ?_
        refine nw_iconst (len := 0) l_X12_lands_57 58 rfl c_3 ?_
        refine nw_call0 0 303 l_X12_lands_58 rfl rfl g_X12_fails (Nat.lt_of_lt_of_le (by decide) hD) rfl (Or.inl ⟨_, rfl, k_303⟩) (ls' := [some (.inr (.inl (some 303))), some (.inl 3)]) rfl (st' := []) rfl 61 rfl ?_
        refine nw_aload_n l_X12_fails_0 1 rfl rfl ?_
        refine nw_iload_n l_X12_fails_1 2 rfl rfl ?_
        refine nw_putI l_X12_fails_2 5 rfl k_303 ?_
        refine nw_iconst (len := 0) l_X12_fails_5 6 rfl c_0 ?_
        refine nw_ireturn l_X12_fails_6 rfl ?_
        refine nw_ireturn l_X12_lands_61 rfl ?_
        exact h
    · replace h := h.2 q5
      refine nw_aload_n l_X12_lands_34 35 rfl rfl ?_
      refine nw_iconst (len := 0) l_X12_lands_35 36 rfl c_2 ?_
      refine nw_call0 0 303 l_X12_lands_36 rfl rfl g_X12_fails (Nat.lt_of_lt_of_le (by decide) hD) rfl (Or.inl ⟨_, rfl, k_303⟩) (ls' := [some (.inr (.inl (some 303))), some (.inl 2)]) rfl (st' := []) rfl 39 rfl ?_
      refine nw_aload_n l_X12_fails_0 1 rfl rfl ?_
      refine nw_iload_n l_X12_fails_1 2 rfl rfl ?_
      refine nw_putI l_X12_fails_2 5 rfl k_303 ?_
      refine nw_iconst (len := 0) l_X12_fails_5 6 rfl c_0 ?_
      refine nw_ireturn l_X12_fails_6 rfl ?_
      refine nw_ireturn l_X12_lands_39 rfl ?_
      exact h
  · replace h := h.2 q1
    refine nw_aload_n l_X12_lands_11 12 rfl rfl ?_
    refine nw_iconst (len := 0) l_X12_lands_12 13 rfl c_1 ?_
    refine nw_call0 0 303 l_X12_lands_13 rfl rfl g_X12_fails (Nat.lt_of_lt_of_le (by decide) hD) rfl (Or.inl ⟨_, rfl, k_303⟩) (ls' := [some (.inr (.inl (some 303))), some (.inl 1)]) rfl (st' := []) rfl 16 rfl ?_
    refine nw_aload_n l_X12_fails_0 1 rfl rfl ?_
    refine nw_iload_n l_X12_fails_1 2 rfl rfl ?_
    refine nw_putI l_X12_fails_2 5 rfl k_303 ?_
    refine nw_iconst (len := 0) l_X12_fails_5 6 rfl c_0 ?_
    refine nw_ireturn l_X12_fails_6 rfl ?_
    refine nw_ireturn l_X12_lands_16 rfl ?_
    exact h
theorem b_X12_lands_53 {x2 : Int} {x3 : Int} {y0 : Int} (hD : 3 ≤ D) (h : ((y0 = 0 → ((-2147483648 ≤ 121 + x2 ∧ 121 + x2 < 2147483648) ∧ ((-2147483648 ≤ 56 + x3 ∧ 56 + x3 < 2147483648) ∧ ((0 ≤ 56 + x3 ∧ 56 + x3 < 161) ∧ ((0 ≤ 121 + x2 ∧ 121 + x2 < 161) ∧ ((-2147483648 ≤ 91 + x2 ∧ 91 + x2 < 2147483648) ∧ ((0 ≤ 91 + x2 ∧ 91 + x2 < 161) ∧ (((nw_u J 304 (121 + x2) (J 304 (56 + x3))) 304 (56 + x3) = (nw_u J 304 (121 + x2) (J 304 (56 + x3))) 304 (91 + x2) → NW sc d_X12_finds 0 (0, [some (.inr (.inl (some 303))), none, none, none], [], (nw_u J 304 (121 + x2) (J 304 (56 + x3)), L, W), 0, 0) (fun v M9 => NW sc d_X12_lands D (111, [some (.inr (.inl (some 303))), none, some (.inl x2), none, none], nw_push v [], M9, c, sl) Qr Qx) Qx) ∧ (¬ (nw_u J 304 (121 + x2) (J 304 (56 + x3))) 304 (56 + x3) = (nw_u J 304 (121 + x2) (J 304 (56 + x3))) 304 (91 + x2) → Qr (some (.inl 0)) (nw_u (nw_u J 304 (121 + x2) (J 304 (56 + x3))) 303 13 0, L, W)))))))))) ∧ (¬ y0 = 0 → Qr (some (.inl 0)) (nw_u J 303 13 3, L, W)))) :
    NW sc d_X12_lands D (53, [some (.inr (.inl (some 303))), none, some (.inl x2), some (.inl x3), none], [.inl y0], (J, L, W), c, sl) Qr Qx := by
  refine nw_if_eq l_X12_lands_53 56 rfl (fun q1 => ?_) (fun q1 => ?_)
  · replace h := h.1 q1
    refine nw_aload_n l_X12_lands_62 63 rfl rfl ?_
    refine nw_getA l_X12_lands_63 66 rfl k_303 r_303_0 ?_
    refine nw_bipush (len := 0) l_X12_lands_66 68 rfl c_121 ?_
    refine nw_iload_n l_X12_lands_68 69 rfl rfl ?_
    have o2 := h.1
    replace h := h.2
    refine nw_iadd l_X12_lands_69 70 rfl o2 ?_
    refine nw_aload_n l_X12_lands_70 71 rfl rfl ?_
    refine nw_getA l_X12_lands_71 74 rfl k_303 r_303_0 ?_
    refine nw_bipush (len := 0) l_X12_lands_74 76 rfl c_56 ?_
    refine nw_iload_n l_X12_lands_76 77 rfl rfl ?_
    have o3 := h.1
    replace h := h.2
    refine nw_iadd l_X12_lands_77 78 rfl o3 ?_
    have o4 := h.1
    replace h := h.2
    refine nw_iald l_X12_lands_78 79 rfl k_304 o4 (v := J 304 (56 + x3)) rfl ?_
    have o5 := h.1
    replace h := h.2
    refine nw_iast l_X12_lands_79 80 rfl k_304 o5 ?_
    refine nw_aload_n l_X12_lands_80 81 rfl rfl ?_
    refine nw_getA l_X12_lands_81 84 rfl k_303 r_303_0 ?_
    refine nw_bipush (len := 0) l_X12_lands_84 86 rfl c_56 ?_
    refine nw_iload_n l_X12_lands_86 87 rfl rfl ?_
    refine nw_iadd l_X12_lands_87 88 rfl o3 ?_
    refine nw_iald l_X12_lands_88 89 rfl k_304 o4 (v := (nw_u J 304 (121 + x2) (J 304 (56 + x3))) 304 (56 + x3)) rfl ?_
    refine nw_aload_n l_X12_lands_89 90 rfl rfl ?_
    refine nw_getA l_X12_lands_90 93 rfl k_303 r_303_0 ?_
    refine nw_bipush (len := 0) l_X12_lands_93 95 rfl c_91 ?_
    refine nw_iload_n l_X12_lands_95 96 rfl rfl ?_
    have o6 := h.1
    replace h := h.2
    refine nw_iadd l_X12_lands_96 97 rfl o6 ?_
    have o7 := h.1
    replace h := h.2
    refine nw_iald l_X12_lands_97 98 rfl k_304 o7 (v := (nw_u J 304 (121 + x2) (J 304 (56 + x3))) 304 (91 + x2)) rfl ?_
    refine nw_ic_eq l_X12_lands_98 101 rfl (fun q8 => ?_) (fun q8 => ?_)
    · replace h := h.1 q8
      refine nw_aload_n l_X12_lands_107 108 rfl rfl ?_
      refine nw_drop (ls' := [some (.inr (.inl (some 303))), none, some (.inl x2), none, none]) ⟨rfl, ⟨True.intro, ⟨rfl, ⟨True.intro, ⟨True.intro, True.intro⟩⟩⟩⟩⟩ ?_
      refine nw_call0 0 303 l_X12_lands_108 rfl rfl g_X12_finds (Nat.lt_of_lt_of_le (by decide) hD) rfl (Or.inl ⟨_, rfl, k_303⟩) (ls' := [some (.inr (.inl (some 303))), none, none, none]) rfl (st' := []) rfl 111 rfl ?_
      exact h
    · replace h := h.2 q8
      refine nw_aload_n l_X12_lands_101 102 rfl rfl ?_
      refine nw_iconst (len := 0) l_X12_lands_102 103 rfl c_0 ?_
      refine nw_call0 0 303 l_X12_lands_103 rfl rfl g_X12_done (Nat.lt_of_lt_of_le (by decide) hD) rfl (Or.inl ⟨_, rfl, k_303⟩) (ls' := [some (.inr (.inl (some 303))), some (.inl 0)]) rfl (st' := []) rfl 106 rfl ?_
      refine nw_aload_n l_X12_done_0 1 rfl rfl ?_
      refine nw_iconst (len := 0) l_X12_done_1 2 rfl c_0 ?_
      refine nw_putI l_X12_done_2 5 rfl k_303 ?_
      refine nw_iload_n l_X12_done_5 6 rfl rfl ?_
      refine nw_ireturn l_X12_done_6 rfl ?_
      refine nw_ireturn l_X12_lands_106 rfl ?_
      exact h
  · replace h := h.2 q1
    refine nw_aload_n l_X12_lands_56 57 rfl rfl ?_
    refine nw_iconst (len := 0) l_X12_lands_57 58 rfl c_3 ?_
    refine nw_call0 0 303 l_X12_lands_58 rfl rfl g_X12_fails (Nat.lt_of_lt_of_le (by decide) hD) rfl (Or.inl ⟨_, rfl, k_303⟩) (ls' := [some (.inr (.inl (some 303))), some (.inl 3)]) rfl (st' := []) rfl 61 rfl ?_
    refine nw_aload_n l_X12_fails_0 1 rfl rfl ?_
    refine nw_iload_n l_X12_fails_1 2 rfl rfl ?_
    refine nw_putI l_X12_fails_2 5 rfl k_303 ?_
    refine nw_iconst (len := 0) l_X12_fails_5 6 rfl c_0 ?_
    refine nw_ireturn l_X12_fails_6 rfl ?_
    refine nw_ireturn l_X12_lands_61 rfl ?_
    exact h
theorem b_X12_lands_111 {x2 : Int} (hD : 3 ≤ D) (h : NW sc d_X12_fare 0 (0, [some (.inr (.inl (some 303))), some (.inl x2), none, none], [], (J, L, W), 0, 0) (fun v M9 => NW sc d_X12_lands D (116, [some (.inr (.inl (some 303))), none, some (.inl x2), none, none], nw_push v [], M9, c, sl) Qr Qx) Qx) :
    NW sc d_X12_lands D (111, [some (.inr (.inl (some 303))), none, some (.inl x2), none, none], [], (J, L, W), c, sl) Qr Qx := by
  refine nw_aload_n l_X12_lands_111 112 rfl rfl ?_
  refine nw_iload_n l_X12_lands_112 113 rfl rfl ?_
  refine nw_call0 0 303 l_X12_lands_113 rfl rfl g_X12_fare (Nat.lt_of_lt_of_le (by decide) hD) rfl (Or.inl ⟨_, rfl, k_303⟩) (ls' := [some (.inr (.inl (some 303))), some (.inl x2), none, none]) rfl (st' := []) rfl 116 rfl ?_
  exact h
theorem b_X12_lands_116 {x2 : Int} {y0 : Int} (hD : 3 ≤ D) (h : ((-2147483648 ≤ (J 304 6) + y0 ∧ (J 304 6) + y0 < 2147483648) ∧ NW sc d_X12_drops 0 (0, [some (.inr (.inl (some 303))), some (.inl x2), none, none], [], (nw_u J 304 6 ((J 304 6) + y0), L, W), 0, 0) (fun v M9 => NW sc d_X12_lands D (135, [some (.inr (.inl (some 303))), none, none, none, some (.inl y0)], nw_push v [], M9, c, sl) Qr Qx) Qx)) :
    NW sc d_X12_lands D (116, [some (.inr (.inl (some 303))), none, some (.inl x2), none, none], [.inl y0], (J, L, W), c, sl) Qr Qx := by
  refine nw_istore l_X12_lands_116 118 rfl rfl (ls' := [some (.inr (.inl (some 303))), none, some (.inl x2), none, some (.inl y0)]) rfl ?_
  refine nw_aload_n l_X12_lands_118 119 rfl rfl ?_
  refine nw_getA l_X12_lands_119 122 rfl k_303 r_303_0 ?_
  refine nw_bipush (len := 0) l_X12_lands_122 124 rfl c_6 ?_
  refine nw_dup2 l_X12_lands_124 125 rfl ?_
  refine nw_iald l_X12_lands_125 126 rfl k_304 ⟨by decide, by decide⟩ (v := J 304 6) rfl ?_
  refine nw_iload l_X12_lands_126 128 rfl rfl ?_
  have o1 := h.1
  replace h := h.2
  refine nw_iadd l_X12_lands_128 129 rfl o1 ?_
  refine nw_iast l_X12_lands_129 130 rfl k_304 ⟨by decide, by decide⟩ ?_
  refine nw_aload_n l_X12_lands_130 131 rfl rfl ?_
  refine nw_iload_n l_X12_lands_131 132 rfl rfl ?_
  refine nw_drop (ls' := [some (.inr (.inl (some 303))), none, none, none, some (.inl y0)]) ⟨rfl, ⟨True.intro, ⟨True.intro, ⟨True.intro, ⟨rfl, True.intro⟩⟩⟩⟩⟩ ?_
  refine nw_call0 0 303 l_X12_lands_132 rfl rfl g_X12_drops (Nat.lt_of_lt_of_le (by decide) hD) rfl (Or.inl ⟨_, rfl, k_303⟩) (ls' := [some (.inr (.inl (some 303))), some (.inl x2), none, none]) rfl (st' := []) rfl 135 rfl ?_
  exact h
theorem b_X12_lands_135 {x4 : Int} (hD : 3 ≤ D) (h : Qr (some (.inl x4)) (nw_u J 303 13 0, L, W)) :
    NW sc d_X12_lands D (135, [some (.inr (.inl (some 303))), none, none, none, some (.inl x4)], [], (J, L, W), c, sl) Qr Qx := by
  refine nw_aload_n l_X12_lands_135 136 rfl rfl ?_
  refine nw_iload l_X12_lands_136 138 rfl rfl ?_
  refine nw_call0 0 303 l_X12_lands_138 rfl rfl g_X12_done (Nat.lt_of_lt_of_le (by decide) hD) rfl (Or.inl ⟨_, rfl, k_303⟩) (ls' := [some (.inr (.inl (some 303))), some (.inl x4)]) rfl (st' := []) rfl 141 rfl ?_
  refine nw_aload_n l_X12_done_0 1 rfl rfl ?_
  refine nw_iconst (len := 0) l_X12_done_1 2 rfl c_0 ?_
  refine nw_putI l_X12_done_2 5 rfl k_303 ?_
  refine nw_iload_n l_X12_done_5 6 rfl rfl ?_
  refine nw_ireturn l_X12_done_6 rfl ?_
  refine nw_ireturn l_X12_lands_141 rfl ?_
  exact h
theorem b_X12_lineAt_0 {x1 : Int} (hD : 1 ≤ D) (h : ((-2147483648 ≤ (J 303 12) - 1 ∧ (J 303 12) - 1 < 2147483648) ∧ ((x1 < 0 → Qr (some (.inl 0)) (nw_u J 303 13 1, L, W)) ∧ (0 ≤ x1 → (((J 303 12) - 1 < x1 → Qr (some (.inl 0)) (nw_u J 303 13 1, L, W)) ∧ (x1 ≤ (J 303 12) - 1 → ((0 ≤ x1 ∧ x1 < 80) ∧ ((0 ≤ J 309 x1 ∧ J 309 x1 < 65536) ∧ Qr (some (.inl (J 309 x1))) (nw_u J 303 13 0, L, W))))))))) :
    NW sc d_X12_lineAt D (0, [some (.inr (.inl (some 303))), some (.inl x1)], [], (J, L, W), c, sl) Qr Qx := by
  refine nw_aload_n l_X12_lineAt_0 1 rfl rfl ?_
  refine nw_iload_n l_X12_lineAt_1 2 rfl rfl ?_
  refine nw_iconst (len := 0) l_X12_lineAt_2 3 rfl c_0 ?_
  refine nw_aload_n l_X12_lineAt_3 4 rfl rfl ?_
  refine nw_getI l_X12_lineAt_4 7 rfl k_303 (v := J 303 12) rfl ?_
  refine nw_iconst (len := 0) l_X12_lineAt_7 8 rfl c_1 ?_
  have o1 := h.1
  replace h := h.2
  refine nw_isub l_X12_lineAt_8 9 rfl o1 ?_
  refine nw_call0 0 0 l_X12_lineAt_9 rfl rfl g_X12_in (Nat.lt_of_lt_of_le (by decide) hD) rfl True.intro (ls' := [some (.inl x1), some (.inl 0), some (.inl ((J 303 12) - 1))]) rfl (st' := [.inr (.inl (some 303))]) rfl 12 rfl ?_
  refine nw_iload_n l_X12_in_0 1 rfl rfl ?_
  refine nw_iload_n l_X12_in_1 2 rfl rfl ?_
  refine nw_ic_lt l_X12_in_2 5 rfl (fun q2 => ?_) (fun q2 => ?_)
  · replace h := h.1 q2
    refine nw_iconst (len := 0) l_X12_in_14 15 rfl c_0 ?_
    refine nw_ireturnZ l_X12_in_15 rfl (Or.inl rfl) ?_
    refine nw_if_eq l_X12_lineAt_12 15 rfl (fun _ => ?_) (fun q => absurd q (by decide))
    refine nw_iconst (len := 0) l_X12_lineAt_19 20 rfl c_1 ?_
    refine nw_putI l_X12_lineAt_20 23 rfl k_303 ?_
    refine nw_aload_n l_X12_lineAt_23 24 rfl rfl ?_
    refine nw_getI l_X12_lineAt_24 27 rfl k_303 (v := 1) (show nw_u J 303 13 1 303 13 = 1 from nw_uS) ?_
    refine nw_if_ne l_X12_lineAt_27 30 rfl (fun _ => ?_) (fun q => absurd q (by decide))
    refine nw_iconst (len := 0) l_X12_lineAt_39 40 rfl c_0 ?_
    refine nw_ireturnC l_X12_lineAt_40 rfl ⟨by decide, by decide⟩ ?_
    exact h
  · replace h := h.2 q2
    refine nw_iload_n l_X12_in_5 6 rfl rfl ?_
    refine nw_iload_n l_X12_in_6 7 rfl rfl ?_
    refine nw_ic_gt l_X12_in_7 10 rfl (fun q3 => ?_) (fun q3 => ?_)
    · replace h := h.1 q3
      refine nw_iconst (len := 0) l_X12_in_14 15 rfl c_0 ?_
      refine nw_ireturnZ l_X12_in_15 rfl (Or.inl rfl) ?_
      refine nw_if_eq l_X12_lineAt_12 15 rfl (fun _ => ?_) (fun q => absurd q (by decide))
      refine nw_iconst (len := 0) l_X12_lineAt_19 20 rfl c_1 ?_
      refine nw_putI l_X12_lineAt_20 23 rfl k_303 ?_
      refine nw_aload_n l_X12_lineAt_23 24 rfl rfl ?_
      refine nw_getI l_X12_lineAt_24 27 rfl k_303 (v := 1) (show nw_u J 303 13 1 303 13 = 1 from nw_uS) ?_
      refine nw_if_ne l_X12_lineAt_27 30 rfl (fun _ => ?_) (fun q => absurd q (by decide))
      refine nw_iconst (len := 0) l_X12_lineAt_39 40 rfl c_0 ?_
      refine nw_ireturnC l_X12_lineAt_40 rfl ⟨by decide, by decide⟩ ?_
      exact h
    · replace h := h.2 q3
      refine nw_iconst (len := 0) l_X12_in_10 11 rfl c_1 ?_
      refine nw_goto l_X12_in_11 ?_
      refine nw_ireturnZ l_X12_in_15 rfl (Or.inr rfl) ?_
      refine nw_if_eq l_X12_lineAt_12 15 rfl (fun q => absurd q (by decide)) (fun _ => ?_)
      refine nw_iconst (len := 0) l_X12_lineAt_15 16 rfl c_0 ?_
      refine nw_goto l_X12_lineAt_16 ?_
      refine nw_putI l_X12_lineAt_20 23 rfl k_303 ?_
      refine nw_aload_n l_X12_lineAt_23 24 rfl rfl ?_
      refine nw_getI l_X12_lineAt_24 27 rfl k_303 (v := 0) (show nw_u J 303 13 0 303 13 = 0 from nw_uS) ?_
      refine nw_if_ne l_X12_lineAt_27 30 rfl (fun q => absurd q (by decide)) (fun _ => ?_)
      refine nw_aload_n l_X12_lineAt_30 31 rfl rfl ?_
      refine nw_getA l_X12_lineAt_31 34 rfl k_303 r_303_11 ?_
      refine nw_iload_n l_X12_lineAt_34 35 rfl rfl ?_
      have o4 := h.1
      replace h := h.2
      refine nw_cald l_X12_lineAt_35 36 rfl k_309 o4 (v := J 309 x1) (show nw_u J 303 13 0 309 x1 = J 309 x1 from (nw_uN (a := 303) (b := 309) (by decide))) ?_
      refine nw_goto l_X12_lineAt_36 ?_
      have o5 := h.1
      replace h := h.2
      refine nw_ireturnC l_X12_lineAt_40 rfl o5 ?_
      exact h
theorem b_X12_loadBest_0 {x1 : Int} (hD : 4 ≤ D) (h : NW sc d_X12_begin 1 (0, [some (.inr (.inl (some 303)))], [], (J, L, W), 0, 0) (fun v M9 => NW sc d_X12_loadBest D (4, [some (.inr (.inl (some 303))), some (.inl x1)], nw_push v [], M9, c, sl) Qr Qx) Qx) :
    NW sc d_X12_loadBest D (0, [some (.inr (.inl (some 303))), some (.inl x1)], [], (J, L, W), c, sl) Qr Qx := by
  refine nw_aload_n l_X12_loadBest_0 1 rfl rfl ?_
  refine nw_call0 1 303 l_X12_loadBest_1 rfl rfl g_X12_begin (Nat.lt_of_lt_of_le (by decide) hD) rfl (Or.inl ⟨_, rfl, k_303⟩) (ls' := [some (.inr (.inl (some 303)))]) rfl (st' := []) rfl 4 rfl ?_
  exact h
theorem b_X12_loadBest_4 {x1 : Int} (hD : 4 ≤ D) (h : NW sc d_X12_loads 3 (0, [some (.inr (.inl (some 303))), some (.inl x1), none, none, none], [], (J, L, W), 0, 0) (fun v M9 => NW sc d_X12_loadBest D (10, [none, none], nw_push v [.inr (.inl (some 303))], M9, c, sl) Qr Qx) Qx) :
    NW sc d_X12_loadBest D (4, [some (.inr (.inl (some 303))), some (.inl x1)], [], (J, L, W), c, sl) Qr Qx := by
  refine nw_aload_n l_X12_loadBest_4 5 rfl rfl ?_
  refine nw_aload_n l_X12_loadBest_5 6 rfl rfl ?_
  refine nw_iload_n l_X12_loadBest_6 7 rfl rfl ?_
  refine nw_drop (ls' := [none, none]) ⟨True.intro, ⟨True.intro, True.intro⟩⟩ ?_
  refine nw_call0 3 303 l_X12_loadBest_7 rfl rfl g_X12_loads (Nat.lt_of_lt_of_le (by decide) hD) rfl (Or.inl ⟨_, rfl, k_303⟩) (ls' := [some (.inr (.inl (some 303))), some (.inl x1), none, none, none]) rfl (st' := [.inr (.inl (some 303))]) rfl 10 rfl ?_
  exact h
theorem b_X12_loadBest_10 {y0 : Int} (hD : 4 ≤ D) (h : NW sc d_X12_kept 1 (0, [some (.inr (.inl (some 303))), some (.inl y0), none], [], (J, L, W), 0, 0) (fun v M9 => NW sc d_X12_loadBest D (13, [none, none], nw_push v [], M9, c, sl) Qr Qx) Qx) :
    NW sc d_X12_loadBest D (10, [none, none], [.inl y0, .inr (.inl (some 303))], (J, L, W), c, sl) Qr Qx := by
  refine nw_call0 1 303 l_X12_loadBest_10 rfl rfl g_X12_kept (Nat.lt_of_lt_of_le (by decide) hD) rfl (Or.inl ⟨_, rfl, k_303⟩) (ls' := [some (.inr (.inl (some 303))), some (.inl y0), none]) rfl (st' := []) rfl 13 rfl ?_
  exact h
theorem b_X12_loadBest_13 {y0 : Int} (h : Qr (some (.inl y0)) (J, L, W)) :
    NW sc d_X12_loadBest D (13, [none, none], [.inl y0], (J, L, W), c, sl) Qr Qx := by
  refine nw_ireturn l_X12_loadBest_13 rfl ?_
  exact h
theorem b_X12_loadOf_0 {x1 : Int} (hD : 2 ≤ D) (h : ((-2147483648 ≤ (J 304 3) - 1 ∧ (J 304 3) - 1 < 2147483648) ∧ ((x1 < 0 → Qr (some (.inl 0)) (nw_u J 303 13 1, L, W)) ∧ (0 ≤ x1 → (((J 304 3) - 1 < x1 → Qr (some (.inl 0)) (nw_u J 303 13 1, L, W)) ∧ (x1 ≤ (J 304 3) - 1 → NW sc d_X12_carried 0 (0, [some (.inr (.inl (some 303))), some (.inl x1), none, none], [], (J, L, W), 0, 0) (fun v M9 => NW sc d_X12_loadOf D (14, [none, none], nw_push v [.inr (.inl (some 303))], M9, c, sl) Qr Qx) Qx)))))) :
    NW sc d_X12_loadOf D (0, [some (.inr (.inl (some 303))), some (.inl x1)], [], (J, L, W), c, sl) Qr Qx := by
  refine nw_aload_n l_X12_loadOf_0 1 rfl rfl ?_
  refine nw_iload_n l_X12_loadOf_1 2 rfl rfl ?_
  refine nw_call0 1 303 l_X12_loadOf_2 rfl rfl g_X12_isFerry (Nat.lt_of_lt_of_le (by decide) hD) rfl (Or.inl ⟨_, rfl, k_303⟩) (ls' := [some (.inr (.inl (some 303))), some (.inl x1)]) rfl (st' := []) rfl 5 rfl ?_
  refine nw_iload_n l_X12_isFerry_0 1 rfl rfl ?_
  refine nw_iconst (len := 0) l_X12_isFerry_1 2 rfl c_0 ?_
  refine nw_aload_n l_X12_isFerry_2 3 rfl rfl ?_
  refine nw_getA l_X12_isFerry_3 6 rfl k_303 r_303_0 ?_
  refine nw_iconst (len := 0) l_X12_isFerry_6 7 rfl c_3 ?_
  refine nw_iald l_X12_isFerry_7 8 rfl k_304 ⟨by decide, by decide⟩ (v := J 304 3) rfl ?_
  refine nw_iconst (len := 0) l_X12_isFerry_8 9 rfl c_1 ?_
  have o1 := h.1
  replace h := h.2
  refine nw_isub l_X12_isFerry_9 10 rfl o1 ?_
  refine nw_call0 0 0 l_X12_isFerry_10 rfl rfl g_X12_in (by decide) rfl True.intro (ls' := [some (.inl x1), some (.inl 0), some (.inl ((J 304 3) - 1))]) rfl (st' := []) rfl 13 rfl ?_
  refine nw_iload_n l_X12_in_0 1 rfl rfl ?_
  refine nw_iload_n l_X12_in_1 2 rfl rfl ?_
  refine nw_ic_lt l_X12_in_2 5 rfl (fun q2 => ?_) (fun q2 => ?_)
  · replace h := h.1 q2
    refine nw_iconst (len := 0) l_X12_in_14 15 rfl c_0 ?_
    refine nw_ireturnZ l_X12_in_15 rfl (Or.inl rfl) ?_
    refine nw_ireturnZ l_X12_isFerry_13 rfl (Or.inl rfl) ?_
    refine nw_if_eq l_X12_loadOf_5 8 rfl (fun _ => ?_) (fun q => absurd q (by decide))
    refine nw_aload_n l_X12_loadOf_20 21 rfl rfl ?_
    refine nw_iconst (len := 0) l_X12_loadOf_21 22 rfl c_1 ?_
    refine nw_call0 0 303 l_X12_loadOf_22 rfl rfl g_X12_fails (Nat.lt_of_lt_of_le (by decide) hD) rfl (Or.inl ⟨_, rfl, k_303⟩) (ls' := [some (.inr (.inl (some 303))), some (.inl 1)]) rfl (st' := []) rfl 25 rfl ?_
    refine nw_aload_n l_X12_fails_0 1 rfl rfl ?_
    refine nw_iload_n l_X12_fails_1 2 rfl rfl ?_
    refine nw_putI l_X12_fails_2 5 rfl k_303 ?_
    refine nw_iconst (len := 0) l_X12_fails_5 6 rfl c_0 ?_
    refine nw_ireturn l_X12_fails_6 rfl ?_
    refine nw_ireturn l_X12_loadOf_25 rfl ?_
    exact h
  · replace h := h.2 q2
    refine nw_iload_n l_X12_in_5 6 rfl rfl ?_
    refine nw_iload_n l_X12_in_6 7 rfl rfl ?_
    refine nw_ic_gt l_X12_in_7 10 rfl (fun q3 => ?_) (fun q3 => ?_)
    · replace h := h.1 q3
      refine nw_iconst (len := 0) l_X12_in_14 15 rfl c_0 ?_
      refine nw_ireturnZ l_X12_in_15 rfl (Or.inl rfl) ?_
      refine nw_ireturnZ l_X12_isFerry_13 rfl (Or.inl rfl) ?_
      refine nw_if_eq l_X12_loadOf_5 8 rfl (fun _ => ?_) (fun q => absurd q (by decide))
      refine nw_aload_n l_X12_loadOf_20 21 rfl rfl ?_
      refine nw_iconst (len := 0) l_X12_loadOf_21 22 rfl c_1 ?_
      refine nw_call0 0 303 l_X12_loadOf_22 rfl rfl g_X12_fails (Nat.lt_of_lt_of_le (by decide) hD) rfl (Or.inl ⟨_, rfl, k_303⟩) (ls' := [some (.inr (.inl (some 303))), some (.inl 1)]) rfl (st' := []) rfl 25 rfl ?_
      refine nw_aload_n l_X12_fails_0 1 rfl rfl ?_
      refine nw_iload_n l_X12_fails_1 2 rfl rfl ?_
      refine nw_putI l_X12_fails_2 5 rfl k_303 ?_
      refine nw_iconst (len := 0) l_X12_fails_5 6 rfl c_0 ?_
      refine nw_ireturn l_X12_fails_6 rfl ?_
      refine nw_ireturn l_X12_loadOf_25 rfl ?_
      exact h
    · replace h := h.2 q3
      refine nw_iconst (len := 0) l_X12_in_10 11 rfl c_1 ?_
      refine nw_goto l_X12_in_11 ?_
      refine nw_ireturnZ l_X12_in_15 rfl (Or.inr rfl) ?_
      refine nw_ireturnZ l_X12_isFerry_13 rfl (Or.inr rfl) ?_
      refine nw_if_eq l_X12_loadOf_5 8 rfl (fun q => absurd q (by decide)) (fun _ => ?_)
      refine nw_aload_n l_X12_loadOf_8 9 rfl rfl ?_
      refine nw_aload_n l_X12_loadOf_9 10 rfl rfl ?_
      refine nw_iload_n l_X12_loadOf_10 11 rfl rfl ?_
      refine nw_drop (ls' := [none, none]) ⟨True.intro, ⟨True.intro, True.intro⟩⟩ ?_
      refine nw_call0 0 303 l_X12_loadOf_11 rfl rfl g_X12_carried (Nat.lt_of_lt_of_le (by decide) hD) rfl (Or.inl ⟨_, rfl, k_303⟩) (ls' := [some (.inr (.inl (some 303))), some (.inl x1), none, none]) rfl (st' := [.inr (.inl (some 303))]) rfl 14 rfl ?_
      exact h
theorem b_X12_loadOf_14 {y0 : Int} (hD : 2 ≤ D) (h : Qr (some (.inl y0)) (nw_u J 303 13 0, L, W)) :
    NW sc d_X12_loadOf D (14, [none, none], [.inl y0, .inr (.inl (some 303))], (J, L, W), c, sl) Qr Qx := by
  refine nw_call0 0 303 l_X12_loadOf_14 rfl rfl g_X12_done (Nat.lt_of_lt_of_le (by decide) hD) rfl (Or.inl ⟨_, rfl, k_303⟩) (ls' := [some (.inr (.inl (some 303))), some (.inl y0)]) rfl (st' := []) rfl 17 rfl ?_
  refine nw_aload_n l_X12_done_0 1 rfl rfl ?_
  refine nw_iconst (len := 0) l_X12_done_1 2 rfl c_0 ?_
  refine nw_putI l_X12_done_2 5 rfl k_303 ?_
  refine nw_iload_n l_X12_done_5 6 rfl rfl ?_
  refine nw_ireturn l_X12_done_6 rfl ?_
  refine nw_goto l_X12_loadOf_17 ?_
  refine nw_ireturn l_X12_loadOf_25 rfl ?_
  exact h
theorem b_X12_loadShare_0 {x1 : Int} (hD : 2 ≤ D) (h : ((-2147483648 ≤ (J 304 3) - 1 ∧ (J 304 3) - 1 < 2147483648) ∧ ((x1 < 0 → Qr (some (.inr (.inr (.inr (.inr 0))))) (nw_u J 303 13 1, L, W)) ∧ (0 ≤ x1 → (((J 304 3) - 1 < x1 → Qr (some (.inr (.inr (.inr (.inr 0))))) (nw_u J 303 13 1, L, W)) ∧ (x1 ≤ (J 304 3) - 1 → NW sc d_X12_carried 0 (0, [some (.inr (.inl (some 303))), some (.inl x1), none, none], [], (nw_u J 303 13 0, L, W), 0, 0) (fun v M9 => NW sc d_X12_loadShare D (29, [some (.inr (.inl (some 303))), some (.inl x1)], nw_push v [], M9, c, sl) Qr Qx) Qx)))))) :
    NW sc d_X12_loadShare D (0, [some (.inr (.inl (some 303))), some (.inl x1)], [], (J, L, W), c, sl) Qr Qx := by
  refine nw_aload_n l_X12_loadShare_0 1 rfl rfl ?_
  refine nw_aload_n l_X12_loadShare_1 2 rfl rfl ?_
  refine nw_iload_n l_X12_loadShare_2 3 rfl rfl ?_
  refine nw_call0 1 303 l_X12_loadShare_3 rfl rfl g_X12_isFerry (Nat.lt_of_lt_of_le (by decide) hD) rfl (Or.inl ⟨_, rfl, k_303⟩) (ls' := [some (.inr (.inl (some 303))), some (.inl x1)]) rfl (st' := [.inr (.inl (some 303))]) rfl 6 rfl ?_
  refine nw_iload_n l_X12_isFerry_0 1 rfl rfl ?_
  refine nw_iconst (len := 0) l_X12_isFerry_1 2 rfl c_0 ?_
  refine nw_aload_n l_X12_isFerry_2 3 rfl rfl ?_
  refine nw_getA l_X12_isFerry_3 6 rfl k_303 r_303_0 ?_
  refine nw_iconst (len := 0) l_X12_isFerry_6 7 rfl c_3 ?_
  refine nw_iald l_X12_isFerry_7 8 rfl k_304 ⟨by decide, by decide⟩ (v := J 304 3) rfl ?_
  refine nw_iconst (len := 0) l_X12_isFerry_8 9 rfl c_1 ?_
  have o1 := h.1
  replace h := h.2
  refine nw_isub l_X12_isFerry_9 10 rfl o1 ?_
  refine nw_call0 0 0 l_X12_isFerry_10 rfl rfl g_X12_in (by decide) rfl True.intro (ls' := [some (.inl x1), some (.inl 0), some (.inl ((J 304 3) - 1))]) rfl (st' := []) rfl 13 rfl ?_
  refine nw_iload_n l_X12_in_0 1 rfl rfl ?_
  refine nw_iload_n l_X12_in_1 2 rfl rfl ?_
  refine nw_ic_lt l_X12_in_2 5 rfl (fun q2 => ?_) (fun q2 => ?_)
  · replace h := h.1 q2
    refine nw_iconst (len := 0) l_X12_in_14 15 rfl c_0 ?_
    refine nw_ireturnZ l_X12_in_15 rfl (Or.inl rfl) ?_
    refine nw_ireturnZ l_X12_isFerry_13 rfl (Or.inl rfl) ?_
    refine nw_if_eq l_X12_loadShare_6 9 rfl (fun _ => ?_) (fun q => absurd q (by decide))
    refine nw_iconst (len := 0) l_X12_loadShare_13 14 rfl c_1 ?_
    refine nw_putI l_X12_loadShare_14 17 rfl k_303 ?_
    refine nw_aload_n l_X12_loadShare_17 18 rfl rfl ?_
    refine nw_getI l_X12_loadShare_18 21 rfl k_303 (v := 1) (show nw_u J 303 13 1 303 13 = 1 from nw_uS) ?_
    refine nw_if_ne l_X12_loadShare_21 24 rfl (fun _ => ?_) (fun q => absurd q (by decide))
    refine nw_fconst l_X12_loadShare_44 45 rfl ?_
    refine nw_freturn l_X12_loadShare_45 rfl ?_
    exact h
  · replace h := h.2 q2
    refine nw_iload_n l_X12_in_5 6 rfl rfl ?_
    refine nw_iload_n l_X12_in_6 7 rfl rfl ?_
    refine nw_ic_gt l_X12_in_7 10 rfl (fun q3 => ?_) (fun q3 => ?_)
    · replace h := h.1 q3
      refine nw_iconst (len := 0) l_X12_in_14 15 rfl c_0 ?_
      refine nw_ireturnZ l_X12_in_15 rfl (Or.inl rfl) ?_
      refine nw_ireturnZ l_X12_isFerry_13 rfl (Or.inl rfl) ?_
      refine nw_if_eq l_X12_loadShare_6 9 rfl (fun _ => ?_) (fun q => absurd q (by decide))
      refine nw_iconst (len := 0) l_X12_loadShare_13 14 rfl c_1 ?_
      refine nw_putI l_X12_loadShare_14 17 rfl k_303 ?_
      refine nw_aload_n l_X12_loadShare_17 18 rfl rfl ?_
      refine nw_getI l_X12_loadShare_18 21 rfl k_303 (v := 1) (show nw_u J 303 13 1 303 13 = 1 from nw_uS) ?_
      refine nw_if_ne l_X12_loadShare_21 24 rfl (fun _ => ?_) (fun q => absurd q (by decide))
      refine nw_fconst l_X12_loadShare_44 45 rfl ?_
      refine nw_freturn l_X12_loadShare_45 rfl ?_
      exact h
    · replace h := h.2 q3
      refine nw_iconst (len := 0) l_X12_in_10 11 rfl c_1 ?_
      refine nw_goto l_X12_in_11 ?_
      refine nw_ireturnZ l_X12_in_15 rfl (Or.inr rfl) ?_
      refine nw_ireturnZ l_X12_isFerry_13 rfl (Or.inr rfl) ?_
      refine nw_if_eq l_X12_loadShare_6 9 rfl (fun q => absurd q (by decide)) (fun _ => ?_)
      refine nw_iconst (len := 0) l_X12_loadShare_9 10 rfl c_0 ?_
      refine nw_goto l_X12_loadShare_10 ?_
      refine nw_putI l_X12_loadShare_14 17 rfl k_303 ?_
      refine nw_aload_n l_X12_loadShare_17 18 rfl rfl ?_
      refine nw_getI l_X12_loadShare_18 21 rfl k_303 (v := 0) (show nw_u J 303 13 0 303 13 = 0 from nw_uS) ?_
      refine nw_if_ne l_X12_loadShare_21 24 rfl (fun q => absurd q (by decide)) (fun _ => ?_)
      refine nw_aload_n l_X12_loadShare_24 25 rfl rfl ?_
      refine nw_iload_n l_X12_loadShare_25 26 rfl rfl ?_
      refine nw_call0 0 303 l_X12_loadShare_26 rfl rfl g_X12_carried (Nat.lt_of_lt_of_le (by decide) hD) rfl (Or.inl ⟨_, rfl, k_303⟩) (ls' := [some (.inr (.inl (some 303))), some (.inl x1), none, none]) rfl (st' := []) rfl 29 rfl ?_
      exact h
theorem b_X12_loadShare_29 {x1 : Int} {y0 : Int} (h : ((-2147483648 ≤ 68 + x1 ∧ 68 + x1 < 2147483648) ∧ ((0 ≤ 68 + x1 ∧ 68 + x1 < 161) ∧ ((vf_n32 (FP.fdiv (FP.i2f (Int32.ofInt y0)) (FP.i2f (Int32.ofInt (J 304 (68 + x1)))))) ∧ Qr (some (.inr (.inr (.inr (.inr (FP.fdiv (FP.i2f (Int32.ofInt y0)) (FP.i2f (Int32.ofInt (J 304 (68 + x1)))))))))) (J, L, W))))) :
    NW sc d_X12_loadShare D (29, [some (.inr (.inl (some 303))), some (.inl x1)], [.inl y0], (J, L, W), c, sl) Qr Qx := by
  refine nw_i2f l_X12_loadShare_29 30 rfl ?_
  refine nw_aload_n l_X12_loadShare_30 31 rfl rfl ?_
  refine nw_getA l_X12_loadShare_31 34 rfl k_303 r_303_0 ?_
  refine nw_bipush (len := 0) l_X12_loadShare_34 36 rfl c_68 ?_
  refine nw_iload_n l_X12_loadShare_36 37 rfl rfl ?_
  have o1 := h.1
  replace h := h.2
  refine nw_iadd l_X12_loadShare_37 38 rfl o1 ?_
  have o2 := h.1
  replace h := h.2
  refine nw_iald l_X12_loadShare_38 39 rfl k_304 o2 (v := J 304 (68 + x1)) rfl ?_
  refine nw_i2f l_X12_loadShare_39 40 rfl ?_
  have o3 := h.1
  replace h := h.2
  refine nw_fdiv l_X12_loadShare_40 41 rfl o3 ?_
  refine nw_goto l_X12_loadShare_41 ?_
  refine nw_freturn l_X12_loadShare_45 rfl ?_
  exact h
theorem b_X12_loads_0 {x1 : Int} (hD : 3 ≤ D) (h : ((-2147483648 ≤ (J 304 3) - 1 ∧ (J 304 3) - 1 < 2147483648) ∧ ((x1 < 0 → Qr (some (.inl 0)) (nw_u J 303 13 1, L, W)) ∧ (0 ≤ x1 → (((J 304 3) - 1 < x1 → Qr (some (.inl 0)) (nw_u J 303 13 1, L, W)) ∧ (x1 ≤ (J 304 3) - 1 → ((-2147483648 ≤ 62 + x1 ∧ 62 + x1 < 2147483648) ∧ ((0 ≤ 62 + x1 ∧ 62 + x1 < 161) ∧ ((J 304 (62 + x1) ≤ 0 → NW sc d_X12_isStuck 2 (0, [some (.inr (.inl (some 303))), some (.inl x1)], [], (J, L, W), 0, 0) (fun v M9 => NW sc d_X12_loads D (27, [some (.inr (.inl (some 303))), some (.inl x1), none, none, none], nw_push v [], M9, c, sl) Qr Qx) Qx) ∧ (0 < J 304 (62 + x1) → Qr (some (.inl 0)) (nw_u J 303 13 2, L, W))))))))))) :
    NW sc d_X12_loads D (0, [some (.inr (.inl (some 303))), some (.inl x1), none, none, none], [], (J, L, W), c, sl) Qr Qx := by
  refine nw_aload_n l_X12_loads_0 1 rfl rfl ?_
  refine nw_iload_n l_X12_loads_1 2 rfl rfl ?_
  refine nw_call0 1 303 l_X12_loads_2 rfl rfl g_X12_isFerry (Nat.lt_of_lt_of_le (by decide) hD) rfl (Or.inl ⟨_, rfl, k_303⟩) (ls' := [some (.inr (.inl (some 303))), some (.inl x1)]) rfl (st' := []) rfl 5 rfl ?_
  refine nw_iload_n l_X12_isFerry_0 1 rfl rfl ?_
  refine nw_iconst (len := 0) l_X12_isFerry_1 2 rfl c_0 ?_
  refine nw_aload_n l_X12_isFerry_2 3 rfl rfl ?_
  refine nw_getA l_X12_isFerry_3 6 rfl k_303 r_303_0 ?_
  refine nw_iconst (len := 0) l_X12_isFerry_6 7 rfl c_3 ?_
  refine nw_iald l_X12_isFerry_7 8 rfl k_304 ⟨by decide, by decide⟩ (v := J 304 3) rfl ?_
  refine nw_iconst (len := 0) l_X12_isFerry_8 9 rfl c_1 ?_
  have o1 := h.1
  replace h := h.2
  refine nw_isub l_X12_isFerry_9 10 rfl o1 ?_
  refine nw_call0 0 0 l_X12_isFerry_10 rfl rfl g_X12_in (by decide) rfl True.intro (ls' := [some (.inl x1), some (.inl 0), some (.inl ((J 304 3) - 1))]) rfl (st' := []) rfl 13 rfl ?_
  refine nw_iload_n l_X12_in_0 1 rfl rfl ?_
  refine nw_iload_n l_X12_in_1 2 rfl rfl ?_
  refine nw_ic_lt l_X12_in_2 5 rfl (fun q2 => ?_) (fun q2 => ?_)
  · replace h := h.1 q2
    refine nw_iconst (len := 0) l_X12_in_14 15 rfl c_0 ?_
    refine nw_ireturnZ l_X12_in_15 rfl (Or.inl rfl) ?_
    refine nw_ireturnZ l_X12_isFerry_13 rfl (Or.inl rfl) ?_
    refine nw_if_ne l_X12_loads_5 8 rfl (fun q => absurd q (by decide)) (fun _ => ?_)
    refine nw_aload_n l_X12_loads_8 9 rfl rfl ?_
    refine nw_iconst (len := 0) l_X12_loads_9 10 rfl c_1 ?_
    refine nw_call0 0 303 l_X12_loads_10 rfl rfl g_X12_fails (Nat.lt_of_lt_of_le (by decide) hD) rfl (Or.inl ⟨_, rfl, k_303⟩) (ls' := [some (.inr (.inl (some 303))), some (.inl 1)]) rfl (st' := []) rfl 13 rfl ?_
    refine nw_aload_n l_X12_fails_0 1 rfl rfl ?_
    refine nw_iload_n l_X12_fails_1 2 rfl rfl ?_
    refine nw_putI l_X12_fails_2 5 rfl k_303 ?_
    refine nw_iconst (len := 0) l_X12_fails_5 6 rfl c_0 ?_
    refine nw_ireturn l_X12_fails_6 rfl ?_
    refine nw_ireturn l_X12_loads_13 rfl ?_
    exact h
  · replace h := h.2 q2
    refine nw_iload_n l_X12_in_5 6 rfl rfl ?_
    refine nw_iload_n l_X12_in_6 7 rfl rfl ?_
    refine nw_ic_gt l_X12_in_7 10 rfl (fun q3 => ?_) (fun q3 => ?_)
    · replace h := h.1 q3
      refine nw_iconst (len := 0) l_X12_in_14 15 rfl c_0 ?_
      refine nw_ireturnZ l_X12_in_15 rfl (Or.inl rfl) ?_
      refine nw_ireturnZ l_X12_isFerry_13 rfl (Or.inl rfl) ?_
      refine nw_if_ne l_X12_loads_5 8 rfl (fun q => absurd q (by decide)) (fun _ => ?_)
      refine nw_aload_n l_X12_loads_8 9 rfl rfl ?_
      refine nw_iconst (len := 0) l_X12_loads_9 10 rfl c_1 ?_
      refine nw_call0 0 303 l_X12_loads_10 rfl rfl g_X12_fails (Nat.lt_of_lt_of_le (by decide) hD) rfl (Or.inl ⟨_, rfl, k_303⟩) (ls' := [some (.inr (.inl (some 303))), some (.inl 1)]) rfl (st' := []) rfl 13 rfl ?_
      refine nw_aload_n l_X12_fails_0 1 rfl rfl ?_
      refine nw_iload_n l_X12_fails_1 2 rfl rfl ?_
      refine nw_putI l_X12_fails_2 5 rfl k_303 ?_
      refine nw_iconst (len := 0) l_X12_fails_5 6 rfl c_0 ?_
      refine nw_ireturn l_X12_fails_6 rfl ?_
      refine nw_ireturn l_X12_loads_13 rfl ?_
      exact h
    · replace h := h.2 q3
      refine nw_iconst (len := 0) l_X12_in_10 11 rfl c_1 ?_
      refine nw_goto l_X12_in_11 ?_
      refine nw_ireturnZ l_X12_in_15 rfl (Or.inr rfl) ?_
      refine nw_ireturnZ l_X12_isFerry_13 rfl (Or.inr rfl) ?_
      refine nw_if_ne l_X12_loads_5 8 rfl (fun _ => ?_) (fun q => absurd q (by decide))
      refine nw_aload_n l_X12_loads_14 15 rfl rfl ?_
      refine nw_iload_n l_X12_loads_15 16 rfl rfl ?_
      refine nw_call0 0 303 l_X12_loads_16 rfl rfl g_X12_sails (Nat.lt_of_lt_of_le (by decide) hD) rfl (Or.inl ⟨_, rfl, k_303⟩) (ls' := [some (.inr (.inl (some 303))), some (.inl x1)]) rfl (st' := []) rfl 19 rfl ?_
      refine nw_aload_n l_X12_sails_0 1 rfl rfl ?_
      refine nw_getA l_X12_sails_1 4 rfl k_303 r_303_0 ?_
      refine nw_bipush (len := 0) l_X12_sails_4 6 rfl c_62 ?_
      refine nw_iload_n l_X12_sails_6 7 rfl rfl ?_
      have o4 := h.1
      replace h := h.2
      refine nw_iadd l_X12_sails_7 8 rfl o4 ?_
      have o5 := h.1
      replace h := h.2
      refine nw_iald l_X12_sails_8 9 rfl k_304 o5 (v := J 304 (62 + x1)) rfl ?_
      refine nw_if_le l_X12_sails_9 12 rfl (fun q6 => ?_) (fun q6 => ?_)
      · replace h := h.1 q6
        refine nw_iconst (len := 0) l_X12_sails_16 17 rfl c_0 ?_
        refine nw_ireturnZ l_X12_sails_17 rfl (Or.inl rfl) ?_
        refine nw_if_ne l_X12_loads_19 22 rfl (fun q => absurd q (by decide)) (fun _ => ?_)
        refine nw_aload_n l_X12_loads_22 23 rfl rfl ?_
        refine nw_iload_n l_X12_loads_23 24 rfl rfl ?_
        refine nw_call0 2 303 l_X12_loads_24 rfl rfl g_X12_isStuck (Nat.lt_of_lt_of_le (by decide) hD) rfl (Or.inl ⟨_, rfl, k_303⟩) (ls' := [some (.inr (.inl (some 303))), some (.inl x1)]) rfl (st' := []) rfl 27 rfl ?_
        exact h
      · replace h := h.2 q6
        refine nw_iconst (len := 0) l_X12_sails_12 13 rfl c_1 ?_
        refine nw_goto l_X12_sails_13 ?_
        refine nw_ireturnZ l_X12_sails_17 rfl (Or.inr rfl) ?_
        refine nw_if_ne l_X12_loads_19 22 rfl (fun _ => ?_) (fun q => absurd q (by decide))
        refine nw_aload_n l_X12_loads_30 31 rfl rfl ?_
        refine nw_iconst (len := 0) l_X12_loads_31 32 rfl c_2 ?_
        refine nw_call0 0 303 l_X12_loads_32 rfl rfl g_X12_fails (Nat.lt_of_lt_of_le (by decide) hD) rfl (Or.inl ⟨_, rfl, k_303⟩) (ls' := [some (.inr (.inl (some 303))), some (.inl 2)]) rfl (st' := []) rfl 35 rfl ?_
        refine nw_aload_n l_X12_fails_0 1 rfl rfl ?_
        refine nw_iload_n l_X12_fails_1 2 rfl rfl ?_
        refine nw_putI l_X12_fails_2 5 rfl k_303 ?_
        refine nw_iconst (len := 0) l_X12_fails_5 6 rfl c_0 ?_
        refine nw_ireturn l_X12_fails_6 rfl ?_
        refine nw_ireturn l_X12_loads_35 rfl ?_
        exact h
theorem b_X12_loads_27 {x1 : Int} {y0 : Int} (hD : 3 ≤ D) (h : ((y0 = 0 → NW sc d_X12_best 2 (0, [some (.inr (.inl (some 303))), some (.inl x1), none, none, none, none], [], (J, L, W), 0, 0) (fun v M9 => NW sc d_X12_loads D (41, [some (.inr (.inl (some 303))), some (.inl x1), none, none, none], nw_push v [], M9, c, sl) Qr Qx) Qx) ∧ (¬ y0 = 0 → Qr (some (.inl 0)) (nw_u J 303 13 2, L, W)))) :
    NW sc d_X12_loads D (27, [some (.inr (.inl (some 303))), some (.inl x1), none, none, none], [.inl y0], (J, L, W), c, sl) Qr Qx := by
  refine nw_if_eq l_X12_loads_27 30 rfl (fun q1 => ?_) (fun q1 => ?_)
  · replace h := h.1 q1
    refine nw_aload_n l_X12_loads_36 37 rfl rfl ?_
    refine nw_iload_n l_X12_loads_37 38 rfl rfl ?_
    refine nw_call0 2 303 l_X12_loads_38 rfl rfl g_X12_best (Nat.lt_of_lt_of_le (by decide) hD) rfl (Or.inl ⟨_, rfl, k_303⟩) (ls' := [some (.inr (.inl (some 303))), some (.inl x1), none, none, none, none]) rfl (st' := []) rfl 41 rfl ?_
    exact h
  · replace h := h.2 q1
    refine nw_aload_n l_X12_loads_30 31 rfl rfl ?_
    refine nw_iconst (len := 0) l_X12_loads_31 32 rfl c_2 ?_
    refine nw_call0 0 303 l_X12_loads_32 rfl rfl g_X12_fails (Nat.lt_of_lt_of_le (by decide) hD) rfl (Or.inl ⟨_, rfl, k_303⟩) (ls' := [some (.inr (.inl (some 303))), some (.inl 2)]) rfl (st' := []) rfl 35 rfl ?_
    refine nw_aload_n l_X12_fails_0 1 rfl rfl ?_
    refine nw_iload_n l_X12_fails_1 2 rfl rfl ?_
    refine nw_putI l_X12_fails_2 5 rfl k_303 ?_
    refine nw_iconst (len := 0) l_X12_fails_5 6 rfl c_0 ?_
    refine nw_ireturn l_X12_fails_6 rfl ?_
    refine nw_ireturn l_X12_loads_35 rfl ?_
    exact h
theorem b_X12_loads_41 {x1 : Int} {y0 : Int} (h : NW sc d_X12_loads D (47, [some (.inr (.inl (some 303))), some (.inl x1), some (.inl y0), some (.inl 0), some (.inl 0)], [], (J, L, W), c, sl) Qr Qx) :
    NW sc d_X12_loads D (41, [some (.inr (.inl (some 303))), some (.inl x1), none, none, none], [.inl y0], (J, L, W), c, sl) Qr Qx := by
  refine nw_istore_n l_X12_loads_41 42 rfl rfl (ls' := [some (.inr (.inl (some 303))), some (.inl x1), some (.inl y0), none, none]) rfl ?_
  refine nw_iconst (len := 0) l_X12_loads_42 43 rfl c_0 ?_
  refine nw_istore_n l_X12_loads_43 44 rfl rfl (ls' := [some (.inr (.inl (some 303))), some (.inl x1), some (.inl y0), some (.inl 0), none]) rfl ?_
  refine nw_iconst (len := 0) l_X12_loads_44 45 rfl c_0 ?_
  refine nw_istore l_X12_loads_45 47 rfl rfl (ls' := [some (.inr (.inl (some 303))), some (.inl x1), some (.inl y0), some (.inl 0), some (.inl 0)]) rfl ?_
  exact h
theorem b_X12_loads_47 {x1 : Int} {x2 : Int} {x3 : Int} {x4 : Int} (hD : 3 ≤ D) (h : ((J 304 4 ≤ x4 → Qr (some (.inl x3)) (nw_u J 303 13 0, L, W)) ∧ (x4 < J 304 4 → ((¬ nw_xiand (nw_xishr x2 x4) 1 = 1 → ((-2147483648 ≤ x4 + 1 ∧ x4 + 1 < 2147483648) ∧ NW sc d_X12_loads D (47, [some (.inr (.inl (some 303))), some (.inl x1), some (.inl x2), some (.inl x3), some (.inl (x4 + 1))], [], (J, L, W), c, sl) Qr Qx)) ∧ (nw_xiand (nw_xishr x2 x4) 1 = 1 → ((-2147483648 ≤ 121 + x4 ∧ 121 + x4 < 2147483648) ∧ ((-2147483648 ≤ 10 + x1 ∧ 10 + x1 < 2147483648) ∧ ((0 ≤ 121 + x4 ∧ 121 + x4 < 161) ∧ ((-2147483648 ≤ x3 + 1 ∧ x3 + 1 < 2147483648) ∧ ((-2147483648 ≤ x4 + 1 ∧ x4 + 1 < 2147483648) ∧ NW sc d_X12_loads D (47, [some (.inr (.inl (some 303))), some (.inl x1), some (.inl x2), some (.inl (x3 + 1)), some (.inl (x4 + 1))], [], (nw_u J 304 (121 + x4) (10 + x1), L, W), c, sl) Qr Qx)))))))))) :
    NW sc d_X12_loads D (47, [some (.inr (.inl (some 303))), some (.inl x1), some (.inl x2), some (.inl x3), some (.inl x4)], [], (J, L, W), c, sl) Qr Qx := by
  refine nw_iload l_X12_loads_47 49 rfl rfl ?_
  refine nw_aload_n l_X12_loads_49 50 rfl rfl ?_
  refine nw_getA l_X12_loads_50 53 rfl k_303 r_303_0 ?_
  refine nw_iconst (len := 0) l_X12_loads_53 54 rfl c_4 ?_
  refine nw_iald l_X12_loads_54 55 rfl k_304 ⟨by decide, by decide⟩ (v := J 304 4) rfl ?_
  refine nw_ic_ge l_X12_loads_55 58 rfl (fun q1 => ?_) (fun q1 => ?_)
  · replace h := h.1 q1
    refine nw_aload_n l_X12_loads_91 92 rfl rfl ?_
    refine nw_iload_n l_X12_loads_92 93 rfl rfl ?_
    refine nw_call0 0 303 l_X12_loads_93 rfl rfl g_X12_done (Nat.lt_of_lt_of_le (by decide) hD) rfl (Or.inl ⟨_, rfl, k_303⟩) (ls' := [some (.inr (.inl (some 303))), some (.inl x3)]) rfl (st' := []) rfl 96 rfl ?_
    refine nw_aload_n l_X12_done_0 1 rfl rfl ?_
    refine nw_iconst (len := 0) l_X12_done_1 2 rfl c_0 ?_
    refine nw_putI l_X12_done_2 5 rfl k_303 ?_
    refine nw_iload_n l_X12_done_5 6 rfl rfl ?_
    refine nw_ireturn l_X12_done_6 rfl ?_
    refine nw_ireturn l_X12_loads_96 rfl ?_
    exact h
  · replace h := h.2 q1
    refine nw_iload_n l_X12_loads_58 59 rfl rfl ?_
    refine nw_iload l_X12_loads_59 61 rfl rfl ?_
    refine nw_ishr l_X12_loads_61 62 rfl ?_
    refine nw_iconst (len := 0) l_X12_loads_62 63 rfl c_1 ?_
    refine nw_iand l_X12_loads_63 64 rfl ?_
    refine nw_iconst (len := 0) l_X12_loads_64 65 rfl c_1 ?_
    refine nw_ic_ne l_X12_loads_65 68 rfl (fun q2 => ?_) (fun q2 => ?_)
    · replace h := h.1 q2
      have o3 := h.1
      replace h := h.2
      refine nw_iinc l_X12_loads_85 88 rfl 1 (by decide) rfl rfl o3 (ls' := [some (.inr (.inl (some 303))), some (.inl x1), some (.inl x2), some (.inl x3), some (.inl (x4 + 1))]) rfl ?_
      refine nw_goto l_X12_loads_88 ?_
      exact h
    · replace h := h.2 q2
      refine nw_aload_n l_X12_loads_68 69 rfl rfl ?_
      refine nw_getA l_X12_loads_69 72 rfl k_303 r_303_0 ?_
      refine nw_bipush (len := 0) l_X12_loads_72 74 rfl c_121 ?_
      refine nw_iload l_X12_loads_74 76 rfl rfl ?_
      have o4 := h.1
      replace h := h.2
      refine nw_iadd l_X12_loads_76 77 rfl o4 ?_
      refine nw_bipush (len := 0) l_X12_loads_77 79 rfl c_10 ?_
      refine nw_iload_n l_X12_loads_79 80 rfl rfl ?_
      have o5 := h.1
      replace h := h.2
      refine nw_iadd l_X12_loads_80 81 rfl o5 ?_
      have o6 := h.1
      replace h := h.2
      refine nw_iast l_X12_loads_81 82 rfl k_304 o6 ?_
      have o7 := h.1
      replace h := h.2
      refine nw_iinc l_X12_loads_82 85 rfl 1 (by decide) rfl rfl o7 (ls' := [some (.inr (.inl (some 303))), some (.inl x1), some (.inl x2), some (.inl (x3 + 1)), some (.inl x4)]) rfl ?_
      have o8 := h.1
      replace h := h.2
      refine nw_iinc l_X12_loads_85 88 rfl 1 (by decide) rfl rfl o8 (ls' := [some (.inr (.inl (some 303))), some (.inl x1), some (.inl x2), some (.inl (x3 + 1)), some (.inl (x4 + 1))]) rfl ?_
      refine nw_goto l_X12_loads_88 ?_
      exact h
theorem b_X12_meanPhase_0  (h : NW sc d_X12_meanPhase D (4, [some (.inr (.inl (some 303))), some (.inl 0), some (.inl 0)], [], (J, L, W), c, sl) Qr Qx) :
    NW sc d_X12_meanPhase D (0, [some (.inr (.inl (some 303))), none, none], [], (J, L, W), c, sl) Qr Qx := by
  refine nw_iconst (len := 0) l_X12_meanPhase_0 1 rfl c_0 ?_
  refine nw_istore_n l_X12_meanPhase_1 2 rfl rfl (ls' := [some (.inr (.inl (some 303))), some (.inl 0), none]) rfl ?_
  refine nw_iconst (len := 0) l_X12_meanPhase_2 3 rfl c_0 ?_
  refine nw_istore_n l_X12_meanPhase_3 4 rfl rfl (ls' := [some (.inr (.inl (some 303))), some (.inl 0), some (.inl 0)]) rfl ?_
  exact h
theorem b_X12_meanPhase_4 {x1 : Int} {x2 : Int} (h : ((J 304 4 ≤ x2 → ((¬ J 304 4 = 0 → ((vf_n64 (FP.ddiv (FP.i2d (Int32.ofInt x1)) (FP.i2d (Int32.ofInt (J 304 4))))) ∧ Qr (some (.inr (.inr (.inr (.inl (FP.ddiv (FP.i2d (Int32.ofInt x1)) (FP.i2d (Int32.ofInt (J 304 4))))))))) (nw_u J 303 13 0, L, W))) ∧ (J 304 4 = 0 → Qr (some (.inr (.inr (.inr (.inl 0))))) (nw_u J 303 13 1, L, W)))) ∧ (x2 < J 304 4 → ((-2147483648 ≤ 111 + x2 ∧ 111 + x2 < 2147483648) ∧ ((0 ≤ 111 + x2 ∧ 111 + x2 < 161) ∧ ((-2147483648 ≤ x1 + (J 304 (111 + x2)) ∧ x1 + (J 304 (111 + x2)) < 2147483648) ∧ ((-2147483648 ≤ x2 + 1 ∧ x2 + 1 < 2147483648) ∧ NW sc d_X12_meanPhase D (4, [some (.inr (.inl (some 303))), some (.inl (x1 + (J 304 (111 + x2)))), some (.inl (x2 + 1))], [], (J, L, W), c, sl) Qr Qx))))))) :
    NW sc d_X12_meanPhase D (4, [some (.inr (.inl (some 303))), some (.inl x1), some (.inl x2)], [], (J, L, W), c, sl) Qr Qx := by
  refine nw_iload_n l_X12_meanPhase_4 5 rfl rfl ?_
  refine nw_aload_n l_X12_meanPhase_5 6 rfl rfl ?_
  refine nw_getA l_X12_meanPhase_6 9 rfl k_303 r_303_0 ?_
  refine nw_iconst (len := 0) l_X12_meanPhase_9 10 rfl c_4 ?_
  refine nw_iald l_X12_meanPhase_10 11 rfl k_304 ⟨by decide, by decide⟩ (v := J 304 4) rfl ?_
  refine nw_ic_ge l_X12_meanPhase_11 14 rfl (fun q1 => ?_) (fun q1 => ?_)
  · replace h := h.1 q1
    refine nw_aload_n l_X12_meanPhase_32 33 rfl rfl ?_
    refine nw_aload_n l_X12_meanPhase_33 34 rfl rfl ?_
    refine nw_getA l_X12_meanPhase_34 37 rfl k_303 r_303_0 ?_
    refine nw_iconst (len := 0) l_X12_meanPhase_37 38 rfl c_4 ?_
    refine nw_iald l_X12_meanPhase_38 39 rfl k_304 ⟨by decide, by decide⟩ (v := J 304 4) rfl ?_
    refine nw_if_ne l_X12_meanPhase_39 42 rfl (fun q2 => ?_) (fun q2 => ?_)
    · replace h := h.1 q2
      refine nw_iconst (len := 0) l_X12_meanPhase_46 47 rfl c_0 ?_
      refine nw_putI l_X12_meanPhase_47 50 rfl k_303 ?_
      refine nw_aload_n l_X12_meanPhase_50 51 rfl rfl ?_
      refine nw_getI l_X12_meanPhase_51 54 rfl k_303 (v := 0) (show nw_u J 303 13 0 303 13 = 0 from nw_uS) ?_
      refine nw_if_ne l_X12_meanPhase_54 57 rfl (fun q => absurd q (by decide)) (fun _ => ?_)
      refine nw_iload_n l_X12_meanPhase_57 58 rfl rfl ?_
      refine nw_i2d l_X12_meanPhase_58 59 rfl ?_
      refine nw_aload_n l_X12_meanPhase_59 60 rfl rfl ?_
      refine nw_getA l_X12_meanPhase_60 63 rfl k_303 r_303_0 ?_
      refine nw_iconst (len := 0) l_X12_meanPhase_63 64 rfl c_4 ?_
      refine nw_iald l_X12_meanPhase_64 65 rfl k_304 ⟨by decide, by decide⟩ (v := J 304 4) (show nw_u J 303 13 0 304 4 = J 304 4 from (nw_uN (a := 303) (b := 304) (by decide))) ?_
      refine nw_i2d l_X12_meanPhase_65 66 rfl ?_
      have o3 := h.1
      replace h := h.2
      refine nw_ddiv l_X12_meanPhase_66 67 rfl o3 ?_
      refine nw_goto l_X12_meanPhase_67 ?_
      refine nw_dreturn l_X12_meanPhase_71 rfl ?_
      exact h
    · replace h := h.2 q2
      refine nw_iconst (len := 0) l_X12_meanPhase_42 43 rfl c_1 ?_
      refine nw_goto l_X12_meanPhase_43 ?_
      refine nw_putI l_X12_meanPhase_47 50 rfl k_303 ?_
      refine nw_aload_n l_X12_meanPhase_50 51 rfl rfl ?_
      refine nw_getI l_X12_meanPhase_51 54 rfl k_303 (v := 1) (show nw_u J 303 13 1 303 13 = 1 from nw_uS) ?_
      refine nw_if_ne l_X12_meanPhase_54 57 rfl (fun _ => ?_) (fun q => absurd q (by decide))
      refine nw_dconst l_X12_meanPhase_70 71 rfl ?_
      refine nw_dreturn l_X12_meanPhase_71 rfl ?_
      exact h
  · replace h := h.2 q1
    refine nw_iload_n l_X12_meanPhase_14 15 rfl rfl ?_
    refine nw_aload_n l_X12_meanPhase_15 16 rfl rfl ?_
    refine nw_getA l_X12_meanPhase_16 19 rfl k_303 r_303_0 ?_
    refine nw_bipush (len := 0) l_X12_meanPhase_19 21 rfl c_111 ?_
    refine nw_iload_n l_X12_meanPhase_21 22 rfl rfl ?_
    have o4 := h.1
    replace h := h.2
    refine nw_iadd l_X12_meanPhase_22 23 rfl o4 ?_
    have o5 := h.1
    replace h := h.2
    refine nw_iald l_X12_meanPhase_23 24 rfl k_304 o5 (v := J 304 (111 + x2)) rfl ?_
    have o6 := h.1
    replace h := h.2
    refine nw_iadd l_X12_meanPhase_24 25 rfl o6 ?_
    refine nw_istore_n l_X12_meanPhase_25 26 rfl rfl (ls' := [some (.inr (.inl (some 303))), some (.inl (x1 + (J 304 (111 + x2)))), some (.inl x2)]) rfl ?_
    have o7 := h.1
    replace h := h.2
    refine nw_iinc l_X12_meanPhase_26 29 rfl 1 (by decide) rfl rfl o7 (ls' := [some (.inr (.inl (some 303))), some (.inl (x1 + (J 304 (111 + x2)))), some (.inl (x2 + 1))]) rfl ?_
    refine nw_goto l_X12_meanPhase_29 ?_
    exact h
theorem b_X12_moonAt_0 {x1 : Int} (hD : 1 ≤ D) (h : ((-2147483648 ≤ (J 304 4) - 1 ∧ (J 304 4) - 1 < 2147483648) ∧ ((x1 < 0 → Qr (some (.inl 0)) (nw_u J 303 13 1, L, W)) ∧ (0 ≤ x1 → (((J 304 4) - 1 < x1 → Qr (some (.inl 0)) (nw_u J 303 13 1, L, W)) ∧ (x1 ≤ (J 304 4) - 1 → ((-2147483648 ≤ 71 + x1 ∧ 71 + x1 < 2147483648) ∧ ((0 ≤ 71 + x1 ∧ 71 + x1 < 161) ∧ Qr (some (.inl (J 304 (71 + x1)))) (nw_u J 303 13 0, L, W))))))))) :
    NW sc d_X12_moonAt D (0, [some (.inr (.inl (some 303))), some (.inl x1)], [], (J, L, W), c, sl) Qr Qx := by
  refine nw_iload_n l_X12_moonAt_0 1 rfl rfl ?_
  refine nw_iconst (len := 0) l_X12_moonAt_1 2 rfl c_0 ?_
  refine nw_aload_n l_X12_moonAt_2 3 rfl rfl ?_
  refine nw_getA l_X12_moonAt_3 6 rfl k_303 r_303_0 ?_
  refine nw_iconst (len := 0) l_X12_moonAt_6 7 rfl c_4 ?_
  refine nw_iald l_X12_moonAt_7 8 rfl k_304 ⟨by decide, by decide⟩ (v := J 304 4) rfl ?_
  refine nw_iconst (len := 0) l_X12_moonAt_8 9 rfl c_1 ?_
  have o1 := h.1
  replace h := h.2
  refine nw_isub l_X12_moonAt_9 10 rfl o1 ?_
  refine nw_call0 0 0 l_X12_moonAt_10 rfl rfl g_X12_in (Nat.lt_of_lt_of_le (by decide) hD) rfl True.intro (ls' := [some (.inl x1), some (.inl 0), some (.inl ((J 304 4) - 1))]) rfl (st' := []) rfl 13 rfl ?_
  refine nw_iload_n l_X12_in_0 1 rfl rfl ?_
  refine nw_iload_n l_X12_in_1 2 rfl rfl ?_
  refine nw_ic_lt l_X12_in_2 5 rfl (fun q2 => ?_) (fun q2 => ?_)
  · replace h := h.1 q2
    refine nw_iconst (len := 0) l_X12_in_14 15 rfl c_0 ?_
    refine nw_ireturnZ l_X12_in_15 rfl (Or.inl rfl) ?_
    refine nw_if_eq l_X12_moonAt_13 16 rfl (fun _ => ?_) (fun q => absurd q (by decide))
    refine nw_aload_n l_X12_moonAt_32 33 rfl rfl ?_
    refine nw_iconst (len := 0) l_X12_moonAt_33 34 rfl c_1 ?_
    refine nw_call0 0 303 l_X12_moonAt_34 rfl rfl g_X12_fails (Nat.lt_of_lt_of_le (by decide) hD) rfl (Or.inl ⟨_, rfl, k_303⟩) (ls' := [some (.inr (.inl (some 303))), some (.inl 1)]) rfl (st' := []) rfl 37 rfl ?_
    refine nw_aload_n l_X12_fails_0 1 rfl rfl ?_
    refine nw_iload_n l_X12_fails_1 2 rfl rfl ?_
    refine nw_putI l_X12_fails_2 5 rfl k_303 ?_
    refine nw_iconst (len := 0) l_X12_fails_5 6 rfl c_0 ?_
    refine nw_ireturn l_X12_fails_6 rfl ?_
    refine nw_ireturn l_X12_moonAt_37 rfl ?_
    exact h
  · replace h := h.2 q2
    refine nw_iload_n l_X12_in_5 6 rfl rfl ?_
    refine nw_iload_n l_X12_in_6 7 rfl rfl ?_
    refine nw_ic_gt l_X12_in_7 10 rfl (fun q3 => ?_) (fun q3 => ?_)
    · replace h := h.1 q3
      refine nw_iconst (len := 0) l_X12_in_14 15 rfl c_0 ?_
      refine nw_ireturnZ l_X12_in_15 rfl (Or.inl rfl) ?_
      refine nw_if_eq l_X12_moonAt_13 16 rfl (fun _ => ?_) (fun q => absurd q (by decide))
      refine nw_aload_n l_X12_moonAt_32 33 rfl rfl ?_
      refine nw_iconst (len := 0) l_X12_moonAt_33 34 rfl c_1 ?_
      refine nw_call0 0 303 l_X12_moonAt_34 rfl rfl g_X12_fails (Nat.lt_of_lt_of_le (by decide) hD) rfl (Or.inl ⟨_, rfl, k_303⟩) (ls' := [some (.inr (.inl (some 303))), some (.inl 1)]) rfl (st' := []) rfl 37 rfl ?_
      refine nw_aload_n l_X12_fails_0 1 rfl rfl ?_
      refine nw_iload_n l_X12_fails_1 2 rfl rfl ?_
      refine nw_putI l_X12_fails_2 5 rfl k_303 ?_
      refine nw_iconst (len := 0) l_X12_fails_5 6 rfl c_0 ?_
      refine nw_ireturn l_X12_fails_6 rfl ?_
      refine nw_ireturn l_X12_moonAt_37 rfl ?_
      exact h
    · replace h := h.2 q3
      refine nw_iconst (len := 0) l_X12_in_10 11 rfl c_1 ?_
      refine nw_goto l_X12_in_11 ?_
      refine nw_ireturnZ l_X12_in_15 rfl (Or.inr rfl) ?_
      refine nw_if_eq l_X12_moonAt_13 16 rfl (fun q => absurd q (by decide)) (fun _ => ?_)
      refine nw_aload_n l_X12_moonAt_16 17 rfl rfl ?_
      refine nw_aload_n l_X12_moonAt_17 18 rfl rfl ?_
      refine nw_getA l_X12_moonAt_18 21 rfl k_303 r_303_0 ?_
      refine nw_bipush (len := 0) l_X12_moonAt_21 23 rfl c_71 ?_
      refine nw_iload_n l_X12_moonAt_23 24 rfl rfl ?_
      have o4 := h.1
      replace h := h.2
      refine nw_iadd l_X12_moonAt_24 25 rfl o4 ?_
      have o5 := h.1
      replace h := h.2
      refine nw_iald l_X12_moonAt_25 26 rfl k_304 o5 (v := J 304 (71 + x1)) rfl ?_
      refine nw_call0 0 303 l_X12_moonAt_26 rfl rfl g_X12_done (Nat.lt_of_lt_of_le (by decide) hD) rfl (Or.inl ⟨_, rfl, k_303⟩) (ls' := [some (.inr (.inl (some 303))), some (.inl (J 304 (71 + x1)))]) rfl (st' := []) rfl 29 rfl ?_
      refine nw_aload_n l_X12_done_0 1 rfl rfl ?_
      refine nw_iconst (len := 0) l_X12_done_1 2 rfl c_0 ?_
      refine nw_putI l_X12_done_2 5 rfl k_303 ?_
      refine nw_iload_n l_X12_done_5 6 rfl rfl ?_
      refine nw_ireturn l_X12_done_6 rfl ?_
      refine nw_goto l_X12_moonAt_29 ?_
      refine nw_ireturn l_X12_moonAt_37 rfl ?_
      exact h
theorem b_X12_moonAtRank_0 {x1 : Int} (hD : 1 ≤ D) (h : NW sc d_X12_finds 0 (0, [some (.inr (.inl (some 303))), none, none, none], [], (J, L, W), 0, 0) (fun v M9 => NW sc d_X12_moonAtRank D (4, [some (.inr (.inl (some 303))), some (.inl x1), none, none, none, none], nw_push v [], M9, c, sl) Qr Qx) Qx) :
    NW sc d_X12_moonAtRank D (0, [some (.inr (.inl (some 303))), some (.inl x1), none, none, none, none], [], (J, L, W), c, sl) Qr Qx := by
  refine nw_aload_n l_X12_moonAtRank_0 1 rfl rfl ?_
  refine nw_call0 0 303 l_X12_moonAtRank_1 rfl rfl g_X12_finds (Nat.lt_of_lt_of_le (by decide) hD) rfl (Or.inl ⟨_, rfl, k_303⟩) (ls' := [some (.inr (.inl (some 303))), none, none, none]) rfl (st' := []) rfl 4 rfl ?_
  exact h
theorem b_X12_moonAtRank_4 {x1 : Int} (h : NW sc d_X12_moonAtRank D (6, [some (.inr (.inl (some 303))), some (.inl x1), some (.inl 0), none, none, none], [], (J, L, W), c, sl) Qr Qx) :
    NW sc d_X12_moonAtRank D (4, [some (.inr (.inl (some 303))), some (.inl x1), none, none, none, none], [], (J, L, W), c, sl) Qr Qx := by
  refine nw_iconst (len := 0) l_X12_moonAtRank_4 5 rfl c_0 ?_
  refine nw_istore_n l_X12_moonAtRank_5 6 rfl rfl (ls' := [some (.inr (.inl (some 303))), some (.inl x1), some (.inl 0), none, none, none]) rfl ?_
  exact h
theorem b_X12_moonAtRank_6 {x1 : Int} {x2 : Int} (hD : 1 ≤ D) (h : ((J 304 4 ≤ x2 → Qr (some (.inl 0)) (nw_u J 303 13 1, L, W)) ∧ (x2 < J 304 4 → NW sc d_X12_moonAtRank D (21, [some (.inr (.inl (some 303))), some (.inl x1), some (.inl x2), some (.inl 0), some (.inl 0), none], [], (J, L, W), c, sl) Qr Qx))) :
    NW sc d_X12_moonAtRank D (6, [some (.inr (.inl (some 303))), some (.inl x1), some (.inl x2), none, none, none], [], (J, L, W), c, sl) Qr Qx := by
  refine nw_iload_n l_X12_moonAtRank_6 7 rfl rfl ?_
  refine nw_aload_n l_X12_moonAtRank_7 8 rfl rfl ?_
  refine nw_getA l_X12_moonAtRank_8 11 rfl k_303 r_303_0 ?_
  refine nw_iconst (len := 0) l_X12_moonAtRank_11 12 rfl c_4 ?_
  refine nw_iald l_X12_moonAtRank_12 13 rfl k_304 ⟨by decide, by decide⟩ (v := J 304 4) rfl ?_
  refine nw_ic_ge l_X12_moonAtRank_13 16 rfl (fun q1 => ?_) (fun q1 => ?_)
  · replace h := h.1 q1
    refine nw_aload_n l_X12_moonAtRank_101 102 rfl rfl ?_
    refine nw_iconst (len := 0) l_X12_moonAtRank_102 103 rfl c_1 ?_
    refine nw_call0 0 303 l_X12_moonAtRank_103 rfl rfl g_X12_fails (Nat.lt_of_lt_of_le (by decide) hD) rfl (Or.inl ⟨_, rfl, k_303⟩) (ls' := [some (.inr (.inl (some 303))), some (.inl 1)]) rfl (st' := []) rfl 106 rfl ?_
    refine nw_aload_n l_X12_fails_0 1 rfl rfl ?_
    refine nw_iload_n l_X12_fails_1 2 rfl rfl ?_
    refine nw_putI l_X12_fails_2 5 rfl k_303 ?_
    refine nw_iconst (len := 0) l_X12_fails_5 6 rfl c_0 ?_
    refine nw_ireturn l_X12_fails_6 rfl ?_
    refine nw_ireturn l_X12_moonAtRank_106 rfl ?_
    exact h
  · replace h := h.2 q1
    refine nw_iconst (len := 0) l_X12_moonAtRank_16 17 rfl c_0 ?_
    refine nw_istore_n l_X12_moonAtRank_17 18 rfl rfl (ls' := [some (.inr (.inl (some 303))), some (.inl x1), some (.inl x2), some (.inl 0), none, none]) rfl ?_
    refine nw_iconst (len := 0) l_X12_moonAtRank_18 19 rfl c_0 ?_
    refine nw_istore l_X12_moonAtRank_19 21 rfl rfl (ls' := [some (.inr (.inl (some 303))), some (.inl x1), some (.inl x2), some (.inl 0), some (.inl 0), none]) rfl ?_
    exact h
theorem b_X12_moonAtRank_21 {x1 : Int} {x2 : Int} {x3 : Int} {x4 : Int} (hD : 1 ≤ D) (h : ((J 304 4 ≤ x4 → ((¬ x3 = x1 → ((-2147483648 ≤ x2 + 1 ∧ x2 + 1 < 2147483648) ∧ NW sc d_X12_moonAtRank D (6, [some (.inr (.inl (some 303))), some (.inl x1), some (.inl (x2 + 1)), none, none, none], [], (J, L, W), c, sl) Qr Qx)) ∧ (x3 = x1 → ((-2147483648 ≤ 71 + x2 ∧ 71 + x2 < 2147483648) ∧ ((0 ≤ 71 + x2 ∧ 71 + x2 < 161) ∧ Qr (some (.inl (J 304 (71 + x2)))) (nw_u J 303 13 0, L, W)))))) ∧ (x4 < J 304 4 → NW sc d_X12_fare 0 (0, [some (.inr (.inl (some 303))), some (.inl x4), none, none], [], (J, L, W), 0, 0) (fun v M9 => NW sc d_X12_moonAtRank D (38, [some (.inr (.inl (some 303))), some (.inl x1), some (.inl x2), some (.inl x3), some (.inl x4), none], nw_push v [], M9, c, sl) Qr Qx) Qx))) :
    NW sc d_X12_moonAtRank D (21, [some (.inr (.inl (some 303))), some (.inl x1), some (.inl x2), some (.inl x3), some (.inl x4), none], [], (J, L, W), c, sl) Qr Qx := by
  refine nw_iload l_X12_moonAtRank_21 23 rfl rfl ?_
  refine nw_aload_n l_X12_moonAtRank_23 24 rfl rfl ?_
  refine nw_getA l_X12_moonAtRank_24 27 rfl k_303 r_303_0 ?_
  refine nw_iconst (len := 0) l_X12_moonAtRank_27 28 rfl c_4 ?_
  refine nw_iald l_X12_moonAtRank_28 29 rfl k_304 ⟨by decide, by decide⟩ (v := J 304 4) rfl ?_
  refine nw_ic_ge l_X12_moonAtRank_29 32 rfl (fun q1 => ?_) (fun q1 => ?_)
  · replace h := h.1 q1
    refine nw_iload_n l_X12_moonAtRank_76 77 rfl rfl ?_
    refine nw_iload_n l_X12_moonAtRank_77 78 rfl rfl ?_
    refine nw_ic_ne l_X12_moonAtRank_78 81 rfl (fun q2 => ?_) (fun q2 => ?_)
    · replace h := h.1 q2
      have o3 := h.1
      replace h := h.2
      refine nw_iinc l_X12_moonAtRank_95 98 rfl 1 (by decide) rfl rfl o3 (ls' := [some (.inr (.inl (some 303))), some (.inl x1), some (.inl (x2 + 1)), some (.inl x3), some (.inl x4), none]) rfl ?_
      refine nw_goto l_X12_moonAtRank_98 ?_
      refine nw_drop (ls' := [some (.inr (.inl (some 303))), some (.inl x1), some (.inl (x2 + 1)), none, none, none]) ⟨rfl, ⟨rfl, ⟨rfl, ⟨True.intro, ⟨True.intro, ⟨True.intro, True.intro⟩⟩⟩⟩⟩⟩ ?_
      exact h
    · replace h := h.2 q2
      refine nw_aload_n l_X12_moonAtRank_81 82 rfl rfl ?_
      refine nw_aload_n l_X12_moonAtRank_82 83 rfl rfl ?_
      refine nw_getA l_X12_moonAtRank_83 86 rfl k_303 r_303_0 ?_
      refine nw_bipush (len := 0) l_X12_moonAtRank_86 88 rfl c_71 ?_
      refine nw_iload_n l_X12_moonAtRank_88 89 rfl rfl ?_
      have o4 := h.1
      replace h := h.2
      refine nw_iadd l_X12_moonAtRank_89 90 rfl o4 ?_
      have o5 := h.1
      replace h := h.2
      refine nw_iald l_X12_moonAtRank_90 91 rfl k_304 o5 (v := J 304 (71 + x2)) rfl ?_
      refine nw_call0 0 303 l_X12_moonAtRank_91 rfl rfl g_X12_done (Nat.lt_of_lt_of_le (by decide) hD) rfl (Or.inl ⟨_, rfl, k_303⟩) (ls' := [some (.inr (.inl (some 303))), some (.inl (J 304 (71 + x2)))]) rfl (st' := []) rfl 94 rfl ?_
      refine nw_aload_n l_X12_done_0 1 rfl rfl ?_
      refine nw_iconst (len := 0) l_X12_done_1 2 rfl c_0 ?_
      refine nw_putI l_X12_done_2 5 rfl k_303 ?_
      refine nw_iload_n l_X12_done_5 6 rfl rfl ?_
      refine nw_ireturn l_X12_done_6 rfl ?_
      refine nw_ireturn l_X12_moonAtRank_94 rfl ?_
      exact h
  · replace h := h.2 q1
    refine nw_aload_n l_X12_moonAtRank_32 33 rfl rfl ?_
    refine nw_iload l_X12_moonAtRank_33 35 rfl rfl ?_
    refine nw_call0 0 303 l_X12_moonAtRank_35 rfl rfl g_X12_fare (Nat.lt_of_lt_of_le (by decide) hD) rfl (Or.inl ⟨_, rfl, k_303⟩) (ls' := [some (.inr (.inl (some 303))), some (.inl x4), none, none]) rfl (st' := []) rfl 38 rfl ?_
    exact h
theorem b_X12_moonAtRank_38 {x1 : Int} {x2 : Int} {x3 : Int} {x4 : Int} {y0 : Int} (hD : 1 ≤ D) (h : NW sc d_X12_fare 0 (0, [some (.inr (.inl (some 303))), some (.inl x2), none, none], [], (J, L, W), 0, 0) (fun v M9 => NW sc d_X12_moonAtRank D (43, [some (.inr (.inl (some 303))), some (.inl x1), some (.inl x2), some (.inl x3), some (.inl x4), none], nw_push v [.inl y0], M9, c, sl) Qr Qx) Qx) :
    NW sc d_X12_moonAtRank D (38, [some (.inr (.inl (some 303))), some (.inl x1), some (.inl x2), some (.inl x3), some (.inl x4), none], [.inl y0], (J, L, W), c, sl) Qr Qx := by
  refine nw_aload_n l_X12_moonAtRank_38 39 rfl rfl ?_
  refine nw_iload_n l_X12_moonAtRank_39 40 rfl rfl ?_
  refine nw_call0 0 303 l_X12_moonAtRank_40 rfl rfl g_X12_fare (Nat.lt_of_lt_of_le (by decide) hD) rfl (Or.inl ⟨_, rfl, k_303⟩) (ls' := [some (.inr (.inl (some 303))), some (.inl x2), none, none]) rfl (st' := [.inl y0]) rfl 43 rfl ?_
  exact h
theorem b_X12_moonAtRank_43 {x1 : Int} {x2 : Int} {x3 : Int} {x4 : Int} {y0 : Int} {y1 : Int} (h : ((-2147483648 ≤ y1 - y0 ∧ y1 - y0 < 2147483648) ∧ ((0 < y1 - y0 → ((-2147483648 ≤ x3 + 1 ∧ x3 + 1 < 2147483648) ∧ ((-2147483648 ≤ x4 + 1 ∧ x4 + 1 < 2147483648) ∧ NW sc d_X12_moonAtRank D (21, [some (.inr (.inl (some 303))), some (.inl x1), some (.inl x2), some (.inl (x3 + 1)), some (.inl (x4 + 1)), none], [], (J, L, W), c, sl) Qr Qx))) ∧ (y1 - y0 ≤ 0 → ((¬ y1 - y0 = 0 → ((-2147483648 ≤ x3 + 0 ∧ x3 + 0 < 2147483648) ∧ ((-2147483648 ≤ x4 + 1 ∧ x4 + 1 < 2147483648) ∧ NW sc d_X12_moonAtRank D (21, [some (.inr (.inl (some 303))), some (.inl x1), some (.inl x2), some (.inl (x3 + 0)), some (.inl (x4 + 1)), none], [], (J, L, W), c, sl) Qr Qx))) ∧ (y1 - y0 = 0 → ((x2 ≤ x4 → ((-2147483648 ≤ x3 + 0 ∧ x3 + 0 < 2147483648) ∧ ((-2147483648 ≤ x4 + 1 ∧ x4 + 1 < 2147483648) ∧ NW sc d_X12_moonAtRank D (21, [some (.inr (.inl (some 303))), some (.inl x1), some (.inl x2), some (.inl (x3 + 0)), some (.inl (x4 + 1)), none], [], (J, L, W), c, sl) Qr Qx))) ∧ (x4 < x2 → ((-2147483648 ≤ x3 + 1 ∧ x3 + 1 < 2147483648) ∧ ((-2147483648 ≤ x4 + 1 ∧ x4 + 1 < 2147483648) ∧ NW sc d_X12_moonAtRank D (21, [some (.inr (.inl (some 303))), some (.inl x1), some (.inl x2), some (.inl (x3 + 1)), some (.inl (x4 + 1)), none], [], (J, L, W), c, sl) Qr Qx)))))))))) :
    NW sc d_X12_moonAtRank D (43, [some (.inr (.inl (some 303))), some (.inl x1), some (.inl x2), some (.inl x3), some (.inl x4), none], [.inl y0, .inl y1], (J, L, W), c, sl) Qr Qx := by
  have o1 := h.1
  replace h := h.2
  refine nw_isub l_X12_moonAtRank_43 44 rfl o1 ?_
  refine nw_istore l_X12_moonAtRank_44 46 rfl rfl (ls' := [some (.inr (.inl (some 303))), some (.inl x1), some (.inl x2), some (.inl x3), some (.inl x4), some (.inl (y1 - y0))]) rfl ?_
  refine nw_iload_n l_X12_moonAtRank_46 47 rfl rfl ?_
  refine nw_iload l_X12_moonAtRank_47 49 rfl rfl ?_
  refine nw_if_gt l_X12_moonAtRank_49 52 rfl (fun q2 => ?_) (fun q2 => ?_)
  · replace h := h.1 q2
    refine nw_iconst (len := 0) l_X12_moonAtRank_63 64 rfl c_1 ?_
    refine nw_goto l_X12_moonAtRank_64 ?_
    have o3 := h.1
    replace h := h.2
    refine nw_iadd l_X12_moonAtRank_68 69 rfl o3 ?_
    refine nw_istore_n l_X12_moonAtRank_69 70 rfl rfl (ls' := [some (.inr (.inl (some 303))), some (.inl x1), some (.inl x2), some (.inl (x3 + 1)), some (.inl x4), some (.inl (y1 - y0))]) rfl ?_
    have o4 := h.1
    replace h := h.2
    refine nw_iinc l_X12_moonAtRank_70 73 rfl 1 (by decide) rfl rfl o4 (ls' := [some (.inr (.inl (some 303))), some (.inl x1), some (.inl x2), some (.inl (x3 + 1)), some (.inl (x4 + 1)), some (.inl (y1 - y0))]) rfl ?_
    refine nw_goto l_X12_moonAtRank_73 ?_
    refine nw_drop (ls' := [some (.inr (.inl (some 303))), some (.inl x1), some (.inl x2), some (.inl (x3 + 1)), some (.inl (x4 + 1)), none]) ⟨rfl, ⟨rfl, ⟨rfl, ⟨rfl, ⟨rfl, ⟨True.intro, True.intro⟩⟩⟩⟩⟩⟩ ?_
    exact h
  · replace h := h.2 q2
    refine nw_iload l_X12_moonAtRank_52 54 rfl rfl ?_
    refine nw_if_ne l_X12_moonAtRank_54 57 rfl (fun q5 => ?_) (fun q5 => ?_)
    · replace h := h.1 q5
      refine nw_iconst (len := 0) l_X12_moonAtRank_67 68 rfl c_0 ?_
      have o6 := h.1
      replace h := h.2
      refine nw_iadd l_X12_moonAtRank_68 69 rfl o6 ?_
      refine nw_istore_n l_X12_moonAtRank_69 70 rfl rfl (ls' := [some (.inr (.inl (some 303))), some (.inl x1), some (.inl x2), some (.inl (x3 + 0)), some (.inl x4), some (.inl (y1 - y0))]) rfl ?_
      have o7 := h.1
      replace h := h.2
      refine nw_iinc l_X12_moonAtRank_70 73 rfl 1 (by decide) rfl rfl o7 (ls' := [some (.inr (.inl (some 303))), some (.inl x1), some (.inl x2), some (.inl (x3 + 0)), some (.inl (x4 + 1)), some (.inl (y1 - y0))]) rfl ?_
      refine nw_goto l_X12_moonAtRank_73 ?_
      refine nw_drop (ls' := [some (.inr (.inl (some 303))), some (.inl x1), some (.inl x2), some (.inl (x3 + 0)), some (.inl (x4 + 1)), none]) ⟨rfl, ⟨rfl, ⟨rfl, ⟨rfl, ⟨rfl, ⟨True.intro, True.intro⟩⟩⟩⟩⟩⟩ ?_
      exact h
    · replace h := h.2 q5
      refine nw_iload l_X12_moonAtRank_57 59 rfl rfl ?_
      refine nw_iload_n l_X12_moonAtRank_59 60 rfl rfl ?_
      refine nw_ic_ge l_X12_moonAtRank_60 63 rfl (fun q8 => ?_) (fun q8 => ?_)
      · replace h := h.1 q8
        refine nw_iconst (len := 0) l_X12_moonAtRank_67 68 rfl c_0 ?_
        have o9 := h.1
        replace h := h.2
        refine nw_iadd l_X12_moonAtRank_68 69 rfl o9 ?_
        refine nw_istore_n l_X12_moonAtRank_69 70 rfl rfl (ls' := [some (.inr (.inl (some 303))), some (.inl x1), some (.inl x2), some (.inl (x3 + 0)), some (.inl x4), some (.inl (y1 - y0))]) rfl ?_
        have o10 := h.1
        replace h := h.2
        refine nw_iinc l_X12_moonAtRank_70 73 rfl 1 (by decide) rfl rfl o10 (ls' := [some (.inr (.inl (some 303))), some (.inl x1), some (.inl x2), some (.inl (x3 + 0)), some (.inl (x4 + 1)), some (.inl (y1 - y0))]) rfl ?_
        refine nw_goto l_X12_moonAtRank_73 ?_
        refine nw_drop (ls' := [some (.inr (.inl (some 303))), some (.inl x1), some (.inl x2), some (.inl (x3 + 0)), some (.inl (x4 + 1)), none]) ⟨rfl, ⟨rfl, ⟨rfl, ⟨rfl, ⟨rfl, ⟨True.intro, True.intro⟩⟩⟩⟩⟩⟩ ?_
        exact h
      · replace h := h.2 q8
        refine nw_iconst (len := 0) l_X12_moonAtRank_63 64 rfl c_1 ?_
        refine nw_goto l_X12_moonAtRank_64 ?_
        have o11 := h.1
        replace h := h.2
        refine nw_iadd l_X12_moonAtRank_68 69 rfl o11 ?_
        refine nw_istore_n l_X12_moonAtRank_69 70 rfl rfl (ls' := [some (.inr (.inl (some 303))), some (.inl x1), some (.inl x2), some (.inl (x3 + 1)), some (.inl x4), some (.inl (y1 - y0))]) rfl ?_
        have o12 := h.1
        replace h := h.2
        refine nw_iinc l_X12_moonAtRank_70 73 rfl 1 (by decide) rfl rfl o12 (ls' := [some (.inr (.inl (some 303))), some (.inl x1), some (.inl x2), some (.inl (x3 + 1)), some (.inl (x4 + 1)), some (.inl (y1 - y0))]) rfl ?_
        refine nw_goto l_X12_moonAtRank_73 ?_
        refine nw_drop (ls' := [some (.inr (.inl (some 303))), some (.inl x1), some (.inl x2), some (.inl (x3 + 1)), some (.inl (x4 + 1)), none]) ⟨rfl, ⟨rfl, ⟨rfl, ⟨rfl, ⟨rfl, ⟨True.intro, True.intro⟩⟩⟩⟩⟩⟩ ?_
        exact h
theorem b_X12_moonCount_0  (hD : 1 ≤ D) (h : Qr (some (.inl (J 304 4))) (nw_u J 303 13 0, L, W)) :
    NW sc d_X12_moonCount D (0, [some (.inr (.inl (some 303)))], [], (J, L, W), c, sl) Qr Qx := by
  refine nw_aload_n l_X12_moonCount_0 1 rfl rfl ?_
  refine nw_aload_n l_X12_moonCount_1 2 rfl rfl ?_
  refine nw_getA l_X12_moonCount_2 5 rfl k_303 r_303_0 ?_
  refine nw_iconst (len := 0) l_X12_moonCount_5 6 rfl c_4 ?_
  refine nw_iald l_X12_moonCount_6 7 rfl k_304 ⟨by decide, by decide⟩ (v := J 304 4) rfl ?_
  refine nw_call0 0 303 l_X12_moonCount_7 rfl rfl g_X12_done (Nat.lt_of_lt_of_le (by decide) hD) rfl (Or.inl ⟨_, rfl, k_303⟩) (ls' := [some (.inr (.inl (some 303))), some (.inl (J 304 4))]) rfl (st' := []) rfl 10 rfl ?_
  refine nw_aload_n l_X12_done_0 1 rfl rfl ?_
  refine nw_iconst (len := 0) l_X12_done_1 2 rfl c_0 ?_
  refine nw_putI l_X12_done_2 5 rfl k_303 ?_
  refine nw_iload_n l_X12_done_5 6 rfl rfl ?_
  refine nw_ireturn l_X12_done_6 rfl ?_
  refine nw_ireturn l_X12_moonCount_10 rfl ?_
  exact h
theorem b_X12_needs_0 {x1 : Int} (hD : 1 ≤ D) (h : ((¬ J 303 18 = 0 → ((-2147483648 ≤ (J 303 17) + 0 ∧ (J 303 17) + 0 < 2147483648) ∧ Qr none (nw_u (nw_u J 303 18 1) 303 17 ((J 303 17) + 0), L, W))) ∧ (J 303 18 = 0 → ((J 303 7 ≤ J 303 17 → (((-1) = x1 → ((-2147483648 ≤ (J 303 17) + 1 ∧ (J 303 17) + 1 < 2147483648) ∧ Qr none (nw_u (nw_u J 303 18 0) 303 17 ((J 303 17) + 1), L, W))) ∧ (¬ (-1) = x1 → ((-2147483648 ≤ (J 303 17) + 0 ∧ (J 303 17) + 0 < 2147483648) ∧ Qr none (nw_u (nw_u J 303 18 1) 303 17 ((J 303 17) + 0), L, W))))) ∧ (J 303 17 < J 303 7 → ((0 ≤ J 303 17 ∧ J 303 17 < 60) ∧ ((J 308 (J 303 17) = x1 → ((-2147483648 ≤ (J 303 17) + 1 ∧ (J 303 17) + 1 < 2147483648) ∧ Qr none (nw_u (nw_u J 303 18 0) 303 17 ((J 303 17) + 1), L, W))) ∧ (¬ J 308 (J 303 17) = x1 → ((-2147483648 ≤ (J 303 17) + 0 ∧ (J 303 17) + 0 < 2147483648) ∧ Qr none (nw_u (nw_u J 303 18 1) 303 17 ((J 303 17) + 0), L, W)))))))))) :
    NW sc d_X12_needs D (0, [some (.inr (.inl (some 303))), some (.inl x1)], [], (J, L, W), c, sl) Qr Qx := by
  refine nw_aload_n l_X12_needs_0 1 rfl rfl ?_
  refine nw_aload_n l_X12_needs_1 2 rfl rfl ?_
  refine nw_getZ l_X12_needs_2 5 rfl k_303 (v := J 303 18) rfl ?_
  refine nw_if_ne l_X12_needs_5 8 rfl (fun q1 => ?_) (fun q1 => ?_)
  · replace h := h.1 q1
    refine nw_iconst (len := 0) l_X12_needs_16 17 rfl c_1 ?_
    refine nw_goto l_X12_needs_17 ?_
    refine nw_putZ l_X12_needs_21 24 rfl k_303 (by decide) ?_
    refine nw_aload_n l_X12_needs_24 25 rfl rfl ?_
    refine nw_dupA l_X12_needs_25 26 rfl ?_
    refine nw_getI l_X12_needs_26 29 rfl k_303 (v := J 303 17) (show nw_u J 303 18 1 303 17 = J 303 17 from (nw_uI (i := 18) (j := 17) (by decide))) ?_
    refine nw_aload_n l_X12_needs_29 30 rfl rfl ?_
    refine nw_getZ l_X12_needs_30 33 rfl k_303 (v := 1) (show nw_u J 303 18 1 303 18 = 1 from nw_uS) ?_
    refine nw_if_eq l_X12_needs_33 36 rfl (fun q => absurd q (by decide)) (fun _ => ?_)
    refine nw_iconst (len := 0) l_X12_needs_36 37 rfl c_0 ?_
    refine nw_goto l_X12_needs_37 ?_
    have o2 := h.1
    replace h := h.2
    refine nw_iadd l_X12_needs_41 42 rfl o2 ?_
    refine nw_putI l_X12_needs_42 45 rfl k_303 ?_
    refine nw_return l_X12_needs_45 rfl ?_
    exact h
  · replace h := h.2 q1
    refine nw_aload_n l_X12_needs_8 9 rfl rfl ?_
    refine nw_call0 0 303 l_X12_needs_9 rfl rfl g_X12_here (Nat.lt_of_lt_of_le (by decide) hD) rfl (Or.inl ⟨_, rfl, k_303⟩) (ls' := [some (.inr (.inl (some 303)))]) rfl (st' := [.inr (.inl (some 303))]) rfl 12 rfl ?_
    refine nw_aload_n l_X12_here_0 1 rfl rfl ?_
    refine nw_getI l_X12_here_1 4 rfl k_303 (v := J 303 17) rfl ?_
    refine nw_aload_n l_X12_here_4 5 rfl rfl ?_
    refine nw_getI l_X12_here_5 8 rfl k_303 (v := J 303 7) rfl ?_
    refine nw_ic_ge l_X12_here_8 11 rfl (fun q3 => ?_) (fun q3 => ?_)
    · replace h := h.1 q3
      refine nw_iconst (len := 0) l_X12_here_23 24 rfl c_n1 ?_
      refine nw_ireturn l_X12_here_24 rfl ?_
      refine nw_iload_n l_X12_needs_12 13 rfl rfl ?_
      refine nw_ic_eq l_X12_needs_13 16 rfl (fun q4 => ?_) (fun q4 => ?_)
      · replace h := h.1 q4
        refine nw_iconst (len := 0) l_X12_needs_20 21 rfl c_0 ?_
        refine nw_putZ l_X12_needs_21 24 rfl k_303 (by decide) ?_
        refine nw_aload_n l_X12_needs_24 25 rfl rfl ?_
        refine nw_dupA l_X12_needs_25 26 rfl ?_
        refine nw_getI l_X12_needs_26 29 rfl k_303 (v := J 303 17) (show nw_u J 303 18 0 303 17 = J 303 17 from (nw_uI (i := 18) (j := 17) (by decide))) ?_
        refine nw_aload_n l_X12_needs_29 30 rfl rfl ?_
        refine nw_getZ l_X12_needs_30 33 rfl k_303 (v := 0) (show nw_u J 303 18 0 303 18 = 0 from nw_uS) ?_
        refine nw_if_eq l_X12_needs_33 36 rfl (fun _ => ?_) (fun q => absurd q (by decide))
        refine nw_iconst (len := 0) l_X12_needs_40 41 rfl c_1 ?_
        have o5 := h.1
        replace h := h.2
        refine nw_iadd l_X12_needs_41 42 rfl o5 ?_
        refine nw_putI l_X12_needs_42 45 rfl k_303 ?_
        refine nw_return l_X12_needs_45 rfl ?_
        exact h
      · replace h := h.2 q4
        refine nw_iconst (len := 0) l_X12_needs_16 17 rfl c_1 ?_
        refine nw_goto l_X12_needs_17 ?_
        refine nw_putZ l_X12_needs_21 24 rfl k_303 (by decide) ?_
        refine nw_aload_n l_X12_needs_24 25 rfl rfl ?_
        refine nw_dupA l_X12_needs_25 26 rfl ?_
        refine nw_getI l_X12_needs_26 29 rfl k_303 (v := J 303 17) (show nw_u J 303 18 1 303 17 = J 303 17 from (nw_uI (i := 18) (j := 17) (by decide))) ?_
        refine nw_aload_n l_X12_needs_29 30 rfl rfl ?_
        refine nw_getZ l_X12_needs_30 33 rfl k_303 (v := 1) (show nw_u J 303 18 1 303 18 = 1 from nw_uS) ?_
        refine nw_if_eq l_X12_needs_33 36 rfl (fun q => absurd q (by decide)) (fun _ => ?_)
        refine nw_iconst (len := 0) l_X12_needs_36 37 rfl c_0 ?_
        refine nw_goto l_X12_needs_37 ?_
        have o6 := h.1
        replace h := h.2
        refine nw_iadd l_X12_needs_41 42 rfl o6 ?_
        refine nw_putI l_X12_needs_42 45 rfl k_303 ?_
        refine nw_return l_X12_needs_45 rfl ?_
        exact h
    · replace h := h.2 q3
      refine nw_aload_n l_X12_here_11 12 rfl rfl ?_
      refine nw_getA l_X12_here_12 15 rfl k_303 r_303_6 ?_
      refine nw_aload_n l_X12_here_15 16 rfl rfl ?_
      refine nw_getI l_X12_here_16 19 rfl k_303 (v := J 303 17) rfl ?_
      have o7 := h.1
      replace h := h.2
      refine nw_cald l_X12_here_19 20 rfl k_308 o7 (v := J 308 (J 303 17)) rfl ?_
      refine nw_goto l_X12_here_20 ?_
      refine nw_ireturn l_X12_here_24 rfl ?_
      refine nw_iload_n l_X12_needs_12 13 rfl rfl ?_
      refine nw_ic_eq l_X12_needs_13 16 rfl (fun q8 => ?_) (fun q8 => ?_)
      · replace h := h.1 q8
        refine nw_iconst (len := 0) l_X12_needs_20 21 rfl c_0 ?_
        refine nw_putZ l_X12_needs_21 24 rfl k_303 (by decide) ?_
        refine nw_aload_n l_X12_needs_24 25 rfl rfl ?_
        refine nw_dupA l_X12_needs_25 26 rfl ?_
        refine nw_getI l_X12_needs_26 29 rfl k_303 (v := J 303 17) (show nw_u J 303 18 0 303 17 = J 303 17 from (nw_uI (i := 18) (j := 17) (by decide))) ?_
        refine nw_aload_n l_X12_needs_29 30 rfl rfl ?_
        refine nw_getZ l_X12_needs_30 33 rfl k_303 (v := 0) (show nw_u J 303 18 0 303 18 = 0 from nw_uS) ?_
        refine nw_if_eq l_X12_needs_33 36 rfl (fun _ => ?_) (fun q => absurd q (by decide))
        refine nw_iconst (len := 0) l_X12_needs_40 41 rfl c_1 ?_
        have o9 := h.1
        replace h := h.2
        refine nw_iadd l_X12_needs_41 42 rfl o9 ?_
        refine nw_putI l_X12_needs_42 45 rfl k_303 ?_
        refine nw_return l_X12_needs_45 rfl ?_
        exact h
      · replace h := h.2 q8
        refine nw_iconst (len := 0) l_X12_needs_16 17 rfl c_1 ?_
        refine nw_goto l_X12_needs_17 ?_
        refine nw_putZ l_X12_needs_21 24 rfl k_303 (by decide) ?_
        refine nw_aload_n l_X12_needs_24 25 rfl rfl ?_
        refine nw_dupA l_X12_needs_25 26 rfl ?_
        refine nw_getI l_X12_needs_26 29 rfl k_303 (v := J 303 17) (show nw_u J 303 18 1 303 17 = J 303 17 from (nw_uI (i := 18) (j := 17) (by decide))) ?_
        refine nw_aload_n l_X12_needs_29 30 rfl rfl ?_
        refine nw_getZ l_X12_needs_30 33 rfl k_303 (v := 1) (show nw_u J 303 18 1 303 18 = 1 from nw_uS) ?_
        refine nw_if_eq l_X12_needs_33 36 rfl (fun q => absurd q (by decide)) (fun _ => ?_)
        refine nw_iconst (len := 0) l_X12_needs_36 37 rfl c_0 ?_
        refine nw_goto l_X12_needs_37 ?_
        have o10 := h.1
        replace h := h.2
        refine nw_iadd l_X12_needs_41 42 rfl o10 ?_
        refine nw_putI l_X12_needs_42 45 rfl k_303 ?_
        refine nw_return l_X12_needs_45 rfl ?_
        exact h
theorem b_X12_needsThree_0 {x1 : Int} {x2 : Int} {x3 : Int} (hD : 2 ≤ D) (h : NW sc d_X12_needs 1 (0, [some (.inr (.inl (some 303))), some (.inl x1)], [], (J, L, W), 0, 0) (fun v M9 => NW sc d_X12_needsThree D (5, [some (.inr (.inl (some 303))), none, some (.inl x2), some (.inl x3)], nw_push v [], M9, c, sl) Qr Qx) Qx) :
    NW sc d_X12_needsThree D (0, [some (.inr (.inl (some 303))), some (.inl x1), some (.inl x2), some (.inl x3)], [], (J, L, W), c, sl) Qr Qx := by
  refine nw_aload_n l_X12_needsThree_0 1 rfl rfl ?_
  refine nw_iload_n l_X12_needsThree_1 2 rfl rfl ?_
  refine nw_drop (ls' := [some (.inr (.inl (some 303))), none, some (.inl x2), some (.inl x3)]) ⟨rfl, ⟨True.intro, ⟨rfl, ⟨rfl, True.intro⟩⟩⟩⟩ ?_
  refine nw_call0 1 303 l_X12_needsThree_2 rfl rfl g_X12_needs (Nat.lt_of_lt_of_le (by decide) hD) rfl (Or.inl ⟨_, rfl, k_303⟩) (ls' := [some (.inr (.inl (some 303))), some (.inl x1)]) rfl (st' := []) rfl 5 rfl ?_
  exact h
theorem b_X12_needsThree_5 {x2 : Int} {x3 : Int} (hD : 2 ≤ D) (h : NW sc d_X12_needs 1 (0, [some (.inr (.inl (some 303))), some (.inl x2)], [], (J, L, W), 0, 0) (fun v M9 => NW sc d_X12_needsThree D (10, [some (.inr (.inl (some 303))), none, none, some (.inl x3)], nw_push v [], M9, c, sl) Qr Qx) Qx) :
    NW sc d_X12_needsThree D (5, [some (.inr (.inl (some 303))), none, some (.inl x2), some (.inl x3)], [], (J, L, W), c, sl) Qr Qx := by
  refine nw_aload_n l_X12_needsThree_5 6 rfl rfl ?_
  refine nw_iload_n l_X12_needsThree_6 7 rfl rfl ?_
  refine nw_drop (ls' := [some (.inr (.inl (some 303))), none, none, some (.inl x3)]) ⟨rfl, ⟨True.intro, ⟨True.intro, ⟨rfl, True.intro⟩⟩⟩⟩ ?_
  refine nw_call0 1 303 l_X12_needsThree_7 rfl rfl g_X12_needs (Nat.lt_of_lt_of_le (by decide) hD) rfl (Or.inl ⟨_, rfl, k_303⟩) (ls' := [some (.inr (.inl (some 303))), some (.inl x2)]) rfl (st' := []) rfl 10 rfl ?_
  exact h
theorem b_X12_needsThree_10 {x3 : Int} (hD : 2 ≤ D) (h : NW sc d_X12_needs 1 (0, [some (.inr (.inl (some 303))), some (.inl x3)], [], (J, L, W), 0, 0) (fun v M9 => NW sc d_X12_needsThree D (15, [none, none, none, none], nw_push v [], M9, c, sl) Qr Qx) Qx) :
    NW sc d_X12_needsThree D (10, [some (.inr (.inl (some 303))), none, none, some (.inl x3)], [], (J, L, W), c, sl) Qr Qx := by
  refine nw_aload_n l_X12_needsThree_10 11 rfl rfl ?_
  refine nw_iload_n l_X12_needsThree_11 12 rfl rfl ?_
  refine nw_drop (ls' := [none, none, none, none]) ⟨True.intro, ⟨True.intro, ⟨True.intro, ⟨True.intro, True.intro⟩⟩⟩⟩ ?_
  refine nw_call0 1 303 l_X12_needsThree_12 rfl rfl g_X12_needs (Nat.lt_of_lt_of_le (by decide) hD) rfl (Or.inl ⟨_, rfl, k_303⟩) (ls' := [some (.inr (.inl (some 303))), some (.inl x3)]) rfl (st' := []) rfl 15 rfl ?_
  exact h
theorem b_X12_needsThree_15  (h : Qr none (J, L, W)) :
    NW sc d_X12_needsThree D (15, [none, none, none, none], [], (J, L, W), c, sl) Qr Qx := by
  refine nw_return l_X12_needsThree_15 rfl ?_
  exact h
theorem b_X12_notes_0 {x1 : Int} (h : NW sc d_X12_notes D (4, [some (.inr (.inl (some 303))), some (.inl x1), some (.inl 131), none], [], (J, L, W), c, sl) Qr Qx) :
    NW sc d_X12_notes D (0, [some (.inr (.inl (some 303))), some (.inl x1), none, none], [], (J, L, W), c, sl) Qr Qx := by
  refine nw_sipush (len := 0) l_X12_notes_0 3 rfl c_131 ?_
  refine nw_istore_n l_X12_notes_3 4 rfl rfl (ls' := [some (.inr (.inl (some 303))), some (.inl x1), some (.inl 131), none]) rfl ?_
  exact h
theorem b_X12_notes_4 {x1 : Int} {x2 : Int} (h : ((161 ≤ x2 → ((-2147483648 ≤ 56 + x1 ∧ 56 + x1 < 2147483648) ∧ ((0 ≤ 56 + x1 ∧ 56 + x1 < 161) ∧ ((-2147483648 ≤ (J 304 8) + 1 ∧ (J 304 8) + 1 < 2147483648) ∧ Qr none (nw_u (nw_u (nw_u (nw_u J 304 131 x1) 304 141 ((nw_u J 304 131 x1) 304 (56 + x1))) 304 151 (J 304 0)) 304 8 ((J 304 8) + 1), L, W))))) ∧ (x2 < 161 → NW sc d_X12_notes D (14, [some (.inr (.inl (some 303))), some (.inl x1), some (.inl x2), some (.inl 9)], [], (J, L, W), c, sl) Qr Qx))) :
    NW sc d_X12_notes D (4, [some (.inr (.inl (some 303))), some (.inl x1), some (.inl x2), none], [], (J, L, W), c, sl) Qr Qx := by
  refine nw_iload_n l_X12_notes_4 5 rfl rfl ?_
  refine nw_sipush (len := 0) l_X12_notes_5 8 rfl c_161 ?_
  refine nw_ic_ge l_X12_notes_8 11 rfl (fun q1 => ?_) (fun q1 => ?_)
  · replace h := h.1 q1
    refine nw_aload_n l_X12_notes_48 49 rfl rfl ?_
    refine nw_getA l_X12_notes_49 52 rfl k_303 r_303_0 ?_
    refine nw_sipush (len := 0) l_X12_notes_52 55 rfl c_131 ?_
    refine nw_iload_n l_X12_notes_55 56 rfl rfl ?_
    refine nw_iast l_X12_notes_56 57 rfl k_304 ⟨by decide, by decide⟩ ?_
    refine nw_aload_n l_X12_notes_57 58 rfl rfl ?_
    refine nw_getA l_X12_notes_58 61 rfl k_303 r_303_0 ?_
    refine nw_sipush (len := 0) l_X12_notes_61 64 rfl c_141 ?_
    refine nw_aload_n l_X12_notes_64 65 rfl rfl ?_
    refine nw_getA l_X12_notes_65 68 rfl k_303 r_303_0 ?_
    refine nw_bipush (len := 0) l_X12_notes_68 70 rfl c_56 ?_
    refine nw_iload_n l_X12_notes_70 71 rfl rfl ?_
    have o2 := h.1
    replace h := h.2
    refine nw_iadd l_X12_notes_71 72 rfl o2 ?_
    have o3 := h.1
    replace h := h.2
    refine nw_iald l_X12_notes_72 73 rfl k_304 o3 (v := (nw_u J 304 131 x1) 304 (56 + x1)) rfl ?_
    refine nw_iast l_X12_notes_73 74 rfl k_304 ⟨by decide, by decide⟩ ?_
    refine nw_aload_n l_X12_notes_74 75 rfl rfl ?_
    refine nw_getA l_X12_notes_75 78 rfl k_303 r_303_0 ?_
    refine nw_sipush (len := 0) l_X12_notes_78 81 rfl c_151 ?_
    refine nw_aload_n l_X12_notes_81 82 rfl rfl ?_
    refine nw_getA l_X12_notes_82 85 rfl k_303 r_303_0 ?_
    refine nw_iconst (len := 0) l_X12_notes_85 86 rfl c_0 ?_
    refine nw_iald l_X12_notes_86 87 rfl k_304 ⟨by decide, by decide⟩ (v := J 304 0) (show nw_u (nw_u J 304 131 x1) 304 141 ((nw_u J 304 131 x1) 304 (56 + x1)) 304 0 = J 304 0 from (nw_uI (i := 141) (j := 0) (by decide)).trans (nw_uI (i := 131) (j := 0) (by decide))) ?_
    refine nw_iast l_X12_notes_87 88 rfl k_304 ⟨by decide, by decide⟩ ?_
    refine nw_aload_n l_X12_notes_88 89 rfl rfl ?_
    refine nw_getA l_X12_notes_89 92 rfl k_303 r_303_0 ?_
    refine nw_bipush (len := 0) l_X12_notes_92 94 rfl c_8 ?_
    refine nw_dup2 l_X12_notes_94 95 rfl ?_
    refine nw_iald l_X12_notes_95 96 rfl k_304 ⟨by decide, by decide⟩ (v := J 304 8) (show nw_u (nw_u (nw_u J 304 131 x1) 304 141 ((nw_u J 304 131 x1) 304 (56 + x1))) 304 151 (J 304 0) 304 8 = J 304 8 from (nw_uI (i := 151) (j := 8) (by decide)).trans ((nw_uI (i := 141) (j := 8) (by decide)).trans (nw_uI (i := 131) (j := 8) (by decide)))) ?_
    refine nw_iconst (len := 0) l_X12_notes_96 97 rfl c_1 ?_
    have o4 := h.1
    replace h := h.2
    refine nw_iadd l_X12_notes_97 98 rfl o4 ?_
    refine nw_iast l_X12_notes_98 99 rfl k_304 ⟨by decide, by decide⟩ ?_
    refine nw_return l_X12_notes_99 rfl ?_
    exact h
  · replace h := h.2 q1
    refine nw_bipush (len := 0) l_X12_notes_11 13 rfl c_9 ?_
    refine nw_istore_n l_X12_notes_13 14 rfl rfl (ls' := [some (.inr (.inl (some 303))), some (.inl x1), some (.inl x2), some (.inl 9)]) rfl ?_
    exact h
theorem b_X12_notes_14 {x1 : Int} {x2 : Int} {x3 : Int} (h : ((x3 ≤ 0 → ((-2147483648 ≤ x2 + 10 ∧ x2 + 10 < 2147483648) ∧ NW sc d_X12_notes D (4, [some (.inr (.inl (some 303))), some (.inl x1), some (.inl (x2 + 10)), none], [], (J, L, W), c, sl) Qr Qx)) ∧ (0 < x3 → ((-2147483648 ≤ x2 + x3 ∧ x2 + x3 < 2147483648) ∧ ((-2147483648 ≤ (x2 + x3) - 1 ∧ (x2 + x3) - 1 < 2147483648) ∧ ((0 ≤ (x2 + x3) - 1 ∧ (x2 + x3) - 1 < 161) ∧ ((0 ≤ x2 + x3 ∧ x2 + x3 < 161) ∧ ((-2147483648 ≤ x3 + (-1) ∧ x3 + (-1) < 2147483648) ∧ NW sc d_X12_notes D (14, [some (.inr (.inl (some 303))), some (.inl x1), some (.inl x2), some (.inl (x3 + (-1)))], [], (nw_u J 304 (x2 + x3) (J 304 ((x2 + x3) - 1)), L, W), c, sl) Qr Qx)))))))) :
    NW sc d_X12_notes D (14, [some (.inr (.inl (some 303))), some (.inl x1), some (.inl x2), some (.inl x3)], [], (J, L, W), c, sl) Qr Qx := by
  refine nw_iload_n l_X12_notes_14 15 rfl rfl ?_
  refine nw_if_le l_X12_notes_15 18 rfl (fun q1 => ?_) (fun q1 => ?_)
  · replace h := h.1 q1
    have o2 := h.1
    replace h := h.2
    refine nw_iinc l_X12_notes_42 45 rfl 10 (by decide) rfl rfl o2 (ls' := [some (.inr (.inl (some 303))), some (.inl x1), some (.inl (x2 + 10)), some (.inl x3)]) rfl ?_
    refine nw_goto l_X12_notes_45 ?_
    refine nw_drop (ls' := [some (.inr (.inl (some 303))), some (.inl x1), some (.inl (x2 + 10)), none]) ⟨rfl, ⟨rfl, ⟨rfl, ⟨True.intro, True.intro⟩⟩⟩⟩ ?_
    exact h
  · replace h := h.2 q1
    refine nw_aload_n l_X12_notes_18 19 rfl rfl ?_
    refine nw_getA l_X12_notes_19 22 rfl k_303 r_303_0 ?_
    refine nw_iload_n l_X12_notes_22 23 rfl rfl ?_
    refine nw_iload_n l_X12_notes_23 24 rfl rfl ?_
    have o3 := h.1
    replace h := h.2
    refine nw_iadd l_X12_notes_24 25 rfl o3 ?_
    refine nw_aload_n l_X12_notes_25 26 rfl rfl ?_
    refine nw_getA l_X12_notes_26 29 rfl k_303 r_303_0 ?_
    refine nw_iload_n l_X12_notes_29 30 rfl rfl ?_
    refine nw_iload_n l_X12_notes_30 31 rfl rfl ?_
    refine nw_iadd l_X12_notes_31 32 rfl o3 ?_
    refine nw_iconst (len := 0) l_X12_notes_32 33 rfl c_1 ?_
    have o4 := h.1
    replace h := h.2
    refine nw_isub l_X12_notes_33 34 rfl o4 ?_
    have o5 := h.1
    replace h := h.2
    refine nw_iald l_X12_notes_34 35 rfl k_304 o5 (v := J 304 ((x2 + x3) - 1)) rfl ?_
    have o6 := h.1
    replace h := h.2
    refine nw_iast l_X12_notes_35 36 rfl k_304 o6 ?_
    have o7 := h.1
    replace h := h.2
    refine nw_iinc l_X12_notes_36 39 rfl (-1) (by decide) rfl rfl o7 (ls' := [some (.inr (.inl (some 303))), some (.inl x1), some (.inl x2), some (.inl (x3 + (-1)))]) rfl ?_
    refine nw_goto l_X12_notes_39 ?_
    exact h
theorem b_X12_parsesC_0 {x1 : Int} (hD : 3 ≤ D) (h : ((J 303 7 ≤ J 303 17 → NW sc d_X12_needsThree 2 (0, [some (.inr (.inl (some 303))), some (.inl 114), some (.inl 97), some (.inl 116)], [], (J, L, W), 0, 0) (fun v M9 => NW sc d_X12_parsesC D (102, [some (.inr (.inl (some 303))), some (.inl x1)], nw_push v [], M9, c, sl) Qr Qx) Qx) ∧ (J 303 17 < J 303 7 → ((0 ≤ J 303 17 ∧ J 303 17 < 60) ∧ ((¬ J 308 (J 303 17) = 104 → NW sc d_X12_needsThree 2 (0, [some (.inr (.inl (some 303))), some (.inl 114), some (.inl 97), some (.inl 116)], [], (J, L, W), 0, 0) (fun v M9 => NW sc d_X12_parsesC D (102, [some (.inr (.inl (some 303))), some (.inl x1)], nw_push v [], M9, c, sl) Qr Qx) Qx) ∧ (J 308 (J 303 17) = 104 → ((0 ≤ x1 ∧ x1 < 300) ∧ NW sc d_X12_needsThree 2 (0, [some (.inr (.inl (some 303))), some (.inl 104), some (.inl 97), some (.inl 110)], [], (nw_u J 313 x1 104, L, W), 0, 0) (fun v M9 => NW sc d_X12_parsesC D (27, [some (.inr (.inl (some 303))), some (.inl x1)], nw_push v [], M9, c, sl) Qr Qx) Qx))))))) :
    NW sc d_X12_parsesC D (0, [some (.inr (.inl (some 303))), some (.inl x1)], [], (J, L, W), c, sl) Qr Qx := by
  refine nw_aload_n l_X12_parsesC_0 1 rfl rfl ?_
  refine nw_call0 0 303 l_X12_parsesC_1 rfl rfl g_X12_here (Nat.lt_of_lt_of_le (by decide) hD) rfl (Or.inl ⟨_, rfl, k_303⟩) (ls' := [some (.inr (.inl (some 303)))]) rfl (st' := []) rfl 4 rfl ?_
  refine nw_aload_n l_X12_here_0 1 rfl rfl ?_
  refine nw_getI l_X12_here_1 4 rfl k_303 (v := J 303 17) rfl ?_
  refine nw_aload_n l_X12_here_4 5 rfl rfl ?_
  refine nw_getI l_X12_here_5 8 rfl k_303 (v := J 303 7) rfl ?_
  refine nw_ic_ge l_X12_here_8 11 rfl (fun q1 => ?_) (fun q1 => ?_)
  · replace h := h.1 q1
    refine nw_iconst (len := 0) l_X12_here_23 24 rfl c_n1 ?_
    refine nw_ireturn l_X12_here_24 rfl ?_
    refine nw_bipush (len := 0) l_X12_parsesC_4 6 rfl c_104 ?_
    refine nw_ic_ne l_X12_parsesC_6 9 rfl (fun _ => ?_) (fun q => absurd q (by decide))
    refine nw_aload_n l_X12_parsesC_92 93 rfl rfl ?_
    refine nw_bipush (len := 0) l_X12_parsesC_93 95 rfl c_114 ?_
    refine nw_bipush (len := 0) l_X12_parsesC_95 97 rfl c_97 ?_
    refine nw_bipush (len := 0) l_X12_parsesC_97 99 rfl c_116 ?_
    refine nw_call0 2 303 l_X12_parsesC_99 rfl rfl g_X12_needsThree (Nat.lt_of_lt_of_le (by decide) hD) rfl (Or.inl ⟨_, rfl, k_303⟩) (ls' := [some (.inr (.inl (some 303))), some (.inl 114), some (.inl 97), some (.inl 116)]) rfl (st' := []) rfl 102 rfl ?_
    exact h
  · replace h := h.2 q1
    refine nw_aload_n l_X12_here_11 12 rfl rfl ?_
    refine nw_getA l_X12_here_12 15 rfl k_303 r_303_6 ?_
    refine nw_aload_n l_X12_here_15 16 rfl rfl ?_
    refine nw_getI l_X12_here_16 19 rfl k_303 (v := J 303 17) rfl ?_
    have o2 := h.1
    replace h := h.2
    refine nw_cald l_X12_here_19 20 rfl k_308 o2 (v := J 308 (J 303 17)) rfl ?_
    refine nw_goto l_X12_here_20 ?_
    refine nw_ireturn l_X12_here_24 rfl ?_
    refine nw_bipush (len := 0) l_X12_parsesC_4 6 rfl c_104 ?_
    refine nw_ic_ne l_X12_parsesC_6 9 rfl (fun q3 => ?_) (fun q3 => ?_)
    · replace h := h.1 q3
      refine nw_aload_n l_X12_parsesC_92 93 rfl rfl ?_
      refine nw_bipush (len := 0) l_X12_parsesC_93 95 rfl c_114 ?_
      refine nw_bipush (len := 0) l_X12_parsesC_95 97 rfl c_97 ?_
      refine nw_bipush (len := 0) l_X12_parsesC_97 99 rfl c_116 ?_
      refine nw_call0 2 303 l_X12_parsesC_99 rfl rfl g_X12_needsThree (Nat.lt_of_lt_of_le (by decide) hD) rfl (Or.inl ⟨_, rfl, k_303⟩) (ls' := [some (.inr (.inl (some 303))), some (.inl 114), some (.inl 97), some (.inl 116)]) rfl (st' := []) rfl 102 rfl ?_
      exact h
    · replace h := h.2 q3
      refine nw_aload_n l_X12_parsesC_9 10 rfl rfl ?_
      refine nw_getA l_X12_parsesC_10 13 rfl k_303 r_303_19 ?_
      refine nw_iload_n l_X12_parsesC_13 14 rfl rfl ?_
      refine nw_bipush (len := 0) l_X12_parsesC_14 16 rfl c_104 ?_
      have o4 := h.1
      replace h := h.2
      refine nw_iast l_X12_parsesC_16 17 rfl k_313 o4 ?_
      refine nw_aload_n l_X12_parsesC_17 18 rfl rfl ?_
      refine nw_bipush (len := 0) l_X12_parsesC_18 20 rfl c_104 ?_
      refine nw_bipush (len := 0) l_X12_parsesC_20 22 rfl c_97 ?_
      refine nw_bipush (len := 0) l_X12_parsesC_22 24 rfl c_110 ?_
      refine nw_call0 2 303 l_X12_parsesC_24 rfl rfl g_X12_needsThree (Nat.lt_of_lt_of_le (by decide) hD) rfl (Or.inl ⟨_, rfl, k_303⟩) (ls' := [some (.inr (.inl (some 303))), some (.inl 104), some (.inl 97), some (.inl 110)]) rfl (st' := []) rfl 27 rfl ?_
      exact h
theorem b_X12_parsesC_102 {x1 : Int} (hD : 3 ≤ D) (h : NW sc d_X12_needs 1 (0, [some (.inr (.inl (some 303))), some (.inl 101)], [], (J, L, W), 0, 0) (fun v M9 => NW sc d_X12_parsesC D (108, [some (.inr (.inl (some 303))), some (.inl x1)], nw_push v [], M9, c, sl) Qr Qx) Qx) :
    NW sc d_X12_parsesC D (102, [some (.inr (.inl (some 303))), some (.inl x1)], [], (J, L, W), c, sl) Qr Qx := by
  refine nw_aload_n l_X12_parsesC_102 103 rfl rfl ?_
  refine nw_bipush (len := 0) l_X12_parsesC_103 105 rfl c_101 ?_
  refine nw_call0 1 303 l_X12_parsesC_105 rfl rfl g_X12_needs (Nat.lt_of_lt_of_le (by decide) hD) rfl (Or.inl ⟨_, rfl, k_303⟩) (ls' := [some (.inr (.inl (some 303))), some (.inl 101)]) rfl (st' := []) rfl 108 rfl ?_
  exact h
theorem b_X12_parsesC_27 {x1 : Int} (hD : 3 ≤ D) (h : NW sc d_X12_needsThree 2 (0, [some (.inr (.inl (some 303))), some (.inl 110), some (.inl 101), some (.inl 108)], [], (J, L, W), 0, 0) (fun v M9 => NW sc d_X12_parsesC D (37, [some (.inr (.inl (some 303))), some (.inl x1)], nw_push v [], M9, c, sl) Qr Qx) Qx) :
    NW sc d_X12_parsesC D (27, [some (.inr (.inl (some 303))), some (.inl x1)], [], (J, L, W), c, sl) Qr Qx := by
  refine nw_aload_n l_X12_parsesC_27 28 rfl rfl ?_
  refine nw_bipush (len := 0) l_X12_parsesC_28 30 rfl c_110 ?_
  refine nw_bipush (len := 0) l_X12_parsesC_30 32 rfl c_101 ?_
  refine nw_bipush (len := 0) l_X12_parsesC_32 34 rfl c_108 ?_
  refine nw_call0 2 303 l_X12_parsesC_34 rfl rfl g_X12_needsThree (Nat.lt_of_lt_of_le (by decide) hD) rfl (Or.inl ⟨_, rfl, k_303⟩) (ls' := [some (.inr (.inl (some 303))), some (.inl 110), some (.inl 101), some (.inl 108)]) rfl (st' := []) rfl 37 rfl ?_
  exact h
theorem b_X12_parsesC_108 {x1 : Int} (hD : 3 ≤ D) (h : NW sc d_X12_needs 1 (0, [some (.inr (.inl (some 303))), some (.inl 114)], [], (J, L, W), 0, 0) (fun v M9 => NW sc d_X12_parsesC D (114, [some (.inr (.inl (some 303))), some (.inl x1)], nw_push v [], M9, c, sl) Qr Qx) Qx) :
    NW sc d_X12_parsesC D (108, [some (.inr (.inl (some 303))), some (.inl x1)], [], (J, L, W), c, sl) Qr Qx := by
  refine nw_aload_n l_X12_parsesC_108 109 rfl rfl ?_
  refine nw_bipush (len := 0) l_X12_parsesC_109 111 rfl c_114 ?_
  refine nw_call0 1 303 l_X12_parsesC_111 rfl rfl g_X12_needs (Nat.lt_of_lt_of_le (by decide) hD) rfl (Or.inl ⟨_, rfl, k_303⟩) (ls' := [some (.inr (.inl (some 303))), some (.inl 114)]) rfl (st' := []) rfl 114 rfl ?_
  exact h
theorem b_X12_parsesC_37 {x1 : Int} (hD : 3 ≤ D) (h : ((-2147483648 ≤ x1 + 1 ∧ x1 + 1 < 2147483648) ∧ NW sc d_X12_digitsAfter 2 (0, [some (.inr (.inl (some 303))), some (.inl 1)], [], (J, L, W), 0, 0) (fun v M9 => NW sc d_X12_parsesC D (49, [some (.inr (.inl (some 303))), some (.inl x1)], nw_push v [.inl (x1 + 1), .inr (.inl (some 313))], M9, c, sl) Qr Qx) Qx)) :
    NW sc d_X12_parsesC D (37, [some (.inr (.inl (some 303))), some (.inl x1)], [], (J, L, W), c, sl) Qr Qx := by
  refine nw_aload_n l_X12_parsesC_37 38 rfl rfl ?_
  refine nw_getA l_X12_parsesC_38 41 rfl k_303 r_303_19 ?_
  refine nw_iload_n l_X12_parsesC_41 42 rfl rfl ?_
  refine nw_iconst (len := 0) l_X12_parsesC_42 43 rfl c_1 ?_
  have o1 := h.1
  replace h := h.2
  refine nw_iadd l_X12_parsesC_43 44 rfl o1 ?_
  refine nw_aload_n l_X12_parsesC_44 45 rfl rfl ?_
  refine nw_iconst (len := 0) l_X12_parsesC_45 46 rfl c_1 ?_
  refine nw_call0 2 303 l_X12_parsesC_46 rfl rfl g_X12_digitsAfter (Nat.lt_of_lt_of_le (by decide) hD) rfl (Or.inl ⟨_, rfl, k_303⟩) (ls' := [some (.inr (.inl (some 303))), some (.inl 1)]) rfl (st' := [.inl (x1 + 1), .inr (.inl (some 313))]) rfl 49 rfl ?_
  exact h
theorem b_X12_parsesC_114 {x1 : Int} (hD : 3 ≤ D) (h : ((-2147483648 ≤ x1 + 1 ∧ x1 + 1 < 2147483648) ∧ NW sc d_X12_digitsAfter 2 (0, [some (.inr (.inl (some 303))), some (.inl 1)], [], (J, L, W), 0, 0) (fun v M9 => NW sc d_X12_parsesC D (126, [none, none], nw_push v [.inl (x1 + 1), .inr (.inl (some 313))], M9, c, sl) Qr Qx) Qx)) :
    NW sc d_X12_parsesC D (114, [some (.inr (.inl (some 303))), some (.inl x1)], [], (J, L, W), c, sl) Qr Qx := by
  refine nw_aload_n l_X12_parsesC_114 115 rfl rfl ?_
  refine nw_getA l_X12_parsesC_115 118 rfl k_303 r_303_19 ?_
  refine nw_iload_n l_X12_parsesC_118 119 rfl rfl ?_
  refine nw_iconst (len := 0) l_X12_parsesC_119 120 rfl c_1 ?_
  have o1 := h.1
  replace h := h.2
  refine nw_iadd l_X12_parsesC_120 121 rfl o1 ?_
  refine nw_aload_n l_X12_parsesC_121 122 rfl rfl ?_
  refine nw_iconst (len := 0) l_X12_parsesC_122 123 rfl c_1 ?_
  refine nw_drop (ls' := [none, none]) ⟨True.intro, ⟨True.intro, True.intro⟩⟩ ?_
  refine nw_call0 2 303 l_X12_parsesC_123 rfl rfl g_X12_digitsAfter (Nat.lt_of_lt_of_le (by decide) hD) rfl (Or.inl ⟨_, rfl, k_303⟩) (ls' := [some (.inr (.inl (some 303))), some (.inl 1)]) rfl (st' := [.inl (x1 + 1), .inr (.inl (some 313))]) rfl 126 rfl ?_
  exact h
theorem b_X12_parsesC_49 {x1 : Int} {y0 : Int} {y1 : Int} (hD : 3 ≤ D) (h : ((0 ≤ y1 ∧ y1 < 300) ∧ ((-2147483648 ≤ x1 + 2 ∧ x1 + 2 < 2147483648) ∧ NW sc d_X12_digits 1 (0, [some (.inr (.inl (some 303))), some (.inl 1), none, none], [], (nw_u J 313 y1 y0, L, W), 0, 0) (fun v M9 => NW sc d_X12_parsesC D (62, [some (.inr (.inl (some 303))), some (.inl x1)], nw_push v [.inl (x1 + 2), .inr (.inl (some 313))], M9, c, sl) Qr Qx) Qx))) :
    NW sc d_X12_parsesC D (49, [some (.inr (.inl (some 303))), some (.inl x1)], [.inl y0, .inl y1, .inr (.inl (some 313))], (J, L, W), c, sl) Qr Qx := by
  have o1 := h.1
  replace h := h.2
  refine nw_iast l_X12_parsesC_49 50 rfl k_313 o1 ?_
  refine nw_aload_n l_X12_parsesC_50 51 rfl rfl ?_
  refine nw_getA l_X12_parsesC_51 54 rfl k_303 r_303_19 ?_
  refine nw_iload_n l_X12_parsesC_54 55 rfl rfl ?_
  refine nw_iconst (len := 0) l_X12_parsesC_55 56 rfl c_2 ?_
  have o2 := h.1
  replace h := h.2
  refine nw_iadd l_X12_parsesC_56 57 rfl o2 ?_
  refine nw_aload_n l_X12_parsesC_57 58 rfl rfl ?_
  refine nw_iconst (len := 0) l_X12_parsesC_58 59 rfl c_1 ?_
  refine nw_call0 1 303 l_X12_parsesC_59 rfl rfl g_X12_digits (Nat.lt_of_lt_of_le (by decide) hD) rfl (Or.inl ⟨_, rfl, k_303⟩) (ls' := [some (.inr (.inl (some 303))), some (.inl 1), none, none]) rfl (st' := [.inl (x1 + 2), .inr (.inl (some 313))]) rfl 62 rfl ?_
  exact h
theorem b_X12_parsesC_126 {y0 : Int} {y1 : Int} (h : ((0 ≤ y1 ∧ y1 < 300) ∧ Qr none (nw_u J 313 y1 y0, L, W))) :
    NW sc d_X12_parsesC D (126, [none, none], [.inl y0, .inl y1, .inr (.inl (some 313))], (J, L, W), c, sl) Qr Qx := by
  have o1 := h.1
  replace h := h.2
  refine nw_iast l_X12_parsesC_126 127 rfl k_313 o1 ?_
  refine nw_return l_X12_parsesC_127 rfl ?_
  exact h
theorem b_X12_parsesC_62 {x1 : Int} {y0 : Int} {y1 : Int} (hD : 3 ≤ D) (h : ((0 ≤ y1 ∧ y1 < 300) ∧ ((-2147483648 ≤ x1 + 3 ∧ x1 + 3 < 2147483648) ∧ NW sc d_X12_digitsAfter 2 (0, [some (.inr (.inl (some 303))), some (.inl 1)], [], (nw_u J 313 y1 y0, L, W), 0, 0) (fun v M9 => NW sc d_X12_parsesC D (75, [some (.inr (.inl (some 303))), some (.inl x1)], nw_push v [.inl (x1 + 3), .inr (.inl (some 313))], M9, c, sl) Qr Qx) Qx))) :
    NW sc d_X12_parsesC D (62, [some (.inr (.inl (some 303))), some (.inl x1)], [.inl y0, .inl y1, .inr (.inl (some 313))], (J, L, W), c, sl) Qr Qx := by
  have o1 := h.1
  replace h := h.2
  refine nw_iast l_X12_parsesC_62 63 rfl k_313 o1 ?_
  refine nw_aload_n l_X12_parsesC_63 64 rfl rfl ?_
  refine nw_getA l_X12_parsesC_64 67 rfl k_303 r_303_19 ?_
  refine nw_iload_n l_X12_parsesC_67 68 rfl rfl ?_
  refine nw_iconst (len := 0) l_X12_parsesC_68 69 rfl c_3 ?_
  have o2 := h.1
  replace h := h.2
  refine nw_iadd l_X12_parsesC_69 70 rfl o2 ?_
  refine nw_aload_n l_X12_parsesC_70 71 rfl rfl ?_
  refine nw_iconst (len := 0) l_X12_parsesC_71 72 rfl c_1 ?_
  refine nw_call0 2 303 l_X12_parsesC_72 rfl rfl g_X12_digitsAfter (Nat.lt_of_lt_of_le (by decide) hD) rfl (Or.inl ⟨_, rfl, k_303⟩) (ls' := [some (.inr (.inl (some 303))), some (.inl 1)]) rfl (st' := [.inl (x1 + 3), .inr (.inl (some 313))]) rfl 75 rfl ?_
  exact h
theorem b_X12_parsesC_75 {x1 : Int} {y0 : Int} {y1 : Int} (hD : 3 ≤ D) (h : ((0 ≤ y1 ∧ y1 < 300) ∧ ((-2147483648 ≤ x1 + 4 ∧ x1 + 4 < 2147483648) ∧ NW sc d_X12_digitsAfter 2 (0, [some (.inr (.inl (some 303))), some (.inl 1)], [], (nw_u J 313 y1 y0, L, W), 0, 0) (fun v M9 => NW sc d_X12_parsesC D (88, [none, none], nw_push v [.inl (x1 + 4), .inr (.inl (some 313))], M9, c, sl) Qr Qx) Qx))) :
    NW sc d_X12_parsesC D (75, [some (.inr (.inl (some 303))), some (.inl x1)], [.inl y0, .inl y1, .inr (.inl (some 313))], (J, L, W), c, sl) Qr Qx := by
  have o1 := h.1
  replace h := h.2
  refine nw_iast l_X12_parsesC_75 76 rfl k_313 o1 ?_
  refine nw_aload_n l_X12_parsesC_76 77 rfl rfl ?_
  refine nw_getA l_X12_parsesC_77 80 rfl k_303 r_303_19 ?_
  refine nw_iload_n l_X12_parsesC_80 81 rfl rfl ?_
  refine nw_iconst (len := 0) l_X12_parsesC_81 82 rfl c_4 ?_
  have o2 := h.1
  replace h := h.2
  refine nw_iadd l_X12_parsesC_82 83 rfl o2 ?_
  refine nw_aload_n l_X12_parsesC_83 84 rfl rfl ?_
  refine nw_iconst (len := 0) l_X12_parsesC_84 85 rfl c_1 ?_
  refine nw_drop (ls' := [none, none]) ⟨True.intro, ⟨True.intro, True.intro⟩⟩ ?_
  refine nw_call0 2 303 l_X12_parsesC_85 rfl rfl g_X12_digitsAfter (Nat.lt_of_lt_of_le (by decide) hD) rfl (Or.inl ⟨_, rfl, k_303⟩) (ls' := [some (.inr (.inl (some 303))), some (.inl 1)]) rfl (st' := [.inl (x1 + 4), .inr (.inl (some 313))]) rfl 88 rfl ?_
  exact h
theorem b_X12_parsesC_88 {y0 : Int} {y1 : Int} (h : ((0 ≤ y1 ∧ y1 < 300) ∧ Qr none (nw_u J 313 y1 y0, L, W))) :
    NW sc d_X12_parsesC D (88, [none, none], [.inl y0, .inl y1, .inr (.inl (some 313))], (J, L, W), c, sl) Qr Qx := by
  have o1 := h.1
  replace h := h.2
  refine nw_iast l_X12_parsesC_88 89 rfl k_313 o1 ?_
  refine nw_goto l_X12_parsesC_89 ?_
  refine nw_return l_X12_parsesC_127 rfl ?_
  exact h
theorem b_X12_parsesCommand_0 {x1 : Int} (hD : 4 ≤ D) (h : ((J 303 7 ≤ J 303 17 → ((-2147483648 ≤ (J 303 17) + 1 ∧ (J 303 17) + 1 < 2147483648) ∧ ((0 ≤ x1 ∧ x1 < 300) ∧ ((-2147483648 ≤ ((J 303 17) + 1) - 1 ∧ ((J 303 17) + 1) - 1 < 2147483648) ∧ Qr none (nw_u (nw_u (nw_u (nw_u J 303 17 ((J 303 17) + 1)) 313 x1 (-1)) 303 18 1) 303 17 (((J 303 17) + 1) - 1), L, W))))) ∧ (J 303 17 < J 303 7 → ((0 ≤ J 303 17 ∧ J 303 17 < 60) ∧ ((-2147483648 ≤ (J 303 17) + 1 ∧ (J 303 17) + 1 < 2147483648) ∧ ((0 ≤ x1 ∧ x1 < 300) ∧ ((J 308 (J 303 17) = 98 → NW sc d_X12_needsThree 2 (0, [some (.inr (.inl (some 303))), some (.inl 111), some (.inl 97), some (.inl 114)], [], (nw_u (nw_u J 303 17 ((J 303 17) + 1)) 313 x1 (J 308 (J 303 17)), L, W), 0, 0) (fun v M9 => NW sc d_X12_parsesCommand D (181, [some (.inr (.inl (some 303))), some (.inl x1), none], nw_push v [], M9, c, sl) Qr Qx) Qx) ∧ (¬ J 308 (J 303 17) = 98 → ((J 308 (J 303 17) = 99 → NW sc d_X12_parsesC 3 (0, [some (.inr (.inl (some 303))), some (.inl x1)], [], (nw_u (nw_u J 303 17 ((J 303 17) + 1)) 313 x1 (J 308 (J 303 17)), L, W), 0, 0) (fun v M9 => NW sc d_X12_parsesCommand D (113, [none, none, none], nw_push v [], M9, c, sl) Qr Qx) Qx) ∧ (¬ J 308 (J 303 17) = 99 → ((J 308 (J 303 17) = 100 → ((-2147483648 ≤ ((J 303 17) + 1) - 1 ∧ ((J 303 17) + 1) - 1 < 2147483648) ∧ Qr none (nw_u (nw_u (nw_u (nw_u J 303 17 ((J 303 17) + 1)) 313 x1 (J 308 (J 303 17))) 303 18 1) 303 17 (((J 303 17) + 1) - 1), L, W))) ∧ (¬ J 308 (J 303 17) = 100 → ((J 308 (J 303 17) = 101 → ((-2147483648 ≤ ((J 303 17) + 1) - 1 ∧ ((J 303 17) + 1) - 1 < 2147483648) ∧ Qr none (nw_u (nw_u (nw_u (nw_u J 303 17 ((J 303 17) + 1)) 313 x1 (J 308 (J 303 17))) 303 18 1) 303 17 (((J 303 17) + 1) - 1), L, W))) ∧ (¬ J 308 (J 303 17) = 101 → ((J 308 (J 303 17) = 102 → NW sc d_X12_parsesFerry 3 (0, [some (.inr (.inl (some 303))), some (.inl x1)], [], (nw_u (nw_u J 303 17 ((J 303 17) + 1)) 313 x1 (J 308 (J 303 17)), L, W), 0, 0) (fun v M9 => NW sc d_X12_parsesCommand D (121, [none, none, none], nw_push v [], M9, c, sl) Qr Qx) Qx) ∧ (¬ J 308 (J 303 17) = 102 → ((J 308 (J 303 17) = 103 → ((-2147483648 ≤ ((J 303 17) + 1) - 1 ∧ ((J 303 17) + 1) - 1 < 2147483648) ∧ Qr none (nw_u (nw_u (nw_u (nw_u J 303 17 ((J 303 17) + 1)) 313 x1 (J 308 (J 303 17))) 303 18 1) 303 17 (((J 303 17) + 1) - 1), L, W))) ∧ (¬ J 308 (J 303 17) = 103 → ((J 308 (J 303 17) = 104 → ((-2147483648 ≤ ((J 303 17) + 1) - 1 ∧ ((J 303 17) + 1) - 1 < 2147483648) ∧ Qr none (nw_u (nw_u (nw_u (nw_u J 303 17 ((J 303 17) + 1)) 313 x1 (J 308 (J 303 17))) 303 18 1) 303 17 (((J 303 17) + 1) - 1), L, W))) ∧ (¬ J 308 (J 303 17) = 104 → ((J 308 (J 303 17) = 105 → ((-2147483648 ≤ ((J 303 17) + 1) - 1 ∧ ((J 303 17) + 1) - 1 < 2147483648) ∧ Qr none (nw_u (nw_u (nw_u (nw_u J 303 17 ((J 303 17) + 1)) 313 x1 (J 308 (J 303 17))) 303 18 1) 303 17 (((J 303 17) + 1) - 1), L, W))) ∧ (¬ J 308 (J 303 17) = 105 → ((J 308 (J 303 17) = 106 → ((-2147483648 ≤ ((J 303 17) + 1) - 1 ∧ ((J 303 17) + 1) - 1 < 2147483648) ∧ Qr none (nw_u (nw_u (nw_u (nw_u J 303 17 ((J 303 17) + 1)) 313 x1 (J 308 (J 303 17))) 303 18 1) 303 17 (((J 303 17) + 1) - 1), L, W))) ∧ (¬ J 308 (J 303 17) = 106 → ((J 308 (J 303 17) = 107 → ((-2147483648 ≤ ((J 303 17) + 1) - 1 ∧ ((J 303 17) + 1) - 1 < 2147483648) ∧ Qr none (nw_u (nw_u (nw_u (nw_u J 303 17 ((J 303 17) + 1)) 313 x1 (J 308 (J 303 17))) 303 18 1) 303 17 (((J 303 17) + 1) - 1), L, W))) ∧ (¬ J 308 (J 303 17) = 107 → ((J 308 (J 303 17) = 108 → NW sc d_X12_parsesL 3 (0, [some (.inr (.inl (some 303))), some (.inl x1)], [], (nw_u (nw_u J 303 17 ((J 303 17) + 1)) 313 x1 (J 308 (J 303 17)), L, W), 0, 0) (fun v M9 => NW sc d_X12_parsesCommand D (221, [none, none, none], nw_push v [], M9, c, sl) Qr Qx) Qx) ∧ (¬ J 308 (J 303 17) = 108 → ((J 308 (J 303 17) = 109 → NW sc d_X12_parsesMoon 3 (0, [some (.inr (.inl (some 303))), some (.inl x1)], [], (nw_u (nw_u J 303 17 ((J 303 17) + 1)) 313 x1 (J 308 (J 303 17)), L, W), 0, 0) (fun v M9 => NW sc d_X12_parsesCommand D (129, [none, none, none], nw_push v [], M9, c, sl) Qr Qx) Qx) ∧ (¬ J 308 (J 303 17) = 109 → ((J 308 (J 303 17) = 110 → ((-2147483648 ≤ ((J 303 17) + 1) - 1 ∧ ((J 303 17) + 1) - 1 < 2147483648) ∧ Qr none (nw_u (nw_u (nw_u (nw_u J 303 17 ((J 303 17) + 1)) 313 x1 (J 308 (J 303 17))) 303 18 1) 303 17 (((J 303 17) + 1) - 1), L, W))) ∧ (¬ J 308 (J 303 17) = 110 → ((J 308 (J 303 17) = 111 → ((-2147483648 ≤ ((J 303 17) + 1) - 1 ∧ ((J 303 17) + 1) - 1 < 2147483648) ∧ Qr none (nw_u (nw_u (nw_u (nw_u J 303 17 ((J 303 17) + 1)) 313 x1 (J 308 (J 303 17))) 303 18 1) 303 17 (((J 303 17) + 1) - 1), L, W))) ∧ (¬ J 308 (J 303 17) = 111 → ((J 308 (J 303 17) = 112 → NW sc d_X12_needsThree 2 (0, [some (.inr (.inl (some 303))), some (.inl 97), some (.inl 115), some (.inl 115)], [], (nw_u (nw_u J 303 17 ((J 303 17) + 1)) 313 x1 (J 308 (J 303 17)), L, W), 0, 0) (fun v M9 => NW sc d_X12_parsesCommand D (272, [some (.inr (.inl (some 303))), some (.inl x1), none], nw_push v [], M9, c, sl) Qr Qx) Qx) ∧ (¬ J 308 (J 303 17) = 112 → ((J 308 (J 303 17) = 113 → ((-2147483648 ≤ ((J 303 17) + 1) - 1 ∧ ((J 303 17) + 1) - 1 < 2147483648) ∧ Qr none (nw_u (nw_u (nw_u (nw_u J 303 17 ((J 303 17) + 1)) 313 x1 (J 308 (J 303 17))) 303 18 1) 303 17 (((J 303 17) + 1) - 1), L, W))) ∧ (¬ J 308 (J 303 17) = 113 → ((J 308 (J 303 17) = 114 → NW sc d_X12_needsThree 2 (0, [some (.inr (.inl (some 303))), some (.inl 101), some (.inl 115), some (.inl 99)], [], (nw_u (nw_u J 303 17 ((J 303 17) + 1)) 313 x1 (J 308 (J 303 17)), L, W), 0, 0) (fun v M9 => NW sc d_X12_parsesCommand D (234, [some (.inr (.inl (some 303))), some (.inl x1), none], nw_push v [], M9, c, sl) Qr Qx) Qx) ∧ (¬ J 308 (J 303 17) = 114 → ((J 308 (J 303 17) = 115 → NW sc d_X12_needsThree 2 (0, [some (.inr (.inl (some 303))), some (.inl 97), some (.inl 105), some (.inl 108)], [], (nw_u (nw_u J 303 17 ((J 303 17) + 1)) 313 x1 (J 308 (J 303 17)), L, W), 0, 0) (fun v M9 => NW sc d_X12_parsesCommand D (142, [some (.inr (.inl (some 303))), some (.inl x1), none], nw_push v [], M9, c, sl) Qr Qx) Qx) ∧ (¬ J 308 (J 303 17) = 115 → ((-2147483648 ≤ ((J 303 17) + 1) - 1 ∧ ((J 303 17) + 1) - 1 < 2147483648) ∧ Qr none (nw_u (nw_u (nw_u (nw_u J 303 17 ((J 303 17) + 1)) 313 x1 (J 308 (J 303 17))) 303 18 1) 303 17 (((J 303 17) + 1) - 1), L, W)))))))))))))))))))))))))))))))))))))))))))) :
    NW sc d_X12_parsesCommand D (0, [some (.inr (.inl (some 303))), some (.inl x1), none], [], (J, L, W), c, sl) Qr Qx := by
  refine nw_aload_n l_X12_parsesCommand_0 1 rfl rfl ?_
  refine nw_call0 0 303 l_X12_parsesCommand_1 rfl rfl g_X12_here (Nat.lt_of_lt_of_le (by decide) hD) rfl (Or.inl ⟨_, rfl, k_303⟩) (ls' := [some (.inr (.inl (some 303)))]) rfl (st' := []) rfl 4 rfl ?_
  refine nw_aload_n l_X12_here_0 1 rfl rfl ?_
  refine nw_getI l_X12_here_1 4 rfl k_303 (v := J 303 17) rfl ?_
  refine nw_aload_n l_X12_here_4 5 rfl rfl ?_
  refine nw_getI l_X12_here_5 8 rfl k_303 (v := J 303 7) rfl ?_
  refine nw_ic_ge l_X12_here_8 11 rfl (fun q1 => ?_) (fun q1 => ?_)
  · replace h := h.1 q1
    refine nw_iconst (len := 0) l_X12_here_23 24 rfl c_n1 ?_
    refine nw_ireturn l_X12_here_24 rfl ?_
    refine nw_istore_n l_X12_parsesCommand_4 5 rfl rfl (ls' := [some (.inr (.inl (some 303))), some (.inl x1), some (.inl (-1))]) rfl ?_
    refine nw_aload_n l_X12_parsesCommand_5 6 rfl rfl ?_
    refine nw_dupA l_X12_parsesCommand_6 7 rfl ?_
    refine nw_getI l_X12_parsesCommand_7 10 rfl k_303 (v := J 303 17) rfl ?_
    refine nw_iconst (len := 0) l_X12_parsesCommand_10 11 rfl c_1 ?_
    have o2 := h.1
    replace h := h.2
    refine nw_iadd l_X12_parsesCommand_11 12 rfl o2 ?_
    refine nw_putI l_X12_parsesCommand_12 15 rfl k_303 ?_
    refine nw_aload_n l_X12_parsesCommand_15 16 rfl rfl ?_
    refine nw_getA l_X12_parsesCommand_16 19 rfl k_303 r_303_19 ?_
    refine nw_iload_n l_X12_parsesCommand_19 20 rfl rfl ?_
    refine nw_iload_n l_X12_parsesCommand_20 21 rfl rfl ?_
    have o3 := h.1
    replace h := h.2
    refine nw_iast l_X12_parsesCommand_21 22 rfl k_313 o3 ?_
    refine nw_iload_n l_X12_parsesCommand_22 23 rfl rfl ?_
    refine nw_tsOut l_X12_parsesCommand_23 (by decide) ?_
    refine nw_aload_n l_X12_parsesCommand_288 289 rfl rfl ?_
    refine nw_iconst (len := 0) l_X12_parsesCommand_289 290 rfl c_1 ?_
    refine nw_putZ l_X12_parsesCommand_290 293 rfl k_303 (by decide) ?_
    refine nw_aload_n l_X12_parsesCommand_293 294 rfl rfl ?_
    refine nw_dupA l_X12_parsesCommand_294 295 rfl ?_
    refine nw_getI l_X12_parsesCommand_295 298 rfl k_303 (v := (J 303 17) + 1) (show nw_u (nw_u (nw_u J 303 17 ((J 303 17) + 1)) 313 x1 (-1)) 303 18 1 303 17 = (J 303 17) + 1 from (nw_uI (i := 18) (j := 17) (by decide)).trans ((nw_uN (a := 313) (b := 303) (by decide)).trans nw_uS)) ?_
    refine nw_iconst (len := 0) l_X12_parsesCommand_298 299 rfl c_1 ?_
    have o4 := h.1
    replace h := h.2
    refine nw_isub l_X12_parsesCommand_299 300 rfl o4 ?_
    refine nw_putI l_X12_parsesCommand_300 303 rfl k_303 ?_
    refine nw_return l_X12_parsesCommand_303 rfl ?_
    exact h
  · replace h := h.2 q1
    refine nw_aload_n l_X12_here_11 12 rfl rfl ?_
    refine nw_getA l_X12_here_12 15 rfl k_303 r_303_6 ?_
    refine nw_aload_n l_X12_here_15 16 rfl rfl ?_
    refine nw_getI l_X12_here_16 19 rfl k_303 (v := J 303 17) rfl ?_
    have o5 := h.1
    replace h := h.2
    refine nw_cald l_X12_here_19 20 rfl k_308 o5 (v := J 308 (J 303 17)) rfl ?_
    refine nw_goto l_X12_here_20 ?_
    refine nw_ireturn l_X12_here_24 rfl ?_
    refine nw_istore_n l_X12_parsesCommand_4 5 rfl rfl (ls' := [some (.inr (.inl (some 303))), some (.inl x1), some (.inl (J 308 (J 303 17)))]) rfl ?_
    refine nw_aload_n l_X12_parsesCommand_5 6 rfl rfl ?_
    refine nw_dupA l_X12_parsesCommand_6 7 rfl ?_
    refine nw_getI l_X12_parsesCommand_7 10 rfl k_303 (v := J 303 17) rfl ?_
    refine nw_iconst (len := 0) l_X12_parsesCommand_10 11 rfl c_1 ?_
    have o6 := h.1
    replace h := h.2
    refine nw_iadd l_X12_parsesCommand_11 12 rfl o6 ?_
    refine nw_putI l_X12_parsesCommand_12 15 rfl k_303 ?_
    refine nw_aload_n l_X12_parsesCommand_15 16 rfl rfl ?_
    refine nw_getA l_X12_parsesCommand_16 19 rfl k_303 r_303_19 ?_
    refine nw_iload_n l_X12_parsesCommand_19 20 rfl rfl ?_
    refine nw_iload_n l_X12_parsesCommand_20 21 rfl rfl ?_
    have o7 := h.1
    replace h := h.2
    refine nw_iast l_X12_parsesCommand_21 22 rfl k_313 o7 ?_
    refine nw_iload_n l_X12_parsesCommand_22 23 rfl rfl ?_
    by_cases q8 : J 308 (J 303 17) = 98
    · refine nw_tsIn l_X12_parsesCommand_23 171 ⟨by omega, by omega, by rw [q8]; rfl⟩ ?_
      replace h := h.1 q8
      refine nw_aload_n l_X12_parsesCommand_171 172 rfl rfl ?_
      refine nw_bipush (len := 0) l_X12_parsesCommand_172 174 rfl c_111 ?_
      refine nw_bipush (len := 0) l_X12_parsesCommand_174 176 rfl c_97 ?_
      refine nw_bipush (len := 0) l_X12_parsesCommand_176 178 rfl c_114 ?_
      refine nw_drop (ls' := [some (.inr (.inl (some 303))), some (.inl x1), none]) ⟨rfl, ⟨rfl, ⟨True.intro, True.intro⟩⟩⟩ ?_
      refine nw_call0 2 303 l_X12_parsesCommand_178 rfl rfl g_X12_needsThree (Nat.lt_of_lt_of_le (by decide) hD) rfl (Or.inl ⟨_, rfl, k_303⟩) (ls' := [some (.inr (.inl (some 303))), some (.inl 111), some (.inl 97), some (.inl 114)]) rfl (st' := []) rfl 181 rfl ?_
      exact h
    replace h := h.2 q8
    by_cases q9 : J 308 (J 303 17) = 99
    · refine nw_tsIn l_X12_parsesCommand_23 108 ⟨by omega, by omega, by rw [q9]; rfl⟩ ?_
      replace h := h.1 q9
      refine nw_aload_n l_X12_parsesCommand_108 109 rfl rfl ?_
      refine nw_iload_n l_X12_parsesCommand_109 110 rfl rfl ?_
      refine nw_drop (ls' := [none, none, none]) ⟨True.intro, ⟨True.intro, ⟨True.intro, True.intro⟩⟩⟩ ?_
      refine nw_call0 3 303 l_X12_parsesCommand_110 rfl rfl g_X12_parsesC (Nat.lt_of_lt_of_le (by decide) hD) rfl (Or.inl ⟨_, rfl, k_303⟩) (ls' := [some (.inr (.inl (some 303))), some (.inl x1)]) rfl (st' := []) rfl 113 rfl ?_
      exact h
    replace h := h.2 q9
    by_cases q10 : J 308 (J 303 17) = 100
    · refine nw_tsIn l_X12_parsesCommand_23 288 ⟨by omega, by omega, by rw [q10]; rfl⟩ ?_
      replace h := h.1 q10
      refine nw_aload_n l_X12_parsesCommand_288 289 rfl rfl ?_
      refine nw_iconst (len := 0) l_X12_parsesCommand_289 290 rfl c_1 ?_
      refine nw_putZ l_X12_parsesCommand_290 293 rfl k_303 (by decide) ?_
      refine nw_aload_n l_X12_parsesCommand_293 294 rfl rfl ?_
      refine nw_dupA l_X12_parsesCommand_294 295 rfl ?_
      refine nw_getI l_X12_parsesCommand_295 298 rfl k_303 (v := (J 303 17) + 1) (show nw_u (nw_u (nw_u J 303 17 ((J 303 17) + 1)) 313 x1 (J 308 (J 303 17))) 303 18 1 303 17 = (J 303 17) + 1 from (nw_uI (i := 18) (j := 17) (by decide)).trans ((nw_uN (a := 313) (b := 303) (by decide)).trans nw_uS)) ?_
      refine nw_iconst (len := 0) l_X12_parsesCommand_298 299 rfl c_1 ?_
      have o11 := h.1
      replace h := h.2
      refine nw_isub l_X12_parsesCommand_299 300 rfl o11 ?_
      refine nw_putI l_X12_parsesCommand_300 303 rfl k_303 ?_
      refine nw_return l_X12_parsesCommand_303 rfl ?_
      exact h
    replace h := h.2 q10
    by_cases q12 : J 308 (J 303 17) = 101
    · refine nw_tsIn l_X12_parsesCommand_23 288 ⟨by omega, by omega, by rw [q12]; rfl⟩ ?_
      replace h := h.1 q12
      refine nw_aload_n l_X12_parsesCommand_288 289 rfl rfl ?_
      refine nw_iconst (len := 0) l_X12_parsesCommand_289 290 rfl c_1 ?_
      refine nw_putZ l_X12_parsesCommand_290 293 rfl k_303 (by decide) ?_
      refine nw_aload_n l_X12_parsesCommand_293 294 rfl rfl ?_
      refine nw_dupA l_X12_parsesCommand_294 295 rfl ?_
      refine nw_getI l_X12_parsesCommand_295 298 rfl k_303 (v := (J 303 17) + 1) (show nw_u (nw_u (nw_u J 303 17 ((J 303 17) + 1)) 313 x1 (J 308 (J 303 17))) 303 18 1 303 17 = (J 303 17) + 1 from (nw_uI (i := 18) (j := 17) (by decide)).trans ((nw_uN (a := 313) (b := 303) (by decide)).trans nw_uS)) ?_
      refine nw_iconst (len := 0) l_X12_parsesCommand_298 299 rfl c_1 ?_
      have o13 := h.1
      replace h := h.2
      refine nw_isub l_X12_parsesCommand_299 300 rfl o13 ?_
      refine nw_putI l_X12_parsesCommand_300 303 rfl k_303 ?_
      refine nw_return l_X12_parsesCommand_303 rfl ?_
      exact h
    replace h := h.2 q12
    by_cases q14 : J 308 (J 303 17) = 102
    · refine nw_tsIn l_X12_parsesCommand_23 116 ⟨by omega, by omega, by rw [q14]; rfl⟩ ?_
      replace h := h.1 q14
      refine nw_aload_n l_X12_parsesCommand_116 117 rfl rfl ?_
      refine nw_iload_n l_X12_parsesCommand_117 118 rfl rfl ?_
      refine nw_drop (ls' := [none, none, none]) ⟨True.intro, ⟨True.intro, ⟨True.intro, True.intro⟩⟩⟩ ?_
      refine nw_call0 3 303 l_X12_parsesCommand_118 rfl rfl g_X12_parsesFerry (Nat.lt_of_lt_of_le (by decide) hD) rfl (Or.inl ⟨_, rfl, k_303⟩) (ls' := [some (.inr (.inl (some 303))), some (.inl x1)]) rfl (st' := []) rfl 121 rfl ?_
      exact h
    replace h := h.2 q14
    by_cases q15 : J 308 (J 303 17) = 103
    · refine nw_tsIn l_X12_parsesCommand_23 288 ⟨by omega, by omega, by rw [q15]; rfl⟩ ?_
      replace h := h.1 q15
      refine nw_aload_n l_X12_parsesCommand_288 289 rfl rfl ?_
      refine nw_iconst (len := 0) l_X12_parsesCommand_289 290 rfl c_1 ?_
      refine nw_putZ l_X12_parsesCommand_290 293 rfl k_303 (by decide) ?_
      refine nw_aload_n l_X12_parsesCommand_293 294 rfl rfl ?_
      refine nw_dupA l_X12_parsesCommand_294 295 rfl ?_
      refine nw_getI l_X12_parsesCommand_295 298 rfl k_303 (v := (J 303 17) + 1) (show nw_u (nw_u (nw_u J 303 17 ((J 303 17) + 1)) 313 x1 (J 308 (J 303 17))) 303 18 1 303 17 = (J 303 17) + 1 from (nw_uI (i := 18) (j := 17) (by decide)).trans ((nw_uN (a := 313) (b := 303) (by decide)).trans nw_uS)) ?_
      refine nw_iconst (len := 0) l_X12_parsesCommand_298 299 rfl c_1 ?_
      have o16 := h.1
      replace h := h.2
      refine nw_isub l_X12_parsesCommand_299 300 rfl o16 ?_
      refine nw_putI l_X12_parsesCommand_300 303 rfl k_303 ?_
      refine nw_return l_X12_parsesCommand_303 rfl ?_
      exact h
    replace h := h.2 q15
    by_cases q17 : J 308 (J 303 17) = 104
    · refine nw_tsIn l_X12_parsesCommand_23 288 ⟨by omega, by omega, by rw [q17]; rfl⟩ ?_
      replace h := h.1 q17
      refine nw_aload_n l_X12_parsesCommand_288 289 rfl rfl ?_
      refine nw_iconst (len := 0) l_X12_parsesCommand_289 290 rfl c_1 ?_
      refine nw_putZ l_X12_parsesCommand_290 293 rfl k_303 (by decide) ?_
      refine nw_aload_n l_X12_parsesCommand_293 294 rfl rfl ?_
      refine nw_dupA l_X12_parsesCommand_294 295 rfl ?_
      refine nw_getI l_X12_parsesCommand_295 298 rfl k_303 (v := (J 303 17) + 1) (show nw_u (nw_u (nw_u J 303 17 ((J 303 17) + 1)) 313 x1 (J 308 (J 303 17))) 303 18 1 303 17 = (J 303 17) + 1 from (nw_uI (i := 18) (j := 17) (by decide)).trans ((nw_uN (a := 313) (b := 303) (by decide)).trans nw_uS)) ?_
      refine nw_iconst (len := 0) l_X12_parsesCommand_298 299 rfl c_1 ?_
      have o18 := h.1
      replace h := h.2
      refine nw_isub l_X12_parsesCommand_299 300 rfl o18 ?_
      refine nw_putI l_X12_parsesCommand_300 303 rfl k_303 ?_
      refine nw_return l_X12_parsesCommand_303 rfl ?_
      exact h
    replace h := h.2 q17
    by_cases q19 : J 308 (J 303 17) = 105
    · refine nw_tsIn l_X12_parsesCommand_23 288 ⟨by omega, by omega, by rw [q19]; rfl⟩ ?_
      replace h := h.1 q19
      refine nw_aload_n l_X12_parsesCommand_288 289 rfl rfl ?_
      refine nw_iconst (len := 0) l_X12_parsesCommand_289 290 rfl c_1 ?_
      refine nw_putZ l_X12_parsesCommand_290 293 rfl k_303 (by decide) ?_
      refine nw_aload_n l_X12_parsesCommand_293 294 rfl rfl ?_
      refine nw_dupA l_X12_parsesCommand_294 295 rfl ?_
      refine nw_getI l_X12_parsesCommand_295 298 rfl k_303 (v := (J 303 17) + 1) (show nw_u (nw_u (nw_u J 303 17 ((J 303 17) + 1)) 313 x1 (J 308 (J 303 17))) 303 18 1 303 17 = (J 303 17) + 1 from (nw_uI (i := 18) (j := 17) (by decide)).trans ((nw_uN (a := 313) (b := 303) (by decide)).trans nw_uS)) ?_
      refine nw_iconst (len := 0) l_X12_parsesCommand_298 299 rfl c_1 ?_
      have o20 := h.1
      replace h := h.2
      refine nw_isub l_X12_parsesCommand_299 300 rfl o20 ?_
      refine nw_putI l_X12_parsesCommand_300 303 rfl k_303 ?_
      refine nw_return l_X12_parsesCommand_303 rfl ?_
      exact h
    replace h := h.2 q19
    by_cases q21 : J 308 (J 303 17) = 106
    · refine nw_tsIn l_X12_parsesCommand_23 288 ⟨by omega, by omega, by rw [q21]; rfl⟩ ?_
      replace h := h.1 q21
      refine nw_aload_n l_X12_parsesCommand_288 289 rfl rfl ?_
      refine nw_iconst (len := 0) l_X12_parsesCommand_289 290 rfl c_1 ?_
      refine nw_putZ l_X12_parsesCommand_290 293 rfl k_303 (by decide) ?_
      refine nw_aload_n l_X12_parsesCommand_293 294 rfl rfl ?_
      refine nw_dupA l_X12_parsesCommand_294 295 rfl ?_
      refine nw_getI l_X12_parsesCommand_295 298 rfl k_303 (v := (J 303 17) + 1) (show nw_u (nw_u (nw_u J 303 17 ((J 303 17) + 1)) 313 x1 (J 308 (J 303 17))) 303 18 1 303 17 = (J 303 17) + 1 from (nw_uI (i := 18) (j := 17) (by decide)).trans ((nw_uN (a := 313) (b := 303) (by decide)).trans nw_uS)) ?_
      refine nw_iconst (len := 0) l_X12_parsesCommand_298 299 rfl c_1 ?_
      have o22 := h.1
      replace h := h.2
      refine nw_isub l_X12_parsesCommand_299 300 rfl o22 ?_
      refine nw_putI l_X12_parsesCommand_300 303 rfl k_303 ?_
      refine nw_return l_X12_parsesCommand_303 rfl ?_
      exact h
    replace h := h.2 q21
    by_cases q23 : J 308 (J 303 17) = 107
    · refine nw_tsIn l_X12_parsesCommand_23 288 ⟨by omega, by omega, by rw [q23]; rfl⟩ ?_
      replace h := h.1 q23
      refine nw_aload_n l_X12_parsesCommand_288 289 rfl rfl ?_
      refine nw_iconst (len := 0) l_X12_parsesCommand_289 290 rfl c_1 ?_
      refine nw_putZ l_X12_parsesCommand_290 293 rfl k_303 (by decide) ?_
      refine nw_aload_n l_X12_parsesCommand_293 294 rfl rfl ?_
      refine nw_dupA l_X12_parsesCommand_294 295 rfl ?_
      refine nw_getI l_X12_parsesCommand_295 298 rfl k_303 (v := (J 303 17) + 1) (show nw_u (nw_u (nw_u J 303 17 ((J 303 17) + 1)) 313 x1 (J 308 (J 303 17))) 303 18 1 303 17 = (J 303 17) + 1 from (nw_uI (i := 18) (j := 17) (by decide)).trans ((nw_uN (a := 313) (b := 303) (by decide)).trans nw_uS)) ?_
      refine nw_iconst (len := 0) l_X12_parsesCommand_298 299 rfl c_1 ?_
      have o24 := h.1
      replace h := h.2
      refine nw_isub l_X12_parsesCommand_299 300 rfl o24 ?_
      refine nw_putI l_X12_parsesCommand_300 303 rfl k_303 ?_
      refine nw_return l_X12_parsesCommand_303 rfl ?_
      exact h
    replace h := h.2 q23
    by_cases q25 : J 308 (J 303 17) = 108
    · refine nw_tsIn l_X12_parsesCommand_23 216 ⟨by omega, by omega, by rw [q25]; rfl⟩ ?_
      replace h := h.1 q25
      refine nw_aload_n l_X12_parsesCommand_216 217 rfl rfl ?_
      refine nw_iload_n l_X12_parsesCommand_217 218 rfl rfl ?_
      refine nw_drop (ls' := [none, none, none]) ⟨True.intro, ⟨True.intro, ⟨True.intro, True.intro⟩⟩⟩ ?_
      refine nw_call0 3 303 l_X12_parsesCommand_218 rfl rfl g_X12_parsesL (Nat.lt_of_lt_of_le (by decide) hD) rfl (Or.inl ⟨_, rfl, k_303⟩) (ls' := [some (.inr (.inl (some 303))), some (.inl x1)]) rfl (st' := []) rfl 221 rfl ?_
      exact h
    replace h := h.2 q25
    by_cases q26 : J 308 (J 303 17) = 109
    · refine nw_tsIn l_X12_parsesCommand_23 124 ⟨by omega, by omega, by rw [q26]; rfl⟩ ?_
      replace h := h.1 q26
      refine nw_aload_n l_X12_parsesCommand_124 125 rfl rfl ?_
      refine nw_iload_n l_X12_parsesCommand_125 126 rfl rfl ?_
      refine nw_drop (ls' := [none, none, none]) ⟨True.intro, ⟨True.intro, ⟨True.intro, True.intro⟩⟩⟩ ?_
      refine nw_call0 3 303 l_X12_parsesCommand_126 rfl rfl g_X12_parsesMoon (Nat.lt_of_lt_of_le (by decide) hD) rfl (Or.inl ⟨_, rfl, k_303⟩) (ls' := [some (.inr (.inl (some 303))), some (.inl x1)]) rfl (st' := []) rfl 129 rfl ?_
      exact h
    replace h := h.2 q26
    by_cases q27 : J 308 (J 303 17) = 110
    · refine nw_tsIn l_X12_parsesCommand_23 288 ⟨by omega, by omega, by rw [q27]; rfl⟩ ?_
      replace h := h.1 q27
      refine nw_aload_n l_X12_parsesCommand_288 289 rfl rfl ?_
      refine nw_iconst (len := 0) l_X12_parsesCommand_289 290 rfl c_1 ?_
      refine nw_putZ l_X12_parsesCommand_290 293 rfl k_303 (by decide) ?_
      refine nw_aload_n l_X12_parsesCommand_293 294 rfl rfl ?_
      refine nw_dupA l_X12_parsesCommand_294 295 rfl ?_
      refine nw_getI l_X12_parsesCommand_295 298 rfl k_303 (v := (J 303 17) + 1) (show nw_u (nw_u (nw_u J 303 17 ((J 303 17) + 1)) 313 x1 (J 308 (J 303 17))) 303 18 1 303 17 = (J 303 17) + 1 from (nw_uI (i := 18) (j := 17) (by decide)).trans ((nw_uN (a := 313) (b := 303) (by decide)).trans nw_uS)) ?_
      refine nw_iconst (len := 0) l_X12_parsesCommand_298 299 rfl c_1 ?_
      have o28 := h.1
      replace h := h.2
      refine nw_isub l_X12_parsesCommand_299 300 rfl o28 ?_
      refine nw_putI l_X12_parsesCommand_300 303 rfl k_303 ?_
      refine nw_return l_X12_parsesCommand_303 rfl ?_
      exact h
    replace h := h.2 q27
    by_cases q29 : J 308 (J 303 17) = 111
    · refine nw_tsIn l_X12_parsesCommand_23 288 ⟨by omega, by omega, by rw [q29]; rfl⟩ ?_
      replace h := h.1 q29
      refine nw_aload_n l_X12_parsesCommand_288 289 rfl rfl ?_
      refine nw_iconst (len := 0) l_X12_parsesCommand_289 290 rfl c_1 ?_
      refine nw_putZ l_X12_parsesCommand_290 293 rfl k_303 (by decide) ?_
      refine nw_aload_n l_X12_parsesCommand_293 294 rfl rfl ?_
      refine nw_dupA l_X12_parsesCommand_294 295 rfl ?_
      refine nw_getI l_X12_parsesCommand_295 298 rfl k_303 (v := (J 303 17) + 1) (show nw_u (nw_u (nw_u J 303 17 ((J 303 17) + 1)) 313 x1 (J 308 (J 303 17))) 303 18 1 303 17 = (J 303 17) + 1 from (nw_uI (i := 18) (j := 17) (by decide)).trans ((nw_uN (a := 313) (b := 303) (by decide)).trans nw_uS)) ?_
      refine nw_iconst (len := 0) l_X12_parsesCommand_298 299 rfl c_1 ?_
      have o30 := h.1
      replace h := h.2
      refine nw_isub l_X12_parsesCommand_299 300 rfl o30 ?_
      refine nw_putI l_X12_parsesCommand_300 303 rfl k_303 ?_
      refine nw_return l_X12_parsesCommand_303 rfl ?_
      exact h
    replace h := h.2 q29
    by_cases q31 : J 308 (J 303 17) = 112
    · refine nw_tsIn l_X12_parsesCommand_23 262 ⟨by omega, by omega, by rw [q31]; rfl⟩ ?_
      replace h := h.1 q31
      refine nw_aload_n l_X12_parsesCommand_262 263 rfl rfl ?_
      refine nw_bipush (len := 0) l_X12_parsesCommand_263 265 rfl c_97 ?_
      refine nw_bipush (len := 0) l_X12_parsesCommand_265 267 rfl c_115 ?_
      refine nw_bipush (len := 0) l_X12_parsesCommand_267 269 rfl c_115 ?_
      refine nw_drop (ls' := [some (.inr (.inl (some 303))), some (.inl x1), none]) ⟨rfl, ⟨rfl, ⟨True.intro, True.intro⟩⟩⟩ ?_
      refine nw_call0 2 303 l_X12_parsesCommand_269 rfl rfl g_X12_needsThree (Nat.lt_of_lt_of_le (by decide) hD) rfl (Or.inl ⟨_, rfl, k_303⟩) (ls' := [some (.inr (.inl (some 303))), some (.inl 97), some (.inl 115), some (.inl 115)]) rfl (st' := []) rfl 272 rfl ?_
      exact h
    replace h := h.2 q31
    by_cases q32 : J 308 (J 303 17) = 113
    · refine nw_tsIn l_X12_parsesCommand_23 288 ⟨by omega, by omega, by rw [q32]; rfl⟩ ?_
      replace h := h.1 q32
      refine nw_aload_n l_X12_parsesCommand_288 289 rfl rfl ?_
      refine nw_iconst (len := 0) l_X12_parsesCommand_289 290 rfl c_1 ?_
      refine nw_putZ l_X12_parsesCommand_290 293 rfl k_303 (by decide) ?_
      refine nw_aload_n l_X12_parsesCommand_293 294 rfl rfl ?_
      refine nw_dupA l_X12_parsesCommand_294 295 rfl ?_
      refine nw_getI l_X12_parsesCommand_295 298 rfl k_303 (v := (J 303 17) + 1) (show nw_u (nw_u (nw_u J 303 17 ((J 303 17) + 1)) 313 x1 (J 308 (J 303 17))) 303 18 1 303 17 = (J 303 17) + 1 from (nw_uI (i := 18) (j := 17) (by decide)).trans ((nw_uN (a := 313) (b := 303) (by decide)).trans nw_uS)) ?_
      refine nw_iconst (len := 0) l_X12_parsesCommand_298 299 rfl c_1 ?_
      have o33 := h.1
      replace h := h.2
      refine nw_isub l_X12_parsesCommand_299 300 rfl o33 ?_
      refine nw_putI l_X12_parsesCommand_300 303 rfl k_303 ?_
      refine nw_return l_X12_parsesCommand_303 rfl ?_
      exact h
    replace h := h.2 q32
    by_cases q34 : J 308 (J 303 17) = 114
    · refine nw_tsIn l_X12_parsesCommand_23 224 ⟨by omega, by omega, by rw [q34]; rfl⟩ ?_
      replace h := h.1 q34
      refine nw_aload_n l_X12_parsesCommand_224 225 rfl rfl ?_
      refine nw_bipush (len := 0) l_X12_parsesCommand_225 227 rfl c_101 ?_
      refine nw_bipush (len := 0) l_X12_parsesCommand_227 229 rfl c_115 ?_
      refine nw_bipush (len := 0) l_X12_parsesCommand_229 231 rfl c_99 ?_
      refine nw_drop (ls' := [some (.inr (.inl (some 303))), some (.inl x1), none]) ⟨rfl, ⟨rfl, ⟨True.intro, True.intro⟩⟩⟩ ?_
      refine nw_call0 2 303 l_X12_parsesCommand_231 rfl rfl g_X12_needsThree (Nat.lt_of_lt_of_le (by decide) hD) rfl (Or.inl ⟨_, rfl, k_303⟩) (ls' := [some (.inr (.inl (some 303))), some (.inl 101), some (.inl 115), some (.inl 99)]) rfl (st' := []) rfl 234 rfl ?_
      exact h
    replace h := h.2 q34
    by_cases q35 : J 308 (J 303 17) = 115
    · refine nw_tsIn l_X12_parsesCommand_23 132 ⟨by omega, by omega, by rw [q35]; rfl⟩ ?_
      replace h := h.1 q35
      refine nw_aload_n l_X12_parsesCommand_132 133 rfl rfl ?_
      refine nw_bipush (len := 0) l_X12_parsesCommand_133 135 rfl c_97 ?_
      refine nw_bipush (len := 0) l_X12_parsesCommand_135 137 rfl c_105 ?_
      refine nw_bipush (len := 0) l_X12_parsesCommand_137 139 rfl c_108 ?_
      refine nw_drop (ls' := [some (.inr (.inl (some 303))), some (.inl x1), none]) ⟨rfl, ⟨rfl, ⟨True.intro, True.intro⟩⟩⟩ ?_
      refine nw_call0 2 303 l_X12_parsesCommand_139 rfl rfl g_X12_needsThree (Nat.lt_of_lt_of_le (by decide) hD) rfl (Or.inl ⟨_, rfl, k_303⟩) (ls' := [some (.inr (.inl (some 303))), some (.inl 97), some (.inl 105), some (.inl 108)]) rfl (st' := []) rfl 142 rfl ?_
      exact h
    replace h := h.2 q35
    refine nw_tsOut l_X12_parsesCommand_23 (by omega) ?_
    refine nw_aload_n l_X12_parsesCommand_288 289 rfl rfl ?_
    refine nw_iconst (len := 0) l_X12_parsesCommand_289 290 rfl c_1 ?_
    refine nw_putZ l_X12_parsesCommand_290 293 rfl k_303 (by decide) ?_
    refine nw_aload_n l_X12_parsesCommand_293 294 rfl rfl ?_
    refine nw_dupA l_X12_parsesCommand_294 295 rfl ?_
    refine nw_getI l_X12_parsesCommand_295 298 rfl k_303 (v := (J 303 17) + 1) (show nw_u (nw_u (nw_u J 303 17 ((J 303 17) + 1)) 313 x1 (J 308 (J 303 17))) 303 18 1 303 17 = (J 303 17) + 1 from (nw_uI (i := 18) (j := 17) (by decide)).trans ((nw_uN (a := 313) (b := 303) (by decide)).trans nw_uS)) ?_
    refine nw_iconst (len := 0) l_X12_parsesCommand_298 299 rfl c_1 ?_
    have o36 := h.1
    replace h := h.2
    refine nw_isub l_X12_parsesCommand_299 300 rfl o36 ?_
    refine nw_putI l_X12_parsesCommand_300 303 rfl k_303 ?_
    refine nw_return l_X12_parsesCommand_303 rfl ?_
    exact h
theorem b_X12_parsesCommand_181 {x1 : Int} (hD : 4 ≤ D) (h : NW sc d_X12_needs 1 (0, [some (.inr (.inl (some 303))), some (.inl 100)], [], (J, L, W), 0, 0) (fun v M9 => NW sc d_X12_parsesCommand D (187, [some (.inr (.inl (some 303))), some (.inl x1), none], nw_push v [], M9, c, sl) Qr Qx) Qx) :
    NW sc d_X12_parsesCommand D (181, [some (.inr (.inl (some 303))), some (.inl x1), none], [], (J, L, W), c, sl) Qr Qx := by
  refine nw_aload_n l_X12_parsesCommand_181 182 rfl rfl ?_
  refine nw_bipush (len := 0) l_X12_parsesCommand_182 184 rfl c_100 ?_
  refine nw_call0 1 303 l_X12_parsesCommand_184 rfl rfl g_X12_needs (Nat.lt_of_lt_of_le (by decide) hD) rfl (Or.inl ⟨_, rfl, k_303⟩) (ls' := [some (.inr (.inl (some 303))), some (.inl 100)]) rfl (st' := []) rfl 187 rfl ?_
  exact h
theorem b_X12_parsesCommand_113  (h : Qr none (J, L, W)) :
    NW sc d_X12_parsesCommand D (113, [none, none, none], [], (J, L, W), c, sl) Qr Qx := by
  refine nw_goto l_X12_parsesCommand_113 ?_
  refine nw_return l_X12_parsesCommand_303 rfl ?_
  exact h
theorem b_X12_parsesCommand_121  (h : Qr none (J, L, W)) :
    NW sc d_X12_parsesCommand D (121, [none, none, none], [], (J, L, W), c, sl) Qr Qx := by
  refine nw_goto l_X12_parsesCommand_121 ?_
  refine nw_return l_X12_parsesCommand_303 rfl ?_
  exact h
theorem b_X12_parsesCommand_221  (h : Qr none (J, L, W)) :
    NW sc d_X12_parsesCommand D (221, [none, none, none], [], (J, L, W), c, sl) Qr Qx := by
  refine nw_goto l_X12_parsesCommand_221 ?_
  refine nw_return l_X12_parsesCommand_303 rfl ?_
  exact h
theorem b_X12_parsesCommand_129  (h : Qr none (J, L, W)) :
    NW sc d_X12_parsesCommand D (129, [none, none, none], [], (J, L, W), c, sl) Qr Qx := by
  refine nw_goto l_X12_parsesCommand_129 ?_
  refine nw_return l_X12_parsesCommand_303 rfl ?_
  exact h
theorem b_X12_parsesCommand_272 {x1 : Int} (hD : 4 ≤ D) (h : ((-2147483648 ≤ x1 + 1 ∧ x1 + 1 < 2147483648) ∧ NW sc d_X12_digitsAfter 2 (0, [some (.inr (.inl (some 303))), some (.inl 2)], [], (J, L, W), 0, 0) (fun v M9 => NW sc d_X12_parsesCommand D (284, [none, none, none], nw_push v [.inl (x1 + 1), .inr (.inl (some 313))], M9, c, sl) Qr Qx) Qx)) :
    NW sc d_X12_parsesCommand D (272, [some (.inr (.inl (some 303))), some (.inl x1), none], [], (J, L, W), c, sl) Qr Qx := by
  refine nw_aload_n l_X12_parsesCommand_272 273 rfl rfl ?_
  refine nw_getA l_X12_parsesCommand_273 276 rfl k_303 r_303_19 ?_
  refine nw_iload_n l_X12_parsesCommand_276 277 rfl rfl ?_
  refine nw_iconst (len := 0) l_X12_parsesCommand_277 278 rfl c_1 ?_
  have o1 := h.1
  replace h := h.2
  refine nw_iadd l_X12_parsesCommand_278 279 rfl o1 ?_
  refine nw_aload_n l_X12_parsesCommand_279 280 rfl rfl ?_
  refine nw_iconst (len := 0) l_X12_parsesCommand_280 281 rfl c_2 ?_
  refine nw_drop (ls' := [none, none, none]) ⟨True.intro, ⟨True.intro, ⟨True.intro, True.intro⟩⟩⟩ ?_
  refine nw_call0 2 303 l_X12_parsesCommand_281 rfl rfl g_X12_digitsAfter (Nat.lt_of_lt_of_le (by decide) hD) rfl (Or.inl ⟨_, rfl, k_303⟩) (ls' := [some (.inr (.inl (some 303))), some (.inl 2)]) rfl (st' := [.inl (x1 + 1), .inr (.inl (some 313))]) rfl 284 rfl ?_
  exact h
theorem b_X12_parsesCommand_234 {x1 : Int} (hD : 4 ≤ D) (h : NW sc d_X12_needs 1 (0, [some (.inr (.inl (some 303))), some (.inl 117)], [], (J, L, W), 0, 0) (fun v M9 => NW sc d_X12_parsesCommand D (240, [some (.inr (.inl (some 303))), some (.inl x1), none], nw_push v [], M9, c, sl) Qr Qx) Qx) :
    NW sc d_X12_parsesCommand D (234, [some (.inr (.inl (some 303))), some (.inl x1), none], [], (J, L, W), c, sl) Qr Qx := by
  refine nw_aload_n l_X12_parsesCommand_234 235 rfl rfl ?_
  refine nw_bipush (len := 0) l_X12_parsesCommand_235 237 rfl c_117 ?_
  refine nw_call0 1 303 l_X12_parsesCommand_237 rfl rfl g_X12_needs (Nat.lt_of_lt_of_le (by decide) hD) rfl (Or.inl ⟨_, rfl, k_303⟩) (ls' := [some (.inr (.inl (some 303))), some (.inl 117)]) rfl (st' := []) rfl 240 rfl ?_
  exact h
theorem b_X12_parsesCommand_142 {x1 : Int} (hD : 4 ≤ D) (h : ((-2147483648 ≤ x1 + 1 ∧ x1 + 1 < 2147483648) ∧ NW sc d_X12_digitsAfter 2 (0, [some (.inr (.inl (some 303))), some (.inl 1)], [], (J, L, W), 0, 0) (fun v M9 => NW sc d_X12_parsesCommand D (154, [some (.inr (.inl (some 303))), some (.inl x1), none], nw_push v [.inl (x1 + 1), .inr (.inl (some 313))], M9, c, sl) Qr Qx) Qx)) :
    NW sc d_X12_parsesCommand D (142, [some (.inr (.inl (some 303))), some (.inl x1), none], [], (J, L, W), c, sl) Qr Qx := by
  refine nw_aload_n l_X12_parsesCommand_142 143 rfl rfl ?_
  refine nw_getA l_X12_parsesCommand_143 146 rfl k_303 r_303_19 ?_
  refine nw_iload_n l_X12_parsesCommand_146 147 rfl rfl ?_
  refine nw_iconst (len := 0) l_X12_parsesCommand_147 148 rfl c_1 ?_
  have o1 := h.1
  replace h := h.2
  refine nw_iadd l_X12_parsesCommand_148 149 rfl o1 ?_
  refine nw_aload_n l_X12_parsesCommand_149 150 rfl rfl ?_
  refine nw_iconst (len := 0) l_X12_parsesCommand_150 151 rfl c_1 ?_
  refine nw_call0 2 303 l_X12_parsesCommand_151 rfl rfl g_X12_digitsAfter (Nat.lt_of_lt_of_le (by decide) hD) rfl (Or.inl ⟨_, rfl, k_303⟩) (ls' := [some (.inr (.inl (some 303))), some (.inl 1)]) rfl (st' := [.inl (x1 + 1), .inr (.inl (some 313))]) rfl 154 rfl ?_
  exact h
theorem b_X12_parsesCommand_187 {x1 : Int} (hD : 4 ≤ D) (h : ((-2147483648 ≤ x1 + 1 ∧ x1 + 1 < 2147483648) ∧ NW sc d_X12_digitsAfter 2 (0, [some (.inr (.inl (some 303))), some (.inl 1)], [], (J, L, W), 0, 0) (fun v M9 => NW sc d_X12_parsesCommand D (199, [some (.inr (.inl (some 303))), some (.inl x1), none], nw_push v [.inl (x1 + 1), .inr (.inl (some 313))], M9, c, sl) Qr Qx) Qx)) :
    NW sc d_X12_parsesCommand D (187, [some (.inr (.inl (some 303))), some (.inl x1), none], [], (J, L, W), c, sl) Qr Qx := by
  refine nw_aload_n l_X12_parsesCommand_187 188 rfl rfl ?_
  refine nw_getA l_X12_parsesCommand_188 191 rfl k_303 r_303_19 ?_
  refine nw_iload_n l_X12_parsesCommand_191 192 rfl rfl ?_
  refine nw_iconst (len := 0) l_X12_parsesCommand_192 193 rfl c_1 ?_
  have o1 := h.1
  replace h := h.2
  refine nw_iadd l_X12_parsesCommand_193 194 rfl o1 ?_
  refine nw_aload_n l_X12_parsesCommand_194 195 rfl rfl ?_
  refine nw_iconst (len := 0) l_X12_parsesCommand_195 196 rfl c_1 ?_
  refine nw_call0 2 303 l_X12_parsesCommand_196 rfl rfl g_X12_digitsAfter (Nat.lt_of_lt_of_le (by decide) hD) rfl (Or.inl ⟨_, rfl, k_303⟩) (ls' := [some (.inr (.inl (some 303))), some (.inl 1)]) rfl (st' := [.inl (x1 + 1), .inr (.inl (some 313))]) rfl 199 rfl ?_
  exact h
theorem b_X12_parsesCommand_284 {y0 : Int} {y1 : Int} (h : ((0 ≤ y1 ∧ y1 < 300) ∧ Qr none (nw_u J 313 y1 y0, L, W))) :
    NW sc d_X12_parsesCommand D (284, [none, none, none], [.inl y0, .inl y1, .inr (.inl (some 313))], (J, L, W), c, sl) Qr Qx := by
  have o1 := h.1
  replace h := h.2
  refine nw_iast l_X12_parsesCommand_284 285 rfl k_313 o1 ?_
  refine nw_goto l_X12_parsesCommand_285 ?_
  refine nw_return l_X12_parsesCommand_303 rfl ?_
  exact h
theorem b_X12_parsesCommand_240 {x1 : Int} (hD : 4 ≤ D) (h : NW sc d_X12_needs 1 (0, [some (.inr (.inl (some 303))), some (.inl 101)], [], (J, L, W), 0, 0) (fun v M9 => NW sc d_X12_parsesCommand D (246, [some (.inr (.inl (some 303))), some (.inl x1), none], nw_push v [], M9, c, sl) Qr Qx) Qx) :
    NW sc d_X12_parsesCommand D (240, [some (.inr (.inl (some 303))), some (.inl x1), none], [], (J, L, W), c, sl) Qr Qx := by
  refine nw_aload_n l_X12_parsesCommand_240 241 rfl rfl ?_
  refine nw_bipush (len := 0) l_X12_parsesCommand_241 243 rfl c_101 ?_
  refine nw_call0 1 303 l_X12_parsesCommand_243 rfl rfl g_X12_needs (Nat.lt_of_lt_of_le (by decide) hD) rfl (Or.inl ⟨_, rfl, k_303⟩) (ls' := [some (.inr (.inl (some 303))), some (.inl 101)]) rfl (st' := []) rfl 246 rfl ?_
  exact h
theorem b_X12_parsesCommand_154 {x1 : Int} {y0 : Int} {y1 : Int} (hD : 4 ≤ D) (h : ((0 ≤ y1 ∧ y1 < 300) ∧ ((-2147483648 ≤ x1 + 2 ∧ x1 + 2 < 2147483648) ∧ NW sc d_X12_digitsAfter 2 (0, [some (.inr (.inl (some 303))), some (.inl 1)], [], (nw_u J 313 y1 y0, L, W), 0, 0) (fun v M9 => NW sc d_X12_parsesCommand D (167, [none, none, none], nw_push v [.inl (x1 + 2), .inr (.inl (some 313))], M9, c, sl) Qr Qx) Qx))) :
    NW sc d_X12_parsesCommand D (154, [some (.inr (.inl (some 303))), some (.inl x1), none], [.inl y0, .inl y1, .inr (.inl (some 313))], (J, L, W), c, sl) Qr Qx := by
  have o1 := h.1
  replace h := h.2
  refine nw_iast l_X12_parsesCommand_154 155 rfl k_313 o1 ?_
  refine nw_aload_n l_X12_parsesCommand_155 156 rfl rfl ?_
  refine nw_getA l_X12_parsesCommand_156 159 rfl k_303 r_303_19 ?_
  refine nw_iload_n l_X12_parsesCommand_159 160 rfl rfl ?_
  refine nw_iconst (len := 0) l_X12_parsesCommand_160 161 rfl c_2 ?_
  have o2 := h.1
  replace h := h.2
  refine nw_iadd l_X12_parsesCommand_161 162 rfl o2 ?_
  refine nw_aload_n l_X12_parsesCommand_162 163 rfl rfl ?_
  refine nw_iconst (len := 0) l_X12_parsesCommand_163 164 rfl c_1 ?_
  refine nw_drop (ls' := [none, none, none]) ⟨True.intro, ⟨True.intro, ⟨True.intro, True.intro⟩⟩⟩ ?_
  refine nw_call0 2 303 l_X12_parsesCommand_164 rfl rfl g_X12_digitsAfter (Nat.lt_of_lt_of_le (by decide) hD) rfl (Or.inl ⟨_, rfl, k_303⟩) (ls' := [some (.inr (.inl (some 303))), some (.inl 1)]) rfl (st' := [.inl (x1 + 2), .inr (.inl (some 313))]) rfl 167 rfl ?_
  exact h
theorem b_X12_parsesCommand_199 {x1 : Int} {y0 : Int} {y1 : Int} (hD : 4 ≤ D) (h : ((0 ≤ y1 ∧ y1 < 300) ∧ ((-2147483648 ≤ x1 + 2 ∧ x1 + 2 < 2147483648) ∧ NW sc d_X12_digitsAfter 2 (0, [some (.inr (.inl (some 303))), some (.inl 2)], [], (nw_u J 313 y1 y0, L, W), 0, 0) (fun v M9 => NW sc d_X12_parsesCommand D (212, [none, none, none], nw_push v [.inl (x1 + 2), .inr (.inl (some 313))], M9, c, sl) Qr Qx) Qx))) :
    NW sc d_X12_parsesCommand D (199, [some (.inr (.inl (some 303))), some (.inl x1), none], [.inl y0, .inl y1, .inr (.inl (some 313))], (J, L, W), c, sl) Qr Qx := by
  have o1 := h.1
  replace h := h.2
  refine nw_iast l_X12_parsesCommand_199 200 rfl k_313 o1 ?_
  refine nw_aload_n l_X12_parsesCommand_200 201 rfl rfl ?_
  refine nw_getA l_X12_parsesCommand_201 204 rfl k_303 r_303_19 ?_
  refine nw_iload_n l_X12_parsesCommand_204 205 rfl rfl ?_
  refine nw_iconst (len := 0) l_X12_parsesCommand_205 206 rfl c_2 ?_
  have o2 := h.1
  replace h := h.2
  refine nw_iadd l_X12_parsesCommand_206 207 rfl o2 ?_
  refine nw_aload_n l_X12_parsesCommand_207 208 rfl rfl ?_
  refine nw_iconst (len := 0) l_X12_parsesCommand_208 209 rfl c_2 ?_
  refine nw_drop (ls' := [none, none, none]) ⟨True.intro, ⟨True.intro, ⟨True.intro, True.intro⟩⟩⟩ ?_
  refine nw_call0 2 303 l_X12_parsesCommand_209 rfl rfl g_X12_digitsAfter (Nat.lt_of_lt_of_le (by decide) hD) rfl (Or.inl ⟨_, rfl, k_303⟩) (ls' := [some (.inr (.inl (some 303))), some (.inl 2)]) rfl (st' := [.inl (x1 + 2), .inr (.inl (some 313))]) rfl 212 rfl ?_
  exact h
theorem b_X12_parsesCommand_246 {x1 : Int} (hD : 4 ≤ D) (h : ((-2147483648 ≤ x1 + 1 ∧ x1 + 1 < 2147483648) ∧ NW sc d_X12_digitsAfter 2 (0, [some (.inr (.inl (some 303))), some (.inl 1)], [], (J, L, W), 0, 0) (fun v M9 => NW sc d_X12_parsesCommand D (258, [none, none, none], nw_push v [.inl (x1 + 1), .inr (.inl (some 313))], M9, c, sl) Qr Qx) Qx)) :
    NW sc d_X12_parsesCommand D (246, [some (.inr (.inl (some 303))), some (.inl x1), none], [], (J, L, W), c, sl) Qr Qx := by
  refine nw_aload_n l_X12_parsesCommand_246 247 rfl rfl ?_
  refine nw_getA l_X12_parsesCommand_247 250 rfl k_303 r_303_19 ?_
  refine nw_iload_n l_X12_parsesCommand_250 251 rfl rfl ?_
  refine nw_iconst (len := 0) l_X12_parsesCommand_251 252 rfl c_1 ?_
  have o1 := h.1
  replace h := h.2
  refine nw_iadd l_X12_parsesCommand_252 253 rfl o1 ?_
  refine nw_aload_n l_X12_parsesCommand_253 254 rfl rfl ?_
  refine nw_iconst (len := 0) l_X12_parsesCommand_254 255 rfl c_1 ?_
  refine nw_drop (ls' := [none, none, none]) ⟨True.intro, ⟨True.intro, ⟨True.intro, True.intro⟩⟩⟩ ?_
  refine nw_call0 2 303 l_X12_parsesCommand_255 rfl rfl g_X12_digitsAfter (Nat.lt_of_lt_of_le (by decide) hD) rfl (Or.inl ⟨_, rfl, k_303⟩) (ls' := [some (.inr (.inl (some 303))), some (.inl 1)]) rfl (st' := [.inl (x1 + 1), .inr (.inl (some 313))]) rfl 258 rfl ?_
  exact h
theorem b_X12_parsesCommand_167 {y0 : Int} {y1 : Int} (h : ((0 ≤ y1 ∧ y1 < 300) ∧ Qr none (nw_u J 313 y1 y0, L, W))) :
    NW sc d_X12_parsesCommand D (167, [none, none, none], [.inl y0, .inl y1, .inr (.inl (some 313))], (J, L, W), c, sl) Qr Qx := by
  have o1 := h.1
  replace h := h.2
  refine nw_iast l_X12_parsesCommand_167 168 rfl k_313 o1 ?_
  refine nw_goto l_X12_parsesCommand_168 ?_
  refine nw_return l_X12_parsesCommand_303 rfl ?_
  exact h
theorem b_X12_parsesCommand_212 {y0 : Int} {y1 : Int} (h : ((0 ≤ y1 ∧ y1 < 300) ∧ Qr none (nw_u J 313 y1 y0, L, W))) :
    NW sc d_X12_parsesCommand D (212, [none, none, none], [.inl y0, .inl y1, .inr (.inl (some 313))], (J, L, W), c, sl) Qr Qx := by
  have o1 := h.1
  replace h := h.2
  refine nw_iast l_X12_parsesCommand_212 213 rfl k_313 o1 ?_
  refine nw_goto l_X12_parsesCommand_213 ?_
  refine nw_return l_X12_parsesCommand_303 rfl ?_
  exact h
theorem b_X12_parsesCommand_258 {y0 : Int} {y1 : Int} (h : ((0 ≤ y1 ∧ y1 < 300) ∧ Qr none (nw_u J 313 y1 y0, L, W))) :
    NW sc d_X12_parsesCommand D (258, [none, none, none], [.inl y0, .inl y1, .inr (.inl (some 313))], (J, L, W), c, sl) Qr Qx := by
  have o1 := h.1
  replace h := h.2
  refine nw_iast l_X12_parsesCommand_258 259 rfl k_313 o1 ?_
  refine nw_goto l_X12_parsesCommand_259 ?_
  refine nw_return l_X12_parsesCommand_303 rfl ?_
  exact h
theorem b_X12_parsesFerry_0 {x1 : Int} (hD : 3 ≤ D) (h : NW sc d_X12_needsThree 2 (0, [some (.inr (.inl (some 303))), some (.inl 101), some (.inl 114), some (.inl 114)], [], (J, L, W), 0, 0) (fun v M9 => NW sc d_X12_parsesFerry D (10, [some (.inr (.inl (some 303))), some (.inl x1)], nw_push v [], M9, c, sl) Qr Qx) Qx) :
    NW sc d_X12_parsesFerry D (0, [some (.inr (.inl (some 303))), some (.inl x1)], [], (J, L, W), c, sl) Qr Qx := by
  refine nw_aload_n l_X12_parsesFerry_0 1 rfl rfl ?_
  refine nw_bipush (len := 0) l_X12_parsesFerry_1 3 rfl c_101 ?_
  refine nw_bipush (len := 0) l_X12_parsesFerry_3 5 rfl c_114 ?_
  refine nw_bipush (len := 0) l_X12_parsesFerry_5 7 rfl c_114 ?_
  refine nw_call0 2 303 l_X12_parsesFerry_7 rfl rfl g_X12_needsThree (Nat.lt_of_lt_of_le (by decide) hD) rfl (Or.inl ⟨_, rfl, k_303⟩) (ls' := [some (.inr (.inl (some 303))), some (.inl 101), some (.inl 114), some (.inl 114)]) rfl (st' := []) rfl 10 rfl ?_
  exact h
theorem b_X12_parsesFerry_10 {x1 : Int} (hD : 3 ≤ D) (h : NW sc d_X12_needs 1 (0, [some (.inr (.inl (some 303))), some (.inl 121)], [], (J, L, W), 0, 0) (fun v M9 => NW sc d_X12_parsesFerry D (16, [some (.inr (.inl (some 303))), some (.inl x1)], nw_push v [], M9, c, sl) Qr Qx) Qx) :
    NW sc d_X12_parsesFerry D (10, [some (.inr (.inl (some 303))), some (.inl x1)], [], (J, L, W), c, sl) Qr Qx := by
  refine nw_aload_n l_X12_parsesFerry_10 11 rfl rfl ?_
  refine nw_bipush (len := 0) l_X12_parsesFerry_11 13 rfl c_121 ?_
  refine nw_call0 1 303 l_X12_parsesFerry_13 rfl rfl g_X12_needs (Nat.lt_of_lt_of_le (by decide) hD) rfl (Or.inl ⟨_, rfl, k_303⟩) (ls' := [some (.inr (.inl (some 303))), some (.inl 121)]) rfl (st' := []) rfl 16 rfl ?_
  exact h
theorem b_X12_parsesFerry_16 {x1 : Int} (hD : 3 ≤ D) (h : ((-2147483648 ≤ x1 + 1 ∧ x1 + 1 < 2147483648) ∧ NW sc d_X12_digitsAfter 2 (0, [some (.inr (.inl (some 303))), some (.inl 1)], [], (J, L, W), 0, 0) (fun v M9 => NW sc d_X12_parsesFerry D (28, [some (.inr (.inl (some 303))), some (.inl x1)], nw_push v [.inl (x1 + 1), .inr (.inl (some 313))], M9, c, sl) Qr Qx) Qx)) :
    NW sc d_X12_parsesFerry D (16, [some (.inr (.inl (some 303))), some (.inl x1)], [], (J, L, W), c, sl) Qr Qx := by
  refine nw_aload_n l_X12_parsesFerry_16 17 rfl rfl ?_
  refine nw_getA l_X12_parsesFerry_17 20 rfl k_303 r_303_19 ?_
  refine nw_iload_n l_X12_parsesFerry_20 21 rfl rfl ?_
  refine nw_iconst (len := 0) l_X12_parsesFerry_21 22 rfl c_1 ?_
  have o1 := h.1
  replace h := h.2
  refine nw_iadd l_X12_parsesFerry_22 23 rfl o1 ?_
  refine nw_aload_n l_X12_parsesFerry_23 24 rfl rfl ?_
  refine nw_iconst (len := 0) l_X12_parsesFerry_24 25 rfl c_1 ?_
  refine nw_call0 2 303 l_X12_parsesFerry_25 rfl rfl g_X12_digitsAfter (Nat.lt_of_lt_of_le (by decide) hD) rfl (Or.inl ⟨_, rfl, k_303⟩) (ls' := [some (.inr (.inl (some 303))), some (.inl 1)]) rfl (st' := [.inl (x1 + 1), .inr (.inl (some 313))]) rfl 28 rfl ?_
  exact h
theorem b_X12_parsesFerry_28 {x1 : Int} {y0 : Int} {y1 : Int} (hD : 3 ≤ D) (h : ((0 ≤ y1 ∧ y1 < 300) ∧ ((-2147483648 ≤ x1 + 2 ∧ x1 + 2 < 2147483648) ∧ NW sc d_X12_digitsAfter 2 (0, [some (.inr (.inl (some 303))), some (.inl 2)], [], (nw_u J 313 y1 y0, L, W), 0, 0) (fun v M9 => NW sc d_X12_parsesFerry D (41, [some (.inr (.inl (some 303))), some (.inl x1)], nw_push v [.inl (x1 + 2), .inr (.inl (some 313))], M9, c, sl) Qr Qx) Qx))) :
    NW sc d_X12_parsesFerry D (28, [some (.inr (.inl (some 303))), some (.inl x1)], [.inl y0, .inl y1, .inr (.inl (some 313))], (J, L, W), c, sl) Qr Qx := by
  have o1 := h.1
  replace h := h.2
  refine nw_iast l_X12_parsesFerry_28 29 rfl k_313 o1 ?_
  refine nw_aload_n l_X12_parsesFerry_29 30 rfl rfl ?_
  refine nw_getA l_X12_parsesFerry_30 33 rfl k_303 r_303_19 ?_
  refine nw_iload_n l_X12_parsesFerry_33 34 rfl rfl ?_
  refine nw_iconst (len := 0) l_X12_parsesFerry_34 35 rfl c_2 ?_
  have o2 := h.1
  replace h := h.2
  refine nw_iadd l_X12_parsesFerry_35 36 rfl o2 ?_
  refine nw_aload_n l_X12_parsesFerry_36 37 rfl rfl ?_
  refine nw_iconst (len := 0) l_X12_parsesFerry_37 38 rfl c_2 ?_
  refine nw_call0 2 303 l_X12_parsesFerry_38 rfl rfl g_X12_digitsAfter (Nat.lt_of_lt_of_le (by decide) hD) rfl (Or.inl ⟨_, rfl, k_303⟩) (ls' := [some (.inr (.inl (some 303))), some (.inl 2)]) rfl (st' := [.inl (x1 + 2), .inr (.inl (some 313))]) rfl 41 rfl ?_
  exact h
theorem b_X12_parsesFerry_41 {x1 : Int} {y0 : Int} {y1 : Int} (hD : 3 ≤ D) (h : ((0 ≤ y1 ∧ y1 < 300) ∧ ((-2147483648 ≤ x1 + 3 ∧ x1 + 3 < 2147483648) ∧ NW sc d_X12_digitsAfter 2 (0, [some (.inr (.inl (some 303))), some (.inl 2)], [], (nw_u J 313 y1 y0, L, W), 0, 0) (fun v M9 => NW sc d_X12_parsesFerry D (54, [none, none], nw_push v [.inl (x1 + 3), .inr (.inl (some 313))], M9, c, sl) Qr Qx) Qx))) :
    NW sc d_X12_parsesFerry D (41, [some (.inr (.inl (some 303))), some (.inl x1)], [.inl y0, .inl y1, .inr (.inl (some 313))], (J, L, W), c, sl) Qr Qx := by
  have o1 := h.1
  replace h := h.2
  refine nw_iast l_X12_parsesFerry_41 42 rfl k_313 o1 ?_
  refine nw_aload_n l_X12_parsesFerry_42 43 rfl rfl ?_
  refine nw_getA l_X12_parsesFerry_43 46 rfl k_303 r_303_19 ?_
  refine nw_iload_n l_X12_parsesFerry_46 47 rfl rfl ?_
  refine nw_iconst (len := 0) l_X12_parsesFerry_47 48 rfl c_3 ?_
  have o2 := h.1
  replace h := h.2
  refine nw_iadd l_X12_parsesFerry_48 49 rfl o2 ?_
  refine nw_aload_n l_X12_parsesFerry_49 50 rfl rfl ?_
  refine nw_iconst (len := 0) l_X12_parsesFerry_50 51 rfl c_2 ?_
  refine nw_drop (ls' := [none, none]) ⟨True.intro, ⟨True.intro, True.intro⟩⟩ ?_
  refine nw_call0 2 303 l_X12_parsesFerry_51 rfl rfl g_X12_digitsAfter (Nat.lt_of_lt_of_le (by decide) hD) rfl (Or.inl ⟨_, rfl, k_303⟩) (ls' := [some (.inr (.inl (some 303))), some (.inl 2)]) rfl (st' := [.inl (x1 + 3), .inr (.inl (some 313))]) rfl 54 rfl ?_
  exact h
theorem b_X12_parsesFerry_54 {y0 : Int} {y1 : Int} (h : ((0 ≤ y1 ∧ y1 < 300) ∧ Qr none (nw_u J 313 y1 y0, L, W))) :
    NW sc d_X12_parsesFerry D (54, [none, none], [.inl y0, .inl y1, .inr (.inl (some 313))], (J, L, W), c, sl) Qr Qx := by
  have o1 := h.1
  replace h := h.2
  refine nw_iast l_X12_parsesFerry_54 55 rfl k_313 o1 ?_
  refine nw_return l_X12_parsesFerry_55 rfl ?_
  exact h
theorem b_X12_parsesL_0 {x1 : Int} (hD : 3 ≤ D) (h : ((J 303 7 ≤ J 303 17 → NW sc d_X12_needsThree 2 (0, [some (.inr (.inl (some 303))), some (.inl 97), some (.inl 110), some (.inl 100)], [], (J, L, W), 0, 0) (fun v M9 => NW sc d_X12_parsesL D (53, [some (.inr (.inl (some 303))), some (.inl x1)], nw_push v [], M9, c, sl) Qr Qx) Qx) ∧ (J 303 17 < J 303 7 → ((0 ≤ J 303 17 ∧ J 303 17 < 60) ∧ ((¬ J 308 (J 303 17) = 111 → NW sc d_X12_needsThree 2 (0, [some (.inr (.inl (some 303))), some (.inl 97), some (.inl 110), some (.inl 100)], [], (J, L, W), 0, 0) (fun v M9 => NW sc d_X12_parsesL D (53, [some (.inr (.inl (some 303))), some (.inl x1)], nw_push v [], M9, c, sl) Qr Qx) Qx) ∧ (J 308 (J 303 17) = 111 → ((0 ≤ x1 ∧ x1 < 300) ∧ NW sc d_X12_needsThree 2 (0, [some (.inr (.inl (some 303))), some (.inl 111), some (.inl 97), some (.inl 100)], [], (nw_u J 313 x1 111, L, W), 0, 0) (fun v M9 => NW sc d_X12_parsesL D (27, [some (.inr (.inl (some 303))), some (.inl x1)], nw_push v [], M9, c, sl) Qr Qx) Qx))))))) :
    NW sc d_X12_parsesL D (0, [some (.inr (.inl (some 303))), some (.inl x1)], [], (J, L, W), c, sl) Qr Qx := by
  refine nw_aload_n l_X12_parsesL_0 1 rfl rfl ?_
  refine nw_call0 0 303 l_X12_parsesL_1 rfl rfl g_X12_here (Nat.lt_of_lt_of_le (by decide) hD) rfl (Or.inl ⟨_, rfl, k_303⟩) (ls' := [some (.inr (.inl (some 303)))]) rfl (st' := []) rfl 4 rfl ?_
  refine nw_aload_n l_X12_here_0 1 rfl rfl ?_
  refine nw_getI l_X12_here_1 4 rfl k_303 (v := J 303 17) rfl ?_
  refine nw_aload_n l_X12_here_4 5 rfl rfl ?_
  refine nw_getI l_X12_here_5 8 rfl k_303 (v := J 303 7) rfl ?_
  refine nw_ic_ge l_X12_here_8 11 rfl (fun q1 => ?_) (fun q1 => ?_)
  · replace h := h.1 q1
    refine nw_iconst (len := 0) l_X12_here_23 24 rfl c_n1 ?_
    refine nw_ireturn l_X12_here_24 rfl ?_
    refine nw_bipush (len := 0) l_X12_parsesL_4 6 rfl c_111 ?_
    refine nw_ic_ne l_X12_parsesL_6 9 rfl (fun _ => ?_) (fun q => absurd q (by decide))
    refine nw_aload_n l_X12_parsesL_43 44 rfl rfl ?_
    refine nw_bipush (len := 0) l_X12_parsesL_44 46 rfl c_97 ?_
    refine nw_bipush (len := 0) l_X12_parsesL_46 48 rfl c_110 ?_
    refine nw_bipush (len := 0) l_X12_parsesL_48 50 rfl c_100 ?_
    refine nw_call0 2 303 l_X12_parsesL_50 rfl rfl g_X12_needsThree (Nat.lt_of_lt_of_le (by decide) hD) rfl (Or.inl ⟨_, rfl, k_303⟩) (ls' := [some (.inr (.inl (some 303))), some (.inl 97), some (.inl 110), some (.inl 100)]) rfl (st' := []) rfl 53 rfl ?_
    exact h
  · replace h := h.2 q1
    refine nw_aload_n l_X12_here_11 12 rfl rfl ?_
    refine nw_getA l_X12_here_12 15 rfl k_303 r_303_6 ?_
    refine nw_aload_n l_X12_here_15 16 rfl rfl ?_
    refine nw_getI l_X12_here_16 19 rfl k_303 (v := J 303 17) rfl ?_
    have o2 := h.1
    replace h := h.2
    refine nw_cald l_X12_here_19 20 rfl k_308 o2 (v := J 308 (J 303 17)) rfl ?_
    refine nw_goto l_X12_here_20 ?_
    refine nw_ireturn l_X12_here_24 rfl ?_
    refine nw_bipush (len := 0) l_X12_parsesL_4 6 rfl c_111 ?_
    refine nw_ic_ne l_X12_parsesL_6 9 rfl (fun q3 => ?_) (fun q3 => ?_)
    · replace h := h.1 q3
      refine nw_aload_n l_X12_parsesL_43 44 rfl rfl ?_
      refine nw_bipush (len := 0) l_X12_parsesL_44 46 rfl c_97 ?_
      refine nw_bipush (len := 0) l_X12_parsesL_46 48 rfl c_110 ?_
      refine nw_bipush (len := 0) l_X12_parsesL_48 50 rfl c_100 ?_
      refine nw_call0 2 303 l_X12_parsesL_50 rfl rfl g_X12_needsThree (Nat.lt_of_lt_of_le (by decide) hD) rfl (Or.inl ⟨_, rfl, k_303⟩) (ls' := [some (.inr (.inl (some 303))), some (.inl 97), some (.inl 110), some (.inl 100)]) rfl (st' := []) rfl 53 rfl ?_
      exact h
    · replace h := h.2 q3
      refine nw_aload_n l_X12_parsesL_9 10 rfl rfl ?_
      refine nw_getA l_X12_parsesL_10 13 rfl k_303 r_303_19 ?_
      refine nw_iload_n l_X12_parsesL_13 14 rfl rfl ?_
      refine nw_bipush (len := 0) l_X12_parsesL_14 16 rfl c_111 ?_
      have o4 := h.1
      replace h := h.2
      refine nw_iast l_X12_parsesL_16 17 rfl k_313 o4 ?_
      refine nw_aload_n l_X12_parsesL_17 18 rfl rfl ?_
      refine nw_bipush (len := 0) l_X12_parsesL_18 20 rfl c_111 ?_
      refine nw_bipush (len := 0) l_X12_parsesL_20 22 rfl c_97 ?_
      refine nw_bipush (len := 0) l_X12_parsesL_22 24 rfl c_100 ?_
      refine nw_call0 2 303 l_X12_parsesL_24 rfl rfl g_X12_needsThree (Nat.lt_of_lt_of_le (by decide) hD) rfl (Or.inl ⟨_, rfl, k_303⟩) (ls' := [some (.inr (.inl (some 303))), some (.inl 111), some (.inl 97), some (.inl 100)]) rfl (st' := []) rfl 27 rfl ?_
      exact h
theorem b_X12_parsesL_53 {x1 : Int} (hD : 3 ≤ D) (h : ((-2147483648 ≤ x1 + 1 ∧ x1 + 1 < 2147483648) ∧ NW sc d_X12_digitsAfter 2 (0, [some (.inr (.inl (some 303))), some (.inl 2)], [], (J, L, W), 0, 0) (fun v M9 => NW sc d_X12_parsesL D (65, [none, none], nw_push v [.inl (x1 + 1), .inr (.inl (some 313))], M9, c, sl) Qr Qx) Qx)) :
    NW sc d_X12_parsesL D (53, [some (.inr (.inl (some 303))), some (.inl x1)], [], (J, L, W), c, sl) Qr Qx := by
  refine nw_aload_n l_X12_parsesL_53 54 rfl rfl ?_
  refine nw_getA l_X12_parsesL_54 57 rfl k_303 r_303_19 ?_
  refine nw_iload_n l_X12_parsesL_57 58 rfl rfl ?_
  refine nw_iconst (len := 0) l_X12_parsesL_58 59 rfl c_1 ?_
  have o1 := h.1
  replace h := h.2
  refine nw_iadd l_X12_parsesL_59 60 rfl o1 ?_
  refine nw_aload_n l_X12_parsesL_60 61 rfl rfl ?_
  refine nw_iconst (len := 0) l_X12_parsesL_61 62 rfl c_2 ?_
  refine nw_drop (ls' := [none, none]) ⟨True.intro, ⟨True.intro, True.intro⟩⟩ ?_
  refine nw_call0 2 303 l_X12_parsesL_62 rfl rfl g_X12_digitsAfter (Nat.lt_of_lt_of_le (by decide) hD) rfl (Or.inl ⟨_, rfl, k_303⟩) (ls' := [some (.inr (.inl (some 303))), some (.inl 2)]) rfl (st' := [.inl (x1 + 1), .inr (.inl (some 313))]) rfl 65 rfl ?_
  exact h
theorem b_X12_parsesL_27 {x1 : Int} (hD : 3 ≤ D) (h : ((-2147483648 ≤ x1 + 1 ∧ x1 + 1 < 2147483648) ∧ NW sc d_X12_digitsAfter 2 (0, [some (.inr (.inl (some 303))), some (.inl 1)], [], (J, L, W), 0, 0) (fun v M9 => NW sc d_X12_parsesL D (39, [none, none], nw_push v [.inl (x1 + 1), .inr (.inl (some 313))], M9, c, sl) Qr Qx) Qx)) :
    NW sc d_X12_parsesL D (27, [some (.inr (.inl (some 303))), some (.inl x1)], [], (J, L, W), c, sl) Qr Qx := by
  refine nw_aload_n l_X12_parsesL_27 28 rfl rfl ?_
  refine nw_getA l_X12_parsesL_28 31 rfl k_303 r_303_19 ?_
  refine nw_iload_n l_X12_parsesL_31 32 rfl rfl ?_
  refine nw_iconst (len := 0) l_X12_parsesL_32 33 rfl c_1 ?_
  have o1 := h.1
  replace h := h.2
  refine nw_iadd l_X12_parsesL_33 34 rfl o1 ?_
  refine nw_aload_n l_X12_parsesL_34 35 rfl rfl ?_
  refine nw_iconst (len := 0) l_X12_parsesL_35 36 rfl c_1 ?_
  refine nw_drop (ls' := [none, none]) ⟨True.intro, ⟨True.intro, True.intro⟩⟩ ?_
  refine nw_call0 2 303 l_X12_parsesL_36 rfl rfl g_X12_digitsAfter (Nat.lt_of_lt_of_le (by decide) hD) rfl (Or.inl ⟨_, rfl, k_303⟩) (ls' := [some (.inr (.inl (some 303))), some (.inl 1)]) rfl (st' := [.inl (x1 + 1), .inr (.inl (some 313))]) rfl 39 rfl ?_
  exact h
theorem b_X12_parsesL_65 {y0 : Int} {y1 : Int} (h : ((0 ≤ y1 ∧ y1 < 300) ∧ Qr none (nw_u J 313 y1 y0, L, W))) :
    NW sc d_X12_parsesL D (65, [none, none], [.inl y0, .inl y1, .inr (.inl (some 313))], (J, L, W), c, sl) Qr Qx := by
  have o1 := h.1
  replace h := h.2
  refine nw_iast l_X12_parsesL_65 66 rfl k_313 o1 ?_
  refine nw_return l_X12_parsesL_66 rfl ?_
  exact h
theorem b_X12_parsesL_39 {y0 : Int} {y1 : Int} (h : ((0 ≤ y1 ∧ y1 < 300) ∧ Qr none (nw_u J 313 y1 y0, L, W))) :
    NW sc d_X12_parsesL D (39, [none, none], [.inl y0, .inl y1, .inr (.inl (some 313))], (J, L, W), c, sl) Qr Qx := by
  have o1 := h.1
  replace h := h.2
  refine nw_iast l_X12_parsesL_39 40 rfl k_313 o1 ?_
  refine nw_goto l_X12_parsesL_40 ?_
  refine nw_return l_X12_parsesL_66 rfl ?_
  exact h
theorem b_X12_parsesMoon_0 {x1 : Int} (hD : 3 ≤ D) (h : NW sc d_X12_needsThree 2 (0, [some (.inr (.inl (some 303))), some (.inl 111), some (.inl 111), some (.inl 110)], [], (J, L, W), 0, 0) (fun v M9 => NW sc d_X12_parsesMoon D (10, [some (.inr (.inl (some 303))), some (.inl x1)], nw_push v [], M9, c, sl) Qr Qx) Qx) :
    NW sc d_X12_parsesMoon D (0, [some (.inr (.inl (some 303))), some (.inl x1)], [], (J, L, W), c, sl) Qr Qx := by
  refine nw_aload_n l_X12_parsesMoon_0 1 rfl rfl ?_
  refine nw_bipush (len := 0) l_X12_parsesMoon_1 3 rfl c_111 ?_
  refine nw_bipush (len := 0) l_X12_parsesMoon_3 5 rfl c_111 ?_
  refine nw_bipush (len := 0) l_X12_parsesMoon_5 7 rfl c_110 ?_
  refine nw_call0 2 303 l_X12_parsesMoon_7 rfl rfl g_X12_needsThree (Nat.lt_of_lt_of_le (by decide) hD) rfl (Or.inl ⟨_, rfl, k_303⟩) (ls' := [some (.inr (.inl (some 303))), some (.inl 111), some (.inl 111), some (.inl 110)]) rfl (st' := []) rfl 10 rfl ?_
  exact h
theorem b_X12_parsesMoon_10 {x1 : Int} (hD : 3 ≤ D) (h : ((-2147483648 ≤ x1 + 1 ∧ x1 + 1 < 2147483648) ∧ NW sc d_X12_digitsAfter 2 (0, [some (.inr (.inl (some 303))), some (.inl 1)], [], (J, L, W), 0, 0) (fun v M9 => NW sc d_X12_parsesMoon D (22, [some (.inr (.inl (some 303))), some (.inl x1)], nw_push v [.inl (x1 + 1), .inr (.inl (some 313))], M9, c, sl) Qr Qx) Qx)) :
    NW sc d_X12_parsesMoon D (10, [some (.inr (.inl (some 303))), some (.inl x1)], [], (J, L, W), c, sl) Qr Qx := by
  refine nw_aload_n l_X12_parsesMoon_10 11 rfl rfl ?_
  refine nw_getA l_X12_parsesMoon_11 14 rfl k_303 r_303_19 ?_
  refine nw_iload_n l_X12_parsesMoon_14 15 rfl rfl ?_
  refine nw_iconst (len := 0) l_X12_parsesMoon_15 16 rfl c_1 ?_
  have o1 := h.1
  replace h := h.2
  refine nw_iadd l_X12_parsesMoon_16 17 rfl o1 ?_
  refine nw_aload_n l_X12_parsesMoon_17 18 rfl rfl ?_
  refine nw_iconst (len := 0) l_X12_parsesMoon_18 19 rfl c_1 ?_
  refine nw_call0 2 303 l_X12_parsesMoon_19 rfl rfl g_X12_digitsAfter (Nat.lt_of_lt_of_le (by decide) hD) rfl (Or.inl ⟨_, rfl, k_303⟩) (ls' := [some (.inr (.inl (some 303))), some (.inl 1)]) rfl (st' := [.inl (x1 + 1), .inr (.inl (some 313))]) rfl 22 rfl ?_
  exact h
theorem b_X12_parsesMoon_22 {x1 : Int} {y0 : Int} {y1 : Int} (hD : 3 ≤ D) (h : ((0 ≤ y1 ∧ y1 < 300) ∧ ((-2147483648 ≤ x1 + 2 ∧ x1 + 2 < 2147483648) ∧ NW sc d_X12_digits 1 (0, [some (.inr (.inl (some 303))), some (.inl 1), none, none], [], (nw_u J 313 y1 y0, L, W), 0, 0) (fun v M9 => NW sc d_X12_parsesMoon D (35, [some (.inr (.inl (some 303))), some (.inl x1)], nw_push v [.inl (x1 + 2), .inr (.inl (some 313))], M9, c, sl) Qr Qx) Qx))) :
    NW sc d_X12_parsesMoon D (22, [some (.inr (.inl (some 303))), some (.inl x1)], [.inl y0, .inl y1, .inr (.inl (some 313))], (J, L, W), c, sl) Qr Qx := by
  have o1 := h.1
  replace h := h.2
  refine nw_iast l_X12_parsesMoon_22 23 rfl k_313 o1 ?_
  refine nw_aload_n l_X12_parsesMoon_23 24 rfl rfl ?_
  refine nw_getA l_X12_parsesMoon_24 27 rfl k_303 r_303_19 ?_
  refine nw_iload_n l_X12_parsesMoon_27 28 rfl rfl ?_
  refine nw_iconst (len := 0) l_X12_parsesMoon_28 29 rfl c_2 ?_
  have o2 := h.1
  replace h := h.2
  refine nw_iadd l_X12_parsesMoon_29 30 rfl o2 ?_
  refine nw_aload_n l_X12_parsesMoon_30 31 rfl rfl ?_
  refine nw_iconst (len := 0) l_X12_parsesMoon_31 32 rfl c_1 ?_
  refine nw_call0 1 303 l_X12_parsesMoon_32 rfl rfl g_X12_digits (Nat.lt_of_lt_of_le (by decide) hD) rfl (Or.inl ⟨_, rfl, k_303⟩) (ls' := [some (.inr (.inl (some 303))), some (.inl 1), none, none]) rfl (st' := [.inl (x1 + 2), .inr (.inl (some 313))]) rfl 35 rfl ?_
  exact h
theorem b_X12_parsesMoon_35 {x1 : Int} {y0 : Int} {y1 : Int} (hD : 3 ≤ D) (h : ((0 ≤ y1 ∧ y1 < 300) ∧ ((-2147483648 ≤ x1 + 3 ∧ x1 + 3 < 2147483648) ∧ NW sc d_X12_digitsAfter 2 (0, [some (.inr (.inl (some 303))), some (.inl 2)], [], (nw_u J 313 y1 y0, L, W), 0, 0) (fun v M9 => NW sc d_X12_parsesMoon D (48, [some (.inr (.inl (some 303))), some (.inl x1)], nw_push v [.inl (x1 + 3), .inr (.inl (some 313))], M9, c, sl) Qr Qx) Qx))) :
    NW sc d_X12_parsesMoon D (35, [some (.inr (.inl (some 303))), some (.inl x1)], [.inl y0, .inl y1, .inr (.inl (some 313))], (J, L, W), c, sl) Qr Qx := by
  have o1 := h.1
  replace h := h.2
  refine nw_iast l_X12_parsesMoon_35 36 rfl k_313 o1 ?_
  refine nw_aload_n l_X12_parsesMoon_36 37 rfl rfl ?_
  refine nw_getA l_X12_parsesMoon_37 40 rfl k_303 r_303_19 ?_
  refine nw_iload_n l_X12_parsesMoon_40 41 rfl rfl ?_
  refine nw_iconst (len := 0) l_X12_parsesMoon_41 42 rfl c_3 ?_
  have o2 := h.1
  replace h := h.2
  refine nw_iadd l_X12_parsesMoon_42 43 rfl o2 ?_
  refine nw_aload_n l_X12_parsesMoon_43 44 rfl rfl ?_
  refine nw_iconst (len := 0) l_X12_parsesMoon_44 45 rfl c_2 ?_
  refine nw_call0 2 303 l_X12_parsesMoon_45 rfl rfl g_X12_digitsAfter (Nat.lt_of_lt_of_le (by decide) hD) rfl (Or.inl ⟨_, rfl, k_303⟩) (ls' := [some (.inr (.inl (some 303))), some (.inl 2)]) rfl (st' := [.inl (x1 + 3), .inr (.inl (some 313))]) rfl 48 rfl ?_
  exact h
theorem b_X12_parsesMoon_48 {x1 : Int} {y0 : Int} {y1 : Int} (hD : 3 ≤ D) (h : ((0 ≤ y1 ∧ y1 < 300) ∧ ((-2147483648 ≤ x1 + 4 ∧ x1 + 4 < 2147483648) ∧ NW sc d_X12_digitsAfter 2 (0, [some (.inr (.inl (some 303))), some (.inl 1)], [], (nw_u J 313 y1 y0, L, W), 0, 0) (fun v M9 => NW sc d_X12_parsesMoon D (61, [none, none], nw_push v [.inl (x1 + 4), .inr (.inl (some 313))], M9, c, sl) Qr Qx) Qx))) :
    NW sc d_X12_parsesMoon D (48, [some (.inr (.inl (some 303))), some (.inl x1)], [.inl y0, .inl y1, .inr (.inl (some 313))], (J, L, W), c, sl) Qr Qx := by
  have o1 := h.1
  replace h := h.2
  refine nw_iast l_X12_parsesMoon_48 49 rfl k_313 o1 ?_
  refine nw_aload_n l_X12_parsesMoon_49 50 rfl rfl ?_
  refine nw_getA l_X12_parsesMoon_50 53 rfl k_303 r_303_19 ?_
  refine nw_iload_n l_X12_parsesMoon_53 54 rfl rfl ?_
  refine nw_iconst (len := 0) l_X12_parsesMoon_54 55 rfl c_4 ?_
  have o2 := h.1
  replace h := h.2
  refine nw_iadd l_X12_parsesMoon_55 56 rfl o2 ?_
  refine nw_aload_n l_X12_parsesMoon_56 57 rfl rfl ?_
  refine nw_iconst (len := 0) l_X12_parsesMoon_57 58 rfl c_1 ?_
  refine nw_drop (ls' := [none, none]) ⟨True.intro, ⟨True.intro, True.intro⟩⟩ ?_
  refine nw_call0 2 303 l_X12_parsesMoon_58 rfl rfl g_X12_digitsAfter (Nat.lt_of_lt_of_le (by decide) hD) rfl (Or.inl ⟨_, rfl, k_303⟩) (ls' := [some (.inr (.inl (some 303))), some (.inl 1)]) rfl (st' := [.inl (x1 + 4), .inr (.inl (some 313))]) rfl 61 rfl ?_
  exact h
theorem b_X12_parsesMoon_61 {y0 : Int} {y1 : Int} (h : ((0 ≤ y1 ∧ y1 < 300) ∧ Qr none (nw_u J 313 y1 y0, L, W))) :
    NW sc d_X12_parsesMoon D (61, [none, none], [.inl y0, .inl y1, .inr (.inl (some 313))], (J, L, W), c, sl) Qr Qx := by
  have o1 := h.1
  replace h := h.2
  refine nw_iast l_X12_parsesMoon_61 62 rfl k_313 o1 ?_
  refine nw_return l_X12_parsesMoon_62 rfl ?_
  exact h
theorem b_X12_pass_0 {x1 : Int} (hD : 5 ≤ D) (h : NW sc d_X12_begin 1 (0, [some (.inr (.inl (some 303)))], [], (J, L, W), 0, 0) (fun v M9 => NW sc d_X12_pass D (4, [some (.inr (.inl (some 303))), some (.inl x1)], nw_push v [], M9, c, sl) Qr Qx) Qx) :
    NW sc d_X12_pass D (0, [some (.inr (.inl (some 303))), some (.inl x1)], [], (J, L, W), c, sl) Qr Qx := by
  refine nw_aload_n l_X12_pass_0 1 rfl rfl ?_
  refine nw_call0 1 303 l_X12_pass_1 rfl rfl g_X12_begin (Nat.lt_of_lt_of_le (by decide) hD) rfl (Or.inl ⟨_, rfl, k_303⟩) (ls' := [some (.inr (.inl (some 303)))]) rfl (st' := []) rfl 4 rfl ?_
  exact h
theorem b_X12_pass_4 {x1 : Int} (hD : 5 ≤ D) (h : NW sc d_X12_passes 4 (0, [some (.inr (.inl (some 303))), some (.inl x1), none, none], [], (J, L, W), 0, 0) (fun v M9 => NW sc d_X12_pass D (10, [none, none], nw_push v [.inr (.inl (some 303))], M9, c, sl) Qr Qx) Qx) :
    NW sc d_X12_pass D (4, [some (.inr (.inl (some 303))), some (.inl x1)], [], (J, L, W), c, sl) Qr Qx := by
  refine nw_aload_n l_X12_pass_4 5 rfl rfl ?_
  refine nw_aload_n l_X12_pass_5 6 rfl rfl ?_
  refine nw_iload_n l_X12_pass_6 7 rfl rfl ?_
  refine nw_drop (ls' := [none, none]) ⟨True.intro, ⟨True.intro, True.intro⟩⟩ ?_
  refine nw_call0 4 303 l_X12_pass_7 rfl rfl g_X12_passes (Nat.lt_of_lt_of_le (by decide) hD) rfl (Or.inl ⟨_, rfl, k_303⟩) (ls' := [some (.inr (.inl (some 303))), some (.inl x1), none, none]) rfl (st' := [.inr (.inl (some 303))]) rfl 10 rfl ?_
  exact h
theorem b_X12_pass_10 {y0 : Int} (hD : 5 ≤ D) (h : NW sc d_X12_kept 1 (0, [some (.inr (.inl (some 303))), some (.inl y0), none], [], (J, L, W), 0, 0) (fun v M9 => NW sc d_X12_pass D (13, [none, none], nw_push v [], M9, c, sl) Qr Qx) Qx) :
    NW sc d_X12_pass D (10, [none, none], [.inl y0, .inr (.inl (some 303))], (J, L, W), c, sl) Qr Qx := by
  refine nw_call0 1 303 l_X12_pass_10 rfl rfl g_X12_kept (Nat.lt_of_lt_of_le (by decide) hD) rfl (Or.inl ⟨_, rfl, k_303⟩) (ls' := [some (.inr (.inl (some 303))), some (.inl y0), none]) rfl (st' := []) rfl 13 rfl ?_
  exact h
theorem b_X12_pass_13 {y0 : Int} (h : Qr (some (.inl y0)) (J, L, W)) :
    NW sc d_X12_pass D (13, [none, none], [.inl y0], (J, L, W), c, sl) Qr Qx := by
  refine nw_ireturn l_X12_pass_13 rfl ?_
  exact h
theorem b_X12_passageCount_0  (hD : 1 ≤ D) (h : Qr (some (.inl (J 304 8))) (nw_u J 303 13 0, L, W)) :
    NW sc d_X12_passageCount D (0, [some (.inr (.inl (some 303)))], [], (J, L, W), c, sl) Qr Qx := by
  refine nw_aload_n l_X12_passageCount_0 1 rfl rfl ?_
  refine nw_aload_n l_X12_passageCount_1 2 rfl rfl ?_
  refine nw_getA l_X12_passageCount_2 5 rfl k_303 r_303_0 ?_
  refine nw_bipush (len := 0) l_X12_passageCount_5 7 rfl c_8 ?_
  refine nw_iald l_X12_passageCount_7 8 rfl k_304 ⟨by decide, by decide⟩ (v := J 304 8) rfl ?_
  refine nw_call0 0 303 l_X12_passageCount_8 rfl rfl g_X12_done (Nat.lt_of_lt_of_le (by decide) hD) rfl (Or.inl ⟨_, rfl, k_303⟩) (ls' := [some (.inr (.inl (some 303))), some (.inl (J 304 8))]) rfl (st' := []) rfl 11 rfl ?_
  refine nw_aload_n l_X12_done_0 1 rfl rfl ?_
  refine nw_iconst (len := 0) l_X12_done_1 2 rfl c_0 ?_
  refine nw_putI l_X12_done_2 5 rfl k_303 ?_
  refine nw_iload_n l_X12_done_5 6 rfl rfl ?_
  refine nw_ireturn l_X12_done_6 rfl ?_
  refine nw_ireturn l_X12_passageCount_11 rfl ?_
  exact h
theorem b_X12_passageCrater_0 {x1 : Int} (hD : 2 ≤ D) (h : NW sc d_X12_passageNumber 1 (0, [some (.inr (.inl (some 303))), some (.inl 141), some (.inl x1), none], [], (J, L, W), 0, 0) (fun v M9 => NW sc d_X12_passageCrater D (8, [none, none], nw_push v [], M9, c, sl) Qr Qx) Qx) :
    NW sc d_X12_passageCrater D (0, [some (.inr (.inl (some 303))), some (.inl x1)], [], (J, L, W), c, sl) Qr Qx := by
  refine nw_aload_n l_X12_passageCrater_0 1 rfl rfl ?_
  refine nw_sipush (len := 0) l_X12_passageCrater_1 4 rfl c_141 ?_
  refine nw_iload_n l_X12_passageCrater_4 5 rfl rfl ?_
  refine nw_drop (ls' := [none, none]) ⟨True.intro, ⟨True.intro, True.intro⟩⟩ ?_
  refine nw_call0 1 303 l_X12_passageCrater_5 rfl rfl g_X12_passageNumber (Nat.lt_of_lt_of_le (by decide) hD) rfl (Or.inl ⟨_, rfl, k_303⟩) (ls' := [some (.inr (.inl (some 303))), some (.inl 141), some (.inl x1), none]) rfl (st' := []) rfl 8 rfl ?_
  exact h
theorem b_X12_passageCrater_8 {y0 : Int} (h : Qr (some (.inl y0)) (J, L, W)) :
    NW sc d_X12_passageCrater D (8, [none, none], [.inl y0], (J, L, W), c, sl) Qr Qx := by
  refine nw_ireturn l_X12_passageCrater_8 rfl ?_
  exact h
theorem b_X12_passageFerry_0 {x1 : Int} (hD : 2 ≤ D) (h : NW sc d_X12_passageNumber 1 (0, [some (.inr (.inl (some 303))), some (.inl 131), some (.inl x1), none], [], (J, L, W), 0, 0) (fun v M9 => NW sc d_X12_passageFerry D (8, [none, none], nw_push v [], M9, c, sl) Qr Qx) Qx) :
    NW sc d_X12_passageFerry D (0, [some (.inr (.inl (some 303))), some (.inl x1)], [], (J, L, W), c, sl) Qr Qx := by
  refine nw_aload_n l_X12_passageFerry_0 1 rfl rfl ?_
  refine nw_sipush (len := 0) l_X12_passageFerry_1 4 rfl c_131 ?_
  refine nw_iload_n l_X12_passageFerry_4 5 rfl rfl ?_
  refine nw_drop (ls' := [none, none]) ⟨True.intro, ⟨True.intro, True.intro⟩⟩ ?_
  refine nw_call0 1 303 l_X12_passageFerry_5 rfl rfl g_X12_passageNumber (Nat.lt_of_lt_of_le (by decide) hD) rfl (Or.inl ⟨_, rfl, k_303⟩) (ls' := [some (.inr (.inl (some 303))), some (.inl 131), some (.inl x1), none]) rfl (st' := []) rfl 8 rfl ?_
  exact h
theorem b_X12_passageFerry_8 {y0 : Int} (h : Qr (some (.inl y0)) (J, L, W)) :
    NW sc d_X12_passageFerry D (8, [none, none], [.inl y0], (J, L, W), c, sl) Qr Qx := by
  refine nw_ireturn l_X12_passageFerry_8 rfl ?_
  exact h
theorem b_X12_passageHour_0 {x1 : Int} (hD : 2 ≤ D) (h : NW sc d_X12_passageNumber 1 (0, [some (.inr (.inl (some 303))), some (.inl 151), some (.inl x1), none], [], (J, L, W), 0, 0) (fun v M9 => NW sc d_X12_passageHour D (8, [none, none], nw_push v [], M9, c, sl) Qr Qx) Qx) :
    NW sc d_X12_passageHour D (0, [some (.inr (.inl (some 303))), some (.inl x1)], [], (J, L, W), c, sl) Qr Qx := by
  refine nw_aload_n l_X12_passageHour_0 1 rfl rfl ?_
  refine nw_sipush (len := 0) l_X12_passageHour_1 4 rfl c_151 ?_
  refine nw_iload_n l_X12_passageHour_4 5 rfl rfl ?_
  refine nw_drop (ls' := [none, none]) ⟨True.intro, ⟨True.intro, True.intro⟩⟩ ?_
  refine nw_call0 1 303 l_X12_passageHour_5 rfl rfl g_X12_passageNumber (Nat.lt_of_lt_of_le (by decide) hD) rfl (Or.inl ⟨_, rfl, k_303⟩) (ls' := [some (.inr (.inl (some 303))), some (.inl 151), some (.inl x1), none]) rfl (st' := []) rfl 8 rfl ?_
  exact h
theorem b_X12_passageHour_8 {y0 : Int} (h : Qr (some (.inl y0)) (J, L, W)) :
    NW sc d_X12_passageHour D (8, [none, none], [.inl y0], (J, L, W), c, sl) Qr Qx := by
  refine nw_ireturn l_X12_passageHour_8 rfl ?_
  exact h
theorem b_X12_passageNumber_0 {x1 : Int} {x2 : Int} (hD : 1 ≤ D) (h : ((x2 < 0 → Qr (some (.inl 0)) (nw_u J 303 13 1, L, W)) ∧ (0 ≤ x2 → ((9 < x2 → Qr (some (.inl 0)) (nw_u J 303 13 1, L, W)) ∧ (x2 ≤ 9 → ((J 304 8 ≤ x2 → Qr (some (.inl 0)) (nw_u J 303 13 1, L, W)) ∧ (x2 < J 304 8 → ((-2147483648 ≤ x1 + x2 ∧ x1 + x2 < 2147483648) ∧ ((0 ≤ x1 + x2 ∧ x1 + x2 < 161) ∧ Qr (some (.inl (J 304 (x1 + x2)))) (nw_u J 303 13 0, L, W)))))))))) :
    NW sc d_X12_passageNumber D (0, [some (.inr (.inl (some 303))), some (.inl x1), some (.inl x2), none], [], (J, L, W), c, sl) Qr Qx := by
  refine nw_iload_n l_X12_passageNumber_0 1 rfl rfl ?_
  refine nw_iconst (len := 0) l_X12_passageNumber_1 2 rfl c_0 ?_
  refine nw_bipush (len := 0) l_X12_passageNumber_2 4 rfl c_9 ?_
  refine nw_call0 0 0 l_X12_passageNumber_4 rfl rfl g_X12_in (Nat.lt_of_lt_of_le (by decide) hD) rfl True.intro (ls' := [some (.inl x2), some (.inl 0), some (.inl 9)]) rfl (st' := []) rfl 7 rfl ?_
  refine nw_iload_n l_X12_in_0 1 rfl rfl ?_
  refine nw_iload_n l_X12_in_1 2 rfl rfl ?_
  refine nw_ic_lt l_X12_in_2 5 rfl (fun q1 => ?_) (fun q1 => ?_)
  · replace h := h.1 q1
    refine nw_iconst (len := 0) l_X12_in_14 15 rfl c_0 ?_
    refine nw_ireturnZ l_X12_in_15 rfl (Or.inl rfl) ?_
    refine nw_if_eq l_X12_passageNumber_7 10 rfl (fun _ => ?_) (fun q => absurd q (by decide))
    refine nw_iconst (len := 0) l_X12_passageNumber_25 26 rfl c_0 ?_
    refine nw_istore_n l_X12_passageNumber_26 27 rfl rfl (ls' := [some (.inr (.inl (some 303))), some (.inl x1), some (.inl x2), some (.inl 0)]) rfl ?_
    refine nw_iload_n l_X12_passageNumber_27 28 rfl rfl ?_
    refine nw_if_eq l_X12_passageNumber_28 31 rfl (fun _ => ?_) (fun q => absurd q (by decide))
    refine nw_aload_n l_X12_passageNumber_46 47 rfl rfl ?_
    refine nw_iconst (len := 0) l_X12_passageNumber_47 48 rfl c_1 ?_
    refine nw_call0 0 303 l_X12_passageNumber_48 rfl rfl g_X12_fails (Nat.lt_of_lt_of_le (by decide) hD) rfl (Or.inl ⟨_, rfl, k_303⟩) (ls' := [some (.inr (.inl (some 303))), some (.inl 1)]) rfl (st' := []) rfl 51 rfl ?_
    refine nw_aload_n l_X12_fails_0 1 rfl rfl ?_
    refine nw_iload_n l_X12_fails_1 2 rfl rfl ?_
    refine nw_putI l_X12_fails_2 5 rfl k_303 ?_
    refine nw_iconst (len := 0) l_X12_fails_5 6 rfl c_0 ?_
    refine nw_ireturn l_X12_fails_6 rfl ?_
    refine nw_ireturn l_X12_passageNumber_51 rfl ?_
    exact h
  · replace h := h.2 q1
    refine nw_iload_n l_X12_in_5 6 rfl rfl ?_
    refine nw_iload_n l_X12_in_6 7 rfl rfl ?_
    refine nw_ic_gt l_X12_in_7 10 rfl (fun q2 => ?_) (fun q2 => ?_)
    · replace h := h.1 q2
      refine nw_iconst (len := 0) l_X12_in_14 15 rfl c_0 ?_
      refine nw_ireturnZ l_X12_in_15 rfl (Or.inl rfl) ?_
      refine nw_if_eq l_X12_passageNumber_7 10 rfl (fun _ => ?_) (fun q => absurd q (by decide))
      refine nw_iconst (len := 0) l_X12_passageNumber_25 26 rfl c_0 ?_
      refine nw_istore_n l_X12_passageNumber_26 27 rfl rfl (ls' := [some (.inr (.inl (some 303))), some (.inl x1), some (.inl x2), some (.inl 0)]) rfl ?_
      refine nw_iload_n l_X12_passageNumber_27 28 rfl rfl ?_
      refine nw_if_eq l_X12_passageNumber_28 31 rfl (fun _ => ?_) (fun q => absurd q (by decide))
      refine nw_aload_n l_X12_passageNumber_46 47 rfl rfl ?_
      refine nw_iconst (len := 0) l_X12_passageNumber_47 48 rfl c_1 ?_
      refine nw_call0 0 303 l_X12_passageNumber_48 rfl rfl g_X12_fails (Nat.lt_of_lt_of_le (by decide) hD) rfl (Or.inl ⟨_, rfl, k_303⟩) (ls' := [some (.inr (.inl (some 303))), some (.inl 1)]) rfl (st' := []) rfl 51 rfl ?_
      refine nw_aload_n l_X12_fails_0 1 rfl rfl ?_
      refine nw_iload_n l_X12_fails_1 2 rfl rfl ?_
      refine nw_putI l_X12_fails_2 5 rfl k_303 ?_
      refine nw_iconst (len := 0) l_X12_fails_5 6 rfl c_0 ?_
      refine nw_ireturn l_X12_fails_6 rfl ?_
      refine nw_ireturn l_X12_passageNumber_51 rfl ?_
      exact h
    · replace h := h.2 q2
      refine nw_iconst (len := 0) l_X12_in_10 11 rfl c_1 ?_
      refine nw_goto l_X12_in_11 ?_
      refine nw_ireturnZ l_X12_in_15 rfl (Or.inr rfl) ?_
      refine nw_if_eq l_X12_passageNumber_7 10 rfl (fun q => absurd q (by decide)) (fun _ => ?_)
      refine nw_iload_n l_X12_passageNumber_10 11 rfl rfl ?_
      refine nw_aload_n l_X12_passageNumber_11 12 rfl rfl ?_
      refine nw_getA l_X12_passageNumber_12 15 rfl k_303 r_303_0 ?_
      refine nw_bipush (len := 0) l_X12_passageNumber_15 17 rfl c_8 ?_
      refine nw_iald l_X12_passageNumber_17 18 rfl k_304 ⟨by decide, by decide⟩ (v := J 304 8) rfl ?_
      refine nw_ic_ge l_X12_passageNumber_18 21 rfl (fun q3 => ?_) (fun q3 => ?_)
      · replace h := h.1 q3
        refine nw_iconst (len := 0) l_X12_passageNumber_25 26 rfl c_0 ?_
        refine nw_istore_n l_X12_passageNumber_26 27 rfl rfl (ls' := [some (.inr (.inl (some 303))), some (.inl x1), some (.inl x2), some (.inl 0)]) rfl ?_
        refine nw_iload_n l_X12_passageNumber_27 28 rfl rfl ?_
        refine nw_if_eq l_X12_passageNumber_28 31 rfl (fun _ => ?_) (fun q => absurd q (by decide))
        refine nw_aload_n l_X12_passageNumber_46 47 rfl rfl ?_
        refine nw_iconst (len := 0) l_X12_passageNumber_47 48 rfl c_1 ?_
        refine nw_call0 0 303 l_X12_passageNumber_48 rfl rfl g_X12_fails (Nat.lt_of_lt_of_le (by decide) hD) rfl (Or.inl ⟨_, rfl, k_303⟩) (ls' := [some (.inr (.inl (some 303))), some (.inl 1)]) rfl (st' := []) rfl 51 rfl ?_
        refine nw_aload_n l_X12_fails_0 1 rfl rfl ?_
        refine nw_iload_n l_X12_fails_1 2 rfl rfl ?_
        refine nw_putI l_X12_fails_2 5 rfl k_303 ?_
        refine nw_iconst (len := 0) l_X12_fails_5 6 rfl c_0 ?_
        refine nw_ireturn l_X12_fails_6 rfl ?_
        refine nw_ireturn l_X12_passageNumber_51 rfl ?_
        exact h
      · replace h := h.2 q3
        refine nw_iconst (len := 0) l_X12_passageNumber_21 22 rfl c_1 ?_
        refine nw_goto l_X12_passageNumber_22 ?_
        refine nw_istore_n l_X12_passageNumber_26 27 rfl rfl (ls' := [some (.inr (.inl (some 303))), some (.inl x1), some (.inl x2), some (.inl 1)]) rfl ?_
        refine nw_iload_n l_X12_passageNumber_27 28 rfl rfl ?_
        refine nw_if_eq l_X12_passageNumber_28 31 rfl (fun q => absurd q (by decide)) (fun _ => ?_)
        refine nw_aload_n l_X12_passageNumber_31 32 rfl rfl ?_
        refine nw_aload_n l_X12_passageNumber_32 33 rfl rfl ?_
        refine nw_getA l_X12_passageNumber_33 36 rfl k_303 r_303_0 ?_
        refine nw_iload_n l_X12_passageNumber_36 37 rfl rfl ?_
        refine nw_iload_n l_X12_passageNumber_37 38 rfl rfl ?_
        have o4 := h.1
        replace h := h.2
        refine nw_iadd l_X12_passageNumber_38 39 rfl o4 ?_
        have o5 := h.1
        replace h := h.2
        refine nw_iald l_X12_passageNumber_39 40 rfl k_304 o5 (v := J 304 (x1 + x2)) rfl ?_
        refine nw_call0 0 303 l_X12_passageNumber_40 rfl rfl g_X12_done (Nat.lt_of_lt_of_le (by decide) hD) rfl (Or.inl ⟨_, rfl, k_303⟩) (ls' := [some (.inr (.inl (some 303))), some (.inl (J 304 (x1 + x2)))]) rfl (st' := []) rfl 43 rfl ?_
        refine nw_aload_n l_X12_done_0 1 rfl rfl ?_
        refine nw_iconst (len := 0) l_X12_done_1 2 rfl c_0 ?_
        refine nw_putI l_X12_done_2 5 rfl k_303 ?_
        refine nw_iload_n l_X12_done_5 6 rfl rfl ?_
        refine nw_ireturn l_X12_done_6 rfl ?_
        refine nw_goto l_X12_passageNumber_43 ?_
        refine nw_ireturn l_X12_passageNumber_51 rfl ?_
        exact h
theorem b_X12_passes_0 {x1 : Int} (hD : 4 ≤ D) (h : ((x1 < 1 → Qr (some (.inl 0)) (nw_u J 303 13 1, L, W)) ∧ (1 ≤ x1 → ((48 < x1 → Qr (some (.inl 0)) (nw_u J 303 13 1, L, W)) ∧ (x1 ≤ 48 → NW sc d_X12_passes D (20, [some (.inr (.inl (some 303))), some (.inl x1), some (.inl 0), some (.inl 0)], [], (J, L, W), c, sl) Qr Qx))))) :
    NW sc d_X12_passes D (0, [some (.inr (.inl (some 303))), some (.inl x1), none, none], [], (J, L, W), c, sl) Qr Qx := by
  refine nw_iload_n l_X12_passes_0 1 rfl rfl ?_
  refine nw_iconst (len := 0) l_X12_passes_1 2 rfl c_1 ?_
  refine nw_bipush (len := 0) l_X12_passes_2 4 rfl c_48 ?_
  refine nw_call0 0 0 l_X12_passes_4 rfl rfl g_X12_in (Nat.lt_of_lt_of_le (by decide) hD) rfl True.intro (ls' := [some (.inl x1), some (.inl 1), some (.inl 48)]) rfl (st' := []) rfl 7 rfl ?_
  refine nw_iload_n l_X12_in_0 1 rfl rfl ?_
  refine nw_iload_n l_X12_in_1 2 rfl rfl ?_
  refine nw_ic_lt l_X12_in_2 5 rfl (fun q1 => ?_) (fun q1 => ?_)
  · replace h := h.1 q1
    refine nw_iconst (len := 0) l_X12_in_14 15 rfl c_0 ?_
    refine nw_ireturnZ l_X12_in_15 rfl (Or.inl rfl) ?_
    refine nw_if_ne l_X12_passes_7 10 rfl (fun q => absurd q (by decide)) (fun _ => ?_)
    refine nw_aload_n l_X12_passes_10 11 rfl rfl ?_
    refine nw_iconst (len := 0) l_X12_passes_11 12 rfl c_1 ?_
    refine nw_call0 0 303 l_X12_passes_12 rfl rfl g_X12_fails (Nat.lt_of_lt_of_le (by decide) hD) rfl (Or.inl ⟨_, rfl, k_303⟩) (ls' := [some (.inr (.inl (some 303))), some (.inl 1)]) rfl (st' := []) rfl 15 rfl ?_
    refine nw_aload_n l_X12_fails_0 1 rfl rfl ?_
    refine nw_iload_n l_X12_fails_1 2 rfl rfl ?_
    refine nw_putI l_X12_fails_2 5 rfl k_303 ?_
    refine nw_iconst (len := 0) l_X12_fails_5 6 rfl c_0 ?_
    refine nw_ireturn l_X12_fails_6 rfl ?_
    refine nw_ireturn l_X12_passes_15 rfl ?_
    exact h
  · replace h := h.2 q1
    refine nw_iload_n l_X12_in_5 6 rfl rfl ?_
    refine nw_iload_n l_X12_in_6 7 rfl rfl ?_
    refine nw_ic_gt l_X12_in_7 10 rfl (fun q2 => ?_) (fun q2 => ?_)
    · replace h := h.1 q2
      refine nw_iconst (len := 0) l_X12_in_14 15 rfl c_0 ?_
      refine nw_ireturnZ l_X12_in_15 rfl (Or.inl rfl) ?_
      refine nw_if_ne l_X12_passes_7 10 rfl (fun q => absurd q (by decide)) (fun _ => ?_)
      refine nw_aload_n l_X12_passes_10 11 rfl rfl ?_
      refine nw_iconst (len := 0) l_X12_passes_11 12 rfl c_1 ?_
      refine nw_call0 0 303 l_X12_passes_12 rfl rfl g_X12_fails (Nat.lt_of_lt_of_le (by decide) hD) rfl (Or.inl ⟨_, rfl, k_303⟩) (ls' := [some (.inr (.inl (some 303))), some (.inl 1)]) rfl (st' := []) rfl 15 rfl ?_
      refine nw_aload_n l_X12_fails_0 1 rfl rfl ?_
      refine nw_iload_n l_X12_fails_1 2 rfl rfl ?_
      refine nw_putI l_X12_fails_2 5 rfl k_303 ?_
      refine nw_iconst (len := 0) l_X12_fails_5 6 rfl c_0 ?_
      refine nw_ireturn l_X12_fails_6 rfl ?_
      refine nw_ireturn l_X12_passes_15 rfl ?_
      exact h
    · replace h := h.2 q2
      refine nw_iconst (len := 0) l_X12_in_10 11 rfl c_1 ?_
      refine nw_goto l_X12_in_11 ?_
      refine nw_ireturnZ l_X12_in_15 rfl (Or.inr rfl) ?_
      refine nw_if_ne l_X12_passes_7 10 rfl (fun _ => ?_) (fun q => absurd q (by decide))
      refine nw_iconst (len := 0) l_X12_passes_16 17 rfl c_0 ?_
      refine nw_istore_n l_X12_passes_17 18 rfl rfl (ls' := [some (.inr (.inl (some 303))), some (.inl x1), some (.inl 0), none]) rfl ?_
      refine nw_iconst (len := 0) l_X12_passes_18 19 rfl c_0 ?_
      refine nw_istore_n l_X12_passes_19 20 rfl rfl (ls' := [some (.inr (.inl (some 303))), some (.inl x1), some (.inl 0), some (.inl 0)]) rfl ?_
      exact h
theorem b_X12_passes_20 {x1 : Int} {x2 : Int} {x3 : Int} (hD : 4 ≤ D) (h : ((x1 ≤ x3 → Qr (some (.inl x2)) (nw_u J 303 13 0, L, W)) ∧ (x3 < x1 → NW sc d_X12_passesHour 3 (0, [some (.inr (.inl (some 303))), none, none], [], (J, L, W), 0, 0) (fun v M9 => NW sc d_X12_passes D (30, [some (.inr (.inl (some 303))), some (.inl x1), none, some (.inl x3)], nw_push v [.inl x2], M9, c, sl) Qr Qx) Qx))) :
    NW sc d_X12_passes D (20, [some (.inr (.inl (some 303))), some (.inl x1), some (.inl x2), some (.inl x3)], [], (J, L, W), c, sl) Qr Qx := by
  refine nw_iload_n l_X12_passes_20 21 rfl rfl ?_
  refine nw_iload_n l_X12_passes_21 22 rfl rfl ?_
  refine nw_ic_ge l_X12_passes_22 25 rfl (fun q1 => ?_) (fun q1 => ?_)
  · replace h := h.1 q1
    refine nw_aload_n l_X12_passes_38 39 rfl rfl ?_
    refine nw_iload_n l_X12_passes_39 40 rfl rfl ?_
    refine nw_call0 0 303 l_X12_passes_40 rfl rfl g_X12_done (Nat.lt_of_lt_of_le (by decide) hD) rfl (Or.inl ⟨_, rfl, k_303⟩) (ls' := [some (.inr (.inl (some 303))), some (.inl x2)]) rfl (st' := []) rfl 43 rfl ?_
    refine nw_aload_n l_X12_done_0 1 rfl rfl ?_
    refine nw_iconst (len := 0) l_X12_done_1 2 rfl c_0 ?_
    refine nw_putI l_X12_done_2 5 rfl k_303 ?_
    refine nw_iload_n l_X12_done_5 6 rfl rfl ?_
    refine nw_ireturn l_X12_done_6 rfl ?_
    refine nw_ireturn l_X12_passes_43 rfl ?_
    exact h
  · replace h := h.2 q1
    refine nw_iload_n l_X12_passes_25 26 rfl rfl ?_
    refine nw_aload_n l_X12_passes_26 27 rfl rfl ?_
    refine nw_drop (ls' := [some (.inr (.inl (some 303))), some (.inl x1), none, some (.inl x3)]) ⟨rfl, ⟨rfl, ⟨True.intro, ⟨rfl, True.intro⟩⟩⟩⟩ ?_
    refine nw_call0 3 303 l_X12_passes_27 rfl rfl g_X12_passesHour (Nat.lt_of_lt_of_le (by decide) hD) rfl (Or.inl ⟨_, rfl, k_303⟩) (ls' := [some (.inr (.inl (some 303))), none, none]) rfl (st' := [.inl x2]) rfl 30 rfl ?_
    exact h
theorem b_X12_passes_30 {x1 : Int} {x3 : Int} {y0 : Int} {y1 : Int} (h : ((-2147483648 ≤ y1 + y0 ∧ y1 + y0 < 2147483648) ∧ ((-2147483648 ≤ x3 + 1 ∧ x3 + 1 < 2147483648) ∧ NW sc d_X12_passes D (20, [some (.inr (.inl (some 303))), some (.inl x1), some (.inl (y1 + y0)), some (.inl (x3 + 1))], [], (J, L, W), c, sl) Qr Qx))) :
    NW sc d_X12_passes D (30, [some (.inr (.inl (some 303))), some (.inl x1), none, some (.inl x3)], [.inl y0, .inl y1], (J, L, W), c, sl) Qr Qx := by
  have o1 := h.1
  replace h := h.2
  refine nw_iadd l_X12_passes_30 31 rfl o1 ?_
  refine nw_istore_n l_X12_passes_31 32 rfl rfl (ls' := [some (.inr (.inl (some 303))), some (.inl x1), some (.inl (y1 + y0)), some (.inl x3)]) rfl ?_
  have o2 := h.1
  replace h := h.2
  refine nw_iinc l_X12_passes_32 35 rfl 1 (by decide) rfl rfl o2 (ls' := [some (.inr (.inl (some 303))), some (.inl x1), some (.inl (y1 + y0)), some (.inl (x3 + 1))]) rfl ?_
  refine nw_goto l_X12_passes_35 ?_
  exact h
theorem b_X12_passesHour_0  (h : ((-2147483648 ≤ (J 304 0) + 1 ∧ (J 304 0) + 1 < 2147483648) ∧ NW sc d_X12_passesHour D (12, [some (.inr (.inl (some 303))), some (.inl 0), none], [], (nw_u J 304 0 ((J 304 0) + 1), L, W), c, sl) Qr Qx)) :
    NW sc d_X12_passesHour D (0, [some (.inr (.inl (some 303))), none, none], [], (J, L, W), c, sl) Qr Qx := by
  refine nw_aload_n l_X12_passesHour_0 1 rfl rfl ?_
  refine nw_getA l_X12_passesHour_1 4 rfl k_303 r_303_0 ?_
  refine nw_iconst (len := 0) l_X12_passesHour_4 5 rfl c_0 ?_
  refine nw_dup2 l_X12_passesHour_5 6 rfl ?_
  refine nw_iald l_X12_passesHour_6 7 rfl k_304 ⟨by decide, by decide⟩ (v := J 304 0) rfl ?_
  refine nw_iconst (len := 0) l_X12_passesHour_7 8 rfl c_1 ?_
  have o1 := h.1
  replace h := h.2
  refine nw_iadd l_X12_passesHour_8 9 rfl o1 ?_
  refine nw_iast l_X12_passesHour_9 10 rfl k_304 ⟨by decide, by decide⟩ ?_
  refine nw_iconst (len := 0) l_X12_passesHour_10 11 rfl c_0 ?_
  refine nw_istore_n l_X12_passesHour_11 12 rfl rfl (ls' := [some (.inr (.inl (some 303))), some (.inl 0), none]) rfl ?_
  exact h
theorem b_X12_passesHour_12 {x1 : Int} (h : ((J 304 4 ≤ x1 → NW sc d_X12_passesHour D (67, [some (.inr (.inl (some 303))), some (.inl 0), some (.inl 0)], [], (J, L, W), c, sl) Qr Qx) ∧ (x1 < J 304 4 → ((0 ≤ J 304 0) ∧ ((¬ (J 304 0) % 24 = 0 → NW sc d_X12_passesHour D (67, [some (.inr (.inl (some 303))), some (.inl 0), some (.inl 0)], [], (J, L, W), c, sl) Qr Qx) ∧ ((J 304 0) % 24 = 0 → ((-2147483648 ≤ 111 + x1 ∧ 111 + x1 < 2147483648) ∧ ((0 ≤ 111 + x1 ∧ 111 + x1 < 161) ∧ ((-2147483648 ≤ (J 304 (111 + x1)) + 1 ∧ (J 304 (111 + x1)) + 1 < 2147483648) ∧ ((0 ≤ (J 304 (111 + x1)) + 1) ∧ ((-2147483648 ≤ x1 + 1 ∧ x1 + 1 < 2147483648) ∧ NW sc d_X12_passesHour D (12, [some (.inr (.inl (some 303))), some (.inl (x1 + 1)), none], [], (nw_u J 304 (111 + x1) (((J 304 (111 + x1)) + 1) % 8), L, W), c, sl) Qr Qx))))))))))) :
    NW sc d_X12_passesHour D (12, [some (.inr (.inl (some 303))), some (.inl x1), none], [], (J, L, W), c, sl) Qr Qx := by
  refine nw_iload_n l_X12_passesHour_12 13 rfl rfl ?_
  refine nw_aload_n l_X12_passesHour_13 14 rfl rfl ?_
  refine nw_getA l_X12_passesHour_14 17 rfl k_303 r_303_0 ?_
  refine nw_iconst (len := 0) l_X12_passesHour_17 18 rfl c_4 ?_
  refine nw_iald l_X12_passesHour_18 19 rfl k_304 ⟨by decide, by decide⟩ (v := J 304 4) rfl ?_
  refine nw_ic_ge l_X12_passesHour_19 22 rfl (fun q1 => ?_) (fun q1 => ?_)
  · replace h := h.1 q1
    refine nw_iconst (len := 0) l_X12_passesHour_63 64 rfl c_0 ?_
    refine nw_istore_n l_X12_passesHour_64 65 rfl rfl (ls' := [some (.inr (.inl (some 303))), some (.inl 0), none]) rfl ?_
    refine nw_iconst (len := 0) l_X12_passesHour_65 66 rfl c_0 ?_
    refine nw_istore_n l_X12_passesHour_66 67 rfl rfl (ls' := [some (.inr (.inl (some 303))), some (.inl 0), some (.inl 0)]) rfl ?_
    exact h
  · replace h := h.2 q1
    refine nw_aload_n l_X12_passesHour_22 23 rfl rfl ?_
    refine nw_getA l_X12_passesHour_23 26 rfl k_303 r_303_0 ?_
    refine nw_iconst (len := 0) l_X12_passesHour_26 27 rfl c_0 ?_
    refine nw_iald l_X12_passesHour_27 28 rfl k_304 ⟨by decide, by decide⟩ (v := J 304 0) rfl ?_
    refine nw_bipush (len := 0) l_X12_passesHour_28 30 rfl c_24 ?_
    have o2 := h.1
    replace h := h.2
    refine nw_irem l_X12_passesHour_30 31 rfl ⟨o2, by decide⟩ ?_
    refine nw_if_ne l_X12_passesHour_31 34 rfl (fun q3 => ?_) (fun q3 => ?_)
    · replace h := h.1 q3
      refine nw_iconst (len := 0) l_X12_passesHour_63 64 rfl c_0 ?_
      refine nw_istore_n l_X12_passesHour_64 65 rfl rfl (ls' := [some (.inr (.inl (some 303))), some (.inl 0), none]) rfl ?_
      refine nw_iconst (len := 0) l_X12_passesHour_65 66 rfl c_0 ?_
      refine nw_istore_n l_X12_passesHour_66 67 rfl rfl (ls' := [some (.inr (.inl (some 303))), some (.inl 0), some (.inl 0)]) rfl ?_
      exact h
    · replace h := h.2 q3
      refine nw_aload_n l_X12_passesHour_34 35 rfl rfl ?_
      refine nw_getA l_X12_passesHour_35 38 rfl k_303 r_303_0 ?_
      refine nw_bipush (len := 0) l_X12_passesHour_38 40 rfl c_111 ?_
      refine nw_iload_n l_X12_passesHour_40 41 rfl rfl ?_
      have o4 := h.1
      replace h := h.2
      refine nw_iadd l_X12_passesHour_41 42 rfl o4 ?_
      refine nw_aload_n l_X12_passesHour_42 43 rfl rfl ?_
      refine nw_getA l_X12_passesHour_43 46 rfl k_303 r_303_0 ?_
      refine nw_bipush (len := 0) l_X12_passesHour_46 48 rfl c_111 ?_
      refine nw_iload_n l_X12_passesHour_48 49 rfl rfl ?_
      refine nw_iadd l_X12_passesHour_49 50 rfl o4 ?_
      have o5 := h.1
      replace h := h.2
      refine nw_iald l_X12_passesHour_50 51 rfl k_304 o5 (v := J 304 (111 + x1)) rfl ?_
      refine nw_iconst (len := 0) l_X12_passesHour_51 52 rfl c_1 ?_
      have o6 := h.1
      replace h := h.2
      refine nw_iadd l_X12_passesHour_52 53 rfl o6 ?_
      refine nw_bipush (len := 0) l_X12_passesHour_53 55 rfl c_8 ?_
      have o7 := h.1
      replace h := h.2
      refine nw_irem l_X12_passesHour_55 56 rfl ⟨o7, by decide⟩ ?_
      refine nw_iast l_X12_passesHour_56 57 rfl k_304 o5 ?_
      have o8 := h.1
      replace h := h.2
      refine nw_iinc l_X12_passesHour_57 60 rfl 1 (by decide) rfl rfl o8 (ls' := [some (.inr (.inl (some 303))), some (.inl (x1 + 1)), none]) rfl ?_
      refine nw_goto l_X12_passesHour_60 ?_
      exact h
theorem b_X12_passesHour_67 {x1 : Int} {x2 : Int} (hD : 3 ≤ D) (h : ((J 304 3 ≤ x2 → Qr (some (.inl x1)) (J, L, W)) ∧ (x2 < J 304 3 → ((-2147483648 ≤ 62 + x2 ∧ 62 + x2 < 2147483648) ∧ ((0 ≤ 62 + x2 ∧ 62 + x2 < 161) ∧ ((J 304 (62 + x2) ≤ 0 → ((-2147483648 ≤ x2 + 1 ∧ x2 + 1 < 2147483648) ∧ NW sc d_X12_passesHour D (67, [some (.inr (.inl (some 303))), some (.inl x1), some (.inl (x2 + 1))], [], (J, L, W), c, sl) Qr Qx)) ∧ (0 < J 304 (62 + x2) → ((¬ J 304 (62 + x2) = J 304 0 → ((-2147483648 ≤ x2 + 1 ∧ x2 + 1 < 2147483648) ∧ NW sc d_X12_passesHour D (67, [some (.inr (.inl (some 303))), some (.inl x1), some (.inl (x2 + 1))], [], (J, L, W), c, sl) Qr Qx)) ∧ (J 304 (62 + x2) = J 304 0 → NW sc d_X12_notes 0 (0, [some (.inr (.inl (some 303))), some (.inl x2), none, none], [], (nw_u J 304 (62 + x2) 0, L, W), 0, 0) (fun v M9 => NW sc d_X12_passesHour D (118, [some (.inr (.inl (some 303))), some (.inl x1), some (.inl x2)], nw_push v [], M9, c, sl) Qr Qx) Qx))))))))) :
    NW sc d_X12_passesHour D (67, [some (.inr (.inl (some 303))), some (.inl x1), some (.inl x2)], [], (J, L, W), c, sl) Qr Qx := by
  refine nw_iload_n l_X12_passesHour_67 68 rfl rfl ?_
  refine nw_aload_n l_X12_passesHour_68 69 rfl rfl ?_
  refine nw_getA l_X12_passesHour_69 72 rfl k_303 r_303_0 ?_
  refine nw_iconst (len := 0) l_X12_passesHour_72 73 rfl c_3 ?_
  refine nw_iald l_X12_passesHour_73 74 rfl k_304 ⟨by decide, by decide⟩ (v := J 304 3) rfl ?_
  refine nw_ic_ge l_X12_passesHour_74 77 rfl (fun q1 => ?_) (fun q1 => ?_)
  · replace h := h.1 q1
    refine nw_iload_n l_X12_passesHour_150 151 rfl rfl ?_
    refine nw_ireturn l_X12_passesHour_151 rfl ?_
    exact h
  · replace h := h.2 q1
    refine nw_aload_n l_X12_passesHour_77 78 rfl rfl ?_
    refine nw_iload_n l_X12_passesHour_78 79 rfl rfl ?_
    refine nw_call0 0 303 l_X12_passesHour_79 rfl rfl g_X12_sails (Nat.lt_of_lt_of_le (by decide) hD) rfl (Or.inl ⟨_, rfl, k_303⟩) (ls' := [some (.inr (.inl (some 303))), some (.inl x2)]) rfl (st' := []) rfl 82 rfl ?_
    refine nw_aload_n l_X12_sails_0 1 rfl rfl ?_
    refine nw_getA l_X12_sails_1 4 rfl k_303 r_303_0 ?_
    refine nw_bipush (len := 0) l_X12_sails_4 6 rfl c_62 ?_
    refine nw_iload_n l_X12_sails_6 7 rfl rfl ?_
    have o2 := h.1
    replace h := h.2
    refine nw_iadd l_X12_sails_7 8 rfl o2 ?_
    have o3 := h.1
    replace h := h.2
    refine nw_iald l_X12_sails_8 9 rfl k_304 o3 (v := J 304 (62 + x2)) rfl ?_
    refine nw_if_le l_X12_sails_9 12 rfl (fun q4 => ?_) (fun q4 => ?_)
    · replace h := h.1 q4
      refine nw_iconst (len := 0) l_X12_sails_16 17 rfl c_0 ?_
      refine nw_ireturnZ l_X12_sails_17 rfl (Or.inl rfl) ?_
      refine nw_if_eq l_X12_passesHour_82 85 rfl (fun _ => ?_) (fun q => absurd q (by decide))
      have o5 := h.1
      replace h := h.2
      refine nw_iinc l_X12_passesHour_144 147 rfl 1 (by decide) rfl rfl o5 (ls' := [some (.inr (.inl (some 303))), some (.inl x1), some (.inl (x2 + 1))]) rfl ?_
      refine nw_goto l_X12_passesHour_147 ?_
      exact h
    · replace h := h.2 q4
      refine nw_iconst (len := 0) l_X12_sails_12 13 rfl c_1 ?_
      refine nw_goto l_X12_sails_13 ?_
      refine nw_ireturnZ l_X12_sails_17 rfl (Or.inr rfl) ?_
      refine nw_if_eq l_X12_passesHour_82 85 rfl (fun q => absurd q (by decide)) (fun _ => ?_)
      refine nw_aload_n l_X12_passesHour_85 86 rfl rfl ?_
      refine nw_getA l_X12_passesHour_86 89 rfl k_303 r_303_0 ?_
      refine nw_bipush (len := 0) l_X12_passesHour_89 91 rfl c_62 ?_
      refine nw_iload_n l_X12_passesHour_91 92 rfl rfl ?_
      refine nw_iadd l_X12_passesHour_92 93 rfl o2 ?_
      refine nw_iald l_X12_passesHour_93 94 rfl k_304 o3 (v := J 304 (62 + x2)) rfl ?_
      refine nw_aload_n l_X12_passesHour_94 95 rfl rfl ?_
      refine nw_getA l_X12_passesHour_95 98 rfl k_303 r_303_0 ?_
      refine nw_iconst (len := 0) l_X12_passesHour_98 99 rfl c_0 ?_
      refine nw_iald l_X12_passesHour_99 100 rfl k_304 ⟨by decide, by decide⟩ (v := J 304 0) rfl ?_
      refine nw_ic_ne l_X12_passesHour_100 103 rfl (fun q6 => ?_) (fun q6 => ?_)
      · replace h := h.1 q6
        have o7 := h.1
        replace h := h.2
        refine nw_iinc l_X12_passesHour_144 147 rfl 1 (by decide) rfl rfl o7 (ls' := [some (.inr (.inl (some 303))), some (.inl x1), some (.inl (x2 + 1))]) rfl ?_
        refine nw_goto l_X12_passesHour_147 ?_
        exact h
      · replace h := h.2 q6
        refine nw_aload_n l_X12_passesHour_103 104 rfl rfl ?_
        refine nw_getA l_X12_passesHour_104 107 rfl k_303 r_303_0 ?_
        refine nw_bipush (len := 0) l_X12_passesHour_107 109 rfl c_62 ?_
        refine nw_iload_n l_X12_passesHour_109 110 rfl rfl ?_
        refine nw_iadd l_X12_passesHour_110 111 rfl o2 ?_
        refine nw_iconst (len := 0) l_X12_passesHour_111 112 rfl c_0 ?_
        refine nw_iast l_X12_passesHour_112 113 rfl k_304 o3 ?_
        refine nw_aload_n l_X12_passesHour_113 114 rfl rfl ?_
        refine nw_iload_n l_X12_passesHour_114 115 rfl rfl ?_
        refine nw_call0 0 303 l_X12_passesHour_115 rfl rfl g_X12_notes (Nat.lt_of_lt_of_le (by decide) hD) rfl (Or.inl ⟨_, rfl, k_303⟩) (ls' := [some (.inr (.inl (some 303))), some (.inl x2), none, none]) rfl (st' := []) rfl 118 rfl ?_
        exact h
theorem b_X12_passesHour_118 {x1 : Int} {x2 : Int} (hD : 3 ≤ D) (h : NW sc d_X12_isStuck 2 (0, [some (.inr (.inl (some 303))), some (.inl x2)], [], (J, L, W), 0, 0) (fun v M9 => NW sc d_X12_passesHour D (131, [some (.inr (.inl (some 303))), some (.inl x1), some (.inl x2)], nw_push v [.inl (J 304 9), .inl 9, .inr (.inl (some 304))], M9, c, sl) Qr Qx) Qx) :
    NW sc d_X12_passesHour D (118, [some (.inr (.inl (some 303))), some (.inl x1), some (.inl x2)], [], (J, L, W), c, sl) Qr Qx := by
  refine nw_aload_n l_X12_passesHour_118 119 rfl rfl ?_
  refine nw_getA l_X12_passesHour_119 122 rfl k_303 r_303_0 ?_
  refine nw_bipush (len := 0) l_X12_passesHour_122 124 rfl c_9 ?_
  refine nw_dup2 l_X12_passesHour_124 125 rfl ?_
  refine nw_iald l_X12_passesHour_125 126 rfl k_304 ⟨by decide, by decide⟩ (v := J 304 9) rfl ?_
  refine nw_aload_n l_X12_passesHour_126 127 rfl rfl ?_
  refine nw_iload_n l_X12_passesHour_127 128 rfl rfl ?_
  refine nw_call0 2 303 l_X12_passesHour_128 rfl rfl g_X12_isStuck (Nat.lt_of_lt_of_le (by decide) hD) rfl (Or.inl ⟨_, rfl, k_303⟩) (ls' := [some (.inr (.inl (some 303))), some (.inl x2)]) rfl (st' := [.inl (J 304 9), .inl 9, .inr (.inl (some 304))]) rfl 131 rfl ?_
  exact h
theorem b_X12_passesHour_131 {x1 : Int} {x2 : Int} {y0 : Int} {y1 : Int} {y2 : Int} (h : ((y0 = 0 → ((-2147483648 ≤ y1 + 0 ∧ y1 + 0 < 2147483648) ∧ ((0 ≤ y2 ∧ y2 < 161) ∧ ((-2147483648 ≤ x1 + 1 ∧ x1 + 1 < 2147483648) ∧ ((-2147483648 ≤ x2 + 1 ∧ x2 + 1 < 2147483648) ∧ NW sc d_X12_passesHour D (67, [some (.inr (.inl (some 303))), some (.inl (x1 + 1)), some (.inl (x2 + 1))], [], (nw_u J 304 y2 (y1 + 0), L, W), c, sl) Qr Qx))))) ∧ (¬ y0 = 0 → ((-2147483648 ≤ y1 + 1 ∧ y1 + 1 < 2147483648) ∧ ((0 ≤ y2 ∧ y2 < 161) ∧ ((-2147483648 ≤ x1 + 1 ∧ x1 + 1 < 2147483648) ∧ ((-2147483648 ≤ x2 + 1 ∧ x2 + 1 < 2147483648) ∧ NW sc d_X12_passesHour D (67, [some (.inr (.inl (some 303))), some (.inl (x1 + 1)), some (.inl (x2 + 1))], [], (nw_u J 304 y2 (y1 + 1), L, W), c, sl) Qr Qx))))))) :
    NW sc d_X12_passesHour D (131, [some (.inr (.inl (some 303))), some (.inl x1), some (.inl x2)], [.inl y0, .inl y1, .inl y2, .inr (.inl (some 304))], (J, L, W), c, sl) Qr Qx := by
  refine nw_if_eq l_X12_passesHour_131 134 rfl (fun q1 => ?_) (fun q1 => ?_)
  · replace h := h.1 q1
    refine nw_iconst (len := 0) l_X12_passesHour_138 139 rfl c_0 ?_
    have o2 := h.1
    replace h := h.2
    refine nw_iadd l_X12_passesHour_139 140 rfl o2 ?_
    have o3 := h.1
    replace h := h.2
    refine nw_iast l_X12_passesHour_140 141 rfl k_304 o3 ?_
    have o4 := h.1
    replace h := h.2
    refine nw_iinc l_X12_passesHour_141 144 rfl 1 (by decide) rfl rfl o4 (ls' := [some (.inr (.inl (some 303))), some (.inl (x1 + 1)), some (.inl x2)]) rfl ?_
    have o5 := h.1
    replace h := h.2
    refine nw_iinc l_X12_passesHour_144 147 rfl 1 (by decide) rfl rfl o5 (ls' := [some (.inr (.inl (some 303))), some (.inl (x1 + 1)), some (.inl (x2 + 1))]) rfl ?_
    refine nw_goto l_X12_passesHour_147 ?_
    exact h
  · replace h := h.2 q1
    refine nw_iconst (len := 0) l_X12_passesHour_134 135 rfl c_1 ?_
    refine nw_goto l_X12_passesHour_135 ?_
    have o6 := h.1
    replace h := h.2
    refine nw_iadd l_X12_passesHour_139 140 rfl o6 ?_
    have o7 := h.1
    replace h := h.2
    refine nw_iast l_X12_passesHour_140 141 rfl k_304 o7 ?_
    have o8 := h.1
    replace h := h.2
    refine nw_iinc l_X12_passesHour_141 144 rfl 1 (by decide) rfl rfl o8 (ls' := [some (.inr (.inl (some 303))), some (.inl (x1 + 1)), some (.inl x2)]) rfl ?_
    have o9 := h.1
    replace h := h.2
    refine nw_iinc l_X12_passesHour_144 147 rfl 1 (by decide) rfl rfl o9 (ls' := [some (.inr (.inl (some 303))), some (.inl (x1 + 1)), some (.inl (x2 + 1))]) rfl ?_
    refine nw_goto l_X12_passesHour_147 ?_
    exact h
theorem b_X12_phaseOf_0 {x1 : Int} (hD : 1 ≤ D) (h : NW sc d_X12_placeOf 0 (0, [some (.inr (.inl (some 303))), some (.inl x1), none], [], (J, L, W), 0, 0) (fun v M9 => NW sc d_X12_phaseOf D (5, [some (.inr (.inl (some 303))), none, none], nw_push v [], M9, c, sl) Qr Qx) Qx) :
    NW sc d_X12_phaseOf D (0, [some (.inr (.inl (some 303))), some (.inl x1), none], [], (J, L, W), c, sl) Qr Qx := by
  refine nw_aload_n l_X12_phaseOf_0 1 rfl rfl ?_
  refine nw_iload_n l_X12_phaseOf_1 2 rfl rfl ?_
  refine nw_drop (ls' := [some (.inr (.inl (some 303))), none, none]) ⟨rfl, ⟨True.intro, ⟨True.intro, True.intro⟩⟩⟩ ?_
  refine nw_call0 0 303 l_X12_phaseOf_2 rfl rfl g_X12_placeOf (Nat.lt_of_lt_of_le (by decide) hD) rfl (Or.inl ⟨_, rfl, k_303⟩) (ls' := [some (.inr (.inl (some 303))), some (.inl x1), none]) rfl (st' := []) rfl 5 rfl ?_
  exact h
theorem b_X12_phaseOf_5 {y0 : Int} (hD : 1 ≤ D) (h : ((¬ y0 = (-1) → ((-2147483648 ≤ 111 + y0 ∧ 111 + y0 < 2147483648) ∧ ((0 ≤ 111 + y0 ∧ 111 + y0 < 161) ∧ Qr (some (.inl (J 304 (111 + y0)))) (nw_u J 303 13 0, L, W)))) ∧ (y0 = (-1) → Qr (some (.inl 0)) (nw_u J 303 13 1, L, W)))) :
    NW sc d_X12_phaseOf D (5, [some (.inr (.inl (some 303))), none, none], [.inl y0], (J, L, W), c, sl) Qr Qx := by
  refine nw_istore_n l_X12_phaseOf_5 6 rfl rfl (ls' := [some (.inr (.inl (some 303))), none, some (.inl y0)]) rfl ?_
  refine nw_iload_n l_X12_phaseOf_6 7 rfl rfl ?_
  refine nw_iconst (len := 0) l_X12_phaseOf_7 8 rfl c_n1 ?_
  refine nw_ic_ne l_X12_phaseOf_8 11 rfl (fun q1 => ?_) (fun q1 => ?_)
  · replace h := h.1 q1
    refine nw_aload_n l_X12_phaseOf_19 20 rfl rfl ?_
    refine nw_aload_n l_X12_phaseOf_20 21 rfl rfl ?_
    refine nw_getA l_X12_phaseOf_21 24 rfl k_303 r_303_0 ?_
    refine nw_bipush (len := 0) l_X12_phaseOf_24 26 rfl c_111 ?_
    refine nw_iload_n l_X12_phaseOf_26 27 rfl rfl ?_
    have o2 := h.1
    replace h := h.2
    refine nw_iadd l_X12_phaseOf_27 28 rfl o2 ?_
    have o3 := h.1
    replace h := h.2
    refine nw_iald l_X12_phaseOf_28 29 rfl k_304 o3 (v := J 304 (111 + y0)) rfl ?_
    refine nw_call0 0 303 l_X12_phaseOf_29 rfl rfl g_X12_done (Nat.lt_of_lt_of_le (by decide) hD) rfl (Or.inl ⟨_, rfl, k_303⟩) (ls' := [some (.inr (.inl (some 303))), some (.inl (J 304 (111 + y0)))]) rfl (st' := []) rfl 32 rfl ?_
    refine nw_aload_n l_X12_done_0 1 rfl rfl ?_
    refine nw_iconst (len := 0) l_X12_done_1 2 rfl c_0 ?_
    refine nw_putI l_X12_done_2 5 rfl k_303 ?_
    refine nw_iload_n l_X12_done_5 6 rfl rfl ?_
    refine nw_ireturn l_X12_done_6 rfl ?_
    refine nw_ireturn l_X12_phaseOf_32 rfl ?_
    exact h
  · replace h := h.2 q1
    refine nw_aload_n l_X12_phaseOf_11 12 rfl rfl ?_
    refine nw_iconst (len := 0) l_X12_phaseOf_12 13 rfl c_1 ?_
    refine nw_call0 0 303 l_X12_phaseOf_13 rfl rfl g_X12_fails (Nat.lt_of_lt_of_le (by decide) hD) rfl (Or.inl ⟨_, rfl, k_303⟩) (ls' := [some (.inr (.inl (some 303))), some (.inl 1)]) rfl (st' := []) rfl 16 rfl ?_
    refine nw_aload_n l_X12_fails_0 1 rfl rfl ?_
    refine nw_iload_n l_X12_fails_1 2 rfl rfl ?_
    refine nw_putI l_X12_fails_2 5 rfl k_303 ?_
    refine nw_iconst (len := 0) l_X12_fails_5 6 rfl c_0 ?_
    refine nw_ireturn l_X12_fails_6 rfl ?_
    refine nw_goto l_X12_phaseOf_16 ?_
    refine nw_ireturn l_X12_phaseOf_32 rfl ?_
    exact h
theorem b_X12_placeOf_0 {x1 : Int} (h : NW sc d_X12_placeOf D (2, [some (.inr (.inl (some 303))), some (.inl x1), some (.inl 0)], [], (J, L, W), c, sl) Qr Qx) :
    NW sc d_X12_placeOf D (0, [some (.inr (.inl (some 303))), some (.inl x1), none], [], (J, L, W), c, sl) Qr Qx := by
  refine nw_iconst (len := 0) l_X12_placeOf_0 1 rfl c_0 ?_
  refine nw_istore_n l_X12_placeOf_1 2 rfl rfl (ls' := [some (.inr (.inl (some 303))), some (.inl x1), some (.inl 0)]) rfl ?_
  exact h
theorem b_X12_placeOf_2 {x1 : Int} {x2 : Int} (h : ((J 304 4 ≤ x2 → Qr (some (.inl (-1))) (J, L, W)) ∧ (x2 < J 304 4 → ((-2147483648 ≤ 71 + x2 ∧ 71 + x2 < 2147483648) ∧ ((0 ≤ 71 + x2 ∧ 71 + x2 < 161) ∧ ((¬ J 304 (71 + x2) = x1 → ((-2147483648 ≤ x2 + 1 ∧ x2 + 1 < 2147483648) ∧ NW sc d_X12_placeOf D (2, [some (.inr (.inl (some 303))), some (.inl x1), some (.inl (x2 + 1))], [], (J, L, W), c, sl) Qr Qx)) ∧ (J 304 (71 + x2) = x1 → Qr (some (.inl x2)) (J, L, W)))))))) :
    NW sc d_X12_placeOf D (2, [some (.inr (.inl (some 303))), some (.inl x1), some (.inl x2)], [], (J, L, W), c, sl) Qr Qx := by
  refine nw_iload_n l_X12_placeOf_2 3 rfl rfl ?_
  refine nw_aload_n l_X12_placeOf_3 4 rfl rfl ?_
  refine nw_getA l_X12_placeOf_4 7 rfl k_303 r_303_0 ?_
  refine nw_iconst (len := 0) l_X12_placeOf_7 8 rfl c_4 ?_
  refine nw_iald l_X12_placeOf_8 9 rfl k_304 ⟨by decide, by decide⟩ (v := J 304 4) rfl ?_
  refine nw_ic_ge l_X12_placeOf_9 12 rfl (fun q1 => ?_) (fun q1 => ?_)
  · replace h := h.1 q1
    refine nw_iconst (len := 0) l_X12_placeOf_33 34 rfl c_n1 ?_
    refine nw_ireturn l_X12_placeOf_34 rfl ?_
    exact h
  · replace h := h.2 q1
    refine nw_aload_n l_X12_placeOf_12 13 rfl rfl ?_
    refine nw_getA l_X12_placeOf_13 16 rfl k_303 r_303_0 ?_
    refine nw_bipush (len := 0) l_X12_placeOf_16 18 rfl c_71 ?_
    refine nw_iload_n l_X12_placeOf_18 19 rfl rfl ?_
    have o2 := h.1
    replace h := h.2
    refine nw_iadd l_X12_placeOf_19 20 rfl o2 ?_
    have o3 := h.1
    replace h := h.2
    refine nw_iald l_X12_placeOf_20 21 rfl k_304 o3 (v := J 304 (71 + x2)) rfl ?_
    refine nw_iload_n l_X12_placeOf_21 22 rfl rfl ?_
    refine nw_ic_ne l_X12_placeOf_22 25 rfl (fun q4 => ?_) (fun q4 => ?_)
    · replace h := h.1 q4
      have o5 := h.1
      replace h := h.2
      refine nw_iinc l_X12_placeOf_27 30 rfl 1 (by decide) rfl rfl o5 (ls' := [some (.inr (.inl (some 303))), some (.inl x1), some (.inl (x2 + 1))]) rfl ?_
      refine nw_goto l_X12_placeOf_30 ?_
      exact h
    · replace h := h.2 q4
      refine nw_iload_n l_X12_placeOf_25 26 rfl rfl ?_
      refine nw_ireturn l_X12_placeOf_26 rfl ?_
      exact h
theorem b_X12_refusalReason_0  (hD : 1 ≤ D) (h : ((¬ J 303 10 = 0 → Qr (some (.inl (J 303 10))) (nw_u J 303 13 0, L, W)) ∧ (J 303 10 = 0 → Qr (some (.inl 0)) (nw_u J 303 13 1, L, W)))) :
    NW sc d_X12_refusalReason D (0, [some (.inr (.inl (some 303)))], [], (J, L, W), c, sl) Qr Qx := by
  refine nw_aload_n l_X12_refusalReason_0 1 rfl rfl ?_
  refine nw_getI l_X12_refusalReason_1 4 rfl k_303 (v := J 303 10) rfl ?_
  refine nw_if_ne l_X12_refusalReason_4 7 rfl (fun q1 => ?_) (fun q1 => ?_)
  · replace h := h.1 q1
    refine nw_aload_n l_X12_refusalReason_15 16 rfl rfl ?_
    refine nw_aload_n l_X12_refusalReason_16 17 rfl rfl ?_
    refine nw_getI l_X12_refusalReason_17 20 rfl k_303 (v := J 303 10) rfl ?_
    refine nw_call0 0 303 l_X12_refusalReason_20 rfl rfl g_X12_done (Nat.lt_of_lt_of_le (by decide) hD) rfl (Or.inl ⟨_, rfl, k_303⟩) (ls' := [some (.inr (.inl (some 303))), some (.inl (J 303 10))]) rfl (st' := []) rfl 23 rfl ?_
    refine nw_aload_n l_X12_done_0 1 rfl rfl ?_
    refine nw_iconst (len := 0) l_X12_done_1 2 rfl c_0 ?_
    refine nw_putI l_X12_done_2 5 rfl k_303 ?_
    refine nw_iload_n l_X12_done_5 6 rfl rfl ?_
    refine nw_ireturn l_X12_done_6 rfl ?_
    refine nw_ireturn l_X12_refusalReason_23 rfl ?_
    exact h
  · replace h := h.2 q1
    refine nw_aload_n l_X12_refusalReason_7 8 rfl rfl ?_
    refine nw_iconst (len := 0) l_X12_refusalReason_8 9 rfl c_1 ?_
    refine nw_call0 0 303 l_X12_refusalReason_9 rfl rfl g_X12_fails (Nat.lt_of_lt_of_le (by decide) hD) rfl (Or.inl ⟨_, rfl, k_303⟩) (ls' := [some (.inr (.inl (some 303))), some (.inl 1)]) rfl (st' := []) rfl 12 rfl ?_
    refine nw_aload_n l_X12_fails_0 1 rfl rfl ?_
    refine nw_iload_n l_X12_fails_1 2 rfl rfl ?_
    refine nw_putI l_X12_fails_2 5 rfl k_303 ?_
    refine nw_iconst (len := 0) l_X12_fails_5 6 rfl c_0 ?_
    refine nw_ireturn l_X12_fails_6 rfl ?_
    refine nw_goto l_X12_refusalReason_12 ?_
    refine nw_ireturn l_X12_refusalReason_23 rfl ?_
    exact h
theorem b_X12_removeChannel_0 {x1 : Int} (hD : 2 ≤ D) (h : NW sc d_X12_begin 1 (0, [some (.inr (.inl (some 303)))], [], (J, L, W), 0, 0) (fun v M9 => NW sc d_X12_removeChannel D (4, [some (.inr (.inl (some 303))), some (.inl x1)], nw_push v [], M9, c, sl) Qr Qx) Qx) :
    NW sc d_X12_removeChannel D (0, [some (.inr (.inl (some 303))), some (.inl x1)], [], (J, L, W), c, sl) Qr Qx := by
  refine nw_aload_n l_X12_removeChannel_0 1 rfl rfl ?_
  refine nw_call0 1 303 l_X12_removeChannel_1 rfl rfl g_X12_begin (Nat.lt_of_lt_of_le (by decide) hD) rfl (Or.inl ⟨_, rfl, k_303⟩) (ls' := [some (.inr (.inl (some 303)))]) rfl (st' := []) rfl 4 rfl ?_
  exact h
theorem b_X12_removeChannel_4 {x1 : Int} (hD : 2 ≤ D) (h : NW sc d_X12_removesChannel 1 (0, [some (.inr (.inl (some 303))), some (.inl x1), none, none], [], (J, L, W), 0, 0) (fun v M9 => NW sc d_X12_removeChannel D (10, [none, none], nw_push v [.inr (.inl (some 303))], M9, c, sl) Qr Qx) Qx) :
    NW sc d_X12_removeChannel D (4, [some (.inr (.inl (some 303))), some (.inl x1)], [], (J, L, W), c, sl) Qr Qx := by
  refine nw_aload_n l_X12_removeChannel_4 5 rfl rfl ?_
  refine nw_aload_n l_X12_removeChannel_5 6 rfl rfl ?_
  refine nw_iload_n l_X12_removeChannel_6 7 rfl rfl ?_
  refine nw_drop (ls' := [none, none]) ⟨True.intro, ⟨True.intro, True.intro⟩⟩ ?_
  refine nw_call0 1 303 l_X12_removeChannel_7 rfl rfl g_X12_removesChannel (Nat.lt_of_lt_of_le (by decide) hD) rfl (Or.inl ⟨_, rfl, k_303⟩) (ls' := [some (.inr (.inl (some 303))), some (.inl x1), none, none]) rfl (st' := [.inr (.inl (some 303))]) rfl 10 rfl ?_
  exact h
theorem b_X12_removeChannel_10 {y0 : Int} (hD : 2 ≤ D) (h : NW sc d_X12_kept 1 (0, [some (.inr (.inl (some 303))), some (.inl y0), none], [], (J, L, W), 0, 0) (fun v M9 => NW sc d_X12_removeChannel D (13, [none, none], nw_push v [], M9, c, sl) Qr Qx) Qx) :
    NW sc d_X12_removeChannel D (10, [none, none], [.inl y0, .inr (.inl (some 303))], (J, L, W), c, sl) Qr Qx := by
  refine nw_call0 1 303 l_X12_removeChannel_10 rfl rfl g_X12_kept (Nat.lt_of_lt_of_le (by decide) hD) rfl (Or.inl ⟨_, rfl, k_303⟩) (ls' := [some (.inr (.inl (some 303))), some (.inl y0), none]) rfl (st' := []) rfl 13 rfl ?_
  exact h
theorem b_X12_removeChannel_13 {y0 : Int} (h : Qr (some (.inl y0)) (J, L, W)) :
    NW sc d_X12_removeChannel D (13, [none, none], [.inl y0], (J, L, W), c, sl) Qr Qx := by
  refine nw_ireturn l_X12_removeChannel_13 rfl ?_
  exact h
theorem b_X12_removesChannel_0 {x1 : Int} (hD : 1 ≤ D) (h : ((-2147483648 ≤ (J 304 2) - 1 ∧ (J 304 2) - 1 < 2147483648) ∧ ((x1 < 0 → Qr (some (.inl 0)) (nw_u J 303 13 1, L, W)) ∧ (0 ≤ x1 → (((J 304 2) - 1 < x1 → Qr (some (.inl 0)) (nw_u J 303 13 1, L, W)) ∧ (x1 ≤ (J 304 2) - 1 → NW sc d_X12_removesChannel D (24, [some (.inr (.inl (some 303))), some (.inl x1), some (.inl 0), none], [], (J, L, W), c, sl) Qr Qx)))))) :
    NW sc d_X12_removesChannel D (0, [some (.inr (.inl (some 303))), some (.inl x1), none, none], [], (J, L, W), c, sl) Qr Qx := by
  refine nw_iload_n l_X12_removesChannel_0 1 rfl rfl ?_
  refine nw_iconst (len := 0) l_X12_removesChannel_1 2 rfl c_0 ?_
  refine nw_aload_n l_X12_removesChannel_2 3 rfl rfl ?_
  refine nw_getA l_X12_removesChannel_3 6 rfl k_303 r_303_0 ?_
  refine nw_iconst (len := 0) l_X12_removesChannel_6 7 rfl c_2 ?_
  refine nw_iald l_X12_removesChannel_7 8 rfl k_304 ⟨by decide, by decide⟩ (v := J 304 2) rfl ?_
  refine nw_iconst (len := 0) l_X12_removesChannel_8 9 rfl c_1 ?_
  have o1 := h.1
  replace h := h.2
  refine nw_isub l_X12_removesChannel_9 10 rfl o1 ?_
  refine nw_call0 0 0 l_X12_removesChannel_10 rfl rfl g_X12_in (Nat.lt_of_lt_of_le (by decide) hD) rfl True.intro (ls' := [some (.inl x1), some (.inl 0), some (.inl ((J 304 2) - 1))]) rfl (st' := []) rfl 13 rfl ?_
  refine nw_iload_n l_X12_in_0 1 rfl rfl ?_
  refine nw_iload_n l_X12_in_1 2 rfl rfl ?_
  refine nw_ic_lt l_X12_in_2 5 rfl (fun q2 => ?_) (fun q2 => ?_)
  · replace h := h.1 q2
    refine nw_iconst (len := 0) l_X12_in_14 15 rfl c_0 ?_
    refine nw_ireturnZ l_X12_in_15 rfl (Or.inl rfl) ?_
    refine nw_if_ne l_X12_removesChannel_13 16 rfl (fun q => absurd q (by decide)) (fun _ => ?_)
    refine nw_aload_n l_X12_removesChannel_16 17 rfl rfl ?_
    refine nw_iconst (len := 0) l_X12_removesChannel_17 18 rfl c_1 ?_
    refine nw_call0 0 303 l_X12_removesChannel_18 rfl rfl g_X12_fails (Nat.lt_of_lt_of_le (by decide) hD) rfl (Or.inl ⟨_, rfl, k_303⟩) (ls' := [some (.inr (.inl (some 303))), some (.inl 1)]) rfl (st' := []) rfl 21 rfl ?_
    refine nw_aload_n l_X12_fails_0 1 rfl rfl ?_
    refine nw_iload_n l_X12_fails_1 2 rfl rfl ?_
    refine nw_putI l_X12_fails_2 5 rfl k_303 ?_
    refine nw_iconst (len := 0) l_X12_fails_5 6 rfl c_0 ?_
    refine nw_ireturn l_X12_fails_6 rfl ?_
    refine nw_ireturn l_X12_removesChannel_21 rfl ?_
    exact h
  · replace h := h.2 q2
    refine nw_iload_n l_X12_in_5 6 rfl rfl ?_
    refine nw_iload_n l_X12_in_6 7 rfl rfl ?_
    refine nw_ic_gt l_X12_in_7 10 rfl (fun q3 => ?_) (fun q3 => ?_)
    · replace h := h.1 q3
      refine nw_iconst (len := 0) l_X12_in_14 15 rfl c_0 ?_
      refine nw_ireturnZ l_X12_in_15 rfl (Or.inl rfl) ?_
      refine nw_if_ne l_X12_removesChannel_13 16 rfl (fun q => absurd q (by decide)) (fun _ => ?_)
      refine nw_aload_n l_X12_removesChannel_16 17 rfl rfl ?_
      refine nw_iconst (len := 0) l_X12_removesChannel_17 18 rfl c_1 ?_
      refine nw_call0 0 303 l_X12_removesChannel_18 rfl rfl g_X12_fails (Nat.lt_of_lt_of_le (by decide) hD) rfl (Or.inl ⟨_, rfl, k_303⟩) (ls' := [some (.inr (.inl (some 303))), some (.inl 1)]) rfl (st' := []) rfl 21 rfl ?_
      refine nw_aload_n l_X12_fails_0 1 rfl rfl ?_
      refine nw_iload_n l_X12_fails_1 2 rfl rfl ?_
      refine nw_putI l_X12_fails_2 5 rfl k_303 ?_
      refine nw_iconst (len := 0) l_X12_fails_5 6 rfl c_0 ?_
      refine nw_ireturn l_X12_fails_6 rfl ?_
      refine nw_ireturn l_X12_removesChannel_21 rfl ?_
      exact h
    · replace h := h.2 q3
      refine nw_iconst (len := 0) l_X12_in_10 11 rfl c_1 ?_
      refine nw_goto l_X12_in_11 ?_
      refine nw_ireturnZ l_X12_in_15 rfl (Or.inr rfl) ?_
      refine nw_if_ne l_X12_removesChannel_13 16 rfl (fun _ => ?_) (fun q => absurd q (by decide))
      refine nw_iconst (len := 0) l_X12_removesChannel_22 23 rfl c_0 ?_
      refine nw_istore_n l_X12_removesChannel_23 24 rfl rfl (ls' := [some (.inr (.inl (some 303))), some (.inl x1), some (.inl 0), none]) rfl ?_
      exact h
theorem b_X12_removesChannel_24 {x1 : Int} {x2 : Int} (hD : 1 ≤ D) (h : ((J 304 3 ≤ x2 → NW sc d_X12_removesChannel D (83, [some (.inr (.inl (some 303))), some (.inl x1), some (.inl 16), none], [], (J, L, W), c, sl) Qr Qx) ∧ (x2 < J 304 3 → ((-2147483648 ≤ 62 + x2 ∧ 62 + x2 < 2147483648) ∧ ((0 ≤ 62 + x2 ∧ 62 + x2 < 161) ∧ ((J 304 (62 + x2) ≤ 0 → ((-2147483648 ≤ x2 + 1 ∧ x2 + 1 < 2147483648) ∧ NW sc d_X12_removesChannel D (24, [some (.inr (.inl (some 303))), some (.inl x1), some (.inl (x2 + 1)), none], [], (J, L, W), c, sl) Qr Qx)) ∧ (0 < J 304 (62 + x2) → ((-2147483648 ≤ 59 + x2 ∧ 59 + x2 < 2147483648) ∧ ((0 ≤ 59 + x2 ∧ 59 + x2 < 161) ∧ ((-2147483648 ≤ 56 + x2 ∧ 56 + x2 < 2147483648) ∧ ((0 ≤ 56 + x2 ∧ 56 + x2 < 161) ∧ NW sc d_X12_between 0 (0, [some (.inr (.inl (some 303))), some (.inl (J 304 (59 + x2))), some (.inl (J 304 (56 + x2))), none, none, none], [], (J, L, W), 0, 0) (fun v M9 => NW sc d_X12_removesChannel D (64, [some (.inr (.inl (some 303))), some (.inl x1), some (.inl x2), none], nw_push v [], M9, c, sl) Qr Qx) Qx))))))))))) :
    NW sc d_X12_removesChannel D (24, [some (.inr (.inl (some 303))), some (.inl x1), some (.inl x2), none], [], (J, L, W), c, sl) Qr Qx := by
  refine nw_iload_n l_X12_removesChannel_24 25 rfl rfl ?_
  refine nw_aload_n l_X12_removesChannel_25 26 rfl rfl ?_
  refine nw_getA l_X12_removesChannel_26 29 rfl k_303 r_303_0 ?_
  refine nw_iconst (len := 0) l_X12_removesChannel_29 30 rfl c_3 ?_
  refine nw_iald l_X12_removesChannel_30 31 rfl k_304 ⟨by decide, by decide⟩ (v := J 304 3) rfl ?_
  refine nw_ic_ge l_X12_removesChannel_31 34 rfl (fun q1 => ?_) (fun q1 => ?_)
  · replace h := h.1 q1
    refine nw_bipush (len := 0) l_X12_removesChannel_80 82 rfl c_16 ?_
    refine nw_istore_n l_X12_removesChannel_82 83 rfl rfl (ls' := [some (.inr (.inl (some 303))), some (.inl x1), some (.inl 16), none]) rfl ?_
    exact h
  · replace h := h.2 q1
    refine nw_aload_n l_X12_removesChannel_34 35 rfl rfl ?_
    refine nw_iload_n l_X12_removesChannel_35 36 rfl rfl ?_
    refine nw_call0 0 303 l_X12_removesChannel_36 rfl rfl g_X12_sails (Nat.lt_of_lt_of_le (by decide) hD) rfl (Or.inl ⟨_, rfl, k_303⟩) (ls' := [some (.inr (.inl (some 303))), some (.inl x2)]) rfl (st' := []) rfl 39 rfl ?_
    refine nw_aload_n l_X12_sails_0 1 rfl rfl ?_
    refine nw_getA l_X12_sails_1 4 rfl k_303 r_303_0 ?_
    refine nw_bipush (len := 0) l_X12_sails_4 6 rfl c_62 ?_
    refine nw_iload_n l_X12_sails_6 7 rfl rfl ?_
    have o2 := h.1
    replace h := h.2
    refine nw_iadd l_X12_sails_7 8 rfl o2 ?_
    have o3 := h.1
    replace h := h.2
    refine nw_iald l_X12_sails_8 9 rfl k_304 o3 (v := J 304 (62 + x2)) rfl ?_
    refine nw_if_le l_X12_sails_9 12 rfl (fun q4 => ?_) (fun q4 => ?_)
    · replace h := h.1 q4
      refine nw_iconst (len := 0) l_X12_sails_16 17 rfl c_0 ?_
      refine nw_ireturnZ l_X12_sails_17 rfl (Or.inl rfl) ?_
      refine nw_if_eq l_X12_removesChannel_39 42 rfl (fun _ => ?_) (fun q => absurd q (by decide))
      have o5 := h.1
      replace h := h.2
      refine nw_iinc l_X12_removesChannel_74 77 rfl 1 (by decide) rfl rfl o5 (ls' := [some (.inr (.inl (some 303))), some (.inl x1), some (.inl (x2 + 1)), none]) rfl ?_
      refine nw_goto l_X12_removesChannel_77 ?_
      exact h
    · replace h := h.2 q4
      refine nw_iconst (len := 0) l_X12_sails_12 13 rfl c_1 ?_
      refine nw_goto l_X12_sails_13 ?_
      refine nw_ireturnZ l_X12_sails_17 rfl (Or.inr rfl) ?_
      refine nw_if_eq l_X12_removesChannel_39 42 rfl (fun q => absurd q (by decide)) (fun _ => ?_)
      refine nw_aload_n l_X12_removesChannel_42 43 rfl rfl ?_
      refine nw_aload_n l_X12_removesChannel_43 44 rfl rfl ?_
      refine nw_getA l_X12_removesChannel_44 47 rfl k_303 r_303_0 ?_
      refine nw_bipush (len := 0) l_X12_removesChannel_47 49 rfl c_59 ?_
      refine nw_iload_n l_X12_removesChannel_49 50 rfl rfl ?_
      have o6 := h.1
      replace h := h.2
      refine nw_iadd l_X12_removesChannel_50 51 rfl o6 ?_
      have o7 := h.1
      replace h := h.2
      refine nw_iald l_X12_removesChannel_51 52 rfl k_304 o7 (v := J 304 (59 + x2)) rfl ?_
      refine nw_aload_n l_X12_removesChannel_52 53 rfl rfl ?_
      refine nw_getA l_X12_removesChannel_53 56 rfl k_303 r_303_0 ?_
      refine nw_bipush (len := 0) l_X12_removesChannel_56 58 rfl c_56 ?_
      refine nw_iload_n l_X12_removesChannel_58 59 rfl rfl ?_
      have o8 := h.1
      replace h := h.2
      refine nw_iadd l_X12_removesChannel_59 60 rfl o8 ?_
      have o9 := h.1
      replace h := h.2
      refine nw_iald l_X12_removesChannel_60 61 rfl k_304 o9 (v := J 304 (56 + x2)) rfl ?_
      refine nw_call0 0 303 l_X12_removesChannel_61 rfl rfl g_X12_between (Nat.lt_of_lt_of_le (by decide) hD) rfl (Or.inl ⟨_, rfl, k_303⟩) (ls' := [some (.inr (.inl (some 303))), some (.inl (J 304 (59 + x2))), some (.inl (J 304 (56 + x2))), none, none, none]) rfl (st' := []) rfl 64 rfl ?_
      exact h
theorem b_X12_removesChannel_83 {x1 : Int} {x2 : Int} (hD : 1 ≤ D) (h : ((56 ≤ x2 → ((-2147483648 ≤ (J 304 2) - 1 ∧ (J 304 2) - 1 < 2147483648) ∧ Qr (some (.inl ((J 304 2) - 1))) (nw_u (nw_u J 304 2 ((J 304 2) - 1)) 303 13 0, L, W))) ∧ (x2 < 56 → NW sc d_X12_removesChannel D (91, [some (.inr (.inl (some 303))), some (.inl x1), some (.inl x2), some (.inl x1)], [], (J, L, W), c, sl) Qr Qx))) :
    NW sc d_X12_removesChannel D (83, [some (.inr (.inl (some 303))), some (.inl x1), some (.inl x2), none], [], (J, L, W), c, sl) Qr Qx := by
  refine nw_iload_n l_X12_removesChannel_83 84 rfl rfl ?_
  refine nw_bipush (len := 0) l_X12_removesChannel_84 86 rfl c_56 ?_
  refine nw_ic_ge l_X12_removesChannel_86 89 rfl (fun q1 => ?_) (fun q1 => ?_)
  · replace h := h.1 q1
    refine nw_aload_n l_X12_removesChannel_127 128 rfl rfl ?_
    refine nw_getA l_X12_removesChannel_128 131 rfl k_303 r_303_0 ?_
    refine nw_iconst (len := 0) l_X12_removesChannel_131 132 rfl c_2 ?_
    refine nw_dup2 l_X12_removesChannel_132 133 rfl ?_
    refine nw_iald l_X12_removesChannel_133 134 rfl k_304 ⟨by decide, by decide⟩ (v := J 304 2) rfl ?_
    refine nw_iconst (len := 0) l_X12_removesChannel_134 135 rfl c_1 ?_
    have o2 := h.1
    replace h := h.2
    refine nw_isub l_X12_removesChannel_135 136 rfl o2 ?_
    refine nw_iast l_X12_removesChannel_136 137 rfl k_304 ⟨by decide, by decide⟩ ?_
    refine nw_aload_n l_X12_removesChannel_137 138 rfl rfl ?_
    refine nw_aload_n l_X12_removesChannel_138 139 rfl rfl ?_
    refine nw_getA l_X12_removesChannel_139 142 rfl k_303 r_303_0 ?_
    refine nw_iconst (len := 0) l_X12_removesChannel_142 143 rfl c_2 ?_
    refine nw_iald l_X12_removesChannel_143 144 rfl k_304 ⟨by decide, by decide⟩ (v := (J 304 2) - 1) (show nw_u J 304 2 ((J 304 2) - 1) 304 2 = (J 304 2) - 1 from nw_uS) ?_
    refine nw_call0 0 303 l_X12_removesChannel_144 rfl rfl g_X12_done (Nat.lt_of_lt_of_le (by decide) hD) rfl (Or.inl ⟨_, rfl, k_303⟩) (ls' := [some (.inr (.inl (some 303))), some (.inl ((J 304 2) - 1))]) rfl (st' := []) rfl 147 rfl ?_
    refine nw_aload_n l_X12_done_0 1 rfl rfl ?_
    refine nw_iconst (len := 0) l_X12_done_1 2 rfl c_0 ?_
    refine nw_putI l_X12_done_2 5 rfl k_303 ?_
    refine nw_iload_n l_X12_done_5 6 rfl rfl ?_
    refine nw_ireturn l_X12_done_6 rfl ?_
    refine nw_ireturn l_X12_removesChannel_147 rfl ?_
    exact h
  · replace h := h.2 q1
    refine nw_iload_n l_X12_removesChannel_89 90 rfl rfl ?_
    refine nw_istore_n l_X12_removesChannel_90 91 rfl rfl (ls' := [some (.inr (.inl (some 303))), some (.inl x1), some (.inl x2), some (.inl x1)]) rfl ?_
    exact h
theorem b_X12_removesChannel_64 {x1 : Int} {x2 : Int} {y0 : Int} (hD : 1 ≤ D) (h : ((¬ y0 = x1 → ((-2147483648 ≤ x2 + 1 ∧ x2 + 1 < 2147483648) ∧ NW sc d_X12_removesChannel D (24, [some (.inr (.inl (some 303))), some (.inl x1), some (.inl (x2 + 1)), none], [], (J, L, W), c, sl) Qr Qx)) ∧ (y0 = x1 → Qr (some (.inl 0)) (nw_u J 303 13 2, L, W)))) :
    NW sc d_X12_removesChannel D (64, [some (.inr (.inl (some 303))), some (.inl x1), some (.inl x2), none], [.inl y0], (J, L, W), c, sl) Qr Qx := by
  refine nw_iload_n l_X12_removesChannel_64 65 rfl rfl ?_
  refine nw_ic_ne l_X12_removesChannel_65 68 rfl (fun q1 => ?_) (fun q1 => ?_)
  · replace h := h.1 q1
    have o2 := h.1
    replace h := h.2
    refine nw_iinc l_X12_removesChannel_74 77 rfl 1 (by decide) rfl rfl o2 (ls' := [some (.inr (.inl (some 303))), some (.inl x1), some (.inl (x2 + 1)), none]) rfl ?_
    refine nw_goto l_X12_removesChannel_77 ?_
    exact h
  · replace h := h.2 q1
    refine nw_aload_n l_X12_removesChannel_68 69 rfl rfl ?_
    refine nw_iconst (len := 0) l_X12_removesChannel_69 70 rfl c_2 ?_
    refine nw_call0 0 303 l_X12_removesChannel_70 rfl rfl g_X12_fails (Nat.lt_of_lt_of_le (by decide) hD) rfl (Or.inl ⟨_, rfl, k_303⟩) (ls' := [some (.inr (.inl (some 303))), some (.inl 2)]) rfl (st' := []) rfl 73 rfl ?_
    refine nw_aload_n l_X12_fails_0 1 rfl rfl ?_
    refine nw_iload_n l_X12_fails_1 2 rfl rfl ?_
    refine nw_putI l_X12_fails_2 5 rfl k_303 ?_
    refine nw_iconst (len := 0) l_X12_fails_5 6 rfl c_0 ?_
    refine nw_ireturn l_X12_fails_6 rfl ?_
    refine nw_ireturn l_X12_removesChannel_73 rfl ?_
    exact h
theorem b_X12_removesChannel_91 {x1 : Int} {x2 : Int} {x3 : Int} (h : ((9 ≤ x3 → ((-2147483648 ≤ x2 + 10 ∧ x2 + 10 < 2147483648) ∧ NW sc d_X12_removesChannel D (83, [some (.inr (.inl (some 303))), some (.inl x1), some (.inl (x2 + 10)), none], [], (J, L, W), c, sl) Qr Qx)) ∧ (x3 < 9 → ((-2147483648 ≤ x2 + x3 ∧ x2 + x3 < 2147483648) ∧ ((-2147483648 ≤ (x2 + x3) + 1 ∧ (x2 + x3) + 1 < 2147483648) ∧ ((0 ≤ (x2 + x3) + 1 ∧ (x2 + x3) + 1 < 161) ∧ ((0 ≤ x2 + x3 ∧ x2 + x3 < 161) ∧ ((-2147483648 ≤ x3 + 1 ∧ x3 + 1 < 2147483648) ∧ NW sc d_X12_removesChannel D (91, [some (.inr (.inl (some 303))), some (.inl x1), some (.inl x2), some (.inl (x3 + 1))], [], (nw_u J 304 (x2 + x3) (J 304 ((x2 + x3) + 1)), L, W), c, sl) Qr Qx)))))))) :
    NW sc d_X12_removesChannel D (91, [some (.inr (.inl (some 303))), some (.inl x1), some (.inl x2), some (.inl x3)], [], (J, L, W), c, sl) Qr Qx := by
  refine nw_iload_n l_X12_removesChannel_91 92 rfl rfl ?_
  refine nw_bipush (len := 0) l_X12_removesChannel_92 94 rfl c_9 ?_
  refine nw_ic_ge l_X12_removesChannel_94 97 rfl (fun q1 => ?_) (fun q1 => ?_)
  · replace h := h.1 q1
    have o2 := h.1
    replace h := h.2
    refine nw_iinc l_X12_removesChannel_121 124 rfl 10 (by decide) rfl rfl o2 (ls' := [some (.inr (.inl (some 303))), some (.inl x1), some (.inl (x2 + 10)), some (.inl x3)]) rfl ?_
    refine nw_goto l_X12_removesChannel_124 ?_
    refine nw_drop (ls' := [some (.inr (.inl (some 303))), some (.inl x1), some (.inl (x2 + 10)), none]) ⟨rfl, ⟨rfl, ⟨rfl, ⟨True.intro, True.intro⟩⟩⟩⟩ ?_
    exact h
  · replace h := h.2 q1
    refine nw_aload_n l_X12_removesChannel_97 98 rfl rfl ?_
    refine nw_getA l_X12_removesChannel_98 101 rfl k_303 r_303_0 ?_
    refine nw_iload_n l_X12_removesChannel_101 102 rfl rfl ?_
    refine nw_iload_n l_X12_removesChannel_102 103 rfl rfl ?_
    have o3 := h.1
    replace h := h.2
    refine nw_iadd l_X12_removesChannel_103 104 rfl o3 ?_
    refine nw_aload_n l_X12_removesChannel_104 105 rfl rfl ?_
    refine nw_getA l_X12_removesChannel_105 108 rfl k_303 r_303_0 ?_
    refine nw_iload_n l_X12_removesChannel_108 109 rfl rfl ?_
    refine nw_iload_n l_X12_removesChannel_109 110 rfl rfl ?_
    refine nw_iadd l_X12_removesChannel_110 111 rfl o3 ?_
    refine nw_iconst (len := 0) l_X12_removesChannel_111 112 rfl c_1 ?_
    have o4 := h.1
    replace h := h.2
    refine nw_iadd l_X12_removesChannel_112 113 rfl o4 ?_
    have o5 := h.1
    replace h := h.2
    refine nw_iald l_X12_removesChannel_113 114 rfl k_304 o5 (v := J 304 ((x2 + x3) + 1)) rfl ?_
    have o6 := h.1
    replace h := h.2
    refine nw_iast l_X12_removesChannel_114 115 rfl k_304 o6 ?_
    have o7 := h.1
    replace h := h.2
    refine nw_iinc l_X12_removesChannel_115 118 rfl 1 (by decide) rfl rfl o7 (ls' := [some (.inr (.inl (some 303))), some (.inl x1), some (.inl x2), some (.inl (x3 + 1))]) rfl ?_
    refine nw_goto l_X12_removesChannel_118 ?_
    exact h
theorem b_X12_rescue_0 {x1 : Int} (hD : 4 ≤ D) (h : NW sc d_X12_begin 1 (0, [some (.inr (.inl (some 303)))], [], (J, L, W), 0, 0) (fun v M9 => NW sc d_X12_rescue D (4, [some (.inr (.inl (some 303))), some (.inl x1)], nw_push v [], M9, c, sl) Qr Qx) Qx) :
    NW sc d_X12_rescue D (0, [some (.inr (.inl (some 303))), some (.inl x1)], [], (J, L, W), c, sl) Qr Qx := by
  refine nw_aload_n l_X12_rescue_0 1 rfl rfl ?_
  refine nw_call0 1 303 l_X12_rescue_1 rfl rfl g_X12_begin (Nat.lt_of_lt_of_le (by decide) hD) rfl (Or.inl ⟨_, rfl, k_303⟩) (ls' := [some (.inr (.inl (some 303)))]) rfl (st' := []) rfl 4 rfl ?_
  exact h
theorem b_X12_rescue_4 {x1 : Int} (hD : 4 ≤ D) (h : NW sc d_X12_rescues 3 (0, [some (.inr (.inl (some 303))), some (.inl x1), none, none], [], (J, L, W), 0, 0) (fun v M9 => NW sc d_X12_rescue D (10, [none, none], nw_push v [.inr (.inl (some 303))], M9, c, sl) Qr Qx) Qx) :
    NW sc d_X12_rescue D (4, [some (.inr (.inl (some 303))), some (.inl x1)], [], (J, L, W), c, sl) Qr Qx := by
  refine nw_aload_n l_X12_rescue_4 5 rfl rfl ?_
  refine nw_aload_n l_X12_rescue_5 6 rfl rfl ?_
  refine nw_iload_n l_X12_rescue_6 7 rfl rfl ?_
  refine nw_drop (ls' := [none, none]) ⟨True.intro, ⟨True.intro, True.intro⟩⟩ ?_
  refine nw_call0 3 303 l_X12_rescue_7 rfl rfl g_X12_rescues (Nat.lt_of_lt_of_le (by decide) hD) rfl (Or.inl ⟨_, rfl, k_303⟩) (ls' := [some (.inr (.inl (some 303))), some (.inl x1), none, none]) rfl (st' := [.inr (.inl (some 303))]) rfl 10 rfl ?_
  exact h
theorem b_X12_rescue_10 {y0 : Int} (hD : 4 ≤ D) (h : NW sc d_X12_kept 1 (0, [some (.inr (.inl (some 303))), some (.inl y0), none], [], (J, L, W), 0, 0) (fun v M9 => NW sc d_X12_rescue D (13, [none, none], nw_push v [], M9, c, sl) Qr Qx) Qx) :
    NW sc d_X12_rescue D (10, [none, none], [.inl y0, .inr (.inl (some 303))], (J, L, W), c, sl) Qr Qx := by
  refine nw_call0 1 303 l_X12_rescue_10 rfl rfl g_X12_kept (Nat.lt_of_lt_of_le (by decide) hD) rfl (Or.inl ⟨_, rfl, k_303⟩) (ls' := [some (.inr (.inl (some 303))), some (.inl y0), none]) rfl (st' := []) rfl 13 rfl ?_
  exact h
theorem b_X12_rescue_13 {y0 : Int} (h : Qr (some (.inl y0)) (J, L, W)) :
    NW sc d_X12_rescue D (13, [none, none], [.inl y0], (J, L, W), c, sl) Qr Qx := by
  refine nw_ireturn l_X12_rescue_13 rfl ?_
  exact h
theorem b_X12_rescues_0 {x1 : Int} (hD : 3 ≤ D) (h : ((-2147483648 ≤ (J 304 3) - 1 ∧ (J 304 3) - 1 < 2147483648) ∧ ((x1 < 0 → Qr (some (.inl 0)) (nw_u J 303 13 1, L, W)) ∧ (0 ≤ x1 → (((J 304 3) - 1 < x1 → Qr (some (.inl 0)) (nw_u J 303 13 1, L, W)) ∧ (x1 ≤ (J 304 3) - 1 → NW sc d_X12_isStuck 2 (0, [some (.inr (.inl (some 303))), some (.inl x1)], [], (J, L, W), 0, 0) (fun v M9 => NW sc d_X12_rescues D (19, [some (.inr (.inl (some 303))), some (.inl x1), none, none], nw_push v [], M9, c, sl) Qr Qx) Qx)))))) :
    NW sc d_X12_rescues D (0, [some (.inr (.inl (some 303))), some (.inl x1), none, none], [], (J, L, W), c, sl) Qr Qx := by
  refine nw_aload_n l_X12_rescues_0 1 rfl rfl ?_
  refine nw_iload_n l_X12_rescues_1 2 rfl rfl ?_
  refine nw_call0 1 303 l_X12_rescues_2 rfl rfl g_X12_isFerry (Nat.lt_of_lt_of_le (by decide) hD) rfl (Or.inl ⟨_, rfl, k_303⟩) (ls' := [some (.inr (.inl (some 303))), some (.inl x1)]) rfl (st' := []) rfl 5 rfl ?_
  refine nw_iload_n l_X12_isFerry_0 1 rfl rfl ?_
  refine nw_iconst (len := 0) l_X12_isFerry_1 2 rfl c_0 ?_
  refine nw_aload_n l_X12_isFerry_2 3 rfl rfl ?_
  refine nw_getA l_X12_isFerry_3 6 rfl k_303 r_303_0 ?_
  refine nw_iconst (len := 0) l_X12_isFerry_6 7 rfl c_3 ?_
  refine nw_iald l_X12_isFerry_7 8 rfl k_304 ⟨by decide, by decide⟩ (v := J 304 3) rfl ?_
  refine nw_iconst (len := 0) l_X12_isFerry_8 9 rfl c_1 ?_
  have o1 := h.1
  replace h := h.2
  refine nw_isub l_X12_isFerry_9 10 rfl o1 ?_
  refine nw_call0 0 0 l_X12_isFerry_10 rfl rfl g_X12_in (by decide) rfl True.intro (ls' := [some (.inl x1), some (.inl 0), some (.inl ((J 304 3) - 1))]) rfl (st' := []) rfl 13 rfl ?_
  refine nw_iload_n l_X12_in_0 1 rfl rfl ?_
  refine nw_iload_n l_X12_in_1 2 rfl rfl ?_
  refine nw_ic_lt l_X12_in_2 5 rfl (fun q2 => ?_) (fun q2 => ?_)
  · replace h := h.1 q2
    refine nw_iconst (len := 0) l_X12_in_14 15 rfl c_0 ?_
    refine nw_ireturnZ l_X12_in_15 rfl (Or.inl rfl) ?_
    refine nw_ireturnZ l_X12_isFerry_13 rfl (Or.inl rfl) ?_
    refine nw_if_ne l_X12_rescues_5 8 rfl (fun q => absurd q (by decide)) (fun _ => ?_)
    refine nw_aload_n l_X12_rescues_8 9 rfl rfl ?_
    refine nw_iconst (len := 0) l_X12_rescues_9 10 rfl c_1 ?_
    refine nw_call0 0 303 l_X12_rescues_10 rfl rfl g_X12_fails (Nat.lt_of_lt_of_le (by decide) hD) rfl (Or.inl ⟨_, rfl, k_303⟩) (ls' := [some (.inr (.inl (some 303))), some (.inl 1)]) rfl (st' := []) rfl 13 rfl ?_
    refine nw_aload_n l_X12_fails_0 1 rfl rfl ?_
    refine nw_iload_n l_X12_fails_1 2 rfl rfl ?_
    refine nw_putI l_X12_fails_2 5 rfl k_303 ?_
    refine nw_iconst (len := 0) l_X12_fails_5 6 rfl c_0 ?_
    refine nw_ireturn l_X12_fails_6 rfl ?_
    refine nw_ireturn l_X12_rescues_13 rfl ?_
    exact h
  · replace h := h.2 q2
    refine nw_iload_n l_X12_in_5 6 rfl rfl ?_
    refine nw_iload_n l_X12_in_6 7 rfl rfl ?_
    refine nw_ic_gt l_X12_in_7 10 rfl (fun q3 => ?_) (fun q3 => ?_)
    · replace h := h.1 q3
      refine nw_iconst (len := 0) l_X12_in_14 15 rfl c_0 ?_
      refine nw_ireturnZ l_X12_in_15 rfl (Or.inl rfl) ?_
      refine nw_ireturnZ l_X12_isFerry_13 rfl (Or.inl rfl) ?_
      refine nw_if_ne l_X12_rescues_5 8 rfl (fun q => absurd q (by decide)) (fun _ => ?_)
      refine nw_aload_n l_X12_rescues_8 9 rfl rfl ?_
      refine nw_iconst (len := 0) l_X12_rescues_9 10 rfl c_1 ?_
      refine nw_call0 0 303 l_X12_rescues_10 rfl rfl g_X12_fails (Nat.lt_of_lt_of_le (by decide) hD) rfl (Or.inl ⟨_, rfl, k_303⟩) (ls' := [some (.inr (.inl (some 303))), some (.inl 1)]) rfl (st' := []) rfl 13 rfl ?_
      refine nw_aload_n l_X12_fails_0 1 rfl rfl ?_
      refine nw_iload_n l_X12_fails_1 2 rfl rfl ?_
      refine nw_putI l_X12_fails_2 5 rfl k_303 ?_
      refine nw_iconst (len := 0) l_X12_fails_5 6 rfl c_0 ?_
      refine nw_ireturn l_X12_fails_6 rfl ?_
      refine nw_ireturn l_X12_rescues_13 rfl ?_
      exact h
    · replace h := h.2 q3
      refine nw_iconst (len := 0) l_X12_in_10 11 rfl c_1 ?_
      refine nw_goto l_X12_in_11 ?_
      refine nw_ireturnZ l_X12_in_15 rfl (Or.inr rfl) ?_
      refine nw_ireturnZ l_X12_isFerry_13 rfl (Or.inr rfl) ?_
      refine nw_if_ne l_X12_rescues_5 8 rfl (fun _ => ?_) (fun q => absurd q (by decide))
      refine nw_aload_n l_X12_rescues_14 15 rfl rfl ?_
      refine nw_iload_n l_X12_rescues_15 16 rfl rfl ?_
      refine nw_call0 2 303 l_X12_rescues_16 rfl rfl g_X12_isStuck (Nat.lt_of_lt_of_le (by decide) hD) rfl (Or.inl ⟨_, rfl, k_303⟩) (ls' := [some (.inr (.inl (some 303))), some (.inl x1)]) rfl (st' := []) rfl 19 rfl ?_
      exact h
theorem b_X12_rescues_19 {x1 : Int} {y0 : Int} (hD : 3 ≤ D) (h : ((¬ y0 = 0 → NW sc d_X12_rescues D (32, [some (.inr (.inl (some 303))), some (.inl x1), some (.inl 0), some (.inl 0)], [], (J, L, W), c, sl) Qr Qx) ∧ (y0 = 0 → Qr (some (.inl 0)) (nw_u J 303 13 2, L, W)))) :
    NW sc d_X12_rescues D (19, [some (.inr (.inl (some 303))), some (.inl x1), none, none], [.inl y0], (J, L, W), c, sl) Qr Qx := by
  refine nw_if_ne l_X12_rescues_19 22 rfl (fun q1 => ?_) (fun q1 => ?_)
  · replace h := h.1 q1
    refine nw_iconst (len := 0) l_X12_rescues_28 29 rfl c_0 ?_
    refine nw_istore_n l_X12_rescues_29 30 rfl rfl (ls' := [some (.inr (.inl (some 303))), some (.inl x1), some (.inl 0), none]) rfl ?_
    refine nw_iconst (len := 0) l_X12_rescues_30 31 rfl c_0 ?_
    refine nw_istore_n l_X12_rescues_31 32 rfl rfl (ls' := [some (.inr (.inl (some 303))), some (.inl x1), some (.inl 0), some (.inl 0)]) rfl ?_
    exact h
  · replace h := h.2 q1
    refine nw_aload_n l_X12_rescues_22 23 rfl rfl ?_
    refine nw_iconst (len := 0) l_X12_rescues_23 24 rfl c_2 ?_
    refine nw_call0 0 303 l_X12_rescues_24 rfl rfl g_X12_fails (Nat.lt_of_lt_of_le (by decide) hD) rfl (Or.inl ⟨_, rfl, k_303⟩) (ls' := [some (.inr (.inl (some 303))), some (.inl 2)]) rfl (st' := []) rfl 27 rfl ?_
    refine nw_aload_n l_X12_fails_0 1 rfl rfl ?_
    refine nw_iload_n l_X12_fails_1 2 rfl rfl ?_
    refine nw_putI l_X12_fails_2 5 rfl k_303 ?_
    refine nw_iconst (len := 0) l_X12_fails_5 6 rfl c_0 ?_
    refine nw_ireturn l_X12_fails_6 rfl ?_
    refine nw_ireturn l_X12_rescues_27 rfl ?_
    exact h
theorem b_X12_rescues_32 {x1 : Int} {x2 : Int} {x3 : Int} (hD : 3 ≤ D) (h : ((J 304 4 ≤ x3 → ((-2147483648 ≤ (J 304 7) + x2 ∧ (J 304 7) + x2 < 2147483648) ∧ Qr (some (.inl x2)) (nw_u (nw_u J 304 7 ((J 304 7) + x2)) 303 13 0, L, W))) ∧ (x3 < J 304 4 → ((-2147483648 ≤ 121 + x3 ∧ 121 + x3 < 2147483648) ∧ ((0 ≤ 121 + x3 ∧ 121 + x3 < 161) ∧ ((-2147483648 ≤ 10 + x1 ∧ 10 + x1 < 2147483648) ∧ ((¬ J 304 (121 + x3) = 10 + x1 → ((-2147483648 ≤ x3 + 1 ∧ x3 + 1 < 2147483648) ∧ NW sc d_X12_rescues D (32, [some (.inr (.inl (some 303))), some (.inl x1), some (.inl x2), some (.inl (x3 + 1))], [], (J, L, W), c, sl) Qr Qx)) ∧ (J 304 (121 + x3) = 10 + x1 → ((-2147483648 ≤ 56 + x1 ∧ 56 + x1 < 2147483648) ∧ ((0 ≤ 56 + x1 ∧ 56 + x1 < 161) ∧ ((-2147483648 ≤ x2 + 1 ∧ x2 + 1 < 2147483648) ∧ ((-2147483648 ≤ x3 + 1 ∧ x3 + 1 < 2147483648) ∧ NW sc d_X12_rescues D (32, [some (.inr (.inl (some 303))), some (.inl x1), some (.inl (x2 + 1)), some (.inl (x3 + 1))], [], (nw_u J 304 (121 + x3) (J 304 (56 + x1)), L, W), c, sl) Qr Qx)))))))))))) :
    NW sc d_X12_rescues D (32, [some (.inr (.inl (some 303))), some (.inl x1), some (.inl x2), some (.inl x3)], [], (J, L, W), c, sl) Qr Qx := by
  refine nw_iload_n l_X12_rescues_32 33 rfl rfl ?_
  refine nw_aload_n l_X12_rescues_33 34 rfl rfl ?_
  refine nw_getA l_X12_rescues_34 37 rfl k_303 r_303_0 ?_
  refine nw_iconst (len := 0) l_X12_rescues_37 38 rfl c_4 ?_
  refine nw_iald l_X12_rescues_38 39 rfl k_304 ⟨by decide, by decide⟩ (v := J 304 4) rfl ?_
  refine nw_ic_ge l_X12_rescues_39 42 rfl (fun q1 => ?_) (fun q1 => ?_)
  · replace h := h.1 q1
    refine nw_aload_n l_X12_rescues_85 86 rfl rfl ?_
    refine nw_getA l_X12_rescues_86 89 rfl k_303 r_303_0 ?_
    refine nw_bipush (len := 0) l_X12_rescues_89 91 rfl c_7 ?_
    refine nw_dup2 l_X12_rescues_91 92 rfl ?_
    refine nw_iald l_X12_rescues_92 93 rfl k_304 ⟨by decide, by decide⟩ (v := J 304 7) rfl ?_
    refine nw_iload_n l_X12_rescues_93 94 rfl rfl ?_
    have o2 := h.1
    replace h := h.2
    refine nw_iadd l_X12_rescues_94 95 rfl o2 ?_
    refine nw_iast l_X12_rescues_95 96 rfl k_304 ⟨by decide, by decide⟩ ?_
    refine nw_aload_n l_X12_rescues_96 97 rfl rfl ?_
    refine nw_iload_n l_X12_rescues_97 98 rfl rfl ?_
    refine nw_call0 0 303 l_X12_rescues_98 rfl rfl g_X12_done (Nat.lt_of_lt_of_le (by decide) hD) rfl (Or.inl ⟨_, rfl, k_303⟩) (ls' := [some (.inr (.inl (some 303))), some (.inl x2)]) rfl (st' := []) rfl 101 rfl ?_
    refine nw_aload_n l_X12_done_0 1 rfl rfl ?_
    refine nw_iconst (len := 0) l_X12_done_1 2 rfl c_0 ?_
    refine nw_putI l_X12_done_2 5 rfl k_303 ?_
    refine nw_iload_n l_X12_done_5 6 rfl rfl ?_
    refine nw_ireturn l_X12_done_6 rfl ?_
    refine nw_ireturn l_X12_rescues_101 rfl ?_
    exact h
  · replace h := h.2 q1
    refine nw_aload_n l_X12_rescues_42 43 rfl rfl ?_
    refine nw_getA l_X12_rescues_43 46 rfl k_303 r_303_0 ?_
    refine nw_bipush (len := 0) l_X12_rescues_46 48 rfl c_121 ?_
    refine nw_iload_n l_X12_rescues_48 49 rfl rfl ?_
    have o3 := h.1
    replace h := h.2
    refine nw_iadd l_X12_rescues_49 50 rfl o3 ?_
    have o4 := h.1
    replace h := h.2
    refine nw_iald l_X12_rescues_50 51 rfl k_304 o4 (v := J 304 (121 + x3)) rfl ?_
    refine nw_bipush (len := 0) l_X12_rescues_51 53 rfl c_10 ?_
    refine nw_iload_n l_X12_rescues_53 54 rfl rfl ?_
    have o5 := h.1
    replace h := h.2
    refine nw_iadd l_X12_rescues_54 55 rfl o5 ?_
    refine nw_ic_ne l_X12_rescues_55 58 rfl (fun q6 => ?_) (fun q6 => ?_)
    · replace h := h.1 q6
      have o7 := h.1
      replace h := h.2
      refine nw_iinc l_X12_rescues_79 82 rfl 1 (by decide) rfl rfl o7 (ls' := [some (.inr (.inl (some 303))), some (.inl x1), some (.inl x2), some (.inl (x3 + 1))]) rfl ?_
      refine nw_goto l_X12_rescues_82 ?_
      exact h
    · replace h := h.2 q6
      refine nw_aload_n l_X12_rescues_58 59 rfl rfl ?_
      refine nw_getA l_X12_rescues_59 62 rfl k_303 r_303_0 ?_
      refine nw_bipush (len := 0) l_X12_rescues_62 64 rfl c_121 ?_
      refine nw_iload_n l_X12_rescues_64 65 rfl rfl ?_
      refine nw_iadd l_X12_rescues_65 66 rfl o3 ?_
      refine nw_aload_n l_X12_rescues_66 67 rfl rfl ?_
      refine nw_getA l_X12_rescues_67 70 rfl k_303 r_303_0 ?_
      refine nw_bipush (len := 0) l_X12_rescues_70 72 rfl c_56 ?_
      refine nw_iload_n l_X12_rescues_72 73 rfl rfl ?_
      have o8 := h.1
      replace h := h.2
      refine nw_iadd l_X12_rescues_73 74 rfl o8 ?_
      have o9 := h.1
      replace h := h.2
      refine nw_iald l_X12_rescues_74 75 rfl k_304 o9 (v := J 304 (56 + x1)) rfl ?_
      refine nw_iast l_X12_rescues_75 76 rfl k_304 o4 ?_
      have o10 := h.1
      replace h := h.2
      refine nw_iinc l_X12_rescues_76 79 rfl 1 (by decide) rfl rfl o10 (ls' := [some (.inr (.inl (some 303))), some (.inl x1), some (.inl (x2 + 1)), some (.inl x3)]) rfl ?_
      have o11 := h.1
      replace h := h.2
      refine nw_iinc l_X12_rescues_79 82 rfl 1 (by decide) rfl rfl o11 (ls' := [some (.inr (.inl (some 303))), some (.inl x1), some (.inl (x2 + 1)), some (.inl (x3 + 1))]) rfl ?_
      refine nw_goto l_X12_rescues_82 ?_
      exact h
theorem b_X12_restore_0  (hD : 1 ≤ D) (h : ((¬ J 303 5 = 0 → NW sc d_X12_copy 0 (0, [some (.inr (.inl (some 307))), some (.inl 0), some (.inr (.inl (some 304))), some (.inl 0), none], [], (J, L, W), 0, 0) (fun v M9 => NW sc d_X12_restore D (26, [some (.inr (.inl (some 303)))], nw_push v [], M9, c, sl) Qr Qx) Qx) ∧ (J 303 5 = 0 → Qr (some (.inl 0)) (nw_u J 303 13 1, L, W)))) :
    NW sc d_X12_restore D (0, [some (.inr (.inl (some 303)))], [], (J, L, W), c, sl) Qr Qx := by
  refine nw_aload_n l_X12_restore_0 1 rfl rfl ?_
  refine nw_getZ l_X12_restore_1 4 rfl k_303 (v := J 303 5) rfl ?_
  refine nw_if_ne l_X12_restore_4 7 rfl (fun q1 => ?_) (fun q1 => ?_)
  · replace h := h.1 q1
    refine nw_aload_n l_X12_restore_13 14 rfl rfl ?_
    refine nw_getA l_X12_restore_14 17 rfl k_303 r_303_4 ?_
    refine nw_iconst (len := 0) l_X12_restore_17 18 rfl c_0 ?_
    refine nw_aload_n l_X12_restore_18 19 rfl rfl ?_
    refine nw_getA l_X12_restore_19 22 rfl k_303 r_303_0 ?_
    refine nw_iconst (len := 0) l_X12_restore_22 23 rfl c_0 ?_
    refine nw_call0 0 0 l_X12_restore_23 rfl rfl g_X12_copy (Nat.lt_of_lt_of_le (by decide) hD) rfl True.intro (ls' := [some (.inr (.inl (some 307))), some (.inl 0), some (.inr (.inl (some 304))), some (.inl 0), none]) rfl (st' := []) rfl 26 rfl ?_
    exact h
  · replace h := h.2 q1
    refine nw_aload_n l_X12_restore_7 8 rfl rfl ?_
    refine nw_iconst (len := 0) l_X12_restore_8 9 rfl c_1 ?_
    refine nw_call0 0 303 l_X12_restore_9 rfl rfl g_X12_fails (Nat.lt_of_lt_of_le (by decide) hD) rfl (Or.inl ⟨_, rfl, k_303⟩) (ls' := [some (.inr (.inl (some 303))), some (.inl 1)]) rfl (st' := []) rfl 12 rfl ?_
    refine nw_aload_n l_X12_fails_0 1 rfl rfl ?_
    refine nw_iload_n l_X12_fails_1 2 rfl rfl ?_
    refine nw_putI l_X12_fails_2 5 rfl k_303 ?_
    refine nw_iconst (len := 0) l_X12_fails_5 6 rfl c_0 ?_
    refine nw_ireturn l_X12_fails_6 rfl ?_
    refine nw_ireturn l_X12_restore_12 rfl ?_
    exact h
theorem b_X12_restore_26  (hD : 1 ≤ D) (h : Qr (some (.inl (J 304 4))) (nw_u (nw_u J 303 3 0) 303 13 0, L, W)) :
    NW sc d_X12_restore D (26, [some (.inr (.inl (some 303)))], [], (J, L, W), c, sl) Qr Qx := by
  refine nw_aload_n l_X12_restore_26 27 rfl rfl ?_
  refine nw_iconst (len := 0) l_X12_restore_27 28 rfl c_0 ?_
  refine nw_putI l_X12_restore_28 31 rfl k_303 ?_
  refine nw_aload_n l_X12_restore_31 32 rfl rfl ?_
  refine nw_aload_n l_X12_restore_32 33 rfl rfl ?_
  refine nw_getA l_X12_restore_33 36 rfl k_303 r_303_0 ?_
  refine nw_iconst (len := 0) l_X12_restore_36 37 rfl c_4 ?_
  refine nw_iald l_X12_restore_37 38 rfl k_304 ⟨by decide, by decide⟩ (v := J 304 4) (show nw_u J 303 3 0 304 4 = J 304 4 from (nw_uN (a := 303) (b := 304) (by decide))) ?_
  refine nw_call0 0 303 l_X12_restore_38 rfl rfl g_X12_done (Nat.lt_of_lt_of_le (by decide) hD) rfl (Or.inl ⟨_, rfl, k_303⟩) (ls' := [some (.inr (.inl (some 303))), some (.inl (J 304 4))]) rfl (st' := []) rfl 41 rfl ?_
  refine nw_aload_n l_X12_done_0 1 rfl rfl ?_
  refine nw_iconst (len := 0) l_X12_done_1 2 rfl c_0 ?_
  refine nw_putI l_X12_done_2 5 rfl k_303 ?_
  refine nw_iload_n l_X12_done_5 6 rfl rfl ?_
  refine nw_ireturn l_X12_done_6 rfl ?_
  refine nw_ireturn l_X12_restore_41 rfl ?_
  exact h
theorem b_X12_run_0  (h : NW sc d_X12_run D (14, [some (.inr (.inl (some 303))), some (.inl 0), some (.inl 1), none, none], [], (nw_u (nw_u J 303 17 0) 303 18 0, L, W), c, sl) Qr Qx) :
    NW sc d_X12_run D (0, [some (.inr (.inl (some 303))), none, none, none, none], [], (J, L, W), c, sl) Qr Qx := by
  refine nw_aload_n l_X12_run_0 1 rfl rfl ?_
  refine nw_iconst (len := 0) l_X12_run_1 2 rfl c_0 ?_
  refine nw_putI l_X12_run_2 5 rfl k_303 ?_
  refine nw_aload_n l_X12_run_5 6 rfl rfl ?_
  refine nw_iconst (len := 0) l_X12_run_6 7 rfl c_0 ?_
  refine nw_putZ l_X12_run_7 10 rfl k_303 (by decide) ?_
  refine nw_iconst (len := 0) l_X12_run_10 11 rfl c_0 ?_
  refine nw_istore_n l_X12_run_11 12 rfl rfl (ls' := [some (.inr (.inl (some 303))), some (.inl 0), none, none, none]) rfl ?_
  refine nw_iconst (len := 0) l_X12_run_12 13 rfl c_1 ?_
  refine nw_istore_n l_X12_run_13 14 rfl rfl (ls' := [some (.inr (.inl (some 303))), some (.inl 0), some (.inl 1), none, none]) rfl ?_
  exact h
theorem b_X12_run_14 {x1 : Int} {x2 : Int} (hD : 6 ≤ D) (h : ((x2 = 0 → ((¬ J 303 18 = 0 → Qr (some (.inl 0)) (nw_u (nw_u (nw_u (nw_u J 303 18 1) 303 7 0) 303 8 (J 303 17)) 303 13 1, L, W)) ∧ (J 303 18 = 0 → ((J 303 7 ≤ J 303 17 → NW sc d_X12_begin 1 (0, [some (.inr (.inl (some 303)))], [], (nw_u (nw_u J 303 18 0) 303 7 0, L, W), 0, 0) (fun v M9 => NW sc d_X12_run D (128, [some (.inr (.inl (some 303))), some (.inl x1), none, none, none], nw_push v [], M9, c, sl) Qr Qx) Qx) ∧ (J 303 17 < J 303 7 → Qr (some (.inl 0)) (nw_u (nw_u (nw_u (nw_u J 303 18 1) 303 7 0) 303 8 (J 303 17)) 303 13 1, L, W)))))) ∧ (¬ x2 = 0 → ((-2147483648 ≤ 5 * x1 ∧ 5 * x1 < 2147483648) ∧ NW sc d_X12_parsesCommand 4 (0, [some (.inr (.inl (some 303))), some (.inl (5 * x1)), none], [], (J, L, W), 0, 0) (fun v M9 => NW sc d_X12_run D (25, [some (.inr (.inl (some 303))), some (.inl x1), none, none, none], nw_push v [], M9, c, sl) Qr Qx) Qx)))) :
    NW sc d_X12_run D (14, [some (.inr (.inl (some 303))), some (.inl x1), some (.inl x2), none, none], [], (J, L, W), c, sl) Qr Qx := by
  refine nw_iload_n l_X12_run_14 15 rfl rfl ?_
  refine nw_if_eq l_X12_run_15 18 rfl (fun q1 => ?_) (fun q1 => ?_)
  · replace h := h.1 q1
    refine nw_aload_n l_X12_run_71 72 rfl rfl ?_
    refine nw_aload_n l_X12_run_72 73 rfl rfl ?_
    refine nw_getZ l_X12_run_73 76 rfl k_303 (v := J 303 18) rfl ?_
    refine nw_if_ne l_X12_run_76 79 rfl (fun q2 => ?_) (fun q2 => ?_)
    · replace h := h.1 q2
      refine nw_iconst (len := 0) l_X12_run_90 91 rfl c_1 ?_
      refine nw_goto l_X12_run_91 ?_
      refine nw_putZ l_X12_run_95 98 rfl k_303 (by decide) ?_
      refine nw_aload_n l_X12_run_98 99 rfl rfl ?_
      refine nw_iconst (len := 0) l_X12_run_99 100 rfl c_0 ?_
      refine nw_putI l_X12_run_100 103 rfl k_303 ?_
      refine nw_aload_n l_X12_run_103 104 rfl rfl ?_
      refine nw_getZ l_X12_run_104 107 rfl k_303 (v := 1) (show nw_u (nw_u J 303 18 1) 303 7 0 303 18 = 1 from (nw_uI (i := 7) (j := 18) (by decide)).trans nw_uS) ?_
      refine nw_if_eq l_X12_run_107 110 rfl (fun q => absurd q (by decide)) (fun _ => ?_)
      refine nw_aload_n l_X12_run_110 111 rfl rfl ?_
      refine nw_aload_n l_X12_run_111 112 rfl rfl ?_
      refine nw_getI l_X12_run_112 115 rfl k_303 (v := J 303 17) (show nw_u (nw_u J 303 18 1) 303 7 0 303 17 = J 303 17 from (nw_uI (i := 7) (j := 17) (by decide)).trans (nw_uI (i := 18) (j := 17) (by decide))) ?_
      refine nw_putI l_X12_run_115 118 rfl k_303 ?_
      refine nw_aload_n l_X12_run_118 119 rfl rfl ?_
      refine nw_iconst (len := 0) l_X12_run_119 120 rfl c_1 ?_
      refine nw_call0 0 303 l_X12_run_120 rfl rfl g_X12_fails (Nat.lt_of_lt_of_le (by decide) hD) rfl (Or.inl ⟨_, rfl, k_303⟩) (ls' := [some (.inr (.inl (some 303))), some (.inl 1)]) rfl (st' := []) rfl 123 rfl ?_
      refine nw_aload_n l_X12_fails_0 1 rfl rfl ?_
      refine nw_iload_n l_X12_fails_1 2 rfl rfl ?_
      refine nw_putI l_X12_fails_2 5 rfl k_303 ?_
      refine nw_iconst (len := 0) l_X12_fails_5 6 rfl c_0 ?_
      refine nw_ireturn l_X12_fails_6 rfl ?_
      refine nw_ireturn l_X12_run_123 rfl ?_
      exact h
    · replace h := h.2 q2
      refine nw_aload_n l_X12_run_79 80 rfl rfl ?_
      refine nw_getI l_X12_run_80 83 rfl k_303 (v := J 303 17) rfl ?_
      refine nw_aload_n l_X12_run_83 84 rfl rfl ?_
      refine nw_getI l_X12_run_84 87 rfl k_303 (v := J 303 7) rfl ?_
      refine nw_ic_ge l_X12_run_87 90 rfl (fun q3 => ?_) (fun q3 => ?_)
      · replace h := h.1 q3
        refine nw_iconst (len := 0) l_X12_run_94 95 rfl c_0 ?_
        refine nw_putZ l_X12_run_95 98 rfl k_303 (by decide) ?_
        refine nw_aload_n l_X12_run_98 99 rfl rfl ?_
        refine nw_iconst (len := 0) l_X12_run_99 100 rfl c_0 ?_
        refine nw_putI l_X12_run_100 103 rfl k_303 ?_
        refine nw_aload_n l_X12_run_103 104 rfl rfl ?_
        refine nw_getZ l_X12_run_104 107 rfl k_303 (v := 0) (show nw_u (nw_u J 303 18 0) 303 7 0 303 18 = 0 from (nw_uI (i := 7) (j := 18) (by decide)).trans nw_uS) ?_
        refine nw_if_eq l_X12_run_107 110 rfl (fun _ => ?_) (fun q => absurd q (by decide))
        refine nw_aload_n l_X12_run_124 125 rfl rfl ?_
        refine nw_drop (ls' := [some (.inr (.inl (some 303))), some (.inl x1), none, none, none]) ⟨rfl, ⟨rfl, ⟨True.intro, ⟨True.intro, ⟨True.intro, True.intro⟩⟩⟩⟩⟩ ?_
        refine nw_call0 1 303 l_X12_run_125 rfl rfl g_X12_begin (Nat.lt_of_lt_of_le (by decide) hD) rfl (Or.inl ⟨_, rfl, k_303⟩) (ls' := [some (.inr (.inl (some 303)))]) rfl (st' := []) rfl 128 rfl ?_
        exact h
      · replace h := h.2 q3
        refine nw_iconst (len := 0) l_X12_run_90 91 rfl c_1 ?_
        refine nw_goto l_X12_run_91 ?_
        refine nw_putZ l_X12_run_95 98 rfl k_303 (by decide) ?_
        refine nw_aload_n l_X12_run_98 99 rfl rfl ?_
        refine nw_iconst (len := 0) l_X12_run_99 100 rfl c_0 ?_
        refine nw_putI l_X12_run_100 103 rfl k_303 ?_
        refine nw_aload_n l_X12_run_103 104 rfl rfl ?_
        refine nw_getZ l_X12_run_104 107 rfl k_303 (v := 1) (show nw_u (nw_u J 303 18 1) 303 7 0 303 18 = 1 from (nw_uI (i := 7) (j := 18) (by decide)).trans nw_uS) ?_
        refine nw_if_eq l_X12_run_107 110 rfl (fun q => absurd q (by decide)) (fun _ => ?_)
        refine nw_aload_n l_X12_run_110 111 rfl rfl ?_
        refine nw_aload_n l_X12_run_111 112 rfl rfl ?_
        refine nw_getI l_X12_run_112 115 rfl k_303 (v := J 303 17) (show nw_u (nw_u J 303 18 1) 303 7 0 303 17 = J 303 17 from (nw_uI (i := 7) (j := 17) (by decide)).trans (nw_uI (i := 18) (j := 17) (by decide))) ?_
        refine nw_putI l_X12_run_115 118 rfl k_303 ?_
        refine nw_aload_n l_X12_run_118 119 rfl rfl ?_
        refine nw_iconst (len := 0) l_X12_run_119 120 rfl c_1 ?_
        refine nw_call0 0 303 l_X12_run_120 rfl rfl g_X12_fails (Nat.lt_of_lt_of_le (by decide) hD) rfl (Or.inl ⟨_, rfl, k_303⟩) (ls' := [some (.inr (.inl (some 303))), some (.inl 1)]) rfl (st' := []) rfl 123 rfl ?_
        refine nw_aload_n l_X12_fails_0 1 rfl rfl ?_
        refine nw_iload_n l_X12_fails_1 2 rfl rfl ?_
        refine nw_putI l_X12_fails_2 5 rfl k_303 ?_
        refine nw_iconst (len := 0) l_X12_fails_5 6 rfl c_0 ?_
        refine nw_ireturn l_X12_fails_6 rfl ?_
        refine nw_ireturn l_X12_run_123 rfl ?_
        exact h
  · replace h := h.2 q1
    refine nw_aload_n l_X12_run_18 19 rfl rfl ?_
    refine nw_iconst (len := 0) l_X12_run_19 20 rfl c_5 ?_
    refine nw_iload_n l_X12_run_20 21 rfl rfl ?_
    have o4 := h.1
    replace h := h.2
    refine nw_imul l_X12_run_21 22 rfl o4 ?_
    refine nw_drop (ls' := [some (.inr (.inl (some 303))), some (.inl x1), none, none, none]) ⟨rfl, ⟨rfl, ⟨True.intro, ⟨True.intro, ⟨True.intro, True.intro⟩⟩⟩⟩⟩ ?_
    refine nw_call0 4 303 l_X12_run_22 rfl rfl g_X12_parsesCommand (Nat.lt_of_lt_of_le (by decide) hD) rfl (Or.inl ⟨_, rfl, k_303⟩) (ls' := [some (.inr (.inl (some 303))), some (.inl (5 * x1)), none]) rfl (st' := []) rfl 25 rfl ?_
    exact h
theorem b_X12_run_128 {x1 : Int} (h : NW sc d_X12_run D (130, [some (.inr (.inl (some 303))), some (.inl x1), none, some (.inl 0), none], [], (J, L, W), c, sl) Qr Qx) :
    NW sc d_X12_run D (128, [some (.inr (.inl (some 303))), some (.inl x1), none, none, none], [], (J, L, W), c, sl) Qr Qx := by
  refine nw_iconst (len := 0) l_X12_run_128 129 rfl c_0 ?_
  refine nw_istore_n l_X12_run_129 130 rfl rfl (ls' := [some (.inr (.inl (some 303))), some (.inl x1), none, some (.inl 0), none]) rfl ?_
  exact h
theorem b_X12_run_25 {x1 : Int} (hD : 6 ≤ D) (h : ((-2147483648 ≤ x1 + 1 ∧ x1 + 1 < 2147483648) ∧ ((¬ J 303 18 = 0 → ((-2147483648 ≤ (J 303 17) + 0 ∧ (J 303 17) + 0 < 2147483648) ∧ NW sc d_X12_run D (14, [some (.inr (.inl (some 303))), some (.inl (x1 + 1)), some (.inl 0), none, none], [], (nw_u J 303 17 ((J 303 17) + 0), L, W), c, sl) Qr Qx)) ∧ (J 303 18 = 0 → ((J 303 7 ≤ J 303 17 → ((-2147483648 ≤ (J 303 17) + 0 ∧ (J 303 17) + 0 < 2147483648) ∧ NW sc d_X12_run D (14, [some (.inr (.inl (some 303))), some (.inl (x1 + 1)), some (.inl 0), none, none], [], (nw_u J 303 17 ((J 303 17) + 0), L, W), c, sl) Qr Qx)) ∧ (J 303 17 < J 303 7 → ((0 ≤ J 303 17 ∧ J 303 17 < 60) ∧ ((¬ J 308 (J 303 17) = 59 → ((-2147483648 ≤ (J 303 17) + 0 ∧ (J 303 17) + 0 < 2147483648) ∧ NW sc d_X12_run D (14, [some (.inr (.inl (some 303))), some (.inl (x1 + 1)), some (.inl 0), none, none], [], (nw_u J 303 17 ((J 303 17) + 0), L, W), c, sl) Qr Qx)) ∧ (J 308 (J 303 17) = 59 → ((-2147483648 ≤ (J 303 17) + 1 ∧ (J 303 17) + 1 < 2147483648) ∧ NW sc d_X12_run D (14, [some (.inr (.inl (some 303))), some (.inl (x1 + 1)), some (.inl 1), none, none], [], (nw_u J 303 17 ((J 303 17) + 1), L, W), c, sl) Qr Qx)))))))))) :
    NW sc d_X12_run D (25, [some (.inr (.inl (some 303))), some (.inl x1), none, none, none], [], (J, L, W), c, sl) Qr Qx := by
  have o1 := h.1
  replace h := h.2
  refine nw_iinc l_X12_run_25 28 rfl 1 (by decide) rfl rfl o1 (ls' := [some (.inr (.inl (some 303))), some (.inl (x1 + 1)), none, none, none]) rfl ?_
  refine nw_aload_n l_X12_run_28 29 rfl rfl ?_
  refine nw_getZ l_X12_run_29 32 rfl k_303 (v := J 303 18) rfl ?_
  refine nw_if_ne l_X12_run_32 35 rfl (fun q2 => ?_) (fun q2 => ?_)
  · replace h := h.1 q2
    refine nw_iconst (len := 0) l_X12_run_48 49 rfl c_0 ?_
    refine nw_istore_n l_X12_run_49 50 rfl rfl (ls' := [some (.inr (.inl (some 303))), some (.inl (x1 + 1)), some (.inl 0), none, none]) rfl ?_
    refine nw_aload_n l_X12_run_50 51 rfl rfl ?_
    refine nw_dupA l_X12_run_51 52 rfl ?_
    refine nw_getI l_X12_run_52 55 rfl k_303 (v := J 303 17) rfl ?_
    refine nw_iload_n l_X12_run_55 56 rfl rfl ?_
    refine nw_if_eq l_X12_run_56 59 rfl (fun _ => ?_) (fun q => absurd q (by decide))
    refine nw_iconst (len := 0) l_X12_run_63 64 rfl c_0 ?_
    have o3 := h.1
    replace h := h.2
    refine nw_iadd l_X12_run_64 65 rfl o3 ?_
    refine nw_putI l_X12_run_65 68 rfl k_303 ?_
    refine nw_goto l_X12_run_68 ?_
    exact h
  · replace h := h.2 q2
    refine nw_aload_n l_X12_run_35 36 rfl rfl ?_
    refine nw_call0 0 303 l_X12_run_36 rfl rfl g_X12_here (Nat.lt_of_lt_of_le (by decide) hD) rfl (Or.inl ⟨_, rfl, k_303⟩) (ls' := [some (.inr (.inl (some 303)))]) rfl (st' := []) rfl 39 rfl ?_
    refine nw_aload_n l_X12_here_0 1 rfl rfl ?_
    refine nw_getI l_X12_here_1 4 rfl k_303 (v := J 303 17) rfl ?_
    refine nw_aload_n l_X12_here_4 5 rfl rfl ?_
    refine nw_getI l_X12_here_5 8 rfl k_303 (v := J 303 7) rfl ?_
    refine nw_ic_ge l_X12_here_8 11 rfl (fun q4 => ?_) (fun q4 => ?_)
    · replace h := h.1 q4
      refine nw_iconst (len := 0) l_X12_here_23 24 rfl c_n1 ?_
      refine nw_ireturn l_X12_here_24 rfl ?_
      refine nw_bipush (len := 0) l_X12_run_39 41 rfl c_59 ?_
      refine nw_ic_ne l_X12_run_41 44 rfl (fun _ => ?_) (fun q => absurd q (by decide))
      refine nw_iconst (len := 0) l_X12_run_48 49 rfl c_0 ?_
      refine nw_istore_n l_X12_run_49 50 rfl rfl (ls' := [some (.inr (.inl (some 303))), some (.inl (x1 + 1)), some (.inl 0), none, none]) rfl ?_
      refine nw_aload_n l_X12_run_50 51 rfl rfl ?_
      refine nw_dupA l_X12_run_51 52 rfl ?_
      refine nw_getI l_X12_run_52 55 rfl k_303 (v := J 303 17) rfl ?_
      refine nw_iload_n l_X12_run_55 56 rfl rfl ?_
      refine nw_if_eq l_X12_run_56 59 rfl (fun _ => ?_) (fun q => absurd q (by decide))
      refine nw_iconst (len := 0) l_X12_run_63 64 rfl c_0 ?_
      have o5 := h.1
      replace h := h.2
      refine nw_iadd l_X12_run_64 65 rfl o5 ?_
      refine nw_putI l_X12_run_65 68 rfl k_303 ?_
      refine nw_goto l_X12_run_68 ?_
      exact h
    · replace h := h.2 q4
      refine nw_aload_n l_X12_here_11 12 rfl rfl ?_
      refine nw_getA l_X12_here_12 15 rfl k_303 r_303_6 ?_
      refine nw_aload_n l_X12_here_15 16 rfl rfl ?_
      refine nw_getI l_X12_here_16 19 rfl k_303 (v := J 303 17) rfl ?_
      have o6 := h.1
      replace h := h.2
      refine nw_cald l_X12_here_19 20 rfl k_308 o6 (v := J 308 (J 303 17)) rfl ?_
      refine nw_goto l_X12_here_20 ?_
      refine nw_ireturn l_X12_here_24 rfl ?_
      refine nw_bipush (len := 0) l_X12_run_39 41 rfl c_59 ?_
      refine nw_ic_ne l_X12_run_41 44 rfl (fun q7 => ?_) (fun q7 => ?_)
      · replace h := h.1 q7
        refine nw_iconst (len := 0) l_X12_run_48 49 rfl c_0 ?_
        refine nw_istore_n l_X12_run_49 50 rfl rfl (ls' := [some (.inr (.inl (some 303))), some (.inl (x1 + 1)), some (.inl 0), none, none]) rfl ?_
        refine nw_aload_n l_X12_run_50 51 rfl rfl ?_
        refine nw_dupA l_X12_run_51 52 rfl ?_
        refine nw_getI l_X12_run_52 55 rfl k_303 (v := J 303 17) rfl ?_
        refine nw_iload_n l_X12_run_55 56 rfl rfl ?_
        refine nw_if_eq l_X12_run_56 59 rfl (fun _ => ?_) (fun q => absurd q (by decide))
        refine nw_iconst (len := 0) l_X12_run_63 64 rfl c_0 ?_
        have o8 := h.1
        replace h := h.2
        refine nw_iadd l_X12_run_64 65 rfl o8 ?_
        refine nw_putI l_X12_run_65 68 rfl k_303 ?_
        refine nw_goto l_X12_run_68 ?_
        exact h
      · replace h := h.2 q7
        refine nw_iconst (len := 0) l_X12_run_44 45 rfl c_1 ?_
        refine nw_goto l_X12_run_45 ?_
        refine nw_istore_n l_X12_run_49 50 rfl rfl (ls' := [some (.inr (.inl (some 303))), some (.inl (x1 + 1)), some (.inl 1), none, none]) rfl ?_
        refine nw_aload_n l_X12_run_50 51 rfl rfl ?_
        refine nw_dupA l_X12_run_51 52 rfl ?_
        refine nw_getI l_X12_run_52 55 rfl k_303 (v := J 303 17) rfl ?_
        refine nw_iload_n l_X12_run_55 56 rfl rfl ?_
        refine nw_if_eq l_X12_run_56 59 rfl (fun q => absurd q (by decide)) (fun _ => ?_)
        refine nw_iconst (len := 0) l_X12_run_59 60 rfl c_1 ?_
        refine nw_goto l_X12_run_60 ?_
        have o9 := h.1
        replace h := h.2
        refine nw_iadd l_X12_run_64 65 rfl o9 ?_
        refine nw_putI l_X12_run_65 68 rfl k_303 ?_
        refine nw_goto l_X12_run_68 ?_
        exact h
theorem b_X12_run_130 {x1 : Int} {x3 : Int} (hD : 6 ≤ D) (h : ((x1 ≤ x3 → NW sc d_X12_kept 1 (0, [some (.inr (.inl (some 303))), some (.inl x1), none], [], (nw_u J 303 13 0, L, W), 0, 0) (fun v M9 => NW sc d_X12_run D (183, [none, none, none, none, none], nw_push v [], M9, c, sl) Qr Qx) Qx) ∧ (x3 < x1 → ((-2147483648 ≤ 5 * x3 ∧ 5 * x3 < 2147483648) ∧ NW sc d_X12_carriesOut 5 (0, [some (.inr (.inl (some 303))), some (.inl (5 * x3)), none, none], [], (J, L, W), 0, 0) (fun v M9 => NW sc d_X12_run D (142, [some (.inr (.inl (some 303))), some (.inl x1), none, some (.inl x3), none], nw_push v [], M9, c, sl) Qr Qx) Qx)))) :
    NW sc d_X12_run D (130, [some (.inr (.inl (some 303))), some (.inl x1), none, some (.inl x3), none], [], (J, L, W), c, sl) Qr Qx := by
  refine nw_iload_n l_X12_run_130 131 rfl rfl ?_
  refine nw_iload_n l_X12_run_131 132 rfl rfl ?_
  refine nw_ic_ge l_X12_run_132 135 rfl (fun q1 => ?_) (fun q1 => ?_)
  · replace h := h.1 q1
    refine nw_aload_n l_X12_run_174 175 rfl rfl ?_
    refine nw_aload_n l_X12_run_175 176 rfl rfl ?_
    refine nw_iload_n l_X12_run_176 177 rfl rfl ?_
    refine nw_call0 0 303 l_X12_run_177 rfl rfl g_X12_done (Nat.lt_of_lt_of_le (by decide) hD) rfl (Or.inl ⟨_, rfl, k_303⟩) (ls' := [some (.inr (.inl (some 303))), some (.inl x1)]) rfl (st' := [.inr (.inl (some 303))]) rfl 180 rfl ?_
    refine nw_aload_n l_X12_done_0 1 rfl rfl ?_
    refine nw_iconst (len := 0) l_X12_done_1 2 rfl c_0 ?_
    refine nw_putI l_X12_done_2 5 rfl k_303 ?_
    refine nw_iload_n l_X12_done_5 6 rfl rfl ?_
    refine nw_ireturn l_X12_done_6 rfl ?_
    refine nw_drop (ls' := [none, none, none, none, none]) ⟨True.intro, ⟨True.intro, ⟨True.intro, ⟨True.intro, ⟨True.intro, True.intro⟩⟩⟩⟩⟩ ?_
    refine nw_call0 1 303 l_X12_run_180 rfl rfl g_X12_kept (Nat.lt_of_lt_of_le (by decide) hD) rfl (Or.inl ⟨_, rfl, k_303⟩) (ls' := [some (.inr (.inl (some 303))), some (.inl x1), none]) rfl (st' := []) rfl 183 rfl ?_
    exact h
  · replace h := h.2 q1
    refine nw_aload_n l_X12_run_135 136 rfl rfl ?_
    refine nw_iconst (len := 0) l_X12_run_136 137 rfl c_5 ?_
    refine nw_iload_n l_X12_run_137 138 rfl rfl ?_
    have o2 := h.1
    replace h := h.2
    refine nw_imul l_X12_run_138 139 rfl o2 ?_
    refine nw_call0 5 303 l_X12_run_139 rfl rfl g_X12_carriesOut (Nat.lt_of_lt_of_le (by decide) hD) rfl (Or.inl ⟨_, rfl, k_303⟩) (ls' := [some (.inr (.inl (some 303))), some (.inl (5 * x3)), none, none]) rfl (st' := []) rfl 142 rfl ?_
    exact h
theorem b_X12_run_183 {y0 : Int} (h : Qr (some (.inl y0)) (J, L, W)) :
    NW sc d_X12_run D (183, [none, none, none, none, none], [.inl y0], (J, L, W), c, sl) Qr Qx := by
  refine nw_ireturn l_X12_run_183 rfl ?_
  exact h
theorem b_X12_run_142 {x1 : Int} {x3 : Int} {y0 : Int} (hD : 6 ≤ D) (h : ((J 303 13 = 0 → ((-2147483648 ≤ x3 + 1 ∧ x3 + 1 < 2147483648) ∧ NW sc d_X12_run D (130, [some (.inr (.inl (some 303))), some (.inl x1), none, some (.inl (x3 + 1)), none], [], (J, L, W), c, sl) Qr Qx)) ∧ (¬ J 303 13 = 0 → NW sc d_X12_kept 1 (0, [some (.inr (.inl (some 303))), some (.inl y0), none], [], (nw_u (nw_u J 303 9 x3) 303 13 2, L, W), 0, 0) (fun v M9 => NW sc d_X12_run D (167, [none, none, none, none, none], nw_push v [], M9, c, sl) Qr Qx) Qx))) :
    NW sc d_X12_run D (142, [some (.inr (.inl (some 303))), some (.inl x1), none, some (.inl x3), none], [.inl y0], (J, L, W), c, sl) Qr Qx := by
  refine nw_istore l_X12_run_142 144 rfl rfl (ls' := [some (.inr (.inl (some 303))), some (.inl x1), none, some (.inl x3), some (.inl y0)]) rfl ?_
  refine nw_aload_n l_X12_run_144 145 rfl rfl ?_
  refine nw_getI l_X12_run_145 148 rfl k_303 (v := J 303 13) rfl ?_
  refine nw_if_eq l_X12_run_148 151 rfl (fun q1 => ?_) (fun q1 => ?_)
  · replace h := h.1 q1
    have o2 := h.1
    replace h := h.2
    refine nw_iinc l_X12_run_168 171 rfl 1 (by decide) rfl rfl o2 (ls' := [some (.inr (.inl (some 303))), some (.inl x1), none, some (.inl (x3 + 1)), some (.inl y0)]) rfl ?_
    refine nw_goto l_X12_run_171 ?_
    refine nw_drop (ls' := [some (.inr (.inl (some 303))), some (.inl x1), none, some (.inl (x3 + 1)), none]) ⟨rfl, ⟨rfl, ⟨True.intro, ⟨rfl, ⟨True.intro, True.intro⟩⟩⟩⟩⟩ ?_
    exact h
  · replace h := h.2 q1
    refine nw_aload_n l_X12_run_151 152 rfl rfl ?_
    refine nw_iload_n l_X12_run_152 153 rfl rfl ?_
    refine nw_putI l_X12_run_153 156 rfl k_303 ?_
    refine nw_aload_n l_X12_run_156 157 rfl rfl ?_
    refine nw_iconst (len := 0) l_X12_run_157 158 rfl c_2 ?_
    refine nw_putI l_X12_run_158 161 rfl k_303 ?_
    refine nw_aload_n l_X12_run_161 162 rfl rfl ?_
    refine nw_iload l_X12_run_162 164 rfl rfl ?_
    refine nw_drop (ls' := [none, none, none, none, none]) ⟨True.intro, ⟨True.intro, ⟨True.intro, ⟨True.intro, ⟨True.intro, True.intro⟩⟩⟩⟩⟩ ?_
    refine nw_call0 1 303 l_X12_run_164 rfl rfl g_X12_kept (Nat.lt_of_lt_of_le (by decide) hD) rfl (Or.inl ⟨_, rfl, k_303⟩) (ls' := [some (.inr (.inl (some 303))), some (.inl y0), none]) rfl (st' := []) rfl 167 rfl ?_
    exact h
theorem b_X12_run_167 {y0 : Int} (h : Qr (some (.inl y0)) (J, L, W)) :
    NW sc d_X12_run D (167, [none, none, none, none, none], [.inl y0], (J, L, W), c, sl) Qr Qx := by
  refine nw_ireturn l_X12_run_167 rfl ?_
  exact h
theorem b_X12_sail_0 {x1 : Int} {x2 : Int} (hD : 4 ≤ D) (h : NW sc d_X12_begin 1 (0, [some (.inr (.inl (some 303)))], [], (J, L, W), 0, 0) (fun v M9 => NW sc d_X12_sail D (4, [some (.inr (.inl (some 303))), some (.inl x1), some (.inl x2)], nw_push v [], M9, c, sl) Qr Qx) Qx) :
    NW sc d_X12_sail D (0, [some (.inr (.inl (some 303))), some (.inl x1), some (.inl x2)], [], (J, L, W), c, sl) Qr Qx := by
  refine nw_aload_n l_X12_sail_0 1 rfl rfl ?_
  refine nw_call0 1 303 l_X12_sail_1 rfl rfl g_X12_begin (Nat.lt_of_lt_of_le (by decide) hD) rfl (Or.inl ⟨_, rfl, k_303⟩) (ls' := [some (.inr (.inl (some 303)))]) rfl (st' := []) rfl 4 rfl ?_
  exact h
theorem b_X12_sail_4 {x1 : Int} {x2 : Int} (hD : 4 ≤ D) (h : NW sc d_X12_sailsTo 3 (0, [some (.inr (.inl (some 303))), some (.inl x1), some (.inl x2), none], [], (J, L, W), 0, 0) (fun v M9 => NW sc d_X12_sail D (11, [none, none, none], nw_push v [.inr (.inl (some 303))], M9, c, sl) Qr Qx) Qx) :
    NW sc d_X12_sail D (4, [some (.inr (.inl (some 303))), some (.inl x1), some (.inl x2)], [], (J, L, W), c, sl) Qr Qx := by
  refine nw_aload_n l_X12_sail_4 5 rfl rfl ?_
  refine nw_aload_n l_X12_sail_5 6 rfl rfl ?_
  refine nw_iload_n l_X12_sail_6 7 rfl rfl ?_
  refine nw_iload_n l_X12_sail_7 8 rfl rfl ?_
  refine nw_drop (ls' := [none, none, none]) ⟨True.intro, ⟨True.intro, ⟨True.intro, True.intro⟩⟩⟩ ?_
  refine nw_call0 3 303 l_X12_sail_8 rfl rfl g_X12_sailsTo (Nat.lt_of_lt_of_le (by decide) hD) rfl (Or.inl ⟨_, rfl, k_303⟩) (ls' := [some (.inr (.inl (some 303))), some (.inl x1), some (.inl x2), none]) rfl (st' := [.inr (.inl (some 303))]) rfl 11 rfl ?_
  exact h
theorem b_X12_sail_11 {y0 : Int} (hD : 4 ≤ D) (h : NW sc d_X12_kept 1 (0, [some (.inr (.inl (some 303))), some (.inl y0), none], [], (J, L, W), 0, 0) (fun v M9 => NW sc d_X12_sail D (14, [none, none, none], nw_push v [], M9, c, sl) Qr Qx) Qx) :
    NW sc d_X12_sail D (11, [none, none, none], [.inl y0, .inr (.inl (some 303))], (J, L, W), c, sl) Qr Qx := by
  refine nw_call0 1 303 l_X12_sail_11 rfl rfl g_X12_kept (Nat.lt_of_lt_of_le (by decide) hD) rfl (Or.inl ⟨_, rfl, k_303⟩) (ls' := [some (.inr (.inl (some 303))), some (.inl y0), none]) rfl (st' := []) rfl 14 rfl ?_
  exact h
theorem b_X12_sail_14 {y0 : Int} (h : Qr (some (.inl y0)) (J, L, W)) :
    NW sc d_X12_sail D (14, [none, none, none], [.inl y0], (J, L, W), c, sl) Qr Qx := by
  refine nw_ireturn l_X12_sail_14 rfl ?_
  exact h
theorem b_X12_sailsTo_0 {x1 : Int} {x2 : Int} (hD : 3 ≤ D) (h : ((-2147483648 ≤ (J 304 3) - 1 ∧ (J 304 3) - 1 < 2147483648) ∧ ((x1 < 0 → Qr (some (.inl 0)) (nw_u J 303 13 1, L, W)) ∧ (0 ≤ x1 → (((J 304 3) - 1 < x1 → Qr (some (.inl 0)) (nw_u J 303 13 1, L, W)) ∧ (x1 ≤ (J 304 3) - 1 → ((-2147483648 ≤ (J 304 1) - 1 ∧ (J 304 1) - 1 < 2147483648) ∧ ((x2 < 0 → Qr (some (.inl 0)) (nw_u J 303 13 1, L, W)) ∧ (0 ≤ x2 → (((J 304 1) - 1 < x2 → Qr (some (.inl 0)) (nw_u J 303 13 1, L, W)) ∧ (x2 ≤ (J 304 1) - 1 → ((-2147483648 ≤ 62 + x1 ∧ 62 + x1 < 2147483648) ∧ ((0 ≤ 62 + x1 ∧ 62 + x1 < 161) ∧ ((J 304 (62 + x1) ≤ 0 → ((-2147483648 ≤ 56 + x1 ∧ 56 + x1 < 2147483648) ∧ ((0 ≤ 56 + x1 ∧ 56 + x1 < 161) ∧ NW sc d_X12_between 0 (0, [some (.inr (.inl (some 303))), some (.inl (J 304 (56 + x1))), some (.inl x2), none, none, none], [], (J, L, W), 0, 0) (fun v M9 => NW sc d_X12_sailsTo D (50, [some (.inr (.inl (some 303))), some (.inl x1), some (.inl x2), none], nw_push v [], M9, c, sl) Qr Qx) Qx))) ∧ (0 < J 304 (62 + x1) → Qr (some (.inl 0)) (nw_u J 303 13 2, L, W)))))))))))))))) :
    NW sc d_X12_sailsTo D (0, [some (.inr (.inl (some 303))), some (.inl x1), some (.inl x2), none], [], (J, L, W), c, sl) Qr Qx := by
  refine nw_aload_n l_X12_sailsTo_0 1 rfl rfl ?_
  refine nw_iload_n l_X12_sailsTo_1 2 rfl rfl ?_
  refine nw_call0 1 303 l_X12_sailsTo_2 rfl rfl g_X12_isFerry (Nat.lt_of_lt_of_le (by decide) hD) rfl (Or.inl ⟨_, rfl, k_303⟩) (ls' := [some (.inr (.inl (some 303))), some (.inl x1)]) rfl (st' := []) rfl 5 rfl ?_
  refine nw_iload_n l_X12_isFerry_0 1 rfl rfl ?_
  refine nw_iconst (len := 0) l_X12_isFerry_1 2 rfl c_0 ?_
  refine nw_aload_n l_X12_isFerry_2 3 rfl rfl ?_
  refine nw_getA l_X12_isFerry_3 6 rfl k_303 r_303_0 ?_
  refine nw_iconst (len := 0) l_X12_isFerry_6 7 rfl c_3 ?_
  refine nw_iald l_X12_isFerry_7 8 rfl k_304 ⟨by decide, by decide⟩ (v := J 304 3) rfl ?_
  refine nw_iconst (len := 0) l_X12_isFerry_8 9 rfl c_1 ?_
  have o1 := h.1
  replace h := h.2
  refine nw_isub l_X12_isFerry_9 10 rfl o1 ?_
  refine nw_call0 0 0 l_X12_isFerry_10 rfl rfl g_X12_in (by decide) rfl True.intro (ls' := [some (.inl x1), some (.inl 0), some (.inl ((J 304 3) - 1))]) rfl (st' := []) rfl 13 rfl ?_
  refine nw_iload_n l_X12_in_0 1 rfl rfl ?_
  refine nw_iload_n l_X12_in_1 2 rfl rfl ?_
  refine nw_ic_lt l_X12_in_2 5 rfl (fun q2 => ?_) (fun q2 => ?_)
  · replace h := h.1 q2
    refine nw_iconst (len := 0) l_X12_in_14 15 rfl c_0 ?_
    refine nw_ireturnZ l_X12_in_15 rfl (Or.inl rfl) ?_
    refine nw_ireturnZ l_X12_isFerry_13 rfl (Or.inl rfl) ?_
    refine nw_if_eq l_X12_sailsTo_5 8 rfl (fun _ => ?_) (fun q => absurd q (by decide))
    refine nw_aload_n l_X12_sailsTo_16 17 rfl rfl ?_
    refine nw_iconst (len := 0) l_X12_sailsTo_17 18 rfl c_1 ?_
    refine nw_call0 0 303 l_X12_sailsTo_18 rfl rfl g_X12_fails (Nat.lt_of_lt_of_le (by decide) hD) rfl (Or.inl ⟨_, rfl, k_303⟩) (ls' := [some (.inr (.inl (some 303))), some (.inl 1)]) rfl (st' := []) rfl 21 rfl ?_
    refine nw_aload_n l_X12_fails_0 1 rfl rfl ?_
    refine nw_iload_n l_X12_fails_1 2 rfl rfl ?_
    refine nw_putI l_X12_fails_2 5 rfl k_303 ?_
    refine nw_iconst (len := 0) l_X12_fails_5 6 rfl c_0 ?_
    refine nw_ireturn l_X12_fails_6 rfl ?_
    refine nw_ireturn l_X12_sailsTo_21 rfl ?_
    exact h
  · replace h := h.2 q2
    refine nw_iload_n l_X12_in_5 6 rfl rfl ?_
    refine nw_iload_n l_X12_in_6 7 rfl rfl ?_
    refine nw_ic_gt l_X12_in_7 10 rfl (fun q3 => ?_) (fun q3 => ?_)
    · replace h := h.1 q3
      refine nw_iconst (len := 0) l_X12_in_14 15 rfl c_0 ?_
      refine nw_ireturnZ l_X12_in_15 rfl (Or.inl rfl) ?_
      refine nw_ireturnZ l_X12_isFerry_13 rfl (Or.inl rfl) ?_
      refine nw_if_eq l_X12_sailsTo_5 8 rfl (fun _ => ?_) (fun q => absurd q (by decide))
      refine nw_aload_n l_X12_sailsTo_16 17 rfl rfl ?_
      refine nw_iconst (len := 0) l_X12_sailsTo_17 18 rfl c_1 ?_
      refine nw_call0 0 303 l_X12_sailsTo_18 rfl rfl g_X12_fails (Nat.lt_of_lt_of_le (by decide) hD) rfl (Or.inl ⟨_, rfl, k_303⟩) (ls' := [some (.inr (.inl (some 303))), some (.inl 1)]) rfl (st' := []) rfl 21 rfl ?_
      refine nw_aload_n l_X12_fails_0 1 rfl rfl ?_
      refine nw_iload_n l_X12_fails_1 2 rfl rfl ?_
      refine nw_putI l_X12_fails_2 5 rfl k_303 ?_
      refine nw_iconst (len := 0) l_X12_fails_5 6 rfl c_0 ?_
      refine nw_ireturn l_X12_fails_6 rfl ?_
      refine nw_ireturn l_X12_sailsTo_21 rfl ?_
      exact h
    · replace h := h.2 q3
      refine nw_iconst (len := 0) l_X12_in_10 11 rfl c_1 ?_
      refine nw_goto l_X12_in_11 ?_
      refine nw_ireturnZ l_X12_in_15 rfl (Or.inr rfl) ?_
      refine nw_ireturnZ l_X12_isFerry_13 rfl (Or.inr rfl) ?_
      refine nw_if_eq l_X12_sailsTo_5 8 rfl (fun q => absurd q (by decide)) (fun _ => ?_)
      refine nw_aload_n l_X12_sailsTo_8 9 rfl rfl ?_
      refine nw_iload_n l_X12_sailsTo_9 10 rfl rfl ?_
      refine nw_call0 1 303 l_X12_sailsTo_10 rfl rfl g_X12_isCrater (Nat.lt_of_lt_of_le (by decide) hD) rfl (Or.inl ⟨_, rfl, k_303⟩) (ls' := [some (.inr (.inl (some 303))), some (.inl x2)]) rfl (st' := []) rfl 13 rfl ?_
      refine nw_iload_n l_X12_isCrater_0 1 rfl rfl ?_
      refine nw_iconst (len := 0) l_X12_isCrater_1 2 rfl c_0 ?_
      refine nw_aload_n l_X12_isCrater_2 3 rfl rfl ?_
      refine nw_getA l_X12_isCrater_3 6 rfl k_303 r_303_0 ?_
      refine nw_iconst (len := 0) l_X12_isCrater_6 7 rfl c_1 ?_
      refine nw_iald l_X12_isCrater_7 8 rfl k_304 ⟨by decide, by decide⟩ (v := J 304 1) rfl ?_
      refine nw_iconst (len := 0) l_X12_isCrater_8 9 rfl c_1 ?_
      have o4 := h.1
      replace h := h.2
      refine nw_isub l_X12_isCrater_9 10 rfl o4 ?_
      refine nw_call0 0 0 l_X12_isCrater_10 rfl rfl g_X12_in (by decide) rfl True.intro (ls' := [some (.inl x2), some (.inl 0), some (.inl ((J 304 1) - 1))]) rfl (st' := []) rfl 13 rfl ?_
      refine nw_iload_n l_X12_in_0 1 rfl rfl ?_
      refine nw_iload_n l_X12_in_1 2 rfl rfl ?_
      refine nw_ic_lt l_X12_in_2 5 rfl (fun q5 => ?_) (fun q5 => ?_)
      · replace h := h.1 q5
        refine nw_iconst (len := 0) l_X12_in_14 15 rfl c_0 ?_
        refine nw_ireturnZ l_X12_in_15 rfl (Or.inl rfl) ?_
        refine nw_ireturnZ l_X12_isCrater_13 rfl (Or.inl rfl) ?_
        refine nw_if_ne l_X12_sailsTo_13 16 rfl (fun q => absurd q (by decide)) (fun _ => ?_)
        refine nw_aload_n l_X12_sailsTo_16 17 rfl rfl ?_
        refine nw_iconst (len := 0) l_X12_sailsTo_17 18 rfl c_1 ?_
        refine nw_call0 0 303 l_X12_sailsTo_18 rfl rfl g_X12_fails (Nat.lt_of_lt_of_le (by decide) hD) rfl (Or.inl ⟨_, rfl, k_303⟩) (ls' := [some (.inr (.inl (some 303))), some (.inl 1)]) rfl (st' := []) rfl 21 rfl ?_
        refine nw_aload_n l_X12_fails_0 1 rfl rfl ?_
        refine nw_iload_n l_X12_fails_1 2 rfl rfl ?_
        refine nw_putI l_X12_fails_2 5 rfl k_303 ?_
        refine nw_iconst (len := 0) l_X12_fails_5 6 rfl c_0 ?_
        refine nw_ireturn l_X12_fails_6 rfl ?_
        refine nw_ireturn l_X12_sailsTo_21 rfl ?_
        exact h
      · replace h := h.2 q5
        refine nw_iload_n l_X12_in_5 6 rfl rfl ?_
        refine nw_iload_n l_X12_in_6 7 rfl rfl ?_
        refine nw_ic_gt l_X12_in_7 10 rfl (fun q6 => ?_) (fun q6 => ?_)
        · replace h := h.1 q6
          refine nw_iconst (len := 0) l_X12_in_14 15 rfl c_0 ?_
          refine nw_ireturnZ l_X12_in_15 rfl (Or.inl rfl) ?_
          refine nw_ireturnZ l_X12_isCrater_13 rfl (Or.inl rfl) ?_
          refine nw_if_ne l_X12_sailsTo_13 16 rfl (fun q => absurd q (by decide)) (fun _ => ?_)
          refine nw_aload_n l_X12_sailsTo_16 17 rfl rfl ?_
          refine nw_iconst (len := 0) l_X12_sailsTo_17 18 rfl c_1 ?_
          refine nw_call0 0 303 l_X12_sailsTo_18 rfl rfl g_X12_fails (Nat.lt_of_lt_of_le (by decide) hD) rfl (Or.inl ⟨_, rfl, k_303⟩) (ls' := [some (.inr (.inl (some 303))), some (.inl 1)]) rfl (st' := []) rfl 21 rfl ?_
          refine nw_aload_n l_X12_fails_0 1 rfl rfl ?_
          refine nw_iload_n l_X12_fails_1 2 rfl rfl ?_
          refine nw_putI l_X12_fails_2 5 rfl k_303 ?_
          refine nw_iconst (len := 0) l_X12_fails_5 6 rfl c_0 ?_
          refine nw_ireturn l_X12_fails_6 rfl ?_
          refine nw_ireturn l_X12_sailsTo_21 rfl ?_
          exact h
        · replace h := h.2 q6
          refine nw_iconst (len := 0) l_X12_in_10 11 rfl c_1 ?_
          refine nw_goto l_X12_in_11 ?_
          refine nw_ireturnZ l_X12_in_15 rfl (Or.inr rfl) ?_
          refine nw_ireturnZ l_X12_isCrater_13 rfl (Or.inr rfl) ?_
          refine nw_if_ne l_X12_sailsTo_13 16 rfl (fun _ => ?_) (fun q => absurd q (by decide))
          refine nw_aload_n l_X12_sailsTo_22 23 rfl rfl ?_
          refine nw_iload_n l_X12_sailsTo_23 24 rfl rfl ?_
          refine nw_call0 0 303 l_X12_sailsTo_24 rfl rfl g_X12_sails (Nat.lt_of_lt_of_le (by decide) hD) rfl (Or.inl ⟨_, rfl, k_303⟩) (ls' := [some (.inr (.inl (some 303))), some (.inl x1)]) rfl (st' := []) rfl 27 rfl ?_
          refine nw_aload_n l_X12_sails_0 1 rfl rfl ?_
          refine nw_getA l_X12_sails_1 4 rfl k_303 r_303_0 ?_
          refine nw_bipush (len := 0) l_X12_sails_4 6 rfl c_62 ?_
          refine nw_iload_n l_X12_sails_6 7 rfl rfl ?_
          have o7 := h.1
          replace h := h.2
          refine nw_iadd l_X12_sails_7 8 rfl o7 ?_
          have o8 := h.1
          replace h := h.2
          refine nw_iald l_X12_sails_8 9 rfl k_304 o8 (v := J 304 (62 + x1)) rfl ?_
          refine nw_if_le l_X12_sails_9 12 rfl (fun q9 => ?_) (fun q9 => ?_)
          · replace h := h.1 q9
            refine nw_iconst (len := 0) l_X12_sails_16 17 rfl c_0 ?_
            refine nw_ireturnZ l_X12_sails_17 rfl (Or.inl rfl) ?_
            refine nw_if_eq l_X12_sailsTo_27 30 rfl (fun _ => ?_) (fun q => absurd q (by decide))
            refine nw_aload_n l_X12_sailsTo_36 37 rfl rfl ?_
            refine nw_aload_n l_X12_sailsTo_37 38 rfl rfl ?_
            refine nw_getA l_X12_sailsTo_38 41 rfl k_303 r_303_0 ?_
            refine nw_bipush (len := 0) l_X12_sailsTo_41 43 rfl c_56 ?_
            refine nw_iload_n l_X12_sailsTo_43 44 rfl rfl ?_
            have o10 := h.1
            replace h := h.2
            refine nw_iadd l_X12_sailsTo_44 45 rfl o10 ?_
            have o11 := h.1
            replace h := h.2
            refine nw_iald l_X12_sailsTo_45 46 rfl k_304 o11 (v := J 304 (56 + x1)) rfl ?_
            refine nw_iload_n l_X12_sailsTo_46 47 rfl rfl ?_
            refine nw_call0 0 303 l_X12_sailsTo_47 rfl rfl g_X12_between (Nat.lt_of_lt_of_le (by decide) hD) rfl (Or.inl ⟨_, rfl, k_303⟩) (ls' := [some (.inr (.inl (some 303))), some (.inl (J 304 (56 + x1))), some (.inl x2), none, none, none]) rfl (st' := []) rfl 50 rfl ?_
            exact h
          · replace h := h.2 q9
            refine nw_iconst (len := 0) l_X12_sails_12 13 rfl c_1 ?_
            refine nw_goto l_X12_sails_13 ?_
            refine nw_ireturnZ l_X12_sails_17 rfl (Or.inr rfl) ?_
            refine nw_if_eq l_X12_sailsTo_27 30 rfl (fun q => absurd q (by decide)) (fun _ => ?_)
            refine nw_aload_n l_X12_sailsTo_30 31 rfl rfl ?_
            refine nw_iconst (len := 0) l_X12_sailsTo_31 32 rfl c_2 ?_
            refine nw_call0 0 303 l_X12_sailsTo_32 rfl rfl g_X12_fails (Nat.lt_of_lt_of_le (by decide) hD) rfl (Or.inl ⟨_, rfl, k_303⟩) (ls' := [some (.inr (.inl (some 303))), some (.inl 2)]) rfl (st' := []) rfl 35 rfl ?_
            refine nw_aload_n l_X12_fails_0 1 rfl rfl ?_
            refine nw_iload_n l_X12_fails_1 2 rfl rfl ?_
            refine nw_putI l_X12_fails_2 5 rfl k_303 ?_
            refine nw_iconst (len := 0) l_X12_fails_5 6 rfl c_0 ?_
            refine nw_ireturn l_X12_fails_6 rfl ?_
            refine nw_ireturn l_X12_sailsTo_35 rfl ?_
            exact h
theorem b_X12_sailsTo_50 {x1 : Int} {x2 : Int} {y0 : Int} (hD : 3 ≤ D) (h : ((¬ y0 = (-1) → NW sc d_X12_isStuck 2 (0, [some (.inr (.inl (some 303))), some (.inl x1)], [], (J, L, W), 0, 0) (fun v M9 => NW sc d_X12_sailsTo D (68, [some (.inr (.inl (some 303))), some (.inl x1), some (.inl x2), some (.inl y0)], nw_push v [], M9, c, sl) Qr Qx) Qx) ∧ (y0 = (-1) → Qr (some (.inl 0)) (nw_u (nw_u J 303 10 1) 303 13 3, L, W)))) :
    NW sc d_X12_sailsTo D (50, [some (.inr (.inl (some 303))), some (.inl x1), some (.inl x2), none], [.inl y0], (J, L, W), c, sl) Qr Qx := by
  refine nw_istore_n l_X12_sailsTo_50 51 rfl rfl (ls' := [some (.inr (.inl (some 303))), some (.inl x1), some (.inl x2), some (.inl y0)]) rfl ?_
  refine nw_iload_n l_X12_sailsTo_51 52 rfl rfl ?_
  refine nw_iconst (len := 0) l_X12_sailsTo_52 53 rfl c_n1 ?_
  refine nw_ic_ne l_X12_sailsTo_53 56 rfl (fun q1 => ?_) (fun q1 => ?_)
  · replace h := h.1 q1
    refine nw_aload_n l_X12_sailsTo_63 64 rfl rfl ?_
    refine nw_iload_n l_X12_sailsTo_64 65 rfl rfl ?_
    refine nw_call0 2 303 l_X12_sailsTo_65 rfl rfl g_X12_isStuck (Nat.lt_of_lt_of_le (by decide) hD) rfl (Or.inl ⟨_, rfl, k_303⟩) (ls' := [some (.inr (.inl (some 303))), some (.inl x1)]) rfl (st' := []) rfl 68 rfl ?_
    exact h
  · replace h := h.2 q1
    refine nw_aload_n l_X12_sailsTo_56 57 rfl rfl ?_
    refine nw_iconst (len := 0) l_X12_sailsTo_57 58 rfl c_1 ?_
    refine nw_iconst (len := 0) l_X12_sailsTo_58 59 rfl c_3 ?_
    refine nw_call0 1 303 l_X12_sailsTo_59 rfl rfl g_X12_refuses (Nat.lt_of_lt_of_le (by decide) hD) rfl (Or.inl ⟨_, rfl, k_303⟩) (ls' := [some (.inr (.inl (some 303))), some (.inl 1), some (.inl 3)]) rfl (st' := []) rfl 62 rfl ?_
    refine nw_aload_n l_X12_refuses_0 1 rfl rfl ?_
    refine nw_iload_n l_X12_refuses_1 2 rfl rfl ?_
    refine nw_putI l_X12_refuses_2 5 rfl k_303 ?_
    refine nw_aload_n l_X12_refuses_5 6 rfl rfl ?_
    refine nw_iload_n l_X12_refuses_6 7 rfl rfl ?_
    refine nw_call0 0 303 l_X12_refuses_7 rfl rfl g_X12_fails (by decide) rfl (Or.inl ⟨_, rfl, k_303⟩) (ls' := [some (.inr (.inl (some 303))), some (.inl 3)]) rfl (st' := []) rfl 10 rfl ?_
    refine nw_aload_n l_X12_fails_0 1 rfl rfl ?_
    refine nw_iload_n l_X12_fails_1 2 rfl rfl ?_
    refine nw_putI l_X12_fails_2 5 rfl k_303 ?_
    refine nw_iconst (len := 0) l_X12_fails_5 6 rfl c_0 ?_
    refine nw_ireturn l_X12_fails_6 rfl ?_
    refine nw_ireturn l_X12_refuses_10 rfl ?_
    refine nw_ireturn l_X12_sailsTo_62 rfl ?_
    exact h
theorem b_X12_sailsTo_68 {x1 : Int} {x2 : Int} {x3 : Int} {y0 : Int} (hD : 3 ≤ D) (h : ((y0 = 0 → NW sc d_X12_isOpen 1 (0, [some (.inr (.inl (some 303))), some (.inl x1), some (.inl x3), some (.inl (J 304 0))], [], (J, L, W), 0, 0) (fun v M9 => NW sc d_X12_sailsTo D (90, [some (.inr (.inl (some 303))), some (.inl x1), some (.inl x2), some (.inl x3)], nw_push v [], M9, c, sl) Qr Qx) Qx) ∧ (¬ y0 = 0 → Qr (some (.inl 0)) (nw_u (nw_u J 303 10 2) 303 13 3, L, W)))) :
    NW sc d_X12_sailsTo D (68, [some (.inr (.inl (some 303))), some (.inl x1), some (.inl x2), some (.inl x3)], [.inl y0], (J, L, W), c, sl) Qr Qx := by
  refine nw_if_eq l_X12_sailsTo_68 71 rfl (fun q1 => ?_) (fun q1 => ?_)
  · replace h := h.1 q1
    refine nw_aload_n l_X12_sailsTo_78 79 rfl rfl ?_
    refine nw_iload_n l_X12_sailsTo_79 80 rfl rfl ?_
    refine nw_iload_n l_X12_sailsTo_80 81 rfl rfl ?_
    refine nw_aload_n l_X12_sailsTo_81 82 rfl rfl ?_
    refine nw_getA l_X12_sailsTo_82 85 rfl k_303 r_303_0 ?_
    refine nw_iconst (len := 0) l_X12_sailsTo_85 86 rfl c_0 ?_
    refine nw_iald l_X12_sailsTo_86 87 rfl k_304 ⟨by decide, by decide⟩ (v := J 304 0) rfl ?_
    refine nw_call0 1 303 l_X12_sailsTo_87 rfl rfl g_X12_isOpen (Nat.lt_of_lt_of_le (by decide) hD) rfl (Or.inl ⟨_, rfl, k_303⟩) (ls' := [some (.inr (.inl (some 303))), some (.inl x1), some (.inl x3), some (.inl (J 304 0))]) rfl (st' := []) rfl 90 rfl ?_
    exact h
  · replace h := h.2 q1
    refine nw_aload_n l_X12_sailsTo_71 72 rfl rfl ?_
    refine nw_iconst (len := 0) l_X12_sailsTo_72 73 rfl c_2 ?_
    refine nw_iconst (len := 0) l_X12_sailsTo_73 74 rfl c_3 ?_
    refine nw_call0 1 303 l_X12_sailsTo_74 rfl rfl g_X12_refuses (Nat.lt_of_lt_of_le (by decide) hD) rfl (Or.inl ⟨_, rfl, k_303⟩) (ls' := [some (.inr (.inl (some 303))), some (.inl 2), some (.inl 3)]) rfl (st' := []) rfl 77 rfl ?_
    refine nw_aload_n l_X12_refuses_0 1 rfl rfl ?_
    refine nw_iload_n l_X12_refuses_1 2 rfl rfl ?_
    refine nw_putI l_X12_refuses_2 5 rfl k_303 ?_
    refine nw_aload_n l_X12_refuses_5 6 rfl rfl ?_
    refine nw_iload_n l_X12_refuses_6 7 rfl rfl ?_
    refine nw_call0 0 303 l_X12_refuses_7 rfl rfl g_X12_fails (by decide) rfl (Or.inl ⟨_, rfl, k_303⟩) (ls' := [some (.inr (.inl (some 303))), some (.inl 3)]) rfl (st' := []) rfl 10 rfl ?_
    refine nw_aload_n l_X12_fails_0 1 rfl rfl ?_
    refine nw_iload_n l_X12_fails_1 2 rfl rfl ?_
    refine nw_putI l_X12_fails_2 5 rfl k_303 ?_
    refine nw_iconst (len := 0) l_X12_fails_5 6 rfl c_0 ?_
    refine nw_ireturn l_X12_fails_6 rfl ?_
    refine nw_ireturn l_X12_refuses_10 rfl ?_
    refine nw_ireturn l_X12_sailsTo_77 rfl ?_
    exact h
theorem b_X12_sailsTo_90 {x1 : Int} {x2 : Int} {x3 : Int} {y0 : Int} (hD : 3 ≤ D) (h : ((¬ y0 = 0 → ((-2147483648 ≤ 59 + x1 ∧ 59 + x1 < 2147483648) ∧ ((-2147483648 ≤ 56 + x1 ∧ 56 + x1 < 2147483648) ∧ ((0 ≤ 56 + x1 ∧ 56 + x1 < 161) ∧ ((0 ≤ 59 + x1 ∧ 59 + x1 < 161) ∧ ((-2147483648 ≤ 62 + x1 ∧ 62 + x1 < 2147483648) ∧ ((-2147483648 ≤ 36 + x3 ∧ 36 + x3 < 2147483648) ∧ ((0 ≤ 36 + x3 ∧ 36 + x3 < 161) ∧ ((-2147483648 ≤ ((nw_u (nw_u J 304 (59 + x1) (J 304 (56 + x1))) 304 (56 + x1) x2) 304 0) + ((nw_u (nw_u J 304 (59 + x1) (J 304 (56 + x1))) 304 (56 + x1) x2) 304 (36 + x3)) ∧ ((nw_u (nw_u J 304 (59 + x1) (J 304 (56 + x1))) 304 (56 + x1) x2) 304 0) + ((nw_u (nw_u J 304 (59 + x1) (J 304 (56 + x1))) 304 (56 + x1) x2) 304 (36 + x3)) < 2147483648) ∧ ((0 ≤ 62 + x1 ∧ 62 + x1 < 161) ∧ Qr (some (.inl (((nw_u (nw_u J 304 (59 + x1) (J 304 (56 + x1))) 304 (56 + x1) x2) 304 0) + ((nw_u (nw_u J 304 (59 + x1) (J 304 (56 + x1))) 304 (56 + x1) x2) 304 (36 + x3))))) (nw_u (nw_u (nw_u (nw_u J 304 (59 + x1) (J 304 (56 + x1))) 304 (56 + x1) x2) 304 (62 + x1) (((nw_u (nw_u J 304 (59 + x1) (J 304 (56 + x1))) 304 (56 + x1) x2) 304 0) + ((nw_u (nw_u J 304 (59 + x1) (J 304 (56 + x1))) 304 (56 + x1) x2) 304 (36 + x3)))) 303 13 0, L, W))))))))))) ∧ (y0 = 0 → Qr (some (.inl 0)) (nw_u (nw_u J 303 10 3) 303 13 3, L, W)))) :
    NW sc d_X12_sailsTo D (90, [some (.inr (.inl (some 303))), some (.inl x1), some (.inl x2), some (.inl x3)], [.inl y0], (J, L, W), c, sl) Qr Qx := by
  refine nw_if_ne l_X12_sailsTo_90 93 rfl (fun q1 => ?_) (fun q1 => ?_)
  · replace h := h.1 q1
    refine nw_aload_n l_X12_sailsTo_100 101 rfl rfl ?_
    refine nw_getA l_X12_sailsTo_101 104 rfl k_303 r_303_0 ?_
    refine nw_bipush (len := 0) l_X12_sailsTo_104 106 rfl c_59 ?_
    refine nw_iload_n l_X12_sailsTo_106 107 rfl rfl ?_
    have o2 := h.1
    replace h := h.2
    refine nw_iadd l_X12_sailsTo_107 108 rfl o2 ?_
    refine nw_aload_n l_X12_sailsTo_108 109 rfl rfl ?_
    refine nw_getA l_X12_sailsTo_109 112 rfl k_303 r_303_0 ?_
    refine nw_bipush (len := 0) l_X12_sailsTo_112 114 rfl c_56 ?_
    refine nw_iload_n l_X12_sailsTo_114 115 rfl rfl ?_
    have o3 := h.1
    replace h := h.2
    refine nw_iadd l_X12_sailsTo_115 116 rfl o3 ?_
    have o4 := h.1
    replace h := h.2
    refine nw_iald l_X12_sailsTo_116 117 rfl k_304 o4 (v := J 304 (56 + x1)) rfl ?_
    have o5 := h.1
    replace h := h.2
    refine nw_iast l_X12_sailsTo_117 118 rfl k_304 o5 ?_
    refine nw_aload_n l_X12_sailsTo_118 119 rfl rfl ?_
    refine nw_getA l_X12_sailsTo_119 122 rfl k_303 r_303_0 ?_
    refine nw_bipush (len := 0) l_X12_sailsTo_122 124 rfl c_56 ?_
    refine nw_iload_n l_X12_sailsTo_124 125 rfl rfl ?_
    refine nw_iadd l_X12_sailsTo_125 126 rfl o3 ?_
    refine nw_iload_n l_X12_sailsTo_126 127 rfl rfl ?_
    refine nw_iast l_X12_sailsTo_127 128 rfl k_304 o4 ?_
    refine nw_aload_n l_X12_sailsTo_128 129 rfl rfl ?_
    refine nw_getA l_X12_sailsTo_129 132 rfl k_303 r_303_0 ?_
    refine nw_bipush (len := 0) l_X12_sailsTo_132 134 rfl c_62 ?_
    refine nw_iload_n l_X12_sailsTo_134 135 rfl rfl ?_
    have o6 := h.1
    replace h := h.2
    refine nw_iadd l_X12_sailsTo_135 136 rfl o6 ?_
    refine nw_aload_n l_X12_sailsTo_136 137 rfl rfl ?_
    refine nw_getA l_X12_sailsTo_137 140 rfl k_303 r_303_0 ?_
    refine nw_iconst (len := 0) l_X12_sailsTo_140 141 rfl c_0 ?_
    refine nw_iald l_X12_sailsTo_141 142 rfl k_304 ⟨by decide, by decide⟩ (v := (nw_u (nw_u J 304 (59 + x1) (J 304 (56 + x1))) 304 (56 + x1) x2) 304 0) rfl ?_
    refine nw_aload_n l_X12_sailsTo_142 143 rfl rfl ?_
    refine nw_getA l_X12_sailsTo_143 146 rfl k_303 r_303_0 ?_
    refine nw_bipush (len := 0) l_X12_sailsTo_146 148 rfl c_36 ?_
    refine nw_iload_n l_X12_sailsTo_148 149 rfl rfl ?_
    have o7 := h.1
    replace h := h.2
    refine nw_iadd l_X12_sailsTo_149 150 rfl o7 ?_
    have o8 := h.1
    replace h := h.2
    refine nw_iald l_X12_sailsTo_150 151 rfl k_304 o8 (v := (nw_u (nw_u J 304 (59 + x1) (J 304 (56 + x1))) 304 (56 + x1) x2) 304 (36 + x3)) rfl ?_
    have o9 := h.1
    replace h := h.2
    refine nw_iadd l_X12_sailsTo_151 152 rfl o9 ?_
    have o10 := h.1
    replace h := h.2
    refine nw_iast l_X12_sailsTo_152 153 rfl k_304 o10 ?_
    refine nw_aload_n l_X12_sailsTo_153 154 rfl rfl ?_
    refine nw_aload_n l_X12_sailsTo_154 155 rfl rfl ?_
    refine nw_getA l_X12_sailsTo_155 158 rfl k_303 r_303_0 ?_
    refine nw_bipush (len := 0) l_X12_sailsTo_158 160 rfl c_62 ?_
    refine nw_iload_n l_X12_sailsTo_160 161 rfl rfl ?_
    refine nw_iadd l_X12_sailsTo_161 162 rfl o6 ?_
    refine nw_iald l_X12_sailsTo_162 163 rfl k_304 o10 (v := ((nw_u (nw_u J 304 (59 + x1) (J 304 (56 + x1))) 304 (56 + x1) x2) 304 0) + ((nw_u (nw_u J 304 (59 + x1) (J 304 (56 + x1))) 304 (56 + x1) x2) 304 (36 + x3))) (show nw_u (nw_u (nw_u J 304 (59 + x1) (J 304 (56 + x1))) 304 (56 + x1) x2) 304 (62 + x1) (((nw_u (nw_u J 304 (59 + x1) (J 304 (56 + x1))) 304 (56 + x1) x2) 304 0) + ((nw_u (nw_u J 304 (59 + x1) (J 304 (56 + x1))) 304 (56 + x1) x2) 304 (36 + x3))) 304 (62 + x1) = ((nw_u (nw_u J 304 (59 + x1) (J 304 (56 + x1))) 304 (56 + x1) x2) 304 0) + ((nw_u (nw_u J 304 (59 + x1) (J 304 (56 + x1))) 304 (56 + x1) x2) 304 (36 + x3)) from nw_uS) ?_
    refine nw_call0 0 303 l_X12_sailsTo_163 rfl rfl g_X12_done (Nat.lt_of_lt_of_le (by decide) hD) rfl (Or.inl ⟨_, rfl, k_303⟩) (ls' := [some (.inr (.inl (some 303))), some (.inl (((nw_u (nw_u J 304 (59 + x1) (J 304 (56 + x1))) 304 (56 + x1) x2) 304 0) + ((nw_u (nw_u J 304 (59 + x1) (J 304 (56 + x1))) 304 (56 + x1) x2) 304 (36 + x3))))]) rfl (st' := []) rfl 166 rfl ?_
    refine nw_aload_n l_X12_done_0 1 rfl rfl ?_
    refine nw_iconst (len := 0) l_X12_done_1 2 rfl c_0 ?_
    refine nw_putI l_X12_done_2 5 rfl k_303 ?_
    refine nw_iload_n l_X12_done_5 6 rfl rfl ?_
    refine nw_ireturn l_X12_done_6 rfl ?_
    refine nw_ireturn l_X12_sailsTo_166 rfl ?_
    exact h
  · replace h := h.2 q1
    refine nw_aload_n l_X12_sailsTo_93 94 rfl rfl ?_
    refine nw_iconst (len := 0) l_X12_sailsTo_94 95 rfl c_3 ?_
    refine nw_iconst (len := 0) l_X12_sailsTo_95 96 rfl c_3 ?_
    refine nw_call0 1 303 l_X12_sailsTo_96 rfl rfl g_X12_refuses (Nat.lt_of_lt_of_le (by decide) hD) rfl (Or.inl ⟨_, rfl, k_303⟩) (ls' := [some (.inr (.inl (some 303))), some (.inl 3), some (.inl 3)]) rfl (st' := []) rfl 99 rfl ?_
    refine nw_aload_n l_X12_refuses_0 1 rfl rfl ?_
    refine nw_iload_n l_X12_refuses_1 2 rfl rfl ?_
    refine nw_putI l_X12_refuses_2 5 rfl k_303 ?_
    refine nw_aload_n l_X12_refuses_5 6 rfl rfl ?_
    refine nw_iload_n l_X12_refuses_6 7 rfl rfl ?_
    refine nw_call0 0 303 l_X12_refuses_7 rfl rfl g_X12_fails (by decide) rfl (Or.inl ⟨_, rfl, k_303⟩) (ls' := [some (.inr (.inl (some 303))), some (.inl 3)]) rfl (st' := []) rfl 10 rfl ?_
    refine nw_aload_n l_X12_fails_0 1 rfl rfl ?_
    refine nw_iload_n l_X12_fails_1 2 rfl rfl ?_
    refine nw_putI l_X12_fails_2 5 rfl k_303 ?_
    refine nw_iconst (len := 0) l_X12_fails_5 6 rfl c_0 ?_
    refine nw_ireturn l_X12_fails_6 rfl ?_
    refine nw_ireturn l_X12_refuses_10 rfl ?_
    refine nw_ireturn l_X12_sailsTo_99 rfl ?_
    exact h
theorem b_X12_save_0  (hD : 1 ≤ D) (h : NW sc d_X12_copy 0 (0, [some (.inr (.inl (some 304))), some (.inl 0), some (.inr (.inl (some 307))), some (.inl 0), none], [], (J, L, W), 0, 0) (fun v M9 => NW sc d_X12_save D (13, [some (.inr (.inl (some 303)))], nw_push v [], M9, c, sl) Qr Qx) Qx) :
    NW sc d_X12_save D (0, [some (.inr (.inl (some 303)))], [], (J, L, W), c, sl) Qr Qx := by
  refine nw_aload_n l_X12_save_0 1 rfl rfl ?_
  refine nw_getA l_X12_save_1 4 rfl k_303 r_303_0 ?_
  refine nw_iconst (len := 0) l_X12_save_4 5 rfl c_0 ?_
  refine nw_aload_n l_X12_save_5 6 rfl rfl ?_
  refine nw_getA l_X12_save_6 9 rfl k_303 r_303_4 ?_
  refine nw_iconst (len := 0) l_X12_save_9 10 rfl c_0 ?_
  refine nw_call0 0 0 l_X12_save_10 rfl rfl g_X12_copy (Nat.lt_of_lt_of_le (by decide) hD) rfl True.intro (ls' := [some (.inr (.inl (some 304))), some (.inl 0), some (.inr (.inl (some 307))), some (.inl 0), none]) rfl (st' := []) rfl 13 rfl ?_
  exact h
theorem b_X12_save_13  (hD : 1 ≤ D) (h : Qr (some (.inl (J 304 4))) (nw_u (nw_u J 303 5 1) 303 13 0, L, W)) :
    NW sc d_X12_save D (13, [some (.inr (.inl (some 303)))], [], (J, L, W), c, sl) Qr Qx := by
  refine nw_aload_n l_X12_save_13 14 rfl rfl ?_
  refine nw_iconst (len := 0) l_X12_save_14 15 rfl c_1 ?_
  refine nw_putZ l_X12_save_15 18 rfl k_303 (by decide) ?_
  refine nw_aload_n l_X12_save_18 19 rfl rfl ?_
  refine nw_aload_n l_X12_save_19 20 rfl rfl ?_
  refine nw_getA l_X12_save_20 23 rfl k_303 r_303_0 ?_
  refine nw_iconst (len := 0) l_X12_save_23 24 rfl c_4 ?_
  refine nw_iald l_X12_save_24 25 rfl k_304 ⟨by decide, by decide⟩ (v := J 304 4) (show nw_u J 303 5 1 304 4 = J 304 4 from (nw_uN (a := 303) (b := 304) (by decide))) ?_
  refine nw_call0 0 303 l_X12_save_25 rfl rfl g_X12_done (Nat.lt_of_lt_of_le (by decide) hD) rfl (Or.inl ⟨_, rfl, k_303⟩) (ls' := [some (.inr (.inl (some 303))), some (.inl (J 304 4))]) rfl (st' := []) rfl 28 rfl ?_
  refine nw_aload_n l_X12_done_0 1 rfl rfl ?_
  refine nw_iconst (len := 0) l_X12_done_1 2 rfl c_0 ?_
  refine nw_putI l_X12_done_2 5 rfl k_303 ?_
  refine nw_iload_n l_X12_done_5 6 rfl rfl ?_
  refine nw_ireturn l_X12_done_6 rfl ?_
  refine nw_ireturn l_X12_save_28 rfl ?_
  exact h
theorem b_X12_shoreOf_0 {x1 : Int} (hD : 1 ≤ D) (h : NW sc d_X12_placeOf 0 (0, [some (.inr (.inl (some 303))), some (.inl x1), none], [], (J, L, W), 0, 0) (fun v M9 => NW sc d_X12_shoreOf D (5, [some (.inr (.inl (some 303))), none, none], nw_push v [], M9, c, sl) Qr Qx) Qx) :
    NW sc d_X12_shoreOf D (0, [some (.inr (.inl (some 303))), some (.inl x1), none], [], (J, L, W), c, sl) Qr Qx := by
  refine nw_aload_n l_X12_shoreOf_0 1 rfl rfl ?_
  refine nw_iload_n l_X12_shoreOf_1 2 rfl rfl ?_
  refine nw_drop (ls' := [some (.inr (.inl (some 303))), none, none]) ⟨rfl, ⟨True.intro, ⟨True.intro, True.intro⟩⟩⟩ ?_
  refine nw_call0 0 303 l_X12_shoreOf_2 rfl rfl g_X12_placeOf (Nat.lt_of_lt_of_le (by decide) hD) rfl (Or.inl ⟨_, rfl, k_303⟩) (ls' := [some (.inr (.inl (some 303))), some (.inl x1), none]) rfl (st' := []) rfl 5 rfl ?_
  exact h
theorem b_X12_shoreOf_5 {y0 : Int} (hD : 1 ≤ D) (h : ((¬ y0 = (-1) → ((-2147483648 ≤ 121 + y0 ∧ 121 + y0 < 2147483648) ∧ ((0 ≤ 121 + y0 ∧ 121 + y0 < 161) ∧ ((J 304 (121 + y0) < 10 → Qr (some (.inl (J 304 (121 + y0)))) (nw_u J 303 13 0, L, W)) ∧ (10 ≤ J 304 (121 + y0) → Qr (some (.inl 0)) (nw_u J 303 13 2, L, W)))))) ∧ (y0 = (-1) → Qr (some (.inl 0)) (nw_u J 303 13 1, L, W)))) :
    NW sc d_X12_shoreOf D (5, [some (.inr (.inl (some 303))), none, none], [.inl y0], (J, L, W), c, sl) Qr Qx := by
  refine nw_istore_n l_X12_shoreOf_5 6 rfl rfl (ls' := [some (.inr (.inl (some 303))), none, some (.inl y0)]) rfl ?_
  refine nw_iload_n l_X12_shoreOf_6 7 rfl rfl ?_
  refine nw_iconst (len := 0) l_X12_shoreOf_7 8 rfl c_n1 ?_
  refine nw_ic_ne l_X12_shoreOf_8 11 rfl (fun q1 => ?_) (fun q1 => ?_)
  · replace h := h.1 q1
    refine nw_aload_n l_X12_shoreOf_17 18 rfl rfl ?_
    refine nw_getA l_X12_shoreOf_18 21 rfl k_303 r_303_0 ?_
    refine nw_bipush (len := 0) l_X12_shoreOf_21 23 rfl c_121 ?_
    refine nw_iload_n l_X12_shoreOf_23 24 rfl rfl ?_
    have o2 := h.1
    replace h := h.2
    refine nw_iadd l_X12_shoreOf_24 25 rfl o2 ?_
    have o3 := h.1
    replace h := h.2
    refine nw_iald l_X12_shoreOf_25 26 rfl k_304 o3 (v := J 304 (121 + y0)) rfl ?_
    refine nw_bipush (len := 0) l_X12_shoreOf_26 28 rfl c_10 ?_
    refine nw_ic_lt l_X12_shoreOf_28 31 rfl (fun q4 => ?_) (fun q4 => ?_)
    · replace h := h.1 q4
      refine nw_aload_n l_X12_shoreOf_39 40 rfl rfl ?_
      refine nw_aload_n l_X12_shoreOf_40 41 rfl rfl ?_
      refine nw_getA l_X12_shoreOf_41 44 rfl k_303 r_303_0 ?_
      refine nw_bipush (len := 0) l_X12_shoreOf_44 46 rfl c_121 ?_
      refine nw_iload_n l_X12_shoreOf_46 47 rfl rfl ?_
      refine nw_iadd l_X12_shoreOf_47 48 rfl o2 ?_
      refine nw_iald l_X12_shoreOf_48 49 rfl k_304 o3 (v := J 304 (121 + y0)) rfl ?_
      refine nw_call0 0 303 l_X12_shoreOf_49 rfl rfl g_X12_done (Nat.lt_of_lt_of_le (by decide) hD) rfl (Or.inl ⟨_, rfl, k_303⟩) (ls' := [some (.inr (.inl (some 303))), some (.inl (J 304 (121 + y0)))]) rfl (st' := []) rfl 52 rfl ?_
      refine nw_aload_n l_X12_done_0 1 rfl rfl ?_
      refine nw_iconst (len := 0) l_X12_done_1 2 rfl c_0 ?_
      refine nw_putI l_X12_done_2 5 rfl k_303 ?_
      refine nw_iload_n l_X12_done_5 6 rfl rfl ?_
      refine nw_ireturn l_X12_done_6 rfl ?_
      refine nw_ireturn l_X12_shoreOf_52 rfl ?_
      exact h
    · replace h := h.2 q4
      refine nw_aload_n l_X12_shoreOf_31 32 rfl rfl ?_
      refine nw_iconst (len := 0) l_X12_shoreOf_32 33 rfl c_2 ?_
      refine nw_call0 0 303 l_X12_shoreOf_33 rfl rfl g_X12_fails (Nat.lt_of_lt_of_le (by decide) hD) rfl (Or.inl ⟨_, rfl, k_303⟩) (ls' := [some (.inr (.inl (some 303))), some (.inl 2)]) rfl (st' := []) rfl 36 rfl ?_
      refine nw_aload_n l_X12_fails_0 1 rfl rfl ?_
      refine nw_iload_n l_X12_fails_1 2 rfl rfl ?_
      refine nw_putI l_X12_fails_2 5 rfl k_303 ?_
      refine nw_iconst (len := 0) l_X12_fails_5 6 rfl c_0 ?_
      refine nw_ireturn l_X12_fails_6 rfl ?_
      refine nw_goto l_X12_shoreOf_36 ?_
      refine nw_ireturn l_X12_shoreOf_52 rfl ?_
      exact h
  · replace h := h.2 q1
    refine nw_aload_n l_X12_shoreOf_11 12 rfl rfl ?_
    refine nw_iconst (len := 0) l_X12_shoreOf_12 13 rfl c_1 ?_
    refine nw_call0 0 303 l_X12_shoreOf_13 rfl rfl g_X12_fails (Nat.lt_of_lt_of_le (by decide) hD) rfl (Or.inl ⟨_, rfl, k_303⟩) (ls' := [some (.inr (.inl (some 303))), some (.inl 1)]) rfl (st' := []) rfl 16 rfl ?_
    refine nw_aload_n l_X12_fails_0 1 rfl rfl ?_
    refine nw_iload_n l_X12_fails_1 2 rfl rfl ?_
    refine nw_putI l_X12_fails_2 5 rfl k_303 ?_
    refine nw_iconst (len := 0) l_X12_fails_5 6 rfl c_0 ?_
    refine nw_ireturn l_X12_fails_6 rfl ?_
    refine nw_ireturn l_X12_shoreOf_16 rfl ?_
    exact h
theorem b_X12_strandingCount_0  (hD : 1 ≤ D) (h : Qr (some (.inl (J 304 9))) (nw_u J 303 13 0, L, W)) :
    NW sc d_X12_strandingCount D (0, [some (.inr (.inl (some 303)))], [], (J, L, W), c, sl) Qr Qx := by
  refine nw_aload_n l_X12_strandingCount_0 1 rfl rfl ?_
  refine nw_aload_n l_X12_strandingCount_1 2 rfl rfl ?_
  refine nw_getA l_X12_strandingCount_2 5 rfl k_303 r_303_0 ?_
  refine nw_bipush (len := 0) l_X12_strandingCount_5 7 rfl c_9 ?_
  refine nw_iald l_X12_strandingCount_7 8 rfl k_304 ⟨by decide, by decide⟩ (v := J 304 9) rfl ?_
  refine nw_call0 0 303 l_X12_strandingCount_8 rfl rfl g_X12_done (Nat.lt_of_lt_of_le (by decide) hD) rfl (Or.inl ⟨_, rfl, k_303⟩) (ls' := [some (.inr (.inl (some 303))), some (.inl (J 304 9))]) rfl (st' := []) rfl 11 rfl ?_
  refine nw_aload_n l_X12_done_0 1 rfl rfl ?_
  refine nw_iconst (len := 0) l_X12_done_1 2 rfl c_0 ?_
  refine nw_putI l_X12_done_2 5 rfl k_303 ?_
  refine nw_iload_n l_X12_done_5 6 rfl rfl ?_
  refine nw_ireturn l_X12_done_6 rfl ?_
  refine nw_ireturn l_X12_strandingCount_11 rfl ?_
  exact h
theorem b_X12_targetOf_0 {x1 : Int} (hD : 2 ≤ D) (h : ((-2147483648 ≤ (J 304 3) - 1 ∧ (J 304 3) - 1 < 2147483648) ∧ ((x1 < 0 → Qr (some (.inl 0)) (nw_u J 303 13 1, L, W)) ∧ (0 ≤ x1 → (((J 304 3) - 1 < x1 → Qr (some (.inl 0)) (nw_u J 303 13 1, L, W)) ∧ (x1 ≤ (J 304 3) - 1 → ((-2147483648 ≤ 62 + x1 ∧ 62 + x1 < 2147483648) ∧ ((0 ≤ 62 + x1 ∧ 62 + x1 < 161) ∧ ((J 304 (62 + x1) ≤ 0 → Qr (some (.inl 0)) (nw_u J 303 13 2, L, W)) ∧ (0 < J 304 (62 + x1) → ((-2147483648 ≤ 56 + x1 ∧ 56 + x1 < 2147483648) ∧ ((0 ≤ 56 + x1 ∧ 56 + x1 < 161) ∧ Qr (some (.inl (J 304 (56 + x1)))) (nw_u J 303 13 0, L, W))))))))))))) :
    NW sc d_X12_targetOf D (0, [some (.inr (.inl (some 303))), some (.inl x1)], [], (J, L, W), c, sl) Qr Qx := by
  refine nw_aload_n l_X12_targetOf_0 1 rfl rfl ?_
  refine nw_iload_n l_X12_targetOf_1 2 rfl rfl ?_
  refine nw_call0 1 303 l_X12_targetOf_2 rfl rfl g_X12_isFerry (Nat.lt_of_lt_of_le (by decide) hD) rfl (Or.inl ⟨_, rfl, k_303⟩) (ls' := [some (.inr (.inl (some 303))), some (.inl x1)]) rfl (st' := []) rfl 5 rfl ?_
  refine nw_iload_n l_X12_isFerry_0 1 rfl rfl ?_
  refine nw_iconst (len := 0) l_X12_isFerry_1 2 rfl c_0 ?_
  refine nw_aload_n l_X12_isFerry_2 3 rfl rfl ?_
  refine nw_getA l_X12_isFerry_3 6 rfl k_303 r_303_0 ?_
  refine nw_iconst (len := 0) l_X12_isFerry_6 7 rfl c_3 ?_
  refine nw_iald l_X12_isFerry_7 8 rfl k_304 ⟨by decide, by decide⟩ (v := J 304 3) rfl ?_
  refine nw_iconst (len := 0) l_X12_isFerry_8 9 rfl c_1 ?_
  have o1 := h.1
  replace h := h.2
  refine nw_isub l_X12_isFerry_9 10 rfl o1 ?_
  refine nw_call0 0 0 l_X12_isFerry_10 rfl rfl g_X12_in (by decide) rfl True.intro (ls' := [some (.inl x1), some (.inl 0), some (.inl ((J 304 3) - 1))]) rfl (st' := []) rfl 13 rfl ?_
  refine nw_iload_n l_X12_in_0 1 rfl rfl ?_
  refine nw_iload_n l_X12_in_1 2 rfl rfl ?_
  refine nw_ic_lt l_X12_in_2 5 rfl (fun q2 => ?_) (fun q2 => ?_)
  · replace h := h.1 q2
    refine nw_iconst (len := 0) l_X12_in_14 15 rfl c_0 ?_
    refine nw_ireturnZ l_X12_in_15 rfl (Or.inl rfl) ?_
    refine nw_ireturnZ l_X12_isFerry_13 rfl (Or.inl rfl) ?_
    refine nw_if_ne l_X12_targetOf_5 8 rfl (fun q => absurd q (by decide)) (fun _ => ?_)
    refine nw_aload_n l_X12_targetOf_8 9 rfl rfl ?_
    refine nw_iconst (len := 0) l_X12_targetOf_9 10 rfl c_1 ?_
    refine nw_call0 0 303 l_X12_targetOf_10 rfl rfl g_X12_fails (Nat.lt_of_lt_of_le (by decide) hD) rfl (Or.inl ⟨_, rfl, k_303⟩) (ls' := [some (.inr (.inl (some 303))), some (.inl 1)]) rfl (st' := []) rfl 13 rfl ?_
    refine nw_aload_n l_X12_fails_0 1 rfl rfl ?_
    refine nw_iload_n l_X12_fails_1 2 rfl rfl ?_
    refine nw_putI l_X12_fails_2 5 rfl k_303 ?_
    refine nw_iconst (len := 0) l_X12_fails_5 6 rfl c_0 ?_
    refine nw_ireturn l_X12_fails_6 rfl ?_
    refine nw_ireturn l_X12_targetOf_13 rfl ?_
    exact h
  · replace h := h.2 q2
    refine nw_iload_n l_X12_in_5 6 rfl rfl ?_
    refine nw_iload_n l_X12_in_6 7 rfl rfl ?_
    refine nw_ic_gt l_X12_in_7 10 rfl (fun q3 => ?_) (fun q3 => ?_)
    · replace h := h.1 q3
      refine nw_iconst (len := 0) l_X12_in_14 15 rfl c_0 ?_
      refine nw_ireturnZ l_X12_in_15 rfl (Or.inl rfl) ?_
      refine nw_ireturnZ l_X12_isFerry_13 rfl (Or.inl rfl) ?_
      refine nw_if_ne l_X12_targetOf_5 8 rfl (fun q => absurd q (by decide)) (fun _ => ?_)
      refine nw_aload_n l_X12_targetOf_8 9 rfl rfl ?_
      refine nw_iconst (len := 0) l_X12_targetOf_9 10 rfl c_1 ?_
      refine nw_call0 0 303 l_X12_targetOf_10 rfl rfl g_X12_fails (Nat.lt_of_lt_of_le (by decide) hD) rfl (Or.inl ⟨_, rfl, k_303⟩) (ls' := [some (.inr (.inl (some 303))), some (.inl 1)]) rfl (st' := []) rfl 13 rfl ?_
      refine nw_aload_n l_X12_fails_0 1 rfl rfl ?_
      refine nw_iload_n l_X12_fails_1 2 rfl rfl ?_
      refine nw_putI l_X12_fails_2 5 rfl k_303 ?_
      refine nw_iconst (len := 0) l_X12_fails_5 6 rfl c_0 ?_
      refine nw_ireturn l_X12_fails_6 rfl ?_
      refine nw_ireturn l_X12_targetOf_13 rfl ?_
      exact h
    · replace h := h.2 q3
      refine nw_iconst (len := 0) l_X12_in_10 11 rfl c_1 ?_
      refine nw_goto l_X12_in_11 ?_
      refine nw_ireturnZ l_X12_in_15 rfl (Or.inr rfl) ?_
      refine nw_ireturnZ l_X12_isFerry_13 rfl (Or.inr rfl) ?_
      refine nw_if_ne l_X12_targetOf_5 8 rfl (fun _ => ?_) (fun q => absurd q (by decide))
      refine nw_aload_n l_X12_targetOf_14 15 rfl rfl ?_
      refine nw_iload_n l_X12_targetOf_15 16 rfl rfl ?_
      refine nw_call0 0 303 l_X12_targetOf_16 rfl rfl g_X12_sails (Nat.lt_of_lt_of_le (by decide) hD) rfl (Or.inl ⟨_, rfl, k_303⟩) (ls' := [some (.inr (.inl (some 303))), some (.inl x1)]) rfl (st' := []) rfl 19 rfl ?_
      refine nw_aload_n l_X12_sails_0 1 rfl rfl ?_
      refine nw_getA l_X12_sails_1 4 rfl k_303 r_303_0 ?_
      refine nw_bipush (len := 0) l_X12_sails_4 6 rfl c_62 ?_
      refine nw_iload_n l_X12_sails_6 7 rfl rfl ?_
      have o4 := h.1
      replace h := h.2
      refine nw_iadd l_X12_sails_7 8 rfl o4 ?_
      have o5 := h.1
      replace h := h.2
      refine nw_iald l_X12_sails_8 9 rfl k_304 o5 (v := J 304 (62 + x1)) rfl ?_
      refine nw_if_le l_X12_sails_9 12 rfl (fun q6 => ?_) (fun q6 => ?_)
      · replace h := h.1 q6
        refine nw_iconst (len := 0) l_X12_sails_16 17 rfl c_0 ?_
        refine nw_ireturnZ l_X12_sails_17 rfl (Or.inl rfl) ?_
        refine nw_if_eq l_X12_targetOf_19 22 rfl (fun _ => ?_) (fun q => absurd q (by decide))
        refine nw_aload_n l_X12_targetOf_38 39 rfl rfl ?_
        refine nw_iconst (len := 0) l_X12_targetOf_39 40 rfl c_2 ?_
        refine nw_call0 0 303 l_X12_targetOf_40 rfl rfl g_X12_fails (Nat.lt_of_lt_of_le (by decide) hD) rfl (Or.inl ⟨_, rfl, k_303⟩) (ls' := [some (.inr (.inl (some 303))), some (.inl 2)]) rfl (st' := []) rfl 43 rfl ?_
        refine nw_aload_n l_X12_fails_0 1 rfl rfl ?_
        refine nw_iload_n l_X12_fails_1 2 rfl rfl ?_
        refine nw_putI l_X12_fails_2 5 rfl k_303 ?_
        refine nw_iconst (len := 0) l_X12_fails_5 6 rfl c_0 ?_
        refine nw_ireturn l_X12_fails_6 rfl ?_
        refine nw_ireturn l_X12_targetOf_43 rfl ?_
        exact h
      · replace h := h.2 q6
        refine nw_iconst (len := 0) l_X12_sails_12 13 rfl c_1 ?_
        refine nw_goto l_X12_sails_13 ?_
        refine nw_ireturnZ l_X12_sails_17 rfl (Or.inr rfl) ?_
        refine nw_if_eq l_X12_targetOf_19 22 rfl (fun q => absurd q (by decide)) (fun _ => ?_)
        refine nw_aload_n l_X12_targetOf_22 23 rfl rfl ?_
        refine nw_aload_n l_X12_targetOf_23 24 rfl rfl ?_
        refine nw_getA l_X12_targetOf_24 27 rfl k_303 r_303_0 ?_
        refine nw_bipush (len := 0) l_X12_targetOf_27 29 rfl c_56 ?_
        refine nw_iload_n l_X12_targetOf_29 30 rfl rfl ?_
        have o7 := h.1
        replace h := h.2
        refine nw_iadd l_X12_targetOf_30 31 rfl o7 ?_
        have o8 := h.1
        replace h := h.2
        refine nw_iald l_X12_targetOf_31 32 rfl k_304 o8 (v := J 304 (56 + x1)) rfl ?_
        refine nw_call0 0 303 l_X12_targetOf_32 rfl rfl g_X12_done (Nat.lt_of_lt_of_le (by decide) hD) rfl (Or.inl ⟨_, rfl, k_303⟩) (ls' := [some (.inr (.inl (some 303))), some (.inl (J 304 (56 + x1)))]) rfl (st' := []) rfl 35 rfl ?_
        refine nw_aload_n l_X12_done_0 1 rfl rfl ?_
        refine nw_iconst (len := 0) l_X12_done_1 2 rfl c_0 ?_
        refine nw_putI l_X12_done_2 5 rfl k_303 ?_
        refine nw_iload_n l_X12_done_5 6 rfl rfl ?_
        refine nw_ireturn l_X12_done_6 rfl ?_
        refine nw_goto l_X12_targetOf_35 ?_
        refine nw_ireturn l_X12_targetOf_43 rfl ?_
        exact h
theorem b_X12_tide_0 {x1 : Int} (hD : 1 ≤ D) (h : ((x1 < 0 → Qr (some (.inl 0)) (nw_u J 303 13 1, L, W)) ∧ (0 ≤ x1 → ((9999 < x1 → Qr (some (.inl 0)) (nw_u J 303 13 1, L, W)) ∧ (x1 ≤ 9999 → NW sc d_X12_tideAt 0 (0, [some (.inl x1)], [], (J, L, W), 0, 0) (fun v M9 => NW sc d_X12_tide D (16, [none, none], nw_push v [.inr (.inl (some 303))], M9, c, sl) Qr Qx) Qx))))) :
    NW sc d_X12_tide D (0, [some (.inr (.inl (some 303))), some (.inl x1)], [], (J, L, W), c, sl) Qr Qx := by
  refine nw_iload_n l_X12_tide_0 1 rfl rfl ?_
  refine nw_iconst (len := 0) l_X12_tide_1 2 rfl c_0 ?_
  refine nw_sipush (len := 0) l_X12_tide_2 5 rfl c_9999 ?_
  refine nw_call0 0 0 l_X12_tide_5 rfl rfl g_X12_in (Nat.lt_of_lt_of_le (by decide) hD) rfl True.intro (ls' := [some (.inl x1), some (.inl 0), some (.inl 9999)]) rfl (st' := []) rfl 8 rfl ?_
  refine nw_iload_n l_X12_in_0 1 rfl rfl ?_
  refine nw_iload_n l_X12_in_1 2 rfl rfl ?_
  refine nw_ic_lt l_X12_in_2 5 rfl (fun q1 => ?_) (fun q1 => ?_)
  · replace h := h.1 q1
    refine nw_iconst (len := 0) l_X12_in_14 15 rfl c_0 ?_
    refine nw_ireturnZ l_X12_in_15 rfl (Or.inl rfl) ?_
    refine nw_if_eq l_X12_tide_8 11 rfl (fun _ => ?_) (fun q => absurd q (by decide))
    refine nw_aload_n l_X12_tide_22 23 rfl rfl ?_
    refine nw_iconst (len := 0) l_X12_tide_23 24 rfl c_1 ?_
    refine nw_call0 0 303 l_X12_tide_24 rfl rfl g_X12_fails (Nat.lt_of_lt_of_le (by decide) hD) rfl (Or.inl ⟨_, rfl, k_303⟩) (ls' := [some (.inr (.inl (some 303))), some (.inl 1)]) rfl (st' := []) rfl 27 rfl ?_
    refine nw_aload_n l_X12_fails_0 1 rfl rfl ?_
    refine nw_iload_n l_X12_fails_1 2 rfl rfl ?_
    refine nw_putI l_X12_fails_2 5 rfl k_303 ?_
    refine nw_iconst (len := 0) l_X12_fails_5 6 rfl c_0 ?_
    refine nw_ireturn l_X12_fails_6 rfl ?_
    refine nw_ireturn l_X12_tide_27 rfl ?_
    exact h
  · replace h := h.2 q1
    refine nw_iload_n l_X12_in_5 6 rfl rfl ?_
    refine nw_iload_n l_X12_in_6 7 rfl rfl ?_
    refine nw_ic_gt l_X12_in_7 10 rfl (fun q2 => ?_) (fun q2 => ?_)
    · replace h := h.1 q2
      refine nw_iconst (len := 0) l_X12_in_14 15 rfl c_0 ?_
      refine nw_ireturnZ l_X12_in_15 rfl (Or.inl rfl) ?_
      refine nw_if_eq l_X12_tide_8 11 rfl (fun _ => ?_) (fun q => absurd q (by decide))
      refine nw_aload_n l_X12_tide_22 23 rfl rfl ?_
      refine nw_iconst (len := 0) l_X12_tide_23 24 rfl c_1 ?_
      refine nw_call0 0 303 l_X12_tide_24 rfl rfl g_X12_fails (Nat.lt_of_lt_of_le (by decide) hD) rfl (Or.inl ⟨_, rfl, k_303⟩) (ls' := [some (.inr (.inl (some 303))), some (.inl 1)]) rfl (st' := []) rfl 27 rfl ?_
      refine nw_aload_n l_X12_fails_0 1 rfl rfl ?_
      refine nw_iload_n l_X12_fails_1 2 rfl rfl ?_
      refine nw_putI l_X12_fails_2 5 rfl k_303 ?_
      refine nw_iconst (len := 0) l_X12_fails_5 6 rfl c_0 ?_
      refine nw_ireturn l_X12_fails_6 rfl ?_
      refine nw_ireturn l_X12_tide_27 rfl ?_
      exact h
    · replace h := h.2 q2
      refine nw_iconst (len := 0) l_X12_in_10 11 rfl c_1 ?_
      refine nw_goto l_X12_in_11 ?_
      refine nw_ireturnZ l_X12_in_15 rfl (Or.inr rfl) ?_
      refine nw_if_eq l_X12_tide_8 11 rfl (fun q => absurd q (by decide)) (fun _ => ?_)
      refine nw_aload_n l_X12_tide_11 12 rfl rfl ?_
      refine nw_iload_n l_X12_tide_12 13 rfl rfl ?_
      refine nw_drop (ls' := [none, none]) ⟨True.intro, ⟨True.intro, True.intro⟩⟩ ?_
      refine nw_call0 0 0 l_X12_tide_13 rfl rfl g_X12_tideAt (Nat.lt_of_lt_of_le (by decide) hD) rfl True.intro (ls' := [some (.inl x1)]) rfl (st' := [.inr (.inl (some 303))]) rfl 16 rfl ?_
      exact h
theorem b_X12_tide_16 {y0 : Int} (hD : 1 ≤ D) (h : Qr (some (.inl y0)) (nw_u J 303 13 0, L, W)) :
    NW sc d_X12_tide D (16, [none, none], [.inl y0, .inr (.inl (some 303))], (J, L, W), c, sl) Qr Qx := by
  refine nw_call0 0 303 l_X12_tide_16 rfl rfl g_X12_done (Nat.lt_of_lt_of_le (by decide) hD) rfl (Or.inl ⟨_, rfl, k_303⟩) (ls' := [some (.inr (.inl (some 303))), some (.inl y0)]) rfl (st' := []) rfl 19 rfl ?_
  refine nw_aload_n l_X12_done_0 1 rfl rfl ?_
  refine nw_iconst (len := 0) l_X12_done_1 2 rfl c_0 ?_
  refine nw_putI l_X12_done_2 5 rfl k_303 ?_
  refine nw_iload_n l_X12_done_5 6 rfl rfl ?_
  refine nw_ireturn l_X12_done_6 rfl ?_
  refine nw_goto l_X12_tide_19 ?_
  refine nw_ireturn l_X12_tide_27 rfl ?_
  exact h
theorem b_X12_tideAt_0 {x0 : Int} (h : ((0 ≤ x0) ∧ ((6 < x0 % 12 → ((-2147483648 ≤ 12 - (x0 % 12) ∧ 12 - (x0 % 12) < 2147483648) ∧ Qr (some (.inl (12 - (x0 % 12)))) (J, L, W))) ∧ (x0 % 12 ≤ 6 → Qr (some (.inl (x0 % 12))) (J, L, W))))) :
    NW sc d_X12_tideAt D (0, [some (.inl x0)], [], (J, L, W), c, sl) Qr Qx := by
  refine nw_iload_n l_X12_tideAt_0 1 rfl rfl ?_
  refine nw_bipush (len := 0) l_X12_tideAt_1 3 rfl c_12 ?_
  have o1 := h.1
  replace h := h.2
  refine nw_irem l_X12_tideAt_3 4 rfl ⟨o1, by decide⟩ ?_
  refine nw_bipush (len := 0) l_X12_tideAt_4 6 rfl c_6 ?_
  refine nw_ic_gt l_X12_tideAt_6 9 rfl (fun q2 => ?_) (fun q2 => ?_)
  · replace h := h.1 q2
    refine nw_bipush (len := 0) l_X12_tideAt_16 18 rfl c_12 ?_
    refine nw_iload_n l_X12_tideAt_18 19 rfl rfl ?_
    refine nw_bipush (len := 0) l_X12_tideAt_19 21 rfl c_12 ?_
    refine nw_irem l_X12_tideAt_21 22 rfl ⟨o1, by decide⟩ ?_
    have o3 := h.1
    replace h := h.2
    refine nw_isub l_X12_tideAt_22 23 rfl o3 ?_
    refine nw_ireturn l_X12_tideAt_23 rfl ?_
    exact h
  · replace h := h.2 q2
    refine nw_iload_n l_X12_tideAt_9 10 rfl rfl ?_
    refine nw_bipush (len := 0) l_X12_tideAt_10 12 rfl c_12 ?_
    refine nw_irem l_X12_tideAt_12 13 rfl ⟨o1, by decide⟩ ?_
    refine nw_goto l_X12_tideAt_13 ?_
    refine nw_ireturn l_X12_tideAt_23 rfl ?_
    exact h
theorem b_X12_tries_0 {x1 : Int} {x2 : Int} {x3 : Int} {x4 : Int} {x5 : Int} (hD : 2 ≤ D) (h : ((0 ≤ x3 ∧ x3 < 6) ∧ ((x5 < J 311 x3 → ((-2147483648 ≤ 36 + x2 ∧ 36 + x2 < 2147483648) ∧ ((0 ≤ 36 + x2 ∧ 36 + x2 < 161) ∧ ((-2147483648 ≤ x5 + (J 304 (36 + x2)) ∧ x5 + (J 304 (36 + x2)) < 2147483648) ∧ ((0 ≤ x4 ∧ x4 < 6) ∧ Qr none (nw_u J 311 x4 (J 311 x4), L, W)))))) ∧ (J 311 x3 ≤ x5 → NW sc d_X12_isTooLow 1 (0, [some (.inr (.inl (some 303))), some (.inl x1), some (.inl x3), some (.inl x5)], [], (J, L, W), 0, 0) (fun v M9 => NW sc d_X12_tries D (19, [some (.inr (.inl (some 303))), some (.inl x1), some (.inl x2), none, some (.inl x4), some (.inl x5), none, none], nw_push v [], M9, c, sl) Qr Qx) Qx)))) :
    NW sc d_X12_tries D (0, [some (.inr (.inl (some 303))), some (.inl x1), some (.inl x2), some (.inl x3), some (.inl x4), some (.inl x5), none, none], [], (J, L, W), c, sl) Qr Qx := by
  refine nw_aload_n l_X12_tries_0 1 rfl rfl ?_
  refine nw_getA l_X12_tries_1 4 rfl k_303 r_303_15 ?_
  refine nw_iload_n l_X12_tries_4 5 rfl rfl ?_
  have o1 := h.1
  replace h := h.2
  refine nw_iald l_X12_tries_5 6 rfl k_311 o1 (v := J 311 x3) rfl ?_
  refine nw_iload l_X12_tries_6 8 rfl rfl ?_
  refine nw_ic_gt l_X12_tries_8 11 rfl (fun q2 => ?_) (fun q2 => ?_)
  · replace h := h.1 q2
    refine nw_iconst (len := 0) l_X12_tries_37 38 rfl c_0 ?_
    refine nw_istore l_X12_tries_38 40 rfl rfl (ls' := [some (.inr (.inl (some 303))), some (.inl x1), some (.inl x2), some (.inl x3), some (.inl x4), some (.inl x5), some (.inl 0), none]) rfl ?_
    refine nw_iload l_X12_tries_40 42 rfl rfl ?_
    refine nw_aload_n l_X12_tries_42 43 rfl rfl ?_
    refine nw_getA l_X12_tries_43 46 rfl k_303 r_303_0 ?_
    refine nw_bipush (len := 0) l_X12_tries_46 48 rfl c_36 ?_
    refine nw_iload_n l_X12_tries_48 49 rfl rfl ?_
    have o3 := h.1
    replace h := h.2
    refine nw_iadd l_X12_tries_49 50 rfl o3 ?_
    have o4 := h.1
    replace h := h.2
    refine nw_iald l_X12_tries_50 51 rfl k_304 o4 (v := J 304 (36 + x2)) rfl ?_
    have o5 := h.1
    replace h := h.2
    refine nw_iadd l_X12_tries_51 52 rfl o5 ?_
    refine nw_istore l_X12_tries_52 54 rfl rfl (ls' := [some (.inr (.inl (some 303))), some (.inl x1), some (.inl x2), some (.inl x3), some (.inl x4), some (.inl x5), some (.inl 0), some (.inl (x5 + (J 304 (36 + x2))))]) rfl ?_
    refine nw_aload_n l_X12_tries_54 55 rfl rfl ?_
    refine nw_getA l_X12_tries_55 58 rfl k_303 r_303_15 ?_
    refine nw_iload l_X12_tries_58 60 rfl rfl ?_
    refine nw_iload l_X12_tries_60 62 rfl rfl ?_
    refine nw_if_eq l_X12_tries_62 65 rfl (fun _ => ?_) (fun q => absurd q (by decide))
    refine nw_aload_n l_X12_tries_82 83 rfl rfl ?_
    refine nw_getA l_X12_tries_83 86 rfl k_303 r_303_15 ?_
    refine nw_iload l_X12_tries_86 88 rfl rfl ?_
    have o6 := h.1
    replace h := h.2
    refine nw_iald l_X12_tries_88 89 rfl k_311 o6 (v := J 311 x4) rfl ?_
    refine nw_iast l_X12_tries_89 90 rfl k_311 o6 ?_
    refine nw_return l_X12_tries_90 rfl ?_
    exact h
  · replace h := h.2 q2
    refine nw_aload_n l_X12_tries_11 12 rfl rfl ?_
    refine nw_iload_n l_X12_tries_12 13 rfl rfl ?_
    refine nw_iload_n l_X12_tries_13 14 rfl rfl ?_
    refine nw_iload l_X12_tries_14 16 rfl rfl ?_
    refine nw_drop (ls' := [some (.inr (.inl (some 303))), some (.inl x1), some (.inl x2), none, some (.inl x4), some (.inl x5), none, none]) ⟨rfl, ⟨rfl, ⟨rfl, ⟨True.intro, ⟨rfl, ⟨rfl, ⟨True.intro, ⟨True.intro, True.intro⟩⟩⟩⟩⟩⟩⟩⟩ ?_
    refine nw_call0 1 303 l_X12_tries_16 rfl rfl g_X12_isTooLow (Nat.lt_of_lt_of_le (by decide) hD) rfl (Or.inl ⟨_, rfl, k_303⟩) (ls' := [some (.inr (.inl (some 303))), some (.inl x1), some (.inl x3), some (.inl x5)]) rfl (st' := []) rfl 19 rfl ?_
    exact h
theorem b_X12_tries_19 {x1 : Int} {x2 : Int} {x4 : Int} {x5 : Int} {y0 : Int} (hD : 2 ≤ D) (h : ((¬ y0 = 0 → ((-2147483648 ≤ 36 + x2 ∧ 36 + x2 < 2147483648) ∧ ((0 ≤ 36 + x2 ∧ 36 + x2 < 161) ∧ ((-2147483648 ≤ x5 + (J 304 (36 + x2)) ∧ x5 + (J 304 (36 + x2)) < 2147483648) ∧ ((0 ≤ x4 ∧ x4 < 6) ∧ Qr none (nw_u J 311 x4 (J 311 x4), L, W)))))) ∧ (y0 = 0 → NW sc d_X12_isOpen 1 (0, [some (.inr (.inl (some 303))), some (.inl x1), some (.inl x2), some (.inl x5)], [], (J, L, W), 0, 0) (fun v M9 => NW sc d_X12_tries D (30, [some (.inr (.inl (some 303))), none, some (.inl x2), none, some (.inl x4), some (.inl x5), none, none], nw_push v [], M9, c, sl) Qr Qx) Qx))) :
    NW sc d_X12_tries D (19, [some (.inr (.inl (some 303))), some (.inl x1), some (.inl x2), none, some (.inl x4), some (.inl x5), none, none], [.inl y0], (J, L, W), c, sl) Qr Qx := by
  refine nw_if_ne l_X12_tries_19 22 rfl (fun q1 => ?_) (fun q1 => ?_)
  · replace h := h.1 q1
    refine nw_iconst (len := 0) l_X12_tries_37 38 rfl c_0 ?_
    refine nw_istore l_X12_tries_38 40 rfl rfl (ls' := [some (.inr (.inl (some 303))), some (.inl x1), some (.inl x2), none, some (.inl x4), some (.inl x5), some (.inl 0), none]) rfl ?_
    refine nw_iload l_X12_tries_40 42 rfl rfl ?_
    refine nw_aload_n l_X12_tries_42 43 rfl rfl ?_
    refine nw_getA l_X12_tries_43 46 rfl k_303 r_303_0 ?_
    refine nw_bipush (len := 0) l_X12_tries_46 48 rfl c_36 ?_
    refine nw_iload_n l_X12_tries_48 49 rfl rfl ?_
    have o2 := h.1
    replace h := h.2
    refine nw_iadd l_X12_tries_49 50 rfl o2 ?_
    have o3 := h.1
    replace h := h.2
    refine nw_iald l_X12_tries_50 51 rfl k_304 o3 (v := J 304 (36 + x2)) rfl ?_
    have o4 := h.1
    replace h := h.2
    refine nw_iadd l_X12_tries_51 52 rfl o4 ?_
    refine nw_istore l_X12_tries_52 54 rfl rfl (ls' := [some (.inr (.inl (some 303))), some (.inl x1), some (.inl x2), none, some (.inl x4), some (.inl x5), some (.inl 0), some (.inl (x5 + (J 304 (36 + x2))))]) rfl ?_
    refine nw_aload_n l_X12_tries_54 55 rfl rfl ?_
    refine nw_getA l_X12_tries_55 58 rfl k_303 r_303_15 ?_
    refine nw_iload l_X12_tries_58 60 rfl rfl ?_
    refine nw_iload l_X12_tries_60 62 rfl rfl ?_
    refine nw_if_eq l_X12_tries_62 65 rfl (fun _ => ?_) (fun q => absurd q (by decide))
    refine nw_aload_n l_X12_tries_82 83 rfl rfl ?_
    refine nw_getA l_X12_tries_83 86 rfl k_303 r_303_15 ?_
    refine nw_iload l_X12_tries_86 88 rfl rfl ?_
    have o5 := h.1
    replace h := h.2
    refine nw_iald l_X12_tries_88 89 rfl k_311 o5 (v := J 311 x4) rfl ?_
    refine nw_iast l_X12_tries_89 90 rfl k_311 o5 ?_
    refine nw_return l_X12_tries_90 rfl ?_
    exact h
  · replace h := h.2 q1
    refine nw_aload_n l_X12_tries_22 23 rfl rfl ?_
    refine nw_iload_n l_X12_tries_23 24 rfl rfl ?_
    refine nw_iload_n l_X12_tries_24 25 rfl rfl ?_
    refine nw_iload l_X12_tries_25 27 rfl rfl ?_
    refine nw_drop (ls' := [some (.inr (.inl (some 303))), none, some (.inl x2), none, some (.inl x4), some (.inl x5), none, none]) ⟨rfl, ⟨True.intro, ⟨rfl, ⟨True.intro, ⟨rfl, ⟨rfl, ⟨True.intro, ⟨True.intro, True.intro⟩⟩⟩⟩⟩⟩⟩⟩ ?_
    refine nw_call0 1 303 l_X12_tries_27 rfl rfl g_X12_isOpen (Nat.lt_of_lt_of_le (by decide) hD) rfl (Or.inl ⟨_, rfl, k_303⟩) (ls' := [some (.inr (.inl (some 303))), some (.inl x1), some (.inl x2), some (.inl x5)]) rfl (st' := []) rfl 30 rfl ?_
    exact h
theorem b_X12_tries_30 {x2 : Int} {x4 : Int} {x5 : Int} {y0 : Int} (h : ((y0 = 0 → ((-2147483648 ≤ 36 + x2 ∧ 36 + x2 < 2147483648) ∧ ((0 ≤ 36 + x2 ∧ 36 + x2 < 161) ∧ ((-2147483648 ≤ x5 + (J 304 (36 + x2)) ∧ x5 + (J 304 (36 + x2)) < 2147483648) ∧ ((0 ≤ x4 ∧ x4 < 6) ∧ Qr none (nw_u J 311 x4 (J 311 x4), L, W)))))) ∧ (¬ y0 = 0 → ((-2147483648 ≤ 36 + x2 ∧ 36 + x2 < 2147483648) ∧ ((0 ≤ 36 + x2 ∧ 36 + x2 < 161) ∧ ((-2147483648 ≤ x5 + (J 304 (36 + x2)) ∧ x5 + (J 304 (36 + x2)) < 2147483648) ∧ ((0 ≤ x4 ∧ x4 < 6) ∧ ((J 311 x4 ≤ x5 + (J 304 (36 + x2)) → Qr none (nw_u J 311 x4 (J 311 x4), L, W)) ∧ (x5 + (J 304 (36 + x2)) < J 311 x4 → Qr none (nw_u J 311 x4 (x5 + (J 304 (36 + x2))), L, W)))))))))) :
    NW sc d_X12_tries D (30, [some (.inr (.inl (some 303))), none, some (.inl x2), none, some (.inl x4), some (.inl x5), none, none], [.inl y0], (J, L, W), c, sl) Qr Qx := by
  refine nw_if_eq l_X12_tries_30 33 rfl (fun q1 => ?_) (fun q1 => ?_)
  · replace h := h.1 q1
    refine nw_iconst (len := 0) l_X12_tries_37 38 rfl c_0 ?_
    refine nw_istore l_X12_tries_38 40 rfl rfl (ls' := [some (.inr (.inl (some 303))), none, some (.inl x2), none, some (.inl x4), some (.inl x5), some (.inl 0), none]) rfl ?_
    refine nw_iload l_X12_tries_40 42 rfl rfl ?_
    refine nw_aload_n l_X12_tries_42 43 rfl rfl ?_
    refine nw_getA l_X12_tries_43 46 rfl k_303 r_303_0 ?_
    refine nw_bipush (len := 0) l_X12_tries_46 48 rfl c_36 ?_
    refine nw_iload_n l_X12_tries_48 49 rfl rfl ?_
    have o2 := h.1
    replace h := h.2
    refine nw_iadd l_X12_tries_49 50 rfl o2 ?_
    have o3 := h.1
    replace h := h.2
    refine nw_iald l_X12_tries_50 51 rfl k_304 o3 (v := J 304 (36 + x2)) rfl ?_
    have o4 := h.1
    replace h := h.2
    refine nw_iadd l_X12_tries_51 52 rfl o4 ?_
    refine nw_istore l_X12_tries_52 54 rfl rfl (ls' := [some (.inr (.inl (some 303))), none, some (.inl x2), none, some (.inl x4), some (.inl x5), some (.inl 0), some (.inl (x5 + (J 304 (36 + x2))))]) rfl ?_
    refine nw_aload_n l_X12_tries_54 55 rfl rfl ?_
    refine nw_getA l_X12_tries_55 58 rfl k_303 r_303_15 ?_
    refine nw_iload l_X12_tries_58 60 rfl rfl ?_
    refine nw_iload l_X12_tries_60 62 rfl rfl ?_
    refine nw_if_eq l_X12_tries_62 65 rfl (fun _ => ?_) (fun q => absurd q (by decide))
    refine nw_aload_n l_X12_tries_82 83 rfl rfl ?_
    refine nw_getA l_X12_tries_83 86 rfl k_303 r_303_15 ?_
    refine nw_iload l_X12_tries_86 88 rfl rfl ?_
    have o5 := h.1
    replace h := h.2
    refine nw_iald l_X12_tries_88 89 rfl k_311 o5 (v := J 311 x4) rfl ?_
    refine nw_iast l_X12_tries_89 90 rfl k_311 o5 ?_
    refine nw_return l_X12_tries_90 rfl ?_
    exact h
  · replace h := h.2 q1
    refine nw_iconst (len := 0) l_X12_tries_33 34 rfl c_1 ?_
    refine nw_goto l_X12_tries_34 ?_
    refine nw_istore l_X12_tries_38 40 rfl rfl (ls' := [some (.inr (.inl (some 303))), none, some (.inl x2), none, some (.inl x4), some (.inl x5), some (.inl 1), none]) rfl ?_
    refine nw_iload l_X12_tries_40 42 rfl rfl ?_
    refine nw_aload_n l_X12_tries_42 43 rfl rfl ?_
    refine nw_getA l_X12_tries_43 46 rfl k_303 r_303_0 ?_
    refine nw_bipush (len := 0) l_X12_tries_46 48 rfl c_36 ?_
    refine nw_iload_n l_X12_tries_48 49 rfl rfl ?_
    have o6 := h.1
    replace h := h.2
    refine nw_iadd l_X12_tries_49 50 rfl o6 ?_
    have o7 := h.1
    replace h := h.2
    refine nw_iald l_X12_tries_50 51 rfl k_304 o7 (v := J 304 (36 + x2)) rfl ?_
    have o8 := h.1
    replace h := h.2
    refine nw_iadd l_X12_tries_51 52 rfl o8 ?_
    refine nw_istore l_X12_tries_52 54 rfl rfl (ls' := [some (.inr (.inl (some 303))), none, some (.inl x2), none, some (.inl x4), some (.inl x5), some (.inl 1), some (.inl (x5 + (J 304 (36 + x2))))]) rfl ?_
    refine nw_aload_n l_X12_tries_54 55 rfl rfl ?_
    refine nw_getA l_X12_tries_55 58 rfl k_303 r_303_15 ?_
    refine nw_iload l_X12_tries_58 60 rfl rfl ?_
    refine nw_iload l_X12_tries_60 62 rfl rfl ?_
    refine nw_if_eq l_X12_tries_62 65 rfl (fun q => absurd q (by decide)) (fun _ => ?_)
    refine nw_iload l_X12_tries_65 67 rfl rfl ?_
    refine nw_aload_n l_X12_tries_67 68 rfl rfl ?_
    refine nw_getA l_X12_tries_68 71 rfl k_303 r_303_15 ?_
    refine nw_iload l_X12_tries_71 73 rfl rfl ?_
    have o9 := h.1
    replace h := h.2
    refine nw_iald l_X12_tries_73 74 rfl k_311 o9 (v := J 311 x4) rfl ?_
    refine nw_ic_ge l_X12_tries_74 77 rfl (fun q10 => ?_) (fun q10 => ?_)
    · replace h := h.1 q10
      refine nw_aload_n l_X12_tries_82 83 rfl rfl ?_
      refine nw_getA l_X12_tries_83 86 rfl k_303 r_303_15 ?_
      refine nw_iload l_X12_tries_86 88 rfl rfl ?_
      refine nw_iald l_X12_tries_88 89 rfl k_311 o9 (v := J 311 x4) rfl ?_
      refine nw_iast l_X12_tries_89 90 rfl k_311 o9 ?_
      refine nw_return l_X12_tries_90 rfl ?_
      exact h
    · replace h := h.2 q10
      refine nw_iload l_X12_tries_77 79 rfl rfl ?_
      refine nw_goto l_X12_tries_79 ?_
      refine nw_iast l_X12_tries_89 90 rfl k_311 o9 ?_
      refine nw_return l_X12_tries_90 rfl ?_
      exact h
theorem b_X12_undo_0  (hD : 1 ≤ D) (h : ((¬ J 303 3 = 0 → ((-2147483648 ≤ (J 303 3) - 1 ∧ (J 303 3) - 1 < 2147483648) ∧ ((-2147483648 ≤ ((J 303 3) - 1) * 161 ∧ ((J 303 3) - 1) * 161 < 2147483648) ∧ NW sc d_X12_copy 0 (0, [some (.inr (.inl (some 306))), some (.inl (((J 303 3) - 1) * 161)), some (.inr (.inl (some 304))), some (.inl 0), none], [], (nw_u J 303 3 ((J 303 3) - 1), L, W), 0, 0) (fun v M9 => NW sc d_X12_undo D (43, [some (.inr (.inl (some 303)))], nw_push v [], M9, c, sl) Qr Qx) Qx))) ∧ (J 303 3 = 0 → Qr (some (.inl 0)) (nw_u J 303 13 1, L, W)))) :
    NW sc d_X12_undo D (0, [some (.inr (.inl (some 303)))], [], (J, L, W), c, sl) Qr Qx := by
  refine nw_aload_n l_X12_undo_0 1 rfl rfl ?_
  refine nw_getI l_X12_undo_1 4 rfl k_303 (v := J 303 3) rfl ?_
  refine nw_if_ne l_X12_undo_4 7 rfl (fun q1 => ?_) (fun q1 => ?_)
  · replace h := h.1 q1
    refine nw_aload_n l_X12_undo_13 14 rfl rfl ?_
    refine nw_dupA l_X12_undo_14 15 rfl ?_
    refine nw_getI l_X12_undo_15 18 rfl k_303 (v := J 303 3) rfl ?_
    refine nw_iconst (len := 0) l_X12_undo_18 19 rfl c_1 ?_
    have o2 := h.1
    replace h := h.2
    refine nw_isub l_X12_undo_19 20 rfl o2 ?_
    refine nw_putI l_X12_undo_20 23 rfl k_303 ?_
    refine nw_aload_n l_X12_undo_23 24 rfl rfl ?_
    refine nw_getA l_X12_undo_24 27 rfl k_303 r_303_2 ?_
    refine nw_aload_n l_X12_undo_27 28 rfl rfl ?_
    refine nw_getI l_X12_undo_28 31 rfl k_303 (v := (J 303 3) - 1) (show nw_u J 303 3 ((J 303 3) - 1) 303 3 = (J 303 3) - 1 from nw_uS) ?_
    refine nw_sipush (len := 0) l_X12_undo_31 34 rfl c_161 ?_
    have o3 := h.1
    replace h := h.2
    refine nw_imul l_X12_undo_34 35 rfl o3 ?_
    refine nw_aload_n l_X12_undo_35 36 rfl rfl ?_
    refine nw_getA l_X12_undo_36 39 rfl k_303 r_303_0 ?_
    refine nw_iconst (len := 0) l_X12_undo_39 40 rfl c_0 ?_
    refine nw_call0 0 0 l_X12_undo_40 rfl rfl g_X12_copy (Nat.lt_of_lt_of_le (by decide) hD) rfl True.intro (ls' := [some (.inr (.inl (some 306))), some (.inl (((J 303 3) - 1) * 161)), some (.inr (.inl (some 304))), some (.inl 0), none]) rfl (st' := []) rfl 43 rfl ?_
    exact h
  · replace h := h.2 q1
    refine nw_aload_n l_X12_undo_7 8 rfl rfl ?_
    refine nw_iconst (len := 0) l_X12_undo_8 9 rfl c_1 ?_
    refine nw_call0 0 303 l_X12_undo_9 rfl rfl g_X12_fails (Nat.lt_of_lt_of_le (by decide) hD) rfl (Or.inl ⟨_, rfl, k_303⟩) (ls' := [some (.inr (.inl (some 303))), some (.inl 1)]) rfl (st' := []) rfl 12 rfl ?_
    refine nw_aload_n l_X12_fails_0 1 rfl rfl ?_
    refine nw_iload_n l_X12_fails_1 2 rfl rfl ?_
    refine nw_putI l_X12_fails_2 5 rfl k_303 ?_
    refine nw_iconst (len := 0) l_X12_fails_5 6 rfl c_0 ?_
    refine nw_ireturn l_X12_fails_6 rfl ?_
    refine nw_ireturn l_X12_undo_12 rfl ?_
    exact h
theorem b_X12_undo_43  (hD : 1 ≤ D) (h : Qr (some (.inl (J 303 3))) (nw_u J 303 13 0, L, W)) :
    NW sc d_X12_undo D (43, [some (.inr (.inl (some 303)))], [], (J, L, W), c, sl) Qr Qx := by
  refine nw_aload_n l_X12_undo_43 44 rfl rfl ?_
  refine nw_aload_n l_X12_undo_44 45 rfl rfl ?_
  refine nw_getI l_X12_undo_45 48 rfl k_303 (v := J 303 3) rfl ?_
  refine nw_call0 0 303 l_X12_undo_48 rfl rfl g_X12_done (Nat.lt_of_lt_of_le (by decide) hD) rfl (Or.inl ⟨_, rfl, k_303⟩) (ls' := [some (.inr (.inl (some 303))), some (.inl (J 303 3))]) rfl (st' := []) rfl 51 rfl ?_
  refine nw_aload_n l_X12_done_0 1 rfl rfl ?_
  refine nw_iconst (len := 0) l_X12_done_1 2 rfl c_0 ?_
  refine nw_putI l_X12_done_2 5 rfl k_303 ?_
  refine nw_iload_n l_X12_done_5 6 rfl rfl ?_
  refine nw_ireturn l_X12_done_6 rfl ?_
  refine nw_ireturn l_X12_undo_51 rfl ?_
  exact h
theorem b_X12_wayHours_0 {x1 : Int} {x2 : Int} (hD : 3 ≤ D) (h : ((-2147483648 ≤ (J 304 1) - 1 ∧ (J 304 1) - 1 < 2147483648) ∧ ((x1 < 0 → Qr (some (.inl 0)) (nw_u J 303 13 1, L, W)) ∧ (0 ≤ x1 → (((J 304 1) - 1 < x1 → Qr (some (.inl 0)) (nw_u J 303 13 1, L, W)) ∧ (x1 ≤ (J 304 1) - 1 → ((x2 < 0 → Qr (some (.inl 0)) (nw_u J 303 13 1, L, W)) ∧ (0 ≤ x2 → (((J 304 1) - 1 < x2 → Qr (some (.inl 0)) (nw_u J 303 13 1, L, W)) ∧ (x2 ≤ (J 304 1) - 1 → NW sc d_X12_finds 0 (0, [some (.inr (.inl (some 303))), none, none, none], [], (J, L, W), 0, 0) (fun v M9 => NW sc d_X12_wayHours D (19, [some (.inr (.inl (some 303))), some (.inl x1), some (.inl x2), none], nw_push v [], M9, c, sl) Qr Qx) Qx)))))))))) :
    NW sc d_X12_wayHours D (0, [some (.inr (.inl (some 303))), some (.inl x1), some (.inl x2), none], [], (J, L, W), c, sl) Qr Qx := by
  refine nw_aload_n l_X12_wayHours_0 1 rfl rfl ?_
  refine nw_iload_n l_X12_wayHours_1 2 rfl rfl ?_
  refine nw_iload_n l_X12_wayHours_2 3 rfl rfl ?_
  refine nw_call0 2 303 l_X12_wayHours_3 rfl rfl g_X12_areCraters (Nat.lt_of_lt_of_le (by decide) hD) rfl (Or.inl ⟨_, rfl, k_303⟩) (ls' := [some (.inr (.inl (some 303))), some (.inl x1), some (.inl x2)]) rfl (st' := []) rfl 6 rfl ?_
  refine nw_aload_n l_X12_areCraters_0 1 rfl rfl ?_
  refine nw_iload_n l_X12_areCraters_1 2 rfl rfl ?_
  refine nw_call0 1 303 l_X12_areCraters_2 rfl rfl g_X12_isCrater (by decide) rfl (Or.inl ⟨_, rfl, k_303⟩) (ls' := [some (.inr (.inl (some 303))), some (.inl x1)]) rfl (st' := []) rfl 5 rfl ?_
  refine nw_iload_n l_X12_isCrater_0 1 rfl rfl ?_
  refine nw_iconst (len := 0) l_X12_isCrater_1 2 rfl c_0 ?_
  refine nw_aload_n l_X12_isCrater_2 3 rfl rfl ?_
  refine nw_getA l_X12_isCrater_3 6 rfl k_303 r_303_0 ?_
  refine nw_iconst (len := 0) l_X12_isCrater_6 7 rfl c_1 ?_
  refine nw_iald l_X12_isCrater_7 8 rfl k_304 ⟨by decide, by decide⟩ (v := J 304 1) rfl ?_
  refine nw_iconst (len := 0) l_X12_isCrater_8 9 rfl c_1 ?_
  have o1 := h.1
  replace h := h.2
  refine nw_isub l_X12_isCrater_9 10 rfl o1 ?_
  refine nw_call0 0 0 l_X12_isCrater_10 rfl rfl g_X12_in (by decide) rfl True.intro (ls' := [some (.inl x1), some (.inl 0), some (.inl ((J 304 1) - 1))]) rfl (st' := []) rfl 13 rfl ?_
  refine nw_iload_n l_X12_in_0 1 rfl rfl ?_
  refine nw_iload_n l_X12_in_1 2 rfl rfl ?_
  refine nw_ic_lt l_X12_in_2 5 rfl (fun q2 => ?_) (fun q2 => ?_)
  · replace h := h.1 q2
    refine nw_iconst (len := 0) l_X12_in_14 15 rfl c_0 ?_
    refine nw_ireturnZ l_X12_in_15 rfl (Or.inl rfl) ?_
    refine nw_ireturnZ l_X12_isCrater_13 rfl (Or.inl rfl) ?_
    refine nw_if_eq l_X12_areCraters_5 8 rfl (fun _ => ?_) (fun q => absurd q (by decide))
    refine nw_iconst (len := 0) l_X12_areCraters_20 21 rfl c_0 ?_
    refine nw_ireturnZ l_X12_areCraters_21 rfl (Or.inl rfl) ?_
    refine nw_if_ne l_X12_wayHours_6 9 rfl (fun q => absurd q (by decide)) (fun _ => ?_)
    refine nw_aload_n l_X12_wayHours_9 10 rfl rfl ?_
    refine nw_iconst (len := 0) l_X12_wayHours_10 11 rfl c_1 ?_
    refine nw_call0 0 303 l_X12_wayHours_11 rfl rfl g_X12_fails (Nat.lt_of_lt_of_le (by decide) hD) rfl (Or.inl ⟨_, rfl, k_303⟩) (ls' := [some (.inr (.inl (some 303))), some (.inl 1)]) rfl (st' := []) rfl 14 rfl ?_
    refine nw_aload_n l_X12_fails_0 1 rfl rfl ?_
    refine nw_iload_n l_X12_fails_1 2 rfl rfl ?_
    refine nw_putI l_X12_fails_2 5 rfl k_303 ?_
    refine nw_iconst (len := 0) l_X12_fails_5 6 rfl c_0 ?_
    refine nw_ireturn l_X12_fails_6 rfl ?_
    refine nw_ireturn l_X12_wayHours_14 rfl ?_
    exact h
  · replace h := h.2 q2
    refine nw_iload_n l_X12_in_5 6 rfl rfl ?_
    refine nw_iload_n l_X12_in_6 7 rfl rfl ?_
    refine nw_ic_gt l_X12_in_7 10 rfl (fun q3 => ?_) (fun q3 => ?_)
    · replace h := h.1 q3
      refine nw_iconst (len := 0) l_X12_in_14 15 rfl c_0 ?_
      refine nw_ireturnZ l_X12_in_15 rfl (Or.inl rfl) ?_
      refine nw_ireturnZ l_X12_isCrater_13 rfl (Or.inl rfl) ?_
      refine nw_if_eq l_X12_areCraters_5 8 rfl (fun _ => ?_) (fun q => absurd q (by decide))
      refine nw_iconst (len := 0) l_X12_areCraters_20 21 rfl c_0 ?_
      refine nw_ireturnZ l_X12_areCraters_21 rfl (Or.inl rfl) ?_
      refine nw_if_ne l_X12_wayHours_6 9 rfl (fun q => absurd q (by decide)) (fun _ => ?_)
      refine nw_aload_n l_X12_wayHours_9 10 rfl rfl ?_
      refine nw_iconst (len := 0) l_X12_wayHours_10 11 rfl c_1 ?_
      refine nw_call0 0 303 l_X12_wayHours_11 rfl rfl g_X12_fails (Nat.lt_of_lt_of_le (by decide) hD) rfl (Or.inl ⟨_, rfl, k_303⟩) (ls' := [some (.inr (.inl (some 303))), some (.inl 1)]) rfl (st' := []) rfl 14 rfl ?_
      refine nw_aload_n l_X12_fails_0 1 rfl rfl ?_
      refine nw_iload_n l_X12_fails_1 2 rfl rfl ?_
      refine nw_putI l_X12_fails_2 5 rfl k_303 ?_
      refine nw_iconst (len := 0) l_X12_fails_5 6 rfl c_0 ?_
      refine nw_ireturn l_X12_fails_6 rfl ?_
      refine nw_ireturn l_X12_wayHours_14 rfl ?_
      exact h
    · replace h := h.2 q3
      refine nw_iconst (len := 0) l_X12_in_10 11 rfl c_1 ?_
      refine nw_goto l_X12_in_11 ?_
      refine nw_ireturnZ l_X12_in_15 rfl (Or.inr rfl) ?_
      refine nw_ireturnZ l_X12_isCrater_13 rfl (Or.inr rfl) ?_
      refine nw_if_eq l_X12_areCraters_5 8 rfl (fun q => absurd q (by decide)) (fun _ => ?_)
      refine nw_aload_n l_X12_areCraters_8 9 rfl rfl ?_
      refine nw_iload_n l_X12_areCraters_9 10 rfl rfl ?_
      refine nw_call0 1 303 l_X12_areCraters_10 rfl rfl g_X12_isCrater (by decide) rfl (Or.inl ⟨_, rfl, k_303⟩) (ls' := [some (.inr (.inl (some 303))), some (.inl x2)]) rfl (st' := []) rfl 13 rfl ?_
      refine nw_iload_n l_X12_isCrater_0 1 rfl rfl ?_
      refine nw_iconst (len := 0) l_X12_isCrater_1 2 rfl c_0 ?_
      refine nw_aload_n l_X12_isCrater_2 3 rfl rfl ?_
      refine nw_getA l_X12_isCrater_3 6 rfl k_303 r_303_0 ?_
      refine nw_iconst (len := 0) l_X12_isCrater_6 7 rfl c_1 ?_
      refine nw_iald l_X12_isCrater_7 8 rfl k_304 ⟨by decide, by decide⟩ (v := J 304 1) rfl ?_
      refine nw_iconst (len := 0) l_X12_isCrater_8 9 rfl c_1 ?_
      refine nw_isub l_X12_isCrater_9 10 rfl o1 ?_
      refine nw_call0 0 0 l_X12_isCrater_10 rfl rfl g_X12_in (by decide) rfl True.intro (ls' := [some (.inl x2), some (.inl 0), some (.inl ((J 304 1) - 1))]) rfl (st' := []) rfl 13 rfl ?_
      refine nw_iload_n l_X12_in_0 1 rfl rfl ?_
      refine nw_iload_n l_X12_in_1 2 rfl rfl ?_
      refine nw_ic_lt l_X12_in_2 5 rfl (fun q4 => ?_) (fun q4 => ?_)
      · replace h := h.1 q4
        refine nw_iconst (len := 0) l_X12_in_14 15 rfl c_0 ?_
        refine nw_ireturnZ l_X12_in_15 rfl (Or.inl rfl) ?_
        refine nw_ireturnZ l_X12_isCrater_13 rfl (Or.inl rfl) ?_
        refine nw_if_eq l_X12_areCraters_13 16 rfl (fun _ => ?_) (fun q => absurd q (by decide))
        refine nw_iconst (len := 0) l_X12_areCraters_20 21 rfl c_0 ?_
        refine nw_ireturnZ l_X12_areCraters_21 rfl (Or.inl rfl) ?_
        refine nw_if_ne l_X12_wayHours_6 9 rfl (fun q => absurd q (by decide)) (fun _ => ?_)
        refine nw_aload_n l_X12_wayHours_9 10 rfl rfl ?_
        refine nw_iconst (len := 0) l_X12_wayHours_10 11 rfl c_1 ?_
        refine nw_call0 0 303 l_X12_wayHours_11 rfl rfl g_X12_fails (Nat.lt_of_lt_of_le (by decide) hD) rfl (Or.inl ⟨_, rfl, k_303⟩) (ls' := [some (.inr (.inl (some 303))), some (.inl 1)]) rfl (st' := []) rfl 14 rfl ?_
        refine nw_aload_n l_X12_fails_0 1 rfl rfl ?_
        refine nw_iload_n l_X12_fails_1 2 rfl rfl ?_
        refine nw_putI l_X12_fails_2 5 rfl k_303 ?_
        refine nw_iconst (len := 0) l_X12_fails_5 6 rfl c_0 ?_
        refine nw_ireturn l_X12_fails_6 rfl ?_
        refine nw_ireturn l_X12_wayHours_14 rfl ?_
        exact h
      · replace h := h.2 q4
        refine nw_iload_n l_X12_in_5 6 rfl rfl ?_
        refine nw_iload_n l_X12_in_6 7 rfl rfl ?_
        refine nw_ic_gt l_X12_in_7 10 rfl (fun q5 => ?_) (fun q5 => ?_)
        · replace h := h.1 q5
          refine nw_iconst (len := 0) l_X12_in_14 15 rfl c_0 ?_
          refine nw_ireturnZ l_X12_in_15 rfl (Or.inl rfl) ?_
          refine nw_ireturnZ l_X12_isCrater_13 rfl (Or.inl rfl) ?_
          refine nw_if_eq l_X12_areCraters_13 16 rfl (fun _ => ?_) (fun q => absurd q (by decide))
          refine nw_iconst (len := 0) l_X12_areCraters_20 21 rfl c_0 ?_
          refine nw_ireturnZ l_X12_areCraters_21 rfl (Or.inl rfl) ?_
          refine nw_if_ne l_X12_wayHours_6 9 rfl (fun q => absurd q (by decide)) (fun _ => ?_)
          refine nw_aload_n l_X12_wayHours_9 10 rfl rfl ?_
          refine nw_iconst (len := 0) l_X12_wayHours_10 11 rfl c_1 ?_
          refine nw_call0 0 303 l_X12_wayHours_11 rfl rfl g_X12_fails (Nat.lt_of_lt_of_le (by decide) hD) rfl (Or.inl ⟨_, rfl, k_303⟩) (ls' := [some (.inr (.inl (some 303))), some (.inl 1)]) rfl (st' := []) rfl 14 rfl ?_
          refine nw_aload_n l_X12_fails_0 1 rfl rfl ?_
          refine nw_iload_n l_X12_fails_1 2 rfl rfl ?_
          refine nw_putI l_X12_fails_2 5 rfl k_303 ?_
          refine nw_iconst (len := 0) l_X12_fails_5 6 rfl c_0 ?_
          refine nw_ireturn l_X12_fails_6 rfl ?_
          refine nw_ireturn l_X12_wayHours_14 rfl ?_
          exact h
        · replace h := h.2 q5
          refine nw_iconst (len := 0) l_X12_in_10 11 rfl c_1 ?_
          refine nw_goto l_X12_in_11 ?_
          refine nw_ireturnZ l_X12_in_15 rfl (Or.inr rfl) ?_
          refine nw_ireturnZ l_X12_isCrater_13 rfl (Or.inr rfl) ?_
          refine nw_if_eq l_X12_areCraters_13 16 rfl (fun q => absurd q (by decide)) (fun _ => ?_)
          refine nw_iconst (len := 0) l_X12_areCraters_16 17 rfl c_1 ?_
          refine nw_goto l_X12_areCraters_17 ?_
          refine nw_ireturnZ l_X12_areCraters_21 rfl (Or.inr rfl) ?_
          refine nw_if_ne l_X12_wayHours_6 9 rfl (fun _ => ?_) (fun q => absurd q (by decide))
          refine nw_aload_n l_X12_wayHours_15 16 rfl rfl ?_
          refine nw_call0 0 303 l_X12_wayHours_16 rfl rfl g_X12_finds (Nat.lt_of_lt_of_le (by decide) hD) rfl (Or.inl ⟨_, rfl, k_303⟩) (ls' := [some (.inr (.inl (some 303))), none, none, none]) rfl (st' := []) rfl 19 rfl ?_
          exact h
theorem b_X12_wayHours_19 {x1 : Int} {x2 : Int} (hD : 3 ≤ D) (h : ((-2147483648 ≤ 6 * x1 ∧ 6 * x1 < 2147483648) ∧ ((-2147483648 ≤ (6 * x1) + x2 ∧ (6 * x1) + x2 < 2147483648) ∧ ((0 ≤ (6 * x1) + x2 ∧ (6 * x1) + x2 < 36) ∧ ((J 310 ((6 * x1) + x2) < 10000 → Qr (some (.inl (J 310 ((6 * x1) + x2)))) (nw_u J 303 13 0, L, W)) ∧ (10000 ≤ J 310 ((6 * x1) + x2) → Qr (some (.inl 0)) (nw_u J 303 13 2, L, W))))))) :
    NW sc d_X12_wayHours D (19, [some (.inr (.inl (some 303))), some (.inl x1), some (.inl x2), none], [], (J, L, W), c, sl) Qr Qx := by
  refine nw_aload_n l_X12_wayHours_19 20 rfl rfl ?_
  refine nw_getA l_X12_wayHours_20 23 rfl k_303 r_303_14 ?_
  refine nw_bipush (len := 0) l_X12_wayHours_23 25 rfl c_6 ?_
  refine nw_iload_n l_X12_wayHours_25 26 rfl rfl ?_
  have o1 := h.1
  replace h := h.2
  refine nw_imul l_X12_wayHours_26 27 rfl o1 ?_
  refine nw_iload_n l_X12_wayHours_27 28 rfl rfl ?_
  have o2 := h.1
  replace h := h.2
  refine nw_iadd l_X12_wayHours_28 29 rfl o2 ?_
  have o3 := h.1
  replace h := h.2
  refine nw_iald l_X12_wayHours_29 30 rfl k_310 o3 (v := J 310 ((6 * x1) + x2)) rfl ?_
  refine nw_istore_n l_X12_wayHours_30 31 rfl rfl (ls' := [some (.inr (.inl (some 303))), some (.inl x1), some (.inl x2), some (.inl (J 310 ((6 * x1) + x2)))]) rfl ?_
  refine nw_iload_n l_X12_wayHours_31 32 rfl rfl ?_
  refine nw_sipush (len := 0) l_X12_wayHours_32 35 rfl c_10000 ?_
  refine nw_ic_lt l_X12_wayHours_35 38 rfl (fun q4 => ?_) (fun q4 => ?_)
  · replace h := h.1 q4
    refine nw_aload_n l_X12_wayHours_46 47 rfl rfl ?_
    refine nw_iload_n l_X12_wayHours_47 48 rfl rfl ?_
    refine nw_call0 0 303 l_X12_wayHours_48 rfl rfl g_X12_done (Nat.lt_of_lt_of_le (by decide) hD) rfl (Or.inl ⟨_, rfl, k_303⟩) (ls' := [some (.inr (.inl (some 303))), some (.inl (J 310 ((6 * x1) + x2)))]) rfl (st' := []) rfl 51 rfl ?_
    refine nw_aload_n l_X12_done_0 1 rfl rfl ?_
    refine nw_iconst (len := 0) l_X12_done_1 2 rfl c_0 ?_
    refine nw_putI l_X12_done_2 5 rfl k_303 ?_
    refine nw_iload_n l_X12_done_5 6 rfl rfl ?_
    refine nw_ireturn l_X12_done_6 rfl ?_
    refine nw_ireturn l_X12_wayHours_51 rfl ?_
    exact h
  · replace h := h.2 q4
    refine nw_aload_n l_X12_wayHours_38 39 rfl rfl ?_
    refine nw_iconst (len := 0) l_X12_wayHours_39 40 rfl c_2 ?_
    refine nw_call0 0 303 l_X12_wayHours_40 rfl rfl g_X12_fails (Nat.lt_of_lt_of_le (by decide) hD) rfl (Or.inl ⟨_, rfl, k_303⟩) (ls' := [some (.inr (.inl (some 303))), some (.inl 2)]) rfl (st' := []) rfl 43 rfl ?_
    refine nw_aload_n l_X12_fails_0 1 rfl rfl ?_
    refine nw_iload_n l_X12_fails_1 2 rfl rfl ?_
    refine nw_putI l_X12_fails_2 5 rfl k_303 ?_
    refine nw_iconst (len := 0) l_X12_fails_5 6 rfl c_0 ?_
    refine nw_ireturn l_X12_fails_6 rfl ?_
    refine nw_goto l_X12_wayHours_43 ?_
    refine nw_ireturn l_X12_wayHours_51 rfl ?_
    exact h
theorem b_X12_wayHoursByTable_0 {x1 : Int} {x2 : Int} (hD : 4 ≤ D) (h : NW sc d_X12_wayHours 3 (0, [some (.inr (.inl (some 303))), some (.inl x1), some (.inl x2), none], [], (J, L, W), 0, 0) (fun v M9 => NW sc d_X12_wayHoursByTable D (6, [none, none, none], nw_push v [], M9, c, sl) Qr Qx) Qx) :
    NW sc d_X12_wayHoursByTable D (0, [some (.inr (.inl (some 303))), some (.inl x1), some (.inl x2)], [], (J, L, W), c, sl) Qr Qx := by
  refine nw_aload_n l_X12_wayHoursByTable_0 1 rfl rfl ?_
  refine nw_iload_n l_X12_wayHoursByTable_1 2 rfl rfl ?_
  refine nw_iload_n l_X12_wayHoursByTable_2 3 rfl rfl ?_
  refine nw_drop (ls' := [none, none, none]) ⟨True.intro, ⟨True.intro, ⟨True.intro, True.intro⟩⟩⟩ ?_
  refine nw_call0 3 303 l_X12_wayHoursByTable_3 rfl rfl g_X12_wayHours (Nat.lt_of_lt_of_le (by decide) hD) rfl (Or.inl ⟨_, rfl, k_303⟩) (ls' := [some (.inr (.inl (some 303))), some (.inl x1), some (.inl x2), none]) rfl (st' := []) rfl 6 rfl ?_
  exact h
theorem b_X12_wayHoursByTable_6 {y0 : Int} (h : Qr (some (.inl y0)) (J, L, W)) :
    NW sc d_X12_wayHoursByTable D (6, [none, none, none], [.inl y0], (J, L, W), c, sl) Qr Qx := by
  refine nw_ireturn l_X12_wayHoursByTable_6 rfl ?_
  exact h
theorem b_X12_worth_0 {x1 : Int} {x2 : Int} (hD : 1 ≤ D) (h : NW sc d_X12_carried 0 (0, [some (.inr (.inl (some 303))), some (.inl x1), none, none], [], (J, L, W), 0, 0) (fun v M9 => NW sc d_X12_worth D (7, [some (.inr (.inl (some 303))), some (.inl x1), some (.inl x2), some (.inl 0), none, none], nw_push v [], M9, c, sl) Qr Qx) Qx) :
    NW sc d_X12_worth D (0, [some (.inr (.inl (some 303))), some (.inl x1), some (.inl x2), none, none, none], [], (J, L, W), c, sl) Qr Qx := by
  refine nw_iconst (len := 0) l_X12_worth_0 1 rfl c_0 ?_
  refine nw_istore_n l_X12_worth_1 2 rfl rfl (ls' := [some (.inr (.inl (some 303))), some (.inl x1), some (.inl x2), some (.inl 0), none, none]) rfl ?_
  refine nw_aload_n l_X12_worth_2 3 rfl rfl ?_
  refine nw_iload_n l_X12_worth_3 4 rfl rfl ?_
  refine nw_call0 0 303 l_X12_worth_4 rfl rfl g_X12_carried (Nat.lt_of_lt_of_le (by decide) hD) rfl (Or.inl ⟨_, rfl, k_303⟩) (ls' := [some (.inr (.inl (some 303))), some (.inl x1), none, none]) rfl (st' := []) rfl 7 rfl ?_
  exact h
theorem b_X12_worth_7 {x1 : Int} {x2 : Int} {x3 : Int} {y0 : Int} (h : NW sc d_X12_worth D (12, [some (.inr (.inl (some 303))), some (.inl x1), some (.inl x2), some (.inl x3), some (.inl y0), some (.inl 0)], [], (J, L, W), c, sl) Qr Qx) :
    NW sc d_X12_worth D (7, [some (.inr (.inl (some 303))), some (.inl x1), some (.inl x2), some (.inl x3), none, none], [.inl y0], (J, L, W), c, sl) Qr Qx := by
  refine nw_istore l_X12_worth_7 9 rfl rfl (ls' := [some (.inr (.inl (some 303))), some (.inl x1), some (.inl x2), some (.inl x3), some (.inl y0), none]) rfl ?_
  refine nw_iconst (len := 0) l_X12_worth_9 10 rfl c_0 ?_
  refine nw_istore l_X12_worth_10 12 rfl rfl (ls' := [some (.inr (.inl (some 303))), some (.inl x1), some (.inl x2), some (.inl x3), some (.inl y0), some (.inl 0)]) rfl ?_
  exact h
theorem b_X12_worth_12 {x1 : Int} {x2 : Int} {x3 : Int} {x4 : Int} {x5 : Int} (hD : 1 ≤ D) (h : ((10 ≤ x5 → ((-2147483648 ≤ 68 + x1 ∧ 68 + x1 < 2147483648) ∧ ((0 ≤ 68 + x1 ∧ 68 + x1 < 161) ∧ ((J 304 (68 + x1) < x4 → Qr (some (.inl (-1))) (J, L, W)) ∧ (x4 ≤ J 304 (68 + x1) → Qr (some (.inl x3)) (J, L, W)))))) ∧ (x5 < 10 → ((¬ nw_xiand (nw_xishr x2 x5) 1 = 1 → ((-2147483648 ≤ x5 + 1 ∧ x5 + 1 < 2147483648) ∧ NW sc d_X12_worth D (12, [some (.inr (.inl (some 303))), some (.inl x1), some (.inl x2), some (.inl x3), some (.inl x4), some (.inl (x5 + 1))], [], (J, L, W), c, sl) Qr Qx)) ∧ (nw_xiand (nw_xishr x2 x5) 1 = 1 → ((J 304 4 ≤ x5 → Qr (some (.inl (-1))) (J, L, W)) ∧ (x5 < J 304 4 → ((-2147483648 ≤ 121 + x5 ∧ 121 + x5 < 2147483648) ∧ ((0 ≤ 121 + x5 ∧ 121 + x5 < 161) ∧ ((-2147483648 ≤ 56 + x1 ∧ 56 + x1 < 2147483648) ∧ ((0 ≤ 56 + x1 ∧ 56 + x1 < 161) ∧ ((¬ J 304 (121 + x5) = J 304 (56 + x1) → Qr (some (.inl (-1))) (J, L, W)) ∧ (J 304 (121 + x5) = J 304 (56 + x1) → ((-2147483648 ≤ 111 + x5 ∧ 111 + x5 < 2147483648) ∧ ((0 ≤ 111 + x5 ∧ 111 + x5 < 161) ∧ ((J 304 (111 + x5) = 0 → Qr (some (.inl (-1))) (J, L, W)) ∧ (¬ J 304 (111 + x5) = 0 → NW sc d_X12_fare 0 (0, [some (.inr (.inl (some 303))), some (.inl x5), none, none], [], (J, L, W), 0, 0) (fun v M9 => NW sc d_X12_worth D (59, [some (.inr (.inl (some 303))), some (.inl x1), some (.inl x2), none, some (.inl x4), some (.inl x5)], nw_push v [.inl x3], M9, c, sl) Qr Qx) Qx))))))))))))))))) :
    NW sc d_X12_worth D (12, [some (.inr (.inl (some 303))), some (.inl x1), some (.inl x2), some (.inl x3), some (.inl x4), some (.inl x5)], [], (J, L, W), c, sl) Qr Qx := by
  refine nw_iload l_X12_worth_12 14 rfl rfl ?_
  refine nw_bipush (len := 0) l_X12_worth_14 16 rfl c_10 ?_
  refine nw_ic_ge l_X12_worth_16 19 rfl (fun q1 => ?_) (fun q1 => ?_)
  · replace h := h.1 q1
    refine nw_iload l_X12_worth_82 84 rfl rfl ?_
    refine nw_aload_n l_X12_worth_84 85 rfl rfl ?_
    refine nw_getA l_X12_worth_85 88 rfl k_303 r_303_0 ?_
    refine nw_bipush (len := 0) l_X12_worth_88 90 rfl c_68 ?_
    refine nw_iload_n l_X12_worth_90 91 rfl rfl ?_
    have o2 := h.1
    replace h := h.2
    refine nw_iadd l_X12_worth_91 92 rfl o2 ?_
    have o3 := h.1
    replace h := h.2
    refine nw_iald l_X12_worth_92 93 rfl k_304 o3 (v := J 304 (68 + x1)) rfl ?_
    refine nw_ic_gt l_X12_worth_93 96 rfl (fun q4 => ?_) (fun q4 => ?_)
    · replace h := h.1 q4
      refine nw_iconst (len := 0) l_X12_worth_100 101 rfl c_n1 ?_
      refine nw_ireturn l_X12_worth_101 rfl ?_
      exact h
    · replace h := h.2 q4
      refine nw_iload_n l_X12_worth_96 97 rfl rfl ?_
      refine nw_goto l_X12_worth_97 ?_
      refine nw_ireturn l_X12_worth_101 rfl ?_
      exact h
  · replace h := h.2 q1
    refine nw_iload_n l_X12_worth_19 20 rfl rfl ?_
    refine nw_iload l_X12_worth_20 22 rfl rfl ?_
    refine nw_ishr l_X12_worth_22 23 rfl ?_
    refine nw_iconst (len := 0) l_X12_worth_23 24 rfl c_1 ?_
    refine nw_iand l_X12_worth_24 25 rfl ?_
    refine nw_iconst (len := 0) l_X12_worth_25 26 rfl c_1 ?_
    refine nw_ic_ne l_X12_worth_26 29 rfl (fun q5 => ?_) (fun q5 => ?_)
    · replace h := h.1 q5
      have o6 := h.1
      replace h := h.2
      refine nw_iinc l_X12_worth_76 79 rfl 1 (by decide) rfl rfl o6 (ls' := [some (.inr (.inl (some 303))), some (.inl x1), some (.inl x2), some (.inl x3), some (.inl x4), some (.inl (x5 + 1))]) rfl ?_
      refine nw_goto l_X12_worth_79 ?_
      exact h
    · replace h := h.2 q5
      refine nw_iload l_X12_worth_29 31 rfl rfl ?_
      refine nw_aload_n l_X12_worth_31 32 rfl rfl ?_
      refine nw_getA l_X12_worth_32 35 rfl k_303 r_303_0 ?_
      refine nw_iconst (len := 0) l_X12_worth_35 36 rfl c_4 ?_
      refine nw_iald l_X12_worth_36 37 rfl k_304 ⟨by decide, by decide⟩ (v := J 304 4) rfl ?_
      refine nw_ic_ge l_X12_worth_37 40 rfl (fun q7 => ?_) (fun q7 => ?_)
      · replace h := h.1 q7
        refine nw_iconst (len := 0) l_X12_worth_50 51 rfl c_n1 ?_
        refine nw_ireturn l_X12_worth_51 rfl ?_
        exact h
      · replace h := h.2 q7
        refine nw_aload_n l_X12_worth_40 41 rfl rfl ?_
        refine nw_iload_n l_X12_worth_41 42 rfl rfl ?_
        refine nw_iload l_X12_worth_42 44 rfl rfl ?_
        refine nw_call0 0 303 l_X12_worth_44 rfl rfl g_X12_mayBoard (Nat.lt_of_lt_of_le (by decide) hD) rfl (Or.inl ⟨_, rfl, k_303⟩) (ls' := [some (.inr (.inl (some 303))), some (.inl x1), some (.inl x5)]) rfl (st' := []) rfl 47 rfl ?_
        refine nw_aload_n l_X12_mayBoard_0 1 rfl rfl ?_
        refine nw_getA l_X12_mayBoard_1 4 rfl k_303 r_303_0 ?_
        refine nw_bipush (len := 0) l_X12_mayBoard_4 6 rfl c_121 ?_
        refine nw_iload_n l_X12_mayBoard_6 7 rfl rfl ?_
        have o8 := h.1
        replace h := h.2
        refine nw_iadd l_X12_mayBoard_7 8 rfl o8 ?_
        have o9 := h.1
        replace h := h.2
        refine nw_iald l_X12_mayBoard_8 9 rfl k_304 o9 (v := J 304 (121 + x5)) rfl ?_
        refine nw_aload_n l_X12_mayBoard_9 10 rfl rfl ?_
        refine nw_getA l_X12_mayBoard_10 13 rfl k_303 r_303_0 ?_
        refine nw_bipush (len := 0) l_X12_mayBoard_13 15 rfl c_56 ?_
        refine nw_iload_n l_X12_mayBoard_15 16 rfl rfl ?_
        have o10 := h.1
        replace h := h.2
        refine nw_iadd l_X12_mayBoard_16 17 rfl o10 ?_
        have o11 := h.1
        replace h := h.2
        refine nw_iald l_X12_mayBoard_17 18 rfl k_304 o11 (v := J 304 (56 + x1)) rfl ?_
        refine nw_ic_ne l_X12_mayBoard_18 21 rfl (fun q12 => ?_) (fun q12 => ?_)
        · replace h := h.1 q12
          refine nw_iconst (len := 0) l_X12_mayBoard_37 38 rfl c_0 ?_
          refine nw_ireturnZ l_X12_mayBoard_38 rfl (Or.inl rfl) ?_
          refine nw_if_ne l_X12_worth_47 50 rfl (fun q => absurd q (by decide)) (fun _ => ?_)
          refine nw_iconst (len := 0) l_X12_worth_50 51 rfl c_n1 ?_
          refine nw_ireturn l_X12_worth_51 rfl ?_
          exact h
        · replace h := h.2 q12
          refine nw_aload_n l_X12_mayBoard_21 22 rfl rfl ?_
          refine nw_getA l_X12_mayBoard_22 25 rfl k_303 r_303_0 ?_
          refine nw_bipush (len := 0) l_X12_mayBoard_25 27 rfl c_111 ?_
          refine nw_iload_n l_X12_mayBoard_27 28 rfl rfl ?_
          have o13 := h.1
          replace h := h.2
          refine nw_iadd l_X12_mayBoard_28 29 rfl o13 ?_
          have o14 := h.1
          replace h := h.2
          refine nw_iald l_X12_mayBoard_29 30 rfl k_304 o14 (v := J 304 (111 + x5)) rfl ?_
          refine nw_if_eq l_X12_mayBoard_30 33 rfl (fun q15 => ?_) (fun q15 => ?_)
          · replace h := h.1 q15
            refine nw_iconst (len := 0) l_X12_mayBoard_37 38 rfl c_0 ?_
            refine nw_ireturnZ l_X12_mayBoard_38 rfl (Or.inl rfl) ?_
            refine nw_if_ne l_X12_worth_47 50 rfl (fun q => absurd q (by decide)) (fun _ => ?_)
            refine nw_iconst (len := 0) l_X12_worth_50 51 rfl c_n1 ?_
            refine nw_ireturn l_X12_worth_51 rfl ?_
            exact h
          · replace h := h.2 q15
            refine nw_iconst (len := 0) l_X12_mayBoard_33 34 rfl c_1 ?_
            refine nw_goto l_X12_mayBoard_34 ?_
            refine nw_ireturnZ l_X12_mayBoard_38 rfl (Or.inr rfl) ?_
            refine nw_if_ne l_X12_worth_47 50 rfl (fun _ => ?_) (fun q => absurd q (by decide))
            refine nw_iload_n l_X12_worth_52 53 rfl rfl ?_
            refine nw_aload_n l_X12_worth_53 54 rfl rfl ?_
            refine nw_iload l_X12_worth_54 56 rfl rfl ?_
            refine nw_drop (ls' := [some (.inr (.inl (some 303))), some (.inl x1), some (.inl x2), none, some (.inl x4), some (.inl x5)]) ⟨rfl, ⟨rfl, ⟨rfl, ⟨True.intro, ⟨rfl, ⟨rfl, True.intro⟩⟩⟩⟩⟩⟩ ?_
            refine nw_call0 0 303 l_X12_worth_56 rfl rfl g_X12_fare (Nat.lt_of_lt_of_le (by decide) hD) rfl (Or.inl ⟨_, rfl, k_303⟩) (ls' := [some (.inr (.inl (some 303))), some (.inl x5), none, none]) rfl (st' := [.inl x3]) rfl 59 rfl ?_
            exact h
theorem b_X12_worth_59 {x1 : Int} {x2 : Int} {x4 : Int} {x5 : Int} {y0 : Int} {y1 : Int} (h : ((-2147483648 ≤ y1 + y0 ∧ y1 + y0 < 2147483648) ∧ ((-2147483648 ≤ 101 + x5 ∧ 101 + x5 < 2147483648) ∧ ((0 ≤ 101 + x5 ∧ 101 + x5 < 161) ∧ ((-2147483648 ≤ x4 + (J 304 (101 + x5)) ∧ x4 + (J 304 (101 + x5)) < 2147483648) ∧ ((-2147483648 ≤ x5 + 1 ∧ x5 + 1 < 2147483648) ∧ NW sc d_X12_worth D (12, [some (.inr (.inl (some 303))), some (.inl x1), some (.inl x2), some (.inl (y1 + y0)), some (.inl (x4 + (J 304 (101 + x5)))), some (.inl (x5 + 1))], [], (J, L, W), c, sl) Qr Qx)))))) :
    NW sc d_X12_worth D (59, [some (.inr (.inl (some 303))), some (.inl x1), some (.inl x2), none, some (.inl x4), some (.inl x5)], [.inl y0, .inl y1], (J, L, W), c, sl) Qr Qx := by
  have o1 := h.1
  replace h := h.2
  refine nw_iadd l_X12_worth_59 60 rfl o1 ?_
  refine nw_istore_n l_X12_worth_60 61 rfl rfl (ls' := [some (.inr (.inl (some 303))), some (.inl x1), some (.inl x2), some (.inl (y1 + y0)), some (.inl x4), some (.inl x5)]) rfl ?_
  refine nw_iload l_X12_worth_61 63 rfl rfl ?_
  refine nw_aload_n l_X12_worth_63 64 rfl rfl ?_
  refine nw_getA l_X12_worth_64 67 rfl k_303 r_303_0 ?_
  refine nw_bipush (len := 0) l_X12_worth_67 69 rfl c_101 ?_
  refine nw_iload l_X12_worth_69 71 rfl rfl ?_
  have o2 := h.1
  replace h := h.2
  refine nw_iadd l_X12_worth_71 72 rfl o2 ?_
  have o3 := h.1
  replace h := h.2
  refine nw_iald l_X12_worth_72 73 rfl k_304 o3 (v := J 304 (101 + x5)) rfl ?_
  have o4 := h.1
  replace h := h.2
  refine nw_iadd l_X12_worth_73 74 rfl o4 ?_
  refine nw_istore l_X12_worth_74 76 rfl rfl (ls' := [some (.inr (.inl (some 303))), some (.inl x1), some (.inl x2), some (.inl (y1 + y0)), some (.inl (x4 + (J 304 (101 + x5)))), some (.inl x5)]) rfl ?_
  have o5 := h.1
  replace h := h.2
  refine nw_iinc l_X12_worth_76 79 rfl 1 (by decide) rfl rfl o5 (ls' := [some (.inr (.inl (some 303))), some (.inl x1), some (.inl x2), some (.inl (y1 + y0)), some (.inl (x4 + (J 304 (101 + x5)))), some (.inl (x5 + 1))]) rfl ?_
  refine nw_goto l_X12_worth_79 ?_
  exact h
end
