/-! 25.blkB: blocks of methods, by program-/
section
variable {sc : Nat × (Nat → Int32)} {D : Nat} {J L : Nat → Int → Int} {W : nw_W} {c sl : Nat} {Qr : nw_QR} {Qx : nw_QX}
theorem b_X10_arriveByHours_0 {x2 : Int} (hD : 3 ≤ D) (h : NW sc d_J7_fill_53178 0 (0, [some (.inr (.inl (some 39))), some (.inl (-1)), none, none], [], (J, L, W), 0, 0) (fun v M9 => NW sc d_X10_arriveByHours D (8, [some (.inr (.inl (some 29))), some (.inr (.inl (some 2))), some (.inl x2), none, none, none], nw_push v [], M9, c, sl) Qr Qx) Qx) :
    NW sc d_X10_arriveByHours D (0, [some (.inr (.inl (some 29))), some (.inr (.inl (some 2))), some (.inl x2), none, none, none], [], (J, L, W), c, sl) Qr Qx := by
  refine nw_aload_n l_X10_arriveByHours_0 1 rfl rfl ?_
  refine nw_getA l_X10_arriveByHours_1 4 rfl k_29 r_29_3 ?_
  refine nw_iconst (len := 0) l_X10_arriveByHours_4 5 rfl c_n1 ?_
  refine nw_call0 0 0 l_X10_arriveByHours_5 rfl rfl g_J7_fill_53178 (Nat.lt_of_lt_of_le (by decide) hD) rfl True.intro (ls' := [some (.inr (.inl (some 39))), some (.inl (-1)), none, none]) rfl (st' := []) rfl 8 rfl ?_
  exact h
theorem b_X10_arriveByHours_8 {x2 : Int} (hD : 3 ≤ D) (h : NW sc d_J7_fill_53178 0 (0, [some (.inr (.inl (some 45))), some (.inl 0), none, none], [], (J, L, W), 0, 0) (fun v M9 => NW sc d_X10_arriveByHours D (16, [some (.inr (.inl (some 29))), some (.inr (.inl (some 2))), some (.inl x2), none, none, none], nw_push v [], M9, c, sl) Qr Qx) Qx) :
    NW sc d_X10_arriveByHours D (8, [some (.inr (.inl (some 29))), some (.inr (.inl (some 2))), some (.inl x2), none, none, none], [], (J, L, W), c, sl) Qr Qx := by
  refine nw_aload_n l_X10_arriveByHours_8 9 rfl rfl ?_
  refine nw_getA l_X10_arriveByHours_9 12 rfl k_29 r_29_7 ?_
  refine nw_iconst (len := 0) l_X10_arriveByHours_12 13 rfl c_0 ?_
  refine nw_call0 0 0 l_X10_arriveByHours_13 rfl rfl g_J7_fill_53178 (Nat.lt_of_lt_of_le (by decide) hD) rfl True.intro (ls' := [some (.inr (.inl (some 45))), some (.inl 0), none, none]) rfl (st' := []) rfl 16 rfl ?_
  exact h
theorem b_X10_arriveByHours_16 {x2 : Int} (hD : 3 ≤ D) (h : ((0 ≤ x2 ∧ x2 < 3) ∧ ((J 11 x2 = (-1) → NW sc d_X10_arriveByHours D (49, [some (.inr (.inl (some 29))), some (.inr (.inl (some 2))), some (.inl x2), none, some (.inl 0), none], [], (nw_u J 45 0 (nw_xishl 1 (J 10 x2)), L, W), c, sl) Qr Qx) ∧ (¬ J 11 x2 = (-1) → ((-2147483648 ≤ (J 12 x2) - (J 2 3) ∧ (J 12 x2) - (J 2 3) < 2147483648) ∧ (((J 12 x2) - (J 2 3) < 0 → Qr none (J, L, W)) ∧ (0 ≤ (J 12 x2) - (J 2 3) → (((J 12 x2) - (J 2 3) ≤ 99 → ((0 ≤ (J 12 x2) - (J 2 3) ∧ (J 12 x2) - (J 2 3) < 100) ∧ NW sc d_X10_arriveByHours D (49, [some (.inr (.inl (some 29))), some (.inr (.inl (some 2))), some (.inl x2), none, some (.inl ((J 12 x2) - (J 2 3))), none], [], (nw_u J 45 ((J 12 x2) - (J 2 3)) (nw_xishl 1 (J 11 x2)), L, W), c, sl) Qr Qx)) ∧ (99 < (J 12 x2) - (J 2 3) → Qr none (J, L, W)))))))))) :
    NW sc d_X10_arriveByHours D (16, [some (.inr (.inl (some 29))), some (.inr (.inl (some 2))), some (.inl x2), none, none, none], [], (J, L, W), c, sl) Qr Qx := by
  refine nw_aload_n l_X10_arriveByHours_16 17 rfl rfl ?_
  refine nw_iload_n l_X10_arriveByHours_17 18 rfl rfl ?_
  refine nw_call0 1 2 l_X10_arriveByHours_18 rfl rfl g_X8_hoursUntilAshore (Nat.lt_of_lt_of_le (by decide) hD) rfl (Or.inl ⟨_, rfl, k_2⟩) (ls' := [some (.inr (.inl (some 2))), some (.inl x2)]) rfl (st' := []) rfl 21 rfl ?_
  refine nw_aload_n l_X8_hoursUntilAshore_0 1 rfl rfl ?_
  refine nw_getA l_X8_hoursUntilAshore_1 4 rfl k_2 r_2_1 ?_
  refine nw_iload_n l_X8_hoursUntilAshore_4 5 rfl rfl ?_
  refine nw_call0 0 9 l_X8_hoursUntilAshore_5 rfl rfl g_X4_underWay (by decide) rfl (Or.inl ⟨_, rfl, k_9⟩) (ls' := [some (.inr (.inl (some 9))), some (.inl x2)]) rfl (st' := []) rfl 8 rfl ?_
  refine nw_aload_n l_X4_underWay_0 1 rfl rfl ?_
  refine nw_getA l_X4_underWay_1 4 rfl k_9 r_9_2 ?_
  refine nw_iload_n l_X4_underWay_4 5 rfl rfl ?_
  have o1 := h.1
  replace h := h.2
  refine nw_iald l_X4_underWay_5 6 rfl k_11 o1 (v := J 11 x2) rfl ?_
  refine nw_iconst (len := 0) l_X4_underWay_6 7 rfl c_n1 ?_
  refine nw_ic_eq l_X4_underWay_7 10 rfl (fun q2 => ?_) (fun q2 => ?_)
  · replace h := h.1 q2
    refine nw_iconst (len := 0) l_X4_underWay_14 15 rfl c_0 ?_
    refine nw_ireturnZ l_X4_underWay_15 rfl (Or.inl rfl) ?_
    refine nw_if_eq l_X8_hoursUntilAshore_8 11 rfl (fun _ => ?_) (fun q => absurd q (by decide))
    refine nw_iconst (len := 0) l_X8_hoursUntilAshore_28 29 rfl c_0 ?_
    refine nw_ireturn l_X8_hoursUntilAshore_29 rfl ?_
    refine nw_istore_n l_X10_arriveByHours_21 22 rfl rfl (ls' := [some (.inr (.inl (some 29))), some (.inr (.inl (some 2))), some (.inl x2), some (.inl 0), none, none]) rfl ?_
    refine nw_iload_n l_X10_arriveByHours_22 23 rfl rfl ?_
    refine nw_if_lt l_X10_arriveByHours_23 26 rfl (fun q => absurd q (by decide)) (fun _ => ?_)
    refine nw_iload_n l_X10_arriveByHours_26 27 rfl rfl ?_
    refine nw_bipush (len := 0) l_X10_arriveByHours_27 29 rfl c_99 ?_
    refine nw_ic_le l_X10_arriveByHours_29 32 rfl (fun _ => ?_) (fun q => absurd q (by decide))
    refine nw_aload_n l_X10_arriveByHours_33 34 rfl rfl ?_
    refine nw_getA l_X10_arriveByHours_34 37 rfl k_29 r_29_7 ?_
    refine nw_iload_n l_X10_arriveByHours_37 38 rfl rfl ?_
    refine nw_iconst (len := 0) l_X10_arriveByHours_38 39 rfl c_1 ?_
    refine nw_aload_n l_X10_arriveByHours_39 40 rfl rfl ?_
    refine nw_iload_n l_X10_arriveByHours_40 41 rfl rfl ?_
    refine nw_call0 1 2 l_X10_arriveByHours_41 rfl rfl g_X8_nextCrater (Nat.lt_of_lt_of_le (by decide) hD) rfl (Or.inl ⟨_, rfl, k_2⟩) (ls' := [some (.inr (.inl (some 2))), some (.inl x2)]) rfl (st' := [.inl 1, .inl 0, .inr (.inl (some 45))]) rfl 44 rfl ?_
    refine nw_aload_n l_X8_nextCrater_0 1 rfl rfl ?_
    refine nw_getA l_X8_nextCrater_1 4 rfl k_2 r_2_1 ?_
    refine nw_iload_n l_X8_nextCrater_4 5 rfl rfl ?_
    refine nw_call0 0 9 l_X8_nextCrater_5 rfl rfl g_X4_underWay (by decide) rfl (Or.inl ⟨_, rfl, k_9⟩) (ls' := [some (.inr (.inl (some 9))), some (.inl x2)]) rfl (st' := []) rfl 8 rfl ?_
    refine nw_aload_n l_X4_underWay_0 1 rfl rfl ?_
    refine nw_getA l_X4_underWay_1 4 rfl k_9 r_9_2 ?_
    refine nw_iload_n l_X4_underWay_4 5 rfl rfl ?_
    refine nw_iald l_X4_underWay_5 6 rfl k_11 o1 (v := J 11 x2) rfl ?_
    refine nw_iconst (len := 0) l_X4_underWay_6 7 rfl c_n1 ?_
    refine nw_ic_eq l_X4_underWay_7 10 rfl (fun _ => ?_) (fun q => absurd q (by omega))
    refine nw_iconst (len := 0) l_X4_underWay_14 15 rfl c_0 ?_
    refine nw_ireturnZ l_X4_underWay_15 rfl (Or.inl rfl) ?_
    refine nw_if_eq l_X8_nextCrater_8 11 rfl (fun _ => ?_) (fun q => absurd q (by decide))
    refine nw_aload_n l_X8_nextCrater_23 24 rfl rfl ?_
    refine nw_getA l_X8_nextCrater_24 27 rfl k_2 r_2_1 ?_
    refine nw_getA l_X8_nextCrater_27 30 rfl k_9 r_9_1 ?_
    refine nw_iload_n l_X8_nextCrater_30 31 rfl rfl ?_
    refine nw_iald l_X8_nextCrater_31 32 rfl k_10 o1 (v := J 10 x2) rfl ?_
    refine nw_ireturn l_X8_nextCrater_32 rfl ?_
    refine nw_ishl l_X10_arriveByHours_44 45 rfl ?_
    refine nw_iast l_X10_arriveByHours_45 46 rfl k_45 ⟨by decide, by decide⟩ ?_
    refine nw_iload_n l_X10_arriveByHours_46 47 rfl rfl ?_
    refine nw_istore l_X10_arriveByHours_47 49 rfl rfl (ls' := [some (.inr (.inl (some 29))), some (.inr (.inl (some 2))), some (.inl x2), some (.inl 0), some (.inl 0), none]) rfl ?_
    refine nw_drop (ls' := [some (.inr (.inl (some 29))), some (.inr (.inl (some 2))), some (.inl x2), none, some (.inl 0), none]) ⟨rfl, ⟨rfl, ⟨rfl, ⟨True.intro, ⟨rfl, ⟨True.intro, True.intro⟩⟩⟩⟩⟩⟩ ?_
    exact h
  · replace h := h.2 q2
    refine nw_iconst (len := 0) l_X4_underWay_10 11 rfl c_1 ?_
    refine nw_goto l_X4_underWay_11 ?_
    refine nw_ireturnZ l_X4_underWay_15 rfl (Or.inr rfl) ?_
    refine nw_if_eq l_X8_hoursUntilAshore_8 11 rfl (fun q => absurd q (by decide)) (fun _ => ?_)
    refine nw_aload_n l_X8_hoursUntilAshore_11 12 rfl rfl ?_
    refine nw_getA l_X8_hoursUntilAshore_12 15 rfl k_2 r_2_1 ?_
    refine nw_getA l_X8_hoursUntilAshore_15 18 rfl k_9 r_9_3 ?_
    refine nw_iload_n l_X8_hoursUntilAshore_18 19 rfl rfl ?_
    refine nw_iald l_X8_hoursUntilAshore_19 20 rfl k_12 o1 (v := J 12 x2) rfl ?_
    refine nw_aload_n l_X8_hoursUntilAshore_20 21 rfl rfl ?_
    refine nw_getI l_X8_hoursUntilAshore_21 24 rfl k_2 (v := J 2 3) rfl ?_
    have o3 := h.1
    replace h := h.2
    refine nw_isub l_X8_hoursUntilAshore_24 25 rfl o3 ?_
    refine nw_goto l_X8_hoursUntilAshore_25 ?_
    refine nw_ireturn l_X8_hoursUntilAshore_29 rfl ?_
    refine nw_istore_n l_X10_arriveByHours_21 22 rfl rfl (ls' := [some (.inr (.inl (some 29))), some (.inr (.inl (some 2))), some (.inl x2), some (.inl ((J 12 x2) - (J 2 3))), none, none]) rfl ?_
    refine nw_iload_n l_X10_arriveByHours_22 23 rfl rfl ?_
    refine nw_if_lt l_X10_arriveByHours_23 26 rfl (fun q4 => ?_) (fun q4 => ?_)
    · replace h := h.1 q4
      refine nw_return l_X10_arriveByHours_32 rfl ?_
      exact h
    · replace h := h.2 q4
      refine nw_iload_n l_X10_arriveByHours_26 27 rfl rfl ?_
      refine nw_bipush (len := 0) l_X10_arriveByHours_27 29 rfl c_99 ?_
      refine nw_ic_le l_X10_arriveByHours_29 32 rfl (fun q5 => ?_) (fun q5 => ?_)
      · replace h := h.1 q5
        refine nw_aload_n l_X10_arriveByHours_33 34 rfl rfl ?_
        refine nw_getA l_X10_arriveByHours_34 37 rfl k_29 r_29_7 ?_
        refine nw_iload_n l_X10_arriveByHours_37 38 rfl rfl ?_
        refine nw_iconst (len := 0) l_X10_arriveByHours_38 39 rfl c_1 ?_
        refine nw_aload_n l_X10_arriveByHours_39 40 rfl rfl ?_
        refine nw_iload_n l_X10_arriveByHours_40 41 rfl rfl ?_
        refine nw_call0 1 2 l_X10_arriveByHours_41 rfl rfl g_X8_nextCrater (Nat.lt_of_lt_of_le (by decide) hD) rfl (Or.inl ⟨_, rfl, k_2⟩) (ls' := [some (.inr (.inl (some 2))), some (.inl x2)]) rfl (st' := [.inl 1, .inl ((J 12 x2) - (J 2 3)), .inr (.inl (some 45))]) rfl 44 rfl ?_
        refine nw_aload_n l_X8_nextCrater_0 1 rfl rfl ?_
        refine nw_getA l_X8_nextCrater_1 4 rfl k_2 r_2_1 ?_
        refine nw_iload_n l_X8_nextCrater_4 5 rfl rfl ?_
        refine nw_call0 0 9 l_X8_nextCrater_5 rfl rfl g_X4_underWay (by decide) rfl (Or.inl ⟨_, rfl, k_9⟩) (ls' := [some (.inr (.inl (some 9))), some (.inl x2)]) rfl (st' := []) rfl 8 rfl ?_
        refine nw_aload_n l_X4_underWay_0 1 rfl rfl ?_
        refine nw_getA l_X4_underWay_1 4 rfl k_9 r_9_2 ?_
        refine nw_iload_n l_X4_underWay_4 5 rfl rfl ?_
        refine nw_iald l_X4_underWay_5 6 rfl k_11 o1 (v := J 11 x2) rfl ?_
        refine nw_iconst (len := 0) l_X4_underWay_6 7 rfl c_n1 ?_
        refine nw_ic_eq l_X4_underWay_7 10 rfl (fun q => absurd q (by omega)) (fun _ => ?_)
        refine nw_iconst (len := 0) l_X4_underWay_10 11 rfl c_1 ?_
        refine nw_goto l_X4_underWay_11 ?_
        refine nw_ireturnZ l_X4_underWay_15 rfl (Or.inr rfl) ?_
        refine nw_if_eq l_X8_nextCrater_8 11 rfl (fun q => absurd q (by decide)) (fun _ => ?_)
        refine nw_aload_n l_X8_nextCrater_11 12 rfl rfl ?_
        refine nw_getA l_X8_nextCrater_12 15 rfl k_2 r_2_1 ?_
        refine nw_getA l_X8_nextCrater_15 18 rfl k_9 r_9_2 ?_
        refine nw_iload_n l_X8_nextCrater_18 19 rfl rfl ?_
        refine nw_iald l_X8_nextCrater_19 20 rfl k_11 o1 (v := J 11 x2) rfl ?_
        refine nw_goto l_X8_nextCrater_20 ?_
        refine nw_ireturn l_X8_nextCrater_32 rfl ?_
        refine nw_ishl l_X10_arriveByHours_44 45 rfl ?_
        have o6 := h.1
        replace h := h.2
        refine nw_iast l_X10_arriveByHours_45 46 rfl k_45 o6 ?_
        refine nw_iload_n l_X10_arriveByHours_46 47 rfl rfl ?_
        refine nw_istore l_X10_arriveByHours_47 49 rfl rfl (ls' := [some (.inr (.inl (some 29))), some (.inr (.inl (some 2))), some (.inl x2), some (.inl ((J 12 x2) - (J 2 3))), some (.inl ((J 12 x2) - (J 2 3))), none]) rfl ?_
        refine nw_drop (ls' := [some (.inr (.inl (some 29))), some (.inr (.inl (some 2))), some (.inl x2), none, some (.inl ((J 12 x2) - (J 2 3))), none]) ⟨rfl, ⟨rfl, ⟨rfl, ⟨True.intro, ⟨rfl, ⟨True.intro, True.intro⟩⟩⟩⟩⟩⟩ ?_
        exact h
      · replace h := h.2 q5
        refine nw_return l_X10_arriveByHours_32 rfl ?_
        exact h
theorem b_X10_arriveByHours_49 {x2 : Int} {x4 : Int} (hD : 3 ≤ D) (h : ((99 < x4 → Qr none (J, L, W)) ∧ (x4 ≤ 99 → NW sc d_X10_noteArrivals 0 (0, [some (.inr (.inl (some 29))), some (.inr (.inl (some 2))), some (.inl x4), none], [], (J, L, W), 0, 0) (fun v M9 => NW sc d_X10_arriveByHours D (63, [some (.inr (.inl (some 29))), some (.inr (.inl (some 2))), some (.inl x2), none, some (.inl x4), none], nw_push v [], M9, c, sl) Qr Qx) Qx))) :
    NW sc d_X10_arriveByHours D (49, [some (.inr (.inl (some 29))), some (.inr (.inl (some 2))), some (.inl x2), none, some (.inl x4), none], [], (J, L, W), c, sl) Qr Qx := by
  refine nw_iload l_X10_arriveByHours_49 51 rfl rfl ?_
  refine nw_bipush (len := 0) l_X10_arriveByHours_51 53 rfl c_99 ?_
  refine nw_ic_gt l_X10_arriveByHours_53 56 rfl (fun q1 => ?_) (fun q1 => ?_)
  · replace h := h.1 q1
    refine nw_return l_X10_arriveByHours_100 rfl ?_
    exact h
  · replace h := h.2 q1
    refine nw_aload_n l_X10_arriveByHours_56 57 rfl rfl ?_
    refine nw_aload_n l_X10_arriveByHours_57 58 rfl rfl ?_
    refine nw_iload l_X10_arriveByHours_58 60 rfl rfl ?_
    refine nw_call0 0 29 l_X10_arriveByHours_60 rfl rfl g_X10_noteArrivals (Nat.lt_of_lt_of_le (by decide) hD) rfl (Or.inl ⟨_, rfl, k_29⟩) (ls' := [some (.inr (.inl (some 29))), some (.inr (.inl (some 2))), some (.inl x4), none]) rfl (st' := []) rfl 63 rfl ?_
    exact h
theorem b_X10_arriveByHours_63 {x2 : Int} {x4 : Int} (h : NW sc d_X10_arriveByHours D (66, [some (.inr (.inl (some 29))), some (.inr (.inl (some 2))), some (.inl x2), none, some (.inl x4), some (.inl 0)], [], (J, L, W), c, sl) Qr Qx) :
    NW sc d_X10_arriveByHours D (63, [some (.inr (.inl (some 29))), some (.inr (.inl (some 2))), some (.inl x2), none, some (.inl x4), none], [], (J, L, W), c, sl) Qr Qx := by
  refine nw_iconst (len := 0) l_X10_arriveByHours_63 64 rfl c_0 ?_
  refine nw_istore l_X10_arriveByHours_64 66 rfl rfl (ls' := [some (.inr (.inl (some 29))), some (.inr (.inl (some 2))), some (.inl x2), none, some (.inl x4), some (.inl 0)]) rfl ?_
  exact h
theorem b_X10_arriveByHours_66 {x2 : Int} {x4 : Int} {x5 : Int} (hD : 3 ≤ D) (h : ((J 3 1 ≤ x5 → ((-2147483648 ≤ x4 + 1 ∧ x4 + 1 < 2147483648) ∧ NW sc d_X10_arriveByHours D (49, [some (.inr (.inl (some 29))), some (.inr (.inl (some 2))), some (.inl x2), none, some (.inl (x4 + 1)), none], [], (J, L, W), c, sl) Qr Qx)) ∧ (x5 < J 3 1 → NW sc d_X10_sendThrough 2 (0, [some (.inr (.inl (some 29))), some (.inr (.inl (some 2))), some (.inl x2), some (.inl x5), some (.inl x4), none, none, none, none, none, none], [], (J, L, W), 0, 0) (fun v M9 => NW sc d_X10_arriveByHours D (88, [some (.inr (.inl (some 29))), some (.inr (.inl (some 2))), some (.inl x2), none, some (.inl x4), some (.inl x5)], nw_push v [], M9, c, sl) Qr Qx) Qx))) :
    NW sc d_X10_arriveByHours D (66, [some (.inr (.inl (some 29))), some (.inr (.inl (some 2))), some (.inl x2), none, some (.inl x4), some (.inl x5)], [], (J, L, W), c, sl) Qr Qx := by
  refine nw_iload l_X10_arriveByHours_66 68 rfl rfl ?_
  refine nw_aload_n l_X10_arriveByHours_68 69 rfl rfl ?_
  refine nw_getA l_X10_arriveByHours_69 72 rfl k_2 r_2_0 ?_
  refine nw_getI l_X10_arriveByHours_72 75 rfl k_3 (v := J 3 1) rfl ?_
  refine nw_ic_ge l_X10_arriveByHours_75 78 rfl (fun q1 => ?_) (fun q1 => ?_)
  · replace h := h.1 q1
    have o2 := h.1
    replace h := h.2
    refine nw_iinc l_X10_arriveByHours_94 97 rfl 1 (by decide) rfl rfl o2 (ls' := [some (.inr (.inl (some 29))), some (.inr (.inl (some 2))), some (.inl x2), none, some (.inl (x4 + 1)), some (.inl x5)]) rfl ?_
    refine nw_goto l_X10_arriveByHours_97 ?_
    refine nw_drop (ls' := [some (.inr (.inl (some 29))), some (.inr (.inl (some 2))), some (.inl x2), none, some (.inl (x4 + 1)), none]) ⟨rfl, ⟨rfl, ⟨rfl, ⟨True.intro, ⟨rfl, ⟨True.intro, True.intro⟩⟩⟩⟩⟩⟩ ?_
    exact h
  · replace h := h.2 q1
    refine nw_aload_n l_X10_arriveByHours_78 79 rfl rfl ?_
    refine nw_aload_n l_X10_arriveByHours_79 80 rfl rfl ?_
    refine nw_iload_n l_X10_arriveByHours_80 81 rfl rfl ?_
    refine nw_iload l_X10_arriveByHours_81 83 rfl rfl ?_
    refine nw_iload l_X10_arriveByHours_83 85 rfl rfl ?_
    refine nw_call0 2 29 l_X10_arriveByHours_85 rfl rfl g_X10_sendThrough (Nat.lt_of_lt_of_le (by decide) hD) rfl (Or.inl ⟨_, rfl, k_29⟩) (ls' := [some (.inr (.inl (some 29))), some (.inr (.inl (some 2))), some (.inl x2), some (.inl x5), some (.inl x4), none, none, none, none, none, none]) rfl (st' := []) rfl 88 rfl ?_
    exact h
theorem b_X10_arriveByHours_88 {x2 : Int} {x4 : Int} {x5 : Int} (h : ((-2147483648 ≤ x5 + 1 ∧ x5 + 1 < 2147483648) ∧ NW sc d_X10_arriveByHours D (66, [some (.inr (.inl (some 29))), some (.inr (.inl (some 2))), some (.inl x2), none, some (.inl x4), some (.inl (x5 + 1))], [], (J, L, W), c, sl) Qr Qx)) :
    NW sc d_X10_arriveByHours D (88, [some (.inr (.inl (some 29))), some (.inr (.inl (some 2))), some (.inl x2), none, some (.inl x4), some (.inl x5)], [], (J, L, W), c, sl) Qr Qx := by
  have o1 := h.1
  replace h := h.2
  refine nw_iinc l_X10_arriveByHours_88 91 rfl 1 (by decide) rfl rfl o1 (ls' := [some (.inr (.inl (some 29))), some (.inr (.inl (some 2))), some (.inl x2), none, some (.inl x4), some (.inl (x5 + 1))]) rfl ?_
  refine nw_goto l_X10_arriveByHours_91 ?_
  exact h
theorem b_X10_arriveByQueue_0 {x2 : Int} (hD : 4 ≤ D) (h : NW sc d_J7_fill_53178 0 (0, [some (.inr (.inl (some 38))), some (.inl (-1)), none, none], [], (J, L, W), 0, 0) (fun v M9 => NW sc d_X10_arriveByQueue D (8, [some (.inr (.inl (some 29))), some (.inr (.inl (some 2))), some (.inl x2), none, none, none], nw_push v [], M9, c, sl) Qr Qx) Qx) :
    NW sc d_X10_arriveByQueue D (0, [some (.inr (.inl (some 29))), some (.inr (.inl (some 2))), some (.inl x2), none, none, none], [], (J, L, W), c, sl) Qr Qx := by
  refine nw_aload_n l_X10_arriveByQueue_0 1 rfl rfl ?_
  refine nw_getA l_X10_arriveByQueue_1 4 rfl k_29 r_29_2 ?_
  refine nw_iconst (len := 0) l_X10_arriveByQueue_4 5 rfl c_n1 ?_
  refine nw_call0 0 0 l_X10_arriveByQueue_5 rfl rfl g_J7_fill_53178 (Nat.lt_of_lt_of_le (by decide) hD) rfl True.intro (ls' := [some (.inr (.inl (some 38))), some (.inl (-1)), none, none]) rfl (st' := []) rfl 8 rfl ?_
  exact h
theorem b_X10_arriveByQueue_8 {x2 : Int} (hD : 4 ≤ D) (h : ((0 ≤ x2 ∧ x2 < 3) ∧ ((J 11 x2 = (-1) → ((-2147483648 ≤ (J 2 3) + 0 ∧ (J 2 3) + 0 < 2147483648) ∧ NW sc d_X2_put 0 (0, [some (.inr (.inl (some 40))), some (.inl (J 10 x2)), some (.inl ((J 2 3) + 0)), none], [], (nw_u J 40 1 0, L, W), 0, 0) (fun v M9 => NW sc d_X10_arriveByQueue D (39, [some (.inr (.inl (some 29))), some (.inr (.inl (some 2))), some (.inl x2), none, none, none], nw_push v [], M9, c, sl) Qr Qx) Qx)) ∧ (¬ J 11 x2 = (-1) → ((-2147483648 ≤ (J 12 x2) - (J 2 3) ∧ (J 12 x2) - (J 2 3) < 2147483648) ∧ ((-2147483648 ≤ (J 2 3) + ((J 12 x2) - (J 2 3)) ∧ (J 2 3) + ((J 12 x2) - (J 2 3)) < 2147483648) ∧ NW sc d_X2_put 0 (0, [some (.inr (.inl (some 40))), some (.inl (J 11 x2)), some (.inl ((J 2 3) + ((J 12 x2) - (J 2 3)))), none], [], (nw_u J 40 1 0, L, W), 0, 0) (fun v M9 => NW sc d_X10_arriveByQueue D (39, [some (.inr (.inl (some 29))), some (.inr (.inl (some 2))), some (.inl x2), none, none, none], nw_push v [], M9, c, sl) Qr Qx) Qx)))))) :
    NW sc d_X10_arriveByQueue D (8, [some (.inr (.inl (some 29))), some (.inr (.inl (some 2))), some (.inl x2), none, none, none], [], (J, L, W), c, sl) Qr Qx := by
  refine nw_aload_n l_X10_arriveByQueue_8 9 rfl rfl ?_
  refine nw_getI l_X10_arriveByQueue_9 12 rfl k_2 (v := J 2 3) rfl ?_
  refine nw_istore_n l_X10_arriveByQueue_12 13 rfl rfl (ls' := [some (.inr (.inl (some 29))), some (.inr (.inl (some 2))), some (.inl x2), some (.inl (J 2 3)), none, none]) rfl ?_
  refine nw_aload_n l_X10_arriveByQueue_13 14 rfl rfl ?_
  refine nw_getA l_X10_arriveByQueue_14 17 rfl k_29 r_29_4 ?_
  refine nw_call0 0 40 l_X10_arriveByQueue_17 rfl rfl g_X2_reset (Nat.lt_of_lt_of_le (by decide) hD) rfl (Or.inl ⟨_, rfl, k_40⟩) (ls' := [some (.inr (.inl (some 40)))]) rfl (st' := []) rfl 20 rfl ?_
  refine nw_aload_n l_X2_reset_0 1 rfl rfl ?_
  refine nw_iconst (len := 0) l_X2_reset_1 2 rfl c_0 ?_
  refine nw_putI l_X2_reset_2 5 rfl k_40 ?_
  refine nw_return l_X2_reset_5 rfl ?_
  refine nw_aload_n l_X10_arriveByQueue_20 21 rfl rfl ?_
  refine nw_getA l_X10_arriveByQueue_21 24 rfl k_29 r_29_4 ?_
  refine nw_aload_n l_X10_arriveByQueue_24 25 rfl rfl ?_
  refine nw_iload_n l_X10_arriveByQueue_25 26 rfl rfl ?_
  refine nw_call0 1 2 l_X10_arriveByQueue_26 rfl rfl g_X8_nextCrater (Nat.lt_of_lt_of_le (by decide) hD) rfl (Or.inl ⟨_, rfl, k_2⟩) (ls' := [some (.inr (.inl (some 2))), some (.inl x2)]) rfl (st' := [.inr (.inl (some 40))]) rfl 29 rfl ?_
  refine nw_aload_n l_X8_nextCrater_0 1 rfl rfl ?_
  refine nw_getA l_X8_nextCrater_1 4 rfl k_2 r_2_1 ?_
  refine nw_iload_n l_X8_nextCrater_4 5 rfl rfl ?_
  refine nw_call0 0 9 l_X8_nextCrater_5 rfl rfl g_X4_underWay (by decide) rfl (Or.inl ⟨_, rfl, k_9⟩) (ls' := [some (.inr (.inl (some 9))), some (.inl x2)]) rfl (st' := []) rfl 8 rfl ?_
  refine nw_aload_n l_X4_underWay_0 1 rfl rfl ?_
  refine nw_getA l_X4_underWay_1 4 rfl k_9 r_9_2 ?_
  refine nw_iload_n l_X4_underWay_4 5 rfl rfl ?_
  have o1 := h.1
  replace h := h.2
  refine nw_iald l_X4_underWay_5 6 rfl k_11 o1 (v := J 11 x2) (show nw_u J 40 1 0 11 x2 = J 11 x2 from (nw_uN (a := 40) (b := 11) (by decide))) ?_
  refine nw_iconst (len := 0) l_X4_underWay_6 7 rfl c_n1 ?_
  refine nw_ic_eq l_X4_underWay_7 10 rfl (fun q2 => ?_) (fun q2 => ?_)
  · replace h := h.1 q2
    refine nw_iconst (len := 0) l_X4_underWay_14 15 rfl c_0 ?_
    refine nw_ireturnZ l_X4_underWay_15 rfl (Or.inl rfl) ?_
    refine nw_if_eq l_X8_nextCrater_8 11 rfl (fun _ => ?_) (fun q => absurd q (by decide))
    refine nw_aload_n l_X8_nextCrater_23 24 rfl rfl ?_
    refine nw_getA l_X8_nextCrater_24 27 rfl k_2 r_2_1 ?_
    refine nw_getA l_X8_nextCrater_27 30 rfl k_9 r_9_1 ?_
    refine nw_iload_n l_X8_nextCrater_30 31 rfl rfl ?_
    refine nw_iald l_X8_nextCrater_31 32 rfl k_10 o1 (v := J 10 x2) (show nw_u J 40 1 0 10 x2 = J 10 x2 from (nw_uN (a := 40) (b := 10) (by decide))) ?_
    refine nw_ireturn l_X8_nextCrater_32 rfl ?_
    refine nw_iload_n l_X10_arriveByQueue_29 30 rfl rfl ?_
    refine nw_aload_n l_X10_arriveByQueue_30 31 rfl rfl ?_
    refine nw_iload_n l_X10_arriveByQueue_31 32 rfl rfl ?_
    refine nw_call0 1 2 l_X10_arriveByQueue_32 rfl rfl g_X8_hoursUntilAshore (Nat.lt_of_lt_of_le (by decide) hD) rfl (Or.inl ⟨_, rfl, k_2⟩) (ls' := [some (.inr (.inl (some 2))), some (.inl x2)]) rfl (st' := [.inl (J 2 3), .inl (J 10 x2), .inr (.inl (some 40))]) rfl 35 rfl ?_
    refine nw_aload_n l_X8_hoursUntilAshore_0 1 rfl rfl ?_
    refine nw_getA l_X8_hoursUntilAshore_1 4 rfl k_2 r_2_1 ?_
    refine nw_iload_n l_X8_hoursUntilAshore_4 5 rfl rfl ?_
    refine nw_call0 0 9 l_X8_hoursUntilAshore_5 rfl rfl g_X4_underWay (by decide) rfl (Or.inl ⟨_, rfl, k_9⟩) (ls' := [some (.inr (.inl (some 9))), some (.inl x2)]) rfl (st' := []) rfl 8 rfl ?_
    refine nw_aload_n l_X4_underWay_0 1 rfl rfl ?_
    refine nw_getA l_X4_underWay_1 4 rfl k_9 r_9_2 ?_
    refine nw_iload_n l_X4_underWay_4 5 rfl rfl ?_
    refine nw_iald l_X4_underWay_5 6 rfl k_11 o1 (v := J 11 x2) (show nw_u J 40 1 0 11 x2 = J 11 x2 from (nw_uN (a := 40) (b := 11) (by decide))) ?_
    refine nw_iconst (len := 0) l_X4_underWay_6 7 rfl c_n1 ?_
    refine nw_ic_eq l_X4_underWay_7 10 rfl (fun _ => ?_) (fun q => absurd q (by omega))
    refine nw_iconst (len := 0) l_X4_underWay_14 15 rfl c_0 ?_
    refine nw_ireturnZ l_X4_underWay_15 rfl (Or.inl rfl) ?_
    refine nw_if_eq l_X8_hoursUntilAshore_8 11 rfl (fun _ => ?_) (fun q => absurd q (by decide))
    refine nw_iconst (len := 0) l_X8_hoursUntilAshore_28 29 rfl c_0 ?_
    refine nw_ireturn l_X8_hoursUntilAshore_29 rfl ?_
    have o3 := h.1
    replace h := h.2
    refine nw_iadd l_X10_arriveByQueue_35 36 rfl o3 ?_
    refine nw_drop (ls' := [some (.inr (.inl (some 29))), some (.inr (.inl (some 2))), some (.inl x2), none, none, none]) ⟨rfl, ⟨rfl, ⟨rfl, ⟨True.intro, ⟨True.intro, ⟨True.intro, True.intro⟩⟩⟩⟩⟩⟩ ?_
    refine nw_call0 0 40 l_X10_arriveByQueue_36 rfl rfl g_X2_put (Nat.lt_of_lt_of_le (by decide) hD) rfl (Or.inl ⟨_, rfl, k_40⟩) (ls' := [some (.inr (.inl (some 40))), some (.inl (J 10 x2)), some (.inl ((J 2 3) + 0)), none]) rfl (st' := []) rfl 39 rfl ?_
    exact h
  · replace h := h.2 q2
    refine nw_iconst (len := 0) l_X4_underWay_10 11 rfl c_1 ?_
    refine nw_goto l_X4_underWay_11 ?_
    refine nw_ireturnZ l_X4_underWay_15 rfl (Or.inr rfl) ?_
    refine nw_if_eq l_X8_nextCrater_8 11 rfl (fun q => absurd q (by decide)) (fun _ => ?_)
    refine nw_aload_n l_X8_nextCrater_11 12 rfl rfl ?_
    refine nw_getA l_X8_nextCrater_12 15 rfl k_2 r_2_1 ?_
    refine nw_getA l_X8_nextCrater_15 18 rfl k_9 r_9_2 ?_
    refine nw_iload_n l_X8_nextCrater_18 19 rfl rfl ?_
    refine nw_iald l_X8_nextCrater_19 20 rfl k_11 o1 (v := J 11 x2) (show nw_u J 40 1 0 11 x2 = J 11 x2 from (nw_uN (a := 40) (b := 11) (by decide))) ?_
    refine nw_goto l_X8_nextCrater_20 ?_
    refine nw_ireturn l_X8_nextCrater_32 rfl ?_
    refine nw_iload_n l_X10_arriveByQueue_29 30 rfl rfl ?_
    refine nw_aload_n l_X10_arriveByQueue_30 31 rfl rfl ?_
    refine nw_iload_n l_X10_arriveByQueue_31 32 rfl rfl ?_
    refine nw_call0 1 2 l_X10_arriveByQueue_32 rfl rfl g_X8_hoursUntilAshore (Nat.lt_of_lt_of_le (by decide) hD) rfl (Or.inl ⟨_, rfl, k_2⟩) (ls' := [some (.inr (.inl (some 2))), some (.inl x2)]) rfl (st' := [.inl (J 2 3), .inl (J 11 x2), .inr (.inl (some 40))]) rfl 35 rfl ?_
    refine nw_aload_n l_X8_hoursUntilAshore_0 1 rfl rfl ?_
    refine nw_getA l_X8_hoursUntilAshore_1 4 rfl k_2 r_2_1 ?_
    refine nw_iload_n l_X8_hoursUntilAshore_4 5 rfl rfl ?_
    refine nw_call0 0 9 l_X8_hoursUntilAshore_5 rfl rfl g_X4_underWay (by decide) rfl (Or.inl ⟨_, rfl, k_9⟩) (ls' := [some (.inr (.inl (some 9))), some (.inl x2)]) rfl (st' := []) rfl 8 rfl ?_
    refine nw_aload_n l_X4_underWay_0 1 rfl rfl ?_
    refine nw_getA l_X4_underWay_1 4 rfl k_9 r_9_2 ?_
    refine nw_iload_n l_X4_underWay_4 5 rfl rfl ?_
    refine nw_iald l_X4_underWay_5 6 rfl k_11 o1 (v := J 11 x2) (show nw_u J 40 1 0 11 x2 = J 11 x2 from (nw_uN (a := 40) (b := 11) (by decide))) ?_
    refine nw_iconst (len := 0) l_X4_underWay_6 7 rfl c_n1 ?_
    refine nw_ic_eq l_X4_underWay_7 10 rfl (fun q => absurd q (by omega)) (fun _ => ?_)
    refine nw_iconst (len := 0) l_X4_underWay_10 11 rfl c_1 ?_
    refine nw_goto l_X4_underWay_11 ?_
    refine nw_ireturnZ l_X4_underWay_15 rfl (Or.inr rfl) ?_
    refine nw_if_eq l_X8_hoursUntilAshore_8 11 rfl (fun q => absurd q (by decide)) (fun _ => ?_)
    refine nw_aload_n l_X8_hoursUntilAshore_11 12 rfl rfl ?_
    refine nw_getA l_X8_hoursUntilAshore_12 15 rfl k_2 r_2_1 ?_
    refine nw_getA l_X8_hoursUntilAshore_15 18 rfl k_9 r_9_3 ?_
    refine nw_iload_n l_X8_hoursUntilAshore_18 19 rfl rfl ?_
    refine nw_iald l_X8_hoursUntilAshore_19 20 rfl k_12 o1 (v := J 12 x2) (show nw_u J 40 1 0 12 x2 = J 12 x2 from (nw_uN (a := 40) (b := 12) (by decide))) ?_
    refine nw_aload_n l_X8_hoursUntilAshore_20 21 rfl rfl ?_
    refine nw_getI l_X8_hoursUntilAshore_21 24 rfl k_2 (v := J 2 3) (show nw_u J 40 1 0 2 3 = J 2 3 from (nw_uN (a := 40) (b := 2) (by decide))) ?_
    have o4 := h.1
    replace h := h.2
    refine nw_isub l_X8_hoursUntilAshore_24 25 rfl o4 ?_
    refine nw_goto l_X8_hoursUntilAshore_25 ?_
    refine nw_ireturn l_X8_hoursUntilAshore_29 rfl ?_
    have o5 := h.1
    replace h := h.2
    refine nw_iadd l_X10_arriveByQueue_35 36 rfl o5 ?_
    refine nw_drop (ls' := [some (.inr (.inl (some 29))), some (.inr (.inl (some 2))), some (.inl x2), none, none, none]) ⟨rfl, ⟨rfl, ⟨rfl, ⟨True.intro, ⟨True.intro, ⟨True.intro, True.intro⟩⟩⟩⟩⟩⟩ ?_
    refine nw_call0 0 40 l_X10_arriveByQueue_36 rfl rfl g_X2_put (Nat.lt_of_lt_of_le (by decide) hD) rfl (Or.inl ⟨_, rfl, k_40⟩) (ls' := [some (.inr (.inl (some 40))), some (.inl (J 11 x2)), some (.inl ((J 2 3) + ((J 12 x2) - (J 2 3)))), none]) rfl (st' := []) rfl 39 rfl ?_
    exact h
theorem b_X10_arriveByQueue_39 {x2 : Int} (h : NW sc d_X10_arriveByQueue D (42, [some (.inr (.inl (some 29))), some (.inr (.inl (some 2))), some (.inl x2), none, some (.inl 0), none], [], (J, L, W), c, sl) Qr Qx) :
    NW sc d_X10_arriveByQueue D (39, [some (.inr (.inl (some 29))), some (.inr (.inl (some 2))), some (.inl x2), none, none, none], [], (J, L, W), c, sl) Qr Qx := by
  refine nw_iconst (len := 0) l_X10_arriveByQueue_39 40 rfl c_0 ?_
  refine nw_istore l_X10_arriveByQueue_40 42 rfl rfl (ls' := [some (.inr (.inl (some 29))), some (.inr (.inl (some 2))), some (.inl x2), none, some (.inl 0), none]) rfl ?_
  exact h
theorem b_X10_arriveByQueue_42 {x2 : Int} {x4 : Int} (hD : 4 ≤ D) (h : ((21 ≤ x4 → Qr none (J, L, W)) ∧ (x4 < 21 → NW sc d_X2_take 0 (0, [some (.inr (.inl (some 40)))], [], (J, L, W), 0, 0) (fun v M9 => NW sc d_X10_arriveByQueue D (56, [some (.inr (.inl (some 29))), some (.inr (.inl (some 2))), some (.inl x2), none, some (.inl x4), none], nw_push v [], M9, c, sl) Qr Qx) Qx))) :
    NW sc d_X10_arriveByQueue D (42, [some (.inr (.inl (some 29))), some (.inr (.inl (some 2))), some (.inl x2), none, some (.inl x4), none], [], (J, L, W), c, sl) Qr Qx := by
  refine nw_iload l_X10_arriveByQueue_42 44 rfl rfl ?_
  refine nw_bipush (len := 0) l_X10_arriveByQueue_44 46 rfl c_21 ?_
  refine nw_ic_ge l_X10_arriveByQueue_46 49 rfl (fun q1 => ?_) (fun q1 => ?_)
  · replace h := h.1 q1
    refine nw_return l_X10_arriveByQueue_104 rfl ?_
    exact h
  · replace h := h.2 q1
    refine nw_aload_n l_X10_arriveByQueue_49 50 rfl rfl ?_
    refine nw_getA l_X10_arriveByQueue_50 53 rfl k_29 r_29_4 ?_
    refine nw_call0 0 40 l_X10_arriveByQueue_53 rfl rfl g_X2_take (Nat.lt_of_lt_of_le (by decide) hD) rfl (Or.inl ⟨_, rfl, k_40⟩) (ls' := [some (.inr (.inl (some 40)))]) rfl (st' := []) rfl 56 rfl ?_
    exact h
theorem b_X10_arriveByQueue_56 {x2 : Int} {x4 : Int} {y0 : Int} (hD : 4 ≤ D) (h : ((¬ y0 = (-1) → ((0 ≤ y0 ∧ y0 < 6) ∧ ((¬ J 38 y0 = (-1) → ((-2147483648 ≤ x4 + 1 ∧ x4 + 1 < 2147483648) ∧ NW sc d_X10_arriveByQueue D (42, [some (.inr (.inl (some 29))), some (.inr (.inl (some 2))), some (.inl x2), none, some (.inl (x4 + 1)), none], [], (J, L, W), c, sl) Qr Qx)) ∧ (J 38 y0 = (-1) → NW sc d_X10_queuePassages 3 (0, [some (.inr (.inl (some 29))), some (.inr (.inl (some 2))), some (.inl x2), some (.inl y0), none, none, none, none, none, none, none, none], [], (nw_u J 38 y0 (J 40 0), L, W), 0, 0) (fun v M9 => NW sc d_X10_arriveByQueue D (98, [some (.inr (.inl (some 29))), some (.inr (.inl (some 2))), some (.inl x2), none, some (.inl x4), none], nw_push v [], M9, c, sl) Qr Qx) Qx)))) ∧ (y0 = (-1) → Qr none (J, L, W)))) :
    NW sc d_X10_arriveByQueue D (56, [some (.inr (.inl (some 29))), some (.inr (.inl (some 2))), some (.inl x2), none, some (.inl x4), none], [.inl y0], (J, L, W), c, sl) Qr Qx := by
  refine nw_istore l_X10_arriveByQueue_56 58 rfl rfl (ls' := [some (.inr (.inl (some 29))), some (.inr (.inl (some 2))), some (.inl x2), none, some (.inl x4), some (.inl y0)]) rfl ?_
  refine nw_iload l_X10_arriveByQueue_58 60 rfl rfl ?_
  refine nw_iconst (len := 0) l_X10_arriveByQueue_60 61 rfl c_n1 ?_
  refine nw_ic_ne l_X10_arriveByQueue_61 64 rfl (fun q1 => ?_) (fun q1 => ?_)
  · replace h := h.1 q1
    refine nw_aload_n l_X10_arriveByQueue_65 66 rfl rfl ?_
    refine nw_getA l_X10_arriveByQueue_66 69 rfl k_29 r_29_2 ?_
    refine nw_iload l_X10_arriveByQueue_69 71 rfl rfl ?_
    have o2 := h.1
    replace h := h.2
    refine nw_iald l_X10_arriveByQueue_71 72 rfl k_38 o2 (v := J 38 y0) rfl ?_
    refine nw_iconst (len := 0) l_X10_arriveByQueue_72 73 rfl c_n1 ?_
    refine nw_ic_ne l_X10_arriveByQueue_73 76 rfl (fun q3 => ?_) (fun q3 => ?_)
    · replace h := h.1 q3
      have o4 := h.1
      replace h := h.2
      refine nw_iinc l_X10_arriveByQueue_98 101 rfl 1 (by decide) rfl rfl o4 (ls' := [some (.inr (.inl (some 29))), some (.inr (.inl (some 2))), some (.inl x2), none, some (.inl (x4 + 1)), some (.inl y0)]) rfl ?_
      refine nw_goto l_X10_arriveByQueue_101 ?_
      refine nw_drop (ls' := [some (.inr (.inl (some 29))), some (.inr (.inl (some 2))), some (.inl x2), none, some (.inl (x4 + 1)), none]) ⟨rfl, ⟨rfl, ⟨rfl, ⟨True.intro, ⟨rfl, ⟨True.intro, True.intro⟩⟩⟩⟩⟩⟩ ?_
      exact h
    · replace h := h.2 q3
      refine nw_aload_n l_X10_arriveByQueue_76 77 rfl rfl ?_
      refine nw_getA l_X10_arriveByQueue_77 80 rfl k_29 r_29_2 ?_
      refine nw_iload l_X10_arriveByQueue_80 82 rfl rfl ?_
      refine nw_aload_n l_X10_arriveByQueue_82 83 rfl rfl ?_
      refine nw_getA l_X10_arriveByQueue_83 86 rfl k_29 r_29_4 ?_
      refine nw_getI l_X10_arriveByQueue_86 89 rfl k_40 (v := J 40 0) rfl ?_
      refine nw_iast l_X10_arriveByQueue_89 90 rfl k_38 o2 ?_
      refine nw_aload_n l_X10_arriveByQueue_90 91 rfl rfl ?_
      refine nw_aload_n l_X10_arriveByQueue_91 92 rfl rfl ?_
      refine nw_iload_n l_X10_arriveByQueue_92 93 rfl rfl ?_
      refine nw_iload l_X10_arriveByQueue_93 95 rfl rfl ?_
      refine nw_drop (ls' := [some (.inr (.inl (some 29))), some (.inr (.inl (some 2))), some (.inl x2), none, some (.inl x4), none]) ⟨rfl, ⟨rfl, ⟨rfl, ⟨True.intro, ⟨rfl, ⟨True.intro, True.intro⟩⟩⟩⟩⟩⟩ ?_
      refine nw_call0 3 29 l_X10_arriveByQueue_95 rfl rfl g_X10_queuePassages (Nat.lt_of_lt_of_le (by decide) hD) rfl (Or.inl ⟨_, rfl, k_29⟩) (ls' := [some (.inr (.inl (some 29))), some (.inr (.inl (some 2))), some (.inl x2), some (.inl y0), none, none, none, none, none, none, none, none]) rfl (st' := []) rfl 98 rfl ?_
      exact h
  · replace h := h.2 q1
    refine nw_return l_X10_arriveByQueue_64 rfl ?_
    exact h
theorem b_X10_arriveByQueue_98 {x2 : Int} {x4 : Int} (h : ((-2147483648 ≤ x4 + 1 ∧ x4 + 1 < 2147483648) ∧ NW sc d_X10_arriveByQueue D (42, [some (.inr (.inl (some 29))), some (.inr (.inl (some 2))), some (.inl x2), none, some (.inl (x4 + 1)), none], [], (J, L, W), c, sl) Qr Qx)) :
    NW sc d_X10_arriveByQueue D (98, [some (.inr (.inl (some 29))), some (.inr (.inl (some 2))), some (.inl x2), none, some (.inl x4), none], [], (J, L, W), c, sl) Qr Qx := by
  have o1 := h.1
  replace h := h.2
  refine nw_iinc l_X10_arriveByQueue_98 101 rfl 1 (by decide) rfl rfl o1 (ls' := [some (.inr (.inl (some 29))), some (.inr (.inl (some 2))), some (.inl x2), none, some (.inl (x4 + 1)), none]) rfl ?_
  refine nw_goto l_X10_arriveByQueue_101 ?_
  exact h
theorem b_X10_fillTable_0  (h : NW sc d_X10_fillTable D (2, [some (.inr (.inl (some 29))), some (.inr (.inl (some 3))), some (.inl 0), none, none], [], (J, L, W), c, sl) Qr Qx) :
    NW sc d_X10_fillTable D (0, [some (.inr (.inl (some 29))), some (.inr (.inl (some 3))), none, none, none], [], (J, L, W), c, sl) Qr Qx := by
  refine nw_iconst (len := 0) l_X10_fillTable_0 1 rfl c_0 ?_
  refine nw_istore_n l_X10_fillTable_1 2 rfl rfl (ls' := [some (.inr (.inl (some 29))), some (.inr (.inl (some 3))), some (.inl 0), none, none]) rfl ?_
  exact h
theorem b_X10_fillTable_2 {x2 : Int} (hD : 1 ≤ D) (h : ((6 ≤ x2 → NW sc d_X10_fillTable D (35, [some (.inr (.inl (some 29))), some (.inr (.inl (some 3))), some (.inl 0), none, none], [], (J, L, W), c, sl) Qr Qx) ∧ (x2 < 6 → ((0 ≤ x2 ∧ x2 < 6) ∧ NW sc d_J7_fill_53178 0 (0, [some (.inr (.inl (some (32 + x2.toNat)))), some (.inl (-1)), none, none], [], (J, L, W), 0, 0) (fun v M9 => NW sc d_X10_fillTable D (18, [some (.inr (.inl (some 29))), some (.inr (.inl (some 3))), some (.inl x2), none, none], nw_push v [], M9, c, sl) Qr Qx) Qx)))) :
    NW sc d_X10_fillTable D (2, [some (.inr (.inl (some 29))), some (.inr (.inl (some 3))), some (.inl x2), none, none], [], (J, L, W), c, sl) Qr Qx := by
  refine nw_iload_n l_X10_fillTable_2 3 rfl rfl ?_
  refine nw_bipush (len := 0) l_X10_fillTable_3 5 rfl c_6 ?_
  refine nw_ic_ge l_X10_fillTable_5 8 rfl (fun q1 => ?_) (fun q1 => ?_)
  · replace h := h.1 q1
    refine nw_iconst (len := 0) l_X10_fillTable_33 34 rfl c_0 ?_
    refine nw_istore_n l_X10_fillTable_34 35 rfl rfl (ls' := [some (.inr (.inl (some 29))), some (.inr (.inl (some 3))), some (.inl 0), none, none]) rfl ?_
    exact h
  · replace h := h.2 q1
    refine nw_aload_n l_X10_fillTable_8 9 rfl rfl ?_
    refine nw_getA l_X10_fillTable_9 12 rfl k_29 r_29_1 ?_
    refine nw_iload_n l_X10_fillTable_12 13 rfl rfl ?_
    have o2 := h.1
    replace h := h.2
    refine nw_aald l_X10_fillTable_13 14 rfl k_31 (Or.inr rfl) o2 (nw_tabR o2) ?_
    refine nw_iconst (len := 0) l_X10_fillTable_14 15 rfl c_n1 ?_
    refine nw_call0 0 0 l_X10_fillTable_15 rfl rfl g_J7_fill_53178 (Nat.lt_of_lt_of_le (by decide) hD) rfl True.intro (ls' := [some (.inr (.inl (some (32 + x2.toNat)))), some (.inl (-1)), none, none]) rfl (st' := []) rfl 18 rfl ?_
    exact h
theorem b_X10_fillTable_35 {x2 : Int} (h : ((J 3 1 ≤ x2 → NW sc d_X10_fillTable D (96, [some (.inr (.inl (some 29))), some (.inr (.inl (some 3))), some (.inl 0), none, none], [], (J, L, W), c, sl) Qr Qx) ∧ (x2 < J 3 1 → ((0 ≤ x2 ∧ x2 < 10) ∧ ((0 ≤ J 5 x2 ∧ J 5 x2 < 6) ∧ ((0 ≤ J 6 x2 ∧ J 6 x2 < 6) ∧ ((-2147483648 ≤ x2 + 1 ∧ x2 + 1 < 2147483648) ∧ NW sc d_X10_fillTable D (35, [some (.inr (.inl (some 29))), some (.inr (.inl (some 3))), some (.inl (x2 + 1)), none, none], [], (nw_u (nw_u J (32 + (J 5 x2).toNat) (J 6 x2) (J 7 x2)) (32 + (J 6 x2).toNat) (J 5 x2) ((nw_u J (32 + (J 5 x2).toNat) (J 6 x2) (J 7 x2)) 7 x2), L, W), c, sl) Qr Qx))))))) :
    NW sc d_X10_fillTable D (35, [some (.inr (.inl (some 29))), some (.inr (.inl (some 3))), some (.inl x2), none, none], [], (J, L, W), c, sl) Qr Qx := by
  refine nw_iload_n l_X10_fillTable_35 36 rfl rfl ?_
  refine nw_aload_n l_X10_fillTable_36 37 rfl rfl ?_
  refine nw_getI l_X10_fillTable_37 40 rfl k_3 (v := J 3 1) rfl ?_
  refine nw_ic_ge l_X10_fillTable_40 43 rfl (fun q1 => ?_) (fun q1 => ?_)
  · replace h := h.1 q1
    refine nw_iconst (len := 0) l_X10_fillTable_94 95 rfl c_0 ?_
    refine nw_istore_n l_X10_fillTable_95 96 rfl rfl (ls' := [some (.inr (.inl (some 29))), some (.inr (.inl (some 3))), some (.inl 0), none, none]) rfl ?_
    exact h
  · replace h := h.2 q1
    refine nw_aload_n l_X10_fillTable_43 44 rfl rfl ?_
    refine nw_getA l_X10_fillTable_44 47 rfl k_3 r_3_3 ?_
    refine nw_iload_n l_X10_fillTable_47 48 rfl rfl ?_
    have o2 := h.1
    replace h := h.2
    refine nw_iald l_X10_fillTable_48 49 rfl k_5 o2 (v := J 5 x2) rfl ?_
    refine nw_istore_n l_X10_fillTable_49 50 rfl rfl (ls' := [some (.inr (.inl (some 29))), some (.inr (.inl (some 3))), some (.inl x2), some (.inl (J 5 x2)), none]) rfl ?_
    refine nw_aload_n l_X10_fillTable_50 51 rfl rfl ?_
    refine nw_getA l_X10_fillTable_51 54 rfl k_3 r_3_4 ?_
    refine nw_iload_n l_X10_fillTable_54 55 rfl rfl ?_
    refine nw_iald l_X10_fillTable_55 56 rfl k_6 o2 (v := J 6 x2) rfl ?_
    refine nw_istore l_X10_fillTable_56 58 rfl rfl (ls' := [some (.inr (.inl (some 29))), some (.inr (.inl (some 3))), some (.inl x2), some (.inl (J 5 x2)), some (.inl (J 6 x2))]) rfl ?_
    refine nw_aload_n l_X10_fillTable_58 59 rfl rfl ?_
    refine nw_getA l_X10_fillTable_59 62 rfl k_29 r_29_1 ?_
    refine nw_iload_n l_X10_fillTable_62 63 rfl rfl ?_
    have o3 := h.1
    replace h := h.2
    refine nw_aald l_X10_fillTable_63 64 rfl k_31 (Or.inr rfl) o3 (nw_tabR o3) ?_
    refine nw_iload l_X10_fillTable_64 66 rfl rfl ?_
    refine nw_aload_n l_X10_fillTable_66 67 rfl rfl ?_
    refine nw_getA l_X10_fillTable_67 70 rfl k_3 r_3_5 ?_
    refine nw_iload_n l_X10_fillTable_70 71 rfl rfl ?_
    refine nw_iald l_X10_fillTable_71 72 rfl k_7 o2 (v := J 7 x2) rfl ?_
    have o4 := h.1
    replace h := h.2
    refine nw_iast l_X10_fillTable_72 73 rfl (nw_tabK o3) o4 ?_
    refine nw_aload_n l_X10_fillTable_73 74 rfl rfl ?_
    refine nw_getA l_X10_fillTable_74 77 rfl k_29 r_29_1 ?_
    refine nw_iload l_X10_fillTable_77 79 rfl rfl ?_
    refine nw_aald l_X10_fillTable_79 80 rfl k_31 (Or.inr rfl) o4 (nw_tabR o4) ?_
    refine nw_iload_n l_X10_fillTable_80 81 rfl rfl ?_
    refine nw_aload_n l_X10_fillTable_81 82 rfl rfl ?_
    refine nw_getA l_X10_fillTable_82 85 rfl k_3 r_3_5 ?_
    refine nw_iload_n l_X10_fillTable_85 86 rfl rfl ?_
    refine nw_iald l_X10_fillTable_86 87 rfl k_7 o2 (v := (nw_u J (32 + (J 5 x2).toNat) (J 6 x2) (J 7 x2)) 7 x2) rfl ?_
    refine nw_iast l_X10_fillTable_87 88 rfl (nw_tabK o4) o3 ?_
    have o5 := h.1
    replace h := h.2
    refine nw_iinc l_X10_fillTable_88 91 rfl 1 (by decide) rfl rfl o5 (ls' := [some (.inr (.inl (some 29))), some (.inr (.inl (some 3))), some (.inl (x2 + 1)), some (.inl (J 5 x2)), some (.inl (J 6 x2))]) rfl ?_
    refine nw_goto l_X10_fillTable_91 ?_
    refine nw_drop (ls' := [some (.inr (.inl (some 29))), some (.inr (.inl (some 3))), some (.inl (x2 + 1)), none, none]) ⟨rfl, ⟨rfl, ⟨rfl, ⟨True.intro, ⟨True.intro, True.intro⟩⟩⟩⟩⟩ ?_
    exact h
theorem b_X10_fillTable_18 {x2 : Int} (h : ((0 ≤ x2 ∧ x2 < 6) ∧ ((-2147483648 ≤ x2 + 1 ∧ x2 + 1 < 2147483648) ∧ NW sc d_X10_fillTable D (2, [some (.inr (.inl (some 29))), some (.inr (.inl (some 3))), some (.inl (x2 + 1)), none, none], [], (nw_u J (32 + x2.toNat) x2 0, L, W), c, sl) Qr Qx))) :
    NW sc d_X10_fillTable D (18, [some (.inr (.inl (some 29))), some (.inr (.inl (some 3))), some (.inl x2), none, none], [], (J, L, W), c, sl) Qr Qx := by
  refine nw_aload_n l_X10_fillTable_18 19 rfl rfl ?_
  refine nw_getA l_X10_fillTable_19 22 rfl k_29 r_29_1 ?_
  refine nw_iload_n l_X10_fillTable_22 23 rfl rfl ?_
  have o1 := h.1
  replace h := h.2
  refine nw_aald l_X10_fillTable_23 24 rfl k_31 (Or.inr rfl) o1 (nw_tabR o1) ?_
  refine nw_iload_n l_X10_fillTable_24 25 rfl rfl ?_
  refine nw_iconst (len := 0) l_X10_fillTable_25 26 rfl c_0 ?_
  refine nw_iast l_X10_fillTable_26 27 rfl (nw_tabK o1) o1 ?_
  have o2 := h.1
  replace h := h.2
  refine nw_iinc l_X10_fillTable_27 30 rfl 1 (by decide) rfl rfl o2 (ls' := [some (.inr (.inl (some 29))), some (.inr (.inl (some 3))), some (.inl (x2 + 1)), none, none]) rfl ?_
  refine nw_goto l_X10_fillTable_30 ?_
  exact h
theorem b_X10_fillTable_96 {x2 : Int} (hD : 1 ≤ D) (h : ((J 3 0 ≤ x2 → Qr none (J, L, W)) ∧ (x2 < J 3 0 → NW sc d_X10_shortenOver 0 (0, [some (.inr (.inl (some 29))), some (.inr (.inl (some 3))), some (.inl x2), none, none, none], [], (J, L, W), 0, 0) (fun v M9 => NW sc d_X10_fillTable D (110, [some (.inr (.inl (some 29))), some (.inr (.inl (some 3))), some (.inl x2), none, none], nw_push v [], M9, c, sl) Qr Qx) Qx))) :
    NW sc d_X10_fillTable D (96, [some (.inr (.inl (some 29))), some (.inr (.inl (some 3))), some (.inl x2), none, none], [], (J, L, W), c, sl) Qr Qx := by
  refine nw_iload_n l_X10_fillTable_96 97 rfl rfl ?_
  refine nw_aload_n l_X10_fillTable_97 98 rfl rfl ?_
  refine nw_getI l_X10_fillTable_98 101 rfl k_3 (v := J 3 0) rfl ?_
  refine nw_ic_ge l_X10_fillTable_101 104 rfl (fun q1 => ?_) (fun q1 => ?_)
  · replace h := h.1 q1
    refine nw_return l_X10_fillTable_116 rfl ?_
    exact h
  · replace h := h.2 q1
    refine nw_aload_n l_X10_fillTable_104 105 rfl rfl ?_
    refine nw_aload_n l_X10_fillTable_105 106 rfl rfl ?_
    refine nw_iload_n l_X10_fillTable_106 107 rfl rfl ?_
    refine nw_call0 0 29 l_X10_fillTable_107 rfl rfl g_X10_shortenOver (Nat.lt_of_lt_of_le (by decide) hD) rfl (Or.inl ⟨_, rfl, k_29⟩) (ls' := [some (.inr (.inl (some 29))), some (.inr (.inl (some 3))), some (.inl x2), none, none, none]) rfl (st' := []) rfl 110 rfl ?_
    exact h
theorem b_X10_fillTable_110 {x2 : Int} (h : ((-2147483648 ≤ x2 + 1 ∧ x2 + 1 < 2147483648) ∧ NW sc d_X10_fillTable D (96, [some (.inr (.inl (some 29))), some (.inr (.inl (some 3))), some (.inl (x2 + 1)), none, none], [], (J, L, W), c, sl) Qr Qx)) :
    NW sc d_X10_fillTable D (110, [some (.inr (.inl (some 29))), some (.inr (.inl (some 3))), some (.inl x2), none, none], [], (J, L, W), c, sl) Qr Qx := by
  have o1 := h.1
  replace h := h.2
  refine nw_iinc l_X10_fillTable_110 113 rfl 1 (by decide) rfl rfl o1 (ls' := [some (.inr (.inl (some 29))), some (.inr (.inl (some 3))), some (.inl (x2 + 1)), none, none]) rfl ?_
  refine nw_goto l_X10_fillTable_113 ?_
  exact h
theorem b_X10_hoursToWait_0 {x0 : Int} {x1 : Int} (h : NW sc d_X10_hoursToWait D (2, [some (.inl x0), some (.inl x1), some (.inl 0)], [], (J, L, W), c, sl) Qr Qx) :
    NW sc d_X10_hoursToWait D (0, [some (.inl x0), some (.inl x1), none], [], (J, L, W), c, sl) Qr Qx := by
  refine nw_iconst (len := 0) l_X10_hoursToWait_0 1 rfl c_0 ?_
  refine nw_istore_n l_X10_hoursToWait_1 2 rfl rfl (ls' := [some (.inl x0), some (.inl x1), some (.inl 0)]) rfl ?_
  exact h
theorem b_X10_hoursToWait_2 {x0 : Int} {x1 : Int} {x2 : Int} (hD : 2 ≤ D) (h : ((12 ≤ x2 → Qr (some (.inl (-1))) (J, L, W)) ∧ (x2 < 12 → ((-2147483648 ≤ x0 + x2 ∧ x0 + x2 < 2147483648) ∧ NW sc d_X11_tideIn 1 (0, [some (.inl (x0 + x2)), none], [], (J, L, W), 0, 0) (fun v M9 => NW sc d_X10_hoursToWait D (14, [some (.inl x0), some (.inl x1), some (.inl x2)], nw_push v [], M9, c, sl) Qr Qx) Qx)))) :
    NW sc d_X10_hoursToWait D (2, [some (.inl x0), some (.inl x1), some (.inl x2)], [], (J, L, W), c, sl) Qr Qx := by
  refine nw_iload_n l_X10_hoursToWait_2 3 rfl rfl ?_
  refine nw_bipush (len := 0) l_X10_hoursToWait_3 5 rfl c_12 ?_
  refine nw_ic_ge l_X10_hoursToWait_5 8 rfl (fun q1 => ?_) (fun q1 => ?_)
  · replace h := h.1 q1
    refine nw_iconst (len := 0) l_X10_hoursToWait_26 27 rfl c_n1 ?_
    refine nw_ireturn l_X10_hoursToWait_27 rfl ?_
    exact h
  · replace h := h.2 q1
    refine nw_iload_n l_X10_hoursToWait_8 9 rfl rfl ?_
    refine nw_iload_n l_X10_hoursToWait_9 10 rfl rfl ?_
    have o2 := h.1
    replace h := h.2
    refine nw_iadd l_X10_hoursToWait_10 11 rfl o2 ?_
    refine nw_call0 1 0 l_X10_hoursToWait_11 rfl rfl g_X11_tideIn (Nat.lt_of_lt_of_le (by decide) hD) rfl True.intro (ls' := [some (.inl (x0 + x2)), none]) rfl (st' := []) rfl 14 rfl ?_
    exact h
theorem b_X10_hoursToWait_14 {x0 : Int} {x1 : Int} {x2 : Int} {y0 : Int} (h : ((y0 < x1 → ((-2147483648 ≤ x2 + 1 ∧ x2 + 1 < 2147483648) ∧ NW sc d_X10_hoursToWait D (2, [some (.inl x0), some (.inl x1), some (.inl (x2 + 1))], [], (J, L, W), c, sl) Qr Qx)) ∧ (x1 ≤ y0 → Qr (some (.inl x2)) (J, L, W)))) :
    NW sc d_X10_hoursToWait D (14, [some (.inl x0), some (.inl x1), some (.inl x2)], [.inl y0], (J, L, W), c, sl) Qr Qx := by
  refine nw_iload_n l_X10_hoursToWait_14 15 rfl rfl ?_
  refine nw_ic_lt l_X10_hoursToWait_15 18 rfl (fun q1 => ?_) (fun q1 => ?_)
  · replace h := h.1 q1
    have o2 := h.1
    replace h := h.2
    refine nw_iinc l_X10_hoursToWait_20 23 rfl 1 (by decide) rfl rfl o2 (ls' := [some (.inl x0), some (.inl x1), some (.inl (x2 + 1))]) rfl ?_
    refine nw_goto l_X10_hoursToWait_23 ?_
    exact h
  · replace h := h.2 q1
    refine nw_iload_n l_X10_hoursToWait_18 19 rfl rfl ?_
    refine nw_ireturn l_X10_hoursToWait_19 rfl ?_
    exact h
theorem b_X10_joinGroups_0 {x1 : Int} {x2 : Int} (h : NW sc d_X10_joinGroups D (2, [some (.inr (.inl (some 29))), some (.inl x1), some (.inl x2), some (.inl 0)], [], (J, L, W), c, sl) Qr Qx) :
    NW sc d_X10_joinGroups D (0, [some (.inr (.inl (some 29))), some (.inl x1), some (.inl x2), none], [], (J, L, W), c, sl) Qr Qx := by
  refine nw_iconst (len := 0) l_X10_joinGroups_0 1 rfl c_0 ?_
  refine nw_istore_n l_X10_joinGroups_1 2 rfl rfl (ls' := [some (.inr (.inl (some 29))), some (.inl x1), some (.inl x2), some (.inl 0)]) rfl ?_
  exact h
theorem b_X10_joinGroups_2 {x1 : Int} {x2 : Int} {x3 : Int} (h : ((6 ≤ x3 → Qr none (J, L, W)) ∧ (x3 < 6 → ((0 ≤ x3 ∧ x3 < 6) ∧ ((¬ J 44 x3 = x2 → ((-2147483648 ≤ x3 + 1 ∧ x3 + 1 < 2147483648) ∧ NW sc d_X10_joinGroups D (2, [some (.inr (.inl (some 29))), some (.inl x1), some (.inl x2), some (.inl (x3 + 1))], [], (J, L, W), c, sl) Qr Qx)) ∧ (J 44 x3 = x2 → ((-2147483648 ≤ x3 + 1 ∧ x3 + 1 < 2147483648) ∧ NW sc d_X10_joinGroups D (2, [some (.inr (.inl (some 29))), some (.inl x1), some (.inl x2), some (.inl (x3 + 1))], [], (nw_u J 44 x3 x1, L, W), c, sl) Qr Qx))))))) :
    NW sc d_X10_joinGroups D (2, [some (.inr (.inl (some 29))), some (.inl x1), some (.inl x2), some (.inl x3)], [], (J, L, W), c, sl) Qr Qx := by
  refine nw_iload_n l_X10_joinGroups_2 3 rfl rfl ?_
  refine nw_bipush (len := 0) l_X10_joinGroups_3 5 rfl c_6 ?_
  refine nw_ic_ge l_X10_joinGroups_5 8 rfl (fun q1 => ?_) (fun q1 => ?_)
  · replace h := h.1 q1
    refine nw_return l_X10_joinGroups_31 rfl ?_
    exact h
  · replace h := h.2 q1
    refine nw_aload_n l_X10_joinGroups_8 9 rfl rfl ?_
    refine nw_getA l_X10_joinGroups_9 12 rfl k_29 r_29_6 ?_
    refine nw_iload_n l_X10_joinGroups_12 13 rfl rfl ?_
    have o2 := h.1
    replace h := h.2
    refine nw_iald l_X10_joinGroups_13 14 rfl k_44 o2 (v := J 44 x3) rfl ?_
    refine nw_iload_n l_X10_joinGroups_14 15 rfl rfl ?_
    refine nw_ic_ne l_X10_joinGroups_15 18 rfl (fun q3 => ?_) (fun q3 => ?_)
    · replace h := h.1 q3
      have o4 := h.1
      replace h := h.2
      refine nw_iinc l_X10_joinGroups_25 28 rfl 1 (by decide) rfl rfl o4 (ls' := [some (.inr (.inl (some 29))), some (.inl x1), some (.inl x2), some (.inl (x3 + 1))]) rfl ?_
      refine nw_goto l_X10_joinGroups_28 ?_
      exact h
    · replace h := h.2 q3
      refine nw_aload_n l_X10_joinGroups_18 19 rfl rfl ?_
      refine nw_getA l_X10_joinGroups_19 22 rfl k_29 r_29_6 ?_
      refine nw_iload_n l_X10_joinGroups_22 23 rfl rfl ?_
      refine nw_iload_n l_X10_joinGroups_23 24 rfl rfl ?_
      refine nw_iast l_X10_joinGroups_24 25 rfl k_44 o2 ?_
      have o5 := h.1
      replace h := h.2
      refine nw_iinc l_X10_joinGroups_25 28 rfl 1 (by decide) rfl rfl o5 (ls' := [some (.inr (.inl (some 29))), some (.inl x1), some (.inl x2), some (.inl (x3 + 1))]) rfl ?_
      refine nw_goto l_X10_joinGroups_28 ?_
      exact h
theorem b_X10_netByGrowing_0  (h : NW sc d_X10_netByGrowing D (7, [some (.inr (.inl (some 29))), some (.inr (.inl (some 3))), some (.inl 1), some (.inl 0), some (.inl 1), none], [], (J, L, W), c, sl) Qr Qx) :
    NW sc d_X10_netByGrowing D (0, [some (.inr (.inl (some 29))), some (.inr (.inl (some 3))), none, none, none, none], [], (J, L, W), c, sl) Qr Qx := by
  refine nw_iconst (len := 0) l_X10_netByGrowing_0 1 rfl c_1 ?_
  refine nw_istore_n l_X10_netByGrowing_1 2 rfl rfl (ls' := [some (.inr (.inl (some 29))), some (.inr (.inl (some 3))), some (.inl 1), none, none, none]) rfl ?_
  refine nw_iconst (len := 0) l_X10_netByGrowing_2 3 rfl c_0 ?_
  refine nw_istore_n l_X10_netByGrowing_3 4 rfl rfl (ls' := [some (.inr (.inl (some 29))), some (.inr (.inl (some 3))), some (.inl 1), some (.inl 0), none, none]) rfl ?_
  refine nw_iconst (len := 0) l_X10_netByGrowing_4 5 rfl c_1 ?_
  refine nw_istore l_X10_netByGrowing_5 7 rfl rfl (ls' := [some (.inr (.inl (some 29))), some (.inr (.inl (some 3))), some (.inl 1), some (.inl 0), some (.inl 1), none]) rfl ?_
  exact h
theorem b_X10_netByGrowing_7 {x2 : Int} {x3 : Int} {x4 : Int} (hD : 1 ≤ D) (h : ((J 3 0 ≤ x4 → Qr (some (.inl x3)) (J, L, W)) ∧ (x4 < J 3 0 → NW sc d_X10_shortestOutOf 0 (0, [some (.inr (.inl (some 29))), some (.inr (.inl (some 3))), some (.inl x2), none, none, none, none], [], (J, L, W), 0, 0) (fun v M9 => NW sc d_X10_netByGrowing D (22, [some (.inr (.inl (some 29))), some (.inr (.inl (some 3))), some (.inl x2), some (.inl x3), some (.inl x4), none], nw_push v [], M9, c, sl) Qr Qx) Qx))) :
    NW sc d_X10_netByGrowing D (7, [some (.inr (.inl (some 29))), some (.inr (.inl (some 3))), some (.inl x2), some (.inl x3), some (.inl x4), none], [], (J, L, W), c, sl) Qr Qx := by
  refine nw_iload l_X10_netByGrowing_7 9 rfl rfl ?_
  refine nw_aload_n l_X10_netByGrowing_9 10 rfl rfl ?_
  refine nw_getI l_X10_netByGrowing_10 13 rfl k_3 (v := J 3 0) rfl ?_
  refine nw_ic_ge l_X10_netByGrowing_13 16 rfl (fun q1 => ?_) (fun q1 => ?_)
  · replace h := h.1 q1
    refine nw_iload_n l_X10_netByGrowing_70 71 rfl rfl ?_
    refine nw_ireturn l_X10_netByGrowing_71 rfl ?_
    exact h
  · replace h := h.2 q1
    refine nw_aload_n l_X10_netByGrowing_16 17 rfl rfl ?_
    refine nw_aload_n l_X10_netByGrowing_17 18 rfl rfl ?_
    refine nw_iload_n l_X10_netByGrowing_18 19 rfl rfl ?_
    refine nw_call0 0 29 l_X10_netByGrowing_19 rfl rfl g_X10_shortestOutOf (Nat.lt_of_lt_of_le (by decide) hD) rfl (Or.inl ⟨_, rfl, k_29⟩) (ls' := [some (.inr (.inl (some 29))), some (.inr (.inl (some 3))), some (.inl x2), none, none, none, none]) rfl (st' := []) rfl 22 rfl ?_
    exact h
theorem b_X10_netByGrowing_22 {x2 : Int} {x3 : Int} {x4 : Int} {y0 : Int} (h : ((¬ y0 = (-1) → ((0 ≤ y0 ∧ y0 < 10) ∧ ((-2147483648 ≤ x3 + (J 7 y0) ∧ x3 + (J 7 y0) < 2147483648) ∧ ((-2147483648 ≤ x4 + 1 ∧ x4 + 1 < 2147483648) ∧ NW sc d_X10_netByGrowing D (7, [some (.inr (.inl (some 29))), some (.inr (.inl (some 3))), some (.inl (nw_xior x2 (nw_xior (nw_xishl 1 (J 5 y0)) (nw_xishl 1 (J 6 y0))))), some (.inl (x3 + (J 7 y0))), some (.inl (x4 + 1)), none], [], (J, L, W), c, sl) Qr Qx)))) ∧ (y0 = (-1) → Qr (some (.inl (-1))) (J, L, W)))) :
    NW sc d_X10_netByGrowing D (22, [some (.inr (.inl (some 29))), some (.inr (.inl (some 3))), some (.inl x2), some (.inl x3), some (.inl x4), none], [.inl y0], (J, L, W), c, sl) Qr Qx := by
  refine nw_istore l_X10_netByGrowing_22 24 rfl rfl (ls' := [some (.inr (.inl (some 29))), some (.inr (.inl (some 3))), some (.inl x2), some (.inl x3), some (.inl x4), some (.inl y0)]) rfl ?_
  refine nw_iload l_X10_netByGrowing_24 26 rfl rfl ?_
  refine nw_iconst (len := 0) l_X10_netByGrowing_26 27 rfl c_n1 ?_
  refine nw_ic_ne l_X10_netByGrowing_27 30 rfl (fun q1 => ?_) (fun q1 => ?_)
  · replace h := h.1 q1
    refine nw_iload_n l_X10_netByGrowing_32 33 rfl rfl ?_
    refine nw_iconst (len := 0) l_X10_netByGrowing_33 34 rfl c_1 ?_
    refine nw_aload_n l_X10_netByGrowing_34 35 rfl rfl ?_
    refine nw_getA l_X10_netByGrowing_35 38 rfl k_3 r_3_3 ?_
    refine nw_iload l_X10_netByGrowing_38 40 rfl rfl ?_
    have o2 := h.1
    replace h := h.2
    refine nw_iald l_X10_netByGrowing_40 41 rfl k_5 o2 (v := J 5 y0) rfl ?_
    refine nw_ishl l_X10_netByGrowing_41 42 rfl ?_
    refine nw_iconst (len := 0) l_X10_netByGrowing_42 43 rfl c_1 ?_
    refine nw_aload_n l_X10_netByGrowing_43 44 rfl rfl ?_
    refine nw_getA l_X10_netByGrowing_44 47 rfl k_3 r_3_4 ?_
    refine nw_iload l_X10_netByGrowing_47 49 rfl rfl ?_
    refine nw_iald l_X10_netByGrowing_49 50 rfl k_6 o2 (v := J 6 y0) rfl ?_
    refine nw_ishl l_X10_netByGrowing_50 51 rfl ?_
    refine nw_ior l_X10_netByGrowing_51 52 rfl ?_
    refine nw_ior l_X10_netByGrowing_52 53 rfl ?_
    refine nw_istore_n l_X10_netByGrowing_53 54 rfl rfl (ls' := [some (.inr (.inl (some 29))), some (.inr (.inl (some 3))), some (.inl (nw_xior x2 (nw_xior (nw_xishl 1 (J 5 y0)) (nw_xishl 1 (J 6 y0))))), some (.inl x3), some (.inl x4), some (.inl y0)]) rfl ?_
    refine nw_iload_n l_X10_netByGrowing_54 55 rfl rfl ?_
    refine nw_aload_n l_X10_netByGrowing_55 56 rfl rfl ?_
    refine nw_getA l_X10_netByGrowing_56 59 rfl k_3 r_3_5 ?_
    refine nw_iload l_X10_netByGrowing_59 61 rfl rfl ?_
    refine nw_iald l_X10_netByGrowing_61 62 rfl k_7 o2 (v := J 7 y0) rfl ?_
    have o3 := h.1
    replace h := h.2
    refine nw_iadd l_X10_netByGrowing_62 63 rfl o3 ?_
    refine nw_istore_n l_X10_netByGrowing_63 64 rfl rfl (ls' := [some (.inr (.inl (some 29))), some (.inr (.inl (some 3))), some (.inl (nw_xior x2 (nw_xior (nw_xishl 1 (J 5 y0)) (nw_xishl 1 (J 6 y0))))), some (.inl (x3 + (J 7 y0))), some (.inl x4), some (.inl y0)]) rfl ?_
    have o4 := h.1
    replace h := h.2
    refine nw_iinc l_X10_netByGrowing_64 67 rfl 1 (by decide) rfl rfl o4 (ls' := [some (.inr (.inl (some 29))), some (.inr (.inl (some 3))), some (.inl (nw_xior x2 (nw_xior (nw_xishl 1 (J 5 y0)) (nw_xishl 1 (J 6 y0))))), some (.inl (x3 + (J 7 y0))), some (.inl (x4 + 1)), some (.inl y0)]) rfl ?_
    refine nw_goto l_X10_netByGrowing_67 ?_
    refine nw_drop (ls' := [some (.inr (.inl (some 29))), some (.inr (.inl (some 3))), some (.inl (nw_xior x2 (nw_xior (nw_xishl 1 (J 5 y0)) (nw_xishl 1 (J 6 y0))))), some (.inl (x3 + (J 7 y0))), some (.inl (x4 + 1)), none]) ⟨rfl, ⟨rfl, ⟨rfl, ⟨rfl, ⟨rfl, ⟨True.intro, True.intro⟩⟩⟩⟩⟩⟩ ?_
    exact h
  · replace h := h.2 q1
    refine nw_iconst (len := 0) l_X10_netByGrowing_30 31 rfl c_n1 ?_
    refine nw_ireturn l_X10_netByGrowing_31 rfl ?_
    exact h
theorem b_X10_netByOrder_0  (hD : 1 ≤ D) (h : NW sc d_X10_orderChannels 0 (0, [some (.inr (.inl (some 29))), some (.inr (.inl (some 3))), none, none], [], (J, L, W), 0, 0) (fun v M9 => NW sc d_X10_netByOrder D (5, [some (.inr (.inl (some 29))), some (.inr (.inl (some 3))), none, none, none, none, none, none], nw_push v [], M9, c, sl) Qr Qx) Qx) :
    NW sc d_X10_netByOrder D (0, [some (.inr (.inl (some 29))), some (.inr (.inl (some 3))), none, none, none, none, none, none], [], (J, L, W), c, sl) Qr Qx := by
  refine nw_aload_n l_X10_netByOrder_0 1 rfl rfl ?_
  refine nw_aload_n l_X10_netByOrder_1 2 rfl rfl ?_
  refine nw_call0 0 29 l_X10_netByOrder_2 rfl rfl g_X10_orderChannels (Nat.lt_of_lt_of_le (by decide) hD) rfl (Or.inl ⟨_, rfl, k_29⟩) (ls' := [some (.inr (.inl (some 29))), some (.inr (.inl (some 3))), none, none]) rfl (st' := []) rfl 5 rfl ?_
  exact h
theorem b_X10_netByOrder_5  (h : NW sc d_X10_netByOrder D (7, [some (.inr (.inl (some 29))), some (.inr (.inl (some 3))), some (.inl 0), none, none, none, none, none], [], (J, L, W), c, sl) Qr Qx) :
    NW sc d_X10_netByOrder D (5, [some (.inr (.inl (some 29))), some (.inr (.inl (some 3))), none, none, none, none, none, none], [], (J, L, W), c, sl) Qr Qx := by
  refine nw_iconst (len := 0) l_X10_netByOrder_5 6 rfl c_0 ?_
  refine nw_istore_n l_X10_netByOrder_6 7 rfl rfl (ls' := [some (.inr (.inl (some 29))), some (.inr (.inl (some 3))), some (.inl 0), none, none, none, none, none]) rfl ?_
  exact h
theorem b_X10_netByOrder_7 {x2 : Int} (h : ((J 3 0 ≤ x2 → ((-2147483648 ≤ (J 3 0) - 1 ∧ (J 3 0) - 1 < 2147483648) ∧ NW sc d_X10_netByOrder D (40, [some (.inr (.inl (some 29))), some (.inr (.inl (some 3))), some (.inl 0), some (.inl ((J 3 0) - 1)), some (.inl 0), none, none, none], [], (J, L, W), c, sl) Qr Qx)) ∧ (x2 < J 3 0 → ((0 ≤ x2 ∧ x2 < 6) ∧ ((-2147483648 ≤ x2 + 1 ∧ x2 + 1 < 2147483648) ∧ NW sc d_X10_netByOrder D (7, [some (.inr (.inl (some 29))), some (.inr (.inl (some 3))), some (.inl (x2 + 1)), none, none, none, none, none], [], (nw_u J 44 x2 x2, L, W), c, sl) Qr Qx))))) :
    NW sc d_X10_netByOrder D (7, [some (.inr (.inl (some 29))), some (.inr (.inl (some 3))), some (.inl x2), none, none, none, none, none], [], (J, L, W), c, sl) Qr Qx := by
  refine nw_iload_n l_X10_netByOrder_7 8 rfl rfl ?_
  refine nw_aload_n l_X10_netByOrder_8 9 rfl rfl ?_
  refine nw_getI l_X10_netByOrder_9 12 rfl k_3 (v := J 3 0) rfl ?_
  refine nw_ic_ge l_X10_netByOrder_12 15 rfl (fun q1 => ?_) (fun q1 => ?_)
  · replace h := h.1 q1
    refine nw_iconst (len := 0) l_X10_netByOrder_28 29 rfl c_0 ?_
    refine nw_istore_n l_X10_netByOrder_29 30 rfl rfl (ls' := [some (.inr (.inl (some 29))), some (.inr (.inl (some 3))), some (.inl 0), none, none, none, none, none]) rfl ?_
    refine nw_aload_n l_X10_netByOrder_30 31 rfl rfl ?_
    refine nw_getI l_X10_netByOrder_31 34 rfl k_3 (v := J 3 0) rfl ?_
    refine nw_iconst (len := 0) l_X10_netByOrder_34 35 rfl c_1 ?_
    have o2 := h.1
    replace h := h.2
    refine nw_isub l_X10_netByOrder_35 36 rfl o2 ?_
    refine nw_istore_n l_X10_netByOrder_36 37 rfl rfl (ls' := [some (.inr (.inl (some 29))), some (.inr (.inl (some 3))), some (.inl 0), some (.inl ((J 3 0) - 1)), none, none, none, none]) rfl ?_
    refine nw_iconst (len := 0) l_X10_netByOrder_37 38 rfl c_0 ?_
    refine nw_istore l_X10_netByOrder_38 40 rfl rfl (ls' := [some (.inr (.inl (some 29))), some (.inr (.inl (some 3))), some (.inl 0), some (.inl ((J 3 0) - 1)), some (.inl 0), none, none, none]) rfl ?_
    exact h
  · replace h := h.2 q1
    refine nw_aload_n l_X10_netByOrder_15 16 rfl rfl ?_
    refine nw_getA l_X10_netByOrder_16 19 rfl k_29 r_29_6 ?_
    refine nw_iload_n l_X10_netByOrder_19 20 rfl rfl ?_
    refine nw_iload_n l_X10_netByOrder_20 21 rfl rfl ?_
    have o3 := h.1
    replace h := h.2
    refine nw_iast l_X10_netByOrder_21 22 rfl k_44 o3 ?_
    have o4 := h.1
    replace h := h.2
    refine nw_iinc l_X10_netByOrder_22 25 rfl 1 (by decide) rfl rfl o4 (ls' := [some (.inr (.inl (some 29))), some (.inr (.inl (some 3))), some (.inl (x2 + 1)), none, none, none, none, none]) rfl ?_
    refine nw_goto l_X10_netByOrder_25 ?_
    exact h
theorem b_X10_netByOrder_40 {x2 : Int} {x3 : Int} {x4 : Int} (hD : 1 ≤ D) (h : ((J 3 1 ≤ x4 → ((x3 ≤ 0 → Qr (some (.inl x2)) (J, L, W)) ∧ (0 < x3 → Qr (some (.inl (-1))) (J, L, W)))) ∧ (x4 < J 3 1 → ((0 ≤ x4 ∧ x4 < 10) ∧ ((0 ≤ J 43 x4 ∧ J 43 x4 < 10) ∧ ((0 ≤ J 5 (J 43 x4) ∧ J 5 (J 43 x4) < 6) ∧ ((0 ≤ J 6 (J 43 x4) ∧ J 6 (J 43 x4) < 6) ∧ ((J 44 (J 5 (J 43 x4)) = J 44 (J 6 (J 43 x4)) → ((-2147483648 ≤ x4 + 1 ∧ x4 + 1 < 2147483648) ∧ NW sc d_X10_netByOrder D (40, [some (.inr (.inl (some 29))), some (.inr (.inl (some 3))), some (.inl x2), some (.inl x3), some (.inl (x4 + 1)), none, none, none], [], (J, L, W), c, sl) Qr Qx)) ∧ (¬ J 44 (J 5 (J 43 x4)) = J 44 (J 6 (J 43 x4)) → NW sc d_X10_joinGroups 0 (0, [some (.inr (.inl (some 29))), some (.inl (J 44 (J 5 (J 43 x4)))), some (.inl (J 44 (J 6 (J 43 x4)))), none], [], (J, L, W), 0, 0) (fun v M9 => NW sc d_X10_netByOrder D (101, [some (.inr (.inl (some 29))), some (.inr (.inl (some 3))), some (.inl x2), some (.inl x3), some (.inl x4), some (.inl (J 43 x4)), none, none], nw_push v [], M9, c, sl) Qr Qx) Qx))))))))) :
    NW sc d_X10_netByOrder D (40, [some (.inr (.inl (some 29))), some (.inr (.inl (some 3))), some (.inl x2), some (.inl x3), some (.inl x4), none, none, none], [], (J, L, W), c, sl) Qr Qx := by
  refine nw_iload l_X10_netByOrder_40 42 rfl rfl ?_
  refine nw_aload_n l_X10_netByOrder_42 43 rfl rfl ?_
  refine nw_getI l_X10_netByOrder_43 46 rfl k_3 (v := J 3 1) rfl ?_
  refine nw_ic_ge l_X10_netByOrder_46 49 rfl (fun q1 => ?_) (fun q1 => ?_)
  · replace h := h.1 q1
    refine nw_iload_n l_X10_netByOrder_120 121 rfl rfl ?_
    refine nw_if_le l_X10_netByOrder_121 124 rfl (fun q2 => ?_) (fun q2 => ?_)
    · replace h := h.1 q2
      refine nw_iload_n l_X10_netByOrder_128 129 rfl rfl ?_
      refine nw_ireturn l_X10_netByOrder_129 rfl ?_
      exact h
    · replace h := h.2 q2
      refine nw_iconst (len := 0) l_X10_netByOrder_124 125 rfl c_n1 ?_
      refine nw_goto l_X10_netByOrder_125 ?_
      refine nw_ireturn l_X10_netByOrder_129 rfl ?_
      exact h
  · replace h := h.2 q1
    refine nw_aload_n l_X10_netByOrder_49 50 rfl rfl ?_
    refine nw_getA l_X10_netByOrder_50 53 rfl k_29 r_29_5 ?_
    refine nw_iload l_X10_netByOrder_53 55 rfl rfl ?_
    have o3 := h.1
    replace h := h.2
    refine nw_iald l_X10_netByOrder_55 56 rfl k_43 o3 (v := J 43 x4) rfl ?_
    refine nw_istore l_X10_netByOrder_56 58 rfl rfl (ls' := [some (.inr (.inl (some 29))), some (.inr (.inl (some 3))), some (.inl x2), some (.inl x3), some (.inl x4), some (.inl (J 43 x4)), none, none]) rfl ?_
    refine nw_aload_n l_X10_netByOrder_58 59 rfl rfl ?_
    refine nw_getA l_X10_netByOrder_59 62 rfl k_29 r_29_6 ?_
    refine nw_aload_n l_X10_netByOrder_62 63 rfl rfl ?_
    refine nw_getA l_X10_netByOrder_63 66 rfl k_3 r_3_3 ?_
    refine nw_iload l_X10_netByOrder_66 68 rfl rfl ?_
    have o4 := h.1
    replace h := h.2
    refine nw_iald l_X10_netByOrder_68 69 rfl k_5 o4 (v := J 5 (J 43 x4)) rfl ?_
    have o5 := h.1
    replace h := h.2
    refine nw_iald l_X10_netByOrder_69 70 rfl k_44 o5 (v := J 44 (J 5 (J 43 x4))) rfl ?_
    refine nw_istore l_X10_netByOrder_70 72 rfl rfl (ls' := [some (.inr (.inl (some 29))), some (.inr (.inl (some 3))), some (.inl x2), some (.inl x3), some (.inl x4), some (.inl (J 43 x4)), some (.inl (J 44 (J 5 (J 43 x4)))), none]) rfl ?_
    refine nw_aload_n l_X10_netByOrder_72 73 rfl rfl ?_
    refine nw_getA l_X10_netByOrder_73 76 rfl k_29 r_29_6 ?_
    refine nw_aload_n l_X10_netByOrder_76 77 rfl rfl ?_
    refine nw_getA l_X10_netByOrder_77 80 rfl k_3 r_3_4 ?_
    refine nw_iload l_X10_netByOrder_80 82 rfl rfl ?_
    refine nw_iald l_X10_netByOrder_82 83 rfl k_6 o4 (v := J 6 (J 43 x4)) rfl ?_
    have o6 := h.1
    replace h := h.2
    refine nw_iald l_X10_netByOrder_83 84 rfl k_44 o6 (v := J 44 (J 6 (J 43 x4))) rfl ?_
    refine nw_istore l_X10_netByOrder_84 86 rfl rfl (ls' := [some (.inr (.inl (some 29))), some (.inr (.inl (some 3))), some (.inl x2), some (.inl x3), some (.inl x4), some (.inl (J 43 x4)), some (.inl (J 44 (J 5 (J 43 x4)))), some (.inl (J 44 (J 6 (J 43 x4))))]) rfl ?_
    refine nw_iload l_X10_netByOrder_86 88 rfl rfl ?_
    refine nw_iload l_X10_netByOrder_88 90 rfl rfl ?_
    refine nw_ic_eq l_X10_netByOrder_90 93 rfl (fun q7 => ?_) (fun q7 => ?_)
    · replace h := h.1 q7
      have o8 := h.1
      replace h := h.2
      refine nw_iinc l_X10_netByOrder_114 117 rfl 1 (by decide) rfl rfl o8 (ls' := [some (.inr (.inl (some 29))), some (.inr (.inl (some 3))), some (.inl x2), some (.inl x3), some (.inl (x4 + 1)), some (.inl (J 43 x4)), some (.inl (J 44 (J 5 (J 43 x4)))), some (.inl (J 44 (J 6 (J 43 x4))))]) rfl ?_
      refine nw_goto l_X10_netByOrder_117 ?_
      refine nw_drop (ls' := [some (.inr (.inl (some 29))), some (.inr (.inl (some 3))), some (.inl x2), some (.inl x3), some (.inl (x4 + 1)), none, none, none]) ⟨rfl, ⟨rfl, ⟨rfl, ⟨rfl, ⟨rfl, ⟨True.intro, ⟨True.intro, ⟨True.intro, True.intro⟩⟩⟩⟩⟩⟩⟩⟩ ?_
      exact h
    · replace h := h.2 q7
      refine nw_aload_n l_X10_netByOrder_93 94 rfl rfl ?_
      refine nw_iload l_X10_netByOrder_94 96 rfl rfl ?_
      refine nw_iload l_X10_netByOrder_96 98 rfl rfl ?_
      refine nw_drop (ls' := [some (.inr (.inl (some 29))), some (.inr (.inl (some 3))), some (.inl x2), some (.inl x3), some (.inl x4), some (.inl (J 43 x4)), none, none]) ⟨rfl, ⟨rfl, ⟨rfl, ⟨rfl, ⟨rfl, ⟨rfl, ⟨True.intro, ⟨True.intro, True.intro⟩⟩⟩⟩⟩⟩⟩⟩ ?_
      refine nw_call0 0 29 l_X10_netByOrder_98 rfl rfl g_X10_joinGroups (Nat.lt_of_lt_of_le (by decide) hD) rfl (Or.inl ⟨_, rfl, k_29⟩) (ls' := [some (.inr (.inl (some 29))), some (.inl (J 44 (J 5 (J 43 x4)))), some (.inl (J 44 (J 6 (J 43 x4)))), none]) rfl (st' := []) rfl 101 rfl ?_
      exact h
theorem b_X10_netByOrder_101 {x2 : Int} {x3 : Int} {x4 : Int} {x5 : Int} (h : ((0 ≤ x5 ∧ x5 < 10) ∧ ((-2147483648 ≤ x2 + (J 7 x5) ∧ x2 + (J 7 x5) < 2147483648) ∧ ((-2147483648 ≤ x3 + (-1) ∧ x3 + (-1) < 2147483648) ∧ ((-2147483648 ≤ x4 + 1 ∧ x4 + 1 < 2147483648) ∧ NW sc d_X10_netByOrder D (40, [some (.inr (.inl (some 29))), some (.inr (.inl (some 3))), some (.inl (x2 + (J 7 x5))), some (.inl (x3 + (-1))), some (.inl (x4 + 1)), none, none, none], [], (J, L, W), c, sl) Qr Qx))))) :
    NW sc d_X10_netByOrder D (101, [some (.inr (.inl (some 29))), some (.inr (.inl (some 3))), some (.inl x2), some (.inl x3), some (.inl x4), some (.inl x5), none, none], [], (J, L, W), c, sl) Qr Qx := by
  refine nw_iload_n l_X10_netByOrder_101 102 rfl rfl ?_
  refine nw_aload_n l_X10_netByOrder_102 103 rfl rfl ?_
  refine nw_getA l_X10_netByOrder_103 106 rfl k_3 r_3_5 ?_
  refine nw_iload l_X10_netByOrder_106 108 rfl rfl ?_
  have o1 := h.1
  replace h := h.2
  refine nw_iald l_X10_netByOrder_108 109 rfl k_7 o1 (v := J 7 x5) rfl ?_
  have o2 := h.1
  replace h := h.2
  refine nw_iadd l_X10_netByOrder_109 110 rfl o2 ?_
  refine nw_istore_n l_X10_netByOrder_110 111 rfl rfl (ls' := [some (.inr (.inl (some 29))), some (.inr (.inl (some 3))), some (.inl (x2 + (J 7 x5))), some (.inl x3), some (.inl x4), some (.inl x5), none, none]) rfl ?_
  have o3 := h.1
  replace h := h.2
  refine nw_iinc l_X10_netByOrder_111 114 rfl (-1) (by decide) rfl rfl o3 (ls' := [some (.inr (.inl (some 29))), some (.inr (.inl (some 3))), some (.inl (x2 + (J 7 x5))), some (.inl (x3 + (-1))), some (.inl x4), some (.inl x5), none, none]) rfl ?_
  have o4 := h.1
  replace h := h.2
  refine nw_iinc l_X10_netByOrder_114 117 rfl 1 (by decide) rfl rfl o4 (ls' := [some (.inr (.inl (some 29))), some (.inr (.inl (some 3))), some (.inl (x2 + (J 7 x5))), some (.inl (x3 + (-1))), some (.inl (x4 + 1)), some (.inl x5), none, none]) rfl ?_
  refine nw_goto l_X10_netByOrder_117 ?_
  refine nw_drop (ls' := [some (.inr (.inl (some 29))), some (.inr (.inl (some 3))), some (.inl (x2 + (J 7 x5))), some (.inl (x3 + (-1))), some (.inl (x4 + 1)), none, none, none]) ⟨rfl, ⟨rfl, ⟨rfl, ⟨rfl, ⟨rfl, ⟨True.intro, ⟨True.intro, ⟨True.intro, True.intro⟩⟩⟩⟩⟩⟩⟩⟩ ?_
  exact h
theorem b_X10_noteArrivals_0 {x2 : Int} (h : NW sc d_X10_noteArrivals D (2, [some (.inr (.inl (some 29))), some (.inr (.inl (some 2))), some (.inl x2), some (.inl 0)], [], (J, L, W), c, sl) Qr Qx) :
    NW sc d_X10_noteArrivals D (0, [some (.inr (.inl (some 29))), some (.inr (.inl (some 2))), some (.inl x2), none], [], (J, L, W), c, sl) Qr Qx := by
  refine nw_iconst (len := 0) l_X10_noteArrivals_0 1 rfl c_0 ?_
  refine nw_istore_n l_X10_noteArrivals_1 2 rfl rfl (ls' := [some (.inr (.inl (some 29))), some (.inr (.inl (some 2))), some (.inl x2), some (.inl 0)]) rfl ?_
  exact h
theorem b_X10_noteArrivals_2 {x2 : Int} {x3 : Int} (h : ((J 3 0 ≤ x3 → Qr none (J, L, W)) ∧ (x3 < J 3 0 → ((0 ≤ x3 ∧ x3 < 6) ∧ ((¬ J 39 x3 = (-1) → ((-2147483648 ≤ x3 + 1 ∧ x3 + 1 < 2147483648) ∧ NW sc d_X10_noteArrivals D (2, [some (.inr (.inl (some 29))), some (.inr (.inl (some 2))), some (.inl x2), some (.inl (x3 + 1))], [], (J, L, W), c, sl) Qr Qx)) ∧ (J 39 x3 = (-1) → ((0 ≤ x2 ∧ x2 < 100) ∧ ((¬ nw_xiand (nw_xishr (J 45 x2) x3) 1 = 1 → ((-2147483648 ≤ x3 + 1 ∧ x3 + 1 < 2147483648) ∧ NW sc d_X10_noteArrivals D (2, [some (.inr (.inl (some 29))), some (.inr (.inl (some 2))), some (.inl x2), some (.inl (x3 + 1))], [], (J, L, W), c, sl) Qr Qx)) ∧ (nw_xiand (nw_xishr (J 45 x2) x3) 1 = 1 → ((-2147483648 ≤ (J 2 3) + x2 ∧ (J 2 3) + x2 < 2147483648) ∧ ((-2147483648 ≤ x3 + 1 ∧ x3 + 1 < 2147483648) ∧ NW sc d_X10_noteArrivals D (2, [some (.inr (.inl (some 29))), some (.inr (.inl (some 2))), some (.inl x2), some (.inl (x3 + 1))], [], (nw_u J 39 x3 ((J 2 3) + x2), L, W), c, sl) Qr Qx))))))))))) :
    NW sc d_X10_noteArrivals D (2, [some (.inr (.inl (some 29))), some (.inr (.inl (some 2))), some (.inl x2), some (.inl x3)], [], (J, L, W), c, sl) Qr Qx := by
  refine nw_iload_n l_X10_noteArrivals_2 3 rfl rfl ?_
  refine nw_aload_n l_X10_noteArrivals_3 4 rfl rfl ?_
  refine nw_getA l_X10_noteArrivals_4 7 rfl k_2 r_2_0 ?_
  refine nw_getI l_X10_noteArrivals_7 10 rfl k_3 (v := J 3 0) rfl ?_
  refine nw_ic_ge l_X10_noteArrivals_10 13 rfl (fun q1 => ?_) (fun q1 => ?_)
  · replace h := h.1 q1
    refine nw_return l_X10_noteArrivals_55 rfl ?_
    exact h
  · replace h := h.2 q1
    refine nw_aload_n l_X10_noteArrivals_13 14 rfl rfl ?_
    refine nw_getA l_X10_noteArrivals_14 17 rfl k_29 r_29_3 ?_
    refine nw_iload_n l_X10_noteArrivals_17 18 rfl rfl ?_
    have o2 := h.1
    replace h := h.2
    refine nw_iald l_X10_noteArrivals_18 19 rfl k_39 o2 (v := J 39 x3) rfl ?_
    refine nw_iconst (len := 0) l_X10_noteArrivals_19 20 rfl c_n1 ?_
    refine nw_ic_ne l_X10_noteArrivals_20 23 rfl (fun q3 => ?_) (fun q3 => ?_)
    · replace h := h.1 q3
      have o4 := h.1
      replace h := h.2
      refine nw_iinc l_X10_noteArrivals_49 52 rfl 1 (by decide) rfl rfl o4 (ls' := [some (.inr (.inl (some 29))), some (.inr (.inl (some 2))), some (.inl x2), some (.inl (x3 + 1))]) rfl ?_
      refine nw_goto l_X10_noteArrivals_52 ?_
      exact h
    · replace h := h.2 q3
      refine nw_aload_n l_X10_noteArrivals_23 24 rfl rfl ?_
      refine nw_getA l_X10_noteArrivals_24 27 rfl k_29 r_29_7 ?_
      refine nw_iload_n l_X10_noteArrivals_27 28 rfl rfl ?_
      have o5 := h.1
      replace h := h.2
      refine nw_iald l_X10_noteArrivals_28 29 rfl k_45 o5 (v := J 45 x2) rfl ?_
      refine nw_iload_n l_X10_noteArrivals_29 30 rfl rfl ?_
      refine nw_ishr l_X10_noteArrivals_30 31 rfl ?_
      refine nw_iconst (len := 0) l_X10_noteArrivals_31 32 rfl c_1 ?_
      refine nw_iand l_X10_noteArrivals_32 33 rfl ?_
      refine nw_iconst (len := 0) l_X10_noteArrivals_33 34 rfl c_1 ?_
      refine nw_ic_ne l_X10_noteArrivals_34 37 rfl (fun q6 => ?_) (fun q6 => ?_)
      · replace h := h.1 q6
        have o7 := h.1
        replace h := h.2
        refine nw_iinc l_X10_noteArrivals_49 52 rfl 1 (by decide) rfl rfl o7 (ls' := [some (.inr (.inl (some 29))), some (.inr (.inl (some 2))), some (.inl x2), some (.inl (x3 + 1))]) rfl ?_
        refine nw_goto l_X10_noteArrivals_52 ?_
        exact h
      · replace h := h.2 q6
        refine nw_aload_n l_X10_noteArrivals_37 38 rfl rfl ?_
        refine nw_getA l_X10_noteArrivals_38 41 rfl k_29 r_29_3 ?_
        refine nw_iload_n l_X10_noteArrivals_41 42 rfl rfl ?_
        refine nw_aload_n l_X10_noteArrivals_42 43 rfl rfl ?_
        refine nw_getI l_X10_noteArrivals_43 46 rfl k_2 (v := J 2 3) rfl ?_
        refine nw_iload_n l_X10_noteArrivals_46 47 rfl rfl ?_
        have o8 := h.1
        replace h := h.2
        refine nw_iadd l_X10_noteArrivals_47 48 rfl o8 ?_
        refine nw_iast l_X10_noteArrivals_48 49 rfl k_39 o2 ?_
        have o9 := h.1
        replace h := h.2
        refine nw_iinc l_X10_noteArrivals_49 52 rfl 1 (by decide) rfl rfl o9 (ls' := [some (.inr (.inl (some 29))), some (.inr (.inl (some 2))), some (.inl x2), some (.inl (x3 + 1))]) rfl ?_
        refine nw_goto l_X10_noteArrivals_52 ?_
        exact h
theorem b_X10_orderChannels_0  (h : NW sc d_X10_orderChannels D (2, [some (.inr (.inl (some 29))), some (.inr (.inl (some 3))), some (.inl 0), none], [], (J, L, W), c, sl) Qr Qx) :
    NW sc d_X10_orderChannels D (0, [some (.inr (.inl (some 29))), some (.inr (.inl (some 3))), none, none], [], (J, L, W), c, sl) Qr Qx := by
  refine nw_iconst (len := 0) l_X10_orderChannels_0 1 rfl c_0 ?_
  refine nw_istore_n l_X10_orderChannels_1 2 rfl rfl (ls' := [some (.inr (.inl (some 29))), some (.inr (.inl (some 3))), some (.inl 0), none]) rfl ?_
  exact h
theorem b_X10_orderChannels_2 {x2 : Int} (h : ((J 3 1 ≤ x2 → Qr none (J, L, W)) ∧ (x2 < J 3 1 → NW sc d_X10_orderChannels D (12, [some (.inr (.inl (some 29))), some (.inr (.inl (some 3))), some (.inl x2), some (.inl x2)], [], (J, L, W), c, sl) Qr Qx))) :
    NW sc d_X10_orderChannels D (2, [some (.inr (.inl (some 29))), some (.inr (.inl (some 3))), some (.inl x2), none], [], (J, L, W), c, sl) Qr Qx := by
  refine nw_iload_n l_X10_orderChannels_2 3 rfl rfl ?_
  refine nw_aload_n l_X10_orderChannels_3 4 rfl rfl ?_
  refine nw_getI l_X10_orderChannels_4 7 rfl k_3 (v := J 3 1) rfl ?_
  refine nw_ic_ge l_X10_orderChannels_7 10 rfl (fun q1 => ?_) (fun q1 => ?_)
  · replace h := h.1 q1
    refine nw_return l_X10_orderChannels_71 rfl ?_
    exact h
  · replace h := h.2 q1
    refine nw_iload_n l_X10_orderChannels_10 11 rfl rfl ?_
    refine nw_istore_n l_X10_orderChannels_11 12 rfl rfl (ls' := [some (.inr (.inl (some 29))), some (.inr (.inl (some 3))), some (.inl x2), some (.inl x2)]) rfl ?_
    exact h
theorem b_X10_orderChannels_12 {x2 : Int} {x3 : Int} (h : ((x3 ≤ 0 → ((0 ≤ x3 ∧ x3 < 10) ∧ ((-2147483648 ≤ x2 + 1 ∧ x2 + 1 < 2147483648) ∧ NW sc d_X10_orderChannels D (2, [some (.inr (.inl (some 29))), some (.inr (.inl (some 3))), some (.inl (x2 + 1)), none], [], (nw_u J 43 x3 x2, L, W), c, sl) Qr Qx))) ∧ (0 < x3 → ((-2147483648 ≤ x3 - 1 ∧ x3 - 1 < 2147483648) ∧ ((0 ≤ x3 - 1 ∧ x3 - 1 < 10) ∧ ((0 ≤ J 43 (x3 - 1) ∧ J 43 (x3 - 1) < 10) ∧ ((0 ≤ x2 ∧ x2 < 10) ∧ ((J 7 (J 43 (x3 - 1)) ≤ J 7 x2 → ((0 ≤ x3 ∧ x3 < 10) ∧ ((-2147483648 ≤ x2 + 1 ∧ x2 + 1 < 2147483648) ∧ NW sc d_X10_orderChannels D (2, [some (.inr (.inl (some 29))), some (.inr (.inl (some 3))), some (.inl (x2 + 1)), none], [], (nw_u J 43 x3 x2, L, W), c, sl) Qr Qx))) ∧ (J 7 x2 < J 7 (J 43 (x3 - 1)) → ((0 ≤ x3 ∧ x3 < 10) ∧ ((-2147483648 ≤ x3 + (-1) ∧ x3 + (-1) < 2147483648) ∧ NW sc d_X10_orderChannels D (12, [some (.inr (.inl (some 29))), some (.inr (.inl (some 3))), some (.inl x2), some (.inl (x3 + (-1)))], [], (nw_u J 43 x3 (J 43 (x3 - 1)), L, W), c, sl) Qr Qx))))))))))) :
    NW sc d_X10_orderChannels D (12, [some (.inr (.inl (some 29))), some (.inr (.inl (some 3))), some (.inl x2), some (.inl x3)], [], (J, L, W), c, sl) Qr Qx := by
  refine nw_iload_n l_X10_orderChannels_12 13 rfl rfl ?_
  refine nw_if_le l_X10_orderChannels_13 16 rfl (fun q1 => ?_) (fun q1 => ?_)
  · replace h := h.1 q1
    refine nw_aload_n l_X10_orderChannels_58 59 rfl rfl ?_
    refine nw_getA l_X10_orderChannels_59 62 rfl k_29 r_29_5 ?_
    refine nw_iload_n l_X10_orderChannels_62 63 rfl rfl ?_
    refine nw_iload_n l_X10_orderChannels_63 64 rfl rfl ?_
    have o2 := h.1
    replace h := h.2
    refine nw_iast l_X10_orderChannels_64 65 rfl k_43 o2 ?_
    have o3 := h.1
    replace h := h.2
    refine nw_iinc l_X10_orderChannels_65 68 rfl 1 (by decide) rfl rfl o3 (ls' := [some (.inr (.inl (some 29))), some (.inr (.inl (some 3))), some (.inl (x2 + 1)), some (.inl x3)]) rfl ?_
    refine nw_goto l_X10_orderChannels_68 ?_
    refine nw_drop (ls' := [some (.inr (.inl (some 29))), some (.inr (.inl (some 3))), some (.inl (x2 + 1)), none]) ⟨rfl, ⟨rfl, ⟨rfl, ⟨True.intro, True.intro⟩⟩⟩⟩ ?_
    exact h
  · replace h := h.2 q1
    refine nw_aload_n l_X10_orderChannels_16 17 rfl rfl ?_
    refine nw_getA l_X10_orderChannels_17 20 rfl k_3 r_3_5 ?_
    refine nw_aload_n l_X10_orderChannels_20 21 rfl rfl ?_
    refine nw_getA l_X10_orderChannels_21 24 rfl k_29 r_29_5 ?_
    refine nw_iload_n l_X10_orderChannels_24 25 rfl rfl ?_
    refine nw_iconst (len := 0) l_X10_orderChannels_25 26 rfl c_1 ?_
    have o4 := h.1
    replace h := h.2
    refine nw_isub l_X10_orderChannels_26 27 rfl o4 ?_
    have o5 := h.1
    replace h := h.2
    refine nw_iald l_X10_orderChannels_27 28 rfl k_43 o5 (v := J 43 (x3 - 1)) rfl ?_
    have o6 := h.1
    replace h := h.2
    refine nw_iald l_X10_orderChannels_28 29 rfl k_7 o6 (v := J 7 (J 43 (x3 - 1))) rfl ?_
    refine nw_aload_n l_X10_orderChannels_29 30 rfl rfl ?_
    refine nw_getA l_X10_orderChannels_30 33 rfl k_3 r_3_5 ?_
    refine nw_iload_n l_X10_orderChannels_33 34 rfl rfl ?_
    have o7 := h.1
    replace h := h.2
    refine nw_iald l_X10_orderChannels_34 35 rfl k_7 o7 (v := J 7 x2) rfl ?_
    refine nw_ic_le l_X10_orderChannels_35 38 rfl (fun q8 => ?_) (fun q8 => ?_)
    · replace h := h.1 q8
      refine nw_aload_n l_X10_orderChannels_58 59 rfl rfl ?_
      refine nw_getA l_X10_orderChannels_59 62 rfl k_29 r_29_5 ?_
      refine nw_iload_n l_X10_orderChannels_62 63 rfl rfl ?_
      refine nw_iload_n l_X10_orderChannels_63 64 rfl rfl ?_
      have o9 := h.1
      replace h := h.2
      refine nw_iast l_X10_orderChannels_64 65 rfl k_43 o9 ?_
      have o10 := h.1
      replace h := h.2
      refine nw_iinc l_X10_orderChannels_65 68 rfl 1 (by decide) rfl rfl o10 (ls' := [some (.inr (.inl (some 29))), some (.inr (.inl (some 3))), some (.inl (x2 + 1)), some (.inl x3)]) rfl ?_
      refine nw_goto l_X10_orderChannels_68 ?_
      refine nw_drop (ls' := [some (.inr (.inl (some 29))), some (.inr (.inl (some 3))), some (.inl (x2 + 1)), none]) ⟨rfl, ⟨rfl, ⟨rfl, ⟨True.intro, True.intro⟩⟩⟩⟩ ?_
      exact h
    · replace h := h.2 q8
      refine nw_aload_n l_X10_orderChannels_38 39 rfl rfl ?_
      refine nw_getA l_X10_orderChannels_39 42 rfl k_29 r_29_5 ?_
      refine nw_iload_n l_X10_orderChannels_42 43 rfl rfl ?_
      refine nw_aload_n l_X10_orderChannels_43 44 rfl rfl ?_
      refine nw_getA l_X10_orderChannels_44 47 rfl k_29 r_29_5 ?_
      refine nw_iload_n l_X10_orderChannels_47 48 rfl rfl ?_
      refine nw_iconst (len := 0) l_X10_orderChannels_48 49 rfl c_1 ?_
      refine nw_isub l_X10_orderChannels_49 50 rfl o4 ?_
      refine nw_iald l_X10_orderChannels_50 51 rfl k_43 o5 (v := J 43 (x3 - 1)) rfl ?_
      have o11 := h.1
      replace h := h.2
      refine nw_iast l_X10_orderChannels_51 52 rfl k_43 o11 ?_
      have o12 := h.1
      replace h := h.2
      refine nw_iinc l_X10_orderChannels_52 55 rfl (-1) (by decide) rfl rfl o12 (ls' := [some (.inr (.inl (some 29))), some (.inr (.inl (some 3))), some (.inl x2), some (.inl (x3 + (-1)))]) rfl ?_
      refine nw_goto l_X10_orderChannels_55 ?_
      exact h
theorem b_X10_queuePassages_0 {x2 : Int} {x3 : Int} (h : ((-2147483648 ≤ (J 2 3) + 99 ∧ (J 2 3) + 99 < 2147483648) ∧ ((0 ≤ x2 ∧ x2 < 3) ∧ NW sc d_X10_queuePassages D (29, [some (.inr (.inl (some 29))), none, none, some (.inl x3), some (.inr (.inl (some 3))), some (.inl ((J 2 3) + 99)), some (.inl (J 13 x2)), some (.inl 0), none, none, none, none], [], (J, L, W), c, sl) Qr Qx))) :
    NW sc d_X10_queuePassages D (0, [some (.inr (.inl (some 29))), some (.inr (.inl (some 2))), some (.inl x2), some (.inl x3), none, none, none, none, none, none, none, none], [], (J, L, W), c, sl) Qr Qx := by
  refine nw_aload_n l_X10_queuePassages_0 1 rfl rfl ?_
  refine nw_getA l_X10_queuePassages_1 4 rfl k_2 r_2_0 ?_
  refine nw_astore l_X10_queuePassages_4 6 rfl rfl (ls' := [some (.inr (.inl (some 29))), some (.inr (.inl (some 2))), some (.inl x2), some (.inl x3), some (.inr (.inl (some 3))), none, none, none, none, none, none, none]) rfl ?_
  refine nw_aload_n l_X10_queuePassages_6 7 rfl rfl ?_
  refine nw_getI l_X10_queuePassages_7 10 rfl k_2 (v := J 2 3) rfl ?_
  refine nw_bipush (len := 0) l_X10_queuePassages_10 12 rfl c_99 ?_
  have o1 := h.1
  replace h := h.2
  refine nw_iadd l_X10_queuePassages_12 13 rfl o1 ?_
  refine nw_istore l_X10_queuePassages_13 15 rfl rfl (ls' := [some (.inr (.inl (some 29))), some (.inr (.inl (some 2))), some (.inl x2), some (.inl x3), some (.inr (.inl (some 3))), some (.inl ((J 2 3) + 99)), none, none, none, none, none, none]) rfl ?_
  refine nw_aload_n l_X10_queuePassages_15 16 rfl rfl ?_
  refine nw_getA l_X10_queuePassages_16 19 rfl k_2 r_2_1 ?_
  refine nw_getA l_X10_queuePassages_19 22 rfl k_9 r_9_4 ?_
  refine nw_iload_n l_X10_queuePassages_22 23 rfl rfl ?_
  have o2 := h.1
  replace h := h.2
  refine nw_iald l_X10_queuePassages_23 24 rfl k_13 o2 (v := J 13 x2) rfl ?_
  refine nw_istore l_X10_queuePassages_24 26 rfl rfl (ls' := [some (.inr (.inl (some 29))), some (.inr (.inl (some 2))), some (.inl x2), some (.inl x3), some (.inr (.inl (some 3))), some (.inl ((J 2 3) + 99)), some (.inl (J 13 x2)), none, none, none, none, none]) rfl ?_
  refine nw_iconst (len := 0) l_X10_queuePassages_26 27 rfl c_0 ?_
  refine nw_istore l_X10_queuePassages_27 29 rfl rfl (ls' := [some (.inr (.inl (some 29))), some (.inr (.inl (some 2))), some (.inl x2), some (.inl x3), some (.inr (.inl (some 3))), some (.inl ((J 2 3) + 99)), some (.inl (J 13 x2)), some (.inl 0), none, none, none, none]) rfl ?_
  refine nw_drop (ls' := [some (.inr (.inl (some 29))), none, none, some (.inl x3), some (.inr (.inl (some 3))), some (.inl ((J 2 3) + 99)), some (.inl (J 13 x2)), some (.inl 0), none, none, none, none]) ⟨rfl, ⟨True.intro, ⟨True.intro, ⟨rfl, ⟨rfl, ⟨rfl, ⟨rfl, ⟨rfl, ⟨True.intro, ⟨True.intro, ⟨True.intro, ⟨True.intro, True.intro⟩⟩⟩⟩⟩⟩⟩⟩⟩⟩⟩⟩ ?_
  exact h
theorem b_X10_queuePassages_29 {x3 : Int} {x5 : Int} {x6 : Int} {x7 : Int} (hD : 3 ≤ D) (h : ((J 3 1 ≤ x7 → Qr none (J, L, W)) ∧ (x7 < J 3 1 → ((0 ≤ x7 ∧ x7 < 10) ∧ ((¬ J 5 x7 = x3 → ((¬ J 6 x7 = x3 → ((-2147483648 ≤ x7 + 1 ∧ x7 + 1 < 2147483648) ∧ NW sc d_X10_queuePassages D (29, [some (.inr (.inl (some 29))), none, none, some (.inl x3), some (.inr (.inl (some 3))), some (.inl x5), some (.inl x6), some (.inl (x7 + 1)), none, none, none, none], [], (J, L, W), c, sl) Qr Qx)) ∧ (J 6 x7 = x3 → ((J 5 x7 = (-1) → ((-2147483648 ≤ x7 + 1 ∧ x7 + 1 < 2147483648) ∧ NW sc d_X10_queuePassages D (29, [some (.inr (.inl (some 29))), none, none, some (.inl x3), some (.inr (.inl (some 3))), some (.inl x5), some (.inl x6), some (.inl (x7 + 1)), none, none, none, none], [], (J, L, W), c, sl) Qr Qx)) ∧ (¬ J 5 x7 = (-1) → ((0 ≤ J 5 x7 ∧ J 5 x7 < 6) ∧ ((J 38 (J 5 x7) = (-1) → ((0 ≤ x3 ∧ x3 < 6) ∧ NW sc d_J9_min_7cf53 0 (0, [some (.inl (J 4 x3)), some (.inl (J 8 x7))], [], (J, L, W), 0, 0) (fun v M9 => NW sc d_X10_queuePassages D (87, [some (.inr (.inl (some 29))), none, none, some (.inl x3), some (.inr (.inl (some 3))), some (.inl x5), some (.inl x6), some (.inl x7), some (.inl (J 5 x7)), none, none, none], nw_push v [], M9, c, sl) Qr Qx) Qx)) ∧ (¬ J 38 (J 5 x7) = (-1) → ((-2147483648 ≤ x7 + 1 ∧ x7 + 1 < 2147483648) ∧ NW sc d_X10_queuePassages D (29, [some (.inr (.inl (some 29))), none, none, some (.inl x3), some (.inr (.inl (some 3))), some (.inl x5), some (.inl x6), some (.inl (x7 + 1)), none, none, none, none], [], (J, L, W), c, sl) Qr Qx))))))))) ∧ (J 5 x7 = x3 → ((J 6 x7 = (-1) → ((-2147483648 ≤ x7 + 1 ∧ x7 + 1 < 2147483648) ∧ NW sc d_X10_queuePassages D (29, [some (.inr (.inl (some 29))), none, none, some (.inl x3), some (.inr (.inl (some 3))), some (.inl x5), some (.inl x6), some (.inl (x7 + 1)), none, none, none, none], [], (J, L, W), c, sl) Qr Qx)) ∧ (¬ J 6 x7 = (-1) → ((0 ≤ J 6 x7 ∧ J 6 x7 < 6) ∧ ((J 38 (J 6 x7) = (-1) → ((0 ≤ x3 ∧ x3 < 6) ∧ NW sc d_J9_min_7cf53 0 (0, [some (.inl (J 4 x3)), some (.inl (J 8 x7))], [], (J, L, W), 0, 0) (fun v M9 => NW sc d_X10_queuePassages D (87, [some (.inr (.inl (some 29))), none, none, some (.inl x3), some (.inr (.inl (some 3))), some (.inl x5), some (.inl x6), some (.inl x7), some (.inl (J 6 x7)), none, none, none], nw_push v [], M9, c, sl) Qr Qx) Qx)) ∧ (¬ J 38 (J 6 x7) = (-1) → ((-2147483648 ≤ x7 + 1 ∧ x7 + 1 < 2147483648) ∧ NW sc d_X10_queuePassages D (29, [some (.inr (.inl (some 29))), none, none, some (.inl x3), some (.inr (.inl (some 3))), some (.inl x5), some (.inl x6), some (.inl (x7 + 1)), none, none, none, none], [], (J, L, W), c, sl) Qr Qx)))))))))))) :
    NW sc d_X10_queuePassages D (29, [some (.inr (.inl (some 29))), none, none, some (.inl x3), some (.inr (.inl (some 3))), some (.inl x5), some (.inl x6), some (.inl x7), none, none, none, none], [], (J, L, W), c, sl) Qr Qx := by
  refine nw_iload l_X10_queuePassages_29 31 rfl rfl ?_
  refine nw_aload l_X10_queuePassages_31 33 rfl rfl ?_
  refine nw_getI l_X10_queuePassages_33 36 rfl k_3 (v := J 3 1) rfl ?_
  refine nw_ic_ge l_X10_queuePassages_36 39 rfl (fun q1 => ?_) (fun q1 => ?_)
  · replace h := h.1 q1
    refine nw_return l_X10_queuePassages_155 rfl ?_
    exact h
  · replace h := h.2 q1
    refine nw_aload l_X10_queuePassages_39 41 rfl rfl ?_
    refine nw_iload l_X10_queuePassages_41 43 rfl rfl ?_
    refine nw_iload_n l_X10_queuePassages_43 44 rfl rfl ?_
    refine nw_call0 0 3 l_X10_queuePassages_44 rfl rfl g_X9_farEnd (Nat.lt_of_lt_of_le (by decide) hD) rfl (Or.inl ⟨_, rfl, k_3⟩) (ls' := [some (.inr (.inl (some 3))), some (.inl x7), some (.inl x3)]) rfl (st' := []) rfl 47 rfl ?_
    refine nw_aload_n l_X9_farEnd_0 1 rfl rfl ?_
    refine nw_getA l_X9_farEnd_1 4 rfl k_3 r_3_3 ?_
    refine nw_iload_n l_X9_farEnd_4 5 rfl rfl ?_
    have o2 := h.1
    replace h := h.2
    refine nw_iald l_X9_farEnd_5 6 rfl k_5 o2 (v := J 5 x7) rfl ?_
    refine nw_iload_n l_X9_farEnd_6 7 rfl rfl ?_
    refine nw_ic_ne l_X9_farEnd_7 10 rfl (fun q3 => ?_) (fun q3 => ?_)
    · replace h := h.1 q3
      refine nw_aload_n l_X9_farEnd_17 18 rfl rfl ?_
      refine nw_getA l_X9_farEnd_18 21 rfl k_3 r_3_4 ?_
      refine nw_iload_n l_X9_farEnd_21 22 rfl rfl ?_
      refine nw_iald l_X9_farEnd_22 23 rfl k_6 o2 (v := J 6 x7) rfl ?_
      refine nw_iload_n l_X9_farEnd_23 24 rfl rfl ?_
      refine nw_ic_ne l_X9_farEnd_24 27 rfl (fun q4 => ?_) (fun q4 => ?_)
      · replace h := h.1 q4
        refine nw_iconst (len := 0) l_X9_farEnd_36 37 rfl c_n1 ?_
        refine nw_ireturn l_X9_farEnd_37 rfl ?_
        refine nw_istore l_X10_queuePassages_47 49 rfl rfl (ls' := [some (.inr (.inl (some 29))), none, none, some (.inl x3), some (.inr (.inl (some 3))), some (.inl x5), some (.inl x6), some (.inl x7), some (.inl (-1)), none, none, none]) rfl ?_
        refine nw_iload l_X10_queuePassages_49 51 rfl rfl ?_
        refine nw_iconst (len := 0) l_X10_queuePassages_51 52 rfl c_n1 ?_
        refine nw_ic_eq l_X10_queuePassages_52 55 rfl (fun _ => ?_) (fun q => absurd q (by decide))
        have o5 := h.1
        replace h := h.2
        refine nw_iinc l_X10_queuePassages_149 152 rfl 1 (by decide) rfl rfl o5 (ls' := [some (.inr (.inl (some 29))), none, none, some (.inl x3), some (.inr (.inl (some 3))), some (.inl x5), some (.inl x6), some (.inl (x7 + 1)), some (.inl (-1)), none, none, none]) rfl ?_
        refine nw_goto l_X10_queuePassages_152 ?_
        refine nw_drop (ls' := [some (.inr (.inl (some 29))), none, none, some (.inl x3), some (.inr (.inl (some 3))), some (.inl x5), some (.inl x6), some (.inl (x7 + 1)), none, none, none, none]) ⟨rfl, ⟨True.intro, ⟨True.intro, ⟨rfl, ⟨rfl, ⟨rfl, ⟨rfl, ⟨rfl, ⟨True.intro, ⟨True.intro, ⟨True.intro, ⟨True.intro, True.intro⟩⟩⟩⟩⟩⟩⟩⟩⟩⟩⟩⟩ ?_
        exact h
      · replace h := h.2 q4
        refine nw_aload_n l_X9_farEnd_27 28 rfl rfl ?_
        refine nw_getA l_X9_farEnd_28 31 rfl k_3 r_3_3 ?_
        refine nw_iload_n l_X9_farEnd_31 32 rfl rfl ?_
        refine nw_iald l_X9_farEnd_32 33 rfl k_5 o2 (v := J 5 x7) rfl ?_
        refine nw_goto l_X9_farEnd_33 ?_
        refine nw_ireturn l_X9_farEnd_37 rfl ?_
        refine nw_istore l_X10_queuePassages_47 49 rfl rfl (ls' := [some (.inr (.inl (some 29))), none, none, some (.inl x3), some (.inr (.inl (some 3))), some (.inl x5), some (.inl x6), some (.inl x7), some (.inl (J 5 x7)), none, none, none]) rfl ?_
        refine nw_iload l_X10_queuePassages_49 51 rfl rfl ?_
        refine nw_iconst (len := 0) l_X10_queuePassages_51 52 rfl c_n1 ?_
        refine nw_ic_eq l_X10_queuePassages_52 55 rfl (fun q6 => ?_) (fun q6 => ?_)
        · replace h := h.1 q6
          have o7 := h.1
          replace h := h.2
          refine nw_iinc l_X10_queuePassages_149 152 rfl 1 (by decide) rfl rfl o7 (ls' := [some (.inr (.inl (some 29))), none, none, some (.inl x3), some (.inr (.inl (some 3))), some (.inl x5), some (.inl x6), some (.inl (x7 + 1)), some (.inl (J 5 x7)), none, none, none]) rfl ?_
          refine nw_goto l_X10_queuePassages_152 ?_
          refine nw_drop (ls' := [some (.inr (.inl (some 29))), none, none, some (.inl x3), some (.inr (.inl (some 3))), some (.inl x5), some (.inl x6), some (.inl (x7 + 1)), none, none, none, none]) ⟨rfl, ⟨True.intro, ⟨True.intro, ⟨rfl, ⟨rfl, ⟨rfl, ⟨rfl, ⟨rfl, ⟨True.intro, ⟨True.intro, ⟨True.intro, ⟨True.intro, True.intro⟩⟩⟩⟩⟩⟩⟩⟩⟩⟩⟩⟩ ?_
          exact h
        · replace h := h.2 q6
          refine nw_aload_n l_X10_queuePassages_55 56 rfl rfl ?_
          refine nw_getA l_X10_queuePassages_56 59 rfl k_29 r_29_2 ?_
          refine nw_iload l_X10_queuePassages_59 61 rfl rfl ?_
          have o8 := h.1
          replace h := h.2
          refine nw_iald l_X10_queuePassages_61 62 rfl k_38 o8 (v := J 38 (J 5 x7)) rfl ?_
          refine nw_iconst (len := 0) l_X10_queuePassages_62 63 rfl c_n1 ?_
          refine nw_ic_eq l_X10_queuePassages_63 66 rfl (fun q9 => ?_) (fun q9 => ?_)
          · replace h := h.1 q9
            refine nw_aload l_X10_queuePassages_69 71 rfl rfl ?_
            refine nw_getA l_X10_queuePassages_71 74 rfl k_3 r_3_2 ?_
            refine nw_iload_n l_X10_queuePassages_74 75 rfl rfl ?_
            have o10 := h.1
            replace h := h.2
            refine nw_iald l_X10_queuePassages_75 76 rfl k_4 o10 (v := J 4 x3) rfl ?_
            refine nw_aload l_X10_queuePassages_76 78 rfl rfl ?_
            refine nw_getA l_X10_queuePassages_78 81 rfl k_3 r_3_6 ?_
            refine nw_iload l_X10_queuePassages_81 83 rfl rfl ?_
            refine nw_iald l_X10_queuePassages_83 84 rfl k_8 o2 (v := J 8 x7) rfl ?_
            refine nw_call0 0 0 l_X10_queuePassages_84 rfl rfl g_J9_min_7cf53 (Nat.lt_of_lt_of_le (by decide) hD) rfl True.intro (ls' := [some (.inl (J 4 x3)), some (.inl (J 8 x7))]) rfl (st' := []) rfl 87 rfl ?_
            exact h
          · replace h := h.2 q9
            refine nw_goto l_X10_queuePassages_66 ?_
            have o11 := h.1
            replace h := h.2
            refine nw_iinc l_X10_queuePassages_149 152 rfl 1 (by decide) rfl rfl o11 (ls' := [some (.inr (.inl (some 29))), none, none, some (.inl x3), some (.inr (.inl (some 3))), some (.inl x5), some (.inl x6), some (.inl (x7 + 1)), some (.inl (J 5 x7)), none, none, none]) rfl ?_
            refine nw_goto l_X10_queuePassages_152 ?_
            refine nw_drop (ls' := [some (.inr (.inl (some 29))), none, none, some (.inl x3), some (.inr (.inl (some 3))), some (.inl x5), some (.inl x6), some (.inl (x7 + 1)), none, none, none, none]) ⟨rfl, ⟨True.intro, ⟨True.intro, ⟨rfl, ⟨rfl, ⟨rfl, ⟨rfl, ⟨rfl, ⟨True.intro, ⟨True.intro, ⟨True.intro, ⟨True.intro, True.intro⟩⟩⟩⟩⟩⟩⟩⟩⟩⟩⟩⟩ ?_
            exact h
    · replace h := h.2 q3
      refine nw_aload_n l_X9_farEnd_10 11 rfl rfl ?_
      refine nw_getA l_X9_farEnd_11 14 rfl k_3 r_3_4 ?_
      refine nw_iload_n l_X9_farEnd_14 15 rfl rfl ?_
      refine nw_iald l_X9_farEnd_15 16 rfl k_6 o2 (v := J 6 x7) rfl ?_
      refine nw_ireturn l_X9_farEnd_16 rfl ?_
      refine nw_istore l_X10_queuePassages_47 49 rfl rfl (ls' := [some (.inr (.inl (some 29))), none, none, some (.inl x3), some (.inr (.inl (some 3))), some (.inl x5), some (.inl x6), some (.inl x7), some (.inl (J 6 x7)), none, none, none]) rfl ?_
      refine nw_iload l_X10_queuePassages_49 51 rfl rfl ?_
      refine nw_iconst (len := 0) l_X10_queuePassages_51 52 rfl c_n1 ?_
      refine nw_ic_eq l_X10_queuePassages_52 55 rfl (fun q12 => ?_) (fun q12 => ?_)
      · replace h := h.1 q12
        have o13 := h.1
        replace h := h.2
        refine nw_iinc l_X10_queuePassages_149 152 rfl 1 (by decide) rfl rfl o13 (ls' := [some (.inr (.inl (some 29))), none, none, some (.inl x3), some (.inr (.inl (some 3))), some (.inl x5), some (.inl x6), some (.inl (x7 + 1)), some (.inl (J 6 x7)), none, none, none]) rfl ?_
        refine nw_goto l_X10_queuePassages_152 ?_
        refine nw_drop (ls' := [some (.inr (.inl (some 29))), none, none, some (.inl x3), some (.inr (.inl (some 3))), some (.inl x5), some (.inl x6), some (.inl (x7 + 1)), none, none, none, none]) ⟨rfl, ⟨True.intro, ⟨True.intro, ⟨rfl, ⟨rfl, ⟨rfl, ⟨rfl, ⟨rfl, ⟨True.intro, ⟨True.intro, ⟨True.intro, ⟨True.intro, True.intro⟩⟩⟩⟩⟩⟩⟩⟩⟩⟩⟩⟩ ?_
        exact h
      · replace h := h.2 q12
        refine nw_aload_n l_X10_queuePassages_55 56 rfl rfl ?_
        refine nw_getA l_X10_queuePassages_56 59 rfl k_29 r_29_2 ?_
        refine nw_iload l_X10_queuePassages_59 61 rfl rfl ?_
        have o14 := h.1
        replace h := h.2
        refine nw_iald l_X10_queuePassages_61 62 rfl k_38 o14 (v := J 38 (J 6 x7)) rfl ?_
        refine nw_iconst (len := 0) l_X10_queuePassages_62 63 rfl c_n1 ?_
        refine nw_ic_eq l_X10_queuePassages_63 66 rfl (fun q15 => ?_) (fun q15 => ?_)
        · replace h := h.1 q15
          refine nw_aload l_X10_queuePassages_69 71 rfl rfl ?_
          refine nw_getA l_X10_queuePassages_71 74 rfl k_3 r_3_2 ?_
          refine nw_iload_n l_X10_queuePassages_74 75 rfl rfl ?_
          have o16 := h.1
          replace h := h.2
          refine nw_iald l_X10_queuePassages_75 76 rfl k_4 o16 (v := J 4 x3) rfl ?_
          refine nw_aload l_X10_queuePassages_76 78 rfl rfl ?_
          refine nw_getA l_X10_queuePassages_78 81 rfl k_3 r_3_6 ?_
          refine nw_iload l_X10_queuePassages_81 83 rfl rfl ?_
          refine nw_iald l_X10_queuePassages_83 84 rfl k_8 o2 (v := J 8 x7) rfl ?_
          refine nw_call0 0 0 l_X10_queuePassages_84 rfl rfl g_J9_min_7cf53 (Nat.lt_of_lt_of_le (by decide) hD) rfl True.intro (ls' := [some (.inl (J 4 x3)), some (.inl (J 8 x7))]) rfl (st' := []) rfl 87 rfl ?_
          exact h
        · replace h := h.2 q15
          refine nw_goto l_X10_queuePassages_66 ?_
          have o17 := h.1
          replace h := h.2
          refine nw_iinc l_X10_queuePassages_149 152 rfl 1 (by decide) rfl rfl o17 (ls' := [some (.inr (.inl (some 29))), none, none, some (.inl x3), some (.inr (.inl (some 3))), some (.inl x5), some (.inl x6), some (.inl (x7 + 1)), some (.inl (J 6 x7)), none, none, none]) rfl ?_
          refine nw_goto l_X10_queuePassages_152 ?_
          refine nw_drop (ls' := [some (.inr (.inl (some 29))), none, none, some (.inl x3), some (.inr (.inl (some 3))), some (.inl x5), some (.inl x6), some (.inl (x7 + 1)), none, none, none, none]) ⟨rfl, ⟨True.intro, ⟨True.intro, ⟨rfl, ⟨rfl, ⟨rfl, ⟨rfl, ⟨rfl, ⟨True.intro, ⟨True.intro, ⟨True.intro, ⟨True.intro, True.intro⟩⟩⟩⟩⟩⟩⟩⟩⟩⟩⟩⟩ ?_
          exact h
theorem b_X10_queuePassages_87 {x3 : Int} {x5 : Int} {x6 : Int} {x7 : Int} {x8 : Int} {y0 : Int} (hD : 3 ≤ D) (h : ((0 ≤ x3 ∧ x3 < 6) ∧ ((-2147483648 ≤ x6 - y0 ∧ x6 - y0 < 2147483648) ∧ NW sc d_X10_hoursToWait 2 (0, [some (.inl (J 38 x3)), some (.inl (x6 - y0)), none], [], (J, L, W), 0, 0) (fun v M9 => NW sc d_X10_queuePassages D (103, [some (.inr (.inl (some 29))), none, none, some (.inl x3), some (.inr (.inl (some 3))), some (.inl x5), some (.inl x6), some (.inl x7), some (.inl x8), none, none, none], nw_push v [], M9, c, sl) Qr Qx) Qx))) :
    NW sc d_X10_queuePassages D (87, [some (.inr (.inl (some 29))), none, none, some (.inl x3), some (.inr (.inl (some 3))), some (.inl x5), some (.inl x6), some (.inl x7), some (.inl x8), none, none, none], [.inl y0], (J, L, W), c, sl) Qr Qx := by
  refine nw_istore l_X10_queuePassages_87 89 rfl rfl (ls' := [some (.inr (.inl (some 29))), none, none, some (.inl x3), some (.inr (.inl (some 3))), some (.inl x5), some (.inl x6), some (.inl x7), some (.inl x8), some (.inl y0), none, none]) rfl ?_
  refine nw_aload_n l_X10_queuePassages_89 90 rfl rfl ?_
  refine nw_getA l_X10_queuePassages_90 93 rfl k_29 r_29_2 ?_
  refine nw_iload_n l_X10_queuePassages_93 94 rfl rfl ?_
  have o1 := h.1
  replace h := h.2
  refine nw_iald l_X10_queuePassages_94 95 rfl k_38 o1 (v := J 38 x3) rfl ?_
  refine nw_iload l_X10_queuePassages_95 97 rfl rfl ?_
  refine nw_iload l_X10_queuePassages_97 99 rfl rfl ?_
  have o2 := h.1
  replace h := h.2
  refine nw_isub l_X10_queuePassages_99 100 rfl o2 ?_
  refine nw_drop (ls' := [some (.inr (.inl (some 29))), none, none, some (.inl x3), some (.inr (.inl (some 3))), some (.inl x5), some (.inl x6), some (.inl x7), some (.inl x8), none, none, none]) ⟨rfl, ⟨True.intro, ⟨True.intro, ⟨rfl, ⟨rfl, ⟨rfl, ⟨rfl, ⟨rfl, ⟨rfl, ⟨True.intro, ⟨True.intro, ⟨True.intro, True.intro⟩⟩⟩⟩⟩⟩⟩⟩⟩⟩⟩⟩ ?_
  refine nw_call0 2 0 l_X10_queuePassages_100 rfl rfl g_X10_hoursToWait (Nat.lt_of_lt_of_le (by decide) hD) rfl True.intro (ls' := [some (.inl (J 38 x3)), some (.inl (x6 - y0)), none]) rfl (st' := []) rfl 103 rfl ?_
  exact h
theorem b_X10_queuePassages_103 {x3 : Int} {x5 : Int} {x6 : Int} {x7 : Int} {x8 : Int} {y0 : Int} (hD : 3 ≤ D) (h : ((0 ≤ x3 ∧ x3 < 6) ∧ ((-2147483648 ≤ (J 38 x3) + y0 ∧ (J 38 x3) + y0 < 2147483648) ∧ ((0 ≤ x7 ∧ x7 < 10) ∧ ((-2147483648 ≤ ((J 38 x3) + y0) + (J 7 x7) ∧ ((J 38 x3) + y0) + (J 7 x7) < 2147483648) ∧ ((y0 = (-1) → ((-2147483648 ≤ x7 + 1 ∧ x7 + 1 < 2147483648) ∧ NW sc d_X10_queuePassages D (29, [some (.inr (.inl (some 29))), none, none, some (.inl x3), some (.inr (.inl (some 3))), some (.inl x5), some (.inl x6), some (.inl (x7 + 1)), none, none, none, none], [], (J, L, W), c, sl) Qr Qx)) ∧ (¬ y0 = (-1) → ((x5 < ((J 38 x3) + y0) + (J 7 x7) → ((-2147483648 ≤ x7 + 1 ∧ x7 + 1 < 2147483648) ∧ NW sc d_X10_queuePassages D (29, [some (.inr (.inl (some 29))), none, none, some (.inl x3), some (.inr (.inl (some 3))), some (.inl x5), some (.inl x6), some (.inl (x7 + 1)), none, none, none, none], [], (J, L, W), c, sl) Qr Qx)) ∧ (((J 38 x3) + y0) + (J 7 x7) ≤ x5 → NW sc d_X2_put 0 (0, [some (.inr (.inl (some 40))), some (.inl x8), some (.inl (((J 38 x3) + y0) + (J 7 x7))), none], [], (J, L, W), 0, 0) (fun v M9 => NW sc d_X10_queuePassages D (149, [some (.inr (.inl (some 29))), none, none, some (.inl x3), some (.inr (.inl (some 3))), some (.inl x5), some (.inl x6), some (.inl x7), none, none, none, none], nw_push v [], M9, c, sl) Qr Qx) Qx))))))))) :
    NW sc d_X10_queuePassages D (103, [some (.inr (.inl (some 29))), none, none, some (.inl x3), some (.inr (.inl (some 3))), some (.inl x5), some (.inl x6), some (.inl x7), some (.inl x8), none, none, none], [.inl y0], (J, L, W), c, sl) Qr Qx := by
  refine nw_istore l_X10_queuePassages_103 105 rfl rfl (ls' := [some (.inr (.inl (some 29))), none, none, some (.inl x3), some (.inr (.inl (some 3))), some (.inl x5), some (.inl x6), some (.inl x7), some (.inl x8), none, some (.inl y0), none]) rfl ?_
  refine nw_aload_n l_X10_queuePassages_105 106 rfl rfl ?_
  refine nw_getA l_X10_queuePassages_106 109 rfl k_29 r_29_2 ?_
  refine nw_iload_n l_X10_queuePassages_109 110 rfl rfl ?_
  have o1 := h.1
  replace h := h.2
  refine nw_iald l_X10_queuePassages_110 111 rfl k_38 o1 (v := J 38 x3) rfl ?_
  refine nw_iload l_X10_queuePassages_111 113 rfl rfl ?_
  have o2 := h.1
  replace h := h.2
  refine nw_iadd l_X10_queuePassages_113 114 rfl o2 ?_
  refine nw_aload l_X10_queuePassages_114 116 rfl rfl ?_
  refine nw_getA l_X10_queuePassages_116 119 rfl k_3 r_3_5 ?_
  refine nw_iload l_X10_queuePassages_119 121 rfl rfl ?_
  have o3 := h.1
  replace h := h.2
  refine nw_iald l_X10_queuePassages_121 122 rfl k_7 o3 (v := J 7 x7) rfl ?_
  have o4 := h.1
  replace h := h.2
  refine nw_iadd l_X10_queuePassages_122 123 rfl o4 ?_
  refine nw_istore l_X10_queuePassages_123 125 rfl rfl (ls' := [some (.inr (.inl (some 29))), none, none, some (.inl x3), some (.inr (.inl (some 3))), some (.inl x5), some (.inl x6), some (.inl x7), some (.inl x8), none, some (.inl y0), some (.inl (((J 38 x3) + y0) + (J 7 x7)))]) rfl ?_
  refine nw_iload l_X10_queuePassages_125 127 rfl rfl ?_
  refine nw_iconst (len := 0) l_X10_queuePassages_127 128 rfl c_n1 ?_
  refine nw_ic_eq l_X10_queuePassages_128 131 rfl (fun q5 => ?_) (fun q5 => ?_)
  · replace h := h.1 q5
    have o6 := h.1
    replace h := h.2
    refine nw_iinc l_X10_queuePassages_149 152 rfl 1 (by decide) rfl rfl o6 (ls' := [some (.inr (.inl (some 29))), none, none, some (.inl x3), some (.inr (.inl (some 3))), some (.inl x5), some (.inl x6), some (.inl (x7 + 1)), some (.inl x8), none, some (.inl y0), some (.inl (((J 38 x3) + y0) + (J 7 x7)))]) rfl ?_
    refine nw_goto l_X10_queuePassages_152 ?_
    refine nw_drop (ls' := [some (.inr (.inl (some 29))), none, none, some (.inl x3), some (.inr (.inl (some 3))), some (.inl x5), some (.inl x6), some (.inl (x7 + 1)), none, none, none, none]) ⟨rfl, ⟨True.intro, ⟨True.intro, ⟨rfl, ⟨rfl, ⟨rfl, ⟨rfl, ⟨rfl, ⟨True.intro, ⟨True.intro, ⟨True.intro, ⟨True.intro, True.intro⟩⟩⟩⟩⟩⟩⟩⟩⟩⟩⟩⟩ ?_
    exact h
  · replace h := h.2 q5
    refine nw_iload l_X10_queuePassages_131 133 rfl rfl ?_
    refine nw_iload l_X10_queuePassages_133 135 rfl rfl ?_
    refine nw_ic_gt l_X10_queuePassages_135 138 rfl (fun q7 => ?_) (fun q7 => ?_)
    · replace h := h.1 q7
      have o8 := h.1
      replace h := h.2
      refine nw_iinc l_X10_queuePassages_149 152 rfl 1 (by decide) rfl rfl o8 (ls' := [some (.inr (.inl (some 29))), none, none, some (.inl x3), some (.inr (.inl (some 3))), some (.inl x5), some (.inl x6), some (.inl (x7 + 1)), some (.inl x8), none, some (.inl y0), some (.inl (((J 38 x3) + y0) + (J 7 x7)))]) rfl ?_
      refine nw_goto l_X10_queuePassages_152 ?_
      refine nw_drop (ls' := [some (.inr (.inl (some 29))), none, none, some (.inl x3), some (.inr (.inl (some 3))), some (.inl x5), some (.inl x6), some (.inl (x7 + 1)), none, none, none, none]) ⟨rfl, ⟨True.intro, ⟨True.intro, ⟨rfl, ⟨rfl, ⟨rfl, ⟨rfl, ⟨rfl, ⟨True.intro, ⟨True.intro, ⟨True.intro, ⟨True.intro, True.intro⟩⟩⟩⟩⟩⟩⟩⟩⟩⟩⟩⟩ ?_
      exact h
    · replace h := h.2 q7
      refine nw_aload_n l_X10_queuePassages_138 139 rfl rfl ?_
      refine nw_getA l_X10_queuePassages_139 142 rfl k_29 r_29_4 ?_
      refine nw_iload l_X10_queuePassages_142 144 rfl rfl ?_
      refine nw_iload l_X10_queuePassages_144 146 rfl rfl ?_
      refine nw_drop (ls' := [some (.inr (.inl (some 29))), none, none, some (.inl x3), some (.inr (.inl (some 3))), some (.inl x5), some (.inl x6), some (.inl x7), none, none, none, none]) ⟨rfl, ⟨True.intro, ⟨True.intro, ⟨rfl, ⟨rfl, ⟨rfl, ⟨rfl, ⟨rfl, ⟨True.intro, ⟨True.intro, ⟨True.intro, ⟨True.intro, True.intro⟩⟩⟩⟩⟩⟩⟩⟩⟩⟩⟩⟩ ?_
      refine nw_call0 0 40 l_X10_queuePassages_146 rfl rfl g_X2_put (Nat.lt_of_lt_of_le (by decide) hD) rfl (Or.inl ⟨_, rfl, k_40⟩) (ls' := [some (.inr (.inl (some 40))), some (.inl x8), some (.inl (((J 38 x3) + y0) + (J 7 x7))), none]) rfl (st' := []) rfl 149 rfl ?_
      exact h
theorem b_X10_queuePassages_149 {x3 : Int} {x5 : Int} {x6 : Int} {x7 : Int} (h : ((-2147483648 ≤ x7 + 1 ∧ x7 + 1 < 2147483648) ∧ NW sc d_X10_queuePassages D (29, [some (.inr (.inl (some 29))), none, none, some (.inl x3), some (.inr (.inl (some 3))), some (.inl x5), some (.inl x6), some (.inl (x7 + 1)), none, none, none, none], [], (J, L, W), c, sl) Qr Qx)) :
    NW sc d_X10_queuePassages D (149, [some (.inr (.inl (some 29))), none, none, some (.inl x3), some (.inr (.inl (some 3))), some (.inl x5), some (.inl x6), some (.inl x7), none, none, none, none], [], (J, L, W), c, sl) Qr Qx := by
  have o1 := h.1
  replace h := h.2
  refine nw_iinc l_X10_queuePassages_149 152 rfl 1 (by decide) rfl rfl o1 (ls' := [some (.inr (.inl (some 29))), none, none, some (.inl x3), some (.inr (.inl (some 3))), some (.inl x5), some (.inl x6), some (.inl (x7 + 1)), none, none, none, none]) rfl ?_
  refine nw_goto l_X10_queuePassages_152 ?_
  exact h
theorem b_X10_sendThrough_0 {x2 : Int} {x3 : Int} {x4 : Int} (hD : 2 ≤ D) (h : ((-2147483648 ≤ (J 2 3) + x4 ∧ (J 2 3) + x4 < 2147483648) ∧ NW sc d_X11_tideIn 1 (0, [some (.inl ((J 2 3) + x4)), none], [], (J, L, W), 0, 0) (fun v M9 => NW sc d_X10_sendThrough D (16, [some (.inr (.inl (some 29))), some (.inr (.inl (some 2))), some (.inl x2), some (.inl x3), some (.inl x4), some (.inr (.inl (some 3))), none, none, none, none, none], nw_push v [], M9, c, sl) Qr Qx) Qx)) :
    NW sc d_X10_sendThrough D (0, [some (.inr (.inl (some 29))), some (.inr (.inl (some 2))), some (.inl x2), some (.inl x3), some (.inl x4), none, none, none, none, none, none], [], (J, L, W), c, sl) Qr Qx := by
  refine nw_aload_n l_X10_sendThrough_0 1 rfl rfl ?_
  refine nw_getA l_X10_sendThrough_1 4 rfl k_2 r_2_0 ?_
  refine nw_astore l_X10_sendThrough_4 6 rfl rfl (ls' := [some (.inr (.inl (some 29))), some (.inr (.inl (some 2))), some (.inl x2), some (.inl x3), some (.inl x4), some (.inr (.inl (some 3))), none, none, none, none, none]) rfl ?_
  refine nw_aload_n l_X10_sendThrough_6 7 rfl rfl ?_
  refine nw_getI l_X10_sendThrough_7 10 rfl k_2 (v := J 2 3) rfl ?_
  refine nw_iload l_X10_sendThrough_10 12 rfl rfl ?_
  have o1 := h.1
  replace h := h.2
  refine nw_iadd l_X10_sendThrough_12 13 rfl o1 ?_
  refine nw_call0 1 0 l_X10_sendThrough_13 rfl rfl g_X11_tideIn (Nat.lt_of_lt_of_le (by decide) hD) rfl True.intro (ls' := [some (.inl ((J 2 3) + x4)), none]) rfl (st' := []) rfl 16 rfl ?_
  exact h
theorem b_X10_sendThrough_16 {x2 : Int} {x3 : Int} {x4 : Int} {y0 : Int} (h : ((0 ≤ x2 ∧ x2 < 3) ∧ ((0 ≤ x3 ∧ x3 < 10) ∧ ((-2147483648 ≤ x4 + (J 7 x3) ∧ x4 + (J 7 x3) < 2147483648) ∧ ((-2147483648 ≤ (J 8 x3) + y0 ∧ (J 8 x3) + y0 < 2147483648) ∧ (((J 8 x3) + y0 < J 13 x2 → Qr none (J, L, W)) ∧ (J 13 x2 ≤ (J 8 x3) + y0 → ((x4 + (J 7 x3) ≤ 99 → ((0 ≤ J 5 x3 ∧ J 5 x3 < 6) ∧ ((J 39 (J 5 x3) = (-1) → ((0 ≤ J 6 x3 ∧ J 6 x3 < 6) ∧ ((J 39 (J 6 x3) = (-1) → Qr none (J, L, W)) ∧ (¬ J 39 (J 6 x3) = (-1) → ((-2147483648 ≤ (J 4 (J 6 x3)) + y0 ∧ (J 4 (J 6 x3)) + y0 < 2147483648) ∧ (((J 4 (J 6 x3)) + y0 < J 13 x2 → Qr none (J, L, W)) ∧ (J 13 x2 ≤ (J 4 (J 6 x3)) + y0 → ((0 ≤ x4 + (J 7 x3) ∧ x4 + (J 7 x3) < 100) ∧ Qr none (nw_u J 45 (x4 + (J 7 x3)) (nw_xior (J 45 (x4 + (J 7 x3))) (nw_xishl 1 (J 5 x3))), L, W))))))))) ∧ (¬ J 39 (J 5 x3) = (-1) → ((-2147483648 ≤ (J 4 (J 5 x3)) + y0 ∧ (J 4 (J 5 x3)) + y0 < 2147483648) ∧ (((J 4 (J 5 x3)) + y0 < J 13 x2 → ((0 ≤ J 6 x3 ∧ J 6 x3 < 6) ∧ ((J 39 (J 6 x3) = (-1) → Qr none (J, L, W)) ∧ (¬ J 39 (J 6 x3) = (-1) → ((-2147483648 ≤ (J 4 (J 6 x3)) + y0 ∧ (J 4 (J 6 x3)) + y0 < 2147483648) ∧ (((J 4 (J 6 x3)) + y0 < J 13 x2 → Qr none (J, L, W)) ∧ (J 13 x2 ≤ (J 4 (J 6 x3)) + y0 → ((0 ≤ x4 + (J 7 x3) ∧ x4 + (J 7 x3) < 100) ∧ Qr none (nw_u J 45 (x4 + (J 7 x3)) (nw_xior (J 45 (x4 + (J 7 x3))) (nw_xishl 1 (J 5 x3))), L, W))))))))) ∧ (J 13 x2 ≤ (J 4 (J 5 x3)) + y0 → ((0 ≤ x4 + (J 7 x3) ∧ x4 + (J 7 x3) < 100) ∧ ((0 ≤ J 6 x3 ∧ J 6 x3 < 6) ∧ ((J 39 (J 6 x3) = (-1) → Qr none (nw_u J 45 (x4 + (J 7 x3)) (nw_xior (J 45 (x4 + (J 7 x3))) (nw_xishl 1 (J 6 x3))), L, W)) ∧ (¬ J 39 (J 6 x3) = (-1) → ((-2147483648 ≤ (J 4 (J 6 x3)) + y0 ∧ (J 4 (J 6 x3)) + y0 < 2147483648) ∧ (((J 4 (J 6 x3)) + y0 < J 13 x2 → Qr none (nw_u J 45 (x4 + (J 7 x3)) (nw_xior (J 45 (x4 + (J 7 x3))) (nw_xishl 1 (J 6 x3))), L, W)) ∧ (J 13 x2 ≤ (J 4 (J 6 x3)) + y0 → Qr none (nw_u (nw_u J 45 (x4 + (J 7 x3)) (nw_xior (J 45 (x4 + (J 7 x3))) (nw_xishl 1 (J 6 x3)))) 45 (x4 + (J 7 x3)) (nw_xior (nw_xior (J 45 (x4 + (J 7 x3))) (nw_xishl 1 (J 6 x3))) (nw_xishl 1 (J 5 x3))), L, W))))))))))))))) ∧ (99 < x4 + (J 7 x3) → Qr none (J, L, W)))))))))) :
    NW sc d_X10_sendThrough D (16, [some (.inr (.inl (some 29))), some (.inr (.inl (some 2))), some (.inl x2), some (.inl x3), some (.inl x4), some (.inr (.inl (some 3))), none, none, none, none, none], [.inl y0], (J, L, W), c, sl) Qr Qx := by
  refine nw_istore l_X10_sendThrough_16 18 rfl rfl (ls' := [some (.inr (.inl (some 29))), some (.inr (.inl (some 2))), some (.inl x2), some (.inl x3), some (.inl x4), some (.inr (.inl (some 3))), some (.inl y0), none, none, none, none]) rfl ?_
  refine nw_aload_n l_X10_sendThrough_18 19 rfl rfl ?_
  refine nw_getA l_X10_sendThrough_19 22 rfl k_2 r_2_1 ?_
  refine nw_getA l_X10_sendThrough_22 25 rfl k_9 r_9_4 ?_
  refine nw_iload_n l_X10_sendThrough_25 26 rfl rfl ?_
  have o1 := h.1
  replace h := h.2
  refine nw_iald l_X10_sendThrough_26 27 rfl k_13 o1 (v := J 13 x2) rfl ?_
  refine nw_istore l_X10_sendThrough_27 29 rfl rfl (ls' := [some (.inr (.inl (some 29))), some (.inr (.inl (some 2))), some (.inl x2), some (.inl x3), some (.inl x4), some (.inr (.inl (some 3))), some (.inl y0), some (.inl (J 13 x2)), none, none, none]) rfl ?_
  refine nw_iload l_X10_sendThrough_29 31 rfl rfl ?_
  refine nw_aload l_X10_sendThrough_31 33 rfl rfl ?_
  refine nw_getA l_X10_sendThrough_33 36 rfl k_3 r_3_5 ?_
  refine nw_iload_n l_X10_sendThrough_36 37 rfl rfl ?_
  have o2 := h.1
  replace h := h.2
  refine nw_iald l_X10_sendThrough_37 38 rfl k_7 o2 (v := J 7 x3) rfl ?_
  have o3 := h.1
  replace h := h.2
  refine nw_iadd l_X10_sendThrough_38 39 rfl o3 ?_
  refine nw_istore l_X10_sendThrough_39 41 rfl rfl (ls' := [some (.inr (.inl (some 29))), some (.inr (.inl (some 2))), some (.inl x2), some (.inl x3), some (.inl x4), some (.inr (.inl (some 3))), some (.inl y0), some (.inl (J 13 x2)), some (.inl (x4 + (J 7 x3))), none, none]) rfl ?_
  refine nw_aload l_X10_sendThrough_41 43 rfl rfl ?_
  refine nw_getA l_X10_sendThrough_43 46 rfl k_3 r_3_6 ?_
  refine nw_iload_n l_X10_sendThrough_46 47 rfl rfl ?_
  refine nw_iald l_X10_sendThrough_47 48 rfl k_8 o2 (v := J 8 x3) rfl ?_
  refine nw_iload l_X10_sendThrough_48 50 rfl rfl ?_
  have o4 := h.1
  replace h := h.2
  refine nw_iadd l_X10_sendThrough_50 51 rfl o4 ?_
  refine nw_iload l_X10_sendThrough_51 53 rfl rfl ?_
  refine nw_ic_lt l_X10_sendThrough_53 56 rfl (fun q5 => ?_) (fun q5 => ?_)
  · replace h := h.1 q5
    refine nw_return l_X10_sendThrough_63 rfl ?_
    exact h
  · replace h := h.2 q5
    refine nw_iload l_X10_sendThrough_56 58 rfl rfl ?_
    refine nw_bipush (len := 0) l_X10_sendThrough_58 60 rfl c_99 ?_
    refine nw_ic_le l_X10_sendThrough_60 63 rfl (fun q6 => ?_) (fun q6 => ?_)
    · replace h := h.1 q6
      refine nw_aload l_X10_sendThrough_64 66 rfl rfl ?_
      refine nw_getA l_X10_sendThrough_66 69 rfl k_3 r_3_3 ?_
      refine nw_iload_n l_X10_sendThrough_69 70 rfl rfl ?_
      refine nw_iald l_X10_sendThrough_70 71 rfl k_5 o2 (v := J 5 x3) rfl ?_
      refine nw_istore l_X10_sendThrough_71 73 rfl rfl (ls' := [some (.inr (.inl (some 29))), some (.inr (.inl (some 2))), some (.inl x2), some (.inl x3), some (.inl x4), some (.inr (.inl (some 3))), some (.inl y0), some (.inl (J 13 x2)), some (.inl (x4 + (J 7 x3))), some (.inl (J 5 x3)), none]) rfl ?_
      refine nw_aload l_X10_sendThrough_73 75 rfl rfl ?_
      refine nw_getA l_X10_sendThrough_75 78 rfl k_3 r_3_4 ?_
      refine nw_iload_n l_X10_sendThrough_78 79 rfl rfl ?_
      refine nw_iald l_X10_sendThrough_79 80 rfl k_6 o2 (v := J 6 x3) rfl ?_
      refine nw_istore l_X10_sendThrough_80 82 rfl rfl (ls' := [some (.inr (.inl (some 29))), some (.inr (.inl (some 2))), some (.inl x2), some (.inl x3), some (.inl x4), some (.inr (.inl (some 3))), some (.inl y0), some (.inl (J 13 x2)), some (.inl (x4 + (J 7 x3))), some (.inl (J 5 x3)), some (.inl (J 6 x3))]) rfl ?_
      refine nw_aload_n l_X10_sendThrough_82 83 rfl rfl ?_
      refine nw_getA l_X10_sendThrough_83 86 rfl k_29 r_29_3 ?_
      refine nw_iload l_X10_sendThrough_86 88 rfl rfl ?_
      have o7 := h.1
      replace h := h.2
      refine nw_iald l_X10_sendThrough_88 89 rfl k_39 o7 (v := J 39 (J 5 x3)) rfl ?_
      refine nw_iconst (len := 0) l_X10_sendThrough_89 90 rfl c_n1 ?_
      refine nw_ic_eq l_X10_sendThrough_90 93 rfl (fun q8 => ?_) (fun q8 => ?_)
      · replace h := h.1 q8
        refine nw_aload_n l_X10_sendThrough_123 124 rfl rfl ?_
        refine nw_getA l_X10_sendThrough_124 127 rfl k_29 r_29_3 ?_
        refine nw_iload l_X10_sendThrough_127 129 rfl rfl ?_
        have o9 := h.1
        replace h := h.2
        refine nw_iald l_X10_sendThrough_129 130 rfl k_39 o9 (v := J 39 (J 6 x3)) rfl ?_
        refine nw_iconst (len := 0) l_X10_sendThrough_130 131 rfl c_n1 ?_
        refine nw_ic_eq l_X10_sendThrough_131 134 rfl (fun q10 => ?_) (fun q10 => ?_)
        · replace h := h.1 q10
          refine nw_return l_X10_sendThrough_164 rfl ?_
          exact h
        · replace h := h.2 q10
          refine nw_aload l_X10_sendThrough_134 136 rfl rfl ?_
          refine nw_getA l_X10_sendThrough_136 139 rfl k_3 r_3_2 ?_
          refine nw_iload l_X10_sendThrough_139 141 rfl rfl ?_
          refine nw_iald l_X10_sendThrough_141 142 rfl k_4 o9 (v := J 4 (J 6 x3)) rfl ?_
          refine nw_iload l_X10_sendThrough_142 144 rfl rfl ?_
          have o11 := h.1
          replace h := h.2
          refine nw_iadd l_X10_sendThrough_144 145 rfl o11 ?_
          refine nw_iload l_X10_sendThrough_145 147 rfl rfl ?_
          refine nw_ic_lt l_X10_sendThrough_147 150 rfl (fun q12 => ?_) (fun q12 => ?_)
          · replace h := h.1 q12
            refine nw_return l_X10_sendThrough_164 rfl ?_
            exact h
          · replace h := h.2 q12
            refine nw_aload_n l_X10_sendThrough_150 151 rfl rfl ?_
            refine nw_getA l_X10_sendThrough_151 154 rfl k_29 r_29_7 ?_
            refine nw_iload l_X10_sendThrough_154 156 rfl rfl ?_
            refine nw_dup2 l_X10_sendThrough_156 157 rfl ?_
            have o13 := h.1
            replace h := h.2
            refine nw_iald l_X10_sendThrough_157 158 rfl k_45 o13 (v := J 45 (x4 + (J 7 x3))) rfl ?_
            refine nw_iconst (len := 0) l_X10_sendThrough_158 159 rfl c_1 ?_
            refine nw_iload l_X10_sendThrough_159 161 rfl rfl ?_
            refine nw_ishl l_X10_sendThrough_161 162 rfl ?_
            refine nw_ior l_X10_sendThrough_162 163 rfl ?_
            refine nw_iast l_X10_sendThrough_163 164 rfl k_45 o13 ?_
            refine nw_return l_X10_sendThrough_164 rfl ?_
            exact h
      · replace h := h.2 q8
        refine nw_aload l_X10_sendThrough_93 95 rfl rfl ?_
        refine nw_getA l_X10_sendThrough_95 98 rfl k_3 r_3_2 ?_
        refine nw_iload l_X10_sendThrough_98 100 rfl rfl ?_
        refine nw_iald l_X10_sendThrough_100 101 rfl k_4 o7 (v := J 4 (J 5 x3)) rfl ?_
        refine nw_iload l_X10_sendThrough_101 103 rfl rfl ?_
        have o14 := h.1
        replace h := h.2
        refine nw_iadd l_X10_sendThrough_103 104 rfl o14 ?_
        refine nw_iload l_X10_sendThrough_104 106 rfl rfl ?_
        refine nw_ic_lt l_X10_sendThrough_106 109 rfl (fun q15 => ?_) (fun q15 => ?_)
        · replace h := h.1 q15
          refine nw_aload_n l_X10_sendThrough_123 124 rfl rfl ?_
          refine nw_getA l_X10_sendThrough_124 127 rfl k_29 r_29_3 ?_
          refine nw_iload l_X10_sendThrough_127 129 rfl rfl ?_
          have o16 := h.1
          replace h := h.2
          refine nw_iald l_X10_sendThrough_129 130 rfl k_39 o16 (v := J 39 (J 6 x3)) rfl ?_
          refine nw_iconst (len := 0) l_X10_sendThrough_130 131 rfl c_n1 ?_
          refine nw_ic_eq l_X10_sendThrough_131 134 rfl (fun q17 => ?_) (fun q17 => ?_)
          · replace h := h.1 q17
            refine nw_return l_X10_sendThrough_164 rfl ?_
            exact h
          · replace h := h.2 q17
            refine nw_aload l_X10_sendThrough_134 136 rfl rfl ?_
            refine nw_getA l_X10_sendThrough_136 139 rfl k_3 r_3_2 ?_
            refine nw_iload l_X10_sendThrough_139 141 rfl rfl ?_
            refine nw_iald l_X10_sendThrough_141 142 rfl k_4 o16 (v := J 4 (J 6 x3)) rfl ?_
            refine nw_iload l_X10_sendThrough_142 144 rfl rfl ?_
            have o18 := h.1
            replace h := h.2
            refine nw_iadd l_X10_sendThrough_144 145 rfl o18 ?_
            refine nw_iload l_X10_sendThrough_145 147 rfl rfl ?_
            refine nw_ic_lt l_X10_sendThrough_147 150 rfl (fun q19 => ?_) (fun q19 => ?_)
            · replace h := h.1 q19
              refine nw_return l_X10_sendThrough_164 rfl ?_
              exact h
            · replace h := h.2 q19
              refine nw_aload_n l_X10_sendThrough_150 151 rfl rfl ?_
              refine nw_getA l_X10_sendThrough_151 154 rfl k_29 r_29_7 ?_
              refine nw_iload l_X10_sendThrough_154 156 rfl rfl ?_
              refine nw_dup2 l_X10_sendThrough_156 157 rfl ?_
              have o20 := h.1
              replace h := h.2
              refine nw_iald l_X10_sendThrough_157 158 rfl k_45 o20 (v := J 45 (x4 + (J 7 x3))) rfl ?_
              refine nw_iconst (len := 0) l_X10_sendThrough_158 159 rfl c_1 ?_
              refine nw_iload l_X10_sendThrough_159 161 rfl rfl ?_
              refine nw_ishl l_X10_sendThrough_161 162 rfl ?_
              refine nw_ior l_X10_sendThrough_162 163 rfl ?_
              refine nw_iast l_X10_sendThrough_163 164 rfl k_45 o20 ?_
              refine nw_return l_X10_sendThrough_164 rfl ?_
              exact h
        · replace h := h.2 q15
          refine nw_aload_n l_X10_sendThrough_109 110 rfl rfl ?_
          refine nw_getA l_X10_sendThrough_110 113 rfl k_29 r_29_7 ?_
          refine nw_iload l_X10_sendThrough_113 115 rfl rfl ?_
          refine nw_dup2 l_X10_sendThrough_115 116 rfl ?_
          have o21 := h.1
          replace h := h.2
          refine nw_iald l_X10_sendThrough_116 117 rfl k_45 o21 (v := J 45 (x4 + (J 7 x3))) rfl ?_
          refine nw_iconst (len := 0) l_X10_sendThrough_117 118 rfl c_1 ?_
          refine nw_iload l_X10_sendThrough_118 120 rfl rfl ?_
          refine nw_ishl l_X10_sendThrough_120 121 rfl ?_
          refine nw_ior l_X10_sendThrough_121 122 rfl ?_
          refine nw_iast l_X10_sendThrough_122 123 rfl k_45 o21 ?_
          refine nw_aload_n l_X10_sendThrough_123 124 rfl rfl ?_
          refine nw_getA l_X10_sendThrough_124 127 rfl k_29 r_29_3 ?_
          refine nw_iload l_X10_sendThrough_127 129 rfl rfl ?_
          have o22 := h.1
          replace h := h.2
          refine nw_iald l_X10_sendThrough_129 130 rfl k_39 o22 (v := J 39 (J 6 x3)) (show nw_u J 45 (x4 + (J 7 x3)) (nw_xior (J 45 (x4 + (J 7 x3))) (nw_xishl 1 (J 6 x3))) 39 (J 6 x3) = J 39 (J 6 x3) from (nw_uN (a := 45) (b := 39) (by decide))) ?_
          refine nw_iconst (len := 0) l_X10_sendThrough_130 131 rfl c_n1 ?_
          refine nw_ic_eq l_X10_sendThrough_131 134 rfl (fun q23 => ?_) (fun q23 => ?_)
          · replace h := h.1 q23
            refine nw_return l_X10_sendThrough_164 rfl ?_
            exact h
          · replace h := h.2 q23
            refine nw_aload l_X10_sendThrough_134 136 rfl rfl ?_
            refine nw_getA l_X10_sendThrough_136 139 rfl k_3 r_3_2 ?_
            refine nw_iload l_X10_sendThrough_139 141 rfl rfl ?_
            refine nw_iald l_X10_sendThrough_141 142 rfl k_4 o22 (v := J 4 (J 6 x3)) (show nw_u J 45 (x4 + (J 7 x3)) (nw_xior (J 45 (x4 + (J 7 x3))) (nw_xishl 1 (J 6 x3))) 4 (J 6 x3) = J 4 (J 6 x3) from (nw_uN (a := 45) (b := 4) (by decide))) ?_
            refine nw_iload l_X10_sendThrough_142 144 rfl rfl ?_
            have o24 := h.1
            replace h := h.2
            refine nw_iadd l_X10_sendThrough_144 145 rfl o24 ?_
            refine nw_iload l_X10_sendThrough_145 147 rfl rfl ?_
            refine nw_ic_lt l_X10_sendThrough_147 150 rfl (fun q25 => ?_) (fun q25 => ?_)
            · replace h := h.1 q25
              refine nw_return l_X10_sendThrough_164 rfl ?_
              exact h
            · replace h := h.2 q25
              refine nw_aload_n l_X10_sendThrough_150 151 rfl rfl ?_
              refine nw_getA l_X10_sendThrough_151 154 rfl k_29 r_29_7 ?_
              refine nw_iload l_X10_sendThrough_154 156 rfl rfl ?_
              refine nw_dup2 l_X10_sendThrough_156 157 rfl ?_
              refine nw_iald l_X10_sendThrough_157 158 rfl k_45 o21 (v := nw_xior (J 45 (x4 + (J 7 x3))) (nw_xishl 1 (J 6 x3))) (show nw_u J 45 (x4 + (J 7 x3)) (nw_xior (J 45 (x4 + (J 7 x3))) (nw_xishl 1 (J 6 x3))) 45 (x4 + (J 7 x3)) = nw_xior (J 45 (x4 + (J 7 x3))) (nw_xishl 1 (J 6 x3)) from nw_uS) ?_
              refine nw_iconst (len := 0) l_X10_sendThrough_158 159 rfl c_1 ?_
              refine nw_iload l_X10_sendThrough_159 161 rfl rfl ?_
              refine nw_ishl l_X10_sendThrough_161 162 rfl ?_
              refine nw_ior l_X10_sendThrough_162 163 rfl ?_
              refine nw_iast l_X10_sendThrough_163 164 rfl k_45 o21 ?_
              refine nw_return l_X10_sendThrough_164 rfl ?_
              exact h
    · replace h := h.2 q6
      refine nw_return l_X10_sendThrough_63 rfl ?_
      exact h
theorem b_X10_shortenOver_0 {x2 : Int} (h : NW sc d_X10_shortenOver D (2, [some (.inr (.inl (some 29))), some (.inr (.inl (some 3))), some (.inl x2), some (.inl 0), none, none], [], (J, L, W), c, sl) Qr Qx) :
    NW sc d_X10_shortenOver D (0, [some (.inr (.inl (some 29))), some (.inr (.inl (some 3))), some (.inl x2), none, none, none], [], (J, L, W), c, sl) Qr Qx := by
  refine nw_iconst (len := 0) l_X10_shortenOver_0 1 rfl c_0 ?_
  refine nw_istore_n l_X10_shortenOver_1 2 rfl rfl (ls' := [some (.inr (.inl (some 29))), some (.inr (.inl (some 3))), some (.inl x2), some (.inl 0), none, none]) rfl ?_
  exact h
theorem b_X10_shortenOver_2 {x2 : Int} {x3 : Int} (h : ((J 3 0 ≤ x3 → Qr none (J, L, W)) ∧ (x3 < J 3 0 → NW sc d_X10_shortenOver D (13, [some (.inr (.inl (some 29))), some (.inr (.inl (some 3))), some (.inl x2), some (.inl x3), some (.inl 0), none], [], (J, L, W), c, sl) Qr Qx))) :
    NW sc d_X10_shortenOver D (2, [some (.inr (.inl (some 29))), some (.inr (.inl (some 3))), some (.inl x2), some (.inl x3), none, none], [], (J, L, W), c, sl) Qr Qx := by
  refine nw_iload_n l_X10_shortenOver_2 3 rfl rfl ?_
  refine nw_aload_n l_X10_shortenOver_3 4 rfl rfl ?_
  refine nw_getI l_X10_shortenOver_4 7 rfl k_3 (v := J 3 0) rfl ?_
  refine nw_ic_ge l_X10_shortenOver_7 10 rfl (fun q1 => ?_) (fun q1 => ?_)
  · replace h := h.1 q1
    refine nw_return l_X10_shortenOver_120 rfl ?_
    exact h
  · replace h := h.2 q1
    refine nw_iconst (len := 0) l_X10_shortenOver_10 11 rfl c_0 ?_
    refine nw_istore l_X10_shortenOver_11 13 rfl rfl (ls' := [some (.inr (.inl (some 29))), some (.inr (.inl (some 3))), some (.inl x2), some (.inl x3), some (.inl 0), none]) rfl ?_
    exact h
theorem b_X10_shortenOver_13 {x2 : Int} {x3 : Int} {x4 : Int} (h : ((J 3 0 ≤ x4 → ((-2147483648 ≤ x3 + 1 ∧ x3 + 1 < 2147483648) ∧ NW sc d_X10_shortenOver D (2, [some (.inr (.inl (some 29))), some (.inr (.inl (some 3))), some (.inl x2), some (.inl (x3 + 1)), none, none], [], (J, L, W), c, sl) Qr Qx)) ∧ (x4 < J 3 0 → ((0 ≤ x3 ∧ x3 < 6) ∧ ((0 ≤ x2 ∧ x2 < 6) ∧ ((J (32 + x3.toNat) x2 = (-1) → ((-2147483648 ≤ x4 + 1 ∧ x4 + 1 < 2147483648) ∧ NW sc d_X10_shortenOver D (13, [some (.inr (.inl (some 29))), some (.inr (.inl (some 3))), some (.inl x2), some (.inl x3), some (.inl (x4 + 1)), none], [], (J, L, W), c, sl) Qr Qx)) ∧ (¬ J (32 + x3.toNat) x2 = (-1) → ((0 ≤ x4 ∧ x4 < 6) ∧ ((¬ J (32 + x2.toNat) x4 = (-1) → ((-2147483648 ≤ (J (32 + x3.toNat) x2) + (J (32 + x2.toNat) x4) ∧ (J (32 + x3.toNat) x2) + (J (32 + x2.toNat) x4) < 2147483648) ∧ ((J (32 + x3.toNat) x4 = (-1) → ((-2147483648 ≤ x4 + 1 ∧ x4 + 1 < 2147483648) ∧ NW sc d_X10_shortenOver D (13, [some (.inr (.inl (some 29))), some (.inr (.inl (some 3))), some (.inl x2), some (.inl x3), some (.inl (x4 + 1)), none], [], (nw_u J (32 + x3.toNat) x4 ((J (32 + x3.toNat) x2) + (J (32 + x2.toNat) x4)), L, W), c, sl) Qr Qx)) ∧ (¬ J (32 + x3.toNat) x4 = (-1) → ((J (32 + x3.toNat) x4 ≤ (J (32 + x3.toNat) x2) + (J (32 + x2.toNat) x4) → ((-2147483648 ≤ x4 + 1 ∧ x4 + 1 < 2147483648) ∧ NW sc d_X10_shortenOver D (13, [some (.inr (.inl (some 29))), some (.inr (.inl (some 3))), some (.inl x2), some (.inl x3), some (.inl (x4 + 1)), none], [], (J, L, W), c, sl) Qr Qx)) ∧ ((J (32 + x3.toNat) x2) + (J (32 + x2.toNat) x4) < J (32 + x3.toNat) x4 → ((-2147483648 ≤ x4 + 1 ∧ x4 + 1 < 2147483648) ∧ NW sc d_X10_shortenOver D (13, [some (.inr (.inl (some 29))), some (.inr (.inl (some 3))), some (.inl x2), some (.inl x3), some (.inl (x4 + 1)), none], [], (nw_u J (32 + x3.toNat) x4 ((J (32 + x3.toNat) x2) + (J (32 + x2.toNat) x4)), L, W), c, sl) Qr Qx))))))) ∧ (J (32 + x2.toNat) x4 = (-1) → ((-2147483648 ≤ x4 + 1 ∧ x4 + 1 < 2147483648) ∧ NW sc d_X10_shortenOver D (13, [some (.inr (.inl (some 29))), some (.inr (.inl (some 3))), some (.inl x2), some (.inl x3), some (.inl (x4 + 1)), none], [], (J, L, W), c, sl) Qr Qx))))))))))) :
    NW sc d_X10_shortenOver D (13, [some (.inr (.inl (some 29))), some (.inr (.inl (some 3))), some (.inl x2), some (.inl x3), some (.inl x4), none], [], (J, L, W), c, sl) Qr Qx := by
  refine nw_iload l_X10_shortenOver_13 15 rfl rfl ?_
  refine nw_aload_n l_X10_shortenOver_15 16 rfl rfl ?_
  refine nw_getI l_X10_shortenOver_16 19 rfl k_3 (v := J 3 0) rfl ?_
  refine nw_ic_ge l_X10_shortenOver_19 22 rfl (fun q1 => ?_) (fun q1 => ?_)
  · replace h := h.1 q1
    have o2 := h.1
    replace h := h.2
    refine nw_iinc l_X10_shortenOver_114 117 rfl 1 (by decide) rfl rfl o2 (ls' := [some (.inr (.inl (some 29))), some (.inr (.inl (some 3))), some (.inl x2), some (.inl (x3 + 1)), some (.inl x4), none]) rfl ?_
    refine nw_goto l_X10_shortenOver_117 ?_
    refine nw_drop (ls' := [some (.inr (.inl (some 29))), some (.inr (.inl (some 3))), some (.inl x2), some (.inl (x3 + 1)), none, none]) ⟨rfl, ⟨rfl, ⟨rfl, ⟨rfl, ⟨True.intro, ⟨True.intro, True.intro⟩⟩⟩⟩⟩⟩ ?_
    exact h
  · replace h := h.2 q1
    refine nw_aload_n l_X10_shortenOver_22 23 rfl rfl ?_
    refine nw_getA l_X10_shortenOver_23 26 rfl k_29 r_29_1 ?_
    refine nw_iload_n l_X10_shortenOver_26 27 rfl rfl ?_
    have o3 := h.1
    replace h := h.2
    refine nw_aald l_X10_shortenOver_27 28 rfl k_31 (Or.inr rfl) o3 (nw_tabR o3) ?_
    refine nw_iload_n l_X10_shortenOver_28 29 rfl rfl ?_
    have o4 := h.1
    replace h := h.2
    refine nw_iald l_X10_shortenOver_29 30 rfl (nw_tabK o3) o4 (v := J (32 + x3.toNat) x2) rfl ?_
    refine nw_iconst (len := 0) l_X10_shortenOver_30 31 rfl c_n1 ?_
    refine nw_ic_eq l_X10_shortenOver_31 34 rfl (fun q5 => ?_) (fun q5 => ?_)
    · replace h := h.1 q5
      have o6 := h.1
      replace h := h.2
      refine nw_iinc l_X10_shortenOver_108 111 rfl 1 (by decide) rfl rfl o6 (ls' := [some (.inr (.inl (some 29))), some (.inr (.inl (some 3))), some (.inl x2), some (.inl x3), some (.inl (x4 + 1)), none]) rfl ?_
      refine nw_goto l_X10_shortenOver_111 ?_
      exact h
    · replace h := h.2 q5
      refine nw_aload_n l_X10_shortenOver_34 35 rfl rfl ?_
      refine nw_getA l_X10_shortenOver_35 38 rfl k_29 r_29_1 ?_
      refine nw_iload_n l_X10_shortenOver_38 39 rfl rfl ?_
      refine nw_aald l_X10_shortenOver_39 40 rfl k_31 (Or.inr rfl) o4 (nw_tabR o4) ?_
      refine nw_iload l_X10_shortenOver_40 42 rfl rfl ?_
      have o7 := h.1
      replace h := h.2
      refine nw_iald l_X10_shortenOver_42 43 rfl (nw_tabK o4) o7 (v := J (32 + x2.toNat) x4) rfl ?_
      refine nw_iconst (len := 0) l_X10_shortenOver_43 44 rfl c_n1 ?_
      refine nw_ic_ne l_X10_shortenOver_44 47 rfl (fun q8 => ?_) (fun q8 => ?_)
      · replace h := h.1 q8
        refine nw_aload_n l_X10_shortenOver_50 51 rfl rfl ?_
        refine nw_getA l_X10_shortenOver_51 54 rfl k_29 r_29_1 ?_
        refine nw_iload_n l_X10_shortenOver_54 55 rfl rfl ?_
        refine nw_aald l_X10_shortenOver_55 56 rfl k_31 (Or.inr rfl) o3 (nw_tabR o3) ?_
        refine nw_iload_n l_X10_shortenOver_56 57 rfl rfl ?_
        refine nw_iald l_X10_shortenOver_57 58 rfl (nw_tabK o3) o4 (v := J (32 + x3.toNat) x2) rfl ?_
        refine nw_aload_n l_X10_shortenOver_58 59 rfl rfl ?_
        refine nw_getA l_X10_shortenOver_59 62 rfl k_29 r_29_1 ?_
        refine nw_iload_n l_X10_shortenOver_62 63 rfl rfl ?_
        refine nw_aald l_X10_shortenOver_63 64 rfl k_31 (Or.inr rfl) o4 (nw_tabR o4) ?_
        refine nw_iload l_X10_shortenOver_64 66 rfl rfl ?_
        refine nw_iald l_X10_shortenOver_66 67 rfl (nw_tabK o4) o7 (v := J (32 + x2.toNat) x4) rfl ?_
        have o9 := h.1
        replace h := h.2
        refine nw_iadd l_X10_shortenOver_67 68 rfl o9 ?_
        refine nw_istore l_X10_shortenOver_68 70 rfl rfl (ls' := [some (.inr (.inl (some 29))), some (.inr (.inl (some 3))), some (.inl x2), some (.inl x3), some (.inl x4), some (.inl ((J (32 + x3.toNat) x2) + (J (32 + x2.toNat) x4)))]) rfl ?_
        refine nw_aload_n l_X10_shortenOver_70 71 rfl rfl ?_
        refine nw_getA l_X10_shortenOver_71 74 rfl k_29 r_29_1 ?_
        refine nw_iload_n l_X10_shortenOver_74 75 rfl rfl ?_
        refine nw_aald l_X10_shortenOver_75 76 rfl k_31 (Or.inr rfl) o3 (nw_tabR o3) ?_
        refine nw_iload l_X10_shortenOver_76 78 rfl rfl ?_
        refine nw_iald l_X10_shortenOver_78 79 rfl (nw_tabK o3) o7 (v := J (32 + x3.toNat) x4) rfl ?_
        refine nw_iconst (len := 0) l_X10_shortenOver_79 80 rfl c_n1 ?_
        refine nw_ic_eq l_X10_shortenOver_80 83 rfl (fun q10 => ?_) (fun q10 => ?_)
        · replace h := h.1 q10
          refine nw_aload_n l_X10_shortenOver_97 98 rfl rfl ?_
          refine nw_getA l_X10_shortenOver_98 101 rfl k_29 r_29_1 ?_
          refine nw_iload_n l_X10_shortenOver_101 102 rfl rfl ?_
          refine nw_aald l_X10_shortenOver_102 103 rfl k_31 (Or.inr rfl) o3 (nw_tabR o3) ?_
          refine nw_iload l_X10_shortenOver_103 105 rfl rfl ?_
          refine nw_iload l_X10_shortenOver_105 107 rfl rfl ?_
          refine nw_iast l_X10_shortenOver_107 108 rfl (nw_tabK o3) o7 ?_
          have o11 := h.1
          replace h := h.2
          refine nw_iinc l_X10_shortenOver_108 111 rfl 1 (by decide) rfl rfl o11 (ls' := [some (.inr (.inl (some 29))), some (.inr (.inl (some 3))), some (.inl x2), some (.inl x3), some (.inl (x4 + 1)), some (.inl ((J (32 + x3.toNat) x2) + (J (32 + x2.toNat) x4)))]) rfl ?_
          refine nw_goto l_X10_shortenOver_111 ?_
          refine nw_drop (ls' := [some (.inr (.inl (some 29))), some (.inr (.inl (some 3))), some (.inl x2), some (.inl x3), some (.inl (x4 + 1)), none]) ⟨rfl, ⟨rfl, ⟨rfl, ⟨rfl, ⟨rfl, ⟨True.intro, True.intro⟩⟩⟩⟩⟩⟩ ?_
          exact h
        · replace h := h.2 q10
          refine nw_iload l_X10_shortenOver_83 85 rfl rfl ?_
          refine nw_aload_n l_X10_shortenOver_85 86 rfl rfl ?_
          refine nw_getA l_X10_shortenOver_86 89 rfl k_29 r_29_1 ?_
          refine nw_iload_n l_X10_shortenOver_89 90 rfl rfl ?_
          refine nw_aald l_X10_shortenOver_90 91 rfl k_31 (Or.inr rfl) o3 (nw_tabR o3) ?_
          refine nw_iload l_X10_shortenOver_91 93 rfl rfl ?_
          refine nw_iald l_X10_shortenOver_93 94 rfl (nw_tabK o3) o7 (v := J (32 + x3.toNat) x4) rfl ?_
          refine nw_ic_ge l_X10_shortenOver_94 97 rfl (fun q12 => ?_) (fun q12 => ?_)
          · replace h := h.1 q12
            have o13 := h.1
            replace h := h.2
            refine nw_iinc l_X10_shortenOver_108 111 rfl 1 (by decide) rfl rfl o13 (ls' := [some (.inr (.inl (some 29))), some (.inr (.inl (some 3))), some (.inl x2), some (.inl x3), some (.inl (x4 + 1)), some (.inl ((J (32 + x3.toNat) x2) + (J (32 + x2.toNat) x4)))]) rfl ?_
            refine nw_goto l_X10_shortenOver_111 ?_
            refine nw_drop (ls' := [some (.inr (.inl (some 29))), some (.inr (.inl (some 3))), some (.inl x2), some (.inl x3), some (.inl (x4 + 1)), none]) ⟨rfl, ⟨rfl, ⟨rfl, ⟨rfl, ⟨rfl, ⟨True.intro, True.intro⟩⟩⟩⟩⟩⟩ ?_
            exact h
          · replace h := h.2 q12
            refine nw_aload_n l_X10_shortenOver_97 98 rfl rfl ?_
            refine nw_getA l_X10_shortenOver_98 101 rfl k_29 r_29_1 ?_
            refine nw_iload_n l_X10_shortenOver_101 102 rfl rfl ?_
            refine nw_aald l_X10_shortenOver_102 103 rfl k_31 (Or.inr rfl) o3 (nw_tabR o3) ?_
            refine nw_iload l_X10_shortenOver_103 105 rfl rfl ?_
            refine nw_iload l_X10_shortenOver_105 107 rfl rfl ?_
            refine nw_iast l_X10_shortenOver_107 108 rfl (nw_tabK o3) o7 ?_
            have o14 := h.1
            replace h := h.2
            refine nw_iinc l_X10_shortenOver_108 111 rfl 1 (by decide) rfl rfl o14 (ls' := [some (.inr (.inl (some 29))), some (.inr (.inl (some 3))), some (.inl x2), some (.inl x3), some (.inl (x4 + 1)), some (.inl ((J (32 + x3.toNat) x2) + (J (32 + x2.toNat) x4)))]) rfl ?_
            refine nw_goto l_X10_shortenOver_111 ?_
            refine nw_drop (ls' := [some (.inr (.inl (some 29))), some (.inr (.inl (some 3))), some (.inl x2), some (.inl x3), some (.inl (x4 + 1)), none]) ⟨rfl, ⟨rfl, ⟨rfl, ⟨rfl, ⟨rfl, ⟨True.intro, True.intro⟩⟩⟩⟩⟩⟩ ?_
            exact h
      · replace h := h.2 q8
        refine nw_goto l_X10_shortenOver_47 ?_
        have o15 := h.1
        replace h := h.2
        refine nw_iinc l_X10_shortenOver_108 111 rfl 1 (by decide) rfl rfl o15 (ls' := [some (.inr (.inl (some 29))), some (.inr (.inl (some 3))), some (.inl x2), some (.inl x3), some (.inl (x4 + 1)), none]) rfl ?_
        refine nw_goto l_X10_shortenOver_111 ?_
        exact h
theorem b_X10_shortestOutOf_0 {x2 : Int} (h : NW sc d_X10_shortestOutOf D (5, [none, some (.inr (.inl (some 3))), some (.inl x2), some (.inl (-1)), some (.inl 0), none, none], [], (J, L, W), c, sl) Qr Qx) :
    NW sc d_X10_shortestOutOf D (0, [some (.inr (.inl (some 29))), some (.inr (.inl (some 3))), some (.inl x2), none, none, none, none], [], (J, L, W), c, sl) Qr Qx := by
  refine nw_iconst (len := 0) l_X10_shortestOutOf_0 1 rfl c_n1 ?_
  refine nw_istore_n l_X10_shortestOutOf_1 2 rfl rfl (ls' := [some (.inr (.inl (some 29))), some (.inr (.inl (some 3))), some (.inl x2), some (.inl (-1)), none, none, none]) rfl ?_
  refine nw_iconst (len := 0) l_X10_shortestOutOf_2 3 rfl c_0 ?_
  refine nw_istore l_X10_shortestOutOf_3 5 rfl rfl (ls' := [some (.inr (.inl (some 29))), some (.inr (.inl (some 3))), some (.inl x2), some (.inl (-1)), some (.inl 0), none, none]) rfl ?_
  refine nw_drop (ls' := [none, some (.inr (.inl (some 3))), some (.inl x2), some (.inl (-1)), some (.inl 0), none, none]) ⟨True.intro, ⟨rfl, ⟨rfl, ⟨rfl, ⟨rfl, ⟨True.intro, ⟨True.intro, True.intro⟩⟩⟩⟩⟩⟩⟩ ?_
  exact h
theorem b_X10_shortestOutOf_5 {x2 : Int} {x3 : Int} {x4 : Int} (h : ((J 3 1 ≤ x4 → Qr (some (.inl x3)) (J, L, W)) ∧ (x4 < J 3 1 → ((0 ≤ x4 ∧ x4 < 10) ∧ ((¬ nw_xiand (nw_xishr x2 (J 5 x4)) 1 = nw_xiand (nw_xishr x2 (J 6 x4)) 1 → ((x3 = (-1) → ((-2147483648 ≤ x4 + 1 ∧ x4 + 1 < 2147483648) ∧ NW sc d_X10_shortestOutOf D (5, [none, some (.inr (.inl (some 3))), some (.inl x2), some (.inl x4), some (.inl (x4 + 1)), none, none], [], (J, L, W), c, sl) Qr Qx)) ∧ (¬ x3 = (-1) → ((0 ≤ x3 ∧ x3 < 10) ∧ ((J 7 x3 ≤ J 7 x4 → ((-2147483648 ≤ x4 + 1 ∧ x4 + 1 < 2147483648) ∧ NW sc d_X10_shortestOutOf D (5, [none, some (.inr (.inl (some 3))), some (.inl x2), some (.inl x3), some (.inl (x4 + 1)), none, none], [], (J, L, W), c, sl) Qr Qx)) ∧ (J 7 x4 < J 7 x3 → ((-2147483648 ≤ x4 + 1 ∧ x4 + 1 < 2147483648) ∧ NW sc d_X10_shortestOutOf D (5, [none, some (.inr (.inl (some 3))), some (.inl x2), some (.inl x4), some (.inl (x4 + 1)), none, none], [], (J, L, W), c, sl) Qr Qx))))))) ∧ (nw_xiand (nw_xishr x2 (J 5 x4)) 1 = nw_xiand (nw_xishr x2 (J 6 x4)) 1 → ((-2147483648 ≤ x4 + 1 ∧ x4 + 1 < 2147483648) ∧ NW sc d_X10_shortestOutOf D (5, [none, some (.inr (.inl (some 3))), some (.inl x2), some (.inl x3), some (.inl (x4 + 1)), none, none], [], (J, L, W), c, sl) Qr Qx))))))) :
    NW sc d_X10_shortestOutOf D (5, [none, some (.inr (.inl (some 3))), some (.inl x2), some (.inl x3), some (.inl x4), none, none], [], (J, L, W), c, sl) Qr Qx := by
  refine nw_iload l_X10_shortestOutOf_5 7 rfl rfl ?_
  refine nw_aload_n l_X10_shortestOutOf_7 8 rfl rfl ?_
  refine nw_getI l_X10_shortestOutOf_8 11 rfl k_3 (v := J 3 1) rfl ?_
  refine nw_ic_ge l_X10_shortestOutOf_11 14 rfl (fun q1 => ?_) (fun q1 => ?_)
  · replace h := h.1 q1
    refine nw_iload_n l_X10_shortestOutOf_80 81 rfl rfl ?_
    refine nw_ireturn l_X10_shortestOutOf_81 rfl ?_
    exact h
  · replace h := h.2 q1
    refine nw_iload_n l_X10_shortestOutOf_14 15 rfl rfl ?_
    refine nw_aload_n l_X10_shortestOutOf_15 16 rfl rfl ?_
    refine nw_getA l_X10_shortestOutOf_16 19 rfl k_3 r_3_3 ?_
    refine nw_iload l_X10_shortestOutOf_19 21 rfl rfl ?_
    have o2 := h.1
    replace h := h.2
    refine nw_iald l_X10_shortestOutOf_21 22 rfl k_5 o2 (v := J 5 x4) rfl ?_
    refine nw_ishr l_X10_shortestOutOf_22 23 rfl ?_
    refine nw_iconst (len := 0) l_X10_shortestOutOf_23 24 rfl c_1 ?_
    refine nw_iand l_X10_shortestOutOf_24 25 rfl ?_
    refine nw_istore l_X10_shortestOutOf_25 27 rfl rfl (ls' := [none, some (.inr (.inl (some 3))), some (.inl x2), some (.inl x3), some (.inl x4), some (.inl (nw_xiand (nw_xishr x2 (J 5 x4)) 1)), none]) rfl ?_
    refine nw_iload_n l_X10_shortestOutOf_27 28 rfl rfl ?_
    refine nw_aload_n l_X10_shortestOutOf_28 29 rfl rfl ?_
    refine nw_getA l_X10_shortestOutOf_29 32 rfl k_3 r_3_4 ?_
    refine nw_iload l_X10_shortestOutOf_32 34 rfl rfl ?_
    refine nw_iald l_X10_shortestOutOf_34 35 rfl k_6 o2 (v := J 6 x4) rfl ?_
    refine nw_ishr l_X10_shortestOutOf_35 36 rfl ?_
    refine nw_iconst (len := 0) l_X10_shortestOutOf_36 37 rfl c_1 ?_
    refine nw_iand l_X10_shortestOutOf_37 38 rfl ?_
    refine nw_istore l_X10_shortestOutOf_38 40 rfl rfl (ls' := [none, some (.inr (.inl (some 3))), some (.inl x2), some (.inl x3), some (.inl x4), some (.inl (nw_xiand (nw_xishr x2 (J 5 x4)) 1)), some (.inl (nw_xiand (nw_xishr x2 (J 6 x4)) 1))]) rfl ?_
    refine nw_iload l_X10_shortestOutOf_40 42 rfl rfl ?_
    refine nw_iload l_X10_shortestOutOf_42 44 rfl rfl ?_
    refine nw_ic_ne l_X10_shortestOutOf_44 47 rfl (fun q3 => ?_) (fun q3 => ?_)
    · replace h := h.1 q3
      refine nw_iload_n l_X10_shortestOutOf_50 51 rfl rfl ?_
      refine nw_iconst (len := 0) l_X10_shortestOutOf_51 52 rfl c_n1 ?_
      refine nw_ic_eq l_X10_shortestOutOf_52 55 rfl (fun q4 => ?_) (fun q4 => ?_)
      · replace h := h.1 q4
        refine nw_iload l_X10_shortestOutOf_71 73 rfl rfl ?_
        refine nw_istore_n l_X10_shortestOutOf_73 74 rfl rfl (ls' := [none, some (.inr (.inl (some 3))), some (.inl x2), some (.inl x4), some (.inl x4), some (.inl (nw_xiand (nw_xishr x2 (J 5 x4)) 1)), some (.inl (nw_xiand (nw_xishr x2 (J 6 x4)) 1))]) rfl ?_
        have o5 := h.1
        replace h := h.2
        refine nw_iinc l_X10_shortestOutOf_74 77 rfl 1 (by decide) rfl rfl o5 (ls' := [none, some (.inr (.inl (some 3))), some (.inl x2), some (.inl x4), some (.inl (x4 + 1)), some (.inl (nw_xiand (nw_xishr x2 (J 5 x4)) 1)), some (.inl (nw_xiand (nw_xishr x2 (J 6 x4)) 1))]) rfl ?_
        refine nw_goto l_X10_shortestOutOf_77 ?_
        refine nw_drop (ls' := [none, some (.inr (.inl (some 3))), some (.inl x2), some (.inl x4), some (.inl (x4 + 1)), none, none]) ⟨True.intro, ⟨rfl, ⟨rfl, ⟨rfl, ⟨rfl, ⟨True.intro, ⟨True.intro, True.intro⟩⟩⟩⟩⟩⟩⟩ ?_
        exact h
      · replace h := h.2 q4
        refine nw_aload_n l_X10_shortestOutOf_55 56 rfl rfl ?_
        refine nw_getA l_X10_shortestOutOf_56 59 rfl k_3 r_3_5 ?_
        refine nw_iload l_X10_shortestOutOf_59 61 rfl rfl ?_
        refine nw_iald l_X10_shortestOutOf_61 62 rfl k_7 o2 (v := J 7 x4) rfl ?_
        refine nw_aload_n l_X10_shortestOutOf_62 63 rfl rfl ?_
        refine nw_getA l_X10_shortestOutOf_63 66 rfl k_3 r_3_5 ?_
        refine nw_iload_n l_X10_shortestOutOf_66 67 rfl rfl ?_
        have o6 := h.1
        replace h := h.2
        refine nw_iald l_X10_shortestOutOf_67 68 rfl k_7 o6 (v := J 7 x3) rfl ?_
        refine nw_ic_ge l_X10_shortestOutOf_68 71 rfl (fun q7 => ?_) (fun q7 => ?_)
        · replace h := h.1 q7
          have o8 := h.1
          replace h := h.2
          refine nw_iinc l_X10_shortestOutOf_74 77 rfl 1 (by decide) rfl rfl o8 (ls' := [none, some (.inr (.inl (some 3))), some (.inl x2), some (.inl x3), some (.inl (x4 + 1)), some (.inl (nw_xiand (nw_xishr x2 (J 5 x4)) 1)), some (.inl (nw_xiand (nw_xishr x2 (J 6 x4)) 1))]) rfl ?_
          refine nw_goto l_X10_shortestOutOf_77 ?_
          refine nw_drop (ls' := [none, some (.inr (.inl (some 3))), some (.inl x2), some (.inl x3), some (.inl (x4 + 1)), none, none]) ⟨True.intro, ⟨rfl, ⟨rfl, ⟨rfl, ⟨rfl, ⟨True.intro, ⟨True.intro, True.intro⟩⟩⟩⟩⟩⟩⟩ ?_
          exact h
        · replace h := h.2 q7
          refine nw_iload l_X10_shortestOutOf_71 73 rfl rfl ?_
          refine nw_istore_n l_X10_shortestOutOf_73 74 rfl rfl (ls' := [none, some (.inr (.inl (some 3))), some (.inl x2), some (.inl x4), some (.inl x4), some (.inl (nw_xiand (nw_xishr x2 (J 5 x4)) 1)), some (.inl (nw_xiand (nw_xishr x2 (J 6 x4)) 1))]) rfl ?_
          have o9 := h.1
          replace h := h.2
          refine nw_iinc l_X10_shortestOutOf_74 77 rfl 1 (by decide) rfl rfl o9 (ls' := [none, some (.inr (.inl (some 3))), some (.inl x2), some (.inl x4), some (.inl (x4 + 1)), some (.inl (nw_xiand (nw_xishr x2 (J 5 x4)) 1)), some (.inl (nw_xiand (nw_xishr x2 (J 6 x4)) 1))]) rfl ?_
          refine nw_goto l_X10_shortestOutOf_77 ?_
          refine nw_drop (ls' := [none, some (.inr (.inl (some 3))), some (.inl x2), some (.inl x4), some (.inl (x4 + 1)), none, none]) ⟨True.intro, ⟨rfl, ⟨rfl, ⟨rfl, ⟨rfl, ⟨True.intro, ⟨True.intro, True.intro⟩⟩⟩⟩⟩⟩⟩ ?_
          exact h
    · replace h := h.2 q3
      refine nw_goto l_X10_shortestOutOf_47 ?_
      have o10 := h.1
      replace h := h.2
      refine nw_iinc l_X10_shortestOutOf_74 77 rfl 1 (by decide) rfl rfl o10 (ls' := [none, some (.inr (.inl (some 3))), some (.inl x2), some (.inl x3), some (.inl (x4 + 1)), some (.inl (nw_xiand (nw_xishr x2 (J 5 x4)) 1)), some (.inl (nw_xiand (nw_xishr x2 (J 6 x4)) 1))]) rfl ?_
      refine nw_goto l_X10_shortestOutOf_77 ?_
      refine nw_drop (ls' := [none, some (.inr (.inl (some 3))), some (.inl x2), some (.inl x3), some (.inl (x4 + 1)), none, none]) ⟨True.intro, ⟨rfl, ⟨rfl, ⟨rfl, ⟨rfl, ⟨True.intro, ⟨True.intro, True.intro⟩⟩⟩⟩⟩⟩⟩ ?_
      exact h
theorem b_X10_spreadFrom_0 {x2 : Int} (hD : 1 ≤ D) (h : NW sc d_J7_fill_53178 0 (0, [some (.inr (.inl (some 30))), some (.inl (-1)), none, none], [], (J, L, W), 0, 0) (fun v M9 => NW sc d_X10_spreadFrom D (8, [some (.inr (.inl (some 29))), some (.inr (.inl (some 3))), some (.inl x2), none, none, none, none], nw_push v [], M9, c, sl) Qr Qx) Qx) :
    NW sc d_X10_spreadFrom D (0, [some (.inr (.inl (some 29))), some (.inr (.inl (some 3))), some (.inl x2), none, none, none, none], [], (J, L, W), c, sl) Qr Qx := by
  refine nw_aload_n l_X10_spreadFrom_0 1 rfl rfl ?_
  refine nw_getA l_X10_spreadFrom_1 4 rfl k_29 r_29_0 ?_
  refine nw_iconst (len := 0) l_X10_spreadFrom_4 5 rfl c_n1 ?_
  refine nw_call0 0 0 l_X10_spreadFrom_5 rfl rfl g_J7_fill_53178 (Nat.lt_of_lt_of_le (by decide) hD) rfl True.intro (ls' := [some (.inr (.inl (some 30))), some (.inl (-1)), none, none]) rfl (st' := []) rfl 8 rfl ?_
  exact h
theorem b_X10_spreadFrom_8 {x2 : Int} (hD : 1 ≤ D) (h : NW sc d_X2_put 0 (0, [some (.inr (.inl (some 40))), some (.inl x2), some (.inl 0), none], [], (nw_u J 40 1 0, L, W), 0, 0) (fun v M9 => NW sc d_X10_spreadFrom D (24, [some (.inr (.inl (some 29))), some (.inr (.inl (some 3))), none, none, none, none, none], nw_push v [], M9, c, sl) Qr Qx) Qx) :
    NW sc d_X10_spreadFrom D (8, [some (.inr (.inl (some 29))), some (.inr (.inl (some 3))), some (.inl x2), none, none, none, none], [], (J, L, W), c, sl) Qr Qx := by
  refine nw_aload_n l_X10_spreadFrom_8 9 rfl rfl ?_
  refine nw_getA l_X10_spreadFrom_9 12 rfl k_29 r_29_4 ?_
  refine nw_call0 0 40 l_X10_spreadFrom_12 rfl rfl g_X2_reset (Nat.lt_of_lt_of_le (by decide) hD) rfl (Or.inl ⟨_, rfl, k_40⟩) (ls' := [some (.inr (.inl (some 40)))]) rfl (st' := []) rfl 15 rfl ?_
  refine nw_aload_n l_X2_reset_0 1 rfl rfl ?_
  refine nw_iconst (len := 0) l_X2_reset_1 2 rfl c_0 ?_
  refine nw_putI l_X2_reset_2 5 rfl k_40 ?_
  refine nw_return l_X2_reset_5 rfl ?_
  refine nw_aload_n l_X10_spreadFrom_15 16 rfl rfl ?_
  refine nw_getA l_X10_spreadFrom_16 19 rfl k_29 r_29_4 ?_
  refine nw_iload_n l_X10_spreadFrom_19 20 rfl rfl ?_
  refine nw_iconst (len := 0) l_X10_spreadFrom_20 21 rfl c_0 ?_
  refine nw_drop (ls' := [some (.inr (.inl (some 29))), some (.inr (.inl (some 3))), none, none, none, none, none]) ⟨rfl, ⟨rfl, ⟨True.intro, ⟨True.intro, ⟨True.intro, ⟨True.intro, ⟨True.intro, True.intro⟩⟩⟩⟩⟩⟩⟩ ?_
  refine nw_call0 0 40 l_X10_spreadFrom_21 rfl rfl g_X2_put (Nat.lt_of_lt_of_le (by decide) hD) rfl (Or.inl ⟨_, rfl, k_40⟩) (ls' := [some (.inr (.inl (some 40))), some (.inl x2), some (.inl 0), none]) rfl (st' := []) rfl 24 rfl ?_
  exact h
theorem b_X10_spreadFrom_24  (h : NW sc d_X10_spreadFrom D (26, [some (.inr (.inl (some 29))), some (.inr (.inl (some 3))), none, some (.inl 0), none, none, none], [], (J, L, W), c, sl) Qr Qx) :
    NW sc d_X10_spreadFrom D (24, [some (.inr (.inl (some 29))), some (.inr (.inl (some 3))), none, none, none, none, none], [], (J, L, W), c, sl) Qr Qx := by
  refine nw_iconst (len := 0) l_X10_spreadFrom_24 25 rfl c_0 ?_
  refine nw_istore_n l_X10_spreadFrom_25 26 rfl rfl (ls' := [some (.inr (.inl (some 29))), some (.inr (.inl (some 3))), none, some (.inl 0), none, none, none]) rfl ?_
  exact h
theorem b_X10_spreadFrom_26 {x3 : Int} (hD : 1 ≤ D) (h : ((21 ≤ x3 → Qr none (J, L, W)) ∧ (x3 < 21 → NW sc d_X2_take 0 (0, [some (.inr (.inl (some 40)))], [], (J, L, W), 0, 0) (fun v M9 => NW sc d_X10_spreadFrom D (39, [some (.inr (.inl (some 29))), some (.inr (.inl (some 3))), none, some (.inl x3), none, none, none], nw_push v [], M9, c, sl) Qr Qx) Qx))) :
    NW sc d_X10_spreadFrom D (26, [some (.inr (.inl (some 29))), some (.inr (.inl (some 3))), none, some (.inl x3), none, none, none], [], (J, L, W), c, sl) Qr Qx := by
  refine nw_iload_n l_X10_spreadFrom_26 27 rfl rfl ?_
  refine nw_bipush (len := 0) l_X10_spreadFrom_27 29 rfl c_21 ?_
  refine nw_ic_ge l_X10_spreadFrom_29 32 rfl (fun q1 => ?_) (fun q1 => ?_)
  · replace h := h.1 q1
    refine nw_return l_X10_spreadFrom_151 rfl ?_
    exact h
  · replace h := h.2 q1
    refine nw_aload_n l_X10_spreadFrom_32 33 rfl rfl ?_
    refine nw_getA l_X10_spreadFrom_33 36 rfl k_29 r_29_4 ?_
    refine nw_call0 0 40 l_X10_spreadFrom_36 rfl rfl g_X2_take (Nat.lt_of_lt_of_le (by decide) hD) rfl (Or.inl ⟨_, rfl, k_40⟩) (ls' := [some (.inr (.inl (some 40)))]) rfl (st' := []) rfl 39 rfl ?_
    exact h
theorem b_X10_spreadFrom_39 {x3 : Int} {y0 : Int} (h : ((¬ y0 = (-1) → ((0 ≤ y0 ∧ y0 < 6) ∧ ((J 30 y0 = (-1) → NW sc d_X10_spreadFrom D (79, [some (.inr (.inl (some 29))), some (.inr (.inl (some 3))), none, some (.inl x3), some (.inl y0), some (.inl 0), none], [], (nw_u J 30 y0 (J 40 0), L, W), c, sl) Qr Qx) ∧ (¬ J 30 y0 = (-1) → ((-2147483648 ≤ x3 + 1 ∧ x3 + 1 < 2147483648) ∧ NW sc d_X10_spreadFrom D (26, [some (.inr (.inl (some 29))), some (.inr (.inl (some 3))), none, some (.inl (x3 + 1)), none, none, none], [], (J, L, W), c, sl) Qr Qx))))) ∧ (y0 = (-1) → Qr none (J, L, W)))) :
    NW sc d_X10_spreadFrom D (39, [some (.inr (.inl (some 29))), some (.inr (.inl (some 3))), none, some (.inl x3), none, none, none], [.inl y0], (J, L, W), c, sl) Qr Qx := by
  refine nw_istore l_X10_spreadFrom_39 41 rfl rfl (ls' := [some (.inr (.inl (some 29))), some (.inr (.inl (some 3))), none, some (.inl x3), some (.inl y0), none, none]) rfl ?_
  refine nw_iload l_X10_spreadFrom_41 43 rfl rfl ?_
  refine nw_iconst (len := 0) l_X10_spreadFrom_43 44 rfl c_n1 ?_
  refine nw_ic_ne l_X10_spreadFrom_44 47 rfl (fun q1 => ?_) (fun q1 => ?_)
  · replace h := h.1 q1
    refine nw_aload_n l_X10_spreadFrom_48 49 rfl rfl ?_
    refine nw_getA l_X10_spreadFrom_49 52 rfl k_29 r_29_0 ?_
    refine nw_iload l_X10_spreadFrom_52 54 rfl rfl ?_
    have o2 := h.1
    replace h := h.2
    refine nw_iald l_X10_spreadFrom_54 55 rfl k_30 o2 (v := J 30 y0) rfl ?_
    refine nw_iconst (len := 0) l_X10_spreadFrom_55 56 rfl c_n1 ?_
    refine nw_ic_eq l_X10_spreadFrom_56 59 rfl (fun q3 => ?_) (fun q3 => ?_)
    · replace h := h.1 q3
      refine nw_aload_n l_X10_spreadFrom_62 63 rfl rfl ?_
      refine nw_getA l_X10_spreadFrom_63 66 rfl k_29 r_29_0 ?_
      refine nw_iload l_X10_spreadFrom_66 68 rfl rfl ?_
      refine nw_aload_n l_X10_spreadFrom_68 69 rfl rfl ?_
      refine nw_getA l_X10_spreadFrom_69 72 rfl k_29 r_29_4 ?_
      refine nw_getI l_X10_spreadFrom_72 75 rfl k_40 (v := J 40 0) rfl ?_
      refine nw_iast l_X10_spreadFrom_75 76 rfl k_30 o2 ?_
      refine nw_iconst (len := 0) l_X10_spreadFrom_76 77 rfl c_0 ?_
      refine nw_istore l_X10_spreadFrom_77 79 rfl rfl (ls' := [some (.inr (.inl (some 29))), some (.inr (.inl (some 3))), none, some (.inl x3), some (.inl y0), some (.inl 0), none]) rfl ?_
      exact h
    · replace h := h.2 q3
      refine nw_goto l_X10_spreadFrom_59 ?_
      have o4 := h.1
      replace h := h.2
      refine nw_iinc l_X10_spreadFrom_145 148 rfl 1 (by decide) rfl rfl o4 (ls' := [some (.inr (.inl (some 29))), some (.inr (.inl (some 3))), none, some (.inl (x3 + 1)), some (.inl y0), none, none]) rfl ?_
      refine nw_goto l_X10_spreadFrom_148 ?_
      refine nw_drop (ls' := [some (.inr (.inl (some 29))), some (.inr (.inl (some 3))), none, some (.inl (x3 + 1)), none, none, none]) ⟨rfl, ⟨rfl, ⟨True.intro, ⟨rfl, ⟨True.intro, ⟨True.intro, ⟨True.intro, True.intro⟩⟩⟩⟩⟩⟩⟩ ?_
      exact h
  · replace h := h.2 q1
    refine nw_return l_X10_spreadFrom_47 rfl ?_
    exact h
theorem b_X10_spreadFrom_79 {x3 : Int} {x4 : Int} {x5 : Int} (hD : 1 ≤ D) (h : ((J 3 1 ≤ x5 → ((-2147483648 ≤ x3 + 1 ∧ x3 + 1 < 2147483648) ∧ NW sc d_X10_spreadFrom D (26, [some (.inr (.inl (some 29))), some (.inr (.inl (some 3))), none, some (.inl (x3 + 1)), none, none, none], [], (J, L, W), c, sl) Qr Qx)) ∧ (x5 < J 3 1 → ((0 ≤ x5 ∧ x5 < 10) ∧ ((¬ J 5 x5 = x4 → ((¬ J 6 x5 = x4 → ((-2147483648 ≤ x5 + 1 ∧ x5 + 1 < 2147483648) ∧ NW sc d_X10_spreadFrom D (79, [some (.inr (.inl (some 29))), some (.inr (.inl (some 3))), none, some (.inl x3), some (.inl x4), some (.inl (x5 + 1)), none], [], (J, L, W), c, sl) Qr Qx)) ∧ (J 6 x5 = x4 → ((J 5 x5 = (-1) → ((-2147483648 ≤ x5 + 1 ∧ x5 + 1 < 2147483648) ∧ NW sc d_X10_spreadFrom D (79, [some (.inr (.inl (some 29))), some (.inr (.inl (some 3))), none, some (.inl x3), some (.inl x4), some (.inl (x5 + 1)), none], [], (J, L, W), c, sl) Qr Qx)) ∧ (¬ J 5 x5 = (-1) → ((0 ≤ J 5 x5 ∧ J 5 x5 < 6) ∧ ((¬ J 30 (J 5 x5) = (-1) → ((-2147483648 ≤ x5 + 1 ∧ x5 + 1 < 2147483648) ∧ NW sc d_X10_spreadFrom D (79, [some (.inr (.inl (some 29))), some (.inr (.inl (some 3))), none, some (.inl x3), some (.inl x4), some (.inl (x5 + 1)), none], [], (J, L, W), c, sl) Qr Qx)) ∧ (J 30 (J 5 x5) = (-1) → ((0 ≤ x4 ∧ x4 < 6) ∧ ((-2147483648 ≤ (J 30 x4) + (J 7 x5) ∧ (J 30 x4) + (J 7 x5) < 2147483648) ∧ NW sc d_X2_put 0 (0, [some (.inr (.inl (some 40))), some (.inl (J 5 x5)), some (.inl ((J 30 x4) + (J 7 x5))), none], [], (J, L, W), 0, 0) (fun v M9 => NW sc d_X10_spreadFrom D (139, [some (.inr (.inl (some 29))), some (.inr (.inl (some 3))), none, some (.inl x3), some (.inl x4), some (.inl x5), none], nw_push v [], M9, c, sl) Qr Qx) Qx)))))))))) ∧ (J 5 x5 = x4 → ((J 6 x5 = (-1) → ((-2147483648 ≤ x5 + 1 ∧ x5 + 1 < 2147483648) ∧ NW sc d_X10_spreadFrom D (79, [some (.inr (.inl (some 29))), some (.inr (.inl (some 3))), none, some (.inl x3), some (.inl x4), some (.inl (x5 + 1)), none], [], (J, L, W), c, sl) Qr Qx)) ∧ (¬ J 6 x5 = (-1) → ((0 ≤ J 6 x5 ∧ J 6 x5 < 6) ∧ ((¬ J 30 (J 6 x5) = (-1) → ((-2147483648 ≤ x5 + 1 ∧ x5 + 1 < 2147483648) ∧ NW sc d_X10_spreadFrom D (79, [some (.inr (.inl (some 29))), some (.inr (.inl (some 3))), none, some (.inl x3), some (.inl x4), some (.inl (x5 + 1)), none], [], (J, L, W), c, sl) Qr Qx)) ∧ (J 30 (J 6 x5) = (-1) → ((0 ≤ x4 ∧ x4 < 6) ∧ ((-2147483648 ≤ (J 30 x4) + (J 7 x5) ∧ (J 30 x4) + (J 7 x5) < 2147483648) ∧ NW sc d_X2_put 0 (0, [some (.inr (.inl (some 40))), some (.inl (J 6 x5)), some (.inl ((J 30 x4) + (J 7 x5))), none], [], (J, L, W), 0, 0) (fun v M9 => NW sc d_X10_spreadFrom D (139, [some (.inr (.inl (some 29))), some (.inr (.inl (some 3))), none, some (.inl x3), some (.inl x4), some (.inl x5), none], nw_push v [], M9, c, sl) Qr Qx) Qx))))))))))))) :
    NW sc d_X10_spreadFrom D (79, [some (.inr (.inl (some 29))), some (.inr (.inl (some 3))), none, some (.inl x3), some (.inl x4), some (.inl x5), none], [], (J, L, W), c, sl) Qr Qx := by
  refine nw_iload l_X10_spreadFrom_79 81 rfl rfl ?_
  refine nw_aload_n l_X10_spreadFrom_81 82 rfl rfl ?_
  refine nw_getI l_X10_spreadFrom_82 85 rfl k_3 (v := J 3 1) rfl ?_
  refine nw_ic_ge l_X10_spreadFrom_85 88 rfl (fun q1 => ?_) (fun q1 => ?_)
  · replace h := h.1 q1
    have o2 := h.1
    replace h := h.2
    refine nw_iinc l_X10_spreadFrom_145 148 rfl 1 (by decide) rfl rfl o2 (ls' := [some (.inr (.inl (some 29))), some (.inr (.inl (some 3))), none, some (.inl (x3 + 1)), some (.inl x4), some (.inl x5), none]) rfl ?_
    refine nw_goto l_X10_spreadFrom_148 ?_
    refine nw_drop (ls' := [some (.inr (.inl (some 29))), some (.inr (.inl (some 3))), none, some (.inl (x3 + 1)), none, none, none]) ⟨rfl, ⟨rfl, ⟨True.intro, ⟨rfl, ⟨True.intro, ⟨True.intro, ⟨True.intro, True.intro⟩⟩⟩⟩⟩⟩⟩ ?_
    exact h
  · replace h := h.2 q1
    refine nw_aload_n l_X10_spreadFrom_88 89 rfl rfl ?_
    refine nw_iload l_X10_spreadFrom_89 91 rfl rfl ?_
    refine nw_iload l_X10_spreadFrom_91 93 rfl rfl ?_
    refine nw_call0 0 3 l_X10_spreadFrom_93 rfl rfl g_X9_farEnd (Nat.lt_of_lt_of_le (by decide) hD) rfl (Or.inl ⟨_, rfl, k_3⟩) (ls' := [some (.inr (.inl (some 3))), some (.inl x5), some (.inl x4)]) rfl (st' := []) rfl 96 rfl ?_
    refine nw_aload_n l_X9_farEnd_0 1 rfl rfl ?_
    refine nw_getA l_X9_farEnd_1 4 rfl k_3 r_3_3 ?_
    refine nw_iload_n l_X9_farEnd_4 5 rfl rfl ?_
    have o3 := h.1
    replace h := h.2
    refine nw_iald l_X9_farEnd_5 6 rfl k_5 o3 (v := J 5 x5) rfl ?_
    refine nw_iload_n l_X9_farEnd_6 7 rfl rfl ?_
    refine nw_ic_ne l_X9_farEnd_7 10 rfl (fun q4 => ?_) (fun q4 => ?_)
    · replace h := h.1 q4
      refine nw_aload_n l_X9_farEnd_17 18 rfl rfl ?_
      refine nw_getA l_X9_farEnd_18 21 rfl k_3 r_3_4 ?_
      refine nw_iload_n l_X9_farEnd_21 22 rfl rfl ?_
      refine nw_iald l_X9_farEnd_22 23 rfl k_6 o3 (v := J 6 x5) rfl ?_
      refine nw_iload_n l_X9_farEnd_23 24 rfl rfl ?_
      refine nw_ic_ne l_X9_farEnd_24 27 rfl (fun q5 => ?_) (fun q5 => ?_)
      · replace h := h.1 q5
        refine nw_iconst (len := 0) l_X9_farEnd_36 37 rfl c_n1 ?_
        refine nw_ireturn l_X9_farEnd_37 rfl ?_
        refine nw_istore l_X10_spreadFrom_96 98 rfl rfl (ls' := [some (.inr (.inl (some 29))), some (.inr (.inl (some 3))), none, some (.inl x3), some (.inl x4), some (.inl x5), some (.inl (-1))]) rfl ?_
        refine nw_iload l_X10_spreadFrom_98 100 rfl rfl ?_
        refine nw_iconst (len := 0) l_X10_spreadFrom_100 101 rfl c_n1 ?_
        refine nw_ic_eq l_X10_spreadFrom_101 104 rfl (fun _ => ?_) (fun q => absurd q (by decide))
        have o6 := h.1
        replace h := h.2
        refine nw_iinc l_X10_spreadFrom_139 142 rfl 1 (by decide) rfl rfl o6 (ls' := [some (.inr (.inl (some 29))), some (.inr (.inl (some 3))), none, some (.inl x3), some (.inl x4), some (.inl (x5 + 1)), some (.inl (-1))]) rfl ?_
        refine nw_goto l_X10_spreadFrom_142 ?_
        refine nw_drop (ls' := [some (.inr (.inl (some 29))), some (.inr (.inl (some 3))), none, some (.inl x3), some (.inl x4), some (.inl (x5 + 1)), none]) ⟨rfl, ⟨rfl, ⟨True.intro, ⟨rfl, ⟨rfl, ⟨rfl, ⟨True.intro, True.intro⟩⟩⟩⟩⟩⟩⟩ ?_
        exact h
      · replace h := h.2 q5
        refine nw_aload_n l_X9_farEnd_27 28 rfl rfl ?_
        refine nw_getA l_X9_farEnd_28 31 rfl k_3 r_3_3 ?_
        refine nw_iload_n l_X9_farEnd_31 32 rfl rfl ?_
        refine nw_iald l_X9_farEnd_32 33 rfl k_5 o3 (v := J 5 x5) rfl ?_
        refine nw_goto l_X9_farEnd_33 ?_
        refine nw_ireturn l_X9_farEnd_37 rfl ?_
        refine nw_istore l_X10_spreadFrom_96 98 rfl rfl (ls' := [some (.inr (.inl (some 29))), some (.inr (.inl (some 3))), none, some (.inl x3), some (.inl x4), some (.inl x5), some (.inl (J 5 x5))]) rfl ?_
        refine nw_iload l_X10_spreadFrom_98 100 rfl rfl ?_
        refine nw_iconst (len := 0) l_X10_spreadFrom_100 101 rfl c_n1 ?_
        refine nw_ic_eq l_X10_spreadFrom_101 104 rfl (fun q7 => ?_) (fun q7 => ?_)
        · replace h := h.1 q7
          have o8 := h.1
          replace h := h.2
          refine nw_iinc l_X10_spreadFrom_139 142 rfl 1 (by decide) rfl rfl o8 (ls' := [some (.inr (.inl (some 29))), some (.inr (.inl (some 3))), none, some (.inl x3), some (.inl x4), some (.inl (x5 + 1)), some (.inl (J 5 x5))]) rfl ?_
          refine nw_goto l_X10_spreadFrom_142 ?_
          refine nw_drop (ls' := [some (.inr (.inl (some 29))), some (.inr (.inl (some 3))), none, some (.inl x3), some (.inl x4), some (.inl (x5 + 1)), none]) ⟨rfl, ⟨rfl, ⟨True.intro, ⟨rfl, ⟨rfl, ⟨rfl, ⟨True.intro, True.intro⟩⟩⟩⟩⟩⟩⟩ ?_
          exact h
        · replace h := h.2 q7
          refine nw_aload_n l_X10_spreadFrom_104 105 rfl rfl ?_
          refine nw_getA l_X10_spreadFrom_105 108 rfl k_29 r_29_0 ?_
          refine nw_iload l_X10_spreadFrom_108 110 rfl rfl ?_
          have o9 := h.1
          replace h := h.2
          refine nw_iald l_X10_spreadFrom_110 111 rfl k_30 o9 (v := J 30 (J 5 x5)) rfl ?_
          refine nw_iconst (len := 0) l_X10_spreadFrom_111 112 rfl c_n1 ?_
          refine nw_ic_ne l_X10_spreadFrom_112 115 rfl (fun q10 => ?_) (fun q10 => ?_)
          · replace h := h.1 q10
            have o11 := h.1
            replace h := h.2
            refine nw_iinc l_X10_spreadFrom_139 142 rfl 1 (by decide) rfl rfl o11 (ls' := [some (.inr (.inl (some 29))), some (.inr (.inl (some 3))), none, some (.inl x3), some (.inl x4), some (.inl (x5 + 1)), some (.inl (J 5 x5))]) rfl ?_
            refine nw_goto l_X10_spreadFrom_142 ?_
            refine nw_drop (ls' := [some (.inr (.inl (some 29))), some (.inr (.inl (some 3))), none, some (.inl x3), some (.inl x4), some (.inl (x5 + 1)), none]) ⟨rfl, ⟨rfl, ⟨True.intro, ⟨rfl, ⟨rfl, ⟨rfl, ⟨True.intro, True.intro⟩⟩⟩⟩⟩⟩⟩ ?_
            exact h
          · replace h := h.2 q10
            refine nw_aload_n l_X10_spreadFrom_115 116 rfl rfl ?_
            refine nw_getA l_X10_spreadFrom_116 119 rfl k_29 r_29_4 ?_
            refine nw_iload l_X10_spreadFrom_119 121 rfl rfl ?_
            refine nw_aload_n l_X10_spreadFrom_121 122 rfl rfl ?_
            refine nw_getA l_X10_spreadFrom_122 125 rfl k_29 r_29_0 ?_
            refine nw_iload l_X10_spreadFrom_125 127 rfl rfl ?_
            have o12 := h.1
            replace h := h.2
            refine nw_iald l_X10_spreadFrom_127 128 rfl k_30 o12 (v := J 30 x4) rfl ?_
            refine nw_aload_n l_X10_spreadFrom_128 129 rfl rfl ?_
            refine nw_getA l_X10_spreadFrom_129 132 rfl k_3 r_3_5 ?_
            refine nw_iload l_X10_spreadFrom_132 134 rfl rfl ?_
            refine nw_iald l_X10_spreadFrom_134 135 rfl k_7 o3 (v := J 7 x5) rfl ?_
            have o13 := h.1
            replace h := h.2
            refine nw_iadd l_X10_spreadFrom_135 136 rfl o13 ?_
            refine nw_drop (ls' := [some (.inr (.inl (some 29))), some (.inr (.inl (some 3))), none, some (.inl x3), some (.inl x4), some (.inl x5), none]) ⟨rfl, ⟨rfl, ⟨True.intro, ⟨rfl, ⟨rfl, ⟨rfl, ⟨True.intro, True.intro⟩⟩⟩⟩⟩⟩⟩ ?_
            refine nw_call0 0 40 l_X10_spreadFrom_136 rfl rfl g_X2_put (Nat.lt_of_lt_of_le (by decide) hD) rfl (Or.inl ⟨_, rfl, k_40⟩) (ls' := [some (.inr (.inl (some 40))), some (.inl (J 5 x5)), some (.inl ((J 30 x4) + (J 7 x5))), none]) rfl (st' := []) rfl 139 rfl ?_
            exact h
    · replace h := h.2 q4
      refine nw_aload_n l_X9_farEnd_10 11 rfl rfl ?_
      refine nw_getA l_X9_farEnd_11 14 rfl k_3 r_3_4 ?_
      refine nw_iload_n l_X9_farEnd_14 15 rfl rfl ?_
      refine nw_iald l_X9_farEnd_15 16 rfl k_6 o3 (v := J 6 x5) rfl ?_
      refine nw_ireturn l_X9_farEnd_16 rfl ?_
      refine nw_istore l_X10_spreadFrom_96 98 rfl rfl (ls' := [some (.inr (.inl (some 29))), some (.inr (.inl (some 3))), none, some (.inl x3), some (.inl x4), some (.inl x5), some (.inl (J 6 x5))]) rfl ?_
      refine nw_iload l_X10_spreadFrom_98 100 rfl rfl ?_
      refine nw_iconst (len := 0) l_X10_spreadFrom_100 101 rfl c_n1 ?_
      refine nw_ic_eq l_X10_spreadFrom_101 104 rfl (fun q14 => ?_) (fun q14 => ?_)
      · replace h := h.1 q14
        have o15 := h.1
        replace h := h.2
        refine nw_iinc l_X10_spreadFrom_139 142 rfl 1 (by decide) rfl rfl o15 (ls' := [some (.inr (.inl (some 29))), some (.inr (.inl (some 3))), none, some (.inl x3), some (.inl x4), some (.inl (x5 + 1)), some (.inl (J 6 x5))]) rfl ?_
        refine nw_goto l_X10_spreadFrom_142 ?_
        refine nw_drop (ls' := [some (.inr (.inl (some 29))), some (.inr (.inl (some 3))), none, some (.inl x3), some (.inl x4), some (.inl (x5 + 1)), none]) ⟨rfl, ⟨rfl, ⟨True.intro, ⟨rfl, ⟨rfl, ⟨rfl, ⟨True.intro, True.intro⟩⟩⟩⟩⟩⟩⟩ ?_
        exact h
      · replace h := h.2 q14
        refine nw_aload_n l_X10_spreadFrom_104 105 rfl rfl ?_
        refine nw_getA l_X10_spreadFrom_105 108 rfl k_29 r_29_0 ?_
        refine nw_iload l_X10_spreadFrom_108 110 rfl rfl ?_
        have o16 := h.1
        replace h := h.2
        refine nw_iald l_X10_spreadFrom_110 111 rfl k_30 o16 (v := J 30 (J 6 x5)) rfl ?_
        refine nw_iconst (len := 0) l_X10_spreadFrom_111 112 rfl c_n1 ?_
        refine nw_ic_ne l_X10_spreadFrom_112 115 rfl (fun q17 => ?_) (fun q17 => ?_)
        · replace h := h.1 q17
          have o18 := h.1
          replace h := h.2
          refine nw_iinc l_X10_spreadFrom_139 142 rfl 1 (by decide) rfl rfl o18 (ls' := [some (.inr (.inl (some 29))), some (.inr (.inl (some 3))), none, some (.inl x3), some (.inl x4), some (.inl (x5 + 1)), some (.inl (J 6 x5))]) rfl ?_
          refine nw_goto l_X10_spreadFrom_142 ?_
          refine nw_drop (ls' := [some (.inr (.inl (some 29))), some (.inr (.inl (some 3))), none, some (.inl x3), some (.inl x4), some (.inl (x5 + 1)), none]) ⟨rfl, ⟨rfl, ⟨True.intro, ⟨rfl, ⟨rfl, ⟨rfl, ⟨True.intro, True.intro⟩⟩⟩⟩⟩⟩⟩ ?_
          exact h
        · replace h := h.2 q17
          refine nw_aload_n l_X10_spreadFrom_115 116 rfl rfl ?_
          refine nw_getA l_X10_spreadFrom_116 119 rfl k_29 r_29_4 ?_
          refine nw_iload l_X10_spreadFrom_119 121 rfl rfl ?_
          refine nw_aload_n l_X10_spreadFrom_121 122 rfl rfl ?_
          refine nw_getA l_X10_spreadFrom_122 125 rfl k_29 r_29_0 ?_
          refine nw_iload l_X10_spreadFrom_125 127 rfl rfl ?_
          have o19 := h.1
          replace h := h.2
          refine nw_iald l_X10_spreadFrom_127 128 rfl k_30 o19 (v := J 30 x4) rfl ?_
          refine nw_aload_n l_X10_spreadFrom_128 129 rfl rfl ?_
          refine nw_getA l_X10_spreadFrom_129 132 rfl k_3 r_3_5 ?_
          refine nw_iload l_X10_spreadFrom_132 134 rfl rfl ?_
          refine nw_iald l_X10_spreadFrom_134 135 rfl k_7 o3 (v := J 7 x5) rfl ?_
          have o20 := h.1
          replace h := h.2
          refine nw_iadd l_X10_spreadFrom_135 136 rfl o20 ?_
          refine nw_drop (ls' := [some (.inr (.inl (some 29))), some (.inr (.inl (some 3))), none, some (.inl x3), some (.inl x4), some (.inl x5), none]) ⟨rfl, ⟨rfl, ⟨True.intro, ⟨rfl, ⟨rfl, ⟨rfl, ⟨True.intro, True.intro⟩⟩⟩⟩⟩⟩⟩ ?_
          refine nw_call0 0 40 l_X10_spreadFrom_136 rfl rfl g_X2_put (Nat.lt_of_lt_of_le (by decide) hD) rfl (Or.inl ⟨_, rfl, k_40⟩) (ls' := [some (.inr (.inl (some 40))), some (.inl (J 6 x5)), some (.inl ((J 30 x4) + (J 7 x5))), none]) rfl (st' := []) rfl 139 rfl ?_
          exact h
theorem b_X10_spreadFrom_139 {x3 : Int} {x4 : Int} {x5 : Int} (h : ((-2147483648 ≤ x5 + 1 ∧ x5 + 1 < 2147483648) ∧ NW sc d_X10_spreadFrom D (79, [some (.inr (.inl (some 29))), some (.inr (.inl (some 3))), none, some (.inl x3), some (.inl x4), some (.inl (x5 + 1)), none], [], (J, L, W), c, sl) Qr Qx)) :
    NW sc d_X10_spreadFrom D (139, [some (.inr (.inl (some 29))), some (.inr (.inl (some 3))), none, some (.inl x3), some (.inl x4), some (.inl x5), none], [], (J, L, W), c, sl) Qr Qx := by
  have o1 := h.1
  replace h := h.2
  refine nw_iinc l_X10_spreadFrom_139 142 rfl 1 (by decide) rfl rfl o1 (ls' := [some (.inr (.inl (some 29))), some (.inr (.inl (some 3))), none, some (.inl x3), some (.inl x4), some (.inl (x5 + 1)), none]) rfl ?_
  refine nw_goto l_X10_spreadFrom_142 ?_
  exact h
theorem b_X3_askAll_0  (h : NW sc d_X3_askAll D (13, [some (.inr (.inl (some 28))), some (.inr (.inl (some 2))), some (.inl 0)], [], (nw_u J 28 2 (J 18 0), L, W), c, sl) Qr Qx) :
    NW sc d_X3_askAll D (0, [some (.inr (.inl (some 28))), some (.inr (.inl (some 2))), none], [], (J, L, W), c, sl) Qr Qx := by
  refine nw_aload_n l_X3_askAll_0 1 rfl rfl ?_
  refine nw_aload_n l_X3_askAll_1 2 rfl rfl ?_
  refine nw_getA l_X3_askAll_2 5 rfl k_2 r_2_2 ?_
  refine nw_getI l_X3_askAll_5 8 rfl k_18 (v := J 18 0) rfl ?_
  refine nw_putI l_X3_askAll_8 11 rfl k_28 ?_
  refine nw_iconst (len := 0) l_X3_askAll_11 12 rfl c_0 ?_
  refine nw_istore_n l_X3_askAll_12 13 rfl rfl (ls' := [some (.inr (.inl (some 28))), some (.inr (.inl (some 2))), some (.inl 0)]) rfl ?_
  exact h
theorem b_X3_askAll_13 {x2 : Int} (hD : 3 ≤ D) (h : ((J 28 2 ≤ x2 → Qr none (J, L, W)) ∧ (x2 < J 28 2 → NW sc d_X3_fareAt 2 (0, [some (.inr (.inl (some 28))), some (.inr (.inl (some 2))), some (.inl x2), none, none, none], [], (J, L, W), 0, 0) (fun v M9 => NW sc d_X3_askAll D (32, [some (.inr (.inl (some 28))), some (.inr (.inl (some 2))), some (.inl x2)], nw_push v [.inl x2, .inr (.inl (some 46))], M9, c, sl) Qr Qx) Qx))) :
    NW sc d_X3_askAll D (13, [some (.inr (.inl (some 28))), some (.inr (.inl (some 2))), some (.inl x2)], [], (J, L, W), c, sl) Qr Qx := by
  refine nw_iload_n l_X3_askAll_13 14 rfl rfl ?_
  refine nw_aload_n l_X3_askAll_14 15 rfl rfl ?_
  refine nw_getI l_X3_askAll_15 18 rfl k_28 (v := J 28 2) rfl ?_
  refine nw_ic_ge l_X3_askAll_18 21 rfl (fun q1 => ?_) (fun q1 => ?_)
  · replace h := h.1 q1
    refine nw_return l_X3_askAll_39 rfl ?_
    exact h
  · replace h := h.2 q1
    refine nw_aload_n l_X3_askAll_21 22 rfl rfl ?_
    refine nw_getA l_X3_askAll_22 25 rfl k_28 r_28_1 ?_
    refine nw_iload_n l_X3_askAll_25 26 rfl rfl ?_
    refine nw_aload_n l_X3_askAll_26 27 rfl rfl ?_
    refine nw_aload_n l_X3_askAll_27 28 rfl rfl ?_
    refine nw_iload_n l_X3_askAll_28 29 rfl rfl ?_
    refine nw_call0 2 28 l_X3_askAll_29 rfl rfl g_X3_fareAt (Nat.lt_of_lt_of_le (by decide) hD) rfl (Or.inl ⟨_, rfl, k_28⟩) (ls' := [some (.inr (.inl (some 28))), some (.inr (.inl (some 2))), some (.inl x2), none, none, none]) rfl (st' := [.inl x2, .inr (.inl (some 46))]) rfl 32 rfl ?_
    exact h
theorem b_X3_askAll_32 {x2 : Int} {y0 : Int} {y1 : Int} (h : ((0 ≤ y1 ∧ y1 < 10) ∧ ((-2147483648 ≤ x2 + 1 ∧ x2 + 1 < 2147483648) ∧ NW sc d_X3_askAll D (13, [some (.inr (.inl (some 28))), some (.inr (.inl (some 2))), some (.inl (x2 + 1))], [], (nw_u J 46 y1 y0, L, W), c, sl) Qr Qx))) :
    NW sc d_X3_askAll D (32, [some (.inr (.inl (some 28))), some (.inr (.inl (some 2))), some (.inl x2)], [.inl y0, .inl y1, .inr (.inl (some 46))], (J, L, W), c, sl) Qr Qx := by
  have o1 := h.1
  replace h := h.2
  refine nw_iast l_X3_askAll_32 33 rfl k_46 o1 ?_
  have o2 := h.1
  replace h := h.2
  refine nw_iinc l_X3_askAll_33 36 rfl 1 (by decide) rfl rfl o2 (ls' := [some (.inr (.inl (some 28))), some (.inr (.inl (some 2))), some (.inl (x2 + 1))]) rfl ?_
  refine nw_goto l_X3_askAll_36 ?_
  exact h
theorem b_X3_fareAt_0 {x2 : Int} (hD : 2 ≤ D) (h : ((0 ≤ x2 ∧ x2 < 10) ∧ NW sc d_X10_spreadFrom 1 (0, [some (.inr (.inl (some 29))), some (.inr (.inl (some 3))), some (.inl (J 20 x2)), none, none, none, none], [], (J, L, W), 0, 0) (fun v M9 => NW sc d_X3_fareAt D (20, [some (.inr (.inl (some 28))), some (.inr (.inl (some 2))), some (.inl x2), none, none, none], nw_push v [], M9, c, sl) Qr Qx) Qx)) :
    NW sc d_X3_fareAt D (0, [some (.inr (.inl (some 28))), some (.inr (.inl (some 2))), some (.inl x2), none, none, none], [], (J, L, W), c, sl) Qr Qx := by
  refine nw_aload_n l_X3_fareAt_0 1 rfl rfl ?_
  refine nw_getA l_X3_fareAt_1 4 rfl k_28 r_28_0 ?_
  refine nw_aload_n l_X3_fareAt_4 5 rfl rfl ?_
  refine nw_getA l_X3_fareAt_5 8 rfl k_2 r_2_0 ?_
  refine nw_aload_n l_X3_fareAt_8 9 rfl rfl ?_
  refine nw_getA l_X3_fareAt_9 12 rfl k_2 r_2_2 ?_
  refine nw_getA l_X3_fareAt_12 15 rfl k_18 r_18_3 ?_
  refine nw_iload_n l_X3_fareAt_15 16 rfl rfl ?_
  have o1 := h.1
  replace h := h.2
  refine nw_iald l_X3_fareAt_16 17 rfl k_20 o1 (v := J 20 x2) rfl ?_
  refine nw_call0 1 29 l_X3_fareAt_17 rfl rfl g_X10_spreadFrom (Nat.lt_of_lt_of_le (by decide) hD) rfl (Or.inl ⟨_, rfl, k_29⟩) (ls' := [some (.inr (.inl (some 29))), some (.inr (.inl (some 3))), some (.inl (J 20 x2)), none, none, none, none]) rfl (st' := []) rfl 20 rfl ?_
  exact h
theorem b_X3_fareAt_20 {x2 : Int} (h : ((0 ≤ x2 ∧ x2 < 10) ∧ ((0 ≤ J 21 x2 ∧ J 21 x2 < 6) ∧ ((4 < J 23 x2 → ((-2147483648 ≤ 8 - (J 23 x2) ∧ 8 - (J 23 x2) < 2147483648) ∧ ((¬ J 30 (J 21 x2) = (-1) → ((-2147483648 ≤ (8 - (J 23 x2)) + 1 ∧ (8 - (J 23 x2)) + 1 < 2147483648) ∧ ((-2147483648 ≤ (J 30 (J 21 x2)) * ((8 - (J 23 x2)) + 1) ∧ (J 30 (J 21 x2)) * ((8 - (J 23 x2)) + 1) < 2147483648) ∧ Qr (some (.inl ((J 30 (J 21 x2)) * ((8 - (J 23 x2)) + 1)))) (J, L, W)))) ∧ (J 30 (J 21 x2) = (-1) → Qr (some (.inl 0)) (J, L, W))))) ∧ (J 23 x2 ≤ 4 → ((¬ J 30 (J 21 x2) = (-1) → ((-2147483648 ≤ (J 23 x2) + 1 ∧ (J 23 x2) + 1 < 2147483648) ∧ ((-2147483648 ≤ (J 30 (J 21 x2)) * ((J 23 x2) + 1) ∧ (J 30 (J 21 x2)) * ((J 23 x2) + 1) < 2147483648) ∧ Qr (some (.inl ((J 30 (J 21 x2)) * ((J 23 x2) + 1)))) (J, L, W)))) ∧ (J 30 (J 21 x2) = (-1) → Qr (some (.inl 0)) (J, L, W)))))))) :
    NW sc d_X3_fareAt D (20, [some (.inr (.inl (some 28))), some (.inr (.inl (some 2))), some (.inl x2), none, none, none], [], (J, L, W), c, sl) Qr Qx := by
  refine nw_aload_n l_X3_fareAt_20 21 rfl rfl ?_
  refine nw_getA l_X3_fareAt_21 24 rfl k_28 r_28_0 ?_
  refine nw_getA l_X3_fareAt_24 27 rfl k_29 r_29_0 ?_
  refine nw_aload_n l_X3_fareAt_27 28 rfl rfl ?_
  refine nw_getA l_X3_fareAt_28 31 rfl k_2 r_2_2 ?_
  refine nw_getA l_X3_fareAt_31 34 rfl k_18 r_18_4 ?_
  refine nw_iload_n l_X3_fareAt_34 35 rfl rfl ?_
  have o1 := h.1
  replace h := h.2
  refine nw_iald l_X3_fareAt_35 36 rfl k_21 o1 (v := J 21 x2) rfl ?_
  have o2 := h.1
  replace h := h.2
  refine nw_iald l_X3_fareAt_36 37 rfl k_30 o2 (v := J 30 (J 21 x2)) rfl ?_
  refine nw_istore_n l_X3_fareAt_37 38 rfl rfl (ls' := [some (.inr (.inl (some 28))), some (.inr (.inl (some 2))), some (.inl x2), some (.inl (J 30 (J 21 x2))), none, none]) rfl ?_
  refine nw_aload_n l_X3_fareAt_38 39 rfl rfl ?_
  refine nw_getA l_X3_fareAt_39 42 rfl k_2 r_2_2 ?_
  refine nw_getA l_X3_fareAt_42 45 rfl k_18 r_18_6 ?_
  refine nw_iload_n l_X3_fareAt_45 46 rfl rfl ?_
  refine nw_iald l_X3_fareAt_46 47 rfl k_23 o1 (v := J 23 x2) rfl ?_
  refine nw_istore l_X3_fareAt_47 49 rfl rfl (ls' := [some (.inr (.inl (some 28))), some (.inr (.inl (some 2))), some (.inl x2), some (.inl (J 30 (J 21 x2))), some (.inl (J 23 x2)), none]) rfl ?_
  refine nw_iload l_X3_fareAt_49 51 rfl rfl ?_
  refine nw_iconst (len := 0) l_X3_fareAt_51 52 rfl c_4 ?_
  refine nw_ic_gt l_X3_fareAt_52 55 rfl (fun q3 => ?_) (fun q3 => ?_)
  · replace h := h.1 q3
    refine nw_bipush (len := 0) l_X3_fareAt_60 62 rfl c_8 ?_
    refine nw_iload l_X3_fareAt_62 64 rfl rfl ?_
    have o4 := h.1
    replace h := h.2
    refine nw_isub l_X3_fareAt_64 65 rfl o4 ?_
    refine nw_istore l_X3_fareAt_65 67 rfl rfl (ls' := [some (.inr (.inl (some 28))), some (.inr (.inl (some 2))), some (.inl x2), some (.inl (J 30 (J 21 x2))), some (.inl (J 23 x2)), some (.inl (8 - (J 23 x2)))]) rfl ?_
    refine nw_iload_n l_X3_fareAt_67 68 rfl rfl ?_
    refine nw_iconst (len := 0) l_X3_fareAt_68 69 rfl c_n1 ?_
    refine nw_ic_ne l_X3_fareAt_69 72 rfl (fun q5 => ?_) (fun q5 => ?_)
    · replace h := h.1 q5
      refine nw_iload_n l_X3_fareAt_76 77 rfl rfl ?_
      refine nw_iload l_X3_fareAt_77 79 rfl rfl ?_
      refine nw_iconst (len := 0) l_X3_fareAt_79 80 rfl c_1 ?_
      have o6 := h.1
      replace h := h.2
      refine nw_iadd l_X3_fareAt_80 81 rfl o6 ?_
      have o7 := h.1
      replace h := h.2
      refine nw_imul l_X3_fareAt_81 82 rfl o7 ?_
      refine nw_ireturn l_X3_fareAt_82 rfl ?_
      exact h
    · replace h := h.2 q5
      refine nw_iconst (len := 0) l_X3_fareAt_72 73 rfl c_0 ?_
      refine nw_goto l_X3_fareAt_73 ?_
      refine nw_ireturn l_X3_fareAt_82 rfl ?_
      exact h
  · replace h := h.2 q3
    refine nw_iload l_X3_fareAt_55 57 rfl rfl ?_
    refine nw_goto l_X3_fareAt_57 ?_
    refine nw_istore l_X3_fareAt_65 67 rfl rfl (ls' := [some (.inr (.inl (some 28))), some (.inr (.inl (some 2))), some (.inl x2), some (.inl (J 30 (J 21 x2))), some (.inl (J 23 x2)), some (.inl (J 23 x2))]) rfl ?_
    refine nw_iload_n l_X3_fareAt_67 68 rfl rfl ?_
    refine nw_iconst (len := 0) l_X3_fareAt_68 69 rfl c_n1 ?_
    refine nw_ic_ne l_X3_fareAt_69 72 rfl (fun q8 => ?_) (fun q8 => ?_)
    · replace h := h.1 q8
      refine nw_iload_n l_X3_fareAt_76 77 rfl rfl ?_
      refine nw_iload l_X3_fareAt_77 79 rfl rfl ?_
      refine nw_iconst (len := 0) l_X3_fareAt_79 80 rfl c_1 ?_
      have o9 := h.1
      replace h := h.2
      refine nw_iadd l_X3_fareAt_80 81 rfl o9 ?_
      have o10 := h.1
      replace h := h.2
      refine nw_imul l_X3_fareAt_81 82 rfl o10 ?_
      refine nw_ireturn l_X3_fareAt_82 rfl ?_
      exact h
    · replace h := h.2 q8
      refine nw_iconst (len := 0) l_X3_fareAt_72 73 rfl c_0 ?_
      refine nw_goto l_X3_fareAt_73 ?_
      refine nw_ireturn l_X3_fareAt_82 rfl ?_
      exact h
theorem b_X3_growTree_0  (h : NW sc d_X3_growTree D (7, [some (.inr (.inl (some 28))), some (.inl 0)], [], (nw_u J 28 3 0, L, W), c, sl) Qr Qx) :
    NW sc d_X3_growTree D (0, [some (.inr (.inl (some 28))), none], [], (J, L, W), c, sl) Qr Qx := by
  refine nw_aload_n l_X3_growTree_0 1 rfl rfl ?_
  refine nw_iconst (len := 0) l_X3_growTree_1 2 rfl c_0 ?_
  refine nw_putI l_X3_growTree_2 5 rfl k_28 ?_
  refine nw_iconst (len := 0) l_X3_growTree_5 6 rfl c_0 ?_
  refine nw_istore_n l_X3_growTree_6 7 rfl rfl (ls' := [some (.inr (.inl (some 28))), some (.inl 0)]) rfl ?_
  exact h
theorem b_X3_growTree_7 {x1 : Int} (hD : 2 ≤ D) (h : ((J 28 2 ≤ x1 → Qr none (J, L, W)) ∧ (x1 < J 28 2 → ((0 ≤ x1 ∧ x1 < 10) ∧ NW sc d_X3_plant 1 (0, [some (.inr (.inl (some 28))), some (.inl (J 46 x1)), none, none, none, none], [], (J, L, W), 0, 0) (fun v M9 => NW sc d_X3_growTree D (25, [some (.inr (.inl (some 28))), some (.inl x1)], nw_push v [], M9, c, sl) Qr Qx) Qx)))) :
    NW sc d_X3_growTree D (7, [some (.inr (.inl (some 28))), some (.inl x1)], [], (J, L, W), c, sl) Qr Qx := by
  refine nw_iload_n l_X3_growTree_7 8 rfl rfl ?_
  refine nw_aload_n l_X3_growTree_8 9 rfl rfl ?_
  refine nw_getI l_X3_growTree_9 12 rfl k_28 (v := J 28 2) rfl ?_
  refine nw_ic_ge l_X3_growTree_12 15 rfl (fun q1 => ?_) (fun q1 => ?_)
  · replace h := h.1 q1
    refine nw_return l_X3_growTree_31 rfl ?_
    exact h
  · replace h := h.2 q1
    refine nw_aload_n l_X3_growTree_15 16 rfl rfl ?_
    refine nw_aload_n l_X3_growTree_16 17 rfl rfl ?_
    refine nw_getA l_X3_growTree_17 20 rfl k_28 r_28_1 ?_
    refine nw_iload_n l_X3_growTree_20 21 rfl rfl ?_
    have o2 := h.1
    replace h := h.2
    refine nw_iald l_X3_growTree_21 22 rfl k_46 o2 (v := J 46 x1) rfl ?_
    refine nw_call0 1 28 l_X3_growTree_22 rfl rfl g_X3_plant (Nat.lt_of_lt_of_le (by decide) hD) rfl (Or.inl ⟨_, rfl, k_28⟩) (ls' := [some (.inr (.inl (some 28))), some (.inl (J 46 x1)), none, none, none, none]) rfl (st' := []) rfl 25 rfl ?_
    exact h
theorem b_X3_growTree_25 {x1 : Int} (h : ((-2147483648 ≤ x1 + 1 ∧ x1 + 1 < 2147483648) ∧ NW sc d_X3_growTree D (7, [some (.inr (.inl (some 28))), some (.inl (x1 + 1))], [], (J, L, W), c, sl) Qr Qx)) :
    NW sc d_X3_growTree D (25, [some (.inr (.inl (some 28))), some (.inl x1)], [], (J, L, W), c, sl) Qr Qx := by
  have o1 := h.1
  replace h := h.2
  refine nw_iinc l_X3_growTree_25 28 rfl 1 (by decide) rfl rfl o1 (ls' := [some (.inr (.inl (some 28))), some (.inl (x1 + 1))]) rfl ?_
  refine nw_goto l_X3_growTree_28 ?_
  exact h
theorem b_X3_hang_0 {x1 : Int} {x2 : Int} {x3 : Int} (h : ((J 28 3 < 10 → ((-2147483648 ≤ (J 28 3) + 1 ∧ (J 28 3) + 1 < 2147483648) ∧ ((0 ≤ J 28 3 ∧ J 28 3 < 10) ∧ ((¬ x2 = (-1) → ((x3 = 0 → ((0 ≤ x2 ∧ x2 < 10) ∧ Qr none (nw_u (nw_u (nw_u (nw_u (nw_u (nw_u (nw_u J 28 3 ((J 28 3) + 1)) 47 (J 28 3) x1) 48 (J 28 3) 1) 49 (J 28 3) 0) 50 (J 28 3) (-1)) 51 (J 28 3) (-1)) 51 x2 (J 28 3), L, W))) ∧ (¬ x3 = 0 → ((0 ≤ x2 ∧ x2 < 10) ∧ Qr none (nw_u (nw_u (nw_u (nw_u (nw_u (nw_u (nw_u J 28 3 ((J 28 3) + 1)) 47 (J 28 3) x1) 48 (J 28 3) 1) 49 (J 28 3) 0) 50 (J 28 3) (-1)) 51 (J 28 3) (-1)) 50 x2 (J 28 3), L, W))))) ∧ (x2 = (-1) → Qr none (nw_u (nw_u (nw_u (nw_u (nw_u (nw_u J 28 3 ((J 28 3) + 1)) 47 (J 28 3) x1) 48 (J 28 3) 1) 49 (J 28 3) 0) 50 (J 28 3) (-1)) 51 (J 28 3) (-1), L, W)))))) ∧ (10 ≤ J 28 3 → Qr none (J, L, W)))) :
    NW sc d_X3_hang D (0, [some (.inr (.inl (some 28))), some (.inl x1), some (.inl x2), some (.inl x3), none], [], (J, L, W), c, sl) Qr Qx := by
  refine nw_aload_n l_X3_hang_0 1 rfl rfl ?_
  refine nw_getI l_X3_hang_1 4 rfl k_28 (v := J 28 3) rfl ?_
  refine nw_bipush (len := 0) l_X3_hang_4 6 rfl c_10 ?_
  refine nw_ic_lt l_X3_hang_6 9 rfl (fun q1 => ?_) (fun q1 => ?_)
  · replace h := h.1 q1
    refine nw_aload_n l_X3_hang_10 11 rfl rfl ?_
    refine nw_getI l_X3_hang_11 14 rfl k_28 (v := J 28 3) rfl ?_
    refine nw_istore l_X3_hang_14 16 rfl rfl (ls' := [some (.inr (.inl (some 28))), some (.inl x1), some (.inl x2), some (.inl x3), some (.inl (J 28 3))]) rfl ?_
    refine nw_aload_n l_X3_hang_16 17 rfl rfl ?_
    refine nw_dupA l_X3_hang_17 18 rfl ?_
    refine nw_getI l_X3_hang_18 21 rfl k_28 (v := J 28 3) rfl ?_
    refine nw_iconst (len := 0) l_X3_hang_21 22 rfl c_1 ?_
    have o2 := h.1
    replace h := h.2
    refine nw_iadd l_X3_hang_22 23 rfl o2 ?_
    refine nw_putI l_X3_hang_23 26 rfl k_28 ?_
    refine nw_aload_n l_X3_hang_26 27 rfl rfl ?_
    refine nw_getA l_X3_hang_27 30 rfl k_28 r_28_4 ?_
    refine nw_iload l_X3_hang_30 32 rfl rfl ?_
    refine nw_iload_n l_X3_hang_32 33 rfl rfl ?_
    have o3 := h.1
    replace h := h.2
    refine nw_iast l_X3_hang_33 34 rfl k_47 o3 ?_
    refine nw_aload_n l_X3_hang_34 35 rfl rfl ?_
    refine nw_getA l_X3_hang_35 38 rfl k_28 r_28_5 ?_
    refine nw_iload l_X3_hang_38 40 rfl rfl ?_
    refine nw_iconst (len := 0) l_X3_hang_40 41 rfl c_1 ?_
    refine nw_iast l_X3_hang_41 42 rfl k_48 o3 ?_
    refine nw_aload_n l_X3_hang_42 43 rfl rfl ?_
    refine nw_getA l_X3_hang_43 46 rfl k_28 r_28_6 ?_
    refine nw_iload l_X3_hang_46 48 rfl rfl ?_
    refine nw_iconst (len := 0) l_X3_hang_48 49 rfl c_0 ?_
    refine nw_iast l_X3_hang_49 50 rfl k_49 o3 ?_
    refine nw_aload_n l_X3_hang_50 51 rfl rfl ?_
    refine nw_getA l_X3_hang_51 54 rfl k_28 r_28_7 ?_
    refine nw_iload l_X3_hang_54 56 rfl rfl ?_
    refine nw_iconst (len := 0) l_X3_hang_56 57 rfl c_n1 ?_
    refine nw_iast l_X3_hang_57 58 rfl k_50 o3 ?_
    refine nw_aload_n l_X3_hang_58 59 rfl rfl ?_
    refine nw_getA l_X3_hang_59 62 rfl k_28 r_28_8 ?_
    refine nw_iload l_X3_hang_62 64 rfl rfl ?_
    refine nw_iconst (len := 0) l_X3_hang_64 65 rfl c_n1 ?_
    refine nw_iast l_X3_hang_65 66 rfl k_51 o3 ?_
    refine nw_iload_n l_X3_hang_66 67 rfl rfl ?_
    refine nw_iconst (len := 0) l_X3_hang_67 68 rfl c_n1 ?_
    refine nw_ic_ne l_X3_hang_68 71 rfl (fun q4 => ?_) (fun q4 => ?_)
    · replace h := h.1 q4
      refine nw_iload_n l_X3_hang_72 73 rfl rfl ?_
      refine nw_if_eq l_X3_hang_73 76 rfl (fun q5 => ?_) (fun q5 => ?_)
      · replace h := h.1 q5
        refine nw_aload_n l_X3_hang_87 88 rfl rfl ?_
        refine nw_getA l_X3_hang_88 91 rfl k_28 r_28_8 ?_
        refine nw_iload_n l_X3_hang_91 92 rfl rfl ?_
        refine nw_iload l_X3_hang_92 94 rfl rfl ?_
        have o6 := h.1
        replace h := h.2
        refine nw_iast l_X3_hang_94 95 rfl k_51 o6 ?_
        refine nw_return l_X3_hang_95 rfl ?_
        exact h
      · replace h := h.2 q5
        refine nw_aload_n l_X3_hang_76 77 rfl rfl ?_
        refine nw_getA l_X3_hang_77 80 rfl k_28 r_28_7 ?_
        refine nw_iload_n l_X3_hang_80 81 rfl rfl ?_
        refine nw_iload l_X3_hang_81 83 rfl rfl ?_
        have o7 := h.1
        replace h := h.2
        refine nw_iast l_X3_hang_83 84 rfl k_50 o7 ?_
        refine nw_goto l_X3_hang_84 ?_
        refine nw_return l_X3_hang_95 rfl ?_
        exact h
    · replace h := h.2 q4
      refine nw_return l_X3_hang_71 rfl ?_
      exact h
  · replace h := h.2 q1
    refine nw_return l_X3_hang_9 rfl ?_
    exact h
theorem b_X3_lessByAsking_0 {x1 : Int} (h : NW sc d_X3_lessByAsking D (4, [some (.inr (.inl (some 28))), some (.inl x1), some (.inl 0), some (.inl 0)], [], (J, L, W), c, sl) Qr Qx) :
    NW sc d_X3_lessByAsking D (0, [some (.inr (.inl (some 28))), some (.inl x1), none, none], [], (J, L, W), c, sl) Qr Qx := by
  refine nw_iconst (len := 0) l_X3_lessByAsking_0 1 rfl c_0 ?_
  refine nw_istore_n l_X3_lessByAsking_1 2 rfl rfl (ls' := [some (.inr (.inl (some 28))), some (.inl x1), some (.inl 0), none]) rfl ?_
  refine nw_iconst (len := 0) l_X3_lessByAsking_2 3 rfl c_0 ?_
  refine nw_istore_n l_X3_lessByAsking_3 4 rfl rfl (ls' := [some (.inr (.inl (some 28))), some (.inl x1), some (.inl 0), some (.inl 0)]) rfl ?_
  exact h
theorem b_X3_lessByAsking_4 {x1 : Int} {x2 : Int} {x3 : Int} (h : ((J 28 2 ≤ x3 → Qr (some (.inl x2)) (J, L, W)) ∧ (x3 < J 28 2 → ((0 ≤ x3 ∧ x3 < 10) ∧ ((x1 ≤ J 46 x3 → ((-2147483648 ≤ x3 + 1 ∧ x3 + 1 < 2147483648) ∧ NW sc d_X3_lessByAsking D (4, [some (.inr (.inl (some 28))), some (.inl x1), some (.inl x2), some (.inl (x3 + 1))], [], (J, L, W), c, sl) Qr Qx)) ∧ (J 46 x3 < x1 → ((-2147483648 ≤ x2 + 1 ∧ x2 + 1 < 2147483648) ∧ ((-2147483648 ≤ x3 + 1 ∧ x3 + 1 < 2147483648) ∧ NW sc d_X3_lessByAsking D (4, [some (.inr (.inl (some 28))), some (.inl x1), some (.inl (x2 + 1)), some (.inl (x3 + 1))], [], (J, L, W), c, sl) Qr Qx)))))))) :
    NW sc d_X3_lessByAsking D (4, [some (.inr (.inl (some 28))), some (.inl x1), some (.inl x2), some (.inl x3)], [], (J, L, W), c, sl) Qr Qx := by
  refine nw_iload_n l_X3_lessByAsking_4 5 rfl rfl ?_
  refine nw_aload_n l_X3_lessByAsking_5 6 rfl rfl ?_
  refine nw_getI l_X3_lessByAsking_6 9 rfl k_28 (v := J 28 2) rfl ?_
  refine nw_ic_ge l_X3_lessByAsking_9 12 rfl (fun q1 => ?_) (fun q1 => ?_)
  · replace h := h.1 q1
    refine nw_iload_n l_X3_lessByAsking_31 32 rfl rfl ?_
    refine nw_ireturn l_X3_lessByAsking_32 rfl ?_
    exact h
  · replace h := h.2 q1
    refine nw_aload_n l_X3_lessByAsking_12 13 rfl rfl ?_
    refine nw_getA l_X3_lessByAsking_13 16 rfl k_28 r_28_1 ?_
    refine nw_iload_n l_X3_lessByAsking_16 17 rfl rfl ?_
    have o2 := h.1
    replace h := h.2
    refine nw_iald l_X3_lessByAsking_17 18 rfl k_46 o2 (v := J 46 x3) rfl ?_
    refine nw_iload_n l_X3_lessByAsking_18 19 rfl rfl ?_
    refine nw_ic_ge l_X3_lessByAsking_19 22 rfl (fun q3 => ?_) (fun q3 => ?_)
    · replace h := h.1 q3
      have o4 := h.1
      replace h := h.2
      refine nw_iinc l_X3_lessByAsking_25 28 rfl 1 (by decide) rfl rfl o4 (ls' := [some (.inr (.inl (some 28))), some (.inl x1), some (.inl x2), some (.inl (x3 + 1))]) rfl ?_
      refine nw_goto l_X3_lessByAsking_28 ?_
      exact h
    · replace h := h.2 q3
      have o5 := h.1
      replace h := h.2
      refine nw_iinc l_X3_lessByAsking_22 25 rfl 1 (by decide) rfl rfl o5 (ls' := [some (.inr (.inl (some 28))), some (.inl x1), some (.inl (x2 + 1)), some (.inl x3)]) rfl ?_
      have o6 := h.1
      replace h := h.2
      refine nw_iinc l_X3_lessByAsking_25 28 rfl 1 (by decide) rfl rfl o6 (ls' := [some (.inr (.inl (some 28))), some (.inl x1), some (.inl (x2 + 1)), some (.inl (x3 + 1))]) rfl ?_
      refine nw_goto l_X3_lessByAsking_28 ?_
      exact h
theorem b_X3_lessInTree_0 {x1 : Int} (h : ((¬ J 28 3 = 0 → NW sc d_X3_lessInTree D (18, [some (.inr (.inl (some 28))), some (.inl x1), some (.inl 0), some (.inl 0), some (.inl 0)], [], (J, L, W), c, sl) Qr Qx) ∧ (J 28 3 = 0 → NW sc d_X3_lessInTree D (18, [some (.inr (.inl (some 28))), some (.inl x1), some (.inl 0), some (.inl (-1)), some (.inl 0)], [], (J, L, W), c, sl) Qr Qx))) :
    NW sc d_X3_lessInTree D (0, [some (.inr (.inl (some 28))), some (.inl x1), none, none, none], [], (J, L, W), c, sl) Qr Qx := by
  refine nw_iconst (len := 0) l_X3_lessInTree_0 1 rfl c_0 ?_
  refine nw_istore_n l_X3_lessInTree_1 2 rfl rfl (ls' := [some (.inr (.inl (some 28))), some (.inl x1), some (.inl 0), none, none]) rfl ?_
  refine nw_aload_n l_X3_lessInTree_2 3 rfl rfl ?_
  refine nw_getI l_X3_lessInTree_3 6 rfl k_28 (v := J 28 3) rfl ?_
  refine nw_if_ne l_X3_lessInTree_6 9 rfl (fun q1 => ?_) (fun q1 => ?_)
  · replace h := h.1 q1
    refine nw_iconst (len := 0) l_X3_lessInTree_13 14 rfl c_0 ?_
    refine nw_istore_n l_X3_lessInTree_14 15 rfl rfl (ls' := [some (.inr (.inl (some 28))), some (.inl x1), some (.inl 0), some (.inl 0), none]) rfl ?_
    refine nw_iconst (len := 0) l_X3_lessInTree_15 16 rfl c_0 ?_
    refine nw_istore l_X3_lessInTree_16 18 rfl rfl (ls' := [some (.inr (.inl (some 28))), some (.inl x1), some (.inl 0), some (.inl 0), some (.inl 0)]) rfl ?_
    exact h
  · replace h := h.2 q1
    refine nw_iconst (len := 0) l_X3_lessInTree_9 10 rfl c_n1 ?_
    refine nw_goto l_X3_lessInTree_10 ?_
    refine nw_istore_n l_X3_lessInTree_14 15 rfl rfl (ls' := [some (.inr (.inl (some 28))), some (.inl x1), some (.inl 0), some (.inl (-1)), none]) rfl ?_
    refine nw_iconst (len := 0) l_X3_lessInTree_15 16 rfl c_0 ?_
    refine nw_istore l_X3_lessInTree_16 18 rfl rfl (ls' := [some (.inr (.inl (some 28))), some (.inl x1), some (.inl 0), some (.inl (-1)), some (.inl 0)]) rfl ?_
    exact h
theorem b_X3_lessInTree_18 {x1 : Int} {x2 : Int} {x3 : Int} {x4 : Int} (h : ((10 ≤ x4 → Qr (some (.inl x2)) (J, L, W)) ∧ (x4 < 10 → ((x3 = (-1) → Qr (some (.inl x2)) (J, L, W)) ∧ (¬ x3 = (-1) → ((0 ≤ x3 ∧ x3 < 10) ∧ ((J 47 x3 < x1 → ((-2147483648 ≤ (J 49 x3) + (J 48 x3) ∧ (J 49 x3) + (J 48 x3) < 2147483648) ∧ ((-2147483648 ≤ x2 + ((J 49 x3) + (J 48 x3)) ∧ x2 + ((J 49 x3) + (J 48 x3)) < 2147483648) ∧ ((-2147483648 ≤ x4 + 1 ∧ x4 + 1 < 2147483648) ∧ NW sc d_X3_lessInTree D (18, [some (.inr (.inl (some 28))), some (.inl x1), some (.inl (x2 + ((J 49 x3) + (J 48 x3)))), some (.inl (J 51 x3)), some (.inl (x4 + 1))], [], (J, L, W), c, sl) Qr Qx)))) ∧ (x1 ≤ J 47 x3 → ((-2147483648 ≤ x4 + 1 ∧ x4 + 1 < 2147483648) ∧ NW sc d_X3_lessInTree D (18, [some (.inr (.inl (some 28))), some (.inl x1), some (.inl x2), some (.inl (J 50 x3)), some (.inl (x4 + 1))], [], (J, L, W), c, sl) Qr Qx))))))))) :
    NW sc d_X3_lessInTree D (18, [some (.inr (.inl (some 28))), some (.inl x1), some (.inl x2), some (.inl x3), some (.inl x4)], [], (J, L, W), c, sl) Qr Qx := by
  refine nw_iload l_X3_lessInTree_18 20 rfl rfl ?_
  refine nw_bipush (len := 0) l_X3_lessInTree_20 22 rfl c_10 ?_
  refine nw_ic_ge l_X3_lessInTree_22 25 rfl (fun q1 => ?_) (fun q1 => ?_)
  · replace h := h.1 q1
    refine nw_iload_n l_X3_lessInTree_79 80 rfl rfl ?_
    refine nw_ireturn l_X3_lessInTree_80 rfl ?_
    exact h
  · replace h := h.2 q1
    refine nw_iload_n l_X3_lessInTree_25 26 rfl rfl ?_
    refine nw_iconst (len := 0) l_X3_lessInTree_26 27 rfl c_n1 ?_
    refine nw_ic_eq l_X3_lessInTree_27 30 rfl (fun q2 => ?_) (fun q2 => ?_)
    · replace h := h.1 q2
      refine nw_iload_n l_X3_lessInTree_79 80 rfl rfl ?_
      refine nw_ireturn l_X3_lessInTree_80 rfl ?_
      exact h
    · replace h := h.2 q2
      refine nw_iload_n l_X3_lessInTree_30 31 rfl rfl ?_
      refine nw_aload_n l_X3_lessInTree_31 32 rfl rfl ?_
      refine nw_getA l_X3_lessInTree_32 35 rfl k_28 r_28_4 ?_
      refine nw_iload_n l_X3_lessInTree_35 36 rfl rfl ?_
      have o3 := h.1
      replace h := h.2
      refine nw_iald l_X3_lessInTree_36 37 rfl k_47 o3 (v := J 47 x3) rfl ?_
      refine nw_ic_gt l_X3_lessInTree_37 40 rfl (fun q4 => ?_) (fun q4 => ?_)
      · replace h := h.1 q4
        refine nw_iload_n l_X3_lessInTree_50 51 rfl rfl ?_
        refine nw_aload_n l_X3_lessInTree_51 52 rfl rfl ?_
        refine nw_getA l_X3_lessInTree_52 55 rfl k_28 r_28_6 ?_
        refine nw_iload_n l_X3_lessInTree_55 56 rfl rfl ?_
        refine nw_iald l_X3_lessInTree_56 57 rfl k_49 o3 (v := J 49 x3) rfl ?_
        refine nw_aload_n l_X3_lessInTree_57 58 rfl rfl ?_
        refine nw_getA l_X3_lessInTree_58 61 rfl k_28 r_28_5 ?_
        refine nw_iload_n l_X3_lessInTree_61 62 rfl rfl ?_
        refine nw_iald l_X3_lessInTree_62 63 rfl k_48 o3 (v := J 48 x3) rfl ?_
        have o5 := h.1
        replace h := h.2
        refine nw_iadd l_X3_lessInTree_63 64 rfl o5 ?_
        have o6 := h.1
        replace h := h.2
        refine nw_iadd l_X3_lessInTree_64 65 rfl o6 ?_
        refine nw_istore_n l_X3_lessInTree_65 66 rfl rfl (ls' := [some (.inr (.inl (some 28))), some (.inl x1), some (.inl (x2 + ((J 49 x3) + (J 48 x3)))), some (.inl x3), some (.inl x4)]) rfl ?_
        refine nw_aload_n l_X3_lessInTree_66 67 rfl rfl ?_
        refine nw_getA l_X3_lessInTree_67 70 rfl k_28 r_28_8 ?_
        refine nw_iload_n l_X3_lessInTree_70 71 rfl rfl ?_
        refine nw_iald l_X3_lessInTree_71 72 rfl k_51 o3 (v := J 51 x3) rfl ?_
        refine nw_istore_n l_X3_lessInTree_72 73 rfl rfl (ls' := [some (.inr (.inl (some 28))), some (.inl x1), some (.inl (x2 + ((J 49 x3) + (J 48 x3)))), some (.inl (J 51 x3)), some (.inl x4)]) rfl ?_
        have o7 := h.1
        replace h := h.2
        refine nw_iinc l_X3_lessInTree_73 76 rfl 1 (by decide) rfl rfl o7 (ls' := [some (.inr (.inl (some 28))), some (.inl x1), some (.inl (x2 + ((J 49 x3) + (J 48 x3)))), some (.inl (J 51 x3)), some (.inl (x4 + 1))]) rfl ?_
        refine nw_goto l_X3_lessInTree_76 ?_
        exact h
      · replace h := h.2 q4
        refine nw_aload_n l_X3_lessInTree_40 41 rfl rfl ?_
        refine nw_getA l_X3_lessInTree_41 44 rfl k_28 r_28_7 ?_
        refine nw_iload_n l_X3_lessInTree_44 45 rfl rfl ?_
        refine nw_iald l_X3_lessInTree_45 46 rfl k_50 o3 (v := J 50 x3) rfl ?_
        refine nw_istore_n l_X3_lessInTree_46 47 rfl rfl (ls' := [some (.inr (.inl (some 28))), some (.inl x1), some (.inl x2), some (.inl (J 50 x3)), some (.inl x4)]) rfl ?_
        refine nw_goto l_X3_lessInTree_47 ?_
        have o8 := h.1
        replace h := h.2
        refine nw_iinc l_X3_lessInTree_73 76 rfl 1 (by decide) rfl rfl o8 (ls' := [some (.inr (.inl (some 28))), some (.inl x1), some (.inl x2), some (.inl (J 50 x3)), some (.inl (x4 + 1))]) rfl ?_
        refine nw_goto l_X3_lessInTree_76 ?_
        exact h
theorem b_X3_placeAtRank_0 {x1 : Int} (h : NW sc d_X3_placeAtRank D (2, [some (.inr (.inl (some 28))), some (.inl x1), some (.inl 0)], [], (J, L, W), c, sl) Qr Qx) :
    NW sc d_X3_placeAtRank D (0, [some (.inr (.inl (some 28))), some (.inl x1), none], [], (J, L, W), c, sl) Qr Qx := by
  refine nw_iconst (len := 0) l_X3_placeAtRank_0 1 rfl c_0 ?_
  refine nw_istore_n l_X3_placeAtRank_1 2 rfl rfl (ls' := [some (.inr (.inl (some 28))), some (.inl x1), some (.inl 0)]) rfl ?_
  exact h
theorem b_X3_placeAtRank_2 {x1 : Int} {x2 : Int} (hD : 1 ≤ D) (h : ((J 28 2 ≤ x2 → Qr (some (.inl 0)) (J, L, W)) ∧ (x2 < J 28 2 → NW sc d_X3_rankOf 0 (0, [some (.inr (.inl (some 28))), some (.inl x2), none, none], [], (J, L, W), 0, 0) (fun v M9 => NW sc d_X3_placeAtRank D (15, [some (.inr (.inl (some 28))), some (.inl x1), some (.inl x2)], nw_push v [], M9, c, sl) Qr Qx) Qx))) :
    NW sc d_X3_placeAtRank D (2, [some (.inr (.inl (some 28))), some (.inl x1), some (.inl x2)], [], (J, L, W), c, sl) Qr Qx := by
  refine nw_iload_n l_X3_placeAtRank_2 3 rfl rfl ?_
  refine nw_aload_n l_X3_placeAtRank_3 4 rfl rfl ?_
  refine nw_getI l_X3_placeAtRank_4 7 rfl k_28 (v := J 28 2) rfl ?_
  refine nw_ic_ge l_X3_placeAtRank_7 10 rfl (fun q1 => ?_) (fun q1 => ?_)
  · replace h := h.1 q1
    refine nw_iconst (len := 0) l_X3_placeAtRank_27 28 rfl c_0 ?_
    refine nw_ireturn l_X3_placeAtRank_28 rfl ?_
    exact h
  · replace h := h.2 q1
    refine nw_aload_n l_X3_placeAtRank_10 11 rfl rfl ?_
    refine nw_iload_n l_X3_placeAtRank_11 12 rfl rfl ?_
    refine nw_call0 0 28 l_X3_placeAtRank_12 rfl rfl g_X3_rankOf (Nat.lt_of_lt_of_le (by decide) hD) rfl (Or.inl ⟨_, rfl, k_28⟩) (ls' := [some (.inr (.inl (some 28))), some (.inl x2), none, none]) rfl (st' := []) rfl 15 rfl ?_
    exact h
theorem b_X3_placeAtRank_15 {x1 : Int} {x2 : Int} {y0 : Int} (h : ((¬ y0 = x1 → ((-2147483648 ≤ x2 + 1 ∧ x2 + 1 < 2147483648) ∧ NW sc d_X3_placeAtRank D (2, [some (.inr (.inl (some 28))), some (.inl x1), some (.inl (x2 + 1))], [], (J, L, W), c, sl) Qr Qx)) ∧ (y0 = x1 → Qr (some (.inl x2)) (J, L, W)))) :
    NW sc d_X3_placeAtRank D (15, [some (.inr (.inl (some 28))), some (.inl x1), some (.inl x2)], [.inl y0], (J, L, W), c, sl) Qr Qx := by
  refine nw_iload_n l_X3_placeAtRank_15 16 rfl rfl ?_
  refine nw_ic_ne l_X3_placeAtRank_16 19 rfl (fun q1 => ?_) (fun q1 => ?_)
  · replace h := h.1 q1
    have o2 := h.1
    replace h := h.2
    refine nw_iinc l_X3_placeAtRank_21 24 rfl 1 (by decide) rfl rfl o2 (ls' := [some (.inr (.inl (some 28))), some (.inl x1), some (.inl (x2 + 1))]) rfl ?_
    refine nw_goto l_X3_placeAtRank_24 ?_
    exact h
  · replace h := h.2 q1
    refine nw_iload_n l_X3_placeAtRank_19 20 rfl rfl ?_
    refine nw_ireturn l_X3_placeAtRank_20 rfl ?_
    exact h
theorem b_X3_plant_0 {x1 : Int} (h : ((¬ J 28 3 = 0 → NW sc d_X3_plant D (21, [some (.inr (.inl (some 28))), some (.inl x1), some (.inl 0), some (.inl (-1)), some (.inl 0), some (.inl 0)], [], (J, L, W), c, sl) Qr Qx) ∧ (J 28 3 = 0 → NW sc d_X3_plant D (21, [some (.inr (.inl (some 28))), some (.inl x1), some (.inl (-1)), some (.inl (-1)), some (.inl 0), some (.inl 0)], [], (J, L, W), c, sl) Qr Qx))) :
    NW sc d_X3_plant D (0, [some (.inr (.inl (some 28))), some (.inl x1), none, none, none, none], [], (J, L, W), c, sl) Qr Qx := by
  refine nw_aload_n l_X3_plant_0 1 rfl rfl ?_
  refine nw_getI l_X3_plant_1 4 rfl k_28 (v := J 28 3) rfl ?_
  refine nw_if_ne l_X3_plant_4 7 rfl (fun q1 => ?_) (fun q1 => ?_)
  · replace h := h.1 q1
    refine nw_iconst (len := 0) l_X3_plant_11 12 rfl c_0 ?_
    refine nw_istore_n l_X3_plant_12 13 rfl rfl (ls' := [some (.inr (.inl (some 28))), some (.inl x1), some (.inl 0), none, none, none]) rfl ?_
    refine nw_iconst (len := 0) l_X3_plant_13 14 rfl c_n1 ?_
    refine nw_istore_n l_X3_plant_14 15 rfl rfl (ls' := [some (.inr (.inl (some 28))), some (.inl x1), some (.inl 0), some (.inl (-1)), none, none]) rfl ?_
    refine nw_iconst (len := 0) l_X3_plant_15 16 rfl c_0 ?_
    refine nw_istore l_X3_plant_16 18 rfl rfl (ls' := [some (.inr (.inl (some 28))), some (.inl x1), some (.inl 0), some (.inl (-1)), some (.inl 0), none]) rfl ?_
    refine nw_iconst (len := 0) l_X3_plant_18 19 rfl c_0 ?_
    refine nw_istore l_X3_plant_19 21 rfl rfl (ls' := [some (.inr (.inl (some 28))), some (.inl x1), some (.inl 0), some (.inl (-1)), some (.inl 0), some (.inl 0)]) rfl ?_
    exact h
  · replace h := h.2 q1
    refine nw_iconst (len := 0) l_X3_plant_7 8 rfl c_n1 ?_
    refine nw_goto l_X3_plant_8 ?_
    refine nw_istore_n l_X3_plant_12 13 rfl rfl (ls' := [some (.inr (.inl (some 28))), some (.inl x1), some (.inl (-1)), none, none, none]) rfl ?_
    refine nw_iconst (len := 0) l_X3_plant_13 14 rfl c_n1 ?_
    refine nw_istore_n l_X3_plant_14 15 rfl rfl (ls' := [some (.inr (.inl (some 28))), some (.inl x1), some (.inl (-1)), some (.inl (-1)), none, none]) rfl ?_
    refine nw_iconst (len := 0) l_X3_plant_15 16 rfl c_0 ?_
    refine nw_istore l_X3_plant_16 18 rfl rfl (ls' := [some (.inr (.inl (some 28))), some (.inl x1), some (.inl (-1)), some (.inl (-1)), some (.inl 0), none]) rfl ?_
    refine nw_iconst (len := 0) l_X3_plant_18 19 rfl c_0 ?_
    refine nw_istore l_X3_plant_19 21 rfl rfl (ls' := [some (.inr (.inl (some 28))), some (.inl x1), some (.inl (-1)), some (.inl (-1)), some (.inl 0), some (.inl 0)]) rfl ?_
    exact h
theorem b_X3_plant_21 {x1 : Int} {x2 : Int} {x3 : Int} {x4 : Int} {x5 : Int} (hD : 1 ≤ D) (h : ((10 ≤ x5 → NW sc d_X3_hang 0 (0, [some (.inr (.inl (some 28))), some (.inl x1), some (.inl x3), some (.inl x4), none], [], (J, L, W), 0, 0) (fun v M9 => NW sc d_X3_plant D (123, [none, none, none, none, none, none], nw_push v [], M9, c, sl) Qr Qx) Qx) ∧ (x5 < 10 → ((x2 = (-1) → NW sc d_X3_hang 0 (0, [some (.inr (.inl (some 28))), some (.inl x1), some (.inl x3), some (.inl x4), none], [], (J, L, W), 0, 0) (fun v M9 => NW sc d_X3_plant D (123, [none, none, none, none, none, none], nw_push v [], M9, c, sl) Qr Qx) Qx) ∧ (¬ x2 = (-1) → ((0 ≤ x2 ∧ x2 < 10) ∧ ((¬ J 47 x2 = x1 → ((J 47 x2 ≤ x1 → ((-2147483648 ≤ x5 + 1 ∧ x5 + 1 < 2147483648) ∧ NW sc d_X3_plant D (21, [some (.inr (.inl (some 28))), some (.inl x1), some (.inl (J 51 x2)), some (.inl x2), some (.inl 0), some (.inl (x5 + 1))], [], (J, L, W), c, sl) Qr Qx)) ∧ (x1 < J 47 x2 → ((-2147483648 ≤ (J 49 x2) + 1 ∧ (J 49 x2) + 1 < 2147483648) ∧ ((-2147483648 ≤ x5 + 1 ∧ x5 + 1 < 2147483648) ∧ NW sc d_X3_plant D (21, [some (.inr (.inl (some 28))), some (.inl x1), some (.inl (J 50 x2)), some (.inl x2), some (.inl 1), some (.inl (x5 + 1))], [], (nw_u J 49 x2 ((J 49 x2) + 1), L, W), c, sl) Qr Qx))))) ∧ (J 47 x2 = x1 → ((-2147483648 ≤ (J 48 x2) + 1 ∧ (J 48 x2) + 1 < 2147483648) ∧ Qr none (nw_u J 48 x2 ((J 48 x2) + 1), L, W)))))))))) :
    NW sc d_X3_plant D (21, [some (.inr (.inl (some 28))), some (.inl x1), some (.inl x2), some (.inl x3), some (.inl x4), some (.inl x5)], [], (J, L, W), c, sl) Qr Qx := by
  refine nw_iload l_X3_plant_21 23 rfl rfl ?_
  refine nw_bipush (len := 0) l_X3_plant_23 25 rfl c_10 ?_
  refine nw_ic_ge l_X3_plant_25 28 rfl (fun q1 => ?_) (fun q1 => ?_)
  · replace h := h.1 q1
    refine nw_aload_n l_X3_plant_115 116 rfl rfl ?_
    refine nw_iload_n l_X3_plant_116 117 rfl rfl ?_
    refine nw_iload_n l_X3_plant_117 118 rfl rfl ?_
    refine nw_iload l_X3_plant_118 120 rfl rfl ?_
    refine nw_drop (ls' := [none, none, none, none, none, none]) ⟨True.intro, ⟨True.intro, ⟨True.intro, ⟨True.intro, ⟨True.intro, ⟨True.intro, True.intro⟩⟩⟩⟩⟩⟩ ?_
    refine nw_call0 0 28 l_X3_plant_120 rfl rfl g_X3_hang (Nat.lt_of_lt_of_le (by decide) hD) rfl (Or.inl ⟨_, rfl, k_28⟩) (ls' := [some (.inr (.inl (some 28))), some (.inl x1), some (.inl x3), some (.inl x4), none]) rfl (st' := []) rfl 123 rfl ?_
    exact h
  · replace h := h.2 q1
    refine nw_iload_n l_X3_plant_28 29 rfl rfl ?_
    refine nw_iconst (len := 0) l_X3_plant_29 30 rfl c_n1 ?_
    refine nw_ic_eq l_X3_plant_30 33 rfl (fun q2 => ?_) (fun q2 => ?_)
    · replace h := h.1 q2
      refine nw_aload_n l_X3_plant_115 116 rfl rfl ?_
      refine nw_iload_n l_X3_plant_116 117 rfl rfl ?_
      refine nw_iload_n l_X3_plant_117 118 rfl rfl ?_
      refine nw_iload l_X3_plant_118 120 rfl rfl ?_
      refine nw_drop (ls' := [none, none, none, none, none, none]) ⟨True.intro, ⟨True.intro, ⟨True.intro, ⟨True.intro, ⟨True.intro, ⟨True.intro, True.intro⟩⟩⟩⟩⟩⟩ ?_
      refine nw_call0 0 28 l_X3_plant_120 rfl rfl g_X3_hang (Nat.lt_of_lt_of_le (by decide) hD) rfl (Or.inl ⟨_, rfl, k_28⟩) (ls' := [some (.inr (.inl (some 28))), some (.inl x1), some (.inl x3), some (.inl x4), none]) rfl (st' := []) rfl 123 rfl ?_
      exact h
    · replace h := h.2 q2
      refine nw_aload_n l_X3_plant_33 34 rfl rfl ?_
      refine nw_getA l_X3_plant_34 37 rfl k_28 r_28_4 ?_
      refine nw_iload_n l_X3_plant_37 38 rfl rfl ?_
      have o3 := h.1
      replace h := h.2
      refine nw_iald l_X3_plant_38 39 rfl k_47 o3 (v := J 47 x2) rfl ?_
      refine nw_iload_n l_X3_plant_39 40 rfl rfl ?_
      refine nw_ic_ne l_X3_plant_40 43 rfl (fun q4 => ?_) (fun q4 => ?_)
      · replace h := h.1 q4
        refine nw_iload_n l_X3_plant_54 55 rfl rfl ?_
        refine nw_istore_n l_X3_plant_55 56 rfl rfl (ls' := [some (.inr (.inl (some 28))), some (.inl x1), some (.inl x2), some (.inl x2), some (.inl x4), some (.inl x5)]) rfl ?_
        refine nw_iload_n l_X3_plant_56 57 rfl rfl ?_
        refine nw_aload_n l_X3_plant_57 58 rfl rfl ?_
        refine nw_getA l_X3_plant_58 61 rfl k_28 r_28_4 ?_
        refine nw_iload_n l_X3_plant_61 62 rfl rfl ?_
        refine nw_iald l_X3_plant_62 63 rfl k_47 o3 (v := J 47 x2) rfl ?_
        refine nw_ic_ge l_X3_plant_63 66 rfl (fun q5 => ?_) (fun q5 => ?_)
        · replace h := h.1 q5
          refine nw_iconst (len := 0) l_X3_plant_70 71 rfl c_0 ?_
          refine nw_istore l_X3_plant_71 73 rfl rfl (ls' := [some (.inr (.inl (some 28))), some (.inl x1), some (.inl x2), some (.inl x2), some (.inl 0), some (.inl x5)]) rfl ?_
          refine nw_iload l_X3_plant_73 75 rfl rfl ?_
          refine nw_if_eq l_X3_plant_75 78 rfl (fun _ => ?_) (fun q => absurd q (by decide))
          refine nw_iload l_X3_plant_88 90 rfl rfl ?_
          refine nw_if_eq l_X3_plant_90 93 rfl (fun _ => ?_) (fun q => absurd q (by decide))
          refine nw_aload_n l_X3_plant_102 103 rfl rfl ?_
          refine nw_getA l_X3_plant_103 106 rfl k_28 r_28_8 ?_
          refine nw_iload_n l_X3_plant_106 107 rfl rfl ?_
          refine nw_iald l_X3_plant_107 108 rfl k_51 o3 (v := J 51 x2) rfl ?_
          refine nw_istore_n l_X3_plant_108 109 rfl rfl (ls' := [some (.inr (.inl (some 28))), some (.inl x1), some (.inl (J 51 x2)), some (.inl x2), some (.inl 0), some (.inl x5)]) rfl ?_
          have o6 := h.1
          replace h := h.2
          refine nw_iinc l_X3_plant_109 112 rfl 1 (by decide) rfl rfl o6 (ls' := [some (.inr (.inl (some 28))), some (.inl x1), some (.inl (J 51 x2)), some (.inl x2), some (.inl 0), some (.inl (x5 + 1))]) rfl ?_
          refine nw_goto l_X3_plant_112 ?_
          exact h
        · replace h := h.2 q5
          refine nw_iconst (len := 0) l_X3_plant_66 67 rfl c_1 ?_
          refine nw_goto l_X3_plant_67 ?_
          refine nw_istore l_X3_plant_71 73 rfl rfl (ls' := [some (.inr (.inl (some 28))), some (.inl x1), some (.inl x2), some (.inl x2), some (.inl 1), some (.inl x5)]) rfl ?_
          refine nw_iload l_X3_plant_73 75 rfl rfl ?_
          refine nw_if_eq l_X3_plant_75 78 rfl (fun q => absurd q (by decide)) (fun _ => ?_)
          refine nw_aload_n l_X3_plant_78 79 rfl rfl ?_
          refine nw_getA l_X3_plant_79 82 rfl k_28 r_28_6 ?_
          refine nw_iload_n l_X3_plant_82 83 rfl rfl ?_
          refine nw_dup2 l_X3_plant_83 84 rfl ?_
          refine nw_iald l_X3_plant_84 85 rfl k_49 o3 (v := J 49 x2) rfl ?_
          refine nw_iconst (len := 0) l_X3_plant_85 86 rfl c_1 ?_
          have o7 := h.1
          replace h := h.2
          refine nw_iadd l_X3_plant_86 87 rfl o7 ?_
          refine nw_iast l_X3_plant_87 88 rfl k_49 o3 ?_
          refine nw_iload l_X3_plant_88 90 rfl rfl ?_
          refine nw_if_eq l_X3_plant_90 93 rfl (fun q => absurd q (by decide)) (fun _ => ?_)
          refine nw_aload_n l_X3_plant_93 94 rfl rfl ?_
          refine nw_getA l_X3_plant_94 97 rfl k_28 r_28_7 ?_
          refine nw_iload_n l_X3_plant_97 98 rfl rfl ?_
          refine nw_iald l_X3_plant_98 99 rfl k_50 o3 (v := J 50 x2) (show nw_u J 49 x2 ((J 49 x2) + 1) 50 x2 = J 50 x2 from (nw_uN (a := 49) (b := 50) (by decide))) ?_
          refine nw_goto l_X3_plant_99 ?_
          refine nw_istore_n l_X3_plant_108 109 rfl rfl (ls' := [some (.inr (.inl (some 28))), some (.inl x1), some (.inl (J 50 x2)), some (.inl x2), some (.inl 1), some (.inl x5)]) rfl ?_
          have o8 := h.1
          replace h := h.2
          refine nw_iinc l_X3_plant_109 112 rfl 1 (by decide) rfl rfl o8 (ls' := [some (.inr (.inl (some 28))), some (.inl x1), some (.inl (J 50 x2)), some (.inl x2), some (.inl 1), some (.inl (x5 + 1))]) rfl ?_
          refine nw_goto l_X3_plant_112 ?_
          exact h
      · replace h := h.2 q4
        refine nw_aload_n l_X3_plant_43 44 rfl rfl ?_
        refine nw_getA l_X3_plant_44 47 rfl k_28 r_28_5 ?_
        refine nw_iload_n l_X3_plant_47 48 rfl rfl ?_
        refine nw_dup2 l_X3_plant_48 49 rfl ?_
        refine nw_iald l_X3_plant_49 50 rfl k_48 o3 (v := J 48 x2) rfl ?_
        refine nw_iconst (len := 0) l_X3_plant_50 51 rfl c_1 ?_
        have o9 := h.1
        replace h := h.2
        refine nw_iadd l_X3_plant_51 52 rfl o9 ?_
        refine nw_iast l_X3_plant_52 53 rfl k_48 o3 ?_
        refine nw_return l_X3_plant_53 rfl ?_
        exact h
theorem b_X3_plant_123  (h : Qr none (J, L, W)) :
    NW sc d_X3_plant D (123, [none, none, none, none, none, none], [], (J, L, W), c, sl) Qr Qx := by
  refine nw_return l_X3_plant_123 rfl ?_
  exact h
theorem b_X3_rankOf_0 {x1 : Int} (h : NW sc d_X3_rankOf D (4, [some (.inr (.inl (some 28))), some (.inl x1), some (.inl 0), some (.inl 0)], [], (J, L, W), c, sl) Qr Qx) :
    NW sc d_X3_rankOf D (0, [some (.inr (.inl (some 28))), some (.inl x1), none, none], [], (J, L, W), c, sl) Qr Qx := by
  refine nw_iconst (len := 0) l_X3_rankOf_0 1 rfl c_0 ?_
  refine nw_istore_n l_X3_rankOf_1 2 rfl rfl (ls' := [some (.inr (.inl (some 28))), some (.inl x1), some (.inl 0), none]) rfl ?_
  refine nw_iconst (len := 0) l_X3_rankOf_2 3 rfl c_0 ?_
  refine nw_istore_n l_X3_rankOf_3 4 rfl rfl (ls' := [some (.inr (.inl (some 28))), some (.inl x1), some (.inl 0), some (.inl 0)]) rfl ?_
  exact h
theorem b_X3_rankOf_4 {x1 : Int} {x2 : Int} {x3 : Int} (h : ((J 28 2 ≤ x3 → Qr (some (.inl x2)) (J, L, W)) ∧ (x3 < J 28 2 → ((0 ≤ x3 ∧ x3 < 10) ∧ ((0 ≤ x1 ∧ x1 < 10) ∧ ((J 46 x1 < J 46 x3 → ((-2147483648 ≤ x2 + 1 ∧ x2 + 1 < 2147483648) ∧ ((-2147483648 ≤ x3 + 1 ∧ x3 + 1 < 2147483648) ∧ NW sc d_X3_rankOf D (4, [some (.inr (.inl (some 28))), some (.inl x1), some (.inl (x2 + 1)), some (.inl (x3 + 1))], [], (J, L, W), c, sl) Qr Qx))) ∧ (J 46 x3 ≤ J 46 x1 → ((¬ J 46 x3 = J 46 x1 → ((-2147483648 ≤ x3 + 1 ∧ x3 + 1 < 2147483648) ∧ NW sc d_X3_rankOf D (4, [some (.inr (.inl (some 28))), some (.inl x1), some (.inl x2), some (.inl (x3 + 1))], [], (J, L, W), c, sl) Qr Qx)) ∧ (J 46 x3 = J 46 x1 → ((x1 ≤ x3 → ((-2147483648 ≤ x3 + 1 ∧ x3 + 1 < 2147483648) ∧ NW sc d_X3_rankOf D (4, [some (.inr (.inl (some 28))), some (.inl x1), some (.inl x2), some (.inl (x3 + 1))], [], (J, L, W), c, sl) Qr Qx)) ∧ (x3 < x1 → ((-2147483648 ≤ x2 + 1 ∧ x2 + 1 < 2147483648) ∧ ((-2147483648 ≤ x3 + 1 ∧ x3 + 1 < 2147483648) ∧ NW sc d_X3_rankOf D (4, [some (.inr (.inl (some 28))), some (.inl x1), some (.inl (x2 + 1)), some (.inl (x3 + 1))], [], (J, L, W), c, sl) Qr Qx))))))))))))) :
    NW sc d_X3_rankOf D (4, [some (.inr (.inl (some 28))), some (.inl x1), some (.inl x2), some (.inl x3)], [], (J, L, W), c, sl) Qr Qx := by
  refine nw_iload_n l_X3_rankOf_4 5 rfl rfl ?_
  refine nw_aload_n l_X3_rankOf_5 6 rfl rfl ?_
  refine nw_getI l_X3_rankOf_6 9 rfl k_28 (v := J 28 2) rfl ?_
  refine nw_ic_ge l_X3_rankOf_9 12 rfl (fun q1 => ?_) (fun q1 => ?_)
  · replace h := h.1 q1
    refine nw_iload_n l_X3_rankOf_56 57 rfl rfl ?_
    refine nw_ireturn l_X3_rankOf_57 rfl ?_
    exact h
  · replace h := h.2 q1
    refine nw_aload_n l_X3_rankOf_12 13 rfl rfl ?_
    refine nw_getA l_X3_rankOf_13 16 rfl k_28 r_28_1 ?_
    refine nw_iload_n l_X3_rankOf_16 17 rfl rfl ?_
    have o2 := h.1
    replace h := h.2
    refine nw_iald l_X3_rankOf_17 18 rfl k_46 o2 (v := J 46 x3) rfl ?_
    refine nw_aload_n l_X3_rankOf_18 19 rfl rfl ?_
    refine nw_getA l_X3_rankOf_19 22 rfl k_28 r_28_1 ?_
    refine nw_iload_n l_X3_rankOf_22 23 rfl rfl ?_
    have o3 := h.1
    replace h := h.2
    refine nw_iald l_X3_rankOf_23 24 rfl k_46 o3 (v := J 46 x1) rfl ?_
    refine nw_ic_gt l_X3_rankOf_24 27 rfl (fun q4 => ?_) (fun q4 => ?_)
    · replace h := h.1 q4
      have o5 := h.1
      replace h := h.2
      refine nw_iinc l_X3_rankOf_47 50 rfl 1 (by decide) rfl rfl o5 (ls' := [some (.inr (.inl (some 28))), some (.inl x1), some (.inl (x2 + 1)), some (.inl x3)]) rfl ?_
      have o6 := h.1
      replace h := h.2
      refine nw_iinc l_X3_rankOf_50 53 rfl 1 (by decide) rfl rfl o6 (ls' := [some (.inr (.inl (some 28))), some (.inl x1), some (.inl (x2 + 1)), some (.inl (x3 + 1))]) rfl ?_
      refine nw_goto l_X3_rankOf_53 ?_
      exact h
    · replace h := h.2 q4
      refine nw_aload_n l_X3_rankOf_27 28 rfl rfl ?_
      refine nw_getA l_X3_rankOf_28 31 rfl k_28 r_28_1 ?_
      refine nw_iload_n l_X3_rankOf_31 32 rfl rfl ?_
      refine nw_iald l_X3_rankOf_32 33 rfl k_46 o2 (v := J 46 x3) rfl ?_
      refine nw_aload_n l_X3_rankOf_33 34 rfl rfl ?_
      refine nw_getA l_X3_rankOf_34 37 rfl k_28 r_28_1 ?_
      refine nw_iload_n l_X3_rankOf_37 38 rfl rfl ?_
      refine nw_iald l_X3_rankOf_38 39 rfl k_46 o3 (v := J 46 x1) rfl ?_
      refine nw_ic_ne l_X3_rankOf_39 42 rfl (fun q7 => ?_) (fun q7 => ?_)
      · replace h := h.1 q7
        have o8 := h.1
        replace h := h.2
        refine nw_iinc l_X3_rankOf_50 53 rfl 1 (by decide) rfl rfl o8 (ls' := [some (.inr (.inl (some 28))), some (.inl x1), some (.inl x2), some (.inl (x3 + 1))]) rfl ?_
        refine nw_goto l_X3_rankOf_53 ?_
        exact h
      · replace h := h.2 q7
        refine nw_iload_n l_X3_rankOf_42 43 rfl rfl ?_
        refine nw_iload_n l_X3_rankOf_43 44 rfl rfl ?_
        refine nw_ic_ge l_X3_rankOf_44 47 rfl (fun q9 => ?_) (fun q9 => ?_)
        · replace h := h.1 q9
          have o10 := h.1
          replace h := h.2
          refine nw_iinc l_X3_rankOf_50 53 rfl 1 (by decide) rfl rfl o10 (ls' := [some (.inr (.inl (some 28))), some (.inl x1), some (.inl x2), some (.inl (x3 + 1))]) rfl ?_
          refine nw_goto l_X3_rankOf_53 ?_
          exact h
        · replace h := h.2 q9
          have o11 := h.1
          replace h := h.2
          refine nw_iinc l_X3_rankOf_47 50 rfl 1 (by decide) rfl rfl o11 (ls' := [some (.inr (.inl (some 28))), some (.inl x1), some (.inl (x2 + 1)), some (.inl x3)]) rfl ?_
          have o12 := h.1
          replace h := h.2
          refine nw_iinc l_X3_rankOf_50 53 rfl 1 (by decide) rfl rfl o12 (ls' := [some (.inr (.inl (some 28))), some (.inl x1), some (.inl (x2 + 1)), some (.inl (x3 + 1))]) rfl ?_
          refine nw_goto l_X3_rankOf_53 ?_
          exact h
theorem b_X6_decide_0 {x1 : Int} {x2 : Int} {x3 : Int} {x4 : Int} {E : Nat} (hD : E < D) (h : ((x1 < J 26 0 → ((0 ≤ x1 ∧ x1 < 10) ∧ ((x2 < J 52 x1 → ((-2147483648 ≤ x1 + 1 ∧ x1 + 1 < 2147483648) ∧ NW sc d_X6_decide E (0, [some (.inr (.inl (some 26))), some (.inl (x1 + 1)), some (.inl x2), some (.inl x3), some (.inl x4)], [], (J, L, W), 0, 0) (fun v M9 => NW sc d_X6_decide D (78, [none, none, none, none, none], nw_push v [], M9, c, sl) Qr Qx) Qx)) ∧ (J 52 x1 ≤ x2 → ((-2147483648 ≤ x1 + 1 ∧ x1 + 1 < 2147483648) ∧ ((-2147483648 ≤ x2 - (J 52 x1) ∧ x2 - (J 52 x1) < 2147483648) ∧ ((-2147483648 ≤ x3 + (J 53 x1) ∧ x3 + (J 53 x1) < 2147483648) ∧ NW sc d_X6_decide E (0, [some (.inr (.inl (some 26))), some (.inl (x1 + 1)), some (.inl (x2 - (J 52 x1))), some (.inl (x3 + (J 53 x1))), some (.inl (nw_xior x4 (nw_xishl 1 x1)))], [], (J, L, W), 0, 0) (fun v M9 => NW sc d_X6_decide D (67, [some (.inr (.inl (some 26))), some (.inl x1), some (.inl x2), some (.inl x3), some (.inl x4)], nw_push v [], M9, c, sl) Qr Qx) Qx))))))) ∧ (J 26 0 ≤ x1 → ((x3 ≤ J 26 5 → Qr none (J, L, W)) ∧ (J 26 5 < x3 → Qr none (nw_u (nw_u J 26 5 x3) 26 1 x4, L, W)))))) :
    NW sc d_X6_decide D (0, [some (.inr (.inl (some 26))), some (.inl x1), some (.inl x2), some (.inl x3), some (.inl x4)], [], (J, L, W), c, sl) Qr Qx := by
  refine nw_iload_n l_X6_decide_0 1 rfl rfl ?_
  refine nw_aload_n l_X6_decide_1 2 rfl rfl ?_
  refine nw_getI l_X6_decide_2 5 rfl k_26 (v := J 26 0) rfl ?_
  refine nw_ic_lt l_X6_decide_5 8 rfl (fun q1 => ?_) (fun q1 => ?_)
  · replace h := h.1 q1
    refine nw_aload_n l_X6_decide_28 29 rfl rfl ?_
    refine nw_getA l_X6_decide_29 32 rfl k_26 r_26_6 ?_
    refine nw_iload_n l_X6_decide_32 33 rfl rfl ?_
    have o2 := h.1
    replace h := h.2
    refine nw_iald l_X6_decide_33 34 rfl k_52 o2 (v := J 52 x1) rfl ?_
    refine nw_iload_n l_X6_decide_34 35 rfl rfl ?_
    refine nw_ic_gt l_X6_decide_35 38 rfl (fun q3 => ?_) (fun q3 => ?_)
    · replace h := h.1 q3
      refine nw_aload_n l_X6_decide_67 68 rfl rfl ?_
      refine nw_iload_n l_X6_decide_68 69 rfl rfl ?_
      refine nw_iconst (len := 0) l_X6_decide_69 70 rfl c_1 ?_
      have o4 := h.1
      replace h := h.2
      refine nw_iadd l_X6_decide_70 71 rfl o4 ?_
      refine nw_iload_n l_X6_decide_71 72 rfl rfl ?_
      refine nw_iload_n l_X6_decide_72 73 rfl rfl ?_
      refine nw_iload l_X6_decide_73 75 rfl rfl ?_
      refine nw_drop (ls' := [none, none, none, none, none]) ⟨True.intro, ⟨True.intro, ⟨True.intro, ⟨True.intro, ⟨True.intro, True.intro⟩⟩⟩⟩⟩ ?_
      refine nw_call0 E 26 l_X6_decide_75 rfl rfl g_X6_decide hD rfl (Or.inl ⟨_, rfl, k_26⟩) (ls' := [some (.inr (.inl (some 26))), some (.inl (x1 + 1)), some (.inl x2), some (.inl x3), some (.inl x4)]) rfl (st' := []) rfl 78 rfl ?_
      exact h
    · replace h := h.2 q3
      refine nw_aload_n l_X6_decide_38 39 rfl rfl ?_
      refine nw_iload_n l_X6_decide_39 40 rfl rfl ?_
      refine nw_iconst (len := 0) l_X6_decide_40 41 rfl c_1 ?_
      have o5 := h.1
      replace h := h.2
      refine nw_iadd l_X6_decide_41 42 rfl o5 ?_
      refine nw_iload_n l_X6_decide_42 43 rfl rfl ?_
      refine nw_aload_n l_X6_decide_43 44 rfl rfl ?_
      refine nw_getA l_X6_decide_44 47 rfl k_26 r_26_6 ?_
      refine nw_iload_n l_X6_decide_47 48 rfl rfl ?_
      refine nw_iald l_X6_decide_48 49 rfl k_52 o2 (v := J 52 x1) rfl ?_
      have o6 := h.1
      replace h := h.2
      refine nw_isub l_X6_decide_49 50 rfl o6 ?_
      refine nw_iload_n l_X6_decide_50 51 rfl rfl ?_
      refine nw_aload_n l_X6_decide_51 52 rfl rfl ?_
      refine nw_getA l_X6_decide_52 55 rfl k_26 r_26_7 ?_
      refine nw_iload_n l_X6_decide_55 56 rfl rfl ?_
      refine nw_iald l_X6_decide_56 57 rfl k_53 o2 (v := J 53 x1) rfl ?_
      have o7 := h.1
      replace h := h.2
      refine nw_iadd l_X6_decide_57 58 rfl o7 ?_
      refine nw_iload l_X6_decide_58 60 rfl rfl ?_
      refine nw_iconst (len := 0) l_X6_decide_60 61 rfl c_1 ?_
      refine nw_iload_n l_X6_decide_61 62 rfl rfl ?_
      refine nw_ishl l_X6_decide_62 63 rfl ?_
      refine nw_ior l_X6_decide_63 64 rfl ?_
      refine nw_call0 E 26 l_X6_decide_64 rfl rfl g_X6_decide hD rfl (Or.inl ⟨_, rfl, k_26⟩) (ls' := [some (.inr (.inl (some 26))), some (.inl (x1 + 1)), some (.inl (x2 - (J 52 x1))), some (.inl (x3 + (J 53 x1))), some (.inl (nw_xior x4 (nw_xishl 1 x1)))]) rfl (st' := []) rfl 67 rfl ?_
      exact h
  · replace h := h.2 q1
    refine nw_iload_n l_X6_decide_8 9 rfl rfl ?_
    refine nw_aload_n l_X6_decide_9 10 rfl rfl ?_
    refine nw_getI l_X6_decide_10 13 rfl k_26 (v := J 26 5) rfl ?_
    refine nw_ic_le l_X6_decide_13 16 rfl (fun q8 => ?_) (fun q8 => ?_)
    · replace h := h.1 q8
      refine nw_return l_X6_decide_27 rfl ?_
      exact h
    · replace h := h.2 q8
      refine nw_aload_n l_X6_decide_16 17 rfl rfl ?_
      refine nw_iload_n l_X6_decide_17 18 rfl rfl ?_
      refine nw_putI l_X6_decide_18 21 rfl k_26 ?_
      refine nw_aload_n l_X6_decide_21 22 rfl rfl ?_
      refine nw_iload l_X6_decide_22 24 rfl rfl ?_
      refine nw_putI l_X6_decide_24 27 rfl k_26 ?_
      refine nw_return l_X6_decide_27 rfl ?_
      exact h
theorem b_X6_decide_78  (h : Qr none (J, L, W)) :
    NW sc d_X6_decide D (78, [none, none, none, none, none], [], (J, L, W), c, sl) Qr Qx := by
  refine nw_return l_X6_decide_78 rfl ?_
  exact h
theorem b_X6_decide_67 {x1 : Int} {x2 : Int} {x3 : Int} {x4 : Int} {E : Nat} (hD : E < D) (h : ((-2147483648 ≤ x1 + 1 ∧ x1 + 1 < 2147483648) ∧ NW sc d_X6_decide E (0, [some (.inr (.inl (some 26))), some (.inl (x1 + 1)), some (.inl x2), some (.inl x3), some (.inl x4)], [], (J, L, W), 0, 0) (fun v M9 => NW sc d_X6_decide D (78, [none, none, none, none, none], nw_push v [], M9, c, sl) Qr Qx) Qx)) :
    NW sc d_X6_decide D (67, [some (.inr (.inl (some 26))), some (.inl x1), some (.inl x2), some (.inl x3), some (.inl x4)], [], (J, L, W), c, sl) Qr Qx := by
  refine nw_aload_n l_X6_decide_67 68 rfl rfl ?_
  refine nw_iload_n l_X6_decide_68 69 rfl rfl ?_
  refine nw_iconst (len := 0) l_X6_decide_69 70 rfl c_1 ?_
  have o1 := h.1
  replace h := h.2
  refine nw_iadd l_X6_decide_70 71 rfl o1 ?_
  refine nw_iload_n l_X6_decide_71 72 rfl rfl ?_
  refine nw_iload_n l_X6_decide_72 73 rfl rfl ?_
  refine nw_iload l_X6_decide_73 75 rfl rfl ?_
  refine nw_drop (ls' := [none, none, none, none, none]) ⟨True.intro, ⟨True.intro, ⟨True.intro, ⟨True.intro, ⟨True.intro, True.intro⟩⟩⟩⟩⟩ ?_
  refine nw_call0 E 26 l_X6_decide_75 rfl rfl g_X6_decide hD rfl (Or.inl ⟨_, rfl, k_26⟩) (ls' := [some (.inr (.inl (some 26))), some (.inl (x1 + 1)), some (.inl x2), some (.inl x3), some (.inl x4)]) rfl (st' := []) rfl 78 rfl ?_
  exact h
theorem b_X6_gather_0 {x2 : Int} (hD : 3 ≤ D) (h : ((0 ≤ x2 ∧ x2 < 3) ∧ NW sc d_X7_weightAboard 0 (0, [some (.inr (.inl (some 18))), some (.inl x2), none, none], [], (J, L, W), 0, 0) (fun v M9 => NW sc d_X6_gather D (31, [some (.inr (.inl (some 26))), some (.inr (.inl (some 2))), none, some (.inr (.inl (some 18))), some (.inl (J 10 x2)), none], nw_push v [.inl (J 14 x2), .inr (.inl (some 26))], M9, c, sl) Qr Qx) Qx)) :
    NW sc d_X6_gather D (0, [some (.inr (.inl (some 26))), some (.inr (.inl (some 2))), some (.inl x2), none, none, none], [], (J, L, W), c, sl) Qr Qx := by
  refine nw_aload_n l_X6_gather_0 1 rfl rfl ?_
  refine nw_getA l_X6_gather_1 4 rfl k_2 r_2_2 ?_
  refine nw_astore_n l_X6_gather_4 5 rfl rfl (ls' := [some (.inr (.inl (some 26))), some (.inr (.inl (some 2))), some (.inl x2), some (.inr (.inl (some 18))), none, none]) rfl ?_
  refine nw_aload_n l_X6_gather_5 6 rfl rfl ?_
  refine nw_getA l_X6_gather_6 9 rfl k_2 r_2_1 ?_
  refine nw_getA l_X6_gather_9 12 rfl k_9 r_9_1 ?_
  refine nw_iload_n l_X6_gather_12 13 rfl rfl ?_
  have o1 := h.1
  replace h := h.2
  refine nw_iald l_X6_gather_13 14 rfl k_10 o1 (v := J 10 x2) rfl ?_
  refine nw_istore l_X6_gather_14 16 rfl rfl (ls' := [some (.inr (.inl (some 26))), some (.inr (.inl (some 2))), some (.inl x2), some (.inr (.inl (some 18))), some (.inl (J 10 x2)), none]) rfl ?_
  refine nw_aload_n l_X6_gather_16 17 rfl rfl ?_
  refine nw_aload_n l_X6_gather_17 18 rfl rfl ?_
  refine nw_getA l_X6_gather_18 21 rfl k_2 r_2_1 ?_
  refine nw_getA l_X6_gather_21 24 rfl k_9 r_9_5 ?_
  refine nw_iload_n l_X6_gather_24 25 rfl rfl ?_
  refine nw_iald l_X6_gather_25 26 rfl k_14 o1 (v := J 14 x2) rfl ?_
  refine nw_aload_n l_X6_gather_26 27 rfl rfl ?_
  refine nw_iload_n l_X6_gather_27 28 rfl rfl ?_
  refine nw_drop (ls' := [some (.inr (.inl (some 26))), some (.inr (.inl (some 2))), none, some (.inr (.inl (some 18))), some (.inl (J 10 x2)), none]) ⟨rfl, ⟨rfl, ⟨True.intro, ⟨rfl, ⟨rfl, ⟨True.intro, True.intro⟩⟩⟩⟩⟩⟩ ?_
  refine nw_call0 0 18 l_X6_gather_28 rfl rfl g_X7_weightAboard (Nat.lt_of_lt_of_le (by decide) hD) rfl (Or.inl ⟨_, rfl, k_18⟩) (ls' := [some (.inr (.inl (some 18))), some (.inl x2), none, none]) rfl (st' := [.inl (J 14 x2), .inr (.inl (some 26))]) rfl 31 rfl ?_
  exact h
theorem b_X6_gather_31 {x4 : Int} {y0 : Int} {y1 : Int} (h : ((-2147483648 ≤ y1 - y0 ∧ y1 - y0 < 2147483648) ∧ NW sc d_X6_gather D (43, [some (.inr (.inl (some 26))), some (.inr (.inl (some 2))), none, some (.inr (.inl (some 18))), some (.inl x4), some (.inl 0)], [], (nw_u (nw_u J 26 4 (y1 - y0)) 26 0 0, L, W), c, sl) Qr Qx)) :
    NW sc d_X6_gather D (31, [some (.inr (.inl (some 26))), some (.inr (.inl (some 2))), none, some (.inr (.inl (some 18))), some (.inl x4), none], [.inl y0, .inl y1, .inr (.inl (some 26))], (J, L, W), c, sl) Qr Qx := by
  have o1 := h.1
  replace h := h.2
  refine nw_isub l_X6_gather_31 32 rfl o1 ?_
  refine nw_putI l_X6_gather_32 35 rfl k_26 ?_
  refine nw_aload_n l_X6_gather_35 36 rfl rfl ?_
  refine nw_iconst (len := 0) l_X6_gather_36 37 rfl c_0 ?_
  refine nw_putI l_X6_gather_37 40 rfl k_26 ?_
  refine nw_iconst (len := 0) l_X6_gather_40 41 rfl c_0 ?_
  refine nw_istore l_X6_gather_41 43 rfl rfl (ls' := [some (.inr (.inl (some 26))), some (.inr (.inl (some 2))), none, some (.inr (.inl (some 18))), some (.inl x4), some (.inl 0)]) rfl ?_
  exact h
theorem b_X6_gather_43 {x4 : Int} {x5 : Int} (hD : 3 ≤ D) (h : ((J 18 0 ≤ x5 → Qr none (J, L, W)) ∧ (x5 < J 18 0 → ((0 ≤ x5 ∧ x5 < 10) ∧ ((¬ J 25 x5 = x4 → ((-2147483648 ≤ x5 + 1 ∧ x5 + 1 < 2147483648) ∧ NW sc d_X6_gather D (43, [some (.inr (.inl (some 26))), some (.inr (.inl (some 2))), none, some (.inr (.inl (some 18))), some (.inl x4), some (.inl (x5 + 1))], [], (J, L, W), c, sl) Qr Qx)) ∧ (J 25 x5 = x4 → ((J 23 x5 = 0 → ((-2147483648 ≤ x5 + 1 ∧ x5 + 1 < 2147483648) ∧ NW sc d_X6_gather D (43, [some (.inr (.inl (some 26))), some (.inr (.inl (some 2))), none, some (.inr (.inl (some 18))), some (.inl x4), some (.inl (x5 + 1))], [], (J, L, W), c, sl) Qr Qx)) ∧ (¬ J 23 x5 = 0 → ((0 ≤ J 26 0 ∧ J 26 0 < 10) ∧ NW sc d_X3_fareAt 2 (0, [some (.inr (.inl (some 28))), some (.inr (.inl (some 2))), some (.inl x5), none, none, none], [], (nw_u (nw_u J 27 (J 26 0) x5) 52 (J 26 0) (J 22 x5), L, W), 0, 0) (fun v M9 => NW sc d_X6_gather D (119, [some (.inr (.inl (some 26))), some (.inr (.inl (some 2))), none, some (.inr (.inl (some 18))), some (.inl x4), some (.inl x5)], nw_push v [.inl (J 26 0), .inr (.inl (some 53))], M9, c, sl) Qr Qx) Qx))))))))) :
    NW sc d_X6_gather D (43, [some (.inr (.inl (some 26))), some (.inr (.inl (some 2))), none, some (.inr (.inl (some 18))), some (.inl x4), some (.inl x5)], [], (J, L, W), c, sl) Qr Qx := by
  refine nw_iload l_X6_gather_43 45 rfl rfl ?_
  refine nw_aload_n l_X6_gather_45 46 rfl rfl ?_
  refine nw_getI l_X6_gather_46 49 rfl k_18 (v := J 18 0) rfl ?_
  refine nw_ic_ge l_X6_gather_49 52 rfl (fun q1 => ?_) (fun q1 => ?_)
  · replace h := h.1 q1
    refine nw_return l_X6_gather_136 rfl ?_
    exact h
  · replace h := h.2 q1
    refine nw_aload_n l_X6_gather_52 53 rfl rfl ?_
    refine nw_getA l_X6_gather_53 56 rfl k_18 r_18_8 ?_
    refine nw_iload l_X6_gather_56 58 rfl rfl ?_
    have o2 := h.1
    replace h := h.2
    refine nw_iald l_X6_gather_58 59 rfl k_25 o2 (v := J 25 x5) rfl ?_
    refine nw_iload l_X6_gather_59 61 rfl rfl ?_
    refine nw_ic_ne l_X6_gather_61 64 rfl (fun q3 => ?_) (fun q3 => ?_)
    · replace h := h.1 q3
      have o4 := h.1
      replace h := h.2
      refine nw_iinc l_X6_gather_130 133 rfl 1 (by decide) rfl rfl o4 (ls' := [some (.inr (.inl (some 26))), some (.inr (.inl (some 2))), none, some (.inr (.inl (some 18))), some (.inl x4), some (.inl (x5 + 1))]) rfl ?_
      refine nw_goto l_X6_gather_133 ?_
      exact h
    · replace h := h.2 q3
      refine nw_aload_n l_X6_gather_64 65 rfl rfl ?_
      refine nw_getA l_X6_gather_65 68 rfl k_18 r_18_6 ?_
      refine nw_iload l_X6_gather_68 70 rfl rfl ?_
      refine nw_iald l_X6_gather_70 71 rfl k_23 o2 (v := J 23 x5) rfl ?_
      refine nw_if_eq l_X6_gather_71 74 rfl (fun q5 => ?_) (fun q5 => ?_)
      · replace h := h.1 q5
        have o6 := h.1
        replace h := h.2
        refine nw_iinc l_X6_gather_130 133 rfl 1 (by decide) rfl rfl o6 (ls' := [some (.inr (.inl (some 26))), some (.inr (.inl (some 2))), none, some (.inr (.inl (some 18))), some (.inl x4), some (.inl (x5 + 1))]) rfl ?_
        refine nw_goto l_X6_gather_133 ?_
        exact h
      · replace h := h.2 q5
        refine nw_aload_n l_X6_gather_74 75 rfl rfl ?_
        refine nw_getA l_X6_gather_75 78 rfl k_26 r_26_2 ?_
        refine nw_aload_n l_X6_gather_78 79 rfl rfl ?_
        refine nw_getI l_X6_gather_79 82 rfl k_26 (v := J 26 0) rfl ?_
        refine nw_iload l_X6_gather_82 84 rfl rfl ?_
        have o7 := h.1
        replace h := h.2
        refine nw_iast l_X6_gather_84 85 rfl k_27 o7 ?_
        refine nw_aload_n l_X6_gather_85 86 rfl rfl ?_
        refine nw_getA l_X6_gather_86 89 rfl k_26 r_26_6 ?_
        refine nw_aload_n l_X6_gather_89 90 rfl rfl ?_
        refine nw_getI l_X6_gather_90 93 rfl k_26 (v := J 26 0) (show nw_u J 27 (J 26 0) x5 26 0 = J 26 0 from (nw_uN (a := 27) (b := 26) (by decide))) ?_
        refine nw_aload_n l_X6_gather_93 94 rfl rfl ?_
        refine nw_getA l_X6_gather_94 97 rfl k_18 r_18_5 ?_
        refine nw_iload l_X6_gather_97 99 rfl rfl ?_
        refine nw_iald l_X6_gather_99 100 rfl k_22 o2 (v := J 22 x5) (show nw_u J 27 (J 26 0) x5 22 x5 = J 22 x5 from (nw_uN (a := 27) (b := 22) (by decide))) ?_
        refine nw_iast l_X6_gather_100 101 rfl k_52 o7 ?_
        refine nw_aload_n l_X6_gather_101 102 rfl rfl ?_
        refine nw_getA l_X6_gather_102 105 rfl k_26 r_26_7 ?_
        refine nw_aload_n l_X6_gather_105 106 rfl rfl ?_
        refine nw_getI l_X6_gather_106 109 rfl k_26 (v := J 26 0) (show nw_u (nw_u J 27 (J 26 0) x5) 52 (J 26 0) (J 22 x5) 26 0 = J 26 0 from (nw_uN (a := 52) (b := 26) (by decide)).trans (nw_uN (a := 27) (b := 26) (by decide))) ?_
        refine nw_aload_n l_X6_gather_109 110 rfl rfl ?_
        refine nw_getA l_X6_gather_110 113 rfl k_26 r_26_3 ?_
        refine nw_aload_n l_X6_gather_113 114 rfl rfl ?_
        refine nw_iload l_X6_gather_114 116 rfl rfl ?_
        refine nw_call0 2 28 l_X6_gather_116 rfl rfl g_X3_fareAt (Nat.lt_of_lt_of_le (by decide) hD) rfl (Or.inl ⟨_, rfl, k_28⟩) (ls' := [some (.inr (.inl (some 28))), some (.inr (.inl (some 2))), some (.inl x5), none, none, none]) rfl (st' := [.inl (J 26 0), .inr (.inl (some 53))]) rfl 119 rfl ?_
        exact h
theorem b_X6_gather_119 {x4 : Int} {x5 : Int} {y0 : Int} {y1 : Int} (h : ((0 ≤ y1 ∧ y1 < 10) ∧ ((-2147483648 ≤ (J 26 0) + 1 ∧ (J 26 0) + 1 < 2147483648) ∧ ((-2147483648 ≤ x5 + 1 ∧ x5 + 1 < 2147483648) ∧ NW sc d_X6_gather D (43, [some (.inr (.inl (some 26))), some (.inr (.inl (some 2))), none, some (.inr (.inl (some 18))), some (.inl x4), some (.inl (x5 + 1))], [], (nw_u (nw_u J 53 y1 y0) 26 0 ((J 26 0) + 1), L, W), c, sl) Qr Qx)))) :
    NW sc d_X6_gather D (119, [some (.inr (.inl (some 26))), some (.inr (.inl (some 2))), none, some (.inr (.inl (some 18))), some (.inl x4), some (.inl x5)], [.inl y0, .inl y1, .inr (.inl (some 53))], (J, L, W), c, sl) Qr Qx := by
  have o1 := h.1
  replace h := h.2
  refine nw_iast l_X6_gather_119 120 rfl k_53 o1 ?_
  refine nw_aload_n l_X6_gather_120 121 rfl rfl ?_
  refine nw_dupA l_X6_gather_121 122 rfl ?_
  refine nw_getI l_X6_gather_122 125 rfl k_26 (v := J 26 0) (show nw_u J 53 y1 y0 26 0 = J 26 0 from (nw_uN (a := 53) (b := 26) (by decide))) ?_
  refine nw_iconst (len := 0) l_X6_gather_125 126 rfl c_1 ?_
  have o2 := h.1
  replace h := h.2
  refine nw_iadd l_X6_gather_126 127 rfl o2 ?_
  refine nw_putI l_X6_gather_127 130 rfl k_26 ?_
  have o3 := h.1
  replace h := h.2
  refine nw_iinc l_X6_gather_130 133 rfl 1 (by decide) rfl rfl o3 (ls' := [some (.inr (.inl (some 26))), some (.inr (.inl (some 2))), none, some (.inr (.inl (some 18))), some (.inl x4), some (.inl (x5 + 1))]) rfl ?_
  refine nw_goto l_X6_gather_133 ?_
  exact h
theorem b_X6_sumByDeciding_0  (hD : 13 ≤ D) (h : NW sc d_X6_decide 12 (0, [some (.inr (.inl (some 26))), some (.inl 0), some (.inl (J 26 4)), some (.inl 0), some (.inl 0)], [], (nw_u (nw_u J 26 5 (-1)) 26 1 0, L, W), 0, 0) (fun v M9 => NW sc d_X6_sumByDeciding D (21, [some (.inr (.inl (some 26)))], nw_push v [], M9, c, sl) Qr Qx) Qx) :
    NW sc d_X6_sumByDeciding D (0, [some (.inr (.inl (some 26)))], [], (J, L, W), c, sl) Qr Qx := by
  refine nw_aload_n l_X6_sumByDeciding_0 1 rfl rfl ?_
  refine nw_iconst (len := 0) l_X6_sumByDeciding_1 2 rfl c_n1 ?_
  refine nw_putI l_X6_sumByDeciding_2 5 rfl k_26 ?_
  refine nw_aload_n l_X6_sumByDeciding_5 6 rfl rfl ?_
  refine nw_iconst (len := 0) l_X6_sumByDeciding_6 7 rfl c_0 ?_
  refine nw_putI l_X6_sumByDeciding_7 10 rfl k_26 ?_
  refine nw_aload_n l_X6_sumByDeciding_10 11 rfl rfl ?_
  refine nw_iconst (len := 0) l_X6_sumByDeciding_11 12 rfl c_0 ?_
  refine nw_aload_n l_X6_sumByDeciding_12 13 rfl rfl ?_
  refine nw_getI l_X6_sumByDeciding_13 16 rfl k_26 (v := J 26 4) (show nw_u (nw_u J 26 5 (-1)) 26 1 0 26 4 = J 26 4 from (nw_uI (i := 1) (j := 4) (by decide)).trans (nw_uI (i := 5) (j := 4) (by decide))) ?_
  refine nw_iconst (len := 0) l_X6_sumByDeciding_16 17 rfl c_0 ?_
  refine nw_iconst (len := 0) l_X6_sumByDeciding_17 18 rfl c_0 ?_
  refine nw_call0 12 26 l_X6_sumByDeciding_18 rfl rfl g_X6_decide (Nat.lt_of_lt_of_le (by decide) hD) rfl (Or.inl ⟨_, rfl, k_26⟩) (ls' := [some (.inr (.inl (some 26))), some (.inl 0), some (.inl (J 26 4)), some (.inl 0), some (.inl 0)]) rfl (st' := []) rfl 21 rfl ?_
  exact h
theorem b_X6_sumByDeciding_21  (h : Qr (some (.inl (J 26 5))) (J, L, W)) :
    NW sc d_X6_sumByDeciding D (21, [some (.inr (.inl (some 26)))], [], (J, L, W), c, sl) Qr Qx := by
  refine nw_aload_n l_X6_sumByDeciding_21 22 rfl rfl ?_
  refine nw_getI l_X6_sumByDeciding_22 25 rfl k_26 (v := J 26 5) rfl ?_
  refine nw_ireturn l_X6_sumByDeciding_25 rfl ?_
  exact h
theorem b_X6_sumByTable_0  (hD : 1 ≤ D) (h : ((J 26 4 < 0 → Qr (some (.inl 0)) (J, L, W)) ∧ (0 ≤ J 26 4 → ((J 26 4 ≤ 99 → NW sc d_J7_fill_53178 0 (0, [some (.inr (.inl (some 54))), some (.inl 0), none, none], [], (J, L, W), 0, 0) (fun v M9 => NW sc d_X6_sumByTable D (26, [some (.inr (.inl (some 26))), none, none, none], nw_push v [], M9, c, sl) Qr Qx) Qx) ∧ (99 < J 26 4 → Qr (some (.inl 0)) (J, L, W)))))) :
    NW sc d_X6_sumByTable D (0, [some (.inr (.inl (some 26))), none, none, none], [], (J, L, W), c, sl) Qr Qx := by
  refine nw_aload_n l_X6_sumByTable_0 1 rfl rfl ?_
  refine nw_getI l_X6_sumByTable_1 4 rfl k_26 (v := J 26 4) rfl ?_
  refine nw_if_lt l_X6_sumByTable_4 7 rfl (fun q1 => ?_) (fun q1 => ?_)
  · replace h := h.1 q1
    refine nw_iconst (len := 0) l_X6_sumByTable_16 17 rfl c_0 ?_
    refine nw_ireturn l_X6_sumByTable_17 rfl ?_
    exact h
  · replace h := h.2 q1
    refine nw_aload_n l_X6_sumByTable_7 8 rfl rfl ?_
    refine nw_getI l_X6_sumByTable_8 11 rfl k_26 (v := J 26 4) rfl ?_
    refine nw_bipush (len := 0) l_X6_sumByTable_11 13 rfl c_99 ?_
    refine nw_ic_le l_X6_sumByTable_13 16 rfl (fun q2 => ?_) (fun q2 => ?_)
    · replace h := h.1 q2
      refine nw_aload_n l_X6_sumByTable_18 19 rfl rfl ?_
      refine nw_getA l_X6_sumByTable_19 22 rfl k_26 r_26_8 ?_
      refine nw_iconst (len := 0) l_X6_sumByTable_22 23 rfl c_0 ?_
      refine nw_call0 0 0 l_X6_sumByTable_23 rfl rfl g_J7_fill_53178 (Nat.lt_of_lt_of_le (by decide) hD) rfl True.intro (ls' := [some (.inr (.inl (some 54))), some (.inl 0), none, none]) rfl (st' := []) rfl 26 rfl ?_
      exact h
    · replace h := h.2 q2
      refine nw_iconst (len := 0) l_X6_sumByTable_16 17 rfl c_0 ?_
      refine nw_ireturn l_X6_sumByTable_17 rfl ?_
      exact h
theorem b_X6_sumByTable_26  (h : NW sc d_X6_sumByTable D (28, [some (.inr (.inl (some 26))), some (.inl 0), none, none], [], (J, L, W), c, sl) Qr Qx) :
    NW sc d_X6_sumByTable D (26, [some (.inr (.inl (some 26))), none, none, none], [], (J, L, W), c, sl) Qr Qx := by
  refine nw_iconst (len := 0) l_X6_sumByTable_26 27 rfl c_0 ?_
  refine nw_istore_n l_X6_sumByTable_27 28 rfl rfl (ls' := [some (.inr (.inl (some 26))), some (.inl 0), none, none]) rfl ?_
  exact h
theorem b_X6_sumByTable_28 {x1 : Int} (h : ((J 26 0 ≤ x1 → ((0 ≤ J 26 4 ∧ J 26 4 < 100) ∧ Qr (some (.inl (J 54 (J 26 4)))) (J, L, W))) ∧ (x1 < J 26 0 → NW sc d_X6_sumByTable D (41, [some (.inr (.inl (some 26))), some (.inl x1), some (.inl (J 26 4)), none], [], (J, L, W), c, sl) Qr Qx))) :
    NW sc d_X6_sumByTable D (28, [some (.inr (.inl (some 26))), some (.inl x1), none, none], [], (J, L, W), c, sl) Qr Qx := by
  refine nw_iload_n l_X6_sumByTable_28 29 rfl rfl ?_
  refine nw_aload_n l_X6_sumByTable_29 30 rfl rfl ?_
  refine nw_getI l_X6_sumByTable_30 33 rfl k_26 (v := J 26 0) rfl ?_
  refine nw_ic_ge l_X6_sumByTable_33 36 rfl (fun q1 => ?_) (fun q1 => ?_)
  · replace h := h.1 q1
    refine nw_aload_n l_X6_sumByTable_100 101 rfl rfl ?_
    refine nw_getA l_X6_sumByTable_101 104 rfl k_26 r_26_8 ?_
    refine nw_aload_n l_X6_sumByTable_104 105 rfl rfl ?_
    refine nw_getI l_X6_sumByTable_105 108 rfl k_26 (v := J 26 4) rfl ?_
    have o2 := h.1
    replace h := h.2
    refine nw_iald l_X6_sumByTable_108 109 rfl k_54 o2 (v := J 54 (J 26 4)) rfl ?_
    refine nw_ireturn l_X6_sumByTable_109 rfl ?_
    exact h
  · replace h := h.2 q1
    refine nw_aload_n l_X6_sumByTable_36 37 rfl rfl ?_
    refine nw_getI l_X6_sumByTable_37 40 rfl k_26 (v := J 26 4) rfl ?_
    refine nw_istore_n l_X6_sumByTable_40 41 rfl rfl (ls' := [some (.inr (.inl (some 26))), some (.inl x1), some (.inl (J 26 4)), none]) rfl ?_
    exact h
theorem b_X6_sumByTable_41 {x1 : Int} {x2 : Int} (hD : 1 ≤ D) (h : ((0 ≤ x1 ∧ x1 < 10) ∧ ((x2 < J 52 x1 → ((-2147483648 ≤ x1 + 1 ∧ x1 + 1 < 2147483648) ∧ NW sc d_X6_sumByTable D (28, [some (.inr (.inl (some 26))), some (.inl (x1 + 1)), none, none], [], (J, L, W), c, sl) Qr Qx)) ∧ (J 52 x1 ≤ x2 → ((-2147483648 ≤ x2 - (J 52 x1) ∧ x2 - (J 52 x1) < 2147483648) ∧ ((0 ≤ x2 - (J 52 x1) ∧ x2 - (J 52 x1) < 100) ∧ ((-2147483648 ≤ (J 54 (x2 - (J 52 x1))) + (J 53 x1) ∧ (J 54 (x2 - (J 52 x1))) + (J 53 x1) < 2147483648) ∧ ((0 ≤ x2 ∧ x2 < 100) ∧ NW sc d_J9_max_7cf53 0 (0, [some (.inl (J 54 x2)), some (.inl ((J 54 (x2 - (J 52 x1))) + (J 53 x1)))], [], (J, L, W), 0, 0) (fun v M9 => NW sc d_X6_sumByTable D (87, [some (.inr (.inl (some 26))), some (.inl x1), some (.inl x2), none], nw_push v [.inl x2, .inr (.inl (some 54))], M9, c, sl) Qr Qx) Qx)))))))) :
    NW sc d_X6_sumByTable D (41, [some (.inr (.inl (some 26))), some (.inl x1), some (.inl x2), none], [], (J, L, W), c, sl) Qr Qx := by
  refine nw_iload_n l_X6_sumByTable_41 42 rfl rfl ?_
  refine nw_aload_n l_X6_sumByTable_42 43 rfl rfl ?_
  refine nw_getA l_X6_sumByTable_43 46 rfl k_26 r_26_6 ?_
  refine nw_iload_n l_X6_sumByTable_46 47 rfl rfl ?_
  have o1 := h.1
  replace h := h.2
  refine nw_iald l_X6_sumByTable_47 48 rfl k_52 o1 (v := J 52 x1) rfl ?_
  refine nw_ic_lt l_X6_sumByTable_48 51 rfl (fun q2 => ?_) (fun q2 => ?_)
  · replace h := h.1 q2
    have o3 := h.1
    replace h := h.2
    refine nw_iinc l_X6_sumByTable_94 97 rfl 1 (by decide) rfl rfl o3 (ls' := [some (.inr (.inl (some 26))), some (.inl (x1 + 1)), some (.inl x2), none]) rfl ?_
    refine nw_goto l_X6_sumByTable_97 ?_
    refine nw_drop (ls' := [some (.inr (.inl (some 26))), some (.inl (x1 + 1)), none, none]) ⟨rfl, ⟨rfl, ⟨True.intro, ⟨True.intro, True.intro⟩⟩⟩⟩ ?_
    exact h
  · replace h := h.2 q2
    refine nw_aload_n l_X6_sumByTable_51 52 rfl rfl ?_
    refine nw_getA l_X6_sumByTable_52 55 rfl k_26 r_26_8 ?_
    refine nw_iload_n l_X6_sumByTable_55 56 rfl rfl ?_
    refine nw_aload_n l_X6_sumByTable_56 57 rfl rfl ?_
    refine nw_getA l_X6_sumByTable_57 60 rfl k_26 r_26_6 ?_
    refine nw_iload_n l_X6_sumByTable_60 61 rfl rfl ?_
    refine nw_iald l_X6_sumByTable_61 62 rfl k_52 o1 (v := J 52 x1) rfl ?_
    have o4 := h.1
    replace h := h.2
    refine nw_isub l_X6_sumByTable_62 63 rfl o4 ?_
    have o5 := h.1
    replace h := h.2
    refine nw_iald l_X6_sumByTable_63 64 rfl k_54 o5 (v := J 54 (x2 - (J 52 x1))) rfl ?_
    refine nw_aload_n l_X6_sumByTable_64 65 rfl rfl ?_
    refine nw_getA l_X6_sumByTable_65 68 rfl k_26 r_26_7 ?_
    refine nw_iload_n l_X6_sumByTable_68 69 rfl rfl ?_
    refine nw_iald l_X6_sumByTable_69 70 rfl k_53 o1 (v := J 53 x1) rfl ?_
    have o6 := h.1
    replace h := h.2
    refine nw_iadd l_X6_sumByTable_70 71 rfl o6 ?_
    refine nw_istore_n l_X6_sumByTable_71 72 rfl rfl (ls' := [some (.inr (.inl (some 26))), some (.inl x1), some (.inl x2), some (.inl ((J 54 (x2 - (J 52 x1))) + (J 53 x1)))]) rfl ?_
    refine nw_aload_n l_X6_sumByTable_72 73 rfl rfl ?_
    refine nw_getA l_X6_sumByTable_73 76 rfl k_26 r_26_8 ?_
    refine nw_iload_n l_X6_sumByTable_76 77 rfl rfl ?_
    refine nw_aload_n l_X6_sumByTable_77 78 rfl rfl ?_
    refine nw_getA l_X6_sumByTable_78 81 rfl k_26 r_26_8 ?_
    refine nw_iload_n l_X6_sumByTable_81 82 rfl rfl ?_
    have o7 := h.1
    replace h := h.2
    refine nw_iald l_X6_sumByTable_82 83 rfl k_54 o7 (v := J 54 x2) rfl ?_
    refine nw_iload_n l_X6_sumByTable_83 84 rfl rfl ?_
    refine nw_drop (ls' := [some (.inr (.inl (some 26))), some (.inl x1), some (.inl x2), none]) ⟨rfl, ⟨rfl, ⟨rfl, ⟨True.intro, True.intro⟩⟩⟩⟩ ?_
    refine nw_call0 0 0 l_X6_sumByTable_84 rfl rfl g_J9_max_7cf53 (Nat.lt_of_lt_of_le (by decide) hD) rfl True.intro (ls' := [some (.inl (J 54 x2)), some (.inl ((J 54 (x2 - (J 52 x1))) + (J 53 x1)))]) rfl (st' := [.inl x2, .inr (.inl (some 54))]) rfl 87 rfl ?_
    exact h
theorem b_X6_sumByTable_87 {x1 : Int} {x2 : Int} {y0 : Int} {y1 : Int} (h : ((0 ≤ y1 ∧ y1 < 100) ∧ ((-2147483648 ≤ x2 + (-1) ∧ x2 + (-1) < 2147483648) ∧ NW sc d_X6_sumByTable D (41, [some (.inr (.inl (some 26))), some (.inl x1), some (.inl (x2 + (-1))), none], [], (nw_u J 54 y1 y0, L, W), c, sl) Qr Qx))) :
    NW sc d_X6_sumByTable D (87, [some (.inr (.inl (some 26))), some (.inl x1), some (.inl x2), none], [.inl y0, .inl y1, .inr (.inl (some 54))], (J, L, W), c, sl) Qr Qx := by
  have o1 := h.1
  replace h := h.2
  refine nw_iast l_X6_sumByTable_87 88 rfl k_54 o1 ?_
  have o2 := h.1
  replace h := h.2
  refine nw_iinc l_X6_sumByTable_88 91 rfl (-1) (by decide) rfl rfl o2 (ls' := [some (.inr (.inl (some 26))), some (.inl x1), some (.inl (x2 + (-1))), none]) rfl ?_
  refine nw_goto l_X6_sumByTable_91 ?_
  exact h
end

