/-! 28.blkE: blocks of methods, by program-/
section
variable {sc : Nat × (Nat → Int32)} {D : Nat} {J L : Nat → Int → Int} {W : nw_W} {c sl : Nat} {Qr : nw_QR} {Qx : nw_QX}
theorem b_X12_addChannel_0 {x1 : Int} {x2 : Int} {x3 : Int} {x4 : Int} (hD : 4 ≤ D) (h : NW sc d_X12_begin 1 (0, [some (.inr (.inl (some 303)))], [], (J, L, W), 0, 0) (fun v M9 => NW sc d_X12_addChannel D (4, [some (.inr (.inl (some 303))), some (.inl x1), some (.inl x2), some (.inl x3), some (.inl x4)], nw_push v [], M9, c, sl) Qr Qx) Qx) :
    NW sc d_X12_addChannel D (0, [some (.inr (.inl (some 303))), some (.inl x1), some (.inl x2), some (.inl x3), some (.inl x4)], [], (J, L, W), c, sl) Qr Qx := by
  refine nw_aload_n l_X12_addChannel_0 1 rfl rfl ?_
  refine nw_call0 1 303 l_X12_addChannel_1 rfl rfl g_X12_begin (Nat.lt_of_lt_of_le (by decide) hD) rfl (Or.inl ⟨_, rfl, k_303⟩) (ls' := [some (.inr (.inl (some 303)))]) rfl (st' := []) rfl 4 rfl ?_
  exact h
theorem b_X12_addChannel_4 {x1 : Int} {x2 : Int} {x3 : Int} {x4 : Int} (hD : 4 ≤ D) (h : NW sc d_X12_addsChannel 3 (0, [some (.inr (.inl (some 303))), some (.inl x1), some (.inl x2), some (.inl x3), some (.inl x4), none], [], (J, L, W), 0, 0) (fun v M9 => NW sc d_X12_addChannel D (14, [none, none, none, none, none], nw_push v [.inr (.inl (some 303))], M9, c, sl) Qr Qx) Qx) :
    NW sc d_X12_addChannel D (4, [some (.inr (.inl (some 303))), some (.inl x1), some (.inl x2), some (.inl x3), some (.inl x4)], [], (J, L, W), c, sl) Qr Qx := by
  refine nw_aload_n l_X12_addChannel_4 5 rfl rfl ?_
  refine nw_aload_n l_X12_addChannel_5 6 rfl rfl ?_
  refine nw_iload_n l_X12_addChannel_6 7 rfl rfl ?_
  refine nw_iload_n l_X12_addChannel_7 8 rfl rfl ?_
  refine nw_iload_n l_X12_addChannel_8 9 rfl rfl ?_
  refine nw_iload l_X12_addChannel_9 11 rfl rfl ?_
  refine nw_drop (ls' := [none, none, none, none, none]) ⟨True.intro, ⟨True.intro, ⟨True.intro, ⟨True.intro, ⟨True.intro, True.intro⟩⟩⟩⟩⟩ ?_
  refine nw_call0 3 303 l_X12_addChannel_11 rfl rfl g_X12_addsChannel (Nat.lt_of_lt_of_le (by decide) hD) rfl (Or.inl ⟨_, rfl, k_303⟩) (ls' := [some (.inr (.inl (some 303))), some (.inl x1), some (.inl x2), some (.inl x3), some (.inl x4), none]) rfl (st' := [.inr (.inl (some 303))]) rfl 14 rfl ?_
  exact h
theorem b_X12_addChannel_14 {y0 : Int} (hD : 4 ≤ D) (h : NW sc d_X12_kept 1 (0, [some (.inr (.inl (some 303))), some (.inl y0), none], [], (J, L, W), 0, 0) (fun v M9 => NW sc d_X12_addChannel D (17, [none, none, none, none, none], nw_push v [], M9, c, sl) Qr Qx) Qx) :
    NW sc d_X12_addChannel D (14, [none, none, none, none, none], [.inl y0, .inr (.inl (some 303))], (J, L, W), c, sl) Qr Qx := by
  refine nw_call0 1 303 l_X12_addChannel_14 rfl rfl g_X12_kept (Nat.lt_of_lt_of_le (by decide) hD) rfl (Or.inl ⟨_, rfl, k_303⟩) (ls' := [some (.inr (.inl (some 303))), some (.inl y0), none]) rfl (st' := []) rfl 17 rfl ?_
  exact h
theorem b_X12_addChannel_17 {y0 : Int} (h : Qr (some (.inl y0)) (J, L, W)) :
    NW sc d_X12_addChannel D (17, [none, none, none, none, none], [.inl y0], (J, L, W), c, sl) Qr Qx := by
  refine nw_ireturn l_X12_addChannel_17 rfl ?_
  exact h
theorem b_X12_addCrater_0 {x1 : Int} (hD : 2 ≤ D) (h : NW sc d_X12_begin 1 (0, [some (.inr (.inl (some 303)))], [], (J, L, W), 0, 0) (fun v M9 => NW sc d_X12_addCrater D (4, [some (.inr (.inl (some 303))), some (.inl x1)], nw_push v [], M9, c, sl) Qr Qx) Qx) :
    NW sc d_X12_addCrater D (0, [some (.inr (.inl (some 303))), some (.inl x1)], [], (J, L, W), c, sl) Qr Qx := by
  refine nw_aload_n l_X12_addCrater_0 1 rfl rfl ?_
  refine nw_call0 1 303 l_X12_addCrater_1 rfl rfl g_X12_begin (Nat.lt_of_lt_of_le (by decide) hD) rfl (Or.inl ⟨_, rfl, k_303⟩) (ls' := [some (.inr (.inl (some 303)))]) rfl (st' := []) rfl 4 rfl ?_
  exact h
theorem b_X12_addCrater_4 {x1 : Int} (hD : 2 ≤ D) (h : NW sc d_X12_addsCrater 1 (0, [some (.inr (.inl (some 303))), some (.inl x1)], [], (J, L, W), 0, 0) (fun v M9 => NW sc d_X12_addCrater D (10, [none, none], nw_push v [.inr (.inl (some 303))], M9, c, sl) Qr Qx) Qx) :
    NW sc d_X12_addCrater D (4, [some (.inr (.inl (some 303))), some (.inl x1)], [], (J, L, W), c, sl) Qr Qx := by
  refine nw_aload_n l_X12_addCrater_4 5 rfl rfl ?_
  refine nw_aload_n l_X12_addCrater_5 6 rfl rfl ?_
  refine nw_iload_n l_X12_addCrater_6 7 rfl rfl ?_
  refine nw_drop (ls' := [none, none]) ⟨True.intro, ⟨True.intro, True.intro⟩⟩ ?_
  refine nw_call0 1 303 l_X12_addCrater_7 rfl rfl g_X12_addsCrater (Nat.lt_of_lt_of_le (by decide) hD) rfl (Or.inl ⟨_, rfl, k_303⟩) (ls' := [some (.inr (.inl (some 303))), some (.inl x1)]) rfl (st' := [.inr (.inl (some 303))]) rfl 10 rfl ?_
  exact h
theorem b_X12_addCrater_10 {y0 : Int} (hD : 2 ≤ D) (h : NW sc d_X12_kept 1 (0, [some (.inr (.inl (some 303))), some (.inl y0), none], [], (J, L, W), 0, 0) (fun v M9 => NW sc d_X12_addCrater D (13, [none, none], nw_push v [], M9, c, sl) Qr Qx) Qx) :
    NW sc d_X12_addCrater D (10, [none, none], [.inl y0, .inr (.inl (some 303))], (J, L, W), c, sl) Qr Qx := by
  refine nw_call0 1 303 l_X12_addCrater_10 rfl rfl g_X12_kept (Nat.lt_of_lt_of_le (by decide) hD) rfl (Or.inl ⟨_, rfl, k_303⟩) (ls' := [some (.inr (.inl (some 303))), some (.inl y0), none]) rfl (st' := []) rfl 13 rfl ?_
  exact h
theorem b_X12_addCrater_13 {y0 : Int} (h : Qr (some (.inl y0)) (J, L, W)) :
    NW sc d_X12_addCrater D (13, [none, none], [.inl y0], (J, L, W), c, sl) Qr Qx := by
  refine nw_ireturn l_X12_addCrater_13 rfl ?_
  exact h
theorem b_X12_addFerry_0 {x1 : Int} {x2 : Int} {x3 : Int} (hD : 3 ≤ D) (h : NW sc d_X12_begin 1 (0, [some (.inr (.inl (some 303)))], [], (J, L, W), 0, 0) (fun v M9 => NW sc d_X12_addFerry D (4, [some (.inr (.inl (some 303))), some (.inl x1), some (.inl x2), some (.inl x3)], nw_push v [], M9, c, sl) Qr Qx) Qx) :
    NW sc d_X12_addFerry D (0, [some (.inr (.inl (some 303))), some (.inl x1), some (.inl x2), some (.inl x3)], [], (J, L, W), c, sl) Qr Qx := by
  refine nw_aload_n l_X12_addFerry_0 1 rfl rfl ?_
  refine nw_call0 1 303 l_X12_addFerry_1 rfl rfl g_X12_begin (Nat.lt_of_lt_of_le (by decide) hD) rfl (Or.inl ⟨_, rfl, k_303⟩) (ls' := [some (.inr (.inl (some 303)))]) rfl (st' := []) rfl 4 rfl ?_
  exact h
theorem b_X12_addFerry_4 {x1 : Int} {x2 : Int} {x3 : Int} (hD : 3 ≤ D) (h : NW sc d_X12_addsFerry 2 (0, [some (.inr (.inl (some 303))), some (.inl x1), some (.inl x2), some (.inl x3), none], [], (J, L, W), 0, 0) (fun v M9 => NW sc d_X12_addFerry D (12, [none, none, none, none], nw_push v [.inr (.inl (some 303))], M9, c, sl) Qr Qx) Qx) :
    NW sc d_X12_addFerry D (4, [some (.inr (.inl (some 303))), some (.inl x1), some (.inl x2), some (.inl x3)], [], (J, L, W), c, sl) Qr Qx := by
  refine nw_aload_n l_X12_addFerry_4 5 rfl rfl ?_
  refine nw_aload_n l_X12_addFerry_5 6 rfl rfl ?_
  refine nw_iload_n l_X12_addFerry_6 7 rfl rfl ?_
  refine nw_iload_n l_X12_addFerry_7 8 rfl rfl ?_
  refine nw_iload_n l_X12_addFerry_8 9 rfl rfl ?_
  refine nw_drop (ls' := [none, none, none, none]) ⟨True.intro, ⟨True.intro, ⟨True.intro, ⟨True.intro, True.intro⟩⟩⟩⟩ ?_
  refine nw_call0 2 303 l_X12_addFerry_9 rfl rfl g_X12_addsFerry (Nat.lt_of_lt_of_le (by decide) hD) rfl (Or.inl ⟨_, rfl, k_303⟩) (ls' := [some (.inr (.inl (some 303))), some (.inl x1), some (.inl x2), some (.inl x3), none]) rfl (st' := [.inr (.inl (some 303))]) rfl 12 rfl ?_
  exact h
theorem b_X12_addFerry_12 {y0 : Int} (hD : 3 ≤ D) (h : NW sc d_X12_kept 1 (0, [some (.inr (.inl (some 303))), some (.inl y0), none], [], (J, L, W), 0, 0) (fun v M9 => NW sc d_X12_addFerry D (15, [none, none, none, none], nw_push v [], M9, c, sl) Qr Qx) Qx) :
    NW sc d_X12_addFerry D (12, [none, none, none, none], [.inl y0, .inr (.inl (some 303))], (J, L, W), c, sl) Qr Qx := by
  refine nw_call0 1 303 l_X12_addFerry_12 rfl rfl g_X12_kept (Nat.lt_of_lt_of_le (by decide) hD) rfl (Or.inl ⟨_, rfl, k_303⟩) (ls' := [some (.inr (.inl (some 303))), some (.inl y0), none]) rfl (st' := []) rfl 15 rfl ?_
  exact h
theorem b_X12_addFerry_15 {y0 : Int} (h : Qr (some (.inl y0)) (J, L, W)) :
    NW sc d_X12_addFerry D (15, [none, none, none, none], [.inl y0], (J, L, W), c, sl) Qr Qx := by
  refine nw_ireturn l_X12_addFerry_15 rfl ?_
  exact h
theorem b_X12_addMoon_0 {x1 : Int} {x2 : Int} {x3 : Int} {x4 : Int} (hD : 4 ≤ D) (h : NW sc d_X12_begin 1 (0, [some (.inr (.inl (some 303)))], [], (J, L, W), 0, 0) (fun v M9 => NW sc d_X12_addMoon D (4, [some (.inr (.inl (some 303))), some (.inl x1), some (.inl x2), some (.inl x3), some (.inl x4)], nw_push v [], M9, c, sl) Qr Qx) Qx) :
    NW sc d_X12_addMoon D (0, [some (.inr (.inl (some 303))), some (.inl x1), some (.inl x2), some (.inl x3), some (.inl x4)], [], (J, L, W), c, sl) Qr Qx := by
  refine nw_aload_n l_X12_addMoon_0 1 rfl rfl ?_
  refine nw_call0 1 303 l_X12_addMoon_1 rfl rfl g_X12_begin (Nat.lt_of_lt_of_le (by decide) hD) rfl (Or.inl ⟨_, rfl, k_303⟩) (ls' := [some (.inr (.inl (some 303)))]) rfl (st' := []) rfl 4 rfl ?_
  exact h
theorem b_X12_addMoon_4 {x1 : Int} {x2 : Int} {x3 : Int} {x4 : Int} (hD : 4 ≤ D) (h : NW sc d_X12_addsMoon 3 (0, [some (.inr (.inl (some 303))), some (.inl x1), some (.inl x2), some (.inl x3), some (.inl x4), none], [], (J, L, W), 0, 0) (fun v M9 => NW sc d_X12_addMoon D (14, [none, none, none, none, none], nw_push v [.inr (.inl (some 303))], M9, c, sl) Qr Qx) Qx) :
    NW sc d_X12_addMoon D (4, [some (.inr (.inl (some 303))), some (.inl x1), some (.inl x2), some (.inl x3), some (.inl x4)], [], (J, L, W), c, sl) Qr Qx := by
  refine nw_aload_n l_X12_addMoon_4 5 rfl rfl ?_
  refine nw_aload_n l_X12_addMoon_5 6 rfl rfl ?_
  refine nw_iload_n l_X12_addMoon_6 7 rfl rfl ?_
  refine nw_iload_n l_X12_addMoon_7 8 rfl rfl ?_
  refine nw_iload_n l_X12_addMoon_8 9 rfl rfl ?_
  refine nw_iload l_X12_addMoon_9 11 rfl rfl ?_
  refine nw_drop (ls' := [none, none, none, none, none]) ⟨True.intro, ⟨True.intro, ⟨True.intro, ⟨True.intro, ⟨True.intro, True.intro⟩⟩⟩⟩⟩ ?_
  refine nw_call0 3 303 l_X12_addMoon_11 rfl rfl g_X12_addsMoon (Nat.lt_of_lt_of_le (by decide) hD) rfl (Or.inl ⟨_, rfl, k_303⟩) (ls' := [some (.inr (.inl (some 303))), some (.inl x1), some (.inl x2), some (.inl x3), some (.inl x4), none]) rfl (st' := [.inr (.inl (some 303))]) rfl 14 rfl ?_
  exact h
theorem b_X12_addMoon_14 {y0 : Int} (hD : 4 ≤ D) (h : NW sc d_X12_kept 1 (0, [some (.inr (.inl (some 303))), some (.inl y0), none], [], (J, L, W), 0, 0) (fun v M9 => NW sc d_X12_addMoon D (17, [none, none, none, none, none], nw_push v [], M9, c, sl) Qr Qx) Qx) :
    NW sc d_X12_addMoon D (14, [none, none, none, none, none], [.inl y0, .inr (.inl (some 303))], (J, L, W), c, sl) Qr Qx := by
  refine nw_call0 1 303 l_X12_addMoon_14 rfl rfl g_X12_kept (Nat.lt_of_lt_of_le (by decide) hD) rfl (Or.inl ⟨_, rfl, k_303⟩) (ls' := [some (.inr (.inl (some 303))), some (.inl y0), none]) rfl (st' := []) rfl 17 rfl ?_
  exact h
theorem b_X12_addMoon_17 {y0 : Int} (h : Qr (some (.inl y0)) (J, L, W)) :
    NW sc d_X12_addMoon D (17, [none, none, none, none, none], [.inl y0], (J, L, W), c, sl) Qr Qx := by
  refine nw_ireturn l_X12_addMoon_17 rfl ?_
  exact h
theorem b_X12_addsChannel_0 {x1 : Int} {x2 : Int} {x3 : Int} {x4 : Int} (hD : 3 ≤ D) (h : ((-2147483648 ≤ (J 304 1) - 1 ∧ (J 304 1) - 1 < 2147483648) ∧ ((x1 < 0 → Qr (some (.inl 0)) (nw_u J 303 13 1, L, W)) ∧ (0 ≤ x1 → (((J 304 1) - 1 < x1 → Qr (some (.inl 0)) (nw_u J 303 13 1, L, W)) ∧ (x1 ≤ (J 304 1) - 1 → ((x2 < 0 → Qr (some (.inl 0)) (nw_u J 303 13 1, L, W)) ∧ (0 ≤ x2 → (((J 304 1) - 1 < x2 → Qr (some (.inl 0)) (nw_u J 303 13 1, L, W)) ∧ (x2 ≤ (J 304 1) - 1 → ((x1 = x2 → Qr (some (.inl 0)) (nw_u J 303 13 2, L, W)) ∧ (¬ x1 = x2 → ((x3 < 1 → Qr (some (.inl 0)) (nw_u J 303 13 2, L, W)) ∧ (1 ≤ x3 → ((9 < x3 → Qr (some (.inl 0)) (nw_u J 303 13 2, L, W)) ∧ (x3 ≤ 9 → ((x4 < 0 → Qr (some (.inl 0)) (nw_u J 303 13 2, L, W)) ∧ (0 ≤ x4 → ((9 < x4 → Qr (some (.inl 0)) (nw_u J 303 13 2, L, W)) ∧ (x4 ≤ 9 → ((J 304 2 = 10 → Qr (some (.inl 0)) (nw_u J 303 13 3, L, W)) ∧ (¬ J 304 2 = 10 → NW sc d_X12_between 0 (0, [some (.inr (.inl (some 303))), some (.inl x1), some (.inl x2), none, none, none], [], (J, L, W), 0, 0) (fun v M9 => NW sc d_X12_addsChannel D (68, [some (.inr (.inl (some 303))), some (.inl x1), some (.inl x2), some (.inl x3), some (.inl x4), some (.inl (J 304 2))], nw_push v [], M9, c, sl) Qr Qx) Qx)))))))))))))))))))))) :
    NW sc d_X12_addsChannel D (0, [some (.inr (.inl (some 303))), some (.inl x1), some (.inl x2), some (.inl x3), some (.inl x4), none], [], (J, L, W), c, sl) Qr Qx := by
  refine nw_aload_n l_X12_addsChannel_0 1 rfl rfl ?_
  refine nw_iload_n l_X12_addsChannel_1 2 rfl rfl ?_
  refine nw_iload_n l_X12_addsChannel_2 3 rfl rfl ?_
  refine nw_call0 2 303 l_X12_addsChannel_3 rfl rfl g_X12_areCraters (Nat.lt_of_lt_of_le (by decide) hD) rfl (Or.inl ⟨_, rfl, k_303⟩) (ls' := [some (.inr (.inl (some 303))), some (.inl x1), some (.inl x2)]) rfl (st' := []) rfl 6 rfl ?_
  refine nw_aload_n l_X12_areCraters_0 1 rfl rfl ?_
  refine nw_iload_n l_X12_areCraters_1 2 rfl rfl ?_
  refine nw_call0 1 303 l_X12_areCraters_2 rfl rfl g_X12_isCrater (by decide) rfl (Or.inl ⟨_, rfl, k_303⟩) (ls' := [some (.inr (.inl (some 303))), some (.inl x1)]) rfl (st' := []) rfl 5 rfl ?_
  refine nw_iload_n l_X12_isCrater_0 1 rfl rfl ?_
  refine nw_iconst (len := 0) l_X12_isCrater_1 2 rfl c_0 ?_
  refine nw_aload_n l_X12_isCrater_2 3 rfl rfl ?_
  refine nw_getA l_X12_isCrater_3 6 rfl k_303 r_303_0 ?_
  refine nw_iconst (len := 0) l_X12_isCrater_6 7 rfl c_1 ?_
  refine nw_iald l_X12_isCrater_7 8 rfl k_304 ⟨by decide, by decide⟩ (v := J 304 1) rfl ?_
  refine nw_iconst (len := 0) l_X12_isCrater_8 9 rfl c_1 ?_
  have o1 := h.1
  replace h := h.2
  refine nw_isub l_X12_isCrater_9 10 rfl o1 ?_
  refine nw_call0 0 0 l_X12_isCrater_10 rfl rfl g_X12_in (by decide) rfl True.intro (ls' := [some (.inl x1), some (.inl 0), some (.inl ((J 304 1) - 1))]) rfl (st' := []) rfl 13 rfl ?_
  refine nw_iload_n l_X12_in_0 1 rfl rfl ?_
  refine nw_iload_n l_X12_in_1 2 rfl rfl ?_
  refine nw_ic_lt l_X12_in_2 5 rfl (fun q2 => ?_) (fun q2 => ?_)
  · replace h := h.1 q2
    refine nw_iconst (len := 0) l_X12_in_14 15 rfl c_0 ?_
    refine nw_ireturnZ l_X12_in_15 rfl (Or.inl rfl) ?_
    refine nw_ireturnZ l_X12_isCrater_13 rfl (Or.inl rfl) ?_
    refine nw_if_eq l_X12_areCraters_5 8 rfl (fun _ => ?_) (fun q => absurd q (by decide))
    refine nw_iconst (len := 0) l_X12_areCraters_20 21 rfl c_0 ?_
    refine nw_ireturnZ l_X12_areCraters_21 rfl (Or.inl rfl) ?_
    refine nw_if_ne l_X12_addsChannel_6 9 rfl (fun q => absurd q (by decide)) (fun _ => ?_)
    refine nw_aload_n l_X12_addsChannel_9 10 rfl rfl ?_
    refine nw_iconst (len := 0) l_X12_addsChannel_10 11 rfl c_1 ?_
    refine nw_call0 0 303 l_X12_addsChannel_11 rfl rfl g_X12_fails (Nat.lt_of_lt_of_le (by decide) hD) rfl (Or.inl ⟨_, rfl, k_303⟩) (ls' := [some (.inr (.inl (some 303))), some (.inl 1)]) rfl (st' := []) rfl 14 rfl ?_
    refine nw_aload_n l_X12_fails_0 1 rfl rfl ?_
    refine nw_iload_n l_X12_fails_1 2 rfl rfl ?_
    refine nw_putI l_X12_fails_2 5 rfl k_303 ?_
    refine nw_iconst (len := 0) l_X12_fails_5 6 rfl c_0 ?_
    refine nw_ireturn l_X12_fails_6 rfl ?_
    refine nw_ireturn l_X12_addsChannel_14 rfl ?_
    exact h
  · replace h := h.2 q2
    refine nw_iload_n l_X12_in_5 6 rfl rfl ?_
    refine nw_iload_n l_X12_in_6 7 rfl rfl ?_
    refine nw_ic_gt l_X12_in_7 10 rfl (fun q3 => ?_) (fun q3 => ?_)
    · replace h := h.1 q3
      refine nw_iconst (len := 0) l_X12_in_14 15 rfl c_0 ?_
      refine nw_ireturnZ l_X12_in_15 rfl (Or.inl rfl) ?_
      refine nw_ireturnZ l_X12_isCrater_13 rfl (Or.inl rfl) ?_
      refine nw_if_eq l_X12_areCraters_5 8 rfl (fun _ => ?_) (fun q => absurd q (by decide))
      refine nw_iconst (len := 0) l_X12_areCraters_20 21 rfl c_0 ?_
      refine nw_ireturnZ l_X12_areCraters_21 rfl (Or.inl rfl) ?_
      refine nw_if_ne l_X12_addsChannel_6 9 rfl (fun q => absurd q (by decide)) (fun _ => ?_)
      refine nw_aload_n l_X12_addsChannel_9 10 rfl rfl ?_
      refine nw_iconst (len := 0) l_X12_addsChannel_10 11 rfl c_1 ?_
      refine nw_call0 0 303 l_X12_addsChannel_11 rfl rfl g_X12_fails (Nat.lt_of_lt_of_le (by decide) hD) rfl (Or.inl ⟨_, rfl, k_303⟩) (ls' := [some (.inr (.inl (some 303))), some (.inl 1)]) rfl (st' := []) rfl 14 rfl ?_
      refine nw_aload_n l_X12_fails_0 1 rfl rfl ?_
      refine nw_iload_n l_X12_fails_1 2 rfl rfl ?_
      refine nw_putI l_X12_fails_2 5 rfl k_303 ?_
      refine nw_iconst (len := 0) l_X12_fails_5 6 rfl c_0 ?_
      refine nw_ireturn l_X12_fails_6 rfl ?_
      refine nw_ireturn l_X12_addsChannel_14 rfl ?_
      exact h
    · replace h := h.2 q3
      refine nw_iconst (len := 0) l_X12_in_10 11 rfl c_1 ?_
      refine nw_goto l_X12_in_11 ?_
      refine nw_ireturnZ l_X12_in_15 rfl (Or.inr rfl) ?_
      refine nw_ireturnZ l_X12_isCrater_13 rfl (Or.inr rfl) ?_
      refine nw_if_eq l_X12_areCraters_5 8 rfl (fun q => absurd q (by decide)) (fun _ => ?_)
      refine nw_aload_n l_X12_areCraters_8 9 rfl rfl ?_
      refine nw_iload_n l_X12_areCraters_9 10 rfl rfl ?_
      refine nw_call0 1 303 l_X12_areCraters_10 rfl rfl g_X12_isCrater (by decide) rfl (Or.inl ⟨_, rfl, k_303⟩) (ls' := [some (.inr (.inl (some 303))), some (.inl x2)]) rfl (st' := []) rfl 13 rfl ?_
      refine nw_iload_n l_X12_isCrater_0 1 rfl rfl ?_
      refine nw_iconst (len := 0) l_X12_isCrater_1 2 rfl c_0 ?_
      refine nw_aload_n l_X12_isCrater_2 3 rfl rfl ?_
      refine nw_getA l_X12_isCrater_3 6 rfl k_303 r_303_0 ?_
      refine nw_iconst (len := 0) l_X12_isCrater_6 7 rfl c_1 ?_
      refine nw_iald l_X12_isCrater_7 8 rfl k_304 ⟨by decide, by decide⟩ (v := J 304 1) rfl ?_
      refine nw_iconst (len := 0) l_X12_isCrater_8 9 rfl c_1 ?_
      refine nw_isub l_X12_isCrater_9 10 rfl o1 ?_
      refine nw_call0 0 0 l_X12_isCrater_10 rfl rfl g_X12_in (by decide) rfl True.intro (ls' := [some (.inl x2), some (.inl 0), some (.inl ((J 304 1) - 1))]) rfl (st' := []) rfl 13 rfl ?_
      refine nw_iload_n l_X12_in_0 1 rfl rfl ?_
      refine nw_iload_n l_X12_in_1 2 rfl rfl ?_
      refine nw_ic_lt l_X12_in_2 5 rfl (fun q4 => ?_) (fun q4 => ?_)
      · replace h := h.1 q4
        refine nw_iconst (len := 0) l_X12_in_14 15 rfl c_0 ?_
        refine nw_ireturnZ l_X12_in_15 rfl (Or.inl rfl) ?_
        refine nw_ireturnZ l_X12_isCrater_13 rfl (Or.inl rfl) ?_
        refine nw_if_eq l_X12_areCraters_13 16 rfl (fun _ => ?_) (fun q => absurd q (by decide))
        refine nw_iconst (len := 0) l_X12_areCraters_20 21 rfl c_0 ?_
        refine nw_ireturnZ l_X12_areCraters_21 rfl (Or.inl rfl) ?_
        refine nw_if_ne l_X12_addsChannel_6 9 rfl (fun q => absurd q (by decide)) (fun _ => ?_)
        refine nw_aload_n l_X12_addsChannel_9 10 rfl rfl ?_
        refine nw_iconst (len := 0) l_X12_addsChannel_10 11 rfl c_1 ?_
        refine nw_call0 0 303 l_X12_addsChannel_11 rfl rfl g_X12_fails (Nat.lt_of_lt_of_le (by decide) hD) rfl (Or.inl ⟨_, rfl, k_303⟩) (ls' := [some (.inr (.inl (some 303))), some (.inl 1)]) rfl (st' := []) rfl 14 rfl ?_
        refine nw_aload_n l_X12_fails_0 1 rfl rfl ?_
        refine nw_iload_n l_X12_fails_1 2 rfl rfl ?_
        refine nw_putI l_X12_fails_2 5 rfl k_303 ?_
        refine nw_iconst (len := 0) l_X12_fails_5 6 rfl c_0 ?_
        refine nw_ireturn l_X12_fails_6 rfl ?_
        refine nw_ireturn l_X12_addsChannel_14 rfl ?_
        exact h
      · replace h := h.2 q4
        refine nw_iload_n l_X12_in_5 6 rfl rfl ?_
        refine nw_iload_n l_X12_in_6 7 rfl rfl ?_
        refine nw_ic_gt l_X12_in_7 10 rfl (fun q5 => ?_) (fun q5 => ?_)
        · replace h := h.1 q5
          refine nw_iconst (len := 0) l_X12_in_14 15 rfl c_0 ?_
          refine nw_ireturnZ l_X12_in_15 rfl (Or.inl rfl) ?_
          refine nw_ireturnZ l_X12_isCrater_13 rfl (Or.inl rfl) ?_
          refine nw_if_eq l_X12_areCraters_13 16 rfl (fun _ => ?_) (fun q => absurd q (by decide))
          refine nw_iconst (len := 0) l_X12_areCraters_20 21 rfl c_0 ?_
          refine nw_ireturnZ l_X12_areCraters_21 rfl (Or.inl rfl) ?_
          refine nw_if_ne l_X12_addsChannel_6 9 rfl (fun q => absurd q (by decide)) (fun _ => ?_)
          refine nw_aload_n l_X12_addsChannel_9 10 rfl rfl ?_
          refine nw_iconst (len := 0) l_X12_addsChannel_10 11 rfl c_1 ?_
          refine nw_call0 0 303 l_X12_addsChannel_11 rfl rfl g_X12_fails (Nat.lt_of_lt_of_le (by decide) hD) rfl (Or.inl ⟨_, rfl, k_303⟩) (ls' := [some (.inr (.inl (some 303))), some (.inl 1)]) rfl (st' := []) rfl 14 rfl ?_
          refine nw_aload_n l_X12_fails_0 1 rfl rfl ?_
          refine nw_iload_n l_X12_fails_1 2 rfl rfl ?_
          refine nw_putI l_X12_fails_2 5 rfl k_303 ?_
          refine nw_iconst (len := 0) l_X12_fails_5 6 rfl c_0 ?_
          refine nw_ireturn l_X12_fails_6 rfl ?_
          refine nw_ireturn l_X12_addsChannel_14 rfl ?_
          exact h
        · replace h := h.2 q5
          refine nw_iconst (len := 0) l_X12_in_10 11 rfl c_1 ?_
          refine nw_goto l_X12_in_11 ?_
          refine nw_ireturnZ l_X12_in_15 rfl (Or.inr rfl) ?_
          refine nw_ireturnZ l_X12_isCrater_13 rfl (Or.inr rfl) ?_
          refine nw_if_eq l_X12_areCraters_13 16 rfl (fun q => absurd q (by decide)) (fun _ => ?_)
          refine nw_iconst (len := 0) l_X12_areCraters_16 17 rfl c_1 ?_
          refine nw_goto l_X12_areCraters_17 ?_
          refine nw_ireturnZ l_X12_areCraters_21 rfl (Or.inr rfl) ?_
          refine nw_if_ne l_X12_addsChannel_6 9 rfl (fun _ => ?_) (fun q => absurd q (by decide))
          refine nw_iload_n l_X12_addsChannel_15 16 rfl rfl ?_
          refine nw_iload_n l_X12_addsChannel_16 17 rfl rfl ?_
          refine nw_ic_eq l_X12_addsChannel_17 20 rfl (fun q6 => ?_) (fun q6 => ?_)
          · replace h := h.1 q6
            refine nw_aload_n l_X12_addsChannel_41 42 rfl rfl ?_
            refine nw_iconst (len := 0) l_X12_addsChannel_42 43 rfl c_2 ?_
            refine nw_call0 0 303 l_X12_addsChannel_43 rfl rfl g_X12_fails (Nat.lt_of_lt_of_le (by decide) hD) rfl (Or.inl ⟨_, rfl, k_303⟩) (ls' := [some (.inr (.inl (some 303))), some (.inl 2)]) rfl (st' := []) rfl 46 rfl ?_
            refine nw_aload_n l_X12_fails_0 1 rfl rfl ?_
            refine nw_iload_n l_X12_fails_1 2 rfl rfl ?_
            refine nw_putI l_X12_fails_2 5 rfl k_303 ?_
            refine nw_iconst (len := 0) l_X12_fails_5 6 rfl c_0 ?_
            refine nw_ireturn l_X12_fails_6 rfl ?_
            refine nw_ireturn l_X12_addsChannel_46 rfl ?_
            exact h
          · replace h := h.2 q6
            refine nw_iload_n l_X12_addsChannel_20 21 rfl rfl ?_
            refine nw_iconst (len := 0) l_X12_addsChannel_21 22 rfl c_1 ?_
            refine nw_bipush (len := 0) l_X12_addsChannel_22 24 rfl c_9 ?_
            refine nw_call0 0 0 l_X12_addsChannel_24 rfl rfl g_X12_in (Nat.lt_of_lt_of_le (by decide) hD) rfl True.intro (ls' := [some (.inl x3), some (.inl 1), some (.inl 9)]) rfl (st' := []) rfl 27 rfl ?_
            refine nw_iload_n l_X12_in_0 1 rfl rfl ?_
            refine nw_iload_n l_X12_in_1 2 rfl rfl ?_
            refine nw_ic_lt l_X12_in_2 5 rfl (fun q7 => ?_) (fun q7 => ?_)
            · replace h := h.1 q7
              refine nw_iconst (len := 0) l_X12_in_14 15 rfl c_0 ?_
              refine nw_ireturnZ l_X12_in_15 rfl (Or.inl rfl) ?_
              refine nw_if_eq l_X12_addsChannel_27 30 rfl (fun _ => ?_) (fun q => absurd q (by decide))
              refine nw_aload_n l_X12_addsChannel_41 42 rfl rfl ?_
              refine nw_iconst (len := 0) l_X12_addsChannel_42 43 rfl c_2 ?_
              refine nw_call0 0 303 l_X12_addsChannel_43 rfl rfl g_X12_fails (Nat.lt_of_lt_of_le (by decide) hD) rfl (Or.inl ⟨_, rfl, k_303⟩) (ls' := [some (.inr (.inl (some 303))), some (.inl 2)]) rfl (st' := []) rfl 46 rfl ?_
              refine nw_aload_n l_X12_fails_0 1 rfl rfl ?_
              refine nw_iload_n l_X12_fails_1 2 rfl rfl ?_
              refine nw_putI l_X12_fails_2 5 rfl k_303 ?_
              refine nw_iconst (len := 0) l_X12_fails_5 6 rfl c_0 ?_
              refine nw_ireturn l_X12_fails_6 rfl ?_
              refine nw_ireturn l_X12_addsChannel_46 rfl ?_
              exact h
            · replace h := h.2 q7
              refine nw_iload_n l_X12_in_5 6 rfl rfl ?_
              refine nw_iload_n l_X12_in_6 7 rfl rfl ?_
              refine nw_ic_gt l_X12_in_7 10 rfl (fun q8 => ?_) (fun q8 => ?_)
              · replace h := h.1 q8
                refine nw_iconst (len := 0) l_X12_in_14 15 rfl c_0 ?_
                refine nw_ireturnZ l_X12_in_15 rfl (Or.inl rfl) ?_
                refine nw_if_eq l_X12_addsChannel_27 30 rfl (fun _ => ?_) (fun q => absurd q (by decide))
                refine nw_aload_n l_X12_addsChannel_41 42 rfl rfl ?_
                refine nw_iconst (len := 0) l_X12_addsChannel_42 43 rfl c_2 ?_
                refine nw_call0 0 303 l_X12_addsChannel_43 rfl rfl g_X12_fails (Nat.lt_of_lt_of_le (by decide) hD) rfl (Or.inl ⟨_, rfl, k_303⟩) (ls' := [some (.inr (.inl (some 303))), some (.inl 2)]) rfl (st' := []) rfl 46 rfl ?_
                refine nw_aload_n l_X12_fails_0 1 rfl rfl ?_
                refine nw_iload_n l_X12_fails_1 2 rfl rfl ?_
                refine nw_putI l_X12_fails_2 5 rfl k_303 ?_
                refine nw_iconst (len := 0) l_X12_fails_5 6 rfl c_0 ?_
                refine nw_ireturn l_X12_fails_6 rfl ?_
                refine nw_ireturn l_X12_addsChannel_46 rfl ?_
                exact h
              · replace h := h.2 q8
                refine nw_iconst (len := 0) l_X12_in_10 11 rfl c_1 ?_
                refine nw_goto l_X12_in_11 ?_
                refine nw_ireturnZ l_X12_in_15 rfl (Or.inr rfl) ?_
                refine nw_if_eq l_X12_addsChannel_27 30 rfl (fun q => absurd q (by decide)) (fun _ => ?_)
                refine nw_iload l_X12_addsChannel_30 32 rfl rfl ?_
                refine nw_iconst (len := 0) l_X12_addsChannel_32 33 rfl c_0 ?_
                refine nw_bipush (len := 0) l_X12_addsChannel_33 35 rfl c_9 ?_
                refine nw_call0 0 0 l_X12_addsChannel_35 rfl rfl g_X12_in (Nat.lt_of_lt_of_le (by decide) hD) rfl True.intro (ls' := [some (.inl x4), some (.inl 0), some (.inl 9)]) rfl (st' := []) rfl 38 rfl ?_
                refine nw_iload_n l_X12_in_0 1 rfl rfl ?_
                refine nw_iload_n l_X12_in_1 2 rfl rfl ?_
                refine nw_ic_lt l_X12_in_2 5 rfl (fun q9 => ?_) (fun q9 => ?_)
                · replace h := h.1 q9
                  refine nw_iconst (len := 0) l_X12_in_14 15 rfl c_0 ?_
                  refine nw_ireturnZ l_X12_in_15 rfl (Or.inl rfl) ?_
                  refine nw_if_ne l_X12_addsChannel_38 41 rfl (fun q => absurd q (by decide)) (fun _ => ?_)
                  refine nw_aload_n l_X12_addsChannel_41 42 rfl rfl ?_
                  refine nw_iconst (len := 0) l_X12_addsChannel_42 43 rfl c_2 ?_
                  refine nw_call0 0 303 l_X12_addsChannel_43 rfl rfl g_X12_fails (Nat.lt_of_lt_of_le (by decide) hD) rfl (Or.inl ⟨_, rfl, k_303⟩) (ls' := [some (.inr (.inl (some 303))), some (.inl 2)]) rfl (st' := []) rfl 46 rfl ?_
                  refine nw_aload_n l_X12_fails_0 1 rfl rfl ?_
                  refine nw_iload_n l_X12_fails_1 2 rfl rfl ?_
                  refine nw_putI l_X12_fails_2 5 rfl k_303 ?_
                  refine nw_iconst (len := 0) l_X12_fails_5 6 rfl c_0 ?_
                  refine nw_ireturn l_X12_fails_6 rfl ?_
                  refine nw_ireturn l_X12_addsChannel_46 rfl ?_
                  exact h
                · replace h := h.2 q9
                  refine nw_iload_n l_X12_in_5 6 rfl rfl ?_
                  refine nw_iload_n l_X12_in_6 7 rfl rfl ?_
                  refine nw_ic_gt l_X12_in_7 10 rfl (fun q10 => ?_) (fun q10 => ?_)
                  · replace h := h.1 q10
                    refine nw_iconst (len := 0) l_X12_in_14 15 rfl c_0 ?_
                    refine nw_ireturnZ l_X12_in_15 rfl (Or.inl rfl) ?_
                    refine nw_if_ne l_X12_addsChannel_38 41 rfl (fun q => absurd q (by decide)) (fun _ => ?_)
                    refine nw_aload_n l_X12_addsChannel_41 42 rfl rfl ?_
                    refine nw_iconst (len := 0) l_X12_addsChannel_42 43 rfl c_2 ?_
                    refine nw_call0 0 303 l_X12_addsChannel_43 rfl rfl g_X12_fails (Nat.lt_of_lt_of_le (by decide) hD) rfl (Or.inl ⟨_, rfl, k_303⟩) (ls' := [some (.inr (.inl (some 303))), some (.inl 2)]) rfl (st' := []) rfl 46 rfl ?_
                    refine nw_aload_n l_X12_fails_0 1 rfl rfl ?_
                    refine nw_iload_n l_X12_fails_1 2 rfl rfl ?_
                    refine nw_putI l_X12_fails_2 5 rfl k_303 ?_
                    refine nw_iconst (len := 0) l_X12_fails_5 6 rfl c_0 ?_
                    refine nw_ireturn l_X12_fails_6 rfl ?_
                    refine nw_ireturn l_X12_addsChannel_46 rfl ?_
                    exact h
                  · replace h := h.2 q10
                    refine nw_iconst (len := 0) l_X12_in_10 11 rfl c_1 ?_
                    refine nw_goto l_X12_in_11 ?_
                    refine nw_ireturnZ l_X12_in_15 rfl (Or.inr rfl) ?_
                    refine nw_if_ne l_X12_addsChannel_38 41 rfl (fun _ => ?_) (fun q => absurd q (by decide))
                    refine nw_aload_n l_X12_addsChannel_47 48 rfl rfl ?_
                    refine nw_getA l_X12_addsChannel_48 51 rfl k_303 r_303_0 ?_
                    refine nw_iconst (len := 0) l_X12_addsChannel_51 52 rfl c_2 ?_
                    refine nw_iald l_X12_addsChannel_52 53 rfl k_304 ⟨by decide, by decide⟩ (v := J 304 2) rfl ?_
                    refine nw_istore l_X12_addsChannel_53 55 rfl rfl (ls' := [some (.inr (.inl (some 303))), some (.inl x1), some (.inl x2), some (.inl x3), some (.inl x4), some (.inl (J 304 2))]) rfl ?_
                    refine nw_iload l_X12_addsChannel_55 57 rfl rfl ?_
                    refine nw_bipush (len := 0) l_X12_addsChannel_57 59 rfl c_10 ?_
                    refine nw_ic_eq l_X12_addsChannel_59 62 rfl (fun q11 => ?_) (fun q11 => ?_)
                    · replace h := h.1 q11
                      refine nw_aload_n l_X12_addsChannel_72 73 rfl rfl ?_
                      refine nw_iconst (len := 0) l_X12_addsChannel_73 74 rfl c_3 ?_
                      refine nw_call0 0 303 l_X12_addsChannel_74 rfl rfl g_X12_fails (Nat.lt_of_lt_of_le (by decide) hD) rfl (Or.inl ⟨_, rfl, k_303⟩) (ls' := [some (.inr (.inl (some 303))), some (.inl 3)]) rfl (st' := []) rfl 77 rfl ?_
                      refine nw_aload_n l_X12_fails_0 1 rfl rfl ?_
                      refine nw_iload_n l_X12_fails_1 2 rfl rfl ?_
                      refine nw_putI l_X12_fails_2 5 rfl k_303 ?_
                      refine nw_iconst (len := 0) l_X12_fails_5 6 rfl c_0 ?_
                      refine nw_ireturn l_X12_fails_6 rfl ?_
                      refine nw_ireturn l_X12_addsChannel_77 rfl ?_
                      exact h
                    · replace h := h.2 q11
                      refine nw_aload_n l_X12_addsChannel_62 63 rfl rfl ?_
                      refine nw_iload_n l_X12_addsChannel_63 64 rfl rfl ?_
                      refine nw_iload_n l_X12_addsChannel_64 65 rfl rfl ?_
                      refine nw_call0 0 303 l_X12_addsChannel_65 rfl rfl g_X12_between (Nat.lt_of_lt_of_le (by decide) hD) rfl (Or.inl ⟨_, rfl, k_303⟩) (ls' := [some (.inr (.inl (some 303))), some (.inl x1), some (.inl x2), none, none, none]) rfl (st' := []) rfl 68 rfl ?_
                      exact h
theorem b_X12_addsChannel_68 {x1 : Int} {x2 : Int} {x3 : Int} {x4 : Int} {x5 : Int} {y0 : Int} (hD : 3 ≤ D) (h : ((y0 = (-1) → ((-2147483648 ≤ 16 + x5 ∧ 16 + x5 < 2147483648) ∧ ((0 ≤ 16 + x5 ∧ 16 + x5 < 161) ∧ ((-2147483648 ≤ 26 + x5 ∧ 26 + x5 < 2147483648) ∧ ((0 ≤ 26 + x5 ∧ 26 + x5 < 161) ∧ ((-2147483648 ≤ 36 + x5 ∧ 36 + x5 < 2147483648) ∧ ((0 ≤ 36 + x5 ∧ 36 + x5 < 161) ∧ ((-2147483648 ≤ 46 + x5 ∧ 46 + x5 < 2147483648) ∧ ((0 ≤ 46 + x5 ∧ 46 + x5 < 161) ∧ ((-2147483648 ≤ ((nw_u (nw_u (nw_u (nw_u J 304 (16 + x5) x1) 304 (26 + x5) x2) 304 (36 + x5) x3) 304 (46 + x5) x4) 304 2) + 1 ∧ ((nw_u (nw_u (nw_u (nw_u J 304 (16 + x5) x1) 304 (26 + x5) x2) 304 (36 + x5) x3) 304 (46 + x5) x4) 304 2) + 1 < 2147483648) ∧ Qr (some (.inl x5)) (nw_u (nw_u (nw_u (nw_u (nw_u (nw_u J 304 (16 + x5) x1) 304 (26 + x5) x2) 304 (36 + x5) x3) 304 (46 + x5) x4) 304 2 (((nw_u (nw_u (nw_u (nw_u J 304 (16 + x5) x1) 304 (26 + x5) x2) 304 (36 + x5) x3) 304 (46 + x5) x4) 304 2) + 1)) 303 13 0, L, W))))))))))) ∧ (¬ y0 = (-1) → Qr (some (.inl 0)) (nw_u J 303 13 3, L, W)))) :
    NW sc d_X12_addsChannel D (68, [some (.inr (.inl (some 303))), some (.inl x1), some (.inl x2), some (.inl x3), some (.inl x4), some (.inl x5)], [.inl y0], (J, L, W), c, sl) Qr Qx := by
  refine nw_iconst (len := 0) l_X12_addsChannel_68 69 rfl c_n1 ?_
  refine nw_ic_eq l_X12_addsChannel_69 72 rfl (fun q1 => ?_) (fun q1 => ?_)
  · replace h := h.1 q1
    refine nw_aload_n l_X12_addsChannel_78 79 rfl rfl ?_
    refine nw_getA l_X12_addsChannel_79 82 rfl k_303 r_303_0 ?_
    refine nw_bipush (len := 0) l_X12_addsChannel_82 84 rfl c_16 ?_
    refine nw_iload l_X12_addsChannel_84 86 rfl rfl ?_
    have o2 := h.1
    replace h := h.2
    refine nw_iadd l_X12_addsChannel_86 87 rfl o2 ?_
    refine nw_iload_n l_X12_addsChannel_87 88 rfl rfl ?_
    have o3 := h.1
    replace h := h.2
    refine nw_iast l_X12_addsChannel_88 89 rfl k_304 o3 ?_
    refine nw_aload_n l_X12_addsChannel_89 90 rfl rfl ?_
    refine nw_getA l_X12_addsChannel_90 93 rfl k_303 r_303_0 ?_
    refine nw_bipush (len := 0) l_X12_addsChannel_93 95 rfl c_26 ?_
    refine nw_iload l_X12_addsChannel_95 97 rfl rfl ?_
    have o4 := h.1
    replace h := h.2
    refine nw_iadd l_X12_addsChannel_97 98 rfl o4 ?_
    refine nw_iload_n l_X12_addsChannel_98 99 rfl rfl ?_
    have o5 := h.1
    replace h := h.2
    refine nw_iast l_X12_addsChannel_99 100 rfl k_304 o5 ?_
    refine nw_aload_n l_X12_addsChannel_100 101 rfl rfl ?_
    refine nw_getA l_X12_addsChannel_101 104 rfl k_303 r_303_0 ?_
    refine nw_bipush (len := 0) l_X12_addsChannel_104 106 rfl c_36 ?_
    refine nw_iload l_X12_addsChannel_106 108 rfl rfl ?_
    have o6 := h.1
    replace h := h.2
    refine nw_iadd l_X12_addsChannel_108 109 rfl o6 ?_
    refine nw_iload_n l_X12_addsChannel_109 110 rfl rfl ?_
    have o7 := h.1
    replace h := h.2
    refine nw_iast l_X12_addsChannel_110 111 rfl k_304 o7 ?_
    refine nw_aload_n l_X12_addsChannel_111 112 rfl rfl ?_
    refine nw_getA l_X12_addsChannel_112 115 rfl k_303 r_303_0 ?_
    refine nw_bipush (len := 0) l_X12_addsChannel_115 117 rfl c_46 ?_
    refine nw_iload l_X12_addsChannel_117 119 rfl rfl ?_
    have o8 := h.1
    replace h := h.2
    refine nw_iadd l_X12_addsChannel_119 120 rfl o8 ?_
    refine nw_iload l_X12_addsChannel_120 122 rfl rfl ?_
    have o9 := h.1
    replace h := h.2
    refine nw_iast l_X12_addsChannel_122 123 rfl k_304 o9 ?_
    refine nw_aload_n l_X12_addsChannel_123 124 rfl rfl ?_
    refine nw_getA l_X12_addsChannel_124 127 rfl k_303 r_303_0 ?_
    refine nw_iconst (len := 0) l_X12_addsChannel_127 128 rfl c_2 ?_
    refine nw_dup2 l_X12_addsChannel_128 129 rfl ?_
    refine nw_iald l_X12_addsChannel_129 130 rfl k_304 ⟨by decide, by decide⟩ (v := (nw_u (nw_u (nw_u (nw_u J 304 (16 + x5) x1) 304 (26 + x5) x2) 304 (36 + x5) x3) 304 (46 + x5) x4) 304 2) rfl ?_
    refine nw_iconst (len := 0) l_X12_addsChannel_130 131 rfl c_1 ?_
    have o10 := h.1
    replace h := h.2
    refine nw_iadd l_X12_addsChannel_131 132 rfl o10 ?_
    refine nw_iast l_X12_addsChannel_132 133 rfl k_304 ⟨by decide, by decide⟩ ?_
    refine nw_aload_n l_X12_addsChannel_133 134 rfl rfl ?_
    refine nw_iload l_X12_addsChannel_134 136 rfl rfl ?_
    refine nw_call0 0 303 l_X12_addsChannel_136 rfl rfl g_X12_done (Nat.lt_of_lt_of_le (by decide) hD) rfl (Or.inl ⟨_, rfl, k_303⟩) (ls' := [some (.inr (.inl (some 303))), some (.inl x5)]) rfl (st' := []) rfl 139 rfl ?_
    refine nw_aload_n l_X12_done_0 1 rfl rfl ?_
    refine nw_iconst (len := 0) l_X12_done_1 2 rfl c_0 ?_
    refine nw_putI l_X12_done_2 5 rfl k_303 ?_
    refine nw_iload_n l_X12_done_5 6 rfl rfl ?_
    refine nw_ireturn l_X12_done_6 rfl ?_
    refine nw_ireturn l_X12_addsChannel_139 rfl ?_
    exact h
  · replace h := h.2 q1
    refine nw_aload_n l_X12_addsChannel_72 73 rfl rfl ?_
    refine nw_iconst (len := 0) l_X12_addsChannel_73 74 rfl c_3 ?_
    refine nw_call0 0 303 l_X12_addsChannel_74 rfl rfl g_X12_fails (Nat.lt_of_lt_of_le (by decide) hD) rfl (Or.inl ⟨_, rfl, k_303⟩) (ls' := [some (.inr (.inl (some 303))), some (.inl 3)]) rfl (st' := []) rfl 77 rfl ?_
    refine nw_aload_n l_X12_fails_0 1 rfl rfl ?_
    refine nw_iload_n l_X12_fails_1 2 rfl rfl ?_
    refine nw_putI l_X12_fails_2 5 rfl k_303 ?_
    refine nw_iconst (len := 0) l_X12_fails_5 6 rfl c_0 ?_
    refine nw_ireturn l_X12_fails_6 rfl ?_
    refine nw_ireturn l_X12_addsChannel_77 rfl ?_
    exact h
theorem b_X12_addsCrater_0 {x1 : Int} (hD : 1 ≤ D) (h : ((x1 < 0 → Qr (some (.inl 0)) (nw_u J 303 13 1, L, W)) ∧ (0 ≤ x1 → ((9 < x1 → Qr (some (.inl 0)) (nw_u J 303 13 1, L, W)) ∧ (x1 ≤ 9 → ((¬ J 304 1 = 6 → ((-2147483648 ≤ 10 + (J 304 1) ∧ 10 + (J 304 1) < 2147483648) ∧ ((0 ≤ 10 + (J 304 1) ∧ 10 + (J 304 1) < 161) ∧ ((-2147483648 ≤ ((nw_u J 304 (10 + (J 304 1)) x1) 304 1) + 1 ∧ ((nw_u J 304 (10 + (J 304 1)) x1) 304 1) + 1 < 2147483648) ∧ ((-2147483648 ≤ (((nw_u J 304 (10 + (J 304 1)) x1) 304 1) + 1) - 1 ∧ (((nw_u J 304 (10 + (J 304 1)) x1) 304 1) + 1) - 1 < 2147483648) ∧ Qr (some (.inl ((((nw_u J 304 (10 + (J 304 1)) x1) 304 1) + 1) - 1))) (nw_u (nw_u (nw_u J 304 (10 + (J 304 1)) x1) 304 1 (((nw_u J 304 (10 + (J 304 1)) x1) 304 1) + 1)) 303 13 0, L, W)))))) ∧ (J 304 1 = 6 → Qr (some (.inl 0)) (nw_u J 303 13 2, L, W)))))))) :
    NW sc d_X12_addsCrater D (0, [some (.inr (.inl (some 303))), some (.inl x1)], [], (J, L, W), c, sl) Qr Qx := by
  refine nw_iload_n l_X12_addsCrater_0 1 rfl rfl ?_
  refine nw_iconst (len := 0) l_X12_addsCrater_1 2 rfl c_0 ?_
  refine nw_bipush (len := 0) l_X12_addsCrater_2 4 rfl c_9 ?_
  refine nw_call0 0 0 l_X12_addsCrater_4 rfl rfl g_X12_in (Nat.lt_of_lt_of_le (by decide) hD) rfl True.intro (ls' := [some (.inl x1), some (.inl 0), some (.inl 9)]) rfl (st' := []) rfl 7 rfl ?_
  refine nw_iload_n l_X12_in_0 1 rfl rfl ?_
  refine nw_iload_n l_X12_in_1 2 rfl rfl ?_
  refine nw_ic_lt l_X12_in_2 5 rfl (fun q1 => ?_) (fun q1 => ?_)
  · replace h := h.1 q1
    refine nw_iconst (len := 0) l_X12_in_14 15 rfl c_0 ?_
    refine nw_ireturnZ l_X12_in_15 rfl (Or.inl rfl) ?_
    refine nw_if_ne l_X12_addsCrater_7 10 rfl (fun q => absurd q (by decide)) (fun _ => ?_)
    refine nw_aload_n l_X12_addsCrater_10 11 rfl rfl ?_
    refine nw_iconst (len := 0) l_X12_addsCrater_11 12 rfl c_1 ?_
    refine nw_call0 0 303 l_X12_addsCrater_12 rfl rfl g_X12_fails (Nat.lt_of_lt_of_le (by decide) hD) rfl (Or.inl ⟨_, rfl, k_303⟩) (ls' := [some (.inr (.inl (some 303))), some (.inl 1)]) rfl (st' := []) rfl 15 rfl ?_
    refine nw_aload_n l_X12_fails_0 1 rfl rfl ?_
    refine nw_iload_n l_X12_fails_1 2 rfl rfl ?_
    refine nw_putI l_X12_fails_2 5 rfl k_303 ?_
    refine nw_iconst (len := 0) l_X12_fails_5 6 rfl c_0 ?_
    refine nw_ireturn l_X12_fails_6 rfl ?_
    refine nw_ireturn l_X12_addsCrater_15 rfl ?_
    exact h
  · replace h := h.2 q1
    refine nw_iload_n l_X12_in_5 6 rfl rfl ?_
    refine nw_iload_n l_X12_in_6 7 rfl rfl ?_
    refine nw_ic_gt l_X12_in_7 10 rfl (fun q2 => ?_) (fun q2 => ?_)
    · replace h := h.1 q2
      refine nw_iconst (len := 0) l_X12_in_14 15 rfl c_0 ?_
      refine nw_ireturnZ l_X12_in_15 rfl (Or.inl rfl) ?_
      refine nw_if_ne l_X12_addsCrater_7 10 rfl (fun q => absurd q (by decide)) (fun _ => ?_)
      refine nw_aload_n l_X12_addsCrater_10 11 rfl rfl ?_
      refine nw_iconst (len := 0) l_X12_addsCrater_11 12 rfl c_1 ?_
      refine nw_call0 0 303 l_X12_addsCrater_12 rfl rfl g_X12_fails (Nat.lt_of_lt_of_le (by decide) hD) rfl (Or.inl ⟨_, rfl, k_303⟩) (ls' := [some (.inr (.inl (some 303))), some (.inl 1)]) rfl (st' := []) rfl 15 rfl ?_
      refine nw_aload_n l_X12_fails_0 1 rfl rfl ?_
      refine nw_iload_n l_X12_fails_1 2 rfl rfl ?_
      refine nw_putI l_X12_fails_2 5 rfl k_303 ?_
      refine nw_iconst (len := 0) l_X12_fails_5 6 rfl c_0 ?_
      refine nw_ireturn l_X12_fails_6 rfl ?_
      refine nw_ireturn l_X12_addsCrater_15 rfl ?_
      exact h
    · replace h := h.2 q2
      refine nw_iconst (len := 0) l_X12_in_10 11 rfl c_1 ?_
      refine nw_goto l_X12_in_11 ?_
      refine nw_ireturnZ l_X12_in_15 rfl (Or.inr rfl) ?_
      refine nw_if_ne l_X12_addsCrater_7 10 rfl (fun _ => ?_) (fun q => absurd q (by decide))
      refine nw_aload_n l_X12_addsCrater_16 17 rfl rfl ?_
      refine nw_getA l_X12_addsCrater_17 20 rfl k_303 r_303_0 ?_
      refine nw_iconst (len := 0) l_X12_addsCrater_20 21 rfl c_1 ?_
      refine nw_iald l_X12_addsCrater_21 22 rfl k_304 ⟨by decide, by decide⟩ (v := J 304 1) rfl ?_
      refine nw_bipush (len := 0) l_X12_addsCrater_22 24 rfl c_6 ?_
      refine nw_ic_ne l_X12_addsCrater_24 27 rfl (fun q3 => ?_) (fun q3 => ?_)
      · replace h := h.1 q3
        refine nw_aload_n l_X12_addsCrater_33 34 rfl rfl ?_
        refine nw_getA l_X12_addsCrater_34 37 rfl k_303 r_303_0 ?_
        refine nw_bipush (len := 0) l_X12_addsCrater_37 39 rfl c_10 ?_
        refine nw_aload_n l_X12_addsCrater_39 40 rfl rfl ?_
        refine nw_getA l_X12_addsCrater_40 43 rfl k_303 r_303_0 ?_
        refine nw_iconst (len := 0) l_X12_addsCrater_43 44 rfl c_1 ?_
        refine nw_iald l_X12_addsCrater_44 45 rfl k_304 ⟨by decide, by decide⟩ (v := J 304 1) rfl ?_
        have o4 := h.1
        replace h := h.2
        refine nw_iadd l_X12_addsCrater_45 46 rfl o4 ?_
        refine nw_iload_n l_X12_addsCrater_46 47 rfl rfl ?_
        have o5 := h.1
        replace h := h.2
        refine nw_iast l_X12_addsCrater_47 48 rfl k_304 o5 ?_
        refine nw_aload_n l_X12_addsCrater_48 49 rfl rfl ?_
        refine nw_getA l_X12_addsCrater_49 52 rfl k_303 r_303_0 ?_
        refine nw_iconst (len := 0) l_X12_addsCrater_52 53 rfl c_1 ?_
        refine nw_dup2 l_X12_addsCrater_53 54 rfl ?_
        refine nw_iald l_X12_addsCrater_54 55 rfl k_304 ⟨by decide, by decide⟩ (v := (nw_u J 304 (10 + (J 304 1)) x1) 304 1) rfl ?_
        refine nw_iconst (len := 0) l_X12_addsCrater_55 56 rfl c_1 ?_
        have o6 := h.1
        replace h := h.2
        refine nw_iadd l_X12_addsCrater_56 57 rfl o6 ?_
        refine nw_iast l_X12_addsCrater_57 58 rfl k_304 ⟨by decide, by decide⟩ ?_
        refine nw_aload_n l_X12_addsCrater_58 59 rfl rfl ?_
        refine nw_aload_n l_X12_addsCrater_59 60 rfl rfl ?_
        refine nw_getA l_X12_addsCrater_60 63 rfl k_303 r_303_0 ?_
        refine nw_iconst (len := 0) l_X12_addsCrater_63 64 rfl c_1 ?_
        refine nw_iald l_X12_addsCrater_64 65 rfl k_304 ⟨by decide, by decide⟩ (v := ((nw_u J 304 (10 + (J 304 1)) x1) 304 1) + 1) (show nw_u (nw_u J 304 (10 + (J 304 1)) x1) 304 1 (((nw_u J 304 (10 + (J 304 1)) x1) 304 1) + 1) 304 1 = ((nw_u J 304 (10 + (J 304 1)) x1) 304 1) + 1 from nw_uS) ?_
        refine nw_iconst (len := 0) l_X12_addsCrater_65 66 rfl c_1 ?_
        have o7 := h.1
        replace h := h.2
        refine nw_isub l_X12_addsCrater_66 67 rfl o7 ?_
        refine nw_call0 0 303 l_X12_addsCrater_67 rfl rfl g_X12_done (Nat.lt_of_lt_of_le (by decide) hD) rfl (Or.inl ⟨_, rfl, k_303⟩) (ls' := [some (.inr (.inl (some 303))), some (.inl ((((nw_u J 304 (10 + (J 304 1)) x1) 304 1) + 1) - 1))]) rfl (st' := []) rfl 70 rfl ?_
        refine nw_aload_n l_X12_done_0 1 rfl rfl ?_
        refine nw_iconst (len := 0) l_X12_done_1 2 rfl c_0 ?_
        refine nw_putI l_X12_done_2 5 rfl k_303 ?_
        refine nw_iload_n l_X12_done_5 6 rfl rfl ?_
        refine nw_ireturn l_X12_done_6 rfl ?_
        refine nw_ireturn l_X12_addsCrater_70 rfl ?_
        exact h
      · replace h := h.2 q3
        refine nw_aload_n l_X12_addsCrater_27 28 rfl rfl ?_
        refine nw_iconst (len := 0) l_X12_addsCrater_28 29 rfl c_2 ?_
        refine nw_call0 0 303 l_X12_addsCrater_29 rfl rfl g_X12_fails (Nat.lt_of_lt_of_le (by decide) hD) rfl (Or.inl ⟨_, rfl, k_303⟩) (ls' := [some (.inr (.inl (some 303))), some (.inl 2)]) rfl (st' := []) rfl 32 rfl ?_
        refine nw_aload_n l_X12_fails_0 1 rfl rfl ?_
        refine nw_iload_n l_X12_fails_1 2 rfl rfl ?_
        refine nw_putI l_X12_fails_2 5 rfl k_303 ?_
        refine nw_iconst (len := 0) l_X12_fails_5 6 rfl c_0 ?_
        refine nw_ireturn l_X12_fails_6 rfl ?_
        refine nw_ireturn l_X12_addsCrater_32 rfl ?_
        exact h
theorem b_X12_addsFerry_0 {x1 : Int} {x2 : Int} {x3 : Int} (hD : 2 ≤ D) (h : ((-2147483648 ≤ (J 304 1) - 1 ∧ (J 304 1) - 1 < 2147483648) ∧ ((x1 < 0 → Qr (some (.inl 0)) (nw_u J 303 13 1, L, W)) ∧ (0 ≤ x1 → (((J 304 1) - 1 < x1 → Qr (some (.inl 0)) (nw_u J 303 13 1, L, W)) ∧ (x1 ≤ (J 304 1) - 1 → ((x2 < 1 → Qr (some (.inl 0)) (nw_u J 303 13 2, L, W)) ∧ (1 ≤ x2 → ((12 < x2 → Qr (some (.inl 0)) (nw_u J 303 13 2, L, W)) ∧ (x2 ≤ 12 → ((x3 < 1 → Qr (some (.inl 0)) (nw_u J 303 13 2, L, W)) ∧ (1 ≤ x3 → ((99 < x3 → Qr (some (.inl 0)) (nw_u J 303 13 2, L, W)) ∧ (x3 ≤ 99 → ((¬ J 304 3 = 3 → ((-2147483648 ≤ 56 + (J 304 3) ∧ 56 + (J 304 3) < 2147483648) ∧ ((0 ≤ 56 + (J 304 3) ∧ 56 + (J 304 3) < 161) ∧ ((-2147483648 ≤ 65 + (J 304 3) ∧ 65 + (J 304 3) < 2147483648) ∧ ((0 ≤ 65 + (J 304 3) ∧ 65 + (J 304 3) < 161) ∧ ((-2147483648 ≤ 68 + (J 304 3) ∧ 68 + (J 304 3) < 2147483648) ∧ ((0 ≤ 68 + (J 304 3) ∧ 68 + (J 304 3) < 161) ∧ ((-2147483648 ≤ ((nw_u (nw_u (nw_u J 304 (56 + (J 304 3)) x1) 304 (65 + (J 304 3)) x2) 304 (68 + (J 304 3)) x3) 304 3) + 1 ∧ ((nw_u (nw_u (nw_u J 304 (56 + (J 304 3)) x1) 304 (65 + (J 304 3)) x2) 304 (68 + (J 304 3)) x3) 304 3) + 1 < 2147483648) ∧ Qr (some (.inl (J 304 3))) (nw_u (nw_u (nw_u (nw_u (nw_u J 304 (56 + (J 304 3)) x1) 304 (65 + (J 304 3)) x2) 304 (68 + (J 304 3)) x3) 304 3 (((nw_u (nw_u (nw_u J 304 (56 + (J 304 3)) x1) 304 (65 + (J 304 3)) x2) 304 (68 + (J 304 3)) x3) 304 3) + 1)) 303 13 0, L, W))))))))) ∧ (J 304 3 = 3 → Qr (some (.inl 0)) (nw_u J 303 13 3, L, W))))))))))))))))) :
    NW sc d_X12_addsFerry D (0, [some (.inr (.inl (some 303))), some (.inl x1), some (.inl x2), some (.inl x3), none], [], (J, L, W), c, sl) Qr Qx := by
  refine nw_aload_n l_X12_addsFerry_0 1 rfl rfl ?_
  refine nw_iload_n l_X12_addsFerry_1 2 rfl rfl ?_
  refine nw_call0 1 303 l_X12_addsFerry_2 rfl rfl g_X12_isCrater (Nat.lt_of_lt_of_le (by decide) hD) rfl (Or.inl ⟨_, rfl, k_303⟩) (ls' := [some (.inr (.inl (some 303))), some (.inl x1)]) rfl (st' := []) rfl 5 rfl ?_
  refine nw_iload_n l_X12_isCrater_0 1 rfl rfl ?_
  refine nw_iconst (len := 0) l_X12_isCrater_1 2 rfl c_0 ?_
  refine nw_aload_n l_X12_isCrater_2 3 rfl rfl ?_
  refine nw_getA l_X12_isCrater_3 6 rfl k_303 r_303_0 ?_
  refine nw_iconst (len := 0) l_X12_isCrater_6 7 rfl c_1 ?_
  refine nw_iald l_X12_isCrater_7 8 rfl k_304 ⟨by decide, by decide⟩ (v := J 304 1) rfl ?_
  refine nw_iconst (len := 0) l_X12_isCrater_8 9 rfl c_1 ?_
  have o1 := h.1
  replace h := h.2
  refine nw_isub l_X12_isCrater_9 10 rfl o1 ?_
  refine nw_call0 0 0 l_X12_isCrater_10 rfl rfl g_X12_in (by decide) rfl True.intro (ls' := [some (.inl x1), some (.inl 0), some (.inl ((J 304 1) - 1))]) rfl (st' := []) rfl 13 rfl ?_
  refine nw_iload_n l_X12_in_0 1 rfl rfl ?_
  refine nw_iload_n l_X12_in_1 2 rfl rfl ?_
  refine nw_ic_lt l_X12_in_2 5 rfl (fun q2 => ?_) (fun q2 => ?_)
  · replace h := h.1 q2
    refine nw_iconst (len := 0) l_X12_in_14 15 rfl c_0 ?_
    refine nw_ireturnZ l_X12_in_15 rfl (Or.inl rfl) ?_
    refine nw_ireturnZ l_X12_isCrater_13 rfl (Or.inl rfl) ?_
    refine nw_if_ne l_X12_addsFerry_5 8 rfl (fun q => absurd q (by decide)) (fun _ => ?_)
    refine nw_aload_n l_X12_addsFerry_8 9 rfl rfl ?_
    refine nw_iconst (len := 0) l_X12_addsFerry_9 10 rfl c_1 ?_
    refine nw_call0 0 303 l_X12_addsFerry_10 rfl rfl g_X12_fails (Nat.lt_of_lt_of_le (by decide) hD) rfl (Or.inl ⟨_, rfl, k_303⟩) (ls' := [some (.inr (.inl (some 303))), some (.inl 1)]) rfl (st' := []) rfl 13 rfl ?_
    refine nw_aload_n l_X12_fails_0 1 rfl rfl ?_
    refine nw_iload_n l_X12_fails_1 2 rfl rfl ?_
    refine nw_putI l_X12_fails_2 5 rfl k_303 ?_
    refine nw_iconst (len := 0) l_X12_fails_5 6 rfl c_0 ?_
    refine nw_ireturn l_X12_fails_6 rfl ?_
    refine nw_ireturn l_X12_addsFerry_13 rfl ?_
    exact h
  · replace h := h.2 q2
    refine nw_iload_n l_X12_in_5 6 rfl rfl ?_
    refine nw_iload_n l_X12_in_6 7 rfl rfl ?_
    refine nw_ic_gt l_X12_in_7 10 rfl (fun q3 => ?_) (fun q3 => ?_)
    · replace h := h.1 q3
      refine nw_iconst (len := 0) l_X12_in_14 15 rfl c_0 ?_
      refine nw_ireturnZ l_X12_in_15 rfl (Or.inl rfl) ?_
      refine nw_ireturnZ l_X12_isCrater_13 rfl (Or.inl rfl) ?_
      refine nw_if_ne l_X12_addsFerry_5 8 rfl (fun q => absurd q (by decide)) (fun _ => ?_)
      refine nw_aload_n l_X12_addsFerry_8 9 rfl rfl ?_
      refine nw_iconst (len := 0) l_X12_addsFerry_9 10 rfl c_1 ?_
      refine nw_call0 0 303 l_X12_addsFerry_10 rfl rfl g_X12_fails (Nat.lt_of_lt_of_le (by decide) hD) rfl (Or.inl ⟨_, rfl, k_303⟩) (ls' := [some (.inr (.inl (some 303))), some (.inl 1)]) rfl (st' := []) rfl 13 rfl ?_
      refine nw_aload_n l_X12_fails_0 1 rfl rfl ?_
      refine nw_iload_n l_X12_fails_1 2 rfl rfl ?_
      refine nw_putI l_X12_fails_2 5 rfl k_303 ?_
      refine nw_iconst (len := 0) l_X12_fails_5 6 rfl c_0 ?_
      refine nw_ireturn l_X12_fails_6 rfl ?_
      refine nw_ireturn l_X12_addsFerry_13 rfl ?_
      exact h
    · replace h := h.2 q3
      refine nw_iconst (len := 0) l_X12_in_10 11 rfl c_1 ?_
      refine nw_goto l_X12_in_11 ?_
      refine nw_ireturnZ l_X12_in_15 rfl (Or.inr rfl) ?_
      refine nw_ireturnZ l_X12_isCrater_13 rfl (Or.inr rfl) ?_
      refine nw_if_ne l_X12_addsFerry_5 8 rfl (fun _ => ?_) (fun q => absurd q (by decide))
      refine nw_iload_n l_X12_addsFerry_14 15 rfl rfl ?_
      refine nw_iconst (len := 0) l_X12_addsFerry_15 16 rfl c_1 ?_
      refine nw_bipush (len := 0) l_X12_addsFerry_16 18 rfl c_12 ?_
      refine nw_call0 0 0 l_X12_addsFerry_18 rfl rfl g_X12_in (Nat.lt_of_lt_of_le (by decide) hD) rfl True.intro (ls' := [some (.inl x2), some (.inl 1), some (.inl 12)]) rfl (st' := []) rfl 21 rfl ?_
      refine nw_iload_n l_X12_in_0 1 rfl rfl ?_
      refine nw_iload_n l_X12_in_1 2 rfl rfl ?_
      refine nw_ic_lt l_X12_in_2 5 rfl (fun q4 => ?_) (fun q4 => ?_)
      · replace h := h.1 q4
        refine nw_iconst (len := 0) l_X12_in_14 15 rfl c_0 ?_
        refine nw_ireturnZ l_X12_in_15 rfl (Or.inl rfl) ?_
        refine nw_if_eq l_X12_addsFerry_21 24 rfl (fun _ => ?_) (fun q => absurd q (by decide))
        refine nw_aload_n l_X12_addsFerry_34 35 rfl rfl ?_
        refine nw_iconst (len := 0) l_X12_addsFerry_35 36 rfl c_2 ?_
        refine nw_call0 0 303 l_X12_addsFerry_36 rfl rfl g_X12_fails (Nat.lt_of_lt_of_le (by decide) hD) rfl (Or.inl ⟨_, rfl, k_303⟩) (ls' := [some (.inr (.inl (some 303))), some (.inl 2)]) rfl (st' := []) rfl 39 rfl ?_
        refine nw_aload_n l_X12_fails_0 1 rfl rfl ?_
        refine nw_iload_n l_X12_fails_1 2 rfl rfl ?_
        refine nw_putI l_X12_fails_2 5 rfl k_303 ?_
        refine nw_iconst (len := 0) l_X12_fails_5 6 rfl c_0 ?_
        refine nw_ireturn l_X12_fails_6 rfl ?_
        refine nw_ireturn l_X12_addsFerry_39 rfl ?_
        exact h
      · replace h := h.2 q4
        refine nw_iload_n l_X12_in_5 6 rfl rfl ?_
        refine nw_iload_n l_X12_in_6 7 rfl rfl ?_
        refine nw_ic_gt l_X12_in_7 10 rfl (fun q5 => ?_) (fun q5 => ?_)
        · replace h := h.1 q5
          refine nw_iconst (len := 0) l_X12_in_14 15 rfl c_0 ?_
          refine nw_ireturnZ l_X12_in_15 rfl (Or.inl rfl) ?_
          refine nw_if_eq l_X12_addsFerry_21 24 rfl (fun _ => ?_) (fun q => absurd q (by decide))
          refine nw_aload_n l_X12_addsFerry_34 35 rfl rfl ?_
          refine nw_iconst (len := 0) l_X12_addsFerry_35 36 rfl c_2 ?_
          refine nw_call0 0 303 l_X12_addsFerry_36 rfl rfl g_X12_fails (Nat.lt_of_lt_of_le (by decide) hD) rfl (Or.inl ⟨_, rfl, k_303⟩) (ls' := [some (.inr (.inl (some 303))), some (.inl 2)]) rfl (st' := []) rfl 39 rfl ?_
          refine nw_aload_n l_X12_fails_0 1 rfl rfl ?_
          refine nw_iload_n l_X12_fails_1 2 rfl rfl ?_
          refine nw_putI l_X12_fails_2 5 rfl k_303 ?_
          refine nw_iconst (len := 0) l_X12_fails_5 6 rfl c_0 ?_
          refine nw_ireturn l_X12_fails_6 rfl ?_
          refine nw_ireturn l_X12_addsFerry_39 rfl ?_
          exact h
        · replace h := h.2 q5
          refine nw_iconst (len := 0) l_X12_in_10 11 rfl c_1 ?_
          refine nw_goto l_X12_in_11 ?_
          refine nw_ireturnZ l_X12_in_15 rfl (Or.inr rfl) ?_
          refine nw_if_eq l_X12_addsFerry_21 24 rfl (fun q => absurd q (by decide)) (fun _ => ?_)
          refine nw_iload_n l_X12_addsFerry_24 25 rfl rfl ?_
          refine nw_iconst (len := 0) l_X12_addsFerry_25 26 rfl c_1 ?_
          refine nw_bipush (len := 0) l_X12_addsFerry_26 28 rfl c_99 ?_
          refine nw_call0 0 0 l_X12_addsFerry_28 rfl rfl g_X12_in (Nat.lt_of_lt_of_le (by decide) hD) rfl True.intro (ls' := [some (.inl x3), some (.inl 1), some (.inl 99)]) rfl (st' := []) rfl 31 rfl ?_
          refine nw_iload_n l_X12_in_0 1 rfl rfl ?_
          refine nw_iload_n l_X12_in_1 2 rfl rfl ?_
          refine nw_ic_lt l_X12_in_2 5 rfl (fun q6 => ?_) (fun q6 => ?_)
          · replace h := h.1 q6
            refine nw_iconst (len := 0) l_X12_in_14 15 rfl c_0 ?_
            refine nw_ireturnZ l_X12_in_15 rfl (Or.inl rfl) ?_
            refine nw_if_ne l_X12_addsFerry_31 34 rfl (fun q => absurd q (by decide)) (fun _ => ?_)
            refine nw_aload_n l_X12_addsFerry_34 35 rfl rfl ?_
            refine nw_iconst (len := 0) l_X12_addsFerry_35 36 rfl c_2 ?_
            refine nw_call0 0 303 l_X12_addsFerry_36 rfl rfl g_X12_fails (Nat.lt_of_lt_of_le (by decide) hD) rfl (Or.inl ⟨_, rfl, k_303⟩) (ls' := [some (.inr (.inl (some 303))), some (.inl 2)]) rfl (st' := []) rfl 39 rfl ?_
            refine nw_aload_n l_X12_fails_0 1 rfl rfl ?_
            refine nw_iload_n l_X12_fails_1 2 rfl rfl ?_
            refine nw_putI l_X12_fails_2 5 rfl k_303 ?_
            refine nw_iconst (len := 0) l_X12_fails_5 6 rfl c_0 ?_
            refine nw_ireturn l_X12_fails_6 rfl ?_
            refine nw_ireturn l_X12_addsFerry_39 rfl ?_
            exact h
          · replace h := h.2 q6
            refine nw_iload_n l_X12_in_5 6 rfl rfl ?_
            refine nw_iload_n l_X12_in_6 7 rfl rfl ?_
            refine nw_ic_gt l_X12_in_7 10 rfl (fun q7 => ?_) (fun q7 => ?_)
            · replace h := h.1 q7
              refine nw_iconst (len := 0) l_X12_in_14 15 rfl c_0 ?_
              refine nw_ireturnZ l_X12_in_15 rfl (Or.inl rfl) ?_
              refine nw_if_ne l_X12_addsFerry_31 34 rfl (fun q => absurd q (by decide)) (fun _ => ?_)
              refine nw_aload_n l_X12_addsFerry_34 35 rfl rfl ?_
              refine nw_iconst (len := 0) l_X12_addsFerry_35 36 rfl c_2 ?_
              refine nw_call0 0 303 l_X12_addsFerry_36 rfl rfl g_X12_fails (Nat.lt_of_lt_of_le (by decide) hD) rfl (Or.inl ⟨_, rfl, k_303⟩) (ls' := [some (.inr (.inl (some 303))), some (.inl 2)]) rfl (st' := []) rfl 39 rfl ?_
              refine nw_aload_n l_X12_fails_0 1 rfl rfl ?_
              refine nw_iload_n l_X12_fails_1 2 rfl rfl ?_
              refine nw_putI l_X12_fails_2 5 rfl k_303 ?_
              refine nw_iconst (len := 0) l_X12_fails_5 6 rfl c_0 ?_
              refine nw_ireturn l_X12_fails_6 rfl ?_
              refine nw_ireturn l_X12_addsFerry_39 rfl ?_
              exact h
            · replace h := h.2 q7
              refine nw_iconst (len := 0) l_X12_in_10 11 rfl c_1 ?_
              refine nw_goto l_X12_in_11 ?_
              refine nw_ireturnZ l_X12_in_15 rfl (Or.inr rfl) ?_
              refine nw_if_ne l_X12_addsFerry_31 34 rfl (fun _ => ?_) (fun q => absurd q (by decide))
              refine nw_aload_n l_X12_addsFerry_40 41 rfl rfl ?_
              refine nw_getA l_X12_addsFerry_41 44 rfl k_303 r_303_0 ?_
              refine nw_iconst (len := 0) l_X12_addsFerry_44 45 rfl c_3 ?_
              refine nw_iald l_X12_addsFerry_45 46 rfl k_304 ⟨by decide, by decide⟩ (v := J 304 3) rfl ?_
              refine nw_istore l_X12_addsFerry_46 48 rfl rfl (ls' := [some (.inr (.inl (some 303))), some (.inl x1), some (.inl x2), some (.inl x3), some (.inl (J 304 3))]) rfl ?_
              refine nw_iload l_X12_addsFerry_48 50 rfl rfl ?_
              refine nw_iconst (len := 0) l_X12_addsFerry_50 51 rfl c_3 ?_
              refine nw_ic_ne l_X12_addsFerry_51 54 rfl (fun q8 => ?_) (fun q8 => ?_)
              · replace h := h.1 q8
                refine nw_aload_n l_X12_addsFerry_60 61 rfl rfl ?_
                refine nw_getA l_X12_addsFerry_61 64 rfl k_303 r_303_0 ?_
                refine nw_bipush (len := 0) l_X12_addsFerry_64 66 rfl c_56 ?_
                refine nw_iload l_X12_addsFerry_66 68 rfl rfl ?_
                have o9 := h.1
                replace h := h.2
                refine nw_iadd l_X12_addsFerry_68 69 rfl o9 ?_
                refine nw_iload_n l_X12_addsFerry_69 70 rfl rfl ?_
                have o10 := h.1
                replace h := h.2
                refine nw_iast l_X12_addsFerry_70 71 rfl k_304 o10 ?_
                refine nw_aload_n l_X12_addsFerry_71 72 rfl rfl ?_
                refine nw_getA l_X12_addsFerry_72 75 rfl k_303 r_303_0 ?_
                refine nw_bipush (len := 0) l_X12_addsFerry_75 77 rfl c_65 ?_
                refine nw_iload l_X12_addsFerry_77 79 rfl rfl ?_
                have o11 := h.1
                replace h := h.2
                refine nw_iadd l_X12_addsFerry_79 80 rfl o11 ?_
                refine nw_iload_n l_X12_addsFerry_80 81 rfl rfl ?_
                have o12 := h.1
                replace h := h.2
                refine nw_iast l_X12_addsFerry_81 82 rfl k_304 o12 ?_
                refine nw_aload_n l_X12_addsFerry_82 83 rfl rfl ?_
                refine nw_getA l_X12_addsFerry_83 86 rfl k_303 r_303_0 ?_
                refine nw_bipush (len := 0) l_X12_addsFerry_86 88 rfl c_68 ?_
                refine nw_iload l_X12_addsFerry_88 90 rfl rfl ?_
                have o13 := h.1
                replace h := h.2
                refine nw_iadd l_X12_addsFerry_90 91 rfl o13 ?_
                refine nw_iload_n l_X12_addsFerry_91 92 rfl rfl ?_
                have o14 := h.1
                replace h := h.2
                refine nw_iast l_X12_addsFerry_92 93 rfl k_304 o14 ?_
                refine nw_aload_n l_X12_addsFerry_93 94 rfl rfl ?_
                refine nw_getA l_X12_addsFerry_94 97 rfl k_303 r_303_0 ?_
                refine nw_iconst (len := 0) l_X12_addsFerry_97 98 rfl c_3 ?_
                refine nw_dup2 l_X12_addsFerry_98 99 rfl ?_
                refine nw_iald l_X12_addsFerry_99 100 rfl k_304 ⟨by decide, by decide⟩ (v := (nw_u (nw_u (nw_u J 304 (56 + (J 304 3)) x1) 304 (65 + (J 304 3)) x2) 304 (68 + (J 304 3)) x3) 304 3) rfl ?_
                refine nw_iconst (len := 0) l_X12_addsFerry_100 101 rfl c_1 ?_
                have o15 := h.1
                replace h := h.2
                refine nw_iadd l_X12_addsFerry_101 102 rfl o15 ?_
                refine nw_iast l_X12_addsFerry_102 103 rfl k_304 ⟨by decide, by decide⟩ ?_
                refine nw_aload_n l_X12_addsFerry_103 104 rfl rfl ?_
                refine nw_iload l_X12_addsFerry_104 106 rfl rfl ?_
                refine nw_call0 0 303 l_X12_addsFerry_106 rfl rfl g_X12_done (Nat.lt_of_lt_of_le (by decide) hD) rfl (Or.inl ⟨_, rfl, k_303⟩) (ls' := [some (.inr (.inl (some 303))), some (.inl (J 304 3))]) rfl (st' := []) rfl 109 rfl ?_
                refine nw_aload_n l_X12_done_0 1 rfl rfl ?_
                refine nw_iconst (len := 0) l_X12_done_1 2 rfl c_0 ?_
                refine nw_putI l_X12_done_2 5 rfl k_303 ?_
                refine nw_iload_n l_X12_done_5 6 rfl rfl ?_
                refine nw_ireturn l_X12_done_6 rfl ?_
                refine nw_ireturn l_X12_addsFerry_109 rfl ?_
                exact h
              · replace h := h.2 q8
                refine nw_aload_n l_X12_addsFerry_54 55 rfl rfl ?_
                refine nw_iconst (len := 0) l_X12_addsFerry_55 56 rfl c_3 ?_
                refine nw_call0 0 303 l_X12_addsFerry_56 rfl rfl g_X12_fails (Nat.lt_of_lt_of_le (by decide) hD) rfl (Or.inl ⟨_, rfl, k_303⟩) (ls' := [some (.inr (.inl (some 303))), some (.inl 3)]) rfl (st' := []) rfl 59 rfl ?_
                refine nw_aload_n l_X12_fails_0 1 rfl rfl ?_
                refine nw_iload_n l_X12_fails_1 2 rfl rfl ?_
                refine nw_putI l_X12_fails_2 5 rfl k_303 ?_
                refine nw_iconst (len := 0) l_X12_fails_5 6 rfl c_0 ?_
                refine nw_ireturn l_X12_fails_6 rfl ?_
                refine nw_ireturn l_X12_addsFerry_59 rfl ?_
                exact h
theorem b_X12_addsMoon_0 {x1 : Int} {x2 : Int} {x3 : Int} {x4 : Int} (hD : 3 ≤ D) (h : ((-2147483648 ≤ (J 304 1) - 1 ∧ (J 304 1) - 1 < 2147483648) ∧ ((x1 < 0 → Qr (some (.inl 0)) (nw_u J 303 13 1, L, W)) ∧ (0 ≤ x1 → (((J 304 1) - 1 < x1 → Qr (some (.inl 0)) (nw_u J 303 13 1, L, W)) ∧ (x1 ≤ (J 304 1) - 1 → ((x2 < 0 → Qr (some (.inl 0)) (nw_u J 303 13 1, L, W)) ∧ (0 ≤ x2 → (((J 304 1) - 1 < x2 → Qr (some (.inl 0)) (nw_u J 303 13 1, L, W)) ∧ (x2 ≤ (J 304 1) - 1 → ((x1 = x2 → Qr (some (.inl 0)) (nw_u J 303 13 2, L, W)) ∧ (¬ x1 = x2 → ((x3 < 1 → Qr (some (.inl 0)) (nw_u J 303 13 2, L, W)) ∧ (1 ≤ x3 → ((40 < x3 → Qr (some (.inl 0)) (nw_u J 303 13 2, L, W)) ∧ (x3 ≤ 40 → ((x4 < 0 → Qr (some (.inl 0)) (nw_u J 303 13 2, L, W)) ∧ (0 ≤ x4 → ((7 < x4 → Qr (some (.inl 0)) (nw_u J 303 13 2, L, W)) ∧ (x4 ≤ 7 → ((¬ J 304 4 = 10 → ((-2147483648 ≤ 71 + (J 304 4) ∧ 71 + (J 304 4) < 2147483648) ∧ ((0 ≤ 71 + (J 304 4) ∧ 71 + (J 304 4) < 161) ∧ ((-2147483648 ≤ 81 + (J 304 4) ∧ 81 + (J 304 4) < 2147483648) ∧ ((0 ≤ 81 + (J 304 4) ∧ 81 + (J 304 4) < 161) ∧ ((-2147483648 ≤ 91 + (J 304 4) ∧ 91 + (J 304 4) < 2147483648) ∧ ((0 ≤ 91 + (J 304 4) ∧ 91 + (J 304 4) < 161) ∧ ((-2147483648 ≤ 101 + (J 304 4) ∧ 101 + (J 304 4) < 2147483648) ∧ ((0 ≤ 101 + (J 304 4) ∧ 101 + (J 304 4) < 161) ∧ ((-2147483648 ≤ 111 + (J 304 4) ∧ 111 + (J 304 4) < 2147483648) ∧ ((0 ≤ 111 + (J 304 4) ∧ 111 + (J 304 4) < 161) ∧ ((-2147483648 ≤ 121 + (J 304 4) ∧ 121 + (J 304 4) < 2147483648) ∧ ((0 ≤ 121 + (J 304 4) ∧ 121 + (J 304 4) < 161) ∧ ((-2147483648 ≤ ((nw_u (nw_u (nw_u (nw_u (nw_u (nw_u J 304 (71 + (J 304 4)) (J 304 5)) 304 (81 + (J 304 4)) x1) 304 (91 + (J 304 4)) x2) 304 (101 + (J 304 4)) x3) 304 (111 + (J 304 4)) x4) 304 (121 + (J 304 4)) x1) 304 4) + 1 ∧ ((nw_u (nw_u (nw_u (nw_u (nw_u (nw_u J 304 (71 + (J 304 4)) (J 304 5)) 304 (81 + (J 304 4)) x1) 304 (91 + (J 304 4)) x2) 304 (101 + (J 304 4)) x3) 304 (111 + (J 304 4)) x4) 304 (121 + (J 304 4)) x1) 304 4) + 1 < 2147483648) ∧ ((-2147483648 ≤ ((nw_u (nw_u (nw_u (nw_u (nw_u (nw_u J 304 (71 + (J 304 4)) (J 304 5)) 304 (81 + (J 304 4)) x1) 304 (91 + (J 304 4)) x2) 304 (101 + (J 304 4)) x3) 304 (111 + (J 304 4)) x4) 304 (121 + (J 304 4)) x1) 304 5) + 1 ∧ ((nw_u (nw_u (nw_u (nw_u (nw_u (nw_u J 304 (71 + (J 304 4)) (J 304 5)) 304 (81 + (J 304 4)) x1) 304 (91 + (J 304 4)) x2) 304 (101 + (J 304 4)) x3) 304 (111 + (J 304 4)) x4) 304 (121 + (J 304 4)) x1) 304 5) + 1 < 2147483648) ∧ Qr (some (.inl ((nw_u (nw_u (nw_u (nw_u (nw_u (nw_u (nw_u (nw_u J 304 (71 + (J 304 4)) (J 304 5)) 304 (81 + (J 304 4)) x1) 304 (91 + (J 304 4)) x2) 304 (101 + (J 304 4)) x3) 304 (111 + (J 304 4)) x4) 304 (121 + (J 304 4)) x1) 304 4 (((nw_u (nw_u (nw_u (nw_u (nw_u (nw_u J 304 (71 + (J 304 4)) (J 304 5)) 304 (81 + (J 304 4)) x1) 304 (91 + (J 304 4)) x2) 304 (101 + (J 304 4)) x3) 304 (111 + (J 304 4)) x4) 304 (121 + (J 304 4)) x1) 304 4) + 1)) 304 5 (((nw_u (nw_u (nw_u (nw_u (nw_u (nw_u J 304 (71 + (J 304 4)) (J 304 5)) 304 (81 + (J 304 4)) x1) 304 (91 + (J 304 4)) x2) 304 (101 + (J 304 4)) x3) 304 (111 + (J 304 4)) x4) 304 (121 + (J 304 4)) x1) 304 5) + 1)) 304 (71 + (J 304 4))))) (nw_u (nw_u (nw_u (nw_u (nw_u (nw_u (nw_u (nw_u (nw_u J 304 (71 + (J 304 4)) (J 304 5)) 304 (81 + (J 304 4)) x1) 304 (91 + (J 304 4)) x2) 304 (101 + (J 304 4)) x3) 304 (111 + (J 304 4)) x4) 304 (121 + (J 304 4)) x1) 304 4 (((nw_u (nw_u (nw_u (nw_u (nw_u (nw_u J 304 (71 + (J 304 4)) (J 304 5)) 304 (81 + (J 304 4)) x1) 304 (91 + (J 304 4)) x2) 304 (101 + (J 304 4)) x3) 304 (111 + (J 304 4)) x4) 304 (121 + (J 304 4)) x1) 304 4) + 1)) 304 5 (((nw_u (nw_u (nw_u (nw_u (nw_u (nw_u J 304 (71 + (J 304 4)) (J 304 5)) 304 (81 + (J 304 4)) x1) 304 (91 + (J 304 4)) x2) 304 (101 + (J 304 4)) x3) 304 (111 + (J 304 4)) x4) 304 (121 + (J 304 4)) x1) 304 5) + 1)) 303 13 0, L, W)))))))))))))))) ∧ (J 304 4 = 10 → Qr (some (.inl 0)) (nw_u J 303 13 3, L, W))))))))))))))))))))))) :
    NW sc d_X12_addsMoon D (0, [some (.inr (.inl (some 303))), some (.inl x1), some (.inl x2), some (.inl x3), some (.inl x4), none], [], (J, L, W), c, sl) Qr Qx := by
  refine nw_aload_n l_X12_addsMoon_0 1 rfl rfl ?_
  refine nw_iload_n l_X12_addsMoon_1 2 rfl rfl ?_
  refine nw_iload_n l_X12_addsMoon_2 3 rfl rfl ?_
  refine nw_call0 2 303 l_X12_addsMoon_3 rfl rfl g_X12_areCraters (Nat.lt_of_lt_of_le (by decide) hD) rfl (Or.inl ⟨_, rfl, k_303⟩) (ls' := [some (.inr (.inl (some 303))), some (.inl x1), some (.inl x2)]) rfl (st' := []) rfl 6 rfl ?_
  refine nw_aload_n l_X12_areCraters_0 1 rfl rfl ?_
  refine nw_iload_n l_X12_areCraters_1 2 rfl rfl ?_
  refine nw_call0 1 303 l_X12_areCraters_2 rfl rfl g_X12_isCrater (by decide) rfl (Or.inl ⟨_, rfl, k_303⟩) (ls' := [some (.inr (.inl (some 303))), some (.inl x1)]) rfl (st' := []) rfl 5 rfl ?_
  refine nw_iload_n l_X12_isCrater_0 1 rfl rfl ?_
  refine nw_iconst (len := 0) l_X12_isCrater_1 2 rfl c_0 ?_
  refine nw_aload_n l_X12_isCrater_2 3 rfl rfl ?_
  refine nw_getA l_X12_isCrater_3 6 rfl k_303 r_303_0 ?_
  refine nw_iconst (len := 0) l_X12_isCrater_6 7 rfl c_1 ?_
  refine nw_iald l_X12_isCrater_7 8 rfl k_304 ⟨by decide, by decide⟩ (v := J 304 1) rfl ?_
  refine nw_iconst (len := 0) l_X12_isCrater_8 9 rfl c_1 ?_
  have o1 := h.1
  replace h := h.2
  refine nw_isub l_X12_isCrater_9 10 rfl o1 ?_
  refine nw_call0 0 0 l_X12_isCrater_10 rfl rfl g_X12_in (by decide) rfl True.intro (ls' := [some (.inl x1), some (.inl 0), some (.inl ((J 304 1) - 1))]) rfl (st' := []) rfl 13 rfl ?_
  refine nw_iload_n l_X12_in_0 1 rfl rfl ?_
  refine nw_iload_n l_X12_in_1 2 rfl rfl ?_
  refine nw_ic_lt l_X12_in_2 5 rfl (fun q2 => ?_) (fun q2 => ?_)
  · replace h := h.1 q2
    refine nw_iconst (len := 0) l_X12_in_14 15 rfl c_0 ?_
    refine nw_ireturnZ l_X12_in_15 rfl (Or.inl rfl) ?_
    refine nw_ireturnZ l_X12_isCrater_13 rfl (Or.inl rfl) ?_
    refine nw_if_eq l_X12_areCraters_5 8 rfl (fun _ => ?_) (fun q => absurd q (by decide))
    refine nw_iconst (len := 0) l_X12_areCraters_20 21 rfl c_0 ?_
    refine nw_ireturnZ l_X12_areCraters_21 rfl (Or.inl rfl) ?_
    refine nw_if_ne l_X12_addsMoon_6 9 rfl (fun q => absurd q (by decide)) (fun _ => ?_)
    refine nw_aload_n l_X12_addsMoon_9 10 rfl rfl ?_
    refine nw_iconst (len := 0) l_X12_addsMoon_10 11 rfl c_1 ?_
    refine nw_call0 0 303 l_X12_addsMoon_11 rfl rfl g_X12_fails (Nat.lt_of_lt_of_le (by decide) hD) rfl (Or.inl ⟨_, rfl, k_303⟩) (ls' := [some (.inr (.inl (some 303))), some (.inl 1)]) rfl (st' := []) rfl 14 rfl ?_
    refine nw_aload_n l_X12_fails_0 1 rfl rfl ?_
    refine nw_iload_n l_X12_fails_1 2 rfl rfl ?_
    refine nw_putI l_X12_fails_2 5 rfl k_303 ?_
    refine nw_iconst (len := 0) l_X12_fails_5 6 rfl c_0 ?_
    refine nw_ireturn l_X12_fails_6 rfl ?_
    refine nw_ireturn l_X12_addsMoon_14 rfl ?_
    exact h
  · replace h := h.2 q2
    refine nw_iload_n l_X12_in_5 6 rfl rfl ?_
    refine nw_iload_n l_X12_in_6 7 rfl rfl ?_
    refine nw_ic_gt l_X12_in_7 10 rfl (fun q3 => ?_) (fun q3 => ?_)
    · replace h := h.1 q3
      refine nw_iconst (len := 0) l_X12_in_14 15 rfl c_0 ?_
      refine nw_ireturnZ l_X12_in_15 rfl (Or.inl rfl) ?_
      refine nw_ireturnZ l_X12_isCrater_13 rfl (Or.inl rfl) ?_
      refine nw_if_eq l_X12_areCraters_5 8 rfl (fun _ => ?_) (fun q => absurd q (by decide))
      refine nw_iconst (len := 0) l_X12_areCraters_20 21 rfl c_0 ?_
      refine nw_ireturnZ l_X12_areCraters_21 rfl (Or.inl rfl) ?_
      refine nw_if_ne l_X12_addsMoon_6 9 rfl (fun q => absurd q (by decide)) (fun _ => ?_)
      refine nw_aload_n l_X12_addsMoon_9 10 rfl rfl ?_
      refine nw_iconst (len := 0) l_X12_addsMoon_10 11 rfl c_1 ?_
      refine nw_call0 0 303 l_X12_addsMoon_11 rfl rfl g_X12_fails (Nat.lt_of_lt_of_le (by decide) hD) rfl (Or.inl ⟨_, rfl, k_303⟩) (ls' := [some (.inr (.inl (some 303))), some (.inl 1)]) rfl (st' := []) rfl 14 rfl ?_
      refine nw_aload_n l_X12_fails_0 1 rfl rfl ?_
      refine nw_iload_n l_X12_fails_1 2 rfl rfl ?_
      refine nw_putI l_X12_fails_2 5 rfl k_303 ?_
      refine nw_iconst (len := 0) l_X12_fails_5 6 rfl c_0 ?_
      refine nw_ireturn l_X12_fails_6 rfl ?_
      refine nw_ireturn l_X12_addsMoon_14 rfl ?_
      exact h
    · replace h := h.2 q3
      refine nw_iconst (len := 0) l_X12_in_10 11 rfl c_1 ?_
      refine nw_goto l_X12_in_11 ?_
      refine nw_ireturnZ l_X12_in_15 rfl (Or.inr rfl) ?_
      refine nw_ireturnZ l_X12_isCrater_13 rfl (Or.inr rfl) ?_
      refine nw_if_eq l_X12_areCraters_5 8 rfl (fun q => absurd q (by decide)) (fun _ => ?_)
      refine nw_aload_n l_X12_areCraters_8 9 rfl rfl ?_
      refine nw_iload_n l_X12_areCraters_9 10 rfl rfl ?_
      refine nw_call0 1 303 l_X12_areCraters_10 rfl rfl g_X12_isCrater (by decide) rfl (Or.inl ⟨_, rfl, k_303⟩) (ls' := [some (.inr (.inl (some 303))), some (.inl x2)]) rfl (st' := []) rfl 13 rfl ?_
      refine nw_iload_n l_X12_isCrater_0 1 rfl rfl ?_
      refine nw_iconst (len := 0) l_X12_isCrater_1 2 rfl c_0 ?_
      refine nw_aload_n l_X12_isCrater_2 3 rfl rfl ?_
      refine nw_getA l_X12_isCrater_3 6 rfl k_303 r_303_0 ?_
      refine nw_iconst (len := 0) l_X12_isCrater_6 7 rfl c_1 ?_
      refine nw_iald l_X12_isCrater_7 8 rfl k_304 ⟨by decide, by decide⟩ (v := J 304 1) rfl ?_
      refine nw_iconst (len := 0) l_X12_isCrater_8 9 rfl c_1 ?_
      refine nw_isub l_X12_isCrater_9 10 rfl o1 ?_
      refine nw_call0 0 0 l_X12_isCrater_10 rfl rfl g_X12_in (by decide) rfl True.intro (ls' := [some (.inl x2), some (.inl 0), some (.inl ((J 304 1) - 1))]) rfl (st' := []) rfl 13 rfl ?_
      refine nw_iload_n l_X12_in_0 1 rfl rfl ?_
      refine nw_iload_n l_X12_in_1 2 rfl rfl ?_
      refine nw_ic_lt l_X12_in_2 5 rfl (fun q4 => ?_) (fun q4 => ?_)
      · replace h := h.1 q4
        refine nw_iconst (len := 0) l_X12_in_14 15 rfl c_0 ?_
        refine nw_ireturnZ l_X12_in_15 rfl (Or.inl rfl) ?_
        refine nw_ireturnZ l_X12_isCrater_13 rfl (Or.inl rfl) ?_
        refine nw_if_eq l_X12_areCraters_13 16 rfl (fun _ => ?_) (fun q => absurd q (by decide))
        refine nw_iconst (len := 0) l_X12_areCraters_20 21 rfl c_0 ?_
        refine nw_ireturnZ l_X12_areCraters_21 rfl (Or.inl rfl) ?_
        refine nw_if_ne l_X12_addsMoon_6 9 rfl (fun q => absurd q (by decide)) (fun _ => ?_)
        refine nw_aload_n l_X12_addsMoon_9 10 rfl rfl ?_
        refine nw_iconst (len := 0) l_X12_addsMoon_10 11 rfl c_1 ?_
        refine nw_call0 0 303 l_X12_addsMoon_11 rfl rfl g_X12_fails (Nat.lt_of_lt_of_le (by decide) hD) rfl (Or.inl ⟨_, rfl, k_303⟩) (ls' := [some (.inr (.inl (some 303))), some (.inl 1)]) rfl (st' := []) rfl 14 rfl ?_
        refine nw_aload_n l_X12_fails_0 1 rfl rfl ?_
        refine nw_iload_n l_X12_fails_1 2 rfl rfl ?_
        refine nw_putI l_X12_fails_2 5 rfl k_303 ?_
        refine nw_iconst (len := 0) l_X12_fails_5 6 rfl c_0 ?_
        refine nw_ireturn l_X12_fails_6 rfl ?_
        refine nw_ireturn l_X12_addsMoon_14 rfl ?_
        exact h
      · replace h := h.2 q4
        refine nw_iload_n l_X12_in_5 6 rfl rfl ?_
        refine nw_iload_n l_X12_in_6 7 rfl rfl ?_
        refine nw_ic_gt l_X12_in_7 10 rfl (fun q5 => ?_) (fun q5 => ?_)
        · replace h := h.1 q5
          refine nw_iconst (len := 0) l_X12_in_14 15 rfl c_0 ?_
          refine nw_ireturnZ l_X12_in_15 rfl (Or.inl rfl) ?_
          refine nw_ireturnZ l_X12_isCrater_13 rfl (Or.inl rfl) ?_
          refine nw_if_eq l_X12_areCraters_13 16 rfl (fun _ => ?_) (fun q => absurd q (by decide))
          refine nw_iconst (len := 0) l_X12_areCraters_20 21 rfl c_0 ?_
          refine nw_ireturnZ l_X12_areCraters_21 rfl (Or.inl rfl) ?_
          refine nw_if_ne l_X12_addsMoon_6 9 rfl (fun q => absurd q (by decide)) (fun _ => ?_)
          refine nw_aload_n l_X12_addsMoon_9 10 rfl rfl ?_
          refine nw_iconst (len := 0) l_X12_addsMoon_10 11 rfl c_1 ?_
          refine nw_call0 0 303 l_X12_addsMoon_11 rfl rfl g_X12_fails (Nat.lt_of_lt_of_le (by decide) hD) rfl (Or.inl ⟨_, rfl, k_303⟩) (ls' := [some (.inr (.inl (some 303))), some (.inl 1)]) rfl (st' := []) rfl 14 rfl ?_
          refine nw_aload_n l_X12_fails_0 1 rfl rfl ?_
          refine nw_iload_n l_X12_fails_1 2 rfl rfl ?_
          refine nw_putI l_X12_fails_2 5 rfl k_303 ?_
          refine nw_iconst (len := 0) l_X12_fails_5 6 rfl c_0 ?_
          refine nw_ireturn l_X12_fails_6 rfl ?_
          refine nw_ireturn l_X12_addsMoon_14 rfl ?_
          exact h
        · replace h := h.2 q5
          refine nw_iconst (len := 0) l_X12_in_10 11 rfl c_1 ?_
          refine nw_goto l_X12_in_11 ?_
          refine nw_ireturnZ l_X12_in_15 rfl (Or.inr rfl) ?_
          refine nw_ireturnZ l_X12_isCrater_13 rfl (Or.inr rfl) ?_
          refine nw_if_eq l_X12_areCraters_13 16 rfl (fun q => absurd q (by decide)) (fun _ => ?_)
          refine nw_iconst (len := 0) l_X12_areCraters_16 17 rfl c_1 ?_
          refine nw_goto l_X12_areCraters_17 ?_
          refine nw_ireturnZ l_X12_areCraters_21 rfl (Or.inr rfl) ?_
          refine nw_if_ne l_X12_addsMoon_6 9 rfl (fun _ => ?_) (fun q => absurd q (by decide))
          refine nw_iload_n l_X12_addsMoon_15 16 rfl rfl ?_
          refine nw_iload_n l_X12_addsMoon_16 17 rfl rfl ?_
          refine nw_ic_eq l_X12_addsMoon_17 20 rfl (fun q6 => ?_) (fun q6 => ?_)
          · replace h := h.1 q6
            refine nw_aload_n l_X12_addsMoon_41 42 rfl rfl ?_
            refine nw_iconst (len := 0) l_X12_addsMoon_42 43 rfl c_2 ?_
            refine nw_call0 0 303 l_X12_addsMoon_43 rfl rfl g_X12_fails (Nat.lt_of_lt_of_le (by decide) hD) rfl (Or.inl ⟨_, rfl, k_303⟩) (ls' := [some (.inr (.inl (some 303))), some (.inl 2)]) rfl (st' := []) rfl 46 rfl ?_
            refine nw_aload_n l_X12_fails_0 1 rfl rfl ?_
            refine nw_iload_n l_X12_fails_1 2 rfl rfl ?_
            refine nw_putI l_X12_fails_2 5 rfl k_303 ?_
            refine nw_iconst (len := 0) l_X12_fails_5 6 rfl c_0 ?_
            refine nw_ireturn l_X12_fails_6 rfl ?_
            refine nw_ireturn l_X12_addsMoon_46 rfl ?_
            exact h
          · replace h := h.2 q6
            refine nw_iload_n l_X12_addsMoon_20 21 rfl rfl ?_
            refine nw_iconst (len := 0) l_X12_addsMoon_21 22 rfl c_1 ?_
            refine nw_bipush (len := 0) l_X12_addsMoon_22 24 rfl c_40 ?_
            refine nw_call0 0 0 l_X12_addsMoon_24 rfl rfl g_X12_in (Nat.lt_of_lt_of_le (by decide) hD) rfl True.intro (ls' := [some (.inl x3), some (.inl 1), some (.inl 40)]) rfl (st' := []) rfl 27 rfl ?_
            refine nw_iload_n l_X12_in_0 1 rfl rfl ?_
            refine nw_iload_n l_X12_in_1 2 rfl rfl ?_
            refine nw_ic_lt l_X12_in_2 5 rfl (fun q7 => ?_) (fun q7 => ?_)
            · replace h := h.1 q7
              refine nw_iconst (len := 0) l_X12_in_14 15 rfl c_0 ?_
              refine nw_ireturnZ l_X12_in_15 rfl (Or.inl rfl) ?_
              refine nw_if_eq l_X12_addsMoon_27 30 rfl (fun _ => ?_) (fun q => absurd q (by decide))
              refine nw_aload_n l_X12_addsMoon_41 42 rfl rfl ?_
              refine nw_iconst (len := 0) l_X12_addsMoon_42 43 rfl c_2 ?_
              refine nw_call0 0 303 l_X12_addsMoon_43 rfl rfl g_X12_fails (Nat.lt_of_lt_of_le (by decide) hD) rfl (Or.inl ⟨_, rfl, k_303⟩) (ls' := [some (.inr (.inl (some 303))), some (.inl 2)]) rfl (st' := []) rfl 46 rfl ?_
              refine nw_aload_n l_X12_fails_0 1 rfl rfl ?_
              refine nw_iload_n l_X12_fails_1 2 rfl rfl ?_
              refine nw_putI l_X12_fails_2 5 rfl k_303 ?_
              refine nw_iconst (len := 0) l_X12_fails_5 6 rfl c_0 ?_
              refine nw_ireturn l_X12_fails_6 rfl ?_
              refine nw_ireturn l_X12_addsMoon_46 rfl ?_
              exact h
            · replace h := h.2 q7
              refine nw_iload_n l_X12_in_5 6 rfl rfl ?_
              refine nw_iload_n l_X12_in_6 7 rfl rfl ?_
              refine nw_ic_gt l_X12_in_7 10 rfl (fun q8 => ?_) (fun q8 => ?_)
              · replace h := h.1 q8
                refine nw_iconst (len := 0) l_X12_in_14 15 rfl c_0 ?_
                refine nw_ireturnZ l_X12_in_15 rfl (Or.inl rfl) ?_
                refine nw_if_eq l_X12_addsMoon_27 30 rfl (fun _ => ?_) (fun q => absurd q (by decide))
                refine nw_aload_n l_X12_addsMoon_41 42 rfl rfl ?_
                refine nw_iconst (len := 0) l_X12_addsMoon_42 43 rfl c_2 ?_
                refine nw_call0 0 303 l_X12_addsMoon_43 rfl rfl g_X12_fails (Nat.lt_of_lt_of_le (by decide) hD) rfl (Or.inl ⟨_, rfl, k_303⟩) (ls' := [some (.inr (.inl (some 303))), some (.inl 2)]) rfl (st' := []) rfl 46 rfl ?_
                refine nw_aload_n l_X12_fails_0 1 rfl rfl ?_
                refine nw_iload_n l_X12_fails_1 2 rfl rfl ?_
                refine nw_putI l_X12_fails_2 5 rfl k_303 ?_
                refine nw_iconst (len := 0) l_X12_fails_5 6 rfl c_0 ?_
                refine nw_ireturn l_X12_fails_6 rfl ?_
                refine nw_ireturn l_X12_addsMoon_46 rfl ?_
                exact h
              · replace h := h.2 q8
                refine nw_iconst (len := 0) l_X12_in_10 11 rfl c_1 ?_
                refine nw_goto l_X12_in_11 ?_
                refine nw_ireturnZ l_X12_in_15 rfl (Or.inr rfl) ?_
                refine nw_if_eq l_X12_addsMoon_27 30 rfl (fun q => absurd q (by decide)) (fun _ => ?_)
                refine nw_iload l_X12_addsMoon_30 32 rfl rfl ?_
                refine nw_iconst (len := 0) l_X12_addsMoon_32 33 rfl c_0 ?_
                refine nw_bipush (len := 0) l_X12_addsMoon_33 35 rfl c_7 ?_
                refine nw_call0 0 0 l_X12_addsMoon_35 rfl rfl g_X12_in (Nat.lt_of_lt_of_le (by decide) hD) rfl True.intro (ls' := [some (.inl x4), some (.inl 0), some (.inl 7)]) rfl (st' := []) rfl 38 rfl ?_
                refine nw_iload_n l_X12_in_0 1 rfl rfl ?_
                refine nw_iload_n l_X12_in_1 2 rfl rfl ?_
                refine nw_ic_lt l_X12_in_2 5 rfl (fun q9 => ?_) (fun q9 => ?_)
                · replace h := h.1 q9
                  refine nw_iconst (len := 0) l_X12_in_14 15 rfl c_0 ?_
                  refine nw_ireturnZ l_X12_in_15 rfl (Or.inl rfl) ?_
                  refine nw_if_ne l_X12_addsMoon_38 41 rfl (fun q => absurd q (by decide)) (fun _ => ?_)
                  refine nw_aload_n l_X12_addsMoon_41 42 rfl rfl ?_
                  refine nw_iconst (len := 0) l_X12_addsMoon_42 43 rfl c_2 ?_
                  refine nw_call0 0 303 l_X12_addsMoon_43 rfl rfl g_X12_fails (Nat.lt_of_lt_of_le (by decide) hD) rfl (Or.inl ⟨_, rfl, k_303⟩) (ls' := [some (.inr (.inl (some 303))), some (.inl 2)]) rfl (st' := []) rfl 46 rfl ?_
                  refine nw_aload_n l_X12_fails_0 1 rfl rfl ?_
                  refine nw_iload_n l_X12_fails_1 2 rfl rfl ?_
                  refine nw_putI l_X12_fails_2 5 rfl k_303 ?_
                  refine nw_iconst (len := 0) l_X12_fails_5 6 rfl c_0 ?_
                  refine nw_ireturn l_X12_fails_6 rfl ?_
                  refine nw_ireturn l_X12_addsMoon_46 rfl ?_
                  exact h
                · replace h := h.2 q9
                  refine nw_iload_n l_X12_in_5 6 rfl rfl ?_
                  refine nw_iload_n l_X12_in_6 7 rfl rfl ?_
                  refine nw_ic_gt l_X12_in_7 10 rfl (fun q10 => ?_) (fun q10 => ?_)
                  · replace h := h.1 q10
                    refine nw_iconst (len := 0) l_X12_in_14 15 rfl c_0 ?_
                    refine nw_ireturnZ l_X12_in_15 rfl (Or.inl rfl) ?_
                    refine nw_if_ne l_X12_addsMoon_38 41 rfl (fun q => absurd q (by decide)) (fun _ => ?_)
                    refine nw_aload_n l_X12_addsMoon_41 42 rfl rfl ?_
                    refine nw_iconst (len := 0) l_X12_addsMoon_42 43 rfl c_2 ?_
                    refine nw_call0 0 303 l_X12_addsMoon_43 rfl rfl g_X12_fails (Nat.lt_of_lt_of_le (by decide) hD) rfl (Or.inl ⟨_, rfl, k_303⟩) (ls' := [some (.inr (.inl (some 303))), some (.inl 2)]) rfl (st' := []) rfl 46 rfl ?_
                    refine nw_aload_n l_X12_fails_0 1 rfl rfl ?_
                    refine nw_iload_n l_X12_fails_1 2 rfl rfl ?_
                    refine nw_putI l_X12_fails_2 5 rfl k_303 ?_
                    refine nw_iconst (len := 0) l_X12_fails_5 6 rfl c_0 ?_
                    refine nw_ireturn l_X12_fails_6 rfl ?_
                    refine nw_ireturn l_X12_addsMoon_46 rfl ?_
                    exact h
                  · replace h := h.2 q10
                    refine nw_iconst (len := 0) l_X12_in_10 11 rfl c_1 ?_
                    refine nw_goto l_X12_in_11 ?_
                    refine nw_ireturnZ l_X12_in_15 rfl (Or.inr rfl) ?_
                    refine nw_if_ne l_X12_addsMoon_38 41 rfl (fun _ => ?_) (fun q => absurd q (by decide))
                    refine nw_aload_n l_X12_addsMoon_47 48 rfl rfl ?_
                    refine nw_getA l_X12_addsMoon_48 51 rfl k_303 r_303_0 ?_
                    refine nw_iconst (len := 0) l_X12_addsMoon_51 52 rfl c_4 ?_
                    refine nw_iald l_X12_addsMoon_52 53 rfl k_304 ⟨by decide, by decide⟩ (v := J 304 4) rfl ?_
                    refine nw_istore l_X12_addsMoon_53 55 rfl rfl (ls' := [some (.inr (.inl (some 303))), some (.inl x1), some (.inl x2), some (.inl x3), some (.inl x4), some (.inl (J 304 4))]) rfl ?_
                    refine nw_iload l_X12_addsMoon_55 57 rfl rfl ?_
                    refine nw_bipush (len := 0) l_X12_addsMoon_57 59 rfl c_10 ?_
                    refine nw_ic_ne l_X12_addsMoon_59 62 rfl (fun q11 => ?_) (fun q11 => ?_)
                    · replace h := h.1 q11
                      refine nw_aload_n l_X12_addsMoon_68 69 rfl rfl ?_
                      refine nw_getA l_X12_addsMoon_69 72 rfl k_303 r_303_0 ?_
                      refine nw_bipush (len := 0) l_X12_addsMoon_72 74 rfl c_71 ?_
                      refine nw_iload l_X12_addsMoon_74 76 rfl rfl ?_
                      have o12 := h.1
                      replace h := h.2
                      refine nw_iadd l_X12_addsMoon_76 77 rfl o12 ?_
                      refine nw_aload_n l_X12_addsMoon_77 78 rfl rfl ?_
                      refine nw_getA l_X12_addsMoon_78 81 rfl k_303 r_303_0 ?_
                      refine nw_iconst (len := 0) l_X12_addsMoon_81 82 rfl c_5 ?_
                      refine nw_iald l_X12_addsMoon_82 83 rfl k_304 ⟨by decide, by decide⟩ (v := J 304 5) rfl ?_
                      have o13 := h.1
                      replace h := h.2
                      refine nw_iast l_X12_addsMoon_83 84 rfl k_304 o13 ?_
                      refine nw_aload_n l_X12_addsMoon_84 85 rfl rfl ?_
                      refine nw_getA l_X12_addsMoon_85 88 rfl k_303 r_303_0 ?_
                      refine nw_bipush (len := 0) l_X12_addsMoon_88 90 rfl c_81 ?_
                      refine nw_iload l_X12_addsMoon_90 92 rfl rfl ?_
                      have o14 := h.1
                      replace h := h.2
                      refine nw_iadd l_X12_addsMoon_92 93 rfl o14 ?_
                      refine nw_iload_n l_X12_addsMoon_93 94 rfl rfl ?_
                      have o15 := h.1
                      replace h := h.2
                      refine nw_iast l_X12_addsMoon_94 95 rfl k_304 o15 ?_
                      refine nw_aload_n l_X12_addsMoon_95 96 rfl rfl ?_
                      refine nw_getA l_X12_addsMoon_96 99 rfl k_303 r_303_0 ?_
                      refine nw_bipush (len := 0) l_X12_addsMoon_99 101 rfl c_91 ?_
                      refine nw_iload l_X12_addsMoon_101 103 rfl rfl ?_
                      have o16 := h.1
                      replace h := h.2
                      refine nw_iadd l_X12_addsMoon_103 104 rfl o16 ?_
                      refine nw_iload_n l_X12_addsMoon_104 105 rfl rfl ?_
                      have o17 := h.1
                      replace h := h.2
                      refine nw_iast l_X12_addsMoon_105 106 rfl k_304 o17 ?_
                      refine nw_aload_n l_X12_addsMoon_106 107 rfl rfl ?_
                      refine nw_getA l_X12_addsMoon_107 110 rfl k_303 r_303_0 ?_
                      refine nw_bipush (len := 0) l_X12_addsMoon_110 112 rfl c_101 ?_
                      refine nw_iload l_X12_addsMoon_112 114 rfl rfl ?_
                      have o18 := h.1
                      replace h := h.2
                      refine nw_iadd l_X12_addsMoon_114 115 rfl o18 ?_
                      refine nw_iload_n l_X12_addsMoon_115 116 rfl rfl ?_
                      have o19 := h.1
                      replace h := h.2
                      refine nw_iast l_X12_addsMoon_116 117 rfl k_304 o19 ?_
                      refine nw_aload_n l_X12_addsMoon_117 118 rfl rfl ?_
                      refine nw_getA l_X12_addsMoon_118 121 rfl k_303 r_303_0 ?_
                      refine nw_bipush (len := 0) l_X12_addsMoon_121 123 rfl c_111 ?_
                      refine nw_iload l_X12_addsMoon_123 125 rfl rfl ?_
                      have o20 := h.1
                      replace h := h.2
                      refine nw_iadd l_X12_addsMoon_125 126 rfl o20 ?_
                      refine nw_iload l_X12_addsMoon_126 128 rfl rfl ?_
                      have o21 := h.1
                      replace h := h.2
                      refine nw_iast l_X12_addsMoon_128 129 rfl k_304 o21 ?_
                      refine nw_aload_n l_X12_addsMoon_129 130 rfl rfl ?_
                      refine nw_getA l_X12_addsMoon_130 133 rfl k_303 r_303_0 ?_
                      refine nw_bipush (len := 0) l_X12_addsMoon_133 135 rfl c_121 ?_
                      refine nw_iload l_X12_addsMoon_135 137 rfl rfl ?_
                      have o22 := h.1
                      replace h := h.2
                      refine nw_iadd l_X12_addsMoon_137 138 rfl o22 ?_
                      refine nw_iload_n l_X12_addsMoon_138 139 rfl rfl ?_
                      have o23 := h.1
                      replace h := h.2
                      refine nw_iast l_X12_addsMoon_139 140 rfl k_304 o23 ?_
                      refine nw_aload_n l_X12_addsMoon_140 141 rfl rfl ?_
                      refine nw_getA l_X12_addsMoon_141 144 rfl k_303 r_303_0 ?_
                      refine nw_iconst (len := 0) l_X12_addsMoon_144 145 rfl c_4 ?_
                      refine nw_dup2 l_X12_addsMoon_145 146 rfl ?_
                      refine nw_iald l_X12_addsMoon_146 147 rfl k_304 ⟨by decide, by decide⟩ (v := (nw_u (nw_u (nw_u (nw_u (nw_u (nw_u J 304 (71 + (J 304 4)) (J 304 5)) 304 (81 + (J 304 4)) x1) 304 (91 + (J 304 4)) x2) 304 (101 + (J 304 4)) x3) 304 (111 + (J 304 4)) x4) 304 (121 + (J 304 4)) x1) 304 4) rfl ?_
                      refine nw_iconst (len := 0) l_X12_addsMoon_147 148 rfl c_1 ?_
                      have o24 := h.1
                      replace h := h.2
                      refine nw_iadd l_X12_addsMoon_148 149 rfl o24 ?_
                      refine nw_iast l_X12_addsMoon_149 150 rfl k_304 ⟨by decide, by decide⟩ ?_
                      refine nw_aload_n l_X12_addsMoon_150 151 rfl rfl ?_
                      refine nw_getA l_X12_addsMoon_151 154 rfl k_303 r_303_0 ?_
                      refine nw_iconst (len := 0) l_X12_addsMoon_154 155 rfl c_5 ?_
                      refine nw_dup2 l_X12_addsMoon_155 156 rfl ?_
                      refine nw_iald l_X12_addsMoon_156 157 rfl k_304 ⟨by decide, by decide⟩ (v := (nw_u (nw_u (nw_u (nw_u (nw_u (nw_u J 304 (71 + (J 304 4)) (J 304 5)) 304 (81 + (J 304 4)) x1) 304 (91 + (J 304 4)) x2) 304 (101 + (J 304 4)) x3) 304 (111 + (J 304 4)) x4) 304 (121 + (J 304 4)) x1) 304 5) (show nw_u (nw_u (nw_u (nw_u (nw_u (nw_u (nw_u J 304 (71 + (J 304 4)) (J 304 5)) 304 (81 + (J 304 4)) x1) 304 (91 + (J 304 4)) x2) 304 (101 + (J 304 4)) x3) 304 (111 + (J 304 4)) x4) 304 (121 + (J 304 4)) x1) 304 4 (((nw_u (nw_u (nw_u (nw_u (nw_u (nw_u J 304 (71 + (J 304 4)) (J 304 5)) 304 (81 + (J 304 4)) x1) 304 (91 + (J 304 4)) x2) 304 (101 + (J 304 4)) x3) 304 (111 + (J 304 4)) x4) 304 (121 + (J 304 4)) x1) 304 4) + 1) 304 5 = (nw_u (nw_u (nw_u (nw_u (nw_u (nw_u J 304 (71 + (J 304 4)) (J 304 5)) 304 (81 + (J 304 4)) x1) 304 (91 + (J 304 4)) x2) 304 (101 + (J 304 4)) x3) 304 (111 + (J 304 4)) x4) 304 (121 + (J 304 4)) x1) 304 5 from (nw_uI (i := 4) (j := 5) (by decide))) ?_
                      refine nw_iconst (len := 0) l_X12_addsMoon_157 158 rfl c_1 ?_
                      have o25 := h.1
                      replace h := h.2
                      refine nw_iadd l_X12_addsMoon_158 159 rfl o25 ?_
                      refine nw_iast l_X12_addsMoon_159 160 rfl k_304 ⟨by decide, by decide⟩ ?_
                      refine nw_aload_n l_X12_addsMoon_160 161 rfl rfl ?_
                      refine nw_aload_n l_X12_addsMoon_161 162 rfl rfl ?_
                      refine nw_getA l_X12_addsMoon_162 165 rfl k_303 r_303_0 ?_
                      refine nw_bipush (len := 0) l_X12_addsMoon_165 167 rfl c_71 ?_
                      refine nw_iload l_X12_addsMoon_167 169 rfl rfl ?_
                      refine nw_iadd l_X12_addsMoon_169 170 rfl o12 ?_
                      refine nw_iald l_X12_addsMoon_170 171 rfl k_304 o13 (v := (nw_u (nw_u (nw_u (nw_u (nw_u (nw_u (nw_u (nw_u J 304 (71 + (J 304 4)) (J 304 5)) 304 (81 + (J 304 4)) x1) 304 (91 + (J 304 4)) x2) 304 (101 + (J 304 4)) x3) 304 (111 + (J 304 4)) x4) 304 (121 + (J 304 4)) x1) 304 4 (((nw_u (nw_u (nw_u (nw_u (nw_u (nw_u J 304 (71 + (J 304 4)) (J 304 5)) 304 (81 + (J 304 4)) x1) 304 (91 + (J 304 4)) x2) 304 (101 + (J 304 4)) x3) 304 (111 + (J 304 4)) x4) 304 (121 + (J 304 4)) x1) 304 4) + 1)) 304 5 (((nw_u (nw_u (nw_u (nw_u (nw_u (nw_u J 304 (71 + (J 304 4)) (J 304 5)) 304 (81 + (J 304 4)) x1) 304 (91 + (J 304 4)) x2) 304 (101 + (J 304 4)) x3) 304 (111 + (J 304 4)) x4) 304 (121 + (J 304 4)) x1) 304 5) + 1)) 304 (71 + (J 304 4))) rfl ?_
                      refine nw_call0 0 303 l_X12_addsMoon_171 rfl rfl g_X12_done (Nat.lt_of_lt_of_le (by decide) hD) rfl (Or.inl ⟨_, rfl, k_303⟩) (ls' := [some (.inr (.inl (some 303))), some (.inl ((nw_u (nw_u (nw_u (nw_u (nw_u (nw_u (nw_u (nw_u J 304 (71 + (J 304 4)) (J 304 5)) 304 (81 + (J 304 4)) x1) 304 (91 + (J 304 4)) x2) 304 (101 + (J 304 4)) x3) 304 (111 + (J 304 4)) x4) 304 (121 + (J 304 4)) x1) 304 4 (((nw_u (nw_u (nw_u (nw_u (nw_u (nw_u J 304 (71 + (J 304 4)) (J 304 5)) 304 (81 + (J 304 4)) x1) 304 (91 + (J 304 4)) x2) 304 (101 + (J 304 4)) x3) 304 (111 + (J 304 4)) x4) 304 (121 + (J 304 4)) x1) 304 4) + 1)) 304 5 (((nw_u (nw_u (nw_u (nw_u (nw_u (nw_u J 304 (71 + (J 304 4)) (J 304 5)) 304 (81 + (J 304 4)) x1) 304 (91 + (J 304 4)) x2) 304 (101 + (J 304 4)) x3) 304 (111 + (J 304 4)) x4) 304 (121 + (J 304 4)) x1) 304 5) + 1)) 304 (71 + (J 304 4))))]) rfl (st' := []) rfl 174 rfl ?_
                      refine nw_aload_n l_X12_done_0 1 rfl rfl ?_
                      refine nw_iconst (len := 0) l_X12_done_1 2 rfl c_0 ?_
                      refine nw_putI l_X12_done_2 5 rfl k_303 ?_
                      refine nw_iload_n l_X12_done_5 6 rfl rfl ?_
                      refine nw_ireturn l_X12_done_6 rfl ?_
                      refine nw_ireturn l_X12_addsMoon_174 rfl ?_
                      exact h
                    · replace h := h.2 q11
                      refine nw_aload_n l_X12_addsMoon_62 63 rfl rfl ?_
                      refine nw_iconst (len := 0) l_X12_addsMoon_63 64 rfl c_3 ?_
                      refine nw_call0 0 303 l_X12_addsMoon_64 rfl rfl g_X12_fails (Nat.lt_of_lt_of_le (by decide) hD) rfl (Or.inl ⟨_, rfl, k_303⟩) (ls' := [some (.inr (.inl (some 303))), some (.inl 3)]) rfl (st' := []) rfl 67 rfl ?_
                      refine nw_aload_n l_X12_fails_0 1 rfl rfl ?_
                      refine nw_iload_n l_X12_fails_1 2 rfl rfl ?_
                      refine nw_putI l_X12_fails_2 5 rfl k_303 ?_
                      refine nw_iconst (len := 0) l_X12_fails_5 6 rfl c_0 ?_
                      refine nw_ireturn l_X12_fails_6 rfl ?_
                      refine nw_ireturn l_X12_addsMoon_67 rfl ?_
                      exact h
theorem b_X12_append_0 {x1 : Int} (hD : 1 ≤ D) (h : ((x1 < 32 → Qr (some (.inl 0)) (nw_u J 303 13 1, L, W)) ∧ (32 ≤ x1 → ((126 < x1 → Qr (some (.inl 0)) (nw_u J 303 13 1, L, W)) ∧ (x1 ≤ 126 → ((¬ J 303 7 = 60 → ((0 ≤ J 303 7 ∧ J 303 7 < 60) ∧ ((0 ≤ x1 ∧ x1 < 65536) ∧ ((-2147483648 ≤ (J 303 7) + 1 ∧ (J 303 7) + 1 < 2147483648) ∧ Qr (some (.inl ((J 303 7) + 1))) (nw_u (nw_u (nw_u J 308 (J 303 7) x1) 303 7 ((J 303 7) + 1)) 303 13 0, L, W))))) ∧ (J 303 7 = 60 → Qr (some (.inl 0)) (nw_u J 303 13 2, L, W)))))))) :
    NW sc d_X12_append D (0, [some (.inr (.inl (some 303))), some (.inl x1)], [], (J, L, W), c, sl) Qr Qx := by
  refine nw_iload_n l_X12_append_0 1 rfl rfl ?_
  refine nw_bipush (len := 0) l_X12_append_1 3 rfl c_32 ?_
  refine nw_bipush (len := 0) l_X12_append_3 5 rfl c_126 ?_
  refine nw_call0 0 0 l_X12_append_5 rfl rfl g_X12_in (Nat.lt_of_lt_of_le (by decide) hD) rfl True.intro (ls' := [some (.inl x1), some (.inl 32), some (.inl 126)]) rfl (st' := []) rfl 8 rfl ?_
  refine nw_iload_n l_X12_in_0 1 rfl rfl ?_
  refine nw_iload_n l_X12_in_1 2 rfl rfl ?_
  refine nw_ic_lt l_X12_in_2 5 rfl (fun q1 => ?_) (fun q1 => ?_)
  · replace h := h.1 q1
    refine nw_iconst (len := 0) l_X12_in_14 15 rfl c_0 ?_
    refine nw_ireturnZ l_X12_in_15 rfl (Or.inl rfl) ?_
    refine nw_if_ne l_X12_append_8 11 rfl (fun q => absurd q (by decide)) (fun _ => ?_)
    refine nw_aload_n l_X12_append_11 12 rfl rfl ?_
    refine nw_iconst (len := 0) l_X12_append_12 13 rfl c_1 ?_
    refine nw_call0 0 303 l_X12_append_13 rfl rfl g_X12_fails (Nat.lt_of_lt_of_le (by decide) hD) rfl (Or.inl ⟨_, rfl, k_303⟩) (ls' := [some (.inr (.inl (some 303))), some (.inl 1)]) rfl (st' := []) rfl 16 rfl ?_
    refine nw_aload_n l_X12_fails_0 1 rfl rfl ?_
    refine nw_iload_n l_X12_fails_1 2 rfl rfl ?_
    refine nw_putI l_X12_fails_2 5 rfl k_303 ?_
    refine nw_iconst (len := 0) l_X12_fails_5 6 rfl c_0 ?_
    refine nw_ireturn l_X12_fails_6 rfl ?_
    refine nw_ireturn l_X12_append_16 rfl ?_
    exact h
  · replace h := h.2 q1
    refine nw_iload_n l_X12_in_5 6 rfl rfl ?_
    refine nw_iload_n l_X12_in_6 7 rfl rfl ?_
    refine nw_ic_gt l_X12_in_7 10 rfl (fun q2 => ?_) (fun q2 => ?_)
    · replace h := h.1 q2
      refine nw_iconst (len := 0) l_X12_in_14 15 rfl c_0 ?_
      refine nw_ireturnZ l_X12_in_15 rfl (Or.inl rfl) ?_
      refine nw_if_ne l_X12_append_8 11 rfl (fun q => absurd q (by decide)) (fun _ => ?_)
      refine nw_aload_n l_X12_append_11 12 rfl rfl ?_
      refine nw_iconst (len := 0) l_X12_append_12 13 rfl c_1 ?_
      refine nw_call0 0 303 l_X12_append_13 rfl rfl g_X12_fails (Nat.lt_of_lt_of_le (by decide) hD) rfl (Or.inl ⟨_, rfl, k_303⟩) (ls' := [some (.inr (.inl (some 303))), some (.inl 1)]) rfl (st' := []) rfl 16 rfl ?_
      refine nw_aload_n l_X12_fails_0 1 rfl rfl ?_
      refine nw_iload_n l_X12_fails_1 2 rfl rfl ?_
      refine nw_putI l_X12_fails_2 5 rfl k_303 ?_
      refine nw_iconst (len := 0) l_X12_fails_5 6 rfl c_0 ?_
      refine nw_ireturn l_X12_fails_6 rfl ?_
      refine nw_ireturn l_X12_append_16 rfl ?_
      exact h
    · replace h := h.2 q2
      refine nw_iconst (len := 0) l_X12_in_10 11 rfl c_1 ?_
      refine nw_goto l_X12_in_11 ?_
      refine nw_ireturnZ l_X12_in_15 rfl (Or.inr rfl) ?_
      refine nw_if_ne l_X12_append_8 11 rfl (fun _ => ?_) (fun q => absurd q (by decide))
      refine nw_aload_n l_X12_append_17 18 rfl rfl ?_
      refine nw_getI l_X12_append_18 21 rfl k_303 (v := J 303 7) rfl ?_
      refine nw_bipush (len := 0) l_X12_append_21 23 rfl c_60 ?_
      refine nw_ic_ne l_X12_append_23 26 rfl (fun q3 => ?_) (fun q3 => ?_)
      · replace h := h.1 q3
        refine nw_aload_n l_X12_append_32 33 rfl rfl ?_
        refine nw_getA l_X12_append_33 36 rfl k_303 r_303_6 ?_
        refine nw_aload_n l_X12_append_36 37 rfl rfl ?_
        refine nw_getI l_X12_append_37 40 rfl k_303 (v := J 303 7) rfl ?_
        refine nw_iload_n l_X12_append_40 41 rfl rfl ?_
        have o4 := h.1
        replace h := h.2
        have o5 := h.1
        replace h := h.2
        refine nw_cast l_X12_append_41 42 rfl k_308 o4 o5 ?_
        refine nw_aload_n l_X12_append_42 43 rfl rfl ?_
        refine nw_dupA l_X12_append_43 44 rfl ?_
        refine nw_getI l_X12_append_44 47 rfl k_303 (v := J 303 7) (show nw_u J 308 (J 303 7) x1 303 7 = J 303 7 from (nw_uN (a := 308) (b := 303) (by decide))) ?_
        refine nw_iconst (len := 0) l_X12_append_47 48 rfl c_1 ?_
        have o6 := h.1
        replace h := h.2
        refine nw_iadd l_X12_append_48 49 rfl o6 ?_
        refine nw_putI l_X12_append_49 52 rfl k_303 ?_
        refine nw_aload_n l_X12_append_52 53 rfl rfl ?_
        refine nw_aload_n l_X12_append_53 54 rfl rfl ?_
        refine nw_getI l_X12_append_54 57 rfl k_303 (v := (J 303 7) + 1) (show nw_u (nw_u J 308 (J 303 7) x1) 303 7 ((J 303 7) + 1) 303 7 = (J 303 7) + 1 from nw_uS) ?_
        refine nw_call0 0 303 l_X12_append_57 rfl rfl g_X12_done (Nat.lt_of_lt_of_le (by decide) hD) rfl (Or.inl ⟨_, rfl, k_303⟩) (ls' := [some (.inr (.inl (some 303))), some (.inl ((J 303 7) + 1))]) rfl (st' := []) rfl 60 rfl ?_
        refine nw_aload_n l_X12_done_0 1 rfl rfl ?_
        refine nw_iconst (len := 0) l_X12_done_1 2 rfl c_0 ?_
        refine nw_putI l_X12_done_2 5 rfl k_303 ?_
        refine nw_iload_n l_X12_done_5 6 rfl rfl ?_
        refine nw_ireturn l_X12_done_6 rfl ?_
        refine nw_ireturn l_X12_append_60 rfl ?_
        exact h
      · replace h := h.2 q3
        refine nw_aload_n l_X12_append_26 27 rfl rfl ?_
        refine nw_iconst (len := 0) l_X12_append_27 28 rfl c_2 ?_
        refine nw_call0 0 303 l_X12_append_28 rfl rfl g_X12_fails (Nat.lt_of_lt_of_le (by decide) hD) rfl (Or.inl ⟨_, rfl, k_303⟩) (ls' := [some (.inr (.inl (some 303))), some (.inl 2)]) rfl (st' := []) rfl 31 rfl ?_
        refine nw_aload_n l_X12_fails_0 1 rfl rfl ?_
        refine nw_iload_n l_X12_fails_1 2 rfl rfl ?_
        refine nw_putI l_X12_fails_2 5 rfl k_303 ?_
        refine nw_iconst (len := 0) l_X12_fails_5 6 rfl c_0 ?_
        refine nw_ireturn l_X12_fails_6 rfl ?_
        refine nw_ireturn l_X12_append_31 rfl ?_
        exact h
theorem b_X12_begin_0  (hD : 1 ≤ D) (h : NW sc d_X12_copy 0 (0, [some (.inr (.inl (some 304))), some (.inl 0), some (.inr (.inl (some 305))), some (.inl 0), none], [], (J, L, W), 0, 0) (fun v M9 => NW sc d_X12_begin D (13, [none], nw_push v [], M9, c, sl) Qr Qx) Qx) :
    NW sc d_X12_begin D (0, [some (.inr (.inl (some 303)))], [], (J, L, W), c, sl) Qr Qx := by
  refine nw_aload_n l_X12_begin_0 1 rfl rfl ?_
  refine nw_getA l_X12_begin_1 4 rfl k_303 r_303_0 ?_
  refine nw_iconst (len := 0) l_X12_begin_4 5 rfl c_0 ?_
  refine nw_aload_n l_X12_begin_5 6 rfl rfl ?_
  refine nw_getA l_X12_begin_6 9 rfl k_303 r_303_1 ?_
  refine nw_iconst (len := 0) l_X12_begin_9 10 rfl c_0 ?_
  refine nw_drop (ls' := [none]) ⟨True.intro, True.intro⟩ ?_
  refine nw_call0 0 0 l_X12_begin_10 rfl rfl g_X12_copy (Nat.lt_of_lt_of_le (by decide) hD) rfl True.intro (ls' := [some (.inr (.inl (some 304))), some (.inl 0), some (.inr (.inl (some 305))), some (.inl 0), none]) rfl (st' := []) rfl 13 rfl ?_
  exact h
theorem b_X12_begin_13  (h : Qr none (J, L, W)) :
    NW sc d_X12_begin D (13, [none], [], (J, L, W), c, sl) Qr Qx := by
  refine nw_return l_X12_begin_13 rfl ?_
  exact h
theorem b_X12_best_0 {x1 : Int} (hD : 2 ≤ D) (h : NW sc d_X12_finds 0 (0, [some (.inr (.inl (some 303))), none, none, none], [], (J, L, W), 0, 0) (fun v M9 => NW sc d_X12_best D (4, [some (.inr (.inl (some 303))), some (.inl x1), none, none, none, none], nw_push v [], M9, c, sl) Qr Qx) Qx) :
    NW sc d_X12_best D (0, [some (.inr (.inl (some 303))), some (.inl x1), none, none, none, none], [], (J, L, W), c, sl) Qr Qx := by
  refine nw_aload_n l_X12_best_0 1 rfl rfl ?_
  refine nw_call0 0 303 l_X12_best_1 rfl rfl g_X12_finds (Nat.lt_of_lt_of_le (by decide) hD) rfl (Or.inl ⟨_, rfl, k_303⟩) (ls' := [some (.inr (.inl (some 303))), none, none, none]) rfl (st' := []) rfl 4 rfl ?_
  exact h
theorem b_X12_best_4 {x1 : Int} (h : NW sc d_X12_best D (11, [some (.inr (.inl (some 303))), some (.inl x1), some (.inl 0), some (.inl 0), some (.inl 1), none], [], (J, L, W), c, sl) Qr Qx) :
    NW sc d_X12_best D (4, [some (.inr (.inl (some 303))), some (.inl x1), none, none, none, none], [], (J, L, W), c, sl) Qr Qx := by
  refine nw_iconst (len := 0) l_X12_best_4 5 rfl c_0 ?_
  refine nw_istore_n l_X12_best_5 6 rfl rfl (ls' := [some (.inr (.inl (some 303))), some (.inl x1), some (.inl 0), none, none, none]) rfl ?_
  refine nw_iconst (len := 0) l_X12_best_6 7 rfl c_0 ?_
  refine nw_istore_n l_X12_best_7 8 rfl rfl (ls' := [some (.inr (.inl (some 303))), some (.inl x1), some (.inl 0), some (.inl 0), none, none]) rfl ?_
  refine nw_iconst (len := 0) l_X12_best_8 9 rfl c_1 ?_
  refine nw_istore l_X12_best_9 11 rfl rfl (ls' := [some (.inr (.inl (some 303))), some (.inl x1), some (.inl 0), some (.inl 0), some (.inl 1), none]) rfl ?_
  exact h
theorem b_X12_best_11 {x1 : Int} {x2 : Int} {x3 : Int} {x4 : Int} (hD : 2 ≤ D) (h : ((1024 ≤ x4 → Qr (some (.inl x2)) (J, L, W)) ∧ (x4 < 1024 → NW sc d_X12_worth 1 (0, [some (.inr (.inl (some 303))), some (.inl x1), some (.inl x4), none, none, none], [], (J, L, W), 0, 0) (fun v M9 => NW sc d_X12_best D (26, [some (.inr (.inl (some 303))), some (.inl x1), some (.inl x2), some (.inl x3), some (.inl x4), none], nw_push v [], M9, c, sl) Qr Qx) Qx))) :
    NW sc d_X12_best D (11, [some (.inr (.inl (some 303))), some (.inl x1), some (.inl x2), some (.inl x3), some (.inl x4), none], [], (J, L, W), c, sl) Qr Qx := by
  refine nw_iload l_X12_best_11 13 rfl rfl ?_
  refine nw_sipush (len := 0) l_X12_best_13 16 rfl c_1024 ?_
  refine nw_ic_ge l_X12_best_16 19 rfl (fun q1 => ?_) (fun q1 => ?_)
  · replace h := h.1 q1
    refine nw_iload_n l_X12_best_61 62 rfl rfl ?_
    refine nw_ireturn l_X12_best_62 rfl ?_
    exact h
  · replace h := h.2 q1
    refine nw_aload_n l_X12_best_19 20 rfl rfl ?_
    refine nw_iload_n l_X12_best_20 21 rfl rfl ?_
    refine nw_iload l_X12_best_21 23 rfl rfl ?_
    refine nw_call0 1 303 l_X12_best_23 rfl rfl g_X12_worth (Nat.lt_of_lt_of_le (by decide) hD) rfl (Or.inl ⟨_, rfl, k_303⟩) (ls' := [some (.inr (.inl (some 303))), some (.inl x1), some (.inl x4), none, none, none]) rfl (st' := []) rfl 26 rfl ?_
    exact h
theorem b_X12_best_26 {x1 : Int} {x2 : Int} {x3 : Int} {x4 : Int} {y0 : Int} (hD : 2 ≤ D) (h : ((x3 < y0 → ((-2147483648 ≤ x4 + 1 ∧ x4 + 1 < 2147483648) ∧ NW sc d_X12_best D (11, [some (.inr (.inl (some 303))), some (.inl x1), some (.inl x4), some (.inl y0), some (.inl (x4 + 1)), none], [], (J, L, W), c, sl) Qr Qx)) ∧ (y0 ≤ x3 → ((¬ y0 = x3 → ((-2147483648 ≤ x4 + 1 ∧ x4 + 1 < 2147483648) ∧ NW sc d_X12_best D (11, [some (.inr (.inl (some 303))), some (.inl x1), some (.inl x2), some (.inl x3), some (.inl (x4 + 1)), none], [], (J, L, W), c, sl) Qr Qx)) ∧ (y0 = x3 → NW sc d_X12_isPreferred 0 (0, [some (.inl x4), some (.inl x2), none], [], (J, L, W), 0, 0) (fun v M9 => NW sc d_X12_best D (46, [some (.inr (.inl (some 303))), some (.inl x1), some (.inl x2), some (.inl x3), some (.inl x4), some (.inl y0)], nw_push v [], M9, c, sl) Qr Qx) Qx))))) :
    NW sc d_X12_best D (26, [some (.inr (.inl (some 303))), some (.inl x1), some (.inl x2), some (.inl x3), some (.inl x4), none], [.inl y0], (J, L, W), c, sl) Qr Qx := by
  refine nw_istore l_X12_best_26 28 rfl rfl (ls' := [some (.inr (.inl (some 303))), some (.inl x1), some (.inl x2), some (.inl x3), some (.inl x4), some (.inl y0)]) rfl ?_
  refine nw_iload l_X12_best_28 30 rfl rfl ?_
  refine nw_iload_n l_X12_best_30 31 rfl rfl ?_
  refine nw_ic_gt l_X12_best_31 34 rfl (fun q1 => ?_) (fun q1 => ?_)
  · replace h := h.1 q1
    refine nw_iload l_X12_best_49 51 rfl rfl ?_
    refine nw_istore_n l_X12_best_51 52 rfl rfl (ls' := [some (.inr (.inl (some 303))), some (.inl x1), some (.inl x4), some (.inl x3), some (.inl x4), some (.inl y0)]) rfl ?_
    refine nw_iload l_X12_best_52 54 rfl rfl ?_
    refine nw_istore_n l_X12_best_54 55 rfl rfl (ls' := [some (.inr (.inl (some 303))), some (.inl x1), some (.inl x4), some (.inl y0), some (.inl x4), some (.inl y0)]) rfl ?_
    have o2 := h.1
    replace h := h.2
    refine nw_iinc l_X12_best_55 58 rfl 1 (by decide) rfl rfl o2 (ls' := [some (.inr (.inl (some 303))), some (.inl x1), some (.inl x4), some (.inl y0), some (.inl (x4 + 1)), some (.inl y0)]) rfl ?_
    refine nw_goto l_X12_best_58 ?_
    refine nw_drop (ls' := [some (.inr (.inl (some 303))), some (.inl x1), some (.inl x4), some (.inl y0), some (.inl (x4 + 1)), none]) ⟨rfl, ⟨rfl, ⟨rfl, ⟨rfl, ⟨rfl, ⟨True.intro, True.intro⟩⟩⟩⟩⟩⟩ ?_
    exact h
  · replace h := h.2 q1
    refine nw_iload l_X12_best_34 36 rfl rfl ?_
    refine nw_iload_n l_X12_best_36 37 rfl rfl ?_
    refine nw_ic_ne l_X12_best_37 40 rfl (fun q3 => ?_) (fun q3 => ?_)
    · replace h := h.1 q3
      have o4 := h.1
      replace h := h.2
      refine nw_iinc l_X12_best_55 58 rfl 1 (by decide) rfl rfl o4 (ls' := [some (.inr (.inl (some 303))), some (.inl x1), some (.inl x2), some (.inl x3), some (.inl (x4 + 1)), some (.inl y0)]) rfl ?_
      refine nw_goto l_X12_best_58 ?_
      refine nw_drop (ls' := [some (.inr (.inl (some 303))), some (.inl x1), some (.inl x2), some (.inl x3), some (.inl (x4 + 1)), none]) ⟨rfl, ⟨rfl, ⟨rfl, ⟨rfl, ⟨rfl, ⟨True.intro, True.intro⟩⟩⟩⟩⟩⟩ ?_
      exact h
    · replace h := h.2 q3
      refine nw_iload l_X12_best_40 42 rfl rfl ?_
      refine nw_iload_n l_X12_best_42 43 rfl rfl ?_
      refine nw_call0 0 0 l_X12_best_43 rfl rfl g_X12_isPreferred (Nat.lt_of_lt_of_le (by decide) hD) rfl True.intro (ls' := [some (.inl x4), some (.inl x2), none]) rfl (st' := []) rfl 46 rfl ?_
      exact h
theorem b_X12_best_46 {x1 : Int} {x2 : Int} {x3 : Int} {x4 : Int} {x5 : Int} {y0 : Int} (h : ((y0 = 0 → ((-2147483648 ≤ x4 + 1 ∧ x4 + 1 < 2147483648) ∧ NW sc d_X12_best D (11, [some (.inr (.inl (some 303))), some (.inl x1), some (.inl x2), some (.inl x3), some (.inl (x4 + 1)), none], [], (J, L, W), c, sl) Qr Qx)) ∧ (¬ y0 = 0 → ((-2147483648 ≤ x4 + 1 ∧ x4 + 1 < 2147483648) ∧ NW sc d_X12_best D (11, [some (.inr (.inl (some 303))), some (.inl x1), some (.inl x4), some (.inl x5), some (.inl (x4 + 1)), none], [], (J, L, W), c, sl) Qr Qx)))) :
    NW sc d_X12_best D (46, [some (.inr (.inl (some 303))), some (.inl x1), some (.inl x2), some (.inl x3), some (.inl x4), some (.inl x5)], [.inl y0], (J, L, W), c, sl) Qr Qx := by
  refine nw_if_eq l_X12_best_46 49 rfl (fun q1 => ?_) (fun q1 => ?_)
  · replace h := h.1 q1
    have o2 := h.1
    replace h := h.2
    refine nw_iinc l_X12_best_55 58 rfl 1 (by decide) rfl rfl o2 (ls' := [some (.inr (.inl (some 303))), some (.inl x1), some (.inl x2), some (.inl x3), some (.inl (x4 + 1)), some (.inl x5)]) rfl ?_
    refine nw_goto l_X12_best_58 ?_
    refine nw_drop (ls' := [some (.inr (.inl (some 303))), some (.inl x1), some (.inl x2), some (.inl x3), some (.inl (x4 + 1)), none]) ⟨rfl, ⟨rfl, ⟨rfl, ⟨rfl, ⟨rfl, ⟨True.intro, True.intro⟩⟩⟩⟩⟩⟩ ?_
    exact h
  · replace h := h.2 q1
    refine nw_iload l_X12_best_49 51 rfl rfl ?_
    refine nw_istore_n l_X12_best_51 52 rfl rfl (ls' := [some (.inr (.inl (some 303))), some (.inl x1), some (.inl x4), some (.inl x3), some (.inl x4), some (.inl x5)]) rfl ?_
    refine nw_iload l_X12_best_52 54 rfl rfl ?_
    refine nw_istore_n l_X12_best_54 55 rfl rfl (ls' := [some (.inr (.inl (some 303))), some (.inl x1), some (.inl x4), some (.inl x5), some (.inl x4), some (.inl x5)]) rfl ?_
    have o3 := h.1
    replace h := h.2
    refine nw_iinc l_X12_best_55 58 rfl 1 (by decide) rfl rfl o3 (ls' := [some (.inr (.inl (some 303))), some (.inl x1), some (.inl x4), some (.inl x5), some (.inl (x4 + 1)), some (.inl x5)]) rfl ?_
    refine nw_goto l_X12_best_58 ?_
    refine nw_drop (ls' := [some (.inr (.inl (some 303))), some (.inl x1), some (.inl x4), some (.inl x5), some (.inl (x4 + 1)), none]) ⟨rfl, ⟨rfl, ⟨rfl, ⟨rfl, ⟨rfl, ⟨True.intro, True.intro⟩⟩⟩⟩⟩⟩ ?_
    exact h
theorem b_X12_bestLoad_0 {x1 : Int} (hD : 3 ≤ D) (h : ((-2147483648 ≤ (J 304 3) - 1 ∧ (J 304 3) - 1 < 2147483648) ∧ ((x1 < 0 → Qr (some (.inl 0)) (nw_u J 303 13 1, L, W)) ∧ (0 ≤ x1 → (((J 304 3) - 1 < x1 → Qr (some (.inl 0)) (nw_u J 303 13 1, L, W)) ∧ (x1 ≤ (J 304 3) - 1 → ((-2147483648 ≤ 62 + x1 ∧ 62 + x1 < 2147483648) ∧ ((0 ≤ 62 + x1 ∧ 62 + x1 < 161) ∧ ((J 304 (62 + x1) ≤ 0 → NW sc d_X12_best 2 (0, [some (.inr (.inl (some 303))), some (.inl x1), none, none, none, none], [], (J, L, W), 0, 0) (fun v M9 => NW sc d_X12_bestLoad D (33, [some (.inr (.inl (some 303))), some (.inl x1), none], nw_push v [], M9, c, sl) Qr Qx) Qx) ∧ (0 < J 304 (62 + x1) → Qr (some (.inl 0)) (nw_u J 303 13 2, L, W))))))))))) :
    NW sc d_X12_bestLoad D (0, [some (.inr (.inl (some 303))), some (.inl x1), none], [], (J, L, W), c, sl) Qr Qx := by
  refine nw_aload_n l_X12_bestLoad_0 1 rfl rfl ?_
  refine nw_iload_n l_X12_bestLoad_1 2 rfl rfl ?_
  refine nw_call0 1 303 l_X12_bestLoad_2 rfl rfl g_X12_isFerry (Nat.lt_of_lt_of_le (by decide) hD) rfl (Or.inl ⟨_, rfl, k_303⟩) (ls' := [some (.inr (.inl (some 303))), some (.inl x1)]) rfl (st' := []) rfl 5 rfl ?_
  refine nw_iload_n l_X12_isFerry_0 1 rfl rfl ?_
  refine nw_iconst (len := 0) l_X12_isFerry_1 2 rfl c_0 ?_
  refine nw_aload_n l_X12_isFerry_2 3 rfl rfl ?_
  refine nw_getA l_X12_isFerry_3 6 rfl k_303 r_303_0 ?_
  refine nw_iconst (len := 0) l_X12_isFerry_6 7 rfl c_3 ?_
  refine nw_iald l_X12_isFerry_7 8 rfl k_304 ⟨by decide, by decide⟩ (v := J 304 3) rfl ?_
  refine nw_iconst (len := 0) l_X12_isFerry_8 9 rfl c_1 ?_
  have o1 := h.1
  replace h := h.2
  refine nw_isub l_X12_isFerry_9 10 rfl o1 ?_
  refine nw_call0 0 0 l_X12_isFerry_10 rfl rfl g_X12_in (by decide) rfl True.intro (ls' := [some (.inl x1), some (.inl 0), some (.inl ((J 304 3) - 1))]) rfl (st' := []) rfl 13 rfl ?_
  refine nw_iload_n l_X12_in_0 1 rfl rfl ?_
  refine nw_iload_n l_X12_in_1 2 rfl rfl ?_
  refine nw_ic_lt l_X12_in_2 5 rfl (fun q2 => ?_) (fun q2 => ?_)
  · replace h := h.1 q2
    refine nw_iconst (len := 0) l_X12_in_14 15 rfl c_0 ?_
    refine nw_ireturnZ l_X12_in_15 rfl (Or.inl rfl) ?_
    refine nw_ireturnZ l_X12_isFerry_13 rfl (Or.inl rfl) ?_
    refine nw_if_ne l_X12_bestLoad_5 8 rfl (fun q => absurd q (by decide)) (fun _ => ?_)
    refine nw_aload_n l_X12_bestLoad_8 9 rfl rfl ?_
    refine nw_iconst (len := 0) l_X12_bestLoad_9 10 rfl c_1 ?_
    refine nw_call0 0 303 l_X12_bestLoad_10 rfl rfl g_X12_fails (Nat.lt_of_lt_of_le (by decide) hD) rfl (Or.inl ⟨_, rfl, k_303⟩) (ls' := [some (.inr (.inl (some 303))), some (.inl 1)]) rfl (st' := []) rfl 13 rfl ?_
    refine nw_aload_n l_X12_fails_0 1 rfl rfl ?_
    refine nw_iload_n l_X12_fails_1 2 rfl rfl ?_
    refine nw_putI l_X12_fails_2 5 rfl k_303 ?_
    refine nw_iconst (len := 0) l_X12_fails_5 6 rfl c_0 ?_
    refine nw_ireturn l_X12_fails_6 rfl ?_
    refine nw_ireturn l_X12_bestLoad_13 rfl ?_
    exact h
  · replace h := h.2 q2
    refine nw_iload_n l_X12_in_5 6 rfl rfl ?_
    refine nw_iload_n l_X12_in_6 7 rfl rfl ?_
    refine nw_ic_gt l_X12_in_7 10 rfl (fun q3 => ?_) (fun q3 => ?_)
    · replace h := h.1 q3
      refine nw_iconst (len := 0) l_X12_in_14 15 rfl c_0 ?_
      refine nw_ireturnZ l_X12_in_15 rfl (Or.inl rfl) ?_
      refine nw_ireturnZ l_X12_isFerry_13 rfl (Or.inl rfl) ?_
      refine nw_if_ne l_X12_bestLoad_5 8 rfl (fun q => absurd q (by decide)) (fun _ => ?_)
      refine nw_aload_n l_X12_bestLoad_8 9 rfl rfl ?_
      refine nw_iconst (len := 0) l_X12_bestLoad_9 10 rfl c_1 ?_
      refine nw_call0 0 303 l_X12_bestLoad_10 rfl rfl g_X12_fails (Nat.lt_of_lt_of_le (by decide) hD) rfl (Or.inl ⟨_, rfl, k_303⟩) (ls' := [some (.inr (.inl (some 303))), some (.inl 1)]) rfl (st' := []) rfl 13 rfl ?_
      refine nw_aload_n l_X12_fails_0 1 rfl rfl ?_
      refine nw_iload_n l_X12_fails_1 2 rfl rfl ?_
      refine nw_putI l_X12_fails_2 5 rfl k_303 ?_
      refine nw_iconst (len := 0) l_X12_fails_5 6 rfl c_0 ?_
      refine nw_ireturn l_X12_fails_6 rfl ?_
      refine nw_ireturn l_X12_bestLoad_13 rfl ?_
      exact h
    · replace h := h.2 q3
      refine nw_iconst (len := 0) l_X12_in_10 11 rfl c_1 ?_
      refine nw_goto l_X12_in_11 ?_
      refine nw_ireturnZ l_X12_in_15 rfl (Or.inr rfl) ?_
      refine nw_ireturnZ l_X12_isFerry_13 rfl (Or.inr rfl) ?_
      refine nw_if_ne l_X12_bestLoad_5 8 rfl (fun _ => ?_) (fun q => absurd q (by decide))
      refine nw_aload_n l_X12_bestLoad_14 15 rfl rfl ?_
      refine nw_iload_n l_X12_bestLoad_15 16 rfl rfl ?_
      refine nw_call0 0 303 l_X12_bestLoad_16 rfl rfl g_X12_sails (Nat.lt_of_lt_of_le (by decide) hD) rfl (Or.inl ⟨_, rfl, k_303⟩) (ls' := [some (.inr (.inl (some 303))), some (.inl x1)]) rfl (st' := []) rfl 19 rfl ?_
      refine nw_aload_n l_X12_sails_0 1 rfl rfl ?_
      refine nw_getA l_X12_sails_1 4 rfl k_303 r_303_0 ?_
      refine nw_bipush (len := 0) l_X12_sails_4 6 rfl c_62 ?_
      refine nw_iload_n l_X12_sails_6 7 rfl rfl ?_
      have o4 := h.1
      replace h := h.2
      refine nw_iadd l_X12_sails_7 8 rfl o4 ?_
      have o5 := h.1
      replace h := h.2
      refine nw_iald l_X12_sails_8 9 rfl k_304 o5 (v := J 304 (62 + x1)) rfl ?_
      refine nw_if_le l_X12_sails_9 12 rfl (fun q6 => ?_) (fun q6 => ?_)
      · replace h := h.1 q6
        refine nw_iconst (len := 0) l_X12_sails_16 17 rfl c_0 ?_
        refine nw_ireturnZ l_X12_sails_17 rfl (Or.inl rfl) ?_
        refine nw_if_eq l_X12_bestLoad_19 22 rfl (fun _ => ?_) (fun q => absurd q (by decide))
        refine nw_aload_n l_X12_bestLoad_28 29 rfl rfl ?_
        refine nw_iload_n l_X12_bestLoad_29 30 rfl rfl ?_
        refine nw_call0 2 303 l_X12_bestLoad_30 rfl rfl g_X12_best (Nat.lt_of_lt_of_le (by decide) hD) rfl (Or.inl ⟨_, rfl, k_303⟩) (ls' := [some (.inr (.inl (some 303))), some (.inl x1), none, none, none, none]) rfl (st' := []) rfl 33 rfl ?_
        exact h
      · replace h := h.2 q6
        refine nw_iconst (len := 0) l_X12_sails_12 13 rfl c_1 ?_
        refine nw_goto l_X12_sails_13 ?_
        refine nw_ireturnZ l_X12_sails_17 rfl (Or.inr rfl) ?_
        refine nw_if_eq l_X12_bestLoad_19 22 rfl (fun q => absurd q (by decide)) (fun _ => ?_)
        refine nw_aload_n l_X12_bestLoad_22 23 rfl rfl ?_
        refine nw_iconst (len := 0) l_X12_bestLoad_23 24 rfl c_2 ?_
        refine nw_call0 0 303 l_X12_bestLoad_24 rfl rfl g_X12_fails (Nat.lt_of_lt_of_le (by decide) hD) rfl (Or.inl ⟨_, rfl, k_303⟩) (ls' := [some (.inr (.inl (some 303))), some (.inl 2)]) rfl (st' := []) rfl 27 rfl ?_
        refine nw_aload_n l_X12_fails_0 1 rfl rfl ?_
        refine nw_iload_n l_X12_fails_1 2 rfl rfl ?_
        refine nw_putI l_X12_fails_2 5 rfl k_303 ?_
        refine nw_iconst (len := 0) l_X12_fails_5 6 rfl c_0 ?_
        refine nw_ireturn l_X12_fails_6 rfl ?_
        refine nw_ireturn l_X12_bestLoad_27 rfl ?_
        exact h
theorem b_X12_bestLoad_33 {x1 : Int} {y0 : Int} (hD : 3 ≤ D) (h : NW sc d_X12_worth 1 (0, [some (.inr (.inl (some 303))), some (.inl x1), some (.inl y0), none, none, none], [], (J, L, W), 0, 0) (fun v M9 => NW sc d_X12_bestLoad D (41, [none, none, none], nw_push v [.inr (.inl (some 303))], M9, c, sl) Qr Qx) Qx) :
    NW sc d_X12_bestLoad D (33, [some (.inr (.inl (some 303))), some (.inl x1), none], [.inl y0], (J, L, W), c, sl) Qr Qx := by
  refine nw_istore_n l_X12_bestLoad_33 34 rfl rfl (ls' := [some (.inr (.inl (some 303))), some (.inl x1), some (.inl y0)]) rfl ?_
  refine nw_aload_n l_X12_bestLoad_34 35 rfl rfl ?_
  refine nw_aload_n l_X12_bestLoad_35 36 rfl rfl ?_
  refine nw_iload_n l_X12_bestLoad_36 37 rfl rfl ?_
  refine nw_iload_n l_X12_bestLoad_37 38 rfl rfl ?_
  refine nw_drop (ls' := [none, none, none]) ⟨True.intro, ⟨True.intro, ⟨True.intro, True.intro⟩⟩⟩ ?_
  refine nw_call0 1 303 l_X12_bestLoad_38 rfl rfl g_X12_worth (Nat.lt_of_lt_of_le (by decide) hD) rfl (Or.inl ⟨_, rfl, k_303⟩) (ls' := [some (.inr (.inl (some 303))), some (.inl x1), some (.inl y0), none, none, none]) rfl (st' := [.inr (.inl (some 303))]) rfl 41 rfl ?_
  exact h
theorem b_X12_bestLoad_41 {y0 : Int} (hD : 3 ≤ D) (h : Qr (some (.inl y0)) (nw_u J 303 13 0, L, W)) :
    NW sc d_X12_bestLoad D (41, [none, none, none], [.inl y0, .inr (.inl (some 303))], (J, L, W), c, sl) Qr Qx := by
  refine nw_call0 0 303 l_X12_bestLoad_41 rfl rfl g_X12_done (Nat.lt_of_lt_of_le (by decide) hD) rfl (Or.inl ⟨_, rfl, k_303⟩) (ls' := [some (.inr (.inl (some 303))), some (.inl y0)]) rfl (st' := []) rfl 44 rfl ?_
  refine nw_aload_n l_X12_done_0 1 rfl rfl ?_
  refine nw_iconst (len := 0) l_X12_done_1 2 rfl c_0 ?_
  refine nw_putI l_X12_done_2 5 rfl k_303 ?_
  refine nw_iload_n l_X12_done_5 6 rfl rfl ?_
  refine nw_ireturn l_X12_done_6 rfl ?_
  refine nw_ireturn l_X12_bestLoad_44 rfl ?_
  exact h
theorem b_X12_bestLoadByTable_0 {x1 : Int} (hD : 4 ≤ D) (h : NW sc d_X12_bestLoad 3 (0, [some (.inr (.inl (some 303))), some (.inl x1), none], [], (J, L, W), 0, 0) (fun v M9 => NW sc d_X12_bestLoadByTable D (5, [none, none], nw_push v [], M9, c, sl) Qr Qx) Qx) :
    NW sc d_X12_bestLoadByTable D (0, [some (.inr (.inl (some 303))), some (.inl x1)], [], (J, L, W), c, sl) Qr Qx := by
  refine nw_aload_n l_X12_bestLoadByTable_0 1 rfl rfl ?_
  refine nw_iload_n l_X12_bestLoadByTable_1 2 rfl rfl ?_
  refine nw_drop (ls' := [none, none]) ⟨True.intro, ⟨True.intro, True.intro⟩⟩ ?_
  refine nw_call0 3 303 l_X12_bestLoadByTable_2 rfl rfl g_X12_bestLoad (Nat.lt_of_lt_of_le (by decide) hD) rfl (Or.inl ⟨_, rfl, k_303⟩) (ls' := [some (.inr (.inl (some 303))), some (.inl x1), none]) rfl (st' := []) rfl 5 rfl ?_
  exact h
theorem b_X12_bestLoadByTable_5 {y0 : Int} (h : Qr (some (.inl y0)) (J, L, W)) :
    NW sc d_X12_bestLoadByTable D (5, [none, none], [.inl y0], (J, L, W), c, sl) Qr Qx := by
  refine nw_ireturn l_X12_bestLoadByTable_5 rfl ?_
  exact h
theorem b_X12_between_0 {x1 : Int} {x2 : Int} (h : NW sc d_X12_between D (2, [some (.inr (.inl (some 303))), some (.inl x1), some (.inl x2), some (.inl 0), none, none], [], (J, L, W), c, sl) Qr Qx) :
    NW sc d_X12_between D (0, [some (.inr (.inl (some 303))), some (.inl x1), some (.inl x2), none, none, none], [], (J, L, W), c, sl) Qr Qx := by
  refine nw_iconst (len := 0) l_X12_between_0 1 rfl c_0 ?_
  refine nw_istore_n l_X12_between_1 2 rfl rfl (ls' := [some (.inr (.inl (some 303))), some (.inl x1), some (.inl x2), some (.inl 0), none, none]) rfl ?_
  exact h
theorem b_X12_between_2 {x1 : Int} {x2 : Int} {x3 : Int} (h : ((J 304 2 ≤ x3 → Qr (some (.inl (-1))) (J, L, W)) ∧ (x3 < J 304 2 → ((-2147483648 ≤ 16 + x3 ∧ 16 + x3 < 2147483648) ∧ ((0 ≤ 16 + x3 ∧ 16 + x3 < 161) ∧ ((-2147483648 ≤ 26 + x3 ∧ 26 + x3 < 2147483648) ∧ ((0 ≤ 26 + x3 ∧ 26 + x3 < 161) ∧ ((¬ J 304 (16 + x3) = x1 → ((¬ J 304 (16 + x3) = x2 → ((-2147483648 ≤ x3 + 1 ∧ x3 + 1 < 2147483648) ∧ NW sc d_X12_between D (2, [some (.inr (.inl (some 303))), some (.inl x1), some (.inl x2), some (.inl (x3 + 1)), none, none], [], (J, L, W), c, sl) Qr Qx)) ∧ (J 304 (16 + x3) = x2 → ((¬ J 304 (26 + x3) = x1 → ((-2147483648 ≤ x3 + 1 ∧ x3 + 1 < 2147483648) ∧ NW sc d_X12_between D (2, [some (.inr (.inl (some 303))), some (.inl x1), some (.inl x2), some (.inl (x3 + 1)), none, none], [], (J, L, W), c, sl) Qr Qx)) ∧ (J 304 (26 + x3) = x1 → Qr (some (.inl x3)) (J, L, W)))))) ∧ (J 304 (16 + x3) = x1 → ((J 304 (26 + x3) = x2 → Qr (some (.inl x3)) (J, L, W)) ∧ (¬ J 304 (26 + x3) = x2 → ((¬ J 304 (16 + x3) = x2 → ((-2147483648 ≤ x3 + 1 ∧ x3 + 1 < 2147483648) ∧ NW sc d_X12_between D (2, [some (.inr (.inl (some 303))), some (.inl x1), some (.inl x2), some (.inl (x3 + 1)), none, none], [], (J, L, W), c, sl) Qr Qx)) ∧ (J 304 (16 + x3) = x2 → ((¬ J 304 (26 + x3) = x1 → ((-2147483648 ≤ x3 + 1 ∧ x3 + 1 < 2147483648) ∧ NW sc d_X12_between D (2, [some (.inr (.inl (some 303))), some (.inl x1), some (.inl x2), some (.inl (x3 + 1)), none, none], [], (J, L, W), c, sl) Qr Qx)) ∧ (J 304 (26 + x3) = x1 → Qr (some (.inl x3)) (J, L, W)))))))))))))))) :
    NW sc d_X12_between D (2, [some (.inr (.inl (some 303))), some (.inl x1), some (.inl x2), some (.inl x3), none, none], [], (J, L, W), c, sl) Qr Qx := by
  refine nw_iload_n l_X12_between_2 3 rfl rfl ?_
  refine nw_aload_n l_X12_between_3 4 rfl rfl ?_
  refine nw_getA l_X12_between_4 7 rfl k_303 r_303_0 ?_
  refine nw_iconst (len := 0) l_X12_between_7 8 rfl c_2 ?_
  refine nw_iald l_X12_between_8 9 rfl k_304 ⟨by decide, by decide⟩ (v := J 304 2) rfl ?_
  refine nw_ic_ge l_X12_between_9 12 rfl (fun q1 => ?_) (fun q1 => ?_)
  · replace h := h.1 q1
    refine nw_iconst (len := 0) l_X12_between_66 67 rfl c_n1 ?_
    refine nw_ireturn l_X12_between_67 rfl ?_
    exact h
  · replace h := h.2 q1
    refine nw_aload_n l_X12_between_12 13 rfl rfl ?_
    refine nw_getA l_X12_between_13 16 rfl k_303 r_303_0 ?_
    refine nw_bipush (len := 0) l_X12_between_16 18 rfl c_16 ?_
    refine nw_iload_n l_X12_between_18 19 rfl rfl ?_
    have o2 := h.1
    replace h := h.2
    refine nw_iadd l_X12_between_19 20 rfl o2 ?_
    have o3 := h.1
    replace h := h.2
    refine nw_iald l_X12_between_20 21 rfl k_304 o3 (v := J 304 (16 + x3)) rfl ?_
    refine nw_istore l_X12_between_21 23 rfl rfl (ls' := [some (.inr (.inl (some 303))), some (.inl x1), some (.inl x2), some (.inl x3), some (.inl (J 304 (16 + x3))), none]) rfl ?_
    refine nw_aload_n l_X12_between_23 24 rfl rfl ?_
    refine nw_getA l_X12_between_24 27 rfl k_303 r_303_0 ?_
    refine nw_bipush (len := 0) l_X12_between_27 29 rfl c_26 ?_
    refine nw_iload_n l_X12_between_29 30 rfl rfl ?_
    have o4 := h.1
    replace h := h.2
    refine nw_iadd l_X12_between_30 31 rfl o4 ?_
    have o5 := h.1
    replace h := h.2
    refine nw_iald l_X12_between_31 32 rfl k_304 o5 (v := J 304 (26 + x3)) rfl ?_
    refine nw_istore l_X12_between_32 34 rfl rfl (ls' := [some (.inr (.inl (some 303))), some (.inl x1), some (.inl x2), some (.inl x3), some (.inl (J 304 (16 + x3))), some (.inl (J 304 (26 + x3)))]) rfl ?_
    refine nw_iload l_X12_between_34 36 rfl rfl ?_
    refine nw_iload_n l_X12_between_36 37 rfl rfl ?_
    refine nw_ic_ne l_X12_between_37 40 rfl (fun q6 => ?_) (fun q6 => ?_)
    · replace h := h.1 q6
      refine nw_iload l_X12_between_46 48 rfl rfl ?_
      refine nw_iload_n l_X12_between_48 49 rfl rfl ?_
      refine nw_ic_ne l_X12_between_49 52 rfl (fun q7 => ?_) (fun q7 => ?_)
      · replace h := h.1 q7
        have o8 := h.1
        replace h := h.2
        refine nw_iinc l_X12_between_60 63 rfl 1 (by decide) rfl rfl o8 (ls' := [some (.inr (.inl (some 303))), some (.inl x1), some (.inl x2), some (.inl (x3 + 1)), some (.inl (J 304 (16 + x3))), some (.inl (J 304 (26 + x3)))]) rfl ?_
        refine nw_goto l_X12_between_63 ?_
        refine nw_drop (ls' := [some (.inr (.inl (some 303))), some (.inl x1), some (.inl x2), some (.inl (x3 + 1)), none, none]) ⟨rfl, ⟨rfl, ⟨rfl, ⟨rfl, ⟨True.intro, ⟨True.intro, True.intro⟩⟩⟩⟩⟩⟩ ?_
        exact h
      · replace h := h.2 q7
        refine nw_iload l_X12_between_52 54 rfl rfl ?_
        refine nw_iload_n l_X12_between_54 55 rfl rfl ?_
        refine nw_ic_ne l_X12_between_55 58 rfl (fun q9 => ?_) (fun q9 => ?_)
        · replace h := h.1 q9
          have o10 := h.1
          replace h := h.2
          refine nw_iinc l_X12_between_60 63 rfl 1 (by decide) rfl rfl o10 (ls' := [some (.inr (.inl (some 303))), some (.inl x1), some (.inl x2), some (.inl (x3 + 1)), some (.inl (J 304 (16 + x3))), some (.inl (J 304 (26 + x3)))]) rfl ?_
          refine nw_goto l_X12_between_63 ?_
          refine nw_drop (ls' := [some (.inr (.inl (some 303))), some (.inl x1), some (.inl x2), some (.inl (x3 + 1)), none, none]) ⟨rfl, ⟨rfl, ⟨rfl, ⟨rfl, ⟨True.intro, ⟨True.intro, True.intro⟩⟩⟩⟩⟩⟩ ?_
          exact h
        · replace h := h.2 q9
          refine nw_iload_n l_X12_between_58 59 rfl rfl ?_
          refine nw_ireturn l_X12_between_59 rfl ?_
          exact h
    · replace h := h.2 q6
      refine nw_iload l_X12_between_40 42 rfl rfl ?_
      refine nw_iload_n l_X12_between_42 43 rfl rfl ?_
      refine nw_ic_eq l_X12_between_43 46 rfl (fun q11 => ?_) (fun q11 => ?_)
      · replace h := h.1 q11
        refine nw_iload_n l_X12_between_58 59 rfl rfl ?_
        refine nw_ireturn l_X12_between_59 rfl ?_
        exact h
      · replace h := h.2 q11
        refine nw_iload l_X12_between_46 48 rfl rfl ?_
        refine nw_iload_n l_X12_between_48 49 rfl rfl ?_
        refine nw_ic_ne l_X12_between_49 52 rfl (fun q12 => ?_) (fun q12 => ?_)
        · replace h := h.1 q12
          have o13 := h.1
          replace h := h.2
          refine nw_iinc l_X12_between_60 63 rfl 1 (by decide) rfl rfl o13 (ls' := [some (.inr (.inl (some 303))), some (.inl x1), some (.inl x2), some (.inl (x3 + 1)), some (.inl (J 304 (16 + x3))), some (.inl (J 304 (26 + x3)))]) rfl ?_
          refine nw_goto l_X12_between_63 ?_
          refine nw_drop (ls' := [some (.inr (.inl (some 303))), some (.inl x1), some (.inl x2), some (.inl (x3 + 1)), none, none]) ⟨rfl, ⟨rfl, ⟨rfl, ⟨rfl, ⟨True.intro, ⟨True.intro, True.intro⟩⟩⟩⟩⟩⟩ ?_
          exact h
        · replace h := h.2 q12
          refine nw_iload l_X12_between_52 54 rfl rfl ?_
          refine nw_iload_n l_X12_between_54 55 rfl rfl ?_
          refine nw_ic_ne l_X12_between_55 58 rfl (fun q14 => ?_) (fun q14 => ?_)
          · replace h := h.1 q14
            have o15 := h.1
            replace h := h.2
            refine nw_iinc l_X12_between_60 63 rfl 1 (by decide) rfl rfl o15 (ls' := [some (.inr (.inl (some 303))), some (.inl x1), some (.inl x2), some (.inl (x3 + 1)), some (.inl (J 304 (16 + x3))), some (.inl (J 304 (26 + x3)))]) rfl ?_
            refine nw_goto l_X12_between_63 ?_
            refine nw_drop (ls' := [some (.inr (.inl (some 303))), some (.inl x1), some (.inl x2), some (.inl (x3 + 1)), none, none]) ⟨rfl, ⟨rfl, ⟨rfl, ⟨rfl, ⟨True.intro, ⟨True.intro, True.intro⟩⟩⟩⟩⟩⟩ ?_
            exact h
          · replace h := h.2 q14
            refine nw_iload_n l_X12_between_58 59 rfl rfl ?_
            refine nw_ireturn l_X12_between_59 rfl ?_
            exact h
theorem b_X12_board_0 {x1 : Int} {x2 : Int} (hD : 4 ≤ D) (h : NW sc d_X12_begin 1 (0, [some (.inr (.inl (some 303)))], [], (J, L, W), 0, 0) (fun v M9 => NW sc d_X12_board D (4, [some (.inr (.inl (some 303))), some (.inl x1), some (.inl x2)], nw_push v [], M9, c, sl) Qr Qx) Qx) :
    NW sc d_X12_board D (0, [some (.inr (.inl (some 303))), some (.inl x1), some (.inl x2)], [], (J, L, W), c, sl) Qr Qx := by
  refine nw_aload_n l_X12_board_0 1 rfl rfl ?_
  refine nw_call0 1 303 l_X12_board_1 rfl rfl g_X12_begin (Nat.lt_of_lt_of_le (by decide) hD) rfl (Or.inl ⟨_, rfl, k_303⟩) (ls' := [some (.inr (.inl (some 303)))]) rfl (st' := []) rfl 4 rfl ?_
  exact h
theorem b_X12_board_4 {x1 : Int} {x2 : Int} (hD : 4 ≤ D) (h : NW sc d_X12_boards 3 (0, [some (.inr (.inl (some 303))), some (.inl x1), some (.inl x2), none], [], (J, L, W), 0, 0) (fun v M9 => NW sc d_X12_board D (11, [none, none, none], nw_push v [.inr (.inl (some 303))], M9, c, sl) Qr Qx) Qx) :
    NW sc d_X12_board D (4, [some (.inr (.inl (some 303))), some (.inl x1), some (.inl x2)], [], (J, L, W), c, sl) Qr Qx := by
  refine nw_aload_n l_X12_board_4 5 rfl rfl ?_
  refine nw_aload_n l_X12_board_5 6 rfl rfl ?_
  refine nw_iload_n l_X12_board_6 7 rfl rfl ?_
  refine nw_iload_n l_X12_board_7 8 rfl rfl ?_
  refine nw_drop (ls' := [none, none, none]) ⟨True.intro, ⟨True.intro, ⟨True.intro, True.intro⟩⟩⟩ ?_
  refine nw_call0 3 303 l_X12_board_8 rfl rfl g_X12_boards (Nat.lt_of_lt_of_le (by decide) hD) rfl (Or.inl ⟨_, rfl, k_303⟩) (ls' := [some (.inr (.inl (some 303))), some (.inl x1), some (.inl x2), none]) rfl (st' := [.inr (.inl (some 303))]) rfl 11 rfl ?_
  exact h
theorem b_X12_board_11 {y0 : Int} (hD : 4 ≤ D) (h : NW sc d_X12_kept 1 (0, [some (.inr (.inl (some 303))), some (.inl y0), none], [], (J, L, W), 0, 0) (fun v M9 => NW sc d_X12_board D (14, [none, none, none], nw_push v [], M9, c, sl) Qr Qx) Qx) :
    NW sc d_X12_board D (11, [none, none, none], [.inl y0, .inr (.inl (some 303))], (J, L, W), c, sl) Qr Qx := by
  refine nw_call0 1 303 l_X12_board_11 rfl rfl g_X12_kept (Nat.lt_of_lt_of_le (by decide) hD) rfl (Or.inl ⟨_, rfl, k_303⟩) (ls' := [some (.inr (.inl (some 303))), some (.inl y0), none]) rfl (st' := []) rfl 14 rfl ?_
  exact h
theorem b_X12_board_14 {y0 : Int} (h : Qr (some (.inl y0)) (J, L, W)) :
    NW sc d_X12_board D (14, [none, none, none], [.inl y0], (J, L, W), c, sl) Qr Qx := by
  refine nw_ireturn l_X12_board_14 rfl ?_
  exact h
theorem b_X12_boards_0 {x1 : Int} {x2 : Int} (hD : 3 ≤ D) (h : NW sc d_X12_placeOf 0 (0, [some (.inr (.inl (some 303))), some (.inl x2), none], [], (J, L, W), 0, 0) (fun v M9 => NW sc d_X12_boards D (5, [some (.inr (.inl (some 303))), some (.inl x1), none, none], nw_push v [], M9, c, sl) Qr Qx) Qx) :
    NW sc d_X12_boards D (0, [some (.inr (.inl (some 303))), some (.inl x1), some (.inl x2), none], [], (J, L, W), c, sl) Qr Qx := by
  refine nw_aload_n l_X12_boards_0 1 rfl rfl ?_
  refine nw_iload_n l_X12_boards_1 2 rfl rfl ?_
  refine nw_drop (ls' := [some (.inr (.inl (some 303))), some (.inl x1), none, none]) ⟨rfl, ⟨rfl, ⟨True.intro, ⟨True.intro, True.intro⟩⟩⟩⟩ ?_
  refine nw_call0 0 303 l_X12_boards_2 rfl rfl g_X12_placeOf (Nat.lt_of_lt_of_le (by decide) hD) rfl (Or.inl ⟨_, rfl, k_303⟩) (ls' := [some (.inr (.inl (some 303))), some (.inl x2), none]) rfl (st' := []) rfl 5 rfl ?_
  exact h
theorem b_X12_boards_5 {x1 : Int} {y0 : Int} (hD : 3 ≤ D) (h : ((-2147483648 ≤ (J 304 3) - 1 ∧ (J 304 3) - 1 < 2147483648) ∧ ((x1 < 0 → Qr (some (.inl 0)) (nw_u J 303 13 1, L, W)) ∧ (0 ≤ x1 → (((J 304 3) - 1 < x1 → Qr (some (.inl 0)) (nw_u J 303 13 1, L, W)) ∧ (x1 ≤ (J 304 3) - 1 → ((¬ y0 = (-1) → ((-2147483648 ≤ 121 + y0 ∧ 121 + y0 < 2147483648) ∧ ((0 ≤ 121 + y0 ∧ 121 + y0 < 161) ∧ ((J 304 (121 + y0) < 10 → ((-2147483648 ≤ 62 + x1 ∧ 62 + x1 < 2147483648) ∧ ((0 ≤ 62 + x1 ∧ 62 + x1 < 161) ∧ ((J 304 (62 + x1) ≤ 0 → ((-2147483648 ≤ 56 + x1 ∧ 56 + x1 < 2147483648) ∧ ((0 ≤ 56 + x1 ∧ 56 + x1 < 161) ∧ ((J 304 (121 + y0) = J 304 (56 + x1) → NW sc d_X12_isStuck 2 (0, [some (.inr (.inl (some 303))), some (.inl x1)], [], (J, L, W), 0, 0) (fun v M9 => NW sc d_X12_boards D (92, [some (.inr (.inl (some 303))), some (.inl x1), none, some (.inl y0)], nw_push v [], M9, c, sl) Qr Qx) Qx) ∧ (¬ J 304 (121 + y0) = J 304 (56 + x1) → Qr (some (.inl 0)) (nw_u (nw_u J 303 10 4) 303 13 4, L, W)))))) ∧ (0 < J 304 (62 + x1) → Qr (some (.inl 0)) (nw_u (nw_u J 303 10 4) 303 13 4, L, W)))))) ∧ (10 ≤ J 304 (121 + y0) → Qr (some (.inl 0)) (nw_u J 303 13 3, L, W)))))) ∧ (y0 = (-1) → Qr (some (.inl 0)) (nw_u J 303 13 2, L, W))))))))) :
    NW sc d_X12_boards D (5, [some (.inr (.inl (some 303))), some (.inl x1), none, none], [.inl y0], (J, L, W), c, sl) Qr Qx := by
  refine nw_istore_n l_X12_boards_5 6 rfl rfl (ls' := [some (.inr (.inl (some 303))), some (.inl x1), none, some (.inl y0)]) rfl ?_
  refine nw_aload_n l_X12_boards_6 7 rfl rfl ?_
  refine nw_iload_n l_X12_boards_7 8 rfl rfl ?_
  refine nw_call0 1 303 l_X12_boards_8 rfl rfl g_X12_isFerry (Nat.lt_of_lt_of_le (by decide) hD) rfl (Or.inl ⟨_, rfl, k_303⟩) (ls' := [some (.inr (.inl (some 303))), some (.inl x1)]) rfl (st' := []) rfl 11 rfl ?_
  refine nw_iload_n l_X12_isFerry_0 1 rfl rfl ?_
  refine nw_iconst (len := 0) l_X12_isFerry_1 2 rfl c_0 ?_
  refine nw_aload_n l_X12_isFerry_2 3 rfl rfl ?_
  refine nw_getA l_X12_isFerry_3 6 rfl k_303 r_303_0 ?_
  refine nw_iconst (len := 0) l_X12_isFerry_6 7 rfl c_3 ?_
  refine nw_iald l_X12_isFerry_7 8 rfl k_304 ⟨by decide, by decide⟩ (v := J 304 3) rfl ?_
  refine nw_iconst (len := 0) l_X12_isFerry_8 9 rfl c_1 ?_
  have o1 := h.1
  replace h := h.2
  refine nw_isub l_X12_isFerry_9 10 rfl o1 ?_
  refine nw_call0 0 0 l_X12_isFerry_10 rfl rfl g_X12_in (by decide) rfl True.intro (ls' := [some (.inl x1), some (.inl 0), some (.inl ((J 304 3) - 1))]) rfl (st' := []) rfl 13 rfl ?_
  refine nw_iload_n l_X12_in_0 1 rfl rfl ?_
  refine nw_iload_n l_X12_in_1 2 rfl rfl ?_
  refine nw_ic_lt l_X12_in_2 5 rfl (fun q2 => ?_) (fun q2 => ?_)
  · replace h := h.1 q2
    refine nw_iconst (len := 0) l_X12_in_14 15 rfl c_0 ?_
    refine nw_ireturnZ l_X12_in_15 rfl (Or.inl rfl) ?_
    refine nw_ireturnZ l_X12_isFerry_13 rfl (Or.inl rfl) ?_
    refine nw_if_ne l_X12_boards_11 14 rfl (fun q => absurd q (by decide)) (fun _ => ?_)
    refine nw_aload_n l_X12_boards_14 15 rfl rfl ?_
    refine nw_iconst (len := 0) l_X12_boards_15 16 rfl c_1 ?_
    refine nw_call0 0 303 l_X12_boards_16 rfl rfl g_X12_fails (Nat.lt_of_lt_of_le (by decide) hD) rfl (Or.inl ⟨_, rfl, k_303⟩) (ls' := [some (.inr (.inl (some 303))), some (.inl 1)]) rfl (st' := []) rfl 19 rfl ?_
    refine nw_aload_n l_X12_fails_0 1 rfl rfl ?_
    refine nw_iload_n l_X12_fails_1 2 rfl rfl ?_
    refine nw_putI l_X12_fails_2 5 rfl k_303 ?_
    refine nw_iconst (len := 0) l_X12_fails_5 6 rfl c_0 ?_
    refine nw_ireturn l_X12_fails_6 rfl ?_
    refine nw_ireturn l_X12_boards_19 rfl ?_
    exact h
  · replace h := h.2 q2
    refine nw_iload_n l_X12_in_5 6 rfl rfl ?_
    refine nw_iload_n l_X12_in_6 7 rfl rfl ?_
    refine nw_ic_gt l_X12_in_7 10 rfl (fun q3 => ?_) (fun q3 => ?_)
    · replace h := h.1 q3
      refine nw_iconst (len := 0) l_X12_in_14 15 rfl c_0 ?_
      refine nw_ireturnZ l_X12_in_15 rfl (Or.inl rfl) ?_
      refine nw_ireturnZ l_X12_isFerry_13 rfl (Or.inl rfl) ?_
      refine nw_if_ne l_X12_boards_11 14 rfl (fun q => absurd q (by decide)) (fun _ => ?_)
      refine nw_aload_n l_X12_boards_14 15 rfl rfl ?_
      refine nw_iconst (len := 0) l_X12_boards_15 16 rfl c_1 ?_
      refine nw_call0 0 303 l_X12_boards_16 rfl rfl g_X12_fails (Nat.lt_of_lt_of_le (by decide) hD) rfl (Or.inl ⟨_, rfl, k_303⟩) (ls' := [some (.inr (.inl (some 303))), some (.inl 1)]) rfl (st' := []) rfl 19 rfl ?_
      refine nw_aload_n l_X12_fails_0 1 rfl rfl ?_
      refine nw_iload_n l_X12_fails_1 2 rfl rfl ?_
      refine nw_putI l_X12_fails_2 5 rfl k_303 ?_
      refine nw_iconst (len := 0) l_X12_fails_5 6 rfl c_0 ?_
      refine nw_ireturn l_X12_fails_6 rfl ?_
      refine nw_ireturn l_X12_boards_19 rfl ?_
      exact h
    · replace h := h.2 q3
      refine nw_iconst (len := 0) l_X12_in_10 11 rfl c_1 ?_
      refine nw_goto l_X12_in_11 ?_
      refine nw_ireturnZ l_X12_in_15 rfl (Or.inr rfl) ?_
      refine nw_ireturnZ l_X12_isFerry_13 rfl (Or.inr rfl) ?_
      refine nw_if_ne l_X12_boards_11 14 rfl (fun _ => ?_) (fun q => absurd q (by decide))
      refine nw_iload_n l_X12_boards_20 21 rfl rfl ?_
      refine nw_iconst (len := 0) l_X12_boards_21 22 rfl c_n1 ?_
      refine nw_ic_ne l_X12_boards_22 25 rfl (fun q4 => ?_) (fun q4 => ?_)
      · replace h := h.1 q4
        refine nw_aload_n l_X12_boards_31 32 rfl rfl ?_
        refine nw_getA l_X12_boards_32 35 rfl k_303 r_303_0 ?_
        refine nw_bipush (len := 0) l_X12_boards_35 37 rfl c_121 ?_
        refine nw_iload_n l_X12_boards_37 38 rfl rfl ?_
        have o5 := h.1
        replace h := h.2
        refine nw_iadd l_X12_boards_38 39 rfl o5 ?_
        have o6 := h.1
        replace h := h.2
        refine nw_iald l_X12_boards_39 40 rfl k_304 o6 (v := J 304 (121 + y0)) rfl ?_
        refine nw_bipush (len := 0) l_X12_boards_40 42 rfl c_10 ?_
        refine nw_ic_lt l_X12_boards_42 45 rfl (fun q7 => ?_) (fun q7 => ?_)
        · replace h := h.1 q7
          refine nw_aload_n l_X12_boards_51 52 rfl rfl ?_
          refine nw_iload_n l_X12_boards_52 53 rfl rfl ?_
          refine nw_call0 0 303 l_X12_boards_53 rfl rfl g_X12_sails (Nat.lt_of_lt_of_le (by decide) hD) rfl (Or.inl ⟨_, rfl, k_303⟩) (ls' := [some (.inr (.inl (some 303))), some (.inl x1)]) rfl (st' := []) rfl 56 rfl ?_
          refine nw_aload_n l_X12_sails_0 1 rfl rfl ?_
          refine nw_getA l_X12_sails_1 4 rfl k_303 r_303_0 ?_
          refine nw_bipush (len := 0) l_X12_sails_4 6 rfl c_62 ?_
          refine nw_iload_n l_X12_sails_6 7 rfl rfl ?_
          have o8 := h.1
          replace h := h.2
          refine nw_iadd l_X12_sails_7 8 rfl o8 ?_
          have o9 := h.1
          replace h := h.2
          refine nw_iald l_X12_sails_8 9 rfl k_304 o9 (v := J 304 (62 + x1)) rfl ?_
          refine nw_if_le l_X12_sails_9 12 rfl (fun q10 => ?_) (fun q10 => ?_)
          · replace h := h.1 q10
            refine nw_iconst (len := 0) l_X12_sails_16 17 rfl c_0 ?_
            refine nw_ireturnZ l_X12_sails_17 rfl (Or.inl rfl) ?_
            refine nw_if_ne l_X12_boards_56 59 rfl (fun q => absurd q (by decide)) (fun _ => ?_)
            refine nw_aload_n l_X12_boards_59 60 rfl rfl ?_
            refine nw_getA l_X12_boards_60 63 rfl k_303 r_303_0 ?_
            refine nw_bipush (len := 0) l_X12_boards_63 65 rfl c_121 ?_
            refine nw_iload_n l_X12_boards_65 66 rfl rfl ?_
            refine nw_iadd l_X12_boards_66 67 rfl o5 ?_
            refine nw_iald l_X12_boards_67 68 rfl k_304 o6 (v := J 304 (121 + y0)) rfl ?_
            refine nw_aload_n l_X12_boards_68 69 rfl rfl ?_
            refine nw_getA l_X12_boards_69 72 rfl k_303 r_303_0 ?_
            refine nw_bipush (len := 0) l_X12_boards_72 74 rfl c_56 ?_
            refine nw_iload_n l_X12_boards_74 75 rfl rfl ?_
            have o11 := h.1
            replace h := h.2
            refine nw_iadd l_X12_boards_75 76 rfl o11 ?_
            have o12 := h.1
            replace h := h.2
            refine nw_iald l_X12_boards_76 77 rfl k_304 o12 (v := J 304 (56 + x1)) rfl ?_
            refine nw_ic_eq l_X12_boards_77 80 rfl (fun q13 => ?_) (fun q13 => ?_)
            · replace h := h.1 q13
              refine nw_aload_n l_X12_boards_87 88 rfl rfl ?_
              refine nw_iload_n l_X12_boards_88 89 rfl rfl ?_
              refine nw_call0 2 303 l_X12_boards_89 rfl rfl g_X12_isStuck (Nat.lt_of_lt_of_le (by decide) hD) rfl (Or.inl ⟨_, rfl, k_303⟩) (ls' := [some (.inr (.inl (some 303))), some (.inl x1)]) rfl (st' := []) rfl 92 rfl ?_
              exact h
            · replace h := h.2 q13
              refine nw_aload_n l_X12_boards_80 81 rfl rfl ?_
              refine nw_iconst (len := 0) l_X12_boards_81 82 rfl c_4 ?_
              refine nw_iconst (len := 0) l_X12_boards_82 83 rfl c_4 ?_
              refine nw_call0 1 303 l_X12_boards_83 rfl rfl g_X12_refuses (Nat.lt_of_lt_of_le (by decide) hD) rfl (Or.inl ⟨_, rfl, k_303⟩) (ls' := [some (.inr (.inl (some 303))), some (.inl 4), some (.inl 4)]) rfl (st' := []) rfl 86 rfl ?_
              refine nw_aload_n l_X12_refuses_0 1 rfl rfl ?_
              refine nw_iload_n l_X12_refuses_1 2 rfl rfl ?_
              refine nw_putI l_X12_refuses_2 5 rfl k_303 ?_
              refine nw_aload_n l_X12_refuses_5 6 rfl rfl ?_
              refine nw_iload_n l_X12_refuses_6 7 rfl rfl ?_
              refine nw_call0 0 303 l_X12_refuses_7 rfl rfl g_X12_fails (by decide) rfl (Or.inl ⟨_, rfl, k_303⟩) (ls' := [some (.inr (.inl (some 303))), some (.inl 4)]) rfl (st' := []) rfl 10 rfl ?_
              refine nw_aload_n l_X12_fails_0 1 rfl rfl ?_
              refine nw_iload_n l_X12_fails_1 2 rfl rfl ?_
              refine nw_putI l_X12_fails_2 5 rfl k_303 ?_
              refine nw_iconst (len := 0) l_X12_fails_5 6 rfl c_0 ?_
              refine nw_ireturn l_X12_fails_6 rfl ?_
              refine nw_ireturn l_X12_refuses_10 rfl ?_
              refine nw_ireturn l_X12_boards_86 rfl ?_
              exact h
          · replace h := h.2 q10
            refine nw_iconst (len := 0) l_X12_sails_12 13 rfl c_1 ?_
            refine nw_goto l_X12_sails_13 ?_
            refine nw_ireturnZ l_X12_sails_17 rfl (Or.inr rfl) ?_
            refine nw_if_ne l_X12_boards_56 59 rfl (fun _ => ?_) (fun q => absurd q (by decide))
            refine nw_aload_n l_X12_boards_80 81 rfl rfl ?_
            refine nw_iconst (len := 0) l_X12_boards_81 82 rfl c_4 ?_
            refine nw_iconst (len := 0) l_X12_boards_82 83 rfl c_4 ?_
            refine nw_call0 1 303 l_X12_boards_83 rfl rfl g_X12_refuses (Nat.lt_of_lt_of_le (by decide) hD) rfl (Or.inl ⟨_, rfl, k_303⟩) (ls' := [some (.inr (.inl (some 303))), some (.inl 4), some (.inl 4)]) rfl (st' := []) rfl 86 rfl ?_
            refine nw_aload_n l_X12_refuses_0 1 rfl rfl ?_
            refine nw_iload_n l_X12_refuses_1 2 rfl rfl ?_
            refine nw_putI l_X12_refuses_2 5 rfl k_303 ?_
            refine nw_aload_n l_X12_refuses_5 6 rfl rfl ?_
            refine nw_iload_n l_X12_refuses_6 7 rfl rfl ?_
            refine nw_call0 0 303 l_X12_refuses_7 rfl rfl g_X12_fails (by decide) rfl (Or.inl ⟨_, rfl, k_303⟩) (ls' := [some (.inr (.inl (some 303))), some (.inl 4)]) rfl (st' := []) rfl 10 rfl ?_
            refine nw_aload_n l_X12_fails_0 1 rfl rfl ?_
            refine nw_iload_n l_X12_fails_1 2 rfl rfl ?_
            refine nw_putI l_X12_fails_2 5 rfl k_303 ?_
            refine nw_iconst (len := 0) l_X12_fails_5 6 rfl c_0 ?_
            refine nw_ireturn l_X12_fails_6 rfl ?_
            refine nw_ireturn l_X12_refuses_10 rfl ?_
            refine nw_ireturn l_X12_boards_86 rfl ?_
            exact h
        · replace h := h.2 q7
          refine nw_aload_n l_X12_boards_45 46 rfl rfl ?_
          refine nw_iconst (len := 0) l_X12_boards_46 47 rfl c_3 ?_
          refine nw_call0 0 303 l_X12_boards_47 rfl rfl g_X12_fails (Nat.lt_of_lt_of_le (by decide) hD) rfl (Or.inl ⟨_, rfl, k_303⟩) (ls' := [some (.inr (.inl (some 303))), some (.inl 3)]) rfl (st' := []) rfl 50 rfl ?_
          refine nw_aload_n l_X12_fails_0 1 rfl rfl ?_
          refine nw_iload_n l_X12_fails_1 2 rfl rfl ?_
          refine nw_putI l_X12_fails_2 5 rfl k_303 ?_
          refine nw_iconst (len := 0) l_X12_fails_5 6 rfl c_0 ?_
          refine nw_ireturn l_X12_fails_6 rfl ?_
          refine nw_ireturn l_X12_boards_50 rfl ?_
          exact h
      · replace h := h.2 q4
        refine nw_aload_n l_X12_boards_25 26 rfl rfl ?_
        refine nw_iconst (len := 0) l_X12_boards_26 27 rfl c_2 ?_
        refine nw_call0 0 303 l_X12_boards_27 rfl rfl g_X12_fails (Nat.lt_of_lt_of_le (by decide) hD) rfl (Or.inl ⟨_, rfl, k_303⟩) (ls' := [some (.inr (.inl (some 303))), some (.inl 2)]) rfl (st' := []) rfl 30 rfl ?_
        refine nw_aload_n l_X12_fails_0 1 rfl rfl ?_
        refine nw_iload_n l_X12_fails_1 2 rfl rfl ?_
        refine nw_putI l_X12_fails_2 5 rfl k_303 ?_
        refine nw_iconst (len := 0) l_X12_fails_5 6 rfl c_0 ?_
        refine nw_ireturn l_X12_fails_6 rfl ?_
        refine nw_ireturn l_X12_boards_30 rfl ?_
        exact h
theorem b_X12_boards_92 {x1 : Int} {x3 : Int} {y0 : Int} (hD : 3 ≤ D) (h : ((y0 = 0 → NW sc d_X12_carried 0 (0, [some (.inr (.inl (some 303))), some (.inl x1), none, none], [], (J, L, W), 0, 0) (fun v M9 => NW sc d_X12_boards D (107, [some (.inr (.inl (some 303))), some (.inl x1), none, some (.inl x3)], nw_push v [], M9, c, sl) Qr Qx) Qx) ∧ (¬ y0 = 0 → Qr (some (.inl 0)) (nw_u (nw_u J 303 10 5) 303 13 4, L, W)))) :
    NW sc d_X12_boards D (92, [some (.inr (.inl (some 303))), some (.inl x1), none, some (.inl x3)], [.inl y0], (J, L, W), c, sl) Qr Qx := by
  refine nw_if_eq l_X12_boards_92 95 rfl (fun q1 => ?_) (fun q1 => ?_)
  · replace h := h.1 q1
    refine nw_aload_n l_X12_boards_102 103 rfl rfl ?_
    refine nw_iload_n l_X12_boards_103 104 rfl rfl ?_
    refine nw_call0 0 303 l_X12_boards_104 rfl rfl g_X12_carried (Nat.lt_of_lt_of_le (by decide) hD) rfl (Or.inl ⟨_, rfl, k_303⟩) (ls' := [some (.inr (.inl (some 303))), some (.inl x1), none, none]) rfl (st' := []) rfl 107 rfl ?_
    exact h
  · replace h := h.2 q1
    refine nw_aload_n l_X12_boards_95 96 rfl rfl ?_
    refine nw_iconst (len := 0) l_X12_boards_96 97 rfl c_5 ?_
    refine nw_iconst (len := 0) l_X12_boards_97 98 rfl c_4 ?_
    refine nw_call0 1 303 l_X12_boards_98 rfl rfl g_X12_refuses (Nat.lt_of_lt_of_le (by decide) hD) rfl (Or.inl ⟨_, rfl, k_303⟩) (ls' := [some (.inr (.inl (some 303))), some (.inl 5), some (.inl 4)]) rfl (st' := []) rfl 101 rfl ?_
    refine nw_aload_n l_X12_refuses_0 1 rfl rfl ?_
    refine nw_iload_n l_X12_refuses_1 2 rfl rfl ?_
    refine nw_putI l_X12_refuses_2 5 rfl k_303 ?_
    refine nw_aload_n l_X12_refuses_5 6 rfl rfl ?_
    refine nw_iload_n l_X12_refuses_6 7 rfl rfl ?_
    refine nw_call0 0 303 l_X12_refuses_7 rfl rfl g_X12_fails (by decide) rfl (Or.inl ⟨_, rfl, k_303⟩) (ls' := [some (.inr (.inl (some 303))), some (.inl 4)]) rfl (st' := []) rfl 10 rfl ?_
    refine nw_aload_n l_X12_fails_0 1 rfl rfl ?_
    refine nw_iload_n l_X12_fails_1 2 rfl rfl ?_
    refine nw_putI l_X12_fails_2 5 rfl k_303 ?_
    refine nw_iconst (len := 0) l_X12_fails_5 6 rfl c_0 ?_
    refine nw_ireturn l_X12_fails_6 rfl ?_
    refine nw_ireturn l_X12_refuses_10 rfl ?_
    refine nw_ireturn l_X12_boards_101 rfl ?_
    exact h
theorem b_X12_boards_107 {x1 : Int} {x3 : Int} {y0 : Int} (hD : 3 ≤ D) (h : ((-2147483648 ≤ 101 + x3 ∧ 101 + x3 < 2147483648) ∧ ((0 ≤ 101 + x3 ∧ 101 + x3 < 161) ∧ ((-2147483648 ≤ y0 + (J 304 (101 + x3)) ∧ y0 + (J 304 (101 + x3)) < 2147483648) ∧ ((-2147483648 ≤ 68 + x1 ∧ 68 + x1 < 2147483648) ∧ ((0 ≤ 68 + x1 ∧ 68 + x1 < 161) ∧ ((y0 + (J 304 (101 + x3)) ≤ J 304 (68 + x1) → ((-2147483648 ≤ 111 + x3 ∧ 111 + x3 < 2147483648) ∧ ((0 ≤ 111 + x3 ∧ 111 + x3 < 161) ∧ ((¬ J 304 (111 + x3) = 0 → ((-2147483648 ≤ 121 + x3 ∧ 121 + x3 < 2147483648) ∧ ((-2147483648 ≤ 10 + x1 ∧ 10 + x1 < 2147483648) ∧ ((0 ≤ 121 + x3 ∧ 121 + x3 < 161) ∧ NW sc d_X12_carried 0 (0, [some (.inr (.inl (some 303))), some (.inl x1), none, none], [], (nw_u J 304 (121 + x3) (10 + x1), L, W), 0, 0) (fun v M9 => NW sc d_X12_boards D (176, [none, none, none, none], nw_push v [.inr (.inl (some 303))], M9, c, sl) Qr Qx) Qx)))) ∧ (J 304 (111 + x3) = 0 → Qr (some (.inl 0)) (nw_u (nw_u J 303 10 7) 303 13 4, L, W)))))) ∧ (J 304 (68 + x1) < y0 + (J 304 (101 + x3)) → Qr (some (.inl 0)) (nw_u (nw_u J 303 10 6) 303 13 4, L, W))))))))) :
    NW sc d_X12_boards D (107, [some (.inr (.inl (some 303))), some (.inl x1), none, some (.inl x3)], [.inl y0], (J, L, W), c, sl) Qr Qx := by
  refine nw_aload_n l_X12_boards_107 108 rfl rfl ?_
  refine nw_getA l_X12_boards_108 111 rfl k_303 r_303_0 ?_
  refine nw_bipush (len := 0) l_X12_boards_111 113 rfl c_101 ?_
  refine nw_iload_n l_X12_boards_113 114 rfl rfl ?_
  have o1 := h.1
  replace h := h.2
  refine nw_iadd l_X12_boards_114 115 rfl o1 ?_
  have o2 := h.1
  replace h := h.2
  refine nw_iald l_X12_boards_115 116 rfl k_304 o2 (v := J 304 (101 + x3)) rfl ?_
  have o3 := h.1
  replace h := h.2
  refine nw_iadd l_X12_boards_116 117 rfl o3 ?_
  refine nw_aload_n l_X12_boards_117 118 rfl rfl ?_
  refine nw_getA l_X12_boards_118 121 rfl k_303 r_303_0 ?_
  refine nw_bipush (len := 0) l_X12_boards_121 123 rfl c_68 ?_
  refine nw_iload_n l_X12_boards_123 124 rfl rfl ?_
  have o4 := h.1
  replace h := h.2
  refine nw_iadd l_X12_boards_124 125 rfl o4 ?_
  have o5 := h.1
  replace h := h.2
  refine nw_iald l_X12_boards_125 126 rfl k_304 o5 (v := J 304 (68 + x1)) rfl ?_
  refine nw_ic_le l_X12_boards_126 129 rfl (fun q6 => ?_) (fun q6 => ?_)
  · replace h := h.1 q6
    refine nw_aload_n l_X12_boards_137 138 rfl rfl ?_
    refine nw_getA l_X12_boards_138 141 rfl k_303 r_303_0 ?_
    refine nw_bipush (len := 0) l_X12_boards_141 143 rfl c_111 ?_
    refine nw_iload_n l_X12_boards_143 144 rfl rfl ?_
    have o7 := h.1
    replace h := h.2
    refine nw_iadd l_X12_boards_144 145 rfl o7 ?_
    have o8 := h.1
    replace h := h.2
    refine nw_iald l_X12_boards_145 146 rfl k_304 o8 (v := J 304 (111 + x3)) rfl ?_
    refine nw_if_ne l_X12_boards_146 149 rfl (fun q9 => ?_) (fun q9 => ?_)
    · replace h := h.1 q9
      refine nw_aload_n l_X12_boards_157 158 rfl rfl ?_
      refine nw_getA l_X12_boards_158 161 rfl k_303 r_303_0 ?_
      refine nw_bipush (len := 0) l_X12_boards_161 163 rfl c_121 ?_
      refine nw_iload_n l_X12_boards_163 164 rfl rfl ?_
      have o10 := h.1
      replace h := h.2
      refine nw_iadd l_X12_boards_164 165 rfl o10 ?_
      refine nw_bipush (len := 0) l_X12_boards_165 167 rfl c_10 ?_
      refine nw_iload_n l_X12_boards_167 168 rfl rfl ?_
      have o11 := h.1
      replace h := h.2
      refine nw_iadd l_X12_boards_168 169 rfl o11 ?_
      have o12 := h.1
      replace h := h.2
      refine nw_iast l_X12_boards_169 170 rfl k_304 o12 ?_
      refine nw_aload_n l_X12_boards_170 171 rfl rfl ?_
      refine nw_aload_n l_X12_boards_171 172 rfl rfl ?_
      refine nw_iload_n l_X12_boards_172 173 rfl rfl ?_
      refine nw_drop (ls' := [none, none, none, none]) ⟨True.intro, ⟨True.intro, ⟨True.intro, ⟨True.intro, True.intro⟩⟩⟩⟩ ?_
      refine nw_call0 0 303 l_X12_boards_173 rfl rfl g_X12_carried (Nat.lt_of_lt_of_le (by decide) hD) rfl (Or.inl ⟨_, rfl, k_303⟩) (ls' := [some (.inr (.inl (some 303))), some (.inl x1), none, none]) rfl (st' := [.inr (.inl (some 303))]) rfl 176 rfl ?_
      exact h
    · replace h := h.2 q9
      refine nw_aload_n l_X12_boards_149 150 rfl rfl ?_
      refine nw_bipush (len := 0) l_X12_boards_150 152 rfl c_7 ?_
      refine nw_iconst (len := 0) l_X12_boards_152 153 rfl c_4 ?_
      refine nw_call0 1 303 l_X12_boards_153 rfl rfl g_X12_refuses (Nat.lt_of_lt_of_le (by decide) hD) rfl (Or.inl ⟨_, rfl, k_303⟩) (ls' := [some (.inr (.inl (some 303))), some (.inl 7), some (.inl 4)]) rfl (st' := []) rfl 156 rfl ?_
      refine nw_aload_n l_X12_refuses_0 1 rfl rfl ?_
      refine nw_iload_n l_X12_refuses_1 2 rfl rfl ?_
      refine nw_putI l_X12_refuses_2 5 rfl k_303 ?_
      refine nw_aload_n l_X12_refuses_5 6 rfl rfl ?_
      refine nw_iload_n l_X12_refuses_6 7 rfl rfl ?_
      refine nw_call0 0 303 l_X12_refuses_7 rfl rfl g_X12_fails (by decide) rfl (Or.inl ⟨_, rfl, k_303⟩) (ls' := [some (.inr (.inl (some 303))), some (.inl 4)]) rfl (st' := []) rfl 10 rfl ?_
      refine nw_aload_n l_X12_fails_0 1 rfl rfl ?_
      refine nw_iload_n l_X12_fails_1 2 rfl rfl ?_
      refine nw_putI l_X12_fails_2 5 rfl k_303 ?_
      refine nw_iconst (len := 0) l_X12_fails_5 6 rfl c_0 ?_
      refine nw_ireturn l_X12_fails_6 rfl ?_
      refine nw_ireturn l_X12_refuses_10 rfl ?_
      refine nw_ireturn l_X12_boards_156 rfl ?_
      exact h
  · replace h := h.2 q6
    refine nw_aload_n l_X12_boards_129 130 rfl rfl ?_
    refine nw_bipush (len := 0) l_X12_boards_130 132 rfl c_6 ?_
    refine nw_iconst (len := 0) l_X12_boards_132 133 rfl c_4 ?_
    refine nw_call0 1 303 l_X12_boards_133 rfl rfl g_X12_refuses (Nat.lt_of_lt_of_le (by decide) hD) rfl (Or.inl ⟨_, rfl, k_303⟩) (ls' := [some (.inr (.inl (some 303))), some (.inl 6), some (.inl 4)]) rfl (st' := []) rfl 136 rfl ?_
    refine nw_aload_n l_X12_refuses_0 1 rfl rfl ?_
    refine nw_iload_n l_X12_refuses_1 2 rfl rfl ?_
    refine nw_putI l_X12_refuses_2 5 rfl k_303 ?_
    refine nw_aload_n l_X12_refuses_5 6 rfl rfl ?_
    refine nw_iload_n l_X12_refuses_6 7 rfl rfl ?_
    refine nw_call0 0 303 l_X12_refuses_7 rfl rfl g_X12_fails (by decide) rfl (Or.inl ⟨_, rfl, k_303⟩) (ls' := [some (.inr (.inl (some 303))), some (.inl 4)]) rfl (st' := []) rfl 10 rfl ?_
    refine nw_aload_n l_X12_fails_0 1 rfl rfl ?_
    refine nw_iload_n l_X12_fails_1 2 rfl rfl ?_
    refine nw_putI l_X12_fails_2 5 rfl k_303 ?_
    refine nw_iconst (len := 0) l_X12_fails_5 6 rfl c_0 ?_
    refine nw_ireturn l_X12_fails_6 rfl ?_
    refine nw_ireturn l_X12_refuses_10 rfl ?_
    refine nw_ireturn l_X12_boards_136 rfl ?_
    exact h
theorem b_X12_boards_176 {y0 : Int} (hD : 3 ≤ D) (h : Qr (some (.inl y0)) (nw_u J 303 13 0, L, W)) :
    NW sc d_X12_boards D (176, [none, none, none, none], [.inl y0, .inr (.inl (some 303))], (J, L, W), c, sl) Qr Qx := by
  refine nw_call0 0 303 l_X12_boards_176 rfl rfl g_X12_done (Nat.lt_of_lt_of_le (by decide) hD) rfl (Or.inl ⟨_, rfl, k_303⟩) (ls' := [some (.inr (.inl (some 303))), some (.inl y0)]) rfl (st' := []) rfl 179 rfl ?_
  refine nw_aload_n l_X12_done_0 1 rfl rfl ?_
  refine nw_iconst (len := 0) l_X12_done_1 2 rfl c_0 ?_
  refine nw_putI l_X12_done_2 5 rfl k_303 ?_
  refine nw_iload_n l_X12_done_5 6 rfl rfl ?_
  refine nw_ireturn l_X12_done_6 rfl ?_
  refine nw_ireturn l_X12_boards_179 rfl ?_
  exact h
theorem b_X12_carried_0 {x1 : Int} (h : NW sc d_X12_carried D (4, [some (.inr (.inl (some 303))), some (.inl x1), some (.inl 0), some (.inl 0)], [], (J, L, W), c, sl) Qr Qx) :
    NW sc d_X12_carried D (0, [some (.inr (.inl (some 303))), some (.inl x1), none, none], [], (J, L, W), c, sl) Qr Qx := by
  refine nw_iconst (len := 0) l_X12_carried_0 1 rfl c_0 ?_
  refine nw_istore_n l_X12_carried_1 2 rfl rfl (ls' := [some (.inr (.inl (some 303))), some (.inl x1), some (.inl 0), none]) rfl ?_
  refine nw_iconst (len := 0) l_X12_carried_2 3 rfl c_0 ?_
  refine nw_istore_n l_X12_carried_3 4 rfl rfl (ls' := [some (.inr (.inl (some 303))), some (.inl x1), some (.inl 0), some (.inl 0)]) rfl ?_
  exact h
theorem b_X12_carried_4 {x1 : Int} {x2 : Int} {x3 : Int} (h : ((J 304 4 ≤ x3 → Qr (some (.inl x2)) (J, L, W)) ∧ (x3 < J 304 4 → ((-2147483648 ≤ 121 + x3 ∧ 121 + x3 < 2147483648) ∧ ((0 ≤ 121 + x3 ∧ 121 + x3 < 161) ∧ ((-2147483648 ≤ 10 + x1 ∧ 10 + x1 < 2147483648) ∧ ((¬ J 304 (121 + x3) = 10 + x1 → ((-2147483648 ≤ x2 + 0 ∧ x2 + 0 < 2147483648) ∧ ((-2147483648 ≤ x3 + 1 ∧ x3 + 1 < 2147483648) ∧ NW sc d_X12_carried D (4, [some (.inr (.inl (some 303))), some (.inl x1), some (.inl (x2 + 0)), some (.inl (x3 + 1))], [], (J, L, W), c, sl) Qr Qx))) ∧ (J 304 (121 + x3) = 10 + x1 → ((-2147483648 ≤ 101 + x3 ∧ 101 + x3 < 2147483648) ∧ ((0 ≤ 101 + x3 ∧ 101 + x3 < 161) ∧ ((-2147483648 ≤ x2 + (J 304 (101 + x3)) ∧ x2 + (J 304 (101 + x3)) < 2147483648) ∧ ((-2147483648 ≤ x3 + 1 ∧ x3 + 1 < 2147483648) ∧ NW sc d_X12_carried D (4, [some (.inr (.inl (some 303))), some (.inl x1), some (.inl (x2 + (J 304 (101 + x3)))), some (.inl (x3 + 1))], [], (J, L, W), c, sl) Qr Qx)))))))))))) :
    NW sc d_X12_carried D (4, [some (.inr (.inl (some 303))), some (.inl x1), some (.inl x2), some (.inl x3)], [], (J, L, W), c, sl) Qr Qx := by
  refine nw_iload_n l_X12_carried_4 5 rfl rfl ?_
  refine nw_aload_n l_X12_carried_5 6 rfl rfl ?_
  refine nw_getA l_X12_carried_6 9 rfl k_303 r_303_0 ?_
  refine nw_iconst (len := 0) l_X12_carried_9 10 rfl c_4 ?_
  refine nw_iald l_X12_carried_10 11 rfl k_304 ⟨by decide, by decide⟩ (v := J 304 4) rfl ?_
  refine nw_ic_ge l_X12_carried_11 14 rfl (fun q1 => ?_) (fun q1 => ?_)
  · replace h := h.1 q1
    refine nw_iload_n l_X12_carried_52 53 rfl rfl ?_
    refine nw_ireturn l_X12_carried_53 rfl ?_
    exact h
  · replace h := h.2 q1
    refine nw_iload_n l_X12_carried_14 15 rfl rfl ?_
    refine nw_aload_n l_X12_carried_15 16 rfl rfl ?_
    refine nw_getA l_X12_carried_16 19 rfl k_303 r_303_0 ?_
    refine nw_bipush (len := 0) l_X12_carried_19 21 rfl c_121 ?_
    refine nw_iload_n l_X12_carried_21 22 rfl rfl ?_
    have o2 := h.1
    replace h := h.2
    refine nw_iadd l_X12_carried_22 23 rfl o2 ?_
    have o3 := h.1
    replace h := h.2
    refine nw_iald l_X12_carried_23 24 rfl k_304 o3 (v := J 304 (121 + x3)) rfl ?_
    refine nw_bipush (len := 0) l_X12_carried_24 26 rfl c_10 ?_
    refine nw_iload_n l_X12_carried_26 27 rfl rfl ?_
    have o4 := h.1
    replace h := h.2
    refine nw_iadd l_X12_carried_27 28 rfl o4 ?_
    refine nw_ic_ne l_X12_carried_28 31 rfl (fun q5 => ?_) (fun q5 => ?_)
    · replace h := h.1 q5
      refine nw_iconst (len := 0) l_X12_carried_43 44 rfl c_0 ?_
      have o6 := h.1
      replace h := h.2
      refine nw_iadd l_X12_carried_44 45 rfl o6 ?_
      refine nw_istore_n l_X12_carried_45 46 rfl rfl (ls' := [some (.inr (.inl (some 303))), some (.inl x1), some (.inl (x2 + 0)), some (.inl x3)]) rfl ?_
      have o7 := h.1
      replace h := h.2
      refine nw_iinc l_X12_carried_46 49 rfl 1 (by decide) rfl rfl o7 (ls' := [some (.inr (.inl (some 303))), some (.inl x1), some (.inl (x2 + 0)), some (.inl (x3 + 1))]) rfl ?_
      refine nw_goto l_X12_carried_49 ?_
      exact h
    · replace h := h.2 q5
      refine nw_aload_n l_X12_carried_31 32 rfl rfl ?_
      refine nw_getA l_X12_carried_32 35 rfl k_303 r_303_0 ?_
      refine nw_bipush (len := 0) l_X12_carried_35 37 rfl c_101 ?_
      refine nw_iload_n l_X12_carried_37 38 rfl rfl ?_
      have o8 := h.1
      replace h := h.2
      refine nw_iadd l_X12_carried_38 39 rfl o8 ?_
      have o9 := h.1
      replace h := h.2
      refine nw_iald l_X12_carried_39 40 rfl k_304 o9 (v := J 304 (101 + x3)) rfl ?_
      refine nw_goto l_X12_carried_40 ?_
      have o10 := h.1
      replace h := h.2
      refine nw_iadd l_X12_carried_44 45 rfl o10 ?_
      refine nw_istore_n l_X12_carried_45 46 rfl rfl (ls' := [some (.inr (.inl (some 303))), some (.inl x1), some (.inl (x2 + (J 304 (101 + x3)))), some (.inl x3)]) rfl ?_
      have o11 := h.1
      replace h := h.2
      refine nw_iinc l_X12_carried_46 49 rfl 1 (by decide) rfl rfl o11 (ls' := [some (.inr (.inl (some 303))), some (.inl x1), some (.inl (x2 + (J 304 (101 + x3)))), some (.inl (x3 + 1))]) rfl ?_
      refine nw_goto l_X12_carried_49 ?_
      exact h
theorem b_X12_carriesOut_0 {x1 : Int} (hD : 5 ≤ D) (h : ((-2147483648 ≤ x1 + 1 ∧ x1 + 1 < 2147483648) ∧ ((0 ≤ x1 + 1 ∧ x1 + 1 < 300) ∧ ((-2147483648 ≤ x1 + 2 ∧ x1 + 2 < 2147483648) ∧ ((0 ≤ x1 + 2 ∧ x1 + 2 < 300) ∧ ((0 ≤ x1 ∧ x1 < 300) ∧ ((J 313 x1 = 98 → NW sc d_X12_boards 3 (0, [some (.inr (.inl (some 303))), some (.inl (J 313 (x1 + 1))), some (.inl (J 313 (x1 + 2))), none], [], (J, L, W), 0, 0) (fun v M9 => NW sc d_X12_carriesOut D (192, [none, none, none, none], nw_push v [], M9, c, sl) Qr Qx) Qx) ∧ (¬ J 313 x1 = 98 → ((J 313 x1 = 99 → NW sc d_X12_addsCrater 1 (0, [some (.inr (.inl (some 303))), some (.inl (J 313 (x1 + 1)))], [], (J, L, W), 0, 0) (fun v M9 => NW sc d_X12_carriesOut D (117, [none, none, none, none], nw_push v [], M9, c, sl) Qr Qx) Qx) ∧ (¬ J 313 x1 = 99 → ((J 313 x1 = 100 → NW sc d_X12_passes 4 (0, [some (.inr (.inl (some 303))), some (.inl (J 313 (x1 + 1))), none, none], [], (J, L, W), 0, 0) (fun v M9 => NW sc d_X12_carriesOut D (216, [none, none, none, none], nw_push v [], M9, c, sl) Qr Qx) Qx) ∧ (¬ J 313 x1 = 100 → ((J 313 x1 = 101 → NW sc d_X12_passes 4 (0, [some (.inr (.inl (some 303))), some (.inl (J 313 (x1 + 1))), none, none], [], (J, L, W), 0, 0) (fun v M9 => NW sc d_X12_carriesOut D (216, [none, none, none, none], nw_push v [], M9, c, sl) Qr Qx) Qx) ∧ (¬ J 313 x1 = 101 → ((J 313 x1 = 102 → ((-2147483648 ≤ x1 + 3 ∧ x1 + 3 < 2147483648) ∧ ((0 ≤ x1 + 3 ∧ x1 + 3 < 300) ∧ NW sc d_X12_addsFerry 2 (0, [some (.inr (.inl (some 303))), some (.inl (J 313 (x1 + 1))), some (.inl (J 313 (x1 + 2))), some (.inl (J 313 (x1 + 3))), none], [], (J, L, W), 0, 0) (fun v M9 => NW sc d_X12_carriesOut D (155, [none, none, none, none], nw_push v [], M9, c, sl) Qr Qx) Qx))) ∧ (¬ J 313 x1 = 102 → ((J 313 x1 = 103 → NW sc d_X12_passes 4 (0, [some (.inr (.inl (some 303))), some (.inl (J 313 (x1 + 1))), none, none], [], (J, L, W), 0, 0) (fun v M9 => NW sc d_X12_carriesOut D (216, [none, none, none, none], nw_push v [], M9, c, sl) Qr Qx) Qx) ∧ (¬ J 313 x1 = 103 → ((J 313 x1 = 104 → ((-2147483648 ≤ x1 + 3 ∧ x1 + 3 < 2147483648) ∧ ((0 ≤ x1 + 3 ∧ x1 + 3 < 300) ∧ ((-2147483648 ≤ x1 + 4 ∧ x1 + 4 < 2147483648) ∧ ((0 ≤ x1 + 4 ∧ x1 + 4 < 300) ∧ NW sc d_X12_addsChannel 3 (0, [some (.inr (.inl (some 303))), some (.inl (J 313 (x1 + 1))), some (.inl (J 313 (x1 + 2))), some (.inl (J 313 (x1 + 3))), some (.inl (J 313 (x1 + 4))), none], [], (J, L, W), 0, 0) (fun v M9 => NW sc d_X12_carriesOut D (140, [none, none, none, none], nw_push v [], M9, c, sl) Qr Qx) Qx))))) ∧ (¬ J 313 x1 = 104 → ((J 313 x1 = 105 → NW sc d_X12_passes 4 (0, [some (.inr (.inl (some 303))), some (.inl (J 313 (x1 + 1))), none, none], [], (J, L, W), 0, 0) (fun v M9 => NW sc d_X12_carriesOut D (216, [none, none, none, none], nw_push v [], M9, c, sl) Qr Qx) Qx) ∧ (¬ J 313 x1 = 105 → ((J 313 x1 = 106 → NW sc d_X12_passes 4 (0, [some (.inr (.inl (some 303))), some (.inl (J 313 (x1 + 1))), none, none], [], (J, L, W), 0, 0) (fun v M9 => NW sc d_X12_carriesOut D (216, [none, none, none, none], nw_push v [], M9, c, sl) Qr Qx) Qx) ∧ (¬ J 313 x1 = 106 → ((J 313 x1 = 107 → NW sc d_X12_passes 4 (0, [some (.inr (.inl (some 303))), some (.inl (J 313 (x1 + 1))), none, none], [], (J, L, W), 0, 0) (fun v M9 => NW sc d_X12_carriesOut D (216, [none, none, none, none], nw_push v [], M9, c, sl) Qr Qx) Qx) ∧ (¬ J 313 x1 = 107 → ((J 313 x1 = 108 → NW sc d_X12_lands 3 (0, [some (.inr (.inl (some 303))), some (.inl (J 313 (x1 + 1))), none, none, none], [], (J, L, W), 0, 0) (fun v M9 => NW sc d_X12_carriesOut D (198, [none, none, none, none], nw_push v [], M9, c, sl) Qr Qx) Qx) ∧ (¬ J 313 x1 = 108 → ((J 313 x1 = 109 → ((-2147483648 ≤ x1 + 3 ∧ x1 + 3 < 2147483648) ∧ ((0 ≤ x1 + 3 ∧ x1 + 3 < 300) ∧ ((-2147483648 ≤ x1 + 4 ∧ x1 + 4 < 2147483648) ∧ ((0 ≤ x1 + 4 ∧ x1 + 4 < 300) ∧ NW sc d_X12_addsMoon 3 (0, [some (.inr (.inl (some 303))), some (.inl (J 313 (x1 + 1))), some (.inl (J 313 (x1 + 2))), some (.inl (J 313 (x1 + 3))), some (.inl (J 313 (x1 + 4))), none], [], (J, L, W), 0, 0) (fun v M9 => NW sc d_X12_carriesOut D (178, [none, none, none, none], nw_push v [], M9, c, sl) Qr Qx) Qx))))) ∧ (¬ J 313 x1 = 109 → ((J 313 x1 = 110 → NW sc d_X12_passes 4 (0, [some (.inr (.inl (some 303))), some (.inl (J 313 (x1 + 1))), none, none], [], (J, L, W), 0, 0) (fun v M9 => NW sc d_X12_carriesOut D (216, [none, none, none, none], nw_push v [], M9, c, sl) Qr Qx) Qx) ∧ (¬ J 313 x1 = 110 → ((J 313 x1 = 111 → NW sc d_X12_loads 3 (0, [some (.inr (.inl (some 303))), some (.inl (J 313 (x1 + 1))), none, none, none], [], (J, L, W), 0, 0) (fun v M9 => NW sc d_X12_carriesOut D (204, [none, none, none, none], nw_push v [], M9, c, sl) Qr Qx) Qx) ∧ (¬ J 313 x1 = 111 → ((J 313 x1 = 112 → NW sc d_X12_passes 4 (0, [some (.inr (.inl (some 303))), some (.inl (J 313 (x1 + 1))), none, none], [], (J, L, W), 0, 0) (fun v M9 => NW sc d_X12_carriesOut D (216, [none, none, none, none], nw_push v [], M9, c, sl) Qr Qx) Qx) ∧ (¬ J 313 x1 = 112 → ((J 313 x1 = 113 → NW sc d_X12_passes 4 (0, [some (.inr (.inl (some 303))), some (.inl (J 313 (x1 + 1))), none, none], [], (J, L, W), 0, 0) (fun v M9 => NW sc d_X12_carriesOut D (216, [none, none, none, none], nw_push v [], M9, c, sl) Qr Qx) Qx) ∧ (¬ J 313 x1 = 113 → ((J 313 x1 = 114 → NW sc d_X12_rescues 3 (0, [some (.inr (.inl (some 303))), some (.inl (J 313 (x1 + 1))), none, none], [], (J, L, W), 0, 0) (fun v M9 => NW sc d_X12_carriesOut D (210, [none, none, none, none], nw_push v [], M9, c, sl) Qr Qx) Qx) ∧ (¬ J 313 x1 = 114 → ((J 313 x1 = 115 → NW sc d_X12_sailsTo 3 (0, [some (.inr (.inl (some 303))), some (.inl (J 313 (x1 + 1))), some (.inl (J 313 (x1 + 2))), none], [], (J, L, W), 0, 0) (fun v M9 => NW sc d_X12_carriesOut D (185, [none, none, none, none], nw_push v [], M9, c, sl) Qr Qx) Qx) ∧ (¬ J 313 x1 = 115 → NW sc d_X12_passes 4 (0, [some (.inr (.inl (some 303))), some (.inl (J 313 (x1 + 1))), none, none], [], (J, L, W), 0, 0) (fun v M9 => NW sc d_X12_carriesOut D (216, [none, none, none, none], nw_push v [], M9, c, sl) Qr Qx) Qx)))))))))))))))))))))))))))))))))))))))))) :
    NW sc d_X12_carriesOut D (0, [some (.inr (.inl (some 303))), some (.inl x1), none, none], [], (J, L, W), c, sl) Qr Qx := by
  refine nw_aload_n l_X12_carriesOut_0 1 rfl rfl ?_
  refine nw_getA l_X12_carriesOut_1 4 rfl k_303 r_303_19 ?_
  refine nw_iload_n l_X12_carriesOut_4 5 rfl rfl ?_
  refine nw_iconst (len := 0) l_X12_carriesOut_5 6 rfl c_1 ?_
  have o1 := h.1
  replace h := h.2
  refine nw_iadd l_X12_carriesOut_6 7 rfl o1 ?_
  have o2 := h.1
  replace h := h.2
  refine nw_iald l_X12_carriesOut_7 8 rfl k_313 o2 (v := J 313 (x1 + 1)) rfl ?_
  refine nw_istore_n l_X12_carriesOut_8 9 rfl rfl (ls' := [some (.inr (.inl (some 303))), some (.inl x1), some (.inl (J 313 (x1 + 1))), none]) rfl ?_
  refine nw_aload_n l_X12_carriesOut_9 10 rfl rfl ?_
  refine nw_getA l_X12_carriesOut_10 13 rfl k_303 r_303_19 ?_
  refine nw_iload_n l_X12_carriesOut_13 14 rfl rfl ?_
  refine nw_iconst (len := 0) l_X12_carriesOut_14 15 rfl c_2 ?_
  have o3 := h.1
  replace h := h.2
  refine nw_iadd l_X12_carriesOut_15 16 rfl o3 ?_
  have o4 := h.1
  replace h := h.2
  refine nw_iald l_X12_carriesOut_16 17 rfl k_313 o4 (v := J 313 (x1 + 2)) rfl ?_
  refine nw_istore_n l_X12_carriesOut_17 18 rfl rfl (ls' := [some (.inr (.inl (some 303))), some (.inl x1), some (.inl (J 313 (x1 + 1))), some (.inl (J 313 (x1 + 2)))]) rfl ?_
  refine nw_aload_n l_X12_carriesOut_18 19 rfl rfl ?_
  refine nw_getA l_X12_carriesOut_19 22 rfl k_303 r_303_19 ?_
  refine nw_iload_n l_X12_carriesOut_22 23 rfl rfl ?_
  have o5 := h.1
  replace h := h.2
  refine nw_iald l_X12_carriesOut_23 24 rfl k_313 o5 (v := J 313 x1) rfl ?_
  by_cases q6 : J 313 x1 = 98
  · refine nw_tsIn l_X12_carriesOut_24 186 ⟨by omega, by omega, by rw [q6]; rfl⟩ ?_
    replace h := h.1 q6
    refine nw_aload_n l_X12_carriesOut_186 187 rfl rfl ?_
    refine nw_iload_n l_X12_carriesOut_187 188 rfl rfl ?_
    refine nw_iload_n l_X12_carriesOut_188 189 rfl rfl ?_
    refine nw_drop (ls' := [none, none, none, none]) ⟨True.intro, ⟨True.intro, ⟨True.intro, ⟨True.intro, True.intro⟩⟩⟩⟩ ?_
    refine nw_call0 3 303 l_X12_carriesOut_189 rfl rfl g_X12_boards (Nat.lt_of_lt_of_le (by decide) hD) rfl (Or.inl ⟨_, rfl, k_303⟩) (ls' := [some (.inr (.inl (some 303))), some (.inl (J 313 (x1 + 1))), some (.inl (J 313 (x1 + 2))), none]) rfl (st' := []) rfl 192 rfl ?_
    exact h
  replace h := h.2 q6
  by_cases q7 : J 313 x1 = 99
  · refine nw_tsIn l_X12_carriesOut_24 112 ⟨by omega, by omega, by rw [q7]; rfl⟩ ?_
    replace h := h.1 q7
    refine nw_aload_n l_X12_carriesOut_112 113 rfl rfl ?_
    refine nw_iload_n l_X12_carriesOut_113 114 rfl rfl ?_
    refine nw_drop (ls' := [none, none, none, none]) ⟨True.intro, ⟨True.intro, ⟨True.intro, ⟨True.intro, True.intro⟩⟩⟩⟩ ?_
    refine nw_call0 1 303 l_X12_carriesOut_114 rfl rfl g_X12_addsCrater (Nat.lt_of_lt_of_le (by decide) hD) rfl (Or.inl ⟨_, rfl, k_303⟩) (ls' := [some (.inr (.inl (some 303))), some (.inl (J 313 (x1 + 1)))]) rfl (st' := []) rfl 117 rfl ?_
    exact h
  replace h := h.2 q7
  by_cases q8 : J 313 x1 = 100
  · refine nw_tsIn l_X12_carriesOut_24 211 ⟨by omega, by omega, by rw [q8]; rfl⟩ ?_
    replace h := h.1 q8
    refine nw_aload_n l_X12_carriesOut_211 212 rfl rfl ?_
    refine nw_iload_n l_X12_carriesOut_212 213 rfl rfl ?_
    refine nw_drop (ls' := [none, none, none, none]) ⟨True.intro, ⟨True.intro, ⟨True.intro, ⟨True.intro, True.intro⟩⟩⟩⟩ ?_
    refine nw_call0 4 303 l_X12_carriesOut_213 rfl rfl g_X12_passes (Nat.lt_of_lt_of_le (by decide) hD) rfl (Or.inl ⟨_, rfl, k_303⟩) (ls' := [some (.inr (.inl (some 303))), some (.inl (J 313 (x1 + 1))), none, none]) rfl (st' := []) rfl 216 rfl ?_
    exact h
  replace h := h.2 q8
  by_cases q9 : J 313 x1 = 101
  · refine nw_tsIn l_X12_carriesOut_24 211 ⟨by omega, by omega, by rw [q9]; rfl⟩ ?_
    replace h := h.1 q9
    refine nw_aload_n l_X12_carriesOut_211 212 rfl rfl ?_
    refine nw_iload_n l_X12_carriesOut_212 213 rfl rfl ?_
    refine nw_drop (ls' := [none, none, none, none]) ⟨True.intro, ⟨True.intro, ⟨True.intro, ⟨True.intro, True.intro⟩⟩⟩⟩ ?_
    refine nw_call0 4 303 l_X12_carriesOut_213 rfl rfl g_X12_passes (Nat.lt_of_lt_of_le (by decide) hD) rfl (Or.inl ⟨_, rfl, k_303⟩) (ls' := [some (.inr (.inl (some 303))), some (.inl (J 313 (x1 + 1))), none, none]) rfl (st' := []) rfl 216 rfl ?_
    exact h
  replace h := h.2 q9
  by_cases q10 : J 313 x1 = 102
  · refine nw_tsIn l_X12_carriesOut_24 141 ⟨by omega, by omega, by rw [q10]; rfl⟩ ?_
    replace h := h.1 q10
    refine nw_aload_n l_X12_carriesOut_141 142 rfl rfl ?_
    refine nw_iload_n l_X12_carriesOut_142 143 rfl rfl ?_
    refine nw_iload_n l_X12_carriesOut_143 144 rfl rfl ?_
    refine nw_aload_n l_X12_carriesOut_144 145 rfl rfl ?_
    refine nw_getA l_X12_carriesOut_145 148 rfl k_303 r_303_19 ?_
    refine nw_iload_n l_X12_carriesOut_148 149 rfl rfl ?_
    refine nw_iconst (len := 0) l_X12_carriesOut_149 150 rfl c_3 ?_
    have o11 := h.1
    replace h := h.2
    refine nw_iadd l_X12_carriesOut_150 151 rfl o11 ?_
    have o12 := h.1
    replace h := h.2
    refine nw_iald l_X12_carriesOut_151 152 rfl k_313 o12 (v := J 313 (x1 + 3)) rfl ?_
    refine nw_drop (ls' := [none, none, none, none]) ⟨True.intro, ⟨True.intro, ⟨True.intro, ⟨True.intro, True.intro⟩⟩⟩⟩ ?_
    refine nw_call0 2 303 l_X12_carriesOut_152 rfl rfl g_X12_addsFerry (Nat.lt_of_lt_of_le (by decide) hD) rfl (Or.inl ⟨_, rfl, k_303⟩) (ls' := [some (.inr (.inl (some 303))), some (.inl (J 313 (x1 + 1))), some (.inl (J 313 (x1 + 2))), some (.inl (J 313 (x1 + 3))), none]) rfl (st' := []) rfl 155 rfl ?_
    exact h
  replace h := h.2 q10
  by_cases q13 : J 313 x1 = 103
  · refine nw_tsIn l_X12_carriesOut_24 211 ⟨by omega, by omega, by rw [q13]; rfl⟩ ?_
    replace h := h.1 q13
    refine nw_aload_n l_X12_carriesOut_211 212 rfl rfl ?_
    refine nw_iload_n l_X12_carriesOut_212 213 rfl rfl ?_
    refine nw_drop (ls' := [none, none, none, none]) ⟨True.intro, ⟨True.intro, ⟨True.intro, ⟨True.intro, True.intro⟩⟩⟩⟩ ?_
    refine nw_call0 4 303 l_X12_carriesOut_213 rfl rfl g_X12_passes (Nat.lt_of_lt_of_le (by decide) hD) rfl (Or.inl ⟨_, rfl, k_303⟩) (ls' := [some (.inr (.inl (some 303))), some (.inl (J 313 (x1 + 1))), none, none]) rfl (st' := []) rfl 216 rfl ?_
    exact h
  replace h := h.2 q13
  by_cases q14 : J 313 x1 = 104
  · refine nw_tsIn l_X12_carriesOut_24 118 ⟨by omega, by omega, by rw [q14]; rfl⟩ ?_
    replace h := h.1 q14
    refine nw_aload_n l_X12_carriesOut_118 119 rfl rfl ?_
    refine nw_iload_n l_X12_carriesOut_119 120 rfl rfl ?_
    refine nw_iload_n l_X12_carriesOut_120 121 rfl rfl ?_
    refine nw_aload_n l_X12_carriesOut_121 122 rfl rfl ?_
    refine nw_getA l_X12_carriesOut_122 125 rfl k_303 r_303_19 ?_
    refine nw_iload_n l_X12_carriesOut_125 126 rfl rfl ?_
    refine nw_iconst (len := 0) l_X12_carriesOut_126 127 rfl c_3 ?_
    have o15 := h.1
    replace h := h.2
    refine nw_iadd l_X12_carriesOut_127 128 rfl o15 ?_
    have o16 := h.1
    replace h := h.2
    refine nw_iald l_X12_carriesOut_128 129 rfl k_313 o16 (v := J 313 (x1 + 3)) rfl ?_
    refine nw_aload_n l_X12_carriesOut_129 130 rfl rfl ?_
    refine nw_getA l_X12_carriesOut_130 133 rfl k_303 r_303_19 ?_
    refine nw_iload_n l_X12_carriesOut_133 134 rfl rfl ?_
    refine nw_iconst (len := 0) l_X12_carriesOut_134 135 rfl c_4 ?_
    have o17 := h.1
    replace h := h.2
    refine nw_iadd l_X12_carriesOut_135 136 rfl o17 ?_
    have o18 := h.1
    replace h := h.2
    refine nw_iald l_X12_carriesOut_136 137 rfl k_313 o18 (v := J 313 (x1 + 4)) rfl ?_
    refine nw_drop (ls' := [none, none, none, none]) ⟨True.intro, ⟨True.intro, ⟨True.intro, ⟨True.intro, True.intro⟩⟩⟩⟩ ?_
    refine nw_call0 3 303 l_X12_carriesOut_137 rfl rfl g_X12_addsChannel (Nat.lt_of_lt_of_le (by decide) hD) rfl (Or.inl ⟨_, rfl, k_303⟩) (ls' := [some (.inr (.inl (some 303))), some (.inl (J 313 (x1 + 1))), some (.inl (J 313 (x1 + 2))), some (.inl (J 313 (x1 + 3))), some (.inl (J 313 (x1 + 4))), none]) rfl (st' := []) rfl 140 rfl ?_
    exact h
  replace h := h.2 q14
  by_cases q19 : J 313 x1 = 105
  · refine nw_tsIn l_X12_carriesOut_24 211 ⟨by omega, by omega, by rw [q19]; rfl⟩ ?_
    replace h := h.1 q19
    refine nw_aload_n l_X12_carriesOut_211 212 rfl rfl ?_
    refine nw_iload_n l_X12_carriesOut_212 213 rfl rfl ?_
    refine nw_drop (ls' := [none, none, none, none]) ⟨True.intro, ⟨True.intro, ⟨True.intro, ⟨True.intro, True.intro⟩⟩⟩⟩ ?_
    refine nw_call0 4 303 l_X12_carriesOut_213 rfl rfl g_X12_passes (Nat.lt_of_lt_of_le (by decide) hD) rfl (Or.inl ⟨_, rfl, k_303⟩) (ls' := [some (.inr (.inl (some 303))), some (.inl (J 313 (x1 + 1))), none, none]) rfl (st' := []) rfl 216 rfl ?_
    exact h
  replace h := h.2 q19
  by_cases q20 : J 313 x1 = 106
  · refine nw_tsIn l_X12_carriesOut_24 211 ⟨by omega, by omega, by rw [q20]; rfl⟩ ?_
    replace h := h.1 q20
    refine nw_aload_n l_X12_carriesOut_211 212 rfl rfl ?_
    refine nw_iload_n l_X12_carriesOut_212 213 rfl rfl ?_
    refine nw_drop (ls' := [none, none, none, none]) ⟨True.intro, ⟨True.intro, ⟨True.intro, ⟨True.intro, True.intro⟩⟩⟩⟩ ?_
    refine nw_call0 4 303 l_X12_carriesOut_213 rfl rfl g_X12_passes (Nat.lt_of_lt_of_le (by decide) hD) rfl (Or.inl ⟨_, rfl, k_303⟩) (ls' := [some (.inr (.inl (some 303))), some (.inl (J 313 (x1 + 1))), none, none]) rfl (st' := []) rfl 216 rfl ?_
    exact h
  replace h := h.2 q20
  by_cases q21 : J 313 x1 = 107
  · refine nw_tsIn l_X12_carriesOut_24 211 ⟨by omega, by omega, by rw [q21]; rfl⟩ ?_
    replace h := h.1 q21
    refine nw_aload_n l_X12_carriesOut_211 212 rfl rfl ?_
    refine nw_iload_n l_X12_carriesOut_212 213 rfl rfl ?_
    refine nw_drop (ls' := [none, none, none, none]) ⟨True.intro, ⟨True.intro, ⟨True.intro, ⟨True.intro, True.intro⟩⟩⟩⟩ ?_
    refine nw_call0 4 303 l_X12_carriesOut_213 rfl rfl g_X12_passes (Nat.lt_of_lt_of_le (by decide) hD) rfl (Or.inl ⟨_, rfl, k_303⟩) (ls' := [some (.inr (.inl (some 303))), some (.inl (J 313 (x1 + 1))), none, none]) rfl (st' := []) rfl 216 rfl ?_
    exact h
  replace h := h.2 q21
  by_cases q22 : J 313 x1 = 108
  · refine nw_tsIn l_X12_carriesOut_24 193 ⟨by omega, by omega, by rw [q22]; rfl⟩ ?_
    replace h := h.1 q22
    refine nw_aload_n l_X12_carriesOut_193 194 rfl rfl ?_
    refine nw_iload_n l_X12_carriesOut_194 195 rfl rfl ?_
    refine nw_drop (ls' := [none, none, none, none]) ⟨True.intro, ⟨True.intro, ⟨True.intro, ⟨True.intro, True.intro⟩⟩⟩⟩ ?_
    refine nw_call0 3 303 l_X12_carriesOut_195 rfl rfl g_X12_lands (Nat.lt_of_lt_of_le (by decide) hD) rfl (Or.inl ⟨_, rfl, k_303⟩) (ls' := [some (.inr (.inl (some 303))), some (.inl (J 313 (x1 + 1))), none, none, none]) rfl (st' := []) rfl 198 rfl ?_
    exact h
  replace h := h.2 q22
  by_cases q23 : J 313 x1 = 109
  · refine nw_tsIn l_X12_carriesOut_24 156 ⟨by omega, by omega, by rw [q23]; rfl⟩ ?_
    replace h := h.1 q23
    refine nw_aload_n l_X12_carriesOut_156 157 rfl rfl ?_
    refine nw_iload_n l_X12_carriesOut_157 158 rfl rfl ?_
    refine nw_iload_n l_X12_carriesOut_158 159 rfl rfl ?_
    refine nw_aload_n l_X12_carriesOut_159 160 rfl rfl ?_
    refine nw_getA l_X12_carriesOut_160 163 rfl k_303 r_303_19 ?_
    refine nw_iload_n l_X12_carriesOut_163 164 rfl rfl ?_
    refine nw_iconst (len := 0) l_X12_carriesOut_164 165 rfl c_3 ?_
    have o24 := h.1
    replace h := h.2
    refine nw_iadd l_X12_carriesOut_165 166 rfl o24 ?_
    have o25 := h.1
    replace h := h.2
    refine nw_iald l_X12_carriesOut_166 167 rfl k_313 o25 (v := J 313 (x1 + 3)) rfl ?_
    refine nw_aload_n l_X12_carriesOut_167 168 rfl rfl ?_
    refine nw_getA l_X12_carriesOut_168 171 rfl k_303 r_303_19 ?_
    refine nw_iload_n l_X12_carriesOut_171 172 rfl rfl ?_
    refine nw_iconst (len := 0) l_X12_carriesOut_172 173 rfl c_4 ?_
    have o26 := h.1
    replace h := h.2
    refine nw_iadd l_X12_carriesOut_173 174 rfl o26 ?_
    have o27 := h.1
    replace h := h.2
    refine nw_iald l_X12_carriesOut_174 175 rfl k_313 o27 (v := J 313 (x1 + 4)) rfl ?_
    refine nw_drop (ls' := [none, none, none, none]) ⟨True.intro, ⟨True.intro, ⟨True.intro, ⟨True.intro, True.intro⟩⟩⟩⟩ ?_
    refine nw_call0 3 303 l_X12_carriesOut_175 rfl rfl g_X12_addsMoon (Nat.lt_of_lt_of_le (by decide) hD) rfl (Or.inl ⟨_, rfl, k_303⟩) (ls' := [some (.inr (.inl (some 303))), some (.inl (J 313 (x1 + 1))), some (.inl (J 313 (x1 + 2))), some (.inl (J 313 (x1 + 3))), some (.inl (J 313 (x1 + 4))), none]) rfl (st' := []) rfl 178 rfl ?_
    exact h
  replace h := h.2 q23
  by_cases q28 : J 313 x1 = 110
  · refine nw_tsIn l_X12_carriesOut_24 211 ⟨by omega, by omega, by rw [q28]; rfl⟩ ?_
    replace h := h.1 q28
    refine nw_aload_n l_X12_carriesOut_211 212 rfl rfl ?_
    refine nw_iload_n l_X12_carriesOut_212 213 rfl rfl ?_
    refine nw_drop (ls' := [none, none, none, none]) ⟨True.intro, ⟨True.intro, ⟨True.intro, ⟨True.intro, True.intro⟩⟩⟩⟩ ?_
    refine nw_call0 4 303 l_X12_carriesOut_213 rfl rfl g_X12_passes (Nat.lt_of_lt_of_le (by decide) hD) rfl (Or.inl ⟨_, rfl, k_303⟩) (ls' := [some (.inr (.inl (some 303))), some (.inl (J 313 (x1 + 1))), none, none]) rfl (st' := []) rfl 216 rfl ?_
    exact h
  replace h := h.2 q28
  by_cases q29 : J 313 x1 = 111
  · refine nw_tsIn l_X12_carriesOut_24 199 ⟨by omega, by omega, by rw [q29]; rfl⟩ ?_
    replace h := h.1 q29
    refine nw_aload_n l_X12_carriesOut_199 200 rfl rfl ?_
    refine nw_iload_n l_X12_carriesOut_200 201 rfl rfl ?_
    refine nw_drop (ls' := [none, none, none, none]) ⟨True.intro, ⟨True.intro, ⟨True.intro, ⟨True.intro, True.intro⟩⟩⟩⟩ ?_
    refine nw_call0 3 303 l_X12_carriesOut_201 rfl rfl g_X12_loads (Nat.lt_of_lt_of_le (by decide) hD) rfl (Or.inl ⟨_, rfl, k_303⟩) (ls' := [some (.inr (.inl (some 303))), some (.inl (J 313 (x1 + 1))), none, none, none]) rfl (st' := []) rfl 204 rfl ?_
    exact h
  replace h := h.2 q29
  by_cases q30 : J 313 x1 = 112
  · refine nw_tsIn l_X12_carriesOut_24 211 ⟨by omega, by omega, by rw [q30]; rfl⟩ ?_
    replace h := h.1 q30
    refine nw_aload_n l_X12_carriesOut_211 212 rfl rfl ?_
    refine nw_iload_n l_X12_carriesOut_212 213 rfl rfl ?_
    refine nw_drop (ls' := [none, none, none, none]) ⟨True.intro, ⟨True.intro, ⟨True.intro, ⟨True.intro, True.intro⟩⟩⟩⟩ ?_
    refine nw_call0 4 303 l_X12_carriesOut_213 rfl rfl g_X12_passes (Nat.lt_of_lt_of_le (by decide) hD) rfl (Or.inl ⟨_, rfl, k_303⟩) (ls' := [some (.inr (.inl (some 303))), some (.inl (J 313 (x1 + 1))), none, none]) rfl (st' := []) rfl 216 rfl ?_
    exact h
  replace h := h.2 q30
  by_cases q31 : J 313 x1 = 113
  · refine nw_tsIn l_X12_carriesOut_24 211 ⟨by omega, by omega, by rw [q31]; rfl⟩ ?_
    replace h := h.1 q31
    refine nw_aload_n l_X12_carriesOut_211 212 rfl rfl ?_
    refine nw_iload_n l_X12_carriesOut_212 213 rfl rfl ?_
    refine nw_drop (ls' := [none, none, none, none]) ⟨True.intro, ⟨True.intro, ⟨True.intro, ⟨True.intro, True.intro⟩⟩⟩⟩ ?_
    refine nw_call0 4 303 l_X12_carriesOut_213 rfl rfl g_X12_passes (Nat.lt_of_lt_of_le (by decide) hD) rfl (Or.inl ⟨_, rfl, k_303⟩) (ls' := [some (.inr (.inl (some 303))), some (.inl (J 313 (x1 + 1))), none, none]) rfl (st' := []) rfl 216 rfl ?_
    exact h
  replace h := h.2 q31
  by_cases q32 : J 313 x1 = 114
  · refine nw_tsIn l_X12_carriesOut_24 205 ⟨by omega, by omega, by rw [q32]; rfl⟩ ?_
    replace h := h.1 q32
    refine nw_aload_n l_X12_carriesOut_205 206 rfl rfl ?_
    refine nw_iload_n l_X12_carriesOut_206 207 rfl rfl ?_
    refine nw_drop (ls' := [none, none, none, none]) ⟨True.intro, ⟨True.intro, ⟨True.intro, ⟨True.intro, True.intro⟩⟩⟩⟩ ?_
    refine nw_call0 3 303 l_X12_carriesOut_207 rfl rfl g_X12_rescues (Nat.lt_of_lt_of_le (by decide) hD) rfl (Or.inl ⟨_, rfl, k_303⟩) (ls' := [some (.inr (.inl (some 303))), some (.inl (J 313 (x1 + 1))), none, none]) rfl (st' := []) rfl 210 rfl ?_
    exact h
  replace h := h.2 q32
  by_cases q33 : J 313 x1 = 115
  · refine nw_tsIn l_X12_carriesOut_24 179 ⟨by omega, by omega, by rw [q33]; rfl⟩ ?_
    replace h := h.1 q33
    refine nw_aload_n l_X12_carriesOut_179 180 rfl rfl ?_
    refine nw_iload_n l_X12_carriesOut_180 181 rfl rfl ?_
    refine nw_iload_n l_X12_carriesOut_181 182 rfl rfl ?_
    refine nw_drop (ls' := [none, none, none, none]) ⟨True.intro, ⟨True.intro, ⟨True.intro, ⟨True.intro, True.intro⟩⟩⟩⟩ ?_
    refine nw_call0 3 303 l_X12_carriesOut_182 rfl rfl g_X12_sailsTo (Nat.lt_of_lt_of_le (by decide) hD) rfl (Or.inl ⟨_, rfl, k_303⟩) (ls' := [some (.inr (.inl (some 303))), some (.inl (J 313 (x1 + 1))), some (.inl (J 313 (x1 + 2))), none]) rfl (st' := []) rfl 185 rfl ?_
    exact h
  replace h := h.2 q33
  refine nw_tsOut l_X12_carriesOut_24 (by omega) ?_
  refine nw_aload_n l_X12_carriesOut_211 212 rfl rfl ?_
  refine nw_iload_n l_X12_carriesOut_212 213 rfl rfl ?_
  refine nw_drop (ls' := [none, none, none, none]) ⟨True.intro, ⟨True.intro, ⟨True.intro, ⟨True.intro, True.intro⟩⟩⟩⟩ ?_
  refine nw_call0 4 303 l_X12_carriesOut_213 rfl rfl g_X12_passes (Nat.lt_of_lt_of_le (by decide) hD) rfl (Or.inl ⟨_, rfl, k_303⟩) (ls' := [some (.inr (.inl (some 303))), some (.inl (J 313 (x1 + 1))), none, none]) rfl (st' := []) rfl 216 rfl ?_
  exact h
theorem b_X12_carriesOut_192 {y0 : Int} (h : Qr (some (.inl y0)) (J, L, W)) :
    NW sc d_X12_carriesOut D (192, [none, none, none, none], [.inl y0], (J, L, W), c, sl) Qr Qx := by
  refine nw_ireturn l_X12_carriesOut_192 rfl ?_
  exact h
theorem b_X12_carriesOut_117 {y0 : Int} (h : Qr (some (.inl y0)) (J, L, W)) :
    NW sc d_X12_carriesOut D (117, [none, none, none, none], [.inl y0], (J, L, W), c, sl) Qr Qx := by
  refine nw_ireturn l_X12_carriesOut_117 rfl ?_
  exact h
theorem b_X12_carriesOut_216 {y0 : Int} (h : Qr (some (.inl y0)) (J, L, W)) :
    NW sc d_X12_carriesOut D (216, [none, none, none, none], [.inl y0], (J, L, W), c, sl) Qr Qx := by
  refine nw_ireturn l_X12_carriesOut_216 rfl ?_
  exact h
theorem b_X12_carriesOut_155 {y0 : Int} (h : Qr (some (.inl y0)) (J, L, W)) :
    NW sc d_X12_carriesOut D (155, [none, none, none, none], [.inl y0], (J, L, W), c, sl) Qr Qx := by
  refine nw_ireturn l_X12_carriesOut_155 rfl ?_
  exact h
theorem b_X12_carriesOut_140 {y0 : Int} (h : Qr (some (.inl y0)) (J, L, W)) :
    NW sc d_X12_carriesOut D (140, [none, none, none, none], [.inl y0], (J, L, W), c, sl) Qr Qx := by
  refine nw_ireturn l_X12_carriesOut_140 rfl ?_
  exact h
theorem b_X12_carriesOut_198 {y0 : Int} (h : Qr (some (.inl y0)) (J, L, W)) :
    NW sc d_X12_carriesOut D (198, [none, none, none, none], [.inl y0], (J, L, W), c, sl) Qr Qx := by
  refine nw_ireturn l_X12_carriesOut_198 rfl ?_
  exact h
theorem b_X12_carriesOut_178 {y0 : Int} (h : Qr (some (.inl y0)) (J, L, W)) :
    NW sc d_X12_carriesOut D (178, [none, none, none, none], [.inl y0], (J, L, W), c, sl) Qr Qx := by
  refine nw_ireturn l_X12_carriesOut_178 rfl ?_
  exact h
theorem b_X12_carriesOut_204 {y0 : Int} (h : Qr (some (.inl y0)) (J, L, W)) :
    NW sc d_X12_carriesOut D (204, [none, none, none, none], [.inl y0], (J, L, W), c, sl) Qr Qx := by
  refine nw_ireturn l_X12_carriesOut_204 rfl ?_
  exact h
theorem b_X12_carriesOut_210 {y0 : Int} (h : Qr (some (.inl y0)) (J, L, W)) :
    NW sc d_X12_carriesOut D (210, [none, none, none, none], [.inl y0], (J, L, W), c, sl) Qr Qx := by
  refine nw_ireturn l_X12_carriesOut_210 rfl ?_
  exact h
theorem b_X12_carriesOut_185 {y0 : Int} (h : Qr (some (.inl y0)) (J, L, W)) :
    NW sc d_X12_carriesOut D (185, [none, none, none, none], [.inl y0], (J, L, W), c, sl) Qr Qx := by
  refine nw_ireturn l_X12_carriesOut_185 rfl ?_
  exact h
theorem b_X12_channelBetween_0 {x1 : Int} {x2 : Int} (hD : 3 ≤ D) (h : ((-2147483648 ≤ (J 304 1) - 1 ∧ (J 304 1) - 1 < 2147483648) ∧ ((x1 < 0 → Qr (some (.inl 0)) (nw_u J 303 13 1, L, W)) ∧ (0 ≤ x1 → (((J 304 1) - 1 < x1 → Qr (some (.inl 0)) (nw_u J 303 13 1, L, W)) ∧ (x1 ≤ (J 304 1) - 1 → ((x2 < 0 → Qr (some (.inl 0)) (nw_u J 303 13 1, L, W)) ∧ (0 ≤ x2 → (((J 304 1) - 1 < x2 → Qr (some (.inl 0)) (nw_u J 303 13 1, L, W)) ∧ (x2 ≤ (J 304 1) - 1 → NW sc d_X12_between 0 (0, [some (.inr (.inl (some 303))), some (.inl x1), some (.inl x2), none, none, none], [], (J, L, W), 0, 0) (fun v M9 => NW sc d_X12_channelBetween D (21, [some (.inr (.inl (some 303))), none, none, none], nw_push v [], M9, c, sl) Qr Qx) Qx)))))))))) :
    NW sc d_X12_channelBetween D (0, [some (.inr (.inl (some 303))), some (.inl x1), some (.inl x2), none], [], (J, L, W), c, sl) Qr Qx := by
  refine nw_aload_n l_X12_channelBetween_0 1 rfl rfl ?_
  refine nw_iload_n l_X12_channelBetween_1 2 rfl rfl ?_
  refine nw_iload_n l_X12_channelBetween_2 3 rfl rfl ?_
  refine nw_call0 2 303 l_X12_channelBetween_3 rfl rfl g_X12_areCraters (Nat.lt_of_lt_of_le (by decide) hD) rfl (Or.inl ⟨_, rfl, k_303⟩) (ls' := [some (.inr (.inl (some 303))), some (.inl x1), some (.inl x2)]) rfl (st' := []) rfl 6 rfl ?_
  refine nw_aload_n l_X12_areCraters_0 1 rfl rfl ?_
  refine nw_iload_n l_X12_areCraters_1 2 rfl rfl ?_
  refine nw_call0 1 303 l_X12_areCraters_2 rfl rfl g_X12_isCrater (by decide) rfl (Or.inl ⟨_, rfl, k_303⟩) (ls' := [some (.inr (.inl (some 303))), some (.inl x1)]) rfl (st' := []) rfl 5 rfl ?_
  refine nw_iload_n l_X12_isCrater_0 1 rfl rfl ?_
  refine nw_iconst (len := 0) l_X12_isCrater_1 2 rfl c_0 ?_
  refine nw_aload_n l_X12_isCrater_2 3 rfl rfl ?_
  refine nw_getA l_X12_isCrater_3 6 rfl k_303 r_303_0 ?_
  refine nw_iconst (len := 0) l_X12_isCrater_6 7 rfl c_1 ?_
  refine nw_iald l_X12_isCrater_7 8 rfl k_304 ⟨by decide, by decide⟩ (v := J 304 1) rfl ?_
  refine nw_iconst (len := 0) l_X12_isCrater_8 9 rfl c_1 ?_
  have o1 := h.1
  replace h := h.2
  refine nw_isub l_X12_isCrater_9 10 rfl o1 ?_
  refine nw_call0 0 0 l_X12_isCrater_10 rfl rfl g_X12_in (by decide) rfl True.intro (ls' := [some (.inl x1), some (.inl 0), some (.inl ((J 304 1) - 1))]) rfl (st' := []) rfl 13 rfl ?_
  refine nw_iload_n l_X12_in_0 1 rfl rfl ?_
  refine nw_iload_n l_X12_in_1 2 rfl rfl ?_
  refine nw_ic_lt l_X12_in_2 5 rfl (fun q2 => ?_) (fun q2 => ?_)
  · replace h := h.1 q2
    refine nw_iconst (len := 0) l_X12_in_14 15 rfl c_0 ?_
    refine nw_ireturnZ l_X12_in_15 rfl (Or.inl rfl) ?_
    refine nw_ireturnZ l_X12_isCrater_13 rfl (Or.inl rfl) ?_
    refine nw_if_eq l_X12_areCraters_5 8 rfl (fun _ => ?_) (fun q => absurd q (by decide))
    refine nw_iconst (len := 0) l_X12_areCraters_20 21 rfl c_0 ?_
    refine nw_ireturnZ l_X12_areCraters_21 rfl (Or.inl rfl) ?_
    refine nw_if_ne l_X12_channelBetween_6 9 rfl (fun q => absurd q (by decide)) (fun _ => ?_)
    refine nw_aload_n l_X12_channelBetween_9 10 rfl rfl ?_
    refine nw_iconst (len := 0) l_X12_channelBetween_10 11 rfl c_1 ?_
    refine nw_call0 0 303 l_X12_channelBetween_11 rfl rfl g_X12_fails (Nat.lt_of_lt_of_le (by decide) hD) rfl (Or.inl ⟨_, rfl, k_303⟩) (ls' := [some (.inr (.inl (some 303))), some (.inl 1)]) rfl (st' := []) rfl 14 rfl ?_
    refine nw_aload_n l_X12_fails_0 1 rfl rfl ?_
    refine nw_iload_n l_X12_fails_1 2 rfl rfl ?_
    refine nw_putI l_X12_fails_2 5 rfl k_303 ?_
    refine nw_iconst (len := 0) l_X12_fails_5 6 rfl c_0 ?_
    refine nw_ireturn l_X12_fails_6 rfl ?_
    refine nw_ireturn l_X12_channelBetween_14 rfl ?_
    exact h
  · replace h := h.2 q2
    refine nw_iload_n l_X12_in_5 6 rfl rfl ?_
    refine nw_iload_n l_X12_in_6 7 rfl rfl ?_
    refine nw_ic_gt l_X12_in_7 10 rfl (fun q3 => ?_) (fun q3 => ?_)
    · replace h := h.1 q3
      refine nw_iconst (len := 0) l_X12_in_14 15 rfl c_0 ?_
      refine nw_ireturnZ l_X12_in_15 rfl (Or.inl rfl) ?_
      refine nw_ireturnZ l_X12_isCrater_13 rfl (Or.inl rfl) ?_
      refine nw_if_eq l_X12_areCraters_5 8 rfl (fun _ => ?_) (fun q => absurd q (by decide))
      refine nw_iconst (len := 0) l_X12_areCraters_20 21 rfl c_0 ?_
      refine nw_ireturnZ l_X12_areCraters_21 rfl (Or.inl rfl) ?_
      refine nw_if_ne l_X12_channelBetween_6 9 rfl (fun q => absurd q (by decide)) (fun _ => ?_)
      refine nw_aload_n l_X12_channelBetween_9 10 rfl rfl ?_
      refine nw_iconst (len := 0) l_X12_channelBetween_10 11 rfl c_1 ?_
      refine nw_call0 0 303 l_X12_channelBetween_11 rfl rfl g_X12_fails (Nat.lt_of_lt_of_le (by decide) hD) rfl (Or.inl ⟨_, rfl, k_303⟩) (ls' := [some (.inr (.inl (some 303))), some (.inl 1)]) rfl (st' := []) rfl 14 rfl ?_
      refine nw_aload_n l_X12_fails_0 1 rfl rfl ?_
      refine nw_iload_n l_X12_fails_1 2 rfl rfl ?_
      refine nw_putI l_X12_fails_2 5 rfl k_303 ?_
      refine nw_iconst (len := 0) l_X12_fails_5 6 rfl c_0 ?_
      refine nw_ireturn l_X12_fails_6 rfl ?_
      refine nw_ireturn l_X12_channelBetween_14 rfl ?_
      exact h
    · replace h := h.2 q3
      refine nw_iconst (len := 0) l_X12_in_10 11 rfl c_1 ?_
      refine nw_goto l_X12_in_11 ?_
      refine nw_ireturnZ l_X12_in_15 rfl (Or.inr rfl) ?_
      refine nw_ireturnZ l_X12_isCrater_13 rfl (Or.inr rfl) ?_
      refine nw_if_eq l_X12_areCraters_5 8 rfl (fun q => absurd q (by decide)) (fun _ => ?_)
      refine nw_aload_n l_X12_areCraters_8 9 rfl rfl ?_
      refine nw_iload_n l_X12_areCraters_9 10 rfl rfl ?_
      refine nw_call0 1 303 l_X12_areCraters_10 rfl rfl g_X12_isCrater (by decide) rfl (Or.inl ⟨_, rfl, k_303⟩) (ls' := [some (.inr (.inl (some 303))), some (.inl x2)]) rfl (st' := []) rfl 13 rfl ?_
      refine nw_iload_n l_X12_isCrater_0 1 rfl rfl ?_
      refine nw_iconst (len := 0) l_X12_isCrater_1 2 rfl c_0 ?_
      refine nw_aload_n l_X12_isCrater_2 3 rfl rfl ?_
      refine nw_getA l_X12_isCrater_3 6 rfl k_303 r_303_0 ?_
      refine nw_iconst (len := 0) l_X12_isCrater_6 7 rfl c_1 ?_
      refine nw_iald l_X12_isCrater_7 8 rfl k_304 ⟨by decide, by decide⟩ (v := J 304 1) rfl ?_
      refine nw_iconst (len := 0) l_X12_isCrater_8 9 rfl c_1 ?_
      refine nw_isub l_X12_isCrater_9 10 rfl o1 ?_
      refine nw_call0 0 0 l_X12_isCrater_10 rfl rfl g_X12_in (by decide) rfl True.intro (ls' := [some (.inl x2), some (.inl 0), some (.inl ((J 304 1) - 1))]) rfl (st' := []) rfl 13 rfl ?_
      refine nw_iload_n l_X12_in_0 1 rfl rfl ?_
      refine nw_iload_n l_X12_in_1 2 rfl rfl ?_
      refine nw_ic_lt l_X12_in_2 5 rfl (fun q4 => ?_) (fun q4 => ?_)
      · replace h := h.1 q4
        refine nw_iconst (len := 0) l_X12_in_14 15 rfl c_0 ?_
        refine nw_ireturnZ l_X12_in_15 rfl (Or.inl rfl) ?_
        refine nw_ireturnZ l_X12_isCrater_13 rfl (Or.inl rfl) ?_
        refine nw_if_eq l_X12_areCraters_13 16 rfl (fun _ => ?_) (fun q => absurd q (by decide))
        refine nw_iconst (len := 0) l_X12_areCraters_20 21 rfl c_0 ?_
        refine nw_ireturnZ l_X12_areCraters_21 rfl (Or.inl rfl) ?_
        refine nw_if_ne l_X12_channelBetween_6 9 rfl (fun q => absurd q (by decide)) (fun _ => ?_)
        refine nw_aload_n l_X12_channelBetween_9 10 rfl rfl ?_
        refine nw_iconst (len := 0) l_X12_channelBetween_10 11 rfl c_1 ?_
        refine nw_call0 0 303 l_X12_channelBetween_11 rfl rfl g_X12_fails (Nat.lt_of_lt_of_le (by decide) hD) rfl (Or.inl ⟨_, rfl, k_303⟩) (ls' := [some (.inr (.inl (some 303))), some (.inl 1)]) rfl (st' := []) rfl 14 rfl ?_
        refine nw_aload_n l_X12_fails_0 1 rfl rfl ?_
        refine nw_iload_n l_X12_fails_1 2 rfl rfl ?_
        refine nw_putI l_X12_fails_2 5 rfl k_303 ?_
        refine nw_iconst (len := 0) l_X12_fails_5 6 rfl c_0 ?_
        refine nw_ireturn l_X12_fails_6 rfl ?_
        refine nw_ireturn l_X12_channelBetween_14 rfl ?_
        exact h
      · replace h := h.2 q4
        refine nw_iload_n l_X12_in_5 6 rfl rfl ?_
        refine nw_iload_n l_X12_in_6 7 rfl rfl ?_
        refine nw_ic_gt l_X12_in_7 10 rfl (fun q5 => ?_) (fun q5 => ?_)
        · replace h := h.1 q5
          refine nw_iconst (len := 0) l_X12_in_14 15 rfl c_0 ?_
          refine nw_ireturnZ l_X12_in_15 rfl (Or.inl rfl) ?_
          refine nw_ireturnZ l_X12_isCrater_13 rfl (Or.inl rfl) ?_
          refine nw_if_eq l_X12_areCraters_13 16 rfl (fun _ => ?_) (fun q => absurd q (by decide))
          refine nw_iconst (len := 0) l_X12_areCraters_20 21 rfl c_0 ?_
          refine nw_ireturnZ l_X12_areCraters_21 rfl (Or.inl rfl) ?_
          refine nw_if_ne l_X12_channelBetween_6 9 rfl (fun q => absurd q (by decide)) (fun _ => ?_)
          refine nw_aload_n l_X12_channelBetween_9 10 rfl rfl ?_
          refine nw_iconst (len := 0) l_X12_channelBetween_10 11 rfl c_1 ?_
          refine nw_call0 0 303 l_X12_channelBetween_11 rfl rfl g_X12_fails (Nat.lt_of_lt_of_le (by decide) hD) rfl (Or.inl ⟨_, rfl, k_303⟩) (ls' := [some (.inr (.inl (some 303))), some (.inl 1)]) rfl (st' := []) rfl 14 rfl ?_
          refine nw_aload_n l_X12_fails_0 1 rfl rfl ?_
          refine nw_iload_n l_X12_fails_1 2 rfl rfl ?_
          refine nw_putI l_X12_fails_2 5 rfl k_303 ?_
          refine nw_iconst (len := 0) l_X12_fails_5 6 rfl c_0 ?_
          refine nw_ireturn l_X12_fails_6 rfl ?_
          refine nw_ireturn l_X12_channelBetween_14 rfl ?_
          exact h
        · replace h := h.2 q5
          refine nw_iconst (len := 0) l_X12_in_10 11 rfl c_1 ?_
          refine nw_goto l_X12_in_11 ?_
          refine nw_ireturnZ l_X12_in_15 rfl (Or.inr rfl) ?_
          refine nw_ireturnZ l_X12_isCrater_13 rfl (Or.inr rfl) ?_
          refine nw_if_eq l_X12_areCraters_13 16 rfl (fun q => absurd q (by decide)) (fun _ => ?_)
          refine nw_iconst (len := 0) l_X12_areCraters_16 17 rfl c_1 ?_
          refine nw_goto l_X12_areCraters_17 ?_
          refine nw_ireturnZ l_X12_areCraters_21 rfl (Or.inr rfl) ?_
          refine nw_if_ne l_X12_channelBetween_6 9 rfl (fun _ => ?_) (fun q => absurd q (by decide))
          refine nw_aload_n l_X12_channelBetween_15 16 rfl rfl ?_
          refine nw_iload_n l_X12_channelBetween_16 17 rfl rfl ?_
          refine nw_iload_n l_X12_channelBetween_17 18 rfl rfl ?_
          refine nw_drop (ls' := [some (.inr (.inl (some 303))), none, none, none]) ⟨rfl, ⟨True.intro, ⟨True.intro, ⟨True.intro, True.intro⟩⟩⟩⟩ ?_
          refine nw_call0 0 303 l_X12_channelBetween_18 rfl rfl g_X12_between (Nat.lt_of_lt_of_le (by decide) hD) rfl (Or.inl ⟨_, rfl, k_303⟩) (ls' := [some (.inr (.inl (some 303))), some (.inl x1), some (.inl x2), none, none, none]) rfl (st' := []) rfl 21 rfl ?_
          exact h
theorem b_X12_channelBetween_21 {y0 : Int} (hD : 3 ≤ D) (h : ((¬ y0 = (-1) → Qr (some (.inl y0)) (nw_u J 303 13 0, L, W)) ∧ (y0 = (-1) → Qr (some (.inl 0)) (nw_u J 303 13 2, L, W)))) :
    NW sc d_X12_channelBetween D (21, [some (.inr (.inl (some 303))), none, none, none], [.inl y0], (J, L, W), c, sl) Qr Qx := by
  refine nw_istore_n l_X12_channelBetween_21 22 rfl rfl (ls' := [some (.inr (.inl (some 303))), none, none, some (.inl y0)]) rfl ?_
  refine nw_iload_n l_X12_channelBetween_22 23 rfl rfl ?_
  refine nw_iconst (len := 0) l_X12_channelBetween_23 24 rfl c_n1 ?_
  refine nw_ic_ne l_X12_channelBetween_24 27 rfl (fun q1 => ?_) (fun q1 => ?_)
  · replace h := h.1 q1
    refine nw_aload_n l_X12_channelBetween_35 36 rfl rfl ?_
    refine nw_iload_n l_X12_channelBetween_36 37 rfl rfl ?_
    refine nw_call0 0 303 l_X12_channelBetween_37 rfl rfl g_X12_done (Nat.lt_of_lt_of_le (by decide) hD) rfl (Or.inl ⟨_, rfl, k_303⟩) (ls' := [some (.inr (.inl (some 303))), some (.inl y0)]) rfl (st' := []) rfl 40 rfl ?_
    refine nw_aload_n l_X12_done_0 1 rfl rfl ?_
    refine nw_iconst (len := 0) l_X12_done_1 2 rfl c_0 ?_
    refine nw_putI l_X12_done_2 5 rfl k_303 ?_
    refine nw_iload_n l_X12_done_5 6 rfl rfl ?_
    refine nw_ireturn l_X12_done_6 rfl ?_
    refine nw_ireturn l_X12_channelBetween_40 rfl ?_
    exact h
  · replace h := h.2 q1
    refine nw_aload_n l_X12_channelBetween_27 28 rfl rfl ?_
    refine nw_iconst (len := 0) l_X12_channelBetween_28 29 rfl c_2 ?_
    refine nw_call0 0 303 l_X12_channelBetween_29 rfl rfl g_X12_fails (Nat.lt_of_lt_of_le (by decide) hD) rfl (Or.inl ⟨_, rfl, k_303⟩) (ls' := [some (.inr (.inl (some 303))), some (.inl 2)]) rfl (st' := []) rfl 32 rfl ?_
    refine nw_aload_n l_X12_fails_0 1 rfl rfl ?_
    refine nw_iload_n l_X12_fails_1 2 rfl rfl ?_
    refine nw_putI l_X12_fails_2 5 rfl k_303 ?_
    refine nw_iconst (len := 0) l_X12_fails_5 6 rfl c_0 ?_
    refine nw_ireturn l_X12_fails_6 rfl ?_
    refine nw_goto l_X12_channelBetween_32 ?_
    refine nw_ireturn l_X12_channelBetween_40 rfl ?_
    exact h
theorem b_X12_channelCount_0  (hD : 1 ≤ D) (h : Qr (some (.inl (J 304 2))) (nw_u J 303 13 0, L, W)) :
    NW sc d_X12_channelCount D (0, [some (.inr (.inl (some 303)))], [], (J, L, W), c, sl) Qr Qx := by
  refine nw_aload_n l_X12_channelCount_0 1 rfl rfl ?_
  refine nw_aload_n l_X12_channelCount_1 2 rfl rfl ?_
  refine nw_getA l_X12_channelCount_2 5 rfl k_303 r_303_0 ?_
  refine nw_iconst (len := 0) l_X12_channelCount_5 6 rfl c_2 ?_
  refine nw_iald l_X12_channelCount_6 7 rfl k_304 ⟨by decide, by decide⟩ (v := J 304 2) rfl ?_
  refine nw_call0 0 303 l_X12_channelCount_7 rfl rfl g_X12_done (Nat.lt_of_lt_of_le (by decide) hD) rfl (Or.inl ⟨_, rfl, k_303⟩) (ls' := [some (.inr (.inl (some 303))), some (.inl (J 304 2))]) rfl (st' := []) rfl 10 rfl ?_
  refine nw_aload_n l_X12_done_0 1 rfl rfl ?_
  refine nw_iconst (len := 0) l_X12_done_1 2 rfl c_0 ?_
  refine nw_putI l_X12_done_2 5 rfl k_303 ?_
  refine nw_iload_n l_X12_done_5 6 rfl rfl ?_
  refine nw_ireturn l_X12_done_6 rfl ?_
  refine nw_ireturn l_X12_channelCount_10 rfl ?_
  exact h
theorem b_X12_cheapestNet_0  (h : ((-2147483648 ≤ (J 304 1) - 1 ∧ (J 304 1) - 1 < 2147483648) ∧ NW sc d_X12_cheapestNet D (13, [some (.inr (.inl (some 303))), some (.inl 0), some (.inl ((J 304 1) - 1)), some (.inl 0), none, none], [], (J, L, W), c, sl) Qr Qx)) :
    NW sc d_X12_cheapestNet D (0, [some (.inr (.inl (some 303))), none, none, none, none, none], [], (J, L, W), c, sl) Qr Qx := by
  refine nw_iconst (len := 0) l_X12_cheapestNet_0 1 rfl c_0 ?_
  refine nw_istore_n l_X12_cheapestNet_1 2 rfl rfl (ls' := [some (.inr (.inl (some 303))), some (.inl 0), none, none, none, none]) rfl ?_
  refine nw_aload_n l_X12_cheapestNet_2 3 rfl rfl ?_
  refine nw_getA l_X12_cheapestNet_3 6 rfl k_303 r_303_0 ?_
  refine nw_iconst (len := 0) l_X12_cheapestNet_6 7 rfl c_1 ?_
  refine nw_iald l_X12_cheapestNet_7 8 rfl k_304 ⟨by decide, by decide⟩ (v := J 304 1) rfl ?_
  refine nw_iconst (len := 0) l_X12_cheapestNet_8 9 rfl c_1 ?_
  have o1 := h.1
  replace h := h.2
  refine nw_isub l_X12_cheapestNet_9 10 rfl o1 ?_
  refine nw_istore_n l_X12_cheapestNet_10 11 rfl rfl (ls' := [some (.inr (.inl (some 303))), some (.inl 0), some (.inl ((J 304 1) - 1)), none, none, none]) rfl ?_
  refine nw_iconst (len := 0) l_X12_cheapestNet_11 12 rfl c_0 ?_
  refine nw_istore_n l_X12_cheapestNet_12 13 rfl rfl (ls' := [some (.inr (.inl (some 303))), some (.inl 0), some (.inl ((J 304 1) - 1)), some (.inl 0), none, none]) rfl ?_
  exact h
theorem b_X12_cheapestNet_13 {x1 : Int} {x2 : Int} {x3 : Int} (h : ((6 ≤ x3 → NW sc d_X12_cheapestNet D (34, [some (.inr (.inl (some 303))), some (.inl x1), some (.inl x2), some (.inl 1), none, none], [], (J, L, W), c, sl) Qr Qx) ∧ (x3 < 6 → ((0 ≤ x3 ∧ x3 < 6) ∧ ((-2147483648 ≤ x3 + 1 ∧ x3 + 1 < 2147483648) ∧ NW sc d_X12_cheapestNet D (13, [some (.inr (.inl (some 303))), some (.inl x1), some (.inl x2), some (.inl (x3 + 1)), none, none], [], (nw_u J 312 x3 x3, L, W), c, sl) Qr Qx))))) :
    NW sc d_X12_cheapestNet D (13, [some (.inr (.inl (some 303))), some (.inl x1), some (.inl x2), some (.inl x3), none, none], [], (J, L, W), c, sl) Qr Qx := by
  refine nw_iload_n l_X12_cheapestNet_13 14 rfl rfl ?_
  refine nw_bipush (len := 0) l_X12_cheapestNet_14 16 rfl c_6 ?_
  refine nw_ic_ge l_X12_cheapestNet_16 19 rfl (fun q1 => ?_) (fun q1 => ?_)
  · replace h := h.1 q1
    refine nw_iconst (len := 0) l_X12_cheapestNet_32 33 rfl c_1 ?_
    refine nw_istore_n l_X12_cheapestNet_33 34 rfl rfl (ls' := [some (.inr (.inl (some 303))), some (.inl x1), some (.inl x2), some (.inl 1), none, none]) rfl ?_
    exact h
  · replace h := h.2 q1
    refine nw_aload_n l_X12_cheapestNet_19 20 rfl rfl ?_
    refine nw_getA l_X12_cheapestNet_20 23 rfl k_303 r_303_16 ?_
    refine nw_iload_n l_X12_cheapestNet_23 24 rfl rfl ?_
    refine nw_iload_n l_X12_cheapestNet_24 25 rfl rfl ?_
    have o2 := h.1
    replace h := h.2
    refine nw_iast l_X12_cheapestNet_25 26 rfl k_312 o2 ?_
    have o3 := h.1
    replace h := h.2
    refine nw_iinc l_X12_cheapestNet_26 29 rfl 1 (by decide) rfl rfl o3 (ls' := [some (.inr (.inl (some 303))), some (.inl x1), some (.inl x2), some (.inl (x3 + 1)), none, none]) rfl ?_
    refine nw_goto l_X12_cheapestNet_29 ?_
    exact h
theorem b_X12_cheapestNet_34 {x1 : Int} {x2 : Int} {x3 : Int} (hD : 1 ≤ D) (h : ((9 < x3 → ((x2 ≤ 0 → Qr (some (.inl x1)) (nw_u J 303 13 0, L, W)) ∧ (0 < x2 → Qr (some (.inl 0)) (nw_u J 303 13 1, L, W)))) ∧ (x3 ≤ 9 → NW sc d_X12_cheapestNet D (43, [some (.inr (.inl (some 303))), some (.inl x1), some (.inl x2), some (.inl x3), some (.inl 0), none], [], (J, L, W), c, sl) Qr Qx))) :
    NW sc d_X12_cheapestNet D (34, [some (.inr (.inl (some 303))), some (.inl x1), some (.inl x2), some (.inl x3), none, none], [], (J, L, W), c, sl) Qr Qx := by
  refine nw_iload_n l_X12_cheapestNet_34 35 rfl rfl ?_
  refine nw_bipush (len := 0) l_X12_cheapestNet_35 37 rfl c_9 ?_
  refine nw_ic_gt l_X12_cheapestNet_37 40 rfl (fun q1 => ?_) (fun q1 => ?_)
  · replace h := h.1 q1
    refine nw_iload_n l_X12_cheapestNet_140 141 rfl rfl ?_
    refine nw_if_le l_X12_cheapestNet_141 144 rfl (fun q2 => ?_) (fun q2 => ?_)
    · replace h := h.1 q2
      refine nw_aload_n l_X12_cheapestNet_152 153 rfl rfl ?_
      refine nw_iload_n l_X12_cheapestNet_153 154 rfl rfl ?_
      refine nw_call0 0 303 l_X12_cheapestNet_154 rfl rfl g_X12_done (Nat.lt_of_lt_of_le (by decide) hD) rfl (Or.inl ⟨_, rfl, k_303⟩) (ls' := [some (.inr (.inl (some 303))), some (.inl x1)]) rfl (st' := []) rfl 157 rfl ?_
      refine nw_aload_n l_X12_done_0 1 rfl rfl ?_
      refine nw_iconst (len := 0) l_X12_done_1 2 rfl c_0 ?_
      refine nw_putI l_X12_done_2 5 rfl k_303 ?_
      refine nw_iload_n l_X12_done_5 6 rfl rfl ?_
      refine nw_ireturn l_X12_done_6 rfl ?_
      refine nw_ireturn l_X12_cheapestNet_157 rfl ?_
      exact h
    · replace h := h.2 q2
      refine nw_aload_n l_X12_cheapestNet_144 145 rfl rfl ?_
      refine nw_iconst (len := 0) l_X12_cheapestNet_145 146 rfl c_1 ?_
      refine nw_call0 0 303 l_X12_cheapestNet_146 rfl rfl g_X12_fails (Nat.lt_of_lt_of_le (by decide) hD) rfl (Or.inl ⟨_, rfl, k_303⟩) (ls' := [some (.inr (.inl (some 303))), some (.inl 1)]) rfl (st' := []) rfl 149 rfl ?_
      refine nw_aload_n l_X12_fails_0 1 rfl rfl ?_
      refine nw_iload_n l_X12_fails_1 2 rfl rfl ?_
      refine nw_putI l_X12_fails_2 5 rfl k_303 ?_
      refine nw_iconst (len := 0) l_X12_fails_5 6 rfl c_0 ?_
      refine nw_ireturn l_X12_fails_6 rfl ?_
      refine nw_goto l_X12_cheapestNet_149 ?_
      refine nw_ireturn l_X12_cheapestNet_157 rfl ?_
      exact h
  · replace h := h.2 q1
    refine nw_iconst (len := 0) l_X12_cheapestNet_40 41 rfl c_0 ?_
    refine nw_istore l_X12_cheapestNet_41 43 rfl rfl (ls' := [some (.inr (.inl (some 303))), some (.inl x1), some (.inl x2), some (.inl x3), some (.inl 0), none]) rfl ?_
    exact h
theorem b_X12_cheapestNet_43 {x1 : Int} {x2 : Int} {x3 : Int} {x4 : Int} (hD : 1 ≤ D) (h : ((J 304 2 ≤ x4 → ((-2147483648 ≤ x3 + 1 ∧ x3 + 1 < 2147483648) ∧ NW sc d_X12_cheapestNet D (34, [some (.inr (.inl (some 303))), some (.inl x1), some (.inl x2), some (.inl (x3 + 1)), none, none], [], (J, L, W), c, sl) Qr Qx)) ∧ (x4 < J 304 2 → ((-2147483648 ≤ 36 + x4 ∧ 36 + x4 < 2147483648) ∧ ((0 ≤ 36 + x4 ∧ 36 + x4 < 161) ∧ ((¬ J 304 (36 + x4) = x3 → ((-2147483648 ≤ x1 + 0 ∧ x1 + 0 < 2147483648) ∧ ((-2147483648 ≤ x2 - 0 ∧ x2 - 0 < 2147483648) ∧ ((-2147483648 ≤ x4 + 1 ∧ x4 + 1 < 2147483648) ∧ NW sc d_X12_cheapestNet D (43, [some (.inr (.inl (some 303))), some (.inl (x1 + 0)), some (.inl (x2 - 0)), some (.inl x3), some (.inl (x4 + 1)), none], [], (J, L, W), c, sl) Qr Qx)))) ∧ (J 304 (36 + x4) = x3 → ((-2147483648 ≤ 16 + x4 ∧ 16 + x4 < 2147483648) ∧ ((0 ≤ 16 + x4 ∧ 16 + x4 < 161) ∧ ((-2147483648 ≤ 26 + x4 ∧ 26 + x4 < 2147483648) ∧ ((0 ≤ 26 + x4 ∧ 26 + x4 < 161) ∧ NW sc d_X12_joins 0 (0, [some (.inr (.inl (some 303))), some (.inl (J 304 (16 + x4))), some (.inl (J 304 (26 + x4))), none, none, none], [], (J, L, W), 0, 0) (fun v M9 => NW sc d_X12_cheapestNet D (92, [some (.inr (.inl (some 303))), some (.inl x1), some (.inl x2), some (.inl x3), some (.inl x4), none], nw_push v [], M9, c, sl) Qr Qx) Qx))))))))))) :
    NW sc d_X12_cheapestNet D (43, [some (.inr (.inl (some 303))), some (.inl x1), some (.inl x2), some (.inl x3), some (.inl x4), none], [], (J, L, W), c, sl) Qr Qx := by
  refine nw_iload l_X12_cheapestNet_43 45 rfl rfl ?_
  refine nw_aload_n l_X12_cheapestNet_45 46 rfl rfl ?_
  refine nw_getA l_X12_cheapestNet_46 49 rfl k_303 r_303_0 ?_
  refine nw_iconst (len := 0) l_X12_cheapestNet_49 50 rfl c_2 ?_
  refine nw_iald l_X12_cheapestNet_50 51 rfl k_304 ⟨by decide, by decide⟩ (v := J 304 2) rfl ?_
  refine nw_ic_ge l_X12_cheapestNet_51 54 rfl (fun q1 => ?_) (fun q1 => ?_)
  · replace h := h.1 q1
    have o2 := h.1
    replace h := h.2
    refine nw_iinc l_X12_cheapestNet_134 137 rfl 1 (by decide) rfl rfl o2 (ls' := [some (.inr (.inl (some 303))), some (.inl x1), some (.inl x2), some (.inl (x3 + 1)), some (.inl x4), none]) rfl ?_
    refine nw_goto l_X12_cheapestNet_137 ?_
    refine nw_drop (ls' := [some (.inr (.inl (some 303))), some (.inl x1), some (.inl x2), some (.inl (x3 + 1)), none, none]) ⟨rfl, ⟨rfl, ⟨rfl, ⟨rfl, ⟨True.intro, ⟨True.intro, True.intro⟩⟩⟩⟩⟩⟩ ?_
    exact h
  · replace h := h.2 q1
    refine nw_aload_n l_X12_cheapestNet_54 55 rfl rfl ?_
    refine nw_getA l_X12_cheapestNet_55 58 rfl k_303 r_303_0 ?_
    refine nw_bipush (len := 0) l_X12_cheapestNet_58 60 rfl c_36 ?_
    refine nw_iload l_X12_cheapestNet_60 62 rfl rfl ?_
    have o3 := h.1
    replace h := h.2
    refine nw_iadd l_X12_cheapestNet_62 63 rfl o3 ?_
    have o4 := h.1
    replace h := h.2
    refine nw_iald l_X12_cheapestNet_63 64 rfl k_304 o4 (v := J 304 (36 + x4)) rfl ?_
    refine nw_iload_n l_X12_cheapestNet_64 65 rfl rfl ?_
    refine nw_ic_ne l_X12_cheapestNet_65 68 rfl (fun q5 => ?_) (fun q5 => ?_)
    · replace h := h.1 q5
      refine nw_iconst (len := 0) l_X12_cheapestNet_99 100 rfl c_0 ?_
      refine nw_istore l_X12_cheapestNet_100 102 rfl rfl (ls' := [some (.inr (.inl (some 303))), some (.inl x1), some (.inl x2), some (.inl x3), some (.inl x4), some (.inl 0)]) rfl ?_
      refine nw_iload_n l_X12_cheapestNet_102 103 rfl rfl ?_
      refine nw_iload l_X12_cheapestNet_103 105 rfl rfl ?_
      refine nw_if_eq l_X12_cheapestNet_105 108 rfl (fun _ => ?_) (fun q => absurd q (by decide))
      refine nw_iconst (len := 0) l_X12_cheapestNet_112 113 rfl c_0 ?_
      have o6 := h.1
      replace h := h.2
      refine nw_iadd l_X12_cheapestNet_113 114 rfl o6 ?_
      refine nw_istore_n l_X12_cheapestNet_114 115 rfl rfl (ls' := [some (.inr (.inl (some 303))), some (.inl (x1 + 0)), some (.inl x2), some (.inl x3), some (.inl x4), some (.inl 0)]) rfl ?_
      refine nw_iload_n l_X12_cheapestNet_115 116 rfl rfl ?_
      refine nw_iload l_X12_cheapestNet_116 118 rfl rfl ?_
      refine nw_if_eq l_X12_cheapestNet_118 121 rfl (fun _ => ?_) (fun q => absurd q (by decide))
      refine nw_iconst (len := 0) l_X12_cheapestNet_125 126 rfl c_0 ?_
      have o7 := h.1
      replace h := h.2
      refine nw_isub l_X12_cheapestNet_126 127 rfl o7 ?_
      refine nw_istore_n l_X12_cheapestNet_127 128 rfl rfl (ls' := [some (.inr (.inl (some 303))), some (.inl (x1 + 0)), some (.inl (x2 - 0)), some (.inl x3), some (.inl x4), some (.inl 0)]) rfl ?_
      have o8 := h.1
      replace h := h.2
      refine nw_iinc l_X12_cheapestNet_128 131 rfl 1 (by decide) rfl rfl o8 (ls' := [some (.inr (.inl (some 303))), some (.inl (x1 + 0)), some (.inl (x2 - 0)), some (.inl x3), some (.inl (x4 + 1)), some (.inl 0)]) rfl ?_
      refine nw_goto l_X12_cheapestNet_131 ?_
      refine nw_drop (ls' := [some (.inr (.inl (some 303))), some (.inl (x1 + 0)), some (.inl (x2 - 0)), some (.inl x3), some (.inl (x4 + 1)), none]) ⟨rfl, ⟨rfl, ⟨rfl, ⟨rfl, ⟨rfl, ⟨True.intro, True.intro⟩⟩⟩⟩⟩⟩ ?_
      exact h
    · replace h := h.2 q5
      refine nw_aload_n l_X12_cheapestNet_68 69 rfl rfl ?_
      refine nw_aload_n l_X12_cheapestNet_69 70 rfl rfl ?_
      refine nw_getA l_X12_cheapestNet_70 73 rfl k_303 r_303_0 ?_
      refine nw_bipush (len := 0) l_X12_cheapestNet_73 75 rfl c_16 ?_
      refine nw_iload l_X12_cheapestNet_75 77 rfl rfl ?_
      have o9 := h.1
      replace h := h.2
      refine nw_iadd l_X12_cheapestNet_77 78 rfl o9 ?_
      have o10 := h.1
      replace h := h.2
      refine nw_iald l_X12_cheapestNet_78 79 rfl k_304 o10 (v := J 304 (16 + x4)) rfl ?_
      refine nw_aload_n l_X12_cheapestNet_79 80 rfl rfl ?_
      refine nw_getA l_X12_cheapestNet_80 83 rfl k_303 r_303_0 ?_
      refine nw_bipush (len := 0) l_X12_cheapestNet_83 85 rfl c_26 ?_
      refine nw_iload l_X12_cheapestNet_85 87 rfl rfl ?_
      have o11 := h.1
      replace h := h.2
      refine nw_iadd l_X12_cheapestNet_87 88 rfl o11 ?_
      have o12 := h.1
      replace h := h.2
      refine nw_iald l_X12_cheapestNet_88 89 rfl k_304 o12 (v := J 304 (26 + x4)) rfl ?_
      refine nw_call0 0 303 l_X12_cheapestNet_89 rfl rfl g_X12_joins (Nat.lt_of_lt_of_le (by decide) hD) rfl (Or.inl ⟨_, rfl, k_303⟩) (ls' := [some (.inr (.inl (some 303))), some (.inl (J 304 (16 + x4))), some (.inl (J 304 (26 + x4))), none, none, none]) rfl (st' := []) rfl 92 rfl ?_
      exact h
theorem b_X12_cheapestNet_92 {x1 : Int} {x2 : Int} {x3 : Int} {x4 : Int} {y0 : Int} (h : ((y0 = 0 → ((-2147483648 ≤ x1 + 0 ∧ x1 + 0 < 2147483648) ∧ ((-2147483648 ≤ x2 - 0 ∧ x2 - 0 < 2147483648) ∧ ((-2147483648 ≤ x4 + 1 ∧ x4 + 1 < 2147483648) ∧ NW sc d_X12_cheapestNet D (43, [some (.inr (.inl (some 303))), some (.inl (x1 + 0)), some (.inl (x2 - 0)), some (.inl x3), some (.inl (x4 + 1)), none], [], (J, L, W), c, sl) Qr Qx)))) ∧ (¬ y0 = 0 → ((-2147483648 ≤ x1 + x3 ∧ x1 + x3 < 2147483648) ∧ ((-2147483648 ≤ x2 - 1 ∧ x2 - 1 < 2147483648) ∧ ((-2147483648 ≤ x4 + 1 ∧ x4 + 1 < 2147483648) ∧ NW sc d_X12_cheapestNet D (43, [some (.inr (.inl (some 303))), some (.inl (x1 + x3)), some (.inl (x2 - 1)), some (.inl x3), some (.inl (x4 + 1)), none], [], (J, L, W), c, sl) Qr Qx)))))) :
    NW sc d_X12_cheapestNet D (92, [some (.inr (.inl (some 303))), some (.inl x1), some (.inl x2), some (.inl x3), some (.inl x4), none], [.inl y0], (J, L, W), c, sl) Qr Qx := by
  refine nw_if_eq l_X12_cheapestNet_92 95 rfl (fun q1 => ?_) (fun q1 => ?_)
  · replace h := h.1 q1
    refine nw_iconst (len := 0) l_X12_cheapestNet_99 100 rfl c_0 ?_
    refine nw_istore l_X12_cheapestNet_100 102 rfl rfl (ls' := [some (.inr (.inl (some 303))), some (.inl x1), some (.inl x2), some (.inl x3), some (.inl x4), some (.inl 0)]) rfl ?_
    refine nw_iload_n l_X12_cheapestNet_102 103 rfl rfl ?_
    refine nw_iload l_X12_cheapestNet_103 105 rfl rfl ?_
    refine nw_if_eq l_X12_cheapestNet_105 108 rfl (fun _ => ?_) (fun q => absurd q (by decide))
    refine nw_iconst (len := 0) l_X12_cheapestNet_112 113 rfl c_0 ?_
    have o2 := h.1
    replace h := h.2
    refine nw_iadd l_X12_cheapestNet_113 114 rfl o2 ?_
    refine nw_istore_n l_X12_cheapestNet_114 115 rfl rfl (ls' := [some (.inr (.inl (some 303))), some (.inl (x1 + 0)), some (.inl x2), some (.inl x3), some (.inl x4), some (.inl 0)]) rfl ?_
    refine nw_iload_n l_X12_cheapestNet_115 116 rfl rfl ?_
    refine nw_iload l_X12_cheapestNet_116 118 rfl rfl ?_
    refine nw_if_eq l_X12_cheapestNet_118 121 rfl (fun _ => ?_) (fun q => absurd q (by decide))
    refine nw_iconst (len := 0) l_X12_cheapestNet_125 126 rfl c_0 ?_
    have o3 := h.1
    replace h := h.2
    refine nw_isub l_X12_cheapestNet_126 127 rfl o3 ?_
    refine nw_istore_n l_X12_cheapestNet_127 128 rfl rfl (ls' := [some (.inr (.inl (some 303))), some (.inl (x1 + 0)), some (.inl (x2 - 0)), some (.inl x3), some (.inl x4), some (.inl 0)]) rfl ?_
    have o4 := h.1
    replace h := h.2
    refine nw_iinc l_X12_cheapestNet_128 131 rfl 1 (by decide) rfl rfl o4 (ls' := [some (.inr (.inl (some 303))), some (.inl (x1 + 0)), some (.inl (x2 - 0)), some (.inl x3), some (.inl (x4 + 1)), some (.inl 0)]) rfl ?_
    refine nw_goto l_X12_cheapestNet_131 ?_
    refine nw_drop (ls' := [some (.inr (.inl (some 303))), some (.inl (x1 + 0)), some (.inl (x2 - 0)), some (.inl x3), some (.inl (x4 + 1)), none]) ⟨rfl, ⟨rfl, ⟨rfl, ⟨rfl, ⟨rfl, ⟨True.intro, True.intro⟩⟩⟩⟩⟩⟩ ?_
    exact h
  · replace h := h.2 q1
    refine nw_iconst (len := 0) l_X12_cheapestNet_95 96 rfl c_1 ?_
    refine nw_goto l_X12_cheapestNet_96 ?_
    refine nw_istore l_X12_cheapestNet_100 102 rfl rfl (ls' := [some (.inr (.inl (some 303))), some (.inl x1), some (.inl x2), some (.inl x3), some (.inl x4), some (.inl 1)]) rfl ?_
    refine nw_iload_n l_X12_cheapestNet_102 103 rfl rfl ?_
    refine nw_iload l_X12_cheapestNet_103 105 rfl rfl ?_
    refine nw_if_eq l_X12_cheapestNet_105 108 rfl (fun q => absurd q (by decide)) (fun _ => ?_)
    refine nw_iload_n l_X12_cheapestNet_108 109 rfl rfl ?_
    refine nw_goto l_X12_cheapestNet_109 ?_
    have o5 := h.1
    replace h := h.2
    refine nw_iadd l_X12_cheapestNet_113 114 rfl o5 ?_
    refine nw_istore_n l_X12_cheapestNet_114 115 rfl rfl (ls' := [some (.inr (.inl (some 303))), some (.inl (x1 + x3)), some (.inl x2), some (.inl x3), some (.inl x4), some (.inl 1)]) rfl ?_
    refine nw_iload_n l_X12_cheapestNet_115 116 rfl rfl ?_
    refine nw_iload l_X12_cheapestNet_116 118 rfl rfl ?_
    refine nw_if_eq l_X12_cheapestNet_118 121 rfl (fun q => absurd q (by decide)) (fun _ => ?_)
    refine nw_iconst (len := 0) l_X12_cheapestNet_121 122 rfl c_1 ?_
    refine nw_goto l_X12_cheapestNet_122 ?_
    have o6 := h.1
    replace h := h.2
    refine nw_isub l_X12_cheapestNet_126 127 rfl o6 ?_
    refine nw_istore_n l_X12_cheapestNet_127 128 rfl rfl (ls' := [some (.inr (.inl (some 303))), some (.inl (x1 + x3)), some (.inl (x2 - 1)), some (.inl x3), some (.inl x4), some (.inl 1)]) rfl ?_
    have o7 := h.1
    replace h := h.2
    refine nw_iinc l_X12_cheapestNet_128 131 rfl 1 (by decide) rfl rfl o7 (ls' := [some (.inr (.inl (some 303))), some (.inl (x1 + x3)), some (.inl (x2 - 1)), some (.inl x3), some (.inl (x4 + 1)), some (.inl 1)]) rfl ?_
    refine nw_goto l_X12_cheapestNet_131 ?_
    refine nw_drop (ls' := [some (.inr (.inl (some 303))), some (.inl (x1 + x3)), some (.inl (x2 - 1)), some (.inl x3), some (.inl (x4 + 1)), none]) ⟨rfl, ⟨rfl, ⟨rfl, ⟨rfl, ⟨rfl, ⟨True.intro, True.intro⟩⟩⟩⟩⟩⟩ ?_
    exact h
theorem b_X12_cheapestNetByGrowing_0  (hD : 2 ≤ D) (h : NW sc d_X12_cheapestNet 1 (0, [some (.inr (.inl (some 303))), none, none, none, none, none], [], (J, L, W), 0, 0) (fun v M9 => NW sc d_X12_cheapestNetByGrowing D (4, [none], nw_push v [], M9, c, sl) Qr Qx) Qx) :
    NW sc d_X12_cheapestNetByGrowing D (0, [some (.inr (.inl (some 303)))], [], (J, L, W), c, sl) Qr Qx := by
  refine nw_aload_n l_X12_cheapestNetByGrowing_0 1 rfl rfl ?_
  refine nw_drop (ls' := [none]) ⟨True.intro, True.intro⟩ ?_
  refine nw_call0 1 303 l_X12_cheapestNetByGrowing_1 rfl rfl g_X12_cheapestNet (Nat.lt_of_lt_of_le (by decide) hD) rfl (Or.inl ⟨_, rfl, k_303⟩) (ls' := [some (.inr (.inl (some 303))), none, none, none, none, none]) rfl (st' := []) rfl 4 rfl ?_
  exact h
theorem b_X12_cheapestNetByGrowing_4 {y0 : Int} (h : Qr (some (.inl y0)) (J, L, W)) :
    NW sc d_X12_cheapestNetByGrowing D (4, [none], [.inl y0], (J, L, W), c, sl) Qr Qx := by
  refine nw_ireturn l_X12_cheapestNetByGrowing_4 rfl ?_
  exact h
theorem b_X12_coins_0  (h : ((-9223372036854775808 ≤ 5 * (J 304 7) ∧ 5 * (J 304 7) < 9223372036854775808) ∧ ((-9223372036854775808 ≤ (J 304 6) - (5 * (J 304 7)) ∧ (J 304 6) - (5 * (J 304 7)) < 9223372036854775808) ∧ Qr (some (.inr (.inr (.inl ((J 304 6) - (5 * (J 304 7))))))) (nw_u J 303 13 0, L, W)))) :
    NW sc d_X12_coins D (0, [some (.inr (.inl (some 303)))], [], (J, L, W), c, sl) Qr Qx := by
  refine nw_aload_n l_X12_coins_0 1 rfl rfl ?_
  refine nw_iconst (len := 0) l_X12_coins_1 2 rfl c_0 ?_
  refine nw_putI l_X12_coins_2 5 rfl k_303 ?_
  refine nw_aload_n l_X12_coins_5 6 rfl rfl ?_
  refine nw_getA l_X12_coins_6 9 rfl k_303 r_303_0 ?_
  refine nw_bipush (len := 0) l_X12_coins_9 11 rfl c_6 ?_
  refine nw_iald l_X12_coins_11 12 rfl k_304 ⟨by decide, by decide⟩ (v := J 304 6) (show nw_u J 303 13 0 304 6 = J 304 6 from (nw_uN (a := 303) (b := 304) (by decide))) ?_
  refine nw_i2l l_X12_coins_12 13 rfl ?_
  refine nw_ldc2 l_X12_coins_13 16 rfl (v := 5) ⟨by decide, by decide, by decide⟩ ?_
  refine nw_aload_n l_X12_coins_16 17 rfl rfl ?_
  refine nw_getA l_X12_coins_17 20 rfl k_303 r_303_0 ?_
  refine nw_bipush (len := 0) l_X12_coins_20 22 rfl c_7 ?_
  refine nw_iald l_X12_coins_22 23 rfl k_304 ⟨by decide, by decide⟩ (v := J 304 7) (show nw_u J 303 13 0 304 7 = J 304 7 from (nw_uN (a := 303) (b := 304) (by decide))) ?_
  refine nw_i2l l_X12_coins_23 24 rfl ?_
  have o1 := h.1
  replace h := h.2
  refine nw_lmul l_X12_coins_24 25 rfl o1 ?_
  have o2 := h.1
  replace h := h.2
  refine nw_lsub l_X12_coins_25 26 rfl o2 ?_
  refine nw_lreturn l_X12_coins_26 rfl ?_
  exact h
theorem b_X12_countBelow_0 {x1 : Int} (hD : 1 ≤ D) (h : NW sc d_X12_finds 0 (0, [some (.inr (.inl (some 303))), none, none, none], [], (J, L, W), 0, 0) (fun v M9 => NW sc d_X12_countBelow D (4, [some (.inr (.inl (some 303))), some (.inl x1), none, none], nw_push v [], M9, c, sl) Qr Qx) Qx) :
    NW sc d_X12_countBelow D (0, [some (.inr (.inl (some 303))), some (.inl x1), none, none], [], (J, L, W), c, sl) Qr Qx := by
  refine nw_aload_n l_X12_countBelow_0 1 rfl rfl ?_
  refine nw_call0 0 303 l_X12_countBelow_1 rfl rfl g_X12_finds (Nat.lt_of_lt_of_le (by decide) hD) rfl (Or.inl ⟨_, rfl, k_303⟩) (ls' := [some (.inr (.inl (some 303))), none, none, none]) rfl (st' := []) rfl 4 rfl ?_
  exact h
theorem b_X12_countBelow_4 {x1 : Int} (h : NW sc d_X12_countBelow D (8, [some (.inr (.inl (some 303))), some (.inl x1), some (.inl 0), some (.inl 0)], [], (J, L, W), c, sl) Qr Qx) :
    NW sc d_X12_countBelow D (4, [some (.inr (.inl (some 303))), some (.inl x1), none, none], [], (J, L, W), c, sl) Qr Qx := by
  refine nw_iconst (len := 0) l_X12_countBelow_4 5 rfl c_0 ?_
  refine nw_istore_n l_X12_countBelow_5 6 rfl rfl (ls' := [some (.inr (.inl (some 303))), some (.inl x1), some (.inl 0), none]) rfl ?_
  refine nw_iconst (len := 0) l_X12_countBelow_6 7 rfl c_0 ?_
  refine nw_istore_n l_X12_countBelow_7 8 rfl rfl (ls' := [some (.inr (.inl (some 303))), some (.inl x1), some (.inl 0), some (.inl 0)]) rfl ?_
  exact h
theorem b_X12_countBelow_8 {x1 : Int} {x2 : Int} {x3 : Int} (hD : 1 ≤ D) (h : ((J 304 4 ≤ x3 → Qr (some (.inl x2)) (nw_u J 303 13 0, L, W)) ∧ (x3 < J 304 4 → NW sc d_X12_fare 0 (0, [some (.inr (.inl (some 303))), some (.inl x3), none, none], [], (J, L, W), 0, 0) (fun v M9 => NW sc d_X12_countBelow D (24, [some (.inr (.inl (some 303))), some (.inl x1), none, some (.inl x3)], nw_push v [.inl x2], M9, c, sl) Qr Qx) Qx))) :
    NW sc d_X12_countBelow D (8, [some (.inr (.inl (some 303))), some (.inl x1), some (.inl x2), some (.inl x3)], [], (J, L, W), c, sl) Qr Qx := by
  refine nw_iload_n l_X12_countBelow_8 9 rfl rfl ?_
  refine nw_aload_n l_X12_countBelow_9 10 rfl rfl ?_
  refine nw_getA l_X12_countBelow_10 13 rfl k_303 r_303_0 ?_
  refine nw_iconst (len := 0) l_X12_countBelow_13 14 rfl c_4 ?_
  refine nw_iald l_X12_countBelow_14 15 rfl k_304 ⟨by decide, by decide⟩ (v := J 304 4) rfl ?_
  refine nw_ic_ge l_X12_countBelow_15 18 rfl (fun q1 => ?_) (fun q1 => ?_)
  · replace h := h.1 q1
    refine nw_aload_n l_X12_countBelow_41 42 rfl rfl ?_
    refine nw_iload_n l_X12_countBelow_42 43 rfl rfl ?_
    refine nw_call0 0 303 l_X12_countBelow_43 rfl rfl g_X12_done (Nat.lt_of_lt_of_le (by decide) hD) rfl (Or.inl ⟨_, rfl, k_303⟩) (ls' := [some (.inr (.inl (some 303))), some (.inl x2)]) rfl (st' := []) rfl 46 rfl ?_
    refine nw_aload_n l_X12_done_0 1 rfl rfl ?_
    refine nw_iconst (len := 0) l_X12_done_1 2 rfl c_0 ?_
    refine nw_putI l_X12_done_2 5 rfl k_303 ?_
    refine nw_iload_n l_X12_done_5 6 rfl rfl ?_
    refine nw_ireturn l_X12_done_6 rfl ?_
    refine nw_ireturn l_X12_countBelow_46 rfl ?_
    exact h
  · replace h := h.2 q1
    refine nw_iload_n l_X12_countBelow_18 19 rfl rfl ?_
    refine nw_aload_n l_X12_countBelow_19 20 rfl rfl ?_
    refine nw_iload_n l_X12_countBelow_20 21 rfl rfl ?_
    refine nw_drop (ls' := [some (.inr (.inl (some 303))), some (.inl x1), none, some (.inl x3)]) ⟨rfl, ⟨rfl, ⟨True.intro, ⟨rfl, True.intro⟩⟩⟩⟩ ?_
    refine nw_call0 0 303 l_X12_countBelow_21 rfl rfl g_X12_fare (Nat.lt_of_lt_of_le (by decide) hD) rfl (Or.inl ⟨_, rfl, k_303⟩) (ls' := [some (.inr (.inl (some 303))), some (.inl x3), none, none]) rfl (st' := [.inl x2]) rfl 24 rfl ?_
    exact h
theorem b_X12_countBelow_24 {x1 : Int} {x3 : Int} {y0 : Int} {y1 : Int} (h : ((x1 ≤ y0 → ((-2147483648 ≤ y1 + 0 ∧ y1 + 0 < 2147483648) ∧ ((-2147483648 ≤ x3 + 1 ∧ x3 + 1 < 2147483648) ∧ NW sc d_X12_countBelow D (8, [some (.inr (.inl (some 303))), some (.inl x1), some (.inl (y1 + 0)), some (.inl (x3 + 1))], [], (J, L, W), c, sl) Qr Qx))) ∧ (y0 < x1 → ((-2147483648 ≤ y1 + 1 ∧ y1 + 1 < 2147483648) ∧ ((-2147483648 ≤ x3 + 1 ∧ x3 + 1 < 2147483648) ∧ NW sc d_X12_countBelow D (8, [some (.inr (.inl (some 303))), some (.inl x1), some (.inl (y1 + 1)), some (.inl (x3 + 1))], [], (J, L, W), c, sl) Qr Qx))))) :
    NW sc d_X12_countBelow D (24, [some (.inr (.inl (some 303))), some (.inl x1), none, some (.inl x3)], [.inl y0, .inl y1], (J, L, W), c, sl) Qr Qx := by
  refine nw_iload_n l_X12_countBelow_24 25 rfl rfl ?_
  refine nw_ic_ge l_X12_countBelow_25 28 rfl (fun q1 => ?_) (fun q1 => ?_)
  · replace h := h.1 q1
    refine nw_iconst (len := 0) l_X12_countBelow_32 33 rfl c_0 ?_
    have o2 := h.1
    replace h := h.2
    refine nw_iadd l_X12_countBelow_33 34 rfl o2 ?_
    refine nw_istore_n l_X12_countBelow_34 35 rfl rfl (ls' := [some (.inr (.inl (some 303))), some (.inl x1), some (.inl (y1 + 0)), some (.inl x3)]) rfl ?_
    have o3 := h.1
    replace h := h.2
    refine nw_iinc l_X12_countBelow_35 38 rfl 1 (by decide) rfl rfl o3 (ls' := [some (.inr (.inl (some 303))), some (.inl x1), some (.inl (y1 + 0)), some (.inl (x3 + 1))]) rfl ?_
    refine nw_goto l_X12_countBelow_38 ?_
    exact h
  · replace h := h.2 q1
    refine nw_iconst (len := 0) l_X12_countBelow_28 29 rfl c_1 ?_
    refine nw_goto l_X12_countBelow_29 ?_
    have o4 := h.1
    replace h := h.2
    refine nw_iadd l_X12_countBelow_33 34 rfl o4 ?_
    refine nw_istore_n l_X12_countBelow_34 35 rfl rfl (ls' := [some (.inr (.inl (some 303))), some (.inl x1), some (.inl (y1 + 1)), some (.inl x3)]) rfl ?_
    have o5 := h.1
    replace h := h.2
    refine nw_iinc l_X12_countBelow_35 38 rfl 1 (by decide) rfl rfl o5 (ls' := [some (.inr (.inl (some 303))), some (.inl x1), some (.inl (y1 + 1)), some (.inl (x3 + 1))]) rfl ?_
    refine nw_goto l_X12_countBelow_38 ?_
    exact h
theorem b_X12_countBelowByAsking_0 {x1 : Int} (hD : 2 ≤ D) (h : NW sc d_X12_countBelow 1 (0, [some (.inr (.inl (some 303))), some (.inl x1), none, none], [], (J, L, W), 0, 0) (fun v M9 => NW sc d_X12_countBelowByAsking D (5, [none, none], nw_push v [], M9, c, sl) Qr Qx) Qx) :
    NW sc d_X12_countBelowByAsking D (0, [some (.inr (.inl (some 303))), some (.inl x1)], [], (J, L, W), c, sl) Qr Qx := by
  refine nw_aload_n l_X12_countBelowByAsking_0 1 rfl rfl ?_
  refine nw_iload_n l_X12_countBelowByAsking_1 2 rfl rfl ?_
  refine nw_drop (ls' := [none, none]) ⟨True.intro, ⟨True.intro, True.intro⟩⟩ ?_
  refine nw_call0 1 303 l_X12_countBelowByAsking_2 rfl rfl g_X12_countBelow (Nat.lt_of_lt_of_le (by decide) hD) rfl (Or.inl ⟨_, rfl, k_303⟩) (ls' := [some (.inr (.inl (some 303))), some (.inl x1), none, none]) rfl (st' := []) rfl 5 rfl ?_
  exact h
theorem b_X12_countBelowByAsking_5 {y0 : Int} (h : Qr (some (.inl y0)) (J, L, W)) :
    NW sc d_X12_countBelowByAsking D (5, [none, none], [.inl y0], (J, L, W), c, sl) Qr Qx := by
  refine nw_ireturn l_X12_countBelowByAsking_5 rfl ?_
  exact h
theorem b_X12_craterCount_0  (hD : 1 ≤ D) (h : Qr (some (.inl (J 304 1))) (nw_u J 303 13 0, L, W)) :
    NW sc d_X12_craterCount D (0, [some (.inr (.inl (some 303)))], [], (J, L, W), c, sl) Qr Qx := by
  refine nw_aload_n l_X12_craterCount_0 1 rfl rfl ?_
  refine nw_aload_n l_X12_craterCount_1 2 rfl rfl ?_
  refine nw_getA l_X12_craterCount_2 5 rfl k_303 r_303_0 ?_
  refine nw_iconst (len := 0) l_X12_craterCount_5 6 rfl c_1 ?_
  refine nw_iald l_X12_craterCount_6 7 rfl k_304 ⟨by decide, by decide⟩ (v := J 304 1) rfl ?_
  refine nw_call0 0 303 l_X12_craterCount_7 rfl rfl g_X12_done (Nat.lt_of_lt_of_le (by decide) hD) rfl (Or.inl ⟨_, rfl, k_303⟩) (ls' := [some (.inr (.inl (some 303))), some (.inl (J 304 1))]) rfl (st' := []) rfl 10 rfl ?_
  refine nw_aload_n l_X12_done_0 1 rfl rfl ?_
  refine nw_iconst (len := 0) l_X12_done_1 2 rfl c_0 ?_
  refine nw_putI l_X12_done_2 5 rfl k_303 ?_
  refine nw_iload_n l_X12_done_5 6 rfl rfl ?_
  refine nw_ireturn l_X12_done_6 rfl ?_
  refine nw_ireturn l_X12_craterCount_10 rfl ?_
  exact h
theorem b_X12_craterOf_0 {x1 : Int} (hD : 2 ≤ D) (h : ((-2147483648 ≤ (J 304 3) - 1 ∧ (J 304 3) - 1 < 2147483648) ∧ ((x1 < 0 → Qr (some (.inl 0)) (nw_u J 303 13 1, L, W)) ∧ (0 ≤ x1 → (((J 304 3) - 1 < x1 → Qr (some (.inl 0)) (nw_u J 303 13 1, L, W)) ∧ (x1 ≤ (J 304 3) - 1 → ((-2147483648 ≤ 62 + x1 ∧ 62 + x1 < 2147483648) ∧ ((0 ≤ 62 + x1 ∧ 62 + x1 < 161) ∧ ((J 304 (62 + x1) ≤ 0 → ((-2147483648 ≤ 56 + x1 ∧ 56 + x1 < 2147483648) ∧ ((0 ≤ 56 + x1 ∧ 56 + x1 < 161) ∧ Qr (some (.inl (J 304 (56 + x1)))) (nw_u J 303 13 0, L, W)))) ∧ (0 < J 304 (62 + x1) → Qr (some (.inl 0)) (nw_u J 303 13 2, L, W))))))))))) :
    NW sc d_X12_craterOf D (0, [some (.inr (.inl (some 303))), some (.inl x1)], [], (J, L, W), c, sl) Qr Qx := by
  refine nw_aload_n l_X12_craterOf_0 1 rfl rfl ?_
  refine nw_iload_n l_X12_craterOf_1 2 rfl rfl ?_
  refine nw_call0 1 303 l_X12_craterOf_2 rfl rfl g_X12_isFerry (Nat.lt_of_lt_of_le (by decide) hD) rfl (Or.inl ⟨_, rfl, k_303⟩) (ls' := [some (.inr (.inl (some 303))), some (.inl x1)]) rfl (st' := []) rfl 5 rfl ?_
  refine nw_iload_n l_X12_isFerry_0 1 rfl rfl ?_
  refine nw_iconst (len := 0) l_X12_isFerry_1 2 rfl c_0 ?_
  refine nw_aload_n l_X12_isFerry_2 3 rfl rfl ?_
  refine nw_getA l_X12_isFerry_3 6 rfl k_303 r_303_0 ?_
  refine nw_iconst (len := 0) l_X12_isFerry_6 7 rfl c_3 ?_
  refine nw_iald l_X12_isFerry_7 8 rfl k_304 ⟨by decide, by decide⟩ (v := J 304 3) rfl ?_
  refine nw_iconst (len := 0) l_X12_isFerry_8 9 rfl c_1 ?_
  have o1 := h.1
  replace h := h.2
  refine nw_isub l_X12_isFerry_9 10 rfl o1 ?_
  refine nw_call0 0 0 l_X12_isFerry_10 rfl rfl g_X12_in (by decide) rfl True.intro (ls' := [some (.inl x1), some (.inl 0), some (.inl ((J 304 3) - 1))]) rfl (st' := []) rfl 13 rfl ?_
  refine nw_iload_n l_X12_in_0 1 rfl rfl ?_
  refine nw_iload_n l_X12_in_1 2 rfl rfl ?_
  refine nw_ic_lt l_X12_in_2 5 rfl (fun q2 => ?_) (fun q2 => ?_)
  · replace h := h.1 q2
    refine nw_iconst (len := 0) l_X12_in_14 15 rfl c_0 ?_
    refine nw_ireturnZ l_X12_in_15 rfl (Or.inl rfl) ?_
    refine nw_ireturnZ l_X12_isFerry_13 rfl (Or.inl rfl) ?_
    refine nw_if_ne l_X12_craterOf_5 8 rfl (fun q => absurd q (by decide)) (fun _ => ?_)
    refine nw_aload_n l_X12_craterOf_8 9 rfl rfl ?_
    refine nw_iconst (len := 0) l_X12_craterOf_9 10 rfl c_1 ?_
    refine nw_call0 0 303 l_X12_craterOf_10 rfl rfl g_X12_fails (Nat.lt_of_lt_of_le (by decide) hD) rfl (Or.inl ⟨_, rfl, k_303⟩) (ls' := [some (.inr (.inl (some 303))), some (.inl 1)]) rfl (st' := []) rfl 13 rfl ?_
    refine nw_aload_n l_X12_fails_0 1 rfl rfl ?_
    refine nw_iload_n l_X12_fails_1 2 rfl rfl ?_
    refine nw_putI l_X12_fails_2 5 rfl k_303 ?_
    refine nw_iconst (len := 0) l_X12_fails_5 6 rfl c_0 ?_
    refine nw_ireturn l_X12_fails_6 rfl ?_
    refine nw_ireturn l_X12_craterOf_13 rfl ?_
    exact h
  · replace h := h.2 q2
    refine nw_iload_n l_X12_in_5 6 rfl rfl ?_
    refine nw_iload_n l_X12_in_6 7 rfl rfl ?_
    refine nw_ic_gt l_X12_in_7 10 rfl (fun q3 => ?_) (fun q3 => ?_)
    · replace h := h.1 q3
      refine nw_iconst (len := 0) l_X12_in_14 15 rfl c_0 ?_
      refine nw_ireturnZ l_X12_in_15 rfl (Or.inl rfl) ?_
      refine nw_ireturnZ l_X12_isFerry_13 rfl (Or.inl rfl) ?_
      refine nw_if_ne l_X12_craterOf_5 8 rfl (fun q => absurd q (by decide)) (fun _ => ?_)
      refine nw_aload_n l_X12_craterOf_8 9 rfl rfl ?_
      refine nw_iconst (len := 0) l_X12_craterOf_9 10 rfl c_1 ?_
      refine nw_call0 0 303 l_X12_craterOf_10 rfl rfl g_X12_fails (Nat.lt_of_lt_of_le (by decide) hD) rfl (Or.inl ⟨_, rfl, k_303⟩) (ls' := [some (.inr (.inl (some 303))), some (.inl 1)]) rfl (st' := []) rfl 13 rfl ?_
      refine nw_aload_n l_X12_fails_0 1 rfl rfl ?_
      refine nw_iload_n l_X12_fails_1 2 rfl rfl ?_
      refine nw_putI l_X12_fails_2 5 rfl k_303 ?_
      refine nw_iconst (len := 0) l_X12_fails_5 6 rfl c_0 ?_
      refine nw_ireturn l_X12_fails_6 rfl ?_
      refine nw_ireturn l_X12_craterOf_13 rfl ?_
      exact h
    · replace h := h.2 q3
      refine nw_iconst (len := 0) l_X12_in_10 11 rfl c_1 ?_
      refine nw_goto l_X12_in_11 ?_
      refine nw_ireturnZ l_X12_in_15 rfl (Or.inr rfl) ?_
      refine nw_ireturnZ l_X12_isFerry_13 rfl (Or.inr rfl) ?_
      refine nw_if_ne l_X12_craterOf_5 8 rfl (fun _ => ?_) (fun q => absurd q (by decide))
      refine nw_aload_n l_X12_craterOf_14 15 rfl rfl ?_
      refine nw_iload_n l_X12_craterOf_15 16 rfl rfl ?_
      refine nw_call0 0 303 l_X12_craterOf_16 rfl rfl g_X12_sails (Nat.lt_of_lt_of_le (by decide) hD) rfl (Or.inl ⟨_, rfl, k_303⟩) (ls' := [some (.inr (.inl (some 303))), some (.inl x1)]) rfl (st' := []) rfl 19 rfl ?_
      refine nw_aload_n l_X12_sails_0 1 rfl rfl ?_
      refine nw_getA l_X12_sails_1 4 rfl k_303 r_303_0 ?_
      refine nw_bipush (len := 0) l_X12_sails_4 6 rfl c_62 ?_
      refine nw_iload_n l_X12_sails_6 7 rfl rfl ?_
      have o4 := h.1
      replace h := h.2
      refine nw_iadd l_X12_sails_7 8 rfl o4 ?_
      have o5 := h.1
      replace h := h.2
      refine nw_iald l_X12_sails_8 9 rfl k_304 o5 (v := J 304 (62 + x1)) rfl ?_
      refine nw_if_le l_X12_sails_9 12 rfl (fun q6 => ?_) (fun q6 => ?_)
      · replace h := h.1 q6
        refine nw_iconst (len := 0) l_X12_sails_16 17 rfl c_0 ?_
        refine nw_ireturnZ l_X12_sails_17 rfl (Or.inl rfl) ?_
        refine nw_if_eq l_X12_craterOf_19 22 rfl (fun _ => ?_) (fun q => absurd q (by decide))
        refine nw_aload_n l_X12_craterOf_30 31 rfl rfl ?_
        refine nw_aload_n l_X12_craterOf_31 32 rfl rfl ?_
        refine nw_getA l_X12_craterOf_32 35 rfl k_303 r_303_0 ?_
        refine nw_bipush (len := 0) l_X12_craterOf_35 37 rfl c_56 ?_
        refine nw_iload_n l_X12_craterOf_37 38 rfl rfl ?_
        have o7 := h.1
        replace h := h.2
        refine nw_iadd l_X12_craterOf_38 39 rfl o7 ?_
        have o8 := h.1
        replace h := h.2
        refine nw_iald l_X12_craterOf_39 40 rfl k_304 o8 (v := J 304 (56 + x1)) rfl ?_
        refine nw_call0 0 303 l_X12_craterOf_40 rfl rfl g_X12_done (Nat.lt_of_lt_of_le (by decide) hD) rfl (Or.inl ⟨_, rfl, k_303⟩) (ls' := [some (.inr (.inl (some 303))), some (.inl (J 304 (56 + x1)))]) rfl (st' := []) rfl 43 rfl ?_
        refine nw_aload_n l_X12_done_0 1 rfl rfl ?_
        refine nw_iconst (len := 0) l_X12_done_1 2 rfl c_0 ?_
        refine nw_putI l_X12_done_2 5 rfl k_303 ?_
        refine nw_iload_n l_X12_done_5 6 rfl rfl ?_
        refine nw_ireturn l_X12_done_6 rfl ?_
        refine nw_ireturn l_X12_craterOf_43 rfl ?_
        exact h
      · replace h := h.2 q6
        refine nw_iconst (len := 0) l_X12_sails_12 13 rfl c_1 ?_
        refine nw_goto l_X12_sails_13 ?_
        refine nw_ireturnZ l_X12_sails_17 rfl (Or.inr rfl) ?_
        refine nw_if_eq l_X12_craterOf_19 22 rfl (fun q => absurd q (by decide)) (fun _ => ?_)
        refine nw_aload_n l_X12_craterOf_22 23 rfl rfl ?_
        refine nw_iconst (len := 0) l_X12_craterOf_23 24 rfl c_2 ?_
        refine nw_call0 0 303 l_X12_craterOf_24 rfl rfl g_X12_fails (Nat.lt_of_lt_of_le (by decide) hD) rfl (Or.inl ⟨_, rfl, k_303⟩) (ls' := [some (.inr (.inl (some 303))), some (.inl 2)]) rfl (st' := []) rfl 27 rfl ?_
        refine nw_aload_n l_X12_fails_0 1 rfl rfl ?_
        refine nw_iload_n l_X12_fails_1 2 rfl rfl ?_
        refine nw_putI l_X12_fails_2 5 rfl k_303 ?_
        refine nw_iconst (len := 0) l_X12_fails_5 6 rfl c_0 ?_
        refine nw_ireturn l_X12_fails_6 rfl ?_
        refine nw_goto l_X12_craterOf_27 ?_
        refine nw_ireturn l_X12_craterOf_43 rfl ?_
        exact h
theorem b_X12_depthOf_0 {x1 : Int} (hD : 2 ≤ D) (h : ((-2147483648 ≤ (J 304 1) - 1 ∧ (J 304 1) - 1 < 2147483648) ∧ ((x1 < 0 → Qr (some (.inl 0)) (nw_u J 303 13 1, L, W)) ∧ (0 ≤ x1 → (((J 304 1) - 1 < x1 → Qr (some (.inl 0)) (nw_u J 303 13 1, L, W)) ∧ (x1 ≤ (J 304 1) - 1 → ((-2147483648 ≤ 10 + x1 ∧ 10 + x1 < 2147483648) ∧ ((0 ≤ 10 + x1 ∧ 10 + x1 < 161) ∧ Qr (some (.inl (J 304 (10 + x1)))) (nw_u J 303 13 0, L, W))))))))) :
    NW sc d_X12_depthOf D (0, [some (.inr (.inl (some 303))), some (.inl x1)], [], (J, L, W), c, sl) Qr Qx := by
  refine nw_aload_n l_X12_depthOf_0 1 rfl rfl ?_
  refine nw_iload_n l_X12_depthOf_1 2 rfl rfl ?_
  refine nw_call0 1 303 l_X12_depthOf_2 rfl rfl g_X12_isCrater (Nat.lt_of_lt_of_le (by decide) hD) rfl (Or.inl ⟨_, rfl, k_303⟩) (ls' := [some (.inr (.inl (some 303))), some (.inl x1)]) rfl (st' := []) rfl 5 rfl ?_
  refine nw_iload_n l_X12_isCrater_0 1 rfl rfl ?_
  refine nw_iconst (len := 0) l_X12_isCrater_1 2 rfl c_0 ?_
  refine nw_aload_n l_X12_isCrater_2 3 rfl rfl ?_
  refine nw_getA l_X12_isCrater_3 6 rfl k_303 r_303_0 ?_
  refine nw_iconst (len := 0) l_X12_isCrater_6 7 rfl c_1 ?_
  refine nw_iald l_X12_isCrater_7 8 rfl k_304 ⟨by decide, by decide⟩ (v := J 304 1) rfl ?_
  refine nw_iconst (len := 0) l_X12_isCrater_8 9 rfl c_1 ?_
  have o1 := h.1
  replace h := h.2
  refine nw_isub l_X12_isCrater_9 10 rfl o1 ?_
  refine nw_call0 0 0 l_X12_isCrater_10 rfl rfl g_X12_in (by decide) rfl True.intro (ls' := [some (.inl x1), some (.inl 0), some (.inl ((J 304 1) - 1))]) rfl (st' := []) rfl 13 rfl ?_
  refine nw_iload_n l_X12_in_0 1 rfl rfl ?_
  refine nw_iload_n l_X12_in_1 2 rfl rfl ?_
  refine nw_ic_lt l_X12_in_2 5 rfl (fun q2 => ?_) (fun q2 => ?_)
  · replace h := h.1 q2
    refine nw_iconst (len := 0) l_X12_in_14 15 rfl c_0 ?_
    refine nw_ireturnZ l_X12_in_15 rfl (Or.inl rfl) ?_
    refine nw_ireturnZ l_X12_isCrater_13 rfl (Or.inl rfl) ?_
    refine nw_if_eq l_X12_depthOf_5 8 rfl (fun _ => ?_) (fun q => absurd q (by decide))
    refine nw_aload_n l_X12_depthOf_24 25 rfl rfl ?_
    refine nw_iconst (len := 0) l_X12_depthOf_25 26 rfl c_1 ?_
    refine nw_call0 0 303 l_X12_depthOf_26 rfl rfl g_X12_fails (Nat.lt_of_lt_of_le (by decide) hD) rfl (Or.inl ⟨_, rfl, k_303⟩) (ls' := [some (.inr (.inl (some 303))), some (.inl 1)]) rfl (st' := []) rfl 29 rfl ?_
    refine nw_aload_n l_X12_fails_0 1 rfl rfl ?_
    refine nw_iload_n l_X12_fails_1 2 rfl rfl ?_
    refine nw_putI l_X12_fails_2 5 rfl k_303 ?_
    refine nw_iconst (len := 0) l_X12_fails_5 6 rfl c_0 ?_
    refine nw_ireturn l_X12_fails_6 rfl ?_
    refine nw_ireturn l_X12_depthOf_29 rfl ?_
    exact h
  · replace h := h.2 q2
    refine nw_iload_n l_X12_in_5 6 rfl rfl ?_
    refine nw_iload_n l_X12_in_6 7 rfl rfl ?_
    refine nw_ic_gt l_X12_in_7 10 rfl (fun q3 => ?_) (fun q3 => ?_)
    · replace h := h.1 q3
      refine nw_iconst (len := 0) l_X12_in_14 15 rfl c_0 ?_
      refine nw_ireturnZ l_X12_in_15 rfl (Or.inl rfl) ?_
      refine nw_ireturnZ l_X12_isCrater_13 rfl (Or.inl rfl) ?_
      refine nw_if_eq l_X12_depthOf_5 8 rfl (fun _ => ?_) (fun q => absurd q (by decide))
      refine nw_aload_n l_X12_depthOf_24 25 rfl rfl ?_
      refine nw_iconst (len := 0) l_X12_depthOf_25 26 rfl c_1 ?_
      refine nw_call0 0 303 l_X12_depthOf_26 rfl rfl g_X12_fails (Nat.lt_of_lt_of_le (by decide) hD) rfl (Or.inl ⟨_, rfl, k_303⟩) (ls' := [some (.inr (.inl (some 303))), some (.inl 1)]) rfl (st' := []) rfl 29 rfl ?_
      refine nw_aload_n l_X12_fails_0 1 rfl rfl ?_
      refine nw_iload_n l_X12_fails_1 2 rfl rfl ?_
      refine nw_putI l_X12_fails_2 5 rfl k_303 ?_
      refine nw_iconst (len := 0) l_X12_fails_5 6 rfl c_0 ?_
      refine nw_ireturn l_X12_fails_6 rfl ?_
      refine nw_ireturn l_X12_depthOf_29 rfl ?_
      exact h
    · replace h := h.2 q3
      refine nw_iconst (len := 0) l_X12_in_10 11 rfl c_1 ?_
      refine nw_goto l_X12_in_11 ?_
      refine nw_ireturnZ l_X12_in_15 rfl (Or.inr rfl) ?_
      refine nw_ireturnZ l_X12_isCrater_13 rfl (Or.inr rfl) ?_
      refine nw_if_eq l_X12_depthOf_5 8 rfl (fun q => absurd q (by decide)) (fun _ => ?_)
      refine nw_aload_n l_X12_depthOf_8 9 rfl rfl ?_
      refine nw_aload_n l_X12_depthOf_9 10 rfl rfl ?_
      refine nw_getA l_X12_depthOf_10 13 rfl k_303 r_303_0 ?_
      refine nw_bipush (len := 0) l_X12_depthOf_13 15 rfl c_10 ?_
      refine nw_iload_n l_X12_depthOf_15 16 rfl rfl ?_
      have o4 := h.1
      replace h := h.2
      refine nw_iadd l_X12_depthOf_16 17 rfl o4 ?_
      have o5 := h.1
      replace h := h.2
      refine nw_iald l_X12_depthOf_17 18 rfl k_304 o5 (v := J 304 (10 + x1)) rfl ?_
      refine nw_call0 0 303 l_X12_depthOf_18 rfl rfl g_X12_done (Nat.lt_of_lt_of_le (by decide) hD) rfl (Or.inl ⟨_, rfl, k_303⟩) (ls' := [some (.inr (.inl (some 303))), some (.inl (J 304 (10 + x1)))]) rfl (st' := []) rfl 21 rfl ?_
      refine nw_aload_n l_X12_done_0 1 rfl rfl ?_
      refine nw_iconst (len := 0) l_X12_done_1 2 rfl c_0 ?_
      refine nw_putI l_X12_done_2 5 rfl k_303 ?_
      refine nw_iload_n l_X12_done_5 6 rfl rfl ?_
      refine nw_ireturn l_X12_done_6 rfl ?_
      refine nw_goto l_X12_depthOf_21 ?_
      refine nw_ireturn l_X12_depthOf_29 rfl ?_
      exact h
theorem b_X12_digits_0 {x1 : Int} (hD : 1 ≤ D) (h : ((¬ J 303 18 = 0 → NW sc d_X12_digits D (34, [some (.inr (.inl (some 303))), some (.inl x1), some (.inl 0), some (.inl 0)], [], (nw_u J 303 18 1, L, W), c, sl) Qr Qx) ∧ (J 303 18 = 0 → ((J 303 7 ≤ J 303 17 → NW sc d_X12_digits D (34, [some (.inr (.inl (some 303))), some (.inl x1), some (.inl 0), some (.inl 0)], [], (nw_u J 303 18 1, L, W), c, sl) Qr Qx) ∧ (J 303 17 < J 303 7 → ((0 ≤ J 303 17 ∧ J 303 17 < 60) ∧ ((J 308 (J 303 17) < 48 → NW sc d_X12_digits D (34, [some (.inr (.inl (some 303))), some (.inl x1), some (.inl 0), some (.inl 0)], [], (nw_u J 303 18 1, L, W), c, sl) Qr Qx) ∧ (48 ≤ J 308 (J 303 17) → ((57 < J 308 (J 303 17) → NW sc d_X12_digits D (34, [some (.inr (.inl (some 303))), some (.inl x1), some (.inl 0), some (.inl 0)], [], (nw_u J 303 18 1, L, W), c, sl) Qr Qx) ∧ (J 308 (J 303 17) ≤ 57 → NW sc d_X12_digits D (34, [some (.inr (.inl (some 303))), some (.inl x1), some (.inl 0), some (.inl 0)], [], (nw_u J 303 18 0, L, W), c, sl) Qr Qx)))))))))) :
    NW sc d_X12_digits D (0, [some (.inr (.inl (some 303))), some (.inl x1), none, none], [], (J, L, W), c, sl) Qr Qx := by
  refine nw_aload_n l_X12_digits_0 1 rfl rfl ?_
  refine nw_aload_n l_X12_digits_1 2 rfl rfl ?_
  refine nw_getZ l_X12_digits_2 5 rfl k_303 (v := J 303 18) rfl ?_
  refine nw_if_ne l_X12_digits_5 8 rfl (fun q1 => ?_) (fun q1 => ?_)
  · replace h := h.1 q1
    refine nw_iconst (len := 0) l_X12_digits_22 23 rfl c_1 ?_
    refine nw_goto l_X12_digits_23 ?_
    refine nw_putZ l_X12_digits_27 30 rfl k_303 (by decide) ?_
    refine nw_iconst (len := 0) l_X12_digits_30 31 rfl c_0 ?_
    refine nw_istore_n l_X12_digits_31 32 rfl rfl (ls' := [some (.inr (.inl (some 303))), some (.inl x1), some (.inl 0), none]) rfl ?_
    refine nw_iconst (len := 0) l_X12_digits_32 33 rfl c_0 ?_
    refine nw_istore_n l_X12_digits_33 34 rfl rfl (ls' := [some (.inr (.inl (some 303))), some (.inl x1), some (.inl 0), some (.inl 0)]) rfl ?_
    exact h
  · replace h := h.2 q1
    refine nw_aload_n l_X12_digits_8 9 rfl rfl ?_
    refine nw_call0 0 303 l_X12_digits_9 rfl rfl g_X12_here (Nat.lt_of_lt_of_le (by decide) hD) rfl (Or.inl ⟨_, rfl, k_303⟩) (ls' := [some (.inr (.inl (some 303)))]) rfl (st' := [.inr (.inl (some 303))]) rfl 12 rfl ?_
    refine nw_aload_n l_X12_here_0 1 rfl rfl ?_
    refine nw_getI l_X12_here_1 4 rfl k_303 (v := J 303 17) rfl ?_
    refine nw_aload_n l_X12_here_4 5 rfl rfl ?_
    refine nw_getI l_X12_here_5 8 rfl k_303 (v := J 303 7) rfl ?_
    refine nw_ic_ge l_X12_here_8 11 rfl (fun q2 => ?_) (fun q2 => ?_)
    · replace h := h.1 q2
      refine nw_iconst (len := 0) l_X12_here_23 24 rfl c_n1 ?_
      refine nw_ireturn l_X12_here_24 rfl ?_
      refine nw_bipush (len := 0) l_X12_digits_12 14 rfl c_48 ?_
      refine nw_bipush (len := 0) l_X12_digits_14 16 rfl c_57 ?_
      refine nw_call0 0 0 l_X12_digits_16 rfl rfl g_X12_in (Nat.lt_of_lt_of_le (by decide) hD) rfl True.intro (ls' := [some (.inl (-1)), some (.inl 48), some (.inl 57)]) rfl (st' := [.inr (.inl (some 303))]) rfl 19 rfl ?_
      refine nw_iload_n l_X12_in_0 1 rfl rfl ?_
      refine nw_iload_n l_X12_in_1 2 rfl rfl ?_
      refine nw_ic_lt l_X12_in_2 5 rfl (fun _ => ?_) (fun q => absurd q (by decide))
      refine nw_iconst (len := 0) l_X12_in_14 15 rfl c_0 ?_
      refine nw_ireturnZ l_X12_in_15 rfl (Or.inl rfl) ?_
      refine nw_if_ne l_X12_digits_19 22 rfl (fun q => absurd q (by decide)) (fun _ => ?_)
      refine nw_iconst (len := 0) l_X12_digits_22 23 rfl c_1 ?_
      refine nw_goto l_X12_digits_23 ?_
      refine nw_putZ l_X12_digits_27 30 rfl k_303 (by decide) ?_
      refine nw_iconst (len := 0) l_X12_digits_30 31 rfl c_0 ?_
      refine nw_istore_n l_X12_digits_31 32 rfl rfl (ls' := [some (.inr (.inl (some 303))), some (.inl x1), some (.inl 0), none]) rfl ?_
      refine nw_iconst (len := 0) l_X12_digits_32 33 rfl c_0 ?_
      refine nw_istore_n l_X12_digits_33 34 rfl rfl (ls' := [some (.inr (.inl (some 303))), some (.inl x1), some (.inl 0), some (.inl 0)]) rfl ?_
      exact h
    · replace h := h.2 q2
      refine nw_aload_n l_X12_here_11 12 rfl rfl ?_
      refine nw_getA l_X12_here_12 15 rfl k_303 r_303_6 ?_
      refine nw_aload_n l_X12_here_15 16 rfl rfl ?_
      refine nw_getI l_X12_here_16 19 rfl k_303 (v := J 303 17) rfl ?_
      have o3 := h.1
      replace h := h.2
      refine nw_cald l_X12_here_19 20 rfl k_308 o3 (v := J 308 (J 303 17)) rfl ?_
      refine nw_goto l_X12_here_20 ?_
      refine nw_ireturn l_X12_here_24 rfl ?_
      refine nw_bipush (len := 0) l_X12_digits_12 14 rfl c_48 ?_
      refine nw_bipush (len := 0) l_X12_digits_14 16 rfl c_57 ?_
      refine nw_call0 0 0 l_X12_digits_16 rfl rfl g_X12_in (Nat.lt_of_lt_of_le (by decide) hD) rfl True.intro (ls' := [some (.inl (J 308 (J 303 17))), some (.inl 48), some (.inl 57)]) rfl (st' := [.inr (.inl (some 303))]) rfl 19 rfl ?_
      refine nw_iload_n l_X12_in_0 1 rfl rfl ?_
      refine nw_iload_n l_X12_in_1 2 rfl rfl ?_
      refine nw_ic_lt l_X12_in_2 5 rfl (fun q4 => ?_) (fun q4 => ?_)
      · replace h := h.1 q4
        refine nw_iconst (len := 0) l_X12_in_14 15 rfl c_0 ?_
        refine nw_ireturnZ l_X12_in_15 rfl (Or.inl rfl) ?_
        refine nw_if_ne l_X12_digits_19 22 rfl (fun q => absurd q (by decide)) (fun _ => ?_)
        refine nw_iconst (len := 0) l_X12_digits_22 23 rfl c_1 ?_
        refine nw_goto l_X12_digits_23 ?_
        refine nw_putZ l_X12_digits_27 30 rfl k_303 (by decide) ?_
        refine nw_iconst (len := 0) l_X12_digits_30 31 rfl c_0 ?_
        refine nw_istore_n l_X12_digits_31 32 rfl rfl (ls' := [some (.inr (.inl (some 303))), some (.inl x1), some (.inl 0), none]) rfl ?_
        refine nw_iconst (len := 0) l_X12_digits_32 33 rfl c_0 ?_
        refine nw_istore_n l_X12_digits_33 34 rfl rfl (ls' := [some (.inr (.inl (some 303))), some (.inl x1), some (.inl 0), some (.inl 0)]) rfl ?_
        exact h
      · replace h := h.2 q4
        refine nw_iload_n l_X12_in_5 6 rfl rfl ?_
        refine nw_iload_n l_X12_in_6 7 rfl rfl ?_
        refine nw_ic_gt l_X12_in_7 10 rfl (fun q5 => ?_) (fun q5 => ?_)
        · replace h := h.1 q5
          refine nw_iconst (len := 0) l_X12_in_14 15 rfl c_0 ?_
          refine nw_ireturnZ l_X12_in_15 rfl (Or.inl rfl) ?_
          refine nw_if_ne l_X12_digits_19 22 rfl (fun q => absurd q (by decide)) (fun _ => ?_)
          refine nw_iconst (len := 0) l_X12_digits_22 23 rfl c_1 ?_
          refine nw_goto l_X12_digits_23 ?_
          refine nw_putZ l_X12_digits_27 30 rfl k_303 (by decide) ?_
          refine nw_iconst (len := 0) l_X12_digits_30 31 rfl c_0 ?_
          refine nw_istore_n l_X12_digits_31 32 rfl rfl (ls' := [some (.inr (.inl (some 303))), some (.inl x1), some (.inl 0), none]) rfl ?_
          refine nw_iconst (len := 0) l_X12_digits_32 33 rfl c_0 ?_
          refine nw_istore_n l_X12_digits_33 34 rfl rfl (ls' := [some (.inr (.inl (some 303))), some (.inl x1), some (.inl 0), some (.inl 0)]) rfl ?_
          exact h
        · replace h := h.2 q5
          refine nw_iconst (len := 0) l_X12_in_10 11 rfl c_1 ?_
          refine nw_goto l_X12_in_11 ?_
          refine nw_ireturnZ l_X12_in_15 rfl (Or.inr rfl) ?_
          refine nw_if_ne l_X12_digits_19 22 rfl (fun _ => ?_) (fun q => absurd q (by decide))
          refine nw_iconst (len := 0) l_X12_digits_26 27 rfl c_0 ?_
          refine nw_putZ l_X12_digits_27 30 rfl k_303 (by decide) ?_
          refine nw_iconst (len := 0) l_X12_digits_30 31 rfl c_0 ?_
          refine nw_istore_n l_X12_digits_31 32 rfl rfl (ls' := [some (.inr (.inl (some 303))), some (.inl x1), some (.inl 0), none]) rfl ?_
          refine nw_iconst (len := 0) l_X12_digits_32 33 rfl c_0 ?_
          refine nw_istore_n l_X12_digits_33 34 rfl rfl (ls' := [some (.inr (.inl (some 303))), some (.inl x1), some (.inl 0), some (.inl 0)]) rfl ?_
          exact h
theorem b_X12_digits_34 {x1 : Int} {x2 : Int} {x3 : Int} (hD : 1 ≤ D) (h : ((¬ J 303 18 = 0 → Qr (some (.inl x2)) (J, L, W)) ∧ (J 303 18 = 0 → ((x1 ≤ x3 → Qr (some (.inl x2)) (J, L, W)) ∧ (x3 < x1 → ((J 303 7 ≤ J 303 17 → Qr (some (.inl x2)) (J, L, W)) ∧ (J 303 17 < J 303 7 → ((0 ≤ J 303 17 ∧ J 303 17 < 60) ∧ ((J 308 (J 303 17) < 48 → Qr (some (.inl x2)) (J, L, W)) ∧ (48 ≤ J 308 (J 303 17) → ((57 < J 308 (J 303 17) → Qr (some (.inl x2)) (J, L, W)) ∧ (J 308 (J 303 17) ≤ 57 → ((-2147483648 ≤ 10 * x2 ∧ 10 * x2 < 2147483648) ∧ ((-2147483648 ≤ (10 * x2) + (J 308 (J 303 17)) ∧ (10 * x2) + (J 308 (J 303 17)) < 2147483648) ∧ ((-2147483648 ≤ ((10 * x2) + (J 308 (J 303 17))) - 48 ∧ ((10 * x2) + (J 308 (J 303 17))) - 48 < 2147483648) ∧ ((-2147483648 ≤ (J 303 17) + 1 ∧ (J 303 17) + 1 < 2147483648) ∧ ((-2147483648 ≤ x3 + 1 ∧ x3 + 1 < 2147483648) ∧ NW sc d_X12_digits D (34, [some (.inr (.inl (some 303))), some (.inl x1), some (.inl (((10 * x2) + (J 308 (J 303 17))) - 48)), some (.inl (x3 + 1))], [], (nw_u J 303 17 ((J 303 17) + 1), L, W), c, sl) Qr Qx))))))))))))))))) :
    NW sc d_X12_digits D (34, [some (.inr (.inl (some 303))), some (.inl x1), some (.inl x2), some (.inl x3)], [], (J, L, W), c, sl) Qr Qx := by
  refine nw_aload_n l_X12_digits_34 35 rfl rfl ?_
  refine nw_getZ l_X12_digits_35 38 rfl k_303 (v := J 303 18) rfl ?_
  refine nw_if_ne l_X12_digits_38 41 rfl (fun q1 => ?_) (fun q1 => ?_)
  · replace h := h.1 q1
    refine nw_iload_n l_X12_digits_89 90 rfl rfl ?_
    refine nw_ireturn l_X12_digits_90 rfl ?_
    exact h
  · replace h := h.2 q1
    refine nw_iload_n l_X12_digits_41 42 rfl rfl ?_
    refine nw_iload_n l_X12_digits_42 43 rfl rfl ?_
    refine nw_ic_ge l_X12_digits_43 46 rfl (fun q2 => ?_) (fun q2 => ?_)
    · replace h := h.1 q2
      refine nw_iload_n l_X12_digits_89 90 rfl rfl ?_
      refine nw_ireturn l_X12_digits_90 rfl ?_
      exact h
    · replace h := h.2 q2
      refine nw_aload_n l_X12_digits_46 47 rfl rfl ?_
      refine nw_call0 0 303 l_X12_digits_47 rfl rfl g_X12_here (Nat.lt_of_lt_of_le (by decide) hD) rfl (Or.inl ⟨_, rfl, k_303⟩) (ls' := [some (.inr (.inl (some 303)))]) rfl (st' := []) rfl 50 rfl ?_
      refine nw_aload_n l_X12_here_0 1 rfl rfl ?_
      refine nw_getI l_X12_here_1 4 rfl k_303 (v := J 303 17) rfl ?_
      refine nw_aload_n l_X12_here_4 5 rfl rfl ?_
      refine nw_getI l_X12_here_5 8 rfl k_303 (v := J 303 7) rfl ?_
      refine nw_ic_ge l_X12_here_8 11 rfl (fun q3 => ?_) (fun q3 => ?_)
      · replace h := h.1 q3
        refine nw_iconst (len := 0) l_X12_here_23 24 rfl c_n1 ?_
        refine nw_ireturn l_X12_here_24 rfl ?_
        refine nw_bipush (len := 0) l_X12_digits_50 52 rfl c_48 ?_
        refine nw_bipush (len := 0) l_X12_digits_52 54 rfl c_57 ?_
        refine nw_call0 0 0 l_X12_digits_54 rfl rfl g_X12_in (Nat.lt_of_lt_of_le (by decide) hD) rfl True.intro (ls' := [some (.inl (-1)), some (.inl 48), some (.inl 57)]) rfl (st' := []) rfl 57 rfl ?_
        refine nw_iload_n l_X12_in_0 1 rfl rfl ?_
        refine nw_iload_n l_X12_in_1 2 rfl rfl ?_
        refine nw_ic_lt l_X12_in_2 5 rfl (fun _ => ?_) (fun q => absurd q (by decide))
        refine nw_iconst (len := 0) l_X12_in_14 15 rfl c_0 ?_
        refine nw_ireturnZ l_X12_in_15 rfl (Or.inl rfl) ?_
        refine nw_if_eq l_X12_digits_57 60 rfl (fun _ => ?_) (fun q => absurd q (by decide))
        refine nw_iload_n l_X12_digits_89 90 rfl rfl ?_
        refine nw_ireturn l_X12_digits_90 rfl ?_
        exact h
      · replace h := h.2 q3
        refine nw_aload_n l_X12_here_11 12 rfl rfl ?_
        refine nw_getA l_X12_here_12 15 rfl k_303 r_303_6 ?_
        refine nw_aload_n l_X12_here_15 16 rfl rfl ?_
        refine nw_getI l_X12_here_16 19 rfl k_303 (v := J 303 17) rfl ?_
        have o4 := h.1
        replace h := h.2
        refine nw_cald l_X12_here_19 20 rfl k_308 o4 (v := J 308 (J 303 17)) rfl ?_
        refine nw_goto l_X12_here_20 ?_
        refine nw_ireturn l_X12_here_24 rfl ?_
        refine nw_bipush (len := 0) l_X12_digits_50 52 rfl c_48 ?_
        refine nw_bipush (len := 0) l_X12_digits_52 54 rfl c_57 ?_
        refine nw_call0 0 0 l_X12_digits_54 rfl rfl g_X12_in (Nat.lt_of_lt_of_le (by decide) hD) rfl True.intro (ls' := [some (.inl (J 308 (J 303 17))), some (.inl 48), some (.inl 57)]) rfl (st' := []) rfl 57 rfl ?_
        refine nw_iload_n l_X12_in_0 1 rfl rfl ?_
        refine nw_iload_n l_X12_in_1 2 rfl rfl ?_
        refine nw_ic_lt l_X12_in_2 5 rfl (fun q5 => ?_) (fun q5 => ?_)
        · replace h := h.1 q5
          refine nw_iconst (len := 0) l_X12_in_14 15 rfl c_0 ?_
          refine nw_ireturnZ l_X12_in_15 rfl (Or.inl rfl) ?_
          refine nw_if_eq l_X12_digits_57 60 rfl (fun _ => ?_) (fun q => absurd q (by decide))
          refine nw_iload_n l_X12_digits_89 90 rfl rfl ?_
          refine nw_ireturn l_X12_digits_90 rfl ?_
          exact h
        · replace h := h.2 q5
          refine nw_iload_n l_X12_in_5 6 rfl rfl ?_
          refine nw_iload_n l_X12_in_6 7 rfl rfl ?_
          refine nw_ic_gt l_X12_in_7 10 rfl (fun q6 => ?_) (fun q6 => ?_)
          · replace h := h.1 q6
            refine nw_iconst (len := 0) l_X12_in_14 15 rfl c_0 ?_
            refine nw_ireturnZ l_X12_in_15 rfl (Or.inl rfl) ?_
            refine nw_if_eq l_X12_digits_57 60 rfl (fun _ => ?_) (fun q => absurd q (by decide))
            refine nw_iload_n l_X12_digits_89 90 rfl rfl ?_
            refine nw_ireturn l_X12_digits_90 rfl ?_
            exact h
          · replace h := h.2 q6
            refine nw_iconst (len := 0) l_X12_in_10 11 rfl c_1 ?_
            refine nw_goto l_X12_in_11 ?_
            refine nw_ireturnZ l_X12_in_15 rfl (Or.inr rfl) ?_
            refine nw_if_eq l_X12_digits_57 60 rfl (fun q => absurd q (by decide)) (fun _ => ?_)
            refine nw_bipush (len := 0) l_X12_digits_60 62 rfl c_10 ?_
            refine nw_iload_n l_X12_digits_62 63 rfl rfl ?_
            have o7 := h.1
            replace h := h.2
            refine nw_imul l_X12_digits_63 64 rfl o7 ?_
            refine nw_aload_n l_X12_digits_64 65 rfl rfl ?_
            refine nw_call0 0 303 l_X12_digits_65 rfl rfl g_X12_here (Nat.lt_of_lt_of_le (by decide) hD) rfl (Or.inl ⟨_, rfl, k_303⟩) (ls' := [some (.inr (.inl (some 303)))]) rfl (st' := [.inl (10 * x2)]) rfl 68 rfl ?_
            refine nw_aload_n l_X12_here_0 1 rfl rfl ?_
            refine nw_getI l_X12_here_1 4 rfl k_303 (v := J 303 17) rfl ?_
            refine nw_aload_n l_X12_here_4 5 rfl rfl ?_
            refine nw_getI l_X12_here_5 8 rfl k_303 (v := J 303 7) rfl ?_
            refine nw_ic_ge l_X12_here_8 11 rfl (fun q => absurd q (by omega)) (fun _ => ?_)
            refine nw_aload_n l_X12_here_11 12 rfl rfl ?_
            refine nw_getA l_X12_here_12 15 rfl k_303 r_303_6 ?_
            refine nw_aload_n l_X12_here_15 16 rfl rfl ?_
            refine nw_getI l_X12_here_16 19 rfl k_303 (v := J 303 17) rfl ?_
            refine nw_cald l_X12_here_19 20 rfl k_308 o4 (v := J 308 (J 303 17)) rfl ?_
            refine nw_goto l_X12_here_20 ?_
            refine nw_ireturn l_X12_here_24 rfl ?_
            have o8 := h.1
            replace h := h.2
            refine nw_iadd l_X12_digits_68 69 rfl o8 ?_
            refine nw_bipush (len := 0) l_X12_digits_69 71 rfl c_48 ?_
            have o9 := h.1
            replace h := h.2
            refine nw_isub l_X12_digits_71 72 rfl o9 ?_
            refine nw_istore_n l_X12_digits_72 73 rfl rfl (ls' := [some (.inr (.inl (some 303))), some (.inl x1), some (.inl (((10 * x2) + (J 308 (J 303 17))) - 48)), some (.inl x3)]) rfl ?_
            refine nw_aload_n l_X12_digits_73 74 rfl rfl ?_
            refine nw_dupA l_X12_digits_74 75 rfl ?_
            refine nw_getI l_X12_digits_75 78 rfl k_303 (v := J 303 17) rfl ?_
            refine nw_iconst (len := 0) l_X12_digits_78 79 rfl c_1 ?_
            have o10 := h.1
            replace h := h.2
            refine nw_iadd l_X12_digits_79 80 rfl o10 ?_
            refine nw_putI l_X12_digits_80 83 rfl k_303 ?_
            have o11 := h.1
            replace h := h.2
            refine nw_iinc l_X12_digits_83 86 rfl 1 (by decide) rfl rfl o11 (ls' := [some (.inr (.inl (some 303))), some (.inl x1), some (.inl (((10 * x2) + (J 308 (J 303 17))) - 48)), some (.inl (x3 + 1))]) rfl ?_
            refine nw_goto l_X12_digits_86 ?_
            exact h
theorem b_X12_digitsAfter_0 {x1 : Int} (hD : 2 ≤ D) (h : NW sc d_X12_needs 1 (0, [some (.inr (.inl (some 303))), some (.inl 32)], [], (J, L, W), 0, 0) (fun v M9 => NW sc d_X12_digitsAfter D (6, [some (.inr (.inl (some 303))), some (.inl x1)], nw_push v [], M9, c, sl) Qr Qx) Qx) :
    NW sc d_X12_digitsAfter D (0, [some (.inr (.inl (some 303))), some (.inl x1)], [], (J, L, W), c, sl) Qr Qx := by
  refine nw_aload_n l_X12_digitsAfter_0 1 rfl rfl ?_
  refine nw_bipush (len := 0) l_X12_digitsAfter_1 3 rfl c_32 ?_
  refine nw_call0 1 303 l_X12_digitsAfter_3 rfl rfl g_X12_needs (Nat.lt_of_lt_of_le (by decide) hD) rfl (Or.inl ⟨_, rfl, k_303⟩) (ls' := [some (.inr (.inl (some 303))), some (.inl 32)]) rfl (st' := []) rfl 6 rfl ?_
  exact h
theorem b_X12_digitsAfter_6 {x1 : Int} (hD : 2 ≤ D) (h : NW sc d_X12_digits 1 (0, [some (.inr (.inl (some 303))), some (.inl x1), none, none], [], (J, L, W), 0, 0) (fun v M9 => NW sc d_X12_digitsAfter D (11, [none, none], nw_push v [], M9, c, sl) Qr Qx) Qx) :
    NW sc d_X12_digitsAfter D (6, [some (.inr (.inl (some 303))), some (.inl x1)], [], (J, L, W), c, sl) Qr Qx := by
  refine nw_aload_n l_X12_digitsAfter_6 7 rfl rfl ?_
  refine nw_iload_n l_X12_digitsAfter_7 8 rfl rfl ?_
  refine nw_drop (ls' := [none, none]) ⟨True.intro, ⟨True.intro, True.intro⟩⟩ ?_
  refine nw_call0 1 303 l_X12_digitsAfter_8 rfl rfl g_X12_digits (Nat.lt_of_lt_of_le (by decide) hD) rfl (Or.inl ⟨_, rfl, k_303⟩) (ls' := [some (.inr (.inl (some 303))), some (.inl x1), none, none]) rfl (st' := []) rfl 11 rfl ?_
  exact h
theorem b_X12_digitsAfter_11 {y0 : Int} (h : Qr (some (.inl y0)) (J, L, W)) :
    NW sc d_X12_digitsAfter D (11, [none, none], [.inl y0], (J, L, W), c, sl) Qr Qx := by
  refine nw_ireturn l_X12_digitsAfter_11 rfl ?_
  exact h
theorem b_X12_drops_0 {x1 : Int} (h : NW sc d_X12_drops D (3, [some (.inr (.inl (some 303))), some (.inl x1), some (.inl 71), none], [], (J, L, W), c, sl) Qr Qx) :
    NW sc d_X12_drops D (0, [some (.inr (.inl (some 303))), some (.inl x1), none, none], [], (J, L, W), c, sl) Qr Qx := by
  refine nw_bipush (len := 0) l_X12_drops_0 2 rfl c_71 ?_
  refine nw_istore_n l_X12_drops_2 3 rfl rfl (ls' := [some (.inr (.inl (some 303))), some (.inl x1), some (.inl 71), none]) rfl ?_
  exact h
theorem b_X12_drops_3 {x1 : Int} {x2 : Int} (h : ((131 ≤ x2 → ((-2147483648 ≤ (J 304 4) - 1 ∧ (J 304 4) - 1 < 2147483648) ∧ Qr none (nw_u J 304 4 ((J 304 4) - 1), L, W))) ∧ (x2 < 131 → NW sc d_X12_drops D (12, [some (.inr (.inl (some 303))), some (.inl x1), some (.inl x2), some (.inl x1)], [], (J, L, W), c, sl) Qr Qx))) :
    NW sc d_X12_drops D (3, [some (.inr (.inl (some 303))), some (.inl x1), some (.inl x2), none], [], (J, L, W), c, sl) Qr Qx := by
  refine nw_iload_n l_X12_drops_3 4 rfl rfl ?_
  refine nw_sipush (len := 0) l_X12_drops_4 7 rfl c_131 ?_
  refine nw_ic_ge l_X12_drops_7 10 rfl (fun q1 => ?_) (fun q1 => ?_)
  · replace h := h.1 q1
    refine nw_aload_n l_X12_drops_48 49 rfl rfl ?_
    refine nw_getA l_X12_drops_49 52 rfl k_303 r_303_0 ?_
    refine nw_iconst (len := 0) l_X12_drops_52 53 rfl c_4 ?_
    refine nw_dup2 l_X12_drops_53 54 rfl ?_
    refine nw_iald l_X12_drops_54 55 rfl k_304 ⟨by decide, by decide⟩ (v := J 304 4) rfl ?_
    refine nw_iconst (len := 0) l_X12_drops_55 56 rfl c_1 ?_
    have o2 := h.1
    replace h := h.2
    refine nw_isub l_X12_drops_56 57 rfl o2 ?_
    refine nw_iast l_X12_drops_57 58 rfl k_304 ⟨by decide, by decide⟩ ?_
    refine nw_return l_X12_drops_58 rfl ?_
    exact h
  · replace h := h.2 q1
    refine nw_iload_n l_X12_drops_10 11 rfl rfl ?_
    refine nw_istore_n l_X12_drops_11 12 rfl rfl (ls' := [some (.inr (.inl (some 303))), some (.inl x1), some (.inl x2), some (.inl x1)]) rfl ?_
    exact h
theorem b_X12_drops_12 {x1 : Int} {x2 : Int} {x3 : Int} (h : ((9 ≤ x3 → ((-2147483648 ≤ x2 + 10 ∧ x2 + 10 < 2147483648) ∧ NW sc d_X12_drops D (3, [some (.inr (.inl (some 303))), some (.inl x1), some (.inl (x2 + 10)), none], [], (J, L, W), c, sl) Qr Qx)) ∧ (x3 < 9 → ((-2147483648 ≤ x2 + x3 ∧ x2 + x3 < 2147483648) ∧ ((-2147483648 ≤ (x2 + x3) + 1 ∧ (x2 + x3) + 1 < 2147483648) ∧ ((0 ≤ (x2 + x3) + 1 ∧ (x2 + x3) + 1 < 161) ∧ ((0 ≤ x2 + x3 ∧ x2 + x3 < 161) ∧ ((-2147483648 ≤ x3 + 1 ∧ x3 + 1 < 2147483648) ∧ NW sc d_X12_drops D (12, [some (.inr (.inl (some 303))), some (.inl x1), some (.inl x2), some (.inl (x3 + 1))], [], (nw_u J 304 (x2 + x3) (J 304 ((x2 + x3) + 1)), L, W), c, sl) Qr Qx)))))))) :
    NW sc d_X12_drops D (12, [some (.inr (.inl (some 303))), some (.inl x1), some (.inl x2), some (.inl x3)], [], (J, L, W), c, sl) Qr Qx := by
  refine nw_iload_n l_X12_drops_12 13 rfl rfl ?_
  refine nw_bipush (len := 0) l_X12_drops_13 15 rfl c_9 ?_
  refine nw_ic_ge l_X12_drops_15 18 rfl (fun q1 => ?_) (fun q1 => ?_)
  · replace h := h.1 q1
    have o2 := h.1
    replace h := h.2
    refine nw_iinc l_X12_drops_42 45 rfl 10 (by decide) rfl rfl o2 (ls' := [some (.inr (.inl (some 303))), some (.inl x1), some (.inl (x2 + 10)), some (.inl x3)]) rfl ?_
    refine nw_goto l_X12_drops_45 ?_
    refine nw_drop (ls' := [some (.inr (.inl (some 303))), some (.inl x1), some (.inl (x2 + 10)), none]) ⟨rfl, ⟨rfl, ⟨rfl, ⟨True.intro, True.intro⟩⟩⟩⟩ ?_
    exact h
  · replace h := h.2 q1
    refine nw_aload_n l_X12_drops_18 19 rfl rfl ?_
    refine nw_getA l_X12_drops_19 22 rfl k_303 r_303_0 ?_
    refine nw_iload_n l_X12_drops_22 23 rfl rfl ?_
    refine nw_iload_n l_X12_drops_23 24 rfl rfl ?_
    have o3 := h.1
    replace h := h.2
    refine nw_iadd l_X12_drops_24 25 rfl o3 ?_
    refine nw_aload_n l_X12_drops_25 26 rfl rfl ?_
    refine nw_getA l_X12_drops_26 29 rfl k_303 r_303_0 ?_
    refine nw_iload_n l_X12_drops_29 30 rfl rfl ?_
    refine nw_iload_n l_X12_drops_30 31 rfl rfl ?_
    refine nw_iadd l_X12_drops_31 32 rfl o3 ?_
    refine nw_iconst (len := 0) l_X12_drops_32 33 rfl c_1 ?_
    have o4 := h.1
    replace h := h.2
    refine nw_iadd l_X12_drops_33 34 rfl o4 ?_
    have o5 := h.1
    replace h := h.2
    refine nw_iald l_X12_drops_34 35 rfl k_304 o5 (v := J 304 ((x2 + x3) + 1)) rfl ?_
    have o6 := h.1
    replace h := h.2
    refine nw_iast l_X12_drops_35 36 rfl k_304 o6 ?_
    have o7 := h.1
    replace h := h.2
    refine nw_iinc l_X12_drops_36 39 rfl 1 (by decide) rfl rfl o7 (ls' := [some (.inr (.inl (some 303))), some (.inl x1), some (.inl x2), some (.inl (x3 + 1))]) rfl ?_
    refine nw_goto l_X12_drops_39 ?_
    exact h
theorem b_X12_earliestArrival_0 {x1 : Int} {x2 : Int} (hD : 3 ≤ D) (h : ((-2147483648 ≤ (J 304 3) - 1 ∧ (J 304 3) - 1 < 2147483648) ∧ ((x1 < 0 → Qr (some (.inl 0)) (nw_u J 303 13 1, L, W)) ∧ (0 ≤ x1 → (((J 304 3) - 1 < x1 → Qr (some (.inl 0)) (nw_u J 303 13 1, L, W)) ∧ (x1 ≤ (J 304 3) - 1 → ((-2147483648 ≤ (J 304 1) - 1 ∧ (J 304 1) - 1 < 2147483648) ∧ ((x2 < 0 → Qr (some (.inl 0)) (nw_u J 303 13 1, L, W)) ∧ (0 ≤ x2 → (((J 304 1) - 1 < x2 → Qr (some (.inl 0)) (nw_u J 303 13 1, L, W)) ∧ (x2 ≤ (J 304 1) - 1 → NW sc d_X12_earliestArrival D (24, [some (.inr (.inl (some 303))), some (.inl x1), some (.inl x2), some (.inl 0), none], [], (J, L, W), c, sl) Qr Qx))))))))))) :
    NW sc d_X12_earliestArrival D (0, [some (.inr (.inl (some 303))), some (.inl x1), some (.inl x2), none, none], [], (J, L, W), c, sl) Qr Qx := by
  refine nw_aload_n l_X12_earliestArrival_0 1 rfl rfl ?_
  refine nw_iload_n l_X12_earliestArrival_1 2 rfl rfl ?_
  refine nw_call0 1 303 l_X12_earliestArrival_2 rfl rfl g_X12_isFerry (Nat.lt_of_lt_of_le (by decide) hD) rfl (Or.inl ⟨_, rfl, k_303⟩) (ls' := [some (.inr (.inl (some 303))), some (.inl x1)]) rfl (st' := []) rfl 5 rfl ?_
  refine nw_iload_n l_X12_isFerry_0 1 rfl rfl ?_
  refine nw_iconst (len := 0) l_X12_isFerry_1 2 rfl c_0 ?_
  refine nw_aload_n l_X12_isFerry_2 3 rfl rfl ?_
  refine nw_getA l_X12_isFerry_3 6 rfl k_303 r_303_0 ?_
  refine nw_iconst (len := 0) l_X12_isFerry_6 7 rfl c_3 ?_
  refine nw_iald l_X12_isFerry_7 8 rfl k_304 ⟨by decide, by decide⟩ (v := J 304 3) rfl ?_
  refine nw_iconst (len := 0) l_X12_isFerry_8 9 rfl c_1 ?_
  have o1 := h.1
  replace h := h.2
  refine nw_isub l_X12_isFerry_9 10 rfl o1 ?_
  refine nw_call0 0 0 l_X12_isFerry_10 rfl rfl g_X12_in (by decide) rfl True.intro (ls' := [some (.inl x1), some (.inl 0), some (.inl ((J 304 3) - 1))]) rfl (st' := []) rfl 13 rfl ?_
  refine nw_iload_n l_X12_in_0 1 rfl rfl ?_
  refine nw_iload_n l_X12_in_1 2 rfl rfl ?_
  refine nw_ic_lt l_X12_in_2 5 rfl (fun q2 => ?_) (fun q2 => ?_)
  · replace h := h.1 q2
    refine nw_iconst (len := 0) l_X12_in_14 15 rfl c_0 ?_
    refine nw_ireturnZ l_X12_in_15 rfl (Or.inl rfl) ?_
    refine nw_ireturnZ l_X12_isFerry_13 rfl (Or.inl rfl) ?_
    refine nw_if_eq l_X12_earliestArrival_5 8 rfl (fun _ => ?_) (fun q => absurd q (by decide))
    refine nw_aload_n l_X12_earliestArrival_16 17 rfl rfl ?_
    refine nw_iconst (len := 0) l_X12_earliestArrival_17 18 rfl c_1 ?_
    refine nw_call0 0 303 l_X12_earliestArrival_18 rfl rfl g_X12_fails (Nat.lt_of_lt_of_le (by decide) hD) rfl (Or.inl ⟨_, rfl, k_303⟩) (ls' := [some (.inr (.inl (some 303))), some (.inl 1)]) rfl (st' := []) rfl 21 rfl ?_
    refine nw_aload_n l_X12_fails_0 1 rfl rfl ?_
    refine nw_iload_n l_X12_fails_1 2 rfl rfl ?_
    refine nw_putI l_X12_fails_2 5 rfl k_303 ?_
    refine nw_iconst (len := 0) l_X12_fails_5 6 rfl c_0 ?_
    refine nw_ireturn l_X12_fails_6 rfl ?_
    refine nw_ireturn l_X12_earliestArrival_21 rfl ?_
    exact h
  · replace h := h.2 q2
    refine nw_iload_n l_X12_in_5 6 rfl rfl ?_
    refine nw_iload_n l_X12_in_6 7 rfl rfl ?_
    refine nw_ic_gt l_X12_in_7 10 rfl (fun q3 => ?_) (fun q3 => ?_)
    · replace h := h.1 q3
      refine nw_iconst (len := 0) l_X12_in_14 15 rfl c_0 ?_
      refine nw_ireturnZ l_X12_in_15 rfl (Or.inl rfl) ?_
      refine nw_ireturnZ l_X12_isFerry_13 rfl (Or.inl rfl) ?_
      refine nw_if_eq l_X12_earliestArrival_5 8 rfl (fun _ => ?_) (fun q => absurd q (by decide))
      refine nw_aload_n l_X12_earliestArrival_16 17 rfl rfl ?_
      refine nw_iconst (len := 0) l_X12_earliestArrival_17 18 rfl c_1 ?_
      refine nw_call0 0 303 l_X12_earliestArrival_18 rfl rfl g_X12_fails (Nat.lt_of_lt_of_le (by decide) hD) rfl (Or.inl ⟨_, rfl, k_303⟩) (ls' := [some (.inr (.inl (some 303))), some (.inl 1)]) rfl (st' := []) rfl 21 rfl ?_
      refine nw_aload_n l_X12_fails_0 1 rfl rfl ?_
      refine nw_iload_n l_X12_fails_1 2 rfl rfl ?_
      refine nw_putI l_X12_fails_2 5 rfl k_303 ?_
      refine nw_iconst (len := 0) l_X12_fails_5 6 rfl c_0 ?_
      refine nw_ireturn l_X12_fails_6 rfl ?_
      refine nw_ireturn l_X12_earliestArrival_21 rfl ?_
      exact h
    · replace h := h.2 q3
      refine nw_iconst (len := 0) l_X12_in_10 11 rfl c_1 ?_
      refine nw_goto l_X12_in_11 ?_
      refine nw_ireturnZ l_X12_in_15 rfl (Or.inr rfl) ?_
      refine nw_ireturnZ l_X12_isFerry_13 rfl (Or.inr rfl) ?_
      refine nw_if_eq l_X12_earliestArrival_5 8 rfl (fun q => absurd q (by decide)) (fun _ => ?_)
      refine nw_aload_n l_X12_earliestArrival_8 9 rfl rfl ?_
      refine nw_iload_n l_X12_earliestArrival_9 10 rfl rfl ?_
      refine nw_call0 1 303 l_X12_earliestArrival_10 rfl rfl g_X12_isCrater (Nat.lt_of_lt_of_le (by decide) hD) rfl (Or.inl ⟨_, rfl, k_303⟩) (ls' := [some (.inr (.inl (some 303))), some (.inl x2)]) rfl (st' := []) rfl 13 rfl ?_
      refine nw_iload_n l_X12_isCrater_0 1 rfl rfl ?_
      refine nw_iconst (len := 0) l_X12_isCrater_1 2 rfl c_0 ?_
      refine nw_aload_n l_X12_isCrater_2 3 rfl rfl ?_
      refine nw_getA l_X12_isCrater_3 6 rfl k_303 r_303_0 ?_
      refine nw_iconst (len := 0) l_X12_isCrater_6 7 rfl c_1 ?_
      refine nw_iald l_X12_isCrater_7 8 rfl k_304 ⟨by decide, by decide⟩ (v := J 304 1) rfl ?_
      refine nw_iconst (len := 0) l_X12_isCrater_8 9 rfl c_1 ?_
      have o4 := h.1
      replace h := h.2
      refine nw_isub l_X12_isCrater_9 10 rfl o4 ?_
      refine nw_call0 0 0 l_X12_isCrater_10 rfl rfl g_X12_in (by decide) rfl True.intro (ls' := [some (.inl x2), some (.inl 0), some (.inl ((J 304 1) - 1))]) rfl (st' := []) rfl 13 rfl ?_
      refine nw_iload_n l_X12_in_0 1 rfl rfl ?_
      refine nw_iload_n l_X12_in_1 2 rfl rfl ?_
      refine nw_ic_lt l_X12_in_2 5 rfl (fun q5 => ?_) (fun q5 => ?_)
      · replace h := h.1 q5
        refine nw_iconst (len := 0) l_X12_in_14 15 rfl c_0 ?_
        refine nw_ireturnZ l_X12_in_15 rfl (Or.inl rfl) ?_
        refine nw_ireturnZ l_X12_isCrater_13 rfl (Or.inl rfl) ?_
        refine nw_if_ne l_X12_earliestArrival_13 16 rfl (fun q => absurd q (by decide)) (fun _ => ?_)
        refine nw_aload_n l_X12_earliestArrival_16 17 rfl rfl ?_
        refine nw_iconst (len := 0) l_X12_earliestArrival_17 18 rfl c_1 ?_
        refine nw_call0 0 303 l_X12_earliestArrival_18 rfl rfl g_X12_fails (Nat.lt_of_lt_of_le (by decide) hD) rfl (Or.inl ⟨_, rfl, k_303⟩) (ls' := [some (.inr (.inl (some 303))), some (.inl 1)]) rfl (st' := []) rfl 21 rfl ?_
        refine nw_aload_n l_X12_fails_0 1 rfl rfl ?_
        refine nw_iload_n l_X12_fails_1 2 rfl rfl ?_
        refine nw_putI l_X12_fails_2 5 rfl k_303 ?_
        refine nw_iconst (len := 0) l_X12_fails_5 6 rfl c_0 ?_
        refine nw_ireturn l_X12_fails_6 rfl ?_
        refine nw_ireturn l_X12_earliestArrival_21 rfl ?_
        exact h
      · replace h := h.2 q5
        refine nw_iload_n l_X12_in_5 6 rfl rfl ?_
        refine nw_iload_n l_X12_in_6 7 rfl rfl ?_
        refine nw_ic_gt l_X12_in_7 10 rfl (fun q6 => ?_) (fun q6 => ?_)
        · replace h := h.1 q6
          refine nw_iconst (len := 0) l_X12_in_14 15 rfl c_0 ?_
          refine nw_ireturnZ l_X12_in_15 rfl (Or.inl rfl) ?_
          refine nw_ireturnZ l_X12_isCrater_13 rfl (Or.inl rfl) ?_
          refine nw_if_ne l_X12_earliestArrival_13 16 rfl (fun q => absurd q (by decide)) (fun _ => ?_)
          refine nw_aload_n l_X12_earliestArrival_16 17 rfl rfl ?_
          refine nw_iconst (len := 0) l_X12_earliestArrival_17 18 rfl c_1 ?_
          refine nw_call0 0 303 l_X12_earliestArrival_18 rfl rfl g_X12_fails (Nat.lt_of_lt_of_le (by decide) hD) rfl (Or.inl ⟨_, rfl, k_303⟩) (ls' := [some (.inr (.inl (some 303))), some (.inl 1)]) rfl (st' := []) rfl 21 rfl ?_
          refine nw_aload_n l_X12_fails_0 1 rfl rfl ?_
          refine nw_iload_n l_X12_fails_1 2 rfl rfl ?_
          refine nw_putI l_X12_fails_2 5 rfl k_303 ?_
          refine nw_iconst (len := 0) l_X12_fails_5 6 rfl c_0 ?_
          refine nw_ireturn l_X12_fails_6 rfl ?_
          refine nw_ireturn l_X12_earliestArrival_21 rfl ?_
          exact h
        · replace h := h.2 q6
          refine nw_iconst (len := 0) l_X12_in_10 11 rfl c_1 ?_
          refine nw_goto l_X12_in_11 ?_
          refine nw_ireturnZ l_X12_in_15 rfl (Or.inr rfl) ?_
          refine nw_ireturnZ l_X12_isCrater_13 rfl (Or.inr rfl) ?_
          refine nw_if_ne l_X12_earliestArrival_13 16 rfl (fun _ => ?_) (fun q => absurd q (by decide))
          refine nw_iconst (len := 0) l_X12_earliestArrival_22 23 rfl c_0 ?_
          refine nw_istore_n l_X12_earliestArrival_23 24 rfl rfl (ls' := [some (.inr (.inl (some 303))), some (.inl x1), some (.inl x2), some (.inl 0), none]) rfl ?_
          exact h
theorem b_X12_earliestArrival_24 {x1 : Int} {x2 : Int} {x3 : Int} (hD : 3 ≤ D) (h : ((6 ≤ x3 → ((-2147483648 ≤ 56 + x1 ∧ 56 + x1 < 2147483648) ∧ ((0 ≤ 56 + x1 ∧ 56 + x1 < 161) ∧ ((-2147483648 ≤ 62 + x1 ∧ 62 + x1 < 2147483648) ∧ ((0 ≤ 62 + x1 ∧ 62 + x1 < 161) ∧ ((J 304 (62 + x1) ≤ 0 → ((-2147483648 ≤ (J 304 0) + 0 ∧ (J 304 0) + 0 < 2147483648) ∧ ((0 ≤ J 304 (56 + x1) ∧ J 304 (56 + x1) < 6) ∧ NW sc d_X12_earliestArrival D (77, [some (.inr (.inl (some 303))), some (.inl x1), some (.inl x2), some (.inl (J 304 0)), none], [], (nw_u J 311 (J 304 (56 + x1)) ((J 304 0) + 0), L, W), c, sl) Qr Qx))) ∧ (0 < J 304 (62 + x1) → ((-2147483648 ≤ (J 304 (62 + x1)) - (J 304 0) ∧ (J 304 (62 + x1)) - (J 304 0) < 2147483648) ∧ ((-2147483648 ≤ (J 304 0) + ((J 304 (62 + x1)) - (J 304 0)) ∧ (J 304 0) + ((J 304 (62 + x1)) - (J 304 0)) < 2147483648) ∧ ((0 ≤ J 304 (56 + x1) ∧ J 304 (56 + x1) < 6) ∧ NW sc d_X12_earliestArrival D (77, [some (.inr (.inl (some 303))), some (.inl x1), some (.inl x2), some (.inl (J 304 0)), none], [], (nw_u J 311 (J 304 (56 + x1)) ((J 304 0) + ((J 304 (62 + x1)) - (J 304 0))), L, W), c, sl) Qr Qx)))))))))) ∧ (x3 < 6 → ((0 ≤ x3 ∧ x3 < 6) ∧ ((-2147483648 ≤ x3 + 1 ∧ x3 + 1 < 2147483648) ∧ NW sc d_X12_earliestArrival D (24, [some (.inr (.inl (some 303))), some (.inl x1), some (.inl x2), some (.inl (x3 + 1)), none], [], (nw_u J 311 x3 100000000, L, W), c, sl) Qr Qx))))) :
    NW sc d_X12_earliestArrival D (24, [some (.inr (.inl (some 303))), some (.inl x1), some (.inl x2), some (.inl x3), none], [], (J, L, W), c, sl) Qr Qx := by
  refine nw_iload_n l_X12_earliestArrival_24 25 rfl rfl ?_
  refine nw_bipush (len := 0) l_X12_earliestArrival_25 27 rfl c_6 ?_
  refine nw_ic_ge l_X12_earliestArrival_27 30 rfl (fun q1 => ?_) (fun q1 => ?_)
  · replace h := h.1 q1
    refine nw_aload_n l_X12_earliestArrival_44 45 rfl rfl ?_
    refine nw_getA l_X12_earliestArrival_45 48 rfl k_303 r_303_15 ?_
    refine nw_aload_n l_X12_earliestArrival_48 49 rfl rfl ?_
    refine nw_getA l_X12_earliestArrival_49 52 rfl k_303 r_303_0 ?_
    refine nw_bipush (len := 0) l_X12_earliestArrival_52 54 rfl c_56 ?_
    refine nw_iload_n l_X12_earliestArrival_54 55 rfl rfl ?_
    have o2 := h.1
    replace h := h.2
    refine nw_iadd l_X12_earliestArrival_55 56 rfl o2 ?_
    have o3 := h.1
    replace h := h.2
    refine nw_iald l_X12_earliestArrival_56 57 rfl k_304 o3 (v := J 304 (56 + x1)) rfl ?_
    refine nw_aload_n l_X12_earliestArrival_57 58 rfl rfl ?_
    refine nw_getA l_X12_earliestArrival_58 61 rfl k_303 r_303_0 ?_
    refine nw_iconst (len := 0) l_X12_earliestArrival_61 62 rfl c_0 ?_
    refine nw_iald l_X12_earliestArrival_62 63 rfl k_304 ⟨by decide, by decide⟩ (v := J 304 0) rfl ?_
    refine nw_aload_n l_X12_earliestArrival_63 64 rfl rfl ?_
    refine nw_iload_n l_X12_earliestArrival_64 65 rfl rfl ?_
    refine nw_call0 1 303 l_X12_earliestArrival_65 rfl rfl g_X12_left (Nat.lt_of_lt_of_le (by decide) hD) rfl (Or.inl ⟨_, rfl, k_303⟩) (ls' := [some (.inr (.inl (some 303))), some (.inl x1)]) rfl (st' := [.inl (J 304 0), .inl (J 304 (56 + x1)), .inr (.inl (some 311))]) rfl 68 rfl ?_
    refine nw_aload_n l_X12_left_0 1 rfl rfl ?_
    refine nw_iload_n l_X12_left_1 2 rfl rfl ?_
    refine nw_call0 0 303 l_X12_left_2 rfl rfl g_X12_sails (by decide) rfl (Or.inl ⟨_, rfl, k_303⟩) (ls' := [some (.inr (.inl (some 303))), some (.inl x1)]) rfl (st' := []) rfl 5 rfl ?_
    refine nw_aload_n l_X12_sails_0 1 rfl rfl ?_
    refine nw_getA l_X12_sails_1 4 rfl k_303 r_303_0 ?_
    refine nw_bipush (len := 0) l_X12_sails_4 6 rfl c_62 ?_
    refine nw_iload_n l_X12_sails_6 7 rfl rfl ?_
    have o4 := h.1
    replace h := h.2
    refine nw_iadd l_X12_sails_7 8 rfl o4 ?_
    have o5 := h.1
    replace h := h.2
    refine nw_iald l_X12_sails_8 9 rfl k_304 o5 (v := J 304 (62 + x1)) rfl ?_
    refine nw_if_le l_X12_sails_9 12 rfl (fun q6 => ?_) (fun q6 => ?_)
    · replace h := h.1 q6
      refine nw_iconst (len := 0) l_X12_sails_16 17 rfl c_0 ?_
      refine nw_ireturnZ l_X12_sails_17 rfl (Or.inl rfl) ?_
      refine nw_if_eq l_X12_left_5 8 rfl (fun _ => ?_) (fun q => absurd q (by decide))
      refine nw_iconst (len := 0) l_X12_left_27 28 rfl c_0 ?_
      refine nw_ireturn l_X12_left_28 rfl ?_
      have o7 := h.1
      replace h := h.2
      refine nw_iadd l_X12_earliestArrival_68 69 rfl o7 ?_
      have o8 := h.1
      replace h := h.2
      refine nw_iast l_X12_earliestArrival_69 70 rfl k_311 o8 ?_
      refine nw_aload_n l_X12_earliestArrival_70 71 rfl rfl ?_
      refine nw_getA l_X12_earliestArrival_71 74 rfl k_303 r_303_0 ?_
      refine nw_iconst (len := 0) l_X12_earliestArrival_74 75 rfl c_0 ?_
      refine nw_iald l_X12_earliestArrival_75 76 rfl k_304 ⟨by decide, by decide⟩ (v := J 304 0) (show nw_u J 311 (J 304 (56 + x1)) ((J 304 0) + 0) 304 0 = J 304 0 from (nw_uN (a := 311) (b := 304) (by decide))) ?_
      refine nw_istore_n l_X12_earliestArrival_76 77 rfl rfl (ls' := [some (.inr (.inl (some 303))), some (.inl x1), some (.inl x2), some (.inl (J 304 0)), none]) rfl ?_
      exact h
    · replace h := h.2 q6
      refine nw_iconst (len := 0) l_X12_sails_12 13 rfl c_1 ?_
      refine nw_goto l_X12_sails_13 ?_
      refine nw_ireturnZ l_X12_sails_17 rfl (Or.inr rfl) ?_
      refine nw_if_eq l_X12_left_5 8 rfl (fun q => absurd q (by decide)) (fun _ => ?_)
      refine nw_aload_n l_X12_left_8 9 rfl rfl ?_
      refine nw_getA l_X12_left_9 12 rfl k_303 r_303_0 ?_
      refine nw_bipush (len := 0) l_X12_left_12 14 rfl c_62 ?_
      refine nw_iload_n l_X12_left_14 15 rfl rfl ?_
      refine nw_iadd l_X12_left_15 16 rfl o4 ?_
      refine nw_iald l_X12_left_16 17 rfl k_304 o5 (v := J 304 (62 + x1)) rfl ?_
      refine nw_aload_n l_X12_left_17 18 rfl rfl ?_
      refine nw_getA l_X12_left_18 21 rfl k_303 r_303_0 ?_
      refine nw_iconst (len := 0) l_X12_left_21 22 rfl c_0 ?_
      refine nw_iald l_X12_left_22 23 rfl k_304 ⟨by decide, by decide⟩ (v := J 304 0) rfl ?_
      have o9 := h.1
      replace h := h.2
      refine nw_isub l_X12_left_23 24 rfl o9 ?_
      refine nw_goto l_X12_left_24 ?_
      refine nw_ireturn l_X12_left_28 rfl ?_
      have o10 := h.1
      replace h := h.2
      refine nw_iadd l_X12_earliestArrival_68 69 rfl o10 ?_
      have o11 := h.1
      replace h := h.2
      refine nw_iast l_X12_earliestArrival_69 70 rfl k_311 o11 ?_
      refine nw_aload_n l_X12_earliestArrival_70 71 rfl rfl ?_
      refine nw_getA l_X12_earliestArrival_71 74 rfl k_303 r_303_0 ?_
      refine nw_iconst (len := 0) l_X12_earliestArrival_74 75 rfl c_0 ?_
      refine nw_iald l_X12_earliestArrival_75 76 rfl k_304 ⟨by decide, by decide⟩ (v := J 304 0) (show nw_u J 311 (J 304 (56 + x1)) ((J 304 0) + ((J 304 (62 + x1)) - (J 304 0))) 304 0 = J 304 0 from (nw_uN (a := 311) (b := 304) (by decide))) ?_
      refine nw_istore_n l_X12_earliestArrival_76 77 rfl rfl (ls' := [some (.inr (.inl (some 303))), some (.inl x1), some (.inl x2), some (.inl (J 304 0)), none]) rfl ?_
      exact h
  · replace h := h.2 q1
    refine nw_aload_n l_X12_earliestArrival_30 31 rfl rfl ?_
    refine nw_getA l_X12_earliestArrival_31 34 rfl k_303 r_303_15 ?_
    refine nw_iload_n l_X12_earliestArrival_34 35 rfl rfl ?_
    refine nw_ldc (len := 0) l_X12_earliestArrival_35 37 rfl c_100000000 (by decide) ?_
    have o12 := h.1
    replace h := h.2
    refine nw_iast l_X12_earliestArrival_37 38 rfl k_311 o12 ?_
    have o13 := h.1
    replace h := h.2
    refine nw_iinc l_X12_earliestArrival_38 41 rfl 1 (by decide) rfl rfl o13 (ls' := [some (.inr (.inl (some 303))), some (.inl x1), some (.inl x2), some (.inl (x3 + 1)), none]) rfl ?_
    refine nw_goto l_X12_earliestArrival_41 ?_
    exact h
theorem b_X12_earliestArrival_77 {x1 : Int} {x2 : Int} {x3 : Int} (hD : 3 ≤ D) (h : ((-2147483648 ≤ (J 304 0) + 99 ∧ (J 304 0) + 99 < 2147483648) ∧ (((J 304 0) + 99 ≤ x3 → ((0 ≤ x2 ∧ x2 < 6) ∧ ((J 311 x2 ≤ (J 304 0) + 99 → Qr (some (.inl (J 311 x2))) (nw_u J 303 13 0, L, W)) ∧ ((J 304 0) + 99 < J 311 x2 → Qr (some (.inl 0)) (nw_u J 303 13 2, L, W))))) ∧ (x3 < (J 304 0) + 99 → NW sc d_X12_earliestArrival D (93, [some (.inr (.inl (some 303))), some (.inl x1), some (.inl x2), some (.inl x3), some (.inl 0)], [], (J, L, W), c, sl) Qr Qx)))) :
    NW sc d_X12_earliestArrival D (77, [some (.inr (.inl (some 303))), some (.inl x1), some (.inl x2), some (.inl x3), none], [], (J, L, W), c, sl) Qr Qx := by
  refine nw_iload_n l_X12_earliestArrival_77 78 rfl rfl ?_
  refine nw_aload_n l_X12_earliestArrival_78 79 rfl rfl ?_
  refine nw_getA l_X12_earliestArrival_79 82 rfl k_303 r_303_0 ?_
  refine nw_iconst (len := 0) l_X12_earliestArrival_82 83 rfl c_0 ?_
  refine nw_iald l_X12_earliestArrival_83 84 rfl k_304 ⟨by decide, by decide⟩ (v := J 304 0) rfl ?_
  refine nw_bipush (len := 0) l_X12_earliestArrival_84 86 rfl c_99 ?_
  have o1 := h.1
  replace h := h.2
  refine nw_iadd l_X12_earliestArrival_86 87 rfl o1 ?_
  refine nw_ic_ge l_X12_earliestArrival_87 90 rfl (fun q2 => ?_) (fun q2 => ?_)
  · replace h := h.1 q2
    refine nw_aload_n l_X12_earliestArrival_172 173 rfl rfl ?_
    refine nw_getA l_X12_earliestArrival_173 176 rfl k_303 r_303_15 ?_
    refine nw_iload_n l_X12_earliestArrival_176 177 rfl rfl ?_
    have o3 := h.1
    replace h := h.2
    refine nw_iald l_X12_earliestArrival_177 178 rfl k_311 o3 (v := J 311 x2) rfl ?_
    refine nw_aload_n l_X12_earliestArrival_178 179 rfl rfl ?_
    refine nw_getA l_X12_earliestArrival_179 182 rfl k_303 r_303_0 ?_
    refine nw_iconst (len := 0) l_X12_earliestArrival_182 183 rfl c_0 ?_
    refine nw_iald l_X12_earliestArrival_183 184 rfl k_304 ⟨by decide, by decide⟩ (v := J 304 0) rfl ?_
    refine nw_bipush (len := 0) l_X12_earliestArrival_184 186 rfl c_99 ?_
    refine nw_iadd l_X12_earliestArrival_186 187 rfl o1 ?_
    refine nw_ic_le l_X12_earliestArrival_187 190 rfl (fun q4 => ?_) (fun q4 => ?_)
    · replace h := h.1 q4
      refine nw_aload_n l_X12_earliestArrival_198 199 rfl rfl ?_
      refine nw_aload_n l_X12_earliestArrival_199 200 rfl rfl ?_
      refine nw_getA l_X12_earliestArrival_200 203 rfl k_303 r_303_15 ?_
      refine nw_iload_n l_X12_earliestArrival_203 204 rfl rfl ?_
      refine nw_iald l_X12_earliestArrival_204 205 rfl k_311 o3 (v := J 311 x2) rfl ?_
      refine nw_call0 0 303 l_X12_earliestArrival_205 rfl rfl g_X12_done (Nat.lt_of_lt_of_le (by decide) hD) rfl (Or.inl ⟨_, rfl, k_303⟩) (ls' := [some (.inr (.inl (some 303))), some (.inl (J 311 x2))]) rfl (st' := []) rfl 208 rfl ?_
      refine nw_aload_n l_X12_done_0 1 rfl rfl ?_
      refine nw_iconst (len := 0) l_X12_done_1 2 rfl c_0 ?_
      refine nw_putI l_X12_done_2 5 rfl k_303 ?_
      refine nw_iload_n l_X12_done_5 6 rfl rfl ?_
      refine nw_ireturn l_X12_done_6 rfl ?_
      refine nw_ireturn l_X12_earliestArrival_208 rfl ?_
      exact h
    · replace h := h.2 q4
      refine nw_aload_n l_X12_earliestArrival_190 191 rfl rfl ?_
      refine nw_iconst (len := 0) l_X12_earliestArrival_191 192 rfl c_2 ?_
      refine nw_call0 0 303 l_X12_earliestArrival_192 rfl rfl g_X12_fails (Nat.lt_of_lt_of_le (by decide) hD) rfl (Or.inl ⟨_, rfl, k_303⟩) (ls' := [some (.inr (.inl (some 303))), some (.inl 2)]) rfl (st' := []) rfl 195 rfl ?_
      refine nw_aload_n l_X12_fails_0 1 rfl rfl ?_
      refine nw_iload_n l_X12_fails_1 2 rfl rfl ?_
      refine nw_putI l_X12_fails_2 5 rfl k_303 ?_
      refine nw_iconst (len := 0) l_X12_fails_5 6 rfl c_0 ?_
      refine nw_ireturn l_X12_fails_6 rfl ?_
      refine nw_goto l_X12_earliestArrival_195 ?_
      refine nw_ireturn l_X12_earliestArrival_208 rfl ?_
      exact h
  · replace h := h.2 q2
    refine nw_iconst (len := 0) l_X12_earliestArrival_90 91 rfl c_0 ?_
    refine nw_istore l_X12_earliestArrival_91 93 rfl rfl (ls' := [some (.inr (.inl (some 303))), some (.inl x1), some (.inl x2), some (.inl x3), some (.inl 0)]) rfl ?_
    exact h
theorem b_X12_earliestArrival_93 {x1 : Int} {x2 : Int} {x3 : Int} {x4 : Int} (hD : 3 ≤ D) (h : ((J 304 2 ≤ x4 → ((-2147483648 ≤ x3 + 1 ∧ x3 + 1 < 2147483648) ∧ NW sc d_X12_earliestArrival D (77, [some (.inr (.inl (some 303))), some (.inl x1), some (.inl x2), some (.inl (x3 + 1)), none], [], (J, L, W), c, sl) Qr Qx)) ∧ (x4 < J 304 2 → ((-2147483648 ≤ 16 + x4 ∧ 16 + x4 < 2147483648) ∧ ((0 ≤ 16 + x4 ∧ 16 + x4 < 161) ∧ ((-2147483648 ≤ 26 + x4 ∧ 26 + x4 < 2147483648) ∧ ((0 ≤ 26 + x4 ∧ 26 + x4 < 161) ∧ NW sc d_X12_tries 2 (0, [some (.inr (.inl (some 303))), some (.inl x1), some (.inl x4), some (.inl (J 304 (16 + x4))), some (.inl (J 304 (26 + x4))), some (.inl x3), none, none], [], (J, L, W), 0, 0) (fun v M9 => NW sc d_X12_earliestArrival D (132, [some (.inr (.inl (some 303))), some (.inl x1), some (.inl x2), some (.inl x3), some (.inl x4)], nw_push v [], M9, c, sl) Qr Qx) Qx))))))) :
    NW sc d_X12_earliestArrival D (93, [some (.inr (.inl (some 303))), some (.inl x1), some (.inl x2), some (.inl x3), some (.inl x4)], [], (J, L, W), c, sl) Qr Qx := by
  refine nw_iload l_X12_earliestArrival_93 95 rfl rfl ?_
  refine nw_aload_n l_X12_earliestArrival_95 96 rfl rfl ?_
  refine nw_getA l_X12_earliestArrival_96 99 rfl k_303 r_303_0 ?_
  refine nw_iconst (len := 0) l_X12_earliestArrival_99 100 rfl c_2 ?_
  refine nw_iald l_X12_earliestArrival_100 101 rfl k_304 ⟨by decide, by decide⟩ (v := J 304 2) rfl ?_
  refine nw_ic_ge l_X12_earliestArrival_101 104 rfl (fun q1 => ?_) (fun q1 => ?_)
  · replace h := h.1 q1
    have o2 := h.1
    replace h := h.2
    refine nw_iinc l_X12_earliestArrival_166 169 rfl 1 (by decide) rfl rfl o2 (ls' := [some (.inr (.inl (some 303))), some (.inl x1), some (.inl x2), some (.inl (x3 + 1)), some (.inl x4)]) rfl ?_
    refine nw_goto l_X12_earliestArrival_169 ?_
    refine nw_drop (ls' := [some (.inr (.inl (some 303))), some (.inl x1), some (.inl x2), some (.inl (x3 + 1)), none]) ⟨rfl, ⟨rfl, ⟨rfl, ⟨rfl, ⟨True.intro, True.intro⟩⟩⟩⟩⟩ ?_
    exact h
  · replace h := h.2 q1
    refine nw_aload_n l_X12_earliestArrival_104 105 rfl rfl ?_
    refine nw_iload_n l_X12_earliestArrival_105 106 rfl rfl ?_
    refine nw_iload l_X12_earliestArrival_106 108 rfl rfl ?_
    refine nw_aload_n l_X12_earliestArrival_108 109 rfl rfl ?_
    refine nw_getA l_X12_earliestArrival_109 112 rfl k_303 r_303_0 ?_
    refine nw_bipush (len := 0) l_X12_earliestArrival_112 114 rfl c_16 ?_
    refine nw_iload l_X12_earliestArrival_114 116 rfl rfl ?_
    have o3 := h.1
    replace h := h.2
    refine nw_iadd l_X12_earliestArrival_116 117 rfl o3 ?_
    have o4 := h.1
    replace h := h.2
    refine nw_iald l_X12_earliestArrival_117 118 rfl k_304 o4 (v := J 304 (16 + x4)) rfl ?_
    refine nw_aload_n l_X12_earliestArrival_118 119 rfl rfl ?_
    refine nw_getA l_X12_earliestArrival_119 122 rfl k_303 r_303_0 ?_
    refine nw_bipush (len := 0) l_X12_earliestArrival_122 124 rfl c_26 ?_
    refine nw_iload l_X12_earliestArrival_124 126 rfl rfl ?_
    have o5 := h.1
    replace h := h.2
    refine nw_iadd l_X12_earliestArrival_126 127 rfl o5 ?_
    have o6 := h.1
    replace h := h.2
    refine nw_iald l_X12_earliestArrival_127 128 rfl k_304 o6 (v := J 304 (26 + x4)) rfl ?_
    refine nw_iload_n l_X12_earliestArrival_128 129 rfl rfl ?_
    refine nw_call0 2 303 l_X12_earliestArrival_129 rfl rfl g_X12_tries (Nat.lt_of_lt_of_le (by decide) hD) rfl (Or.inl ⟨_, rfl, k_303⟩) (ls' := [some (.inr (.inl (some 303))), some (.inl x1), some (.inl x4), some (.inl (J 304 (16 + x4))), some (.inl (J 304 (26 + x4))), some (.inl x3), none, none]) rfl (st' := []) rfl 132 rfl ?_
    exact h
theorem b_X12_earliestArrival_132 {x1 : Int} {x2 : Int} {x3 : Int} {x4 : Int} (hD : 3 ≤ D) (h : ((-2147483648 ≤ 26 + x4 ∧ 26 + x4 < 2147483648) ∧ ((0 ≤ 26 + x4 ∧ 26 + x4 < 161) ∧ ((-2147483648 ≤ 16 + x4 ∧ 16 + x4 < 2147483648) ∧ ((0 ≤ 16 + x4 ∧ 16 + x4 < 161) ∧ NW sc d_X12_tries 2 (0, [some (.inr (.inl (some 303))), some (.inl x1), some (.inl x4), some (.inl (J 304 (26 + x4))), some (.inl (J 304 (16 + x4))), some (.inl x3), none, none], [], (J, L, W), 0, 0) (fun v M9 => NW sc d_X12_earliestArrival D (160, [some (.inr (.inl (some 303))), some (.inl x1), some (.inl x2), some (.inl x3), some (.inl x4)], nw_push v [], M9, c, sl) Qr Qx) Qx))))) :
    NW sc d_X12_earliestArrival D (132, [some (.inr (.inl (some 303))), some (.inl x1), some (.inl x2), some (.inl x3), some (.inl x4)], [], (J, L, W), c, sl) Qr Qx := by
  refine nw_aload_n l_X12_earliestArrival_132 133 rfl rfl ?_
  refine nw_iload_n l_X12_earliestArrival_133 134 rfl rfl ?_
  refine nw_iload l_X12_earliestArrival_134 136 rfl rfl ?_
  refine nw_aload_n l_X12_earliestArrival_136 137 rfl rfl ?_
  refine nw_getA l_X12_earliestArrival_137 140 rfl k_303 r_303_0 ?_
  refine nw_bipush (len := 0) l_X12_earliestArrival_140 142 rfl c_26 ?_
  refine nw_iload l_X12_earliestArrival_142 144 rfl rfl ?_
  have o1 := h.1
  replace h := h.2
  refine nw_iadd l_X12_earliestArrival_144 145 rfl o1 ?_
  have o2 := h.1
  replace h := h.2
  refine nw_iald l_X12_earliestArrival_145 146 rfl k_304 o2 (v := J 304 (26 + x4)) rfl ?_
  refine nw_aload_n l_X12_earliestArrival_146 147 rfl rfl ?_
  refine nw_getA l_X12_earliestArrival_147 150 rfl k_303 r_303_0 ?_
  refine nw_bipush (len := 0) l_X12_earliestArrival_150 152 rfl c_16 ?_
  refine nw_iload l_X12_earliestArrival_152 154 rfl rfl ?_
  have o3 := h.1
  replace h := h.2
  refine nw_iadd l_X12_earliestArrival_154 155 rfl o3 ?_
  have o4 := h.1
  replace h := h.2
  refine nw_iald l_X12_earliestArrival_155 156 rfl k_304 o4 (v := J 304 (16 + x4)) rfl ?_
  refine nw_iload_n l_X12_earliestArrival_156 157 rfl rfl ?_
  refine nw_call0 2 303 l_X12_earliestArrival_157 rfl rfl g_X12_tries (Nat.lt_of_lt_of_le (by decide) hD) rfl (Or.inl ⟨_, rfl, k_303⟩) (ls' := [some (.inr (.inl (some 303))), some (.inl x1), some (.inl x4), some (.inl (J 304 (26 + x4))), some (.inl (J 304 (16 + x4))), some (.inl x3), none, none]) rfl (st' := []) rfl 160 rfl ?_
  exact h
theorem b_X12_earliestArrival_160 {x1 : Int} {x2 : Int} {x3 : Int} {x4 : Int} (h : ((-2147483648 ≤ x4 + 1 ∧ x4 + 1 < 2147483648) ∧ NW sc d_X12_earliestArrival D (93, [some (.inr (.inl (some 303))), some (.inl x1), some (.inl x2), some (.inl x3), some (.inl (x4 + 1))], [], (J, L, W), c, sl) Qr Qx)) :
    NW sc d_X12_earliestArrival D (160, [some (.inr (.inl (some 303))), some (.inl x1), some (.inl x2), some (.inl x3), some (.inl x4)], [], (J, L, W), c, sl) Qr Qx := by
  have o1 := h.1
  replace h := h.2
  refine nw_iinc l_X12_earliestArrival_160 163 rfl 1 (by decide) rfl rfl o1 (ls' := [some (.inr (.inl (some 303))), some (.inl x1), some (.inl x2), some (.inl x3), some (.inl (x4 + 1))]) rfl ?_
  refine nw_goto l_X12_earliestArrival_163 ?_
  exact h
theorem b_X12_earliestArrivalByHours_0 {x1 : Int} {x2 : Int} (hD : 4 ≤ D) (h : NW sc d_X12_earliestArrival 3 (0, [some (.inr (.inl (some 303))), some (.inl x1), some (.inl x2), none, none], [], (J, L, W), 0, 0) (fun v M9 => NW sc d_X12_earliestArrivalByHours D (6, [none, none, none], nw_push v [], M9, c, sl) Qr Qx) Qx) :
    NW sc d_X12_earliestArrivalByHours D (0, [some (.inr (.inl (some 303))), some (.inl x1), some (.inl x2)], [], (J, L, W), c, sl) Qr Qx := by
  refine nw_aload_n l_X12_earliestArrivalByHours_0 1 rfl rfl ?_
  refine nw_iload_n l_X12_earliestArrivalByHours_1 2 rfl rfl ?_
  refine nw_iload_n l_X12_earliestArrivalByHours_2 3 rfl rfl ?_
  refine nw_drop (ls' := [none, none, none]) ⟨True.intro, ⟨True.intro, ⟨True.intro, True.intro⟩⟩⟩ ?_
  refine nw_call0 3 303 l_X12_earliestArrivalByHours_3 rfl rfl g_X12_earliestArrival (Nat.lt_of_lt_of_le (by decide) hD) rfl (Or.inl ⟨_, rfl, k_303⟩) (ls' := [some (.inr (.inl (some 303))), some (.inl x1), some (.inl x2), none, none]) rfl (st' := []) rfl 6 rfl ?_
  exact h
theorem b_X12_earliestArrivalByHours_6 {y0 : Int} (h : Qr (some (.inl y0)) (J, L, W)) :
    NW sc d_X12_earliestArrivalByHours D (6, [none, none, none], [.inl y0], (J, L, W), c, sl) Qr Qx := by
  refine nw_ireturn l_X12_earliestArrivalByHours_6 rfl ?_
  exact h
theorem b_X12_errorPosition_0  (hD : 1 ≤ D) (h : ((¬ J 303 8 = (-1) → Qr (some (.inl (J 303 8))) (nw_u J 303 13 0, L, W)) ∧ (J 303 8 = (-1) → Qr (some (.inl 0)) (nw_u J 303 13 1, L, W)))) :
    NW sc d_X12_errorPosition D (0, [some (.inr (.inl (some 303)))], [], (J, L, W), c, sl) Qr Qx := by
  refine nw_aload_n l_X12_errorPosition_0 1 rfl rfl ?_
  refine nw_getI l_X12_errorPosition_1 4 rfl k_303 (v := J 303 8) rfl ?_
  refine nw_iconst (len := 0) l_X12_errorPosition_4 5 rfl c_n1 ?_
  refine nw_ic_ne l_X12_errorPosition_5 8 rfl (fun q1 => ?_) (fun q1 => ?_)
  · replace h := h.1 q1
    refine nw_aload_n l_X12_errorPosition_16 17 rfl rfl ?_
    refine nw_aload_n l_X12_errorPosition_17 18 rfl rfl ?_
    refine nw_getI l_X12_errorPosition_18 21 rfl k_303 (v := J 303 8) rfl ?_
    refine nw_call0 0 303 l_X12_errorPosition_21 rfl rfl g_X12_done (Nat.lt_of_lt_of_le (by decide) hD) rfl (Or.inl ⟨_, rfl, k_303⟩) (ls' := [some (.inr (.inl (some 303))), some (.inl (J 303 8))]) rfl (st' := []) rfl 24 rfl ?_
    refine nw_aload_n l_X12_done_0 1 rfl rfl ?_
    refine nw_iconst (len := 0) l_X12_done_1 2 rfl c_0 ?_
    refine nw_putI l_X12_done_2 5 rfl k_303 ?_
    refine nw_iload_n l_X12_done_5 6 rfl rfl ?_
    refine nw_ireturn l_X12_done_6 rfl ?_
    refine nw_ireturn l_X12_errorPosition_24 rfl ?_
    exact h
  · replace h := h.2 q1
    refine nw_aload_n l_X12_errorPosition_8 9 rfl rfl ?_
    refine nw_iconst (len := 0) l_X12_errorPosition_9 10 rfl c_1 ?_
    refine nw_call0 0 303 l_X12_errorPosition_10 rfl rfl g_X12_fails (Nat.lt_of_lt_of_le (by decide) hD) rfl (Or.inl ⟨_, rfl, k_303⟩) (ls' := [some (.inr (.inl (some 303))), some (.inl 1)]) rfl (st' := []) rfl 13 rfl ?_
    refine nw_aload_n l_X12_fails_0 1 rfl rfl ?_
    refine nw_iload_n l_X12_fails_1 2 rfl rfl ?_
    refine nw_putI l_X12_fails_2 5 rfl k_303 ?_
    refine nw_iconst (len := 0) l_X12_fails_5 6 rfl c_0 ?_
    refine nw_ireturn l_X12_fails_6 rfl ?_
    refine nw_goto l_X12_errorPosition_13 ?_
    refine nw_ireturn l_X12_errorPosition_24 rfl ?_
    exact h
theorem b_X12_failedCommand_0  (hD : 1 ≤ D) (h : ((¬ J 303 9 = (-1) → Qr (some (.inl (J 303 9))) (nw_u J 303 13 0, L, W)) ∧ (J 303 9 = (-1) → Qr (some (.inl 0)) (nw_u J 303 13 1, L, W)))) :
    NW sc d_X12_failedCommand D (0, [some (.inr (.inl (some 303)))], [], (J, L, W), c, sl) Qr Qx := by
  refine nw_aload_n l_X12_failedCommand_0 1 rfl rfl ?_
  refine nw_getI l_X12_failedCommand_1 4 rfl k_303 (v := J 303 9) rfl ?_
  refine nw_iconst (len := 0) l_X12_failedCommand_4 5 rfl c_n1 ?_
  refine nw_ic_ne l_X12_failedCommand_5 8 rfl (fun q1 => ?_) (fun q1 => ?_)
  · replace h := h.1 q1
    refine nw_aload_n l_X12_failedCommand_16 17 rfl rfl ?_
    refine nw_aload_n l_X12_failedCommand_17 18 rfl rfl ?_
    refine nw_getI l_X12_failedCommand_18 21 rfl k_303 (v := J 303 9) rfl ?_
    refine nw_call0 0 303 l_X12_failedCommand_21 rfl rfl g_X12_done (Nat.lt_of_lt_of_le (by decide) hD) rfl (Or.inl ⟨_, rfl, k_303⟩) (ls' := [some (.inr (.inl (some 303))), some (.inl (J 303 9))]) rfl (st' := []) rfl 24 rfl ?_
    refine nw_aload_n l_X12_done_0 1 rfl rfl ?_
    refine nw_iconst (len := 0) l_X12_done_1 2 rfl c_0 ?_
    refine nw_putI l_X12_done_2 5 rfl k_303 ?_
    refine nw_iload_n l_X12_done_5 6 rfl rfl ?_
    refine nw_ireturn l_X12_done_6 rfl ?_
    refine nw_ireturn l_X12_failedCommand_24 rfl ?_
    exact h
  · replace h := h.2 q1
    refine nw_aload_n l_X12_failedCommand_8 9 rfl rfl ?_
    refine nw_iconst (len := 0) l_X12_failedCommand_9 10 rfl c_1 ?_
    refine nw_call0 0 303 l_X12_failedCommand_10 rfl rfl g_X12_fails (Nat.lt_of_lt_of_le (by decide) hD) rfl (Or.inl ⟨_, rfl, k_303⟩) (ls' := [some (.inr (.inl (some 303))), some (.inl 1)]) rfl (st' := []) rfl 13 rfl ?_
    refine nw_aload_n l_X12_fails_0 1 rfl rfl ?_
    refine nw_iload_n l_X12_fails_1 2 rfl rfl ?_
    refine nw_putI l_X12_fails_2 5 rfl k_303 ?_
    refine nw_iconst (len := 0) l_X12_fails_5 6 rfl c_0 ?_
    refine nw_ireturn l_X12_fails_6 rfl ?_
    refine nw_goto l_X12_failedCommand_13 ?_
    refine nw_ireturn l_X12_failedCommand_24 rfl ?_
    exact h
theorem b_X12_fare_0 {x1 : Int} (h : ((-2147483648 ≤ 81 + x1 ∧ 81 + x1 < 2147483648) ∧ ((0 ≤ 81 + x1 ∧ 81 + x1 < 161) ∧ ((-2147483648 ≤ 6 * (J 304 (81 + x1)) ∧ 6 * (J 304 (81 + x1)) < 2147483648) ∧ ((-2147483648 ≤ 91 + x1 ∧ 91 + x1 < 2147483648) ∧ ((0 ≤ 91 + x1 ∧ 91 + x1 < 161) ∧ ((-2147483648 ≤ (6 * (J 304 (81 + x1))) + (J 304 (91 + x1)) ∧ (6 * (J 304 (81 + x1))) + (J 304 (91 + x1)) < 2147483648) ∧ ((0 ≤ (6 * (J 304 (81 + x1))) + (J 304 (91 + x1)) ∧ (6 * (J 304 (81 + x1))) + (J 304 (91 + x1)) < 36) ∧ ((-2147483648 ≤ 111 + x1 ∧ 111 + x1 < 2147483648) ∧ ((0 ≤ 111 + x1 ∧ 111 + x1 < 161) ∧ ((4 < J 304 (111 + x1) → ((-2147483648 ≤ 8 - (J 304 (111 + x1)) ∧ 8 - (J 304 (111 + x1)) < 2147483648) ∧ ((J 310 ((6 * (J 304 (81 + x1))) + (J 304 (91 + x1))) < 10000 → ((-2147483648 ≤ (8 - (J 304 (111 + x1))) + 1 ∧ (8 - (J 304 (111 + x1))) + 1 < 2147483648) ∧ ((-2147483648 ≤ (J 310 ((6 * (J 304 (81 + x1))) + (J 304 (91 + x1)))) * ((8 - (J 304 (111 + x1))) + 1) ∧ (J 310 ((6 * (J 304 (81 + x1))) + (J 304 (91 + x1)))) * ((8 - (J 304 (111 + x1))) + 1) < 2147483648) ∧ Qr (some (.inl ((J 310 ((6 * (J 304 (81 + x1))) + (J 304 (91 + x1)))) * ((8 - (J 304 (111 + x1))) + 1)))) (J, L, W)))) ∧ (10000 ≤ J 310 ((6 * (J 304 (81 + x1))) + (J 304 (91 + x1))) → Qr (some (.inl 0)) (J, L, W))))) ∧ (J 304 (111 + x1) ≤ 4 → ((J 310 ((6 * (J 304 (81 + x1))) + (J 304 (91 + x1))) < 10000 → ((-2147483648 ≤ (J 304 (111 + x1)) + 1 ∧ (J 304 (111 + x1)) + 1 < 2147483648) ∧ ((-2147483648 ≤ (J 310 ((6 * (J 304 (81 + x1))) + (J 304 (91 + x1)))) * ((J 304 (111 + x1)) + 1) ∧ (J 310 ((6 * (J 304 (81 + x1))) + (J 304 (91 + x1)))) * ((J 304 (111 + x1)) + 1) < 2147483648) ∧ Qr (some (.inl ((J 310 ((6 * (J 304 (81 + x1))) + (J 304 (91 + x1)))) * ((J 304 (111 + x1)) + 1)))) (J, L, W)))) ∧ (10000 ≤ J 310 ((6 * (J 304 (81 + x1))) + (J 304 (91 + x1))) → Qr (some (.inl 0)) (J, L, W))))))))))))))) :
    NW sc d_X12_fare D (0, [some (.inr (.inl (some 303))), some (.inl x1), none, none], [], (J, L, W), c, sl) Qr Qx := by
  refine nw_aload_n l_X12_fare_0 1 rfl rfl ?_
  refine nw_getA l_X12_fare_1 4 rfl k_303 r_303_14 ?_
  refine nw_bipush (len := 0) l_X12_fare_4 6 rfl c_6 ?_
  refine nw_aload_n l_X12_fare_6 7 rfl rfl ?_
  refine nw_getA l_X12_fare_7 10 rfl k_303 r_303_0 ?_
  refine nw_bipush (len := 0) l_X12_fare_10 12 rfl c_81 ?_
  refine nw_iload_n l_X12_fare_12 13 rfl rfl ?_
  have o1 := h.1
  replace h := h.2
  refine nw_iadd l_X12_fare_13 14 rfl o1 ?_
  have o2 := h.1
  replace h := h.2
  refine nw_iald l_X12_fare_14 15 rfl k_304 o2 (v := J 304 (81 + x1)) rfl ?_
  have o3 := h.1
  replace h := h.2
  refine nw_imul l_X12_fare_15 16 rfl o3 ?_
  refine nw_aload_n l_X12_fare_16 17 rfl rfl ?_
  refine nw_getA l_X12_fare_17 20 rfl k_303 r_303_0 ?_
  refine nw_bipush (len := 0) l_X12_fare_20 22 rfl c_91 ?_
  refine nw_iload_n l_X12_fare_22 23 rfl rfl ?_
  have o4 := h.1
  replace h := h.2
  refine nw_iadd l_X12_fare_23 24 rfl o4 ?_
  have o5 := h.1
  replace h := h.2
  refine nw_iald l_X12_fare_24 25 rfl k_304 o5 (v := J 304 (91 + x1)) rfl ?_
  have o6 := h.1
  replace h := h.2
  refine nw_iadd l_X12_fare_25 26 rfl o6 ?_
  have o7 := h.1
  replace h := h.2
  refine nw_iald l_X12_fare_26 27 rfl k_310 o7 (v := J 310 ((6 * (J 304 (81 + x1))) + (J 304 (91 + x1)))) rfl ?_
  refine nw_istore_n l_X12_fare_27 28 rfl rfl (ls' := [some (.inr (.inl (some 303))), some (.inl x1), some (.inl (J 310 ((6 * (J 304 (81 + x1))) + (J 304 (91 + x1))))), none]) rfl ?_
  refine nw_aload_n l_X12_fare_28 29 rfl rfl ?_
  refine nw_getA l_X12_fare_29 32 rfl k_303 r_303_0 ?_
  refine nw_bipush (len := 0) l_X12_fare_32 34 rfl c_111 ?_
  refine nw_iload_n l_X12_fare_34 35 rfl rfl ?_
  have o8 := h.1
  replace h := h.2
  refine nw_iadd l_X12_fare_35 36 rfl o8 ?_
  have o9 := h.1
  replace h := h.2
  refine nw_iald l_X12_fare_36 37 rfl k_304 o9 (v := J 304 (111 + x1)) rfl ?_
  refine nw_iconst (len := 0) l_X12_fare_37 38 rfl c_4 ?_
  refine nw_ic_gt l_X12_fare_38 41 rfl (fun q10 => ?_) (fun q10 => ?_)
  · replace h := h.1 q10
    refine nw_bipush (len := 0) l_X12_fare_53 55 rfl c_8 ?_
    refine nw_aload_n l_X12_fare_55 56 rfl rfl ?_
    refine nw_getA l_X12_fare_56 59 rfl k_303 r_303_0 ?_
    refine nw_bipush (len := 0) l_X12_fare_59 61 rfl c_111 ?_
    refine nw_iload_n l_X12_fare_61 62 rfl rfl ?_
    refine nw_iadd l_X12_fare_62 63 rfl o8 ?_
    refine nw_iald l_X12_fare_63 64 rfl k_304 o9 (v := J 304 (111 + x1)) rfl ?_
    have o11 := h.1
    replace h := h.2
    refine nw_isub l_X12_fare_64 65 rfl o11 ?_
    refine nw_istore_n l_X12_fare_65 66 rfl rfl (ls' := [some (.inr (.inl (some 303))), some (.inl x1), some (.inl (J 310 ((6 * (J 304 (81 + x1))) + (J 304 (91 + x1))))), some (.inl (8 - (J 304 (111 + x1))))]) rfl ?_
    refine nw_iload_n l_X12_fare_66 67 rfl rfl ?_
    refine nw_sipush (len := 0) l_X12_fare_67 70 rfl c_10000 ?_
    refine nw_ic_lt l_X12_fare_70 73 rfl (fun q12 => ?_) (fun q12 => ?_)
    · replace h := h.1 q12
      refine nw_iload_n l_X12_fare_77 78 rfl rfl ?_
      refine nw_iload_n l_X12_fare_78 79 rfl rfl ?_
      refine nw_iconst (len := 0) l_X12_fare_79 80 rfl c_1 ?_
      have o13 := h.1
      replace h := h.2
      refine nw_iadd l_X12_fare_80 81 rfl o13 ?_
      have o14 := h.1
      replace h := h.2
      refine nw_imul l_X12_fare_81 82 rfl o14 ?_
      refine nw_ireturn l_X12_fare_82 rfl ?_
      exact h
    · replace h := h.2 q12
      refine nw_iconst (len := 0) l_X12_fare_73 74 rfl c_0 ?_
      refine nw_goto l_X12_fare_74 ?_
      refine nw_ireturn l_X12_fare_82 rfl ?_
      exact h
  · replace h := h.2 q10
    refine nw_aload_n l_X12_fare_41 42 rfl rfl ?_
    refine nw_getA l_X12_fare_42 45 rfl k_303 r_303_0 ?_
    refine nw_bipush (len := 0) l_X12_fare_45 47 rfl c_111 ?_
    refine nw_iload_n l_X12_fare_47 48 rfl rfl ?_
    refine nw_iadd l_X12_fare_48 49 rfl o8 ?_
    refine nw_iald l_X12_fare_49 50 rfl k_304 o9 (v := J 304 (111 + x1)) rfl ?_
    refine nw_goto l_X12_fare_50 ?_
    refine nw_istore_n l_X12_fare_65 66 rfl rfl (ls' := [some (.inr (.inl (some 303))), some (.inl x1), some (.inl (J 310 ((6 * (J 304 (81 + x1))) + (J 304 (91 + x1))))), some (.inl (J 304 (111 + x1)))]) rfl ?_
    refine nw_iload_n l_X12_fare_66 67 rfl rfl ?_
    refine nw_sipush (len := 0) l_X12_fare_67 70 rfl c_10000 ?_
    refine nw_ic_lt l_X12_fare_70 73 rfl (fun q15 => ?_) (fun q15 => ?_)
    · replace h := h.1 q15
      refine nw_iload_n l_X12_fare_77 78 rfl rfl ?_
      refine nw_iload_n l_X12_fare_78 79 rfl rfl ?_
      refine nw_iconst (len := 0) l_X12_fare_79 80 rfl c_1 ?_
      have o16 := h.1
      replace h := h.2
      refine nw_iadd l_X12_fare_80 81 rfl o16 ?_
      have o17 := h.1
      replace h := h.2
      refine nw_imul l_X12_fare_81 82 rfl o17 ?_
      refine nw_ireturn l_X12_fare_82 rfl ?_
      exact h
    · replace h := h.2 q15
      refine nw_iconst (len := 0) l_X12_fare_73 74 rfl c_0 ?_
      refine nw_goto l_X12_fare_74 ?_
      refine nw_ireturn l_X12_fare_82 rfl ?_
      exact h
theorem b_X12_fareOf_0 {x1 : Int} (hD : 1 ≤ D) (h : NW sc d_X12_placeOf 0 (0, [some (.inr (.inl (some 303))), some (.inl x1), none], [], (J, L, W), 0, 0) (fun v M9 => NW sc d_X12_fareOf D (5, [some (.inr (.inl (some 303))), none, none], nw_push v [], M9, c, sl) Qr Qx) Qx) :
    NW sc d_X12_fareOf D (0, [some (.inr (.inl (some 303))), some (.inl x1), none], [], (J, L, W), c, sl) Qr Qx := by
  refine nw_aload_n l_X12_fareOf_0 1 rfl rfl ?_
  refine nw_iload_n l_X12_fareOf_1 2 rfl rfl ?_
  refine nw_drop (ls' := [some (.inr (.inl (some 303))), none, none]) ⟨rfl, ⟨True.intro, ⟨True.intro, True.intro⟩⟩⟩ ?_
  refine nw_call0 0 303 l_X12_fareOf_2 rfl rfl g_X12_placeOf (Nat.lt_of_lt_of_le (by decide) hD) rfl (Or.inl ⟨_, rfl, k_303⟩) (ls' := [some (.inr (.inl (some 303))), some (.inl x1), none]) rfl (st' := []) rfl 5 rfl ?_
  exact h
theorem b_X12_fareOf_5 {y0 : Int} (hD : 1 ≤ D) (h : NW sc d_X12_finds 0 (0, [some (.inr (.inl (some 303))), none, none, none], [], (J, L, W), 0, 0) (fun v M9 => NW sc d_X12_fareOf D (10, [some (.inr (.inl (some 303))), none, some (.inl y0)], nw_push v [], M9, c, sl) Qr Qx) Qx) :
    NW sc d_X12_fareOf D (5, [some (.inr (.inl (some 303))), none, none], [.inl y0], (J, L, W), c, sl) Qr Qx := by
  refine nw_istore_n l_X12_fareOf_5 6 rfl rfl (ls' := [some (.inr (.inl (some 303))), none, some (.inl y0)]) rfl ?_
  refine nw_aload_n l_X12_fareOf_6 7 rfl rfl ?_
  refine nw_call0 0 303 l_X12_fareOf_7 rfl rfl g_X12_finds (Nat.lt_of_lt_of_le (by decide) hD) rfl (Or.inl ⟨_, rfl, k_303⟩) (ls' := [some (.inr (.inl (some 303))), none, none, none]) rfl (st' := []) rfl 10 rfl ?_
  exact h
theorem b_X12_fareOf_10 {x2 : Int} (hD : 1 ≤ D) (h : ((¬ x2 = (-1) → NW sc d_X12_fare 0 (0, [some (.inr (.inl (some 303))), some (.inl x2), none, none], [], (J, L, W), 0, 0) (fun v M9 => NW sc d_X12_fareOf D (29, [none, none, none], nw_push v [.inr (.inl (some 303))], M9, c, sl) Qr Qx) Qx) ∧ (x2 = (-1) → Qr (some (.inl 0)) (nw_u J 303 13 1, L, W)))) :
    NW sc d_X12_fareOf D (10, [some (.inr (.inl (some 303))), none, some (.inl x2)], [], (J, L, W), c, sl) Qr Qx := by
  refine nw_iload_n l_X12_fareOf_10 11 rfl rfl ?_
  refine nw_iconst (len := 0) l_X12_fareOf_11 12 rfl c_n1 ?_
  refine nw_ic_ne l_X12_fareOf_12 15 rfl (fun q1 => ?_) (fun q1 => ?_)
  · replace h := h.1 q1
    refine nw_aload_n l_X12_fareOf_23 24 rfl rfl ?_
    refine nw_aload_n l_X12_fareOf_24 25 rfl rfl ?_
    refine nw_iload_n l_X12_fareOf_25 26 rfl rfl ?_
    refine nw_drop (ls' := [none, none, none]) ⟨True.intro, ⟨True.intro, ⟨True.intro, True.intro⟩⟩⟩ ?_
    refine nw_call0 0 303 l_X12_fareOf_26 rfl rfl g_X12_fare (Nat.lt_of_lt_of_le (by decide) hD) rfl (Or.inl ⟨_, rfl, k_303⟩) (ls' := [some (.inr (.inl (some 303))), some (.inl x2), none, none]) rfl (st' := [.inr (.inl (some 303))]) rfl 29 rfl ?_
    exact h
  · replace h := h.2 q1
    refine nw_aload_n l_X12_fareOf_15 16 rfl rfl ?_
    refine nw_iconst (len := 0) l_X12_fareOf_16 17 rfl c_1 ?_
    refine nw_call0 0 303 l_X12_fareOf_17 rfl rfl g_X12_fails (Nat.lt_of_lt_of_le (by decide) hD) rfl (Or.inl ⟨_, rfl, k_303⟩) (ls' := [some (.inr (.inl (some 303))), some (.inl 1)]) rfl (st' := []) rfl 20 rfl ?_
    refine nw_aload_n l_X12_fails_0 1 rfl rfl ?_
    refine nw_iload_n l_X12_fails_1 2 rfl rfl ?_
    refine nw_putI l_X12_fails_2 5 rfl k_303 ?_
    refine nw_iconst (len := 0) l_X12_fails_5 6 rfl c_0 ?_
    refine nw_ireturn l_X12_fails_6 rfl ?_
    refine nw_goto l_X12_fareOf_20 ?_
    refine nw_ireturn l_X12_fareOf_32 rfl ?_
    exact h
theorem b_X12_fareOf_29 {y0 : Int} (hD : 1 ≤ D) (h : Qr (some (.inl y0)) (nw_u J 303 13 0, L, W)) :
    NW sc d_X12_fareOf D (29, [none, none, none], [.inl y0, .inr (.inl (some 303))], (J, L, W), c, sl) Qr Qx := by
  refine nw_call0 0 303 l_X12_fareOf_29 rfl rfl g_X12_done (Nat.lt_of_lt_of_le (by decide) hD) rfl (Or.inl ⟨_, rfl, k_303⟩) (ls' := [some (.inr (.inl (some 303))), some (.inl y0)]) rfl (st' := []) rfl 32 rfl ?_
  refine nw_aload_n l_X12_done_0 1 rfl rfl ?_
  refine nw_iconst (len := 0) l_X12_done_1 2 rfl c_0 ?_
  refine nw_putI l_X12_done_2 5 rfl k_303 ?_
  refine nw_iload_n l_X12_done_5 6 rfl rfl ?_
  refine nw_ireturn l_X12_done_6 rfl ?_
  refine nw_ireturn l_X12_fareOf_32 rfl ?_
  exact h
theorem b_X12_fareTotal_0  (hD : 1 ≤ D) (h : Qr (some (.inl (J 304 6))) (nw_u J 303 13 0, L, W)) :
    NW sc d_X12_fareTotal D (0, [some (.inr (.inl (some 303)))], [], (J, L, W), c, sl) Qr Qx := by
  refine nw_aload_n l_X12_fareTotal_0 1 rfl rfl ?_
  refine nw_aload_n l_X12_fareTotal_1 2 rfl rfl ?_
  refine nw_getA l_X12_fareTotal_2 5 rfl k_303 r_303_0 ?_
  refine nw_bipush (len := 0) l_X12_fareTotal_5 7 rfl c_6 ?_
  refine nw_iald l_X12_fareTotal_7 8 rfl k_304 ⟨by decide, by decide⟩ (v := J 304 6) rfl ?_
  refine nw_call0 0 303 l_X12_fareTotal_8 rfl rfl g_X12_done (Nat.lt_of_lt_of_le (by decide) hD) rfl (Or.inl ⟨_, rfl, k_303⟩) (ls' := [some (.inr (.inl (some 303))), some (.inl (J 304 6))]) rfl (st' := []) rfl 11 rfl ?_
  refine nw_aload_n l_X12_done_0 1 rfl rfl ?_
  refine nw_iconst (len := 0) l_X12_done_1 2 rfl c_0 ?_
  refine nw_putI l_X12_done_2 5 rfl k_303 ?_
  refine nw_iload_n l_X12_done_5 6 rfl rfl ?_
  refine nw_ireturn l_X12_done_6 rfl ?_
  refine nw_ireturn l_X12_fareTotal_11 rfl ?_
  exact h
theorem b_X12_ferryOf_0 {x1 : Int} (hD : 1 ≤ D) (h : NW sc d_X12_placeOf 0 (0, [some (.inr (.inl (some 303))), some (.inl x1), none], [], (J, L, W), 0, 0) (fun v M9 => NW sc d_X12_ferryOf D (5, [some (.inr (.inl (some 303))), none, none], nw_push v [], M9, c, sl) Qr Qx) Qx) :
    NW sc d_X12_ferryOf D (0, [some (.inr (.inl (some 303))), some (.inl x1), none], [], (J, L, W), c, sl) Qr Qx := by
  refine nw_aload_n l_X12_ferryOf_0 1 rfl rfl ?_
  refine nw_iload_n l_X12_ferryOf_1 2 rfl rfl ?_
  refine nw_drop (ls' := [some (.inr (.inl (some 303))), none, none]) ⟨rfl, ⟨True.intro, ⟨True.intro, True.intro⟩⟩⟩ ?_
  refine nw_call0 0 303 l_X12_ferryOf_2 rfl rfl g_X12_placeOf (Nat.lt_of_lt_of_le (by decide) hD) rfl (Or.inl ⟨_, rfl, k_303⟩) (ls' := [some (.inr (.inl (some 303))), some (.inl x1), none]) rfl (st' := []) rfl 5 rfl ?_
  exact h
theorem b_X12_ferryOf_5 {y0 : Int} (hD : 1 ≤ D) (h : ((¬ y0 = (-1) → ((-2147483648 ≤ 121 + y0 ∧ 121 + y0 < 2147483648) ∧ ((0 ≤ 121 + y0 ∧ 121 + y0 < 161) ∧ ((J 304 (121 + y0) < 10 → Qr (some (.inl 0)) (nw_u J 303 13 2, L, W)) ∧ (10 ≤ J 304 (121 + y0) → ((-2147483648 ≤ (J 304 (121 + y0)) - 10 ∧ (J 304 (121 + y0)) - 10 < 2147483648) ∧ Qr (some (.inl ((J 304 (121 + y0)) - 10))) (nw_u J 303 13 0, L, W))))))) ∧ (y0 = (-1) → Qr (some (.inl 0)) (nw_u J 303 13 1, L, W)))) :
    NW sc d_X12_ferryOf D (5, [some (.inr (.inl (some 303))), none, none], [.inl y0], (J, L, W), c, sl) Qr Qx := by
  refine nw_istore_n l_X12_ferryOf_5 6 rfl rfl (ls' := [some (.inr (.inl (some 303))), none, some (.inl y0)]) rfl ?_
  refine nw_iload_n l_X12_ferryOf_6 7 rfl rfl ?_
  refine nw_iconst (len := 0) l_X12_ferryOf_7 8 rfl c_n1 ?_
  refine nw_ic_ne l_X12_ferryOf_8 11 rfl (fun q1 => ?_) (fun q1 => ?_)
  · replace h := h.1 q1
    refine nw_aload_n l_X12_ferryOf_17 18 rfl rfl ?_
    refine nw_getA l_X12_ferryOf_18 21 rfl k_303 r_303_0 ?_
    refine nw_bipush (len := 0) l_X12_ferryOf_21 23 rfl c_121 ?_
    refine nw_iload_n l_X12_ferryOf_23 24 rfl rfl ?_
    have o2 := h.1
    replace h := h.2
    refine nw_iadd l_X12_ferryOf_24 25 rfl o2 ?_
    have o3 := h.1
    replace h := h.2
    refine nw_iald l_X12_ferryOf_25 26 rfl k_304 o3 (v := J 304 (121 + y0)) rfl ?_
    refine nw_bipush (len := 0) l_X12_ferryOf_26 28 rfl c_10 ?_
    refine nw_ic_lt l_X12_ferryOf_28 31 rfl (fun q4 => ?_) (fun q4 => ?_)
    · replace h := h.1 q4
      refine nw_aload_n l_X12_ferryOf_50 51 rfl rfl ?_
      refine nw_iconst (len := 0) l_X12_ferryOf_51 52 rfl c_2 ?_
      refine nw_call0 0 303 l_X12_ferryOf_52 rfl rfl g_X12_fails (Nat.lt_of_lt_of_le (by decide) hD) rfl (Or.inl ⟨_, rfl, k_303⟩) (ls' := [some (.inr (.inl (some 303))), some (.inl 2)]) rfl (st' := []) rfl 55 rfl ?_
      refine nw_aload_n l_X12_fails_0 1 rfl rfl ?_
      refine nw_iload_n l_X12_fails_1 2 rfl rfl ?_
      refine nw_putI l_X12_fails_2 5 rfl k_303 ?_
      refine nw_iconst (len := 0) l_X12_fails_5 6 rfl c_0 ?_
      refine nw_ireturn l_X12_fails_6 rfl ?_
      refine nw_ireturn l_X12_ferryOf_55 rfl ?_
      exact h
    · replace h := h.2 q4
      refine nw_aload_n l_X12_ferryOf_31 32 rfl rfl ?_
      refine nw_aload_n l_X12_ferryOf_32 33 rfl rfl ?_
      refine nw_getA l_X12_ferryOf_33 36 rfl k_303 r_303_0 ?_
      refine nw_bipush (len := 0) l_X12_ferryOf_36 38 rfl c_121 ?_
      refine nw_iload_n l_X12_ferryOf_38 39 rfl rfl ?_
      refine nw_iadd l_X12_ferryOf_39 40 rfl o2 ?_
      refine nw_iald l_X12_ferryOf_40 41 rfl k_304 o3 (v := J 304 (121 + y0)) rfl ?_
      refine nw_bipush (len := 0) l_X12_ferryOf_41 43 rfl c_10 ?_
      have o5 := h.1
      replace h := h.2
      refine nw_isub l_X12_ferryOf_43 44 rfl o5 ?_
      refine nw_call0 0 303 l_X12_ferryOf_44 rfl rfl g_X12_done (Nat.lt_of_lt_of_le (by decide) hD) rfl (Or.inl ⟨_, rfl, k_303⟩) (ls' := [some (.inr (.inl (some 303))), some (.inl ((J 304 (121 + y0)) - 10))]) rfl (st' := []) rfl 47 rfl ?_
      refine nw_aload_n l_X12_done_0 1 rfl rfl ?_
      refine nw_iconst (len := 0) l_X12_done_1 2 rfl c_0 ?_
      refine nw_putI l_X12_done_2 5 rfl k_303 ?_
      refine nw_iload_n l_X12_done_5 6 rfl rfl ?_
      refine nw_ireturn l_X12_done_6 rfl ?_
      refine nw_goto l_X12_ferryOf_47 ?_
      refine nw_ireturn l_X12_ferryOf_55 rfl ?_
      exact h
  · replace h := h.2 q1
    refine nw_aload_n l_X12_ferryOf_11 12 rfl rfl ?_
    refine nw_iconst (len := 0) l_X12_ferryOf_12 13 rfl c_1 ?_
    refine nw_call0 0 303 l_X12_ferryOf_13 rfl rfl g_X12_fails (Nat.lt_of_lt_of_le (by decide) hD) rfl (Or.inl ⟨_, rfl, k_303⟩) (ls' := [some (.inr (.inl (some 303))), some (.inl 1)]) rfl (st' := []) rfl 16 rfl ?_
    refine nw_aload_n l_X12_fails_0 1 rfl rfl ?_
    refine nw_iload_n l_X12_fails_1 2 rfl rfl ?_
    refine nw_putI l_X12_fails_2 5 rfl k_303 ?_
    refine nw_iconst (len := 0) l_X12_fails_5 6 rfl c_0 ?_
    refine nw_ireturn l_X12_fails_6 rfl ?_
    refine nw_ireturn l_X12_ferryOf_16 rfl ?_
    exact h
theorem b_X12_finds_0  (h : NW sc d_X12_finds D (2, [some (.inr (.inl (some 303))), some (.inl 0), none, none], [], (J, L, W), c, sl) Qr Qx) :
    NW sc d_X12_finds D (0, [some (.inr (.inl (some 303))), none, none, none], [], (J, L, W), c, sl) Qr Qx := by
  refine nw_iconst (len := 0) l_X12_finds_0 1 rfl c_0 ?_
  refine nw_istore_n l_X12_finds_1 2 rfl rfl (ls' := [some (.inr (.inl (some 303))), some (.inl 0), none, none]) rfl ?_
  exact h
theorem b_X12_finds_2 {x1 : Int} (h : ((36 ≤ x1 → NW sc d_X12_finds D (40, [some (.inr (.inl (some 303))), some (.inl 0), none, none], [], (J, L, W), c, sl) Qr Qx) ∧ (x1 < 36 → ((0 ≤ x1) ∧ ((¬ x1 / 6 = x1 % 6 → ((0 ≤ x1 ∧ x1 < 36) ∧ ((-2147483648 ≤ x1 + 1 ∧ x1 + 1 < 2147483648) ∧ NW sc d_X12_finds D (2, [some (.inr (.inl (some 303))), some (.inl (x1 + 1)), none, none], [], (nw_u J 310 x1 10000, L, W), c, sl) Qr Qx))) ∧ (x1 / 6 = x1 % 6 → ((0 ≤ x1 ∧ x1 < 36) ∧ ((-2147483648 ≤ x1 + 1 ∧ x1 + 1 < 2147483648) ∧ NW sc d_X12_finds D (2, [some (.inr (.inl (some 303))), some (.inl (x1 + 1)), none, none], [], (nw_u J 310 x1 0, L, W), c, sl) Qr Qx)))))))) :
    NW sc d_X12_finds D (2, [some (.inr (.inl (some 303))), some (.inl x1), none, none], [], (J, L, W), c, sl) Qr Qx := by
  refine nw_iload_n l_X12_finds_2 3 rfl rfl ?_
  refine nw_bipush (len := 0) l_X12_finds_3 5 rfl c_36 ?_
  refine nw_ic_ge l_X12_finds_5 8 rfl (fun q1 => ?_) (fun q1 => ?_)
  · replace h := h.1 q1
    refine nw_iconst (len := 0) l_X12_finds_38 39 rfl c_0 ?_
    refine nw_istore_n l_X12_finds_39 40 rfl rfl (ls' := [some (.inr (.inl (some 303))), some (.inl 0), none, none]) rfl ?_
    exact h
  · replace h := h.2 q1
    refine nw_aload_n l_X12_finds_8 9 rfl rfl ?_
    refine nw_getA l_X12_finds_9 12 rfl k_303 r_303_14 ?_
    refine nw_iload_n l_X12_finds_12 13 rfl rfl ?_
    refine nw_iload_n l_X12_finds_13 14 rfl rfl ?_
    refine nw_bipush (len := 0) l_X12_finds_14 16 rfl c_6 ?_
    have o2 := h.1
    replace h := h.2
    refine nw_idiv l_X12_finds_16 17 rfl ⟨o2, by decide⟩ ?_
    refine nw_iload_n l_X12_finds_17 18 rfl rfl ?_
    refine nw_bipush (len := 0) l_X12_finds_18 20 rfl c_6 ?_
    refine nw_irem l_X12_finds_20 21 rfl ⟨o2, by decide⟩ ?_
    refine nw_ic_ne l_X12_finds_21 24 rfl (fun q3 => ?_) (fun q3 => ?_)
    · replace h := h.1 q3
      refine nw_sipush (len := 0) l_X12_finds_28 31 rfl c_10000 ?_
      have o4 := h.1
      replace h := h.2
      refine nw_iast l_X12_finds_31 32 rfl k_310 o4 ?_
      have o5 := h.1
      replace h := h.2
      refine nw_iinc l_X12_finds_32 35 rfl 1 (by decide) rfl rfl o5 (ls' := [some (.inr (.inl (some 303))), some (.inl (x1 + 1)), none, none]) rfl ?_
      refine nw_goto l_X12_finds_35 ?_
      exact h
    · replace h := h.2 q3
      refine nw_iconst (len := 0) l_X12_finds_24 25 rfl c_0 ?_
      refine nw_goto l_X12_finds_25 ?_
      have o6 := h.1
      replace h := h.2
      refine nw_iast l_X12_finds_31 32 rfl k_310 o6 ?_
      have o7 := h.1
      replace h := h.2
      refine nw_iinc l_X12_finds_32 35 rfl 1 (by decide) rfl rfl o7 (ls' := [some (.inr (.inl (some 303))), some (.inl (x1 + 1)), none, none]) rfl ?_
      refine nw_goto l_X12_finds_35 ?_
      exact h
theorem b_X12_finds_40 {x1 : Int} (h : ((J 304 2 ≤ x1 → NW sc d_X12_finds D (130, [some (.inr (.inl (some 303))), some (.inl 0), none, none], [], (J, L, W), c, sl) Qr Qx) ∧ (x1 < J 304 2 → ((-2147483648 ≤ 16 + x1 ∧ 16 + x1 < 2147483648) ∧ ((0 ≤ 16 + x1 ∧ 16 + x1 < 161) ∧ ((-2147483648 ≤ 6 * (J 304 (16 + x1)) ∧ 6 * (J 304 (16 + x1)) < 2147483648) ∧ ((-2147483648 ≤ 26 + x1 ∧ 26 + x1 < 2147483648) ∧ ((0 ≤ 26 + x1 ∧ 26 + x1 < 161) ∧ ((-2147483648 ≤ (6 * (J 304 (16 + x1))) + (J 304 (26 + x1)) ∧ (6 * (J 304 (16 + x1))) + (J 304 (26 + x1)) < 2147483648) ∧ ((-2147483648 ≤ 36 + x1 ∧ 36 + x1 < 2147483648) ∧ ((0 ≤ 36 + x1 ∧ 36 + x1 < 161) ∧ ((0 ≤ (6 * (J 304 (16 + x1))) + (J 304 (26 + x1)) ∧ (6 * (J 304 (16 + x1))) + (J 304 (26 + x1)) < 36) ∧ ((-2147483648 ≤ 6 * (J 304 (26 + x1)) ∧ 6 * (J 304 (26 + x1)) < 2147483648) ∧ ((-2147483648 ≤ (6 * (J 304 (26 + x1))) + (J 304 (16 + x1)) ∧ (6 * (J 304 (26 + x1))) + (J 304 (16 + x1)) < 2147483648) ∧ ((0 ≤ (6 * (J 304 (26 + x1))) + (J 304 (16 + x1)) ∧ (6 * (J 304 (26 + x1))) + (J 304 (16 + x1)) < 36) ∧ ((-2147483648 ≤ x1 + 1 ∧ x1 + 1 < 2147483648) ∧ NW sc d_X12_finds D (40, [some (.inr (.inl (some 303))), some (.inl (x1 + 1)), none, none], [], (nw_u (nw_u J 310 ((6 * (J 304 (16 + x1))) + (J 304 (26 + x1))) (J 304 (36 + x1))) 310 ((6 * (J 304 (26 + x1))) + (J 304 (16 + x1))) (J 304 (36 + x1)), L, W), c, sl) Qr Qx)))))))))))))))) :
    NW sc d_X12_finds D (40, [some (.inr (.inl (some 303))), some (.inl x1), none, none], [], (J, L, W), c, sl) Qr Qx := by
  refine nw_iload_n l_X12_finds_40 41 rfl rfl ?_
  refine nw_aload_n l_X12_finds_41 42 rfl rfl ?_
  refine nw_getA l_X12_finds_42 45 rfl k_303 r_303_0 ?_
  refine nw_iconst (len := 0) l_X12_finds_45 46 rfl c_2 ?_
  refine nw_iald l_X12_finds_46 47 rfl k_304 ⟨by decide, by decide⟩ (v := J 304 2) rfl ?_
  refine nw_ic_ge l_X12_finds_47 50 rfl (fun q1 => ?_) (fun q1 => ?_)
  · replace h := h.1 q1
    refine nw_iconst (len := 0) l_X12_finds_128 129 rfl c_0 ?_
    refine nw_istore_n l_X12_finds_129 130 rfl rfl (ls' := [some (.inr (.inl (some 303))), some (.inl 0), none, none]) rfl ?_
    exact h
  · replace h := h.2 q1
    refine nw_aload_n l_X12_finds_50 51 rfl rfl ?_
    refine nw_getA l_X12_finds_51 54 rfl k_303 r_303_14 ?_
    refine nw_bipush (len := 0) l_X12_finds_54 56 rfl c_6 ?_
    refine nw_aload_n l_X12_finds_56 57 rfl rfl ?_
    refine nw_getA l_X12_finds_57 60 rfl k_303 r_303_0 ?_
    refine nw_bipush (len := 0) l_X12_finds_60 62 rfl c_16 ?_
    refine nw_iload_n l_X12_finds_62 63 rfl rfl ?_
    have o2 := h.1
    replace h := h.2
    refine nw_iadd l_X12_finds_63 64 rfl o2 ?_
    have o3 := h.1
    replace h := h.2
    refine nw_iald l_X12_finds_64 65 rfl k_304 o3 (v := J 304 (16 + x1)) rfl ?_
    have o4 := h.1
    replace h := h.2
    refine nw_imul l_X12_finds_65 66 rfl o4 ?_
    refine nw_aload_n l_X12_finds_66 67 rfl rfl ?_
    refine nw_getA l_X12_finds_67 70 rfl k_303 r_303_0 ?_
    refine nw_bipush (len := 0) l_X12_finds_70 72 rfl c_26 ?_
    refine nw_iload_n l_X12_finds_72 73 rfl rfl ?_
    have o5 := h.1
    replace h := h.2
    refine nw_iadd l_X12_finds_73 74 rfl o5 ?_
    have o6 := h.1
    replace h := h.2
    refine nw_iald l_X12_finds_74 75 rfl k_304 o6 (v := J 304 (26 + x1)) rfl ?_
    have o7 := h.1
    replace h := h.2
    refine nw_iadd l_X12_finds_75 76 rfl o7 ?_
    refine nw_aload_n l_X12_finds_76 77 rfl rfl ?_
    refine nw_getA l_X12_finds_77 80 rfl k_303 r_303_0 ?_
    refine nw_bipush (len := 0) l_X12_finds_80 82 rfl c_36 ?_
    refine nw_iload_n l_X12_finds_82 83 rfl rfl ?_
    have o8 := h.1
    replace h := h.2
    refine nw_iadd l_X12_finds_83 84 rfl o8 ?_
    have o9 := h.1
    replace h := h.2
    refine nw_iald l_X12_finds_84 85 rfl k_304 o9 (v := J 304 (36 + x1)) rfl ?_
    have o10 := h.1
    replace h := h.2
    refine nw_iast l_X12_finds_85 86 rfl k_310 o10 ?_
    refine nw_aload_n l_X12_finds_86 87 rfl rfl ?_
    refine nw_getA l_X12_finds_87 90 rfl k_303 r_303_14 ?_
    refine nw_bipush (len := 0) l_X12_finds_90 92 rfl c_6 ?_
    refine nw_aload_n l_X12_finds_92 93 rfl rfl ?_
    refine nw_getA l_X12_finds_93 96 rfl k_303 r_303_0 ?_
    refine nw_bipush (len := 0) l_X12_finds_96 98 rfl c_26 ?_
    refine nw_iload_n l_X12_finds_98 99 rfl rfl ?_
    refine nw_iadd l_X12_finds_99 100 rfl o5 ?_
    refine nw_iald l_X12_finds_100 101 rfl k_304 o6 (v := J 304 (26 + x1)) (show nw_u J 310 ((6 * (J 304 (16 + x1))) + (J 304 (26 + x1))) (J 304 (36 + x1)) 304 (26 + x1) = J 304 (26 + x1) from (nw_uN (a := 310) (b := 304) (by decide))) ?_
    have o11 := h.1
    replace h := h.2
    refine nw_imul l_X12_finds_101 102 rfl o11 ?_
    refine nw_aload_n l_X12_finds_102 103 rfl rfl ?_
    refine nw_getA l_X12_finds_103 106 rfl k_303 r_303_0 ?_
    refine nw_bipush (len := 0) l_X12_finds_106 108 rfl c_16 ?_
    refine nw_iload_n l_X12_finds_108 109 rfl rfl ?_
    refine nw_iadd l_X12_finds_109 110 rfl o2 ?_
    refine nw_iald l_X12_finds_110 111 rfl k_304 o3 (v := J 304 (16 + x1)) (show nw_u J 310 ((6 * (J 304 (16 + x1))) + (J 304 (26 + x1))) (J 304 (36 + x1)) 304 (16 + x1) = J 304 (16 + x1) from (nw_uN (a := 310) (b := 304) (by decide))) ?_
    have o12 := h.1
    replace h := h.2
    refine nw_iadd l_X12_finds_111 112 rfl o12 ?_
    refine nw_aload_n l_X12_finds_112 113 rfl rfl ?_
    refine nw_getA l_X12_finds_113 116 rfl k_303 r_303_0 ?_
    refine nw_bipush (len := 0) l_X12_finds_116 118 rfl c_36 ?_
    refine nw_iload_n l_X12_finds_118 119 rfl rfl ?_
    refine nw_iadd l_X12_finds_119 120 rfl o8 ?_
    refine nw_iald l_X12_finds_120 121 rfl k_304 o9 (v := J 304 (36 + x1)) (show nw_u J 310 ((6 * (J 304 (16 + x1))) + (J 304 (26 + x1))) (J 304 (36 + x1)) 304 (36 + x1) = J 304 (36 + x1) from (nw_uN (a := 310) (b := 304) (by decide))) ?_
    have o13 := h.1
    replace h := h.2
    refine nw_iast l_X12_finds_121 122 rfl k_310 o13 ?_
    have o14 := h.1
    replace h := h.2
    refine nw_iinc l_X12_finds_122 125 rfl 1 (by decide) rfl rfl o14 (ls' := [some (.inr (.inl (some 303))), some (.inl (x1 + 1)), none, none]) rfl ?_
    refine nw_goto l_X12_finds_125 ?_
    exact h
theorem b_X12_finds_130 {x1 : Int} (h : ((6 ≤ x1 → Qr none (J, L, W)) ∧ (x1 < 6 → NW sc d_X12_finds D (138, [some (.inr (.inl (some 303))), some (.inl x1), some (.inl 0), none], [], (J, L, W), c, sl) Qr Qx))) :
    NW sc d_X12_finds D (130, [some (.inr (.inl (some 303))), some (.inl x1), none, none], [], (J, L, W), c, sl) Qr Qx := by
  refine nw_iload_n l_X12_finds_130 131 rfl rfl ?_
  refine nw_bipush (len := 0) l_X12_finds_131 133 rfl c_6 ?_
  refine nw_ic_ge l_X12_finds_133 136 rfl (fun q1 => ?_) (fun q1 => ?_)
  · replace h := h.1 q1
    refine nw_return l_X12_finds_212 rfl ?_
    exact h
  · replace h := h.2 q1
    refine nw_iconst (len := 0) l_X12_finds_136 137 rfl c_0 ?_
    refine nw_istore_n l_X12_finds_137 138 rfl rfl (ls' := [some (.inr (.inl (some 303))), some (.inl x1), some (.inl 0), none]) rfl ?_
    exact h
theorem b_X12_finds_138 {x1 : Int} {x2 : Int} (h : ((36 ≤ x2 → ((-2147483648 ≤ x1 + 1 ∧ x1 + 1 < 2147483648) ∧ NW sc d_X12_finds D (130, [some (.inr (.inl (some 303))), some (.inl (x1 + 1)), none, none], [], (J, L, W), c, sl) Qr Qx)) ∧ (x2 < 36 → ((0 ≤ x2) ∧ ((-2147483648 ≤ (x2 / 6) * 6 ∧ (x2 / 6) * 6 < 2147483648) ∧ ((-2147483648 ≤ ((x2 / 6) * 6) + x1 ∧ ((x2 / 6) * 6) + x1 < 2147483648) ∧ ((0 ≤ ((x2 / 6) * 6) + x1 ∧ ((x2 / 6) * 6) + x1 < 36) ∧ ((-2147483648 ≤ 6 * x1 ∧ 6 * x1 < 2147483648) ∧ ((-2147483648 ≤ (6 * x1) + (x2 % 6) ∧ (6 * x1) + (x2 % 6) < 2147483648) ∧ ((0 ≤ (6 * x1) + (x2 % 6) ∧ (6 * x1) + (x2 % 6) < 36) ∧ ((-2147483648 ≤ (J 310 (((x2 / 6) * 6) + x1)) + (J 310 ((6 * x1) + (x2 % 6))) ∧ (J 310 (((x2 / 6) * 6) + x1)) + (J 310 ((6 * x1) + (x2 % 6))) < 2147483648) ∧ ((0 ≤ x2 ∧ x2 < 36) ∧ ((J 310 x2 ≤ (J 310 (((x2 / 6) * 6) + x1)) + (J 310 ((6 * x1) + (x2 % 6))) → ((-2147483648 ≤ x2 + 1 ∧ x2 + 1 < 2147483648) ∧ NW sc d_X12_finds D (138, [some (.inr (.inl (some 303))), some (.inl x1), some (.inl (x2 + 1)), none], [], (nw_u J 310 x2 (J 310 x2), L, W), c, sl) Qr Qx)) ∧ ((J 310 (((x2 / 6) * 6) + x1)) + (J 310 ((6 * x1) + (x2 % 6))) < J 310 x2 → ((-2147483648 ≤ x2 + 1 ∧ x2 + 1 < 2147483648) ∧ NW sc d_X12_finds D (138, [some (.inr (.inl (some 303))), some (.inl x1), some (.inl (x2 + 1)), none], [], (nw_u J 310 x2 ((J 310 (((x2 / 6) * 6) + x1)) + (J 310 ((6 * x1) + (x2 % 6)))), L, W), c, sl) Qr Qx))))))))))))))) :
    NW sc d_X12_finds D (138, [some (.inr (.inl (some 303))), some (.inl x1), some (.inl x2), none], [], (J, L, W), c, sl) Qr Qx := by
  refine nw_iload_n l_X12_finds_138 139 rfl rfl ?_
  refine nw_bipush (len := 0) l_X12_finds_139 141 rfl c_36 ?_
  refine nw_ic_ge l_X12_finds_141 144 rfl (fun q1 => ?_) (fun q1 => ?_)
  · replace h := h.1 q1
    have o2 := h.1
    replace h := h.2
    refine nw_iinc l_X12_finds_206 209 rfl 1 (by decide) rfl rfl o2 (ls' := [some (.inr (.inl (some 303))), some (.inl (x1 + 1)), some (.inl x2), none]) rfl ?_
    refine nw_goto l_X12_finds_209 ?_
    refine nw_drop (ls' := [some (.inr (.inl (some 303))), some (.inl (x1 + 1)), none, none]) ⟨rfl, ⟨rfl, ⟨True.intro, ⟨True.intro, True.intro⟩⟩⟩⟩ ?_
    exact h
  · replace h := h.2 q1
    refine nw_aload_n l_X12_finds_144 145 rfl rfl ?_
    refine nw_getA l_X12_finds_145 148 rfl k_303 r_303_14 ?_
    refine nw_iload_n l_X12_finds_148 149 rfl rfl ?_
    refine nw_bipush (len := 0) l_X12_finds_149 151 rfl c_6 ?_
    have o3 := h.1
    replace h := h.2
    refine nw_idiv l_X12_finds_151 152 rfl ⟨o3, by decide⟩ ?_
    refine nw_bipush (len := 0) l_X12_finds_152 154 rfl c_6 ?_
    have o4 := h.1
    replace h := h.2
    refine nw_imul l_X12_finds_154 155 rfl o4 ?_
    refine nw_iload_n l_X12_finds_155 156 rfl rfl ?_
    have o5 := h.1
    replace h := h.2
    refine nw_iadd l_X12_finds_156 157 rfl o5 ?_
    have o6 := h.1
    replace h := h.2
    refine nw_iald l_X12_finds_157 158 rfl k_310 o6 (v := J 310 (((x2 / 6) * 6) + x1)) rfl ?_
    refine nw_aload_n l_X12_finds_158 159 rfl rfl ?_
    refine nw_getA l_X12_finds_159 162 rfl k_303 r_303_14 ?_
    refine nw_bipush (len := 0) l_X12_finds_162 164 rfl c_6 ?_
    refine nw_iload_n l_X12_finds_164 165 rfl rfl ?_
    have o7 := h.1
    replace h := h.2
    refine nw_imul l_X12_finds_165 166 rfl o7 ?_
    refine nw_iload_n l_X12_finds_166 167 rfl rfl ?_
    refine nw_bipush (len := 0) l_X12_finds_167 169 rfl c_6 ?_
    refine nw_irem l_X12_finds_169 170 rfl ⟨o3, by decide⟩ ?_
    have o8 := h.1
    replace h := h.2
    refine nw_iadd l_X12_finds_170 171 rfl o8 ?_
    have o9 := h.1
    replace h := h.2
    refine nw_iald l_X12_finds_171 172 rfl k_310 o9 (v := J 310 ((6 * x1) + (x2 % 6))) rfl ?_
    have o10 := h.1
    replace h := h.2
    refine nw_iadd l_X12_finds_172 173 rfl o10 ?_
    refine nw_istore_n l_X12_finds_173 174 rfl rfl (ls' := [some (.inr (.inl (some 303))), some (.inl x1), some (.inl x2), some (.inl ((J 310 (((x2 / 6) * 6) + x1)) + (J 310 ((6 * x1) + (x2 % 6)))))]) rfl ?_
    refine nw_aload_n l_X12_finds_174 175 rfl rfl ?_
    refine nw_getA l_X12_finds_175 178 rfl k_303 r_303_14 ?_
    refine nw_iload_n l_X12_finds_178 179 rfl rfl ?_
    refine nw_iload_n l_X12_finds_179 180 rfl rfl ?_
    refine nw_aload_n l_X12_finds_180 181 rfl rfl ?_
    refine nw_getA l_X12_finds_181 184 rfl k_303 r_303_14 ?_
    refine nw_iload_n l_X12_finds_184 185 rfl rfl ?_
    have o11 := h.1
    replace h := h.2
    refine nw_iald l_X12_finds_185 186 rfl k_310 o11 (v := J 310 x2) rfl ?_
    refine nw_ic_ge l_X12_finds_186 189 rfl (fun q12 => ?_) (fun q12 => ?_)
    · replace h := h.1 q12
      refine nw_aload_n l_X12_finds_193 194 rfl rfl ?_
      refine nw_getA l_X12_finds_194 197 rfl k_303 r_303_14 ?_
      refine nw_iload_n l_X12_finds_197 198 rfl rfl ?_
      refine nw_iald l_X12_finds_198 199 rfl k_310 o11 (v := J 310 x2) rfl ?_
      refine nw_iast l_X12_finds_199 200 rfl k_310 o11 ?_
      have o13 := h.1
      replace h := h.2
      refine nw_iinc l_X12_finds_200 203 rfl 1 (by decide) rfl rfl o13 (ls' := [some (.inr (.inl (some 303))), some (.inl x1), some (.inl (x2 + 1)), some (.inl ((J 310 (((x2 / 6) * 6) + x1)) + (J 310 ((6 * x1) + (x2 % 6)))))]) rfl ?_
      refine nw_goto l_X12_finds_203 ?_
      refine nw_drop (ls' := [some (.inr (.inl (some 303))), some (.inl x1), some (.inl (x2 + 1)), none]) ⟨rfl, ⟨rfl, ⟨rfl, ⟨True.intro, True.intro⟩⟩⟩⟩ ?_
      exact h
    · replace h := h.2 q12
      refine nw_iload_n l_X12_finds_189 190 rfl rfl ?_
      refine nw_goto l_X12_finds_190 ?_
      refine nw_iast l_X12_finds_199 200 rfl k_310 o11 ?_
      have o14 := h.1
      replace h := h.2
      refine nw_iinc l_X12_finds_200 203 rfl 1 (by decide) rfl rfl o14 (ls' := [some (.inr (.inl (some 303))), some (.inl x1), some (.inl (x2 + 1)), some (.inl ((J 310 (((x2 / 6) * 6) + x1)) + (J 310 ((6 * x1) + (x2 % 6)))))]) rfl ?_
      refine nw_goto l_X12_finds_203 ?_
      refine nw_drop (ls' := [some (.inr (.inl (some 303))), some (.inl x1), some (.inl (x2 + 1)), none]) ⟨rfl, ⟨rfl, ⟨rfl, ⟨True.intro, True.intro⟩⟩⟩⟩ ?_
      exact h
theorem b_X12_hour_0  (hD : 1 ≤ D) (h : Qr (some (.inl (J 304 0))) (nw_u J 303 13 0, L, W)) :
    NW sc d_X12_hour D (0, [some (.inr (.inl (some 303)))], [], (J, L, W), c, sl) Qr Qx := by
  refine nw_aload_n l_X12_hour_0 1 rfl rfl ?_
  refine nw_aload_n l_X12_hour_1 2 rfl rfl ?_
  refine nw_getA l_X12_hour_2 5 rfl k_303 r_303_0 ?_
  refine nw_iconst (len := 0) l_X12_hour_5 6 rfl c_0 ?_
  refine nw_iald l_X12_hour_6 7 rfl k_304 ⟨by decide, by decide⟩ (v := J 304 0) rfl ?_
  refine nw_call0 0 303 l_X12_hour_7 rfl rfl g_X12_done (Nat.lt_of_lt_of_le (by decide) hD) rfl (Or.inl ⟨_, rfl, k_303⟩) (ls' := [some (.inr (.inl (some 303))), some (.inl (J 304 0))]) rfl (st' := []) rfl 10 rfl ?_
  refine nw_aload_n l_X12_done_0 1 rfl rfl ?_
  refine nw_iconst (len := 0) l_X12_done_1 2 rfl c_0 ?_
  refine nw_putI l_X12_done_2 5 rfl k_303 ?_
  refine nw_iload_n l_X12_done_5 6 rfl rfl ?_
  refine nw_ireturn l_X12_done_6 rfl ?_
  refine nw_ireturn l_X12_hour_10 rfl ?_
  exact h
theorem b_X12_hoursLeft_0 {x1 : Int} (hD : 2 ≤ D) (h : ((-2147483648 ≤ (J 304 3) - 1 ∧ (J 304 3) - 1 < 2147483648) ∧ ((x1 < 0 → Qr (some (.inl 0)) (nw_u J 303 13 1, L, W)) ∧ (0 ≤ x1 → (((J 304 3) - 1 < x1 → Qr (some (.inl 0)) (nw_u J 303 13 1, L, W)) ∧ (x1 ≤ (J 304 3) - 1 → ((-2147483648 ≤ 62 + x1 ∧ 62 + x1 < 2147483648) ∧ ((0 ≤ 62 + x1 ∧ 62 + x1 < 161) ∧ ((J 304 (62 + x1) ≤ 0 → Qr (some (.inl 0)) (nw_u J 303 13 0, L, W)) ∧ (0 < J 304 (62 + x1) → ((-2147483648 ≤ (J 304 (62 + x1)) - (J 304 0) ∧ (J 304 (62 + x1)) - (J 304 0) < 2147483648) ∧ Qr (some (.inl ((J 304 (62 + x1)) - (J 304 0)))) (nw_u J 303 13 0, L, W)))))))))))) :
    NW sc d_X12_hoursLeft D (0, [some (.inr (.inl (some 303))), some (.inl x1)], [], (J, L, W), c, sl) Qr Qx := by
  refine nw_aload_n l_X12_hoursLeft_0 1 rfl rfl ?_
  refine nw_iload_n l_X12_hoursLeft_1 2 rfl rfl ?_
  refine nw_call0 1 303 l_X12_hoursLeft_2 rfl rfl g_X12_isFerry (Nat.lt_of_lt_of_le (by decide) hD) rfl (Or.inl ⟨_, rfl, k_303⟩) (ls' := [some (.inr (.inl (some 303))), some (.inl x1)]) rfl (st' := []) rfl 5 rfl ?_
  refine nw_iload_n l_X12_isFerry_0 1 rfl rfl ?_
  refine nw_iconst (len := 0) l_X12_isFerry_1 2 rfl c_0 ?_
  refine nw_aload_n l_X12_isFerry_2 3 rfl rfl ?_
  refine nw_getA l_X12_isFerry_3 6 rfl k_303 r_303_0 ?_
  refine nw_iconst (len := 0) l_X12_isFerry_6 7 rfl c_3 ?_
  refine nw_iald l_X12_isFerry_7 8 rfl k_304 ⟨by decide, by decide⟩ (v := J 304 3) rfl ?_
  refine nw_iconst (len := 0) l_X12_isFerry_8 9 rfl c_1 ?_
  have o1 := h.1
  replace h := h.2
  refine nw_isub l_X12_isFerry_9 10 rfl o1 ?_
  refine nw_call0 0 0 l_X12_isFerry_10 rfl rfl g_X12_in (by decide) rfl True.intro (ls' := [some (.inl x1), some (.inl 0), some (.inl ((J 304 3) - 1))]) rfl (st' := []) rfl 13 rfl ?_
  refine nw_iload_n l_X12_in_0 1 rfl rfl ?_
  refine nw_iload_n l_X12_in_1 2 rfl rfl ?_
  refine nw_ic_lt l_X12_in_2 5 rfl (fun q2 => ?_) (fun q2 => ?_)
  · replace h := h.1 q2
    refine nw_iconst (len := 0) l_X12_in_14 15 rfl c_0 ?_
    refine nw_ireturnZ l_X12_in_15 rfl (Or.inl rfl) ?_
    refine nw_ireturnZ l_X12_isFerry_13 rfl (Or.inl rfl) ?_
    refine nw_if_eq l_X12_hoursLeft_5 8 rfl (fun _ => ?_) (fun q => absurd q (by decide))
    refine nw_aload_n l_X12_hoursLeft_20 21 rfl rfl ?_
    refine nw_iconst (len := 0) l_X12_hoursLeft_21 22 rfl c_1 ?_
    refine nw_call0 0 303 l_X12_hoursLeft_22 rfl rfl g_X12_fails (Nat.lt_of_lt_of_le (by decide) hD) rfl (Or.inl ⟨_, rfl, k_303⟩) (ls' := [some (.inr (.inl (some 303))), some (.inl 1)]) rfl (st' := []) rfl 25 rfl ?_
    refine nw_aload_n l_X12_fails_0 1 rfl rfl ?_
    refine nw_iload_n l_X12_fails_1 2 rfl rfl ?_
    refine nw_putI l_X12_fails_2 5 rfl k_303 ?_
    refine nw_iconst (len := 0) l_X12_fails_5 6 rfl c_0 ?_
    refine nw_ireturn l_X12_fails_6 rfl ?_
    refine nw_ireturn l_X12_hoursLeft_25 rfl ?_
    exact h
  · replace h := h.2 q2
    refine nw_iload_n l_X12_in_5 6 rfl rfl ?_
    refine nw_iload_n l_X12_in_6 7 rfl rfl ?_
    refine nw_ic_gt l_X12_in_7 10 rfl (fun q3 => ?_) (fun q3 => ?_)
    · replace h := h.1 q3
      refine nw_iconst (len := 0) l_X12_in_14 15 rfl c_0 ?_
      refine nw_ireturnZ l_X12_in_15 rfl (Or.inl rfl) ?_
      refine nw_ireturnZ l_X12_isFerry_13 rfl (Or.inl rfl) ?_
      refine nw_if_eq l_X12_hoursLeft_5 8 rfl (fun _ => ?_) (fun q => absurd q (by decide))
      refine nw_aload_n l_X12_hoursLeft_20 21 rfl rfl ?_
      refine nw_iconst (len := 0) l_X12_hoursLeft_21 22 rfl c_1 ?_
      refine nw_call0 0 303 l_X12_hoursLeft_22 rfl rfl g_X12_fails (Nat.lt_of_lt_of_le (by decide) hD) rfl (Or.inl ⟨_, rfl, k_303⟩) (ls' := [some (.inr (.inl (some 303))), some (.inl 1)]) rfl (st' := []) rfl 25 rfl ?_
      refine nw_aload_n l_X12_fails_0 1 rfl rfl ?_
      refine nw_iload_n l_X12_fails_1 2 rfl rfl ?_
      refine nw_putI l_X12_fails_2 5 rfl k_303 ?_
      refine nw_iconst (len := 0) l_X12_fails_5 6 rfl c_0 ?_
      refine nw_ireturn l_X12_fails_6 rfl ?_
      refine nw_ireturn l_X12_hoursLeft_25 rfl ?_
      exact h
    · replace h := h.2 q3
      refine nw_iconst (len := 0) l_X12_in_10 11 rfl c_1 ?_
      refine nw_goto l_X12_in_11 ?_
      refine nw_ireturnZ l_X12_in_15 rfl (Or.inr rfl) ?_
      refine nw_ireturnZ l_X12_isFerry_13 rfl (Or.inr rfl) ?_
      refine nw_if_eq l_X12_hoursLeft_5 8 rfl (fun q => absurd q (by decide)) (fun _ => ?_)
      refine nw_aload_n l_X12_hoursLeft_8 9 rfl rfl ?_
      refine nw_aload_n l_X12_hoursLeft_9 10 rfl rfl ?_
      refine nw_iload_n l_X12_hoursLeft_10 11 rfl rfl ?_
      refine nw_call0 1 303 l_X12_hoursLeft_11 rfl rfl g_X12_left (Nat.lt_of_lt_of_le (by decide) hD) rfl (Or.inl ⟨_, rfl, k_303⟩) (ls' := [some (.inr (.inl (some 303))), some (.inl x1)]) rfl (st' := [.inr (.inl (some 303))]) rfl 14 rfl ?_
      refine nw_aload_n l_X12_left_0 1 rfl rfl ?_
      refine nw_iload_n l_X12_left_1 2 rfl rfl ?_
      refine nw_call0 0 303 l_X12_left_2 rfl rfl g_X12_sails (by decide) rfl (Or.inl ⟨_, rfl, k_303⟩) (ls' := [some (.inr (.inl (some 303))), some (.inl x1)]) rfl (st' := []) rfl 5 rfl ?_
      refine nw_aload_n l_X12_sails_0 1 rfl rfl ?_
      refine nw_getA l_X12_sails_1 4 rfl k_303 r_303_0 ?_
      refine nw_bipush (len := 0) l_X12_sails_4 6 rfl c_62 ?_
      refine nw_iload_n l_X12_sails_6 7 rfl rfl ?_
      have o4 := h.1
      replace h := h.2
      refine nw_iadd l_X12_sails_7 8 rfl o4 ?_
      have o5 := h.1
      replace h := h.2
      refine nw_iald l_X12_sails_8 9 rfl k_304 o5 (v := J 304 (62 + x1)) rfl ?_
      refine nw_if_le l_X12_sails_9 12 rfl (fun q6 => ?_) (fun q6 => ?_)
      · replace h := h.1 q6
        refine nw_iconst (len := 0) l_X12_sails_16 17 rfl c_0 ?_
        refine nw_ireturnZ l_X12_sails_17 rfl (Or.inl rfl) ?_
        refine nw_if_eq l_X12_left_5 8 rfl (fun _ => ?_) (fun q => absurd q (by decide))
        refine nw_iconst (len := 0) l_X12_left_27 28 rfl c_0 ?_
        refine nw_ireturn l_X12_left_28 rfl ?_
        refine nw_call0 0 303 l_X12_hoursLeft_14 rfl rfl g_X12_done (Nat.lt_of_lt_of_le (by decide) hD) rfl (Or.inl ⟨_, rfl, k_303⟩) (ls' := [some (.inr (.inl (some 303))), some (.inl 0)]) rfl (st' := []) rfl 17 rfl ?_
        refine nw_aload_n l_X12_done_0 1 rfl rfl ?_
        refine nw_iconst (len := 0) l_X12_done_1 2 rfl c_0 ?_
        refine nw_putI l_X12_done_2 5 rfl k_303 ?_
        refine nw_iload_n l_X12_done_5 6 rfl rfl ?_
        refine nw_ireturn l_X12_done_6 rfl ?_
        refine nw_goto l_X12_hoursLeft_17 ?_
        refine nw_ireturn l_X12_hoursLeft_25 rfl ?_
        exact h
      · replace h := h.2 q6
        refine nw_iconst (len := 0) l_X12_sails_12 13 rfl c_1 ?_
        refine nw_goto l_X12_sails_13 ?_
        refine nw_ireturnZ l_X12_sails_17 rfl (Or.inr rfl) ?_
        refine nw_if_eq l_X12_left_5 8 rfl (fun q => absurd q (by decide)) (fun _ => ?_)
        refine nw_aload_n l_X12_left_8 9 rfl rfl ?_
        refine nw_getA l_X12_left_9 12 rfl k_303 r_303_0 ?_
        refine nw_bipush (len := 0) l_X12_left_12 14 rfl c_62 ?_
        refine nw_iload_n l_X12_left_14 15 rfl rfl ?_
        refine nw_iadd l_X12_left_15 16 rfl o4 ?_
        refine nw_iald l_X12_left_16 17 rfl k_304 o5 (v := J 304 (62 + x1)) rfl ?_
        refine nw_aload_n l_X12_left_17 18 rfl rfl ?_
        refine nw_getA l_X12_left_18 21 rfl k_303 r_303_0 ?_
        refine nw_iconst (len := 0) l_X12_left_21 22 rfl c_0 ?_
        refine nw_iald l_X12_left_22 23 rfl k_304 ⟨by decide, by decide⟩ (v := J 304 0) rfl ?_
        have o7 := h.1
        replace h := h.2
        refine nw_isub l_X12_left_23 24 rfl o7 ?_
        refine nw_goto l_X12_left_24 ?_
        refine nw_ireturn l_X12_left_28 rfl ?_
        refine nw_call0 0 303 l_X12_hoursLeft_14 rfl rfl g_X12_done (Nat.lt_of_lt_of_le (by decide) hD) rfl (Or.inl ⟨_, rfl, k_303⟩) (ls' := [some (.inr (.inl (some 303))), some (.inl ((J 304 (62 + x1)) - (J 304 0)))]) rfl (st' := []) rfl 17 rfl ?_
        refine nw_aload_n l_X12_done_0 1 rfl rfl ?_
        refine nw_iconst (len := 0) l_X12_done_1 2 rfl c_0 ?_
        refine nw_putI l_X12_done_2 5 rfl k_303 ?_
        refine nw_iload_n l_X12_done_5 6 rfl rfl ?_
        refine nw_ireturn l_X12_done_6 rfl ?_
        refine nw_goto l_X12_hoursLeft_17 ?_
        refine nw_ireturn l_X12_hoursLeft_25 rfl ?_
        exact h
theorem b_X12_isAtSea_0 {x1 : Int} (hD : 2 ≤ D) (h : ((-2147483648 ≤ (J 304 3) - 1 ∧ (J 304 3) - 1 < 2147483648) ∧ ((x1 < 0 → Qr (some (.inl 0)) (nw_u J 303 13 1, L, W)) ∧ (0 ≤ x1 → (((J 304 3) - 1 < x1 → Qr (some (.inl 0)) (nw_u J 303 13 1, L, W)) ∧ (x1 ≤ (J 304 3) - 1 → ((-2147483648 ≤ 62 + x1 ∧ 62 + x1 < 2147483648) ∧ ((0 ≤ 62 + x1 ∧ 62 + x1 < 161) ∧ ((J 304 (62 + x1) ≤ 0 → Qr (some (.inl 0)) (nw_u J 303 13 0, L, W)) ∧ (0 < J 304 (62 + x1) → Qr (some (.inl 1)) (nw_u J 303 13 0, L, W))))))))))) :
    NW sc d_X12_isAtSea D (0, [some (.inr (.inl (some 303))), some (.inl x1)], [], (J, L, W), c, sl) Qr Qx := by
  refine nw_aload_n l_X12_isAtSea_0 1 rfl rfl ?_
  refine nw_aload_n l_X12_isAtSea_1 2 rfl rfl ?_
  refine nw_iload_n l_X12_isAtSea_2 3 rfl rfl ?_
  refine nw_call0 1 303 l_X12_isAtSea_3 rfl rfl g_X12_isFerry (Nat.lt_of_lt_of_le (by decide) hD) rfl (Or.inl ⟨_, rfl, k_303⟩) (ls' := [some (.inr (.inl (some 303))), some (.inl x1)]) rfl (st' := [.inr (.inl (some 303))]) rfl 6 rfl ?_
  refine nw_iload_n l_X12_isFerry_0 1 rfl rfl ?_
  refine nw_iconst (len := 0) l_X12_isFerry_1 2 rfl c_0 ?_
  refine nw_aload_n l_X12_isFerry_2 3 rfl rfl ?_
  refine nw_getA l_X12_isFerry_3 6 rfl k_303 r_303_0 ?_
  refine nw_iconst (len := 0) l_X12_isFerry_6 7 rfl c_3 ?_
  refine nw_iald l_X12_isFerry_7 8 rfl k_304 ⟨by decide, by decide⟩ (v := J 304 3) rfl ?_
  refine nw_iconst (len := 0) l_X12_isFerry_8 9 rfl c_1 ?_
  have o1 := h.1
  replace h := h.2
  refine nw_isub l_X12_isFerry_9 10 rfl o1 ?_
  refine nw_call0 0 0 l_X12_isFerry_10 rfl rfl g_X12_in (by decide) rfl True.intro (ls' := [some (.inl x1), some (.inl 0), some (.inl ((J 304 3) - 1))]) rfl (st' := []) rfl 13 rfl ?_
  refine nw_iload_n l_X12_in_0 1 rfl rfl ?_
  refine nw_iload_n l_X12_in_1 2 rfl rfl ?_
  refine nw_ic_lt l_X12_in_2 5 rfl (fun q2 => ?_) (fun q2 => ?_)
  · replace h := h.1 q2
    refine nw_iconst (len := 0) l_X12_in_14 15 rfl c_0 ?_
    refine nw_ireturnZ l_X12_in_15 rfl (Or.inl rfl) ?_
    refine nw_ireturnZ l_X12_isFerry_13 rfl (Or.inl rfl) ?_
    refine nw_if_eq l_X12_isAtSea_6 9 rfl (fun _ => ?_) (fun q => absurd q (by decide))
    refine nw_iconst (len := 0) l_X12_isAtSea_13 14 rfl c_1 ?_
    refine nw_putI l_X12_isAtSea_14 17 rfl k_303 ?_
    refine nw_aload_n l_X12_isAtSea_17 18 rfl rfl ?_
    refine nw_getI l_X12_isAtSea_18 21 rfl k_303 (v := 1) (show nw_u J 303 13 1 303 13 = 1 from nw_uS) ?_
    refine nw_if_ne l_X12_isAtSea_21 24 rfl (fun _ => ?_) (fun q => absurd q (by decide))
    refine nw_iconst (len := 0) l_X12_isAtSea_36 37 rfl c_0 ?_
    refine nw_ireturnZ l_X12_isAtSea_37 rfl (Or.inl rfl) ?_
    exact h
  · replace h := h.2 q2
    refine nw_iload_n l_X12_in_5 6 rfl rfl ?_
    refine nw_iload_n l_X12_in_6 7 rfl rfl ?_
    refine nw_ic_gt l_X12_in_7 10 rfl (fun q3 => ?_) (fun q3 => ?_)
    · replace h := h.1 q3
      refine nw_iconst (len := 0) l_X12_in_14 15 rfl c_0 ?_
      refine nw_ireturnZ l_X12_in_15 rfl (Or.inl rfl) ?_
      refine nw_ireturnZ l_X12_isFerry_13 rfl (Or.inl rfl) ?_
      refine nw_if_eq l_X12_isAtSea_6 9 rfl (fun _ => ?_) (fun q => absurd q (by decide))
      refine nw_iconst (len := 0) l_X12_isAtSea_13 14 rfl c_1 ?_
      refine nw_putI l_X12_isAtSea_14 17 rfl k_303 ?_
      refine nw_aload_n l_X12_isAtSea_17 18 rfl rfl ?_
      refine nw_getI l_X12_isAtSea_18 21 rfl k_303 (v := 1) (show nw_u J 303 13 1 303 13 = 1 from nw_uS) ?_
      refine nw_if_ne l_X12_isAtSea_21 24 rfl (fun _ => ?_) (fun q => absurd q (by decide))
      refine nw_iconst (len := 0) l_X12_isAtSea_36 37 rfl c_0 ?_
      refine nw_ireturnZ l_X12_isAtSea_37 rfl (Or.inl rfl) ?_
      exact h
    · replace h := h.2 q3
      refine nw_iconst (len := 0) l_X12_in_10 11 rfl c_1 ?_
      refine nw_goto l_X12_in_11 ?_
      refine nw_ireturnZ l_X12_in_15 rfl (Or.inr rfl) ?_
      refine nw_ireturnZ l_X12_isFerry_13 rfl (Or.inr rfl) ?_
      refine nw_if_eq l_X12_isAtSea_6 9 rfl (fun q => absurd q (by decide)) (fun _ => ?_)
      refine nw_iconst (len := 0) l_X12_isAtSea_9 10 rfl c_0 ?_
      refine nw_goto l_X12_isAtSea_10 ?_
      refine nw_putI l_X12_isAtSea_14 17 rfl k_303 ?_
      refine nw_aload_n l_X12_isAtSea_17 18 rfl rfl ?_
      refine nw_getI l_X12_isAtSea_18 21 rfl k_303 (v := 0) (show nw_u J 303 13 0 303 13 = 0 from nw_uS) ?_
      refine nw_if_ne l_X12_isAtSea_21 24 rfl (fun q => absurd q (by decide)) (fun _ => ?_)
      refine nw_aload_n l_X12_isAtSea_24 25 rfl rfl ?_
      refine nw_iload_n l_X12_isAtSea_25 26 rfl rfl ?_
      refine nw_call0 0 303 l_X12_isAtSea_26 rfl rfl g_X12_sails (Nat.lt_of_lt_of_le (by decide) hD) rfl (Or.inl ⟨_, rfl, k_303⟩) (ls' := [some (.inr (.inl (some 303))), some (.inl x1)]) rfl (st' := []) rfl 29 rfl ?_
      refine nw_aload_n l_X12_sails_0 1 rfl rfl ?_
      refine nw_getA l_X12_sails_1 4 rfl k_303 r_303_0 ?_
      refine nw_bipush (len := 0) l_X12_sails_4 6 rfl c_62 ?_
      refine nw_iload_n l_X12_sails_6 7 rfl rfl ?_
      have o4 := h.1
      replace h := h.2
      refine nw_iadd l_X12_sails_7 8 rfl o4 ?_
      have o5 := h.1
      replace h := h.2
      refine nw_iald l_X12_sails_8 9 rfl k_304 o5 (v := J 304 (62 + x1)) (show nw_u J 303 13 0 304 (62 + x1) = J 304 (62 + x1) from (nw_uN (a := 303) (b := 304) (by decide))) ?_
      refine nw_if_le l_X12_sails_9 12 rfl (fun q6 => ?_) (fun q6 => ?_)
      · replace h := h.1 q6
        refine nw_iconst (len := 0) l_X12_sails_16 17 rfl c_0 ?_
        refine nw_ireturnZ l_X12_sails_17 rfl (Or.inl rfl) ?_
        refine nw_if_eq l_X12_isAtSea_29 32 rfl (fun _ => ?_) (fun q => absurd q (by decide))
        refine nw_iconst (len := 0) l_X12_isAtSea_36 37 rfl c_0 ?_
        refine nw_ireturnZ l_X12_isAtSea_37 rfl (Or.inl rfl) ?_
        exact h
      · replace h := h.2 q6
        refine nw_iconst (len := 0) l_X12_sails_12 13 rfl c_1 ?_
        refine nw_goto l_X12_sails_13 ?_
        refine nw_ireturnZ l_X12_sails_17 rfl (Or.inr rfl) ?_
        refine nw_if_eq l_X12_isAtSea_29 32 rfl (fun q => absurd q (by decide)) (fun _ => ?_)
        refine nw_iconst (len := 0) l_X12_isAtSea_32 33 rfl c_1 ?_
        refine nw_goto l_X12_isAtSea_33 ?_
        refine nw_ireturnZ l_X12_isAtSea_37 rfl (Or.inr rfl) ?_
        exact h
theorem b_X12_isConsistent_0  (h : Qr (some (.inl 1)) (nw_u J 303 13 0, L, W)) :
    NW sc d_X12_isConsistent D (0, [some (.inr (.inl (some 303)))], [], (J, L, W), c, sl) Qr Qx := by
  refine nw_aload_n l_X12_isConsistent_0 1 rfl rfl ?_
  refine nw_iconst (len := 0) l_X12_isConsistent_1 2 rfl c_0 ?_
  refine nw_putI l_X12_isConsistent_2 5 rfl k_303 ?_
  refine nw_iconst (len := 0) l_X12_isConsistent_5 6 rfl c_1 ?_
  refine nw_ireturnZ l_X12_isConsistent_6 rfl (Or.inr rfl) ?_
  exact h
theorem b_X12_isOpen_0 {x1 : Int} {x2 : Int} {x3 : Int} (hD : 1 ≤ D) (h : ((-2147483648 ≤ 46 + x2 ∧ 46 + x2 < 2147483648) ∧ ((0 ≤ 46 + x2 ∧ 46 + x2 < 161) ∧ NW sc d_X12_tideAt 0 (0, [some (.inl x3)], [], (J, L, W), 0, 0) (fun v M9 => NW sc d_X12_isOpen D (13, [some (.inr (.inl (some 303))), some (.inl x1), none, none], nw_push v [.inl (J 304 (46 + x2))], M9, c, sl) Qr Qx) Qx))) :
    NW sc d_X12_isOpen D (0, [some (.inr (.inl (some 303))), some (.inl x1), some (.inl x2), some (.inl x3)], [], (J, L, W), c, sl) Qr Qx := by
  refine nw_aload_n l_X12_isOpen_0 1 rfl rfl ?_
  refine nw_getA l_X12_isOpen_1 4 rfl k_303 r_303_0 ?_
  refine nw_bipush (len := 0) l_X12_isOpen_4 6 rfl c_46 ?_
  refine nw_iload_n l_X12_isOpen_6 7 rfl rfl ?_
  have o1 := h.1
  replace h := h.2
  refine nw_iadd l_X12_isOpen_7 8 rfl o1 ?_
  have o2 := h.1
  replace h := h.2
  refine nw_iald l_X12_isOpen_8 9 rfl k_304 o2 (v := J 304 (46 + x2)) rfl ?_
  refine nw_iload_n l_X12_isOpen_9 10 rfl rfl ?_
  refine nw_drop (ls' := [some (.inr (.inl (some 303))), some (.inl x1), none, none]) ⟨rfl, ⟨rfl, ⟨True.intro, ⟨True.intro, True.intro⟩⟩⟩⟩ ?_
  refine nw_call0 0 0 l_X12_isOpen_10 rfl rfl g_X12_tideAt (Nat.lt_of_lt_of_le (by decide) hD) rfl True.intro (ls' := [some (.inl x3)]) rfl (st' := [.inl (J 304 (46 + x2))]) rfl 13 rfl ?_
  exact h
theorem b_X12_isOpen_13 {x1 : Int} {y0 : Int} {y1 : Int} (h : ((-2147483648 ≤ y1 + y0 ∧ y1 + y0 < 2147483648) ∧ ((-2147483648 ≤ 65 + x1 ∧ 65 + x1 < 2147483648) ∧ ((0 ≤ 65 + x1 ∧ 65 + x1 < 161) ∧ ((y1 + y0 < J 304 (65 + x1) → Qr (some (.inl 0)) (J, L, W)) ∧ (J 304 (65 + x1) ≤ y1 + y0 → Qr (some (.inl 1)) (J, L, W))))))) :
    NW sc d_X12_isOpen D (13, [some (.inr (.inl (some 303))), some (.inl x1), none, none], [.inl y0, .inl y1], (J, L, W), c, sl) Qr Qx := by
  have o1 := h.1
  replace h := h.2
  refine nw_iadd l_X12_isOpen_13 14 rfl o1 ?_
  refine nw_aload_n l_X12_isOpen_14 15 rfl rfl ?_
  refine nw_getA l_X12_isOpen_15 18 rfl k_303 r_303_0 ?_
  refine nw_bipush (len := 0) l_X12_isOpen_18 20 rfl c_65 ?_
  refine nw_iload_n l_X12_isOpen_20 21 rfl rfl ?_
  have o2 := h.1
  replace h := h.2
  refine nw_iadd l_X12_isOpen_21 22 rfl o2 ?_
  have o3 := h.1
  replace h := h.2
  refine nw_iald l_X12_isOpen_22 23 rfl k_304 o3 (v := J 304 (65 + x1)) rfl ?_
  refine nw_ic_lt l_X12_isOpen_23 26 rfl (fun q4 => ?_) (fun q4 => ?_)
  · replace h := h.1 q4
    refine nw_iconst (len := 0) l_X12_isOpen_30 31 rfl c_0 ?_
    refine nw_ireturnZ l_X12_isOpen_31 rfl (Or.inl rfl) ?_
    exact h
  · replace h := h.2 q4
    refine nw_iconst (len := 0) l_X12_isOpen_26 27 rfl c_1 ?_
    refine nw_goto l_X12_isOpen_27 ?_
    refine nw_ireturnZ l_X12_isOpen_31 rfl (Or.inr rfl) ?_
    exact h
end
