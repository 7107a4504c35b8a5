/-! the law's wrappers: blocks with more room, by program -/
section
variable {sc : Nat × (Nat → Int32)} {D : Nat} {J L : Nat → Int → Int} {W : nw_W} {c sl : Nat} {Qr : nw_QR} {Qx : nw_QX}
theorem b_L_addChannel2_0 {x1 : Int} {x2 : Int} {x3 : Int} {x4 : Int} (hD : 5 ≤ D) (hc : 4 ≤ c) (hs : 24 ≤ sl) (h : NW sc d_X11_addChannel 4 (0, [some (.inr (.inl (some 0))), some (.inl x1), some (.inl x2), some (.inl x3), some (.inl x4)], [], (J, L, W), 4, 24) (fun v M9 => NW sc d_L_addChannel D (12, [none, none, none, none, none, none, none], nw_push v [.inl 0, .inr (.inl (some 314))], M9, (c - 4), (sl - 24)) Qr Qx) (fun e M9 => nw_hx d_L_addChannel 9 e Qr Qx M9)) :
    NW sc d_L_addChannel D (0, [some (.inr (.inl (some 0))), some (.inl x1), some (.inl x2), some (.inl x3), some (.inl x4), some (.inr (.inl (some 314))), none], [], (J, L, W), c, sl) Qr Qx := by
  refine nw_aload l_L_addChannel_0 2 rfl rfl ?_
  refine nw_iconst (len := 0) l_L_addChannel_2 3 rfl c_0 ?_
  refine nw_aload_n l_L_addChannel_3 4 rfl rfl ?_
  refine nw_iload_n l_L_addChannel_4 5 rfl rfl ?_
  refine nw_iload_n l_L_addChannel_5 6 rfl rfl ?_
  refine nw_iload_n l_L_addChannel_6 7 rfl rfl ?_
  refine nw_iload l_L_addChannel_7 9 rfl rfl ?_
  refine nw_drop (ls' := [none, none, none, none, none, none, none]) ⟨True.intro, ⟨True.intro, ⟨True.intro, ⟨True.intro, ⟨True.intro, ⟨True.intro, ⟨True.intro, True.intro⟩⟩⟩⟩⟩⟩⟩ ?_
  refine nw_call 4 4 24 0 l_L_addChannel_9 rfl rfl g_X11_addChannel (Nat.lt_of_lt_of_le (by decide) hD) rfl (by omega) (by omega) (Or.inl ⟨_, rfl, k_0⟩) (ls' := [some (.inr (.inl (some 0))), some (.inl x1), some (.inl x2), some (.inl x3), some (.inl x4)]) rfl (st' := [.inl 0, .inr (.inl (some 314))]) rfl 12 rfl (c' := (c - 4)) (by omega) (sl' := (sl - 24)) (by omega) ?_
  exact h
theorem b_L_addChannel2_12 {y0 : Int} {y1 : Int} (h : ((0 ≤ y1 ∧ y1 < 1) ∧ Qr (some (.inl 0)) (J, nw_u L 314 y1 y0, W))) :
    NW sc d_L_addChannel D (12, [none, none, none, none, none, none, none], [.inl y0, .inl y1, .inr (.inl (some 314))], (J, L, W), c, sl) Qr Qx := by
  refine nw_i2l l_L_addChannel_12 13 rfl ?_
  have o1 := h.1
  replace h := h.2
  refine nw_last l_L_addChannel_13 14 rfl k_314 o1 ?_
  refine nw_goto l_L_addChannel_14 ?_
  refine nw_iconst (len := 0) l_L_addChannel_29 30 rfl c_0 ?_
  refine nw_ireturn l_L_addChannel_30 rfl ?_
  exact h
theorem b_L_addCrater2_0 {x1 : Int} (hD : 5 ≤ D) (hc : 4 ≤ c) (hs : 24 ≤ sl) (h : NW sc d_X11_addCrater 4 (0, [some (.inr (.inl (some 0))), some (.inl x1)], [], (J, L, W), 4, 24) (fun v M9 => NW sc d_L_addCrater D (7, [none, none, none, none], nw_push v [.inl 0, .inr (.inl (some 314))], M9, (c - 4), (sl - 24)) Qr Qx) (fun e M9 => nw_hx d_L_addCrater 4 e Qr Qx M9)) :
    NW sc d_L_addCrater D (0, [some (.inr (.inl (some 0))), some (.inl x1), some (.inr (.inl (some 314))), none], [], (J, L, W), c, sl) Qr Qx := by
  refine nw_aload_n l_L_addCrater_0 1 rfl rfl ?_
  refine nw_iconst (len := 0) l_L_addCrater_1 2 rfl c_0 ?_
  refine nw_aload_n l_L_addCrater_2 3 rfl rfl ?_
  refine nw_iload_n l_L_addCrater_3 4 rfl rfl ?_
  refine nw_drop (ls' := [none, none, none, none]) ⟨True.intro, ⟨True.intro, ⟨True.intro, ⟨True.intro, True.intro⟩⟩⟩⟩ ?_
  refine nw_call 4 4 24 0 l_L_addCrater_4 rfl rfl g_X11_addCrater (Nat.lt_of_lt_of_le (by decide) hD) rfl (by omega) (by omega) (Or.inl ⟨_, rfl, k_0⟩) (ls' := [some (.inr (.inl (some 0))), some (.inl x1)]) rfl (st' := [.inl 0, .inr (.inl (some 314))]) rfl 7 rfl (c' := (c - 4)) (by omega) (sl' := (sl - 24)) (by omega) ?_
  exact h
theorem b_L_addCrater2_7 {y0 : Int} {y1 : Int} (h : ((0 ≤ y1 ∧ y1 < 1) ∧ Qr (some (.inl 0)) (J, nw_u L 314 y1 y0, W))) :
    NW sc d_L_addCrater D (7, [none, none, none, none], [.inl y0, .inl y1, .inr (.inl (some 314))], (J, L, W), c, sl) Qr Qx := by
  refine nw_i2l l_L_addCrater_7 8 rfl ?_
  have o1 := h.1
  replace h := h.2
  refine nw_last l_L_addCrater_8 9 rfl k_314 o1 ?_
  refine nw_goto l_L_addCrater_9 ?_
  refine nw_iconst (len := 0) l_L_addCrater_18 19 rfl c_0 ?_
  refine nw_ireturn l_L_addCrater_19 rfl ?_
  exact h
theorem b_L_addFerry2_0 {x1 : Int} {x2 : Int} {x3 : Int} (hD : 5 ≤ D) (hc : 4 ≤ c) (hs : 24 ≤ sl) (h : NW sc d_X11_addFerry 4 (0, [some (.inr (.inl (some 0))), some (.inl x1), some (.inl x2), some (.inl x3)], [], (J, L, W), 4, 24) (fun v M9 => NW sc d_L_addFerry D (10, [none, none, none, none, none, none], nw_push v [.inl 0, .inr (.inl (some 314))], M9, (c - 4), (sl - 24)) Qr Qx) (fun e M9 => nw_hx d_L_addFerry 7 e Qr Qx M9)) :
    NW sc d_L_addFerry D (0, [some (.inr (.inl (some 0))), some (.inl x1), some (.inl x2), some (.inl x3), some (.inr (.inl (some 314))), none], [], (J, L, W), c, sl) Qr Qx := by
  refine nw_aload l_L_addFerry_0 2 rfl rfl ?_
  refine nw_iconst (len := 0) l_L_addFerry_2 3 rfl c_0 ?_
  refine nw_aload_n l_L_addFerry_3 4 rfl rfl ?_
  refine nw_iload_n l_L_addFerry_4 5 rfl rfl ?_
  refine nw_iload_n l_L_addFerry_5 6 rfl rfl ?_
  refine nw_iload_n l_L_addFerry_6 7 rfl rfl ?_
  refine nw_drop (ls' := [none, none, none, none, none, none]) ⟨True.intro, ⟨True.intro, ⟨True.intro, ⟨True.intro, ⟨True.intro, ⟨True.intro, True.intro⟩⟩⟩⟩⟩⟩ ?_
  refine nw_call 4 4 24 0 l_L_addFerry_7 rfl rfl g_X11_addFerry (Nat.lt_of_lt_of_le (by decide) hD) rfl (by omega) (by omega) (Or.inl ⟨_, rfl, k_0⟩) (ls' := [some (.inr (.inl (some 0))), some (.inl x1), some (.inl x2), some (.inl x3)]) rfl (st' := [.inl 0, .inr (.inl (some 314))]) rfl 10 rfl (c' := (c - 4)) (by omega) (sl' := (sl - 24)) (by omega) ?_
  exact h
theorem b_L_addFerry2_10 {y0 : Int} {y1 : Int} (h : ((0 ≤ y1 ∧ y1 < 1) ∧ Qr (some (.inl 0)) (J, nw_u L 314 y1 y0, W))) :
    NW sc d_L_addFerry D (10, [none, none, none, none, none, none], [.inl y0, .inl y1, .inr (.inl (some 314))], (J, L, W), c, sl) Qr Qx := by
  refine nw_i2l l_L_addFerry_10 11 rfl ?_
  have o1 := h.1
  replace h := h.2
  refine nw_last l_L_addFerry_11 12 rfl k_314 o1 ?_
  refine nw_goto l_L_addFerry_12 ?_
  refine nw_iconst (len := 0) l_L_addFerry_27 28 rfl c_0 ?_
  refine nw_ireturn l_L_addFerry_28 rfl ?_
  exact h
theorem b_L_addMoon2_0 {x1 : Int} {x2 : Int} {x3 : Int} {x4 : Int} (hD : 5 ≤ D) (hc : 4 ≤ c) (hs : 24 ≤ sl) (h : NW sc d_X11_addMoon 4 (0, [some (.inr (.inl (some 0))), some (.inl x1), some (.inl x2), some (.inl x3), some (.inl x4)], [], (J, L, W), 4, 24) (fun v M9 => NW sc d_L_addMoon D (12, [none, none, none, none, none, none, none], nw_push v [.inl 0, .inr (.inl (some 314))], M9, (c - 4), (sl - 24)) Qr Qx) (fun e M9 => nw_hx d_L_addMoon 9 e Qr Qx M9)) :
    NW sc d_L_addMoon D (0, [some (.inr (.inl (some 0))), some (.inl x1), some (.inl x2), some (.inl x3), some (.inl x4), some (.inr (.inl (some 314))), none], [], (J, L, W), c, sl) Qr Qx := by
  refine nw_aload l_L_addMoon_0 2 rfl rfl ?_
  refine nw_iconst (len := 0) l_L_addMoon_2 3 rfl c_0 ?_
  refine nw_aload_n l_L_addMoon_3 4 rfl rfl ?_
  refine nw_iload_n l_L_addMoon_4 5 rfl rfl ?_
  refine nw_iload_n l_L_addMoon_5 6 rfl rfl ?_
  refine nw_iload_n l_L_addMoon_6 7 rfl rfl ?_
  refine nw_iload l_L_addMoon_7 9 rfl rfl ?_
  refine nw_drop (ls' := [none, none, none, none, none, none, none]) ⟨True.intro, ⟨True.intro, ⟨True.intro, ⟨True.intro, ⟨True.intro, ⟨True.intro, ⟨True.intro, True.intro⟩⟩⟩⟩⟩⟩⟩ ?_
  refine nw_call 4 4 24 0 l_L_addMoon_9 rfl rfl g_X11_addMoon (Nat.lt_of_lt_of_le (by decide) hD) rfl (by omega) (by omega) (Or.inl ⟨_, rfl, k_0⟩) (ls' := [some (.inr (.inl (some 0))), some (.inl x1), some (.inl x2), some (.inl x3), some (.inl x4)]) rfl (st' := [.inl 0, .inr (.inl (some 314))]) rfl 12 rfl (c' := (c - 4)) (by omega) (sl' := (sl - 24)) (by omega) ?_
  exact h
theorem b_L_addMoon2_12 {y0 : Int} {y1 : Int} (h : ((0 ≤ y1 ∧ y1 < 1) ∧ Qr (some (.inl 0)) (J, nw_u L 314 y1 y0, W))) :
    NW sc d_L_addMoon D (12, [none, none, none, none, none, none, none], [.inl y0, .inl y1, .inr (.inl (some 314))], (J, L, W), c, sl) Qr Qx := by
  refine nw_i2l l_L_addMoon_12 13 rfl ?_
  have o1 := h.1
  replace h := h.2
  refine nw_last l_L_addMoon_13 14 rfl k_314 o1 ?_
  refine nw_goto l_L_addMoon_14 ?_
  refine nw_iconst (len := 0) l_L_addMoon_29 30 rfl c_0 ?_
  refine nw_ireturn l_L_addMoon_30 rfl ?_
  exact h
theorem b_L_append2_0 {x1 : Int} (hD : 2 ≤ D) (hc : 4 ≤ c) (hs : 24 ≤ sl) (h : NW sc d_X11_append 1 (0, [some (.inr (.inl (some 0))), some (.inl x1)], [], (J, L, W), 4, 24) (fun v M9 => NW sc d_L_append D (7, [none, none, none, none], nw_push v [.inl 0, .inr (.inl (some 314))], M9, (c - 4), (sl - 24)) Qr Qx) (fun e M9 => nw_hx d_L_append 4 e Qr Qx M9)) :
    NW sc d_L_append D (0, [some (.inr (.inl (some 0))), some (.inl x1), some (.inr (.inl (some 314))), none], [], (J, L, W), c, sl) Qr Qx := by
  refine nw_aload_n l_L_append_0 1 rfl rfl ?_
  refine nw_iconst (len := 0) l_L_append_1 2 rfl c_0 ?_
  refine nw_aload_n l_L_append_2 3 rfl rfl ?_
  refine nw_iload_n l_L_append_3 4 rfl rfl ?_
  refine nw_drop (ls' := [none, none, none, none]) ⟨True.intro, ⟨True.intro, ⟨True.intro, ⟨True.intro, True.intro⟩⟩⟩⟩ ?_
  refine nw_call 1 4 24 0 l_L_append_4 rfl rfl g_X11_append (Nat.lt_of_lt_of_le (by decide) hD) rfl (by omega) (by omega) (Or.inl ⟨_, rfl, k_0⟩) (ls' := [some (.inr (.inl (some 0))), some (.inl x1)]) rfl (st' := [.inl 0, .inr (.inl (some 314))]) rfl 7 rfl (c' := (c - 4)) (by omega) (sl' := (sl - 24)) (by omega) ?_
  exact h
theorem b_L_append2_7 {y0 : Int} {y1 : Int} (h : ((0 ≤ y1 ∧ y1 < 1) ∧ Qr (some (.inl 0)) (J, nw_u L 314 y1 y0, W))) :
    NW sc d_L_append D (7, [none, none, none, none], [.inl y0, .inl y1, .inr (.inl (some 314))], (J, L, W), c, sl) Qr Qx := by
  refine nw_i2l l_L_append_7 8 rfl ?_
  have o1 := h.1
  replace h := h.2
  refine nw_last l_L_append_8 9 rfl k_314 o1 ?_
  refine nw_goto l_L_append_9 ?_
  refine nw_iconst (len := 0) l_L_append_18 19 rfl c_0 ?_
  refine nw_ireturn l_L_append_19 rfl ?_
  exact h
theorem b_L_bestLoad2_0 {x1 : Int} (hD : 15 ≤ D) (hc : 4 ≤ c) (hs : 24 ≤ sl) (h : NW sc d_X11_bestLoad 14 (0, [some (.inr (.inl (some 0))), some (.inl x1)], [], (J, L, W), 4, 24) (fun v M9 => NW sc d_L_bestLoad D (7, [none, none, none, none], nw_push v [.inl 0, .inr (.inl (some 314))], M9, (c - 4), (sl - 24)) Qr Qx) (fun e M9 => nw_hx d_L_bestLoad 4 e Qr Qx M9)) :
    NW sc d_L_bestLoad D (0, [some (.inr (.inl (some 0))), some (.inl x1), some (.inr (.inl (some 314))), none], [], (J, L, W), c, sl) Qr Qx := by
  refine nw_aload_n l_L_bestLoad_0 1 rfl rfl ?_
  refine nw_iconst (len := 0) l_L_bestLoad_1 2 rfl c_0 ?_
  refine nw_aload_n l_L_bestLoad_2 3 rfl rfl ?_
  refine nw_iload_n l_L_bestLoad_3 4 rfl rfl ?_
  refine nw_drop (ls' := [none, none, none, none]) ⟨True.intro, ⟨True.intro, ⟨True.intro, ⟨True.intro, True.intro⟩⟩⟩⟩ ?_
  refine nw_call 14 4 24 0 l_L_bestLoad_4 rfl rfl g_X11_bestLoad (Nat.lt_of_lt_of_le (by decide) hD) rfl (by omega) (by omega) (Or.inl ⟨_, rfl, k_0⟩) (ls' := [some (.inr (.inl (some 0))), some (.inl x1)]) rfl (st' := [.inl 0, .inr (.inl (some 314))]) rfl 7 rfl (c' := (c - 4)) (by omega) (sl' := (sl - 24)) (by omega) ?_
  exact h
theorem b_L_bestLoad2_7 {y0 : Int} {y1 : Int} (h : ((0 ≤ y1 ∧ y1 < 1) ∧ Qr (some (.inl 0)) (J, nw_u L 314 y1 y0, W))) :
    NW sc d_L_bestLoad D (7, [none, none, none, none], [.inl y0, .inl y1, .inr (.inl (some 314))], (J, L, W), c, sl) Qr Qx := by
  refine nw_i2l l_L_bestLoad_7 8 rfl ?_
  have o1 := h.1
  replace h := h.2
  refine nw_last l_L_bestLoad_8 9 rfl k_314 o1 ?_
  refine nw_goto l_L_bestLoad_9 ?_
  refine nw_iconst (len := 0) l_L_bestLoad_18 19 rfl c_0 ?_
  refine nw_ireturn l_L_bestLoad_19 rfl ?_
  exact h
theorem b_L_bestLoadByTable2_0 {x1 : Int} (hD : 5 ≤ D) (hc : 4 ≤ c) (hs : 24 ≤ sl) (h : NW sc d_X11_bestLoadByTable 4 (0, [some (.inr (.inl (some 0))), some (.inl x1)], [], (J, L, W), 4, 24) (fun v M9 => NW sc d_L_bestLoadByTable D (7, [none, none, none, none], nw_push v [.inl 0, .inr (.inl (some 314))], M9, (c - 4), (sl - 24)) Qr Qx) (fun e M9 => nw_hx d_L_bestLoadByTable 4 e Qr Qx M9)) :
    NW sc d_L_bestLoadByTable D (0, [some (.inr (.inl (some 0))), some (.inl x1), some (.inr (.inl (some 314))), none], [], (J, L, W), c, sl) Qr Qx := by
  refine nw_aload_n l_L_bestLoadByTable_0 1 rfl rfl ?_
  refine nw_iconst (len := 0) l_L_bestLoadByTable_1 2 rfl c_0 ?_
  refine nw_aload_n l_L_bestLoadByTable_2 3 rfl rfl ?_
  refine nw_iload_n l_L_bestLoadByTable_3 4 rfl rfl ?_
  refine nw_drop (ls' := [none, none, none, none]) ⟨True.intro, ⟨True.intro, ⟨True.intro, ⟨True.intro, True.intro⟩⟩⟩⟩ ?_
  refine nw_call 4 4 24 0 l_L_bestLoadByTable_4 rfl rfl g_X11_bestLoadByTable (Nat.lt_of_lt_of_le (by decide) hD) rfl (by omega) (by omega) (Or.inl ⟨_, rfl, k_0⟩) (ls' := [some (.inr (.inl (some 0))), some (.inl x1)]) rfl (st' := [.inl 0, .inr (.inl (some 314))]) rfl 7 rfl (c' := (c - 4)) (by omega) (sl' := (sl - 24)) (by omega) ?_
  exact h
theorem b_L_bestLoadByTable2_7 {y0 : Int} {y1 : Int} (h : ((0 ≤ y1 ∧ y1 < 1) ∧ Qr (some (.inl 0)) (J, nw_u L 314 y1 y0, W))) :
    NW sc d_L_bestLoadByTable D (7, [none, none, none, none], [.inl y0, .inl y1, .inr (.inl (some 314))], (J, L, W), c, sl) Qr Qx := by
  refine nw_i2l l_L_bestLoadByTable_7 8 rfl ?_
  have o1 := h.1
  replace h := h.2
  refine nw_last l_L_bestLoadByTable_8 9 rfl k_314 o1 ?_
  refine nw_goto l_L_bestLoadByTable_9 ?_
  refine nw_iconst (len := 0) l_L_bestLoadByTable_18 19 rfl c_0 ?_
  refine nw_ireturn l_L_bestLoadByTable_19 rfl ?_
  exact h
theorem b_L_board2_0 {x1 : Int} {x2 : Int} (hD : 5 ≤ D) (hc : 4 ≤ c) (hs : 24 ≤ sl) (h : NW sc d_X11_board 4 (0, [some (.inr (.inl (some 0))), some (.inl x1), some (.inl x2)], [], (J, L, W), 4, 24) (fun v M9 => NW sc d_L_board D (8, [none, none, none, none, none], nw_push v [.inl 0, .inr (.inl (some 314))], M9, (c - 4), (sl - 24)) Qr Qx) (fun e M9 => nw_hx d_L_board 5 e Qr Qx M9)) :
    NW sc d_L_board D (0, [some (.inr (.inl (some 0))), some (.inl x1), some (.inl x2), some (.inr (.inl (some 314))), none], [], (J, L, W), c, sl) Qr Qx := by
  refine nw_aload_n l_L_board_0 1 rfl rfl ?_
  refine nw_iconst (len := 0) l_L_board_1 2 rfl c_0 ?_
  refine nw_aload_n l_L_board_2 3 rfl rfl ?_
  refine nw_iload_n l_L_board_3 4 rfl rfl ?_
  refine nw_iload_n l_L_board_4 5 rfl rfl ?_
  refine nw_drop (ls' := [none, none, none, none, none]) ⟨True.intro, ⟨True.intro, ⟨True.intro, ⟨True.intro, ⟨True.intro, True.intro⟩⟩⟩⟩⟩ ?_
  refine nw_call 4 4 24 0 l_L_board_5 rfl rfl g_X11_board (Nat.lt_of_lt_of_le (by decide) hD) rfl (by omega) (by omega) (Or.inl ⟨_, rfl, k_0⟩) (ls' := [some (.inr (.inl (some 0))), some (.inl x1), some (.inl x2)]) rfl (st' := [.inl 0, .inr (.inl (some 314))]) rfl 8 rfl (c' := (c - 4)) (by omega) (sl' := (sl - 24)) (by omega) ?_
  exact h
theorem b_L_board2_8 {y0 : Int} {y1 : Int} (h : ((0 ≤ y1 ∧ y1 < 1) ∧ Qr (some (.inl 0)) (J, nw_u L 314 y1 y0, W))) :
    NW sc d_L_board D (8, [none, none, none, none, none], [.inl y0, .inl y1, .inr (.inl (some 314))], (J, L, W), c, sl) Qr Qx := by
  refine nw_i2l l_L_board_8 9 rfl ?_
  have o1 := h.1
  replace h := h.2
  refine nw_last l_L_board_9 10 rfl k_314 o1 ?_
  refine nw_goto l_L_board_10 ?_
  refine nw_iconst (len := 0) l_L_board_29 30 rfl c_0 ?_
  refine nw_ireturn l_L_board_30 rfl ?_
  exact h
theorem b_L_channelBetween2_0 {x1 : Int} {x2 : Int} (hD : 3 ≤ D) (hc : 4 ≤ c) (hs : 24 ≤ sl) (h : NW sc d_X11_channelBetween 2 (0, [some (.inr (.inl (some 0))), some (.inl x1), some (.inl x2)], [], (J, L, W), 4, 24) (fun v M9 => NW sc d_L_channelBetween D (8, [none, none, none, none, none], nw_push v [.inl 0, .inr (.inl (some 314))], M9, (c - 4), (sl - 24)) Qr Qx) (fun e M9 => nw_hx d_L_channelBetween 5 e Qr Qx M9)) :
    NW sc d_L_channelBetween D (0, [some (.inr (.inl (some 0))), some (.inl x1), some (.inl x2), some (.inr (.inl (some 314))), none], [], (J, L, W), c, sl) Qr Qx := by
  refine nw_aload_n l_L_channelBetween_0 1 rfl rfl ?_
  refine nw_iconst (len := 0) l_L_channelBetween_1 2 rfl c_0 ?_
  refine nw_aload_n l_L_channelBetween_2 3 rfl rfl ?_
  refine nw_iload_n l_L_channelBetween_3 4 rfl rfl ?_
  refine nw_iload_n l_L_channelBetween_4 5 rfl rfl ?_
  refine nw_drop (ls' := [none, none, none, none, none]) ⟨True.intro, ⟨True.intro, ⟨True.intro, ⟨True.intro, ⟨True.intro, True.intro⟩⟩⟩⟩⟩ ?_
  refine nw_call 2 4 24 0 l_L_channelBetween_5 rfl rfl g_X11_channelBetween (Nat.lt_of_lt_of_le (by decide) hD) rfl (by omega) (by omega) (Or.inl ⟨_, rfl, k_0⟩) (ls' := [some (.inr (.inl (some 0))), some (.inl x1), some (.inl x2)]) rfl (st' := [.inl 0, .inr (.inl (some 314))]) rfl 8 rfl (c' := (c - 4)) (by omega) (sl' := (sl - 24)) (by omega) ?_
  exact h
theorem b_L_channelBetween2_8 {y0 : Int} {y1 : Int} (h : ((0 ≤ y1 ∧ y1 < 1) ∧ Qr (some (.inl 0)) (J, nw_u L 314 y1 y0, W))) :
    NW sc d_L_channelBetween D (8, [none, none, none, none, none], [.inl y0, .inl y1, .inr (.inl (some 314))], (J, L, W), c, sl) Qr Qx := by
  refine nw_i2l l_L_channelBetween_8 9 rfl ?_
  have o1 := h.1
  replace h := h.2
  refine nw_last l_L_channelBetween_9 10 rfl k_314 o1 ?_
  refine nw_goto l_L_channelBetween_10 ?_
  refine nw_iconst (len := 0) l_L_channelBetween_21 22 rfl c_0 ?_
  refine nw_ireturn l_L_channelBetween_22 rfl ?_
  exact h
theorem b_L_cheapestNet2_0  (hD : 3 ≤ D) (hc : 4 ≤ c) (hs : 24 ≤ sl) (h : NW sc d_X11_cheapestNet 2 (0, [some (.inr (.inl (some 0)))], [], (J, L, W), 4, 24) (fun v M9 => NW sc d_L_cheapestNet D (6, [none, none, none], nw_push v [.inl 0, .inr (.inl (some 314))], M9, (c - 4), (sl - 24)) Qr Qx) (fun e M9 => nw_hx d_L_cheapestNet 3 e Qr Qx M9)) :
    NW sc d_L_cheapestNet D (0, [some (.inr (.inl (some 0))), some (.inr (.inl (some 314))), none], [], (J, L, W), c, sl) Qr Qx := by
  refine nw_aload_n l_L_cheapestNet_0 1 rfl rfl ?_
  refine nw_iconst (len := 0) l_L_cheapestNet_1 2 rfl c_0 ?_
  refine nw_aload_n l_L_cheapestNet_2 3 rfl rfl ?_
  refine nw_drop (ls' := [none, none, none]) ⟨True.intro, ⟨True.intro, ⟨True.intro, True.intro⟩⟩⟩ ?_
  refine nw_call 2 4 24 0 l_L_cheapestNet_3 rfl rfl g_X11_cheapestNet (Nat.lt_of_lt_of_le (by decide) hD) rfl (by omega) (by omega) (Or.inl ⟨_, rfl, k_0⟩) (ls' := [some (.inr (.inl (some 0)))]) rfl (st' := [.inl 0, .inr (.inl (some 314))]) rfl 6 rfl (c' := (c - 4)) (by omega) (sl' := (sl - 24)) (by omega) ?_
  exact h
theorem b_L_cheapestNet2_6 {y0 : Int} {y1 : Int} (h : ((0 ≤ y1 ∧ y1 < 1) ∧ Qr (some (.inl 0)) (J, nw_u L 314 y1 y0, W))) :
    NW sc d_L_cheapestNet D (6, [none, none, none], [.inl y0, .inl y1, .inr (.inl (some 314))], (J, L, W), c, sl) Qr Qx := by
  refine nw_i2l l_L_cheapestNet_6 7 rfl ?_
  have o1 := h.1
  replace h := h.2
  refine nw_last l_L_cheapestNet_7 8 rfl k_314 o1 ?_
  refine nw_goto l_L_cheapestNet_8 ?_
  refine nw_iconst (len := 0) l_L_cheapestNet_14 15 rfl c_0 ?_
  refine nw_ireturn l_L_cheapestNet_15 rfl ?_
  exact h
theorem b_L_cheapestNetByGrowing2_0  (hD : 3 ≤ D) (hc : 4 ≤ c) (hs : 24 ≤ sl) (h : NW sc d_X11_cheapestNetByGrowing 2 (0, [some (.inr (.inl (some 0)))], [], (J, L, W), 4, 24) (fun v M9 => NW sc d_L_cheapestNetByGrowing D (6, [none, none, none], nw_push v [.inl 0, .inr (.inl (some 314))], M9, (c - 4), (sl - 24)) Qr Qx) (fun e M9 => nw_hx d_L_cheapestNetByGrowing 3 e Qr Qx M9)) :
    NW sc d_L_cheapestNetByGrowing D (0, [some (.inr (.inl (some 0))), some (.inr (.inl (some 314))), none], [], (J, L, W), c, sl) Qr Qx := by
  refine nw_aload_n l_L_cheapestNetByGrowing_0 1 rfl rfl ?_
  refine nw_iconst (len := 0) l_L_cheapestNetByGrowing_1 2 rfl c_0 ?_
  refine nw_aload_n l_L_cheapestNetByGrowing_2 3 rfl rfl ?_
  refine nw_drop (ls' := [none, none, none]) ⟨True.intro, ⟨True.intro, ⟨True.intro, True.intro⟩⟩⟩ ?_
  refine nw_call 2 4 24 0 l_L_cheapestNetByGrowing_3 rfl rfl g_X11_cheapestNetByGrowing (Nat.lt_of_lt_of_le (by decide) hD) rfl (by omega) (by omega) (Or.inl ⟨_, rfl, k_0⟩) (ls' := [some (.inr (.inl (some 0)))]) rfl (st' := [.inl 0, .inr (.inl (some 314))]) rfl 6 rfl (c' := (c - 4)) (by omega) (sl' := (sl - 24)) (by omega) ?_
  exact h
theorem b_L_cheapestNetByGrowing2_6 {y0 : Int} {y1 : Int} (h : ((0 ≤ y1 ∧ y1 < 1) ∧ Qr (some (.inl 0)) (J, nw_u L 314 y1 y0, W))) :
    NW sc d_L_cheapestNetByGrowing D (6, [none, none, none], [.inl y0, .inl y1, .inr (.inl (some 314))], (J, L, W), c, sl) Qr Qx := by
  refine nw_i2l l_L_cheapestNetByGrowing_6 7 rfl ?_
  have o1 := h.1
  replace h := h.2
  refine nw_last l_L_cheapestNetByGrowing_7 8 rfl k_314 o1 ?_
  refine nw_goto l_L_cheapestNetByGrowing_8 ?_
  refine nw_iconst (len := 0) l_L_cheapestNetByGrowing_14 15 rfl c_0 ?_
  refine nw_ireturn l_L_cheapestNetByGrowing_15 rfl ?_
  exact h
theorem b_L_craterOf2_0 {x1 : Int} (hD : 3 ≤ D) (hc : 4 ≤ c) (hs : 24 ≤ sl) (h : NW sc d_X11_craterOf 2 (0, [some (.inr (.inl (some 0))), some (.inl x1)], [], (J, L, W), 4, 24) (fun v M9 => NW sc d_L_craterOf D (7, [none, none, none, none], nw_push v [.inl 0, .inr (.inl (some 314))], M9, (c - 4), (sl - 24)) Qr Qx) (fun e M9 => nw_hx d_L_craterOf 4 e Qr Qx M9)) :
    NW sc d_L_craterOf D (0, [some (.inr (.inl (some 0))), some (.inl x1), some (.inr (.inl (some 314))), none], [], (J, L, W), c, sl) Qr Qx := by
  refine nw_aload_n l_L_craterOf_0 1 rfl rfl ?_
  refine nw_iconst (len := 0) l_L_craterOf_1 2 rfl c_0 ?_
  refine nw_aload_n l_L_craterOf_2 3 rfl rfl ?_
  refine nw_iload_n l_L_craterOf_3 4 rfl rfl ?_
  refine nw_drop (ls' := [none, none, none, none]) ⟨True.intro, ⟨True.intro, ⟨True.intro, ⟨True.intro, True.intro⟩⟩⟩⟩ ?_
  refine nw_call 2 4 24 0 l_L_craterOf_4 rfl rfl g_X11_craterOf (Nat.lt_of_lt_of_le (by decide) hD) rfl (by omega) (by omega) (Or.inl ⟨_, rfl, k_0⟩) (ls' := [some (.inr (.inl (some 0))), some (.inl x1)]) rfl (st' := [.inl 0, .inr (.inl (some 314))]) rfl 7 rfl (c' := (c - 4)) (by omega) (sl' := (sl - 24)) (by omega) ?_
  exact h
theorem b_L_craterOf2_7 {y0 : Int} {y1 : Int} (h : ((0 ≤ y1 ∧ y1 < 1) ∧ Qr (some (.inl 0)) (J, nw_u L 314 y1 y0, W))) :
    NW sc d_L_craterOf D (7, [none, none, none, none], [.inl y0, .inl y1, .inr (.inl (some 314))], (J, L, W), c, sl) Qr Qx := by
  refine nw_i2l l_L_craterOf_7 8 rfl ?_
  have o1 := h.1
  replace h := h.2
  refine nw_last l_L_craterOf_8 9 rfl k_314 o1 ?_
  refine nw_goto l_L_craterOf_9 ?_
  refine nw_iconst (len := 0) l_L_craterOf_18 19 rfl c_0 ?_
  refine nw_ireturn l_L_craterOf_19 rfl ?_
  exact h
theorem b_L_depthOf2_0 {x1 : Int} (hD : 3 ≤ D) (hc : 4 ≤ c) (hs : 24 ≤ sl) (h : NW sc d_X11_depthOf 2 (0, [some (.inr (.inl (some 0))), some (.inl x1)], [], (J, L, W), 4, 24) (fun v M9 => NW sc d_L_depthOf D (7, [none, none, none, none], nw_push v [.inl 0, .inr (.inl (some 314))], M9, (c - 4), (sl - 24)) Qr Qx) (fun e M9 => nw_hx d_L_depthOf 4 e Qr Qx M9)) :
    NW sc d_L_depthOf D (0, [some (.inr (.inl (some 0))), some (.inl x1), some (.inr (.inl (some 314))), none], [], (J, L, W), c, sl) Qr Qx := by
  refine nw_aload_n l_L_depthOf_0 1 rfl rfl ?_
  refine nw_iconst (len := 0) l_L_depthOf_1 2 rfl c_0 ?_
  refine nw_aload_n l_L_depthOf_2 3 rfl rfl ?_
  refine nw_iload_n l_L_depthOf_3 4 rfl rfl ?_
  refine nw_drop (ls' := [none, none, none, none]) ⟨True.intro, ⟨True.intro, ⟨True.intro, ⟨True.intro, True.intro⟩⟩⟩⟩ ?_
  refine nw_call 2 4 24 0 l_L_depthOf_4 rfl rfl g_X11_depthOf (Nat.lt_of_lt_of_le (by decide) hD) rfl (by omega) (by omega) (Or.inl ⟨_, rfl, k_0⟩) (ls' := [some (.inr (.inl (some 0))), some (.inl x1)]) rfl (st' := [.inl 0, .inr (.inl (some 314))]) rfl 7 rfl (c' := (c - 4)) (by omega) (sl' := (sl - 24)) (by omega) ?_
  exact h
theorem b_L_depthOf2_7 {y0 : Int} {y1 : Int} (h : ((0 ≤ y1 ∧ y1 < 1) ∧ Qr (some (.inl 0)) (J, nw_u L 314 y1 y0, W))) :
    NW sc d_L_depthOf D (7, [none, none, none, none], [.inl y0, .inl y1, .inr (.inl (some 314))], (J, L, W), c, sl) Qr Qx := by
  refine nw_i2l l_L_depthOf_7 8 rfl ?_
  have o1 := h.1
  replace h := h.2
  refine nw_last l_L_depthOf_8 9 rfl k_314 o1 ?_
  refine nw_goto l_L_depthOf_9 ?_
  refine nw_iconst (len := 0) l_L_depthOf_15 16 rfl c_0 ?_
  refine nw_ireturn l_L_depthOf_16 rfl ?_
  exact h
theorem b_L_earliestArrival2_0 {x1 : Int} {x2 : Int} (hD : 6 ≤ D) (hc : 4 ≤ c) (hs : 24 ≤ sl) (h : NW sc d_X11_earliestArrival 5 (0, [some (.inr (.inl (some 0))), some (.inl x1), some (.inl x2)], [], (J, L, W), 4, 24) (fun v M9 => NW sc d_L_earliestArrival D (8, [none, none, none, none, none], nw_push v [.inl 0, .inr (.inl (some 314))], M9, (c - 4), (sl - 24)) Qr Qx) (fun e M9 => nw_hx d_L_earliestArrival 5 e Qr Qx M9)) :
    NW sc d_L_earliestArrival D (0, [some (.inr (.inl (some 0))), some (.inl x1), some (.inl x2), some (.inr (.inl (some 314))), none], [], (J, L, W), c, sl) Qr Qx := by
  refine nw_aload_n l_L_earliestArrival_0 1 rfl rfl ?_
  refine nw_iconst (len := 0) l_L_earliestArrival_1 2 rfl c_0 ?_
  refine nw_aload_n l_L_earliestArrival_2 3 rfl rfl ?_
  refine nw_iload_n l_L_earliestArrival_3 4 rfl rfl ?_
  refine nw_iload_n l_L_earliestArrival_4 5 rfl rfl ?_
  refine nw_drop (ls' := [none, none, none, none, none]) ⟨True.intro, ⟨True.intro, ⟨True.intro, ⟨True.intro, ⟨True.intro, True.intro⟩⟩⟩⟩⟩ ?_
  refine nw_call 5 4 24 0 l_L_earliestArrival_5 rfl rfl g_X11_earliestArrival (Nat.lt_of_lt_of_le (by decide) hD) rfl (by omega) (by omega) (Or.inl ⟨_, rfl, k_0⟩) (ls' := [some (.inr (.inl (some 0))), some (.inl x1), some (.inl x2)]) rfl (st' := [.inl 0, .inr (.inl (some 314))]) rfl 8 rfl (c' := (c - 4)) (by omega) (sl' := (sl - 24)) (by omega) ?_
  exact h
theorem b_L_earliestArrival2_8 {y0 : Int} {y1 : Int} (h : ((0 ≤ y1 ∧ y1 < 1) ∧ Qr (some (.inl 0)) (J, nw_u L 314 y1 y0, W))) :
    NW sc d_L_earliestArrival D (8, [none, none, none, none, none], [.inl y0, .inl y1, .inr (.inl (some 314))], (J, L, W), c, sl) Qr Qx := by
  refine nw_i2l l_L_earliestArrival_8 9 rfl ?_
  have o1 := h.1
  replace h := h.2
  refine nw_last l_L_earliestArrival_9 10 rfl k_314 o1 ?_
  refine nw_goto l_L_earliestArrival_10 ?_
  refine nw_iconst (len := 0) l_L_earliestArrival_21 22 rfl c_0 ?_
  refine nw_ireturn l_L_earliestArrival_22 rfl ?_
  exact h
theorem b_L_earliestArrivalByHours2_0 {x1 : Int} {x2 : Int} (hD : 5 ≤ D) (hc : 4 ≤ c) (hs : 24 ≤ sl) (h : NW sc d_X11_earliestArrivalByHours 4 (0, [some (.inr (.inl (some 0))), some (.inl x1), some (.inl x2)], [], (J, L, W), 4, 24) (fun v M9 => NW sc d_L_earliestArrivalByHours D (8, [none, none, none, none, none], nw_push v [.inl 0, .inr (.inl (some 314))], M9, (c - 4), (sl - 24)) Qr Qx) (fun e M9 => nw_hx d_L_earliestArrivalByHours 5 e Qr Qx M9)) :
    NW sc d_L_earliestArrivalByHours D (0, [some (.inr (.inl (some 0))), some (.inl x1), some (.inl x2), some (.inr (.inl (some 314))), none], [], (J, L, W), c, sl) Qr Qx := by
  refine nw_aload_n l_L_earliestArrivalByHours_0 1 rfl rfl ?_
  refine nw_iconst (len := 0) l_L_earliestArrivalByHours_1 2 rfl c_0 ?_
  refine nw_aload_n l_L_earliestArrivalByHours_2 3 rfl rfl ?_
  refine nw_iload_n l_L_earliestArrivalByHours_3 4 rfl rfl ?_
  refine nw_iload_n l_L_earliestArrivalByHours_4 5 rfl rfl ?_
  refine nw_drop (ls' := [none, none, none, none, none]) ⟨True.intro, ⟨True.intro, ⟨True.intro, ⟨True.intro, ⟨True.intro, True.intro⟩⟩⟩⟩⟩ ?_
  refine nw_call 4 4 24 0 l_L_earliestArrivalByHours_5 rfl rfl g_X11_earliestArrivalByHours (Nat.lt_of_lt_of_le (by decide) hD) rfl (by omega) (by omega) (Or.inl ⟨_, rfl, k_0⟩) (ls' := [some (.inr (.inl (some 0))), some (.inl x1), some (.inl x2)]) rfl (st' := [.inl 0, .inr (.inl (some 314))]) rfl 8 rfl (c' := (c - 4)) (by omega) (sl' := (sl - 24)) (by omega) ?_
  exact h
theorem b_L_earliestArrivalByHours2_8 {y0 : Int} {y1 : Int} (h : ((0 ≤ y1 ∧ y1 < 1) ∧ Qr (some (.inl 0)) (J, nw_u L 314 y1 y0, W))) :
    NW sc d_L_earliestArrivalByHours D (8, [none, none, none, none, none], [.inl y0, .inl y1, .inr (.inl (some 314))], (J, L, W), c, sl) Qr Qx := by
  refine nw_i2l l_L_earliestArrivalByHours_8 9 rfl ?_
  have o1 := h.1
  replace h := h.2
  refine nw_last l_L_earliestArrivalByHours_9 10 rfl k_314 o1 ?_
  refine nw_goto l_L_earliestArrivalByHours_10 ?_
  refine nw_iconst (len := 0) l_L_earliestArrivalByHours_21 22 rfl c_0 ?_
  refine nw_ireturn l_L_earliestArrivalByHours_22 rfl ?_
  exact h
theorem b_L_errorPosition2_0  (hD : 2 ≤ D) (hc : 4 ≤ c) (hs : 24 ≤ sl) (h : NW sc d_X11_errorPosition 1 (0, [some (.inr (.inl (some 0)))], [], (J, L, W), 4, 24) (fun v M9 => NW sc d_L_errorPosition D (6, [none, none, none], nw_push v [.inl 0, .inr (.inl (some 314))], M9, (c - 4), (sl - 24)) Qr Qx) (fun e M9 => nw_hx d_L_errorPosition 3 e Qr Qx M9)) :
    NW sc d_L_errorPosition D (0, [some (.inr (.inl (some 0))), some (.inr (.inl (some 314))), none], [], (J, L, W), c, sl) Qr Qx := by
  refine nw_aload_n l_L_errorPosition_0 1 rfl rfl ?_
  refine nw_iconst (len := 0) l_L_errorPosition_1 2 rfl c_0 ?_
  refine nw_aload_n l_L_errorPosition_2 3 rfl rfl ?_
  refine nw_drop (ls' := [none, none, none]) ⟨True.intro, ⟨True.intro, ⟨True.intro, True.intro⟩⟩⟩ ?_
  refine nw_call 1 4 24 0 l_L_errorPosition_3 rfl rfl g_X11_errorPosition (Nat.lt_of_lt_of_le (by decide) hD) rfl (by omega) (by omega) (Or.inl ⟨_, rfl, k_0⟩) (ls' := [some (.inr (.inl (some 0)))]) rfl (st' := [.inl 0, .inr (.inl (some 314))]) rfl 6 rfl (c' := (c - 4)) (by omega) (sl' := (sl - 24)) (by omega) ?_
  exact h
theorem b_L_errorPosition2_6 {y0 : Int} {y1 : Int} (h : ((0 ≤ y1 ∧ y1 < 1) ∧ Qr (some (.inl 0)) (J, nw_u L 314 y1 y0, W))) :
    NW sc d_L_errorPosition D (6, [none, none, none], [.inl y0, .inl y1, .inr (.inl (some 314))], (J, L, W), c, sl) Qr Qx := by
  refine nw_i2l l_L_errorPosition_6 7 rfl ?_
  have o1 := h.1
  replace h := h.2
  refine nw_last l_L_errorPosition_7 8 rfl k_314 o1 ?_
  refine nw_goto l_L_errorPosition_8 ?_
  refine nw_iconst (len := 0) l_L_errorPosition_14 15 rfl c_0 ?_
  refine nw_ireturn l_L_errorPosition_15 rfl ?_
  exact h
theorem b_L_failedCommand2_0  (hD : 2 ≤ D) (hc : 4 ≤ c) (hs : 24 ≤ sl) (h : NW sc d_X11_failedCommand 1 (0, [some (.inr (.inl (some 0)))], [], (J, L, W), 4, 24) (fun v M9 => NW sc d_L_failedCommand D (6, [none, none, none], nw_push v [.inl 0, .inr (.inl (some 314))], M9, (c - 4), (sl - 24)) Qr Qx) (fun e M9 => nw_hx d_L_failedCommand 3 e Qr Qx M9)) :
    NW sc d_L_failedCommand D (0, [some (.inr (.inl (some 0))), some (.inr (.inl (some 314))), none], [], (J, L, W), c, sl) Qr Qx := by
  refine nw_aload_n l_L_failedCommand_0 1 rfl rfl ?_
  refine nw_iconst (len := 0) l_L_failedCommand_1 2 rfl c_0 ?_
  refine nw_aload_n l_L_failedCommand_2 3 rfl rfl ?_
  refine nw_drop (ls' := [none, none, none]) ⟨True.intro, ⟨True.intro, ⟨True.intro, True.intro⟩⟩⟩ ?_
  refine nw_call 1 4 24 0 l_L_failedCommand_3 rfl rfl g_X11_failedCommand (Nat.lt_of_lt_of_le (by decide) hD) rfl (by omega) (by omega) (Or.inl ⟨_, rfl, k_0⟩) (ls' := [some (.inr (.inl (some 0)))]) rfl (st' := [.inl 0, .inr (.inl (some 314))]) rfl 6 rfl (c' := (c - 4)) (by omega) (sl' := (sl - 24)) (by omega) ?_
  exact h
theorem b_L_failedCommand2_6 {y0 : Int} {y1 : Int} (h : ((0 ≤ y1 ∧ y1 < 1) ∧ Qr (some (.inl 0)) (J, nw_u L 314 y1 y0, W))) :
    NW sc d_L_failedCommand D (6, [none, none, none], [.inl y0, .inl y1, .inr (.inl (some 314))], (J, L, W), c, sl) Qr Qx := by
  refine nw_i2l l_L_failedCommand_6 7 rfl ?_
  have o1 := h.1
  replace h := h.2
  refine nw_last l_L_failedCommand_7 8 rfl k_314 o1 ?_
  refine nw_goto l_L_failedCommand_8 ?_
  refine nw_iconst (len := 0) l_L_failedCommand_14 15 rfl c_0 ?_
  refine nw_ireturn l_L_failedCommand_15 rfl ?_
  exact h
theorem b_L_fareOf2_0 {x1 : Int} (hD : 4 ≤ D) (hc : 4 ≤ c) (hs : 24 ≤ sl) (h : NW sc d_X11_fareOf 3 (0, [some (.inr (.inl (some 0))), some (.inl x1)], [], (J, L, W), 4, 24) (fun v M9 => NW sc d_L_fareOf D (7, [none, none, none, none], nw_push v [.inl 0, .inr (.inl (some 314))], M9, (c - 4), (sl - 24)) Qr Qx) (fun e M9 => nw_hx d_L_fareOf 4 e Qr Qx M9)) :
    NW sc d_L_fareOf D (0, [some (.inr (.inl (some 0))), some (.inl x1), some (.inr (.inl (some 314))), none], [], (J, L, W), c, sl) Qr Qx := by
  refine nw_aload_n l_L_fareOf_0 1 rfl rfl ?_
  refine nw_iconst (len := 0) l_L_fareOf_1 2 rfl c_0 ?_
  refine nw_aload_n l_L_fareOf_2 3 rfl rfl ?_
  refine nw_iload_n l_L_fareOf_3 4 rfl rfl ?_
  refine nw_drop (ls' := [none, none, none, none]) ⟨True.intro, ⟨True.intro, ⟨True.intro, ⟨True.intro, True.intro⟩⟩⟩⟩ ?_
  refine nw_call 3 4 24 0 l_L_fareOf_4 rfl rfl g_X11_fareOf (Nat.lt_of_lt_of_le (by decide) hD) rfl (by omega) (by omega) (Or.inl ⟨_, rfl, k_0⟩) (ls' := [some (.inr (.inl (some 0))), some (.inl x1)]) rfl (st' := [.inl 0, .inr (.inl (some 314))]) rfl 7 rfl (c' := (c - 4)) (by omega) (sl' := (sl - 24)) (by omega) ?_
  exact h
theorem b_L_fareOf2_7 {y0 : Int} {y1 : Int} (h : ((0 ≤ y1 ∧ y1 < 1) ∧ Qr (some (.inl 0)) (J, nw_u L 314 y1 y0, W))) :
    NW sc d_L_fareOf D (7, [none, none, none, none], [.inl y0, .inl y1, .inr (.inl (some 314))], (J, L, W), c, sl) Qr Qx := by
  refine nw_i2l l_L_fareOf_7 8 rfl ?_
  have o1 := h.1
  replace h := h.2
  refine nw_last l_L_fareOf_8 9 rfl k_314 o1 ?_
  refine nw_goto l_L_fareOf_9 ?_
  refine nw_iconst (len := 0) l_L_fareOf_15 16 rfl c_0 ?_
  refine nw_ireturn l_L_fareOf_16 rfl ?_
  exact h
theorem b_L_ferryOf2_0 {x1 : Int} (hD : 3 ≤ D) (hc : 4 ≤ c) (hs : 24 ≤ sl) (h : NW sc d_X11_ferryOf 2 (0, [some (.inr (.inl (some 0))), some (.inl x1), none], [], (J, L, W), 4, 24) (fun v M9 => NW sc d_L_ferryOf D (7, [none, none, none, none], nw_push v [.inl 0, .inr (.inl (some 314))], M9, (c - 4), (sl - 24)) Qr Qx) (fun e M9 => nw_hx d_L_ferryOf 4 e Qr Qx M9)) :
    NW sc d_L_ferryOf D (0, [some (.inr (.inl (some 0))), some (.inl x1), some (.inr (.inl (some 314))), none], [], (J, L, W), c, sl) Qr Qx := by
  refine nw_aload_n l_L_ferryOf_0 1 rfl rfl ?_
  refine nw_iconst (len := 0) l_L_ferryOf_1 2 rfl c_0 ?_
  refine nw_aload_n l_L_ferryOf_2 3 rfl rfl ?_
  refine nw_iload_n l_L_ferryOf_3 4 rfl rfl ?_
  refine nw_drop (ls' := [none, none, none, none]) ⟨True.intro, ⟨True.intro, ⟨True.intro, ⟨True.intro, True.intro⟩⟩⟩⟩ ?_
  refine nw_call 2 4 24 0 l_L_ferryOf_4 rfl rfl g_X11_ferryOf (Nat.lt_of_lt_of_le (by decide) hD) rfl (by omega) (by omega) (Or.inl ⟨_, rfl, k_0⟩) (ls' := [some (.inr (.inl (some 0))), some (.inl x1), none]) rfl (st' := [.inl 0, .inr (.inl (some 314))]) rfl 7 rfl (c' := (c - 4)) (by omega) (sl' := (sl - 24)) (by omega) ?_
  exact h
theorem b_L_ferryOf2_7 {y0 : Int} {y1 : Int} (h : ((0 ≤ y1 ∧ y1 < 1) ∧ Qr (some (.inl 0)) (J, nw_u L 314 y1 y0, W))) :
    NW sc d_L_ferryOf D (7, [none, none, none, none], [.inl y0, .inl y1, .inr (.inl (some 314))], (J, L, W), c, sl) Qr Qx := by
  refine nw_i2l l_L_ferryOf_7 8 rfl ?_
  have o1 := h.1
  replace h := h.2
  refine nw_last l_L_ferryOf_8 9 rfl k_314 o1 ?_
  refine nw_goto l_L_ferryOf_9 ?_
  refine nw_iconst (len := 0) l_L_ferryOf_18 19 rfl c_0 ?_
  refine nw_ireturn l_L_ferryOf_19 rfl ?_
  exact h
theorem b_L_hoursLeft2_0 {x1 : Int} (hD : 3 ≤ D) (hc : 4 ≤ c) (hs : 24 ≤ sl) (h : NW sc d_X11_hoursLeft 2 (0, [some (.inr (.inl (some 0))), some (.inl x1)], [], (J, L, W), 4, 24) (fun v M9 => NW sc d_L_hoursLeft D (7, [none, none, none, none], nw_push v [.inl 0, .inr (.inl (some 314))], M9, (c - 4), (sl - 24)) Qr Qx) (fun e M9 => nw_hx d_L_hoursLeft 4 e Qr Qx M9)) :
    NW sc d_L_hoursLeft D (0, [some (.inr (.inl (some 0))), some (.inl x1), some (.inr (.inl (some 314))), none], [], (J, L, W), c, sl) Qr Qx := by
  refine nw_aload_n l_L_hoursLeft_0 1 rfl rfl ?_
  refine nw_iconst (len := 0) l_L_hoursLeft_1 2 rfl c_0 ?_
  refine nw_aload_n l_L_hoursLeft_2 3 rfl rfl ?_
  refine nw_iload_n l_L_hoursLeft_3 4 rfl rfl ?_
  refine nw_drop (ls' := [none, none, none, none]) ⟨True.intro, ⟨True.intro, ⟨True.intro, ⟨True.intro, True.intro⟩⟩⟩⟩ ?_
  refine nw_call 2 4 24 0 l_L_hoursLeft_4 rfl rfl g_X11_hoursLeft (Nat.lt_of_lt_of_le (by decide) hD) rfl (by omega) (by omega) (Or.inl ⟨_, rfl, k_0⟩) (ls' := [some (.inr (.inl (some 0))), some (.inl x1)]) rfl (st' := [.inl 0, .inr (.inl (some 314))]) rfl 7 rfl (c' := (c - 4)) (by omega) (sl' := (sl - 24)) (by omega) ?_
  exact h
theorem b_L_hoursLeft2_7 {y0 : Int} {y1 : Int} (h : ((0 ≤ y1 ∧ y1 < 1) ∧ Qr (some (.inl 0)) (J, nw_u L 314 y1 y0, W))) :
    NW sc d_L_hoursLeft D (7, [none, none, none, none], [.inl y0, .inl y1, .inr (.inl (some 314))], (J, L, W), c, sl) Qr Qx := by
  refine nw_i2l l_L_hoursLeft_7 8 rfl ?_
  have o1 := h.1
  replace h := h.2
  refine nw_last l_L_hoursLeft_8 9 rfl k_314 o1 ?_
  refine nw_goto l_L_hoursLeft_9 ?_
  refine nw_iconst (len := 0) l_L_hoursLeft_15 16 rfl c_0 ?_
  refine nw_ireturn l_L_hoursLeft_16 rfl ?_
  exact h
theorem b_L_isAtSea2_0 {x1 : Int} (hD : 3 ≤ D) (hc : 4 ≤ c) (hs : 24 ≤ sl) (h : NW sc d_X11_isAtSea 2 (0, [some (.inr (.inl (some 0))), some (.inl x1)], [], (J, L, W), 4, 24) (fun v M9 => NW sc d_L_isAtSea D (7, [none, none, none, none], nw_push v [.inl 0, .inr (.inl (some 314))], M9, (c - 4), (sl - 24)) Qr Qx) (fun e M9 => nw_hx d_L_isAtSea 4 e Qr Qx M9)) :
    NW sc d_L_isAtSea D (0, [some (.inr (.inl (some 0))), some (.inl x1), some (.inr (.inl (some 314))), none], [], (J, L, W), c, sl) Qr Qx := by
  refine nw_aload_n l_L_isAtSea_0 1 rfl rfl ?_
  refine nw_iconst (len := 0) l_L_isAtSea_1 2 rfl c_0 ?_
  refine nw_aload_n l_L_isAtSea_2 3 rfl rfl ?_
  refine nw_iload_n l_L_isAtSea_3 4 rfl rfl ?_
  refine nw_drop (ls' := [none, none, none, none]) ⟨True.intro, ⟨True.intro, ⟨True.intro, ⟨True.intro, True.intro⟩⟩⟩⟩ ?_
  refine nw_call 2 4 24 0 l_L_isAtSea_4 rfl rfl g_X11_isAtSea (Nat.lt_of_lt_of_le (by decide) hD) rfl (by omega) (by omega) (Or.inl ⟨_, rfl, k_0⟩) (ls' := [some (.inr (.inl (some 0))), some (.inl x1)]) rfl (st' := [.inl 0, .inr (.inl (some 314))]) rfl 7 rfl (c' := (c - 4)) (by omega) (sl' := (sl - 24)) (by omega) ?_
  exact h
theorem b_L_isAtSea2_7 {y0 : Int} {y1 : Int} (h : ((y0 = 0 → ((0 ≤ y1 ∧ y1 < 1) ∧ Qr (some (.inl 0)) (J, nw_u L 314 y1 0, W))) ∧ (¬ y0 = 0 → ((0 ≤ y1 ∧ y1 < 1) ∧ Qr (some (.inl 0)) (J, nw_u L 314 y1 1, W))))) :
    NW sc d_L_isAtSea D (7, [none, none, none, none], [.inl y0, .inl y1, .inr (.inl (some 314))], (J, L, W), c, sl) Qr Qx := by
  refine nw_if_eq l_L_isAtSea_7 10 rfl (fun q1 => ?_) (fun q1 => ?_)
  · replace h := h.1 q1
    refine nw_lconst l_L_isAtSea_14 15 rfl (v := 0) ⟨by decide, by decide, by decide⟩ ?_
    have o2 := h.1
    replace h := h.2
    refine nw_last l_L_isAtSea_15 16 rfl k_314 o2 ?_
    refine nw_goto l_L_isAtSea_16 ?_
    refine nw_iconst (len := 0) l_L_isAtSea_22 23 rfl c_0 ?_
    refine nw_ireturn l_L_isAtSea_23 rfl ?_
    exact h
  · replace h := h.2 q1
    refine nw_lconst l_L_isAtSea_10 11 rfl (v := 1) ⟨by decide, by decide, by decide⟩ ?_
    refine nw_goto l_L_isAtSea_11 ?_
    have o3 := h.1
    replace h := h.2
    refine nw_last l_L_isAtSea_15 16 rfl k_314 o3 ?_
    refine nw_goto l_L_isAtSea_16 ?_
    refine nw_iconst (len := 0) l_L_isAtSea_22 23 rfl c_0 ?_
    refine nw_ireturn l_L_isAtSea_23 rfl ?_
    exact h
theorem b_L_isStranded2_0 {x1 : Int} (hD : 4 ≤ D) (hc : 4 ≤ c) (hs : 24 ≤ sl) (h : NW sc d_X11_isStranded 3 (0, [some (.inr (.inl (some 0))), some (.inl x1)], [], (J, L, W), 4, 24) (fun v M9 => NW sc d_L_isStranded D (7, [none, none, none, none], nw_push v [.inl 0, .inr (.inl (some 314))], M9, (c - 4), (sl - 24)) Qr Qx) (fun e M9 => nw_hx d_L_isStranded 4 e Qr Qx M9)) :
    NW sc d_L_isStranded D (0, [some (.inr (.inl (some 0))), some (.inl x1), some (.inr (.inl (some 314))), none], [], (J, L, W), c, sl) Qr Qx := by
  refine nw_aload_n l_L_isStranded_0 1 rfl rfl ?_
  refine nw_iconst (len := 0) l_L_isStranded_1 2 rfl c_0 ?_
  refine nw_aload_n l_L_isStranded_2 3 rfl rfl ?_
  refine nw_iload_n l_L_isStranded_3 4 rfl rfl ?_
  refine nw_drop (ls' := [none, none, none, none]) ⟨True.intro, ⟨True.intro, ⟨True.intro, ⟨True.intro, True.intro⟩⟩⟩⟩ ?_
  refine nw_call 3 4 24 0 l_L_isStranded_4 rfl rfl g_X11_isStranded (Nat.lt_of_lt_of_le (by decide) hD) rfl (by omega) (by omega) (Or.inl ⟨_, rfl, k_0⟩) (ls' := [some (.inr (.inl (some 0))), some (.inl x1)]) rfl (st' := [.inl 0, .inr (.inl (some 314))]) rfl 7 rfl (c' := (c - 4)) (by omega) (sl' := (sl - 24)) (by omega) ?_
  exact h
theorem b_L_isStranded2_7 {y0 : Int} {y1 : Int} (h : ((y0 = 0 → ((0 ≤ y1 ∧ y1 < 1) ∧ Qr (some (.inl 0)) (J, nw_u L 314 y1 0, W))) ∧ (¬ y0 = 0 → ((0 ≤ y1 ∧ y1 < 1) ∧ Qr (some (.inl 0)) (J, nw_u L 314 y1 1, W))))) :
    NW sc d_L_isStranded D (7, [none, none, none, none], [.inl y0, .inl y1, .inr (.inl (some 314))], (J, L, W), c, sl) Qr Qx := by
  refine nw_if_eq l_L_isStranded_7 10 rfl (fun q1 => ?_) (fun q1 => ?_)
  · replace h := h.1 q1
    refine nw_lconst l_L_isStranded_14 15 rfl (v := 0) ⟨by decide, by decide, by decide⟩ ?_
    have o2 := h.1
    replace h := h.2
    refine nw_last l_L_isStranded_15 16 rfl k_314 o2 ?_
    refine nw_goto l_L_isStranded_16 ?_
    refine nw_iconst (len := 0) l_L_isStranded_22 23 rfl c_0 ?_
    refine nw_ireturn l_L_isStranded_23 rfl ?_
    exact h
  · replace h := h.2 q1
    refine nw_lconst l_L_isStranded_10 11 rfl (v := 1) ⟨by decide, by decide, by decide⟩ ?_
    refine nw_goto l_L_isStranded_11 ?_
    have o3 := h.1
    replace h := h.2
    refine nw_last l_L_isStranded_15 16 rfl k_314 o3 ?_
    refine nw_goto l_L_isStranded_16 ?_
    refine nw_iconst (len := 0) l_L_isStranded_22 23 rfl c_0 ?_
    refine nw_ireturn l_L_isStranded_23 rfl ?_
    exact h
theorem b_L_land2_0 {x1 : Int} (hD : 5 ≤ D) (hc : 4 ≤ c) (hs : 24 ≤ sl) (h : NW sc d_X11_land 4 (0, [some (.inr (.inl (some 0))), some (.inl x1)], [], (J, L, W), 4, 24) (fun v M9 => NW sc d_L_land D (7, [none, none, none, none], nw_push v [.inl 0, .inr (.inl (some 314))], M9, (c - 4), (sl - 24)) Qr Qx) (fun e M9 => nw_hx d_L_land 4 e Qr Qx M9)) :
    NW sc d_L_land D (0, [some (.inr (.inl (some 0))), some (.inl x1), some (.inr (.inl (some 314))), none], [], (J, L, W), c, sl) Qr Qx := by
  refine nw_aload_n l_L_land_0 1 rfl rfl ?_
  refine nw_iconst (len := 0) l_L_land_1 2 rfl c_0 ?_
  refine nw_aload_n l_L_land_2 3 rfl rfl ?_
  refine nw_iload_n l_L_land_3 4 rfl rfl ?_
  refine nw_drop (ls' := [none, none, none, none]) ⟨True.intro, ⟨True.intro, ⟨True.intro, ⟨True.intro, True.intro⟩⟩⟩⟩ ?_
  refine nw_call 4 4 24 0 l_L_land_4 rfl rfl g_X11_land (Nat.lt_of_lt_of_le (by decide) hD) rfl (by omega) (by omega) (Or.inl ⟨_, rfl, k_0⟩) (ls' := [some (.inr (.inl (some 0))), some (.inl x1)]) rfl (st' := [.inl 0, .inr (.inl (some 314))]) rfl 7 rfl (c' := (c - 4)) (by omega) (sl' := (sl - 24)) (by omega) ?_
  exact h
theorem b_L_land2_7 {y0 : Int} {y1 : Int} (h : ((0 ≤ y1 ∧ y1 < 1) ∧ Qr (some (.inl 0)) (J, nw_u L 314 y1 y0, W))) :
    NW sc d_L_land D (7, [none, none, none, none], [.inl y0, .inl y1, .inr (.inl (some 314))], (J, L, W), c, sl) Qr Qx := by
  refine nw_i2l l_L_land_7 8 rfl ?_
  have o1 := h.1
  replace h := h.2
  refine nw_last l_L_land_8 9 rfl k_314 o1 ?_
  refine nw_goto l_L_land_9 ?_
  refine nw_iconst (len := 0) l_L_land_21 22 rfl c_0 ?_
  refine nw_ireturn l_L_land_22 rfl ?_
  exact h
theorem b_L_lineAt2_0 {x1 : Int} (hD : 14 ≤ D) (hc : 4 ≤ c) (hs : 24 ≤ sl) (h : NW sc d_X11_lineAt 13 (0, [some (.inr (.inl (some 0))), some (.inl x1)], [], (J, L, W), 4, 24) (fun v M9 => NW sc d_L_lineAt D (7, [none, none, none, none], nw_push v [.inl 0, .inr (.inl (some 314))], M9, (c - 4), (sl - 24)) Qr Qx) (fun e M9 => nw_hx d_L_lineAt 4 e Qr Qx M9)) :
    NW sc d_L_lineAt D (0, [some (.inr (.inl (some 0))), some (.inl x1), some (.inr (.inl (some 314))), none], [], (J, L, W), c, sl) Qr Qx := by
  refine nw_aload_n l_L_lineAt_0 1 rfl rfl ?_
  refine nw_iconst (len := 0) l_L_lineAt_1 2 rfl c_0 ?_
  refine nw_aload_n l_L_lineAt_2 3 rfl rfl ?_
  refine nw_iload_n l_L_lineAt_3 4 rfl rfl ?_
  refine nw_drop (ls' := [none, none, none, none]) ⟨True.intro, ⟨True.intro, ⟨True.intro, ⟨True.intro, True.intro⟩⟩⟩⟩ ?_
  refine nw_call 13 4 24 0 l_L_lineAt_4 rfl rfl g_X11_lineAt (Nat.lt_of_lt_of_le (by decide) hD) rfl (by omega) (by omega) (Or.inl ⟨_, rfl, k_0⟩) (ls' := [some (.inr (.inl (some 0))), some (.inl x1)]) rfl (st' := [.inl 0, .inr (.inl (some 314))]) rfl 7 rfl (c' := (c - 4)) (by omega) (sl' := (sl - 24)) (by omega) ?_
  exact h
theorem b_L_lineAt2_7 {y0 : Int} {y1 : Int} (h : ((0 ≤ y1 ∧ y1 < 1) ∧ Qr (some (.inl 0)) (J, nw_u L 314 y1 y0, W))) :
    NW sc d_L_lineAt D (7, [none, none, none, none], [.inl y0, .inl y1, .inr (.inl (some 314))], (J, L, W), c, sl) Qr Qx := by
  refine nw_i2l l_L_lineAt_7 8 rfl ?_
  have o1 := h.1
  replace h := h.2
  refine nw_last l_L_lineAt_8 9 rfl k_314 o1 ?_
  refine nw_goto l_L_lineAt_9 ?_
  refine nw_iconst (len := 0) l_L_lineAt_15 16 rfl c_0 ?_
  refine nw_ireturn l_L_lineAt_16 rfl ?_
  exact h
theorem b_L_loadBest2_0 {x1 : Int} (hD : 16 ≤ D) (hc : 4 ≤ c) (hs : 24 ≤ sl) (h : NW sc d_X11_loadBest 15 (0, [some (.inr (.inl (some 0))), some (.inl x1)], [], (J, L, W), 4, 24) (fun v M9 => NW sc d_L_loadBest D (7, [none, none, none, none], nw_push v [.inl 0, .inr (.inl (some 314))], M9, (c - 4), (sl - 24)) Qr Qx) (fun e M9 => nw_hx d_L_loadBest 4 e Qr Qx M9)) :
    NW sc d_L_loadBest D (0, [some (.inr (.inl (some 0))), some (.inl x1), some (.inr (.inl (some 314))), none], [], (J, L, W), c, sl) Qr Qx := by
  refine nw_aload_n l_L_loadBest_0 1 rfl rfl ?_
  refine nw_iconst (len := 0) l_L_loadBest_1 2 rfl c_0 ?_
  refine nw_aload_n l_L_loadBest_2 3 rfl rfl ?_
  refine nw_iload_n l_L_loadBest_3 4 rfl rfl ?_
  refine nw_drop (ls' := [none, none, none, none]) ⟨True.intro, ⟨True.intro, ⟨True.intro, ⟨True.intro, True.intro⟩⟩⟩⟩ ?_
  refine nw_call 15 4 24 0 l_L_loadBest_4 rfl rfl g_X11_loadBest (Nat.lt_of_lt_of_le (by decide) hD) rfl (by omega) (by omega) (Or.inl ⟨_, rfl, k_0⟩) (ls' := [some (.inr (.inl (some 0))), some (.inl x1)]) rfl (st' := [.inl 0, .inr (.inl (some 314))]) rfl 7 rfl (c' := (c - 4)) (by omega) (sl' := (sl - 24)) (by omega) ?_
  exact h
theorem b_L_loadBest2_7 {y0 : Int} {y1 : Int} (h : ((0 ≤ y1 ∧ y1 < 1) ∧ Qr (some (.inl 0)) (J, nw_u L 314 y1 y0, W))) :
    NW sc d_L_loadBest D (7, [none, none, none, none], [.inl y0, .inl y1, .inr (.inl (some 314))], (J, L, W), c, sl) Qr Qx := by
  refine nw_i2l l_L_loadBest_7 8 rfl ?_
  have o1 := h.1
  replace h := h.2
  refine nw_last l_L_loadBest_8 9 rfl k_314 o1 ?_
  refine nw_goto l_L_loadBest_9 ?_
  refine nw_iconst (len := 0) l_L_loadBest_18 19 rfl c_0 ?_
  refine nw_ireturn l_L_loadBest_19 rfl ?_
  exact h
theorem b_L_loadOf2_0 {x1 : Int} (hD : 3 ≤ D) (hc : 4 ≤ c) (hs : 24 ≤ sl) (h : NW sc d_X11_loadOf 2 (0, [some (.inr (.inl (some 0))), some (.inl x1)], [], (J, L, W), 4, 24) (fun v M9 => NW sc d_L_loadOf D (7, [none, none, none, none], nw_push v [.inl 0, .inr (.inl (some 314))], M9, (c - 4), (sl - 24)) Qr Qx) (fun e M9 => nw_hx d_L_loadOf 4 e Qr Qx M9)) :
    NW sc d_L_loadOf D (0, [some (.inr (.inl (some 0))), some (.inl x1), some (.inr (.inl (some 314))), none], [], (J, L, W), c, sl) Qr Qx := by
  refine nw_aload_n l_L_loadOf_0 1 rfl rfl ?_
  refine nw_iconst (len := 0) l_L_loadOf_1 2 rfl c_0 ?_
  refine nw_aload_n l_L_loadOf_2 3 rfl rfl ?_
  refine nw_iload_n l_L_loadOf_3 4 rfl rfl ?_
  refine nw_drop (ls' := [none, none, none, none]) ⟨True.intro, ⟨True.intro, ⟨True.intro, ⟨True.intro, True.intro⟩⟩⟩⟩ ?_
  refine nw_call 2 4 24 0 l_L_loadOf_4 rfl rfl g_X11_loadOf (Nat.lt_of_lt_of_le (by decide) hD) rfl (by omega) (by omega) (Or.inl ⟨_, rfl, k_0⟩) (ls' := [some (.inr (.inl (some 0))), some (.inl x1)]) rfl (st' := [.inl 0, .inr (.inl (some 314))]) rfl 7 rfl (c' := (c - 4)) (by omega) (sl' := (sl - 24)) (by omega) ?_
  exact h
theorem b_L_loadOf2_7 {y0 : Int} {y1 : Int} (h : ((0 ≤ y1 ∧ y1 < 1) ∧ Qr (some (.inl 0)) (J, nw_u L 314 y1 y0, W))) :
    NW sc d_L_loadOf D (7, [none, none, none, none], [.inl y0, .inl y1, .inr (.inl (some 314))], (J, L, W), c, sl) Qr Qx := by
  refine nw_i2l l_L_loadOf_7 8 rfl ?_
  have o1 := h.1
  replace h := h.2
  refine nw_last l_L_loadOf_8 9 rfl k_314 o1 ?_
  refine nw_goto l_L_loadOf_9 ?_
  refine nw_iconst (len := 0) l_L_loadOf_15 16 rfl c_0 ?_
  refine nw_ireturn l_L_loadOf_16 rfl ?_
  exact h
theorem b_L_loadShare2_0 {x1 : Int} (hD : 3 ≤ D) (hc : 4 ≤ c) (hs : 24 ≤ sl) (h : NW sc d_X11_loadShare 2 (0, [some (.inr (.inl (some 0))), some (.inl x1)], [], (J, L, W), 4, 24) (fun v M9 => NW sc d_L_loadShare D (7, [none, none, none, none], nw_push v [.inl 0, .inr (.inl (some 315))], M9, (c - 4), (sl - 24)) Qr Qx) (fun e M9 => nw_hx d_L_loadShare 4 e Qr Qx M9)) :
    NW sc d_L_loadShare D (0, [some (.inr (.inl (some 0))), some (.inl x1), some (.inr (.inl (some 315))), none], [], (J, L, W), c, sl) Qr Qx := by
  refine nw_aload_n l_L_loadShare_0 1 rfl rfl ?_
  refine nw_iconst (len := 0) l_L_loadShare_1 2 rfl c_0 ?_
  refine nw_aload_n l_L_loadShare_2 3 rfl rfl ?_
  refine nw_iload_n l_L_loadShare_3 4 rfl rfl ?_
  refine nw_drop (ls' := [none, none, none, none]) ⟨True.intro, ⟨True.intro, ⟨True.intro, ⟨True.intro, True.intro⟩⟩⟩⟩ ?_
  refine nw_call 2 4 24 0 l_L_loadShare_4 rfl rfl g_X11_loadShare (Nat.lt_of_lt_of_le (by decide) hD) rfl (by omega) (by omega) (Or.inl ⟨_, rfl, k_0⟩) (ls' := [some (.inr (.inl (some 0))), some (.inl x1)]) rfl (st' := [.inl 0, .inr (.inl (some 315))]) rfl 7 rfl (c' := (c - 4)) (by omega) (sl' := (sl - 24)) (by omega) ?_
  exact h
theorem b_L_loadShare2_7 {y0 : UInt32} {y1 : Int} (h : ((vf_n64 (FP.f2d y0)) ∧ ((0 ≤ y1 ∧ y1 < 1) ∧ Qr (some (.inl 0)) (J, L, (nw_u (W.1) 315 y1 (FP.f2d y0), W.2))))) :
    NW sc d_L_loadShare D (7, [none, none, none, none], [.inr (.inr (.inr (.inr y0))), .inl y1, .inr (.inl (some 315))], (J, L, W), c, sl) Qr Qx := by
  have o1 := h.1
  replace h := h.2
  refine nw_f2d l_L_loadShare_7 8 rfl o1 ?_
  have o2 := h.1
  replace h := h.2
  refine nw_dast l_L_loadShare_8 9 rfl k_315 o2 ?_
  refine nw_goto l_L_loadShare_9 ?_
  refine nw_iconst (len := 0) l_L_loadShare_15 16 rfl c_0 ?_
  refine nw_ireturn l_L_loadShare_16 rfl ?_
  exact h
theorem b_L_meanPhase2_0  (hD : 2 ≤ D) (hc : 4 ≤ c) (hs : 24 ≤ sl) (h : NW sc d_X11_meanPhase 1 (0, [some (.inr (.inl (some 0)))], [], (J, L, W), 4, 24) (fun v M9 => NW sc d_L_meanPhase D (6, [none, none, none], nw_push v [.inl 0, .inr (.inl (some 315))], M9, (c - 4), (sl - 24)) Qr Qx) (fun e M9 => nw_hx d_L_meanPhase 3 e Qr Qx M9)) :
    NW sc d_L_meanPhase D (0, [some (.inr (.inl (some 0))), some (.inr (.inl (some 315))), none], [], (J, L, W), c, sl) Qr Qx := by
  refine nw_aload_n l_L_meanPhase_0 1 rfl rfl ?_
  refine nw_iconst (len := 0) l_L_meanPhase_1 2 rfl c_0 ?_
  refine nw_aload_n l_L_meanPhase_2 3 rfl rfl ?_
  refine nw_drop (ls' := [none, none, none]) ⟨True.intro, ⟨True.intro, ⟨True.intro, True.intro⟩⟩⟩ ?_
  refine nw_call 1 4 24 0 l_L_meanPhase_3 rfl rfl g_X11_meanPhase (Nat.lt_of_lt_of_le (by decide) hD) rfl (by omega) (by omega) (Or.inl ⟨_, rfl, k_0⟩) (ls' := [some (.inr (.inl (some 0)))]) rfl (st' := [.inl 0, .inr (.inl (some 315))]) rfl 6 rfl (c' := (c - 4)) (by omega) (sl' := (sl - 24)) (by omega) ?_
  exact h
theorem b_L_meanPhase2_6 {y0 : UInt64} {y1 : Int} (h : ((0 ≤ y1 ∧ y1 < 1) ∧ Qr (some (.inl 0)) (J, L, (nw_u (W.1) 315 y1 y0, W.2)))) :
    NW sc d_L_meanPhase D (6, [none, none, none], [.inr (.inr (.inr (.inl y0))), .inl y1, .inr (.inl (some 315))], (J, L, W), c, sl) Qr Qx := by
  have o1 := h.1
  replace h := h.2
  refine nw_dast l_L_meanPhase_6 7 rfl k_315 o1 ?_
  refine nw_goto l_L_meanPhase_7 ?_
  refine nw_iconst (len := 0) l_L_meanPhase_13 14 rfl c_0 ?_
  refine nw_ireturn l_L_meanPhase_14 rfl ?_
  exact h
theorem b_L_moonAt2_0 {x1 : Int} (hD : 1 ≤ D) (hc : 4 ≤ c) (hs : 24 ≤ sl) (h : NW sc d_X11_moonAt 0 (0, [some (.inr (.inl (some 0))), some (.inl x1)], [], (J, L, W), 4, 24) (fun v M9 => NW sc d_L_moonAt D (7, [none, none, none, none], nw_push v [.inl 0, .inr (.inl (some 314))], M9, (c - 4), (sl - 24)) Qr Qx) (fun e M9 => nw_hx d_L_moonAt 4 e Qr Qx M9)) :
    NW sc d_L_moonAt D (0, [some (.inr (.inl (some 0))), some (.inl x1), some (.inr (.inl (some 314))), none], [], (J, L, W), c, sl) Qr Qx := by
  refine nw_aload_n l_L_moonAt_0 1 rfl rfl ?_
  refine nw_iconst (len := 0) l_L_moonAt_1 2 rfl c_0 ?_
  refine nw_aload_n l_L_moonAt_2 3 rfl rfl ?_
  refine nw_iload_n l_L_moonAt_3 4 rfl rfl ?_
  refine nw_drop (ls' := [none, none, none, none]) ⟨True.intro, ⟨True.intro, ⟨True.intro, ⟨True.intro, True.intro⟩⟩⟩⟩ ?_
  refine nw_call 0 4 24 0 l_L_moonAt_4 rfl rfl g_X11_moonAt (Nat.lt_of_lt_of_le (by decide) hD) rfl (by omega) (by omega) (Or.inl ⟨_, rfl, k_0⟩) (ls' := [some (.inr (.inl (some 0))), some (.inl x1)]) rfl (st' := [.inl 0, .inr (.inl (some 314))]) rfl 7 rfl (c' := (c - 4)) (by omega) (sl' := (sl - 24)) (by omega) ?_
  exact h
theorem b_L_moonAt2_7 {y0 : Int} {y1 : Int} (h : ((0 ≤ y1 ∧ y1 < 1) ∧ Qr (some (.inl 0)) (J, nw_u L 314 y1 y0, W))) :
    NW sc d_L_moonAt D (7, [none, none, none, none], [.inl y0, .inl y1, .inr (.inl (some 314))], (J, L, W), c, sl) Qr Qx := by
  refine nw_i2l l_L_moonAt_7 8 rfl ?_
  have o1 := h.1
  replace h := h.2
  refine nw_last l_L_moonAt_8 9 rfl k_314 o1 ?_
  refine nw_goto l_L_moonAt_9 ?_
  refine nw_iconst (len := 0) l_L_moonAt_15 16 rfl c_0 ?_
  refine nw_ireturn l_L_moonAt_16 rfl ?_
  exact h
theorem b_L_moonAtRank2_0 {x1 : Int} (hD : 5 ≤ D) (hc : 4 ≤ c) (hs : 24 ≤ sl) (h : NW sc d_X11_moonAtRank 4 (0, [some (.inr (.inl (some 0))), some (.inl x1)], [], (J, L, W), 4, 24) (fun v M9 => NW sc d_L_moonAtRank D (7, [none, none, none, none], nw_push v [.inl 0, .inr (.inl (some 314))], M9, (c - 4), (sl - 24)) Qr Qx) (fun e M9 => nw_hx d_L_moonAtRank 4 e Qr Qx M9)) :
    NW sc d_L_moonAtRank D (0, [some (.inr (.inl (some 0))), some (.inl x1), some (.inr (.inl (some 314))), none], [], (J, L, W), c, sl) Qr Qx := by
  refine nw_aload_n l_L_moonAtRank_0 1 rfl rfl ?_
  refine nw_iconst (len := 0) l_L_moonAtRank_1 2 rfl c_0 ?_
  refine nw_aload_n l_L_moonAtRank_2 3 rfl rfl ?_
  refine nw_iload_n l_L_moonAtRank_3 4 rfl rfl ?_
  refine nw_drop (ls' := [none, none, none, none]) ⟨True.intro, ⟨True.intro, ⟨True.intro, ⟨True.intro, True.intro⟩⟩⟩⟩ ?_
  refine nw_call 4 4 24 0 l_L_moonAtRank_4 rfl rfl g_X11_moonAtRank (Nat.lt_of_lt_of_le (by decide) hD) rfl (by omega) (by omega) (Or.inl ⟨_, rfl, k_0⟩) (ls' := [some (.inr (.inl (some 0))), some (.inl x1)]) rfl (st' := [.inl 0, .inr (.inl (some 314))]) rfl 7 rfl (c' := (c - 4)) (by omega) (sl' := (sl - 24)) (by omega) ?_
  exact h
theorem b_L_moonAtRank2_7 {y0 : Int} {y1 : Int} (h : ((0 ≤ y1 ∧ y1 < 1) ∧ Qr (some (.inl 0)) (J, nw_u L 314 y1 y0, W))) :
    NW sc d_L_moonAtRank D (7, [none, none, none, none], [.inl y0, .inl y1, .inr (.inl (some 314))], (J, L, W), c, sl) Qr Qx := by
  refine nw_i2l l_L_moonAtRank_7 8 rfl ?_
  have o1 := h.1
  replace h := h.2
  refine nw_last l_L_moonAtRank_8 9 rfl k_314 o1 ?_
  refine nw_goto l_L_moonAtRank_9 ?_
  refine nw_iconst (len := 0) l_L_moonAtRank_15 16 rfl c_0 ?_
  refine nw_ireturn l_L_moonAtRank_16 rfl ?_
  exact h
theorem b_L_pass2_0 {x1 : Int} (hD : 6 ≤ D) (hc : 4 ≤ c) (hs : 24 ≤ sl) (h : NW sc d_X11_pass 5 (0, [some (.inr (.inl (some 0))), some (.inl x1)], [], (J, L, W), 4, 24) (fun v M9 => NW sc d_L_pass D (7, [none, none, none, none], nw_push v [.inl 0, .inr (.inl (some 314))], M9, (c - 4), (sl - 24)) Qr Qx) (fun e M9 => nw_hx d_L_pass 4 e Qr Qx M9)) :
    NW sc d_L_pass D (0, [some (.inr (.inl (some 0))), some (.inl x1), some (.inr (.inl (some 314))), none], [], (J, L, W), c, sl) Qr Qx := by
  refine nw_aload_n l_L_pass_0 1 rfl rfl ?_
  refine nw_iconst (len := 0) l_L_pass_1 2 rfl c_0 ?_
  refine nw_aload_n l_L_pass_2 3 rfl rfl ?_
  refine nw_iload_n l_L_pass_3 4 rfl rfl ?_
  refine nw_drop (ls' := [none, none, none, none]) ⟨True.intro, ⟨True.intro, ⟨True.intro, ⟨True.intro, True.intro⟩⟩⟩⟩ ?_
  refine nw_call 5 4 24 0 l_L_pass_4 rfl rfl g_X11_pass (Nat.lt_of_lt_of_le (by decide) hD) rfl (by omega) (by omega) (Or.inl ⟨_, rfl, k_0⟩) (ls' := [some (.inr (.inl (some 0))), some (.inl x1)]) rfl (st' := [.inl 0, .inr (.inl (some 314))]) rfl 7 rfl (c' := (c - 4)) (by omega) (sl' := (sl - 24)) (by omega) ?_
  exact h
theorem b_L_pass2_7 {y0 : Int} {y1 : Int} (h : ((0 ≤ y1 ∧ y1 < 1) ∧ Qr (some (.inl 0)) (J, nw_u L 314 y1 y0, W))) :
    NW sc d_L_pass D (7, [none, none, none, none], [.inl y0, .inl y1, .inr (.inl (some 314))], (J, L, W), c, sl) Qr Qx := by
  refine nw_i2l l_L_pass_7 8 rfl ?_
  have o1 := h.1
  replace h := h.2
  refine nw_last l_L_pass_8 9 rfl k_314 o1 ?_
  refine nw_goto l_L_pass_9 ?_
  refine nw_iconst (len := 0) l_L_pass_15 16 rfl c_0 ?_
  refine nw_ireturn l_L_pass_16 rfl ?_
  exact h
theorem b_L_passageCrater2_0 {x1 : Int} (hD : 3 ≤ D) (hc : 4 ≤ c) (hs : 24 ≤ sl) (h : NW sc d_X11_passageCrater 2 (0, [some (.inr (.inl (some 0))), some (.inl x1)], [], (J, L, W), 4, 24) (fun v M9 => NW sc d_L_passageCrater D (7, [none, none, none, none], nw_push v [.inl 0, .inr (.inl (some 314))], M9, (c - 4), (sl - 24)) Qr Qx) (fun e M9 => nw_hx d_L_passageCrater 4 e Qr Qx M9)) :
    NW sc d_L_passageCrater D (0, [some (.inr (.inl (some 0))), some (.inl x1), some (.inr (.inl (some 314))), none], [], (J, L, W), c, sl) Qr Qx := by
  refine nw_aload_n l_L_passageCrater_0 1 rfl rfl ?_
  refine nw_iconst (len := 0) l_L_passageCrater_1 2 rfl c_0 ?_
  refine nw_aload_n l_L_passageCrater_2 3 rfl rfl ?_
  refine nw_iload_n l_L_passageCrater_3 4 rfl rfl ?_
  refine nw_drop (ls' := [none, none, none, none]) ⟨True.intro, ⟨True.intro, ⟨True.intro, ⟨True.intro, True.intro⟩⟩⟩⟩ ?_
  refine nw_call 2 4 24 0 l_L_passageCrater_4 rfl rfl g_X11_passageCrater (Nat.lt_of_lt_of_le (by decide) hD) rfl (by omega) (by omega) (Or.inl ⟨_, rfl, k_0⟩) (ls' := [some (.inr (.inl (some 0))), some (.inl x1)]) rfl (st' := [.inl 0, .inr (.inl (some 314))]) rfl 7 rfl (c' := (c - 4)) (by omega) (sl' := (sl - 24)) (by omega) ?_
  exact h
theorem b_L_passageCrater2_7 {y0 : Int} {y1 : Int} (h : ((0 ≤ y1 ∧ y1 < 1) ∧ Qr (some (.inl 0)) (J, nw_u L 314 y1 y0, W))) :
    NW sc d_L_passageCrater D (7, [none, none, none, none], [.inl y0, .inl y1, .inr (.inl (some 314))], (J, L, W), c, sl) Qr Qx := by
  refine nw_i2l l_L_passageCrater_7 8 rfl ?_
  have o1 := h.1
  replace h := h.2
  refine nw_last l_L_passageCrater_8 9 rfl k_314 o1 ?_
  refine nw_goto l_L_passageCrater_9 ?_
  refine nw_iconst (len := 0) l_L_passageCrater_15 16 rfl c_0 ?_
  refine nw_ireturn l_L_passageCrater_16 rfl ?_
  exact h
theorem b_L_passageFerry2_0 {x1 : Int} (hD : 3 ≤ D) (hc : 4 ≤ c) (hs : 24 ≤ sl) (h : NW sc d_X11_passageFerry 2 (0, [some (.inr (.inl (some 0))), some (.inl x1)], [], (J, L, W), 4, 24) (fun v M9 => NW sc d_L_passageFerry D (7, [none, none, none, none], nw_push v [.inl 0, .inr (.inl (some 314))], M9, (c - 4), (sl - 24)) Qr Qx) (fun e M9 => nw_hx d_L_passageFerry 4 e Qr Qx M9)) :
    NW sc d_L_passageFerry D (0, [some (.inr (.inl (some 0))), some (.inl x1), some (.inr (.inl (some 314))), none], [], (J, L, W), c, sl) Qr Qx := by
  refine nw_aload_n l_L_passageFerry_0 1 rfl rfl ?_
  refine nw_iconst (len := 0) l_L_passageFerry_1 2 rfl c_0 ?_
  refine nw_aload_n l_L_passageFerry_2 3 rfl rfl ?_
  refine nw_iload_n l_L_passageFerry_3 4 rfl rfl ?_
  refine nw_drop (ls' := [none, none, none, none]) ⟨True.intro, ⟨True.intro, ⟨True.intro, ⟨True.intro, True.intro⟩⟩⟩⟩ ?_
  refine nw_call 2 4 24 0 l_L_passageFerry_4 rfl rfl g_X11_passageFerry (Nat.lt_of_lt_of_le (by decide) hD) rfl (by omega) (by omega) (Or.inl ⟨_, rfl, k_0⟩) (ls' := [some (.inr (.inl (some 0))), some (.inl x1)]) rfl (st' := [.inl 0, .inr (.inl (some 314))]) rfl 7 rfl (c' := (c - 4)) (by omega) (sl' := (sl - 24)) (by omega) ?_
  exact h
theorem b_L_passageFerry2_7 {y0 : Int} {y1 : Int} (h : ((0 ≤ y1 ∧ y1 < 1) ∧ Qr (some (.inl 0)) (J, nw_u L 314 y1 y0, W))) :
    NW sc d_L_passageFerry D (7, [none, none, none, none], [.inl y0, .inl y1, .inr (.inl (some 314))], (J, L, W), c, sl) Qr Qx := by
  refine nw_i2l l_L_passageFerry_7 8 rfl ?_
  have o1 := h.1
  replace h := h.2
  refine nw_last l_L_passageFerry_8 9 rfl k_314 o1 ?_
  refine nw_goto l_L_passageFerry_9 ?_
  refine nw_iconst (len := 0) l_L_passageFerry_15 16 rfl c_0 ?_
  refine nw_ireturn l_L_passageFerry_16 rfl ?_
  exact h
theorem b_L_passageHour2_0 {x1 : Int} (hD : 3 ≤ D) (hc : 4 ≤ c) (hs : 24 ≤ sl) (h : NW sc d_X11_passageHour 2 (0, [some (.inr (.inl (some 0))), some (.inl x1)], [], (J, L, W), 4, 24) (fun v M9 => NW sc d_L_passageHour D (7, [none, none, none, none], nw_push v [.inl 0, .inr (.inl (some 314))], M9, (c - 4), (sl - 24)) Qr Qx) (fun e M9 => nw_hx d_L_passageHour 4 e Qr Qx M9)) :
    NW sc d_L_passageHour D (0, [some (.inr (.inl (some 0))), some (.inl x1), some (.inr (.inl (some 314))), none], [], (J, L, W), c, sl) Qr Qx := by
  refine nw_aload_n l_L_passageHour_0 1 rfl rfl ?_
  refine nw_iconst (len := 0) l_L_passageHour_1 2 rfl c_0 ?_
  refine nw_aload_n l_L_passageHour_2 3 rfl rfl ?_
  refine nw_iload_n l_L_passageHour_3 4 rfl rfl ?_
  refine nw_drop (ls' := [none, none, none, none]) ⟨True.intro, ⟨True.intro, ⟨True.intro, ⟨True.intro, True.intro⟩⟩⟩⟩ ?_
  refine nw_call 2 4 24 0 l_L_passageHour_4 rfl rfl g_X11_passageHour (Nat.lt_of_lt_of_le (by decide) hD) rfl (by omega) (by omega) (Or.inl ⟨_, rfl, k_0⟩) (ls' := [some (.inr (.inl (some 0))), some (.inl x1)]) rfl (st' := [.inl 0, .inr (.inl (some 314))]) rfl 7 rfl (c' := (c - 4)) (by omega) (sl' := (sl - 24)) (by omega) ?_
  exact h
theorem b_L_passageHour2_7 {y0 : Int} {y1 : Int} (h : ((0 ≤ y1 ∧ y1 < 1) ∧ Qr (some (.inl 0)) (J, nw_u L 314 y1 y0, W))) :
    NW sc d_L_passageHour D (7, [none, none, none, none], [.inl y0, .inl y1, .inr (.inl (some 314))], (J, L, W), c, sl) Qr Qx := by
  refine nw_i2l l_L_passageHour_7 8 rfl ?_
  have o1 := h.1
  replace h := h.2
  refine nw_last l_L_passageHour_8 9 rfl k_314 o1 ?_
  refine nw_goto l_L_passageHour_9 ?_
  refine nw_iconst (len := 0) l_L_passageHour_15 16 rfl c_0 ?_
  refine nw_ireturn l_L_passageHour_16 rfl ?_
  exact h
theorem b_L_phaseOf2_0 {x1 : Int} (hD : 3 ≤ D) (hc : 4 ≤ c) (hs : 24 ≤ sl) (h : NW sc d_X11_phaseOf 2 (0, [some (.inr (.inl (some 0))), some (.inl x1)], [], (J, L, W), 4, 24) (fun v M9 => NW sc d_L_phaseOf D (7, [none, none, none, none], nw_push v [.inl 0, .inr (.inl (some 314))], M9, (c - 4), (sl - 24)) Qr Qx) (fun e M9 => nw_hx d_L_phaseOf 4 e Qr Qx M9)) :
    NW sc d_L_phaseOf D (0, [some (.inr (.inl (some 0))), some (.inl x1), some (.inr (.inl (some 314))), none], [], (J, L, W), c, sl) Qr Qx := by
  refine nw_aload_n l_L_phaseOf_0 1 rfl rfl ?_
  refine nw_iconst (len := 0) l_L_phaseOf_1 2 rfl c_0 ?_
  refine nw_aload_n l_L_phaseOf_2 3 rfl rfl ?_
  refine nw_iload_n l_L_phaseOf_3 4 rfl rfl ?_
  refine nw_drop (ls' := [none, none, none, none]) ⟨True.intro, ⟨True.intro, ⟨True.intro, ⟨True.intro, True.intro⟩⟩⟩⟩ ?_
  refine nw_call 2 4 24 0 l_L_phaseOf_4 rfl rfl g_X11_phaseOf (Nat.lt_of_lt_of_le (by decide) hD) rfl (by omega) (by omega) (Or.inl ⟨_, rfl, k_0⟩) (ls' := [some (.inr (.inl (some 0))), some (.inl x1)]) rfl (st' := [.inl 0, .inr (.inl (some 314))]) rfl 7 rfl (c' := (c - 4)) (by omega) (sl' := (sl - 24)) (by omega) ?_
  exact h
theorem b_L_phaseOf2_7 {y0 : Int} {y1 : Int} (h : ((0 ≤ y1 ∧ y1 < 1) ∧ Qr (some (.inl 0)) (J, nw_u L 314 y1 y0, W))) :
    NW sc d_L_phaseOf D (7, [none, none, none, none], [.inl y0, .inl y1, .inr (.inl (some 314))], (J, L, W), c, sl) Qr Qx := by
  refine nw_i2l l_L_phaseOf_7 8 rfl ?_
  have o1 := h.1
  replace h := h.2
  refine nw_last l_L_phaseOf_8 9 rfl k_314 o1 ?_
  refine nw_goto l_L_phaseOf_9 ?_
  refine nw_iconst (len := 0) l_L_phaseOf_15 16 rfl c_0 ?_
  refine nw_ireturn l_L_phaseOf_16 rfl ?_
  exact h
theorem b_L_refusalReason2_0  (hD : 2 ≤ D) (hc : 4 ≤ c) (hs : 24 ≤ sl) (h : NW sc d_X11_refusalReason 1 (0, [some (.inr (.inl (some 0)))], [], (J, L, W), 4, 24) (fun v M9 => NW sc d_L_refusalReason D (6, [none, none, none], nw_push v [.inl 0, .inr (.inl (some 314))], M9, (c - 4), (sl - 24)) Qr Qx) (fun e M9 => nw_hx d_L_refusalReason 3 e Qr Qx M9)) :
    NW sc d_L_refusalReason D (0, [some (.inr (.inl (some 0))), some (.inr (.inl (some 314))), none], [], (J, L, W), c, sl) Qr Qx := by
  refine nw_aload_n l_L_refusalReason_0 1 rfl rfl ?_
  refine nw_iconst (len := 0) l_L_refusalReason_1 2 rfl c_0 ?_
  refine nw_aload_n l_L_refusalReason_2 3 rfl rfl ?_
  refine nw_drop (ls' := [none, none, none]) ⟨True.intro, ⟨True.intro, ⟨True.intro, True.intro⟩⟩⟩ ?_
  refine nw_call 1 4 24 0 l_L_refusalReason_3 rfl rfl g_X11_refusalReason (Nat.lt_of_lt_of_le (by decide) hD) rfl (by omega) (by omega) (Or.inl ⟨_, rfl, k_0⟩) (ls' := [some (.inr (.inl (some 0)))]) rfl (st' := [.inl 0, .inr (.inl (some 314))]) rfl 6 rfl (c' := (c - 4)) (by omega) (sl' := (sl - 24)) (by omega) ?_
  exact h
theorem b_L_refusalReason2_6 {y0 : Int} {y1 : Int} (h : ((0 ≤ y1 ∧ y1 < 1) ∧ Qr (some (.inl 0)) (J, nw_u L 314 y1 y0, W))) :
    NW sc d_L_refusalReason D (6, [none, none, none], [.inl y0, .inl y1, .inr (.inl (some 314))], (J, L, W), c, sl) Qr Qx := by
  refine nw_i2l l_L_refusalReason_6 7 rfl ?_
  have o1 := h.1
  replace h := h.2
  refine nw_last l_L_refusalReason_7 8 rfl k_314 o1 ?_
  refine nw_goto l_L_refusalReason_8 ?_
  refine nw_iconst (len := 0) l_L_refusalReason_14 15 rfl c_0 ?_
  refine nw_ireturn l_L_refusalReason_15 rfl ?_
  exact h
theorem b_L_removeChannel2_0 {x1 : Int} (hD : 5 ≤ D) (hc : 4 ≤ c) (hs : 24 ≤ sl) (h : NW sc d_X11_removeChannel 4 (0, [some (.inr (.inl (some 0))), some (.inl x1)], [], (J, L, W), 4, 24) (fun v M9 => NW sc d_L_removeChannel D (7, [none, none, none, none], nw_push v [.inl 0, .inr (.inl (some 314))], M9, (c - 4), (sl - 24)) Qr Qx) (fun e M9 => nw_hx d_L_removeChannel 4 e Qr Qx M9)) :
    NW sc d_L_removeChannel D (0, [some (.inr (.inl (some 0))), some (.inl x1), some (.inr (.inl (some 314))), none], [], (J, L, W), c, sl) Qr Qx := by
  refine nw_aload_n l_L_removeChannel_0 1 rfl rfl ?_
  refine nw_iconst (len := 0) l_L_removeChannel_1 2 rfl c_0 ?_
  refine nw_aload_n l_L_removeChannel_2 3 rfl rfl ?_
  refine nw_iload_n l_L_removeChannel_3 4 rfl rfl ?_
  refine nw_drop (ls' := [none, none, none, none]) ⟨True.intro, ⟨True.intro, ⟨True.intro, ⟨True.intro, True.intro⟩⟩⟩⟩ ?_
  refine nw_call 4 4 24 0 l_L_removeChannel_4 rfl rfl g_X11_removeChannel (Nat.lt_of_lt_of_le (by decide) hD) rfl (by omega) (by omega) (Or.inl ⟨_, rfl, k_0⟩) (ls' := [some (.inr (.inl (some 0))), some (.inl x1)]) rfl (st' := [.inl 0, .inr (.inl (some 314))]) rfl 7 rfl (c' := (c - 4)) (by omega) (sl' := (sl - 24)) (by omega) ?_
  exact h
theorem b_L_removeChannel2_7 {y0 : Int} {y1 : Int} (h : ((0 ≤ y1 ∧ y1 < 1) ∧ Qr (some (.inl 0)) (J, nw_u L 314 y1 y0, W))) :
    NW sc d_L_removeChannel D (7, [none, none, none, none], [.inl y0, .inl y1, .inr (.inl (some 314))], (J, L, W), c, sl) Qr Qx := by
  refine nw_i2l l_L_removeChannel_7 8 rfl ?_
  have o1 := h.1
  replace h := h.2
  refine nw_last l_L_removeChannel_8 9 rfl k_314 o1 ?_
  refine nw_goto l_L_removeChannel_9 ?_
  refine nw_iconst (len := 0) l_L_removeChannel_18 19 rfl c_0 ?_
  refine nw_ireturn l_L_removeChannel_19 rfl ?_
  exact h
theorem b_L_rescue2_0 {x1 : Int} (hD : 5 ≤ D) (hc : 4 ≤ c) (hs : 24 ≤ sl) (h : NW sc d_X11_rescue 4 (0, [some (.inr (.inl (some 0))), some (.inl x1)], [], (J, L, W), 4, 24) (fun v M9 => NW sc d_L_rescue D (7, [none, none, none, none], nw_push v [.inl 0, .inr (.inl (some 314))], M9, (c - 4), (sl - 24)) Qr Qx) (fun e M9 => nw_hx d_L_rescue 4 e Qr Qx M9)) :
    NW sc d_L_rescue D (0, [some (.inr (.inl (some 0))), some (.inl x1), some (.inr (.inl (some 314))), none], [], (J, L, W), c, sl) Qr Qx := by
  refine nw_aload_n l_L_rescue_0 1 rfl rfl ?_
  refine nw_iconst (len := 0) l_L_rescue_1 2 rfl c_0 ?_
  refine nw_aload_n l_L_rescue_2 3 rfl rfl ?_
  refine nw_iload_n l_L_rescue_3 4 rfl rfl ?_
  refine nw_drop (ls' := [none, none, none, none]) ⟨True.intro, ⟨True.intro, ⟨True.intro, ⟨True.intro, True.intro⟩⟩⟩⟩ ?_
  refine nw_call 4 4 24 0 l_L_rescue_4 rfl rfl g_X11_rescue (Nat.lt_of_lt_of_le (by decide) hD) rfl (by omega) (by omega) (Or.inl ⟨_, rfl, k_0⟩) (ls' := [some (.inr (.inl (some 0))), some (.inl x1)]) rfl (st' := [.inl 0, .inr (.inl (some 314))]) rfl 7 rfl (c' := (c - 4)) (by omega) (sl' := (sl - 24)) (by omega) ?_
  exact h
theorem b_L_rescue2_7 {y0 : Int} {y1 : Int} (h : ((0 ≤ y1 ∧ y1 < 1) ∧ Qr (some (.inl 0)) (J, nw_u L 314 y1 y0, W))) :
    NW sc d_L_rescue D (7, [none, none, none, none], [.inl y0, .inl y1, .inr (.inl (some 314))], (J, L, W), c, sl) Qr Qx := by
  refine nw_i2l l_L_rescue_7 8 rfl ?_
  have o1 := h.1
  replace h := h.2
  refine nw_last l_L_rescue_8 9 rfl k_314 o1 ?_
  refine nw_goto l_L_rescue_9 ?_
  refine nw_iconst (len := 0) l_L_rescue_18 19 rfl c_0 ?_
  refine nw_ireturn l_L_rescue_19 rfl ?_
  exact h
theorem b_L_restore2_0  (hD : 3 ≤ D) (hc : 4 ≤ c) (hs : 24 ≤ sl) (h : NW sc d_X11_restore 2 (0, [some (.inr (.inl (some 0)))], [], (J, L, W), 4, 24) (fun v M9 => NW sc d_L_restore D (6, [none, none, none], nw_push v [.inl 0, .inr (.inl (some 314))], M9, (c - 4), (sl - 24)) Qr Qx) (fun e M9 => nw_hx d_L_restore 3 e Qr Qx M9)) :
    NW sc d_L_restore D (0, [some (.inr (.inl (some 0))), some (.inr (.inl (some 314))), none], [], (J, L, W), c, sl) Qr Qx := by
  refine nw_aload_n l_L_restore_0 1 rfl rfl ?_
  refine nw_iconst (len := 0) l_L_restore_1 2 rfl c_0 ?_
  refine nw_aload_n l_L_restore_2 3 rfl rfl ?_
  refine nw_drop (ls' := [none, none, none]) ⟨True.intro, ⟨True.intro, ⟨True.intro, True.intro⟩⟩⟩ ?_
  refine nw_call 2 4 24 0 l_L_restore_3 rfl rfl g_X11_restore (Nat.lt_of_lt_of_le (by decide) hD) rfl (by omega) (by omega) (Or.inl ⟨_, rfl, k_0⟩) (ls' := [some (.inr (.inl (some 0)))]) rfl (st' := [.inl 0, .inr (.inl (some 314))]) rfl 6 rfl (c' := (c - 4)) (by omega) (sl' := (sl - 24)) (by omega) ?_
  exact h
theorem b_L_restore2_6 {y0 : Int} {y1 : Int} (h : ((0 ≤ y1 ∧ y1 < 1) ∧ Qr (some (.inl 0)) (J, nw_u L 314 y1 y0, W))) :
    NW sc d_L_restore D (6, [none, none, none], [.inl y0, .inl y1, .inr (.inl (some 314))], (J, L, W), c, sl) Qr Qx := by
  refine nw_i2l l_L_restore_6 7 rfl ?_
  have o1 := h.1
  replace h := h.2
  refine nw_last l_L_restore_7 8 rfl k_314 o1 ?_
  refine nw_goto l_L_restore_8 ?_
  refine nw_iconst (len := 0) l_L_restore_14 15 rfl c_0 ?_
  refine nw_ireturn l_L_restore_15 rfl ?_
  exact h
theorem b_L_run2_0  (hD : 17 ≤ D) (hc : 4 ≤ c) (hs : 24 ≤ sl) (h : NW sc d_X11_run 16 (0, [some (.inr (.inl (some 0))), none, none], [], (J, L, W), 4, 24) (fun v M9 => NW sc d_L_run D (6, [none, none, none], nw_push v [.inl 0, .inr (.inl (some 314))], M9, (c - 4), (sl - 24)) Qr Qx) (fun e M9 => nw_hx d_L_run 3 e Qr Qx M9)) :
    NW sc d_L_run D (0, [some (.inr (.inl (some 0))), some (.inr (.inl (some 314))), none], [], (J, L, W), c, sl) Qr Qx := by
  refine nw_aload_n l_L_run_0 1 rfl rfl ?_
  refine nw_iconst (len := 0) l_L_run_1 2 rfl c_0 ?_
  refine nw_aload_n l_L_run_2 3 rfl rfl ?_
  refine nw_drop (ls' := [none, none, none]) ⟨True.intro, ⟨True.intro, ⟨True.intro, True.intro⟩⟩⟩ ?_
  refine nw_call 16 4 24 0 l_L_run_3 rfl rfl g_X11_run (Nat.lt_of_lt_of_le (by decide) hD) rfl (by omega) (by omega) (Or.inl ⟨_, rfl, k_0⟩) (ls' := [some (.inr (.inl (some 0))), none, none]) rfl (st' := [.inl 0, .inr (.inl (some 314))]) rfl 6 rfl (c' := (c - 4)) (by omega) (sl' := (sl - 24)) (by omega) ?_
  exact h
theorem b_L_run2_6 {y0 : Int} {y1 : Int} (h : ((0 ≤ y1 ∧ y1 < 1) ∧ Qr (some (.inl 0)) (J, nw_u L 314 y1 y0, W))) :
    NW sc d_L_run D (6, [none, none, none], [.inl y0, .inl y1, .inr (.inl (some 314))], (J, L, W), c, sl) Qr Qx := by
  refine nw_i2l l_L_run_6 7 rfl ?_
  have o1 := h.1
  replace h := h.2
  refine nw_last l_L_run_7 8 rfl k_314 o1 ?_
  refine nw_goto l_L_run_8 ?_
  refine nw_iconst (len := 0) l_L_run_17 18 rfl c_0 ?_
  refine nw_ireturn l_L_run_18 rfl ?_
  exact h
theorem b_L_sail2_0 {x1 : Int} {x2 : Int} (hD : 5 ≤ D) (hc : 4 ≤ c) (hs : 24 ≤ sl) (h : NW sc d_X11_sail 4 (0, [some (.inr (.inl (some 0))), some (.inl x1), some (.inl x2)], [], (J, L, W), 4, 24) (fun v M9 => NW sc d_L_sail D (8, [none, none, none, none, none], nw_push v [.inl 0, .inr (.inl (some 314))], M9, (c - 4), (sl - 24)) Qr Qx) (fun e M9 => nw_hx d_L_sail 5 e Qr Qx M9)) :
    NW sc d_L_sail D (0, [some (.inr (.inl (some 0))), some (.inl x1), some (.inl x2), some (.inr (.inl (some 314))), none], [], (J, L, W), c, sl) Qr Qx := by
  refine nw_aload_n l_L_sail_0 1 rfl rfl ?_
  refine nw_iconst (len := 0) l_L_sail_1 2 rfl c_0 ?_
  refine nw_aload_n l_L_sail_2 3 rfl rfl ?_
  refine nw_iload_n l_L_sail_3 4 rfl rfl ?_
  refine nw_iload_n l_L_sail_4 5 rfl rfl ?_
  refine nw_drop (ls' := [none, none, none, none, none]) ⟨True.intro, ⟨True.intro, ⟨True.intro, ⟨True.intro, ⟨True.intro, True.intro⟩⟩⟩⟩⟩ ?_
  refine nw_call 4 4 24 0 l_L_sail_5 rfl rfl g_X11_sail (Nat.lt_of_lt_of_le (by decide) hD) rfl (by omega) (by omega) (Or.inl ⟨_, rfl, k_0⟩) (ls' := [some (.inr (.inl (some 0))), some (.inl x1), some (.inl x2)]) rfl (st' := [.inl 0, .inr (.inl (some 314))]) rfl 8 rfl (c' := (c - 4)) (by omega) (sl' := (sl - 24)) (by omega) ?_
  exact h
theorem b_L_sail2_8 {y0 : Int} {y1 : Int} (h : ((0 ≤ y1 ∧ y1 < 1) ∧ Qr (some (.inl 0)) (J, nw_u L 314 y1 y0, W))) :
    NW sc d_L_sail D (8, [none, none, none, none, none], [.inl y0, .inl y1, .inr (.inl (some 314))], (J, L, W), c, sl) Qr Qx := by
  refine nw_i2l l_L_sail_8 9 rfl ?_
  have o1 := h.1
  replace h := h.2
  refine nw_last l_L_sail_9 10 rfl k_314 o1 ?_
  refine nw_goto l_L_sail_10 ?_
  refine nw_iconst (len := 0) l_L_sail_25 26 rfl c_0 ?_
  refine nw_ireturn l_L_sail_26 rfl ?_
  exact h
theorem b_L_shoreOf2_0 {x1 : Int} (hD : 3 ≤ D) (hc : 4 ≤ c) (hs : 24 ≤ sl) (h : NW sc d_X11_shoreOf 2 (0, [some (.inr (.inl (some 0))), some (.inl x1), none], [], (J, L, W), 4, 24) (fun v M9 => NW sc d_L_shoreOf D (7, [none, none, none, none], nw_push v [.inl 0, .inr (.inl (some 314))], M9, (c - 4), (sl - 24)) Qr Qx) (fun e M9 => nw_hx d_L_shoreOf 4 e Qr Qx M9)) :
    NW sc d_L_shoreOf D (0, [some (.inr (.inl (some 0))), some (.inl x1), some (.inr (.inl (some 314))), none], [], (J, L, W), c, sl) Qr Qx := by
  refine nw_aload_n l_L_shoreOf_0 1 rfl rfl ?_
  refine nw_iconst (len := 0) l_L_shoreOf_1 2 rfl c_0 ?_
  refine nw_aload_n l_L_shoreOf_2 3 rfl rfl ?_
  refine nw_iload_n l_L_shoreOf_3 4 rfl rfl ?_
  refine nw_drop (ls' := [none, none, none, none]) ⟨True.intro, ⟨True.intro, ⟨True.intro, ⟨True.intro, True.intro⟩⟩⟩⟩ ?_
  refine nw_call 2 4 24 0 l_L_shoreOf_4 rfl rfl g_X11_shoreOf (Nat.lt_of_lt_of_le (by decide) hD) rfl (by omega) (by omega) (Or.inl ⟨_, rfl, k_0⟩) (ls' := [some (.inr (.inl (some 0))), some (.inl x1), none]) rfl (st' := [.inl 0, .inr (.inl (some 314))]) rfl 7 rfl (c' := (c - 4)) (by omega) (sl' := (sl - 24)) (by omega) ?_
  exact h
theorem b_L_shoreOf2_7 {y0 : Int} {y1 : Int} (h : ((0 ≤ y1 ∧ y1 < 1) ∧ Qr (some (.inl 0)) (J, nw_u L 314 y1 y0, W))) :
    NW sc d_L_shoreOf D (7, [none, none, none, none], [.inl y0, .inl y1, .inr (.inl (some 314))], (J, L, W), c, sl) Qr Qx := by
  refine nw_i2l l_L_shoreOf_7 8 rfl ?_
  have o1 := h.1
  replace h := h.2
  refine nw_last l_L_shoreOf_8 9 rfl k_314 o1 ?_
  refine nw_goto l_L_shoreOf_9 ?_
  refine nw_iconst (len := 0) l_L_shoreOf_18 19 rfl c_0 ?_
  refine nw_ireturn l_L_shoreOf_19 rfl ?_
  exact h
theorem b_L_targetOf2_0 {x1 : Int} (hD : 3 ≤ D) (hc : 4 ≤ c) (hs : 24 ≤ sl) (h : NW sc d_X11_targetOf 2 (0, [some (.inr (.inl (some 0))), some (.inl x1)], [], (J, L, W), 4, 24) (fun v M9 => NW sc d_L_targetOf D (7, [none, none, none, none], nw_push v [.inl 0, .inr (.inl (some 314))], M9, (c - 4), (sl - 24)) Qr Qx) (fun e M9 => nw_hx d_L_targetOf 4 e Qr Qx M9)) :
    NW sc d_L_targetOf D (0, [some (.inr (.inl (some 0))), some (.inl x1), some (.inr (.inl (some 314))), none], [], (J, L, W), c, sl) Qr Qx := by
  refine nw_aload_n l_L_targetOf_0 1 rfl rfl ?_
  refine nw_iconst (len := 0) l_L_targetOf_1 2 rfl c_0 ?_
  refine nw_aload_n l_L_targetOf_2 3 rfl rfl ?_
  refine nw_iload_n l_L_targetOf_3 4 rfl rfl ?_
  refine nw_drop (ls' := [none, none, none, none]) ⟨True.intro, ⟨True.intro, ⟨True.intro, ⟨True.intro, True.intro⟩⟩⟩⟩ ?_
  refine nw_call 2 4 24 0 l_L_targetOf_4 rfl rfl g_X11_targetOf (Nat.lt_of_lt_of_le (by decide) hD) rfl (by omega) (by omega) (Or.inl ⟨_, rfl, k_0⟩) (ls' := [some (.inr (.inl (some 0))), some (.inl x1)]) rfl (st' := [.inl 0, .inr (.inl (some 314))]) rfl 7 rfl (c' := (c - 4)) (by omega) (sl' := (sl - 24)) (by omega) ?_
  exact h
theorem b_L_targetOf2_7 {y0 : Int} {y1 : Int} (h : ((0 ≤ y1 ∧ y1 < 1) ∧ Qr (some (.inl 0)) (J, nw_u L 314 y1 y0, W))) :
    NW sc d_L_targetOf D (7, [none, none, none, none], [.inl y0, .inl y1, .inr (.inl (some 314))], (J, L, W), c, sl) Qr Qx := by
  refine nw_i2l l_L_targetOf_7 8 rfl ?_
  have o1 := h.1
  replace h := h.2
  refine nw_last l_L_targetOf_8 9 rfl k_314 o1 ?_
  refine nw_goto l_L_targetOf_9 ?_
  refine nw_iconst (len := 0) l_L_targetOf_18 19 rfl c_0 ?_
  refine nw_ireturn l_L_targetOf_19 rfl ?_
  exact h
theorem b_L_tide2_0 {x1 : Int} (hD : 3 ≤ D) (hc : 4 ≤ c) (hs : 24 ≤ sl) (h : NW sc d_X11_tide 2 (0, [some (.inr (.inl (some 0))), some (.inl x1)], [], (J, L, W), 4, 24) (fun v M9 => NW sc d_L_tide D (7, [none, none, none, none], nw_push v [.inl 0, .inr (.inl (some 314))], M9, (c - 4), (sl - 24)) Qr Qx) (fun e M9 => nw_hx d_L_tide 4 e Qr Qx M9)) :
    NW sc d_L_tide D (0, [some (.inr (.inl (some 0))), some (.inl x1), some (.inr (.inl (some 314))), none], [], (J, L, W), c, sl) Qr Qx := by
  refine nw_aload_n l_L_tide_0 1 rfl rfl ?_
  refine nw_iconst (len := 0) l_L_tide_1 2 rfl c_0 ?_
  refine nw_aload_n l_L_tide_2 3 rfl rfl ?_
  refine nw_iload_n l_L_tide_3 4 rfl rfl ?_
  refine nw_drop (ls' := [none, none, none, none]) ⟨True.intro, ⟨True.intro, ⟨True.intro, ⟨True.intro, True.intro⟩⟩⟩⟩ ?_
  refine nw_call 2 4 24 0 l_L_tide_4 rfl rfl g_X11_tide (Nat.lt_of_lt_of_le (by decide) hD) rfl (by omega) (by omega) (Or.inl ⟨_, rfl, k_0⟩) (ls' := [some (.inr (.inl (some 0))), some (.inl x1)]) rfl (st' := [.inl 0, .inr (.inl (some 314))]) rfl 7 rfl (c' := (c - 4)) (by omega) (sl' := (sl - 24)) (by omega) ?_
  exact h
theorem b_L_tide2_7 {y0 : Int} {y1 : Int} (h : ((0 ≤ y1 ∧ y1 < 1) ∧ Qr (some (.inl 0)) (J, nw_u L 314 y1 y0, W))) :
    NW sc d_L_tide D (7, [none, none, none, none], [.inl y0, .inl y1, .inr (.inl (some 314))], (J, L, W), c, sl) Qr Qx := by
  refine nw_i2l l_L_tide_7 8 rfl ?_
  have o1 := h.1
  replace h := h.2
  refine nw_last l_L_tide_8 9 rfl k_314 o1 ?_
  refine nw_goto l_L_tide_9 ?_
  refine nw_iconst (len := 0) l_L_tide_15 16 rfl c_0 ?_
  refine nw_ireturn l_L_tide_16 rfl ?_
  exact h
theorem b_L_undo2_0  (hD : 4 ≤ D) (hc : 4 ≤ c) (hs : 24 ≤ sl) (h : NW sc d_X11_undo 3 (0, [some (.inr (.inl (some 0)))], [], (J, L, W), 4, 24) (fun v M9 => NW sc d_L_undo D (6, [none, none, none], nw_push v [.inl 0, .inr (.inl (some 314))], M9, (c - 4), (sl - 24)) Qr Qx) (fun e M9 => nw_hx d_L_undo 3 e Qr Qx M9)) :
    NW sc d_L_undo D (0, [some (.inr (.inl (some 0))), some (.inr (.inl (some 314))), none], [], (J, L, W), c, sl) Qr Qx := by
  refine nw_aload_n l_L_undo_0 1 rfl rfl ?_
  refine nw_iconst (len := 0) l_L_undo_1 2 rfl c_0 ?_
  refine nw_aload_n l_L_undo_2 3 rfl rfl ?_
  refine nw_drop (ls' := [none, none, none]) ⟨True.intro, ⟨True.intro, ⟨True.intro, True.intro⟩⟩⟩ ?_
  refine nw_call 3 4 24 0 l_L_undo_3 rfl rfl g_X11_undo (Nat.lt_of_lt_of_le (by decide) hD) rfl (by omega) (by omega) (Or.inl ⟨_, rfl, k_0⟩) (ls' := [some (.inr (.inl (some 0)))]) rfl (st' := [.inl 0, .inr (.inl (some 314))]) rfl 6 rfl (c' := (c - 4)) (by omega) (sl' := (sl - 24)) (by omega) ?_
  exact h
theorem b_L_undo2_6 {y0 : Int} {y1 : Int} (h : ((0 ≤ y1 ∧ y1 < 1) ∧ Qr (some (.inl 0)) (J, nw_u L 314 y1 y0, W))) :
    NW sc d_L_undo D (6, [none, none, none], [.inl y0, .inl y1, .inr (.inl (some 314))], (J, L, W), c, sl) Qr Qx := by
  refine nw_i2l l_L_undo_6 7 rfl ?_
  have o1 := h.1
  replace h := h.2
  refine nw_last l_L_undo_7 8 rfl k_314 o1 ?_
  refine nw_goto l_L_undo_8 ?_
  refine nw_iconst (len := 0) l_L_undo_14 15 rfl c_0 ?_
  refine nw_ireturn l_L_undo_15 rfl ?_
  exact h
theorem b_L_wayHours2_0 {x1 : Int} {x2 : Int} (hD : 3 ≤ D) (hc : 4 ≤ c) (hs : 24 ≤ sl) (h : NW sc d_X11_wayHours 2 (0, [some (.inr (.inl (some 0))), some (.inl x1), some (.inl x2)], [], (J, L, W), 4, 24) (fun v M9 => NW sc d_L_wayHours D (8, [none, none, none, none, none], nw_push v [.inl 0, .inr (.inl (some 314))], M9, (c - 4), (sl - 24)) Qr Qx) (fun e M9 => nw_hx d_L_wayHours 5 e Qr Qx M9)) :
    NW sc d_L_wayHours D (0, [some (.inr (.inl (some 0))), some (.inl x1), some (.inl x2), some (.inr (.inl (some 314))), none], [], (J, L, W), c, sl) Qr Qx := by
  refine nw_aload_n l_L_wayHours_0 1 rfl rfl ?_
  refine nw_iconst (len := 0) l_L_wayHours_1 2 rfl c_0 ?_
  refine nw_aload_n l_L_wayHours_2 3 rfl rfl ?_
  refine nw_iload_n l_L_wayHours_3 4 rfl rfl ?_
  refine nw_iload_n l_L_wayHours_4 5 rfl rfl ?_
  refine nw_drop (ls' := [none, none, none, none, none]) ⟨True.intro, ⟨True.intro, ⟨True.intro, ⟨True.intro, ⟨True.intro, True.intro⟩⟩⟩⟩⟩ ?_
  refine nw_call 2 4 24 0 l_L_wayHours_5 rfl rfl g_X11_wayHours (Nat.lt_of_lt_of_le (by decide) hD) rfl (by omega) (by omega) (Or.inl ⟨_, rfl, k_0⟩) (ls' := [some (.inr (.inl (some 0))), some (.inl x1), some (.inl x2)]) rfl (st' := [.inl 0, .inr (.inl (some 314))]) rfl 8 rfl (c' := (c - 4)) (by omega) (sl' := (sl - 24)) (by omega) ?_
  exact h
theorem b_L_wayHours2_8 {y0 : Int} {y1 : Int} (h : ((0 ≤ y1 ∧ y1 < 1) ∧ Qr (some (.inl 0)) (J, nw_u L 314 y1 y0, W))) :
    NW sc d_L_wayHours D (8, [none, none, none, none, none], [.inl y0, .inl y1, .inr (.inl (some 314))], (J, L, W), c, sl) Qr Qx := by
  refine nw_i2l l_L_wayHours_8 9 rfl ?_
  have o1 := h.1
  replace h := h.2
  refine nw_last l_L_wayHours_9 10 rfl k_314 o1 ?_
  refine nw_goto l_L_wayHours_10 ?_
  refine nw_iconst (len := 0) l_L_wayHours_21 22 rfl c_0 ?_
  refine nw_ireturn l_L_wayHours_22 rfl ?_
  exact h
theorem b_L_wayHoursByTable2_0 {x1 : Int} {x2 : Int} (hD : 3 ≤ D) (hc : 4 ≤ c) (hs : 24 ≤ sl) (h : NW sc d_X11_wayHoursByTable 2 (0, [some (.inr (.inl (some 0))), some (.inl x1), some (.inl x2)], [], (J, L, W), 4, 24) (fun v M9 => NW sc d_L_wayHoursByTable D (8, [none, none, none, none, none], nw_push v [.inl 0, .inr (.inl (some 314))], M9, (c - 4), (sl - 24)) Qr Qx) (fun e M9 => nw_hx d_L_wayHoursByTable 5 e Qr Qx M9)) :
    NW sc d_L_wayHoursByTable D (0, [some (.inr (.inl (some 0))), some (.inl x1), some (.inl x2), some (.inr (.inl (some 314))), none], [], (J, L, W), c, sl) Qr Qx := by
  refine nw_aload_n l_L_wayHoursByTable_0 1 rfl rfl ?_
  refine nw_iconst (len := 0) l_L_wayHoursByTable_1 2 rfl c_0 ?_
  refine nw_aload_n l_L_wayHoursByTable_2 3 rfl rfl ?_
  refine nw_iload_n l_L_wayHoursByTable_3 4 rfl rfl ?_
  refine nw_iload_n l_L_wayHoursByTable_4 5 rfl rfl ?_
  refine nw_drop (ls' := [none, none, none, none, none]) ⟨True.intro, ⟨True.intro, ⟨True.intro, ⟨True.intro, ⟨True.intro, True.intro⟩⟩⟩⟩⟩ ?_
  refine nw_call 2 4 24 0 l_L_wayHoursByTable_5 rfl rfl g_X11_wayHoursByTable (Nat.lt_of_lt_of_le (by decide) hD) rfl (by omega) (by omega) (Or.inl ⟨_, rfl, k_0⟩) (ls' := [some (.inr (.inl (some 0))), some (.inl x1), some (.inl x2)]) rfl (st' := [.inl 0, .inr (.inl (some 314))]) rfl 8 rfl (c' := (c - 4)) (by omega) (sl' := (sl - 24)) (by omega) ?_
  exact h
theorem b_L_wayHoursByTable2_8 {y0 : Int} {y1 : Int} (h : ((0 ≤ y1 ∧ y1 < 1) ∧ Qr (some (.inl 0)) (J, nw_u L 314 y1 y0, W))) :
    NW sc d_L_wayHoursByTable D (8, [none, none, none, none, none], [.inl y0, .inl y1, .inr (.inl (some 314))], (J, L, W), c, sl) Qr Qx := by
  refine nw_i2l l_L_wayHoursByTable_8 9 rfl ?_
  have o1 := h.1
  replace h := h.2
  refine nw_last l_L_wayHoursByTable_9 10 rfl k_314 o1 ?_
  refine nw_goto l_L_wayHoursByTable_10 ?_
  refine nw_iconst (len := 0) l_L_wayHoursByTable_21 22 rfl c_0 ?_
  refine nw_ireturn l_L_wayHoursByTable_22 rfl ?_
  exact h
end
