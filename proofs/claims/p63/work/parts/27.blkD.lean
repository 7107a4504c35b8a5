/-! 27.blkD: blocks of methods, by program-/
section
variable {sc : Nat × (Nat → Int32)} {D : Nat} {J L : Nat → Int → Int} {W : nw_W} {c sl : Nat} {Qr : nw_QR} {Qx : nw_QX}
theorem b_X11_addChannel_0 {x1 : Int} {x2 : Int} {x3 : Int} {x4 : Int} (hD : 4 ≤ D) (h : NW sc d_X8_copyFrom 1 (0, [some (.inr (.inl (some 55))), some (.inr (.inl (some 2)))], [], (J, L, W), 0, 0) (fun v M9 => NW sc d_X11_addChannel D (11, [some (.inr (.inl (some 0))), some (.inl x1), some (.inl x2), some (.inl x3), some (.inl x4)], nw_push v [], M9, c, sl) Qr Qx) Qx) :
    NW sc d_X11_addChannel D (0, [some (.inr (.inl (some 0))), some (.inl x1), some (.inl x2), some (.inl x3), some (.inl x4)], [], (J, L, W), c, sl) Qr Qx := by
  refine nw_aload_n l_X11_addChannel_0 1 rfl rfl ?_
  refine nw_getA l_X11_addChannel_1 4 rfl k_0 r_0_5 ?_
  refine nw_aload_n l_X11_addChannel_4 5 rfl rfl ?_
  refine nw_getA l_X11_addChannel_5 8 rfl k_0 r_0_1 ?_
  refine nw_call0 1 55 l_X11_addChannel_8 rfl rfl g_X8_copyFrom (Nat.lt_of_lt_of_le (by decide) hD) rfl (Or.inl ⟨_, rfl, k_55⟩) (ls' := [some (.inr (.inl (some 55))), some (.inr (.inl (some 2)))]) rfl (st' := []) rfl 11 rfl ?_
  exact h
theorem b_X11_addChannel_11 {x1 : Int} {x2 : Int} {x3 : Int} {x4 : Int} (hD : 4 ≤ D) (h : NW sc d_X0_openChannel 2 (0, [some (.inr (.inl (some 1))), some (.inl x1), some (.inl x2), some (.inl x3), some (.inl x4), none, none, none], [], (J, L, W), 0, 0) (fun v M9 => NW sc d_X11_addChannel D (24, [none, none, none, none, none], nw_push v [.inr (.inl (some 0))], M9, c, sl) Qr Qx) Qx) :
    NW sc d_X11_addChannel D (11, [some (.inr (.inl (some 0))), some (.inl x1), some (.inl x2), some (.inl x3), some (.inl x4)], [], (J, L, W), c, sl) Qr Qx := by
  refine nw_aload_n l_X11_addChannel_11 12 rfl rfl ?_
  refine nw_aload_n l_X11_addChannel_12 13 rfl rfl ?_
  refine nw_getA l_X11_addChannel_13 16 rfl k_0 r_0_0 ?_
  refine nw_iload_n l_X11_addChannel_16 17 rfl rfl ?_
  refine nw_iload_n l_X11_addChannel_17 18 rfl rfl ?_
  refine nw_iload_n l_X11_addChannel_18 19 rfl rfl ?_
  refine nw_iload l_X11_addChannel_19 21 rfl rfl ?_
  refine nw_drop (ls' := [none, none, none, none, none]) ⟨True.intro, ⟨True.intro, ⟨True.intro, ⟨True.intro, ⟨True.intro, True.intro⟩⟩⟩⟩⟩ ?_
  refine nw_call0 2 1 l_X11_addChannel_21 rfl rfl g_X0_openChannel (Nat.lt_of_lt_of_le (by decide) hD) rfl (Or.inl ⟨_, rfl, k_1⟩) (ls' := [some (.inr (.inl (some 1))), some (.inl x1), some (.inl x2), some (.inl x3), some (.inl x4), none, none, none]) rfl (st' := [.inr (.inl (some 0))]) rfl 24 rfl ?_
  exact h
theorem b_X11_addChannel_24 {y0 : Int} (hD : 4 ≤ D) (hc : 1 ≤ c) (hs : 6 ≤ sl) (h : NW sc d_X11_settle 3 (0, [some (.inr (.inl (some 0))), some (.inl y0)], [], (J, L, W), 1, 6) (fun v M9 => NW sc d_X11_addChannel D (27, [none, none, none, none, none], nw_push v [], M9, (c - 1), (sl - 6)) Qr Qx) Qx) :
    NW sc d_X11_addChannel D (24, [none, none, none, none, none], [.inl y0, .inr (.inl (some 0))], (J, L, W), c, sl) Qr Qx := by
  refine nw_call 3 1 6 0 l_X11_addChannel_24 rfl rfl g_X11_settle (Nat.lt_of_lt_of_le (by decide) hD) rfl (by omega) (by omega) (Or.inl ⟨_, rfl, k_0⟩) (ls' := [some (.inr (.inl (some 0))), some (.inl y0)]) rfl (st' := []) rfl 27 rfl (c' := (c - 1)) (by omega) (sl' := (sl - 6)) (by omega) ?_
  exact h
theorem b_X11_addChannel_27 {y0 : Int} (h : Qr (some (.inl y0)) (J, L, W)) :
    NW sc d_X11_addChannel D (27, [none, none, none, none, none], [.inl y0], (J, L, W), c, sl) Qr Qx := by
  refine nw_ireturn l_X11_addChannel_27 rfl ?_
  exact h
theorem b_X11_addCrater_0 {x1 : Int} (hD : 4 ≤ D) (h : NW sc d_X8_copyFrom 1 (0, [some (.inr (.inl (some 55))), some (.inr (.inl (some 2)))], [], (J, L, W), 0, 0) (fun v M9 => NW sc d_X11_addCrater D (11, [some (.inr (.inl (some 0))), some (.inl x1)], nw_push v [], M9, c, sl) Qr Qx) Qx) :
    NW sc d_X11_addCrater D (0, [some (.inr (.inl (some 0))), some (.inl x1)], [], (J, L, W), c, sl) Qr Qx := by
  refine nw_aload_n l_X11_addCrater_0 1 rfl rfl ?_
  refine nw_getA l_X11_addCrater_1 4 rfl k_0 r_0_5 ?_
  refine nw_aload_n l_X11_addCrater_4 5 rfl rfl ?_
  refine nw_getA l_X11_addCrater_5 8 rfl k_0 r_0_1 ?_
  refine nw_call0 1 55 l_X11_addCrater_8 rfl rfl g_X8_copyFrom (Nat.lt_of_lt_of_le (by decide) hD) rfl (Or.inl ⟨_, rfl, k_55⟩) (ls' := [some (.inr (.inl (some 55))), some (.inr (.inl (some 2)))]) rfl (st' := []) rfl 11 rfl ?_
  exact h
theorem b_X11_addCrater_11 {x1 : Int} (hD : 4 ≤ D) (h : NW sc d_X0_openCrater 0 (0, [some (.inr (.inl (some 1))), some (.inl x1), none], [], (J, L, W), 0, 0) (fun v M9 => NW sc d_X11_addCrater D (20, [none, none], nw_push v [.inr (.inl (some 0))], M9, c, sl) Qr Qx) Qx) :
    NW sc d_X11_addCrater D (11, [some (.inr (.inl (some 0))), some (.inl x1)], [], (J, L, W), c, sl) Qr Qx := by
  refine nw_aload_n l_X11_addCrater_11 12 rfl rfl ?_
  refine nw_aload_n l_X11_addCrater_12 13 rfl rfl ?_
  refine nw_getA l_X11_addCrater_13 16 rfl k_0 r_0_0 ?_
  refine nw_iload_n l_X11_addCrater_16 17 rfl rfl ?_
  refine nw_drop (ls' := [none, none]) ⟨True.intro, ⟨True.intro, True.intro⟩⟩ ?_
  refine nw_call0 0 1 l_X11_addCrater_17 rfl rfl g_X0_openCrater (Nat.lt_of_lt_of_le (by decide) hD) rfl (Or.inl ⟨_, rfl, k_1⟩) (ls' := [some (.inr (.inl (some 1))), some (.inl x1), none]) rfl (st' := [.inr (.inl (some 0))]) rfl 20 rfl ?_
  exact h
theorem b_X11_addCrater_20 {y0 : Int} (hD : 4 ≤ D) (hc : 1 ≤ c) (hs : 6 ≤ sl) (h : NW sc d_X11_settle 3 (0, [some (.inr (.inl (some 0))), some (.inl y0)], [], (J, L, W), 1, 6) (fun v M9 => NW sc d_X11_addCrater D (23, [none, none], nw_push v [], M9, (c - 1), (sl - 6)) Qr Qx) Qx) :
    NW sc d_X11_addCrater D (20, [none, none], [.inl y0, .inr (.inl (some 0))], (J, L, W), c, sl) Qr Qx := by
  refine nw_call 3 1 6 0 l_X11_addCrater_20 rfl rfl g_X11_settle (Nat.lt_of_lt_of_le (by decide) hD) rfl (by omega) (by omega) (Or.inl ⟨_, rfl, k_0⟩) (ls' := [some (.inr (.inl (some 0))), some (.inl y0)]) rfl (st' := []) rfl 23 rfl (c' := (c - 1)) (by omega) (sl' := (sl - 6)) (by omega) ?_
  exact h
theorem b_X11_addCrater_23 {y0 : Int} (h : Qr (some (.inl y0)) (J, L, W)) :
    NW sc d_X11_addCrater D (23, [none, none], [.inl y0], (J, L, W), c, sl) Qr Qx := by
  refine nw_ireturn l_X11_addCrater_23 rfl ?_
  exact h
theorem b_X11_addFerry_0 {x1 : Int} {x2 : Int} {x3 : Int} (hD : 4 ≤ D) (h : NW sc d_X8_copyFrom 1 (0, [some (.inr (.inl (some 55))), some (.inr (.inl (some 2)))], [], (J, L, W), 0, 0) (fun v M9 => NW sc d_X11_addFerry D (11, [some (.inr (.inl (some 0))), some (.inl x1), some (.inl x2), some (.inl x3)], nw_push v [], M9, c, sl) Qr Qx) Qx) :
    NW sc d_X11_addFerry D (0, [some (.inr (.inl (some 0))), some (.inl x1), some (.inl x2), some (.inl x3)], [], (J, L, W), c, sl) Qr Qx := by
  refine nw_aload_n l_X11_addFerry_0 1 rfl rfl ?_
  refine nw_getA l_X11_addFerry_1 4 rfl k_0 r_0_5 ?_
  refine nw_aload_n l_X11_addFerry_4 5 rfl rfl ?_
  refine nw_getA l_X11_addFerry_5 8 rfl k_0 r_0_1 ?_
  refine nw_call0 1 55 l_X11_addFerry_8 rfl rfl g_X8_copyFrom (Nat.lt_of_lt_of_le (by decide) hD) rfl (Or.inl ⟨_, rfl, k_55⟩) (ls' := [some (.inr (.inl (some 55))), some (.inr (.inl (some 2)))]) rfl (st' := []) rfl 11 rfl ?_
  exact h
theorem b_X11_addFerry_11 {x1 : Int} {x2 : Int} {x3 : Int} (hD : 4 ≤ D) (h : NW sc d_X0_enlistFerry 1 (0, [some (.inr (.inl (some 1))), some (.inl x1), some (.inl x2), some (.inl x3), none, none, none], [], (J, L, W), 0, 0) (fun v M9 => NW sc d_X11_addFerry D (22, [none, none, none, none], nw_push v [.inr (.inl (some 0))], M9, c, sl) Qr Qx) Qx) :
    NW sc d_X11_addFerry D (11, [some (.inr (.inl (some 0))), some (.inl x1), some (.inl x2), some (.inl x3)], [], (J, L, W), c, sl) Qr Qx := by
  refine nw_aload_n l_X11_addFerry_11 12 rfl rfl ?_
  refine nw_aload_n l_X11_addFerry_12 13 rfl rfl ?_
  refine nw_getA l_X11_addFerry_13 16 rfl k_0 r_0_0 ?_
  refine nw_iload_n l_X11_addFerry_16 17 rfl rfl ?_
  refine nw_iload_n l_X11_addFerry_17 18 rfl rfl ?_
  refine nw_iload_n l_X11_addFerry_18 19 rfl rfl ?_
  refine nw_drop (ls' := [none, none, none, none]) ⟨True.intro, ⟨True.intro, ⟨True.intro, ⟨True.intro, True.intro⟩⟩⟩⟩ ?_
  refine nw_call0 1 1 l_X11_addFerry_19 rfl rfl g_X0_enlistFerry (Nat.lt_of_lt_of_le (by decide) hD) rfl (Or.inl ⟨_, rfl, k_1⟩) (ls' := [some (.inr (.inl (some 1))), some (.inl x1), some (.inl x2), some (.inl x3), none, none, none]) rfl (st' := [.inr (.inl (some 0))]) rfl 22 rfl ?_
  exact h
theorem b_X11_addFerry_22 {y0 : Int} (hD : 4 ≤ D) (hc : 1 ≤ c) (hs : 6 ≤ sl) (h : NW sc d_X11_settle 3 (0, [some (.inr (.inl (some 0))), some (.inl y0)], [], (J, L, W), 1, 6) (fun v M9 => NW sc d_X11_addFerry D (25, [none, none, none, none], nw_push v [], M9, (c - 1), (sl - 6)) Qr Qx) Qx) :
    NW sc d_X11_addFerry D (22, [none, none, none, none], [.inl y0, .inr (.inl (some 0))], (J, L, W), c, sl) Qr Qx := by
  refine nw_call 3 1 6 0 l_X11_addFerry_22 rfl rfl g_X11_settle (Nat.lt_of_lt_of_le (by decide) hD) rfl (by omega) (by omega) (Or.inl ⟨_, rfl, k_0⟩) (ls' := [some (.inr (.inl (some 0))), some (.inl y0)]) rfl (st' := []) rfl 25 rfl (c' := (c - 1)) (by omega) (sl' := (sl - 6)) (by omega) ?_
  exact h
theorem b_X11_addFerry_25 {y0 : Int} (h : Qr (some (.inl y0)) (J, L, W)) :
    NW sc d_X11_addFerry D (25, [none, none, none, none], [.inl y0], (J, L, W), c, sl) Qr Qx := by
  refine nw_ireturn l_X11_addFerry_25 rfl ?_
  exact h
theorem b_X11_addMoon_0 {x1 : Int} {x2 : Int} {x3 : Int} {x4 : Int} (hD : 4 ≤ D) (h : NW sc d_X8_copyFrom 1 (0, [some (.inr (.inl (some 55))), some (.inr (.inl (some 2)))], [], (J, L, W), 0, 0) (fun v M9 => NW sc d_X11_addMoon D (11, [some (.inr (.inl (some 0))), some (.inl x1), some (.inl x2), some (.inl x3), some (.inl x4)], nw_push v [], M9, c, sl) Qr Qx) Qx) :
    NW sc d_X11_addMoon D (0, [some (.inr (.inl (some 0))), some (.inl x1), some (.inl x2), some (.inl x3), some (.inl x4)], [], (J, L, W), c, sl) Qr Qx := by
  refine nw_aload_n l_X11_addMoon_0 1 rfl rfl ?_
  refine nw_getA l_X11_addMoon_1 4 rfl k_0 r_0_5 ?_
  refine nw_aload_n l_X11_addMoon_4 5 rfl rfl ?_
  refine nw_getA l_X11_addMoon_5 8 rfl k_0 r_0_1 ?_
  refine nw_call0 1 55 l_X11_addMoon_8 rfl rfl g_X8_copyFrom (Nat.lt_of_lt_of_le (by decide) hD) rfl (Or.inl ⟨_, rfl, k_55⟩) (ls' := [some (.inr (.inl (some 55))), some (.inr (.inl (some 2)))]) rfl (st' := []) rfl 11 rfl ?_
  exact h
theorem b_X11_addMoon_11 {x1 : Int} {x2 : Int} {x3 : Int} {x4 : Int} (hD : 4 ≤ D) (h : NW sc d_X0_enlistMoon 1 (0, [some (.inr (.inl (some 1))), some (.inl x1), some (.inl x2), some (.inl x3), some (.inl x4), none, none, none], [], (J, L, W), 0, 0) (fun v M9 => NW sc d_X11_addMoon D (24, [none, none, none, none, none], nw_push v [.inr (.inl (some 0))], M9, c, sl) Qr Qx) Qx) :
    NW sc d_X11_addMoon D (11, [some (.inr (.inl (some 0))), some (.inl x1), some (.inl x2), some (.inl x3), some (.inl x4)], [], (J, L, W), c, sl) Qr Qx := by
  refine nw_aload_n l_X11_addMoon_11 12 rfl rfl ?_
  refine nw_aload_n l_X11_addMoon_12 13 rfl rfl ?_
  refine nw_getA l_X11_addMoon_13 16 rfl k_0 r_0_0 ?_
  refine nw_iload_n l_X11_addMoon_16 17 rfl rfl ?_
  refine nw_iload_n l_X11_addMoon_17 18 rfl rfl ?_
  refine nw_iload_n l_X11_addMoon_18 19 rfl rfl ?_
  refine nw_iload l_X11_addMoon_19 21 rfl rfl ?_
  refine nw_drop (ls' := [none, none, none, none, none]) ⟨True.intro, ⟨True.intro, ⟨True.intro, ⟨True.intro, ⟨True.intro, True.intro⟩⟩⟩⟩⟩ ?_
  refine nw_call0 1 1 l_X11_addMoon_21 rfl rfl g_X0_enlistMoon (Nat.lt_of_lt_of_le (by decide) hD) rfl (Or.inl ⟨_, rfl, k_1⟩) (ls' := [some (.inr (.inl (some 1))), some (.inl x1), some (.inl x2), some (.inl x3), some (.inl x4), none, none, none]) rfl (st' := [.inr (.inl (some 0))]) rfl 24 rfl ?_
  exact h
theorem b_X11_addMoon_24 {y0 : Int} (hD : 4 ≤ D) (hc : 1 ≤ c) (hs : 6 ≤ sl) (h : NW sc d_X11_settle 3 (0, [some (.inr (.inl (some 0))), some (.inl y0)], [], (J, L, W), 1, 6) (fun v M9 => NW sc d_X11_addMoon D (27, [none, none, none, none, none], nw_push v [], M9, (c - 1), (sl - 6)) Qr Qx) Qx) :
    NW sc d_X11_addMoon D (24, [none, none, none, none, none], [.inl y0, .inr (.inl (some 0))], (J, L, W), c, sl) Qr Qx := by
  refine nw_call 3 1 6 0 l_X11_addMoon_24 rfl rfl g_X11_settle (Nat.lt_of_lt_of_le (by decide) hD) rfl (by omega) (by omega) (Or.inl ⟨_, rfl, k_0⟩) (ls' := [some (.inr (.inl (some 0))), some (.inl y0)]) rfl (st' := []) rfl 27 rfl (c' := (c - 1)) (by omega) (sl' := (sl - 6)) (by omega) ?_
  exact h
theorem b_X11_addMoon_27 {y0 : Int} (h : Qr (some (.inl y0)) (J, L, W)) :
    NW sc d_X11_addMoon D (27, [none, none, none, none, none], [.inl y0], (J, L, W), c, sl) Qr Qx := by
  refine nw_ireturn l_X11_addMoon_27 rfl ?_
  exact h
theorem b_X11_append_0 {x1 : Int} (hD : 1 ≤ D) (hc : 1 ≤ c) (hs : 6 ≤ sl) (h : ((x1 < 32 → (∀ n2, W.2.2.2.2 ≤ n2 → Qx 1 (J, L, nw_top W n2))) ∧ (32 ≤ x1 → ((x1 ≤ 126 → ((J 297 0 < 60 → NW sc d_X1_addSign 0 (0, [some (.inr (.inl (some 297))), some (.inl x1)], [], (J, L, W), 0, 0) (fun v M9 => NW sc d_X11_append D (48, [some (.inr (.inl (some 0))), none], nw_push v [], M9, c, sl) Qr Qx) Qx) ∧ (60 ≤ J 297 0 → (∀ n5, W.2.2.2.2 ≤ n5 → Qx 2 (J, L, nw_top W n5))))) ∧ (126 < x1 → (∀ n6, W.2.2.2.2 ≤ n6 → Qx 1 (J, L, nw_top W n6))))))) :
    NW sc d_X11_append D (0, [some (.inr (.inl (some 0))), some (.inl x1)], [], (J, L, W), c, sl) Qr Qx := by
  refine nw_iload_n l_X11_append_0 1 rfl rfl ?_
  refine nw_bipush (len := 0) l_X11_append_1 3 rfl c_32 ?_
  refine nw_ic_lt l_X11_append_3 6 rfl (fun q1 => ?_) (fun q1 => ?_)
  · replace h := h.1 q1
    refine nw_throw 1 l_X11_append_12 ⟨rfl, rfl, rfl, by decide, rfl⟩ (by omega) (by omega) (fun n2 z2 => ?_)
    replace h := h n2 z2
    exact h
  · replace h := h.2 q1
    refine nw_iload_n l_X11_append_6 7 rfl rfl ?_
    refine nw_bipush (len := 0) l_X11_append_7 9 rfl c_126 ?_
    refine nw_ic_le l_X11_append_9 12 rfl (fun q3 => ?_) (fun q3 => ?_)
    · replace h := h.1 q3
      refine nw_aload_n l_X11_append_20 21 rfl rfl ?_
      refine nw_getA l_X11_append_21 24 rfl k_0 r_0_8 ?_
      refine nw_getI l_X11_append_24 27 rfl k_297 (v := J 297 0) rfl ?_
      refine nw_bipush (len := 0) l_X11_append_27 29 rfl c_60 ?_
      refine nw_ic_lt l_X11_append_29 32 rfl (fun q4 => ?_) (fun q4 => ?_)
      · replace h := h.1 q4
        refine nw_aload_n l_X11_append_40 41 rfl rfl ?_
        refine nw_getA l_X11_append_41 44 rfl k_0 r_0_8 ?_
        refine nw_iload_n l_X11_append_44 45 rfl rfl ?_
        refine nw_drop (ls' := [some (.inr (.inl (some 0))), none]) ⟨rfl, ⟨True.intro, True.intro⟩⟩ ?_
        refine nw_call0 0 297 l_X11_append_45 rfl rfl g_X1_addSign (Nat.lt_of_lt_of_le (by decide) hD) rfl (Or.inl ⟨_, rfl, k_297⟩) (ls' := [some (.inr (.inl (some 297))), some (.inl x1)]) rfl (st' := []) rfl 48 rfl ?_
        exact h
      · replace h := h.2 q4
        refine nw_throw 2 l_X11_append_32 ⟨rfl, rfl, rfl, by decide, rfl⟩ (by omega) (by omega) (fun n5 z5 => ?_)
        replace h := h n5 z5
        exact h
    · replace h := h.2 q3
      refine nw_throw 1 l_X11_append_12 ⟨rfl, rfl, rfl, by decide, rfl⟩ (by omega) (by omega) (fun n6 z6 => ?_)
      replace h := h n6 z6
      exact h
theorem b_X11_append_48  (h : Qr (some (.inl (J 297 0))) (J, L, W)) :
    NW sc d_X11_append D (48, [some (.inr (.inl (some 0))), none], [], (J, L, W), c, sl) Qr Qx := by
  refine nw_aload_n l_X11_append_48 49 rfl rfl ?_
  refine nw_getA l_X11_append_49 52 rfl k_0 r_0_8 ?_
  refine nw_getI l_X11_append_52 55 rfl k_297 (v := J 297 0) rfl ?_
  refine nw_ireturn l_X11_append_55 rfl ?_
  exact h
theorem b_X11_arrivalsAgree_0  (h : NW sc d_X11_arrivalsAgree D (2, [some (.inr (.inl (some 0))), some (.inl 0), none], [], (J, L, W), c, sl) Qr Qx) :
    NW sc d_X11_arrivalsAgree D (0, [some (.inr (.inl (some 0))), none, none], [], (J, L, W), c, sl) Qr Qx := by
  refine nw_iconst (len := 0) l_X11_arrivalsAgree_0 1 rfl c_0 ?_
  refine nw_istore_n l_X11_arrivalsAgree_1 2 rfl rfl (ls' := [some (.inr (.inl (some 0))), some (.inl 0), none]) rfl ?_
  exact h
theorem b_X11_arrivalsAgree_2 {x1 : Int} (hD : 5 ≤ D) (h : ((J 9 0 ≤ x1 → Qr (some (.inl 1)) (J, L, W)) ∧ (x1 < J 9 0 → NW sc d_X10_arriveByQueue 4 (0, [some (.inr (.inl (some 29))), some (.inr (.inl (some 2))), some (.inl x1), none, none, none], [], (J, L, W), 0, 0) (fun v M9 => NW sc d_X11_arrivalsAgree D (28, [some (.inr (.inl (some 0))), some (.inl x1), none], nw_push v [], M9, c, sl) Qr Qx) Qx))) :
    NW sc d_X11_arrivalsAgree D (2, [some (.inr (.inl (some 0))), some (.inl x1), none], [], (J, L, W), c, sl) Qr Qx := by
  refine nw_iload_n l_X11_arrivalsAgree_2 3 rfl rfl ?_
  refine nw_aload_n l_X11_arrivalsAgree_3 4 rfl rfl ?_
  refine nw_getA l_X11_arrivalsAgree_4 7 rfl k_0 r_0_1 ?_
  refine nw_getA l_X11_arrivalsAgree_7 10 rfl k_2 r_2_1 ?_
  refine nw_getI l_X11_arrivalsAgree_10 13 rfl k_9 (v := J 9 0) rfl ?_
  refine nw_ic_ge l_X11_arrivalsAgree_13 16 rfl (fun q1 => ?_) (fun q1 => ?_)
  · replace h := h.1 q1
    refine nw_iconst (len := 0) l_X11_arrivalsAgree_91 92 rfl c_1 ?_
    refine nw_ireturnZ l_X11_arrivalsAgree_92 rfl (Or.inr rfl) ?_
    exact h
  · replace h := h.2 q1
    refine nw_aload_n l_X11_arrivalsAgree_16 17 rfl rfl ?_
    refine nw_getA l_X11_arrivalsAgree_17 20 rfl k_0 r_0_4 ?_
    refine nw_aload_n l_X11_arrivalsAgree_20 21 rfl rfl ?_
    refine nw_getA l_X11_arrivalsAgree_21 24 rfl k_0 r_0_1 ?_
    refine nw_iload_n l_X11_arrivalsAgree_24 25 rfl rfl ?_
    refine nw_call0 4 29 l_X11_arrivalsAgree_25 rfl rfl g_X10_arriveByQueue (Nat.lt_of_lt_of_le (by decide) hD) rfl (Or.inl ⟨_, rfl, k_29⟩) (ls' := [some (.inr (.inl (some 29))), some (.inr (.inl (some 2))), some (.inl x1), none, none, none]) rfl (st' := []) rfl 28 rfl ?_
    exact h
theorem b_X11_arrivalsAgree_28 {x1 : Int} (hD : 5 ≤ D) (h : NW sc d_X10_arriveByHours 3 (0, [some (.inr (.inl (some 29))), some (.inr (.inl (some 2))), some (.inl x1), none, none, none], [], (J, L, W), 0, 0) (fun v M9 => NW sc d_X11_arrivalsAgree D (40, [some (.inr (.inl (some 0))), some (.inl x1), none], nw_push v [], M9, c, sl) Qr Qx) Qx) :
    NW sc d_X11_arrivalsAgree D (28, [some (.inr (.inl (some 0))), some (.inl x1), none], [], (J, L, W), c, sl) Qr Qx := by
  refine nw_aload_n l_X11_arrivalsAgree_28 29 rfl rfl ?_
  refine nw_getA l_X11_arrivalsAgree_29 32 rfl k_0 r_0_4 ?_
  refine nw_aload_n l_X11_arrivalsAgree_32 33 rfl rfl ?_
  refine nw_getA l_X11_arrivalsAgree_33 36 rfl k_0 r_0_1 ?_
  refine nw_iload_n l_X11_arrivalsAgree_36 37 rfl rfl ?_
  refine nw_call0 3 29 l_X11_arrivalsAgree_37 rfl rfl g_X10_arriveByHours (Nat.lt_of_lt_of_le (by decide) hD) rfl (Or.inl ⟨_, rfl, k_29⟩) (ls' := [some (.inr (.inl (some 29))), some (.inr (.inl (some 2))), some (.inl x1), none, none, none]) rfl (st' := []) rfl 40 rfl ?_
  exact h
theorem b_X11_arrivalsAgree_40 {x1 : Int} (h : NW sc d_X11_arrivalsAgree D (42, [some (.inr (.inl (some 0))), some (.inl x1), some (.inl 0)], [], (J, L, W), c, sl) Qr Qx) :
    NW sc d_X11_arrivalsAgree D (40, [some (.inr (.inl (some 0))), some (.inl x1), none], [], (J, L, W), c, sl) Qr Qx := by
  refine nw_iconst (len := 0) l_X11_arrivalsAgree_40 41 rfl c_0 ?_
  refine nw_istore_n l_X11_arrivalsAgree_41 42 rfl rfl (ls' := [some (.inr (.inl (some 0))), some (.inl x1), some (.inl 0)]) rfl ?_
  exact h
theorem b_X11_arrivalsAgree_42 {x1 : Int} {x2 : Int} (h : ((J 3 0 ≤ x2 → ((-2147483648 ≤ x1 + 1 ∧ x1 + 1 < 2147483648) ∧ NW sc d_X11_arrivalsAgree D (2, [some (.inr (.inl (some 0))), some (.inl (x1 + 1)), none], [], (J, L, W), c, sl) Qr Qx)) ∧ (x2 < J 3 0 → ((0 ≤ x2 ∧ x2 < 6) ∧ ((J 38 x2 = J 39 x2 → ((-2147483648 ≤ x2 + 1 ∧ x2 + 1 < 2147483648) ∧ NW sc d_X11_arrivalsAgree D (42, [some (.inr (.inl (some 0))), some (.inl x1), some (.inl (x2 + 1))], [], (J, L, W), c, sl) Qr Qx)) ∧ (¬ J 38 x2 = J 39 x2 → Qr (some (.inl 0)) (J, L, W))))))) :
    NW sc d_X11_arrivalsAgree D (42, [some (.inr (.inl (some 0))), some (.inl x1), some (.inl x2)], [], (J, L, W), c, sl) Qr Qx := by
  refine nw_iload_n l_X11_arrivalsAgree_42 43 rfl rfl ?_
  refine nw_aload_n l_X11_arrivalsAgree_43 44 rfl rfl ?_
  refine nw_getA l_X11_arrivalsAgree_44 47 rfl k_0 r_0_1 ?_
  refine nw_getA l_X11_arrivalsAgree_47 50 rfl k_2 r_2_0 ?_
  refine nw_getI l_X11_arrivalsAgree_50 53 rfl k_3 (v := J 3 0) rfl ?_
  refine nw_ic_ge l_X11_arrivalsAgree_53 56 rfl (fun q1 => ?_) (fun q1 => ?_)
  · replace h := h.1 q1
    have o2 := h.1
    replace h := h.2
    refine nw_iinc l_X11_arrivalsAgree_85 88 rfl 1 (by decide) rfl rfl o2 (ls' := [some (.inr (.inl (some 0))), some (.inl (x1 + 1)), some (.inl x2)]) rfl ?_
    refine nw_goto l_X11_arrivalsAgree_88 ?_
    refine nw_drop (ls' := [some (.inr (.inl (some 0))), some (.inl (x1 + 1)), none]) ⟨rfl, ⟨rfl, ⟨True.intro, True.intro⟩⟩⟩ ?_
    exact h
  · replace h := h.2 q1
    refine nw_aload_n l_X11_arrivalsAgree_56 57 rfl rfl ?_
    refine nw_getA l_X11_arrivalsAgree_57 60 rfl k_0 r_0_4 ?_
    refine nw_getA l_X11_arrivalsAgree_60 63 rfl k_29 r_29_2 ?_
    refine nw_iload_n l_X11_arrivalsAgree_63 64 rfl rfl ?_
    have o3 := h.1
    replace h := h.2
    refine nw_iald l_X11_arrivalsAgree_64 65 rfl k_38 o3 (v := J 38 x2) rfl ?_
    refine nw_aload_n l_X11_arrivalsAgree_65 66 rfl rfl ?_
    refine nw_getA l_X11_arrivalsAgree_66 69 rfl k_0 r_0_4 ?_
    refine nw_getA l_X11_arrivalsAgree_69 72 rfl k_29 r_29_3 ?_
    refine nw_iload_n l_X11_arrivalsAgree_72 73 rfl rfl ?_
    refine nw_iald l_X11_arrivalsAgree_73 74 rfl k_39 o3 (v := J 39 x2) rfl ?_
    refine nw_ic_eq l_X11_arrivalsAgree_74 77 rfl (fun q4 => ?_) (fun q4 => ?_)
    · replace h := h.1 q4
      have o5 := h.1
      replace h := h.2
      refine nw_iinc l_X11_arrivalsAgree_79 82 rfl 1 (by decide) rfl rfl o5 (ls' := [some (.inr (.inl (some 0))), some (.inl x1), some (.inl (x2 + 1))]) rfl ?_
      refine nw_goto l_X11_arrivalsAgree_82 ?_
      exact h
    · replace h := h.2 q4
      refine nw_iconst (len := 0) l_X11_arrivalsAgree_77 78 rfl c_0 ?_
      refine nw_ireturnZ l_X11_arrivalsAgree_78 rfl (Or.inl rfl) ?_
      exact h
theorem b_X11_bestLoad_0 {x1 : Int} (hD : 14 ≤ D) (hc : 2 ≤ c) (hs : 12 ≤ sl) (h : ((x1 < 0 → (∀ n2, W.2.2.2.2 ≤ n2 → Qx 0 (J, L, nw_top W n2))) ∧ (0 ≤ x1 → ((J 9 0 ≤ x1 → (∀ n4, W.2.2.2.2 ≤ n4 → Qx 0 (J, L, nw_top W n4))) ∧ (x1 < J 9 0 → ((0 ≤ x1 ∧ x1 < 3) ∧ ((J 11 x1 = (-1) → NW sc d_X6_gather 3 (0, [some (.inr (.inl (some 26))), some (.inr (.inl (some 2))), some (.inl x1), none, none, none], [], (J, L, W), 0, 0) (fun v M9 => NW sc d_X11_bestLoad D (22, [some (.inr (.inl (some 0))), none], nw_push v [], M9, (c - 2), (sl - 12)) Qr Qx) Qx) ∧ (¬ J 11 x1 = (-1) → (∀ n7, W.2.2.2.2 ≤ n7 → Qx 2 (J, L, nw_top W n7)))))))))) :
    NW sc d_X11_bestLoad D (0, [some (.inr (.inl (some 0))), some (.inl x1)], [], (J, L, W), c, sl) Qr Qx := by
  refine nw_aload_n l_X11_bestLoad_0 1 rfl rfl ?_
  refine nw_iload_n l_X11_bestLoad_1 2 rfl rfl ?_
  refine nw_call 1 1 6 0 l_X11_bestLoad_2 rfl rfl g_X11_needFerry (Nat.lt_of_lt_of_le (by decide) hD) rfl (by omega) (by omega) (Or.inl ⟨_, rfl, k_0⟩) (ls' := [some (.inr (.inl (some 0))), some (.inl x1)]) rfl (st' := []) rfl 5 rfl (c' := (c - 1)) (by omega) (sl' := (sl - 6)) (by omega) ?_
  refine nw_aload_n l_X11_needFerry_0 1 rfl rfl ?_
  refine nw_getA l_X11_needFerry_1 4 rfl k_0 r_0_1 ?_
  refine nw_getA l_X11_needFerry_4 7 rfl k_2 r_2_1 ?_
  refine nw_iload_n l_X11_needFerry_7 8 rfl rfl ?_
  refine nw_call0 0 9 l_X11_needFerry_8 rfl rfl g_X4_hasFerry (by decide) rfl (Or.inl ⟨_, rfl, k_9⟩) (ls' := [some (.inr (.inl (some 9))), some (.inl x1)]) rfl (st' := []) rfl 11 rfl ?_
  refine nw_iload_n l_X4_hasFerry_0 1 rfl rfl ?_
  refine nw_if_lt l_X4_hasFerry_1 4 rfl (fun q1 => ?_) (fun q1 => ?_)
  · replace h := h.1 q1
    refine nw_iconst (len := 0) l_X4_hasFerry_16 17 rfl c_0 ?_
    refine nw_ireturnZ l_X4_hasFerry_17 rfl (Or.inl rfl) ?_
    refine nw_if_ne l_X11_needFerry_11 14 rfl (fun q => absurd q (by decide)) (fun _ => ?_)
    refine nw_throw 0 l_X11_needFerry_14 ⟨rfl, rfl, rfl, by decide, rfl⟩ (by decide) (by decide) (fun n2 z2 => ?_)
    replace h := h n2 z2
    exact h
  · replace h := h.2 q1
    refine nw_iload_n l_X4_hasFerry_4 5 rfl rfl ?_
    refine nw_aload_n l_X4_hasFerry_5 6 rfl rfl ?_
    refine nw_getI l_X4_hasFerry_6 9 rfl k_9 (v := J 9 0) rfl ?_
    refine nw_ic_ge l_X4_hasFerry_9 12 rfl (fun q3 => ?_) (fun q3 => ?_)
    · replace h := h.1 q3
      refine nw_iconst (len := 0) l_X4_hasFerry_16 17 rfl c_0 ?_
      refine nw_ireturnZ l_X4_hasFerry_17 rfl (Or.inl rfl) ?_
      refine nw_if_ne l_X11_needFerry_11 14 rfl (fun q => absurd q (by decide)) (fun _ => ?_)
      refine nw_throw 0 l_X11_needFerry_14 ⟨rfl, rfl, rfl, by decide, rfl⟩ (by decide) (by decide) (fun n4 z4 => ?_)
      replace h := h n4 z4
      exact h
    · replace h := h.2 q3
      refine nw_iconst (len := 0) l_X4_hasFerry_12 13 rfl c_1 ?_
      refine nw_goto l_X4_hasFerry_13 ?_
      refine nw_ireturnZ l_X4_hasFerry_17 rfl (Or.inr rfl) ?_
      refine nw_if_ne l_X11_needFerry_11 14 rfl (fun _ => ?_) (fun q => absurd q (by decide))
      refine nw_return l_X11_needFerry_22 rfl ?_
      refine nw_aload_n l_X11_bestLoad_5 6 rfl rfl ?_
      refine nw_iload_n l_X11_bestLoad_6 7 rfl rfl ?_
      refine nw_call 1 1 6 0 l_X11_bestLoad_7 rfl rfl g_X11_needAshore (Nat.lt_of_lt_of_le (by decide) hD) rfl (by omega) (by omega) (Or.inl ⟨_, rfl, k_0⟩) (ls' := [some (.inr (.inl (some 0))), some (.inl x1)]) rfl (st' := []) rfl 10 rfl (c' := (c - 2)) (by omega) (sl' := (sl - 12)) (by omega) ?_
      refine nw_aload_n l_X11_needAshore_0 1 rfl rfl ?_
      refine nw_getA l_X11_needAshore_1 4 rfl k_0 r_0_1 ?_
      refine nw_getA l_X11_needAshore_4 7 rfl k_2 r_2_1 ?_
      refine nw_iload_n l_X11_needAshore_7 8 rfl rfl ?_
      refine nw_call0 0 9 l_X11_needAshore_8 rfl rfl g_X4_underWay (by decide) rfl (Or.inl ⟨_, rfl, k_9⟩) (ls' := [some (.inr (.inl (some 9))), some (.inl x1)]) rfl (st' := []) rfl 11 rfl ?_
      refine nw_aload_n l_X4_underWay_0 1 rfl rfl ?_
      refine nw_getA l_X4_underWay_1 4 rfl k_9 r_9_2 ?_
      refine nw_iload_n l_X4_underWay_4 5 rfl rfl ?_
      have o5 := h.1
      replace h := h.2
      refine nw_iald l_X4_underWay_5 6 rfl k_11 o5 (v := J 11 x1) rfl ?_
      refine nw_iconst (len := 0) l_X4_underWay_6 7 rfl c_n1 ?_
      refine nw_ic_eq l_X4_underWay_7 10 rfl (fun q6 => ?_) (fun q6 => ?_)
      · replace h := h.1 q6
        refine nw_iconst (len := 0) l_X4_underWay_14 15 rfl c_0 ?_
        refine nw_ireturnZ l_X4_underWay_15 rfl (Or.inl rfl) ?_
        refine nw_if_eq l_X11_needAshore_11 14 rfl (fun _ => ?_) (fun q => absurd q (by decide))
        refine nw_return l_X11_needAshore_22 rfl ?_
        refine nw_aload_n l_X11_bestLoad_10 11 rfl rfl ?_
        refine nw_getA l_X11_bestLoad_11 14 rfl k_0 r_0_2 ?_
        refine nw_aload_n l_X11_bestLoad_14 15 rfl rfl ?_
        refine nw_getA l_X11_bestLoad_15 18 rfl k_0 r_0_1 ?_
        refine nw_iload_n l_X11_bestLoad_18 19 rfl rfl ?_
        refine nw_drop (ls' := [some (.inr (.inl (some 0))), none]) ⟨rfl, ⟨True.intro, True.intro⟩⟩ ?_
        refine nw_call0 3 26 l_X11_bestLoad_19 rfl rfl g_X6_gather (Nat.lt_of_lt_of_le (by decide) hD) rfl (Or.inl ⟨_, rfl, k_26⟩) (ls' := [some (.inr (.inl (some 26))), some (.inr (.inl (some 2))), some (.inl x1), none, none, none]) rfl (st' := []) rfl 22 rfl ?_
        exact h
      · replace h := h.2 q6
        refine nw_iconst (len := 0) l_X4_underWay_10 11 rfl c_1 ?_
        refine nw_goto l_X4_underWay_11 ?_
        refine nw_ireturnZ l_X4_underWay_15 rfl (Or.inr rfl) ?_
        refine nw_if_eq l_X11_needAshore_11 14 rfl (fun q => absurd q (by decide)) (fun _ => ?_)
        refine nw_throw 2 l_X11_needAshore_14 ⟨rfl, rfl, rfl, by decide, rfl⟩ (by decide) (by decide) (fun n7 z7 => ?_)
        replace h := h n7 z7
        exact h
theorem b_X11_bestLoad_22  (hD : 14 ≤ D) (h : NW sc d_X6_sumByDeciding 13 (0, [some (.inr (.inl (some 26)))], [], (J, L, W), 0, 0) (fun v M9 => NW sc d_X11_bestLoad D (29, [none, none], nw_push v [], M9, c, sl) Qr Qx) Qx) :
    NW sc d_X11_bestLoad D (22, [some (.inr (.inl (some 0))), none], [], (J, L, W), c, sl) Qr Qx := by
  refine nw_aload_n l_X11_bestLoad_22 23 rfl rfl ?_
  refine nw_getA l_X11_bestLoad_23 26 rfl k_0 r_0_2 ?_
  refine nw_drop (ls' := [none, none]) ⟨True.intro, ⟨True.intro, True.intro⟩⟩ ?_
  refine nw_call0 13 26 l_X11_bestLoad_26 rfl rfl g_X6_sumByDeciding (Nat.lt_of_lt_of_le (by decide) hD) rfl (Or.inl ⟨_, rfl, k_26⟩) (ls' := [some (.inr (.inl (some 26)))]) rfl (st' := []) rfl 29 rfl ?_
  exact h
theorem b_X11_bestLoad_29 {y0 : Int} (h : Qr (some (.inl y0)) (J, L, W)) :
    NW sc d_X11_bestLoad D (29, [none, none], [.inl y0], (J, L, W), c, sl) Qr Qx := by
  refine nw_ireturn l_X11_bestLoad_29 rfl ?_
  exact h
theorem b_X11_bestLoadByTable_0 {x1 : Int} (hD : 4 ≤ D) (hc : 2 ≤ c) (hs : 12 ≤ sl) (h : ((x1 < 0 → (∀ n2, W.2.2.2.2 ≤ n2 → Qx 0 (J, L, nw_top W n2))) ∧ (0 ≤ x1 → ((J 9 0 ≤ x1 → (∀ n4, W.2.2.2.2 ≤ n4 → Qx 0 (J, L, nw_top W n4))) ∧ (x1 < J 9 0 → ((0 ≤ x1 ∧ x1 < 3) ∧ ((J 11 x1 = (-1) → NW sc d_X6_gather 3 (0, [some (.inr (.inl (some 26))), some (.inr (.inl (some 2))), some (.inl x1), none, none, none], [], (J, L, W), 0, 0) (fun v M9 => NW sc d_X11_bestLoadByTable D (22, [some (.inr (.inl (some 0))), none], nw_push v [], M9, (c - 2), (sl - 12)) Qr Qx) Qx) ∧ (¬ J 11 x1 = (-1) → (∀ n7, W.2.2.2.2 ≤ n7 → Qx 2 (J, L, nw_top W n7)))))))))) :
    NW sc d_X11_bestLoadByTable D (0, [some (.inr (.inl (some 0))), some (.inl x1)], [], (J, L, W), c, sl) Qr Qx := by
  refine nw_aload_n l_X11_bestLoadByTable_0 1 rfl rfl ?_
  refine nw_iload_n l_X11_bestLoadByTable_1 2 rfl rfl ?_
  refine nw_call 1 1 6 0 l_X11_bestLoadByTable_2 rfl rfl g_X11_needFerry (Nat.lt_of_lt_of_le (by decide) hD) rfl (by omega) (by omega) (Or.inl ⟨_, rfl, k_0⟩) (ls' := [some (.inr (.inl (some 0))), some (.inl x1)]) rfl (st' := []) rfl 5 rfl (c' := (c - 1)) (by omega) (sl' := (sl - 6)) (by omega) ?_
  refine nw_aload_n l_X11_needFerry_0 1 rfl rfl ?_
  refine nw_getA l_X11_needFerry_1 4 rfl k_0 r_0_1 ?_
  refine nw_getA l_X11_needFerry_4 7 rfl k_2 r_2_1 ?_
  refine nw_iload_n l_X11_needFerry_7 8 rfl rfl ?_
  refine nw_call0 0 9 l_X11_needFerry_8 rfl rfl g_X4_hasFerry (by decide) rfl (Or.inl ⟨_, rfl, k_9⟩) (ls' := [some (.inr (.inl (some 9))), some (.inl x1)]) rfl (st' := []) rfl 11 rfl ?_
  refine nw_iload_n l_X4_hasFerry_0 1 rfl rfl ?_
  refine nw_if_lt l_X4_hasFerry_1 4 rfl (fun q1 => ?_) (fun q1 => ?_)
  · replace h := h.1 q1
    refine nw_iconst (len := 0) l_X4_hasFerry_16 17 rfl c_0 ?_
    refine nw_ireturnZ l_X4_hasFerry_17 rfl (Or.inl rfl) ?_
    refine nw_if_ne l_X11_needFerry_11 14 rfl (fun q => absurd q (by decide)) (fun _ => ?_)
    refine nw_throw 0 l_X11_needFerry_14 ⟨rfl, rfl, rfl, by decide, rfl⟩ (by decide) (by decide) (fun n2 z2 => ?_)
    replace h := h n2 z2
    exact h
  · replace h := h.2 q1
    refine nw_iload_n l_X4_hasFerry_4 5 rfl rfl ?_
    refine nw_aload_n l_X4_hasFerry_5 6 rfl rfl ?_
    refine nw_getI l_X4_hasFerry_6 9 rfl k_9 (v := J 9 0) rfl ?_
    refine nw_ic_ge l_X4_hasFerry_9 12 rfl (fun q3 => ?_) (fun q3 => ?_)
    · replace h := h.1 q3
      refine nw_iconst (len := 0) l_X4_hasFerry_16 17 rfl c_0 ?_
      refine nw_ireturnZ l_X4_hasFerry_17 rfl (Or.inl rfl) ?_
      refine nw_if_ne l_X11_needFerry_11 14 rfl (fun q => absurd q (by decide)) (fun _ => ?_)
      refine nw_throw 0 l_X11_needFerry_14 ⟨rfl, rfl, rfl, by decide, rfl⟩ (by decide) (by decide) (fun n4 z4 => ?_)
      replace h := h n4 z4
      exact h
    · replace h := h.2 q3
      refine nw_iconst (len := 0) l_X4_hasFerry_12 13 rfl c_1 ?_
      refine nw_goto l_X4_hasFerry_13 ?_
      refine nw_ireturnZ l_X4_hasFerry_17 rfl (Or.inr rfl) ?_
      refine nw_if_ne l_X11_needFerry_11 14 rfl (fun _ => ?_) (fun q => absurd q (by decide))
      refine nw_return l_X11_needFerry_22 rfl ?_
      refine nw_aload_n l_X11_bestLoadByTable_5 6 rfl rfl ?_
      refine nw_iload_n l_X11_bestLoadByTable_6 7 rfl rfl ?_
      refine nw_call 1 1 6 0 l_X11_bestLoadByTable_7 rfl rfl g_X11_needAshore (Nat.lt_of_lt_of_le (by decide) hD) rfl (by omega) (by omega) (Or.inl ⟨_, rfl, k_0⟩) (ls' := [some (.inr (.inl (some 0))), some (.inl x1)]) rfl (st' := []) rfl 10 rfl (c' := (c - 2)) (by omega) (sl' := (sl - 12)) (by omega) ?_
      refine nw_aload_n l_X11_needAshore_0 1 rfl rfl ?_
      refine nw_getA l_X11_needAshore_1 4 rfl k_0 r_0_1 ?_
      refine nw_getA l_X11_needAshore_4 7 rfl k_2 r_2_1 ?_
      refine nw_iload_n l_X11_needAshore_7 8 rfl rfl ?_
      refine nw_call0 0 9 l_X11_needAshore_8 rfl rfl g_X4_underWay (by decide) rfl (Or.inl ⟨_, rfl, k_9⟩) (ls' := [some (.inr (.inl (some 9))), some (.inl x1)]) rfl (st' := []) rfl 11 rfl ?_
      refine nw_aload_n l_X4_underWay_0 1 rfl rfl ?_
      refine nw_getA l_X4_underWay_1 4 rfl k_9 r_9_2 ?_
      refine nw_iload_n l_X4_underWay_4 5 rfl rfl ?_
      have o5 := h.1
      replace h := h.2
      refine nw_iald l_X4_underWay_5 6 rfl k_11 o5 (v := J 11 x1) rfl ?_
      refine nw_iconst (len := 0) l_X4_underWay_6 7 rfl c_n1 ?_
      refine nw_ic_eq l_X4_underWay_7 10 rfl (fun q6 => ?_) (fun q6 => ?_)
      · replace h := h.1 q6
        refine nw_iconst (len := 0) l_X4_underWay_14 15 rfl c_0 ?_
        refine nw_ireturnZ l_X4_underWay_15 rfl (Or.inl rfl) ?_
        refine nw_if_eq l_X11_needAshore_11 14 rfl (fun _ => ?_) (fun q => absurd q (by decide))
        refine nw_return l_X11_needAshore_22 rfl ?_
        refine nw_aload_n l_X11_bestLoadByTable_10 11 rfl rfl ?_
        refine nw_getA l_X11_bestLoadByTable_11 14 rfl k_0 r_0_2 ?_
        refine nw_aload_n l_X11_bestLoadByTable_14 15 rfl rfl ?_
        refine nw_getA l_X11_bestLoadByTable_15 18 rfl k_0 r_0_1 ?_
        refine nw_iload_n l_X11_bestLoadByTable_18 19 rfl rfl ?_
        refine nw_drop (ls' := [some (.inr (.inl (some 0))), none]) ⟨rfl, ⟨True.intro, True.intro⟩⟩ ?_
        refine nw_call0 3 26 l_X11_bestLoadByTable_19 rfl rfl g_X6_gather (Nat.lt_of_lt_of_le (by decide) hD) rfl (Or.inl ⟨_, rfl, k_26⟩) (ls' := [some (.inr (.inl (some 26))), some (.inr (.inl (some 2))), some (.inl x1), none, none, none]) rfl (st' := []) rfl 22 rfl ?_
        exact h
      · replace h := h.2 q6
        refine nw_iconst (len := 0) l_X4_underWay_10 11 rfl c_1 ?_
        refine nw_goto l_X4_underWay_11 ?_
        refine nw_ireturnZ l_X4_underWay_15 rfl (Or.inr rfl) ?_
        refine nw_if_eq l_X11_needAshore_11 14 rfl (fun q => absurd q (by decide)) (fun _ => ?_)
        refine nw_throw 2 l_X11_needAshore_14 ⟨rfl, rfl, rfl, by decide, rfl⟩ (by decide) (by decide) (fun n7 z7 => ?_)
        replace h := h n7 z7
        exact h
theorem b_X11_bestLoadByTable_22  (hD : 4 ≤ D) (h : NW sc d_X6_sumByTable 1 (0, [some (.inr (.inl (some 26))), none, none, none], [], (J, L, W), 0, 0) (fun v M9 => NW sc d_X11_bestLoadByTable D (29, [none, none], nw_push v [], M9, c, sl) Qr Qx) Qx) :
    NW sc d_X11_bestLoadByTable D (22, [some (.inr (.inl (some 0))), none], [], (J, L, W), c, sl) Qr Qx := by
  refine nw_aload_n l_X11_bestLoadByTable_22 23 rfl rfl ?_
  refine nw_getA l_X11_bestLoadByTable_23 26 rfl k_0 r_0_2 ?_
  refine nw_drop (ls' := [none, none]) ⟨True.intro, ⟨True.intro, True.intro⟩⟩ ?_
  refine nw_call0 1 26 l_X11_bestLoadByTable_26 rfl rfl g_X6_sumByTable (Nat.lt_of_lt_of_le (by decide) hD) rfl (Or.inl ⟨_, rfl, k_26⟩) (ls' := [some (.inr (.inl (some 26))), none, none, none]) rfl (st' := []) rfl 29 rfl ?_
  exact h
theorem b_X11_bestLoadByTable_29 {y0 : Int} (h : Qr (some (.inl y0)) (J, L, W)) :
    NW sc d_X11_bestLoadByTable D (29, [none, none], [.inl y0], (J, L, W), c, sl) Qr Qx := by
  refine nw_ireturn l_X11_bestLoadByTable_29 rfl ?_
  exact h
theorem b_X11_board_0 {x1 : Int} {x2 : Int} (hD : 4 ≤ D) (h : NW sc d_X8_copyFrom 1 (0, [some (.inr (.inl (some 55))), some (.inr (.inl (some 2)))], [], (J, L, W), 0, 0) (fun v M9 => NW sc d_X11_board D (11, [some (.inr (.inl (some 0))), some (.inl x1), some (.inl x2)], nw_push v [], M9, c, sl) Qr Qx) Qx) :
    NW sc d_X11_board D (0, [some (.inr (.inl (some 0))), some (.inl x1), some (.inl x2)], [], (J, L, W), c, sl) Qr Qx := by
  refine nw_aload_n l_X11_board_0 1 rfl rfl ?_
  refine nw_getA l_X11_board_1 4 rfl k_0 r_0_5 ?_
  refine nw_aload_n l_X11_board_4 5 rfl rfl ?_
  refine nw_getA l_X11_board_5 8 rfl k_0 r_0_1 ?_
  refine nw_call0 1 55 l_X11_board_8 rfl rfl g_X8_copyFrom (Nat.lt_of_lt_of_le (by decide) hD) rfl (Or.inl ⟨_, rfl, k_55⟩) (ls' := [some (.inr (.inl (some 55))), some (.inr (.inl (some 2)))]) rfl (st' := []) rfl 11 rfl ?_
  exact h
theorem b_X11_board_11 {x1 : Int} {x2 : Int} (hD : 4 ≤ D) (h : NW sc d_X0_takeAboard 3 (0, [some (.inr (.inl (some 1))), some (.inl x1), some (.inl x2), none, none], [], (J, L, W), 0, 0) (fun v M9 => NW sc d_X11_board D (21, [none, none, none], nw_push v [.inr (.inl (some 0))], M9, c, sl) Qr Qx) Qx) :
    NW sc d_X11_board D (11, [some (.inr (.inl (some 0))), some (.inl x1), some (.inl x2)], [], (J, L, W), c, sl) Qr Qx := by
  refine nw_aload_n l_X11_board_11 12 rfl rfl ?_
  refine nw_aload_n l_X11_board_12 13 rfl rfl ?_
  refine nw_getA l_X11_board_13 16 rfl k_0 r_0_0 ?_
  refine nw_iload_n l_X11_board_16 17 rfl rfl ?_
  refine nw_iload_n l_X11_board_17 18 rfl rfl ?_
  refine nw_drop (ls' := [none, none, none]) ⟨True.intro, ⟨True.intro, ⟨True.intro, True.intro⟩⟩⟩ ?_
  refine nw_call0 3 1 l_X11_board_18 rfl rfl g_X0_takeAboard (Nat.lt_of_lt_of_le (by decide) hD) rfl (Or.inl ⟨_, rfl, k_1⟩) (ls' := [some (.inr (.inl (some 1))), some (.inl x1), some (.inl x2), none, none]) rfl (st' := [.inr (.inl (some 0))]) rfl 21 rfl ?_
  exact h
theorem b_X11_board_21 {y0 : Int} (hD : 4 ≤ D) (hc : 1 ≤ c) (hs : 6 ≤ sl) (h : NW sc d_X11_settle 3 (0, [some (.inr (.inl (some 0))), some (.inl y0)], [], (J, L, W), 1, 6) (fun v M9 => NW sc d_X11_board D (24, [none, none, none], nw_push v [], M9, (c - 1), (sl - 6)) Qr Qx) Qx) :
    NW sc d_X11_board D (21, [none, none, none], [.inl y0, .inr (.inl (some 0))], (J, L, W), c, sl) Qr Qx := by
  refine nw_call 3 1 6 0 l_X11_board_21 rfl rfl g_X11_settle (Nat.lt_of_lt_of_le (by decide) hD) rfl (by omega) (by omega) (Or.inl ⟨_, rfl, k_0⟩) (ls' := [some (.inr (.inl (some 0))), some (.inl y0)]) rfl (st' := []) rfl 24 rfl (c' := (c - 1)) (by omega) (sl' := (sl - 6)) (by omega) ?_
  exact h
theorem b_X11_board_24 {y0 : Int} (h : Qr (some (.inl y0)) (J, L, W)) :
    NW sc d_X11_board D (24, [none, none, none], [.inl y0], (J, L, W), c, sl) Qr Qx := by
  refine nw_ireturn l_X11_board_24 rfl ?_
  exact h
theorem b_X11_carryOut_0 {x1 : Int} (hD : 15 ≤ D) (h : ((-2147483648 ≤ x1 * 4 ∧ x1 * 4 < 2147483648) ∧ ((-2147483648 ≤ (x1 * 4) + 0 ∧ (x1 * 4) + 0 < 2147483648) ∧ ((0 ≤ (x1 * 4) + 0 ∧ (x1 * 4) + 0 < 40) ∧ ((-2147483648 ≤ (x1 * 4) + 1 ∧ (x1 * 4) + 1 < 2147483648) ∧ ((0 ≤ (x1 * 4) + 1 ∧ (x1 * 4) + 1 < 40) ∧ ((-2147483648 ≤ (x1 * 4) + 2 ∧ (x1 * 4) + 2 < 2147483648) ∧ ((0 ≤ (x1 * 4) + 2 ∧ (x1 * 4) + 2 < 40) ∧ ((-2147483648 ≤ (x1 * 4) + 3 ∧ (x1 * 4) + 3 < 2147483648) ∧ ((0 ≤ (x1 * 4) + 3 ∧ (x1 * 4) + 3 < 40) ∧ ((0 ≤ x1 ∧ x1 < 10) ∧ ((J 298 x1 = 0 → NW sc d_X0_openCrater 0 (0, [some (.inr (.inl (some 1))), some (.inl (J 300 ((x1 * 4) + 0))), none], [], (J, L, W), 0, 0) (fun v M9 => NW sc d_X11_carryOut D (108, [none, none, none, none, none, none], nw_push v [], M9, c, sl) Qr Qx) Qx) ∧ (¬ J 298 x1 = 0 → ((J 298 x1 = 1 → NW sc d_X0_openChannel 2 (0, [some (.inr (.inl (some 1))), some (.inl (J 300 ((x1 * 4) + 0))), some (.inl (J 300 ((x1 * 4) + 1))), some (.inl (J 300 ((x1 * 4) + 2))), some (.inl (J 300 ((x1 * 4) + 3))), none, none, none], [], (J, L, W), 0, 0) (fun v M9 => NW sc d_X11_carryOut D (122, [none, none, none, none, none, none], nw_push v [], M9, c, sl) Qr Qx) Qx) ∧ (¬ J 298 x1 = 1 → ((J 298 x1 = 2 → NW sc d_X0_enlistFerry 1 (0, [some (.inr (.inl (some 1))), some (.inl (J 300 ((x1 * 4) + 0))), some (.inl (J 300 ((x1 * 4) + 1))), some (.inl (J 300 ((x1 * 4) + 2))), none, none, none], [], (J, L, W), 0, 0) (fun v M9 => NW sc d_X11_carryOut D (134, [none, none, none, none, none, none], nw_push v [], M9, c, sl) Qr Qx) Qx) ∧ (¬ J 298 x1 = 2 → ((J 298 x1 = 3 → NW sc d_X0_enlistMoon 1 (0, [some (.inr (.inl (some 1))), some (.inl (J 300 ((x1 * 4) + 0))), some (.inl (J 300 ((x1 * 4) + 1))), some (.inl (J 300 ((x1 * 4) + 2))), some (.inl (J 300 ((x1 * 4) + 3))), none, none, none], [], (J, L, W), 0, 0) (fun v M9 => NW sc d_X11_carryOut D (148, [none, none, none, none, none, none], nw_push v [], M9, c, sl) Qr Qx) Qx) ∧ (¬ J 298 x1 = 3 → ((J 298 x1 = 4 → NW sc d_X0_beginPassage 3 (0, [some (.inr (.inl (some 1))), some (.inl (J 300 ((x1 * 4) + 0))), some (.inl (J 300 ((x1 * 4) + 1))), none], [], (J, L, W), 0, 0) (fun v M9 => NW sc d_X11_carryOut D (158, [none, none, none, none, none, none], nw_push v [], M9, c, sl) Qr Qx) Qx) ∧ (¬ J 298 x1 = 4 → ((J 298 x1 = 5 → NW sc d_X0_takeAboard 3 (0, [some (.inr (.inl (some 1))), some (.inl (J 300 ((x1 * 4) + 0))), some (.inl (J 300 ((x1 * 4) + 1))), none, none], [], (J, L, W), 0, 0) (fun v M9 => NW sc d_X11_carryOut D (168, [none, none, none, none, none, none], nw_push v [], M9, c, sl) Qr Qx) Qx) ∧ (¬ J 298 x1 = 5 → ((J 298 x1 = 6 → NW sc d_X0_putAshore 3 (0, [some (.inr (.inl (some 1))), some (.inl (J 300 ((x1 * 4) + 0))), none, none, none, none], [], (J, L, W), 0, 0) (fun v M9 => NW sc d_X11_carryOut D (177, [none, none, none, none, none, none], nw_push v [], M9, c, sl) Qr Qx) Qx) ∧ (¬ J 298 x1 = 6 → ((J 298 x1 = 7 → NW sc d_X0_takeBestLoad 14 (0, [some (.inr (.inl (some 1))), some (.inl (J 300 ((x1 * 4) + 0))), none, none], [], (J, L, W), 0, 0) (fun v M9 => NW sc d_X11_carryOut D (186, [none, none, none, none, none, none], nw_push v [], M9, c, sl) Qr Qx) Qx) ∧ (¬ J 298 x1 = 7 → ((J 298 x1 = 8 → NW sc d_X0_pullFree 3 (0, [some (.inr (.inl (some 1))), some (.inl (J 300 ((x1 * 4) + 0))), none, none], [], (J, L, W), 0, 0) (fun v M9 => NW sc d_X11_carryOut D (195, [none, none, none, none, none, none], nw_push v [], M9, c, sl) Qr Qx) Qx) ∧ (¬ J 298 x1 = 8 → NW sc d_X0_letPass 4 (0, [some (.inr (.inl (some 1))), some (.inl (J 300 ((x1 * 4) + 0))), none, none], [], (J, L, W), 0, 0) (fun v M9 => NW sc d_X11_carryOut D (204, [none, none, none, none, none, none], nw_push v [], M9, c, sl) Qr Qx) Qx))))))))))))))))))))))))))))) :
    NW sc d_X11_carryOut D (0, [some (.inr (.inl (some 0))), some (.inl x1), none, none, none, none], [], (J, L, W), c, sl) Qr Qx := by
  refine nw_aload_n l_X11_carryOut_0 1 rfl rfl ?_
  refine nw_getA l_X11_carryOut_1 4 rfl k_0 r_0_8 ?_
  refine nw_iload_n l_X11_carryOut_4 5 rfl rfl ?_
  refine nw_iconst (len := 0) l_X11_carryOut_5 6 rfl c_0 ?_
  refine nw_call0 0 297 l_X11_carryOut_6 rfl rfl g_X1_numberOf (Nat.lt_of_lt_of_le (by decide) hD) rfl (Or.inl ⟨_, rfl, k_297⟩) (ls' := [some (.inr (.inl (some 297))), some (.inl x1), some (.inl 0)]) rfl (st' := []) rfl 9 rfl ?_
  refine nw_aload_n l_X1_numberOf_0 1 rfl rfl ?_
  refine nw_getA l_X1_numberOf_1 4 rfl k_297 r_297_4 ?_
  refine nw_iload_n l_X1_numberOf_4 5 rfl rfl ?_
  refine nw_iconst (len := 0) l_X1_numberOf_5 6 rfl c_4 ?_
  have o1 := h.1
  replace h := h.2
  refine nw_imul l_X1_numberOf_6 7 rfl o1 ?_
  refine nw_iload_n l_X1_numberOf_7 8 rfl rfl ?_
  have o2 := h.1
  replace h := h.2
  refine nw_iadd l_X1_numberOf_8 9 rfl o2 ?_
  have o3 := h.1
  replace h := h.2
  refine nw_iald l_X1_numberOf_9 10 rfl k_300 o3 (v := J 300 ((x1 * 4) + 0)) rfl ?_
  refine nw_ireturn l_X1_numberOf_10 rfl ?_
  refine nw_istore_n l_X11_carryOut_9 10 rfl rfl (ls' := [some (.inr (.inl (some 0))), some (.inl x1), some (.inl (J 300 ((x1 * 4) + 0))), none, none, none]) rfl ?_
  refine nw_aload_n l_X11_carryOut_10 11 rfl rfl ?_
  refine nw_getA l_X11_carryOut_11 14 rfl k_0 r_0_8 ?_
  refine nw_iload_n l_X11_carryOut_14 15 rfl rfl ?_
  refine nw_iconst (len := 0) l_X11_carryOut_15 16 rfl c_1 ?_
  refine nw_call0 0 297 l_X11_carryOut_16 rfl rfl g_X1_numberOf (Nat.lt_of_lt_of_le (by decide) hD) rfl (Or.inl ⟨_, rfl, k_297⟩) (ls' := [some (.inr (.inl (some 297))), some (.inl x1), some (.inl 1)]) rfl (st' := []) rfl 19 rfl ?_
  refine nw_aload_n l_X1_numberOf_0 1 rfl rfl ?_
  refine nw_getA l_X1_numberOf_1 4 rfl k_297 r_297_4 ?_
  refine nw_iload_n l_X1_numberOf_4 5 rfl rfl ?_
  refine nw_iconst (len := 0) l_X1_numberOf_5 6 rfl c_4 ?_
  refine nw_imul l_X1_numberOf_6 7 rfl o1 ?_
  refine nw_iload_n l_X1_numberOf_7 8 rfl rfl ?_
  have o4 := h.1
  replace h := h.2
  refine nw_iadd l_X1_numberOf_8 9 rfl o4 ?_
  have o5 := h.1
  replace h := h.2
  refine nw_iald l_X1_numberOf_9 10 rfl k_300 o5 (v := J 300 ((x1 * 4) + 1)) rfl ?_
  refine nw_ireturn l_X1_numberOf_10 rfl ?_
  refine nw_istore_n l_X11_carryOut_19 20 rfl rfl (ls' := [some (.inr (.inl (some 0))), some (.inl x1), some (.inl (J 300 ((x1 * 4) + 0))), some (.inl (J 300 ((x1 * 4) + 1))), none, none]) rfl ?_
  refine nw_aload_n l_X11_carryOut_20 21 rfl rfl ?_
  refine nw_getA l_X11_carryOut_21 24 rfl k_0 r_0_8 ?_
  refine nw_iload_n l_X11_carryOut_24 25 rfl rfl ?_
  refine nw_iconst (len := 0) l_X11_carryOut_25 26 rfl c_2 ?_
  refine nw_call0 0 297 l_X11_carryOut_26 rfl rfl g_X1_numberOf (Nat.lt_of_lt_of_le (by decide) hD) rfl (Or.inl ⟨_, rfl, k_297⟩) (ls' := [some (.inr (.inl (some 297))), some (.inl x1), some (.inl 2)]) rfl (st' := []) rfl 29 rfl ?_
  refine nw_aload_n l_X1_numberOf_0 1 rfl rfl ?_
  refine nw_getA l_X1_numberOf_1 4 rfl k_297 r_297_4 ?_
  refine nw_iload_n l_X1_numberOf_4 5 rfl rfl ?_
  refine nw_iconst (len := 0) l_X1_numberOf_5 6 rfl c_4 ?_
  refine nw_imul l_X1_numberOf_6 7 rfl o1 ?_
  refine nw_iload_n l_X1_numberOf_7 8 rfl rfl ?_
  have o6 := h.1
  replace h := h.2
  refine nw_iadd l_X1_numberOf_8 9 rfl o6 ?_
  have o7 := h.1
  replace h := h.2
  refine nw_iald l_X1_numberOf_9 10 rfl k_300 o7 (v := J 300 ((x1 * 4) + 2)) rfl ?_
  refine nw_ireturn l_X1_numberOf_10 rfl ?_
  refine nw_istore l_X11_carryOut_29 31 rfl rfl (ls' := [some (.inr (.inl (some 0))), some (.inl x1), some (.inl (J 300 ((x1 * 4) + 0))), some (.inl (J 300 ((x1 * 4) + 1))), some (.inl (J 300 ((x1 * 4) + 2))), none]) rfl ?_
  refine nw_aload_n l_X11_carryOut_31 32 rfl rfl ?_
  refine nw_getA l_X11_carryOut_32 35 rfl k_0 r_0_8 ?_
  refine nw_iload_n l_X11_carryOut_35 36 rfl rfl ?_
  refine nw_iconst (len := 0) l_X11_carryOut_36 37 rfl c_3 ?_
  refine nw_call0 0 297 l_X11_carryOut_37 rfl rfl g_X1_numberOf (Nat.lt_of_lt_of_le (by decide) hD) rfl (Or.inl ⟨_, rfl, k_297⟩) (ls' := [some (.inr (.inl (some 297))), some (.inl x1), some (.inl 3)]) rfl (st' := []) rfl 40 rfl ?_
  refine nw_aload_n l_X1_numberOf_0 1 rfl rfl ?_
  refine nw_getA l_X1_numberOf_1 4 rfl k_297 r_297_4 ?_
  refine nw_iload_n l_X1_numberOf_4 5 rfl rfl ?_
  refine nw_iconst (len := 0) l_X1_numberOf_5 6 rfl c_4 ?_
  refine nw_imul l_X1_numberOf_6 7 rfl o1 ?_
  refine nw_iload_n l_X1_numberOf_7 8 rfl rfl ?_
  have o8 := h.1
  replace h := h.2
  refine nw_iadd l_X1_numberOf_8 9 rfl o8 ?_
  have o9 := h.1
  replace h := h.2
  refine nw_iald l_X1_numberOf_9 10 rfl k_300 o9 (v := J 300 ((x1 * 4) + 3)) rfl ?_
  refine nw_ireturn l_X1_numberOf_10 rfl ?_
  refine nw_istore l_X11_carryOut_40 42 rfl rfl (ls' := [some (.inr (.inl (some 0))), some (.inl x1), some (.inl (J 300 ((x1 * 4) + 0))), some (.inl (J 300 ((x1 * 4) + 1))), some (.inl (J 300 ((x1 * 4) + 2))), some (.inl (J 300 ((x1 * 4) + 3)))]) rfl ?_
  refine nw_aload_n l_X11_carryOut_42 43 rfl rfl ?_
  refine nw_getA l_X11_carryOut_43 46 rfl k_0 r_0_8 ?_
  refine nw_getA l_X11_carryOut_46 49 rfl k_297 r_297_2 ?_
  refine nw_iload_n l_X11_carryOut_49 50 rfl rfl ?_
  have o10 := h.1
  replace h := h.2
  refine nw_iald l_X11_carryOut_50 51 rfl k_298 o10 (v := J 298 x1) rfl ?_
  by_cases q11 : J 298 x1 = 0
  · refine nw_tsIn l_X11_carryOut_51 100 ⟨by omega, by omega, by rw [q11]; rfl⟩ ?_
    replace h := h.1 q11
    refine nw_aload_n l_X11_carryOut_100 101 rfl rfl ?_
    refine nw_getA l_X11_carryOut_101 104 rfl k_0 r_0_0 ?_
    refine nw_iload_n l_X11_carryOut_104 105 rfl rfl ?_
    refine nw_drop (ls' := [none, none, none, none, none, none]) ⟨True.intro, ⟨True.intro, ⟨True.intro, ⟨True.intro, ⟨True.intro, ⟨True.intro, True.intro⟩⟩⟩⟩⟩⟩ ?_
    refine nw_call0 0 1 l_X11_carryOut_105 rfl rfl g_X0_openCrater (Nat.lt_of_lt_of_le (by decide) hD) rfl (Or.inl ⟨_, rfl, k_1⟩) (ls' := [some (.inr (.inl (some 1))), some (.inl (J 300 ((x1 * 4) + 0))), none]) rfl (st' := []) rfl 108 rfl ?_
    exact h
  replace h := h.2 q11
  by_cases q12 : J 298 x1 = 1
  · refine nw_tsIn l_X11_carryOut_51 109 ⟨by omega, by omega, by rw [q12]; rfl⟩ ?_
    replace h := h.1 q12
    refine nw_aload_n l_X11_carryOut_109 110 rfl rfl ?_
    refine nw_getA l_X11_carryOut_110 113 rfl k_0 r_0_0 ?_
    refine nw_iload_n l_X11_carryOut_113 114 rfl rfl ?_
    refine nw_iload_n l_X11_carryOut_114 115 rfl rfl ?_
    refine nw_iload l_X11_carryOut_115 117 rfl rfl ?_
    refine nw_iload l_X11_carryOut_117 119 rfl rfl ?_
    refine nw_drop (ls' := [none, none, none, none, none, none]) ⟨True.intro, ⟨True.intro, ⟨True.intro, ⟨True.intro, ⟨True.intro, ⟨True.intro, True.intro⟩⟩⟩⟩⟩⟩ ?_
    refine nw_call0 2 1 l_X11_carryOut_119 rfl rfl g_X0_openChannel (Nat.lt_of_lt_of_le (by decide) hD) rfl (Or.inl ⟨_, rfl, k_1⟩) (ls' := [some (.inr (.inl (some 1))), some (.inl (J 300 ((x1 * 4) + 0))), some (.inl (J 300 ((x1 * 4) + 1))), some (.inl (J 300 ((x1 * 4) + 2))), some (.inl (J 300 ((x1 * 4) + 3))), none, none, none]) rfl (st' := []) rfl 122 rfl ?_
    exact h
  replace h := h.2 q12
  by_cases q13 : J 298 x1 = 2
  · refine nw_tsIn l_X11_carryOut_51 123 ⟨by omega, by omega, by rw [q13]; rfl⟩ ?_
    replace h := h.1 q13
    refine nw_aload_n l_X11_carryOut_123 124 rfl rfl ?_
    refine nw_getA l_X11_carryOut_124 127 rfl k_0 r_0_0 ?_
    refine nw_iload_n l_X11_carryOut_127 128 rfl rfl ?_
    refine nw_iload_n l_X11_carryOut_128 129 rfl rfl ?_
    refine nw_iload l_X11_carryOut_129 131 rfl rfl ?_
    refine nw_drop (ls' := [none, none, none, none, none, none]) ⟨True.intro, ⟨True.intro, ⟨True.intro, ⟨True.intro, ⟨True.intro, ⟨True.intro, True.intro⟩⟩⟩⟩⟩⟩ ?_
    refine nw_call0 1 1 l_X11_carryOut_131 rfl rfl g_X0_enlistFerry (Nat.lt_of_lt_of_le (by decide) hD) rfl (Or.inl ⟨_, rfl, k_1⟩) (ls' := [some (.inr (.inl (some 1))), some (.inl (J 300 ((x1 * 4) + 0))), some (.inl (J 300 ((x1 * 4) + 1))), some (.inl (J 300 ((x1 * 4) + 2))), none, none, none]) rfl (st' := []) rfl 134 rfl ?_
    exact h
  replace h := h.2 q13
  by_cases q14 : J 298 x1 = 3
  · refine nw_tsIn l_X11_carryOut_51 135 ⟨by omega, by omega, by rw [q14]; rfl⟩ ?_
    replace h := h.1 q14
    refine nw_aload_n l_X11_carryOut_135 136 rfl rfl ?_
    refine nw_getA l_X11_carryOut_136 139 rfl k_0 r_0_0 ?_
    refine nw_iload_n l_X11_carryOut_139 140 rfl rfl ?_
    refine nw_iload_n l_X11_carryOut_140 141 rfl rfl ?_
    refine nw_iload l_X11_carryOut_141 143 rfl rfl ?_
    refine nw_iload l_X11_carryOut_143 145 rfl rfl ?_
    refine nw_drop (ls' := [none, none, none, none, none, none]) ⟨True.intro, ⟨True.intro, ⟨True.intro, ⟨True.intro, ⟨True.intro, ⟨True.intro, True.intro⟩⟩⟩⟩⟩⟩ ?_
    refine nw_call0 1 1 l_X11_carryOut_145 rfl rfl g_X0_enlistMoon (Nat.lt_of_lt_of_le (by decide) hD) rfl (Or.inl ⟨_, rfl, k_1⟩) (ls' := [some (.inr (.inl (some 1))), some (.inl (J 300 ((x1 * 4) + 0))), some (.inl (J 300 ((x1 * 4) + 1))), some (.inl (J 300 ((x1 * 4) + 2))), some (.inl (J 300 ((x1 * 4) + 3))), none, none, none]) rfl (st' := []) rfl 148 rfl ?_
    exact h
  replace h := h.2 q14
  by_cases q15 : J 298 x1 = 4
  · refine nw_tsIn l_X11_carryOut_51 149 ⟨by omega, by omega, by rw [q15]; rfl⟩ ?_
    replace h := h.1 q15
    refine nw_aload_n l_X11_carryOut_149 150 rfl rfl ?_
    refine nw_getA l_X11_carryOut_150 153 rfl k_0 r_0_0 ?_
    refine nw_iload_n l_X11_carryOut_153 154 rfl rfl ?_
    refine nw_iload_n l_X11_carryOut_154 155 rfl rfl ?_
    refine nw_drop (ls' := [none, none, none, none, none, none]) ⟨True.intro, ⟨True.intro, ⟨True.intro, ⟨True.intro, ⟨True.intro, ⟨True.intro, True.intro⟩⟩⟩⟩⟩⟩ ?_
    refine nw_call0 3 1 l_X11_carryOut_155 rfl rfl g_X0_beginPassage (Nat.lt_of_lt_of_le (by decide) hD) rfl (Or.inl ⟨_, rfl, k_1⟩) (ls' := [some (.inr (.inl (some 1))), some (.inl (J 300 ((x1 * 4) + 0))), some (.inl (J 300 ((x1 * 4) + 1))), none]) rfl (st' := []) rfl 158 rfl ?_
    exact h
  replace h := h.2 q15
  by_cases q16 : J 298 x1 = 5
  · refine nw_tsIn l_X11_carryOut_51 159 ⟨by omega, by omega, by rw [q16]; rfl⟩ ?_
    replace h := h.1 q16
    refine nw_aload_n l_X11_carryOut_159 160 rfl rfl ?_
    refine nw_getA l_X11_carryOut_160 163 rfl k_0 r_0_0 ?_
    refine nw_iload_n l_X11_carryOut_163 164 rfl rfl ?_
    refine nw_iload_n l_X11_carryOut_164 165 rfl rfl ?_
    refine nw_drop (ls' := [none, none, none, none, none, none]) ⟨True.intro, ⟨True.intro, ⟨True.intro, ⟨True.intro, ⟨True.intro, ⟨True.intro, True.intro⟩⟩⟩⟩⟩⟩ ?_
    refine nw_call0 3 1 l_X11_carryOut_165 rfl rfl g_X0_takeAboard (Nat.lt_of_lt_of_le (by decide) hD) rfl (Or.inl ⟨_, rfl, k_1⟩) (ls' := [some (.inr (.inl (some 1))), some (.inl (J 300 ((x1 * 4) + 0))), some (.inl (J 300 ((x1 * 4) + 1))), none, none]) rfl (st' := []) rfl 168 rfl ?_
    exact h
  replace h := h.2 q16
  by_cases q17 : J 298 x1 = 6
  · refine nw_tsIn l_X11_carryOut_51 169 ⟨by omega, by omega, by rw [q17]; rfl⟩ ?_
    replace h := h.1 q17
    refine nw_aload_n l_X11_carryOut_169 170 rfl rfl ?_
    refine nw_getA l_X11_carryOut_170 173 rfl k_0 r_0_0 ?_
    refine nw_iload_n l_X11_carryOut_173 174 rfl rfl ?_
    refine nw_drop (ls' := [none, none, none, none, none, none]) ⟨True.intro, ⟨True.intro, ⟨True.intro, ⟨True.intro, ⟨True.intro, ⟨True.intro, True.intro⟩⟩⟩⟩⟩⟩ ?_
    refine nw_call0 3 1 l_X11_carryOut_174 rfl rfl g_X0_putAshore (Nat.lt_of_lt_of_le (by decide) hD) rfl (Or.inl ⟨_, rfl, k_1⟩) (ls' := [some (.inr (.inl (some 1))), some (.inl (J 300 ((x1 * 4) + 0))), none, none, none, none]) rfl (st' := []) rfl 177 rfl ?_
    exact h
  replace h := h.2 q17
  by_cases q18 : J 298 x1 = 7
  · refine nw_tsIn l_X11_carryOut_51 178 ⟨by omega, by omega, by rw [q18]; rfl⟩ ?_
    replace h := h.1 q18
    refine nw_aload_n l_X11_carryOut_178 179 rfl rfl ?_
    refine nw_getA l_X11_carryOut_179 182 rfl k_0 r_0_0 ?_
    refine nw_iload_n l_X11_carryOut_182 183 rfl rfl ?_
    refine nw_drop (ls' := [none, none, none, none, none, none]) ⟨True.intro, ⟨True.intro, ⟨True.intro, ⟨True.intro, ⟨True.intro, ⟨True.intro, True.intro⟩⟩⟩⟩⟩⟩ ?_
    refine nw_call0 14 1 l_X11_carryOut_183 rfl rfl g_X0_takeBestLoad (Nat.lt_of_lt_of_le (by decide) hD) rfl (Or.inl ⟨_, rfl, k_1⟩) (ls' := [some (.inr (.inl (some 1))), some (.inl (J 300 ((x1 * 4) + 0))), none, none]) rfl (st' := []) rfl 186 rfl ?_
    exact h
  replace h := h.2 q18
  by_cases q19 : J 298 x1 = 8
  · refine nw_tsIn l_X11_carryOut_51 187 ⟨by omega, by omega, by rw [q19]; rfl⟩ ?_
    replace h := h.1 q19
    refine nw_aload_n l_X11_carryOut_187 188 rfl rfl ?_
    refine nw_getA l_X11_carryOut_188 191 rfl k_0 r_0_0 ?_
    refine nw_iload_n l_X11_carryOut_191 192 rfl rfl ?_
    refine nw_drop (ls' := [none, none, none, none, none, none]) ⟨True.intro, ⟨True.intro, ⟨True.intro, ⟨True.intro, ⟨True.intro, ⟨True.intro, True.intro⟩⟩⟩⟩⟩⟩ ?_
    refine nw_call0 3 1 l_X11_carryOut_192 rfl rfl g_X0_pullFree (Nat.lt_of_lt_of_le (by decide) hD) rfl (Or.inl ⟨_, rfl, k_1⟩) (ls' := [some (.inr (.inl (some 1))), some (.inl (J 300 ((x1 * 4) + 0))), none, none]) rfl (st' := []) rfl 195 rfl ?_
    exact h
  replace h := h.2 q19
  refine nw_tsOut l_X11_carryOut_51 (by omega) ?_
  refine nw_aload_n l_X11_carryOut_196 197 rfl rfl ?_
  refine nw_getA l_X11_carryOut_197 200 rfl k_0 r_0_0 ?_
  refine nw_iload_n l_X11_carryOut_200 201 rfl rfl ?_
  refine nw_drop (ls' := [none, none, none, none, none, none]) ⟨True.intro, ⟨True.intro, ⟨True.intro, ⟨True.intro, ⟨True.intro, ⟨True.intro, True.intro⟩⟩⟩⟩⟩⟩ ?_
  refine nw_call0 4 1 l_X11_carryOut_201 rfl rfl g_X0_letPass (Nat.lt_of_lt_of_le (by decide) hD) rfl (Or.inl ⟨_, rfl, k_1⟩) (ls' := [some (.inr (.inl (some 1))), some (.inl (J 300 ((x1 * 4) + 0))), none, none]) rfl (st' := []) rfl 204 rfl ?_
  exact h
theorem b_X11_carryOut_108 {y0 : Int} (h : Qr (some (.inl y0)) (J, L, W)) :
    NW sc d_X11_carryOut D (108, [none, none, none, none, none, none], [.inl y0], (J, L, W), c, sl) Qr Qx := by
  refine nw_ireturn l_X11_carryOut_108 rfl ?_
  exact h
theorem b_X11_carryOut_122 {y0 : Int} (h : Qr (some (.inl y0)) (J, L, W)) :
    NW sc d_X11_carryOut D (122, [none, none, none, none, none, none], [.inl y0], (J, L, W), c, sl) Qr Qx := by
  refine nw_ireturn l_X11_carryOut_122 rfl ?_
  exact h
theorem b_X11_carryOut_134 {y0 : Int} (h : Qr (some (.inl y0)) (J, L, W)) :
    NW sc d_X11_carryOut D (134, [none, none, none, none, none, none], [.inl y0], (J, L, W), c, sl) Qr Qx := by
  refine nw_ireturn l_X11_carryOut_134 rfl ?_
  exact h
theorem b_X11_carryOut_148 {y0 : Int} (h : Qr (some (.inl y0)) (J, L, W)) :
    NW sc d_X11_carryOut D (148, [none, none, none, none, none, none], [.inl y0], (J, L, W), c, sl) Qr Qx := by
  refine nw_ireturn l_X11_carryOut_148 rfl ?_
  exact h
theorem b_X11_carryOut_158 {y0 : Int} (h : Qr (some (.inl y0)) (J, L, W)) :
    NW sc d_X11_carryOut D (158, [none, none, none, none, none, none], [.inl y0], (J, L, W), c, sl) Qr Qx := by
  refine nw_ireturn l_X11_carryOut_158 rfl ?_
  exact h
theorem b_X11_carryOut_168 {y0 : Int} (h : Qr (some (.inl y0)) (J, L, W)) :
    NW sc d_X11_carryOut D (168, [none, none, none, none, none, none], [.inl y0], (J, L, W), c, sl) Qr Qx := by
  refine nw_ireturn l_X11_carryOut_168 rfl ?_
  exact h
theorem b_X11_carryOut_177 {y0 : Int} (h : Qr (some (.inl y0)) (J, L, W)) :
    NW sc d_X11_carryOut D (177, [none, none, none, none, none, none], [.inl y0], (J, L, W), c, sl) Qr Qx := by
  refine nw_ireturn l_X11_carryOut_177 rfl ?_
  exact h
theorem b_X11_carryOut_186 {y0 : Int} (h : Qr (some (.inl y0)) (J, L, W)) :
    NW sc d_X11_carryOut D (186, [none, none, none, none, none, none], [.inl y0], (J, L, W), c, sl) Qr Qx := by
  refine nw_ireturn l_X11_carryOut_186 rfl ?_
  exact h
theorem b_X11_carryOut_195 {y0 : Int} (h : Qr (some (.inl y0)) (J, L, W)) :
    NW sc d_X11_carryOut D (195, [none, none, none, none, none, none], [.inl y0], (J, L, W), c, sl) Qr Qx := by
  refine nw_ireturn l_X11_carryOut_195 rfl ?_
  exact h
theorem b_X11_carryOut_204 {y0 : Int} (h : Qr (some (.inl y0)) (J, L, W)) :
    NW sc d_X11_carryOut D (204, [none, none, none, none, none, none], [.inl y0], (J, L, W), c, sl) Qr Qx := by
  refine nw_ireturn l_X11_carryOut_204 rfl ?_
  exact h
theorem b_X11_channelBetween_0 {x1 : Int} {x2 : Int} (hD : 2 ≤ D) (hc : 2 ≤ c) (hs : 12 ≤ sl) (h : ((x1 < 0 → (∀ n2, W.2.2.2.2 ≤ n2 → Qx 0 (J, L, nw_top W n2))) ∧ (0 ≤ x1 → ((J 3 0 ≤ x1 → (∀ n4, W.2.2.2.2 ≤ n4 → Qx 0 (J, L, nw_top W n4))) ∧ (x1 < J 3 0 → ((x2 < 0 → (∀ n6, W.2.2.2.2 ≤ n6 → Qx 0 (J, L, nw_top W n6))) ∧ (0 ≤ x2 → ((J 3 0 ≤ x2 → (∀ n8, W.2.2.2.2 ≤ n8 → Qx 0 (J, L, nw_top W n8))) ∧ (x2 < J 3 0 → NW sc d_X9_findChannel 1 (0, [some (.inr (.inl (some 3))), some (.inl x1), some (.inl x2), none], [], (J, L, W), 0, 0) (fun v M9 => NW sc d_X11_channelBetween D (22, [none, none, none], nw_push v [], M9, (c - 2), (sl - 12)) Qr Qx) Qx))))))))) :
    NW sc d_X11_channelBetween D (0, [some (.inr (.inl (some 0))), some (.inl x1), some (.inl x2)], [], (J, L, W), c, sl) Qr Qx := by
  refine nw_aload_n l_X11_channelBetween_0 1 rfl rfl ?_
  refine nw_iload_n l_X11_channelBetween_1 2 rfl rfl ?_
  refine nw_call 1 1 6 0 l_X11_channelBetween_2 rfl rfl g_X11_needCrater (Nat.lt_of_lt_of_le (by decide) hD) rfl (by omega) (by omega) (Or.inl ⟨_, rfl, k_0⟩) (ls' := [some (.inr (.inl (some 0))), some (.inl x1)]) rfl (st' := []) rfl 5 rfl (c' := (c - 1)) (by omega) (sl' := (sl - 6)) (by omega) ?_
  refine nw_aload_n l_X11_needCrater_0 1 rfl rfl ?_
  refine nw_getA l_X11_needCrater_1 4 rfl k_0 r_0_1 ?_
  refine nw_getA l_X11_needCrater_4 7 rfl k_2 r_2_0 ?_
  refine nw_iload_n l_X11_needCrater_7 8 rfl rfl ?_
  refine nw_call0 0 3 l_X11_needCrater_8 rfl rfl g_X9_hasCrater (by decide) rfl (Or.inl ⟨_, rfl, k_3⟩) (ls' := [some (.inr (.inl (some 3))), some (.inl x1)]) rfl (st' := []) rfl 11 rfl ?_
  refine nw_iload_n l_X9_hasCrater_0 1 rfl rfl ?_
  refine nw_if_lt l_X9_hasCrater_1 4 rfl (fun q1 => ?_) (fun q1 => ?_)
  · replace h := h.1 q1
    refine nw_iconst (len := 0) l_X9_hasCrater_16 17 rfl c_0 ?_
    refine nw_ireturnZ l_X9_hasCrater_17 rfl (Or.inl rfl) ?_
    refine nw_if_ne l_X11_needCrater_11 14 rfl (fun q => absurd q (by decide)) (fun _ => ?_)
    refine nw_throw 0 l_X11_needCrater_14 ⟨rfl, rfl, rfl, by decide, rfl⟩ (by decide) (by decide) (fun n2 z2 => ?_)
    replace h := h n2 z2
    exact h
  · replace h := h.2 q1
    refine nw_iload_n l_X9_hasCrater_4 5 rfl rfl ?_
    refine nw_aload_n l_X9_hasCrater_5 6 rfl rfl ?_
    refine nw_getI l_X9_hasCrater_6 9 rfl k_3 (v := J 3 0) rfl ?_
    refine nw_ic_ge l_X9_hasCrater_9 12 rfl (fun q3 => ?_) (fun q3 => ?_)
    · replace h := h.1 q3
      refine nw_iconst (len := 0) l_X9_hasCrater_16 17 rfl c_0 ?_
      refine nw_ireturnZ l_X9_hasCrater_17 rfl (Or.inl rfl) ?_
      refine nw_if_ne l_X11_needCrater_11 14 rfl (fun q => absurd q (by decide)) (fun _ => ?_)
      refine nw_throw 0 l_X11_needCrater_14 ⟨rfl, rfl, rfl, by decide, rfl⟩ (by decide) (by decide) (fun n4 z4 => ?_)
      replace h := h n4 z4
      exact h
    · replace h := h.2 q3
      refine nw_iconst (len := 0) l_X9_hasCrater_12 13 rfl c_1 ?_
      refine nw_goto l_X9_hasCrater_13 ?_
      refine nw_ireturnZ l_X9_hasCrater_17 rfl (Or.inr rfl) ?_
      refine nw_if_ne l_X11_needCrater_11 14 rfl (fun _ => ?_) (fun q => absurd q (by decide))
      refine nw_return l_X11_needCrater_22 rfl ?_
      refine nw_aload_n l_X11_channelBetween_5 6 rfl rfl ?_
      refine nw_iload_n l_X11_channelBetween_6 7 rfl rfl ?_
      refine nw_call 1 1 6 0 l_X11_channelBetween_7 rfl rfl g_X11_needCrater (Nat.lt_of_lt_of_le (by decide) hD) rfl (by omega) (by omega) (Or.inl ⟨_, rfl, k_0⟩) (ls' := [some (.inr (.inl (some 0))), some (.inl x2)]) rfl (st' := []) rfl 10 rfl (c' := (c - 2)) (by omega) (sl' := (sl - 12)) (by omega) ?_
      refine nw_aload_n l_X11_needCrater_0 1 rfl rfl ?_
      refine nw_getA l_X11_needCrater_1 4 rfl k_0 r_0_1 ?_
      refine nw_getA l_X11_needCrater_4 7 rfl k_2 r_2_0 ?_
      refine nw_iload_n l_X11_needCrater_7 8 rfl rfl ?_
      refine nw_call0 0 3 l_X11_needCrater_8 rfl rfl g_X9_hasCrater (by decide) rfl (Or.inl ⟨_, rfl, k_3⟩) (ls' := [some (.inr (.inl (some 3))), some (.inl x2)]) rfl (st' := []) rfl 11 rfl ?_
      refine nw_iload_n l_X9_hasCrater_0 1 rfl rfl ?_
      refine nw_if_lt l_X9_hasCrater_1 4 rfl (fun q5 => ?_) (fun q5 => ?_)
      · replace h := h.1 q5
        refine nw_iconst (len := 0) l_X9_hasCrater_16 17 rfl c_0 ?_
        refine nw_ireturnZ l_X9_hasCrater_17 rfl (Or.inl rfl) ?_
        refine nw_if_ne l_X11_needCrater_11 14 rfl (fun q => absurd q (by decide)) (fun _ => ?_)
        refine nw_throw 0 l_X11_needCrater_14 ⟨rfl, rfl, rfl, by decide, rfl⟩ (by decide) (by decide) (fun n6 z6 => ?_)
        replace h := h n6 z6
        exact h
      · replace h := h.2 q5
        refine nw_iload_n l_X9_hasCrater_4 5 rfl rfl ?_
        refine nw_aload_n l_X9_hasCrater_5 6 rfl rfl ?_
        refine nw_getI l_X9_hasCrater_6 9 rfl k_3 (v := J 3 0) rfl ?_
        refine nw_ic_ge l_X9_hasCrater_9 12 rfl (fun q7 => ?_) (fun q7 => ?_)
        · replace h := h.1 q7
          refine nw_iconst (len := 0) l_X9_hasCrater_16 17 rfl c_0 ?_
          refine nw_ireturnZ l_X9_hasCrater_17 rfl (Or.inl rfl) ?_
          refine nw_if_ne l_X11_needCrater_11 14 rfl (fun q => absurd q (by decide)) (fun _ => ?_)
          refine nw_throw 0 l_X11_needCrater_14 ⟨rfl, rfl, rfl, by decide, rfl⟩ (by decide) (by decide) (fun n8 z8 => ?_)
          replace h := h n8 z8
          exact h
        · replace h := h.2 q7
          refine nw_iconst (len := 0) l_X9_hasCrater_12 13 rfl c_1 ?_
          refine nw_goto l_X9_hasCrater_13 ?_
          refine nw_ireturnZ l_X9_hasCrater_17 rfl (Or.inr rfl) ?_
          refine nw_if_ne l_X11_needCrater_11 14 rfl (fun _ => ?_) (fun q => absurd q (by decide))
          refine nw_return l_X11_needCrater_22 rfl ?_
          refine nw_aload_n l_X11_channelBetween_10 11 rfl rfl ?_
          refine nw_getA l_X11_channelBetween_11 14 rfl k_0 r_0_1 ?_
          refine nw_getA l_X11_channelBetween_14 17 rfl k_2 r_2_0 ?_
          refine nw_iload_n l_X11_channelBetween_17 18 rfl rfl ?_
          refine nw_iload_n l_X11_channelBetween_18 19 rfl rfl ?_
          refine nw_drop (ls' := [none, none, none]) ⟨True.intro, ⟨True.intro, ⟨True.intro, True.intro⟩⟩⟩ ?_
          refine nw_call0 1 3 l_X11_channelBetween_19 rfl rfl g_X9_findChannel (Nat.lt_of_lt_of_le (by decide) hD) rfl (Or.inl ⟨_, rfl, k_3⟩) (ls' := [some (.inr (.inl (some 3))), some (.inl x1), some (.inl x2), none]) rfl (st' := []) rfl 22 rfl ?_
          exact h
theorem b_X11_channelBetween_22 {y0 : Int} (hD : 2 ≤ D) (hc : 1 ≤ c) (hs : 6 ≤ sl) (h : ((¬ y0 = (-1) → Qr (some (.inl y0)) (J, L, W)) ∧ (y0 = (-1) → (∀ n2, W.2.2.2.2 ≤ n2 → Qx 4 (J, L, nw_top W n2))))) :
    NW sc d_X11_channelBetween D (22, [none, none, none], [.inl y0], (J, L, W), c, sl) Qr Qx := by
  refine nw_call 0 1 6 0 l_X11_channelBetween_22 rfl rfl g_X11_present (Nat.lt_of_lt_of_le (by decide) hD) rfl (by omega) (by omega) True.intro (ls' := [some (.inl y0)]) rfl (st' := []) rfl 25 rfl (c' := (c - 1)) (by omega) (sl' := (sl - 6)) (by omega) ?_
  refine nw_iload_n l_X11_present_0 1 rfl rfl ?_
  refine nw_iconst (len := 0) l_X11_present_1 2 rfl c_n1 ?_
  refine nw_ic_ne l_X11_present_2 5 rfl (fun q1 => ?_) (fun q1 => ?_)
  · replace h := h.1 q1
    refine nw_iload_n l_X11_present_13 14 rfl rfl ?_
    refine nw_ireturn l_X11_present_14 rfl ?_
    refine nw_ireturn l_X11_channelBetween_25 rfl ?_
    exact h
  · replace h := h.2 q1
    refine nw_throw 4 l_X11_present_5 ⟨rfl, rfl, rfl, by decide, rfl⟩ (by decide) (by decide) (fun n2 z2 => ?_)
    replace h := h n2 z2
    exact h
theorem b_X11_channelCount_0  (h : Qr (some (.inl (J 3 1))) (J, L, W)) :
    NW sc d_X11_channelCount D (0, [some (.inr (.inl (some 0)))], [], (J, L, W), c, sl) Qr Qx := by
  refine nw_aload_n l_X11_channelCount_0 1 rfl rfl ?_
  refine nw_getA l_X11_channelCount_1 4 rfl k_0 r_0_1 ?_
  refine nw_getA l_X11_channelCount_4 7 rfl k_2 r_2_0 ?_
  refine nw_getI l_X11_channelCount_7 10 rfl k_3 (v := J 3 1) rfl ?_
  refine nw_ireturn l_X11_channelCount_10 rfl ?_
  exact h
theorem b_X11_cheapestNet_0  (hD : 2 ≤ D) (h : NW sc d_X10_netByOrder 1 (0, [some (.inr (.inl (some 29))), some (.inr (.inl (some 3))), none, none, none, none, none, none], [], (J, L, W), 0, 0) (fun v M9 => NW sc d_X11_cheapestNet D (14, [none], nw_push v [], M9, c, sl) Qr Qx) Qx) :
    NW sc d_X11_cheapestNet D (0, [some (.inr (.inl (some 0)))], [], (J, L, W), c, sl) Qr Qx := by
  refine nw_aload_n l_X11_cheapestNet_0 1 rfl rfl ?_
  refine nw_getA l_X11_cheapestNet_1 4 rfl k_0 r_0_4 ?_
  refine nw_aload_n l_X11_cheapestNet_4 5 rfl rfl ?_
  refine nw_getA l_X11_cheapestNet_5 8 rfl k_0 r_0_1 ?_
  refine nw_getA l_X11_cheapestNet_8 11 rfl k_2 r_2_0 ?_
  refine nw_drop (ls' := [none]) ⟨True.intro, True.intro⟩ ?_
  refine nw_call0 1 29 l_X11_cheapestNet_11 rfl rfl g_X10_netByOrder (Nat.lt_of_lt_of_le (by decide) hD) rfl (Or.inl ⟨_, rfl, k_29⟩) (ls' := [some (.inr (.inl (some 29))), some (.inr (.inl (some 3))), none, none, none, none, none, none]) rfl (st' := []) rfl 14 rfl ?_
  exact h
theorem b_X11_cheapestNet_14 {y0 : Int} (hD : 2 ≤ D) (hc : 1 ≤ c) (hs : 6 ≤ sl) (h : ((¬ y0 = (-1) → Qr (some (.inl y0)) (J, L, W)) ∧ (y0 = (-1) → (∀ n2, W.2.2.2.2 ≤ n2 → Qx 4 (J, L, nw_top W n2))))) :
    NW sc d_X11_cheapestNet D (14, [none], [.inl y0], (J, L, W), c, sl) Qr Qx := by
  refine nw_call 0 1 6 0 l_X11_cheapestNet_14 rfl rfl g_X11_present (Nat.lt_of_lt_of_le (by decide) hD) rfl (by omega) (by omega) True.intro (ls' := [some (.inl y0)]) rfl (st' := []) rfl 17 rfl (c' := (c - 1)) (by omega) (sl' := (sl - 6)) (by omega) ?_
  refine nw_iload_n l_X11_present_0 1 rfl rfl ?_
  refine nw_iconst (len := 0) l_X11_present_1 2 rfl c_n1 ?_
  refine nw_ic_ne l_X11_present_2 5 rfl (fun q1 => ?_) (fun q1 => ?_)
  · replace h := h.1 q1
    refine nw_iload_n l_X11_present_13 14 rfl rfl ?_
    refine nw_ireturn l_X11_present_14 rfl ?_
    refine nw_ireturn l_X11_cheapestNet_17 rfl ?_
    exact h
  · replace h := h.2 q1
    refine nw_throw 4 l_X11_present_5 ⟨rfl, rfl, rfl, by decide, rfl⟩ (by decide) (by decide) (fun n2 z2 => ?_)
    replace h := h n2 z2
    exact h
theorem b_X11_cheapestNetByGrowing_0  (hD : 2 ≤ D) (h : NW sc d_X10_netByGrowing 1 (0, [some (.inr (.inl (some 29))), some (.inr (.inl (some 3))), none, none, none, none], [], (J, L, W), 0, 0) (fun v M9 => NW sc d_X11_cheapestNetByGrowing D (14, [none], nw_push v [], M9, c, sl) Qr Qx) Qx) :
    NW sc d_X11_cheapestNetByGrowing D (0, [some (.inr (.inl (some 0)))], [], (J, L, W), c, sl) Qr Qx := by
  refine nw_aload_n l_X11_cheapestNetByGrowing_0 1 rfl rfl ?_
  refine nw_getA l_X11_cheapestNetByGrowing_1 4 rfl k_0 r_0_4 ?_
  refine nw_aload_n l_X11_cheapestNetByGrowing_4 5 rfl rfl ?_
  refine nw_getA l_X11_cheapestNetByGrowing_5 8 rfl k_0 r_0_1 ?_
  refine nw_getA l_X11_cheapestNetByGrowing_8 11 rfl k_2 r_2_0 ?_
  refine nw_drop (ls' := [none]) ⟨True.intro, True.intro⟩ ?_
  refine nw_call0 1 29 l_X11_cheapestNetByGrowing_11 rfl rfl g_X10_netByGrowing (Nat.lt_of_lt_of_le (by decide) hD) rfl (Or.inl ⟨_, rfl, k_29⟩) (ls' := [some (.inr (.inl (some 29))), some (.inr (.inl (some 3))), none, none, none, none]) rfl (st' := []) rfl 14 rfl ?_
  exact h
theorem b_X11_cheapestNetByGrowing_14 {y0 : Int} (hD : 2 ≤ D) (hc : 1 ≤ c) (hs : 6 ≤ sl) (h : ((¬ y0 = (-1) → Qr (some (.inl y0)) (J, L, W)) ∧ (y0 = (-1) → (∀ n2, W.2.2.2.2 ≤ n2 → Qx 4 (J, L, nw_top W n2))))) :
    NW sc d_X11_cheapestNetByGrowing D (14, [none], [.inl y0], (J, L, W), c, sl) Qr Qx := by
  refine nw_call 0 1 6 0 l_X11_cheapestNetByGrowing_14 rfl rfl g_X11_present (Nat.lt_of_lt_of_le (by decide) hD) rfl (by omega) (by omega) True.intro (ls' := [some (.inl y0)]) rfl (st' := []) rfl 17 rfl (c' := (c - 1)) (by omega) (sl' := (sl - 6)) (by omega) ?_
  refine nw_iload_n l_X11_present_0 1 rfl rfl ?_
  refine nw_iconst (len := 0) l_X11_present_1 2 rfl c_n1 ?_
  refine nw_ic_ne l_X11_present_2 5 rfl (fun q1 => ?_) (fun q1 => ?_)
  · replace h := h.1 q1
    refine nw_iload_n l_X11_present_13 14 rfl rfl ?_
    refine nw_ireturn l_X11_present_14 rfl ?_
    refine nw_ireturn l_X11_cheapestNetByGrowing_17 rfl ?_
    exact h
  · replace h := h.2 q1
    refine nw_throw 4 l_X11_present_5 ⟨rfl, rfl, rfl, by decide, rfl⟩ (by decide) (by decide) (fun n2 z2 => ?_)
    replace h := h n2 z2
    exact h
theorem b_X11_coins_0  (h : Qr (some (.inr (.inr (.inl (L 2 5))))) (J, L, W)) :
    NW sc d_X11_coins D (0, [some (.inr (.inl (some 0)))], [], (J, L, W), c, sl) Qr Qx := by
  refine nw_aload_n l_X11_coins_0 1 rfl rfl ?_
  refine nw_getA l_X11_coins_1 4 rfl k_0 r_0_1 ?_
  refine nw_getL l_X11_coins_4 7 rfl k_2 (v := L 2 5) rfl ?_
  refine nw_lreturn l_X11_coins_7 rfl ?_
  exact h
theorem b_X11_countBelow_0 {x1 : Int} (hD : 4 ≤ D) (h : NW sc d_X3_askAll 3 (0, [some (.inr (.inl (some 28))), some (.inr (.inl (some 2))), none], [], (J, L, W), 0, 0) (fun v M9 => NW sc d_X11_countBelow D (11, [some (.inr (.inl (some 0))), some (.inl x1)], nw_push v [], M9, c, sl) Qr Qx) Qx) :
    NW sc d_X11_countBelow D (0, [some (.inr (.inl (some 0))), some (.inl x1)], [], (J, L, W), c, sl) Qr Qx := by
  refine nw_aload_n l_X11_countBelow_0 1 rfl rfl ?_
  refine nw_getA l_X11_countBelow_1 4 rfl k_0 r_0_3 ?_
  refine nw_aload_n l_X11_countBelow_4 5 rfl rfl ?_
  refine nw_getA l_X11_countBelow_5 8 rfl k_0 r_0_1 ?_
  refine nw_call0 3 28 l_X11_countBelow_8 rfl rfl g_X3_askAll (Nat.lt_of_lt_of_le (by decide) hD) rfl (Or.inl ⟨_, rfl, k_28⟩) (ls' := [some (.inr (.inl (some 28))), some (.inr (.inl (some 2))), none]) rfl (st' := []) rfl 11 rfl ?_
  exact h
theorem b_X11_countBelow_11 {x1 : Int} (hD : 4 ≤ D) (h : NW sc d_X3_growTree 2 (0, [some (.inr (.inl (some 28))), none], [], (J, L, W), 0, 0) (fun v M9 => NW sc d_X11_countBelow D (18, [some (.inr (.inl (some 0))), some (.inl x1)], nw_push v [], M9, c, sl) Qr Qx) Qx) :
    NW sc d_X11_countBelow D (11, [some (.inr (.inl (some 0))), some (.inl x1)], [], (J, L, W), c, sl) Qr Qx := by
  refine nw_aload_n l_X11_countBelow_11 12 rfl rfl ?_
  refine nw_getA l_X11_countBelow_12 15 rfl k_0 r_0_3 ?_
  refine nw_call0 2 28 l_X11_countBelow_15 rfl rfl g_X3_growTree (Nat.lt_of_lt_of_le (by decide) hD) rfl (Or.inl ⟨_, rfl, k_28⟩) (ls' := [some (.inr (.inl (some 28))), none]) rfl (st' := []) rfl 18 rfl ?_
  exact h
theorem b_X11_countBelow_18 {x1 : Int} (hD : 4 ≤ D) (h : NW sc d_X3_lessInTree 0 (0, [some (.inr (.inl (some 28))), some (.inl x1), none, none, none], [], (J, L, W), 0, 0) (fun v M9 => NW sc d_X11_countBelow D (26, [none, none], nw_push v [], M9, c, sl) Qr Qx) Qx) :
    NW sc d_X11_countBelow D (18, [some (.inr (.inl (some 0))), some (.inl x1)], [], (J, L, W), c, sl) Qr Qx := by
  refine nw_aload_n l_X11_countBelow_18 19 rfl rfl ?_
  refine nw_getA l_X11_countBelow_19 22 rfl k_0 r_0_3 ?_
  refine nw_iload_n l_X11_countBelow_22 23 rfl rfl ?_
  refine nw_drop (ls' := [none, none]) ⟨True.intro, ⟨True.intro, True.intro⟩⟩ ?_
  refine nw_call0 0 28 l_X11_countBelow_23 rfl rfl g_X3_lessInTree (Nat.lt_of_lt_of_le (by decide) hD) rfl (Or.inl ⟨_, rfl, k_28⟩) (ls' := [some (.inr (.inl (some 28))), some (.inl x1), none, none, none]) rfl (st' := []) rfl 26 rfl ?_
  exact h
theorem b_X11_countBelow_26 {y0 : Int} (h : Qr (some (.inl y0)) (J, L, W)) :
    NW sc d_X11_countBelow D (26, [none, none], [.inl y0], (J, L, W), c, sl) Qr Qx := by
  refine nw_ireturn l_X11_countBelow_26 rfl ?_
  exact h
theorem b_X11_countBelowByAsking_0 {x1 : Int} (hD : 4 ≤ D) (h : NW sc d_X3_askAll 3 (0, [some (.inr (.inl (some 28))), some (.inr (.inl (some 2))), none], [], (J, L, W), 0, 0) (fun v M9 => NW sc d_X11_countBelowByAsking D (11, [some (.inr (.inl (some 0))), some (.inl x1)], nw_push v [], M9, c, sl) Qr Qx) Qx) :
    NW sc d_X11_countBelowByAsking D (0, [some (.inr (.inl (some 0))), some (.inl x1)], [], (J, L, W), c, sl) Qr Qx := by
  refine nw_aload_n l_X11_countBelowByAsking_0 1 rfl rfl ?_
  refine nw_getA l_X11_countBelowByAsking_1 4 rfl k_0 r_0_3 ?_
  refine nw_aload_n l_X11_countBelowByAsking_4 5 rfl rfl ?_
  refine nw_getA l_X11_countBelowByAsking_5 8 rfl k_0 r_0_1 ?_
  refine nw_call0 3 28 l_X11_countBelowByAsking_8 rfl rfl g_X3_askAll (Nat.lt_of_lt_of_le (by decide) hD) rfl (Or.inl ⟨_, rfl, k_28⟩) (ls' := [some (.inr (.inl (some 28))), some (.inr (.inl (some 2))), none]) rfl (st' := []) rfl 11 rfl ?_
  exact h
theorem b_X11_countBelowByAsking_11 {x1 : Int} (hD : 4 ≤ D) (h : NW sc d_X3_lessByAsking 0 (0, [some (.inr (.inl (some 28))), some (.inl x1), none, none], [], (J, L, W), 0, 0) (fun v M9 => NW sc d_X11_countBelowByAsking D (19, [none, none], nw_push v [], M9, c, sl) Qr Qx) Qx) :
    NW sc d_X11_countBelowByAsking D (11, [some (.inr (.inl (some 0))), some (.inl x1)], [], (J, L, W), c, sl) Qr Qx := by
  refine nw_aload_n l_X11_countBelowByAsking_11 12 rfl rfl ?_
  refine nw_getA l_X11_countBelowByAsking_12 15 rfl k_0 r_0_3 ?_
  refine nw_iload_n l_X11_countBelowByAsking_15 16 rfl rfl ?_
  refine nw_drop (ls' := [none, none]) ⟨True.intro, ⟨True.intro, True.intro⟩⟩ ?_
  refine nw_call0 0 28 l_X11_countBelowByAsking_16 rfl rfl g_X3_lessByAsking (Nat.lt_of_lt_of_le (by decide) hD) rfl (Or.inl ⟨_, rfl, k_28⟩) (ls' := [some (.inr (.inl (some 28))), some (.inl x1), none, none]) rfl (st' := []) rfl 19 rfl ?_
  exact h
theorem b_X11_countBelowByAsking_19 {y0 : Int} (h : Qr (some (.inl y0)) (J, L, W)) :
    NW sc d_X11_countBelowByAsking D (19, [none, none], [.inl y0], (J, L, W), c, sl) Qr Qx := by
  refine nw_ireturn l_X11_countBelowByAsking_19 rfl ?_
  exact h
theorem b_X11_countsAgree_0  (hD : 4 ≤ D) (h : NW sc d_X3_askAll 3 (0, [some (.inr (.inl (some 28))), some (.inr (.inl (some 2))), none], [], (J, L, W), 0, 0) (fun v M9 => NW sc d_X11_countsAgree D (11, [some (.inr (.inl (some 0))), none, none], nw_push v [], M9, c, sl) Qr Qx) Qx) :
    NW sc d_X11_countsAgree D (0, [some (.inr (.inl (some 0))), none, none], [], (J, L, W), c, sl) Qr Qx := by
  refine nw_aload_n l_X11_countsAgree_0 1 rfl rfl ?_
  refine nw_getA l_X11_countsAgree_1 4 rfl k_0 r_0_3 ?_
  refine nw_aload_n l_X11_countsAgree_4 5 rfl rfl ?_
  refine nw_getA l_X11_countsAgree_5 8 rfl k_0 r_0_1 ?_
  refine nw_call0 3 28 l_X11_countsAgree_8 rfl rfl g_X3_askAll (Nat.lt_of_lt_of_le (by decide) hD) rfl (Or.inl ⟨_, rfl, k_28⟩) (ls' := [some (.inr (.inl (some 28))), some (.inr (.inl (some 2))), none]) rfl (st' := []) rfl 11 rfl ?_
  exact h
theorem b_X11_countsAgree_11  (hD : 4 ≤ D) (h : NW sc d_X3_growTree 2 (0, [some (.inr (.inl (some 28))), none], [], (J, L, W), 0, 0) (fun v M9 => NW sc d_X11_countsAgree D (18, [some (.inr (.inl (some 0))), none, none], nw_push v [], M9, c, sl) Qr Qx) Qx) :
    NW sc d_X11_countsAgree D (11, [some (.inr (.inl (some 0))), none, none], [], (J, L, W), c, sl) Qr Qx := by
  refine nw_aload_n l_X11_countsAgree_11 12 rfl rfl ?_
  refine nw_getA l_X11_countsAgree_12 15 rfl k_0 r_0_3 ?_
  refine nw_call0 2 28 l_X11_countsAgree_15 rfl rfl g_X3_growTree (Nat.lt_of_lt_of_le (by decide) hD) rfl (Or.inl ⟨_, rfl, k_28⟩) (ls' := [some (.inr (.inl (some 28))), none]) rfl (st' := []) rfl 18 rfl ?_
  exact h
theorem b_X11_countsAgree_18  (h : NW sc d_X11_countsAgree D (20, [some (.inr (.inl (some 0))), some (.inl 0), none], [], (J, L, W), c, sl) Qr Qx) :
    NW sc d_X11_countsAgree D (18, [some (.inr (.inl (some 0))), none, none], [], (J, L, W), c, sl) Qr Qx := by
  refine nw_iconst (len := 0) l_X11_countsAgree_18 19 rfl c_0 ?_
  refine nw_istore_n l_X11_countsAgree_19 20 rfl rfl (ls' := [some (.inr (.inl (some 0))), some (.inl 0), none]) rfl ?_
  exact h
theorem b_X11_countsAgree_20 {x1 : Int} (hD : 4 ≤ D) (h : ((J 18 0 ≤ x1 → Qr (some (.inl 1)) (J, L, W)) ∧ (x1 < J 18 0 → ((0 ≤ x1 ∧ x1 < 10) ∧ NW sc d_X3_lessInTree 0 (0, [some (.inr (.inl (some 28))), some (.inl (J 46 x1)), none, none, none], [], (J, L, W), 0, 0) (fun v M9 => NW sc d_X11_countsAgree D (52, [some (.inr (.inl (some 0))), some (.inl x1), some (.inl (J 46 x1))], nw_push v [], M9, c, sl) Qr Qx) Qx)))) :
    NW sc d_X11_countsAgree D (20, [some (.inr (.inl (some 0))), some (.inl x1), none], [], (J, L, W), c, sl) Qr Qx := by
  refine nw_iload_n l_X11_countsAgree_20 21 rfl rfl ?_
  refine nw_aload_n l_X11_countsAgree_21 22 rfl rfl ?_
  refine nw_getA l_X11_countsAgree_22 25 rfl k_0 r_0_1 ?_
  refine nw_getA l_X11_countsAgree_25 28 rfl k_2 r_2_2 ?_
  refine nw_getI l_X11_countsAgree_28 31 rfl k_18 (v := J 18 0) rfl ?_
  refine nw_ic_ge l_X11_countsAgree_31 34 rfl (fun q1 => ?_) (fun q1 => ?_)
  · replace h := h.1 q1
    refine nw_iconst (len := 0) l_X11_countsAgree_71 72 rfl c_1 ?_
    refine nw_ireturnZ l_X11_countsAgree_72 rfl (Or.inr rfl) ?_
    exact h
  · replace h := h.2 q1
    refine nw_aload_n l_X11_countsAgree_34 35 rfl rfl ?_
    refine nw_getA l_X11_countsAgree_35 38 rfl k_0 r_0_3 ?_
    refine nw_getA l_X11_countsAgree_38 41 rfl k_28 r_28_1 ?_
    refine nw_iload_n l_X11_countsAgree_41 42 rfl rfl ?_
    have o2 := h.1
    replace h := h.2
    refine nw_iald l_X11_countsAgree_42 43 rfl k_46 o2 (v := J 46 x1) rfl ?_
    refine nw_istore_n l_X11_countsAgree_43 44 rfl rfl (ls' := [some (.inr (.inl (some 0))), some (.inl x1), some (.inl (J 46 x1))]) rfl ?_
    refine nw_aload_n l_X11_countsAgree_44 45 rfl rfl ?_
    refine nw_getA l_X11_countsAgree_45 48 rfl k_0 r_0_3 ?_
    refine nw_iload_n l_X11_countsAgree_48 49 rfl rfl ?_
    refine nw_call0 0 28 l_X11_countsAgree_49 rfl rfl g_X3_lessInTree (Nat.lt_of_lt_of_le (by decide) hD) rfl (Or.inl ⟨_, rfl, k_28⟩) (ls' := [some (.inr (.inl (some 28))), some (.inl (J 46 x1)), none, none, none]) rfl (st' := []) rfl 52 rfl ?_
    exact h
theorem b_X11_countsAgree_52 {x1 : Int} {x2 : Int} {y0 : Int} (hD : 4 ≤ D) (h : NW sc d_X3_lessByAsking 0 (0, [some (.inr (.inl (some 28))), some (.inl x2), none, none], [], (J, L, W), 0, 0) (fun v M9 => NW sc d_X11_countsAgree D (60, [some (.inr (.inl (some 0))), some (.inl x1), none], nw_push v [.inl y0], M9, c, sl) Qr Qx) Qx) :
    NW sc d_X11_countsAgree D (52, [some (.inr (.inl (some 0))), some (.inl x1), some (.inl x2)], [.inl y0], (J, L, W), c, sl) Qr Qx := by
  refine nw_aload_n l_X11_countsAgree_52 53 rfl rfl ?_
  refine nw_getA l_X11_countsAgree_53 56 rfl k_0 r_0_3 ?_
  refine nw_iload_n l_X11_countsAgree_56 57 rfl rfl ?_
  refine nw_drop (ls' := [some (.inr (.inl (some 0))), some (.inl x1), none]) ⟨rfl, ⟨rfl, ⟨True.intro, True.intro⟩⟩⟩ ?_
  refine nw_call0 0 28 l_X11_countsAgree_57 rfl rfl g_X3_lessByAsking (Nat.lt_of_lt_of_le (by decide) hD) rfl (Or.inl ⟨_, rfl, k_28⟩) (ls' := [some (.inr (.inl (some 28))), some (.inl x2), none, none]) rfl (st' := [.inl y0]) rfl 60 rfl ?_
  exact h
theorem b_X11_countsAgree_60 {x1 : Int} {y0 : Int} {y1 : Int} (h : ((y1 = y0 → ((-2147483648 ≤ x1 + 1 ∧ x1 + 1 < 2147483648) ∧ NW sc d_X11_countsAgree D (20, [some (.inr (.inl (some 0))), some (.inl (x1 + 1)), none], [], (J, L, W), c, sl) Qr Qx)) ∧ (¬ y1 = y0 → Qr (some (.inl 0)) (J, L, W)))) :
    NW sc d_X11_countsAgree D (60, [some (.inr (.inl (some 0))), some (.inl x1), none], [.inl y0, .inl y1], (J, L, W), c, sl) Qr Qx := by
  refine nw_ic_eq l_X11_countsAgree_60 63 rfl (fun q1 => ?_) (fun q1 => ?_)
  · replace h := h.1 q1
    have o2 := h.1
    replace h := h.2
    refine nw_iinc l_X11_countsAgree_65 68 rfl 1 (by decide) rfl rfl o2 (ls' := [some (.inr (.inl (some 0))), some (.inl (x1 + 1)), none]) rfl ?_
    refine nw_goto l_X11_countsAgree_68 ?_
    exact h
  · replace h := h.2 q1
    refine nw_iconst (len := 0) l_X11_countsAgree_63 64 rfl c_0 ?_
    refine nw_ireturnZ l_X11_countsAgree_64 rfl (Or.inl rfl) ?_
    exact h
theorem b_X11_craterCount_0  (h : Qr (some (.inl (J 3 0))) (J, L, W)) :
    NW sc d_X11_craterCount D (0, [some (.inr (.inl (some 0)))], [], (J, L, W), c, sl) Qr Qx := by
  refine nw_aload_n l_X11_craterCount_0 1 rfl rfl ?_
  refine nw_getA l_X11_craterCount_1 4 rfl k_0 r_0_1 ?_
  refine nw_getA l_X11_craterCount_4 7 rfl k_2 r_2_0 ?_
  refine nw_getI l_X11_craterCount_7 10 rfl k_3 (v := J 3 0) rfl ?_
  refine nw_ireturn l_X11_craterCount_10 rfl ?_
  exact h
theorem b_X11_craterOf_0 {x1 : Int} (hD : 2 ≤ D) (hc : 2 ≤ c) (hs : 12 ≤ sl) (h : ((x1 < 0 → (∀ n2, W.2.2.2.2 ≤ n2 → Qx 0 (J, L, nw_top W n2))) ∧ (0 ≤ x1 → ((J 9 0 ≤ x1 → (∀ n4, W.2.2.2.2 ≤ n4 → Qx 0 (J, L, nw_top W n4))) ∧ (x1 < J 9 0 → ((0 ≤ x1 ∧ x1 < 3) ∧ ((J 11 x1 = (-1) → Qr (some (.inl (J 10 x1))) (J, L, W)) ∧ (¬ J 11 x1 = (-1) → (∀ n7, W.2.2.2.2 ≤ n7 → Qx 2 (J, L, nw_top W n7)))))))))) :
    NW sc d_X11_craterOf D (0, [some (.inr (.inl (some 0))), some (.inl x1)], [], (J, L, W), c, sl) Qr Qx := by
  refine nw_aload_n l_X11_craterOf_0 1 rfl rfl ?_
  refine nw_iload_n l_X11_craterOf_1 2 rfl rfl ?_
  refine nw_call 1 1 6 0 l_X11_craterOf_2 rfl rfl g_X11_needFerry (Nat.lt_of_lt_of_le (by decide) hD) rfl (by omega) (by omega) (Or.inl ⟨_, rfl, k_0⟩) (ls' := [some (.inr (.inl (some 0))), some (.inl x1)]) rfl (st' := []) rfl 5 rfl (c' := (c - 1)) (by omega) (sl' := (sl - 6)) (by omega) ?_
  refine nw_aload_n l_X11_needFerry_0 1 rfl rfl ?_
  refine nw_getA l_X11_needFerry_1 4 rfl k_0 r_0_1 ?_
  refine nw_getA l_X11_needFerry_4 7 rfl k_2 r_2_1 ?_
  refine nw_iload_n l_X11_needFerry_7 8 rfl rfl ?_
  refine nw_call0 0 9 l_X11_needFerry_8 rfl rfl g_X4_hasFerry (by decide) rfl (Or.inl ⟨_, rfl, k_9⟩) (ls' := [some (.inr (.inl (some 9))), some (.inl x1)]) rfl (st' := []) rfl 11 rfl ?_
  refine nw_iload_n l_X4_hasFerry_0 1 rfl rfl ?_
  refine nw_if_lt l_X4_hasFerry_1 4 rfl (fun q1 => ?_) (fun q1 => ?_)
  · replace h := h.1 q1
    refine nw_iconst (len := 0) l_X4_hasFerry_16 17 rfl c_0 ?_
    refine nw_ireturnZ l_X4_hasFerry_17 rfl (Or.inl rfl) ?_
    refine nw_if_ne l_X11_needFerry_11 14 rfl (fun q => absurd q (by decide)) (fun _ => ?_)
    refine nw_throw 0 l_X11_needFerry_14 ⟨rfl, rfl, rfl, by decide, rfl⟩ (by decide) (by decide) (fun n2 z2 => ?_)
    replace h := h n2 z2
    exact h
  · replace h := h.2 q1
    refine nw_iload_n l_X4_hasFerry_4 5 rfl rfl ?_
    refine nw_aload_n l_X4_hasFerry_5 6 rfl rfl ?_
    refine nw_getI l_X4_hasFerry_6 9 rfl k_9 (v := J 9 0) rfl ?_
    refine nw_ic_ge l_X4_hasFerry_9 12 rfl (fun q3 => ?_) (fun q3 => ?_)
    · replace h := h.1 q3
      refine nw_iconst (len := 0) l_X4_hasFerry_16 17 rfl c_0 ?_
      refine nw_ireturnZ l_X4_hasFerry_17 rfl (Or.inl rfl) ?_
      refine nw_if_ne l_X11_needFerry_11 14 rfl (fun q => absurd q (by decide)) (fun _ => ?_)
      refine nw_throw 0 l_X11_needFerry_14 ⟨rfl, rfl, rfl, by decide, rfl⟩ (by decide) (by decide) (fun n4 z4 => ?_)
      replace h := h n4 z4
      exact h
    · replace h := h.2 q3
      refine nw_iconst (len := 0) l_X4_hasFerry_12 13 rfl c_1 ?_
      refine nw_goto l_X4_hasFerry_13 ?_
      refine nw_ireturnZ l_X4_hasFerry_17 rfl (Or.inr rfl) ?_
      refine nw_if_ne l_X11_needFerry_11 14 rfl (fun _ => ?_) (fun q => absurd q (by decide))
      refine nw_return l_X11_needFerry_22 rfl ?_
      refine nw_aload_n l_X11_craterOf_5 6 rfl rfl ?_
      refine nw_iload_n l_X11_craterOf_6 7 rfl rfl ?_
      refine nw_call 1 1 6 0 l_X11_craterOf_7 rfl rfl g_X11_needAshore (Nat.lt_of_lt_of_le (by decide) hD) rfl (by omega) (by omega) (Or.inl ⟨_, rfl, k_0⟩) (ls' := [some (.inr (.inl (some 0))), some (.inl x1)]) rfl (st' := []) rfl 10 rfl (c' := (c - 2)) (by omega) (sl' := (sl - 12)) (by omega) ?_
      refine nw_aload_n l_X11_needAshore_0 1 rfl rfl ?_
      refine nw_getA l_X11_needAshore_1 4 rfl k_0 r_0_1 ?_
      refine nw_getA l_X11_needAshore_4 7 rfl k_2 r_2_1 ?_
      refine nw_iload_n l_X11_needAshore_7 8 rfl rfl ?_
      refine nw_call0 0 9 l_X11_needAshore_8 rfl rfl g_X4_underWay (by decide) rfl (Or.inl ⟨_, rfl, k_9⟩) (ls' := [some (.inr (.inl (some 9))), some (.inl x1)]) rfl (st' := []) rfl 11 rfl ?_
      refine nw_aload_n l_X4_underWay_0 1 rfl rfl ?_
      refine nw_getA l_X4_underWay_1 4 rfl k_9 r_9_2 ?_
      refine nw_iload_n l_X4_underWay_4 5 rfl rfl ?_
      have o5 := h.1
      replace h := h.2
      refine nw_iald l_X4_underWay_5 6 rfl k_11 o5 (v := J 11 x1) rfl ?_
      refine nw_iconst (len := 0) l_X4_underWay_6 7 rfl c_n1 ?_
      refine nw_ic_eq l_X4_underWay_7 10 rfl (fun q6 => ?_) (fun q6 => ?_)
      · replace h := h.1 q6
        refine nw_iconst (len := 0) l_X4_underWay_14 15 rfl c_0 ?_
        refine nw_ireturnZ l_X4_underWay_15 rfl (Or.inl rfl) ?_
        refine nw_if_eq l_X11_needAshore_11 14 rfl (fun _ => ?_) (fun q => absurd q (by decide))
        refine nw_return l_X11_needAshore_22 rfl ?_
        refine nw_aload_n l_X11_craterOf_10 11 rfl rfl ?_
        refine nw_getA l_X11_craterOf_11 14 rfl k_0 r_0_1 ?_
        refine nw_getA l_X11_craterOf_14 17 rfl k_2 r_2_1 ?_
        refine nw_getA l_X11_craterOf_17 20 rfl k_9 r_9_1 ?_
        refine nw_iload_n l_X11_craterOf_20 21 rfl rfl ?_
        refine nw_iald l_X11_craterOf_21 22 rfl k_10 o5 (v := J 10 x1) rfl ?_
        refine nw_ireturn l_X11_craterOf_22 rfl ?_
        exact h
      · replace h := h.2 q6
        refine nw_iconst (len := 0) l_X4_underWay_10 11 rfl c_1 ?_
        refine nw_goto l_X4_underWay_11 ?_
        refine nw_ireturnZ l_X4_underWay_15 rfl (Or.inr rfl) ?_
        refine nw_if_eq l_X11_needAshore_11 14 rfl (fun q => absurd q (by decide)) (fun _ => ?_)
        refine nw_throw 2 l_X11_needAshore_14 ⟨rfl, rfl, rfl, by decide, rfl⟩ (by decide) (by decide) (fun n7 z7 => ?_)
        replace h := h n7 z7
        exact h
theorem b_X11_depthOf_0 {x1 : Int} (hD : 2 ≤ D) (hc : 1 ≤ c) (hs : 6 ≤ sl) (h : ((x1 < 0 → (∀ n2, W.2.2.2.2 ≤ n2 → Qx 0 (J, L, nw_top W n2))) ∧ (0 ≤ x1 → ((J 3 0 ≤ x1 → (∀ n4, W.2.2.2.2 ≤ n4 → Qx 0 (J, L, nw_top W n4))) ∧ (x1 < J 3 0 → ((0 ≤ x1 ∧ x1 < 6) ∧ Qr (some (.inl (J 4 x1))) (J, L, W))))))) :
    NW sc d_X11_depthOf D (0, [some (.inr (.inl (some 0))), some (.inl x1)], [], (J, L, W), c, sl) Qr Qx := by
  refine nw_aload_n l_X11_depthOf_0 1 rfl rfl ?_
  refine nw_iload_n l_X11_depthOf_1 2 rfl rfl ?_
  refine nw_call 1 1 6 0 l_X11_depthOf_2 rfl rfl g_X11_needCrater (Nat.lt_of_lt_of_le (by decide) hD) rfl (by omega) (by omega) (Or.inl ⟨_, rfl, k_0⟩) (ls' := [some (.inr (.inl (some 0))), some (.inl x1)]) rfl (st' := []) rfl 5 rfl (c' := (c - 1)) (by omega) (sl' := (sl - 6)) (by omega) ?_
  refine nw_aload_n l_X11_needCrater_0 1 rfl rfl ?_
  refine nw_getA l_X11_needCrater_1 4 rfl k_0 r_0_1 ?_
  refine nw_getA l_X11_needCrater_4 7 rfl k_2 r_2_0 ?_
  refine nw_iload_n l_X11_needCrater_7 8 rfl rfl ?_
  refine nw_call0 0 3 l_X11_needCrater_8 rfl rfl g_X9_hasCrater (by decide) rfl (Or.inl ⟨_, rfl, k_3⟩) (ls' := [some (.inr (.inl (some 3))), some (.inl x1)]) rfl (st' := []) rfl 11 rfl ?_
  refine nw_iload_n l_X9_hasCrater_0 1 rfl rfl ?_
  refine nw_if_lt l_X9_hasCrater_1 4 rfl (fun q1 => ?_) (fun q1 => ?_)
  · replace h := h.1 q1
    refine nw_iconst (len := 0) l_X9_hasCrater_16 17 rfl c_0 ?_
    refine nw_ireturnZ l_X9_hasCrater_17 rfl (Or.inl rfl) ?_
    refine nw_if_ne l_X11_needCrater_11 14 rfl (fun q => absurd q (by decide)) (fun _ => ?_)
    refine nw_throw 0 l_X11_needCrater_14 ⟨rfl, rfl, rfl, by decide, rfl⟩ (by decide) (by decide) (fun n2 z2 => ?_)
    replace h := h n2 z2
    exact h
  · replace h := h.2 q1
    refine nw_iload_n l_X9_hasCrater_4 5 rfl rfl ?_
    refine nw_aload_n l_X9_hasCrater_5 6 rfl rfl ?_
    refine nw_getI l_X9_hasCrater_6 9 rfl k_3 (v := J 3 0) rfl ?_
    refine nw_ic_ge l_X9_hasCrater_9 12 rfl (fun q3 => ?_) (fun q3 => ?_)
    · replace h := h.1 q3
      refine nw_iconst (len := 0) l_X9_hasCrater_16 17 rfl c_0 ?_
      refine nw_ireturnZ l_X9_hasCrater_17 rfl (Or.inl rfl) ?_
      refine nw_if_ne l_X11_needCrater_11 14 rfl (fun q => absurd q (by decide)) (fun _ => ?_)
      refine nw_throw 0 l_X11_needCrater_14 ⟨rfl, rfl, rfl, by decide, rfl⟩ (by decide) (by decide) (fun n4 z4 => ?_)
      replace h := h n4 z4
      exact h
    · replace h := h.2 q3
      refine nw_iconst (len := 0) l_X9_hasCrater_12 13 rfl c_1 ?_
      refine nw_goto l_X9_hasCrater_13 ?_
      refine nw_ireturnZ l_X9_hasCrater_17 rfl (Or.inr rfl) ?_
      refine nw_if_ne l_X11_needCrater_11 14 rfl (fun _ => ?_) (fun q => absurd q (by decide))
      refine nw_return l_X11_needCrater_22 rfl ?_
      refine nw_aload_n l_X11_depthOf_5 6 rfl rfl ?_
      refine nw_getA l_X11_depthOf_6 9 rfl k_0 r_0_1 ?_
      refine nw_getA l_X11_depthOf_9 12 rfl k_2 r_2_0 ?_
      refine nw_getA l_X11_depthOf_12 15 rfl k_3 r_3_2 ?_
      refine nw_iload_n l_X11_depthOf_15 16 rfl rfl ?_
      have o5 := h.1
      replace h := h.2
      refine nw_iald l_X11_depthOf_16 17 rfl k_4 o5 (v := J 4 x1) rfl ?_
      refine nw_ireturn l_X11_depthOf_17 rfl ?_
      exact h
theorem b_X11_earliestArrival_0 {x1 : Int} {x2 : Int} (hD : 5 ≤ D) (hc : 2 ≤ c) (hs : 12 ≤ sl) (h : ((x1 < 0 → (∀ n2, W.2.2.2.2 ≤ n2 → Qx 0 (J, L, nw_top W n2))) ∧ (0 ≤ x1 → ((J 9 0 ≤ x1 → (∀ n4, W.2.2.2.2 ≤ n4 → Qx 0 (J, L, nw_top W n4))) ∧ (x1 < J 9 0 → ((x2 < 0 → (∀ n6, W.2.2.2.2 ≤ n6 → Qx 0 (J, L, nw_top W n6))) ∧ (0 ≤ x2 → ((J 3 0 ≤ x2 → (∀ n8, W.2.2.2.2 ≤ n8 → Qx 0 (J, L, nw_top W n8))) ∧ (x2 < J 3 0 → NW sc d_X10_arriveByQueue 4 (0, [some (.inr (.inl (some 29))), some (.inr (.inl (some 2))), some (.inl x1), none, none, none], [], (J, L, W), 0, 0) (fun v M9 => NW sc d_X11_earliestArrival D (22, [some (.inr (.inl (some 0))), none, some (.inl x2)], nw_push v [], M9, (c - 2), (sl - 12)) Qr Qx) Qx))))))))) :
    NW sc d_X11_earliestArrival D (0, [some (.inr (.inl (some 0))), some (.inl x1), some (.inl x2)], [], (J, L, W), c, sl) Qr Qx := by
  refine nw_aload_n l_X11_earliestArrival_0 1 rfl rfl ?_
  refine nw_iload_n l_X11_earliestArrival_1 2 rfl rfl ?_
  refine nw_call 1 1 6 0 l_X11_earliestArrival_2 rfl rfl g_X11_needFerry (Nat.lt_of_lt_of_le (by decide) hD) rfl (by omega) (by omega) (Or.inl ⟨_, rfl, k_0⟩) (ls' := [some (.inr (.inl (some 0))), some (.inl x1)]) rfl (st' := []) rfl 5 rfl (c' := (c - 1)) (by omega) (sl' := (sl - 6)) (by omega) ?_
  refine nw_aload_n l_X11_needFerry_0 1 rfl rfl ?_
  refine nw_getA l_X11_needFerry_1 4 rfl k_0 r_0_1 ?_
  refine nw_getA l_X11_needFerry_4 7 rfl k_2 r_2_1 ?_
  refine nw_iload_n l_X11_needFerry_7 8 rfl rfl ?_
  refine nw_call0 0 9 l_X11_needFerry_8 rfl rfl g_X4_hasFerry (by decide) rfl (Or.inl ⟨_, rfl, k_9⟩) (ls' := [some (.inr (.inl (some 9))), some (.inl x1)]) rfl (st' := []) rfl 11 rfl ?_
  refine nw_iload_n l_X4_hasFerry_0 1 rfl rfl ?_
  refine nw_if_lt l_X4_hasFerry_1 4 rfl (fun q1 => ?_) (fun q1 => ?_)
  · replace h := h.1 q1
    refine nw_iconst (len := 0) l_X4_hasFerry_16 17 rfl c_0 ?_
    refine nw_ireturnZ l_X4_hasFerry_17 rfl (Or.inl rfl) ?_
    refine nw_if_ne l_X11_needFerry_11 14 rfl (fun q => absurd q (by decide)) (fun _ => ?_)
    refine nw_throw 0 l_X11_needFerry_14 ⟨rfl, rfl, rfl, by decide, rfl⟩ (by decide) (by decide) (fun n2 z2 => ?_)
    replace h := h n2 z2
    exact h
  · replace h := h.2 q1
    refine nw_iload_n l_X4_hasFerry_4 5 rfl rfl ?_
    refine nw_aload_n l_X4_hasFerry_5 6 rfl rfl ?_
    refine nw_getI l_X4_hasFerry_6 9 rfl k_9 (v := J 9 0) rfl ?_
    refine nw_ic_ge l_X4_hasFerry_9 12 rfl (fun q3 => ?_) (fun q3 => ?_)
    · replace h := h.1 q3
      refine nw_iconst (len := 0) l_X4_hasFerry_16 17 rfl c_0 ?_
      refine nw_ireturnZ l_X4_hasFerry_17 rfl (Or.inl rfl) ?_
      refine nw_if_ne l_X11_needFerry_11 14 rfl (fun q => absurd q (by decide)) (fun _ => ?_)
      refine nw_throw 0 l_X11_needFerry_14 ⟨rfl, rfl, rfl, by decide, rfl⟩ (by decide) (by decide) (fun n4 z4 => ?_)
      replace h := h n4 z4
      exact h
    · replace h := h.2 q3
      refine nw_iconst (len := 0) l_X4_hasFerry_12 13 rfl c_1 ?_
      refine nw_goto l_X4_hasFerry_13 ?_
      refine nw_ireturnZ l_X4_hasFerry_17 rfl (Or.inr rfl) ?_
      refine nw_if_ne l_X11_needFerry_11 14 rfl (fun _ => ?_) (fun q => absurd q (by decide))
      refine nw_return l_X11_needFerry_22 rfl ?_
      refine nw_aload_n l_X11_earliestArrival_5 6 rfl rfl ?_
      refine nw_iload_n l_X11_earliestArrival_6 7 rfl rfl ?_
      refine nw_call 1 1 6 0 l_X11_earliestArrival_7 rfl rfl g_X11_needCrater (Nat.lt_of_lt_of_le (by decide) hD) rfl (by omega) (by omega) (Or.inl ⟨_, rfl, k_0⟩) (ls' := [some (.inr (.inl (some 0))), some (.inl x2)]) rfl (st' := []) rfl 10 rfl (c' := (c - 2)) (by omega) (sl' := (sl - 12)) (by omega) ?_
      refine nw_aload_n l_X11_needCrater_0 1 rfl rfl ?_
      refine nw_getA l_X11_needCrater_1 4 rfl k_0 r_0_1 ?_
      refine nw_getA l_X11_needCrater_4 7 rfl k_2 r_2_0 ?_
      refine nw_iload_n l_X11_needCrater_7 8 rfl rfl ?_
      refine nw_call0 0 3 l_X11_needCrater_8 rfl rfl g_X9_hasCrater (by decide) rfl (Or.inl ⟨_, rfl, k_3⟩) (ls' := [some (.inr (.inl (some 3))), some (.inl x2)]) rfl (st' := []) rfl 11 rfl ?_
      refine nw_iload_n l_X9_hasCrater_0 1 rfl rfl ?_
      refine nw_if_lt l_X9_hasCrater_1 4 rfl (fun q5 => ?_) (fun q5 => ?_)
      · replace h := h.1 q5
        refine nw_iconst (len := 0) l_X9_hasCrater_16 17 rfl c_0 ?_
        refine nw_ireturnZ l_X9_hasCrater_17 rfl (Or.inl rfl) ?_
        refine nw_if_ne l_X11_needCrater_11 14 rfl (fun q => absurd q (by decide)) (fun _ => ?_)
        refine nw_throw 0 l_X11_needCrater_14 ⟨rfl, rfl, rfl, by decide, rfl⟩ (by decide) (by decide) (fun n6 z6 => ?_)
        replace h := h n6 z6
        exact h
      · replace h := h.2 q5
        refine nw_iload_n l_X9_hasCrater_4 5 rfl rfl ?_
        refine nw_aload_n l_X9_hasCrater_5 6 rfl rfl ?_
        refine nw_getI l_X9_hasCrater_6 9 rfl k_3 (v := J 3 0) rfl ?_
        refine nw_ic_ge l_X9_hasCrater_9 12 rfl (fun q7 => ?_) (fun q7 => ?_)
        · replace h := h.1 q7
          refine nw_iconst (len := 0) l_X9_hasCrater_16 17 rfl c_0 ?_
          refine nw_ireturnZ l_X9_hasCrater_17 rfl (Or.inl rfl) ?_
          refine nw_if_ne l_X11_needCrater_11 14 rfl (fun q => absurd q (by decide)) (fun _ => ?_)
          refine nw_throw 0 l_X11_needCrater_14 ⟨rfl, rfl, rfl, by decide, rfl⟩ (by decide) (by decide) (fun n8 z8 => ?_)
          replace h := h n8 z8
          exact h
        · replace h := h.2 q7
          refine nw_iconst (len := 0) l_X9_hasCrater_12 13 rfl c_1 ?_
          refine nw_goto l_X9_hasCrater_13 ?_
          refine nw_ireturnZ l_X9_hasCrater_17 rfl (Or.inr rfl) ?_
          refine nw_if_ne l_X11_needCrater_11 14 rfl (fun _ => ?_) (fun q => absurd q (by decide))
          refine nw_return l_X11_needCrater_22 rfl ?_
          refine nw_aload_n l_X11_earliestArrival_10 11 rfl rfl ?_
          refine nw_getA l_X11_earliestArrival_11 14 rfl k_0 r_0_4 ?_
          refine nw_aload_n l_X11_earliestArrival_14 15 rfl rfl ?_
          refine nw_getA l_X11_earliestArrival_15 18 rfl k_0 r_0_1 ?_
          refine nw_iload_n l_X11_earliestArrival_18 19 rfl rfl ?_
          refine nw_drop (ls' := [some (.inr (.inl (some 0))), none, some (.inl x2)]) ⟨rfl, ⟨True.intro, ⟨rfl, True.intro⟩⟩⟩ ?_
          refine nw_call0 4 29 l_X11_earliestArrival_19 rfl rfl g_X10_arriveByQueue (Nat.lt_of_lt_of_le (by decide) hD) rfl (Or.inl ⟨_, rfl, k_29⟩) (ls' := [some (.inr (.inl (some 29))), some (.inr (.inl (some 2))), some (.inl x1), none, none, none]) rfl (st' := []) rfl 22 rfl ?_
          exact h
theorem b_X11_earliestArrival_22 {x2 : Int} (hD : 5 ≤ D) (hc : 1 ≤ c) (hs : 6 ≤ sl) (h : ((0 ≤ x2 ∧ x2 < 6) ∧ ((¬ J 38 x2 = (-1) → Qr (some (.inl (J 38 x2))) (J, L, W)) ∧ (J 38 x2 = (-1) → (∀ n3, W.2.2.2.2 ≤ n3 → Qx 4 (J, L, nw_top W n3)))))) :
    NW sc d_X11_earliestArrival D (22, [some (.inr (.inl (some 0))), none, some (.inl x2)], [], (J, L, W), c, sl) Qr Qx := by
  refine nw_aload_n l_X11_earliestArrival_22 23 rfl rfl ?_
  refine nw_getA l_X11_earliestArrival_23 26 rfl k_0 r_0_4 ?_
  refine nw_getA l_X11_earliestArrival_26 29 rfl k_29 r_29_2 ?_
  refine nw_iload_n l_X11_earliestArrival_29 30 rfl rfl ?_
  have o1 := h.1
  replace h := h.2
  refine nw_iald l_X11_earliestArrival_30 31 rfl k_38 o1 (v := J 38 x2) rfl ?_
  refine nw_call 0 1 6 0 l_X11_earliestArrival_31 rfl rfl g_X11_present (Nat.lt_of_lt_of_le (by decide) hD) rfl (by omega) (by omega) True.intro (ls' := [some (.inl (J 38 x2))]) rfl (st' := []) rfl 34 rfl (c' := (c - 1)) (by omega) (sl' := (sl - 6)) (by omega) ?_
  refine nw_iload_n l_X11_present_0 1 rfl rfl ?_
  refine nw_iconst (len := 0) l_X11_present_1 2 rfl c_n1 ?_
  refine nw_ic_ne l_X11_present_2 5 rfl (fun q2 => ?_) (fun q2 => ?_)
  · replace h := h.1 q2
    refine nw_iload_n l_X11_present_13 14 rfl rfl ?_
    refine nw_ireturn l_X11_present_14 rfl ?_
    refine nw_ireturn l_X11_earliestArrival_34 rfl ?_
    exact h
  · replace h := h.2 q2
    refine nw_throw 4 l_X11_present_5 ⟨rfl, rfl, rfl, by decide, rfl⟩ (by decide) (by decide) (fun n3 z3 => ?_)
    replace h := h n3 z3
    exact h
theorem b_X11_earliestArrivalByHours_0 {x1 : Int} {x2 : Int} (hD : 4 ≤ D) (hc : 2 ≤ c) (hs : 12 ≤ sl) (h : ((x1 < 0 → (∀ n2, W.2.2.2.2 ≤ n2 → Qx 0 (J, L, nw_top W n2))) ∧ (0 ≤ x1 → ((J 9 0 ≤ x1 → (∀ n4, W.2.2.2.2 ≤ n4 → Qx 0 (J, L, nw_top W n4))) ∧ (x1 < J 9 0 → ((x2 < 0 → (∀ n6, W.2.2.2.2 ≤ n6 → Qx 0 (J, L, nw_top W n6))) ∧ (0 ≤ x2 → ((J 3 0 ≤ x2 → (∀ n8, W.2.2.2.2 ≤ n8 → Qx 0 (J, L, nw_top W n8))) ∧ (x2 < J 3 0 → NW sc d_X10_arriveByHours 3 (0, [some (.inr (.inl (some 29))), some (.inr (.inl (some 2))), some (.inl x1), none, none, none], [], (J, L, W), 0, 0) (fun v M9 => NW sc d_X11_earliestArrivalByHours D (22, [some (.inr (.inl (some 0))), none, some (.inl x2)], nw_push v [], M9, (c - 2), (sl - 12)) Qr Qx) Qx))))))))) :
    NW sc d_X11_earliestArrivalByHours D (0, [some (.inr (.inl (some 0))), some (.inl x1), some (.inl x2)], [], (J, L, W), c, sl) Qr Qx := by
  refine nw_aload_n l_X11_earliestArrivalByHours_0 1 rfl rfl ?_
  refine nw_iload_n l_X11_earliestArrivalByHours_1 2 rfl rfl ?_
  refine nw_call 1 1 6 0 l_X11_earliestArrivalByHours_2 rfl rfl g_X11_needFerry (Nat.lt_of_lt_of_le (by decide) hD) rfl (by omega) (by omega) (Or.inl ⟨_, rfl, k_0⟩) (ls' := [some (.inr (.inl (some 0))), some (.inl x1)]) rfl (st' := []) rfl 5 rfl (c' := (c - 1)) (by omega) (sl' := (sl - 6)) (by omega) ?_
  refine nw_aload_n l_X11_needFerry_0 1 rfl rfl ?_
  refine nw_getA l_X11_needFerry_1 4 rfl k_0 r_0_1 ?_
  refine nw_getA l_X11_needFerry_4 7 rfl k_2 r_2_1 ?_
  refine nw_iload_n l_X11_needFerry_7 8 rfl rfl ?_
  refine nw_call0 0 9 l_X11_needFerry_8 rfl rfl g_X4_hasFerry (by decide) rfl (Or.inl ⟨_, rfl, k_9⟩) (ls' := [some (.inr (.inl (some 9))), some (.inl x1)]) rfl (st' := []) rfl 11 rfl ?_
  refine nw_iload_n l_X4_hasFerry_0 1 rfl rfl ?_
  refine nw_if_lt l_X4_hasFerry_1 4 rfl (fun q1 => ?_) (fun q1 => ?_)
  · replace h := h.1 q1
    refine nw_iconst (len := 0) l_X4_hasFerry_16 17 rfl c_0 ?_
    refine nw_ireturnZ l_X4_hasFerry_17 rfl (Or.inl rfl) ?_
    refine nw_if_ne l_X11_needFerry_11 14 rfl (fun q => absurd q (by decide)) (fun _ => ?_)
    refine nw_throw 0 l_X11_needFerry_14 ⟨rfl, rfl, rfl, by decide, rfl⟩ (by decide) (by decide) (fun n2 z2 => ?_)
    replace h := h n2 z2
    exact h
  · replace h := h.2 q1
    refine nw_iload_n l_X4_hasFerry_4 5 rfl rfl ?_
    refine nw_aload_n l_X4_hasFerry_5 6 rfl rfl ?_
    refine nw_getI l_X4_hasFerry_6 9 rfl k_9 (v := J 9 0) rfl ?_
    refine nw_ic_ge l_X4_hasFerry_9 12 rfl (fun q3 => ?_) (fun q3 => ?_)
    · replace h := h.1 q3
      refine nw_iconst (len := 0) l_X4_hasFerry_16 17 rfl c_0 ?_
      refine nw_ireturnZ l_X4_hasFerry_17 rfl (Or.inl rfl) ?_
      refine nw_if_ne l_X11_needFerry_11 14 rfl (fun q => absurd q (by decide)) (fun _ => ?_)
      refine nw_throw 0 l_X11_needFerry_14 ⟨rfl, rfl, rfl, by decide, rfl⟩ (by decide) (by decide) (fun n4 z4 => ?_)
      replace h := h n4 z4
      exact h
    · replace h := h.2 q3
      refine nw_iconst (len := 0) l_X4_hasFerry_12 13 rfl c_1 ?_
      refine nw_goto l_X4_hasFerry_13 ?_
      refine nw_ireturnZ l_X4_hasFerry_17 rfl (Or.inr rfl) ?_
      refine nw_if_ne l_X11_needFerry_11 14 rfl (fun _ => ?_) (fun q => absurd q (by decide))
      refine nw_return l_X11_needFerry_22 rfl ?_
      refine nw_aload_n l_X11_earliestArrivalByHours_5 6 rfl rfl ?_
      refine nw_iload_n l_X11_earliestArrivalByHours_6 7 rfl rfl ?_
      refine nw_call 1 1 6 0 l_X11_earliestArrivalByHours_7 rfl rfl g_X11_needCrater (Nat.lt_of_lt_of_le (by decide) hD) rfl (by omega) (by omega) (Or.inl ⟨_, rfl, k_0⟩) (ls' := [some (.inr (.inl (some 0))), some (.inl x2)]) rfl (st' := []) rfl 10 rfl (c' := (c - 2)) (by omega) (sl' := (sl - 12)) (by omega) ?_
      refine nw_aload_n l_X11_needCrater_0 1 rfl rfl ?_
      refine nw_getA l_X11_needCrater_1 4 rfl k_0 r_0_1 ?_
      refine nw_getA l_X11_needCrater_4 7 rfl k_2 r_2_0 ?_
      refine nw_iload_n l_X11_needCrater_7 8 rfl rfl ?_
      refine nw_call0 0 3 l_X11_needCrater_8 rfl rfl g_X9_hasCrater (by decide) rfl (Or.inl ⟨_, rfl, k_3⟩) (ls' := [some (.inr (.inl (some 3))), some (.inl x2)]) rfl (st' := []) rfl 11 rfl ?_
      refine nw_iload_n l_X9_hasCrater_0 1 rfl rfl ?_
      refine nw_if_lt l_X9_hasCrater_1 4 rfl (fun q5 => ?_) (fun q5 => ?_)
      · replace h := h.1 q5
        refine nw_iconst (len := 0) l_X9_hasCrater_16 17 rfl c_0 ?_
        refine nw_ireturnZ l_X9_hasCrater_17 rfl (Or.inl rfl) ?_
        refine nw_if_ne l_X11_needCrater_11 14 rfl (fun q => absurd q (by decide)) (fun _ => ?_)
        refine nw_throw 0 l_X11_needCrater_14 ⟨rfl, rfl, rfl, by decide, rfl⟩ (by decide) (by decide) (fun n6 z6 => ?_)
        replace h := h n6 z6
        exact h
      · replace h := h.2 q5
        refine nw_iload_n l_X9_hasCrater_4 5 rfl rfl ?_
        refine nw_aload_n l_X9_hasCrater_5 6 rfl rfl ?_
        refine nw_getI l_X9_hasCrater_6 9 rfl k_3 (v := J 3 0) rfl ?_
        refine nw_ic_ge l_X9_hasCrater_9 12 rfl (fun q7 => ?_) (fun q7 => ?_)
        · replace h := h.1 q7
          refine nw_iconst (len := 0) l_X9_hasCrater_16 17 rfl c_0 ?_
          refine nw_ireturnZ l_X9_hasCrater_17 rfl (Or.inl rfl) ?_
          refine nw_if_ne l_X11_needCrater_11 14 rfl (fun q => absurd q (by decide)) (fun _ => ?_)
          refine nw_throw 0 l_X11_needCrater_14 ⟨rfl, rfl, rfl, by decide, rfl⟩ (by decide) (by decide) (fun n8 z8 => ?_)
          replace h := h n8 z8
          exact h
        · replace h := h.2 q7
          refine nw_iconst (len := 0) l_X9_hasCrater_12 13 rfl c_1 ?_
          refine nw_goto l_X9_hasCrater_13 ?_
          refine nw_ireturnZ l_X9_hasCrater_17 rfl (Or.inr rfl) ?_
          refine nw_if_ne l_X11_needCrater_11 14 rfl (fun _ => ?_) (fun q => absurd q (by decide))
          refine nw_return l_X11_needCrater_22 rfl ?_
          refine nw_aload_n l_X11_earliestArrivalByHours_10 11 rfl rfl ?_
          refine nw_getA l_X11_earliestArrivalByHours_11 14 rfl k_0 r_0_4 ?_
          refine nw_aload_n l_X11_earliestArrivalByHours_14 15 rfl rfl ?_
          refine nw_getA l_X11_earliestArrivalByHours_15 18 rfl k_0 r_0_1 ?_
          refine nw_iload_n l_X11_earliestArrivalByHours_18 19 rfl rfl ?_
          refine nw_drop (ls' := [some (.inr (.inl (some 0))), none, some (.inl x2)]) ⟨rfl, ⟨True.intro, ⟨rfl, True.intro⟩⟩⟩ ?_
          refine nw_call0 3 29 l_X11_earliestArrivalByHours_19 rfl rfl g_X10_arriveByHours (Nat.lt_of_lt_of_le (by decide) hD) rfl (Or.inl ⟨_, rfl, k_29⟩) (ls' := [some (.inr (.inl (some 29))), some (.inr (.inl (some 2))), some (.inl x1), none, none, none]) rfl (st' := []) rfl 22 rfl ?_
          exact h
theorem b_X11_earliestArrivalByHours_22 {x2 : Int} (hD : 4 ≤ D) (hc : 1 ≤ c) (hs : 6 ≤ sl) (h : ((0 ≤ x2 ∧ x2 < 6) ∧ ((¬ J 39 x2 = (-1) → Qr (some (.inl (J 39 x2))) (J, L, W)) ∧ (J 39 x2 = (-1) → (∀ n3, W.2.2.2.2 ≤ n3 → Qx 4 (J, L, nw_top W n3)))))) :
    NW sc d_X11_earliestArrivalByHours D (22, [some (.inr (.inl (some 0))), none, some (.inl x2)], [], (J, L, W), c, sl) Qr Qx := by
  refine nw_aload_n l_X11_earliestArrivalByHours_22 23 rfl rfl ?_
  refine nw_getA l_X11_earliestArrivalByHours_23 26 rfl k_0 r_0_4 ?_
  refine nw_getA l_X11_earliestArrivalByHours_26 29 rfl k_29 r_29_3 ?_
  refine nw_iload_n l_X11_earliestArrivalByHours_29 30 rfl rfl ?_
  have o1 := h.1
  replace h := h.2
  refine nw_iald l_X11_earliestArrivalByHours_30 31 rfl k_39 o1 (v := J 39 x2) rfl ?_
  refine nw_call 0 1 6 0 l_X11_earliestArrivalByHours_31 rfl rfl g_X11_present (Nat.lt_of_lt_of_le (by decide) hD) rfl (by omega) (by omega) True.intro (ls' := [some (.inl (J 39 x2))]) rfl (st' := []) rfl 34 rfl (c' := (c - 1)) (by omega) (sl' := (sl - 6)) (by omega) ?_
  refine nw_iload_n l_X11_present_0 1 rfl rfl ?_
  refine nw_iconst (len := 0) l_X11_present_1 2 rfl c_n1 ?_
  refine nw_ic_ne l_X11_present_2 5 rfl (fun q2 => ?_) (fun q2 => ?_)
  · replace h := h.1 q2
    refine nw_iload_n l_X11_present_13 14 rfl rfl ?_
    refine nw_ireturn l_X11_present_14 rfl ?_
    refine nw_ireturn l_X11_earliestArrivalByHours_34 rfl ?_
    exact h
  · replace h := h.2 q2
    refine nw_throw 4 l_X11_present_5 ⟨rfl, rfl, rfl, by decide, rfl⟩ (by decide) (by decide) (fun n3 z3 => ?_)
    replace h := h n3 z3
    exact h
theorem b_X11_errorPosition_0  (hD : 1 ≤ D) (hc : 1 ≤ c) (hs : 6 ≤ sl) (h : ((¬ J 0 11 = (-1) → Qr (some (.inl (J 0 11))) (J, L, W)) ∧ (J 0 11 = (-1) → (∀ n2, W.2.2.2.2 ≤ n2 → Qx 4 (J, L, nw_top W n2))))) :
    NW sc d_X11_errorPosition D (0, [some (.inr (.inl (some 0)))], [], (J, L, W), c, sl) Qr Qx := by
  refine nw_aload_n l_X11_errorPosition_0 1 rfl rfl ?_
  refine nw_getI l_X11_errorPosition_1 4 rfl k_0 (v := J 0 11) rfl ?_
  refine nw_call 0 1 6 0 l_X11_errorPosition_4 rfl rfl g_X11_present (Nat.lt_of_lt_of_le (by decide) hD) rfl (by omega) (by omega) True.intro (ls' := [some (.inl (J 0 11))]) rfl (st' := []) rfl 7 rfl (c' := (c - 1)) (by omega) (sl' := (sl - 6)) (by omega) ?_
  refine nw_iload_n l_X11_present_0 1 rfl rfl ?_
  refine nw_iconst (len := 0) l_X11_present_1 2 rfl c_n1 ?_
  refine nw_ic_ne l_X11_present_2 5 rfl (fun q1 => ?_) (fun q1 => ?_)
  · replace h := h.1 q1
    refine nw_iload_n l_X11_present_13 14 rfl rfl ?_
    refine nw_ireturn l_X11_present_14 rfl ?_
    refine nw_ireturn l_X11_errorPosition_7 rfl ?_
    exact h
  · replace h := h.2 q1
    refine nw_throw 4 l_X11_present_5 ⟨rfl, rfl, rfl, by decide, rfl⟩ (by decide) (by decide) (fun n2 z2 => ?_)
    replace h := h n2 z2
    exact h
theorem b_X11_failedCommand_0  (hD : 1 ≤ D) (hc : 1 ≤ c) (hs : 6 ≤ sl) (h : ((¬ J 0 12 = (-1) → Qr (some (.inl (J 0 12))) (J, L, W)) ∧ (J 0 12 = (-1) → (∀ n2, W.2.2.2.2 ≤ n2 → Qx 4 (J, L, nw_top W n2))))) :
    NW sc d_X11_failedCommand D (0, [some (.inr (.inl (some 0)))], [], (J, L, W), c, sl) Qr Qx := by
  refine nw_aload_n l_X11_failedCommand_0 1 rfl rfl ?_
  refine nw_getI l_X11_failedCommand_1 4 rfl k_0 (v := J 0 12) rfl ?_
  refine nw_call 0 1 6 0 l_X11_failedCommand_4 rfl rfl g_X11_present (Nat.lt_of_lt_of_le (by decide) hD) rfl (by omega) (by omega) True.intro (ls' := [some (.inl (J 0 12))]) rfl (st' := []) rfl 7 rfl (c' := (c - 1)) (by omega) (sl' := (sl - 6)) (by omega) ?_
  refine nw_iload_n l_X11_present_0 1 rfl rfl ?_
  refine nw_iconst (len := 0) l_X11_present_1 2 rfl c_n1 ?_
  refine nw_ic_ne l_X11_present_2 5 rfl (fun q1 => ?_) (fun q1 => ?_)
  · replace h := h.1 q1
    refine nw_iload_n l_X11_present_13 14 rfl rfl ?_
    refine nw_ireturn l_X11_present_14 rfl ?_
    refine nw_ireturn l_X11_failedCommand_7 rfl ?_
    exact h
  · replace h := h.2 q1
    refine nw_throw 4 l_X11_present_5 ⟨rfl, rfl, rfl, by decide, rfl⟩ (by decide) (by decide) (fun n2 z2 => ?_)
    replace h := h n2 z2
    exact h
theorem b_X11_fareOf_0 {x1 : Int} (hD : 3 ≤ D) (hc : 1 ≤ c) (hs : 6 ≤ sl) (h : NW sc d_X11_placeOfMoon 1 (0, [some (.inr (.inl (some 0))), some (.inl x1)], [], (J, L, W), 1, 6) (fun v M9 => NW sc d_X11_fareOf D (13, [none, none], nw_push v [.inr (.inl (some 2)), .inr (.inl (some 28))], M9, (c - 1), (sl - 6)) Qr Qx) Qx) :
    NW sc d_X11_fareOf D (0, [some (.inr (.inl (some 0))), some (.inl x1)], [], (J, L, W), c, sl) Qr Qx := by
  refine nw_aload_n l_X11_fareOf_0 1 rfl rfl ?_
  refine nw_getA l_X11_fareOf_1 4 rfl k_0 r_0_3 ?_
  refine nw_aload_n l_X11_fareOf_4 5 rfl rfl ?_
  refine nw_getA l_X11_fareOf_5 8 rfl k_0 r_0_1 ?_
  refine nw_aload_n l_X11_fareOf_8 9 rfl rfl ?_
  refine nw_iload_n l_X11_fareOf_9 10 rfl rfl ?_
  refine nw_drop (ls' := [none, none]) ⟨True.intro, ⟨True.intro, True.intro⟩⟩ ?_
  refine nw_call 1 1 6 0 l_X11_fareOf_10 rfl rfl g_X11_placeOfMoon (Nat.lt_of_lt_of_le (by decide) hD) rfl (by omega) (by omega) (Or.inl ⟨_, rfl, k_0⟩) (ls' := [some (.inr (.inl (some 0))), some (.inl x1)]) rfl (st' := [.inr (.inl (some 2)), .inr (.inl (some 28))]) rfl 13 rfl (c' := (c - 1)) (by omega) (sl' := (sl - 6)) (by omega) ?_
  exact h
theorem b_X11_fareOf_13 {y0 : Int} (hD : 3 ≤ D) (h : NW sc d_X3_fareAt 2 (0, [some (.inr (.inl (some 28))), some (.inr (.inl (some 2))), some (.inl y0), none, none, none], [], (J, L, W), 0, 0) (fun v M9 => NW sc d_X11_fareOf D (16, [none, none], nw_push v [], M9, c, sl) Qr Qx) Qx) :
    NW sc d_X11_fareOf D (13, [none, none], [.inl y0, .inr (.inl (some 2)), .inr (.inl (some 28))], (J, L, W), c, sl) Qr Qx := by
  refine nw_call0 2 28 l_X11_fareOf_13 rfl rfl g_X3_fareAt (Nat.lt_of_lt_of_le (by decide) hD) rfl (Or.inl ⟨_, rfl, k_28⟩) (ls' := [some (.inr (.inl (some 28))), some (.inr (.inl (some 2))), some (.inl y0), none, none, none]) rfl (st' := []) rfl 16 rfl ?_
  exact h
theorem b_X11_fareOf_16 {y0 : Int} (h : Qr (some (.inl y0)) (J, L, W)) :
    NW sc d_X11_fareOf D (16, [none, none], [.inl y0], (J, L, W), c, sl) Qr Qx := by
  refine nw_ireturn l_X11_fareOf_16 rfl ?_
  exact h
theorem b_X11_fareTotal_0  (h : Qr (some (.inl (J 2 4))) (J, L, W)) :
    NW sc d_X11_fareTotal D (0, [some (.inr (.inl (some 0)))], [], (J, L, W), c, sl) Qr Qx := by
  refine nw_aload_n l_X11_fareTotal_0 1 rfl rfl ?_
  refine nw_getA l_X11_fareTotal_1 4 rfl k_0 r_0_1 ?_
  refine nw_getI l_X11_fareTotal_4 7 rfl k_2 (v := J 2 4) rfl ?_
  refine nw_ireturn l_X11_fareTotal_7 rfl ?_
  exact h
theorem b_X11_ferryOf_0 {x1 : Int} (hD : 2 ≤ D) (hc : 1 ≤ c) (hs : 6 ≤ sl) (h : NW sc d_X11_placeOfMoon 1 (0, [some (.inr (.inl (some 0))), some (.inl x1)], [], (J, L, W), 1, 6) (fun v M9 => NW sc d_X11_ferryOf D (15, [none, none, none], nw_push v [.inr (.inl (some 24))], M9, (c - 1), (sl - 6)) Qr Qx) Qx) :
    NW sc d_X11_ferryOf D (0, [some (.inr (.inl (some 0))), some (.inl x1), none], [], (J, L, W), c, sl) Qr Qx := by
  refine nw_aload_n l_X11_ferryOf_0 1 rfl rfl ?_
  refine nw_getA l_X11_ferryOf_1 4 rfl k_0 r_0_1 ?_
  refine nw_getA l_X11_ferryOf_4 7 rfl k_2 r_2_2 ?_
  refine nw_getA l_X11_ferryOf_7 10 rfl k_18 r_18_7 ?_
  refine nw_aload_n l_X11_ferryOf_10 11 rfl rfl ?_
  refine nw_iload_n l_X11_ferryOf_11 12 rfl rfl ?_
  refine nw_drop (ls' := [none, none, none]) ⟨True.intro, ⟨True.intro, ⟨True.intro, True.intro⟩⟩⟩ ?_
  refine nw_call 1 1 6 0 l_X11_ferryOf_12 rfl rfl g_X11_placeOfMoon (Nat.lt_of_lt_of_le (by decide) hD) rfl (by omega) (by omega) (Or.inl ⟨_, rfl, k_0⟩) (ls' := [some (.inr (.inl (some 0))), some (.inl x1)]) rfl (st' := [.inr (.inl (some 24))]) rfl 15 rfl (c' := (c - 1)) (by omega) (sl' := (sl - 6)) (by omega) ?_
  exact h
theorem b_X11_ferryOf_15 {y0 : Int} (hc : 1 ≤ c) (hs : 6 ≤ sl) (h : ((0 ≤ y0 ∧ y0 < 10) ∧ ((¬ J 24 y0 = (-1) → Qr (some (.inl (J 24 y0))) (J, L, W)) ∧ (J 24 y0 = (-1) → (∀ n3, W.2.2.2.2 ≤ n3 → Qx 2 (J, L, nw_top W n3)))))) :
    NW sc d_X11_ferryOf D (15, [none, none, none], [.inl y0, .inr (.inl (some 24))], (J, L, W), c, sl) Qr Qx := by
  have o1 := h.1
  replace h := h.2
  refine nw_iald l_X11_ferryOf_15 16 rfl k_24 o1 (v := J 24 y0) rfl ?_
  refine nw_istore_n l_X11_ferryOf_16 17 rfl rfl (ls' := [none, none, some (.inl (J 24 y0))]) rfl ?_
  refine nw_iload_n l_X11_ferryOf_17 18 rfl rfl ?_
  refine nw_iconst (len := 0) l_X11_ferryOf_18 19 rfl c_n1 ?_
  refine nw_ic_ne l_X11_ferryOf_19 22 rfl (fun q2 => ?_) (fun q2 => ?_)
  · replace h := h.1 q2
    refine nw_iload_n l_X11_ferryOf_30 31 rfl rfl ?_
    refine nw_ireturn l_X11_ferryOf_31 rfl ?_
    exact h
  · replace h := h.2 q2
    refine nw_throw 2 l_X11_ferryOf_22 ⟨rfl, rfl, rfl, by decide, rfl⟩ (by omega) (by omega) (fun n3 z3 => ?_)
    replace h := h n3 z3
    exact h
theorem b_X11_hour_0  (h : Qr (some (.inl (J 2 3))) (J, L, W)) :
    NW sc d_X11_hour D (0, [some (.inr (.inl (some 0)))], [], (J, L, W), c, sl) Qr Qx := by
  refine nw_aload_n l_X11_hour_0 1 rfl rfl ?_
  refine nw_getA l_X11_hour_1 4 rfl k_0 r_0_1 ?_
  refine nw_getI l_X11_hour_4 7 rfl k_2 (v := J 2 3) rfl ?_
  refine nw_ireturn l_X11_hour_7 rfl ?_
  exact h
theorem b_X11_hoursLeft_0 {x1 : Int} (hD : 2 ≤ D) (hc : 1 ≤ c) (hs : 6 ≤ sl) (h : ((x1 < 0 → (∀ n2, W.2.2.2.2 ≤ n2 → Qx 0 (J, L, nw_top W n2))) ∧ (0 ≤ x1 → ((J 9 0 ≤ x1 → (∀ n4, W.2.2.2.2 ≤ n4 → Qx 0 (J, L, nw_top W n4))) ∧ (x1 < J 9 0 → ((0 ≤ x1 ∧ x1 < 3) ∧ ((J 11 x1 = (-1) → Qr (some (.inl 0)) (J, L, W)) ∧ (¬ J 11 x1 = (-1) → ((-2147483648 ≤ (J 12 x1) - (J 2 3) ∧ (J 12 x1) - (J 2 3) < 2147483648) ∧ Qr (some (.inl ((J 12 x1) - (J 2 3)))) (J, L, W)))))))))) :
    NW sc d_X11_hoursLeft D (0, [some (.inr (.inl (some 0))), some (.inl x1)], [], (J, L, W), c, sl) Qr Qx := by
  refine nw_aload_n l_X11_hoursLeft_0 1 rfl rfl ?_
  refine nw_iload_n l_X11_hoursLeft_1 2 rfl rfl ?_
  refine nw_call 1 1 6 0 l_X11_hoursLeft_2 rfl rfl g_X11_needFerry (Nat.lt_of_lt_of_le (by decide) hD) rfl (by omega) (by omega) (Or.inl ⟨_, rfl, k_0⟩) (ls' := [some (.inr (.inl (some 0))), some (.inl x1)]) rfl (st' := []) rfl 5 rfl (c' := (c - 1)) (by omega) (sl' := (sl - 6)) (by omega) ?_
  refine nw_aload_n l_X11_needFerry_0 1 rfl rfl ?_
  refine nw_getA l_X11_needFerry_1 4 rfl k_0 r_0_1 ?_
  refine nw_getA l_X11_needFerry_4 7 rfl k_2 r_2_1 ?_
  refine nw_iload_n l_X11_needFerry_7 8 rfl rfl ?_
  refine nw_call0 0 9 l_X11_needFerry_8 rfl rfl g_X4_hasFerry (by decide) rfl (Or.inl ⟨_, rfl, k_9⟩) (ls' := [some (.inr (.inl (some 9))), some (.inl x1)]) rfl (st' := []) rfl 11 rfl ?_
  refine nw_iload_n l_X4_hasFerry_0 1 rfl rfl ?_
  refine nw_if_lt l_X4_hasFerry_1 4 rfl (fun q1 => ?_) (fun q1 => ?_)
  · replace h := h.1 q1
    refine nw_iconst (len := 0) l_X4_hasFerry_16 17 rfl c_0 ?_
    refine nw_ireturnZ l_X4_hasFerry_17 rfl (Or.inl rfl) ?_
    refine nw_if_ne l_X11_needFerry_11 14 rfl (fun q => absurd q (by decide)) (fun _ => ?_)
    refine nw_throw 0 l_X11_needFerry_14 ⟨rfl, rfl, rfl, by decide, rfl⟩ (by decide) (by decide) (fun n2 z2 => ?_)
    replace h := h n2 z2
    exact h
  · replace h := h.2 q1
    refine nw_iload_n l_X4_hasFerry_4 5 rfl rfl ?_
    refine nw_aload_n l_X4_hasFerry_5 6 rfl rfl ?_
    refine nw_getI l_X4_hasFerry_6 9 rfl k_9 (v := J 9 0) rfl ?_
    refine nw_ic_ge l_X4_hasFerry_9 12 rfl (fun q3 => ?_) (fun q3 => ?_)
    · replace h := h.1 q3
      refine nw_iconst (len := 0) l_X4_hasFerry_16 17 rfl c_0 ?_
      refine nw_ireturnZ l_X4_hasFerry_17 rfl (Or.inl rfl) ?_
      refine nw_if_ne l_X11_needFerry_11 14 rfl (fun q => absurd q (by decide)) (fun _ => ?_)
      refine nw_throw 0 l_X11_needFerry_14 ⟨rfl, rfl, rfl, by decide, rfl⟩ (by decide) (by decide) (fun n4 z4 => ?_)
      replace h := h n4 z4
      exact h
    · replace h := h.2 q3
      refine nw_iconst (len := 0) l_X4_hasFerry_12 13 rfl c_1 ?_
      refine nw_goto l_X4_hasFerry_13 ?_
      refine nw_ireturnZ l_X4_hasFerry_17 rfl (Or.inr rfl) ?_
      refine nw_if_ne l_X11_needFerry_11 14 rfl (fun _ => ?_) (fun q => absurd q (by decide))
      refine nw_return l_X11_needFerry_22 rfl ?_
      refine nw_aload_n l_X11_hoursLeft_5 6 rfl rfl ?_
      refine nw_getA l_X11_hoursLeft_6 9 rfl k_0 r_0_1 ?_
      refine nw_iload_n l_X11_hoursLeft_9 10 rfl rfl ?_
      refine nw_call0 1 2 l_X11_hoursLeft_10 rfl rfl g_X8_hoursUntilAshore (Nat.lt_of_lt_of_le (by decide) hD) rfl (Or.inl ⟨_, rfl, k_2⟩) (ls' := [some (.inr (.inl (some 2))), some (.inl x1)]) rfl (st' := []) rfl 13 rfl ?_
      refine nw_aload_n l_X8_hoursUntilAshore_0 1 rfl rfl ?_
      refine nw_getA l_X8_hoursUntilAshore_1 4 rfl k_2 r_2_1 ?_
      refine nw_iload_n l_X8_hoursUntilAshore_4 5 rfl rfl ?_
      refine nw_call0 0 9 l_X8_hoursUntilAshore_5 rfl rfl g_X4_underWay (by decide) rfl (Or.inl ⟨_, rfl, k_9⟩) (ls' := [some (.inr (.inl (some 9))), some (.inl x1)]) rfl (st' := []) rfl 8 rfl ?_
      refine nw_aload_n l_X4_underWay_0 1 rfl rfl ?_
      refine nw_getA l_X4_underWay_1 4 rfl k_9 r_9_2 ?_
      refine nw_iload_n l_X4_underWay_4 5 rfl rfl ?_
      have o5 := h.1
      replace h := h.2
      refine nw_iald l_X4_underWay_5 6 rfl k_11 o5 (v := J 11 x1) rfl ?_
      refine nw_iconst (len := 0) l_X4_underWay_6 7 rfl c_n1 ?_
      refine nw_ic_eq l_X4_underWay_7 10 rfl (fun q6 => ?_) (fun q6 => ?_)
      · replace h := h.1 q6
        refine nw_iconst (len := 0) l_X4_underWay_14 15 rfl c_0 ?_
        refine nw_ireturnZ l_X4_underWay_15 rfl (Or.inl rfl) ?_
        refine nw_if_eq l_X8_hoursUntilAshore_8 11 rfl (fun _ => ?_) (fun q => absurd q (by decide))
        refine nw_iconst (len := 0) l_X8_hoursUntilAshore_28 29 rfl c_0 ?_
        refine nw_ireturn l_X8_hoursUntilAshore_29 rfl ?_
        refine nw_ireturn l_X11_hoursLeft_13 rfl ?_
        exact h
      · replace h := h.2 q6
        refine nw_iconst (len := 0) l_X4_underWay_10 11 rfl c_1 ?_
        refine nw_goto l_X4_underWay_11 ?_
        refine nw_ireturnZ l_X4_underWay_15 rfl (Or.inr rfl) ?_
        refine nw_if_eq l_X8_hoursUntilAshore_8 11 rfl (fun q => absurd q (by decide)) (fun _ => ?_)
        refine nw_aload_n l_X8_hoursUntilAshore_11 12 rfl rfl ?_
        refine nw_getA l_X8_hoursUntilAshore_12 15 rfl k_2 r_2_1 ?_
        refine nw_getA l_X8_hoursUntilAshore_15 18 rfl k_9 r_9_3 ?_
        refine nw_iload_n l_X8_hoursUntilAshore_18 19 rfl rfl ?_
        refine nw_iald l_X8_hoursUntilAshore_19 20 rfl k_12 o5 (v := J 12 x1) rfl ?_
        refine nw_aload_n l_X8_hoursUntilAshore_20 21 rfl rfl ?_
        refine nw_getI l_X8_hoursUntilAshore_21 24 rfl k_2 (v := J 2 3) rfl ?_
        have o7 := h.1
        replace h := h.2
        refine nw_isub l_X8_hoursUntilAshore_24 25 rfl o7 ?_
        refine nw_goto l_X8_hoursUntilAshore_25 ?_
        refine nw_ireturn l_X8_hoursUntilAshore_29 rfl ?_
        refine nw_ireturn l_X11_hoursLeft_13 rfl ?_
        exact h
theorem b_X11_isConsistent_0  (hD : 15 ≤ D) (h : NW sc d_X11_waysAgree 2 (0, [some (.inr (.inl (some 0))), none, none, none], [], (J, L, W), 0, 0) (fun v M9 => NW sc d_X11_isConsistent D (4, [some (.inr (.inl (some 0)))], nw_push v [], M9, c, sl) Qr Qx) Qx) :
    NW sc d_X11_isConsistent D (0, [some (.inr (.inl (some 0)))], [], (J, L, W), c, sl) Qr Qx := by
  refine nw_aload_n l_X11_isConsistent_0 1 rfl rfl ?_
  refine nw_call0 2 0 l_X11_isConsistent_1 rfl rfl g_X11_waysAgree (Nat.lt_of_lt_of_le (by decide) hD) rfl (Or.inl ⟨_, rfl, k_0⟩) (ls' := [some (.inr (.inl (some 0))), none, none, none]) rfl (st' := []) rfl 4 rfl ?_
  exact h
theorem b_X11_isConsistent_4 {y0 : Int} (hD : 15 ≤ D) (h : ((y0 = 0 → Qr (some (.inl 0)) (J, L, W)) ∧ (¬ y0 = 0 → NW sc d_X11_netsAgree 2 (0, [some (.inr (.inl (some 0)))], [], (J, L, W), 0, 0) (fun v M9 => NW sc d_X11_isConsistent D (11, [some (.inr (.inl (some 0)))], nw_push v [], M9, c, sl) Qr Qx) Qx))) :
    NW sc d_X11_isConsistent D (4, [some (.inr (.inl (some 0)))], [.inl y0], (J, L, W), c, sl) Qr Qx := by
  refine nw_if_eq l_X11_isConsistent_4 7 rfl (fun q1 => ?_) (fun q1 => ?_)
  · replace h := h.1 q1
    refine nw_iconst (len := 0) l_X11_isConsistent_39 40 rfl c_0 ?_
    refine nw_ireturnZ l_X11_isConsistent_40 rfl (Or.inl rfl) ?_
    exact h
  · replace h := h.2 q1
    refine nw_aload_n l_X11_isConsistent_7 8 rfl rfl ?_
    refine nw_call0 2 0 l_X11_isConsistent_8 rfl rfl g_X11_netsAgree (Nat.lt_of_lt_of_le (by decide) hD) rfl (Or.inl ⟨_, rfl, k_0⟩) (ls' := [some (.inr (.inl (some 0)))]) rfl (st' := []) rfl 11 rfl ?_
    exact h
theorem b_X11_isConsistent_11 {y0 : Int} (hD : 15 ≤ D) (h : ((y0 = 0 → Qr (some (.inl 0)) (J, L, W)) ∧ (¬ y0 = 0 → NW sc d_X11_arrivalsAgree 5 (0, [some (.inr (.inl (some 0))), none, none], [], (J, L, W), 0, 0) (fun v M9 => NW sc d_X11_isConsistent D (18, [some (.inr (.inl (some 0)))], nw_push v [], M9, c, sl) Qr Qx) Qx))) :
    NW sc d_X11_isConsistent D (11, [some (.inr (.inl (some 0)))], [.inl y0], (J, L, W), c, sl) Qr Qx := by
  refine nw_if_eq l_X11_isConsistent_11 14 rfl (fun q1 => ?_) (fun q1 => ?_)
  · replace h := h.1 q1
    refine nw_iconst (len := 0) l_X11_isConsistent_39 40 rfl c_0 ?_
    refine nw_ireturnZ l_X11_isConsistent_40 rfl (Or.inl rfl) ?_
    exact h
  · replace h := h.2 q1
    refine nw_aload_n l_X11_isConsistent_14 15 rfl rfl ?_
    refine nw_call0 5 0 l_X11_isConsistent_15 rfl rfl g_X11_arrivalsAgree (Nat.lt_of_lt_of_le (by decide) hD) rfl (Or.inl ⟨_, rfl, k_0⟩) (ls' := [some (.inr (.inl (some 0))), none, none]) rfl (st' := []) rfl 18 rfl ?_
    exact h
theorem b_X11_isConsistent_18 {y0 : Int} (hD : 15 ≤ D) (h : ((y0 = 0 → Qr (some (.inl 0)) (J, L, W)) ∧ (¬ y0 = 0 → NW sc d_X11_loadsAgree 14 (0, [some (.inr (.inl (some 0))), none], [], (J, L, W), 0, 0) (fun v M9 => NW sc d_X11_isConsistent D (25, [some (.inr (.inl (some 0)))], nw_push v [], M9, c, sl) Qr Qx) Qx))) :
    NW sc d_X11_isConsistent D (18, [some (.inr (.inl (some 0)))], [.inl y0], (J, L, W), c, sl) Qr Qx := by
  refine nw_if_eq l_X11_isConsistent_18 21 rfl (fun q1 => ?_) (fun q1 => ?_)
  · replace h := h.1 q1
    refine nw_iconst (len := 0) l_X11_isConsistent_39 40 rfl c_0 ?_
    refine nw_ireturnZ l_X11_isConsistent_40 rfl (Or.inl rfl) ?_
    exact h
  · replace h := h.2 q1
    refine nw_aload_n l_X11_isConsistent_21 22 rfl rfl ?_
    refine nw_call0 14 0 l_X11_isConsistent_22 rfl rfl g_X11_loadsAgree (Nat.lt_of_lt_of_le (by decide) hD) rfl (Or.inl ⟨_, rfl, k_0⟩) (ls' := [some (.inr (.inl (some 0))), none]) rfl (st' := []) rfl 25 rfl ?_
    exact h
theorem b_X11_isConsistent_25 {y0 : Int} (hD : 15 ≤ D) (h : ((y0 = 0 → Qr (some (.inl 0)) (J, L, W)) ∧ (¬ y0 = 0 → NW sc d_X11_countsAgree 4 (0, [some (.inr (.inl (some 0))), none, none], [], (J, L, W), 0, 0) (fun v M9 => NW sc d_X11_isConsistent D (32, [none], nw_push v [], M9, c, sl) Qr Qx) Qx))) :
    NW sc d_X11_isConsistent D (25, [some (.inr (.inl (some 0)))], [.inl y0], (J, L, W), c, sl) Qr Qx := by
  refine nw_if_eq l_X11_isConsistent_25 28 rfl (fun q1 => ?_) (fun q1 => ?_)
  · replace h := h.1 q1
    refine nw_iconst (len := 0) l_X11_isConsistent_39 40 rfl c_0 ?_
    refine nw_ireturnZ l_X11_isConsistent_40 rfl (Or.inl rfl) ?_
    exact h
  · replace h := h.2 q1
    refine nw_aload_n l_X11_isConsistent_28 29 rfl rfl ?_
    refine nw_drop (ls' := [none]) ⟨True.intro, True.intro⟩ ?_
    refine nw_call0 4 0 l_X11_isConsistent_29 rfl rfl g_X11_countsAgree (Nat.lt_of_lt_of_le (by decide) hD) rfl (Or.inl ⟨_, rfl, k_0⟩) (ls' := [some (.inr (.inl (some 0))), none, none]) rfl (st' := []) rfl 32 rfl ?_
    exact h
theorem b_X11_isConsistent_32 {y0 : Int} (h : ((y0 = 0 → Qr (some (.inl 0)) (J, L, W)) ∧ (¬ y0 = 0 → Qr (some (.inl 1)) (J, L, W)))) :
    NW sc d_X11_isConsistent D (32, [none], [.inl y0], (J, L, W), c, sl) Qr Qx := by
  refine nw_if_eq l_X11_isConsistent_32 35 rfl (fun q1 => ?_) (fun q1 => ?_)
  · replace h := h.1 q1
    refine nw_iconst (len := 0) l_X11_isConsistent_39 40 rfl c_0 ?_
    refine nw_ireturnZ l_X11_isConsistent_40 rfl (Or.inl rfl) ?_
    exact h
  · replace h := h.2 q1
    refine nw_iconst (len := 0) l_X11_isConsistent_35 36 rfl c_1 ?_
    refine nw_goto l_X11_isConsistent_36 ?_
    refine nw_ireturnZ l_X11_isConsistent_40 rfl (Or.inr rfl) ?_
    exact h
theorem b_X11_isStranded_0 {x1 : Int} (hD : 3 ≤ D) (hc : 1 ≤ c) (hs : 6 ≤ sl) (h : ((x1 < 0 → (∀ n2, W.2.2.2.2 ≤ n2 → Qx 0 (J, L, nw_top W n2))) ∧ (0 ≤ x1 → ((J 9 0 ≤ x1 → (∀ n4, W.2.2.2.2 ≤ n4 → Qx 0 (J, L, nw_top W n4))) ∧ (x1 < J 9 0 → NW sc d_X8_aground 2 (0, [some (.inr (.inl (some 2))), some (.inl x1), none], [], (J, L, W), 0, 0) (fun v M9 => NW sc d_X11_isStranded D (13, [none, none], nw_push v [], M9, (c - 1), (sl - 6)) Qr Qx) Qx))))) :
    NW sc d_X11_isStranded D (0, [some (.inr (.inl (some 0))), some (.inl x1)], [], (J, L, W), c, sl) Qr Qx := by
  refine nw_aload_n l_X11_isStranded_0 1 rfl rfl ?_
  refine nw_iload_n l_X11_isStranded_1 2 rfl rfl ?_
  refine nw_call 1 1 6 0 l_X11_isStranded_2 rfl rfl g_X11_needFerry (Nat.lt_of_lt_of_le (by decide) hD) rfl (by omega) (by omega) (Or.inl ⟨_, rfl, k_0⟩) (ls' := [some (.inr (.inl (some 0))), some (.inl x1)]) rfl (st' := []) rfl 5 rfl (c' := (c - 1)) (by omega) (sl' := (sl - 6)) (by omega) ?_
  refine nw_aload_n l_X11_needFerry_0 1 rfl rfl ?_
  refine nw_getA l_X11_needFerry_1 4 rfl k_0 r_0_1 ?_
  refine nw_getA l_X11_needFerry_4 7 rfl k_2 r_2_1 ?_
  refine nw_iload_n l_X11_needFerry_7 8 rfl rfl ?_
  refine nw_call0 0 9 l_X11_needFerry_8 rfl rfl g_X4_hasFerry (by decide) rfl (Or.inl ⟨_, rfl, k_9⟩) (ls' := [some (.inr (.inl (some 9))), some (.inl x1)]) rfl (st' := []) rfl 11 rfl ?_
  refine nw_iload_n l_X4_hasFerry_0 1 rfl rfl ?_
  refine nw_if_lt l_X4_hasFerry_1 4 rfl (fun q1 => ?_) (fun q1 => ?_)
  · replace h := h.1 q1
    refine nw_iconst (len := 0) l_X4_hasFerry_16 17 rfl c_0 ?_
    refine nw_ireturnZ l_X4_hasFerry_17 rfl (Or.inl rfl) ?_
    refine nw_if_ne l_X11_needFerry_11 14 rfl (fun q => absurd q (by decide)) (fun _ => ?_)
    refine nw_throw 0 l_X11_needFerry_14 ⟨rfl, rfl, rfl, by decide, rfl⟩ (by decide) (by decide) (fun n2 z2 => ?_)
    replace h := h n2 z2
    exact h
  · replace h := h.2 q1
    refine nw_iload_n l_X4_hasFerry_4 5 rfl rfl ?_
    refine nw_aload_n l_X4_hasFerry_5 6 rfl rfl ?_
    refine nw_getI l_X4_hasFerry_6 9 rfl k_9 (v := J 9 0) rfl ?_
    refine nw_ic_ge l_X4_hasFerry_9 12 rfl (fun q3 => ?_) (fun q3 => ?_)
    · replace h := h.1 q3
      refine nw_iconst (len := 0) l_X4_hasFerry_16 17 rfl c_0 ?_
      refine nw_ireturnZ l_X4_hasFerry_17 rfl (Or.inl rfl) ?_
      refine nw_if_ne l_X11_needFerry_11 14 rfl (fun q => absurd q (by decide)) (fun _ => ?_)
      refine nw_throw 0 l_X11_needFerry_14 ⟨rfl, rfl, rfl, by decide, rfl⟩ (by decide) (by decide) (fun n4 z4 => ?_)
      replace h := h n4 z4
      exact h
    · replace h := h.2 q3
      refine nw_iconst (len := 0) l_X4_hasFerry_12 13 rfl c_1 ?_
      refine nw_goto l_X4_hasFerry_13 ?_
      refine nw_ireturnZ l_X4_hasFerry_17 rfl (Or.inr rfl) ?_
      refine nw_if_ne l_X11_needFerry_11 14 rfl (fun _ => ?_) (fun q => absurd q (by decide))
      refine nw_return l_X11_needFerry_22 rfl ?_
      refine nw_aload_n l_X11_isStranded_5 6 rfl rfl ?_
      refine nw_getA l_X11_isStranded_6 9 rfl k_0 r_0_1 ?_
      refine nw_iload_n l_X11_isStranded_9 10 rfl rfl ?_
      refine nw_drop (ls' := [none, none]) ⟨True.intro, ⟨True.intro, True.intro⟩⟩ ?_
      refine nw_call0 2 2 l_X11_isStranded_10 rfl rfl g_X8_aground (Nat.lt_of_lt_of_le (by decide) hD) rfl (Or.inl ⟨_, rfl, k_2⟩) (ls' := [some (.inr (.inl (some 2))), some (.inl x1), none]) rfl (st' := []) rfl 13 rfl ?_
      exact h
theorem b_X11_isStranded_13 {y0 : Int} (h : ((y0 = 0 ∨ y0 = 1) ∧ Qr (some (.inl y0)) (J, L, W))) :
    NW sc d_X11_isStranded D (13, [none, none], [.inl y0], (J, L, W), c, sl) Qr Qx := by
  have o1 := h.1
  replace h := h.2
  refine nw_ireturnZ l_X11_isStranded_13 rfl o1 ?_
  exact h
theorem b_X11_land_0 {x1 : Int} (hD : 4 ≤ D) (h : NW sc d_X8_copyFrom 1 (0, [some (.inr (.inl (some 55))), some (.inr (.inl (some 2)))], [], (J, L, W), 0, 0) (fun v M9 => NW sc d_X11_land D (11, [some (.inr (.inl (some 0))), some (.inl x1)], nw_push v [], M9, c, sl) Qr Qx) Qx) :
    NW sc d_X11_land D (0, [some (.inr (.inl (some 0))), some (.inl x1)], [], (J, L, W), c, sl) Qr Qx := by
  refine nw_aload_n l_X11_land_0 1 rfl rfl ?_
  refine nw_getA l_X11_land_1 4 rfl k_0 r_0_5 ?_
  refine nw_aload_n l_X11_land_4 5 rfl rfl ?_
  refine nw_getA l_X11_land_5 8 rfl k_0 r_0_1 ?_
  refine nw_call0 1 55 l_X11_land_8 rfl rfl g_X8_copyFrom (Nat.lt_of_lt_of_le (by decide) hD) rfl (Or.inl ⟨_, rfl, k_55⟩) (ls' := [some (.inr (.inl (some 55))), some (.inr (.inl (some 2)))]) rfl (st' := []) rfl 11 rfl ?_
  exact h
theorem b_X11_land_11 {x1 : Int} (hD : 4 ≤ D) (h : NW sc d_X0_putAshore 3 (0, [some (.inr (.inl (some 1))), some (.inl x1), none, none, none, none], [], (J, L, W), 0, 0) (fun v M9 => NW sc d_X11_land D (20, [none, none], nw_push v [.inr (.inl (some 0))], M9, c, sl) Qr Qx) Qx) :
    NW sc d_X11_land D (11, [some (.inr (.inl (some 0))), some (.inl x1)], [], (J, L, W), c, sl) Qr Qx := by
  refine nw_aload_n l_X11_land_11 12 rfl rfl ?_
  refine nw_aload_n l_X11_land_12 13 rfl rfl ?_
  refine nw_getA l_X11_land_13 16 rfl k_0 r_0_0 ?_
  refine nw_iload_n l_X11_land_16 17 rfl rfl ?_
  refine nw_drop (ls' := [none, none]) ⟨True.intro, ⟨True.intro, True.intro⟩⟩ ?_
  refine nw_call0 3 1 l_X11_land_17 rfl rfl g_X0_putAshore (Nat.lt_of_lt_of_le (by decide) hD) rfl (Or.inl ⟨_, rfl, k_1⟩) (ls' := [some (.inr (.inl (some 1))), some (.inl x1), none, none, none, none]) rfl (st' := [.inr (.inl (some 0))]) rfl 20 rfl ?_
  exact h
theorem b_X11_land_20 {y0 : Int} (hD : 4 ≤ D) (hc : 1 ≤ c) (hs : 6 ≤ sl) (h : NW sc d_X11_settle 3 (0, [some (.inr (.inl (some 0))), some (.inl y0)], [], (J, L, W), 1, 6) (fun v M9 => NW sc d_X11_land D (23, [none, none], nw_push v [], M9, (c - 1), (sl - 6)) Qr Qx) Qx) :
    NW sc d_X11_land D (20, [none, none], [.inl y0, .inr (.inl (some 0))], (J, L, W), c, sl) Qr Qx := by
  refine nw_call 3 1 6 0 l_X11_land_20 rfl rfl g_X11_settle (Nat.lt_of_lt_of_le (by decide) hD) rfl (by omega) (by omega) (Or.inl ⟨_, rfl, k_0⟩) (ls' := [some (.inr (.inl (some 0))), some (.inl y0)]) rfl (st' := []) rfl 23 rfl (c' := (c - 1)) (by omega) (sl' := (sl - 6)) (by omega) ?_
  exact h
theorem b_X11_land_23 {y0 : Int} (h : Qr (some (.inl y0)) (J, L, W)) :
    NW sc d_X11_land D (23, [none, none], [.inl y0], (J, L, W), c, sl) Qr Qx := by
  refine nw_ireturn l_X11_land_23 rfl ?_
  exact h
theorem b_X11_loadBest_0 {x1 : Int} (hD : 15 ≤ D) (h : NW sc d_X8_copyFrom 1 (0, [some (.inr (.inl (some 55))), some (.inr (.inl (some 2)))], [], (J, L, W), 0, 0) (fun v M9 => NW sc d_X11_loadBest D (11, [some (.inr (.inl (some 0))), some (.inl x1)], nw_push v [], M9, c, sl) Qr Qx) Qx) :
    NW sc d_X11_loadBest D (0, [some (.inr (.inl (some 0))), some (.inl x1)], [], (J, L, W), c, sl) Qr Qx := by
  refine nw_aload_n l_X11_loadBest_0 1 rfl rfl ?_
  refine nw_getA l_X11_loadBest_1 4 rfl k_0 r_0_5 ?_
  refine nw_aload_n l_X11_loadBest_4 5 rfl rfl ?_
  refine nw_getA l_X11_loadBest_5 8 rfl k_0 r_0_1 ?_
  refine nw_call0 1 55 l_X11_loadBest_8 rfl rfl g_X8_copyFrom (Nat.lt_of_lt_of_le (by decide) hD) rfl (Or.inl ⟨_, rfl, k_55⟩) (ls' := [some (.inr (.inl (some 55))), some (.inr (.inl (some 2)))]) rfl (st' := []) rfl 11 rfl ?_
  exact h
theorem b_X11_loadBest_11 {x1 : Int} (hD : 15 ≤ D) (h : NW sc d_X0_takeBestLoad 14 (0, [some (.inr (.inl (some 1))), some (.inl x1), none, none], [], (J, L, W), 0, 0) (fun v M9 => NW sc d_X11_loadBest D (20, [none, none], nw_push v [.inr (.inl (some 0))], M9, c, sl) Qr Qx) Qx) :
    NW sc d_X11_loadBest D (11, [some (.inr (.inl (some 0))), some (.inl x1)], [], (J, L, W), c, sl) Qr Qx := by
  refine nw_aload_n l_X11_loadBest_11 12 rfl rfl ?_
  refine nw_aload_n l_X11_loadBest_12 13 rfl rfl ?_
  refine nw_getA l_X11_loadBest_13 16 rfl k_0 r_0_0 ?_
  refine nw_iload_n l_X11_loadBest_16 17 rfl rfl ?_
  refine nw_drop (ls' := [none, none]) ⟨True.intro, ⟨True.intro, True.intro⟩⟩ ?_
  refine nw_call0 14 1 l_X11_loadBest_17 rfl rfl g_X0_takeBestLoad (Nat.lt_of_lt_of_le (by decide) hD) rfl (Or.inl ⟨_, rfl, k_1⟩) (ls' := [some (.inr (.inl (some 1))), some (.inl x1), none, none]) rfl (st' := [.inr (.inl (some 0))]) rfl 20 rfl ?_
  exact h
theorem b_X11_loadBest_20 {y0 : Int} (hD : 15 ≤ D) (hc : 1 ≤ c) (hs : 6 ≤ sl) (h : NW sc d_X11_settle 3 (0, [some (.inr (.inl (some 0))), some (.inl y0)], [], (J, L, W), 1, 6) (fun v M9 => NW sc d_X11_loadBest D (23, [none, none], nw_push v [], M9, (c - 1), (sl - 6)) Qr Qx) Qx) :
    NW sc d_X11_loadBest D (20, [none, none], [.inl y0, .inr (.inl (some 0))], (J, L, W), c, sl) Qr Qx := by
  refine nw_call 3 1 6 0 l_X11_loadBest_20 rfl rfl g_X11_settle (Nat.lt_of_lt_of_le (by decide) hD) rfl (by omega) (by omega) (Or.inl ⟨_, rfl, k_0⟩) (ls' := [some (.inr (.inl (some 0))), some (.inl y0)]) rfl (st' := []) rfl 23 rfl (c' := (c - 1)) (by omega) (sl' := (sl - 6)) (by omega) ?_
  exact h
theorem b_X11_loadBest_23 {y0 : Int} (h : Qr (some (.inl y0)) (J, L, W)) :
    NW sc d_X11_loadBest D (23, [none, none], [.inl y0], (J, L, W), c, sl) Qr Qx := by
  refine nw_ireturn l_X11_loadBest_23 rfl ?_
  exact h
theorem b_X11_loadOf_0 {x1 : Int} (hD : 2 ≤ D) (hc : 1 ≤ c) (hs : 6 ≤ sl) (h : ((x1 < 0 → (∀ n2, W.2.2.2.2 ≤ n2 → Qx 0 (J, L, nw_top W n2))) ∧ (0 ≤ x1 → ((J 9 0 ≤ x1 → (∀ n4, W.2.2.2.2 ≤ n4 → Qx 0 (J, L, nw_top W n4))) ∧ (x1 < J 9 0 → NW sc d_X7_weightAboard 0 (0, [some (.inr (.inl (some 18))), some (.inl x1), none, none], [], (J, L, W), 0, 0) (fun v M9 => NW sc d_X11_loadOf D (16, [none, none], nw_push v [], M9, (c - 1), (sl - 6)) Qr Qx) Qx))))) :
    NW sc d_X11_loadOf D (0, [some (.inr (.inl (some 0))), some (.inl x1)], [], (J, L, W), c, sl) Qr Qx := by
  refine nw_aload_n l_X11_loadOf_0 1 rfl rfl ?_
  refine nw_iload_n l_X11_loadOf_1 2 rfl rfl ?_
  refine nw_call 1 1 6 0 l_X11_loadOf_2 rfl rfl g_X11_needFerry (Nat.lt_of_lt_of_le (by decide) hD) rfl (by omega) (by omega) (Or.inl ⟨_, rfl, k_0⟩) (ls' := [some (.inr (.inl (some 0))), some (.inl x1)]) rfl (st' := []) rfl 5 rfl (c' := (c - 1)) (by omega) (sl' := (sl - 6)) (by omega) ?_
  refine nw_aload_n l_X11_needFerry_0 1 rfl rfl ?_
  refine nw_getA l_X11_needFerry_1 4 rfl k_0 r_0_1 ?_
  refine nw_getA l_X11_needFerry_4 7 rfl k_2 r_2_1 ?_
  refine nw_iload_n l_X11_needFerry_7 8 rfl rfl ?_
  refine nw_call0 0 9 l_X11_needFerry_8 rfl rfl g_X4_hasFerry (by decide) rfl (Or.inl ⟨_, rfl, k_9⟩) (ls' := [some (.inr (.inl (some 9))), some (.inl x1)]) rfl (st' := []) rfl 11 rfl ?_
  refine nw_iload_n l_X4_hasFerry_0 1 rfl rfl ?_
  refine nw_if_lt l_X4_hasFerry_1 4 rfl (fun q1 => ?_) (fun q1 => ?_)
  · replace h := h.1 q1
    refine nw_iconst (len := 0) l_X4_hasFerry_16 17 rfl c_0 ?_
    refine nw_ireturnZ l_X4_hasFerry_17 rfl (Or.inl rfl) ?_
    refine nw_if_ne l_X11_needFerry_11 14 rfl (fun q => absurd q (by decide)) (fun _ => ?_)
    refine nw_throw 0 l_X11_needFerry_14 ⟨rfl, rfl, rfl, by decide, rfl⟩ (by decide) (by decide) (fun n2 z2 => ?_)
    replace h := h n2 z2
    exact h
  · replace h := h.2 q1
    refine nw_iload_n l_X4_hasFerry_4 5 rfl rfl ?_
    refine nw_aload_n l_X4_hasFerry_5 6 rfl rfl ?_
    refine nw_getI l_X4_hasFerry_6 9 rfl k_9 (v := J 9 0) rfl ?_
    refine nw_ic_ge l_X4_hasFerry_9 12 rfl (fun q3 => ?_) (fun q3 => ?_)
    · replace h := h.1 q3
      refine nw_iconst (len := 0) l_X4_hasFerry_16 17 rfl c_0 ?_
      refine nw_ireturnZ l_X4_hasFerry_17 rfl (Or.inl rfl) ?_
      refine nw_if_ne l_X11_needFerry_11 14 rfl (fun q => absurd q (by decide)) (fun _ => ?_)
      refine nw_throw 0 l_X11_needFerry_14 ⟨rfl, rfl, rfl, by decide, rfl⟩ (by decide) (by decide) (fun n4 z4 => ?_)
      replace h := h n4 z4
      exact h
    · replace h := h.2 q3
      refine nw_iconst (len := 0) l_X4_hasFerry_12 13 rfl c_1 ?_
      refine nw_goto l_X4_hasFerry_13 ?_
      refine nw_ireturnZ l_X4_hasFerry_17 rfl (Or.inr rfl) ?_
      refine nw_if_ne l_X11_needFerry_11 14 rfl (fun _ => ?_) (fun q => absurd q (by decide))
      refine nw_return l_X11_needFerry_22 rfl ?_
      refine nw_aload_n l_X11_loadOf_5 6 rfl rfl ?_
      refine nw_getA l_X11_loadOf_6 9 rfl k_0 r_0_1 ?_
      refine nw_getA l_X11_loadOf_9 12 rfl k_2 r_2_2 ?_
      refine nw_iload_n l_X11_loadOf_12 13 rfl rfl ?_
      refine nw_drop (ls' := [none, none]) ⟨True.intro, ⟨True.intro, True.intro⟩⟩ ?_
      refine nw_call0 0 18 l_X11_loadOf_13 rfl rfl g_X7_weightAboard (Nat.lt_of_lt_of_le (by decide) hD) rfl (Or.inl ⟨_, rfl, k_18⟩) (ls' := [some (.inr (.inl (some 18))), some (.inl x1), none, none]) rfl (st' := []) rfl 16 rfl ?_
      exact h
theorem b_X11_loadOf_16 {y0 : Int} (h : Qr (some (.inl y0)) (J, L, W)) :
    NW sc d_X11_loadOf D (16, [none, none], [.inl y0], (J, L, W), c, sl) Qr Qx := by
  refine nw_ireturn l_X11_loadOf_16 rfl ?_
  exact h
theorem b_X11_loadsAgree_0  (h : NW sc d_X11_loadsAgree D (2, [some (.inr (.inl (some 0))), some (.inl 0)], [], (J, L, W), c, sl) Qr Qx) :
    NW sc d_X11_loadsAgree D (0, [some (.inr (.inl (some 0))), none], [], (J, L, W), c, sl) Qr Qx := by
  refine nw_iconst (len := 0) l_X11_loadsAgree_0 1 rfl c_0 ?_
  refine nw_istore_n l_X11_loadsAgree_1 2 rfl rfl (ls' := [some (.inr (.inl (some 0))), some (.inl 0)]) rfl ?_
  exact h
theorem b_X11_loadsAgree_2 {x1 : Int} (hD : 14 ≤ D) (h : ((J 9 0 ≤ x1 → Qr (some (.inl 1)) (J, L, W)) ∧ (x1 < J 9 0 → ((0 ≤ x1 ∧ x1 < 3) ∧ ((J 11 x1 = (-1) → NW sc d_X6_gather 3 (0, [some (.inr (.inl (some 26))), some (.inr (.inl (some 2))), some (.inl x1), none, none, none], [], (J, L, W), 0, 0) (fun v M9 => NW sc d_X11_loadsAgree D (42, [some (.inr (.inl (some 0))), some (.inl x1)], nw_push v [], M9, c, sl) Qr Qx) Qx) ∧ (¬ J 11 x1 = (-1) → ((-2147483648 ≤ x1 + 1 ∧ x1 + 1 < 2147483648) ∧ NW sc d_X11_loadsAgree D (2, [some (.inr (.inl (some 0))), some (.inl (x1 + 1))], [], (J, L, W), c, sl) Qr Qx))))))) :
    NW sc d_X11_loadsAgree D (2, [some (.inr (.inl (some 0))), some (.inl x1)], [], (J, L, W), c, sl) Qr Qx := by
  refine nw_iload_n l_X11_loadsAgree_2 3 rfl rfl ?_
  refine nw_aload_n l_X11_loadsAgree_3 4 rfl rfl ?_
  refine nw_getA l_X11_loadsAgree_4 7 rfl k_0 r_0_1 ?_
  refine nw_getA l_X11_loadsAgree_7 10 rfl k_2 r_2_1 ?_
  refine nw_getI l_X11_loadsAgree_10 13 rfl k_9 (v := J 9 0) rfl ?_
  refine nw_ic_ge l_X11_loadsAgree_13 16 rfl (fun q1 => ?_) (fun q1 => ?_)
  · replace h := h.1 q1
    refine nw_iconst (len := 0) l_X11_loadsAgree_67 68 rfl c_1 ?_
    refine nw_ireturnZ l_X11_loadsAgree_68 rfl (Or.inr rfl) ?_
    exact h
  · replace h := h.2 q1
    refine nw_aload_n l_X11_loadsAgree_16 17 rfl rfl ?_
    refine nw_getA l_X11_loadsAgree_17 20 rfl k_0 r_0_1 ?_
    refine nw_getA l_X11_loadsAgree_20 23 rfl k_2 r_2_1 ?_
    refine nw_iload_n l_X11_loadsAgree_23 24 rfl rfl ?_
    refine nw_call0 0 9 l_X11_loadsAgree_24 rfl rfl g_X4_underWay (Nat.lt_of_lt_of_le (by decide) hD) rfl (Or.inl ⟨_, rfl, k_9⟩) (ls' := [some (.inr (.inl (some 9))), some (.inl x1)]) rfl (st' := []) rfl 27 rfl ?_
    refine nw_aload_n l_X4_underWay_0 1 rfl rfl ?_
    refine nw_getA l_X4_underWay_1 4 rfl k_9 r_9_2 ?_
    refine nw_iload_n l_X4_underWay_4 5 rfl rfl ?_
    have o2 := h.1
    replace h := h.2
    refine nw_iald l_X4_underWay_5 6 rfl k_11 o2 (v := J 11 x1) rfl ?_
    refine nw_iconst (len := 0) l_X4_underWay_6 7 rfl c_n1 ?_
    refine nw_ic_eq l_X4_underWay_7 10 rfl (fun q3 => ?_) (fun q3 => ?_)
    · replace h := h.1 q3
      refine nw_iconst (len := 0) l_X4_underWay_14 15 rfl c_0 ?_
      refine nw_ireturnZ l_X4_underWay_15 rfl (Or.inl rfl) ?_
      refine nw_if_ne l_X11_loadsAgree_27 30 rfl (fun q => absurd q (by decide)) (fun _ => ?_)
      refine nw_aload_n l_X11_loadsAgree_30 31 rfl rfl ?_
      refine nw_getA l_X11_loadsAgree_31 34 rfl k_0 r_0_2 ?_
      refine nw_aload_n l_X11_loadsAgree_34 35 rfl rfl ?_
      refine nw_getA l_X11_loadsAgree_35 38 rfl k_0 r_0_1 ?_
      refine nw_iload_n l_X11_loadsAgree_38 39 rfl rfl ?_
      refine nw_call0 3 26 l_X11_loadsAgree_39 rfl rfl g_X6_gather (Nat.lt_of_lt_of_le (by decide) hD) rfl (Or.inl ⟨_, rfl, k_26⟩) (ls' := [some (.inr (.inl (some 26))), some (.inr (.inl (some 2))), some (.inl x1), none, none, none]) rfl (st' := []) rfl 42 rfl ?_
      exact h
    · replace h := h.2 q3
      refine nw_iconst (len := 0) l_X4_underWay_10 11 rfl c_1 ?_
      refine nw_goto l_X4_underWay_11 ?_
      refine nw_ireturnZ l_X4_underWay_15 rfl (Or.inr rfl) ?_
      refine nw_if_ne l_X11_loadsAgree_27 30 rfl (fun _ => ?_) (fun q => absurd q (by decide))
      have o4 := h.1
      replace h := h.2
      refine nw_iinc l_X11_loadsAgree_61 64 rfl 1 (by decide) rfl rfl o4 (ls' := [some (.inr (.inl (some 0))), some (.inl (x1 + 1))]) rfl ?_
      refine nw_goto l_X11_loadsAgree_64 ?_
      exact h
theorem b_X11_loadsAgree_42 {x1 : Int} (hD : 14 ≤ D) (h : NW sc d_X6_sumByDeciding 13 (0, [some (.inr (.inl (some 26)))], [], (J, L, W), 0, 0) (fun v M9 => NW sc d_X11_loadsAgree D (49, [some (.inr (.inl (some 0))), some (.inl x1)], nw_push v [], M9, c, sl) Qr Qx) Qx) :
    NW sc d_X11_loadsAgree D (42, [some (.inr (.inl (some 0))), some (.inl x1)], [], (J, L, W), c, sl) Qr Qx := by
  refine nw_aload_n l_X11_loadsAgree_42 43 rfl rfl ?_
  refine nw_getA l_X11_loadsAgree_43 46 rfl k_0 r_0_2 ?_
  refine nw_call0 13 26 l_X11_loadsAgree_46 rfl rfl g_X6_sumByDeciding (Nat.lt_of_lt_of_le (by decide) hD) rfl (Or.inl ⟨_, rfl, k_26⟩) (ls' := [some (.inr (.inl (some 26)))]) rfl (st' := []) rfl 49 rfl ?_
  exact h
theorem b_X11_loadsAgree_49 {x1 : Int} {y0 : Int} (hD : 14 ≤ D) (h : NW sc d_X6_sumByTable 1 (0, [some (.inr (.inl (some 26))), none, none, none], [], (J, L, W), 0, 0) (fun v M9 => NW sc d_X11_loadsAgree D (56, [some (.inr (.inl (some 0))), some (.inl x1)], nw_push v [.inl y0], M9, c, sl) Qr Qx) Qx) :
    NW sc d_X11_loadsAgree D (49, [some (.inr (.inl (some 0))), some (.inl x1)], [.inl y0], (J, L, W), c, sl) Qr Qx := by
  refine nw_aload_n l_X11_loadsAgree_49 50 rfl rfl ?_
  refine nw_getA l_X11_loadsAgree_50 53 rfl k_0 r_0_2 ?_
  refine nw_call0 1 26 l_X11_loadsAgree_53 rfl rfl g_X6_sumByTable (Nat.lt_of_lt_of_le (by decide) hD) rfl (Or.inl ⟨_, rfl, k_26⟩) (ls' := [some (.inr (.inl (some 26))), none, none, none]) rfl (st' := [.inl y0]) rfl 56 rfl ?_
  exact h
theorem b_X11_loadsAgree_56 {x1 : Int} {y0 : Int} {y1 : Int} (h : ((y1 = y0 → ((-2147483648 ≤ x1 + 1 ∧ x1 + 1 < 2147483648) ∧ NW sc d_X11_loadsAgree D (2, [some (.inr (.inl (some 0))), some (.inl (x1 + 1))], [], (J, L, W), c, sl) Qr Qx)) ∧ (¬ y1 = y0 → Qr (some (.inl 0)) (J, L, W)))) :
    NW sc d_X11_loadsAgree D (56, [some (.inr (.inl (some 0))), some (.inl x1)], [.inl y0, .inl y1], (J, L, W), c, sl) Qr Qx := by
  refine nw_ic_eq l_X11_loadsAgree_56 59 rfl (fun q1 => ?_) (fun q1 => ?_)
  · replace h := h.1 q1
    have o2 := h.1
    replace h := h.2
    refine nw_iinc l_X11_loadsAgree_61 64 rfl 1 (by decide) rfl rfl o2 (ls' := [some (.inr (.inl (some 0))), some (.inl (x1 + 1))]) rfl ?_
    refine nw_goto l_X11_loadsAgree_64 ?_
    exact h
  · replace h := h.2 q1
    refine nw_iconst (len := 0) l_X11_loadsAgree_59 60 rfl c_0 ?_
    refine nw_ireturnZ l_X11_loadsAgree_60 rfl (Or.inl rfl) ?_
    exact h
theorem b_X11_meanPhase_0  (hD : 1 ≤ D) (hc : 1 ≤ c) (hs : 6 ≤ sl) (h : ((¬ J 18 0 = 0 → NW sc d_X7_sumOfPhases 0 (0, [some (.inr (.inl (some 18))), none, none], [], (J, L, W), 0, 0) (fun v M9 => NW sc d_X11_meanPhase D (31, [some (.inr (.inl (some 0)))], nw_push v [], M9, c, sl) Qr Qx) Qx) ∧ (J 18 0 = 0 → (∀ n2, W.2.2.2.2 ≤ n2 → Qx 5 (J, L, nw_top W n2))))) :
    NW sc d_X11_meanPhase D (0, [some (.inr (.inl (some 0)))], [], (J, L, W), c, sl) Qr Qx := by
  refine nw_aload_n l_X11_meanPhase_0 1 rfl rfl ?_
  refine nw_getA l_X11_meanPhase_1 4 rfl k_0 r_0_1 ?_
  refine nw_getA l_X11_meanPhase_4 7 rfl k_2 r_2_2 ?_
  refine nw_getI l_X11_meanPhase_7 10 rfl k_18 (v := J 18 0) rfl ?_
  refine nw_if_ne l_X11_meanPhase_10 13 rfl (fun q1 => ?_) (fun q1 => ?_)
  · replace h := h.1 q1
    refine nw_aload_n l_X11_meanPhase_21 22 rfl rfl ?_
    refine nw_getA l_X11_meanPhase_22 25 rfl k_0 r_0_1 ?_
    refine nw_getA l_X11_meanPhase_25 28 rfl k_2 r_2_2 ?_
    refine nw_call0 0 18 l_X11_meanPhase_28 rfl rfl g_X7_sumOfPhases (Nat.lt_of_lt_of_le (by decide) hD) rfl (Or.inl ⟨_, rfl, k_18⟩) (ls' := [some (.inr (.inl (some 18))), none, none]) rfl (st' := []) rfl 31 rfl ?_
    exact h
  · replace h := h.2 q1
    refine nw_throw 5 l_X11_meanPhase_13 ⟨rfl, rfl, rfl, by decide, rfl⟩ (by omega) (by omega) (fun n2 z2 => ?_)
    replace h := h n2 z2
    exact h
theorem b_X11_meanPhase_31 {y0 : Int} (h : ((vf_n64 (FP.ddiv (FP.i2d (Int32.ofInt y0)) (FP.i2d (Int32.ofInt (J 18 0))))) ∧ Qr (some (.inr (.inr (.inr (.inl (FP.ddiv (FP.i2d (Int32.ofInt y0)) (FP.i2d (Int32.ofInt (J 18 0))))))))) (J, L, W))) :
    NW sc d_X11_meanPhase D (31, [some (.inr (.inl (some 0)))], [.inl y0], (J, L, W), c, sl) Qr Qx := by
  refine nw_i2d l_X11_meanPhase_31 32 rfl ?_
  refine nw_aload_n l_X11_meanPhase_32 33 rfl rfl ?_
  refine nw_getA l_X11_meanPhase_33 36 rfl k_0 r_0_1 ?_
  refine nw_getA l_X11_meanPhase_36 39 rfl k_2 r_2_2 ?_
  refine nw_getI l_X11_meanPhase_39 42 rfl k_18 (v := J 18 0) rfl ?_
  refine nw_i2d l_X11_meanPhase_42 43 rfl ?_
  have o1 := h.1
  replace h := h.2
  refine nw_ddiv l_X11_meanPhase_43 44 rfl o1 ?_
  refine nw_dreturn l_X11_meanPhase_44 rfl ?_
  exact h
theorem b_X11_moonAt_0 {x1 : Int} (hc : 1 ≤ c) (hs : 6 ≤ sl) (h : ((x1 < 0 → (∀ n2, W.2.2.2.2 ≤ n2 → Qx 0 (J, L, nw_top W n2))) ∧ (0 ≤ x1 → ((x1 < J 18 0 → ((0 ≤ x1 ∧ x1 < 10) ∧ Qr (some (.inl (J 19 x1))) (J, L, W))) ∧ (J 18 0 ≤ x1 → (∀ n5, W.2.2.2.2 ≤ n5 → Qx 0 (J, L, nw_top W n5))))))) :
    NW sc d_X11_moonAt D (0, [some (.inr (.inl (some 0))), some (.inl x1)], [], (J, L, W), c, sl) Qr Qx := by
  refine nw_iload_n l_X11_moonAt_0 1 rfl rfl ?_
  refine nw_if_lt l_X11_moonAt_1 4 rfl (fun q1 => ?_) (fun q1 => ?_)
  · replace h := h.1 q1
    refine nw_throw 0 l_X11_moonAt_18 ⟨rfl, rfl, rfl, by decide, rfl⟩ (by omega) (by omega) (fun n2 z2 => ?_)
    replace h := h n2 z2
    exact h
  · replace h := h.2 q1
    refine nw_iload_n l_X11_moonAt_4 5 rfl rfl ?_
    refine nw_aload_n l_X11_moonAt_5 6 rfl rfl ?_
    refine nw_getA l_X11_moonAt_6 9 rfl k_0 r_0_1 ?_
    refine nw_getA l_X11_moonAt_9 12 rfl k_2 r_2_2 ?_
    refine nw_getI l_X11_moonAt_12 15 rfl k_18 (v := J 18 0) rfl ?_
    refine nw_ic_lt l_X11_moonAt_15 18 rfl (fun q3 => ?_) (fun q3 => ?_)
    · replace h := h.1 q3
      refine nw_aload_n l_X11_moonAt_26 27 rfl rfl ?_
      refine nw_getA l_X11_moonAt_27 30 rfl k_0 r_0_1 ?_
      refine nw_getA l_X11_moonAt_30 33 rfl k_2 r_2_2 ?_
      refine nw_getA l_X11_moonAt_33 36 rfl k_18 r_18_2 ?_
      refine nw_iload_n l_X11_moonAt_36 37 rfl rfl ?_
      have o4 := h.1
      replace h := h.2
      refine nw_iald l_X11_moonAt_37 38 rfl k_19 o4 (v := J 19 x1) rfl ?_
      refine nw_ireturn l_X11_moonAt_38 rfl ?_
      exact h
    · replace h := h.2 q3
      refine nw_throw 0 l_X11_moonAt_18 ⟨rfl, rfl, rfl, by decide, rfl⟩ (by omega) (by omega) (fun n5 z5 => ?_)
      replace h := h n5 z5
      exact h
theorem b_X11_moonAtRank_0 {x1 : Int} (hD : 4 ≤ D) (hc : 1 ≤ c) (hs : 6 ≤ sl) (h : ((x1 < 0 → (∀ n2, W.2.2.2.2 ≤ n2 → Qx 4 (J, L, nw_top W n2))) ∧ (0 ≤ x1 → ((x1 < J 18 0 → NW sc d_X3_askAll 3 (0, [some (.inr (.inl (some 28))), some (.inr (.inl (some 2))), none], [], (J, L, W), 0, 0) (fun v M9 => NW sc d_X11_moonAtRank D (37, [some (.inr (.inl (some 0))), some (.inl x1)], nw_push v [], M9, c, sl) Qr Qx) Qx) ∧ (J 18 0 ≤ x1 → (∀ n4, W.2.2.2.2 ≤ n4 → Qx 4 (J, L, nw_top W n4))))))) :
    NW sc d_X11_moonAtRank D (0, [some (.inr (.inl (some 0))), some (.inl x1)], [], (J, L, W), c, sl) Qr Qx := by
  refine nw_iload_n l_X11_moonAtRank_0 1 rfl rfl ?_
  refine nw_if_lt l_X11_moonAtRank_1 4 rfl (fun q1 => ?_) (fun q1 => ?_)
  · replace h := h.1 q1
    refine nw_throw 4 l_X11_moonAtRank_18 ⟨rfl, rfl, rfl, by decide, rfl⟩ (by omega) (by omega) (fun n2 z2 => ?_)
    replace h := h n2 z2
    exact h
  · replace h := h.2 q1
    refine nw_iload_n l_X11_moonAtRank_4 5 rfl rfl ?_
    refine nw_aload_n l_X11_moonAtRank_5 6 rfl rfl ?_
    refine nw_getA l_X11_moonAtRank_6 9 rfl k_0 r_0_1 ?_
    refine nw_getA l_X11_moonAtRank_9 12 rfl k_2 r_2_2 ?_
    refine nw_getI l_X11_moonAtRank_12 15 rfl k_18 (v := J 18 0) rfl ?_
    refine nw_ic_lt l_X11_moonAtRank_15 18 rfl (fun q3 => ?_) (fun q3 => ?_)
    · replace h := h.1 q3
      refine nw_aload_n l_X11_moonAtRank_26 27 rfl rfl ?_
      refine nw_getA l_X11_moonAtRank_27 30 rfl k_0 r_0_3 ?_
      refine nw_aload_n l_X11_moonAtRank_30 31 rfl rfl ?_
      refine nw_getA l_X11_moonAtRank_31 34 rfl k_0 r_0_1 ?_
      refine nw_call0 3 28 l_X11_moonAtRank_34 rfl rfl g_X3_askAll (Nat.lt_of_lt_of_le (by decide) hD) rfl (Or.inl ⟨_, rfl, k_28⟩) (ls' := [some (.inr (.inl (some 28))), some (.inr (.inl (some 2))), none]) rfl (st' := []) rfl 37 rfl ?_
      exact h
    · replace h := h.2 q3
      refine nw_throw 4 l_X11_moonAtRank_18 ⟨rfl, rfl, rfl, by decide, rfl⟩ (by omega) (by omega) (fun n4 z4 => ?_)
      replace h := h n4 z4
      exact h
theorem b_X11_moonAtRank_37 {x1 : Int} (hD : 4 ≤ D) (h : NW sc d_X3_placeAtRank 1 (0, [some (.inr (.inl (some 28))), some (.inl x1), none], [], (J, L, W), 0, 0) (fun v M9 => NW sc d_X11_moonAtRank D (55, [none, none], nw_push v [.inr (.inl (some 19))], M9, c, sl) Qr Qx) Qx) :
    NW sc d_X11_moonAtRank D (37, [some (.inr (.inl (some 0))), some (.inl x1)], [], (J, L, W), c, sl) Qr Qx := by
  refine nw_aload_n l_X11_moonAtRank_37 38 rfl rfl ?_
  refine nw_getA l_X11_moonAtRank_38 41 rfl k_0 r_0_1 ?_
  refine nw_getA l_X11_moonAtRank_41 44 rfl k_2 r_2_2 ?_
  refine nw_getA l_X11_moonAtRank_44 47 rfl k_18 r_18_2 ?_
  refine nw_aload_n l_X11_moonAtRank_47 48 rfl rfl ?_
  refine nw_getA l_X11_moonAtRank_48 51 rfl k_0 r_0_3 ?_
  refine nw_iload_n l_X11_moonAtRank_51 52 rfl rfl ?_
  refine nw_drop (ls' := [none, none]) ⟨True.intro, ⟨True.intro, True.intro⟩⟩ ?_
  refine nw_call0 1 28 l_X11_moonAtRank_52 rfl rfl g_X3_placeAtRank (Nat.lt_of_lt_of_le (by decide) hD) rfl (Or.inl ⟨_, rfl, k_28⟩) (ls' := [some (.inr (.inl (some 28))), some (.inl x1), none]) rfl (st' := [.inr (.inl (some 19))]) rfl 55 rfl ?_
  exact h
theorem b_X11_moonAtRank_55 {y0 : Int} (h : ((0 ≤ y0 ∧ y0 < 10) ∧ Qr (some (.inl (J 19 y0))) (J, L, W))) :
    NW sc d_X11_moonAtRank D (55, [none, none], [.inl y0, .inr (.inl (some 19))], (J, L, W), c, sl) Qr Qx := by
  have o1 := h.1
  replace h := h.2
  refine nw_iald l_X11_moonAtRank_55 56 rfl k_19 o1 (v := J 19 y0) rfl ?_
  refine nw_ireturn l_X11_moonAtRank_56 rfl ?_
  exact h
theorem b_X11_moonCount_0  (h : Qr (some (.inl (J 18 0))) (J, L, W)) :
    NW sc d_X11_moonCount D (0, [some (.inr (.inl (some 0)))], [], (J, L, W), c, sl) Qr Qx := by
  refine nw_aload_n l_X11_moonCount_0 1 rfl rfl ?_
  refine nw_getA l_X11_moonCount_1 4 rfl k_0 r_0_1 ?_
  refine nw_getA l_X11_moonCount_4 7 rfl k_2 r_2_2 ?_
  refine nw_getI l_X11_moonCount_7 10 rfl k_18 (v := J 18 0) rfl ?_
  refine nw_ireturn l_X11_moonCount_10 rfl ?_
  exact h
theorem b_X11_netsAgree_0  (hD : 2 ≤ D) (h : NW sc d_X10_netByOrder 1 (0, [some (.inr (.inl (some 29))), some (.inr (.inl (some 3))), none, none, none, none, none, none], [], (J, L, W), 0, 0) (fun v M9 => NW sc d_X11_netsAgree D (14, [some (.inr (.inl (some 0)))], nw_push v [], M9, c, sl) Qr Qx) Qx) :
    NW sc d_X11_netsAgree D (0, [some (.inr (.inl (some 0)))], [], (J, L, W), c, sl) Qr Qx := by
  refine nw_aload_n l_X11_netsAgree_0 1 rfl rfl ?_
  refine nw_getA l_X11_netsAgree_1 4 rfl k_0 r_0_4 ?_
  refine nw_aload_n l_X11_netsAgree_4 5 rfl rfl ?_
  refine nw_getA l_X11_netsAgree_5 8 rfl k_0 r_0_1 ?_
  refine nw_getA l_X11_netsAgree_8 11 rfl k_2 r_2_0 ?_
  refine nw_call0 1 29 l_X11_netsAgree_11 rfl rfl g_X10_netByOrder (Nat.lt_of_lt_of_le (by decide) hD) rfl (Or.inl ⟨_, rfl, k_29⟩) (ls' := [some (.inr (.inl (some 29))), some (.inr (.inl (some 3))), none, none, none, none, none, none]) rfl (st' := []) rfl 14 rfl ?_
  exact h
theorem b_X11_netsAgree_14 {y0 : Int} (hD : 2 ≤ D) (h : NW sc d_X10_netByGrowing 1 (0, [some (.inr (.inl (some 29))), some (.inr (.inl (some 3))), none, none, none, none], [], (J, L, W), 0, 0) (fun v M9 => NW sc d_X11_netsAgree D (28, [none], nw_push v [.inl y0], M9, c, sl) Qr Qx) Qx) :
    NW sc d_X11_netsAgree D (14, [some (.inr (.inl (some 0)))], [.inl y0], (J, L, W), c, sl) Qr Qx := by
  refine nw_aload_n l_X11_netsAgree_14 15 rfl rfl ?_
  refine nw_getA l_X11_netsAgree_15 18 rfl k_0 r_0_4 ?_
  refine nw_aload_n l_X11_netsAgree_18 19 rfl rfl ?_
  refine nw_getA l_X11_netsAgree_19 22 rfl k_0 r_0_1 ?_
  refine nw_getA l_X11_netsAgree_22 25 rfl k_2 r_2_0 ?_
  refine nw_drop (ls' := [none]) ⟨True.intro, True.intro⟩ ?_
  refine nw_call0 1 29 l_X11_netsAgree_25 rfl rfl g_X10_netByGrowing (Nat.lt_of_lt_of_le (by decide) hD) rfl (Or.inl ⟨_, rfl, k_29⟩) (ls' := [some (.inr (.inl (some 29))), some (.inr (.inl (some 3))), none, none, none, none]) rfl (st' := [.inl y0]) rfl 28 rfl ?_
  exact h
theorem b_X11_netsAgree_28 {y0 : Int} {y1 : Int} (h : ((¬ y1 = y0 → Qr (some (.inl 0)) (J, L, W)) ∧ (y1 = y0 → Qr (some (.inl 1)) (J, L, W)))) :
    NW sc d_X11_netsAgree D (28, [none], [.inl y0, .inl y1], (J, L, W), c, sl) Qr Qx := by
  refine nw_ic_ne l_X11_netsAgree_28 31 rfl (fun q1 => ?_) (fun q1 => ?_)
  · replace h := h.1 q1
    refine nw_iconst (len := 0) l_X11_netsAgree_35 36 rfl c_0 ?_
    refine nw_ireturnZ l_X11_netsAgree_36 rfl (Or.inl rfl) ?_
    exact h
  · replace h := h.2 q1
    refine nw_iconst (len := 0) l_X11_netsAgree_31 32 rfl c_1 ?_
    refine nw_goto l_X11_netsAgree_32 ?_
    refine nw_ireturnZ l_X11_netsAgree_36 rfl (Or.inr rfl) ?_
    exact h
theorem b_X11_pass_0 {x1 : Int} (hD : 5 ≤ D) (h : NW sc d_X8_copyFrom 1 (0, [some (.inr (.inl (some 55))), some (.inr (.inl (some 2)))], [], (J, L, W), 0, 0) (fun v M9 => NW sc d_X11_pass D (11, [some (.inr (.inl (some 0))), some (.inl x1)], nw_push v [], M9, c, sl) Qr Qx) Qx) :
    NW sc d_X11_pass D (0, [some (.inr (.inl (some 0))), some (.inl x1)], [], (J, L, W), c, sl) Qr Qx := by
  refine nw_aload_n l_X11_pass_0 1 rfl rfl ?_
  refine nw_getA l_X11_pass_1 4 rfl k_0 r_0_5 ?_
  refine nw_aload_n l_X11_pass_4 5 rfl rfl ?_
  refine nw_getA l_X11_pass_5 8 rfl k_0 r_0_1 ?_
  refine nw_call0 1 55 l_X11_pass_8 rfl rfl g_X8_copyFrom (Nat.lt_of_lt_of_le (by decide) hD) rfl (Or.inl ⟨_, rfl, k_55⟩) (ls' := [some (.inr (.inl (some 55))), some (.inr (.inl (some 2)))]) rfl (st' := []) rfl 11 rfl ?_
  exact h
theorem b_X11_pass_11 {x1 : Int} (hD : 5 ≤ D) (h : NW sc d_X0_letPass 4 (0, [some (.inr (.inl (some 1))), some (.inl x1), none, none], [], (J, L, W), 0, 0) (fun v M9 => NW sc d_X11_pass D (20, [none, none], nw_push v [.inr (.inl (some 0))], M9, c, sl) Qr Qx) Qx) :
    NW sc d_X11_pass D (11, [some (.inr (.inl (some 0))), some (.inl x1)], [], (J, L, W), c, sl) Qr Qx := by
  refine nw_aload_n l_X11_pass_11 12 rfl rfl ?_
  refine nw_aload_n l_X11_pass_12 13 rfl rfl ?_
  refine nw_getA l_X11_pass_13 16 rfl k_0 r_0_0 ?_
  refine nw_iload_n l_X11_pass_16 17 rfl rfl ?_
  refine nw_drop (ls' := [none, none]) ⟨True.intro, ⟨True.intro, True.intro⟩⟩ ?_
  refine nw_call0 4 1 l_X11_pass_17 rfl rfl g_X0_letPass (Nat.lt_of_lt_of_le (by decide) hD) rfl (Or.inl ⟨_, rfl, k_1⟩) (ls' := [some (.inr (.inl (some 1))), some (.inl x1), none, none]) rfl (st' := [.inr (.inl (some 0))]) rfl 20 rfl ?_
  exact h
theorem b_X11_pass_20 {y0 : Int} (hD : 5 ≤ D) (hc : 1 ≤ c) (hs : 6 ≤ sl) (h : NW sc d_X11_settle 3 (0, [some (.inr (.inl (some 0))), some (.inl y0)], [], (J, L, W), 1, 6) (fun v M9 => NW sc d_X11_pass D (23, [none, none], nw_push v [], M9, (c - 1), (sl - 6)) Qr Qx) Qx) :
    NW sc d_X11_pass D (20, [none, none], [.inl y0, .inr (.inl (some 0))], (J, L, W), c, sl) Qr Qx := by
  refine nw_call 3 1 6 0 l_X11_pass_20 rfl rfl g_X11_settle (Nat.lt_of_lt_of_le (by decide) hD) rfl (by omega) (by omega) (Or.inl ⟨_, rfl, k_0⟩) (ls' := [some (.inr (.inl (some 0))), some (.inl y0)]) rfl (st' := []) rfl 23 rfl (c' := (c - 1)) (by omega) (sl' := (sl - 6)) (by omega) ?_
  exact h
theorem b_X11_pass_23 {y0 : Int} (h : Qr (some (.inl y0)) (J, L, W)) :
    NW sc d_X11_pass D (23, [none, none], [.inl y0], (J, L, W), c, sl) Qr Qx := by
  refine nw_ireturn l_X11_pass_23 rfl ?_
  exact h
theorem b_X11_passageCount_0  (h : Qr (some (.inl (J 9 6))) (J, L, W)) :
    NW sc d_X11_passageCount D (0, [some (.inr (.inl (some 0)))], [], (J, L, W), c, sl) Qr Qx := by
  refine nw_aload_n l_X11_passageCount_0 1 rfl rfl ?_
  refine nw_getA l_X11_passageCount_1 4 rfl k_0 r_0_1 ?_
  refine nw_getA l_X11_passageCount_4 7 rfl k_2 r_2_1 ?_
  refine nw_getI l_X11_passageCount_7 10 rfl k_9 (v := J 9 6) rfl ?_
  refine nw_ireturn l_X11_passageCount_10 rfl ?_
  exact h
theorem b_X11_passageCrater_0 {x1 : Int} (hD : 2 ≤ D) (hc : 1 ≤ c) (hs : 6 ≤ sl) (h : ((x1 < 0 → (∀ n2, W.2.2.2.2 ≤ n2 → Qx 4 (J, L, nw_top W n2))) ∧ (0 ≤ x1 → ((10 ≤ x1 → (∀ n4, W.2.2.2.2 ≤ n4 → Qx 4 (J, L, nw_top W n4))) ∧ (x1 < 10 → ((J 9 6 ≤ x1 → (∀ n6, W.2.2.2.2 ≤ n6 → Qx 4 (J, L, nw_top W n6))) ∧ (x1 < J 9 6 → NW sc d_X4_slotOf 1 (0, [some (.inr (.inl (some 9))), some (.inl x1)], [], (J, L, W), 0, 0) (fun v M9 => NW sc d_X11_passageCrater D (26, [none, none], nw_push v [.inr (.inl (some 16))], M9, (c - 1), (sl - 6)) Qr Qx) Qx))))))) :
    NW sc d_X11_passageCrater D (0, [some (.inr (.inl (some 0))), some (.inl x1)], [], (J, L, W), c, sl) Qr Qx := by
  refine nw_aload_n l_X11_passageCrater_0 1 rfl rfl ?_
  refine nw_iload_n l_X11_passageCrater_1 2 rfl rfl ?_
  refine nw_call 1 1 6 0 l_X11_passageCrater_2 rfl rfl g_X11_needPassage (Nat.lt_of_lt_of_le (by decide) hD) rfl (by omega) (by omega) (Or.inl ⟨_, rfl, k_0⟩) (ls' := [some (.inr (.inl (some 0))), some (.inl x1)]) rfl (st' := []) rfl 5 rfl (c' := (c - 1)) (by omega) (sl' := (sl - 6)) (by omega) ?_
  refine nw_aload_n l_X11_needPassage_0 1 rfl rfl ?_
  refine nw_getA l_X11_needPassage_1 4 rfl k_0 r_0_1 ?_
  refine nw_getA l_X11_needPassage_4 7 rfl k_2 r_2_1 ?_
  refine nw_iload_n l_X11_needPassage_7 8 rfl rfl ?_
  refine nw_call0 0 9 l_X11_needPassage_8 rfl rfl g_X4_keepsPassage (by decide) rfl (Or.inl ⟨_, rfl, k_9⟩) (ls' := [some (.inr (.inl (some 9))), some (.inl x1)]) rfl (st' := []) rfl 11 rfl ?_
  refine nw_iload_n l_X4_keepsPassage_0 1 rfl rfl ?_
  refine nw_if_lt l_X4_keepsPassage_1 4 rfl (fun q1 => ?_) (fun q1 => ?_)
  · replace h := h.1 q1
    refine nw_iconst (len := 0) l_X4_keepsPassage_22 23 rfl c_0 ?_
    refine nw_ireturnZ l_X4_keepsPassage_23 rfl (Or.inl rfl) ?_
    refine nw_if_ne l_X11_needPassage_11 14 rfl (fun q => absurd q (by decide)) (fun _ => ?_)
    refine nw_throw 4 l_X11_needPassage_14 ⟨rfl, rfl, rfl, by decide, rfl⟩ (by decide) (by decide) (fun n2 z2 => ?_)
    replace h := h n2 z2
    exact h
  · replace h := h.2 q1
    refine nw_iload_n l_X4_keepsPassage_4 5 rfl rfl ?_
    refine nw_bipush (len := 0) l_X4_keepsPassage_5 7 rfl c_10 ?_
    refine nw_ic_ge l_X4_keepsPassage_7 10 rfl (fun q3 => ?_) (fun q3 => ?_)
    · replace h := h.1 q3
      refine nw_iconst (len := 0) l_X4_keepsPassage_22 23 rfl c_0 ?_
      refine nw_ireturnZ l_X4_keepsPassage_23 rfl (Or.inl rfl) ?_
      refine nw_if_ne l_X11_needPassage_11 14 rfl (fun q => absurd q (by decide)) (fun _ => ?_)
      refine nw_throw 4 l_X11_needPassage_14 ⟨rfl, rfl, rfl, by decide, rfl⟩ (by decide) (by decide) (fun n4 z4 => ?_)
      replace h := h n4 z4
      exact h
    · replace h := h.2 q3
      refine nw_iload_n l_X4_keepsPassage_10 11 rfl rfl ?_
      refine nw_aload_n l_X4_keepsPassage_11 12 rfl rfl ?_
      refine nw_getI l_X4_keepsPassage_12 15 rfl k_9 (v := J 9 6) rfl ?_
      refine nw_ic_ge l_X4_keepsPassage_15 18 rfl (fun q5 => ?_) (fun q5 => ?_)
      · replace h := h.1 q5
        refine nw_iconst (len := 0) l_X4_keepsPassage_22 23 rfl c_0 ?_
        refine nw_ireturnZ l_X4_keepsPassage_23 rfl (Or.inl rfl) ?_
        refine nw_if_ne l_X11_needPassage_11 14 rfl (fun q => absurd q (by decide)) (fun _ => ?_)
        refine nw_throw 4 l_X11_needPassage_14 ⟨rfl, rfl, rfl, by decide, rfl⟩ (by decide) (by decide) (fun n6 z6 => ?_)
        replace h := h n6 z6
        exact h
      · replace h := h.2 q5
        refine nw_iconst (len := 0) l_X4_keepsPassage_18 19 rfl c_1 ?_
        refine nw_goto l_X4_keepsPassage_19 ?_
        refine nw_ireturnZ l_X4_keepsPassage_23 rfl (Or.inr rfl) ?_
        refine nw_if_ne l_X11_needPassage_11 14 rfl (fun _ => ?_) (fun q => absurd q (by decide))
        refine nw_return l_X11_needPassage_22 rfl ?_
        refine nw_aload_n l_X11_passageCrater_5 6 rfl rfl ?_
        refine nw_getA l_X11_passageCrater_6 9 rfl k_0 r_0_1 ?_
        refine nw_getA l_X11_passageCrater_9 12 rfl k_2 r_2_1 ?_
        refine nw_getA l_X11_passageCrater_12 15 rfl k_9 r_9_9 ?_
        refine nw_aload_n l_X11_passageCrater_15 16 rfl rfl ?_
        refine nw_getA l_X11_passageCrater_16 19 rfl k_0 r_0_1 ?_
        refine nw_getA l_X11_passageCrater_19 22 rfl k_2 r_2_1 ?_
        refine nw_iload_n l_X11_passageCrater_22 23 rfl rfl ?_
        refine nw_drop (ls' := [none, none]) ⟨True.intro, ⟨True.intro, True.intro⟩⟩ ?_
        refine nw_call0 1 9 l_X11_passageCrater_23 rfl rfl g_X4_slotOf (Nat.lt_of_lt_of_le (by decide) hD) rfl (Or.inl ⟨_, rfl, k_9⟩) (ls' := [some (.inr (.inl (some 9))), some (.inl x1)]) rfl (st' := [.inr (.inl (some 16))]) rfl 26 rfl ?_
        exact h
theorem b_X11_passageCrater_26 {y0 : Int} (h : ((0 ≤ y0 ∧ y0 < 10) ∧ Qr (some (.inl (J 16 y0))) (J, L, W))) :
    NW sc d_X11_passageCrater D (26, [none, none], [.inl y0, .inr (.inl (some 16))], (J, L, W), c, sl) Qr Qx := by
  have o1 := h.1
  replace h := h.2
  refine nw_iald l_X11_passageCrater_26 27 rfl k_16 o1 (v := J 16 y0) rfl ?_
  refine nw_ireturn l_X11_passageCrater_27 rfl ?_
  exact h
theorem b_X11_passageFerry_0 {x1 : Int} (hD : 2 ≤ D) (hc : 1 ≤ c) (hs : 6 ≤ sl) (h : ((x1 < 0 → (∀ n2, W.2.2.2.2 ≤ n2 → Qx 4 (J, L, nw_top W n2))) ∧ (0 ≤ x1 → ((10 ≤ x1 → (∀ n4, W.2.2.2.2 ≤ n4 → Qx 4 (J, L, nw_top W n4))) ∧ (x1 < 10 → ((J 9 6 ≤ x1 → (∀ n6, W.2.2.2.2 ≤ n6 → Qx 4 (J, L, nw_top W n6))) ∧ (x1 < J 9 6 → NW sc d_X4_slotOf 1 (0, [some (.inr (.inl (some 9))), some (.inl x1)], [], (J, L, W), 0, 0) (fun v M9 => NW sc d_X11_passageFerry D (26, [none, none], nw_push v [.inr (.inl (some 15))], M9, (c - 1), (sl - 6)) Qr Qx) Qx))))))) :
    NW sc d_X11_passageFerry D (0, [some (.inr (.inl (some 0))), some (.inl x1)], [], (J, L, W), c, sl) Qr Qx := by
  refine nw_aload_n l_X11_passageFerry_0 1 rfl rfl ?_
  refine nw_iload_n l_X11_passageFerry_1 2 rfl rfl ?_
  refine nw_call 1 1 6 0 l_X11_passageFerry_2 rfl rfl g_X11_needPassage (Nat.lt_of_lt_of_le (by decide) hD) rfl (by omega) (by omega) (Or.inl ⟨_, rfl, k_0⟩) (ls' := [some (.inr (.inl (some 0))), some (.inl x1)]) rfl (st' := []) rfl 5 rfl (c' := (c - 1)) (by omega) (sl' := (sl - 6)) (by omega) ?_
  refine nw_aload_n l_X11_needPassage_0 1 rfl rfl ?_
  refine nw_getA l_X11_needPassage_1 4 rfl k_0 r_0_1 ?_
  refine nw_getA l_X11_needPassage_4 7 rfl k_2 r_2_1 ?_
  refine nw_iload_n l_X11_needPassage_7 8 rfl rfl ?_
  refine nw_call0 0 9 l_X11_needPassage_8 rfl rfl g_X4_keepsPassage (by decide) rfl (Or.inl ⟨_, rfl, k_9⟩) (ls' := [some (.inr (.inl (some 9))), some (.inl x1)]) rfl (st' := []) rfl 11 rfl ?_
  refine nw_iload_n l_X4_keepsPassage_0 1 rfl rfl ?_
  refine nw_if_lt l_X4_keepsPassage_1 4 rfl (fun q1 => ?_) (fun q1 => ?_)
  · replace h := h.1 q1
    refine nw_iconst (len := 0) l_X4_keepsPassage_22 23 rfl c_0 ?_
    refine nw_ireturnZ l_X4_keepsPassage_23 rfl (Or.inl rfl) ?_
    refine nw_if_ne l_X11_needPassage_11 14 rfl (fun q => absurd q (by decide)) (fun _ => ?_)
    refine nw_throw 4 l_X11_needPassage_14 ⟨rfl, rfl, rfl, by decide, rfl⟩ (by decide) (by decide) (fun n2 z2 => ?_)
    replace h := h n2 z2
    exact h
  · replace h := h.2 q1
    refine nw_iload_n l_X4_keepsPassage_4 5 rfl rfl ?_
    refine nw_bipush (len := 0) l_X4_keepsPassage_5 7 rfl c_10 ?_
    refine nw_ic_ge l_X4_keepsPassage_7 10 rfl (fun q3 => ?_) (fun q3 => ?_)
    · replace h := h.1 q3
      refine nw_iconst (len := 0) l_X4_keepsPassage_22 23 rfl c_0 ?_
      refine nw_ireturnZ l_X4_keepsPassage_23 rfl (Or.inl rfl) ?_
      refine nw_if_ne l_X11_needPassage_11 14 rfl (fun q => absurd q (by decide)) (fun _ => ?_)
      refine nw_throw 4 l_X11_needPassage_14 ⟨rfl, rfl, rfl, by decide, rfl⟩ (by decide) (by decide) (fun n4 z4 => ?_)
      replace h := h n4 z4
      exact h
    · replace h := h.2 q3
      refine nw_iload_n l_X4_keepsPassage_10 11 rfl rfl ?_
      refine nw_aload_n l_X4_keepsPassage_11 12 rfl rfl ?_
      refine nw_getI l_X4_keepsPassage_12 15 rfl k_9 (v := J 9 6) rfl ?_
      refine nw_ic_ge l_X4_keepsPassage_15 18 rfl (fun q5 => ?_) (fun q5 => ?_)
      · replace h := h.1 q5
        refine nw_iconst (len := 0) l_X4_keepsPassage_22 23 rfl c_0 ?_
        refine nw_ireturnZ l_X4_keepsPassage_23 rfl (Or.inl rfl) ?_
        refine nw_if_ne l_X11_needPassage_11 14 rfl (fun q => absurd q (by decide)) (fun _ => ?_)
        refine nw_throw 4 l_X11_needPassage_14 ⟨rfl, rfl, rfl, by decide, rfl⟩ (by decide) (by decide) (fun n6 z6 => ?_)
        replace h := h n6 z6
        exact h
      · replace h := h.2 q5
        refine nw_iconst (len := 0) l_X4_keepsPassage_18 19 rfl c_1 ?_
        refine nw_goto l_X4_keepsPassage_19 ?_
        refine nw_ireturnZ l_X4_keepsPassage_23 rfl (Or.inr rfl) ?_
        refine nw_if_ne l_X11_needPassage_11 14 rfl (fun _ => ?_) (fun q => absurd q (by decide))
        refine nw_return l_X11_needPassage_22 rfl ?_
        refine nw_aload_n l_X11_passageFerry_5 6 rfl rfl ?_
        refine nw_getA l_X11_passageFerry_6 9 rfl k_0 r_0_1 ?_
        refine nw_getA l_X11_passageFerry_9 12 rfl k_2 r_2_1 ?_
        refine nw_getA l_X11_passageFerry_12 15 rfl k_9 r_9_8 ?_
        refine nw_aload_n l_X11_passageFerry_15 16 rfl rfl ?_
        refine nw_getA l_X11_passageFerry_16 19 rfl k_0 r_0_1 ?_
        refine nw_getA l_X11_passageFerry_19 22 rfl k_2 r_2_1 ?_
        refine nw_iload_n l_X11_passageFerry_22 23 rfl rfl ?_
        refine nw_drop (ls' := [none, none]) ⟨True.intro, ⟨True.intro, True.intro⟩⟩ ?_
        refine nw_call0 1 9 l_X11_passageFerry_23 rfl rfl g_X4_slotOf (Nat.lt_of_lt_of_le (by decide) hD) rfl (Or.inl ⟨_, rfl, k_9⟩) (ls' := [some (.inr (.inl (some 9))), some (.inl x1)]) rfl (st' := [.inr (.inl (some 15))]) rfl 26 rfl ?_
        exact h
theorem b_X11_passageFerry_26 {y0 : Int} (h : ((0 ≤ y0 ∧ y0 < 10) ∧ Qr (some (.inl (J 15 y0))) (J, L, W))) :
    NW sc d_X11_passageFerry D (26, [none, none], [.inl y0, .inr (.inl (some 15))], (J, L, W), c, sl) Qr Qx := by
  have o1 := h.1
  replace h := h.2
  refine nw_iald l_X11_passageFerry_26 27 rfl k_15 o1 (v := J 15 y0) rfl ?_
  refine nw_ireturn l_X11_passageFerry_27 rfl ?_
  exact h
theorem b_X11_passageHour_0 {x1 : Int} (hD : 2 ≤ D) (hc : 1 ≤ c) (hs : 6 ≤ sl) (h : ((x1 < 0 → (∀ n2, W.2.2.2.2 ≤ n2 → Qx 4 (J, L, nw_top W n2))) ∧ (0 ≤ x1 → ((10 ≤ x1 → (∀ n4, W.2.2.2.2 ≤ n4 → Qx 4 (J, L, nw_top W n4))) ∧ (x1 < 10 → ((J 9 6 ≤ x1 → (∀ n6, W.2.2.2.2 ≤ n6 → Qx 4 (J, L, nw_top W n6))) ∧ (x1 < J 9 6 → NW sc d_X4_slotOf 1 (0, [some (.inr (.inl (some 9))), some (.inl x1)], [], (J, L, W), 0, 0) (fun v M9 => NW sc d_X11_passageHour D (26, [none, none], nw_push v [.inr (.inl (some 17))], M9, (c - 1), (sl - 6)) Qr Qx) Qx))))))) :
    NW sc d_X11_passageHour D (0, [some (.inr (.inl (some 0))), some (.inl x1)], [], (J, L, W), c, sl) Qr Qx := by
  refine nw_aload_n l_X11_passageHour_0 1 rfl rfl ?_
  refine nw_iload_n l_X11_passageHour_1 2 rfl rfl ?_
  refine nw_call 1 1 6 0 l_X11_passageHour_2 rfl rfl g_X11_needPassage (Nat.lt_of_lt_of_le (by decide) hD) rfl (by omega) (by omega) (Or.inl ⟨_, rfl, k_0⟩) (ls' := [some (.inr (.inl (some 0))), some (.inl x1)]) rfl (st' := []) rfl 5 rfl (c' := (c - 1)) (by omega) (sl' := (sl - 6)) (by omega) ?_
  refine nw_aload_n l_X11_needPassage_0 1 rfl rfl ?_
  refine nw_getA l_X11_needPassage_1 4 rfl k_0 r_0_1 ?_
  refine nw_getA l_X11_needPassage_4 7 rfl k_2 r_2_1 ?_
  refine nw_iload_n l_X11_needPassage_7 8 rfl rfl ?_
  refine nw_call0 0 9 l_X11_needPassage_8 rfl rfl g_X4_keepsPassage (by decide) rfl (Or.inl ⟨_, rfl, k_9⟩) (ls' := [some (.inr (.inl (some 9))), some (.inl x1)]) rfl (st' := []) rfl 11 rfl ?_
  refine nw_iload_n l_X4_keepsPassage_0 1 rfl rfl ?_
  refine nw_if_lt l_X4_keepsPassage_1 4 rfl (fun q1 => ?_) (fun q1 => ?_)
  · replace h := h.1 q1
    refine nw_iconst (len := 0) l_X4_keepsPassage_22 23 rfl c_0 ?_
    refine nw_ireturnZ l_X4_keepsPassage_23 rfl (Or.inl rfl) ?_
    refine nw_if_ne l_X11_needPassage_11 14 rfl (fun q => absurd q (by decide)) (fun _ => ?_)
    refine nw_throw 4 l_X11_needPassage_14 ⟨rfl, rfl, rfl, by decide, rfl⟩ (by decide) (by decide) (fun n2 z2 => ?_)
    replace h := h n2 z2
    exact h
  · replace h := h.2 q1
    refine nw_iload_n l_X4_keepsPassage_4 5 rfl rfl ?_
    refine nw_bipush (len := 0) l_X4_keepsPassage_5 7 rfl c_10 ?_
    refine nw_ic_ge l_X4_keepsPassage_7 10 rfl (fun q3 => ?_) (fun q3 => ?_)
    · replace h := h.1 q3
      refine nw_iconst (len := 0) l_X4_keepsPassage_22 23 rfl c_0 ?_
      refine nw_ireturnZ l_X4_keepsPassage_23 rfl (Or.inl rfl) ?_
      refine nw_if_ne l_X11_needPassage_11 14 rfl (fun q => absurd q (by decide)) (fun _ => ?_)
      refine nw_throw 4 l_X11_needPassage_14 ⟨rfl, rfl, rfl, by decide, rfl⟩ (by decide) (by decide) (fun n4 z4 => ?_)
      replace h := h n4 z4
      exact h
    · replace h := h.2 q3
      refine nw_iload_n l_X4_keepsPassage_10 11 rfl rfl ?_
      refine nw_aload_n l_X4_keepsPassage_11 12 rfl rfl ?_
      refine nw_getI l_X4_keepsPassage_12 15 rfl k_9 (v := J 9 6) rfl ?_
      refine nw_ic_ge l_X4_keepsPassage_15 18 rfl (fun q5 => ?_) (fun q5 => ?_)
      · replace h := h.1 q5
        refine nw_iconst (len := 0) l_X4_keepsPassage_22 23 rfl c_0 ?_
        refine nw_ireturnZ l_X4_keepsPassage_23 rfl (Or.inl rfl) ?_
        refine nw_if_ne l_X11_needPassage_11 14 rfl (fun q => absurd q (by decide)) (fun _ => ?_)
        refine nw_throw 4 l_X11_needPassage_14 ⟨rfl, rfl, rfl, by decide, rfl⟩ (by decide) (by decide) (fun n6 z6 => ?_)
        replace h := h n6 z6
        exact h
      · replace h := h.2 q5
        refine nw_iconst (len := 0) l_X4_keepsPassage_18 19 rfl c_1 ?_
        refine nw_goto l_X4_keepsPassage_19 ?_
        refine nw_ireturnZ l_X4_keepsPassage_23 rfl (Or.inr rfl) ?_
        refine nw_if_ne l_X11_needPassage_11 14 rfl (fun _ => ?_) (fun q => absurd q (by decide))
        refine nw_return l_X11_needPassage_22 rfl ?_
        refine nw_aload_n l_X11_passageHour_5 6 rfl rfl ?_
        refine nw_getA l_X11_passageHour_6 9 rfl k_0 r_0_1 ?_
        refine nw_getA l_X11_passageHour_9 12 rfl k_2 r_2_1 ?_
        refine nw_getA l_X11_passageHour_12 15 rfl k_9 r_9_10 ?_
        refine nw_aload_n l_X11_passageHour_15 16 rfl rfl ?_
        refine nw_getA l_X11_passageHour_16 19 rfl k_0 r_0_1 ?_
        refine nw_getA l_X11_passageHour_19 22 rfl k_2 r_2_1 ?_
        refine nw_iload_n l_X11_passageHour_22 23 rfl rfl ?_
        refine nw_drop (ls' := [none, none]) ⟨True.intro, ⟨True.intro, True.intro⟩⟩ ?_
        refine nw_call0 1 9 l_X11_passageHour_23 rfl rfl g_X4_slotOf (Nat.lt_of_lt_of_le (by decide) hD) rfl (Or.inl ⟨_, rfl, k_9⟩) (ls' := [some (.inr (.inl (some 9))), some (.inl x1)]) rfl (st' := [.inr (.inl (some 17))]) rfl 26 rfl ?_
        exact h
theorem b_X11_passageHour_26 {y0 : Int} (h : ((0 ≤ y0 ∧ y0 < 10) ∧ Qr (some (.inl (J 17 y0))) (J, L, W))) :
    NW sc d_X11_passageHour D (26, [none, none], [.inl y0, .inr (.inl (some 17))], (J, L, W), c, sl) Qr Qx := by
  have o1 := h.1
  replace h := h.2
  refine nw_iald l_X11_passageHour_26 27 rfl k_17 o1 (v := J 17 y0) rfl ?_
  refine nw_ireturn l_X11_passageHour_27 rfl ?_
  exact h
theorem b_X11_phaseOf_0 {x1 : Int} (hD : 2 ≤ D) (hc : 1 ≤ c) (hs : 6 ≤ sl) (h : NW sc d_X11_placeOfMoon 1 (0, [some (.inr (.inl (some 0))), some (.inl x1)], [], (J, L, W), 1, 6) (fun v M9 => NW sc d_X11_phaseOf D (15, [none, none], nw_push v [.inr (.inl (some 23))], M9, (c - 1), (sl - 6)) Qr Qx) Qx) :
    NW sc d_X11_phaseOf D (0, [some (.inr (.inl (some 0))), some (.inl x1)], [], (J, L, W), c, sl) Qr Qx := by
  refine nw_aload_n l_X11_phaseOf_0 1 rfl rfl ?_
  refine nw_getA l_X11_phaseOf_1 4 rfl k_0 r_0_1 ?_
  refine nw_getA l_X11_phaseOf_4 7 rfl k_2 r_2_2 ?_
  refine nw_getA l_X11_phaseOf_7 10 rfl k_18 r_18_6 ?_
  refine nw_aload_n l_X11_phaseOf_10 11 rfl rfl ?_
  refine nw_iload_n l_X11_phaseOf_11 12 rfl rfl ?_
  refine nw_drop (ls' := [none, none]) ⟨True.intro, ⟨True.intro, True.intro⟩⟩ ?_
  refine nw_call 1 1 6 0 l_X11_phaseOf_12 rfl rfl g_X11_placeOfMoon (Nat.lt_of_lt_of_le (by decide) hD) rfl (by omega) (by omega) (Or.inl ⟨_, rfl, k_0⟩) (ls' := [some (.inr (.inl (some 0))), some (.inl x1)]) rfl (st' := [.inr (.inl (some 23))]) rfl 15 rfl (c' := (c - 1)) (by omega) (sl' := (sl - 6)) (by omega) ?_
  exact h
theorem b_X11_phaseOf_15 {y0 : Int} (h : ((0 ≤ y0 ∧ y0 < 10) ∧ Qr (some (.inl (J 23 y0))) (J, L, W))) :
    NW sc d_X11_phaseOf D (15, [none, none], [.inl y0, .inr (.inl (some 23))], (J, L, W), c, sl) Qr Qx := by
  have o1 := h.1
  replace h := h.2
  refine nw_iald l_X11_phaseOf_15 16 rfl k_23 o1 (v := J 23 y0) rfl ?_
  refine nw_ireturn l_X11_phaseOf_16 rfl ?_
  exact h
theorem b_X11_placeOfMoon_0 {x1 : Int} (hD : 1 ≤ D) (h : NW sc d_X7_placeOf 0 (0, [some (.inr (.inl (some 18))), some (.inl x1), none], [], (J, L, W), 0, 0) (fun v M9 => NW sc d_X11_placeOfMoon D (11, [none, none], nw_push v [], M9, c, sl) Qr Qx) Qx) :
    NW sc d_X11_placeOfMoon D (0, [some (.inr (.inl (some 0))), some (.inl x1)], [], (J, L, W), c, sl) Qr Qx := by
  refine nw_aload_n l_X11_placeOfMoon_0 1 rfl rfl ?_
  refine nw_getA l_X11_placeOfMoon_1 4 rfl k_0 r_0_1 ?_
  refine nw_getA l_X11_placeOfMoon_4 7 rfl k_2 r_2_2 ?_
  refine nw_iload_n l_X11_placeOfMoon_7 8 rfl rfl ?_
  refine nw_drop (ls' := [none, none]) ⟨True.intro, ⟨True.intro, True.intro⟩⟩ ?_
  refine nw_call0 0 18 l_X11_placeOfMoon_8 rfl rfl g_X7_placeOf (Nat.lt_of_lt_of_le (by decide) hD) rfl (Or.inl ⟨_, rfl, k_18⟩) (ls' := [some (.inr (.inl (some 18))), some (.inl x1), none]) rfl (st' := []) rfl 11 rfl ?_
  exact h
theorem b_X11_placeOfMoon_11 {y0 : Int} (hD : 1 ≤ D) (hc : 1 ≤ c) (hs : 6 ≤ sl) (h : ((¬ y0 = (-1) → Qr (some (.inl y0)) (J, L, W)) ∧ (y0 = (-1) → (∀ n2, W.2.2.2.2 ≤ n2 → Qx 4 (J, L, nw_top W n2))))) :
    NW sc d_X11_placeOfMoon D (11, [none, none], [.inl y0], (J, L, W), c, sl) Qr Qx := by
  refine nw_call 0 1 6 0 l_X11_placeOfMoon_11 rfl rfl g_X11_present (Nat.lt_of_lt_of_le (by decide) hD) rfl (by omega) (by omega) True.intro (ls' := [some (.inl y0)]) rfl (st' := []) rfl 14 rfl (c' := (c - 1)) (by omega) (sl' := (sl - 6)) (by omega) ?_
  refine nw_iload_n l_X11_present_0 1 rfl rfl ?_
  refine nw_iconst (len := 0) l_X11_present_1 2 rfl c_n1 ?_
  refine nw_ic_ne l_X11_present_2 5 rfl (fun q1 => ?_) (fun q1 => ?_)
  · replace h := h.1 q1
    refine nw_iload_n l_X11_present_13 14 rfl rfl ?_
    refine nw_ireturn l_X11_present_14 rfl ?_
    refine nw_ireturn l_X11_placeOfMoon_14 rfl ?_
    exact h
  · replace h := h.2 q1
    refine nw_throw 4 l_X11_present_5 ⟨rfl, rfl, rfl, by decide, rfl⟩ (by decide) (by decide) (fun n2 z2 => ?_)
    replace h := h n2 z2
    exact h
theorem b_X11_refusalReason_0  (hD : 1 ≤ D) (hc : 1 ≤ c) (hs : 6 ≤ sl) (h : ((¬ J 1 0 = (-1) → Qr (some (.inl (J 1 0))) (J, L, W)) ∧ (J 1 0 = (-1) → (∀ n2, W.2.2.2.2 ≤ n2 → Qx 4 (J, L, nw_top W n2))))) :
    NW sc d_X11_refusalReason D (0, [some (.inr (.inl (some 0)))], [], (J, L, W), c, sl) Qr Qx := by
  refine nw_aload_n l_X11_refusalReason_0 1 rfl rfl ?_
  refine nw_getA l_X11_refusalReason_1 4 rfl k_0 r_0_0 ?_
  refine nw_getI l_X11_refusalReason_4 7 rfl k_1 (v := J 1 0) rfl ?_
  refine nw_call 0 1 6 0 l_X11_refusalReason_7 rfl rfl g_X11_present (Nat.lt_of_lt_of_le (by decide) hD) rfl (by omega) (by omega) True.intro (ls' := [some (.inl (J 1 0))]) rfl (st' := []) rfl 10 rfl (c' := (c - 1)) (by omega) (sl' := (sl - 6)) (by omega) ?_
  refine nw_iload_n l_X11_present_0 1 rfl rfl ?_
  refine nw_iconst (len := 0) l_X11_present_1 2 rfl c_n1 ?_
  refine nw_ic_ne l_X11_present_2 5 rfl (fun q1 => ?_) (fun q1 => ?_)
  · replace h := h.1 q1
    refine nw_iload_n l_X11_present_13 14 rfl rfl ?_
    refine nw_ireturn l_X11_present_14 rfl ?_
    refine nw_ireturn l_X11_refusalReason_10 rfl ?_
    exact h
  · replace h := h.2 q1
    refine nw_throw 4 l_X11_present_5 ⟨rfl, rfl, rfl, by decide, rfl⟩ (by decide) (by decide) (fun n2 z2 => ?_)
    replace h := h n2 z2
    exact h
theorem b_X11_removeChannel_0 {x1 : Int} (hD : 4 ≤ D) (h : NW sc d_X8_copyFrom 1 (0, [some (.inr (.inl (some 55))), some (.inr (.inl (some 2)))], [], (J, L, W), 0, 0) (fun v M9 => NW sc d_X11_removeChannel D (11, [some (.inr (.inl (some 0))), some (.inl x1)], nw_push v [], M9, c, sl) Qr Qx) Qx) :
    NW sc d_X11_removeChannel D (0, [some (.inr (.inl (some 0))), some (.inl x1)], [], (J, L, W), c, sl) Qr Qx := by
  refine nw_aload_n l_X11_removeChannel_0 1 rfl rfl ?_
  refine nw_getA l_X11_removeChannel_1 4 rfl k_0 r_0_5 ?_
  refine nw_aload_n l_X11_removeChannel_4 5 rfl rfl ?_
  refine nw_getA l_X11_removeChannel_5 8 rfl k_0 r_0_1 ?_
  refine nw_call0 1 55 l_X11_removeChannel_8 rfl rfl g_X8_copyFrom (Nat.lt_of_lt_of_le (by decide) hD) rfl (Or.inl ⟨_, rfl, k_55⟩) (ls' := [some (.inr (.inl (some 55))), some (.inr (.inl (some 2)))]) rfl (st' := []) rfl 11 rfl ?_
  exact h
theorem b_X11_removeChannel_11 {x1 : Int} (hD : 4 ≤ D) (h : NW sc d_X0_closeChannel 1 (0, [some (.inr (.inl (some 1))), some (.inl x1)], [], (J, L, W), 0, 0) (fun v M9 => NW sc d_X11_removeChannel D (20, [none, none], nw_push v [.inr (.inl (some 0))], M9, c, sl) Qr Qx) Qx) :
    NW sc d_X11_removeChannel D (11, [some (.inr (.inl (some 0))), some (.inl x1)], [], (J, L, W), c, sl) Qr Qx := by
  refine nw_aload_n l_X11_removeChannel_11 12 rfl rfl ?_
  refine nw_aload_n l_X11_removeChannel_12 13 rfl rfl ?_
  refine nw_getA l_X11_removeChannel_13 16 rfl k_0 r_0_0 ?_
  refine nw_iload_n l_X11_removeChannel_16 17 rfl rfl ?_
  refine nw_drop (ls' := [none, none]) ⟨True.intro, ⟨True.intro, True.intro⟩⟩ ?_
  refine nw_call0 1 1 l_X11_removeChannel_17 rfl rfl g_X0_closeChannel (Nat.lt_of_lt_of_le (by decide) hD) rfl (Or.inl ⟨_, rfl, k_1⟩) (ls' := [some (.inr (.inl (some 1))), some (.inl x1)]) rfl (st' := [.inr (.inl (some 0))]) rfl 20 rfl ?_
  exact h
theorem b_X11_removeChannel_20 {y0 : Int} (hD : 4 ≤ D) (hc : 1 ≤ c) (hs : 6 ≤ sl) (h : NW sc d_X11_settle 3 (0, [some (.inr (.inl (some 0))), some (.inl y0)], [], (J, L, W), 1, 6) (fun v M9 => NW sc d_X11_removeChannel D (23, [none, none], nw_push v [], M9, (c - 1), (sl - 6)) Qr Qx) Qx) :
    NW sc d_X11_removeChannel D (20, [none, none], [.inl y0, .inr (.inl (some 0))], (J, L, W), c, sl) Qr Qx := by
  refine nw_call 3 1 6 0 l_X11_removeChannel_20 rfl rfl g_X11_settle (Nat.lt_of_lt_of_le (by decide) hD) rfl (by omega) (by omega) (Or.inl ⟨_, rfl, k_0⟩) (ls' := [some (.inr (.inl (some 0))), some (.inl y0)]) rfl (st' := []) rfl 23 rfl (c' := (c - 1)) (by omega) (sl' := (sl - 6)) (by omega) ?_
  exact h
theorem b_X11_removeChannel_23 {y0 : Int} (h : Qr (some (.inl y0)) (J, L, W)) :
    NW sc d_X11_removeChannel D (23, [none, none], [.inl y0], (J, L, W), c, sl) Qr Qx := by
  refine nw_ireturn l_X11_removeChannel_23 rfl ?_
  exact h
theorem b_X11_rescue_0 {x1 : Int} (hD : 4 ≤ D) (h : NW sc d_X8_copyFrom 1 (0, [some (.inr (.inl (some 55))), some (.inr (.inl (some 2)))], [], (J, L, W), 0, 0) (fun v M9 => NW sc d_X11_rescue D (11, [some (.inr (.inl (some 0))), some (.inl x1)], nw_push v [], M9, c, sl) Qr Qx) Qx) :
    NW sc d_X11_rescue D (0, [some (.inr (.inl (some 0))), some (.inl x1)], [], (J, L, W), c, sl) Qr Qx := by
  refine nw_aload_n l_X11_rescue_0 1 rfl rfl ?_
  refine nw_getA l_X11_rescue_1 4 rfl k_0 r_0_5 ?_
  refine nw_aload_n l_X11_rescue_4 5 rfl rfl ?_
  refine nw_getA l_X11_rescue_5 8 rfl k_0 r_0_1 ?_
  refine nw_call0 1 55 l_X11_rescue_8 rfl rfl g_X8_copyFrom (Nat.lt_of_lt_of_le (by decide) hD) rfl (Or.inl ⟨_, rfl, k_55⟩) (ls' := [some (.inr (.inl (some 55))), some (.inr (.inl (some 2)))]) rfl (st' := []) rfl 11 rfl ?_
  exact h
theorem b_X11_rescue_11 {x1 : Int} (hD : 4 ≤ D) (h : NW sc d_X0_pullFree 3 (0, [some (.inr (.inl (some 1))), some (.inl x1), none, none], [], (J, L, W), 0, 0) (fun v M9 => NW sc d_X11_rescue D (20, [none, none], nw_push v [.inr (.inl (some 0))], M9, c, sl) Qr Qx) Qx) :
    NW sc d_X11_rescue D (11, [some (.inr (.inl (some 0))), some (.inl x1)], [], (J, L, W), c, sl) Qr Qx := by
  refine nw_aload_n l_X11_rescue_11 12 rfl rfl ?_
  refine nw_aload_n l_X11_rescue_12 13 rfl rfl ?_
  refine nw_getA l_X11_rescue_13 16 rfl k_0 r_0_0 ?_
  refine nw_iload_n l_X11_rescue_16 17 rfl rfl ?_
  refine nw_drop (ls' := [none, none]) ⟨True.intro, ⟨True.intro, True.intro⟩⟩ ?_
  refine nw_call0 3 1 l_X11_rescue_17 rfl rfl g_X0_pullFree (Nat.lt_of_lt_of_le (by decide) hD) rfl (Or.inl ⟨_, rfl, k_1⟩) (ls' := [some (.inr (.inl (some 1))), some (.inl x1), none, none]) rfl (st' := [.inr (.inl (some 0))]) rfl 20 rfl ?_
  exact h
theorem b_X11_rescue_20 {y0 : Int} (hD : 4 ≤ D) (hc : 1 ≤ c) (hs : 6 ≤ sl) (h : NW sc d_X11_settle 3 (0, [some (.inr (.inl (some 0))), some (.inl y0)], [], (J, L, W), 1, 6) (fun v M9 => NW sc d_X11_rescue D (23, [none, none], nw_push v [], M9, (c - 1), (sl - 6)) Qr Qx) Qx) :
    NW sc d_X11_rescue D (20, [none, none], [.inl y0, .inr (.inl (some 0))], (J, L, W), c, sl) Qr Qx := by
  refine nw_call 3 1 6 0 l_X11_rescue_20 rfl rfl g_X11_settle (Nat.lt_of_lt_of_le (by decide) hD) rfl (by omega) (by omega) (Or.inl ⟨_, rfl, k_0⟩) (ls' := [some (.inr (.inl (some 0))), some (.inl y0)]) rfl (st' := []) rfl 23 rfl (c' := (c - 1)) (by omega) (sl' := (sl - 6)) (by omega) ?_
  exact h
theorem b_X11_rescue_23 {y0 : Int} (h : Qr (some (.inl y0)) (J, L, W)) :
    NW sc d_X11_rescue D (23, [none, none], [.inl y0], (J, L, W), c, sl) Qr Qx := by
  refine nw_ireturn l_X11_rescue_23 rfl ?_
  exact h
theorem b_X11_restore_0  (hD : 2 ≤ D) (hc : 1 ≤ c) (hs : 6 ≤ sl) (h : ((¬ J 0 10 = 0 → NW sc d_X8_copyFrom 1 (0, [some (.inr (.inl (some 2))), some (.inr (.inl (some 79)))], [], (J, L, W), 0, 0) (fun v M9 => NW sc d_X11_restore D (26, [some (.inr (.inl (some 0)))], nw_push v [], M9, c, sl) Qr Qx) Qx) ∧ (J 0 10 = 0 → (∀ n2, W.2.2.2.2 ≤ n2 → Qx 2 (J, L, nw_top W n2))))) :
    NW sc d_X11_restore D (0, [some (.inr (.inl (some 0)))], [], (J, L, W), c, sl) Qr Qx := by
  refine nw_aload_n l_X11_restore_0 1 rfl rfl ?_
  refine nw_getZ l_X11_restore_1 4 rfl k_0 (v := J 0 10) rfl ?_
  refine nw_if_ne l_X11_restore_4 7 rfl (fun q1 => ?_) (fun q1 => ?_)
  · replace h := h.1 q1
    refine nw_aload_n l_X11_restore_15 16 rfl rfl ?_
    refine nw_getA l_X11_restore_16 19 rfl k_0 r_0_1 ?_
    refine nw_aload_n l_X11_restore_19 20 rfl rfl ?_
    refine nw_getA l_X11_restore_20 23 rfl k_0 r_0_6 ?_
    refine nw_call0 1 2 l_X11_restore_23 rfl rfl g_X8_copyFrom (Nat.lt_of_lt_of_le (by decide) hD) rfl (Or.inl ⟨_, rfl, k_2⟩) (ls' := [some (.inr (.inl (some 2))), some (.inr (.inl (some 79)))]) rfl (st' := []) rfl 26 rfl ?_
    exact h
  · replace h := h.2 q1
    refine nw_throw 2 l_X11_restore_7 ⟨rfl, rfl, rfl, by decide, rfl⟩ (by omega) (by omega) (fun n2 z2 => ?_)
    replace h := h n2 z2
    exact h
theorem b_X11_restore_26  (h : Qr (some (.inl (J 18 0))) (nw_u J 103 0 0, L, W)) :
    NW sc d_X11_restore D (26, [some (.inr (.inl (some 0)))], [], (J, L, W), c, sl) Qr Qx := by
  refine nw_aload_n l_X11_restore_26 27 rfl rfl ?_
  refine nw_getA l_X11_restore_27 30 rfl k_0 r_0_7 ?_
  refine nw_iconst (len := 0) l_X11_restore_30 31 rfl c_0 ?_
  refine nw_putI l_X11_restore_31 34 rfl k_103 ?_
  refine nw_aload_n l_X11_restore_34 35 rfl rfl ?_
  refine nw_getA l_X11_restore_35 38 rfl k_0 r_0_1 ?_
  refine nw_getA l_X11_restore_38 41 rfl k_2 r_2_2 ?_
  refine nw_getI l_X11_restore_41 44 rfl k_18 (v := J 18 0) (show nw_u J 103 0 0 18 0 = J 18 0 from (nw_uN (a := 103) (b := 18) (by decide))) ?_
  refine nw_ireturn l_X11_restore_44 rfl ?_
  exact h
theorem b_X11_run_0  (hD : 16 ≤ D) (h : NW sc d_X1_parse 15 (0, [some (.inr (.inl (some 297))), none, none], [], (J, L, W), 0, 0) (fun v M9 => NW sc d_X11_run D (7, [some (.inr (.inl (some 0))), none, none], nw_push v [], M9, c, sl) Qr Qx) Qx) :
    NW sc d_X11_run D (0, [some (.inr (.inl (some 0))), none, none], [], (J, L, W), c, sl) Qr Qx := by
  refine nw_aload_n l_X11_run_0 1 rfl rfl ?_
  refine nw_getA l_X11_run_1 4 rfl k_0 r_0_8 ?_
  refine nw_call0 15 297 l_X11_run_4 rfl rfl g_X1_parse (Nat.lt_of_lt_of_le (by decide) hD) rfl (Or.inl ⟨_, rfl, k_297⟩) (ls' := [some (.inr (.inl (some 297))), none, none]) rfl (st' := []) rfl 7 rfl ?_
  exact h
theorem b_X11_run_7 {y0 : Int} (hD : 16 ≤ D) (hc : 1 ≤ c) (hs : 6 ≤ sl) (h : ((y0 = (-1) → NW sc d_X8_copyFrom 1 (0, [some (.inr (.inl (some 55))), some (.inr (.inl (some 2)))], [], (nw_u J 297 0 0, L, W), 0, 0) (fun v M9 => NW sc d_X11_run D (45, [some (.inr (.inl (some 0))), none, none], nw_push v [], M9, c, sl) Qr Qx) Qx) ∧ (¬ y0 = (-1) → (∀ n2, W.2.2.2.2 ≤ n2 → Qx 1 (nw_u (nw_u J 297 0 0) 0 11 y0, L, nw_top W n2))))) :
    NW sc d_X11_run D (7, [some (.inr (.inl (some 0))), none, none], [.inl y0], (J, L, W), c, sl) Qr Qx := by
  refine nw_istore_n l_X11_run_7 8 rfl rfl (ls' := [some (.inr (.inl (some 0))), some (.inl y0), none]) rfl ?_
  refine nw_aload_n l_X11_run_8 9 rfl rfl ?_
  refine nw_getA l_X11_run_9 12 rfl k_0 r_0_8 ?_
  refine nw_iconst (len := 0) l_X11_run_12 13 rfl c_0 ?_
  refine nw_putI l_X11_run_13 16 rfl k_297 ?_
  refine nw_iload_n l_X11_run_16 17 rfl rfl ?_
  refine nw_iconst (len := 0) l_X11_run_17 18 rfl c_n1 ?_
  refine nw_ic_eq l_X11_run_18 21 rfl (fun q1 => ?_) (fun q1 => ?_)
  · replace h := h.1 q1
    refine nw_aload_n l_X11_run_34 35 rfl rfl ?_
    refine nw_getA l_X11_run_35 38 rfl k_0 r_0_5 ?_
    refine nw_aload_n l_X11_run_38 39 rfl rfl ?_
    refine nw_getA l_X11_run_39 42 rfl k_0 r_0_1 ?_
    refine nw_drop (ls' := [some (.inr (.inl (some 0))), none, none]) ⟨rfl, ⟨True.intro, ⟨True.intro, True.intro⟩⟩⟩ ?_
    refine nw_call0 1 55 l_X11_run_42 rfl rfl g_X8_copyFrom (Nat.lt_of_lt_of_le (by decide) hD) rfl (Or.inl ⟨_, rfl, k_55⟩) (ls' := [some (.inr (.inl (some 55))), some (.inr (.inl (some 2)))]) rfl (st' := []) rfl 45 rfl ?_
    exact h
  · replace h := h.2 q1
    refine nw_aload_n l_X11_run_21 22 rfl rfl ?_
    refine nw_iload_n l_X11_run_22 23 rfl rfl ?_
    refine nw_putI l_X11_run_23 26 rfl k_0 ?_
    refine nw_throw 1 l_X11_run_26 ⟨rfl, rfl, rfl, by decide, rfl⟩ (by omega) (by omega) (fun n2 z2 => ?_)
    replace h := h n2 z2
    exact h
theorem b_X11_run_45  (h : NW sc d_X11_run D (47, [some (.inr (.inl (some 0))), none, some (.inl 0)], [], (J, L, W), c, sl) Qr Qx) :
    NW sc d_X11_run D (45, [some (.inr (.inl (some 0))), none, none], [], (J, L, W), c, sl) Qr Qx := by
  refine nw_iconst (len := 0) l_X11_run_45 46 rfl c_0 ?_
  refine nw_istore_n l_X11_run_46 47 rfl rfl (ls' := [some (.inr (.inl (some 0))), none, some (.inl 0)]) rfl ?_
  exact h
theorem b_X11_run_47 {x2 : Int} (hD : 16 ≤ D) (h : ((J 297 1 ≤ x2 → NW sc d_X5_remember 2 (0, [some (.inr (.inl (some 103))), some (.inr (.inl (some 55)))], [], (J, L, W), 0, 0) (fun v M9 => NW sc d_X11_run D (107, [some (.inr (.inl (some 0))), none, none], nw_push v [], M9, c, sl) Qr Qx) Qx) ∧ (x2 < J 297 1 → NW sc d_X11_carryOut 15 (0, [some (.inr (.inl (some 0))), some (.inl x2), none, none, none, none], [], (J, L, W), 0, 0) (fun v M9 => NW sc d_X11_run D (63, [some (.inr (.inl (some 0))), none, some (.inl x2)], nw_push v [], M9, c, sl) Qr Qx) Qx))) :
    NW sc d_X11_run D (47, [some (.inr (.inl (some 0))), none, some (.inl x2)], [], (J, L, W), c, sl) Qr Qx := by
  refine nw_iload_n l_X11_run_47 48 rfl rfl ?_
  refine nw_aload_n l_X11_run_48 49 rfl rfl ?_
  refine nw_getA l_X11_run_49 52 rfl k_0 r_0_8 ?_
  refine nw_getI l_X11_run_52 55 rfl k_297 (v := J 297 1) rfl ?_
  refine nw_ic_ge l_X11_run_55 58 rfl (fun q1 => ?_) (fun q1 => ?_)
  · replace h := h.1 q1
    refine nw_aload_n l_X11_run_96 97 rfl rfl ?_
    refine nw_getA l_X11_run_97 100 rfl k_0 r_0_7 ?_
    refine nw_aload_n l_X11_run_100 101 rfl rfl ?_
    refine nw_getA l_X11_run_101 104 rfl k_0 r_0_5 ?_
    refine nw_drop (ls' := [some (.inr (.inl (some 0))), none, none]) ⟨rfl, ⟨True.intro, ⟨True.intro, True.intro⟩⟩⟩ ?_
    refine nw_call0 2 103 l_X11_run_104 rfl rfl g_X5_remember (Nat.lt_of_lt_of_le (by decide) hD) rfl (Or.inl ⟨_, rfl, k_103⟩) (ls' := [some (.inr (.inl (some 103))), some (.inr (.inl (some 55)))]) rfl (st' := []) rfl 107 rfl ?_
    exact h
  · replace h := h.2 q1
    refine nw_aload_n l_X11_run_58 59 rfl rfl ?_
    refine nw_iload_n l_X11_run_59 60 rfl rfl ?_
    refine nw_call0 15 0 l_X11_run_60 rfl rfl g_X11_carryOut (Nat.lt_of_lt_of_le (by decide) hD) rfl (Or.inl ⟨_, rfl, k_0⟩) (ls' := [some (.inr (.inl (some 0))), some (.inl x2), none, none, none, none]) rfl (st' := []) rfl 63 rfl ?_
    exact h
theorem b_X11_run_107  (h : Qr (some (.inl (J 297 1))) (J, L, W)) :
    NW sc d_X11_run D (107, [some (.inr (.inl (some 0))), none, none], [], (J, L, W), c, sl) Qr Qx := by
  refine nw_aload_n l_X11_run_107 108 rfl rfl ?_
  refine nw_getA l_X11_run_108 111 rfl k_0 r_0_8 ?_
  refine nw_getI l_X11_run_111 114 rfl k_297 (v := J 297 1) rfl ?_
  refine nw_ireturn l_X11_run_114 rfl ?_
  exact h
theorem b_X11_run_63 {x2 : Int} {y0 : Int} (hD : 16 ≤ D) (h : ((0 ≤ y0 → ((-2147483648 ≤ x2 + 1 ∧ x2 + 1 < 2147483648) ∧ NW sc d_X11_run D (47, [some (.inr (.inl (some 0))), none, some (.inl (x2 + 1))], [], (J, L, W), c, sl) Qr Qx)) ∧ (y0 < 0 → NW sc d_X8_copyFrom 1 (0, [some (.inr (.inl (some 2))), some (.inr (.inl (some 55)))], [], (J, L, W), 0, 0) (fun v M9 => NW sc d_X11_run D (77, [some (.inr (.inl (some 0))), none, some (.inl x2)], nw_push v [], M9, c, sl) Qr Qx) Qx))) :
    NW sc d_X11_run D (63, [some (.inr (.inl (some 0))), none, some (.inl x2)], [.inl y0], (J, L, W), c, sl) Qr Qx := by
  refine nw_if_ge l_X11_run_63 66 rfl (fun q1 => ?_) (fun q1 => ?_)
  · replace h := h.1 q1
    have o2 := h.1
    replace h := h.2
    refine nw_iinc l_X11_run_90 93 rfl 1 (by decide) rfl rfl o2 (ls' := [some (.inr (.inl (some 0))), none, some (.inl (x2 + 1))]) rfl ?_
    refine nw_goto l_X11_run_93 ?_
    exact h
  · replace h := h.2 q1
    refine nw_aload_n l_X11_run_66 67 rfl rfl ?_
    refine nw_getA l_X11_run_67 70 rfl k_0 r_0_1 ?_
    refine nw_aload_n l_X11_run_70 71 rfl rfl ?_
    refine nw_getA l_X11_run_71 74 rfl k_0 r_0_5 ?_
    refine nw_call0 1 2 l_X11_run_74 rfl rfl g_X8_copyFrom (Nat.lt_of_lt_of_le (by decide) hD) rfl (Or.inl ⟨_, rfl, k_2⟩) (ls' := [some (.inr (.inl (some 2))), some (.inr (.inl (some 55)))]) rfl (st' := []) rfl 77 rfl ?_
    exact h
theorem b_X11_run_77 {x2 : Int} (hc : 1 ≤ c) (hs : 6 ≤ sl) (h : (∀ n1, W.2.2.2.2 ≤ n1 → Qx 2 (nw_u J 0 12 x2, L, nw_top W n1))) :
    NW sc d_X11_run D (77, [some (.inr (.inl (some 0))), none, some (.inl x2)], [], (J, L, W), c, sl) Qr Qx := by
  refine nw_aload_n l_X11_run_77 78 rfl rfl ?_
  refine nw_iload_n l_X11_run_78 79 rfl rfl ?_
  refine nw_putI l_X11_run_79 82 rfl k_0 ?_
  refine nw_throw 2 l_X11_run_82 ⟨rfl, rfl, rfl, by decide, rfl⟩ (by omega) (by omega) (fun n1 z1 => ?_)
  replace h := h n1 z1
  exact h
theorem b_X11_sail_0 {x1 : Int} {x2 : Int} (hD : 4 ≤ D) (h : NW sc d_X8_copyFrom 1 (0, [some (.inr (.inl (some 55))), some (.inr (.inl (some 2)))], [], (J, L, W), 0, 0) (fun v M9 => NW sc d_X11_sail D (11, [some (.inr (.inl (some 0))), some (.inl x1), some (.inl x2)], nw_push v [], M9, c, sl) Qr Qx) Qx) :
    NW sc d_X11_sail D (0, [some (.inr (.inl (some 0))), some (.inl x1), some (.inl x2)], [], (J, L, W), c, sl) Qr Qx := by
  refine nw_aload_n l_X11_sail_0 1 rfl rfl ?_
  refine nw_getA l_X11_sail_1 4 rfl k_0 r_0_5 ?_
  refine nw_aload_n l_X11_sail_4 5 rfl rfl ?_
  refine nw_getA l_X11_sail_5 8 rfl k_0 r_0_1 ?_
  refine nw_call0 1 55 l_X11_sail_8 rfl rfl g_X8_copyFrom (Nat.lt_of_lt_of_le (by decide) hD) rfl (Or.inl ⟨_, rfl, k_55⟩) (ls' := [some (.inr (.inl (some 55))), some (.inr (.inl (some 2)))]) rfl (st' := []) rfl 11 rfl ?_
  exact h
theorem b_X11_sail_11 {x1 : Int} {x2 : Int} (hD : 4 ≤ D) (h : NW sc d_X0_beginPassage 3 (0, [some (.inr (.inl (some 1))), some (.inl x1), some (.inl x2), none], [], (J, L, W), 0, 0) (fun v M9 => NW sc d_X11_sail D (21, [none, none, none], nw_push v [.inr (.inl (some 0))], M9, c, sl) Qr Qx) Qx) :
    NW sc d_X11_sail D (11, [some (.inr (.inl (some 0))), some (.inl x1), some (.inl x2)], [], (J, L, W), c, sl) Qr Qx := by
  refine nw_aload_n l_X11_sail_11 12 rfl rfl ?_
  refine nw_aload_n l_X11_sail_12 13 rfl rfl ?_
  refine nw_getA l_X11_sail_13 16 rfl k_0 r_0_0 ?_
  refine nw_iload_n l_X11_sail_16 17 rfl rfl ?_
  refine nw_iload_n l_X11_sail_17 18 rfl rfl ?_
  refine nw_drop (ls' := [none, none, none]) ⟨True.intro, ⟨True.intro, ⟨True.intro, True.intro⟩⟩⟩ ?_
  refine nw_call0 3 1 l_X11_sail_18 rfl rfl g_X0_beginPassage (Nat.lt_of_lt_of_le (by decide) hD) rfl (Or.inl ⟨_, rfl, k_1⟩) (ls' := [some (.inr (.inl (some 1))), some (.inl x1), some (.inl x2), none]) rfl (st' := [.inr (.inl (some 0))]) rfl 21 rfl ?_
  exact h
theorem b_X11_sail_21 {y0 : Int} (hD : 4 ≤ D) (hc : 1 ≤ c) (hs : 6 ≤ sl) (h : NW sc d_X11_settle 3 (0, [some (.inr (.inl (some 0))), some (.inl y0)], [], (J, L, W), 1, 6) (fun v M9 => NW sc d_X11_sail D (24, [none, none, none], nw_push v [], M9, (c - 1), (sl - 6)) Qr Qx) Qx) :
    NW sc d_X11_sail D (21, [none, none, none], [.inl y0, .inr (.inl (some 0))], (J, L, W), c, sl) Qr Qx := by
  refine nw_call 3 1 6 0 l_X11_sail_21 rfl rfl g_X11_settle (Nat.lt_of_lt_of_le (by decide) hD) rfl (by omega) (by omega) (Or.inl ⟨_, rfl, k_0⟩) (ls' := [some (.inr (.inl (some 0))), some (.inl y0)]) rfl (st' := []) rfl 24 rfl (c' := (c - 1)) (by omega) (sl' := (sl - 6)) (by omega) ?_
  exact h
theorem b_X11_sail_24 {y0 : Int} (h : Qr (some (.inl y0)) (J, L, W)) :
    NW sc d_X11_sail D (24, [none, none, none], [.inl y0], (J, L, W), c, sl) Qr Qx := by
  refine nw_ireturn l_X11_sail_24 rfl ?_
  exact h
theorem b_X11_save_0  (hD : 2 ≤ D) (h : NW sc d_X8_copyFrom 1 (0, [some (.inr (.inl (some 79))), some (.inr (.inl (some 2)))], [], (J, L, W), 0, 0) (fun v M9 => NW sc d_X11_save D (11, [some (.inr (.inl (some 0)))], nw_push v [], M9, c, sl) Qr Qx) Qx) :
    NW sc d_X11_save D (0, [some (.inr (.inl (some 0)))], [], (J, L, W), c, sl) Qr Qx := by
  refine nw_aload_n l_X11_save_0 1 rfl rfl ?_
  refine nw_getA l_X11_save_1 4 rfl k_0 r_0_6 ?_
  refine nw_aload_n l_X11_save_4 5 rfl rfl ?_
  refine nw_getA l_X11_save_5 8 rfl k_0 r_0_1 ?_
  refine nw_call0 1 79 l_X11_save_8 rfl rfl g_X8_copyFrom (Nat.lt_of_lt_of_le (by decide) hD) rfl (Or.inl ⟨_, rfl, k_79⟩) (ls' := [some (.inr (.inl (some 79))), some (.inr (.inl (some 2)))]) rfl (st' := []) rfl 11 rfl ?_
  exact h
theorem b_X11_save_11  (h : Qr (some (.inl (J 18 0))) (nw_u J 0 10 1, L, W)) :
    NW sc d_X11_save D (11, [some (.inr (.inl (some 0)))], [], (J, L, W), c, sl) Qr Qx := by
  refine nw_aload_n l_X11_save_11 12 rfl rfl ?_
  refine nw_iconst (len := 0) l_X11_save_12 13 rfl c_1 ?_
  refine nw_putZ l_X11_save_13 16 rfl k_0 (by decide) ?_
  refine nw_aload_n l_X11_save_16 17 rfl rfl ?_
  refine nw_getA l_X11_save_17 20 rfl k_0 r_0_1 ?_
  refine nw_getA l_X11_save_20 23 rfl k_2 r_2_2 ?_
  refine nw_getI l_X11_save_23 26 rfl k_18 (v := J 18 0) (show nw_u J 0 10 1 18 0 = J 18 0 from (nw_uN (a := 0) (b := 18) (by decide))) ?_
  refine nw_ireturn l_X11_save_26 rfl ?_
  exact h
theorem b_X11_settle_0 {x1 : Int} (hD : 3 ≤ D) (hc : 1 ≤ c) (hs : 6 ≤ sl) (h : ((x1 = (-5) → (∀ n2, W.2.2.2.2 ≤ n2 → Qx 4 (J, L, nw_top W n2))) ∧ (¬ x1 = (-5) → ((x1 = (-4) → (∀ n4, W.2.2.2.2 ≤ n4 → Qx 3 (J, L, nw_top W n4))) ∧ (¬ x1 = (-4) → ((x1 = (-3) → (∀ n6, W.2.2.2.2 ≤ n6 → Qx 2 (J, L, nw_top W n6))) ∧ (¬ x1 = (-3) → ((x1 = (-2) → (∀ n8, W.2.2.2.2 ≤ n8 → Qx 1 (J, L, nw_top W n8))) ∧ (¬ x1 = (-2) → ((x1 = (-1) → (∀ n10, W.2.2.2.2 ≤ n10 → Qx 0 (J, L, nw_top W n10))) ∧ (¬ x1 = (-1) → NW sc d_X5_remember 2 (0, [some (.inr (.inl (some 103))), some (.inr (.inl (some 55)))], [], (J, L, W), 0, 0) (fun v M9 => NW sc d_X11_settle D (87, [none, some (.inl x1)], nw_push v [], M9, c, sl) Qr Qx) Qx))))))))))) :
    NW sc d_X11_settle D (0, [some (.inr (.inl (some 0))), some (.inl x1)], [], (J, L, W), c, sl) Qr Qx := by
  refine nw_iload_n l_X11_settle_0 1 rfl rfl ?_
  by_cases q1 : x1 = (-5)
  · refine nw_tsIn l_X11_settle_1 68 ⟨by omega, by omega, by rw [q1]; rfl⟩ ?_
    replace h := h.1 q1
    refine nw_throw 4 l_X11_settle_68 ⟨rfl, rfl, rfl, by decide, rfl⟩ (by omega) (by omega) (fun n2 z2 => ?_)
    replace h := h n2 z2
    exact h
  replace h := h.2 q1
  by_cases q3 : x1 = (-4)
  · refine nw_tsIn l_X11_settle_1 60 ⟨by omega, by omega, by rw [q3]; rfl⟩ ?_
    replace h := h.1 q3
    refine nw_throw 3 l_X11_settle_60 ⟨rfl, rfl, rfl, by decide, rfl⟩ (by omega) (by omega) (fun n4 z4 => ?_)
    replace h := h n4 z4
    exact h
  replace h := h.2 q3
  by_cases q5 : x1 = (-3)
  · refine nw_tsIn l_X11_settle_1 52 ⟨by omega, by omega, by rw [q5]; rfl⟩ ?_
    replace h := h.1 q5
    refine nw_throw 2 l_X11_settle_52 ⟨rfl, rfl, rfl, by decide, rfl⟩ (by omega) (by omega) (fun n6 z6 => ?_)
    replace h := h n6 z6
    exact h
  replace h := h.2 q5
  by_cases q7 : x1 = (-2)
  · refine nw_tsIn l_X11_settle_1 44 ⟨by omega, by omega, by rw [q7]; rfl⟩ ?_
    replace h := h.1 q7
    refine nw_throw 1 l_X11_settle_44 ⟨rfl, rfl, rfl, by decide, rfl⟩ (by omega) (by omega) (fun n8 z8 => ?_)
    replace h := h n8 z8
    exact h
  replace h := h.2 q7
  by_cases q9 : x1 = (-1)
  · refine nw_tsIn l_X11_settle_1 36 ⟨by omega, by omega, by rw [q9]; rfl⟩ ?_
    replace h := h.1 q9
    refine nw_throw 0 l_X11_settle_36 ⟨rfl, rfl, rfl, by decide, rfl⟩ (by omega) (by omega) (fun n10 z10 => ?_)
    replace h := h n10 z10
    exact h
  replace h := h.2 q9
  refine nw_tsOut l_X11_settle_1 (by omega) ?_
  refine nw_aload_n l_X11_settle_76 77 rfl rfl ?_
  refine nw_getA l_X11_settle_77 80 rfl k_0 r_0_7 ?_
  refine nw_aload_n l_X11_settle_80 81 rfl rfl ?_
  refine nw_getA l_X11_settle_81 84 rfl k_0 r_0_5 ?_
  refine nw_drop (ls' := [none, some (.inl x1)]) ⟨True.intro, ⟨rfl, True.intro⟩⟩ ?_
  refine nw_call0 2 103 l_X11_settle_84 rfl rfl g_X5_remember (Nat.lt_of_lt_of_le (by decide) hD) rfl (Or.inl ⟨_, rfl, k_103⟩) (ls' := [some (.inr (.inl (some 103))), some (.inr (.inl (some 55)))]) rfl (st' := []) rfl 87 rfl ?_
  exact h
theorem b_X11_settle_87 {x1 : Int} (h : Qr (some (.inl x1)) (J, L, W)) :
    NW sc d_X11_settle D (87, [none, some (.inl x1)], [], (J, L, W), c, sl) Qr Qx := by
  refine nw_iload_n l_X11_settle_87 88 rfl rfl ?_
  refine nw_ireturn l_X11_settle_88 rfl ?_
  exact h
theorem b_X11_shoreOf_0 {x1 : Int} (hD : 2 ≤ D) (hc : 1 ≤ c) (hs : 6 ≤ sl) (h : NW sc d_X11_placeOfMoon 1 (0, [some (.inr (.inl (some 0))), some (.inl x1)], [], (J, L, W), 1, 6) (fun v M9 => NW sc d_X11_shoreOf D (15, [none, none, none], nw_push v [.inr (.inl (some 25))], M9, (c - 1), (sl - 6)) Qr Qx) Qx) :
    NW sc d_X11_shoreOf D (0, [some (.inr (.inl (some 0))), some (.inl x1), none], [], (J, L, W), c, sl) Qr Qx := by
  refine nw_aload_n l_X11_shoreOf_0 1 rfl rfl ?_
  refine nw_getA l_X11_shoreOf_1 4 rfl k_0 r_0_1 ?_
  refine nw_getA l_X11_shoreOf_4 7 rfl k_2 r_2_2 ?_
  refine nw_getA l_X11_shoreOf_7 10 rfl k_18 r_18_8 ?_
  refine nw_aload_n l_X11_shoreOf_10 11 rfl rfl ?_
  refine nw_iload_n l_X11_shoreOf_11 12 rfl rfl ?_
  refine nw_drop (ls' := [none, none, none]) ⟨True.intro, ⟨True.intro, ⟨True.intro, True.intro⟩⟩⟩ ?_
  refine nw_call 1 1 6 0 l_X11_shoreOf_12 rfl rfl g_X11_placeOfMoon (Nat.lt_of_lt_of_le (by decide) hD) rfl (by omega) (by omega) (Or.inl ⟨_, rfl, k_0⟩) (ls' := [some (.inr (.inl (some 0))), some (.inl x1)]) rfl (st' := [.inr (.inl (some 25))]) rfl 15 rfl (c' := (c - 1)) (by omega) (sl' := (sl - 6)) (by omega) ?_
  exact h
theorem b_X11_shoreOf_15 {y0 : Int} (hc : 1 ≤ c) (hs : 6 ≤ sl) (h : ((0 ≤ y0 ∧ y0 < 10) ∧ ((¬ J 25 y0 = (-1) → Qr (some (.inl (J 25 y0))) (J, L, W)) ∧ (J 25 y0 = (-1) → (∀ n3, W.2.2.2.2 ≤ n3 → Qx 2 (J, L, nw_top W n3)))))) :
    NW sc d_X11_shoreOf D (15, [none, none, none], [.inl y0, .inr (.inl (some 25))], (J, L, W), c, sl) Qr Qx := by
  have o1 := h.1
  replace h := h.2
  refine nw_iald l_X11_shoreOf_15 16 rfl k_25 o1 (v := J 25 y0) rfl ?_
  refine nw_istore_n l_X11_shoreOf_16 17 rfl rfl (ls' := [none, none, some (.inl (J 25 y0))]) rfl ?_
  refine nw_iload_n l_X11_shoreOf_17 18 rfl rfl ?_
  refine nw_iconst (len := 0) l_X11_shoreOf_18 19 rfl c_n1 ?_
  refine nw_ic_ne l_X11_shoreOf_19 22 rfl (fun q2 => ?_) (fun q2 => ?_)
  · replace h := h.1 q2
    refine nw_iload_n l_X11_shoreOf_30 31 rfl rfl ?_
    refine nw_ireturn l_X11_shoreOf_31 rfl ?_
    exact h
  · replace h := h.2 q2
    refine nw_throw 2 l_X11_shoreOf_22 ⟨rfl, rfl, rfl, by decide, rfl⟩ (by omega) (by omega) (fun n3 z3 => ?_)
    replace h := h n3 z3
    exact h
theorem b_X11_strandingCount_0  (h : Qr (some (.inl (J 9 7))) (J, L, W)) :
    NW sc d_X11_strandingCount D (0, [some (.inr (.inl (some 0)))], [], (J, L, W), c, sl) Qr Qx := by
  refine nw_aload_n l_X11_strandingCount_0 1 rfl rfl ?_
  refine nw_getA l_X11_strandingCount_1 4 rfl k_0 r_0_1 ?_
  refine nw_getA l_X11_strandingCount_4 7 rfl k_2 r_2_1 ?_
  refine nw_getI l_X11_strandingCount_7 10 rfl k_9 (v := J 9 7) rfl ?_
  refine nw_ireturn l_X11_strandingCount_10 rfl ?_
  exact h
theorem b_X11_targetOf_0 {x1 : Int} (hD : 2 ≤ D) (hc : 2 ≤ c) (hs : 12 ≤ sl) (h : ((x1 < 0 → (∀ n2, W.2.2.2.2 ≤ n2 → Qx 0 (J, L, nw_top W n2))) ∧ (0 ≤ x1 → ((J 9 0 ≤ x1 → (∀ n4, W.2.2.2.2 ≤ n4 → Qx 0 (J, L, nw_top W n4))) ∧ (x1 < J 9 0 → ((0 ≤ x1 ∧ x1 < 3) ∧ ((J 11 x1 = (-1) → (∀ n7, W.2.2.2.2 ≤ n7 → Qx 2 (J, L, nw_top W n7))) ∧ (¬ J 11 x1 = (-1) → Qr (some (.inl (J 11 x1))) (J, L, W))))))))) :
    NW sc d_X11_targetOf D (0, [some (.inr (.inl (some 0))), some (.inl x1)], [], (J, L, W), c, sl) Qr Qx := by
  refine nw_aload_n l_X11_targetOf_0 1 rfl rfl ?_
  refine nw_iload_n l_X11_targetOf_1 2 rfl rfl ?_
  refine nw_call 1 1 6 0 l_X11_targetOf_2 rfl rfl g_X11_needFerry (Nat.lt_of_lt_of_le (by decide) hD) rfl (by omega) (by omega) (Or.inl ⟨_, rfl, k_0⟩) (ls' := [some (.inr (.inl (some 0))), some (.inl x1)]) rfl (st' := []) rfl 5 rfl (c' := (c - 1)) (by omega) (sl' := (sl - 6)) (by omega) ?_
  refine nw_aload_n l_X11_needFerry_0 1 rfl rfl ?_
  refine nw_getA l_X11_needFerry_1 4 rfl k_0 r_0_1 ?_
  refine nw_getA l_X11_needFerry_4 7 rfl k_2 r_2_1 ?_
  refine nw_iload_n l_X11_needFerry_7 8 rfl rfl ?_
  refine nw_call0 0 9 l_X11_needFerry_8 rfl rfl g_X4_hasFerry (by decide) rfl (Or.inl ⟨_, rfl, k_9⟩) (ls' := [some (.inr (.inl (some 9))), some (.inl x1)]) rfl (st' := []) rfl 11 rfl ?_
  refine nw_iload_n l_X4_hasFerry_0 1 rfl rfl ?_
  refine nw_if_lt l_X4_hasFerry_1 4 rfl (fun q1 => ?_) (fun q1 => ?_)
  · replace h := h.1 q1
    refine nw_iconst (len := 0) l_X4_hasFerry_16 17 rfl c_0 ?_
    refine nw_ireturnZ l_X4_hasFerry_17 rfl (Or.inl rfl) ?_
    refine nw_if_ne l_X11_needFerry_11 14 rfl (fun q => absurd q (by decide)) (fun _ => ?_)
    refine nw_throw 0 l_X11_needFerry_14 ⟨rfl, rfl, rfl, by decide, rfl⟩ (by decide) (by decide) (fun n2 z2 => ?_)
    replace h := h n2 z2
    exact h
  · replace h := h.2 q1
    refine nw_iload_n l_X4_hasFerry_4 5 rfl rfl ?_
    refine nw_aload_n l_X4_hasFerry_5 6 rfl rfl ?_
    refine nw_getI l_X4_hasFerry_6 9 rfl k_9 (v := J 9 0) rfl ?_
    refine nw_ic_ge l_X4_hasFerry_9 12 rfl (fun q3 => ?_) (fun q3 => ?_)
    · replace h := h.1 q3
      refine nw_iconst (len := 0) l_X4_hasFerry_16 17 rfl c_0 ?_
      refine nw_ireturnZ l_X4_hasFerry_17 rfl (Or.inl rfl) ?_
      refine nw_if_ne l_X11_needFerry_11 14 rfl (fun q => absurd q (by decide)) (fun _ => ?_)
      refine nw_throw 0 l_X11_needFerry_14 ⟨rfl, rfl, rfl, by decide, rfl⟩ (by decide) (by decide) (fun n4 z4 => ?_)
      replace h := h n4 z4
      exact h
    · replace h := h.2 q3
      refine nw_iconst (len := 0) l_X4_hasFerry_12 13 rfl c_1 ?_
      refine nw_goto l_X4_hasFerry_13 ?_
      refine nw_ireturnZ l_X4_hasFerry_17 rfl (Or.inr rfl) ?_
      refine nw_if_ne l_X11_needFerry_11 14 rfl (fun _ => ?_) (fun q => absurd q (by decide))
      refine nw_return l_X11_needFerry_22 rfl ?_
      refine nw_aload_n l_X11_targetOf_5 6 rfl rfl ?_
      refine nw_getA l_X11_targetOf_6 9 rfl k_0 r_0_1 ?_
      refine nw_getA l_X11_targetOf_9 12 rfl k_2 r_2_1 ?_
      refine nw_iload_n l_X11_targetOf_12 13 rfl rfl ?_
      refine nw_call0 0 9 l_X11_targetOf_13 rfl rfl g_X4_underWay (Nat.lt_of_lt_of_le (by decide) hD) rfl (Or.inl ⟨_, rfl, k_9⟩) (ls' := [some (.inr (.inl (some 9))), some (.inl x1)]) rfl (st' := []) rfl 16 rfl ?_
      refine nw_aload_n l_X4_underWay_0 1 rfl rfl ?_
      refine nw_getA l_X4_underWay_1 4 rfl k_9 r_9_2 ?_
      refine nw_iload_n l_X4_underWay_4 5 rfl rfl ?_
      have o5 := h.1
      replace h := h.2
      refine nw_iald l_X4_underWay_5 6 rfl k_11 o5 (v := J 11 x1) rfl ?_
      refine nw_iconst (len := 0) l_X4_underWay_6 7 rfl c_n1 ?_
      refine nw_ic_eq l_X4_underWay_7 10 rfl (fun q6 => ?_) (fun q6 => ?_)
      · replace h := h.1 q6
        refine nw_iconst (len := 0) l_X4_underWay_14 15 rfl c_0 ?_
        refine nw_ireturnZ l_X4_underWay_15 rfl (Or.inl rfl) ?_
        refine nw_if_ne l_X11_targetOf_16 19 rfl (fun q => absurd q (by decide)) (fun _ => ?_)
        refine nw_throw 2 l_X11_targetOf_19 ⟨rfl, rfl, rfl, by decide, rfl⟩ (by omega) (by omega) (fun n7 z7 => ?_)
        replace h := h n7 z7
        exact h
      · replace h := h.2 q6
        refine nw_iconst (len := 0) l_X4_underWay_10 11 rfl c_1 ?_
        refine nw_goto l_X4_underWay_11 ?_
        refine nw_ireturnZ l_X4_underWay_15 rfl (Or.inr rfl) ?_
        refine nw_if_ne l_X11_targetOf_16 19 rfl (fun _ => ?_) (fun q => absurd q (by decide))
        refine nw_aload_n l_X11_targetOf_27 28 rfl rfl ?_
        refine nw_getA l_X11_targetOf_28 31 rfl k_0 r_0_1 ?_
        refine nw_getA l_X11_targetOf_31 34 rfl k_2 r_2_1 ?_
        refine nw_getA l_X11_targetOf_34 37 rfl k_9 r_9_2 ?_
        refine nw_iload_n l_X11_targetOf_37 38 rfl rfl ?_
        refine nw_iald l_X11_targetOf_38 39 rfl k_11 o5 (v := J 11 x1) rfl ?_
        refine nw_ireturn l_X11_targetOf_39 rfl ?_
        exact h
theorem b_X11_tide_0 {x1 : Int} (hD : 2 ≤ D) (hc : 1 ≤ c) (hs : 6 ≤ sl) (h : ((x1 < 0 → (∀ n2, W.2.2.2.2 ≤ n2 → Qx 1 (J, L, nw_top W n2))) ∧ (0 ≤ x1 → ((x1 ≤ 9999 → NW sc d_X11_tideIn 1 (0, [some (.inl x1), none], [], (J, L, W), 0, 0) (fun v M9 => NW sc d_X11_tide D (23, [none, none], nw_push v [], M9, c, sl) Qr Qx) Qx) ∧ (9999 < x1 → (∀ n4, W.2.2.2.2 ≤ n4 → Qx 1 (J, L, nw_top W n4))))))) :
    NW sc d_X11_tide D (0, [some (.inr (.inl (some 0))), some (.inl x1)], [], (J, L, W), c, sl) Qr Qx := by
  refine nw_iload_n l_X11_tide_0 1 rfl rfl ?_
  refine nw_if_lt l_X11_tide_1 4 rfl (fun q1 => ?_) (fun q1 => ?_)
  · replace h := h.1 q1
    refine nw_throw 1 l_X11_tide_11 ⟨rfl, rfl, rfl, by decide, rfl⟩ (by omega) (by omega) (fun n2 z2 => ?_)
    replace h := h n2 z2
    exact h
  · replace h := h.2 q1
    refine nw_iload_n l_X11_tide_4 5 rfl rfl ?_
    refine nw_sipush (len := 0) l_X11_tide_5 8 rfl c_9999 ?_
    refine nw_ic_le l_X11_tide_8 11 rfl (fun q3 => ?_) (fun q3 => ?_)
    · replace h := h.1 q3
      refine nw_iload_n l_X11_tide_19 20 rfl rfl ?_
      refine nw_drop (ls' := [none, none]) ⟨True.intro, ⟨True.intro, True.intro⟩⟩ ?_
      refine nw_call0 1 0 l_X11_tide_20 rfl rfl g_X11_tideIn (Nat.lt_of_lt_of_le (by decide) hD) rfl True.intro (ls' := [some (.inl x1), none]) rfl (st' := []) rfl 23 rfl ?_
      exact h
    · replace h := h.2 q3
      refine nw_throw 1 l_X11_tide_11 ⟨rfl, rfl, rfl, by decide, rfl⟩ (by omega) (by omega) (fun n4 z4 => ?_)
      replace h := h n4 z4
      exact h
theorem b_X11_tide_23 {y0 : Int} (h : Qr (some (.inl y0)) (J, L, W)) :
    NW sc d_X11_tide D (23, [none, none], [.inl y0], (J, L, W), c, sl) Qr Qx := by
  refine nw_ireturn l_X11_tide_23 rfl ?_
  exact h
theorem b_X11_tideIn_0 {x0 : Int} (hD : 1 ≤ D) (h : NW sc d_J9_floorMod_7cf53 0 (0, [some (.inl x0), some (.inl 12), none], [], (J, L, W), 0, 0) (fun v M9 => NW sc d_X11_tideIn D (6, [none, none], nw_push v [], M9, c, sl) Qr Qx) Qx) :
    NW sc d_X11_tideIn D (0, [some (.inl x0), none], [], (J, L, W), c, sl) Qr Qx := by
  refine nw_iload_n l_X11_tideIn_0 1 rfl rfl ?_
  refine nw_bipush (len := 0) l_X11_tideIn_1 3 rfl c_12 ?_
  refine nw_drop (ls' := [none, none]) ⟨True.intro, ⟨True.intro, True.intro⟩⟩ ?_
  refine nw_call0 0 0 l_X11_tideIn_3 rfl rfl g_J9_floorMod_7cf53 (Nat.lt_of_lt_of_le (by decide) hD) rfl True.intro (ls' := [some (.inl x0), some (.inl 12), none]) rfl (st' := []) rfl 6 rfl ?_
  exact h
theorem b_X11_tideIn_6 {y0 : Int} (h : ((6 < y0 → ((-2147483648 ≤ 12 - y0 ∧ 12 - y0 < 2147483648) ∧ Qr (some (.inl (12 - y0))) (J, L, W))) ∧ (y0 ≤ 6 → Qr (some (.inl y0)) (J, L, W)))) :
    NW sc d_X11_tideIn D (6, [none, none], [.inl y0], (J, L, W), c, sl) Qr Qx := by
  refine nw_istore_n l_X11_tideIn_6 7 rfl rfl (ls' := [none, some (.inl y0)]) rfl ?_
  refine nw_iload_n l_X11_tideIn_7 8 rfl rfl ?_
  refine nw_bipush (len := 0) l_X11_tideIn_8 10 rfl c_6 ?_
  refine nw_ic_gt l_X11_tideIn_10 13 rfl (fun q1 => ?_) (fun q1 => ?_)
  · replace h := h.1 q1
    refine nw_bipush (len := 0) l_X11_tideIn_17 19 rfl c_12 ?_
    refine nw_iload_n l_X11_tideIn_19 20 rfl rfl ?_
    have o2 := h.1
    replace h := h.2
    refine nw_isub l_X11_tideIn_20 21 rfl o2 ?_
    refine nw_ireturn l_X11_tideIn_21 rfl ?_
    exact h
  · replace h := h.2 q1
    refine nw_iload_n l_X11_tideIn_13 14 rfl rfl ?_
    refine nw_goto l_X11_tideIn_14 ?_
    refine nw_ireturn l_X11_tideIn_21 rfl ?_
    exact h
theorem b_X11_undo_0  (hD : 3 ≤ D) (hc : 1 ≤ c) (hs : 6 ≤ sl) (h : ((¬ J 103 0 = 0 → NW sc d_X5_takeBack 2 (0, [some (.inr (.inl (some 103))), some (.inr (.inl (some 2)))], [], (J, L, W), 0, 0) (fun v M9 => NW sc d_X11_undo D (29, [some (.inr (.inl (some 0)))], nw_push v [], M9, c, sl) Qr Qx) Qx) ∧ (J 103 0 = 0 → (∀ n2, W.2.2.2.2 ≤ n2 → Qx 2 (J, L, nw_top W n2))))) :
    NW sc d_X11_undo D (0, [some (.inr (.inl (some 0)))], [], (J, L, W), c, sl) Qr Qx := by
  refine nw_aload_n l_X11_undo_0 1 rfl rfl ?_
  refine nw_getA l_X11_undo_1 4 rfl k_0 r_0_7 ?_
  refine nw_getI l_X11_undo_4 7 rfl k_103 (v := J 103 0) rfl ?_
  refine nw_if_ne l_X11_undo_7 10 rfl (fun q1 => ?_) (fun q1 => ?_)
  · replace h := h.1 q1
    refine nw_aload_n l_X11_undo_18 19 rfl rfl ?_
    refine nw_getA l_X11_undo_19 22 rfl k_0 r_0_7 ?_
    refine nw_aload_n l_X11_undo_22 23 rfl rfl ?_
    refine nw_getA l_X11_undo_23 26 rfl k_0 r_0_1 ?_
    refine nw_call0 2 103 l_X11_undo_26 rfl rfl g_X5_takeBack (Nat.lt_of_lt_of_le (by decide) hD) rfl (Or.inl ⟨_, rfl, k_103⟩) (ls' := [some (.inr (.inl (some 103))), some (.inr (.inl (some 2)))]) rfl (st' := []) rfl 29 rfl ?_
    exact h
  · replace h := h.2 q1
    refine nw_throw 2 l_X11_undo_10 ⟨rfl, rfl, rfl, by decide, rfl⟩ (by omega) (by omega) (fun n2 z2 => ?_)
    replace h := h n2 z2
    exact h
theorem b_X11_undo_29  (h : Qr (some (.inl (J 103 0))) (J, L, W)) :
    NW sc d_X11_undo D (29, [some (.inr (.inl (some 0)))], [], (J, L, W), c, sl) Qr Qx := by
  refine nw_aload_n l_X11_undo_29 30 rfl rfl ?_
  refine nw_getA l_X11_undo_30 33 rfl k_0 r_0_7 ?_
  refine nw_getI l_X11_undo_33 36 rfl k_103 (v := J 103 0) rfl ?_
  refine nw_ireturn l_X11_undo_36 rfl ?_
  exact h
theorem b_X11_wayHours_0 {x1 : Int} {x2 : Int} (hD : 2 ≤ D) (hc : 2 ≤ c) (hs : 12 ≤ sl) (h : ((x1 < 0 → (∀ n2, W.2.2.2.2 ≤ n2 → Qx 0 (J, L, nw_top W n2))) ∧ (0 ≤ x1 → ((J 3 0 ≤ x1 → (∀ n4, W.2.2.2.2 ≤ n4 → Qx 0 (J, L, nw_top W n4))) ∧ (x1 < J 3 0 → ((x2 < 0 → (∀ n6, W.2.2.2.2 ≤ n6 → Qx 0 (J, L, nw_top W n6))) ∧ (0 ≤ x2 → ((J 3 0 ≤ x2 → (∀ n8, W.2.2.2.2 ≤ n8 → Qx 0 (J, L, nw_top W n8))) ∧ (x2 < J 3 0 → NW sc d_X10_spreadFrom 1 (0, [some (.inr (.inl (some 29))), some (.inr (.inl (some 3))), some (.inl x1), none, none, none, none], [], (J, L, W), 0, 0) (fun v M9 => NW sc d_X11_wayHours D (25, [some (.inr (.inl (some 0))), none, some (.inl x2)], nw_push v [], M9, (c - 2), (sl - 12)) Qr Qx) Qx))))))))) :
    NW sc d_X11_wayHours D (0, [some (.inr (.inl (some 0))), some (.inl x1), some (.inl x2)], [], (J, L, W), c, sl) Qr Qx := by
  refine nw_aload_n l_X11_wayHours_0 1 rfl rfl ?_
  refine nw_iload_n l_X11_wayHours_1 2 rfl rfl ?_
  refine nw_call 1 1 6 0 l_X11_wayHours_2 rfl rfl g_X11_needCrater (Nat.lt_of_lt_of_le (by decide) hD) rfl (by omega) (by omega) (Or.inl ⟨_, rfl, k_0⟩) (ls' := [some (.inr (.inl (some 0))), some (.inl x1)]) rfl (st' := []) rfl 5 rfl (c' := (c - 1)) (by omega) (sl' := (sl - 6)) (by omega) ?_
  refine nw_aload_n l_X11_needCrater_0 1 rfl rfl ?_
  refine nw_getA l_X11_needCrater_1 4 rfl k_0 r_0_1 ?_
  refine nw_getA l_X11_needCrater_4 7 rfl k_2 r_2_0 ?_
  refine nw_iload_n l_X11_needCrater_7 8 rfl rfl ?_
  refine nw_call0 0 3 l_X11_needCrater_8 rfl rfl g_X9_hasCrater (by decide) rfl (Or.inl ⟨_, rfl, k_3⟩) (ls' := [some (.inr (.inl (some 3))), some (.inl x1)]) rfl (st' := []) rfl 11 rfl ?_
  refine nw_iload_n l_X9_hasCrater_0 1 rfl rfl ?_
  refine nw_if_lt l_X9_hasCrater_1 4 rfl (fun q1 => ?_) (fun q1 => ?_)
  · replace h := h.1 q1
    refine nw_iconst (len := 0) l_X9_hasCrater_16 17 rfl c_0 ?_
    refine nw_ireturnZ l_X9_hasCrater_17 rfl (Or.inl rfl) ?_
    refine nw_if_ne l_X11_needCrater_11 14 rfl (fun q => absurd q (by decide)) (fun _ => ?_)
    refine nw_throw 0 l_X11_needCrater_14 ⟨rfl, rfl, rfl, by decide, rfl⟩ (by decide) (by decide) (fun n2 z2 => ?_)
    replace h := h n2 z2
    exact h
  · replace h := h.2 q1
    refine nw_iload_n l_X9_hasCrater_4 5 rfl rfl ?_
    refine nw_aload_n l_X9_hasCrater_5 6 rfl rfl ?_
    refine nw_getI l_X9_hasCrater_6 9 rfl k_3 (v := J 3 0) rfl ?_
    refine nw_ic_ge l_X9_hasCrater_9 12 rfl (fun q3 => ?_) (fun q3 => ?_)
    · replace h := h.1 q3
      refine nw_iconst (len := 0) l_X9_hasCrater_16 17 rfl c_0 ?_
      refine nw_ireturnZ l_X9_hasCrater_17 rfl (Or.inl rfl) ?_
      refine nw_if_ne l_X11_needCrater_11 14 rfl (fun q => absurd q (by decide)) (fun _ => ?_)
      refine nw_throw 0 l_X11_needCrater_14 ⟨rfl, rfl, rfl, by decide, rfl⟩ (by decide) (by decide) (fun n4 z4 => ?_)
      replace h := h n4 z4
      exact h
    · replace h := h.2 q3
      refine nw_iconst (len := 0) l_X9_hasCrater_12 13 rfl c_1 ?_
      refine nw_goto l_X9_hasCrater_13 ?_
      refine nw_ireturnZ l_X9_hasCrater_17 rfl (Or.inr rfl) ?_
      refine nw_if_ne l_X11_needCrater_11 14 rfl (fun _ => ?_) (fun q => absurd q (by decide))
      refine nw_return l_X11_needCrater_22 rfl ?_
      refine nw_aload_n l_X11_wayHours_5 6 rfl rfl ?_
      refine nw_iload_n l_X11_wayHours_6 7 rfl rfl ?_
      refine nw_call 1 1 6 0 l_X11_wayHours_7 rfl rfl g_X11_needCrater (Nat.lt_of_lt_of_le (by decide) hD) rfl (by omega) (by omega) (Or.inl ⟨_, rfl, k_0⟩) (ls' := [some (.inr (.inl (some 0))), some (.inl x2)]) rfl (st' := []) rfl 10 rfl (c' := (c - 2)) (by omega) (sl' := (sl - 12)) (by omega) ?_
      refine nw_aload_n l_X11_needCrater_0 1 rfl rfl ?_
      refine nw_getA l_X11_needCrater_1 4 rfl k_0 r_0_1 ?_
      refine nw_getA l_X11_needCrater_4 7 rfl k_2 r_2_0 ?_
      refine nw_iload_n l_X11_needCrater_7 8 rfl rfl ?_
      refine nw_call0 0 3 l_X11_needCrater_8 rfl rfl g_X9_hasCrater (by decide) rfl (Or.inl ⟨_, rfl, k_3⟩) (ls' := [some (.inr (.inl (some 3))), some (.inl x2)]) rfl (st' := []) rfl 11 rfl ?_
      refine nw_iload_n l_X9_hasCrater_0 1 rfl rfl ?_
      refine nw_if_lt l_X9_hasCrater_1 4 rfl (fun q5 => ?_) (fun q5 => ?_)
      · replace h := h.1 q5
        refine nw_iconst (len := 0) l_X9_hasCrater_16 17 rfl c_0 ?_
        refine nw_ireturnZ l_X9_hasCrater_17 rfl (Or.inl rfl) ?_
        refine nw_if_ne l_X11_needCrater_11 14 rfl (fun q => absurd q (by decide)) (fun _ => ?_)
        refine nw_throw 0 l_X11_needCrater_14 ⟨rfl, rfl, rfl, by decide, rfl⟩ (by decide) (by decide) (fun n6 z6 => ?_)
        replace h := h n6 z6
        exact h
      · replace h := h.2 q5
        refine nw_iload_n l_X9_hasCrater_4 5 rfl rfl ?_
        refine nw_aload_n l_X9_hasCrater_5 6 rfl rfl ?_
        refine nw_getI l_X9_hasCrater_6 9 rfl k_3 (v := J 3 0) rfl ?_
        refine nw_ic_ge l_X9_hasCrater_9 12 rfl (fun q7 => ?_) (fun q7 => ?_)
        · replace h := h.1 q7
          refine nw_iconst (len := 0) l_X9_hasCrater_16 17 rfl c_0 ?_
          refine nw_ireturnZ l_X9_hasCrater_17 rfl (Or.inl rfl) ?_
          refine nw_if_ne l_X11_needCrater_11 14 rfl (fun q => absurd q (by decide)) (fun _ => ?_)
          refine nw_throw 0 l_X11_needCrater_14 ⟨rfl, rfl, rfl, by decide, rfl⟩ (by decide) (by decide) (fun n8 z8 => ?_)
          replace h := h n8 z8
          exact h
        · replace h := h.2 q7
          refine nw_iconst (len := 0) l_X9_hasCrater_12 13 rfl c_1 ?_
          refine nw_goto l_X9_hasCrater_13 ?_
          refine nw_ireturnZ l_X9_hasCrater_17 rfl (Or.inr rfl) ?_
          refine nw_if_ne l_X11_needCrater_11 14 rfl (fun _ => ?_) (fun q => absurd q (by decide))
          refine nw_return l_X11_needCrater_22 rfl ?_
          refine nw_aload_n l_X11_wayHours_10 11 rfl rfl ?_
          refine nw_getA l_X11_wayHours_11 14 rfl k_0 r_0_4 ?_
          refine nw_aload_n l_X11_wayHours_14 15 rfl rfl ?_
          refine nw_getA l_X11_wayHours_15 18 rfl k_0 r_0_1 ?_
          refine nw_getA l_X11_wayHours_18 21 rfl k_2 r_2_0 ?_
          refine nw_iload_n l_X11_wayHours_21 22 rfl rfl ?_
          refine nw_drop (ls' := [some (.inr (.inl (some 0))), none, some (.inl x2)]) ⟨rfl, ⟨True.intro, ⟨rfl, True.intro⟩⟩⟩ ?_
          refine nw_call0 1 29 l_X11_wayHours_22 rfl rfl g_X10_spreadFrom (Nat.lt_of_lt_of_le (by decide) hD) rfl (Or.inl ⟨_, rfl, k_29⟩) (ls' := [some (.inr (.inl (some 29))), some (.inr (.inl (some 3))), some (.inl x1), none, none, none, none]) rfl (st' := []) rfl 25 rfl ?_
          exact h
theorem b_X11_wayHours_25 {x2 : Int} (hD : 2 ≤ D) (hc : 1 ≤ c) (hs : 6 ≤ sl) (h : ((0 ≤ x2 ∧ x2 < 6) ∧ ((¬ J 30 x2 = (-1) → Qr (some (.inl (J 30 x2))) (J, L, W)) ∧ (J 30 x2 = (-1) → (∀ n3, W.2.2.2.2 ≤ n3 → Qx 4 (J, L, nw_top W n3)))))) :
    NW sc d_X11_wayHours D (25, [some (.inr (.inl (some 0))), none, some (.inl x2)], [], (J, L, W), c, sl) Qr Qx := by
  refine nw_aload_n l_X11_wayHours_25 26 rfl rfl ?_
  refine nw_getA l_X11_wayHours_26 29 rfl k_0 r_0_4 ?_
  refine nw_getA l_X11_wayHours_29 32 rfl k_29 r_29_0 ?_
  refine nw_iload_n l_X11_wayHours_32 33 rfl rfl ?_
  have o1 := h.1
  replace h := h.2
  refine nw_iald l_X11_wayHours_33 34 rfl k_30 o1 (v := J 30 x2) rfl ?_
  refine nw_call 0 1 6 0 l_X11_wayHours_34 rfl rfl g_X11_present (Nat.lt_of_lt_of_le (by decide) hD) rfl (by omega) (by omega) True.intro (ls' := [some (.inl (J 30 x2))]) rfl (st' := []) rfl 37 rfl (c' := (c - 1)) (by omega) (sl' := (sl - 6)) (by omega) ?_
  refine nw_iload_n l_X11_present_0 1 rfl rfl ?_
  refine nw_iconst (len := 0) l_X11_present_1 2 rfl c_n1 ?_
  refine nw_ic_ne l_X11_present_2 5 rfl (fun q2 => ?_) (fun q2 => ?_)
  · replace h := h.1 q2
    refine nw_iload_n l_X11_present_13 14 rfl rfl ?_
    refine nw_ireturn l_X11_present_14 rfl ?_
    refine nw_ireturn l_X11_wayHours_37 rfl ?_
    exact h
  · replace h := h.2 q2
    refine nw_throw 4 l_X11_present_5 ⟨rfl, rfl, rfl, by decide, rfl⟩ (by decide) (by decide) (fun n3 z3 => ?_)
    replace h := h n3 z3
    exact h
theorem b_X11_wayHoursByTable_0 {x1 : Int} {x2 : Int} (hD : 2 ≤ D) (hc : 2 ≤ c) (hs : 12 ≤ sl) (h : ((x1 < 0 → (∀ n2, W.2.2.2.2 ≤ n2 → Qx 0 (J, L, nw_top W n2))) ∧ (0 ≤ x1 → ((J 3 0 ≤ x1 → (∀ n4, W.2.2.2.2 ≤ n4 → Qx 0 (J, L, nw_top W n4))) ∧ (x1 < J 3 0 → ((x2 < 0 → (∀ n6, W.2.2.2.2 ≤ n6 → Qx 0 (J, L, nw_top W n6))) ∧ (0 ≤ x2 → ((J 3 0 ≤ x2 → (∀ n8, W.2.2.2.2 ≤ n8 → Qx 0 (J, L, nw_top W n8))) ∧ (x2 < J 3 0 → NW sc d_X10_fillTable 1 (0, [some (.inr (.inl (some 29))), some (.inr (.inl (some 3))), none, none, none], [], (J, L, W), 0, 0) (fun v M9 => NW sc d_X11_wayHoursByTable D (24, [some (.inr (.inl (some 0))), some (.inl x1), some (.inl x2)], nw_push v [], M9, (c - 2), (sl - 12)) Qr Qx) Qx))))))))) :
    NW sc d_X11_wayHoursByTable D (0, [some (.inr (.inl (some 0))), some (.inl x1), some (.inl x2)], [], (J, L, W), c, sl) Qr Qx := by
  refine nw_aload_n l_X11_wayHoursByTable_0 1 rfl rfl ?_
  refine nw_iload_n l_X11_wayHoursByTable_1 2 rfl rfl ?_
  refine nw_call 1 1 6 0 l_X11_wayHoursByTable_2 rfl rfl g_X11_needCrater (Nat.lt_of_lt_of_le (by decide) hD) rfl (by omega) (by omega) (Or.inl ⟨_, rfl, k_0⟩) (ls' := [some (.inr (.inl (some 0))), some (.inl x1)]) rfl (st' := []) rfl 5 rfl (c' := (c - 1)) (by omega) (sl' := (sl - 6)) (by omega) ?_
  refine nw_aload_n l_X11_needCrater_0 1 rfl rfl ?_
  refine nw_getA l_X11_needCrater_1 4 rfl k_0 r_0_1 ?_
  refine nw_getA l_X11_needCrater_4 7 rfl k_2 r_2_0 ?_
  refine nw_iload_n l_X11_needCrater_7 8 rfl rfl ?_
  refine nw_call0 0 3 l_X11_needCrater_8 rfl rfl g_X9_hasCrater (by decide) rfl (Or.inl ⟨_, rfl, k_3⟩) (ls' := [some (.inr (.inl (some 3))), some (.inl x1)]) rfl (st' := []) rfl 11 rfl ?_
  refine nw_iload_n l_X9_hasCrater_0 1 rfl rfl ?_
  refine nw_if_lt l_X9_hasCrater_1 4 rfl (fun q1 => ?_) (fun q1 => ?_)
  · replace h := h.1 q1
    refine nw_iconst (len := 0) l_X9_hasCrater_16 17 rfl c_0 ?_
    refine nw_ireturnZ l_X9_hasCrater_17 rfl (Or.inl rfl) ?_
    refine nw_if_ne l_X11_needCrater_11 14 rfl (fun q => absurd q (by decide)) (fun _ => ?_)
    refine nw_throw 0 l_X11_needCrater_14 ⟨rfl, rfl, rfl, by decide, rfl⟩ (by decide) (by decide) (fun n2 z2 => ?_)
    replace h := h n2 z2
    exact h
  · replace h := h.2 q1
    refine nw_iload_n l_X9_hasCrater_4 5 rfl rfl ?_
    refine nw_aload_n l_X9_hasCrater_5 6 rfl rfl ?_
    refine nw_getI l_X9_hasCrater_6 9 rfl k_3 (v := J 3 0) rfl ?_
    refine nw_ic_ge l_X9_hasCrater_9 12 rfl (fun q3 => ?_) (fun q3 => ?_)
    · replace h := h.1 q3
      refine nw_iconst (len := 0) l_X9_hasCrater_16 17 rfl c_0 ?_
      refine nw_ireturnZ l_X9_hasCrater_17 rfl (Or.inl rfl) ?_
      refine nw_if_ne l_X11_needCrater_11 14 rfl (fun q => absurd q (by decide)) (fun _ => ?_)
      refine nw_throw 0 l_X11_needCrater_14 ⟨rfl, rfl, rfl, by decide, rfl⟩ (by decide) (by decide) (fun n4 z4 => ?_)
      replace h := h n4 z4
      exact h
    · replace h := h.2 q3
      refine nw_iconst (len := 0) l_X9_hasCrater_12 13 rfl c_1 ?_
      refine nw_goto l_X9_hasCrater_13 ?_
      refine nw_ireturnZ l_X9_hasCrater_17 rfl (Or.inr rfl) ?_
      refine nw_if_ne l_X11_needCrater_11 14 rfl (fun _ => ?_) (fun q => absurd q (by decide))
      refine nw_return l_X11_needCrater_22 rfl ?_
      refine nw_aload_n l_X11_wayHoursByTable_5 6 rfl rfl ?_
      refine nw_iload_n l_X11_wayHoursByTable_6 7 rfl rfl ?_
      refine nw_call 1 1 6 0 l_X11_wayHoursByTable_7 rfl rfl g_X11_needCrater (Nat.lt_of_lt_of_le (by decide) hD) rfl (by omega) (by omega) (Or.inl ⟨_, rfl, k_0⟩) (ls' := [some (.inr (.inl (some 0))), some (.inl x2)]) rfl (st' := []) rfl 10 rfl (c' := (c - 2)) (by omega) (sl' := (sl - 12)) (by omega) ?_
      refine nw_aload_n l_X11_needCrater_0 1 rfl rfl ?_
      refine nw_getA l_X11_needCrater_1 4 rfl k_0 r_0_1 ?_
      refine nw_getA l_X11_needCrater_4 7 rfl k_2 r_2_0 ?_
      refine nw_iload_n l_X11_needCrater_7 8 rfl rfl ?_
      refine nw_call0 0 3 l_X11_needCrater_8 rfl rfl g_X9_hasCrater (by decide) rfl (Or.inl ⟨_, rfl, k_3⟩) (ls' := [some (.inr (.inl (some 3))), some (.inl x2)]) rfl (st' := []) rfl 11 rfl ?_
      refine nw_iload_n l_X9_hasCrater_0 1 rfl rfl ?_
      refine nw_if_lt l_X9_hasCrater_1 4 rfl (fun q5 => ?_) (fun q5 => ?_)
      · replace h := h.1 q5
        refine nw_iconst (len := 0) l_X9_hasCrater_16 17 rfl c_0 ?_
        refine nw_ireturnZ l_X9_hasCrater_17 rfl (Or.inl rfl) ?_
        refine nw_if_ne l_X11_needCrater_11 14 rfl (fun q => absurd q (by decide)) (fun _ => ?_)
        refine nw_throw 0 l_X11_needCrater_14 ⟨rfl, rfl, rfl, by decide, rfl⟩ (by decide) (by decide) (fun n6 z6 => ?_)
        replace h := h n6 z6
        exact h
      · replace h := h.2 q5
        refine nw_iload_n l_X9_hasCrater_4 5 rfl rfl ?_
        refine nw_aload_n l_X9_hasCrater_5 6 rfl rfl ?_
        refine nw_getI l_X9_hasCrater_6 9 rfl k_3 (v := J 3 0) rfl ?_
        refine nw_ic_ge l_X9_hasCrater_9 12 rfl (fun q7 => ?_) (fun q7 => ?_)
        · replace h := h.1 q7
          refine nw_iconst (len := 0) l_X9_hasCrater_16 17 rfl c_0 ?_
          refine nw_ireturnZ l_X9_hasCrater_17 rfl (Or.inl rfl) ?_
          refine nw_if_ne l_X11_needCrater_11 14 rfl (fun q => absurd q (by decide)) (fun _ => ?_)
          refine nw_throw 0 l_X11_needCrater_14 ⟨rfl, rfl, rfl, by decide, rfl⟩ (by decide) (by decide) (fun n8 z8 => ?_)
          replace h := h n8 z8
          exact h
        · replace h := h.2 q7
          refine nw_iconst (len := 0) l_X9_hasCrater_12 13 rfl c_1 ?_
          refine nw_goto l_X9_hasCrater_13 ?_
          refine nw_ireturnZ l_X9_hasCrater_17 rfl (Or.inr rfl) ?_
          refine nw_if_ne l_X11_needCrater_11 14 rfl (fun _ => ?_) (fun q => absurd q (by decide))
          refine nw_return l_X11_needCrater_22 rfl ?_
          refine nw_aload_n l_X11_wayHoursByTable_10 11 rfl rfl ?_
          refine nw_getA l_X11_wayHoursByTable_11 14 rfl k_0 r_0_4 ?_
          refine nw_aload_n l_X11_wayHoursByTable_14 15 rfl rfl ?_
          refine nw_getA l_X11_wayHoursByTable_15 18 rfl k_0 r_0_1 ?_
          refine nw_getA l_X11_wayHoursByTable_18 21 rfl k_2 r_2_0 ?_
          refine nw_call0 1 29 l_X11_wayHoursByTable_21 rfl rfl g_X10_fillTable (Nat.lt_of_lt_of_le (by decide) hD) rfl (Or.inl ⟨_, rfl, k_29⟩) (ls' := [some (.inr (.inl (some 29))), some (.inr (.inl (some 3))), none, none, none]) rfl (st' := []) rfl 24 rfl ?_
          exact h
theorem b_X11_wayHoursByTable_24 {x1 : Int} {x2 : Int} (hD : 2 ≤ D) (hc : 1 ≤ c) (hs : 6 ≤ sl) (h : ((0 ≤ x1 ∧ x1 < 6) ∧ ((0 ≤ x2 ∧ x2 < 6) ∧ ((¬ J (32 + x1.toNat) x2 = (-1) → Qr (some (.inl (J (32 + x1.toNat) x2))) (J, L, W)) ∧ (J (32 + x1.toNat) x2 = (-1) → (∀ n4, W.2.2.2.2 ≤ n4 → Qx 4 (J, L, nw_top W n4))))))) :
    NW sc d_X11_wayHoursByTable D (24, [some (.inr (.inl (some 0))), some (.inl x1), some (.inl x2)], [], (J, L, W), c, sl) Qr Qx := by
  refine nw_aload_n l_X11_wayHoursByTable_24 25 rfl rfl ?_
  refine nw_getA l_X11_wayHoursByTable_25 28 rfl k_0 r_0_4 ?_
  refine nw_getA l_X11_wayHoursByTable_28 31 rfl k_29 r_29_1 ?_
  refine nw_iload_n l_X11_wayHoursByTable_31 32 rfl rfl ?_
  have o1 := h.1
  replace h := h.2
  refine nw_aald l_X11_wayHoursByTable_32 33 rfl k_31 (Or.inr rfl) o1 (nw_tabR o1) ?_
  refine nw_iload_n l_X11_wayHoursByTable_33 34 rfl rfl ?_
  have o2 := h.1
  replace h := h.2
  refine nw_iald l_X11_wayHoursByTable_34 35 rfl (nw_tabK o1) o2 (v := J (32 + x1.toNat) x2) rfl ?_
  refine nw_call 0 1 6 0 l_X11_wayHoursByTable_35 rfl rfl g_X11_present (Nat.lt_of_lt_of_le (by decide) hD) rfl (by omega) (by omega) True.intro (ls' := [some (.inl (J (32 + x1.toNat) x2))]) rfl (st' := []) rfl 38 rfl (c' := (c - 1)) (by omega) (sl' := (sl - 6)) (by omega) ?_
  refine nw_iload_n l_X11_present_0 1 rfl rfl ?_
  refine nw_iconst (len := 0) l_X11_present_1 2 rfl c_n1 ?_
  refine nw_ic_ne l_X11_present_2 5 rfl (fun q3 => ?_) (fun q3 => ?_)
  · replace h := h.1 q3
    refine nw_iload_n l_X11_present_13 14 rfl rfl ?_
    refine nw_ireturn l_X11_present_14 rfl ?_
    refine nw_ireturn l_X11_wayHoursByTable_38 rfl ?_
    exact h
  · replace h := h.2 q3
    refine nw_throw 4 l_X11_present_5 ⟨rfl, rfl, rfl, by decide, rfl⟩ (by decide) (by decide) (fun n4 z4 => ?_)
    replace h := h n4 z4
    exact h
theorem b_X11_waysAgree_0  (hD : 2 ≤ D) (h : NW sc d_X10_fillTable 1 (0, [some (.inr (.inl (some 29))), some (.inr (.inl (some 3))), none, none, none], [], (J, L, W), 0, 0) (fun v M9 => NW sc d_X11_waysAgree D (25, [some (.inr (.inl (some 0))), some (.inl (J 3 0)), none, none], nw_push v [], M9, c, sl) Qr Qx) Qx) :
    NW sc d_X11_waysAgree D (0, [some (.inr (.inl (some 0))), none, none, none], [], (J, L, W), c, sl) Qr Qx := by
  refine nw_aload_n l_X11_waysAgree_0 1 rfl rfl ?_
  refine nw_getA l_X11_waysAgree_1 4 rfl k_0 r_0_1 ?_
  refine nw_getA l_X11_waysAgree_4 7 rfl k_2 r_2_0 ?_
  refine nw_getI l_X11_waysAgree_7 10 rfl k_3 (v := J 3 0) rfl ?_
  refine nw_istore_n l_X11_waysAgree_10 11 rfl rfl (ls' := [some (.inr (.inl (some 0))), some (.inl (J 3 0)), none, none]) rfl ?_
  refine nw_aload_n l_X11_waysAgree_11 12 rfl rfl ?_
  refine nw_getA l_X11_waysAgree_12 15 rfl k_0 r_0_4 ?_
  refine nw_aload_n l_X11_waysAgree_15 16 rfl rfl ?_
  refine nw_getA l_X11_waysAgree_16 19 rfl k_0 r_0_1 ?_
  refine nw_getA l_X11_waysAgree_19 22 rfl k_2 r_2_0 ?_
  refine nw_call0 1 29 l_X11_waysAgree_22 rfl rfl g_X10_fillTable (Nat.lt_of_lt_of_le (by decide) hD) rfl (Or.inl ⟨_, rfl, k_29⟩) (ls' := [some (.inr (.inl (some 29))), some (.inr (.inl (some 3))), none, none, none]) rfl (st' := []) rfl 25 rfl ?_
  exact h
theorem b_X11_waysAgree_25 {x1 : Int} (h : NW sc d_X11_waysAgree D (27, [some (.inr (.inl (some 0))), some (.inl x1), some (.inl 0), none], [], (J, L, W), c, sl) Qr Qx) :
    NW sc d_X11_waysAgree D (25, [some (.inr (.inl (some 0))), some (.inl x1), none, none], [], (J, L, W), c, sl) Qr Qx := by
  refine nw_iconst (len := 0) l_X11_waysAgree_25 26 rfl c_0 ?_
  refine nw_istore_n l_X11_waysAgree_26 27 rfl rfl (ls' := [some (.inr (.inl (some 0))), some (.inl x1), some (.inl 0), none]) rfl ?_
  exact h
theorem b_X11_waysAgree_27 {x1 : Int} {x2 : Int} (hD : 2 ≤ D) (h : ((x1 ≤ x2 → Qr (some (.inl 1)) (J, L, W)) ∧ (x2 < x1 → NW sc d_X10_spreadFrom 1 (0, [some (.inr (.inl (some 29))), some (.inr (.inl (some 3))), some (.inl x2), none, none, none, none], [], (J, L, W), 0, 0) (fun v M9 => NW sc d_X11_waysAgree D (47, [some (.inr (.inl (some 0))), some (.inl x1), some (.inl x2), none], nw_push v [], M9, c, sl) Qr Qx) Qx))) :
    NW sc d_X11_waysAgree D (27, [some (.inr (.inl (some 0))), some (.inl x1), some (.inl x2), none], [], (J, L, W), c, sl) Qr Qx := by
  refine nw_iload_n l_X11_waysAgree_27 28 rfl rfl ?_
  refine nw_iload_n l_X11_waysAgree_28 29 rfl rfl ?_
  refine nw_ic_ge l_X11_waysAgree_29 32 rfl (fun q1 => ?_) (fun q1 => ?_)
  · replace h := h.1 q1
    refine nw_iconst (len := 0) l_X11_waysAgree_91 92 rfl c_1 ?_
    refine nw_ireturnZ l_X11_waysAgree_92 rfl (Or.inr rfl) ?_
    exact h
  · replace h := h.2 q1
    refine nw_aload_n l_X11_waysAgree_32 33 rfl rfl ?_
    refine nw_getA l_X11_waysAgree_33 36 rfl k_0 r_0_4 ?_
    refine nw_aload_n l_X11_waysAgree_36 37 rfl rfl ?_
    refine nw_getA l_X11_waysAgree_37 40 rfl k_0 r_0_1 ?_
    refine nw_getA l_X11_waysAgree_40 43 rfl k_2 r_2_0 ?_
    refine nw_iload_n l_X11_waysAgree_43 44 rfl rfl ?_
    refine nw_call0 1 29 l_X11_waysAgree_44 rfl rfl g_X10_spreadFrom (Nat.lt_of_lt_of_le (by decide) hD) rfl (Or.inl ⟨_, rfl, k_29⟩) (ls' := [some (.inr (.inl (some 29))), some (.inr (.inl (some 3))), some (.inl x2), none, none, none, none]) rfl (st' := []) rfl 47 rfl ?_
    exact h
theorem b_X11_waysAgree_47 {x1 : Int} {x2 : Int} (h : NW sc d_X11_waysAgree D (49, [some (.inr (.inl (some 0))), some (.inl x1), some (.inl x2), some (.inl 0)], [], (J, L, W), c, sl) Qr Qx) :
    NW sc d_X11_waysAgree D (47, [some (.inr (.inl (some 0))), some (.inl x1), some (.inl x2), none], [], (J, L, W), c, sl) Qr Qx := by
  refine nw_iconst (len := 0) l_X11_waysAgree_47 48 rfl c_0 ?_
  refine nw_istore_n l_X11_waysAgree_48 49 rfl rfl (ls' := [some (.inr (.inl (some 0))), some (.inl x1), some (.inl x2), some (.inl 0)]) rfl ?_
  exact h
theorem b_X11_waysAgree_49 {x1 : Int} {x2 : Int} {x3 : Int} (h : ((x1 ≤ x3 → ((-2147483648 ≤ x2 + 1 ∧ x2 + 1 < 2147483648) ∧ NW sc d_X11_waysAgree D (27, [some (.inr (.inl (some 0))), some (.inl x1), some (.inl (x2 + 1)), none], [], (J, L, W), c, sl) Qr Qx)) ∧ (x3 < x1 → ((0 ≤ x3 ∧ x3 < 6) ∧ ((0 ≤ x2 ∧ x2 < 6) ∧ ((J 30 x3 = J (32 + x2.toNat) x3 → ((-2147483648 ≤ x3 + 1 ∧ x3 + 1 < 2147483648) ∧ NW sc d_X11_waysAgree D (49, [some (.inr (.inl (some 0))), some (.inl x1), some (.inl x2), some (.inl (x3 + 1))], [], (J, L, W), c, sl) Qr Qx)) ∧ (¬ J 30 x3 = J (32 + x2.toNat) x3 → Qr (some (.inl 0)) (J, L, W)))))))) :
    NW sc d_X11_waysAgree D (49, [some (.inr (.inl (some 0))), some (.inl x1), some (.inl x2), some (.inl x3)], [], (J, L, W), c, sl) Qr Qx := by
  refine nw_iload_n l_X11_waysAgree_49 50 rfl rfl ?_
  refine nw_iload_n l_X11_waysAgree_50 51 rfl rfl ?_
  refine nw_ic_ge l_X11_waysAgree_51 54 rfl (fun q1 => ?_) (fun q1 => ?_)
  · replace h := h.1 q1
    have o2 := h.1
    replace h := h.2
    refine nw_iinc l_X11_waysAgree_85 88 rfl 1 (by decide) rfl rfl o2 (ls' := [some (.inr (.inl (some 0))), some (.inl x1), some (.inl (x2 + 1)), some (.inl x3)]) rfl ?_
    refine nw_goto l_X11_waysAgree_88 ?_
    refine nw_drop (ls' := [some (.inr (.inl (some 0))), some (.inl x1), some (.inl (x2 + 1)), none]) ⟨rfl, ⟨rfl, ⟨rfl, ⟨True.intro, True.intro⟩⟩⟩⟩ ?_
    exact h
  · replace h := h.2 q1
    refine nw_aload_n l_X11_waysAgree_54 55 rfl rfl ?_
    refine nw_getA l_X11_waysAgree_55 58 rfl k_0 r_0_4 ?_
    refine nw_getA l_X11_waysAgree_58 61 rfl k_29 r_29_0 ?_
    refine nw_iload_n l_X11_waysAgree_61 62 rfl rfl ?_
    have o3 := h.1
    replace h := h.2
    refine nw_iald l_X11_waysAgree_62 63 rfl k_30 o3 (v := J 30 x3) rfl ?_
    refine nw_aload_n l_X11_waysAgree_63 64 rfl rfl ?_
    refine nw_getA l_X11_waysAgree_64 67 rfl k_0 r_0_4 ?_
    refine nw_getA l_X11_waysAgree_67 70 rfl k_29 r_29_1 ?_
    refine nw_iload_n l_X11_waysAgree_70 71 rfl rfl ?_
    have o4 := h.1
    replace h := h.2
    refine nw_aald l_X11_waysAgree_71 72 rfl k_31 (Or.inr rfl) o4 (nw_tabR o4) ?_
    refine nw_iload_n l_X11_waysAgree_72 73 rfl rfl ?_
    refine nw_iald l_X11_waysAgree_73 74 rfl (nw_tabK o4) o3 (v := J (32 + x2.toNat) x3) rfl ?_
    refine nw_ic_eq l_X11_waysAgree_74 77 rfl (fun q5 => ?_) (fun q5 => ?_)
    · replace h := h.1 q5
      have o6 := h.1
      replace h := h.2
      refine nw_iinc l_X11_waysAgree_79 82 rfl 1 (by decide) rfl rfl o6 (ls' := [some (.inr (.inl (some 0))), some (.inl x1), some (.inl x2), some (.inl (x3 + 1))]) rfl ?_
      refine nw_goto l_X11_waysAgree_82 ?_
      exact h
    · replace h := h.2 q5
      refine nw_iconst (len := 0) l_X11_waysAgree_77 78 rfl c_0 ?_
      refine nw_ireturnZ l_X11_waysAgree_78 rfl (Or.inl rfl) ?_
      exact h
end

