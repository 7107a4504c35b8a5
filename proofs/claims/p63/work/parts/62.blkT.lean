/-! the line: blocks of methods, by program -/
theorem c_n100 : Int32.ofInt (-100) = (-100) ∧ nw_in (-100) := by decide
theorem c_2147483639 : Int32.ofInt (2147483639) = (2147483639) ∧ nw_in (2147483639) := by decide
theorem c_2147483647 : Int32.ofInt (2147483647) = (2147483647) ∧ nw_in (2147483647) := by decide
section
variable {sc : Nat × (Nat → Int32)} {D : Nat} {J L : Nat → Int → Int} {W : nw_W} {c sl : Nat} {Qr : nw_QR} {Qx : nw_QX}
theorem b_J6_stringSize_0f7a4_0 {x0 : Int} (h : ((x0 < 0 → NW sc d_J6_stringSize_0f7a4 D (16, [some (.inl x0), some (.inl 1), some (.inl (-10)), some (.inl 1)], [], (J, L, W), c, sl) Qr Qx) ∧ (0 ≤ x0 → ((-2147483648 ≤ -x0 ∧ -x0 < 2147483648) ∧ NW sc d_J6_stringSize_0f7a4 D (16, [some (.inl (-x0)), some (.inl 0), some (.inl (-10)), some (.inl 1)], [], (J, L, W), c, sl) Qr Qx)))) :
    NW sc d_J6_stringSize_0f7a4 D (0, [some (.inl x0), none, none, none], [], (J, L, W), c, sl) Qr Qx := by
  refine nw_iconst (len := 0) l_J6_stringSize_0f7a4_0 1 rfl c_1 ?_
  refine nw_istore_n l_J6_stringSize_0f7a4_1 2 rfl rfl (ls' := [some (.inl x0), some (.inl 1), none, none]) rfl ?_
  refine nw_iload_n l_J6_stringSize_0f7a4_2 3 rfl rfl ?_
  refine nw_if_lt l_J6_stringSize_0f7a4_3 6 rfl (fun q1 => ?_) (fun q1 => ?_)
  · replace h := h.1 q1
    refine nw_bipush (len := 0) l_J6_stringSize_0f7a4_11 13 rfl c_n10 ?_
    refine nw_istore_n l_J6_stringSize_0f7a4_13 14 rfl rfl (ls' := [some (.inl x0), some (.inl 1), some (.inl (-10)), none]) rfl ?_
    refine nw_iconst (len := 0) l_J6_stringSize_0f7a4_14 15 rfl c_1 ?_
    refine nw_istore_n l_J6_stringSize_0f7a4_15 16 rfl rfl (ls' := [some (.inl x0), some (.inl 1), some (.inl (-10)), some (.inl 1)]) rfl ?_
    exact h
  · replace h := h.2 q1
    refine nw_iconst (len := 0) l_J6_stringSize_0f7a4_6 7 rfl c_0 ?_
    refine nw_istore_n l_J6_stringSize_0f7a4_7 8 rfl rfl (ls' := [some (.inl x0), some (.inl 0), none, none]) rfl ?_
    refine nw_iload_n l_J6_stringSize_0f7a4_8 9 rfl rfl ?_
    have o2 := h.1
    replace h := h.2
    refine nw_ineg l_J6_stringSize_0f7a4_9 10 rfl o2 ?_
    refine nw_istore_n l_J6_stringSize_0f7a4_10 11 rfl rfl (ls' := [some (.inl (-x0)), some (.inl 0), none, none]) rfl ?_
    refine nw_bipush (len := 0) l_J6_stringSize_0f7a4_11 13 rfl c_n10 ?_
    refine nw_istore_n l_J6_stringSize_0f7a4_13 14 rfl rfl (ls' := [some (.inl (-x0)), some (.inl 0), some (.inl (-10)), none]) rfl ?_
    refine nw_iconst (len := 0) l_J6_stringSize_0f7a4_14 15 rfl c_1 ?_
    refine nw_istore_n l_J6_stringSize_0f7a4_15 16 rfl rfl (ls' := [some (.inl (-x0)), some (.inl 0), some (.inl (-10)), some (.inl 1)]) rfl ?_
    exact h
theorem b_J6_stringSize_0f7a4_16 {x0 : Int} {x1 : Int} {x2 : Int} {x3 : Int} (h : ((10 ≤ x3 → ((-2147483648 ≤ 10 + x1 ∧ 10 + x1 < 2147483648) ∧ Qr (some (.inl (10 + x1))) (J, L, W))) ∧ (x3 < 10 → ((x0 ≤ x2 → ((-2147483648 ≤ 10 * x2 ∧ 10 * x2 < 2147483648) ∧ ((-2147483648 ≤ x3 + 1 ∧ x3 + 1 < 2147483648) ∧ NW sc d_J6_stringSize_0f7a4 D (16, [some (.inl x0), some (.inl x1), some (.inl (10 * x2)), some (.inl (x3 + 1))], [], (J, L, W), c, sl) Qr Qx))) ∧ (x2 < x0 → ((-2147483648 ≤ x3 + x1 ∧ x3 + x1 < 2147483648) ∧ Qr (some (.inl (x3 + x1))) (J, L, W))))))) :
    NW sc d_J6_stringSize_0f7a4 D (16, [some (.inl x0), some (.inl x1), some (.inl x2), some (.inl x3)], [], (J, L, W), c, sl) Qr Qx := by
  refine nw_iload_n l_J6_stringSize_0f7a4_16 17 rfl rfl ?_
  refine nw_bipush (len := 0) l_J6_stringSize_0f7a4_17 19 rfl c_10 ?_
  refine nw_ic_ge l_J6_stringSize_0f7a4_19 22 rfl (fun q1 => ?_) (fun q1 => ?_)
  · replace h := h.1 q1
    refine nw_bipush (len := 0) l_J6_stringSize_0f7a4_42 44 rfl c_10 ?_
    refine nw_iload_n l_J6_stringSize_0f7a4_44 45 rfl rfl ?_
    have o2 := h.1
    replace h := h.2
    refine nw_iadd l_J6_stringSize_0f7a4_45 46 rfl o2 ?_
    refine nw_ireturn l_J6_stringSize_0f7a4_46 rfl ?_
    exact h
  · replace h := h.2 q1
    refine nw_iload_n l_J6_stringSize_0f7a4_22 23 rfl rfl ?_
    refine nw_iload_n l_J6_stringSize_0f7a4_23 24 rfl rfl ?_
    refine nw_ic_le l_J6_stringSize_0f7a4_24 27 rfl (fun q3 => ?_) (fun q3 => ?_)
    · replace h := h.1 q3
      refine nw_bipush (len := 0) l_J6_stringSize_0f7a4_31 33 rfl c_10 ?_
      refine nw_iload_n l_J6_stringSize_0f7a4_33 34 rfl rfl ?_
      have o4 := h.1
      replace h := h.2
      refine nw_imul l_J6_stringSize_0f7a4_34 35 rfl o4 ?_
      refine nw_istore_n l_J6_stringSize_0f7a4_35 36 rfl rfl (ls' := [some (.inl x0), some (.inl x1), some (.inl (10 * x2)), some (.inl x3)]) rfl ?_
      have o5 := h.1
      replace h := h.2
      refine nw_iinc l_J6_stringSize_0f7a4_36 39 rfl 1 (by decide) rfl rfl o5 (ls' := [some (.inl x0), some (.inl x1), some (.inl (10 * x2)), some (.inl (x3 + 1))]) rfl ?_
      refine nw_goto l_J6_stringSize_0f7a4_39 ?_
      exact h
    · replace h := h.2 q3
      refine nw_iload_n l_J6_stringSize_0f7a4_27 28 rfl rfl ?_
      refine nw_iload_n l_J6_stringSize_0f7a4_28 29 rfl rfl ?_
      have o6 := h.1
      replace h := h.2
      refine nw_iadd l_J6_stringSize_0f7a4_29 30 rfl o6 ?_
      refine nw_ireturn l_J6_stringSize_0f7a4_30 rfl ?_
      exact h
theorem b_J6_getChars_ba4f3_0 {x0 : Int} {x1 : Int} (h : ((0 ≤ x0 → ((-2147483648 ≤ -x0 ∧ -x0 < 2147483648) ∧ NW sc d_J6_getChars_ba4f3 D (22, [some (.inl (-x0)), none, some (.inr (.inl (some (W.2.2.1)))), none, none, some (.inl x1), some (.inl 0)], [], (J, L, W), c, sl) Qr Qx)) ∧ (x0 < 0 → NW sc d_J6_getChars_ba4f3 D (22, [some (.inl x0), none, some (.inr (.inl (some (W.2.2.1)))), none, none, some (.inl x1), some (.inl 1)], [], (J, L, W), c, sl) Qr Qx))) :
    NW sc d_J6_getChars_ba4f3 D (0, [some (.inl x0), some (.inl x1), some (.inr (.inl (some (W.2.2.1)))), none, none, none, none], [], (J, L, W), c, sl) Qr Qx := by
  refine nw_iload_n l_J6_getChars_ba4f3_0 1 rfl rfl ?_
  refine nw_istore l_J6_getChars_ba4f3_1 3 rfl rfl (ls' := [some (.inl x0), some (.inl x1), some (.inr (.inl (some (W.2.2.1)))), none, none, some (.inl x1), none]) rfl ?_
  refine nw_iload_n l_J6_getChars_ba4f3_3 4 rfl rfl ?_
  refine nw_if_ge l_J6_getChars_ba4f3_4 7 rfl (fun q1 => ?_) (fun q1 => ?_)
  · replace h := h.1 q1
    refine nw_iconst (len := 0) l_J6_getChars_ba4f3_11 12 rfl c_0 ?_
    refine nw_istore l_J6_getChars_ba4f3_12 14 rfl rfl (ls' := [some (.inl x0), some (.inl x1), some (.inr (.inl (some (W.2.2.1)))), none, none, some (.inl x1), some (.inl 0)]) rfl ?_
    refine nw_iload l_J6_getChars_ba4f3_14 16 rfl rfl ?_
    refine nw_if_ne l_J6_getChars_ba4f3_16 19 rfl (fun q => absurd q (by decide)) (fun _ => ?_)
    refine nw_iload_n l_J6_getChars_ba4f3_19 20 rfl rfl ?_
    have o2 := h.1
    replace h := h.2
    refine nw_ineg l_J6_getChars_ba4f3_20 21 rfl o2 ?_
    refine nw_istore_n l_J6_getChars_ba4f3_21 22 rfl rfl (ls' := [some (.inl (-x0)), some (.inl x1), some (.inr (.inl (some (W.2.2.1)))), none, none, some (.inl x1), some (.inl 0)]) rfl ?_
    refine nw_drop (ls' := [some (.inl (-x0)), none, some (.inr (.inl (some (W.2.2.1)))), none, none, some (.inl x1), some (.inl 0)]) ⟨rfl, ⟨True.intro, ⟨rfl, ⟨True.intro, ⟨True.intro, ⟨rfl, ⟨rfl, True.intro⟩⟩⟩⟩⟩⟩⟩ ?_
    exact h
  · replace h := h.2 q1
    refine nw_iconst (len := 0) l_J6_getChars_ba4f3_7 8 rfl c_1 ?_
    refine nw_goto l_J6_getChars_ba4f3_8 ?_
    refine nw_istore l_J6_getChars_ba4f3_12 14 rfl rfl (ls' := [some (.inl x0), some (.inl x1), some (.inr (.inl (some (W.2.2.1)))), none, none, some (.inl x1), some (.inl 1)]) rfl ?_
    refine nw_iload l_J6_getChars_ba4f3_14 16 rfl rfl ?_
    refine nw_if_ne l_J6_getChars_ba4f3_16 19 rfl (fun _ => ?_) (fun q => absurd q (by decide))
    refine nw_drop (ls' := [some (.inl x0), none, some (.inr (.inl (some (W.2.2.1)))), none, none, some (.inl x1), some (.inl 1)]) ⟨rfl, ⟨True.intro, ⟨rfl, ⟨True.intro, ⟨True.intro, ⟨rfl, ⟨rfl, True.intro⟩⟩⟩⟩⟩⟩⟩ ?_
    exact h
theorem b_J6_getChars_ba4f3_22 {x0 : Int} {x5 : Int} {x6 : Int} {m : Nat} (hk : nw_K (J, L, W) W.2.2.1 (24, m)) (hm : m < 2000) (h : (((-100) < x0 → ((-2147483648 ≤ x5 + (-1) ∧ x5 + (-1) < 2147483648) ∧ ((-2147483648 ≤ -x0 ∧ -x0 < 2147483648) ∧ ((0 ≤ -x0 ∧ -x0 < (mw_ol 1000201 : Int)) ∧ ((0 ≤ x5 + (-1) ∧ x5 + (-1) < (m : Int)) ∧ ((-128 ≤ nw_ob 1000201 (-x0) ∧ nw_ob 1000201 (-x0) < 128) ∧ (((-9) ≤ x0 → ((x6 = 0 → Qr (some (.inl (x5 + (-1)))) (nw_u J (W.2.2.1) (x5 + (-1)) (nw_ob 1000201 (-x0)), L, W)) ∧ (¬ x6 = 0 → ((-2147483648 ≤ (x5 + (-1)) + (-1) ∧ (x5 + (-1)) + (-1) < 2147483648) ∧ ((0 ≤ (x5 + (-1)) + (-1) ∧ (x5 + (-1)) + (-1) < (m : Int)) ∧ Qr (some (.inl ((x5 + (-1)) + (-1)))) (nw_u (nw_u J (W.2.2.1) (x5 + (-1)) (nw_ob 1000201 (-x0))) (W.2.2.1) ((x5 + (-1)) + (-1)) 45, L, W)))))) ∧ (x0 < (-9) → ((-2147483648 ≤ (x5 + (-1)) + (-1) ∧ (x5 + (-1)) + (-1) < 2147483648) ∧ ((0 ≤ -x0 ∧ -x0 < (mw_ol 1000202 : Int)) ∧ ((0 ≤ (x5 + (-1)) + (-1) ∧ (x5 + (-1)) + (-1) < (m : Int)) ∧ ((-128 ≤ nw_ob 1000202 (-x0) ∧ nw_ob 1000202 (-x0) < 128) ∧ ((x6 = 0 → Qr (some (.inl ((x5 + (-1)) + (-1)))) (nw_u (nw_u J (W.2.2.1) (x5 + (-1)) (nw_ob 1000201 (-x0))) (W.2.2.1) ((x5 + (-1)) + (-1)) (nw_ob 1000202 (-x0)), L, W)) ∧ (¬ x6 = 0 → ((-2147483648 ≤ ((x5 + (-1)) + (-1)) + (-1) ∧ ((x5 + (-1)) + (-1)) + (-1) < 2147483648) ∧ ((0 ≤ ((x5 + (-1)) + (-1)) + (-1) ∧ ((x5 + (-1)) + (-1)) + (-1) < (m : Int)) ∧ Qr (some (.inl (((x5 + (-1)) + (-1)) + (-1)))) (nw_u (nw_u (nw_u J (W.2.2.1) (x5 + (-1)) (nw_ob 1000201 (-x0))) (W.2.2.1) ((x5 + (-1)) + (-1)) (nw_ob 1000202 (-x0))) (W.2.2.1) (((x5 + (-1)) + (-1)) + (-1)) 45, L, W))))))))))))))))) ∧ (x0 ≤ (-100) → ((x0 ≤ 0) ∧ ((-2147483648 ≤ (-(-x0 / 100)) * 100 ∧ (-(-x0 / 100)) * 100 < 2147483648) ∧ ((-2147483648 ≤ ((-(-x0 / 100)) * 100) - x0 ∧ ((-(-x0 / 100)) * 100) - x0 < 2147483648) ∧ ((-2147483648 ≤ x5 + (-1) ∧ x5 + (-1) < 2147483648) ∧ ((0 ≤ ((-(-x0 / 100)) * 100) - x0 ∧ ((-(-x0 / 100)) * 100) - x0 < (mw_ol 1000201 : Int)) ∧ ((0 ≤ x5 + (-1) ∧ x5 + (-1) < (m : Int)) ∧ ((-128 ≤ nw_ob 1000201 (((-(-x0 / 100)) * 100) - x0) ∧ nw_ob 1000201 (((-(-x0 / 100)) * 100) - x0) < 128) ∧ ((-2147483648 ≤ (x5 + (-1)) + (-1) ∧ (x5 + (-1)) + (-1) < 2147483648) ∧ ((0 ≤ ((-(-x0 / 100)) * 100) - x0 ∧ ((-(-x0 / 100)) * 100) - x0 < (mw_ol 1000202 : Int)) ∧ ((0 ≤ (x5 + (-1)) + (-1) ∧ (x5 + (-1)) + (-1) < (m : Int)) ∧ ((-128 ≤ nw_ob 1000202 (((-(-x0 / 100)) * 100) - x0) ∧ nw_ob 1000202 (((-(-x0 / 100)) * 100) - x0) < 128) ∧ NW sc d_J6_getChars_ba4f3 D (22, [some (.inl (-(-x0 / 100))), none, some (.inr (.inl (some (W.2.2.1)))), none, none, some (.inl ((x5 + (-1)) + (-1))), some (.inl x6)], [], (nw_u (nw_u J (W.2.2.1) (x5 + (-1)) (nw_ob 1000201 (((-(-x0 / 100)) * 100) - x0))) (W.2.2.1) ((x5 + (-1)) + (-1)) (nw_ob 1000202 (((-(-x0 / 100)) * 100) - x0)), L, W), c, sl) Qr Qx)))))))))))))) :
    NW sc d_J6_getChars_ba4f3 D (22, [some (.inl x0), none, some (.inr (.inl (some (W.2.2.1)))), none, none, some (.inl x5), some (.inl x6)], [], (J, L, W), c, sl) Qr Qx := by
  refine nw_iload_n l_J6_getChars_ba4f3_22 23 rfl rfl ?_
  refine nw_bipush (len := 0) l_J6_getChars_ba4f3_23 25 rfl c_n100 ?_
  refine nw_ic_gt l_J6_getChars_ba4f3_25 28 rfl (fun q1 => ?_) (fun q1 => ?_)
  · replace h := h.1 q1
    refine nw_aload_n l_J6_getChars_ba4f3_72 73 rfl rfl ?_
    have o2 := h.1
    replace h := h.2
    refine nw_iinc l_J6_getChars_ba4f3_73 76 rfl (-1) (by decide) rfl rfl o2 (ls' := [some (.inl x0), none, some (.inr (.inl (some (W.2.2.1)))), none, none, some (.inl (x5 + (-1))), some (.inl x6)]) rfl ?_
    refine nw_iload l_J6_getChars_ba4f3_76 78 rfl rfl ?_
    refine nw_gst1 l_J6_getChars_ba4f3_78 81 rfl ?_
    refine nw_iload_n l_J6_getChars_ba4f3_81 82 rfl rfl ?_
    have o3 := h.1
    replace h := h.2
    refine nw_ineg l_J6_getChars_ba4f3_82 83 rfl o3 ?_
    have o4 := h.1
    replace h := h.2
    refine nw_baldO l_J6_getChars_ba4f3_83 84 rfl (by decide) o4 ?_
    have o5 := h.1
    replace h := h.2
    have o6 := h.1
    replace h := h.2
    refine nw_bastX l_J6_getChars_ba4f3_84 85 rfl hk o5 o6 ?_
    refine nw_iload_n l_J6_getChars_ba4f3_85 86 rfl rfl ?_
    refine nw_bipush (len := 0) l_J6_getChars_ba4f3_86 88 rfl c_n9 ?_
    refine nw_ic_ge l_J6_getChars_ba4f3_88 91 rfl (fun q7 => ?_) (fun q7 => ?_)
    · replace h := h.1 q7
      refine nw_iload l_J6_getChars_ba4f3_104 106 rfl rfl ?_
      refine nw_if_eq l_J6_getChars_ba4f3_106 109 rfl (fun q8 => ?_) (fun q8 => ?_)
      · replace h := h.1 q8
        refine nw_iload l_J6_getChars_ba4f3_118 120 rfl rfl ?_
        refine nw_ireturn l_J6_getChars_ba4f3_120 rfl ?_
        exact h
      · replace h := h.2 q8
        refine nw_aload_n l_J6_getChars_ba4f3_109 110 rfl rfl ?_
        have o9 := h.1
        replace h := h.2
        refine nw_iinc l_J6_getChars_ba4f3_110 113 rfl (-1) (by decide) rfl rfl o9 (ls' := [some (.inl x0), none, some (.inr (.inl (some (W.2.2.1)))), none, none, some (.inl ((x5 + (-1)) + (-1))), some (.inl x6)]) rfl ?_
        refine nw_iload l_J6_getChars_ba4f3_113 115 rfl rfl ?_
        refine nw_bipush (len := 0) l_J6_getChars_ba4f3_115 117 rfl c_45 ?_
        have o10 := h.1
        replace h := h.2
        refine nw_bastX l_J6_getChars_ba4f3_117 118 rfl hk o10 ⟨by decide, by decide⟩ ?_
        refine nw_iload l_J6_getChars_ba4f3_118 120 rfl rfl ?_
        refine nw_ireturn l_J6_getChars_ba4f3_120 rfl ?_
        exact h
    · replace h := h.2 q7
      refine nw_aload_n l_J6_getChars_ba4f3_91 92 rfl rfl ?_
      have o11 := h.1
      replace h := h.2
      refine nw_iinc l_J6_getChars_ba4f3_92 95 rfl (-1) (by decide) rfl rfl o11 (ls' := [some (.inl x0), none, some (.inr (.inl (some (W.2.2.1)))), none, none, some (.inl ((x5 + (-1)) + (-1))), some (.inl x6)]) rfl ?_
      refine nw_iload l_J6_getChars_ba4f3_95 97 rfl rfl ?_
      refine nw_gst2 l_J6_getChars_ba4f3_97 100 rfl ?_
      refine nw_iload_n l_J6_getChars_ba4f3_100 101 rfl rfl ?_
      refine nw_ineg l_J6_getChars_ba4f3_101 102 rfl o3 ?_
      have o12 := h.1
      replace h := h.2
      refine nw_baldO l_J6_getChars_ba4f3_102 103 rfl (by decide) o12 ?_
      have o13 := h.1
      replace h := h.2
      have o14 := h.1
      replace h := h.2
      refine nw_bastX l_J6_getChars_ba4f3_103 104 rfl hk o13 o14 ?_
      refine nw_iload l_J6_getChars_ba4f3_104 106 rfl rfl ?_
      refine nw_if_eq l_J6_getChars_ba4f3_106 109 rfl (fun q15 => ?_) (fun q15 => ?_)
      · replace h := h.1 q15
        refine nw_iload l_J6_getChars_ba4f3_118 120 rfl rfl ?_
        refine nw_ireturn l_J6_getChars_ba4f3_120 rfl ?_
        exact h
      · replace h := h.2 q15
        refine nw_aload_n l_J6_getChars_ba4f3_109 110 rfl rfl ?_
        have o16 := h.1
        replace h := h.2
        refine nw_iinc l_J6_getChars_ba4f3_110 113 rfl (-1) (by decide) rfl rfl o16 (ls' := [some (.inl x0), none, some (.inr (.inl (some (W.2.2.1)))), none, none, some (.inl (((x5 + (-1)) + (-1)) + (-1))), some (.inl x6)]) rfl ?_
        refine nw_iload l_J6_getChars_ba4f3_113 115 rfl rfl ?_
        refine nw_bipush (len := 0) l_J6_getChars_ba4f3_115 117 rfl c_45 ?_
        have o17 := h.1
        replace h := h.2
        refine nw_bastX l_J6_getChars_ba4f3_117 118 rfl hk o17 ⟨by decide, by decide⟩ ?_
        refine nw_iload l_J6_getChars_ba4f3_118 120 rfl rfl ?_
        refine nw_ireturn l_J6_getChars_ba4f3_120 rfl ?_
        exact h
  · replace h := h.2 q1
    refine nw_iload_n l_J6_getChars_ba4f3_28 29 rfl rfl ?_
    refine nw_bipush (len := 0) l_J6_getChars_ba4f3_29 31 rfl c_100 ?_
    have o18 := h.1
    replace h := h.2
    refine nw_idivN l_J6_getChars_ba4f3_31 32 rfl ⟨o18, by decide⟩ ?_
    refine nw_istore_n l_J6_getChars_ba4f3_32 33 rfl rfl (ls' := [some (.inl x0), none, some (.inr (.inl (some (W.2.2.1)))), some (.inl (-(-x0 / 100))), none, some (.inl x5), some (.inl x6)]) rfl ?_
    refine nw_iload_n l_J6_getChars_ba4f3_33 34 rfl rfl ?_
    refine nw_bipush (len := 0) l_J6_getChars_ba4f3_34 36 rfl c_100 ?_
    have o19 := h.1
    replace h := h.2
    refine nw_imul l_J6_getChars_ba4f3_36 37 rfl o19 ?_
    refine nw_iload_n l_J6_getChars_ba4f3_37 38 rfl rfl ?_
    have o20 := h.1
    replace h := h.2
    refine nw_isub l_J6_getChars_ba4f3_38 39 rfl o20 ?_
    refine nw_istore l_J6_getChars_ba4f3_39 41 rfl rfl (ls' := [some (.inl x0), none, some (.inr (.inl (some (W.2.2.1)))), some (.inl (-(-x0 / 100))), some (.inl (((-(-x0 / 100)) * 100) - x0)), some (.inl x5), some (.inl x6)]) rfl ?_
    refine nw_iload_n l_J6_getChars_ba4f3_41 42 rfl rfl ?_
    refine nw_istore_n l_J6_getChars_ba4f3_42 43 rfl rfl (ls' := [some (.inl (-(-x0 / 100))), none, some (.inr (.inl (some (W.2.2.1)))), some (.inl (-(-x0 / 100))), some (.inl (((-(-x0 / 100)) * 100) - x0)), some (.inl x5), some (.inl x6)]) rfl ?_
    refine nw_aload_n l_J6_getChars_ba4f3_43 44 rfl rfl ?_
    have o21 := h.1
    replace h := h.2
    refine nw_iinc l_J6_getChars_ba4f3_44 47 rfl (-1) (by decide) rfl rfl o21 (ls' := [some (.inl (-(-x0 / 100))), none, some (.inr (.inl (some (W.2.2.1)))), some (.inl (-(-x0 / 100))), some (.inl (((-(-x0 / 100)) * 100) - x0)), some (.inl (x5 + (-1))), some (.inl x6)]) rfl ?_
    refine nw_iload l_J6_getChars_ba4f3_47 49 rfl rfl ?_
    refine nw_gst1 l_J6_getChars_ba4f3_49 52 rfl ?_
    refine nw_iload l_J6_getChars_ba4f3_52 54 rfl rfl ?_
    have o22 := h.1
    replace h := h.2
    refine nw_baldO l_J6_getChars_ba4f3_54 55 rfl (by decide) o22 ?_
    have o23 := h.1
    replace h := h.2
    have o24 := h.1
    replace h := h.2
    refine nw_bastX l_J6_getChars_ba4f3_55 56 rfl hk o23 o24 ?_
    refine nw_aload_n l_J6_getChars_ba4f3_56 57 rfl rfl ?_
    have o25 := h.1
    replace h := h.2
    refine nw_iinc l_J6_getChars_ba4f3_57 60 rfl (-1) (by decide) rfl rfl o25 (ls' := [some (.inl (-(-x0 / 100))), none, some (.inr (.inl (some (W.2.2.1)))), some (.inl (-(-x0 / 100))), some (.inl (((-(-x0 / 100)) * 100) - x0)), some (.inl ((x5 + (-1)) + (-1))), some (.inl x6)]) rfl ?_
    refine nw_iload l_J6_getChars_ba4f3_60 62 rfl rfl ?_
    refine nw_gst2 l_J6_getChars_ba4f3_62 65 rfl ?_
    refine nw_iload l_J6_getChars_ba4f3_65 67 rfl rfl ?_
    have o26 := h.1
    replace h := h.2
    refine nw_baldO l_J6_getChars_ba4f3_67 68 rfl (by decide) o26 ?_
    have o27 := h.1
    replace h := h.2
    have o28 := h.1
    replace h := h.2
    refine nw_bastX l_J6_getChars_ba4f3_68 69 rfl hk o27 o28 ?_
    refine nw_goto l_J6_getChars_ba4f3_69 ?_
    refine nw_drop (ls' := [some (.inl (-(-x0 / 100))), none, some (.inr (.inl (some (W.2.2.1)))), none, none, some (.inl ((x5 + (-1)) + (-1))), some (.inl x6)]) ⟨rfl, ⟨True.intro, ⟨rfl, ⟨True.intro, ⟨True.intro, ⟨rfl, ⟨rfl, True.intro⟩⟩⟩⟩⟩⟩⟩ ?_
    exact h
theorem b_J5_newCapacity_0f7a4_0 {x1 : Int} (hD : 6 ≤ D) (hco : J 301 1 = 0) {m : Nat} (hk : nw_K (J, L, W) W.2.2.1 (24, m)) (hm : m < 2000) (h0 : 0 < (m : Int) + (x1 - (m : Int)) ∧ (m : Int) + (x1 - (m : Int)) ≤ 2147483639 ∧ ¬ (m : Int) + (x1 - (m : Int)) = 2147483647) (h1 : 0 < (m : Int) + ((m : Int) + 2) ∧ (m : Int) + ((m : Int) + 2) ≤ 2147483639 ∧ ¬ (m : Int) + ((m : Int) + 2) = 2147483647) (h : ((-2147483648 ≤ x1 - (m : Int) ∧ x1 - (m : Int) < 2147483648) ∧ ((-2147483648 ≤ (m : Int) + 2 ∧ (m : Int) + 2 < 2147483648) ∧ ((x1 - (m : Int) < (m : Int) + 2 → ((-2147483648 ≤ (m : Int) + ((m : Int) + 2) ∧ (m : Int) + ((m : Int) + 2) < 2147483648) ∧ Qr (some (.inl ((m : Int) + ((m : Int) + 2)))) (J, L, W))) ∧ ((m : Int) + 2 ≤ x1 - (m : Int) → ((-2147483648 ≤ (m : Int) + (x1 - (m : Int)) ∧ (m : Int) + (x1 - (m : Int)) < 2147483648) ∧ Qr (some (.inl ((m : Int) + (x1 - (m : Int))))) (J, L, W))))))) :
    NW sc d_J5_newCapacity_0f7a4 D (0, [some (.inr (.inl (some 301))), some (.inl x1), none, none, none, none], [], (J, L, W), c, sl) Qr Qx := by
  refine nw_aload_n l_J5_newCapacity_0f7a4_0 1 rfl rfl ?_
  refine nw_getSB l_J5_newCapacity_0f7a4_1 4 rfl ?_
  refine nw_alenX l_J5_newCapacity_0f7a4_4 5 rfl hk ⟨by decide, by decide, hm⟩ ?_
  refine nw_istore_n l_J5_newCapacity_0f7a4_5 6 rfl rfl (ls' := [some (.inr (.inl (some 301))), some (.inl x1), some (.inl (m : Int)), none, none, none]) rfl ?_
  refine nw_iload_n l_J5_newCapacity_0f7a4_6 7 rfl rfl ?_
  refine nw_aload_n l_J5_newCapacity_0f7a4_7 8 rfl rfl ?_
  refine nw_getZ l_J5_newCapacity_0f7a4_8 11 rfl k_301 (v := 0) hco ?_
  refine nw_ishl0 l_J5_newCapacity_0f7a4_11 12 rfl ?_
  refine nw_istore_n l_J5_newCapacity_0f7a4_12 13 rfl rfl (ls' := [some (.inr (.inl (some 301))), some (.inl x1), some (.inl (m : Int)), some (.inl x1), none, none]) rfl ?_
  refine nw_iload_n l_J5_newCapacity_0f7a4_13 14 rfl rfl ?_
  refine nw_iload_n l_J5_newCapacity_0f7a4_14 15 rfl rfl ?_
  have o1 := h.1
  replace h := h.2
  refine nw_isub l_J5_newCapacity_0f7a4_15 16 rfl o1 ?_
  refine nw_istore l_J5_newCapacity_0f7a4_16 18 rfl rfl (ls' := [some (.inr (.inl (some 301))), some (.inl x1), some (.inl (m : Int)), some (.inl x1), some (.inl (x1 - (m : Int))), none]) rfl ?_
  refine nw_iload_n l_J5_newCapacity_0f7a4_18 19 rfl rfl ?_
  refine nw_iload l_J5_newCapacity_0f7a4_19 21 rfl rfl ?_
  refine nw_iload_n l_J5_newCapacity_0f7a4_21 22 rfl rfl ?_
  refine nw_iconst (len := 0) l_J5_newCapacity_0f7a4_22 23 rfl c_2 ?_
  refine nw_aload_n l_J5_newCapacity_0f7a4_23 24 rfl rfl ?_
  refine nw_getZ l_J5_newCapacity_0f7a4_24 27 rfl k_301 (v := 0) hco ?_
  refine nw_ishl0 l_J5_newCapacity_0f7a4_27 28 rfl ?_
  have o2 := h.1
  replace h := h.2
  refine nw_iadd l_J5_newCapacity_0f7a4_28 29 rfl o2 ?_
  refine nw_call0 4 0 l_J5_newCapacity_0f7a4_29 rfl rfl g_J8_newLength_cabcc (Nat.lt_of_lt_of_le (by decide) hD) rfl True.intro (ls' := [some (.inl (m : Int)), some (.inl (x1 - (m : Int))), some (.inl ((m : Int) + 2)), none]) rfl (st' := []) rfl 32 rfl ?_
  refine nw_iload_n l_J8_newLength_cabcc_0 1 rfl rfl ?_
  refine nw_iload_n l_J8_newLength_cabcc_1 2 rfl rfl ?_
  refine nw_iload_n l_J8_newLength_cabcc_2 3 rfl rfl ?_
  refine nw_call0 0 0 l_J8_newLength_cabcc_3 rfl rfl g_J9_max_7cf53 (by decide) rfl True.intro (ls' := [some (.inl (x1 - (m : Int))), some (.inl ((m : Int) + 2))]) rfl (st' := [.inl (m : Int)]) rfl 6 rfl ?_
  refine nw_iload_n l_J9_max_7cf53_0 1 rfl rfl ?_
  refine nw_iload_n l_J9_max_7cf53_1 2 rfl rfl ?_
  refine nw_ic_lt l_J9_max_7cf53_2 5 rfl (fun q3 => ?_) (fun q3 => ?_)
  · replace h := h.1 q3
    refine nw_iload_n l_J9_max_7cf53_9 10 rfl rfl ?_
    refine nw_ireturn l_J9_max_7cf53_10 rfl ?_
    have o4 := h.1
    replace h := h.2
    refine nw_iadd l_J8_newLength_cabcc_6 7 rfl o4 ?_
    refine nw_istore_n l_J8_newLength_cabcc_7 8 rfl rfl (ls' := [some (.inl (m : Int)), some (.inl (x1 - (m : Int))), some (.inl ((m : Int) + 2)), some (.inl ((m : Int) + ((m : Int) + 2)))]) rfl ?_
    refine nw_iconst (len := 0) l_J8_newLength_cabcc_8 9 rfl c_0 ?_
    refine nw_iload_n l_J8_newLength_cabcc_9 10 rfl rfl ?_
    refine nw_ic_ge l_J8_newLength_cabcc_10 13 rfl (fun q => absurd q (by omega)) (fun _ => ?_)
    refine nw_iload_n l_J8_newLength_cabcc_13 14 rfl rfl ?_
    refine nw_ldc (len := 0) l_J8_newLength_cabcc_14 16 rfl c_2147483639 (by decide) ?_
    refine nw_ic_gt l_J8_newLength_cabcc_16 19 rfl (fun q => absurd q (by omega)) (fun _ => ?_)
    refine nw_iload_n l_J8_newLength_cabcc_19 20 rfl rfl ?_
    refine nw_ireturn l_J8_newLength_cabcc_20 rfl ?_
    refine nw_istore l_J5_newCapacity_0f7a4_32 34 rfl rfl (ls' := [some (.inr (.inl (some 301))), some (.inl x1), some (.inl (m : Int)), some (.inl x1), some (.inl (x1 - (m : Int))), some (.inl ((m : Int) + ((m : Int) + 2)))]) rfl ?_
    refine nw_iload l_J5_newCapacity_0f7a4_34 36 rfl rfl ?_
    refine nw_ldc (len := 0) l_J5_newCapacity_0f7a4_36 38 rfl c_2147483647 (by decide) ?_
    refine nw_ic_ne l_J5_newCapacity_0f7a4_38 41 rfl (fun _ => ?_) (fun q => absurd q (by omega))
    refine nw_iload l_J5_newCapacity_0f7a4_51 53 rfl rfl ?_
    refine nw_aload_n l_J5_newCapacity_0f7a4_53 54 rfl rfl ?_
    refine nw_getZ l_J5_newCapacity_0f7a4_54 57 rfl k_301 (v := 0) hco ?_
    refine nw_ishr0 l_J5_newCapacity_0f7a4_57 58 rfl ?_
    refine nw_ireturn l_J5_newCapacity_0f7a4_58 rfl ?_
    exact h
  · replace h := h.2 q3
    refine nw_iload_n l_J9_max_7cf53_5 6 rfl rfl ?_
    refine nw_goto l_J9_max_7cf53_6 ?_
    refine nw_ireturn l_J9_max_7cf53_10 rfl ?_
    have o5 := h.1
    replace h := h.2
    refine nw_iadd l_J8_newLength_cabcc_6 7 rfl o5 ?_
    refine nw_istore_n l_J8_newLength_cabcc_7 8 rfl rfl (ls' := [some (.inl (m : Int)), some (.inl (x1 - (m : Int))), some (.inl ((m : Int) + 2)), some (.inl ((m : Int) + (x1 - (m : Int))))]) rfl ?_
    refine nw_iconst (len := 0) l_J8_newLength_cabcc_8 9 rfl c_0 ?_
    refine nw_iload_n l_J8_newLength_cabcc_9 10 rfl rfl ?_
    refine nw_ic_ge l_J8_newLength_cabcc_10 13 rfl (fun q => absurd q (by omega)) (fun _ => ?_)
    refine nw_iload_n l_J8_newLength_cabcc_13 14 rfl rfl ?_
    refine nw_ldc (len := 0) l_J8_newLength_cabcc_14 16 rfl c_2147483639 (by decide) ?_
    refine nw_ic_gt l_J8_newLength_cabcc_16 19 rfl (fun q => absurd q (by omega)) (fun _ => ?_)
    refine nw_iload_n l_J8_newLength_cabcc_19 20 rfl rfl ?_
    refine nw_ireturn l_J8_newLength_cabcc_20 rfl ?_
    refine nw_istore l_J5_newCapacity_0f7a4_32 34 rfl rfl (ls' := [some (.inr (.inl (some 301))), some (.inl x1), some (.inl (m : Int)), some (.inl x1), some (.inl (x1 - (m : Int))), some (.inl ((m : Int) + (x1 - (m : Int))))]) rfl ?_
    refine nw_iload l_J5_newCapacity_0f7a4_34 36 rfl rfl ?_
    refine nw_ldc (len := 0) l_J5_newCapacity_0f7a4_36 38 rfl c_2147483647 (by decide) ?_
    refine nw_ic_ne l_J5_newCapacity_0f7a4_38 41 rfl (fun _ => ?_) (fun q => absurd q (by omega))
    refine nw_iload l_J5_newCapacity_0f7a4_51 53 rfl rfl ?_
    refine nw_aload_n l_J5_newCapacity_0f7a4_53 54 rfl rfl ?_
    refine nw_getZ l_J5_newCapacity_0f7a4_54 57 rfl k_301 (v := 0) hco ?_
    refine nw_ishr0 l_J5_newCapacity_0f7a4_57 58 rfl ?_
    refine nw_ireturn l_J5_newCapacity_0f7a4_58 rfl ?_
    exact h
theorem b_J5_ensureCapacityInternal_d00df_0 {x1 : Int} (hD : 8 ≤ D) (hco : J 301 1 = 0) {m : Nat} (hk : nw_K (J, L, W) W.2.2.1 (24, m)) (hm : m < 2000) (h : ((-2147483648 ≤ x1 - (m : Int) ∧ x1 - (m : Int) < 2147483648) ∧ ((x1 - (m : Int) ≤ 0 → Qr none (J, L, W)) ∧ (0 < x1 - (m : Int) → NW sc d_J5_newCapacity_0f7a4 6 (0, [some (.inr (.inl (some 301))), some (.inl x1), none, none, none, none], [], (J, L, W), 0, 0) (fun v M9 => NW sc d_J5_ensureCapacityInternal_d00df D (27, [some (.inr (.inl (some 301))), none, none], nw_push v [.inr (.inl (some (W.2.2.1))), .inr (.inl (some 301))], M9, c, sl) Qr Qx) Qx)))) :
    NW sc d_J5_ensureCapacityInternal_d00df D (0, [some (.inr (.inl (some 301))), some (.inl x1), none], [], (J, L, W), c, sl) Qr Qx := by
  refine nw_aload_n l_J5_ensureCapacityInternal_d00df_0 1 rfl rfl ?_
  refine nw_getSB l_J5_ensureCapacityInternal_d00df_1 4 rfl ?_
  refine nw_alenX l_J5_ensureCapacityInternal_d00df_4 5 rfl hk ⟨by decide, by decide, hm⟩ ?_
  refine nw_aload_n l_J5_ensureCapacityInternal_d00df_5 6 rfl rfl ?_
  refine nw_getZ l_J5_ensureCapacityInternal_d00df_6 9 rfl k_301 (v := 0) hco ?_
  refine nw_ishr0 l_J5_ensureCapacityInternal_d00df_9 10 rfl ?_
  refine nw_istore_n l_J5_ensureCapacityInternal_d00df_10 11 rfl rfl (ls' := [some (.inr (.inl (some 301))), some (.inl x1), some (.inl (m : Int))]) rfl ?_
  refine nw_iload_n l_J5_ensureCapacityInternal_d00df_11 12 rfl rfl ?_
  refine nw_iload_n l_J5_ensureCapacityInternal_d00df_12 13 rfl rfl ?_
  have o1 := h.1
  replace h := h.2
  refine nw_isub l_J5_ensureCapacityInternal_d00df_13 14 rfl o1 ?_
  refine nw_if_le l_J5_ensureCapacityInternal_d00df_14 17 rfl (fun q2 => ?_) (fun q2 => ?_)
  · replace h := h.1 q2
    refine nw_return l_J5_ensureCapacityInternal_d00df_38 rfl ?_
    exact h
  · replace h := h.2 q2
    refine nw_aload_n l_J5_ensureCapacityInternal_d00df_17 18 rfl rfl ?_
    refine nw_aload_n l_J5_ensureCapacityInternal_d00df_18 19 rfl rfl ?_
    refine nw_getSB l_J5_ensureCapacityInternal_d00df_19 22 rfl ?_
    refine nw_aload_n l_J5_ensureCapacityInternal_d00df_22 23 rfl rfl ?_
    refine nw_iload_n l_J5_ensureCapacityInternal_d00df_23 24 rfl rfl ?_
    refine nw_drop (ls' := [some (.inr (.inl (some 301))), none, none]) ⟨rfl, ⟨True.intro, ⟨True.intro, True.intro⟩⟩⟩ ?_
    refine nw_call0 6 301 l_J5_ensureCapacityInternal_d00df_24 rfl rfl g_J5_newCapacity_0f7a4 (Nat.lt_of_lt_of_le (by decide) hD) rfl (Or.inl ⟨_, rfl, k_301⟩) (ls' := [some (.inr (.inl (some 301))), some (.inl x1), none, none, none, none]) rfl (st' := [.inr (.inl (some (W.2.2.1))), .inr (.inl (some 301))]) rfl 27 rfl ?_
    exact h
theorem b_J5_ensureCapacityInternal_d00df_27 {y0 : Int} (hD : 8 ≤ D) (hc : 1 ≤ c) (hs : 150 ≤ sl) (hco : J 301 1 = 0) (h : NW sc d_J7_copyOf_9075b 6 (0, [some (.inr (.inl (some (W.2.2.1)))), some (.inl y0), none], [], (J, L, W), 1, 150) (fun v M9 => NW sc d_J5_ensureCapacityInternal_d00df D (35, [none, none, none], nw_push v [.inr (.inl (some 301))], M9, (c - 1), (sl - 150)) Qr Qx) Qx) :
    NW sc d_J5_ensureCapacityInternal_d00df D (27, [some (.inr (.inl (some 301))), none, none], [.inl y0, .inr (.inl (some (W.2.2.1))), .inr (.inl (some 301))], (J, L, W), c, sl) Qr Qx := by
  refine nw_aload_n l_J5_ensureCapacityInternal_d00df_27 28 rfl rfl ?_
  refine nw_getZ l_J5_ensureCapacityInternal_d00df_28 31 rfl k_301 (v := 0) hco ?_
  refine nw_ishl0 l_J5_ensureCapacityInternal_d00df_31 32 rfl ?_
  refine nw_drop (ls' := [none, none, none]) ⟨True.intro, ⟨True.intro, ⟨True.intro, True.intro⟩⟩⟩ ?_
  refine nw_call 6 1 150 0 l_J5_ensureCapacityInternal_d00df_32 rfl rfl g_J7_copyOf_9075b (Nat.lt_of_lt_of_le (by decide) hD) rfl (by omega) (by omega) True.intro (ls' := [some (.inr (.inl (some (W.2.2.1)))), some (.inl y0), none]) rfl (st' := [.inr (.inl (some 301))]) rfl 35 rfl (c' := (c - 1)) (by omega) (sl' := (sl - 150)) (by omega) ?_
  exact h
theorem b_J5_ensureCapacityInternal_d00df_35  {z9 : Nat} (h : Qr none (J, L, nw_sW W z9)) :
    NW sc d_J5_ensureCapacityInternal_d00df D (35, [none, none, none], [.inr (.inl (some z9)), .inr (.inl (some 301))], (J, L, W), c, sl) Qr Qx := by
  refine nw_putSB l_J5_ensureCapacityInternal_d00df_35 38 rfl ?_
  refine nw_return l_J5_ensureCapacityInternal_d00df_38 rfl ?_
  exact h
theorem b_J5_append_3fe6f_0 {x1 : Int} (hD : 10 ≤ D) (hc : 1 ≤ c) (hs : 150 ≤ sl) (h : ((-2147483648 ≤ (J 301 3) + 1 ∧ (J 301 3) + 1 < 2147483648) ∧ NW sc d_J5_ensureCapacityInternal_d00df 8 (0, [some (.inr (.inl (some 301))), some (.inl ((J 301 3) + 1)), none], [], (J, L, W), 1, 150) (fun v M9 => NW sc d_J5_append_3fe6f D (10, [some (.inr (.inl (some 301))), some (.inl x1)], nw_push v [], M9, (c - 1), (sl - 150)) Qr Qx) Qx)) :
    NW sc d_J5_append_3fe6f D (0, [some (.inr (.inl (some 301))), some (.inl x1)], [], (J, L, W), c, sl) Qr Qx := by
  refine nw_aload_n l_J5_append_3fe6f_0 1 rfl rfl ?_
  refine nw_aload_n l_J5_append_3fe6f_1 2 rfl rfl ?_
  refine nw_getI l_J5_append_3fe6f_2 5 rfl k_301 (v := J 301 3) rfl ?_
  refine nw_iconst (len := 0) l_J5_append_3fe6f_5 6 rfl c_1 ?_
  have o1 := h.1
  replace h := h.2
  refine nw_iadd l_J5_append_3fe6f_6 7 rfl o1 ?_
  refine nw_call 8 1 150 301 l_J5_append_3fe6f_7 rfl rfl g_J5_ensureCapacityInternal_d00df (Nat.lt_of_lt_of_le (by decide) hD) rfl (by omega) (by omega) (Or.inl ⟨_, rfl, k_301⟩) (ls' := [some (.inr (.inl (some 301))), some (.inl ((J 301 3) + 1)), none]) rfl (st' := []) rfl 10 rfl (c' := (c - 1)) (by omega) (sl' := (sl - 150)) (by omega) ?_
  exact h
theorem b_J5_append_3fe6f_10 {x1 : Int} (hD : 10 ≤ D) (hco : J 301 1 = 0) {m : Nat} (hk : nw_K (J, L, W) W.2.2.1 (24, m)) (hm : m < 2000) (h9 : x1 ≤ 255) (h : ((-2147483648 ≤ (J 301 3) + 1 ∧ (J 301 3) + 1 < 2147483648) ∧ ((-128 ≤ x1 ∧ x1 < 128) ∧ ((0 ≤ J 301 3 ∧ J 301 3 < (m : Int)) ∧ Qr (some (.inr (.inl (some 301)))) (nw_u (nw_u J 301 3 ((J 301 3) + 1)) (W.2.2.1) (J 301 3) x1, L, W))))) :
    NW sc d_J5_append_3fe6f D (10, [some (.inr (.inl (some 301))), some (.inl x1)], [], (J, L, W), c, sl) Qr Qx := by
  refine nw_aload_n l_J5_append_3fe6f_10 11 rfl rfl ?_
  refine nw_call0 4 301 l_J5_append_3fe6f_11 rfl rfl g_J5_isLatin1_aae02 (Nat.lt_of_lt_of_le (by decide) hD) rfl (Or.inl ⟨_, rfl, k_301⟩) (ls' := [some (.inr (.inl (some 301)))]) rfl (st' := []) rfl 14 rfl ?_
  refine nw_gst0 l_J5_isLatin1_aae02_0 3 rfl ?_
  refine nw_if_eq l_J5_isLatin1_aae02_3 6 rfl (fun q => absurd q (by decide)) (fun _ => ?_)
  refine nw_aload_n l_J5_isLatin1_aae02_6 7 rfl rfl ?_
  refine nw_getZ l_J5_isLatin1_aae02_7 10 rfl k_301 (v := 0) hco ?_
  refine nw_if_ne l_J5_isLatin1_aae02_10 13 rfl (fun q => absurd q (by decide)) (fun _ => ?_)
  refine nw_iconst (len := 0) l_J5_isLatin1_aae02_13 14 rfl c_1 ?_
  refine nw_goto l_J5_isLatin1_aae02_14 ?_
  refine nw_ireturnZ l_J5_isLatin1_aae02_18 rfl (Or.inr rfl) ?_
  refine nw_if_eq l_J5_append_3fe6f_14 17 rfl (fun q => absurd q (by decide)) (fun _ => ?_)
  refine nw_iload_n l_J5_append_3fe6f_17 18 rfl rfl ?_
  refine nw_call0 4 0 l_J5_append_3fe6f_18 rfl rfl g_J1_canEncode_fc78d (Nat.lt_of_lt_of_le (by decide) hD) rfl True.intro (ls' := [some (.inl x1)]) rfl (st' := []) rfl 21 rfl ?_
  refine nw_iload_n l_J1_canEncode_fc78d_0 1 rfl rfl ?_
  refine nw_sipush (len := 0) l_J1_canEncode_fc78d_1 4 rfl c_255 ?_
  refine nw_ic_gt l_J1_canEncode_fc78d_4 7 rfl (fun q => absurd q (by omega)) (fun _ => ?_)
  refine nw_iconst (len := 0) l_J1_canEncode_fc78d_7 8 rfl c_1 ?_
  refine nw_goto l_J1_canEncode_fc78d_8 ?_
  refine nw_ireturnZ l_J1_canEncode_fc78d_12 rfl (Or.inr rfl) ?_
  refine nw_if_eq l_J5_append_3fe6f_21 24 rfl (fun q => absurd q (by decide)) (fun _ => ?_)
  refine nw_aload_n l_J5_append_3fe6f_24 25 rfl rfl ?_
  refine nw_getSB l_J5_append_3fe6f_25 28 rfl ?_
  refine nw_aload_n l_J5_append_3fe6f_28 29 rfl rfl ?_
  refine nw_dupA l_J5_append_3fe6f_29 30 rfl ?_
  refine nw_getI l_J5_append_3fe6f_30 33 rfl k_301 (v := J 301 3) rfl ?_
  refine nw_dupx1 l_J5_append_3fe6f_33 34 rfl ?_
  refine nw_iconst (len := 0) l_J5_append_3fe6f_34 35 rfl c_1 ?_
  have o1 := h.1
  replace h := h.2
  refine nw_iadd l_J5_append_3fe6f_35 36 rfl o1 ?_
  refine nw_putI l_J5_append_3fe6f_36 39 rfl k_301 ?_
  refine nw_iload_n l_J5_append_3fe6f_39 40 rfl rfl ?_
  have o2 := h.1
  replace h := h.2
  refine nw_i2b l_J5_append_3fe6f_40 41 rfl o2 ?_
  have o3 := h.1
  replace h := h.2
  refine nw_bastX l_J5_append_3fe6f_41 42 rfl hk o3 o2 ?_
  refine nw_goto l_J5_append_3fe6f_42 ?_
  refine nw_aload_n l_J5_append_3fe6f_75 76 rfl rfl ?_
  refine nw_areturn l_J5_append_3fe6f_76 rfl ?_
  exact h
theorem b_J5_append_c97b9_0 {x1 : Int} (hD : 10 ≤ D) (h : NW sc d_J6_stringSize_0f7a4 4 (0, [some (.inl x1), none, none, none], [], (J, L, W), 0, 0) (fun v M9 => NW sc d_J5_append_c97b9 D (10, [some (.inr (.inl (some 301))), some (.inl x1), some (.inl (J 301 3)), none], nw_push v [.inl (J 301 3)], M9, c, sl) Qr Qx) Qx) :
    NW sc d_J5_append_c97b9 D (0, [some (.inr (.inl (some 301))), some (.inl x1), none, none], [], (J, L, W), c, sl) Qr Qx := by
  refine nw_aload_n l_J5_append_c97b9_0 1 rfl rfl ?_
  refine nw_getI l_J5_append_c97b9_1 4 rfl k_301 (v := J 301 3) rfl ?_
  refine nw_istore_n l_J5_append_c97b9_4 5 rfl rfl (ls' := [some (.inr (.inl (some 301))), some (.inl x1), some (.inl (J 301 3)), none]) rfl ?_
  refine nw_iload_n l_J5_append_c97b9_5 6 rfl rfl ?_
  refine nw_iload_n l_J5_append_c97b9_6 7 rfl rfl ?_
  refine nw_call0 4 0 l_J5_append_c97b9_7 rfl rfl g_J6_stringSize_0f7a4 (Nat.lt_of_lt_of_le (by decide) hD) rfl True.intro (ls' := [some (.inl x1), none, none, none]) rfl (st' := [.inl (J 301 3)]) rfl 10 rfl ?_
  exact h
theorem b_J5_append_c97b9_10 {x1 : Int} {x2 : Int} {y0 : Int} {y1 : Int} (hD : 10 ≤ D) (hc : 1 ≤ c) (hs : 150 ≤ sl) (h : ((-2147483648 ≤ y1 + y0 ∧ y1 + y0 < 2147483648) ∧ NW sc d_J5_ensureCapacityInternal_d00df 8 (0, [some (.inr (.inl (some 301))), some (.inl (y1 + y0)), none], [], (J, L, W), 1, 150) (fun v M9 => NW sc d_J5_append_c97b9 D (17, [some (.inr (.inl (some 301))), some (.inl x1), some (.inl x2), some (.inl (y1 + y0))], nw_push v [], M9, (c - 1), (sl - 150)) Qr Qx) Qx)) :
    NW sc d_J5_append_c97b9 D (10, [some (.inr (.inl (some 301))), some (.inl x1), some (.inl x2), none], [.inl y0, .inl y1], (J, L, W), c, sl) Qr Qx := by
  have o1 := h.1
  replace h := h.2
  refine nw_iadd l_J5_append_c97b9_10 11 rfl o1 ?_
  refine nw_istore_n l_J5_append_c97b9_11 12 rfl rfl (ls' := [some (.inr (.inl (some 301))), some (.inl x1), some (.inl x2), some (.inl (y1 + y0))]) rfl ?_
  refine nw_aload_n l_J5_append_c97b9_12 13 rfl rfl ?_
  refine nw_iload_n l_J5_append_c97b9_13 14 rfl rfl ?_
  refine nw_call 8 1 150 301 l_J5_append_c97b9_14 rfl rfl g_J5_ensureCapacityInternal_d00df (Nat.lt_of_lt_of_le (by decide) hD) rfl (by omega) (by omega) (Or.inl ⟨_, rfl, k_301⟩) (ls' := [some (.inr (.inl (some 301))), some (.inl (y1 + y0)), none]) rfl (st' := []) rfl 17 rfl (c' := (c - 1)) (by omega) (sl' := (sl - 150)) (by omega) ?_
  exact h
theorem b_J5_append_c97b9_17 {x1 : Int} {x2 : Int} {x3 : Int} (hD : 10 ≤ D) (hco : J 301 1 = 0) (h : NW sc d_J6_getChars_ba4f3 4 (0, [some (.inl x1), some (.inl x3), some (.inr (.inl (some (W.2.2.1)))), none, none, none, none], [], (J, L, W), 0, 0) (fun v M9 => NW sc d_J5_append_c97b9 D (33, [some (.inr (.inl (some 301))), none, none, some (.inl x3)], nw_push v [], M9, c, sl) Qr Qx) Qx) :
    NW sc d_J5_append_c97b9 D (17, [some (.inr (.inl (some 301))), some (.inl x1), some (.inl x2), some (.inl x3)], [], (J, L, W), c, sl) Qr Qx := by
  refine nw_aload_n l_J5_append_c97b9_17 18 rfl rfl ?_
  refine nw_call0 4 301 l_J5_append_c97b9_18 rfl rfl g_J5_isLatin1_aae02 (Nat.lt_of_lt_of_le (by decide) hD) rfl (Or.inl ⟨_, rfl, k_301⟩) (ls' := [some (.inr (.inl (some 301)))]) rfl (st' := []) rfl 21 rfl ?_
  refine nw_gst0 l_J5_isLatin1_aae02_0 3 rfl ?_
  refine nw_if_eq l_J5_isLatin1_aae02_3 6 rfl (fun q => absurd q (by decide)) (fun _ => ?_)
  refine nw_aload_n l_J5_isLatin1_aae02_6 7 rfl rfl ?_
  refine nw_getZ l_J5_isLatin1_aae02_7 10 rfl k_301 (v := 0) hco ?_
  refine nw_if_ne l_J5_isLatin1_aae02_10 13 rfl (fun q => absurd q (by decide)) (fun _ => ?_)
  refine nw_iconst (len := 0) l_J5_isLatin1_aae02_13 14 rfl c_1 ?_
  refine nw_goto l_J5_isLatin1_aae02_14 ?_
  refine nw_ireturnZ l_J5_isLatin1_aae02_18 rfl (Or.inr rfl) ?_
  refine nw_if_eq l_J5_append_c97b9_21 24 rfl (fun q => absurd q (by decide)) (fun _ => ?_)
  refine nw_iload_n l_J5_append_c97b9_24 25 rfl rfl ?_
  refine nw_iload_n l_J5_append_c97b9_25 26 rfl rfl ?_
  refine nw_aload_n l_J5_append_c97b9_26 27 rfl rfl ?_
  refine nw_getSB l_J5_append_c97b9_27 30 rfl ?_
  refine nw_drop (ls' := [some (.inr (.inl (some 301))), none, none, some (.inl x3)]) ⟨rfl, ⟨True.intro, ⟨True.intro, ⟨rfl, True.intro⟩⟩⟩⟩ ?_
  refine nw_call0 4 0 l_J5_append_c97b9_30 rfl rfl g_J6_getChars_ba4f3 (Nat.lt_of_lt_of_le (by decide) hD) rfl True.intro (ls' := [some (.inl x1), some (.inl x3), some (.inr (.inl (some (W.2.2.1)))), none, none, none, none]) rfl (st' := []) rfl 33 rfl ?_
  exact h
theorem b_J5_append_c97b9_33 {x3 : Int} {y0 : Int} (h : Qr (some (.inr (.inl (some 301)))) (nw_u J 301 3 x3, L, W)) :
    NW sc d_J5_append_c97b9 D (33, [some (.inr (.inl (some 301))), none, none, some (.inl x3)], [.inl y0], (J, L, W), c, sl) Qr Qx := by
  refine nw_pop l_J5_append_c97b9_33 34 rfl ?_
  refine nw_goto l_J5_append_c97b9_34 ?_
  refine nw_aload_n l_J5_append_c97b9_48 49 rfl rfl ?_
  refine nw_iload_n l_J5_append_c97b9_49 50 rfl rfl ?_
  refine nw_putI l_J5_append_c97b9_50 53 rfl k_301 ?_
  refine nw_aload_n l_J5_append_c97b9_53 54 rfl rfl ?_
  refine nw_areturn l_J5_append_c97b9_54 rfl ?_
  exact h
theorem b_J4_append_cf468_0 {x1 : Int} (hD : 12 ≤ D) (hc : 1 ≤ c) (hs : 150 ≤ sl) (h : NW sc d_J5_append_3fe6f 10 (0, [some (.inr (.inl (some 301))), some (.inl x1)], [], (J, L, W), 1, 150) (fun v M9 => NW sc d_J4_append_cf468 D (5, [some (.inr (.inl (some 301))), none], nw_push v [], M9, (c - 1), (sl - 150)) Qr Qx) Qx) :
    NW sc d_J4_append_cf468 D (0, [some (.inr (.inl (some 301))), some (.inl x1)], [], (J, L, W), c, sl) Qr Qx := by
  refine nw_aload_n l_J4_append_cf468_0 1 rfl rfl ?_
  refine nw_iload_n l_J4_append_cf468_1 2 rfl rfl ?_
  refine nw_drop (ls' := [some (.inr (.inl (some 301))), none]) ⟨rfl, ⟨True.intro, True.intro⟩⟩ ?_
  refine nw_call 10 1 150 301 l_J4_append_cf468_2 rfl rfl g_J5_append_3fe6f (Nat.lt_of_lt_of_le (by decide) hD) rfl (by omega) (by omega) ⟨rfl, fun _ => ⟨_, k_301⟩⟩ (ls' := [some (.inr (.inl (some 301))), some (.inl x1)]) rfl (st' := []) rfl 5 rfl (c' := (c - 1)) (by omega) (sl' := (sl - 150)) (by omega) ?_
  exact h
theorem b_J4_append_cf468_5  (h : Qr (some (.inr (.inl (some 301)))) (J, L, W)) :
    NW sc d_J4_append_cf468 D (5, [some (.inr (.inl (some 301))), none], [.inr (.inl (some 301))], (J, L, W), c, sl) Qr Qx := by
  refine nw_popA l_J4_append_cf468_5 6 rfl ?_
  refine nw_aload_n l_J4_append_cf468_6 7 rfl rfl ?_
  refine nw_areturn l_J4_append_cf468_7 rfl ?_
  exact h
theorem b_J4_append_bf812_0 {x1 : Int} (hD : 12 ≤ D) (hc : 1 ≤ c) (hs : 150 ≤ sl) (h : NW sc d_J5_append_c97b9 10 (0, [some (.inr (.inl (some 301))), some (.inl x1), none, none], [], (J, L, W), 1, 150) (fun v M9 => NW sc d_J4_append_bf812 D (5, [some (.inr (.inl (some 301))), none], nw_push v [], M9, (c - 1), (sl - 150)) Qr Qx) Qx) :
    NW sc d_J4_append_bf812 D (0, [some (.inr (.inl (some 301))), some (.inl x1)], [], (J, L, W), c, sl) Qr Qx := by
  refine nw_aload_n l_J4_append_bf812_0 1 rfl rfl ?_
  refine nw_iload_n l_J4_append_bf812_1 2 rfl rfl ?_
  refine nw_drop (ls' := [some (.inr (.inl (some 301))), none]) ⟨rfl, ⟨True.intro, True.intro⟩⟩ ?_
  refine nw_call 10 1 150 301 l_J4_append_bf812_2 rfl rfl g_J5_append_c97b9 (Nat.lt_of_lt_of_le (by decide) hD) rfl (by omega) (by omega) ⟨rfl, fun _ => ⟨_, k_301⟩⟩ (ls' := [some (.inr (.inl (some 301))), some (.inl x1), none, none]) rfl (st' := []) rfl 5 rfl (c' := (c - 1)) (by omega) (sl' := (sl - 150)) (by omega) ?_
  exact h
theorem b_J4_append_bf812_5  (h : Qr (some (.inr (.inl (some 301)))) (J, L, W)) :
    NW sc d_J4_append_bf812 D (5, [some (.inr (.inl (some 301))), none], [.inr (.inl (some 301))], (J, L, W), c, sl) Qr Qx := by
  refine nw_popA l_J4_append_bf812_5 6 rfl ?_
  refine nw_aload_n l_J4_append_bf812_6 7 rfl rfl ?_
  refine nw_areturn l_J4_append_bf812_7 rfl ?_
  exact h
theorem b_J5_setLength_d00df_0 {x1 : Int} (hD : 10 ≤ D) (hc : 1 ≤ c) (hs : 150 ≤ sl) (h0 : 0 ≤ x1) (h : NW sc d_J5_ensureCapacityInternal_d00df 8 (0, [some (.inr (.inl (some 301))), some (.inl x1), none], [], (J, L, W), 1, 150) (fun v M9 => NW sc d_J5_setLength_d00df D (18, [some (.inr (.inl (some 301))), some (.inl x1)], nw_push v [], M9, (c - 1), (sl - 150)) Qr Qx) Qx) :
    NW sc d_J5_setLength_d00df D (0, [some (.inr (.inl (some 301))), some (.inl x1)], [], (J, L, W), c, sl) Qr Qx := by
  refine nw_iload_n l_J5_setLength_d00df_0 1 rfl rfl ?_
  refine nw_if_ge l_J5_setLength_d00df_1 4 rfl (fun _ => ?_) (fun q => absurd q (by omega))
  refine nw_aload_n l_J5_setLength_d00df_13 14 rfl rfl ?_
  refine nw_iload_n l_J5_setLength_d00df_14 15 rfl rfl ?_
  refine nw_call 8 1 150 301 l_J5_setLength_d00df_15 rfl rfl g_J5_ensureCapacityInternal_d00df (Nat.lt_of_lt_of_le (by decide) hD) rfl (by omega) (by omega) (Or.inl ⟨_, rfl, k_301⟩) (ls' := [some (.inr (.inl (some 301))), some (.inl x1), none]) rfl (st' := []) rfl 18 rfl (c' := (c - 1)) (by omega) (sl' := (sl - 150)) (by omega) ?_
  exact h
theorem b_J5_setLength_d00df_18 {x1 : Int} (h1 : x1 ≤ J 301 3) (h : ((J 301 3 ≤ x1 → Qr none (nw_u J 301 3 x1, L, W)) ∧ (x1 < J 301 3 → Qr none (nw_u (nw_u J 301 2 1) 301 3 x1, L, W)))) :
    NW sc d_J5_setLength_d00df D (18, [some (.inr (.inl (some 301))), some (.inl x1)], [], (J, L, W), c, sl) Qr Qx := by
  refine nw_aload_n l_J5_setLength_d00df_18 19 rfl rfl ?_
  refine nw_getI l_J5_setLength_d00df_19 22 rfl k_301 (v := J 301 3) rfl ?_
  refine nw_iload_n l_J5_setLength_d00df_22 23 rfl rfl ?_
  refine nw_ic_ge l_J5_setLength_d00df_23 26 rfl (fun _ => ?_) (fun q => absurd q (by omega))
  refine nw_aload_n l_J5_setLength_d00df_63 64 rfl rfl ?_
  refine nw_getI l_J5_setLength_d00df_64 67 rfl k_301 (v := J 301 3) rfl ?_
  refine nw_iload_n l_J5_setLength_d00df_67 68 rfl rfl ?_
  refine nw_ic_le l_J5_setLength_d00df_68 71 rfl (fun q1 => ?_) (fun q1 => ?_)
  · replace h := h.1 q1
    refine nw_aload_n l_J5_setLength_d00df_76 77 rfl rfl ?_
    refine nw_iload_n l_J5_setLength_d00df_77 78 rfl rfl ?_
    refine nw_putI l_J5_setLength_d00df_78 81 rfl k_301 ?_
    refine nw_return l_J5_setLength_d00df_81 rfl ?_
    exact h
  · replace h := h.2 q1
    refine nw_aload_n l_J5_setLength_d00df_71 72 rfl rfl ?_
    refine nw_iconst (len := 0) l_J5_setLength_d00df_72 73 rfl c_1 ?_
    refine nw_putZ l_J5_setLength_d00df_73 76 rfl k_301 (by decide) ?_
    refine nw_aload_n l_J5_setLength_d00df_76 77 rfl rfl ?_
    refine nw_iload_n l_J5_setLength_d00df_77 78 rfl rfl ?_
    refine nw_putI l_J5_setLength_d00df_78 81 rfl k_301 ?_
    refine nw_return l_J5_setLength_d00df_81 rfl ?_
    exact h
theorem b_J4_setLength_d00df_0 {x1 : Int} (hD : 12 ≤ D) (hc : 1 ≤ c) (hs : 150 ≤ sl) (h : NW sc d_J5_setLength_d00df 10 (0, [some (.inr (.inl (some 301))), some (.inl x1)], [], (J, L, W), 1, 150) (fun v M9 => NW sc d_J4_setLength_d00df D (5, [none, none], nw_push v [], M9, (c - 1), (sl - 150)) Qr Qx) Qx) :
    NW sc d_J4_setLength_d00df D (0, [some (.inr (.inl (some 301))), some (.inl x1)], [], (J, L, W), c, sl) Qr Qx := by
  refine nw_aload_n l_J4_setLength_d00df_0 1 rfl rfl ?_
  refine nw_iload_n l_J4_setLength_d00df_1 2 rfl rfl ?_
  refine nw_drop (ls' := [none, none]) ⟨True.intro, ⟨True.intro, True.intro⟩⟩ ?_
  refine nw_call 10 1 150 301 l_J4_setLength_d00df_2 rfl rfl g_J5_setLength_d00df (Nat.lt_of_lt_of_le (by decide) hD) rfl (by omega) (by omega) ⟨rfl, fun _ => ⟨_, k_301⟩⟩ (ls' := [some (.inr (.inl (some 301))), some (.inl x1)]) rfl (st' := []) rfl 5 rfl (c' := (c - 1)) (by omega) (sl' := (sl - 150)) (by omega) ?_
  exact h
theorem b_J4_setLength_d00df_5  (h : Qr none (J, L, W)) :
    NW sc d_J4_setLength_d00df D (5, [none, none], [], (J, L, W), c, sl) Qr Qx := by
  refine nw_return l_J4_setLength_d00df_5 rfl ?_
  exact h
theorem b_J4_length_8abf5_0  (hD : 12 ≤ D) (h : Qr (some (.inl (J 301 3))) (J, L, W)) :
    NW sc d_J4_length_8abf5 D (0, [some (.inr (.inl (some 301)))], [], (J, L, W), c, sl) Qr Qx := by
  refine nw_aload_n l_J4_length_8abf5_0 1 rfl rfl ?_
  refine nw_call0 10 301 l_J4_length_8abf5_1 rfl rfl g_J5_length_8abf5 (Nat.lt_of_lt_of_le (by decide) hD) rfl ⟨rfl, fun _ => ⟨_, k_301⟩⟩ (ls' := [some (.inr (.inl (some 301)))]) rfl (st' := []) rfl 4 rfl ?_
  refine nw_aload_n l_J5_length_8abf5_0 1 rfl rfl ?_
  refine nw_getI l_J5_length_8abf5_1 4 rfl k_301 (v := J 301 3) rfl ?_
  refine nw_ireturn l_J5_length_8abf5_4 rfl ?_
  refine nw_ireturn l_J4_length_8abf5_4 rfl ?_
  exact h
theorem b_J5_charAt_5068e_0 {x1 : Int} (hD : 10 ≤ D) (hco : J 301 1 = 0) {m : Nat} (hk : nw_K (J, L, W) W.2.2.1 (24, m)) (hm : m < 2000) (h0 : 0 ≤ x1) (h1 : x1 < J 301 3 ∧ x1 < (m : Int)) (h : (((m : Int) < J 301 3 → ((0 ≤ x1 ∧ x1 < (m : Int)) ∧ ((0 ≤ (nw_xiand (J (W.2.2.1) x1) 255) % 65536 ∧ (nw_xiand (J (W.2.2.1) x1) 255) % 65536 < 65536) ∧ Qr (some (.inl ((nw_xiand (J (W.2.2.1) x1) 255) % 65536))) (J, L, W)))) ∧ (J 301 3 ≤ (m : Int) → ((0 ≤ x1 ∧ x1 < (m : Int)) ∧ ((0 ≤ (nw_xiand (J (W.2.2.1) x1) 255) % 65536 ∧ (nw_xiand (J (W.2.2.1) x1) 255) % 65536 < 65536) ∧ Qr (some (.inl ((nw_xiand (J (W.2.2.1) x1) 255) % 65536))) (J, L, W)))))) :
    NW sc d_J5_charAt_5068e D (0, [some (.inr (.inl (some 301))), some (.inl x1), none, none, none], [], (J, L, W), c, sl) Qr Qx := by
  refine nw_aload_n l_J5_charAt_5068e_0 1 rfl rfl ?_
  refine nw_getZ l_J5_charAt_5068e_1 4 rfl k_301 (v := 0) hco ?_
  refine nw_istore_n l_J5_charAt_5068e_4 5 rfl rfl (ls' := [some (.inr (.inl (some 301))), some (.inl x1), some (.inl 0), none, none]) rfl ?_
  refine nw_aload_n l_J5_charAt_5068e_5 6 rfl rfl ?_
  refine nw_getSB l_J5_charAt_5068e_6 9 rfl ?_
  refine nw_astore_n l_J5_charAt_5068e_9 10 rfl rfl (ls' := [some (.inr (.inl (some 301))), some (.inl x1), some (.inl 0), some (.inr (.inl (some (W.2.2.1)))), none]) rfl ?_
  refine nw_aload_n l_J5_charAt_5068e_10 11 rfl rfl ?_
  refine nw_getI l_J5_charAt_5068e_11 14 rfl k_301 (v := J 301 3) rfl ?_
  refine nw_aload_n l_J5_charAt_5068e_14 15 rfl rfl ?_
  refine nw_alenX l_J5_charAt_5068e_15 16 rfl hk ⟨by decide, by decide, hm⟩ ?_
  refine nw_iload_n l_J5_charAt_5068e_16 17 rfl rfl ?_
  refine nw_ishr0 l_J5_charAt_5068e_17 18 rfl ?_
  refine nw_call0 0 0 l_J5_charAt_5068e_18 rfl rfl g_J9_min_7cf53 (Nat.lt_of_lt_of_le (by decide) hD) rfl True.intro (ls' := [some (.inl (J 301 3)), some (.inl (m : Int))]) rfl (st' := []) rfl 21 rfl ?_
  refine nw_iload_n l_J9_min_7cf53_0 1 rfl rfl ?_
  refine nw_iload_n l_J9_min_7cf53_1 2 rfl rfl ?_
  refine nw_ic_gt l_J9_min_7cf53_2 5 rfl (fun q1 => ?_) (fun q1 => ?_)
  · replace h := h.1 q1
    refine nw_iload_n l_J9_min_7cf53_9 10 rfl rfl ?_
    refine nw_ireturn l_J9_min_7cf53_10 rfl ?_
    refine nw_istore l_J5_charAt_5068e_21 23 rfl rfl (ls' := [some (.inr (.inl (some 301))), some (.inl x1), some (.inl 0), some (.inr (.inl (some (W.2.2.1)))), some (.inl (m : Int))]) rfl ?_
    refine nw_iload_n l_J5_charAt_5068e_23 24 rfl rfl ?_
    refine nw_iload l_J5_charAt_5068e_24 26 rfl rfl ?_
    refine nw_call0 6 0 l_J5_charAt_5068e_26 rfl rfl g_J0_checkIndex_df160 (Nat.lt_of_lt_of_le (by decide) hD) rfl True.intro (ls' := [some (.inl x1), some (.inl (m : Int))]) rfl (st' := []) rfl 29 rfl ?_
    refine nw_iload_n l_J0_checkIndex_df160_0 1 rfl rfl ?_
    refine nw_iload_n l_J0_checkIndex_df160_1 2 rfl rfl ?_
    refine nw_gst3 l_J0_checkIndex_df160_2 5 rfl ?_
    refine nw_call0 4 0 l_J0_checkIndex_df160_5 rfl rfl g_J3_checkIndex_8e157 (by decide) rfl True.intro (ls' := [some (.inl x1), some (.inl (m : Int)), some (.inr (.inl none))]) rfl (st' := []) rfl 8 rfl ?_
    refine nw_iload_n l_J3_checkIndex_8e157_0 1 rfl rfl ?_
    refine nw_if_lt l_J3_checkIndex_8e157_1 4 rfl (fun q => absurd q (by omega)) (fun _ => ?_)
    refine nw_iload_n l_J3_checkIndex_8e157_4 5 rfl rfl ?_
    refine nw_iload_n l_J3_checkIndex_8e157_5 6 rfl rfl ?_
    refine nw_ic_lt l_J3_checkIndex_8e157_6 9 rfl (fun _ => ?_) (fun q => absurd q (by omega))
    refine nw_iload_n l_J3_checkIndex_8e157_16 17 rfl rfl ?_
    refine nw_ireturn l_J3_checkIndex_8e157_17 rfl ?_
    refine nw_pop l_J0_checkIndex_df160_8 9 rfl ?_
    refine nw_return l_J0_checkIndex_df160_9 rfl ?_
    refine nw_iload_n l_J5_charAt_5068e_29 30 rfl rfl ?_
    refine nw_if_ne l_J5_charAt_5068e_30 33 rfl (fun q => absurd q (by decide)) (fun _ => ?_)
    refine nw_aload_n l_J5_charAt_5068e_33 34 rfl rfl ?_
    refine nw_iload_n l_J5_charAt_5068e_34 35 rfl rfl ?_
    have o2 := h.1
    replace h := h.2
    refine nw_baldX l_J5_charAt_5068e_35 36 rfl hk o2 (v := J (W.2.2.1) x1) rfl ?_
    refine nw_sipush (len := 0) l_J5_charAt_5068e_36 39 rfl c_255 ?_
    refine nw_iand l_J5_charAt_5068e_39 40 rfl ?_
    refine nw_i2c l_J5_charAt_5068e_40 41 rfl ?_
    have o3 := h.1
    replace h := h.2
    refine nw_ireturnC l_J5_charAt_5068e_41 rfl o3 ?_
    exact h
  · replace h := h.2 q1
    refine nw_iload_n l_J9_min_7cf53_5 6 rfl rfl ?_
    refine nw_goto l_J9_min_7cf53_6 ?_
    refine nw_ireturn l_J9_min_7cf53_10 rfl ?_
    refine nw_istore l_J5_charAt_5068e_21 23 rfl rfl (ls' := [some (.inr (.inl (some 301))), some (.inl x1), some (.inl 0), some (.inr (.inl (some (W.2.2.1)))), some (.inl (J 301 3))]) rfl ?_
    refine nw_iload_n l_J5_charAt_5068e_23 24 rfl rfl ?_
    refine nw_iload l_J5_charAt_5068e_24 26 rfl rfl ?_
    refine nw_call0 6 0 l_J5_charAt_5068e_26 rfl rfl g_J0_checkIndex_df160 (Nat.lt_of_lt_of_le (by decide) hD) rfl True.intro (ls' := [some (.inl x1), some (.inl (J 301 3))]) rfl (st' := []) rfl 29 rfl ?_
    refine nw_iload_n l_J0_checkIndex_df160_0 1 rfl rfl ?_
    refine nw_iload_n l_J0_checkIndex_df160_1 2 rfl rfl ?_
    refine nw_gst3 l_J0_checkIndex_df160_2 5 rfl ?_
    refine nw_call0 4 0 l_J0_checkIndex_df160_5 rfl rfl g_J3_checkIndex_8e157 (by decide) rfl True.intro (ls' := [some (.inl x1), some (.inl (J 301 3)), some (.inr (.inl none))]) rfl (st' := []) rfl 8 rfl ?_
    refine nw_iload_n l_J3_checkIndex_8e157_0 1 rfl rfl ?_
    refine nw_if_lt l_J3_checkIndex_8e157_1 4 rfl (fun q => absurd q (by omega)) (fun _ => ?_)
    refine nw_iload_n l_J3_checkIndex_8e157_4 5 rfl rfl ?_
    refine nw_iload_n l_J3_checkIndex_8e157_5 6 rfl rfl ?_
    refine nw_ic_lt l_J3_checkIndex_8e157_6 9 rfl (fun _ => ?_) (fun q => absurd q (by omega))
    refine nw_iload_n l_J3_checkIndex_8e157_16 17 rfl rfl ?_
    refine nw_ireturn l_J3_checkIndex_8e157_17 rfl ?_
    refine nw_pop l_J0_checkIndex_df160_8 9 rfl ?_
    refine nw_return l_J0_checkIndex_df160_9 rfl ?_
    refine nw_iload_n l_J5_charAt_5068e_29 30 rfl rfl ?_
    refine nw_if_ne l_J5_charAt_5068e_30 33 rfl (fun q => absurd q (by decide)) (fun _ => ?_)
    refine nw_aload_n l_J5_charAt_5068e_33 34 rfl rfl ?_
    refine nw_iload_n l_J5_charAt_5068e_34 35 rfl rfl ?_
    have o4 := h.1
    replace h := h.2
    refine nw_baldX l_J5_charAt_5068e_35 36 rfl hk o4 (v := J (W.2.2.1) x1) rfl ?_
    refine nw_sipush (len := 0) l_J5_charAt_5068e_36 39 rfl c_255 ?_
    refine nw_iand l_J5_charAt_5068e_39 40 rfl ?_
    refine nw_i2c l_J5_charAt_5068e_40 41 rfl ?_
    have o5 := h.1
    replace h := h.2
    refine nw_ireturnC l_J5_charAt_5068e_41 rfl o5 ?_
    exact h
theorem b_J4_charAt_5068e_0 {x1 : Int} (hD : 12 ≤ D) (h : NW sc d_J5_charAt_5068e 10 (0, [some (.inr (.inl (some 301))), some (.inl x1), none, none, none], [], (J, L, W), 0, 0) (fun v M9 => NW sc d_J4_charAt_5068e D (5, [none, none], nw_push v [], M9, c, sl) Qr Qx) Qx) :
    NW sc d_J4_charAt_5068e D (0, [some (.inr (.inl (some 301))), some (.inl x1)], [], (J, L, W), c, sl) Qr Qx := by
  refine nw_aload_n l_J4_charAt_5068e_0 1 rfl rfl ?_
  refine nw_iload_n l_J4_charAt_5068e_1 2 rfl rfl ?_
  refine nw_drop (ls' := [none, none]) ⟨True.intro, ⟨True.intro, True.intro⟩⟩ ?_
  refine nw_call0 10 301 l_J4_charAt_5068e_2 rfl rfl g_J5_charAt_5068e (Nat.lt_of_lt_of_le (by decide) hD) rfl ⟨rfl, fun _ => ⟨_, k_301⟩⟩ (ls' := [some (.inr (.inl (some 301))), some (.inl x1), none, none, none]) rfl (st' := []) rfl 5 rfl ?_
  exact h
theorem b_J4_charAt_5068e_5 {y0 : Int} (h : ((0 ≤ y0 ∧ y0 < 65536) ∧ Qr (some (.inl y0)) (J, L, W))) :
    NW sc d_J4_charAt_5068e D (5, [none, none], [.inl y0], (J, L, W), c, sl) Qr Qx := by
  have o1 := h.1
  replace h := h.2
  refine nw_ireturnC l_J4_charAt_5068e_5 rfl o1 ?_
  exact h
theorem b_X11_writePosition_0 {x1 : Int} (hD : 13 ≤ D) (hc : 1 ≤ c) (hs : 150 ≤ sl) (h : ((0 ≤ x1 ∧ x1 < 3) ∧ ((J 11 x1 = (-1) → NW sc d_J4_append_cf468 12 (0, [some (.inr (.inl (some 301))), some (.inl 64)], [], (J, L, W), 1, 150) (fun v M9 => NW sc d_X11_writePosition D (70, [some (.inr (.inl (some 0))), some (.inl x1)], nw_push v [], M9, (c - 1), (sl - 150)) Qr Qx) Qx) ∧ (¬ J 11 x1 = (-1) → NW sc d_J4_append_cf468 12 (0, [some (.inr (.inl (some 301))), some (.inl 62)], [], (J, L, W), 1, 150) (fun v M9 => NW sc d_X11_writePosition D (23, [some (.inr (.inl (some 0))), some (.inl x1)], nw_push v [], M9, (c - 1), (sl - 150)) Qr Qx) Qx)))) :
    NW sc d_X11_writePosition D (0, [some (.inr (.inl (some 0))), some (.inl x1)], [], (J, L, W), c, sl) Qr Qx := by
  refine nw_aload_n l_X11_writePosition_0 1 rfl rfl ?_
  refine nw_getA l_X11_writePosition_1 4 rfl k_0 r_0_1 ?_
  refine nw_getA l_X11_writePosition_4 7 rfl k_2 r_2_1 ?_
  refine nw_iload_n l_X11_writePosition_7 8 rfl rfl ?_
  refine nw_call0 0 9 l_X11_writePosition_8 rfl rfl g_X4_underWay (Nat.lt_of_lt_of_le (by decide) hD) rfl (Or.inl ⟨_, rfl, k_9⟩) (ls' := [some (.inr (.inl (some 9))), some (.inl x1)]) rfl (st' := []) rfl 11 rfl ?_
  refine nw_aload_n l_X4_underWay_0 1 rfl rfl ?_
  refine nw_getA l_X4_underWay_1 4 rfl k_9 r_9_2 ?_
  refine nw_iload_n l_X4_underWay_4 5 rfl rfl ?_
  have o1 := h.1
  replace h := h.2
  refine nw_iald l_X4_underWay_5 6 rfl k_11 o1 (v := J 11 x1) rfl ?_
  refine nw_iconst (len := 0) l_X4_underWay_6 7 rfl c_n1 ?_
  refine nw_ic_eq l_X4_underWay_7 10 rfl (fun q2 => ?_) (fun q2 => ?_)
  · replace h := h.1 q2
    refine nw_iconst (len := 0) l_X4_underWay_14 15 rfl c_0 ?_
    refine nw_ireturnZ l_X4_underWay_15 rfl (Or.inl rfl) ?_
    refine nw_if_eq l_X11_writePosition_11 14 rfl (fun _ => ?_) (fun q => absurd q (by decide))
    refine nw_aload_n l_X11_writePosition_61 62 rfl rfl ?_
    refine nw_getA l_X11_writePosition_62 65 rfl k_0 r_0_9 ?_
    refine nw_bipush (len := 0) l_X11_writePosition_65 67 rfl c_64 ?_
    refine nw_call 12 1 150 301 l_X11_writePosition_67 rfl rfl g_J4_append_cf468 (Nat.lt_of_lt_of_le (by decide) hD) rfl (by omega) (by omega) (Or.inl ⟨_, rfl, k_301⟩) (ls' := [some (.inr (.inl (some 301))), some (.inl 64)]) rfl (st' := []) rfl 70 rfl (c' := (c - 1)) (by omega) (sl' := (sl - 150)) (by omega) ?_
    exact h
  · replace h := h.2 q2
    refine nw_iconst (len := 0) l_X4_underWay_10 11 rfl c_1 ?_
    refine nw_goto l_X4_underWay_11 ?_
    refine nw_ireturnZ l_X4_underWay_15 rfl (Or.inr rfl) ?_
    refine nw_if_eq l_X11_writePosition_11 14 rfl (fun q => absurd q (by decide)) (fun _ => ?_)
    refine nw_aload_n l_X11_writePosition_14 15 rfl rfl ?_
    refine nw_getA l_X11_writePosition_15 18 rfl k_0 r_0_9 ?_
    refine nw_bipush (len := 0) l_X11_writePosition_18 20 rfl c_62 ?_
    refine nw_call 12 1 150 301 l_X11_writePosition_20 rfl rfl g_J4_append_cf468 (Nat.lt_of_lt_of_le (by decide) hD) rfl (by omega) (by omega) (Or.inl ⟨_, rfl, k_301⟩) (ls' := [some (.inr (.inl (some 301))), some (.inl 62)]) rfl (st' := []) rfl 23 rfl (c' := (c - 1)) (by omega) (sl' := (sl - 150)) (by omega) ?_
    exact h
theorem b_X11_writePosition_70 {x1 : Int} (hD : 13 ≤ D) (hc : 1 ≤ c) (hs : 150 ≤ sl) (h : ((0 ≤ x1 ∧ x1 < 3) ∧ NW sc d_J4_append_bf812 12 (0, [some (.inr (.inl (some 301))), some (.inl (J 10 x1))], [], (J, L, W), 1, 150) (fun v M9 => NW sc d_X11_writePosition D (85, [some (.inr (.inl (some 0))), some (.inl x1)], nw_push v [], M9, (c - 1), (sl - 150)) Qr Qx) Qx)) :
    NW sc d_X11_writePosition D (70, [some (.inr (.inl (some 0))), some (.inl x1)], [.inr (.inl (some 301))], (J, L, W), c, sl) Qr Qx := by
  refine nw_aload_n l_X11_writePosition_70 71 rfl rfl ?_
  refine nw_getA l_X11_writePosition_71 74 rfl k_0 r_0_1 ?_
  refine nw_getA l_X11_writePosition_74 77 rfl k_2 r_2_1 ?_
  refine nw_getA l_X11_writePosition_77 80 rfl k_9 r_9_1 ?_
  refine nw_iload_n l_X11_writePosition_80 81 rfl rfl ?_
  have o1 := h.1
  replace h := h.2
  refine nw_iald l_X11_writePosition_81 82 rfl k_10 o1 (v := J 10 x1) rfl ?_
  refine nw_call 12 1 150 301 l_X11_writePosition_82 rfl rfl g_J4_append_bf812 (Nat.lt_of_lt_of_le (by decide) hD) rfl (by omega) (by omega) (Or.inl ⟨_, rfl, k_301⟩) (ls' := [some (.inr (.inl (some 301))), some (.inl (J 10 x1))]) rfl (st' := []) rfl 85 rfl (c' := (c - 1)) (by omega) (sl' := (sl - 150)) (by omega) ?_
  exact h
theorem b_X11_writePosition_23 {x1 : Int} (hD : 13 ≤ D) (hc : 1 ≤ c) (hs : 150 ≤ sl) (h : ((0 ≤ x1 ∧ x1 < 3) ∧ NW sc d_J4_append_bf812 12 (0, [some (.inr (.inl (some 301))), some (.inl (J 11 x1))], [], (J, L, W), 1, 150) (fun v M9 => NW sc d_X11_writePosition D (38, [some (.inr (.inl (some 0))), some (.inl x1)], nw_push v [], M9, (c - 1), (sl - 150)) Qr Qx) Qx)) :
    NW sc d_X11_writePosition D (23, [some (.inr (.inl (some 0))), some (.inl x1)], [.inr (.inl (some 301))], (J, L, W), c, sl) Qr Qx := by
  refine nw_aload_n l_X11_writePosition_23 24 rfl rfl ?_
  refine nw_getA l_X11_writePosition_24 27 rfl k_0 r_0_1 ?_
  refine nw_getA l_X11_writePosition_27 30 rfl k_2 r_2_1 ?_
  refine nw_getA l_X11_writePosition_30 33 rfl k_9 r_9_2 ?_
  refine nw_iload_n l_X11_writePosition_33 34 rfl rfl ?_
  have o1 := h.1
  replace h := h.2
  refine nw_iald l_X11_writePosition_34 35 rfl k_11 o1 (v := J 11 x1) rfl ?_
  refine nw_call 12 1 150 301 l_X11_writePosition_35 rfl rfl g_J4_append_bf812 (Nat.lt_of_lt_of_le (by decide) hD) rfl (by omega) (by omega) (Or.inl ⟨_, rfl, k_301⟩) (ls' := [some (.inr (.inl (some 301))), some (.inl (J 11 x1))]) rfl (st' := []) rfl 38 rfl (c' := (c - 1)) (by omega) (sl' := (sl - 150)) (by omega) ?_
  exact h
theorem b_X11_writePosition_85 {x1 : Int} (hD : 13 ≤ D) (h : NW sc d_X8_aground 2 (0, [some (.inr (.inl (some 2))), some (.inl x1), none], [], (J, L, W), 0, 0) (fun v M9 => NW sc d_X11_writePosition D (94, [some (.inr (.inl (some 0))), none], nw_push v [], M9, c, sl) Qr Qx) Qx) :
    NW sc d_X11_writePosition D (85, [some (.inr (.inl (some 0))), some (.inl x1)], [.inr (.inl (some 301))], (J, L, W), c, sl) Qr Qx := by
  refine nw_popA l_X11_writePosition_85 86 rfl ?_
  refine nw_aload_n l_X11_writePosition_86 87 rfl rfl ?_
  refine nw_getA l_X11_writePosition_87 90 rfl k_0 r_0_1 ?_
  refine nw_iload_n l_X11_writePosition_90 91 rfl rfl ?_
  refine nw_drop (ls' := [some (.inr (.inl (some 0))), none]) ⟨rfl, ⟨True.intro, True.intro⟩⟩ ?_
  refine nw_call0 2 2 l_X11_writePosition_91 rfl rfl g_X8_aground (Nat.lt_of_lt_of_le (by decide) hD) rfl (Or.inl ⟨_, rfl, k_2⟩) (ls' := [some (.inr (.inl (some 2))), some (.inl x1), none]) rfl (st' := []) rfl 94 rfl ?_
  exact h
theorem b_X11_writePosition_38 {x1 : Int} (hD : 13 ≤ D) (hc : 1 ≤ c) (hs : 150 ≤ sl) (h : NW sc d_J4_append_cf468 12 (0, [some (.inr (.inl (some 301))), some (.inl 120)], [], (J, L, W), 1, 150) (fun v M9 => NW sc d_X11_writePosition D (48, [some (.inr (.inl (some 0))), some (.inl x1)], nw_push v [], M9, (c - 1), (sl - 150)) Qr Qx) Qx) :
    NW sc d_X11_writePosition D (38, [some (.inr (.inl (some 0))), some (.inl x1)], [.inr (.inl (some 301))], (J, L, W), c, sl) Qr Qx := by
  refine nw_popA l_X11_writePosition_38 39 rfl ?_
  refine nw_aload_n l_X11_writePosition_39 40 rfl rfl ?_
  refine nw_getA l_X11_writePosition_40 43 rfl k_0 r_0_9 ?_
  refine nw_bipush (len := 0) l_X11_writePosition_43 45 rfl c_120 ?_
  refine nw_call 12 1 150 301 l_X11_writePosition_45 rfl rfl g_J4_append_cf468 (Nat.lt_of_lt_of_le (by decide) hD) rfl (by omega) (by omega) (Or.inl ⟨_, rfl, k_301⟩) (ls' := [some (.inr (.inl (some 301))), some (.inl 120)]) rfl (st' := []) rfl 48 rfl (c' := (c - 1)) (by omega) (sl' := (sl - 150)) (by omega) ?_
  exact h
theorem b_X11_writePosition_94 {y0 : Int} (hD : 13 ≤ D) (hc : 1 ≤ c) (hs : 150 ≤ sl) (h : ((y0 = 0 → Qr none (J, L, W)) ∧ (¬ y0 = 0 → NW sc d_J4_append_cf468 12 (0, [some (.inr (.inl (some 301))), some (.inl 33)], [], (J, L, W), 1, 150) (fun v M9 => NW sc d_X11_writePosition D (106, [none, none], nw_push v [], M9, (c - 1), (sl - 150)) Qr Qx) Qx))) :
    NW sc d_X11_writePosition D (94, [some (.inr (.inl (some 0))), none], [.inl y0], (J, L, W), c, sl) Qr Qx := by
  refine nw_if_eq l_X11_writePosition_94 97 rfl (fun q1 => ?_) (fun q1 => ?_)
  · replace h := h.1 q1
    refine nw_return l_X11_writePosition_107 rfl ?_
    exact h
  · replace h := h.2 q1
    refine nw_aload_n l_X11_writePosition_97 98 rfl rfl ?_
    refine nw_getA l_X11_writePosition_98 101 rfl k_0 r_0_9 ?_
    refine nw_bipush (len := 0) l_X11_writePosition_101 103 rfl c_33 ?_
    refine nw_drop (ls' := [none, none]) ⟨True.intro, ⟨True.intro, True.intro⟩⟩ ?_
    refine nw_call 12 1 150 301 l_X11_writePosition_103 rfl rfl g_J4_append_cf468 (Nat.lt_of_lt_of_le (by decide) hD) rfl (by omega) (by omega) (Or.inl ⟨_, rfl, k_301⟩) (ls' := [some (.inr (.inl (some 301))), some (.inl 33)]) rfl (st' := []) rfl 106 rfl (c' := (c - 1)) (by omega) (sl' := (sl - 150)) (by omega) ?_
    exact h
theorem b_X11_writePosition_48 {x1 : Int} (hD : 13 ≤ D) (hc : 1 ≤ c) (hs : 150 ≤ sl) (h : ((0 ≤ x1 ∧ x1 < 3) ∧ ((J 11 x1 = (-1) → NW sc d_J4_append_bf812 12 (0, [some (.inr (.inl (some 301))), some (.inl 0)], [], (J, L, W), 1, 150) (fun v M9 => NW sc d_X11_writePosition D (59, [none, none], nw_push v [], M9, (c - 1), (sl - 150)) Qr Qx) Qx) ∧ (¬ J 11 x1 = (-1) → ((-2147483648 ≤ (J 12 x1) - (J 2 3) ∧ (J 12 x1) - (J 2 3) < 2147483648) ∧ NW sc d_J4_append_bf812 12 (0, [some (.inr (.inl (some 301))), some (.inl ((J 12 x1) - (J 2 3)))], [], (J, L, W), 1, 150) (fun v M9 => NW sc d_X11_writePosition D (59, [none, none], nw_push v [], M9, (c - 1), (sl - 150)) Qr Qx) Qx))))) :
    NW sc d_X11_writePosition D (48, [some (.inr (.inl (some 0))), some (.inl x1)], [.inr (.inl (some 301))], (J, L, W), c, sl) Qr Qx := by
  refine nw_aload_n l_X11_writePosition_48 49 rfl rfl ?_
  refine nw_getA l_X11_writePosition_49 52 rfl k_0 r_0_1 ?_
  refine nw_iload_n l_X11_writePosition_52 53 rfl rfl ?_
  refine nw_call0 1 2 l_X11_writePosition_53 rfl rfl g_X8_hoursUntilAshore (Nat.lt_of_lt_of_le (by decide) hD) rfl (Or.inl ⟨_, rfl, k_2⟩) (ls' := [some (.inr (.inl (some 2))), some (.inl x1)]) rfl (st' := [.inr (.inl (some 301))]) rfl 56 rfl ?_
  refine nw_aload_n l_X8_hoursUntilAshore_0 1 rfl rfl ?_
  refine nw_getA l_X8_hoursUntilAshore_1 4 rfl k_2 r_2_1 ?_
  refine nw_iload_n l_X8_hoursUntilAshore_4 5 rfl rfl ?_
  refine nw_call0 0 9 l_X8_hoursUntilAshore_5 rfl rfl g_X4_underWay (by decide) rfl (Or.inl ⟨_, rfl, k_9⟩) (ls' := [some (.inr (.inl (some 9))), some (.inl x1)]) rfl (st' := []) rfl 8 rfl ?_
  refine nw_aload_n l_X4_underWay_0 1 rfl rfl ?_
  refine nw_getA l_X4_underWay_1 4 rfl k_9 r_9_2 ?_
  refine nw_iload_n l_X4_underWay_4 5 rfl rfl ?_
  have o1 := h.1
  replace h := h.2
  refine nw_iald l_X4_underWay_5 6 rfl k_11 o1 (v := J 11 x1) rfl ?_
  refine nw_iconst (len := 0) l_X4_underWay_6 7 rfl c_n1 ?_
  refine nw_ic_eq l_X4_underWay_7 10 rfl (fun q2 => ?_) (fun q2 => ?_)
  · replace h := h.1 q2
    refine nw_iconst (len := 0) l_X4_underWay_14 15 rfl c_0 ?_
    refine nw_ireturnZ l_X4_underWay_15 rfl (Or.inl rfl) ?_
    refine nw_if_eq l_X8_hoursUntilAshore_8 11 rfl (fun _ => ?_) (fun q => absurd q (by decide))
    refine nw_iconst (len := 0) l_X8_hoursUntilAshore_28 29 rfl c_0 ?_
    refine nw_ireturn l_X8_hoursUntilAshore_29 rfl ?_
    refine nw_drop (ls' := [none, none]) ⟨True.intro, ⟨True.intro, True.intro⟩⟩ ?_
    refine nw_call 12 1 150 301 l_X11_writePosition_56 rfl rfl g_J4_append_bf812 (Nat.lt_of_lt_of_le (by decide) hD) rfl (by omega) (by omega) (Or.inl ⟨_, rfl, k_301⟩) (ls' := [some (.inr (.inl (some 301))), some (.inl 0)]) rfl (st' := []) rfl 59 rfl (c' := (c - 1)) (by omega) (sl' := (sl - 150)) (by omega) ?_
    exact h
  · replace h := h.2 q2
    refine nw_iconst (len := 0) l_X4_underWay_10 11 rfl c_1 ?_
    refine nw_goto l_X4_underWay_11 ?_
    refine nw_ireturnZ l_X4_underWay_15 rfl (Or.inr rfl) ?_
    refine nw_if_eq l_X8_hoursUntilAshore_8 11 rfl (fun q => absurd q (by decide)) (fun _ => ?_)
    refine nw_aload_n l_X8_hoursUntilAshore_11 12 rfl rfl ?_
    refine nw_getA l_X8_hoursUntilAshore_12 15 rfl k_2 r_2_1 ?_
    refine nw_getA l_X8_hoursUntilAshore_15 18 rfl k_9 r_9_3 ?_
    refine nw_iload_n l_X8_hoursUntilAshore_18 19 rfl rfl ?_
    refine nw_iald l_X8_hoursUntilAshore_19 20 rfl k_12 o1 (v := J 12 x1) rfl ?_
    refine nw_aload_n l_X8_hoursUntilAshore_20 21 rfl rfl ?_
    refine nw_getI l_X8_hoursUntilAshore_21 24 rfl k_2 (v := J 2 3) rfl ?_
    have o3 := h.1
    replace h := h.2
    refine nw_isub l_X8_hoursUntilAshore_24 25 rfl o3 ?_
    refine nw_goto l_X8_hoursUntilAshore_25 ?_
    refine nw_ireturn l_X8_hoursUntilAshore_29 rfl ?_
    refine nw_drop (ls' := [none, none]) ⟨True.intro, ⟨True.intro, True.intro⟩⟩ ?_
    refine nw_call 12 1 150 301 l_X11_writePosition_56 rfl rfl g_J4_append_bf812 (Nat.lt_of_lt_of_le (by decide) hD) rfl (by omega) (by omega) (Or.inl ⟨_, rfl, k_301⟩) (ls' := [some (.inr (.inl (some 301))), some (.inl ((J 12 x1) - (J 2 3)))]) rfl (st' := []) rfl 59 rfl (c' := (c - 1)) (by omega) (sl' := (sl - 150)) (by omega) ?_
    exact h
theorem b_X11_writePosition_106  (h : Qr none (J, L, W)) :
    NW sc d_X11_writePosition D (106, [none, none], [.inr (.inl (some 301))], (J, L, W), c, sl) Qr Qx := by
  refine nw_popA l_X11_writePosition_106 107 rfl ?_
  refine nw_return l_X11_writePosition_107 rfl ?_
  exact h
theorem b_X11_writePosition_59  (h : Qr none (J, L, W)) :
    NW sc d_X11_writePosition D (59, [none, none], [.inr (.inl (some 301))], (J, L, W), c, sl) Qr Qx := by
  refine nw_popA l_X11_writePosition_59 60 rfl ?_
  refine nw_return l_X11_writePosition_60 rfl ?_
  exact h
theorem b_X11_writeMoonsAboard_0 {x1 : Int} (h : NW sc d_X11_writeMoonsAboard D (10, [some (.inr (.inl (some 0))), some (.inl x1), some (.inr (.inl (some 18))), some (.inl 0)], [], (J, L, W), c, sl) Qr Qx) :
    NW sc d_X11_writeMoonsAboard D (0, [some (.inr (.inl (some 0))), some (.inl x1), none, none], [], (J, L, W), c, sl) Qr Qx := by
  refine nw_aload_n l_X11_writeMoonsAboard_0 1 rfl rfl ?_
  refine nw_getA l_X11_writeMoonsAboard_1 4 rfl k_0 r_0_1 ?_
  refine nw_getA l_X11_writeMoonsAboard_4 7 rfl k_2 r_2_2 ?_
  refine nw_astore_n l_X11_writeMoonsAboard_7 8 rfl rfl (ls' := [some (.inr (.inl (some 0))), some (.inl x1), some (.inr (.inl (some 18))), none]) rfl ?_
  refine nw_iconst (len := 0) l_X11_writeMoonsAboard_8 9 rfl c_0 ?_
  refine nw_istore_n l_X11_writeMoonsAboard_9 10 rfl rfl (ls' := [some (.inr (.inl (some 0))), some (.inl x1), some (.inr (.inl (some 18))), some (.inl 0)]) rfl ?_
  exact h
theorem b_X11_writeMoonsAboard_10 {x1 : Int} {x3 : Int} (hD : 13 ≤ D) (hc : 1 ≤ c) (hs : 150 ≤ sl) (h : ((J 18 0 ≤ x3 → Qr none (J, L, W)) ∧ (x3 < J 18 0 → ((0 ≤ x3 ∧ x3 < 10) ∧ ((¬ J 24 x3 = x1 → ((-2147483648 ≤ x3 + 1 ∧ x3 + 1 < 2147483648) ∧ NW sc d_X11_writeMoonsAboard D (10, [some (.inr (.inl (some 0))), some (.inl x1), some (.inr (.inl (some 18))), some (.inl (x3 + 1))], [], (J, L, W), c, sl) Qr Qx)) ∧ (J 24 x3 = x1 → NW sc d_J4_append_cf468 12 (0, [some (.inr (.inl (some 301))), some (.inl 32)], [], (J, L, W), 1, 150) (fun v M9 => NW sc d_X11_writeMoonsAboard D (37, [some (.inr (.inl (some 0))), some (.inl x1), some (.inr (.inl (some 18))), some (.inl x3)], nw_push v [], M9, (c - 1), (sl - 150)) Qr Qx) Qx)))))) :
    NW sc d_X11_writeMoonsAboard D (10, [some (.inr (.inl (some 0))), some (.inl x1), some (.inr (.inl (some 18))), some (.inl x3)], [], (J, L, W), c, sl) Qr Qx := by
  refine nw_iload_n l_X11_writeMoonsAboard_10 11 rfl rfl ?_
  refine nw_aload_n l_X11_writeMoonsAboard_11 12 rfl rfl ?_
  refine nw_getI l_X11_writeMoonsAboard_12 15 rfl k_18 (v := J 18 0) rfl ?_
  refine nw_ic_ge l_X11_writeMoonsAboard_15 18 rfl (fun q1 => ?_) (fun q1 => ?_)
  · replace h := h.1 q1
    refine nw_return l_X11_writeMoonsAboard_53 rfl ?_
    exact h
  · replace h := h.2 q1
    refine nw_aload_n l_X11_writeMoonsAboard_18 19 rfl rfl ?_
    refine nw_getA l_X11_writeMoonsAboard_19 22 rfl k_18 r_18_7 ?_
    refine nw_iload_n l_X11_writeMoonsAboard_22 23 rfl rfl ?_
    have o2 := h.1
    replace h := h.2
    refine nw_iald l_X11_writeMoonsAboard_23 24 rfl k_24 o2 (v := J 24 x3) rfl ?_
    refine nw_iload_n l_X11_writeMoonsAboard_24 25 rfl rfl ?_
    refine nw_ic_ne l_X11_writeMoonsAboard_25 28 rfl (fun q3 => ?_) (fun q3 => ?_)
    · replace h := h.1 q3
      have o4 := h.1
      replace h := h.2
      refine nw_iinc l_X11_writeMoonsAboard_47 50 rfl 1 (by decide) rfl rfl o4 (ls' := [some (.inr (.inl (some 0))), some (.inl x1), some (.inr (.inl (some 18))), some (.inl (x3 + 1))]) rfl ?_
      refine nw_goto l_X11_writeMoonsAboard_50 ?_
      exact h
    · replace h := h.2 q3
      refine nw_aload_n l_X11_writeMoonsAboard_28 29 rfl rfl ?_
      refine nw_getA l_X11_writeMoonsAboard_29 32 rfl k_0 r_0_9 ?_
      refine nw_bipush (len := 0) l_X11_writeMoonsAboard_32 34 rfl c_32 ?_
      refine nw_call 12 1 150 301 l_X11_writeMoonsAboard_34 rfl rfl g_J4_append_cf468 (Nat.lt_of_lt_of_le (by decide) hD) rfl (by omega) (by omega) (Or.inl ⟨_, rfl, k_301⟩) (ls' := [some (.inr (.inl (some 301))), some (.inl 32)]) rfl (st' := []) rfl 37 rfl (c' := (c - 1)) (by omega) (sl' := (sl - 150)) (by omega) ?_
      exact h
theorem b_X11_writeMoonsAboard_37 {x1 : Int} {x3 : Int} (hD : 13 ≤ D) (hc : 1 ≤ c) (hs : 150 ≤ sl) (h : ((0 ≤ x3 ∧ x3 < 10) ∧ NW sc d_J4_append_bf812 12 (0, [some (.inr (.inl (some 301))), some (.inl (J 19 x3))], [], (J, L, W), 1, 150) (fun v M9 => NW sc d_X11_writeMoonsAboard D (46, [some (.inr (.inl (some 0))), some (.inl x1), some (.inr (.inl (some 18))), some (.inl x3)], nw_push v [], M9, (c - 1), (sl - 150)) Qr Qx) Qx)) :
    NW sc d_X11_writeMoonsAboard D (37, [some (.inr (.inl (some 0))), some (.inl x1), some (.inr (.inl (some 18))), some (.inl x3)], [.inr (.inl (some 301))], (J, L, W), c, sl) Qr Qx := by
  refine nw_aload_n l_X11_writeMoonsAboard_37 38 rfl rfl ?_
  refine nw_getA l_X11_writeMoonsAboard_38 41 rfl k_18 r_18_2 ?_
  refine nw_iload_n l_X11_writeMoonsAboard_41 42 rfl rfl ?_
  have o1 := h.1
  replace h := h.2
  refine nw_iald l_X11_writeMoonsAboard_42 43 rfl k_19 o1 (v := J 19 x3) rfl ?_
  refine nw_call 12 1 150 301 l_X11_writeMoonsAboard_43 rfl rfl g_J4_append_bf812 (Nat.lt_of_lt_of_le (by decide) hD) rfl (by omega) (by omega) (Or.inl ⟨_, rfl, k_301⟩) (ls' := [some (.inr (.inl (some 301))), some (.inl (J 19 x3))]) rfl (st' := []) rfl 46 rfl (c' := (c - 1)) (by omega) (sl' := (sl - 150)) (by omega) ?_
  exact h
theorem b_X11_writeMoonsAboard_46 {x1 : Int} {x3 : Int} (h : ((-2147483648 ≤ x3 + 1 ∧ x3 + 1 < 2147483648) ∧ NW sc d_X11_writeMoonsAboard D (10, [some (.inr (.inl (some 0))), some (.inl x1), some (.inr (.inl (some 18))), some (.inl (x3 + 1))], [], (J, L, W), c, sl) Qr Qx)) :
    NW sc d_X11_writeMoonsAboard D (46, [some (.inr (.inl (some 0))), some (.inl x1), some (.inr (.inl (some 18))), some (.inl x3)], [.inr (.inl (some 301))], (J, L, W), c, sl) Qr Qx := by
  refine nw_popA l_X11_writeMoonsAboard_46 47 rfl ?_
  have o1 := h.1
  replace h := h.2
  refine nw_iinc l_X11_writeMoonsAboard_47 50 rfl 1 (by decide) rfl rfl o1 (ls' := [some (.inr (.inl (some 0))), some (.inl x1), some (.inr (.inl (some 18))), some (.inl (x3 + 1))]) rfl ?_
  refine nw_goto l_X11_writeMoonsAboard_50 ?_
  exact h
theorem b_X11_describeFerry_0 {x1 : Int} (hD : 14 ≤ D) (hc : 2 ≤ c) (hs : 156 ≤ sl) (h : ((x1 < 0 → (∀ n2, W.2.2.2.2 ≤ n2 → Qx 0 (J, L, nw_top W n2))) ∧ (0 ≤ x1 → ((J 9 0 ≤ x1 → (∀ n4, W.2.2.2.2 ≤ n4 → Qx 0 (J, L, nw_top W n4))) ∧ (x1 < J 9 0 → NW sc d_J4_setLength_d00df 12 (0, [some (.inr (.inl (some 301))), some (.inl 0)], [], (J, L, W), 1, 150) (fun v M9 => NW sc d_X11_describeFerry D (13, [some (.inr (.inl (some 0))), some (.inl x1)], nw_push v [], M9, (c - 2), (sl - 156)) Qr Qx) Qx))))) :
    NW sc d_X11_describeFerry D (0, [some (.inr (.inl (some 0))), some (.inl x1)], [], (J, L, W), c, sl) Qr Qx := by
  refine nw_aload_n l_X11_describeFerry_0 1 rfl rfl ?_
  refine nw_iload_n l_X11_describeFerry_1 2 rfl rfl ?_
  refine nw_call 1 1 6 0 l_X11_describeFerry_2 rfl rfl g_X11_needFerry (Nat.lt_of_lt_of_le (by decide) hD) rfl (by omega) (by omega) (Or.inl ⟨_, rfl, k_0⟩) (ls' := [some (.inr (.inl (some 0))), some (.inl x1)]) rfl (st' := []) rfl 5 rfl (c' := (c - 1)) (by omega) (sl' := (sl - 6)) (by omega) ?_
  refine nw_aload_n l_X11_needFerry_0 1 rfl rfl ?_
  refine nw_getA l_X11_needFerry_1 4 rfl k_0 r_0_1 ?_
  refine nw_getA l_X11_needFerry_4 7 rfl k_2 r_2_1 ?_
  refine nw_iload_n l_X11_needFerry_7 8 rfl rfl ?_
  refine nw_call0 0 9 l_X11_needFerry_8 rfl rfl g_X4_hasFerry (by decide) rfl (Or.inl ⟨_, rfl, k_9⟩) (ls' := [some (.inr (.inl (some 9))), some (.inl x1)]) rfl (st' := []) rfl 11 rfl ?_
  refine nw_iload_n l_X4_hasFerry_0 1 rfl rfl ?_
  refine nw_if_lt l_X4_hasFerry_1 4 rfl (fun q1 => ?_) (fun q1 => ?_)
  · replace h := h.1 q1
    refine nw_iconst (len := 0) l_X4_hasFerry_16 17 rfl c_0 ?_
    refine nw_ireturnZ l_X4_hasFerry_17 rfl (Or.inl rfl) ?_
    refine nw_if_ne l_X11_needFerry_11 14 rfl (fun q => absurd q (by decide)) (fun _ => ?_)
    refine nw_throw 0 l_X11_needFerry_14 ⟨rfl, rfl, rfl, by decide, rfl⟩ (by decide) (by decide) (fun n2 z2 => ?_)
    replace h := h n2 z2
    exact h
  · replace h := h.2 q1
    refine nw_iload_n l_X4_hasFerry_4 5 rfl rfl ?_
    refine nw_aload_n l_X4_hasFerry_5 6 rfl rfl ?_
    refine nw_getI l_X4_hasFerry_6 9 rfl k_9 (v := J 9 0) rfl ?_
    refine nw_ic_ge l_X4_hasFerry_9 12 rfl (fun q3 => ?_) (fun q3 => ?_)
    · replace h := h.1 q3
      refine nw_iconst (len := 0) l_X4_hasFerry_16 17 rfl c_0 ?_
      refine nw_ireturnZ l_X4_hasFerry_17 rfl (Or.inl rfl) ?_
      refine nw_if_ne l_X11_needFerry_11 14 rfl (fun q => absurd q (by decide)) (fun _ => ?_)
      refine nw_throw 0 l_X11_needFerry_14 ⟨rfl, rfl, rfl, by decide, rfl⟩ (by decide) (by decide) (fun n4 z4 => ?_)
      replace h := h n4 z4
      exact h
    · replace h := h.2 q3
      refine nw_iconst (len := 0) l_X4_hasFerry_12 13 rfl c_1 ?_
      refine nw_goto l_X4_hasFerry_13 ?_
      refine nw_ireturnZ l_X4_hasFerry_17 rfl (Or.inr rfl) ?_
      refine nw_if_ne l_X11_needFerry_11 14 rfl (fun _ => ?_) (fun q => absurd q (by decide))
      refine nw_return l_X11_needFerry_22 rfl ?_
      refine nw_aload_n l_X11_describeFerry_5 6 rfl rfl ?_
      refine nw_getA l_X11_describeFerry_6 9 rfl k_0 r_0_9 ?_
      refine nw_iconst (len := 0) l_X11_describeFerry_9 10 rfl c_0 ?_
      refine nw_call 12 1 150 301 l_X11_describeFerry_10 rfl rfl g_J4_setLength_d00df (Nat.lt_of_lt_of_le (by decide) hD) rfl (by omega) (by omega) (Or.inl ⟨_, rfl, k_301⟩) (ls' := [some (.inr (.inl (some 301))), some (.inl 0)]) rfl (st' := []) rfl 13 rfl (c' := (c - 2)) (by omega) (sl' := (sl - 156)) (by omega) ?_
      exact h
theorem b_X11_describeFerry_13 {x1 : Int} (hD : 14 ≤ D) (hc : 1 ≤ c) (hs : 150 ≤ sl) (h : NW sc d_J4_append_bf812 12 (0, [some (.inr (.inl (some 301))), some (.inl x1)], [], (J, L, W), 1, 150) (fun v M9 => NW sc d_X11_describeFerry D (21, [some (.inr (.inl (some 0))), some (.inl x1)], nw_push v [], M9, (c - 1), (sl - 150)) Qr Qx) Qx) :
    NW sc d_X11_describeFerry D (13, [some (.inr (.inl (some 0))), some (.inl x1)], [], (J, L, W), c, sl) Qr Qx := by
  refine nw_aload_n l_X11_describeFerry_13 14 rfl rfl ?_
  refine nw_getA l_X11_describeFerry_14 17 rfl k_0 r_0_9 ?_
  refine nw_iload_n l_X11_describeFerry_17 18 rfl rfl ?_
  refine nw_call 12 1 150 301 l_X11_describeFerry_18 rfl rfl g_J4_append_bf812 (Nat.lt_of_lt_of_le (by decide) hD) rfl (by omega) (by omega) (Or.inl ⟨_, rfl, k_301⟩) (ls' := [some (.inr (.inl (some 301))), some (.inl x1)]) rfl (st' := []) rfl 21 rfl (c' := (c - 1)) (by omega) (sl' := (sl - 150)) (by omega) ?_
  exact h
theorem b_X11_describeFerry_21 {x1 : Int} (hD : 14 ≤ D) (hc : 4 ≤ c) (hs : 600 ≤ sl) (h : NW sc d_X11_writePosition 13 (0, [some (.inr (.inl (some 0))), some (.inl x1)], [], (J, L, W), 4, 600) (fun v M9 => NW sc d_X11_describeFerry D (27, [some (.inr (.inl (some 0))), some (.inl x1)], nw_push v [], M9, (c - 4), (sl - 600)) Qr Qx) Qx) :
    NW sc d_X11_describeFerry D (21, [some (.inr (.inl (some 0))), some (.inl x1)], [.inr (.inl (some 301))], (J, L, W), c, sl) Qr Qx := by
  refine nw_popA l_X11_describeFerry_21 22 rfl ?_
  refine nw_aload_n l_X11_describeFerry_22 23 rfl rfl ?_
  refine nw_iload_n l_X11_describeFerry_23 24 rfl rfl ?_
  refine nw_call 13 4 600 0 l_X11_describeFerry_24 rfl rfl g_X11_writePosition (Nat.lt_of_lt_of_le (by decide) hD) rfl (by omega) (by omega) (Or.inl ⟨_, rfl, k_0⟩) (ls' := [some (.inr (.inl (some 0))), some (.inl x1)]) rfl (st' := []) rfl 27 rfl (c' := (c - 4)) (by omega) (sl' := (sl - 600)) (by omega) ?_
  exact h
theorem b_X11_describeFerry_27 {x1 : Int} (hD : 14 ≤ D) (hc : 20 ≤ c) (hs : 3000 ≤ sl) (h : NW sc d_X11_writeMoonsAboard 13 (0, [some (.inr (.inl (some 0))), some (.inl x1), none, none], [], (J, L, W), 20, 3000) (fun v M9 => NW sc d_X11_describeFerry D (32, [some (.inr (.inl (some 0))), none], nw_push v [], M9, (c - 20), (sl - 3000)) Qr Qx) Qx) :
    NW sc d_X11_describeFerry D (27, [some (.inr (.inl (some 0))), some (.inl x1)], [], (J, L, W), c, sl) Qr Qx := by
  refine nw_aload_n l_X11_describeFerry_27 28 rfl rfl ?_
  refine nw_iload_n l_X11_describeFerry_28 29 rfl rfl ?_
  refine nw_drop (ls' := [some (.inr (.inl (some 0))), none]) ⟨rfl, ⟨True.intro, True.intro⟩⟩ ?_
  refine nw_call 13 20 3000 0 l_X11_describeFerry_29 rfl rfl g_X11_writeMoonsAboard (Nat.lt_of_lt_of_le (by decide) hD) rfl (by omega) (by omega) (Or.inl ⟨_, rfl, k_0⟩) (ls' := [some (.inr (.inl (some 0))), some (.inl x1), none, none]) rfl (st' := []) rfl 32 rfl (c' := (c - 20)) (by omega) (sl' := (sl - 3000)) (by omega) ?_
  exact h
theorem b_X11_describeFerry_32  (hD : 14 ≤ D) (h : NW sc d_J4_length_8abf5 12 (0, [some (.inr (.inl (some 301)))], [], (J, L, W), 0, 0) (fun v M9 => NW sc d_X11_describeFerry D (39, [none, none], nw_push v [], M9, c, sl) Qr Qx) Qx) :
    NW sc d_X11_describeFerry D (32, [some (.inr (.inl (some 0))), none], [], (J, L, W), c, sl) Qr Qx := by
  refine nw_aload_n l_X11_describeFerry_32 33 rfl rfl ?_
  refine nw_getA l_X11_describeFerry_33 36 rfl k_0 r_0_9 ?_
  refine nw_drop (ls' := [none, none]) ⟨True.intro, ⟨True.intro, True.intro⟩⟩ ?_
  refine nw_call0 12 301 l_X11_describeFerry_36 rfl rfl g_J4_length_8abf5 (Nat.lt_of_lt_of_le (by decide) hD) rfl (Or.inl ⟨_, rfl, k_301⟩) (ls' := [some (.inr (.inl (some 301)))]) rfl (st' := []) rfl 39 rfl ?_
  exact h
theorem b_X11_describeFerry_39 {y0 : Int} (h : Qr (some (.inl y0)) (J, L, W)) :
    NW sc d_X11_describeFerry D (39, [none, none], [.inl y0], (J, L, W), c, sl) Qr Qx := by
  refine nw_ireturn l_X11_describeFerry_39 rfl ?_
  exact h
theorem b_X11_lineAt_0 {x1 : Int} (hD : 13 ≤ D) (hc : 1 ≤ c) (hs : 6 ≤ sl) (h : ((x1 < 0 → (∀ n2, W.2.2.2.2 ≤ n2 → Qx 0 (J, L, nw_top W n2))) ∧ (0 ≤ x1 → NW sc d_J4_length_8abf5 12 (0, [some (.inr (.inl (some 301)))], [], (J, L, W), 0, 0) (fun v M9 => NW sc d_X11_lineAt D (12, [some (.inr (.inl (some 0))), some (.inl x1)], nw_push v [.inl x1], M9, c, sl) Qr Qx) Qx))) :
    NW sc d_X11_lineAt D (0, [some (.inr (.inl (some 0))), some (.inl x1)], [], (J, L, W), c, sl) Qr Qx := by
  refine nw_iload_n l_X11_lineAt_0 1 rfl rfl ?_
  refine nw_if_lt l_X11_lineAt_1 4 rfl (fun q1 => ?_) (fun q1 => ?_)
  · replace h := h.1 q1
    refine nw_throw 0 l_X11_lineAt_15 ⟨rfl, rfl, rfl, by decide, rfl⟩ (by omega) (by omega) (fun n2 z2 => ?_)
    replace h := h n2 z2
    exact h
  · replace h := h.2 q1
    refine nw_iload_n l_X11_lineAt_4 5 rfl rfl ?_
    refine nw_aload_n l_X11_lineAt_5 6 rfl rfl ?_
    refine nw_getA l_X11_lineAt_6 9 rfl k_0 r_0_9 ?_
    refine nw_call0 12 301 l_X11_lineAt_9 rfl rfl g_J4_length_8abf5 (Nat.lt_of_lt_of_le (by decide) hD) rfl (Or.inl ⟨_, rfl, k_301⟩) (ls' := [some (.inr (.inl (some 301)))]) rfl (st' := [.inl x1]) rfl 12 rfl ?_
    exact h
theorem b_X11_lineAt_12 {x1 : Int} {y0 : Int} {y1 : Int} (hD : 13 ≤ D) (hc : 1 ≤ c) (hs : 6 ≤ sl) (h : ((y1 < y0 → NW sc d_J4_charAt_5068e 12 (0, [some (.inr (.inl (some 301))), some (.inl x1)], [], (J, L, W), 0, 0) (fun v M9 => NW sc d_X11_lineAt D (31, [none, none], nw_push v [], M9, c, sl) Qr Qx) Qx) ∧ (y0 ≤ y1 → (∀ n2, W.2.2.2.2 ≤ n2 → Qx 0 (J, L, nw_top W n2))))) :
    NW sc d_X11_lineAt D (12, [some (.inr (.inl (some 0))), some (.inl x1)], [.inl y0, .inl y1], (J, L, W), c, sl) Qr Qx := by
  refine nw_ic_lt l_X11_lineAt_12 15 rfl (fun q1 => ?_) (fun q1 => ?_)
  · replace h := h.1 q1
    refine nw_aload_n l_X11_lineAt_23 24 rfl rfl ?_
    refine nw_getA l_X11_lineAt_24 27 rfl k_0 r_0_9 ?_
    refine nw_iload_n l_X11_lineAt_27 28 rfl rfl ?_
    refine nw_drop (ls' := [none, none]) ⟨True.intro, ⟨True.intro, True.intro⟩⟩ ?_
    refine nw_call0 12 301 l_X11_lineAt_28 rfl rfl g_J4_charAt_5068e (Nat.lt_of_lt_of_le (by decide) hD) rfl (Or.inl ⟨_, rfl, k_301⟩) (ls' := [some (.inr (.inl (some 301))), some (.inl x1)]) rfl (st' := []) rfl 31 rfl ?_
    exact h
  · replace h := h.2 q1
    refine nw_throw 0 l_X11_lineAt_15 ⟨rfl, rfl, rfl, by decide, rfl⟩ (by omega) (by omega) (fun n2 z2 => ?_)
    replace h := h n2 z2
    exact h
theorem b_X11_lineAt_31 {y0 : Int} (h : ((0 ≤ y0 ∧ y0 < 65536) ∧ Qr (some (.inl y0)) (J, L, W))) :
    NW sc d_X11_lineAt D (31, [none, none], [.inl y0], (J, L, W), c, sl) Qr Qx := by
  have o1 := h.1
  replace h := h.2
  refine nw_ireturnC l_X11_lineAt_31 rfl o1 ?_
  exact h
end

