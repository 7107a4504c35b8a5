/-! 24.blkA: blocks of methods, by program-/
section
variable {sc : Nat × (Nat → Int32)} {D : Nat} {J L : Nat → Int → Int} {W : nw_W} {c sl : Nat} {Qr : nw_QR} {Qx : nw_QX}
theorem b_J7_fill_53178_30_0 {x1 : Int} (h : NW sc d_J7_fill_53178 D (5, [some (.inr (.inl (some 30))), some (.inl x1), some (.inl 0), some (.inl 6)], [], (J, L, W), c, sl) Qr Qx) :
    NW sc d_J7_fill_53178 D (0, [some (.inr (.inl (some 30))), some (.inl x1), none, none], [], (J, L, W), c, sl) Qr Qx := by
  refine nw_iconst (len := 0) l_J7_fill_53178_0 1 rfl c_0 ?_
  refine nw_istore_n l_J7_fill_53178_1 2 rfl rfl (ls' := [some (.inr (.inl (some 30))), some (.inl x1), some (.inl 0), none]) rfl ?_
  refine nw_aload_n l_J7_fill_53178_2 3 rfl rfl ?_
  refine nw_alen l_J7_fill_53178_3 4 rfl k_30 ⟨by decide, by decide, by decide⟩ ?_
  refine nw_istore_n l_J7_fill_53178_4 5 rfl rfl (ls' := [some (.inr (.inl (some 30))), some (.inl x1), some (.inl 0), some (.inl 6)]) rfl ?_
  exact h
theorem b_J7_fill_53178_30_5 {x1 : Int} {x2 : Int} {x3 : Int} (h : ((x3 ≤ x2 → Qr none (J, L, W)) ∧ (x2 < x3 → ((0 ≤ x2 ∧ x2 < 6) ∧ ((-2147483648 ≤ x2 + 1 ∧ x2 + 1 < 2147483648) ∧ NW sc d_J7_fill_53178 D (5, [some (.inr (.inl (some 30))), some (.inl x1), some (.inl (x2 + 1)), some (.inl x3)], [], (nw_u J 30 x2 x1, L, W), c, sl) Qr Qx))))) :
    NW sc d_J7_fill_53178 D (5, [some (.inr (.inl (some 30))), some (.inl x1), some (.inl x2), some (.inl x3)], [], (J, L, W), c, sl) Qr Qx := by
  refine nw_iload_n l_J7_fill_53178_5 6 rfl rfl ?_
  refine nw_iload_n l_J7_fill_53178_6 7 rfl rfl ?_
  refine nw_ic_ge l_J7_fill_53178_7 10 rfl (fun q1 => ?_) (fun q1 => ?_)
  · replace h := h.1 q1
    refine nw_return l_J7_fill_53178_20 rfl ?_
    exact h
  · replace h := h.2 q1
    refine nw_aload_n l_J7_fill_53178_10 11 rfl rfl ?_
    refine nw_iload_n l_J7_fill_53178_11 12 rfl rfl ?_
    refine nw_iload_n l_J7_fill_53178_12 13 rfl rfl ?_
    have o2 := h.1
    replace h := h.2
    refine nw_iast l_J7_fill_53178_13 14 rfl k_30 o2 ?_
    have o3 := h.1
    replace h := h.2
    refine nw_iinc l_J7_fill_53178_14 17 rfl 1 (by decide) rfl rfl o3 (ls' := [some (.inr (.inl (some 30))), some (.inl x1), some (.inl (x2 + 1)), some (.inl x3)]) rfl ?_
    refine nw_goto l_J7_fill_53178_17 ?_
    exact h
theorem b_J7_fill_53178_38_0 {x1 : Int} (h : NW sc d_J7_fill_53178 D (5, [some (.inr (.inl (some 38))), some (.inl x1), some (.inl 0), some (.inl 6)], [], (J, L, W), c, sl) Qr Qx) :
    NW sc d_J7_fill_53178 D (0, [some (.inr (.inl (some 38))), some (.inl x1), none, none], [], (J, L, W), c, sl) Qr Qx := by
  refine nw_iconst (len := 0) l_J7_fill_53178_0 1 rfl c_0 ?_
  refine nw_istore_n l_J7_fill_53178_1 2 rfl rfl (ls' := [some (.inr (.inl (some 38))), some (.inl x1), some (.inl 0), none]) rfl ?_
  refine nw_aload_n l_J7_fill_53178_2 3 rfl rfl ?_
  refine nw_alen l_J7_fill_53178_3 4 rfl k_38 ⟨by decide, by decide, by decide⟩ ?_
  refine nw_istore_n l_J7_fill_53178_4 5 rfl rfl (ls' := [some (.inr (.inl (some 38))), some (.inl x1), some (.inl 0), some (.inl 6)]) rfl ?_
  exact h
theorem b_J7_fill_53178_38_5 {x1 : Int} {x2 : Int} {x3 : Int} (h : ((x3 ≤ x2 → Qr none (J, L, W)) ∧ (x2 < x3 → ((0 ≤ x2 ∧ x2 < 6) ∧ ((-2147483648 ≤ x2 + 1 ∧ x2 + 1 < 2147483648) ∧ NW sc d_J7_fill_53178 D (5, [some (.inr (.inl (some 38))), some (.inl x1), some (.inl (x2 + 1)), some (.inl x3)], [], (nw_u J 38 x2 x1, L, W), c, sl) Qr Qx))))) :
    NW sc d_J7_fill_53178 D (5, [some (.inr (.inl (some 38))), some (.inl x1), some (.inl x2), some (.inl x3)], [], (J, L, W), c, sl) Qr Qx := by
  refine nw_iload_n l_J7_fill_53178_5 6 rfl rfl ?_
  refine nw_iload_n l_J7_fill_53178_6 7 rfl rfl ?_
  refine nw_ic_ge l_J7_fill_53178_7 10 rfl (fun q1 => ?_) (fun q1 => ?_)
  · replace h := h.1 q1
    refine nw_return l_J7_fill_53178_20 rfl ?_
    exact h
  · replace h := h.2 q1
    refine nw_aload_n l_J7_fill_53178_10 11 rfl rfl ?_
    refine nw_iload_n l_J7_fill_53178_11 12 rfl rfl ?_
    refine nw_iload_n l_J7_fill_53178_12 13 rfl rfl ?_
    have o2 := h.1
    replace h := h.2
    refine nw_iast l_J7_fill_53178_13 14 rfl k_38 o2 ?_
    have o3 := h.1
    replace h := h.2
    refine nw_iinc l_J7_fill_53178_14 17 rfl 1 (by decide) rfl rfl o3 (ls' := [some (.inr (.inl (some 38))), some (.inl x1), some (.inl (x2 + 1)), some (.inl x3)]) rfl ?_
    refine nw_goto l_J7_fill_53178_17 ?_
    exact h
theorem b_J7_fill_53178_39_0 {x1 : Int} (h : NW sc d_J7_fill_53178 D (5, [some (.inr (.inl (some 39))), some (.inl x1), some (.inl 0), some (.inl 6)], [], (J, L, W), c, sl) Qr Qx) :
    NW sc d_J7_fill_53178 D (0, [some (.inr (.inl (some 39))), some (.inl x1), none, none], [], (J, L, W), c, sl) Qr Qx := by
  refine nw_iconst (len := 0) l_J7_fill_53178_0 1 rfl c_0 ?_
  refine nw_istore_n l_J7_fill_53178_1 2 rfl rfl (ls' := [some (.inr (.inl (some 39))), some (.inl x1), some (.inl 0), none]) rfl ?_
  refine nw_aload_n l_J7_fill_53178_2 3 rfl rfl ?_
  refine nw_alen l_J7_fill_53178_3 4 rfl k_39 ⟨by decide, by decide, by decide⟩ ?_
  refine nw_istore_n l_J7_fill_53178_4 5 rfl rfl (ls' := [some (.inr (.inl (some 39))), some (.inl x1), some (.inl 0), some (.inl 6)]) rfl ?_
  exact h
theorem b_J7_fill_53178_39_5 {x1 : Int} {x2 : Int} {x3 : Int} (h : ((x3 ≤ x2 → Qr none (J, L, W)) ∧ (x2 < x3 → ((0 ≤ x2 ∧ x2 < 6) ∧ ((-2147483648 ≤ x2 + 1 ∧ x2 + 1 < 2147483648) ∧ NW sc d_J7_fill_53178 D (5, [some (.inr (.inl (some 39))), some (.inl x1), some (.inl (x2 + 1)), some (.inl x3)], [], (nw_u J 39 x2 x1, L, W), c, sl) Qr Qx))))) :
    NW sc d_J7_fill_53178 D (5, [some (.inr (.inl (some 39))), some (.inl x1), some (.inl x2), some (.inl x3)], [], (J, L, W), c, sl) Qr Qx := by
  refine nw_iload_n l_J7_fill_53178_5 6 rfl rfl ?_
  refine nw_iload_n l_J7_fill_53178_6 7 rfl rfl ?_
  refine nw_ic_ge l_J7_fill_53178_7 10 rfl (fun q1 => ?_) (fun q1 => ?_)
  · replace h := h.1 q1
    refine nw_return l_J7_fill_53178_20 rfl ?_
    exact h
  · replace h := h.2 q1
    refine nw_aload_n l_J7_fill_53178_10 11 rfl rfl ?_
    refine nw_iload_n l_J7_fill_53178_11 12 rfl rfl ?_
    refine nw_iload_n l_J7_fill_53178_12 13 rfl rfl ?_
    have o2 := h.1
    replace h := h.2
    refine nw_iast l_J7_fill_53178_13 14 rfl k_39 o2 ?_
    have o3 := h.1
    replace h := h.2
    refine nw_iinc l_J7_fill_53178_14 17 rfl 1 (by decide) rfl rfl o3 (ls' := [some (.inr (.inl (some 39))), some (.inl x1), some (.inl (x2 + 1)), some (.inl x3)]) rfl ?_
    refine nw_goto l_J7_fill_53178_17 ?_
    exact h
theorem b_J7_fill_53178_45_0 {x1 : Int} (h : NW sc d_J7_fill_53178 D (5, [some (.inr (.inl (some 45))), some (.inl x1), some (.inl 0), some (.inl 100)], [], (J, L, W), c, sl) Qr Qx) :
    NW sc d_J7_fill_53178 D (0, [some (.inr (.inl (some 45))), some (.inl x1), none, none], [], (J, L, W), c, sl) Qr Qx := by
  refine nw_iconst (len := 0) l_J7_fill_53178_0 1 rfl c_0 ?_
  refine nw_istore_n l_J7_fill_53178_1 2 rfl rfl (ls' := [some (.inr (.inl (some 45))), some (.inl x1), some (.inl 0), none]) rfl ?_
  refine nw_aload_n l_J7_fill_53178_2 3 rfl rfl ?_
  refine nw_alen l_J7_fill_53178_3 4 rfl k_45 ⟨by decide, by decide, by decide⟩ ?_
  refine nw_istore_n l_J7_fill_53178_4 5 rfl rfl (ls' := [some (.inr (.inl (some 45))), some (.inl x1), some (.inl 0), some (.inl 100)]) rfl ?_
  exact h
theorem b_J7_fill_53178_45_5 {x1 : Int} {x2 : Int} {x3 : Int} (h : ((x3 ≤ x2 → Qr none (J, L, W)) ∧ (x2 < x3 → ((0 ≤ x2 ∧ x2 < 100) ∧ ((-2147483648 ≤ x2 + 1 ∧ x2 + 1 < 2147483648) ∧ NW sc d_J7_fill_53178 D (5, [some (.inr (.inl (some 45))), some (.inl x1), some (.inl (x2 + 1)), some (.inl x3)], [], (nw_u J 45 x2 x1, L, W), c, sl) Qr Qx))))) :
    NW sc d_J7_fill_53178 D (5, [some (.inr (.inl (some 45))), some (.inl x1), some (.inl x2), some (.inl x3)], [], (J, L, W), c, sl) Qr Qx := by
  refine nw_iload_n l_J7_fill_53178_5 6 rfl rfl ?_
  refine nw_iload_n l_J7_fill_53178_6 7 rfl rfl ?_
  refine nw_ic_ge l_J7_fill_53178_7 10 rfl (fun q1 => ?_) (fun q1 => ?_)
  · replace h := h.1 q1
    refine nw_return l_J7_fill_53178_20 rfl ?_
    exact h
  · replace h := h.2 q1
    refine nw_aload_n l_J7_fill_53178_10 11 rfl rfl ?_
    refine nw_iload_n l_J7_fill_53178_11 12 rfl rfl ?_
    refine nw_iload_n l_J7_fill_53178_12 13 rfl rfl ?_
    have o2 := h.1
    replace h := h.2
    refine nw_iast l_J7_fill_53178_13 14 rfl k_45 o2 ?_
    have o3 := h.1
    replace h := h.2
    refine nw_iinc l_J7_fill_53178_14 17 rfl 1 (by decide) rfl rfl o3 (ls' := [some (.inr (.inl (some 45))), some (.inl x1), some (.inl (x2 + 1)), some (.inl x3)]) rfl ?_
    refine nw_goto l_J7_fill_53178_17 ?_
    exact h
theorem b_J7_fill_53178_54_0 {x1 : Int} (h : NW sc d_J7_fill_53178 D (5, [some (.inr (.inl (some 54))), some (.inl x1), some (.inl 0), some (.inl 100)], [], (J, L, W), c, sl) Qr Qx) :
    NW sc d_J7_fill_53178 D (0, [some (.inr (.inl (some 54))), some (.inl x1), none, none], [], (J, L, W), c, sl) Qr Qx := by
  refine nw_iconst (len := 0) l_J7_fill_53178_0 1 rfl c_0 ?_
  refine nw_istore_n l_J7_fill_53178_1 2 rfl rfl (ls' := [some (.inr (.inl (some 54))), some (.inl x1), some (.inl 0), none]) rfl ?_
  refine nw_aload_n l_J7_fill_53178_2 3 rfl rfl ?_
  refine nw_alen l_J7_fill_53178_3 4 rfl k_54 ⟨by decide, by decide, by decide⟩ ?_
  refine nw_istore_n l_J7_fill_53178_4 5 rfl rfl (ls' := [some (.inr (.inl (some 54))), some (.inl x1), some (.inl 0), some (.inl 100)]) rfl ?_
  exact h
theorem b_J7_fill_53178_54_5 {x1 : Int} {x2 : Int} {x3 : Int} (h : ((x3 ≤ x2 → Qr none (J, L, W)) ∧ (x2 < x3 → ((0 ≤ x2 ∧ x2 < 100) ∧ ((-2147483648 ≤ x2 + 1 ∧ x2 + 1 < 2147483648) ∧ NW sc d_J7_fill_53178 D (5, [some (.inr (.inl (some 54))), some (.inl x1), some (.inl (x2 + 1)), some (.inl x3)], [], (nw_u J 54 x2 x1, L, W), c, sl) Qr Qx))))) :
    NW sc d_J7_fill_53178 D (5, [some (.inr (.inl (some 54))), some (.inl x1), some (.inl x2), some (.inl x3)], [], (J, L, W), c, sl) Qr Qx := by
  refine nw_iload_n l_J7_fill_53178_5 6 rfl rfl ?_
  refine nw_iload_n l_J7_fill_53178_6 7 rfl rfl ?_
  refine nw_ic_ge l_J7_fill_53178_7 10 rfl (fun q1 => ?_) (fun q1 => ?_)
  · replace h := h.1 q1
    refine nw_return l_J7_fill_53178_20 rfl ?_
    exact h
  · replace h := h.2 q1
    refine nw_aload_n l_J7_fill_53178_10 11 rfl rfl ?_
    refine nw_iload_n l_J7_fill_53178_11 12 rfl rfl ?_
    refine nw_iload_n l_J7_fill_53178_12 13 rfl rfl ?_
    have o2 := h.1
    replace h := h.2
    refine nw_iast l_J7_fill_53178_13 14 rfl k_54 o2 ?_
    have o3 := h.1
    replace h := h.2
    refine nw_iinc l_J7_fill_53178_14 17 rfl 1 (by decide) rfl rfl o3 (ls' := [some (.inr (.inl (some 54))), some (.inl x1), some (.inl (x2 + 1)), some (.inl x3)]) rfl ?_
    refine nw_goto l_J7_fill_53178_17 ?_
    exact h
theorem b_J7_fill_53178_32_0 {x1 : Int} (h : NW sc d_J7_fill_53178 D (5, [some (.inr (.inl (some 32))), some (.inl x1), some (.inl 0), some (.inl 6)], [], (J, L, W), c, sl) Qr Qx) :
    NW sc d_J7_fill_53178 D (0, [some (.inr (.inl (some 32))), some (.inl x1), none, none], [], (J, L, W), c, sl) Qr Qx := by
  refine nw_iconst (len := 0) l_J7_fill_53178_0 1 rfl c_0 ?_
  refine nw_istore_n l_J7_fill_53178_1 2 rfl rfl (ls' := [some (.inr (.inl (some 32))), some (.inl x1), some (.inl 0), none]) rfl ?_
  refine nw_aload_n l_J7_fill_53178_2 3 rfl rfl ?_
  refine nw_alen l_J7_fill_53178_3 4 rfl k_32 ⟨by decide, by decide, by decide⟩ ?_
  refine nw_istore_n l_J7_fill_53178_4 5 rfl rfl (ls' := [some (.inr (.inl (some 32))), some (.inl x1), some (.inl 0), some (.inl 6)]) rfl ?_
  exact h
theorem b_J7_fill_53178_32_5 {x1 : Int} {x2 : Int} {x3 : Int} (h : ((x3 ≤ x2 → Qr none (J, L, W)) ∧ (x2 < x3 → ((0 ≤ x2 ∧ x2 < 6) ∧ ((-2147483648 ≤ x2 + 1 ∧ x2 + 1 < 2147483648) ∧ NW sc d_J7_fill_53178 D (5, [some (.inr (.inl (some 32))), some (.inl x1), some (.inl (x2 + 1)), some (.inl x3)], [], (nw_u J 32 x2 x1, L, W), c, sl) Qr Qx))))) :
    NW sc d_J7_fill_53178 D (5, [some (.inr (.inl (some 32))), some (.inl x1), some (.inl x2), some (.inl x3)], [], (J, L, W), c, sl) Qr Qx := by
  refine nw_iload_n l_J7_fill_53178_5 6 rfl rfl ?_
  refine nw_iload_n l_J7_fill_53178_6 7 rfl rfl ?_
  refine nw_ic_ge l_J7_fill_53178_7 10 rfl (fun q1 => ?_) (fun q1 => ?_)
  · replace h := h.1 q1
    refine nw_return l_J7_fill_53178_20 rfl ?_
    exact h
  · replace h := h.2 q1
    refine nw_aload_n l_J7_fill_53178_10 11 rfl rfl ?_
    refine nw_iload_n l_J7_fill_53178_11 12 rfl rfl ?_
    refine nw_iload_n l_J7_fill_53178_12 13 rfl rfl ?_
    have o2 := h.1
    replace h := h.2
    refine nw_iast l_J7_fill_53178_13 14 rfl k_32 o2 ?_
    have o3 := h.1
    replace h := h.2
    refine nw_iinc l_J7_fill_53178_14 17 rfl 1 (by decide) rfl rfl o3 (ls' := [some (.inr (.inl (some 32))), some (.inl x1), some (.inl (x2 + 1)), some (.inl x3)]) rfl ?_
    refine nw_goto l_J7_fill_53178_17 ?_
    exact h
theorem b_J7_fill_53178_33_0 {x1 : Int} (h : NW sc d_J7_fill_53178 D (5, [some (.inr (.inl (some 33))), some (.inl x1), some (.inl 0), some (.inl 6)], [], (J, L, W), c, sl) Qr Qx) :
    NW sc d_J7_fill_53178 D (0, [some (.inr (.inl (some 33))), some (.inl x1), none, none], [], (J, L, W), c, sl) Qr Qx := by
  refine nw_iconst (len := 0) l_J7_fill_53178_0 1 rfl c_0 ?_
  refine nw_istore_n l_J7_fill_53178_1 2 rfl rfl (ls' := [some (.inr (.inl (some 33))), some (.inl x1), some (.inl 0), none]) rfl ?_
  refine nw_aload_n l_J7_fill_53178_2 3 rfl rfl ?_
  refine nw_alen l_J7_fill_53178_3 4 rfl k_33 ⟨by decide, by decide, by decide⟩ ?_
  refine nw_istore_n l_J7_fill_53178_4 5 rfl rfl (ls' := [some (.inr (.inl (some 33))), some (.inl x1), some (.inl 0), some (.inl 6)]) rfl ?_
  exact h
theorem b_J7_fill_53178_33_5 {x1 : Int} {x2 : Int} {x3 : Int} (h : ((x3 ≤ x2 → Qr none (J, L, W)) ∧ (x2 < x3 → ((0 ≤ x2 ∧ x2 < 6) ∧ ((-2147483648 ≤ x2 + 1 ∧ x2 + 1 < 2147483648) ∧ NW sc d_J7_fill_53178 D (5, [some (.inr (.inl (some 33))), some (.inl x1), some (.inl (x2 + 1)), some (.inl x3)], [], (nw_u J 33 x2 x1, L, W), c, sl) Qr Qx))))) :
    NW sc d_J7_fill_53178 D (5, [some (.inr (.inl (some 33))), some (.inl x1), some (.inl x2), some (.inl x3)], [], (J, L, W), c, sl) Qr Qx := by
  refine nw_iload_n l_J7_fill_53178_5 6 rfl rfl ?_
  refine nw_iload_n l_J7_fill_53178_6 7 rfl rfl ?_
  refine nw_ic_ge l_J7_fill_53178_7 10 rfl (fun q1 => ?_) (fun q1 => ?_)
  · replace h := h.1 q1
    refine nw_return l_J7_fill_53178_20 rfl ?_
    exact h
  · replace h := h.2 q1
    refine nw_aload_n l_J7_fill_53178_10 11 rfl rfl ?_
    refine nw_iload_n l_J7_fill_53178_11 12 rfl rfl ?_
    refine nw_iload_n l_J7_fill_53178_12 13 rfl rfl ?_
    have o2 := h.1
    replace h := h.2
    refine nw_iast l_J7_fill_53178_13 14 rfl k_33 o2 ?_
    have o3 := h.1
    replace h := h.2
    refine nw_iinc l_J7_fill_53178_14 17 rfl 1 (by decide) rfl rfl o3 (ls' := [some (.inr (.inl (some 33))), some (.inl x1), some (.inl (x2 + 1)), some (.inl x3)]) rfl ?_
    refine nw_goto l_J7_fill_53178_17 ?_
    exact h
theorem b_J7_fill_53178_34_0 {x1 : Int} (h : NW sc d_J7_fill_53178 D (5, [some (.inr (.inl (some 34))), some (.inl x1), some (.inl 0), some (.inl 6)], [], (J, L, W), c, sl) Qr Qx) :
    NW sc d_J7_fill_53178 D (0, [some (.inr (.inl (some 34))), some (.inl x1), none, none], [], (J, L, W), c, sl) Qr Qx := by
  refine nw_iconst (len := 0) l_J7_fill_53178_0 1 rfl c_0 ?_
  refine nw_istore_n l_J7_fill_53178_1 2 rfl rfl (ls' := [some (.inr (.inl (some 34))), some (.inl x1), some (.inl 0), none]) rfl ?_
  refine nw_aload_n l_J7_fill_53178_2 3 rfl rfl ?_
  refine nw_alen l_J7_fill_53178_3 4 rfl k_34 ⟨by decide, by decide, by decide⟩ ?_
  refine nw_istore_n l_J7_fill_53178_4 5 rfl rfl (ls' := [some (.inr (.inl (some 34))), some (.inl x1), some (.inl 0), some (.inl 6)]) rfl ?_
  exact h
theorem b_J7_fill_53178_34_5 {x1 : Int} {x2 : Int} {x3 : Int} (h : ((x3 ≤ x2 → Qr none (J, L, W)) ∧ (x2 < x3 → ((0 ≤ x2 ∧ x2 < 6) ∧ ((-2147483648 ≤ x2 + 1 ∧ x2 + 1 < 2147483648) ∧ NW sc d_J7_fill_53178 D (5, [some (.inr (.inl (some 34))), some (.inl x1), some (.inl (x2 + 1)), some (.inl x3)], [], (nw_u J 34 x2 x1, L, W), c, sl) Qr Qx))))) :
    NW sc d_J7_fill_53178 D (5, [some (.inr (.inl (some 34))), some (.inl x1), some (.inl x2), some (.inl x3)], [], (J, L, W), c, sl) Qr Qx := by
  refine nw_iload_n l_J7_fill_53178_5 6 rfl rfl ?_
  refine nw_iload_n l_J7_fill_53178_6 7 rfl rfl ?_
  refine nw_ic_ge l_J7_fill_53178_7 10 rfl (fun q1 => ?_) (fun q1 => ?_)
  · replace h := h.1 q1
    refine nw_return l_J7_fill_53178_20 rfl ?_
    exact h
  · replace h := h.2 q1
    refine nw_aload_n l_J7_fill_53178_10 11 rfl rfl ?_
    refine nw_iload_n l_J7_fill_53178_11 12 rfl rfl ?_
    refine nw_iload_n l_J7_fill_53178_12 13 rfl rfl ?_
    have o2 := h.1
    replace h := h.2
    refine nw_iast l_J7_fill_53178_13 14 rfl k_34 o2 ?_
    have o3 := h.1
    replace h := h.2
    refine nw_iinc l_J7_fill_53178_14 17 rfl 1 (by decide) rfl rfl o3 (ls' := [some (.inr (.inl (some 34))), some (.inl x1), some (.inl (x2 + 1)), some (.inl x3)]) rfl ?_
    refine nw_goto l_J7_fill_53178_17 ?_
    exact h
theorem b_J7_fill_53178_35_0 {x1 : Int} (h : NW sc d_J7_fill_53178 D (5, [some (.inr (.inl (some 35))), some (.inl x1), some (.inl 0), some (.inl 6)], [], (J, L, W), c, sl) Qr Qx) :
    NW sc d_J7_fill_53178 D (0, [some (.inr (.inl (some 35))), some (.inl x1), none, none], [], (J, L, W), c, sl) Qr Qx := by
  refine nw_iconst (len := 0) l_J7_fill_53178_0 1 rfl c_0 ?_
  refine nw_istore_n l_J7_fill_53178_1 2 rfl rfl (ls' := [some (.inr (.inl (some 35))), some (.inl x1), some (.inl 0), none]) rfl ?_
  refine nw_aload_n l_J7_fill_53178_2 3 rfl rfl ?_
  refine nw_alen l_J7_fill_53178_3 4 rfl k_35 ⟨by decide, by decide, by decide⟩ ?_
  refine nw_istore_n l_J7_fill_53178_4 5 rfl rfl (ls' := [some (.inr (.inl (some 35))), some (.inl x1), some (.inl 0), some (.inl 6)]) rfl ?_
  exact h
theorem b_J7_fill_53178_35_5 {x1 : Int} {x2 : Int} {x3 : Int} (h : ((x3 ≤ x2 → Qr none (J, L, W)) ∧ (x2 < x3 → ((0 ≤ x2 ∧ x2 < 6) ∧ ((-2147483648 ≤ x2 + 1 ∧ x2 + 1 < 2147483648) ∧ NW sc d_J7_fill_53178 D (5, [some (.inr (.inl (some 35))), some (.inl x1), some (.inl (x2 + 1)), some (.inl x3)], [], (nw_u J 35 x2 x1, L, W), c, sl) Qr Qx))))) :
    NW sc d_J7_fill_53178 D (5, [some (.inr (.inl (some 35))), some (.inl x1), some (.inl x2), some (.inl x3)], [], (J, L, W), c, sl) Qr Qx := by
  refine nw_iload_n l_J7_fill_53178_5 6 rfl rfl ?_
  refine nw_iload_n l_J7_fill_53178_6 7 rfl rfl ?_
  refine nw_ic_ge l_J7_fill_53178_7 10 rfl (fun q1 => ?_) (fun q1 => ?_)
  · replace h := h.1 q1
    refine nw_return l_J7_fill_53178_20 rfl ?_
    exact h
  · replace h := h.2 q1
    refine nw_aload_n l_J7_fill_53178_10 11 rfl rfl ?_
    refine nw_iload_n l_J7_fill_53178_11 12 rfl rfl ?_
    refine nw_iload_n l_J7_fill_53178_12 13 rfl rfl ?_
    have o2 := h.1
    replace h := h.2
    refine nw_iast l_J7_fill_53178_13 14 rfl k_35 o2 ?_
    have o3 := h.1
    replace h := h.2
    refine nw_iinc l_J7_fill_53178_14 17 rfl 1 (by decide) rfl rfl o3 (ls' := [some (.inr (.inl (some 35))), some (.inl x1), some (.inl (x2 + 1)), some (.inl x3)]) rfl ?_
    refine nw_goto l_J7_fill_53178_17 ?_
    exact h
theorem b_J7_fill_53178_36_0 {x1 : Int} (h : NW sc d_J7_fill_53178 D (5, [some (.inr (.inl (some 36))), some (.inl x1), some (.inl 0), some (.inl 6)], [], (J, L, W), c, sl) Qr Qx) :
    NW sc d_J7_fill_53178 D (0, [some (.inr (.inl (some 36))), some (.inl x1), none, none], [], (J, L, W), c, sl) Qr Qx := by
  refine nw_iconst (len := 0) l_J7_fill_53178_0 1 rfl c_0 ?_
  refine nw_istore_n l_J7_fill_53178_1 2 rfl rfl (ls' := [some (.inr (.inl (some 36))), some (.inl x1), some (.inl 0), none]) rfl ?_
  refine nw_aload_n l_J7_fill_53178_2 3 rfl rfl ?_
  refine nw_alen l_J7_fill_53178_3 4 rfl k_36 ⟨by decide, by decide, by decide⟩ ?_
  refine nw_istore_n l_J7_fill_53178_4 5 rfl rfl (ls' := [some (.inr (.inl (some 36))), some (.inl x1), some (.inl 0), some (.inl 6)]) rfl ?_
  exact h
theorem b_J7_fill_53178_36_5 {x1 : Int} {x2 : Int} {x3 : Int} (h : ((x3 ≤ x2 → Qr none (J, L, W)) ∧ (x2 < x3 → ((0 ≤ x2 ∧ x2 < 6) ∧ ((-2147483648 ≤ x2 + 1 ∧ x2 + 1 < 2147483648) ∧ NW sc d_J7_fill_53178 D (5, [some (.inr (.inl (some 36))), some (.inl x1), some (.inl (x2 + 1)), some (.inl x3)], [], (nw_u J 36 x2 x1, L, W), c, sl) Qr Qx))))) :
    NW sc d_J7_fill_53178 D (5, [some (.inr (.inl (some 36))), some (.inl x1), some (.inl x2), some (.inl x3)], [], (J, L, W), c, sl) Qr Qx := by
  refine nw_iload_n l_J7_fill_53178_5 6 rfl rfl ?_
  refine nw_iload_n l_J7_fill_53178_6 7 rfl rfl ?_
  refine nw_ic_ge l_J7_fill_53178_7 10 rfl (fun q1 => ?_) (fun q1 => ?_)
  · replace h := h.1 q1
    refine nw_return l_J7_fill_53178_20 rfl ?_
    exact h
  · replace h := h.2 q1
    refine nw_aload_n l_J7_fill_53178_10 11 rfl rfl ?_
    refine nw_iload_n l_J7_fill_53178_11 12 rfl rfl ?_
    refine nw_iload_n l_J7_fill_53178_12 13 rfl rfl ?_
    have o2 := h.1
    replace h := h.2
    refine nw_iast l_J7_fill_53178_13 14 rfl k_36 o2 ?_
    have o3 := h.1
    replace h := h.2
    refine nw_iinc l_J7_fill_53178_14 17 rfl 1 (by decide) rfl rfl o3 (ls' := [some (.inr (.inl (some 36))), some (.inl x1), some (.inl (x2 + 1)), some (.inl x3)]) rfl ?_
    refine nw_goto l_J7_fill_53178_17 ?_
    exact h
theorem b_J7_fill_53178_37_0 {x1 : Int} (h : NW sc d_J7_fill_53178 D (5, [some (.inr (.inl (some 37))), some (.inl x1), some (.inl 0), some (.inl 6)], [], (J, L, W), c, sl) Qr Qx) :
    NW sc d_J7_fill_53178 D (0, [some (.inr (.inl (some 37))), some (.inl x1), none, none], [], (J, L, W), c, sl) Qr Qx := by
  refine nw_iconst (len := 0) l_J7_fill_53178_0 1 rfl c_0 ?_
  refine nw_istore_n l_J7_fill_53178_1 2 rfl rfl (ls' := [some (.inr (.inl (some 37))), some (.inl x1), some (.inl 0), none]) rfl ?_
  refine nw_aload_n l_J7_fill_53178_2 3 rfl rfl ?_
  refine nw_alen l_J7_fill_53178_3 4 rfl k_37 ⟨by decide, by decide, by decide⟩ ?_
  refine nw_istore_n l_J7_fill_53178_4 5 rfl rfl (ls' := [some (.inr (.inl (some 37))), some (.inl x1), some (.inl 0), some (.inl 6)]) rfl ?_
  exact h
theorem b_J7_fill_53178_37_5 {x1 : Int} {x2 : Int} {x3 : Int} (h : ((x3 ≤ x2 → Qr none (J, L, W)) ∧ (x2 < x3 → ((0 ≤ x2 ∧ x2 < 6) ∧ ((-2147483648 ≤ x2 + 1 ∧ x2 + 1 < 2147483648) ∧ NW sc d_J7_fill_53178 D (5, [some (.inr (.inl (some 37))), some (.inl x1), some (.inl (x2 + 1)), some (.inl x3)], [], (nw_u J 37 x2 x1, L, W), c, sl) Qr Qx))))) :
    NW sc d_J7_fill_53178 D (5, [some (.inr (.inl (some 37))), some (.inl x1), some (.inl x2), some (.inl x3)], [], (J, L, W), c, sl) Qr Qx := by
  refine nw_iload_n l_J7_fill_53178_5 6 rfl rfl ?_
  refine nw_iload_n l_J7_fill_53178_6 7 rfl rfl ?_
  refine nw_ic_ge l_J7_fill_53178_7 10 rfl (fun q1 => ?_) (fun q1 => ?_)
  · replace h := h.1 q1
    refine nw_return l_J7_fill_53178_20 rfl ?_
    exact h
  · replace h := h.2 q1
    refine nw_aload_n l_J7_fill_53178_10 11 rfl rfl ?_
    refine nw_iload_n l_J7_fill_53178_11 12 rfl rfl ?_
    refine nw_iload_n l_J7_fill_53178_12 13 rfl rfl ?_
    have o2 := h.1
    replace h := h.2
    refine nw_iast l_J7_fill_53178_13 14 rfl k_37 o2 ?_
    have o3 := h.1
    replace h := h.2
    refine nw_iinc l_J7_fill_53178_14 17 rfl 1 (by decide) rfl rfl o3 (ls' := [some (.inr (.inl (some 37))), some (.inl x1), some (.inl (x2 + 1)), some (.inl x3)]) rfl ?_
    refine nw_goto l_J7_fill_53178_17 ?_
    exact h
theorem b_J9_floorMod_7cf53_0 {x0 : Int} {x1 : Int} (h : ((0 ≤ x0 ∧ 0 < x1) ∧ ((0 ≤ nw_xixor x0 x1 → Qr (some (.inl (x0 % x1))) (J, L, W)) ∧ (nw_xixor x0 x1 < 0 → ((x0 % x1 = 0 → Qr (some (.inl (x0 % x1))) (J, L, W)) ∧ (¬ x0 % x1 = 0 → ((-2147483648 ≤ (x0 % x1) + x1 ∧ (x0 % x1) + x1 < 2147483648) ∧ Qr (some (.inl ((x0 % x1) + x1))) (J, L, W)))))))) :
    NW sc d_J9_floorMod_7cf53 D (0, [some (.inl x0), some (.inl x1), none], [], (J, L, W), c, sl) Qr Qx := by
  refine nw_iload_n l_J9_floorMod_7cf53_0 1 rfl rfl ?_
  refine nw_iload_n l_J9_floorMod_7cf53_1 2 rfl rfl ?_
  have o1 := h.1
  replace h := h.2
  refine nw_irem l_J9_floorMod_7cf53_2 3 rfl o1 ?_
  refine nw_istore_n l_J9_floorMod_7cf53_3 4 rfl rfl (ls' := [some (.inl x0), some (.inl x1), some (.inl (x0 % x1))]) rfl ?_
  refine nw_iload_n l_J9_floorMod_7cf53_4 5 rfl rfl ?_
  refine nw_iload_n l_J9_floorMod_7cf53_5 6 rfl rfl ?_
  refine nw_ixor l_J9_floorMod_7cf53_6 7 rfl ?_
  refine nw_if_ge l_J9_floorMod_7cf53_7 10 rfl (fun q2 => ?_) (fun q2 => ?_)
  · replace h := h.1 q2
    refine nw_iload_n l_J9_floorMod_7cf53_18 19 rfl rfl ?_
    refine nw_ireturn l_J9_floorMod_7cf53_19 rfl ?_
    exact h
  · replace h := h.2 q2
    refine nw_iload_n l_J9_floorMod_7cf53_10 11 rfl rfl ?_
    refine nw_if_eq l_J9_floorMod_7cf53_11 14 rfl (fun q3 => ?_) (fun q3 => ?_)
    · replace h := h.1 q3
      refine nw_iload_n l_J9_floorMod_7cf53_18 19 rfl rfl ?_
      refine nw_ireturn l_J9_floorMod_7cf53_19 rfl ?_
      exact h
    · replace h := h.2 q3
      refine nw_iload_n l_J9_floorMod_7cf53_14 15 rfl rfl ?_
      refine nw_iload_n l_J9_floorMod_7cf53_15 16 rfl rfl ?_
      have o4 := h.1
      replace h := h.2
      refine nw_iadd l_J9_floorMod_7cf53_16 17 rfl o4 ?_
      refine nw_ireturn l_J9_floorMod_7cf53_17 rfl ?_
      exact h
theorem b_J9_max_7cf53_0 {x0 : Int} {x1 : Int} (h : ((x0 < x1 → Qr (some (.inl x1)) (J, L, W)) ∧ (x1 ≤ x0 → Qr (some (.inl x0)) (J, L, W)))) :
    NW sc d_J9_max_7cf53 D (0, [some (.inl x0), some (.inl x1)], [], (J, L, W), c, sl) Qr Qx := by
  refine nw_iload_n l_J9_max_7cf53_0 1 rfl rfl ?_
  refine nw_iload_n l_J9_max_7cf53_1 2 rfl rfl ?_
  refine nw_ic_lt l_J9_max_7cf53_2 5 rfl (fun q1 => ?_) (fun q1 => ?_)
  · replace h := h.1 q1
    refine nw_iload_n l_J9_max_7cf53_9 10 rfl rfl ?_
    refine nw_ireturn l_J9_max_7cf53_10 rfl ?_
    exact h
  · replace h := h.2 q1
    refine nw_iload_n l_J9_max_7cf53_5 6 rfl rfl ?_
    refine nw_goto l_J9_max_7cf53_6 ?_
    refine nw_ireturn l_J9_max_7cf53_10 rfl ?_
    exact h
theorem b_J9_min_7cf53_0 {x0 : Int} {x1 : Int} (h : ((x1 < x0 → Qr (some (.inl x1)) (J, L, W)) ∧ (x0 ≤ x1 → Qr (some (.inl x0)) (J, L, W)))) :
    NW sc d_J9_min_7cf53 D (0, [some (.inl x0), some (.inl x1)], [], (J, L, W), c, sl) Qr Qx := by
  refine nw_iload_n l_J9_min_7cf53_0 1 rfl rfl ?_
  refine nw_iload_n l_J9_min_7cf53_1 2 rfl rfl ?_
  refine nw_ic_gt l_J9_min_7cf53_2 5 rfl (fun q1 => ?_) (fun q1 => ?_)
  · replace h := h.1 q1
    refine nw_iload_n l_J9_min_7cf53_9 10 rfl rfl ?_
    refine nw_ireturn l_J9_min_7cf53_10 rfl ?_
    exact h
  · replace h := h.2 q1
    refine nw_iload_n l_J9_min_7cf53_5 6 rfl rfl ?_
    refine nw_goto l_J9_min_7cf53_6 ?_
    refine nw_ireturn l_J9_min_7cf53_10 rfl ?_
    exact h
theorem b_X2_put_0 {x1 : Int} {x2 : Int} (h : ((J 40 1 < 21 → NW sc d_X2_put D (15, [some (.inr (.inl (some 40))), some (.inl x1), some (.inl x2), some (.inl (J 40 1))], [], (J, L, W), c, sl) Qr Qx) ∧ (21 ≤ J 40 1 → Qr none (J, L, W)))) :
    NW sc d_X2_put D (0, [some (.inr (.inl (some 40))), some (.inl x1), some (.inl x2), none], [], (J, L, W), c, sl) Qr Qx := by
  refine nw_aload_n l_X2_put_0 1 rfl rfl ?_
  refine nw_getI l_X2_put_1 4 rfl k_40 (v := J 40 1) rfl ?_
  refine nw_bipush (len := 0) l_X2_put_4 6 rfl c_21 ?_
  refine nw_ic_lt l_X2_put_6 9 rfl (fun q1 => ?_) (fun q1 => ?_)
  · replace h := h.1 q1
    refine nw_aload_n l_X2_put_10 11 rfl rfl ?_
    refine nw_getI l_X2_put_11 14 rfl k_40 (v := J 40 1) rfl ?_
    refine nw_istore_n l_X2_put_14 15 rfl rfl (ls' := [some (.inr (.inl (some 40))), some (.inl x1), some (.inl x2), some (.inl (J 40 1))]) rfl ?_
    exact h
  · replace h := h.2 q1
    refine nw_return l_X2_put_9 rfl ?_
    exact h
theorem b_X2_put_15 {x1 : Int} {x2 : Int} {x3 : Int} (h : ((x3 ≤ 0 → ((0 ≤ x3 ∧ x3 < 21) ∧ ((-2147483648 ≤ (J 40 1) + 1 ∧ (J 40 1) + 1 < 2147483648) ∧ Qr none (nw_u (nw_u (nw_u J 41 x3 x1) 42 x3 x2) 40 1 ((J 40 1) + 1), L, W)))) ∧ (0 < x3 → ((-2147483648 ≤ x3 - 1 ∧ x3 - 1 < 2147483648) ∧ ((0 ≤ x3 - 1 ∧ x3 - 1 < 21) ∧ ((x2 ≤ J 42 (x3 - 1) → ((0 ≤ x3 ∧ x3 < 21) ∧ ((-2147483648 ≤ (J 40 1) + 1 ∧ (J 40 1) + 1 < 2147483648) ∧ Qr none (nw_u (nw_u (nw_u J 41 x3 x1) 42 x3 x2) 40 1 ((J 40 1) + 1), L, W)))) ∧ (J 42 (x3 - 1) < x2 → ((0 ≤ x3 ∧ x3 < 21) ∧ ((-2147483648 ≤ x3 + (-1) ∧ x3 + (-1) < 2147483648) ∧ NW sc d_X2_put D (15, [some (.inr (.inl (some 40))), some (.inl x1), some (.inl x2), some (.inl (x3 + (-1)))], [], (nw_u (nw_u J 41 x3 (J 41 (x3 - 1))) 42 x3 (J 42 (x3 - 1)), L, W), c, sl) Qr Qx))))))))) :
    NW sc d_X2_put D (15, [some (.inr (.inl (some 40))), some (.inl x1), some (.inl x2), some (.inl x3)], [], (J, L, W), c, sl) Qr Qx := by
  refine nw_iload_n l_X2_put_15 16 rfl rfl ?_
  refine nw_if_le l_X2_put_16 19 rfl (fun q1 => ?_) (fun q1 => ?_)
  · replace h := h.1 q1
    refine nw_aload_n l_X2_put_65 66 rfl rfl ?_
    refine nw_getA l_X2_put_66 69 rfl k_40 r_40_2 ?_
    refine nw_iload_n l_X2_put_69 70 rfl rfl ?_
    refine nw_iload_n l_X2_put_70 71 rfl rfl ?_
    have o2 := h.1
    replace h := h.2
    refine nw_iast l_X2_put_71 72 rfl k_41 o2 ?_
    refine nw_aload_n l_X2_put_72 73 rfl rfl ?_
    refine nw_getA l_X2_put_73 76 rfl k_40 r_40_3 ?_
    refine nw_iload_n l_X2_put_76 77 rfl rfl ?_
    refine nw_iload_n l_X2_put_77 78 rfl rfl ?_
    refine nw_iast l_X2_put_78 79 rfl k_42 o2 ?_
    refine nw_aload_n l_X2_put_79 80 rfl rfl ?_
    refine nw_dupA l_X2_put_80 81 rfl ?_
    refine nw_getI l_X2_put_81 84 rfl k_40 (v := J 40 1) (show nw_u (nw_u J 41 x3 x1) 42 x3 x2 40 1 = J 40 1 from (nw_uN (a := 42) (b := 40) (by decide)).trans (nw_uN (a := 41) (b := 40) (by decide))) ?_
    refine nw_iconst (len := 0) l_X2_put_84 85 rfl c_1 ?_
    have o3 := h.1
    replace h := h.2
    refine nw_iadd l_X2_put_85 86 rfl o3 ?_
    refine nw_putI l_X2_put_86 89 rfl k_40 ?_
    refine nw_return l_X2_put_89 rfl ?_
    exact h
  · replace h := h.2 q1
    refine nw_aload_n l_X2_put_19 20 rfl rfl ?_
    refine nw_getA l_X2_put_20 23 rfl k_40 r_40_3 ?_
    refine nw_iload_n l_X2_put_23 24 rfl rfl ?_
    refine nw_iconst (len := 0) l_X2_put_24 25 rfl c_1 ?_
    have o4 := h.1
    replace h := h.2
    refine nw_isub l_X2_put_25 26 rfl o4 ?_
    have o5 := h.1
    replace h := h.2
    refine nw_iald l_X2_put_26 27 rfl k_42 o5 (v := J 42 (x3 - 1)) rfl ?_
    refine nw_iload_n l_X2_put_27 28 rfl rfl ?_
    refine nw_ic_ge l_X2_put_28 31 rfl (fun q6 => ?_) (fun q6 => ?_)
    · replace h := h.1 q6
      refine nw_aload_n l_X2_put_65 66 rfl rfl ?_
      refine nw_getA l_X2_put_66 69 rfl k_40 r_40_2 ?_
      refine nw_iload_n l_X2_put_69 70 rfl rfl ?_
      refine nw_iload_n l_X2_put_70 71 rfl rfl ?_
      have o7 := h.1
      replace h := h.2
      refine nw_iast l_X2_put_71 72 rfl k_41 o7 ?_
      refine nw_aload_n l_X2_put_72 73 rfl rfl ?_
      refine nw_getA l_X2_put_73 76 rfl k_40 r_40_3 ?_
      refine nw_iload_n l_X2_put_76 77 rfl rfl ?_
      refine nw_iload_n l_X2_put_77 78 rfl rfl ?_
      refine nw_iast l_X2_put_78 79 rfl k_42 o7 ?_
      refine nw_aload_n l_X2_put_79 80 rfl rfl ?_
      refine nw_dupA l_X2_put_80 81 rfl ?_
      refine nw_getI l_X2_put_81 84 rfl k_40 (v := J 40 1) (show nw_u (nw_u J 41 x3 x1) 42 x3 x2 40 1 = J 40 1 from (nw_uN (a := 42) (b := 40) (by decide)).trans (nw_uN (a := 41) (b := 40) (by decide))) ?_
      refine nw_iconst (len := 0) l_X2_put_84 85 rfl c_1 ?_
      have o8 := h.1
      replace h := h.2
      refine nw_iadd l_X2_put_85 86 rfl o8 ?_
      refine nw_putI l_X2_put_86 89 rfl k_40 ?_
      refine nw_return l_X2_put_89 rfl ?_
      exact h
    · replace h := h.2 q6
      refine nw_aload_n l_X2_put_31 32 rfl rfl ?_
      refine nw_getA l_X2_put_32 35 rfl k_40 r_40_2 ?_
      refine nw_iload_n l_X2_put_35 36 rfl rfl ?_
      refine nw_aload_n l_X2_put_36 37 rfl rfl ?_
      refine nw_getA l_X2_put_37 40 rfl k_40 r_40_2 ?_
      refine nw_iload_n l_X2_put_40 41 rfl rfl ?_
      refine nw_iconst (len := 0) l_X2_put_41 42 rfl c_1 ?_
      refine nw_isub l_X2_put_42 43 rfl o4 ?_
      refine nw_iald l_X2_put_43 44 rfl k_41 o5 (v := J 41 (x3 - 1)) rfl ?_
      have o9 := h.1
      replace h := h.2
      refine nw_iast l_X2_put_44 45 rfl k_41 o9 ?_
      refine nw_aload_n l_X2_put_45 46 rfl rfl ?_
      refine nw_getA l_X2_put_46 49 rfl k_40 r_40_3 ?_
      refine nw_iload_n l_X2_put_49 50 rfl rfl ?_
      refine nw_aload_n l_X2_put_50 51 rfl rfl ?_
      refine nw_getA l_X2_put_51 54 rfl k_40 r_40_3 ?_
      refine nw_iload_n l_X2_put_54 55 rfl rfl ?_
      refine nw_iconst (len := 0) l_X2_put_55 56 rfl c_1 ?_
      refine nw_isub l_X2_put_56 57 rfl o4 ?_
      refine nw_iald l_X2_put_57 58 rfl k_42 o5 (v := J 42 (x3 - 1)) (show nw_u J 41 x3 (J 41 (x3 - 1)) 42 (x3 - 1) = J 42 (x3 - 1) from (nw_uN (a := 41) (b := 42) (by decide))) ?_
      refine nw_iast l_X2_put_58 59 rfl k_42 o9 ?_
      have o10 := h.1
      replace h := h.2
      refine nw_iinc l_X2_put_59 62 rfl (-1) (by decide) rfl rfl o10 (ls' := [some (.inr (.inl (some 40))), some (.inl x1), some (.inl x2), some (.inl (x3 + (-1)))]) rfl ?_
      refine nw_goto l_X2_put_62 ?_
      exact h
theorem b_X2_take_0  (h : ((¬ J 40 1 = 0 → ((-2147483648 ≤ (J 40 1) - 1 ∧ (J 40 1) - 1 < 2147483648) ∧ ((0 ≤ (J 40 1) - 1 ∧ (J 40 1) - 1 < 21) ∧ Qr (some (.inl (J 41 ((J 40 1) - 1)))) (nw_u (nw_u J 40 1 ((J 40 1) - 1)) 40 0 (J 42 ((J 40 1) - 1)), L, W)))) ∧ (J 40 1 = 0 → Qr (some (.inl (-1))) (J, L, W)))) :
    NW sc d_X2_take D (0, [some (.inr (.inl (some 40)))], [], (J, L, W), c, sl) Qr Qx := by
  refine nw_aload_n l_X2_take_0 1 rfl rfl ?_
  refine nw_getI l_X2_take_1 4 rfl k_40 (v := J 40 1) rfl ?_
  refine nw_if_ne l_X2_take_4 7 rfl (fun q1 => ?_) (fun q1 => ?_)
  · replace h := h.1 q1
    refine nw_aload_n l_X2_take_9 10 rfl rfl ?_
    refine nw_dupA l_X2_take_10 11 rfl ?_
    refine nw_getI l_X2_take_11 14 rfl k_40 (v := J 40 1) rfl ?_
    refine nw_iconst (len := 0) l_X2_take_14 15 rfl c_1 ?_
    have o2 := h.1
    replace h := h.2
    refine nw_isub l_X2_take_15 16 rfl o2 ?_
    refine nw_putI l_X2_take_16 19 rfl k_40 ?_
    refine nw_aload_n l_X2_take_19 20 rfl rfl ?_
    refine nw_aload_n l_X2_take_20 21 rfl rfl ?_
    refine nw_getA l_X2_take_21 24 rfl k_40 r_40_3 ?_
    refine nw_aload_n l_X2_take_24 25 rfl rfl ?_
    refine nw_getI l_X2_take_25 28 rfl k_40 (v := (J 40 1) - 1) (show nw_u J 40 1 ((J 40 1) - 1) 40 1 = (J 40 1) - 1 from nw_uS) ?_
    have o3 := h.1
    replace h := h.2
    refine nw_iald l_X2_take_28 29 rfl k_42 o3 (v := J 42 ((J 40 1) - 1)) (show nw_u J 40 1 ((J 40 1) - 1) 42 ((J 40 1) - 1) = J 42 ((J 40 1) - 1) from (nw_uN (a := 40) (b := 42) (by decide))) ?_
    refine nw_putI l_X2_take_29 32 rfl k_40 ?_
    refine nw_aload_n l_X2_take_32 33 rfl rfl ?_
    refine nw_getA l_X2_take_33 36 rfl k_40 r_40_2 ?_
    refine nw_aload_n l_X2_take_36 37 rfl rfl ?_
    refine nw_getI l_X2_take_37 40 rfl k_40 (v := (J 40 1) - 1) (show nw_u (nw_u J 40 1 ((J 40 1) - 1)) 40 0 (J 42 ((J 40 1) - 1)) 40 1 = (J 40 1) - 1 from (nw_uI (i := 0) (j := 1) (by decide)).trans nw_uS) ?_
    refine nw_iald l_X2_take_40 41 rfl k_41 o3 (v := J 41 ((J 40 1) - 1)) (show nw_u (nw_u J 40 1 ((J 40 1) - 1)) 40 0 (J 42 ((J 40 1) - 1)) 41 ((J 40 1) - 1) = J 41 ((J 40 1) - 1) from (nw_uN (a := 40) (b := 41) (by decide)).trans (nw_uN (a := 40) (b := 41) (by decide))) ?_
    refine nw_ireturn l_X2_take_41 rfl ?_
    exact h
  · replace h := h.2 q1
    refine nw_iconst (len := 0) l_X2_take_7 8 rfl c_n1 ?_
    refine nw_ireturn l_X2_take_8 rfl ?_
    exact h
theorem b_X4_anyBetween_0 {x1 : Int} {x2 : Int} (h : NW sc d_X4_anyBetween D (2, [some (.inr (.inl (some 9))), some (.inl x1), some (.inl x2), some (.inl 0), none, none], [], (J, L, W), c, sl) Qr Qx) :
    NW sc d_X4_anyBetween D (0, [some (.inr (.inl (some 9))), some (.inl x1), some (.inl x2), none, none, none], [], (J, L, W), c, sl) Qr Qx := by
  refine nw_iconst (len := 0) l_X4_anyBetween_0 1 rfl c_0 ?_
  refine nw_istore_n l_X4_anyBetween_1 2 rfl rfl (ls' := [some (.inr (.inl (some 9))), some (.inl x1), some (.inl x2), some (.inl 0), none, none]) rfl ?_
  exact h
theorem b_X4_anyBetween_2 {x1 : Int} {x2 : Int} {x3 : Int} (h : ((J 9 0 ≤ x3 → Qr (some (.inl 0)) (J, L, W)) ∧ (x3 < J 9 0 → ((0 ≤ x3 ∧ x3 < 3) ∧ ((¬ J 10 x3 = x1 → ((¬ J 10 x3 = x2 → ((-2147483648 ≤ x3 + 1 ∧ x3 + 1 < 2147483648) ∧ NW sc d_X4_anyBetween D (2, [some (.inr (.inl (some 9))), some (.inl x1), some (.inl x2), some (.inl (x3 + 1)), none, none], [], (J, L, W), c, sl) Qr Qx)) ∧ (J 10 x3 = x2 → ((¬ J 11 x3 = x1 → ((-2147483648 ≤ x3 + 1 ∧ x3 + 1 < 2147483648) ∧ NW sc d_X4_anyBetween D (2, [some (.inr (.inl (some 9))), some (.inl x1), some (.inl x2), some (.inl (x3 + 1)), none, none], [], (J, L, W), c, sl) Qr Qx)) ∧ (J 11 x3 = x1 → Qr (some (.inl 1)) (J, L, W)))))) ∧ (J 10 x3 = x1 → ((¬ J 11 x3 = x2 → ((¬ J 10 x3 = x2 → ((-2147483648 ≤ x3 + 1 ∧ x3 + 1 < 2147483648) ∧ NW sc d_X4_anyBetween D (2, [some (.inr (.inl (some 9))), some (.inl x1), some (.inl x2), some (.inl (x3 + 1)), none, none], [], (J, L, W), c, sl) Qr Qx)) ∧ (J 10 x3 = x2 → ((¬ J 11 x3 = x1 → ((-2147483648 ≤ x3 + 1 ∧ x3 + 1 < 2147483648) ∧ NW sc d_X4_anyBetween D (2, [some (.inr (.inl (some 9))), some (.inl x1), some (.inl x2), some (.inl (x3 + 1)), none, none], [], (J, L, W), c, sl) Qr Qx)) ∧ (J 11 x3 = x1 → Qr (some (.inl 1)) (J, L, W)))))) ∧ (J 11 x3 = x2 → ((¬ J 10 x3 = x2 → Qr (some (.inl 1)) (J, L, W)) ∧ (J 10 x3 = x2 → ((¬ J 11 x3 = x1 → Qr (some (.inl 1)) (J, L, W)) ∧ (J 11 x3 = x1 → Qr (some (.inl 1)) (J, L, W))))))))))))) :
    NW sc d_X4_anyBetween D (2, [some (.inr (.inl (some 9))), some (.inl x1), some (.inl x2), some (.inl x3), none, none], [], (J, L, W), c, sl) Qr Qx := by
  refine nw_iload_n l_X4_anyBetween_2 3 rfl rfl ?_
  refine nw_aload_n l_X4_anyBetween_3 4 rfl rfl ?_
  refine nw_getI l_X4_anyBetween_4 7 rfl k_9 (v := J 9 0) rfl ?_
  refine nw_ic_ge l_X4_anyBetween_7 10 rfl (fun q1 => ?_) (fun q1 => ?_)
  · replace h := h.1 q1
    refine nw_iconst (len := 0) l_X4_anyBetween_82 83 rfl c_0 ?_
    refine nw_ireturnZ l_X4_anyBetween_83 rfl (Or.inl rfl) ?_
    exact h
  · replace h := h.2 q1
    refine nw_aload_n l_X4_anyBetween_10 11 rfl rfl ?_
    refine nw_getA l_X4_anyBetween_11 14 rfl k_9 r_9_1 ?_
    refine nw_iload_n l_X4_anyBetween_14 15 rfl rfl ?_
    have o2 := h.1
    replace h := h.2
    refine nw_iald l_X4_anyBetween_15 16 rfl k_10 o2 (v := J 10 x3) rfl ?_
    refine nw_iload_n l_X4_anyBetween_16 17 rfl rfl ?_
    refine nw_ic_ne l_X4_anyBetween_17 20 rfl (fun q3 => ?_) (fun q3 => ?_)
    · replace h := h.1 q3
      refine nw_iconst (len := 0) l_X4_anyBetween_34 35 rfl c_0 ?_
      refine nw_istore l_X4_anyBetween_35 37 rfl rfl (ls' := [some (.inr (.inl (some 9))), some (.inl x1), some (.inl x2), some (.inl x3), some (.inl 0), none]) rfl ?_
      refine nw_aload_n l_X4_anyBetween_37 38 rfl rfl ?_
      refine nw_getA l_X4_anyBetween_38 41 rfl k_9 r_9_1 ?_
      refine nw_iload_n l_X4_anyBetween_41 42 rfl rfl ?_
      refine nw_iald l_X4_anyBetween_42 43 rfl k_10 o2 (v := J 10 x3) rfl ?_
      refine nw_iload_n l_X4_anyBetween_43 44 rfl rfl ?_
      refine nw_ic_ne l_X4_anyBetween_44 47 rfl (fun q4 => ?_) (fun q4 => ?_)
      · replace h := h.1 q4
        refine nw_iconst (len := 0) l_X4_anyBetween_61 62 rfl c_0 ?_
        refine nw_istore l_X4_anyBetween_62 64 rfl rfl (ls' := [some (.inr (.inl (some 9))), some (.inl x1), some (.inl x2), some (.inl x3), some (.inl 0), some (.inl 0)]) rfl ?_
        refine nw_iload l_X4_anyBetween_64 66 rfl rfl ?_
        refine nw_if_ne l_X4_anyBetween_66 69 rfl (fun q => absurd q (by decide)) (fun _ => ?_)
        refine nw_iload l_X4_anyBetween_69 71 rfl rfl ?_
        refine nw_if_eq l_X4_anyBetween_71 74 rfl (fun _ => ?_) (fun q => absurd q (by decide))
        have o5 := h.1
        replace h := h.2
        refine nw_iinc l_X4_anyBetween_76 79 rfl 1 (by decide) rfl rfl o5 (ls' := [some (.inr (.inl (some 9))), some (.inl x1), some (.inl x2), some (.inl (x3 + 1)), some (.inl 0), some (.inl 0)]) rfl ?_
        refine nw_goto l_X4_anyBetween_79 ?_
        refine nw_drop (ls' := [some (.inr (.inl (some 9))), some (.inl x1), some (.inl x2), some (.inl (x3 + 1)), none, none]) ⟨rfl, ⟨rfl, ⟨rfl, ⟨rfl, ⟨True.intro, ⟨True.intro, True.intro⟩⟩⟩⟩⟩⟩ ?_
        exact h
      · replace h := h.2 q4
        refine nw_aload_n l_X4_anyBetween_47 48 rfl rfl ?_
        refine nw_getA l_X4_anyBetween_48 51 rfl k_9 r_9_2 ?_
        refine nw_iload_n l_X4_anyBetween_51 52 rfl rfl ?_
        refine nw_iald l_X4_anyBetween_52 53 rfl k_11 o2 (v := J 11 x3) rfl ?_
        refine nw_iload_n l_X4_anyBetween_53 54 rfl rfl ?_
        refine nw_ic_ne l_X4_anyBetween_54 57 rfl (fun q6 => ?_) (fun q6 => ?_)
        · replace h := h.1 q6
          refine nw_iconst (len := 0) l_X4_anyBetween_61 62 rfl c_0 ?_
          refine nw_istore l_X4_anyBetween_62 64 rfl rfl (ls' := [some (.inr (.inl (some 9))), some (.inl x1), some (.inl x2), some (.inl x3), some (.inl 0), some (.inl 0)]) rfl ?_
          refine nw_iload l_X4_anyBetween_64 66 rfl rfl ?_
          refine nw_if_ne l_X4_anyBetween_66 69 rfl (fun q => absurd q (by decide)) (fun _ => ?_)
          refine nw_iload l_X4_anyBetween_69 71 rfl rfl ?_
          refine nw_if_eq l_X4_anyBetween_71 74 rfl (fun _ => ?_) (fun q => absurd q (by decide))
          have o7 := h.1
          replace h := h.2
          refine nw_iinc l_X4_anyBetween_76 79 rfl 1 (by decide) rfl rfl o7 (ls' := [some (.inr (.inl (some 9))), some (.inl x1), some (.inl x2), some (.inl (x3 + 1)), some (.inl 0), some (.inl 0)]) rfl ?_
          refine nw_goto l_X4_anyBetween_79 ?_
          refine nw_drop (ls' := [some (.inr (.inl (some 9))), some (.inl x1), some (.inl x2), some (.inl (x3 + 1)), none, none]) ⟨rfl, ⟨rfl, ⟨rfl, ⟨rfl, ⟨True.intro, ⟨True.intro, True.intro⟩⟩⟩⟩⟩⟩ ?_
          exact h
        · replace h := h.2 q6
          refine nw_iconst (len := 0) l_X4_anyBetween_57 58 rfl c_1 ?_
          refine nw_goto l_X4_anyBetween_58 ?_
          refine nw_istore l_X4_anyBetween_62 64 rfl rfl (ls' := [some (.inr (.inl (some 9))), some (.inl x1), some (.inl x2), some (.inl x3), some (.inl 0), some (.inl 1)]) rfl ?_
          refine nw_iload l_X4_anyBetween_64 66 rfl rfl ?_
          refine nw_if_ne l_X4_anyBetween_66 69 rfl (fun q => absurd q (by decide)) (fun _ => ?_)
          refine nw_iload l_X4_anyBetween_69 71 rfl rfl ?_
          refine nw_if_eq l_X4_anyBetween_71 74 rfl (fun q => absurd q (by decide)) (fun _ => ?_)
          refine nw_iconst (len := 0) l_X4_anyBetween_74 75 rfl c_1 ?_
          refine nw_ireturnZ l_X4_anyBetween_75 rfl (Or.inr rfl) ?_
          exact h
    · replace h := h.2 q3
      refine nw_aload_n l_X4_anyBetween_20 21 rfl rfl ?_
      refine nw_getA l_X4_anyBetween_21 24 rfl k_9 r_9_2 ?_
      refine nw_iload_n l_X4_anyBetween_24 25 rfl rfl ?_
      refine nw_iald l_X4_anyBetween_25 26 rfl k_11 o2 (v := J 11 x3) rfl ?_
      refine nw_iload_n l_X4_anyBetween_26 27 rfl rfl ?_
      refine nw_ic_ne l_X4_anyBetween_27 30 rfl (fun q8 => ?_) (fun q8 => ?_)
      · replace h := h.1 q8
        refine nw_iconst (len := 0) l_X4_anyBetween_34 35 rfl c_0 ?_
        refine nw_istore l_X4_anyBetween_35 37 rfl rfl (ls' := [some (.inr (.inl (some 9))), some (.inl x1), some (.inl x2), some (.inl x3), some (.inl 0), none]) rfl ?_
        refine nw_aload_n l_X4_anyBetween_37 38 rfl rfl ?_
        refine nw_getA l_X4_anyBetween_38 41 rfl k_9 r_9_1 ?_
        refine nw_iload_n l_X4_anyBetween_41 42 rfl rfl ?_
        refine nw_iald l_X4_anyBetween_42 43 rfl k_10 o2 (v := J 10 x3) rfl ?_
        refine nw_iload_n l_X4_anyBetween_43 44 rfl rfl ?_
        refine nw_ic_ne l_X4_anyBetween_44 47 rfl (fun q9 => ?_) (fun q9 => ?_)
        · replace h := h.1 q9
          refine nw_iconst (len := 0) l_X4_anyBetween_61 62 rfl c_0 ?_
          refine nw_istore l_X4_anyBetween_62 64 rfl rfl (ls' := [some (.inr (.inl (some 9))), some (.inl x1), some (.inl x2), some (.inl x3), some (.inl 0), some (.inl 0)]) rfl ?_
          refine nw_iload l_X4_anyBetween_64 66 rfl rfl ?_
          refine nw_if_ne l_X4_anyBetween_66 69 rfl (fun q => absurd q (by decide)) (fun _ => ?_)
          refine nw_iload l_X4_anyBetween_69 71 rfl rfl ?_
          refine nw_if_eq l_X4_anyBetween_71 74 rfl (fun _ => ?_) (fun q => absurd q (by decide))
          have o10 := h.1
          replace h := h.2
          refine nw_iinc l_X4_anyBetween_76 79 rfl 1 (by decide) rfl rfl o10 (ls' := [some (.inr (.inl (some 9))), some (.inl x1), some (.inl x2), some (.inl (x3 + 1)), some (.inl 0), some (.inl 0)]) rfl ?_
          refine nw_goto l_X4_anyBetween_79 ?_
          refine nw_drop (ls' := [some (.inr (.inl (some 9))), some (.inl x1), some (.inl x2), some (.inl (x3 + 1)), none, none]) ⟨rfl, ⟨rfl, ⟨rfl, ⟨rfl, ⟨True.intro, ⟨True.intro, True.intro⟩⟩⟩⟩⟩⟩ ?_
          exact h
        · replace h := h.2 q9
          refine nw_aload_n l_X4_anyBetween_47 48 rfl rfl ?_
          refine nw_getA l_X4_anyBetween_48 51 rfl k_9 r_9_2 ?_
          refine nw_iload_n l_X4_anyBetween_51 52 rfl rfl ?_
          refine nw_iald l_X4_anyBetween_52 53 rfl k_11 o2 (v := J 11 x3) rfl ?_
          refine nw_iload_n l_X4_anyBetween_53 54 rfl rfl ?_
          refine nw_ic_ne l_X4_anyBetween_54 57 rfl (fun q11 => ?_) (fun q11 => ?_)
          · replace h := h.1 q11
            refine nw_iconst (len := 0) l_X4_anyBetween_61 62 rfl c_0 ?_
            refine nw_istore l_X4_anyBetween_62 64 rfl rfl (ls' := [some (.inr (.inl (some 9))), some (.inl x1), some (.inl x2), some (.inl x3), some (.inl 0), some (.inl 0)]) rfl ?_
            refine nw_iload l_X4_anyBetween_64 66 rfl rfl ?_
            refine nw_if_ne l_X4_anyBetween_66 69 rfl (fun q => absurd q (by decide)) (fun _ => ?_)
            refine nw_iload l_X4_anyBetween_69 71 rfl rfl ?_
            refine nw_if_eq l_X4_anyBetween_71 74 rfl (fun _ => ?_) (fun q => absurd q (by decide))
            have o12 := h.1
            replace h := h.2
            refine nw_iinc l_X4_anyBetween_76 79 rfl 1 (by decide) rfl rfl o12 (ls' := [some (.inr (.inl (some 9))), some (.inl x1), some (.inl x2), some (.inl (x3 + 1)), some (.inl 0), some (.inl 0)]) rfl ?_
            refine nw_goto l_X4_anyBetween_79 ?_
            refine nw_drop (ls' := [some (.inr (.inl (some 9))), some (.inl x1), some (.inl x2), some (.inl (x3 + 1)), none, none]) ⟨rfl, ⟨rfl, ⟨rfl, ⟨rfl, ⟨True.intro, ⟨True.intro, True.intro⟩⟩⟩⟩⟩⟩ ?_
            exact h
          · replace h := h.2 q11
            refine nw_iconst (len := 0) l_X4_anyBetween_57 58 rfl c_1 ?_
            refine nw_goto l_X4_anyBetween_58 ?_
            refine nw_istore l_X4_anyBetween_62 64 rfl rfl (ls' := [some (.inr (.inl (some 9))), some (.inl x1), some (.inl x2), some (.inl x3), some (.inl 0), some (.inl 1)]) rfl ?_
            refine nw_iload l_X4_anyBetween_64 66 rfl rfl ?_
            refine nw_if_ne l_X4_anyBetween_66 69 rfl (fun q => absurd q (by decide)) (fun _ => ?_)
            refine nw_iload l_X4_anyBetween_69 71 rfl rfl ?_
            refine nw_if_eq l_X4_anyBetween_71 74 rfl (fun q => absurd q (by decide)) (fun _ => ?_)
            refine nw_iconst (len := 0) l_X4_anyBetween_74 75 rfl c_1 ?_
            refine nw_ireturnZ l_X4_anyBetween_75 rfl (Or.inr rfl) ?_
            exact h
      · replace h := h.2 q8
        refine nw_iconst (len := 0) l_X4_anyBetween_30 31 rfl c_1 ?_
        refine nw_goto l_X4_anyBetween_31 ?_
        refine nw_istore l_X4_anyBetween_35 37 rfl rfl (ls' := [some (.inr (.inl (some 9))), some (.inl x1), some (.inl x2), some (.inl x3), some (.inl 1), none]) rfl ?_
        refine nw_aload_n l_X4_anyBetween_37 38 rfl rfl ?_
        refine nw_getA l_X4_anyBetween_38 41 rfl k_9 r_9_1 ?_
        refine nw_iload_n l_X4_anyBetween_41 42 rfl rfl ?_
        refine nw_iald l_X4_anyBetween_42 43 rfl k_10 o2 (v := J 10 x3) rfl ?_
        refine nw_iload_n l_X4_anyBetween_43 44 rfl rfl ?_
        refine nw_ic_ne l_X4_anyBetween_44 47 rfl (fun q13 => ?_) (fun q13 => ?_)
        · replace h := h.1 q13
          refine nw_iconst (len := 0) l_X4_anyBetween_61 62 rfl c_0 ?_
          refine nw_istore l_X4_anyBetween_62 64 rfl rfl (ls' := [some (.inr (.inl (some 9))), some (.inl x1), some (.inl x2), some (.inl x3), some (.inl 1), some (.inl 0)]) rfl ?_
          refine nw_iload l_X4_anyBetween_64 66 rfl rfl ?_
          refine nw_if_ne l_X4_anyBetween_66 69 rfl (fun _ => ?_) (fun q => absurd q (by decide))
          refine nw_iconst (len := 0) l_X4_anyBetween_74 75 rfl c_1 ?_
          refine nw_ireturnZ l_X4_anyBetween_75 rfl (Or.inr rfl) ?_
          exact h
        · replace h := h.2 q13
          refine nw_aload_n l_X4_anyBetween_47 48 rfl rfl ?_
          refine nw_getA l_X4_anyBetween_48 51 rfl k_9 r_9_2 ?_
          refine nw_iload_n l_X4_anyBetween_51 52 rfl rfl ?_
          refine nw_iald l_X4_anyBetween_52 53 rfl k_11 o2 (v := J 11 x3) rfl ?_
          refine nw_iload_n l_X4_anyBetween_53 54 rfl rfl ?_
          refine nw_ic_ne l_X4_anyBetween_54 57 rfl (fun q14 => ?_) (fun q14 => ?_)
          · replace h := h.1 q14
            refine nw_iconst (len := 0) l_X4_anyBetween_61 62 rfl c_0 ?_
            refine nw_istore l_X4_anyBetween_62 64 rfl rfl (ls' := [some (.inr (.inl (some 9))), some (.inl x1), some (.inl x2), some (.inl x3), some (.inl 1), some (.inl 0)]) rfl ?_
            refine nw_iload l_X4_anyBetween_64 66 rfl rfl ?_
            refine nw_if_ne l_X4_anyBetween_66 69 rfl (fun _ => ?_) (fun q => absurd q (by decide))
            refine nw_iconst (len := 0) l_X4_anyBetween_74 75 rfl c_1 ?_
            refine nw_ireturnZ l_X4_anyBetween_75 rfl (Or.inr rfl) ?_
            exact h
          · replace h := h.2 q14
            refine nw_iconst (len := 0) l_X4_anyBetween_57 58 rfl c_1 ?_
            refine nw_goto l_X4_anyBetween_58 ?_
            refine nw_istore l_X4_anyBetween_62 64 rfl rfl (ls' := [some (.inr (.inl (some 9))), some (.inl x1), some (.inl x2), some (.inl x3), some (.inl 1), some (.inl 1)]) rfl ?_
            refine nw_iload l_X4_anyBetween_64 66 rfl rfl ?_
            refine nw_if_ne l_X4_anyBetween_66 69 rfl (fun _ => ?_) (fun q => absurd q (by decide))
            refine nw_iconst (len := 0) l_X4_anyBetween_74 75 rfl c_1 ?_
            refine nw_ireturnZ l_X4_anyBetween_75 rfl (Or.inr rfl) ?_
            exact h
theorem b_X4_copyFrom_0  (h : Qr none (nw_cp (nw_cp (nw_cp (nw_u (nw_u (nw_cp (nw_cp (nw_cp (nw_cp (nw_cp (nw_u J 9 0 (J 9 0)) 10 10 0 0 3) 11 11 0 0 3) 12 12 0 0 3) 13 13 0 0 3) 14 14 0 0 3) 9 6 (J 9 6)) 9 7 (J 9 7)) 15 15 0 0 10) 16 16 0 0 10) 17 17 0 0 10, L, W)) :
    NW sc d_X4_copyFrom D (0, [some (.inr (.inl (some 9))), some (.inr (.inl (some 9)))], [], (J, L, W), c, sl) Qr Qx := by
  refine nw_aload_n l_X4_copyFrom_0 1 rfl rfl ?_
  refine nw_aload_n l_X4_copyFrom_1 2 rfl rfl ?_
  refine nw_getI l_X4_copyFrom_2 5 rfl k_9 (v := J 9 0) rfl ?_
  refine nw_putI l_X4_copyFrom_5 8 rfl k_9 ?_
  refine nw_aload_n l_X4_copyFrom_8 9 rfl rfl ?_
  refine nw_getA l_X4_copyFrom_9 12 rfl k_9 r_9_1 ?_
  refine nw_iconst (len := 0) l_X4_copyFrom_12 13 rfl c_0 ?_
  refine nw_aload_n l_X4_copyFrom_13 14 rfl rfl ?_
  refine nw_getA l_X4_copyFrom_14 17 rfl k_9 r_9_1 ?_
  refine nw_iconst (len := 0) l_X4_copyFrom_17 18 rfl c_0 ?_
  refine nw_iconst (len := 0) l_X4_copyFrom_18 19 rfl c_3 ?_
  refine nw_acopy l_X4_copyFrom_19 22 rfl (by decide) k_10 k_10 ⟨by decide, by decide, by decide, by decide, by decide⟩ ?_
  refine nw_aload_n l_X4_copyFrom_22 23 rfl rfl ?_
  refine nw_getA l_X4_copyFrom_23 26 rfl k_9 r_9_2 ?_
  refine nw_iconst (len := 0) l_X4_copyFrom_26 27 rfl c_0 ?_
  refine nw_aload_n l_X4_copyFrom_27 28 rfl rfl ?_
  refine nw_getA l_X4_copyFrom_28 31 rfl k_9 r_9_2 ?_
  refine nw_iconst (len := 0) l_X4_copyFrom_31 32 rfl c_0 ?_
  refine nw_iconst (len := 0) l_X4_copyFrom_32 33 rfl c_3 ?_
  refine nw_acopy l_X4_copyFrom_33 36 rfl (by decide) k_11 k_11 ⟨by decide, by decide, by decide, by decide, by decide⟩ ?_
  refine nw_aload_n l_X4_copyFrom_36 37 rfl rfl ?_
  refine nw_getA l_X4_copyFrom_37 40 rfl k_9 r_9_3 ?_
  refine nw_iconst (len := 0) l_X4_copyFrom_40 41 rfl c_0 ?_
  refine nw_aload_n l_X4_copyFrom_41 42 rfl rfl ?_
  refine nw_getA l_X4_copyFrom_42 45 rfl k_9 r_9_3 ?_
  refine nw_iconst (len := 0) l_X4_copyFrom_45 46 rfl c_0 ?_
  refine nw_iconst (len := 0) l_X4_copyFrom_46 47 rfl c_3 ?_
  refine nw_acopy l_X4_copyFrom_47 50 rfl (by decide) k_12 k_12 ⟨by decide, by decide, by decide, by decide, by decide⟩ ?_
  refine nw_aload_n l_X4_copyFrom_50 51 rfl rfl ?_
  refine nw_getA l_X4_copyFrom_51 54 rfl k_9 r_9_4 ?_
  refine nw_iconst (len := 0) l_X4_copyFrom_54 55 rfl c_0 ?_
  refine nw_aload_n l_X4_copyFrom_55 56 rfl rfl ?_
  refine nw_getA l_X4_copyFrom_56 59 rfl k_9 r_9_4 ?_
  refine nw_iconst (len := 0) l_X4_copyFrom_59 60 rfl c_0 ?_
  refine nw_iconst (len := 0) l_X4_copyFrom_60 61 rfl c_3 ?_
  refine nw_acopy l_X4_copyFrom_61 64 rfl (by decide) k_13 k_13 ⟨by decide, by decide, by decide, by decide, by decide⟩ ?_
  refine nw_aload_n l_X4_copyFrom_64 65 rfl rfl ?_
  refine nw_getA l_X4_copyFrom_65 68 rfl k_9 r_9_5 ?_
  refine nw_iconst (len := 0) l_X4_copyFrom_68 69 rfl c_0 ?_
  refine nw_aload_n l_X4_copyFrom_69 70 rfl rfl ?_
  refine nw_getA l_X4_copyFrom_70 73 rfl k_9 r_9_5 ?_
  refine nw_iconst (len := 0) l_X4_copyFrom_73 74 rfl c_0 ?_
  refine nw_iconst (len := 0) l_X4_copyFrom_74 75 rfl c_3 ?_
  refine nw_acopy l_X4_copyFrom_75 78 rfl (by decide) k_14 k_14 ⟨by decide, by decide, by decide, by decide, by decide⟩ ?_
  refine nw_aload_n l_X4_copyFrom_78 79 rfl rfl ?_
  refine nw_aload_n l_X4_copyFrom_79 80 rfl rfl ?_
  refine nw_getI l_X4_copyFrom_80 83 rfl k_9 (v := J 9 6) (show nw_cp (nw_cp (nw_cp (nw_cp (nw_cp (nw_u J 9 0 (J 9 0)) 10 10 0 0 3) 11 11 0 0 3) 12 12 0 0 3) 13 13 0 0 3) 14 14 0 0 3 9 6 = J 9 6 from (nw_cpN (b := 14) (x := 9) (by decide)).trans ((nw_cpN (b := 13) (x := 9) (by decide)).trans ((nw_cpN (b := 12) (x := 9) (by decide)).trans ((nw_cpN (b := 11) (x := 9) (by decide)).trans ((nw_cpN (b := 10) (x := 9) (by decide)).trans (nw_uI (i := 0) (j := 6) (by decide))))))) ?_
  refine nw_putI l_X4_copyFrom_83 86 rfl k_9 ?_
  refine nw_aload_n l_X4_copyFrom_86 87 rfl rfl ?_
  refine nw_aload_n l_X4_copyFrom_87 88 rfl rfl ?_
  refine nw_getI l_X4_copyFrom_88 91 rfl k_9 (v := J 9 7) (show nw_u (nw_cp (nw_cp (nw_cp (nw_cp (nw_cp (nw_u J 9 0 (J 9 0)) 10 10 0 0 3) 11 11 0 0 3) 12 12 0 0 3) 13 13 0 0 3) 14 14 0 0 3) 9 6 (J 9 6) 9 7 = J 9 7 from (nw_uI (i := 6) (j := 7) (by decide)).trans ((nw_cpN (b := 14) (x := 9) (by decide)).trans ((nw_cpN (b := 13) (x := 9) (by decide)).trans ((nw_cpN (b := 12) (x := 9) (by decide)).trans ((nw_cpN (b := 11) (x := 9) (by decide)).trans ((nw_cpN (b := 10) (x := 9) (by decide)).trans (nw_uI (i := 0) (j := 7) (by decide)))))))) ?_
  refine nw_putI l_X4_copyFrom_91 94 rfl k_9 ?_
  refine nw_aload_n l_X4_copyFrom_94 95 rfl rfl ?_
  refine nw_getA l_X4_copyFrom_95 98 rfl k_9 r_9_8 ?_
  refine nw_iconst (len := 0) l_X4_copyFrom_98 99 rfl c_0 ?_
  refine nw_aload_n l_X4_copyFrom_99 100 rfl rfl ?_
  refine nw_getA l_X4_copyFrom_100 103 rfl k_9 r_9_8 ?_
  refine nw_iconst (len := 0) l_X4_copyFrom_103 104 rfl c_0 ?_
  refine nw_bipush (len := 0) l_X4_copyFrom_104 106 rfl c_10 ?_
  refine nw_acopy l_X4_copyFrom_106 109 rfl (by decide) k_15 k_15 ⟨by decide, by decide, by decide, by decide, by decide⟩ ?_
  refine nw_aload_n l_X4_copyFrom_109 110 rfl rfl ?_
  refine nw_getA l_X4_copyFrom_110 113 rfl k_9 r_9_9 ?_
  refine nw_iconst (len := 0) l_X4_copyFrom_113 114 rfl c_0 ?_
  refine nw_aload_n l_X4_copyFrom_114 115 rfl rfl ?_
  refine nw_getA l_X4_copyFrom_115 118 rfl k_9 r_9_9 ?_
  refine nw_iconst (len := 0) l_X4_copyFrom_118 119 rfl c_0 ?_
  refine nw_bipush (len := 0) l_X4_copyFrom_119 121 rfl c_10 ?_
  refine nw_acopy l_X4_copyFrom_121 124 rfl (by decide) k_16 k_16 ⟨by decide, by decide, by decide, by decide, by decide⟩ ?_
  refine nw_aload_n l_X4_copyFrom_124 125 rfl rfl ?_
  refine nw_getA l_X4_copyFrom_125 128 rfl k_9 r_9_10 ?_
  refine nw_iconst (len := 0) l_X4_copyFrom_128 129 rfl c_0 ?_
  refine nw_aload_n l_X4_copyFrom_129 130 rfl rfl ?_
  refine nw_getA l_X4_copyFrom_130 133 rfl k_9 r_9_10 ?_
  refine nw_iconst (len := 0) l_X4_copyFrom_133 134 rfl c_0 ?_
  refine nw_bipush (len := 0) l_X4_copyFrom_134 136 rfl c_10 ?_
  refine nw_acopy l_X4_copyFrom_136 139 rfl (by decide) k_17 k_17 ⟨by decide, by decide, by decide, by decide, by decide⟩ ?_
  refine nw_return l_X4_copyFrom_139 rfl ?_
  exact h
theorem b_X4_endPassage_0 {x1 : Int} (hD : 2 ≤ D) (h : ((0 ≤ x1 ∧ x1 < 3) ∧ ((-2147483648 ≤ (J 9 6) + 1 ∧ (J 9 6) + 1 < 2147483648) ∧ NW sc d_X4_slotOf 1 (0, [some (.inr (.inl (some 9))), some (.inl 0)], [], (nw_u (nw_u (nw_u J 10 x1 (J 11 x1)) 11 x1 (-1)) 9 6 ((J 9 6) + 1), L, W), 0, 0) (fun v M9 => NW sc d_X4_endPassage D (34, [some (.inr (.inl (some 9))), some (.inl x1), none], nw_push v [], M9, c, sl) Qr Qx) Qx))) :
    NW sc d_X4_endPassage D (0, [some (.inr (.inl (some 9))), some (.inl x1), none], [], (J, L, W), c, sl) Qr Qx := by
  refine nw_aload_n l_X4_endPassage_0 1 rfl rfl ?_
  refine nw_getA l_X4_endPassage_1 4 rfl k_9 r_9_1 ?_
  refine nw_iload_n l_X4_endPassage_4 5 rfl rfl ?_
  refine nw_aload_n l_X4_endPassage_5 6 rfl rfl ?_
  refine nw_getA l_X4_endPassage_6 9 rfl k_9 r_9_2 ?_
  refine nw_iload_n l_X4_endPassage_9 10 rfl rfl ?_
  have o1 := h.1
  replace h := h.2
  refine nw_iald l_X4_endPassage_10 11 rfl k_11 o1 (v := J 11 x1) rfl ?_
  refine nw_iast l_X4_endPassage_11 12 rfl k_10 o1 ?_
  refine nw_aload_n l_X4_endPassage_12 13 rfl rfl ?_
  refine nw_getA l_X4_endPassage_13 16 rfl k_9 r_9_2 ?_
  refine nw_iload_n l_X4_endPassage_16 17 rfl rfl ?_
  refine nw_iconst (len := 0) l_X4_endPassage_17 18 rfl c_n1 ?_
  refine nw_iast l_X4_endPassage_18 19 rfl k_11 o1 ?_
  refine nw_aload_n l_X4_endPassage_19 20 rfl rfl ?_
  refine nw_dupA l_X4_endPassage_20 21 rfl ?_
  refine nw_getI l_X4_endPassage_21 24 rfl k_9 (v := J 9 6) (show nw_u (nw_u J 10 x1 (J 11 x1)) 11 x1 (-1) 9 6 = J 9 6 from (nw_uN (a := 11) (b := 9) (by decide)).trans (nw_uN (a := 10) (b := 9) (by decide))) ?_
  refine nw_iconst (len := 0) l_X4_endPassage_24 25 rfl c_1 ?_
  have o2 := h.1
  replace h := h.2
  refine nw_iadd l_X4_endPassage_25 26 rfl o2 ?_
  refine nw_putI l_X4_endPassage_26 29 rfl k_9 ?_
  refine nw_aload_n l_X4_endPassage_29 30 rfl rfl ?_
  refine nw_iconst (len := 0) l_X4_endPassage_30 31 rfl c_0 ?_
  refine nw_call0 1 9 l_X4_endPassage_31 rfl rfl g_X4_slotOf (Nat.lt_of_lt_of_le (by decide) hD) rfl (Or.inl ⟨_, rfl, k_9⟩) (ls' := [some (.inr (.inl (some 9))), some (.inl 0)]) rfl (st' := []) rfl 34 rfl ?_
  exact h
theorem b_X4_endPassage_34 {x1 : Int} {y0 : Int} (h : ((0 ≤ y0 ∧ y0 < 10) ∧ ((0 ≤ x1 ∧ x1 < 3) ∧ Qr none (nw_u (nw_u (nw_u J 15 y0 x1) 16 y0 (J 10 x1)) 17 y0 (J 12 x1), L, W)))) :
    NW sc d_X4_endPassage D (34, [some (.inr (.inl (some 9))), some (.inl x1), none], [.inl y0], (J, L, W), c, sl) Qr Qx := by
  refine nw_istore_n l_X4_endPassage_34 35 rfl rfl (ls' := [some (.inr (.inl (some 9))), some (.inl x1), some (.inl y0)]) rfl ?_
  refine nw_aload_n l_X4_endPassage_35 36 rfl rfl ?_
  refine nw_getA l_X4_endPassage_36 39 rfl k_9 r_9_8 ?_
  refine nw_iload_n l_X4_endPassage_39 40 rfl rfl ?_
  refine nw_iload_n l_X4_endPassage_40 41 rfl rfl ?_
  have o1 := h.1
  replace h := h.2
  refine nw_iast l_X4_endPassage_41 42 rfl k_15 o1 ?_
  refine nw_aload_n l_X4_endPassage_42 43 rfl rfl ?_
  refine nw_getA l_X4_endPassage_43 46 rfl k_9 r_9_9 ?_
  refine nw_iload_n l_X4_endPassage_46 47 rfl rfl ?_
  refine nw_aload_n l_X4_endPassage_47 48 rfl rfl ?_
  refine nw_getA l_X4_endPassage_48 51 rfl k_9 r_9_1 ?_
  refine nw_iload_n l_X4_endPassage_51 52 rfl rfl ?_
  have o2 := h.1
  replace h := h.2
  refine nw_iald l_X4_endPassage_52 53 rfl k_10 o2 (v := J 10 x1) (show nw_u J 15 y0 x1 10 x1 = J 10 x1 from (nw_uN (a := 15) (b := 10) (by decide))) ?_
  refine nw_iast l_X4_endPassage_53 54 rfl k_16 o1 ?_
  refine nw_aload_n l_X4_endPassage_54 55 rfl rfl ?_
  refine nw_getA l_X4_endPassage_55 58 rfl k_9 r_9_10 ?_
  refine nw_iload_n l_X4_endPassage_58 59 rfl rfl ?_
  refine nw_aload_n l_X4_endPassage_59 60 rfl rfl ?_
  refine nw_getA l_X4_endPassage_60 63 rfl k_9 r_9_3 ?_
  refine nw_iload_n l_X4_endPassage_63 64 rfl rfl ?_
  refine nw_iald l_X4_endPassage_64 65 rfl k_12 o2 (v := J 12 x1) (show nw_u (nw_u J 15 y0 x1) 16 y0 (J 10 x1) 12 x1 = J 12 x1 from (nw_uN (a := 16) (b := 12) (by decide)).trans (nw_uN (a := 15) (b := 12) (by decide))) ?_
  refine nw_iast l_X4_endPassage_65 66 rfl k_17 o1 ?_
  refine nw_return l_X4_endPassage_66 rfl ?_
  exact h
theorem b_X4_slotOf_0 {x1 : Int} (hD : 1 ≤ D) (h : ((-2147483648 ≤ (J 9 6) - 1 ∧ (J 9 6) - 1 < 2147483648) ∧ ((-2147483648 ≤ ((J 9 6) - 1) - x1 ∧ ((J 9 6) - 1) - x1 < 2147483648) ∧ NW sc d_J9_floorMod_7cf53 0 (0, [some (.inl (((J 9 6) - 1) - x1)), some (.inl 10), none], [], (J, L, W), 0, 0) (fun v M9 => NW sc d_X4_slotOf D (13, [none, none], nw_push v [], M9, c, sl) Qr Qx) Qx))) :
    NW sc d_X4_slotOf D (0, [some (.inr (.inl (some 9))), some (.inl x1)], [], (J, L, W), c, sl) Qr Qx := by
  refine nw_aload_n l_X4_slotOf_0 1 rfl rfl ?_
  refine nw_getI l_X4_slotOf_1 4 rfl k_9 (v := J 9 6) rfl ?_
  refine nw_iconst (len := 0) l_X4_slotOf_4 5 rfl c_1 ?_
  have o1 := h.1
  replace h := h.2
  refine nw_isub l_X4_slotOf_5 6 rfl o1 ?_
  refine nw_iload_n l_X4_slotOf_6 7 rfl rfl ?_
  have o2 := h.1
  replace h := h.2
  refine nw_isub l_X4_slotOf_7 8 rfl o2 ?_
  refine nw_bipush (len := 0) l_X4_slotOf_8 10 rfl c_10 ?_
  refine nw_drop (ls' := [none, none]) ⟨True.intro, ⟨True.intro, True.intro⟩⟩ ?_
  refine nw_call0 0 0 l_X4_slotOf_10 rfl rfl g_J9_floorMod_7cf53 (Nat.lt_of_lt_of_le (by decide) hD) rfl True.intro (ls' := [some (.inl (((J 9 6) - 1) - x1)), some (.inl 10), none]) rfl (st' := []) rfl 13 rfl ?_
  exact h
theorem b_X4_slotOf_13 {y0 : Int} (h : Qr (some (.inl y0)) (J, L, W)) :
    NW sc d_X4_slotOf D (13, [none, none], [.inl y0], (J, L, W), c, sl) Qr Qx := by
  refine nw_ireturn l_X4_slotOf_13 rfl ?_
  exact h
theorem b_X7_copyFrom_0  (h : Qr none (nw_cp (nw_cp (nw_cp (nw_cp (nw_cp (nw_cp (nw_cp (nw_u (nw_u J 18 0 (J 18 0)) 18 1 (J 18 1)) 19 19 0 0 10) 20 20 0 0 10) 21 21 0 0 10) 22 22 0 0 10) 23 23 0 0 10) 24 24 0 0 10) 25 25 0 0 10, L, W)) :
    NW sc d_X7_copyFrom D (0, [some (.inr (.inl (some 18))), some (.inr (.inl (some 18)))], [], (J, L, W), c, sl) Qr Qx := by
  refine nw_aload_n l_X7_copyFrom_0 1 rfl rfl ?_
  refine nw_aload_n l_X7_copyFrom_1 2 rfl rfl ?_
  refine nw_getI l_X7_copyFrom_2 5 rfl k_18 (v := J 18 0) rfl ?_
  refine nw_putI l_X7_copyFrom_5 8 rfl k_18 ?_
  refine nw_aload_n l_X7_copyFrom_8 9 rfl rfl ?_
  refine nw_aload_n l_X7_copyFrom_9 10 rfl rfl ?_
  refine nw_getI l_X7_copyFrom_10 13 rfl k_18 (v := J 18 1) (show nw_u J 18 0 (J 18 0) 18 1 = J 18 1 from (nw_uI (i := 0) (j := 1) (by decide))) ?_
  refine nw_putI l_X7_copyFrom_13 16 rfl k_18 ?_
  refine nw_aload_n l_X7_copyFrom_16 17 rfl rfl ?_
  refine nw_getA l_X7_copyFrom_17 20 rfl k_18 r_18_2 ?_
  refine nw_iconst (len := 0) l_X7_copyFrom_20 21 rfl c_0 ?_
  refine nw_aload_n l_X7_copyFrom_21 22 rfl rfl ?_
  refine nw_getA l_X7_copyFrom_22 25 rfl k_18 r_18_2 ?_
  refine nw_iconst (len := 0) l_X7_copyFrom_25 26 rfl c_0 ?_
  refine nw_bipush (len := 0) l_X7_copyFrom_26 28 rfl c_10 ?_
  refine nw_acopy l_X7_copyFrom_28 31 rfl (by decide) k_19 k_19 ⟨by decide, by decide, by decide, by decide, by decide⟩ ?_
  refine nw_aload_n l_X7_copyFrom_31 32 rfl rfl ?_
  refine nw_getA l_X7_copyFrom_32 35 rfl k_18 r_18_3 ?_
  refine nw_iconst (len := 0) l_X7_copyFrom_35 36 rfl c_0 ?_
  refine nw_aload_n l_X7_copyFrom_36 37 rfl rfl ?_
  refine nw_getA l_X7_copyFrom_37 40 rfl k_18 r_18_3 ?_
  refine nw_iconst (len := 0) l_X7_copyFrom_40 41 rfl c_0 ?_
  refine nw_bipush (len := 0) l_X7_copyFrom_41 43 rfl c_10 ?_
  refine nw_acopy l_X7_copyFrom_43 46 rfl (by decide) k_20 k_20 ⟨by decide, by decide, by decide, by decide, by decide⟩ ?_
  refine nw_aload_n l_X7_copyFrom_46 47 rfl rfl ?_
  refine nw_getA l_X7_copyFrom_47 50 rfl k_18 r_18_4 ?_
  refine nw_iconst (len := 0) l_X7_copyFrom_50 51 rfl c_0 ?_
  refine nw_aload_n l_X7_copyFrom_51 52 rfl rfl ?_
  refine nw_getA l_X7_copyFrom_52 55 rfl k_18 r_18_4 ?_
  refine nw_iconst (len := 0) l_X7_copyFrom_55 56 rfl c_0 ?_
  refine nw_bipush (len := 0) l_X7_copyFrom_56 58 rfl c_10 ?_
  refine nw_acopy l_X7_copyFrom_58 61 rfl (by decide) k_21 k_21 ⟨by decide, by decide, by decide, by decide, by decide⟩ ?_
  refine nw_aload_n l_X7_copyFrom_61 62 rfl rfl ?_
  refine nw_getA l_X7_copyFrom_62 65 rfl k_18 r_18_5 ?_
  refine nw_iconst (len := 0) l_X7_copyFrom_65 66 rfl c_0 ?_
  refine nw_aload_n l_X7_copyFrom_66 67 rfl rfl ?_
  refine nw_getA l_X7_copyFrom_67 70 rfl k_18 r_18_5 ?_
  refine nw_iconst (len := 0) l_X7_copyFrom_70 71 rfl c_0 ?_
  refine nw_bipush (len := 0) l_X7_copyFrom_71 73 rfl c_10 ?_
  refine nw_acopy l_X7_copyFrom_73 76 rfl (by decide) k_22 k_22 ⟨by decide, by decide, by decide, by decide, by decide⟩ ?_
  refine nw_aload_n l_X7_copyFrom_76 77 rfl rfl ?_
  refine nw_getA l_X7_copyFrom_77 80 rfl k_18 r_18_6 ?_
  refine nw_iconst (len := 0) l_X7_copyFrom_80 81 rfl c_0 ?_
  refine nw_aload_n l_X7_copyFrom_81 82 rfl rfl ?_
  refine nw_getA l_X7_copyFrom_82 85 rfl k_18 r_18_6 ?_
  refine nw_iconst (len := 0) l_X7_copyFrom_85 86 rfl c_0 ?_
  refine nw_bipush (len := 0) l_X7_copyFrom_86 88 rfl c_10 ?_
  refine nw_acopy l_X7_copyFrom_88 91 rfl (by decide) k_23 k_23 ⟨by decide, by decide, by decide, by decide, by decide⟩ ?_
  refine nw_aload_n l_X7_copyFrom_91 92 rfl rfl ?_
  refine nw_getA l_X7_copyFrom_92 95 rfl k_18 r_18_7 ?_
  refine nw_iconst (len := 0) l_X7_copyFrom_95 96 rfl c_0 ?_
  refine nw_aload_n l_X7_copyFrom_96 97 rfl rfl ?_
  refine nw_getA l_X7_copyFrom_97 100 rfl k_18 r_18_7 ?_
  refine nw_iconst (len := 0) l_X7_copyFrom_100 101 rfl c_0 ?_
  refine nw_bipush (len := 0) l_X7_copyFrom_101 103 rfl c_10 ?_
  refine nw_acopy l_X7_copyFrom_103 106 rfl (by decide) k_24 k_24 ⟨by decide, by decide, by decide, by decide, by decide⟩ ?_
  refine nw_aload_n l_X7_copyFrom_106 107 rfl rfl ?_
  refine nw_getA l_X7_copyFrom_107 110 rfl k_18 r_18_8 ?_
  refine nw_iconst (len := 0) l_X7_copyFrom_110 111 rfl c_0 ?_
  refine nw_aload_n l_X7_copyFrom_111 112 rfl rfl ?_
  refine nw_getA l_X7_copyFrom_112 115 rfl k_18 r_18_8 ?_
  refine nw_iconst (len := 0) l_X7_copyFrom_115 116 rfl c_0 ?_
  refine nw_bipush (len := 0) l_X7_copyFrom_116 118 rfl c_10 ?_
  refine nw_acopy l_X7_copyFrom_118 121 rfl (by decide) k_25 k_25 ⟨by decide, by decide, by decide, by decide, by decide⟩ ?_
  refine nw_return l_X7_copyFrom_121 rfl ?_
  exact h
theorem b_X7_dropMoon_0 {x1 : Int} (h : ((-2147483648 ≤ (J 18 0) - 1 ∧ (J 18 0) - 1 < 2147483648) ∧ NW sc d_X7_dropMoon D (12, [some (.inr (.inl (some 18))), none, some (.inl x1)], [], (nw_u J 18 0 ((J 18 0) - 1), L, W), c, sl) Qr Qx)) :
    NW sc d_X7_dropMoon D (0, [some (.inr (.inl (some 18))), some (.inl x1), none], [], (J, L, W), c, sl) Qr Qx := by
  refine nw_aload_n l_X7_dropMoon_0 1 rfl rfl ?_
  refine nw_dupA l_X7_dropMoon_1 2 rfl ?_
  refine nw_getI l_X7_dropMoon_2 5 rfl k_18 (v := J 18 0) rfl ?_
  refine nw_iconst (len := 0) l_X7_dropMoon_5 6 rfl c_1 ?_
  have o1 := h.1
  replace h := h.2
  refine nw_isub l_X7_dropMoon_6 7 rfl o1 ?_
  refine nw_putI l_X7_dropMoon_7 10 rfl k_18 ?_
  refine nw_iload_n l_X7_dropMoon_10 11 rfl rfl ?_
  refine nw_istore_n l_X7_dropMoon_11 12 rfl rfl (ls' := [some (.inr (.inl (some 18))), some (.inl x1), some (.inl x1)]) rfl ?_
  refine nw_drop (ls' := [some (.inr (.inl (some 18))), none, some (.inl x1)]) ⟨rfl, ⟨True.intro, ⟨rfl, True.intro⟩⟩⟩ ?_
  exact h
theorem b_X7_dropMoon_12 {x2 : Int} (h : ((J 18 0 ≤ x2 → Qr none (J, L, W)) ∧ (x2 < J 18 0 → ((-2147483648 ≤ x2 + 1 ∧ x2 + 1 < 2147483648) ∧ ((0 ≤ x2 + 1 ∧ x2 + 1 < 10) ∧ ((0 ≤ x2 ∧ x2 < 10) ∧ NW sc d_X7_dropMoon D (12, [some (.inr (.inl (some 18))), none, some (.inl (x2 + 1))], [], (nw_u (nw_u (nw_u (nw_u (nw_u (nw_u (nw_u J 19 x2 (J 19 (x2 + 1))) 20 x2 (J 20 (x2 + 1))) 21 x2 (J 21 (x2 + 1))) 22 x2 (J 22 (x2 + 1))) 23 x2 (J 23 (x2 + 1))) 24 x2 (J 24 (x2 + 1))) 25 x2 (J 25 (x2 + 1)), L, W), c, sl) Qr Qx)))))) :
    NW sc d_X7_dropMoon D (12, [some (.inr (.inl (some 18))), none, some (.inl x2)], [], (J, L, W), c, sl) Qr Qx := by
  refine nw_iload_n l_X7_dropMoon_12 13 rfl rfl ?_
  refine nw_aload_n l_X7_dropMoon_13 14 rfl rfl ?_
  refine nw_getI l_X7_dropMoon_14 17 rfl k_18 (v := J 18 0) rfl ?_
  refine nw_ic_ge l_X7_dropMoon_17 20 rfl (fun q1 => ?_) (fun q1 => ?_)
  · replace h := h.1 q1
    refine nw_return l_X7_dropMoon_124 rfl ?_
    exact h
  · replace h := h.2 q1
    refine nw_aload_n l_X7_dropMoon_20 21 rfl rfl ?_
    refine nw_getA l_X7_dropMoon_21 24 rfl k_18 r_18_2 ?_
    refine nw_iload_n l_X7_dropMoon_24 25 rfl rfl ?_
    refine nw_aload_n l_X7_dropMoon_25 26 rfl rfl ?_
    refine nw_getA l_X7_dropMoon_26 29 rfl k_18 r_18_2 ?_
    refine nw_iload_n l_X7_dropMoon_29 30 rfl rfl ?_
    refine nw_iconst (len := 0) l_X7_dropMoon_30 31 rfl c_1 ?_
    have o2 := h.1
    replace h := h.2
    refine nw_iadd l_X7_dropMoon_31 32 rfl o2 ?_
    have o3 := h.1
    replace h := h.2
    refine nw_iald l_X7_dropMoon_32 33 rfl k_19 o3 (v := J 19 (x2 + 1)) rfl ?_
    have o4 := h.1
    replace h := h.2
    refine nw_iast l_X7_dropMoon_33 34 rfl k_19 o4 ?_
    refine nw_aload_n l_X7_dropMoon_34 35 rfl rfl ?_
    refine nw_getA l_X7_dropMoon_35 38 rfl k_18 r_18_3 ?_
    refine nw_iload_n l_X7_dropMoon_38 39 rfl rfl ?_
    refine nw_aload_n l_X7_dropMoon_39 40 rfl rfl ?_
    refine nw_getA l_X7_dropMoon_40 43 rfl k_18 r_18_3 ?_
    refine nw_iload_n l_X7_dropMoon_43 44 rfl rfl ?_
    refine nw_iconst (len := 0) l_X7_dropMoon_44 45 rfl c_1 ?_
    refine nw_iadd l_X7_dropMoon_45 46 rfl o2 ?_
    refine nw_iald l_X7_dropMoon_46 47 rfl k_20 o3 (v := J 20 (x2 + 1)) (show nw_u J 19 x2 (J 19 (x2 + 1)) 20 (x2 + 1) = J 20 (x2 + 1) from (nw_uN (a := 19) (b := 20) (by decide))) ?_
    refine nw_iast l_X7_dropMoon_47 48 rfl k_20 o4 ?_
    refine nw_aload_n l_X7_dropMoon_48 49 rfl rfl ?_
    refine nw_getA l_X7_dropMoon_49 52 rfl k_18 r_18_4 ?_
    refine nw_iload_n l_X7_dropMoon_52 53 rfl rfl ?_
    refine nw_aload_n l_X7_dropMoon_53 54 rfl rfl ?_
    refine nw_getA l_X7_dropMoon_54 57 rfl k_18 r_18_4 ?_
    refine nw_iload_n l_X7_dropMoon_57 58 rfl rfl ?_
    refine nw_iconst (len := 0) l_X7_dropMoon_58 59 rfl c_1 ?_
    refine nw_iadd l_X7_dropMoon_59 60 rfl o2 ?_
    refine nw_iald l_X7_dropMoon_60 61 rfl k_21 o3 (v := J 21 (x2 + 1)) (show nw_u (nw_u J 19 x2 (J 19 (x2 + 1))) 20 x2 (J 20 (x2 + 1)) 21 (x2 + 1) = J 21 (x2 + 1) from (nw_uN (a := 20) (b := 21) (by decide)).trans (nw_uN (a := 19) (b := 21) (by decide))) ?_
    refine nw_iast l_X7_dropMoon_61 62 rfl k_21 o4 ?_
    refine nw_aload_n l_X7_dropMoon_62 63 rfl rfl ?_
    refine nw_getA l_X7_dropMoon_63 66 rfl k_18 r_18_5 ?_
    refine nw_iload_n l_X7_dropMoon_66 67 rfl rfl ?_
    refine nw_aload_n l_X7_dropMoon_67 68 rfl rfl ?_
    refine nw_getA l_X7_dropMoon_68 71 rfl k_18 r_18_5 ?_
    refine nw_iload_n l_X7_dropMoon_71 72 rfl rfl ?_
    refine nw_iconst (len := 0) l_X7_dropMoon_72 73 rfl c_1 ?_
    refine nw_iadd l_X7_dropMoon_73 74 rfl o2 ?_
    refine nw_iald l_X7_dropMoon_74 75 rfl k_22 o3 (v := J 22 (x2 + 1)) (show nw_u (nw_u (nw_u J 19 x2 (J 19 (x2 + 1))) 20 x2 (J 20 (x2 + 1))) 21 x2 (J 21 (x2 + 1)) 22 (x2 + 1) = J 22 (x2 + 1) from (nw_uN (a := 21) (b := 22) (by decide)).trans ((nw_uN (a := 20) (b := 22) (by decide)).trans (nw_uN (a := 19) (b := 22) (by decide)))) ?_
    refine nw_iast l_X7_dropMoon_75 76 rfl k_22 o4 ?_
    refine nw_aload_n l_X7_dropMoon_76 77 rfl rfl ?_
    refine nw_getA l_X7_dropMoon_77 80 rfl k_18 r_18_6 ?_
    refine nw_iload_n l_X7_dropMoon_80 81 rfl rfl ?_
    refine nw_aload_n l_X7_dropMoon_81 82 rfl rfl ?_
    refine nw_getA l_X7_dropMoon_82 85 rfl k_18 r_18_6 ?_
    refine nw_iload_n l_X7_dropMoon_85 86 rfl rfl ?_
    refine nw_iconst (len := 0) l_X7_dropMoon_86 87 rfl c_1 ?_
    refine nw_iadd l_X7_dropMoon_87 88 rfl o2 ?_
    refine nw_iald l_X7_dropMoon_88 89 rfl k_23 o3 (v := J 23 (x2 + 1)) (show nw_u (nw_u (nw_u (nw_u J 19 x2 (J 19 (x2 + 1))) 20 x2 (J 20 (x2 + 1))) 21 x2 (J 21 (x2 + 1))) 22 x2 (J 22 (x2 + 1)) 23 (x2 + 1) = J 23 (x2 + 1) from (nw_uN (a := 22) (b := 23) (by decide)).trans ((nw_uN (a := 21) (b := 23) (by decide)).trans ((nw_uN (a := 20) (b := 23) (by decide)).trans (nw_uN (a := 19) (b := 23) (by decide))))) ?_
    refine nw_iast l_X7_dropMoon_89 90 rfl k_23 o4 ?_
    refine nw_aload_n l_X7_dropMoon_90 91 rfl rfl ?_
    refine nw_getA l_X7_dropMoon_91 94 rfl k_18 r_18_7 ?_
    refine nw_iload_n l_X7_dropMoon_94 95 rfl rfl ?_
    refine nw_aload_n l_X7_dropMoon_95 96 rfl rfl ?_
    refine nw_getA l_X7_dropMoon_96 99 rfl k_18 r_18_7 ?_
    refine nw_iload_n l_X7_dropMoon_99 100 rfl rfl ?_
    refine nw_iconst (len := 0) l_X7_dropMoon_100 101 rfl c_1 ?_
    refine nw_iadd l_X7_dropMoon_101 102 rfl o2 ?_
    refine nw_iald l_X7_dropMoon_102 103 rfl k_24 o3 (v := J 24 (x2 + 1)) (show nw_u (nw_u (nw_u (nw_u (nw_u J 19 x2 (J 19 (x2 + 1))) 20 x2 (J 20 (x2 + 1))) 21 x2 (J 21 (x2 + 1))) 22 x2 (J 22 (x2 + 1))) 23 x2 (J 23 (x2 + 1)) 24 (x2 + 1) = J 24 (x2 + 1) from (nw_uN (a := 23) (b := 24) (by decide)).trans ((nw_uN (a := 22) (b := 24) (by decide)).trans ((nw_uN (a := 21) (b := 24) (by decide)).trans ((nw_uN (a := 20) (b := 24) (by decide)).trans (nw_uN (a := 19) (b := 24) (by decide)))))) ?_
    refine nw_iast l_X7_dropMoon_103 104 rfl k_24 o4 ?_
    refine nw_aload_n l_X7_dropMoon_104 105 rfl rfl ?_
    refine nw_getA l_X7_dropMoon_105 108 rfl k_18 r_18_8 ?_
    refine nw_iload_n l_X7_dropMoon_108 109 rfl rfl ?_
    refine nw_aload_n l_X7_dropMoon_109 110 rfl rfl ?_
    refine nw_getA l_X7_dropMoon_110 113 rfl k_18 r_18_8 ?_
    refine nw_iload_n l_X7_dropMoon_113 114 rfl rfl ?_
    refine nw_iconst (len := 0) l_X7_dropMoon_114 115 rfl c_1 ?_
    refine nw_iadd l_X7_dropMoon_115 116 rfl o2 ?_
    refine nw_iald l_X7_dropMoon_116 117 rfl k_25 o3 (v := J 25 (x2 + 1)) (show nw_u (nw_u (nw_u (nw_u (nw_u (nw_u J 19 x2 (J 19 (x2 + 1))) 20 x2 (J 20 (x2 + 1))) 21 x2 (J 21 (x2 + 1))) 22 x2 (J 22 (x2 + 1))) 23 x2 (J 23 (x2 + 1))) 24 x2 (J 24 (x2 + 1)) 25 (x2 + 1) = J 25 (x2 + 1) from (nw_uN (a := 24) (b := 25) (by decide)).trans ((nw_uN (a := 23) (b := 25) (by decide)).trans ((nw_uN (a := 22) (b := 25) (by decide)).trans ((nw_uN (a := 21) (b := 25) (by decide)).trans ((nw_uN (a := 20) (b := 25) (by decide)).trans (nw_uN (a := 19) (b := 25) (by decide))))))) ?_
    refine nw_iast l_X7_dropMoon_117 118 rfl k_25 o4 ?_
    refine nw_iinc l_X7_dropMoon_118 121 rfl 1 (by decide) rfl rfl o2 (ls' := [some (.inr (.inl (some 18))), none, some (.inl (x2 + 1))]) rfl ?_
    refine nw_goto l_X7_dropMoon_121 ?_
    exact h
theorem b_X7_increasePhases_0  (h : NW sc d_X7_increasePhases D (2, [some (.inr (.inl (some 18))), some (.inl 0)], [], (J, L, W), c, sl) Qr Qx) :
    NW sc d_X7_increasePhases D (0, [some (.inr (.inl (some 18))), none], [], (J, L, W), c, sl) Qr Qx := by
  refine nw_iconst (len := 0) l_X7_increasePhases_0 1 rfl c_0 ?_
  refine nw_istore_n l_X7_increasePhases_1 2 rfl rfl (ls' := [some (.inr (.inl (some 18))), some (.inl 0)]) rfl ?_
  exact h
theorem b_X7_increasePhases_2 {x1 : Int} (h : ((J 18 0 ≤ x1 → Qr none (J, L, W)) ∧ (x1 < J 18 0 → ((0 ≤ x1 ∧ x1 < 10) ∧ ((-2147483648 ≤ (J 23 x1) + 1 ∧ (J 23 x1) + 1 < 2147483648) ∧ ((0 ≤ (J 23 x1) + 1) ∧ ((-2147483648 ≤ x1 + 1 ∧ x1 + 1 < 2147483648) ∧ NW sc d_X7_increasePhases D (2, [some (.inr (.inl (some 18))), some (.inl (x1 + 1))], [], (nw_u J 23 x1 (((J 23 x1) + 1) % 8), L, W), c, sl) Qr Qx))))))) :
    NW sc d_X7_increasePhases D (2, [some (.inr (.inl (some 18))), some (.inl x1)], [], (J, L, W), c, sl) Qr Qx := by
  refine nw_iload_n l_X7_increasePhases_2 3 rfl rfl ?_
  refine nw_aload_n l_X7_increasePhases_3 4 rfl rfl ?_
  refine nw_getI l_X7_increasePhases_4 7 rfl k_18 (v := J 18 0) rfl ?_
  refine nw_ic_ge l_X7_increasePhases_7 10 rfl (fun q1 => ?_) (fun q1 => ?_)
  · replace h := h.1 q1
    refine nw_return l_X7_increasePhases_33 rfl ?_
    exact h
  · replace h := h.2 q1
    refine nw_aload_n l_X7_increasePhases_10 11 rfl rfl ?_
    refine nw_getA l_X7_increasePhases_11 14 rfl k_18 r_18_6 ?_
    refine nw_iload_n l_X7_increasePhases_14 15 rfl rfl ?_
    refine nw_aload_n l_X7_increasePhases_15 16 rfl rfl ?_
    refine nw_getA l_X7_increasePhases_16 19 rfl k_18 r_18_6 ?_
    refine nw_iload_n l_X7_increasePhases_19 20 rfl rfl ?_
    have o2 := h.1
    replace h := h.2
    refine nw_iald l_X7_increasePhases_20 21 rfl k_23 o2 (v := J 23 x1) rfl ?_
    refine nw_iconst (len := 0) l_X7_increasePhases_21 22 rfl c_1 ?_
    have o3 := h.1
    replace h := h.2
    refine nw_iadd l_X7_increasePhases_22 23 rfl o3 ?_
    refine nw_bipush (len := 0) l_X7_increasePhases_23 25 rfl c_8 ?_
    have o4 := h.1
    replace h := h.2
    refine nw_irem l_X7_increasePhases_25 26 rfl ⟨o4, by decide⟩ ?_
    refine nw_iast l_X7_increasePhases_26 27 rfl k_23 o2 ?_
    have o5 := h.1
    replace h := h.2
    refine nw_iinc l_X7_increasePhases_27 30 rfl 1 (by decide) rfl rfl o5 (ls' := [some (.inr (.inl (some 18))), some (.inl (x1 + 1))]) rfl ?_
    refine nw_goto l_X7_increasePhases_30 ?_
    exact h
theorem b_X7_placeOf_0 {x1 : Int} (h : NW sc d_X7_placeOf D (2, [some (.inr (.inl (some 18))), some (.inl x1), some (.inl 0)], [], (J, L, W), c, sl) Qr Qx) :
    NW sc d_X7_placeOf D (0, [some (.inr (.inl (some 18))), some (.inl x1), none], [], (J, L, W), c, sl) Qr Qx := by
  refine nw_iconst (len := 0) l_X7_placeOf_0 1 rfl c_0 ?_
  refine nw_istore_n l_X7_placeOf_1 2 rfl rfl (ls' := [some (.inr (.inl (some 18))), some (.inl x1), some (.inl 0)]) rfl ?_
  exact h
theorem b_X7_placeOf_2 {x1 : Int} {x2 : Int} (h : ((J 18 0 ≤ x2 → Qr (some (.inl (-1))) (J, L, W)) ∧ (x2 < J 18 0 → ((0 ≤ x2 ∧ x2 < 10) ∧ ((¬ J 19 x2 = x1 → ((-2147483648 ≤ x2 + 1 ∧ x2 + 1 < 2147483648) ∧ NW sc d_X7_placeOf D (2, [some (.inr (.inl (some 18))), some (.inl x1), some (.inl (x2 + 1))], [], (J, L, W), c, sl) Qr Qx)) ∧ (J 19 x2 = x1 → Qr (some (.inl x2)) (J, L, W))))))) :
    NW sc d_X7_placeOf D (2, [some (.inr (.inl (some 18))), some (.inl x1), some (.inl x2)], [], (J, L, W), c, sl) Qr Qx := by
  refine nw_iload_n l_X7_placeOf_2 3 rfl rfl ?_
  refine nw_aload_n l_X7_placeOf_3 4 rfl rfl ?_
  refine nw_getI l_X7_placeOf_4 7 rfl k_18 (v := J 18 0) rfl ?_
  refine nw_ic_ge l_X7_placeOf_7 10 rfl (fun q1 => ?_) (fun q1 => ?_)
  · replace h := h.1 q1
    refine nw_iconst (len := 0) l_X7_placeOf_28 29 rfl c_n1 ?_
    refine nw_ireturn l_X7_placeOf_29 rfl ?_
    exact h
  · replace h := h.2 q1
    refine nw_aload_n l_X7_placeOf_10 11 rfl rfl ?_
    refine nw_getA l_X7_placeOf_11 14 rfl k_18 r_18_2 ?_
    refine nw_iload_n l_X7_placeOf_14 15 rfl rfl ?_
    have o2 := h.1
    replace h := h.2
    refine nw_iald l_X7_placeOf_15 16 rfl k_19 o2 (v := J 19 x2) rfl ?_
    refine nw_iload_n l_X7_placeOf_16 17 rfl rfl ?_
    refine nw_ic_ne l_X7_placeOf_17 20 rfl (fun q3 => ?_) (fun q3 => ?_)
    · replace h := h.1 q3
      have o4 := h.1
      replace h := h.2
      refine nw_iinc l_X7_placeOf_22 25 rfl 1 (by decide) rfl rfl o4 (ls' := [some (.inr (.inl (some 18))), some (.inl x1), some (.inl (x2 + 1))]) rfl ?_
      refine nw_goto l_X7_placeOf_25 ?_
      exact h
    · replace h := h.2 q3
      refine nw_iload_n l_X7_placeOf_20 21 rfl rfl ?_
      refine nw_ireturn l_X7_placeOf_21 rfl ?_
      exact h
theorem b_X7_sumOfPhases_0  (h : NW sc d_X7_sumOfPhases D (4, [some (.inr (.inl (some 18))), some (.inl 0), some (.inl 0)], [], (J, L, W), c, sl) Qr Qx) :
    NW sc d_X7_sumOfPhases D (0, [some (.inr (.inl (some 18))), none, none], [], (J, L, W), c, sl) Qr Qx := by
  refine nw_iconst (len := 0) l_X7_sumOfPhases_0 1 rfl c_0 ?_
  refine nw_istore_n l_X7_sumOfPhases_1 2 rfl rfl (ls' := [some (.inr (.inl (some 18))), some (.inl 0), none]) rfl ?_
  refine nw_iconst (len := 0) l_X7_sumOfPhases_2 3 rfl c_0 ?_
  refine nw_istore_n l_X7_sumOfPhases_3 4 rfl rfl (ls' := [some (.inr (.inl (some 18))), some (.inl 0), some (.inl 0)]) rfl ?_
  exact h
theorem b_X7_sumOfPhases_4 {x1 : Int} {x2 : Int} (h : ((J 18 0 ≤ x2 → Qr (some (.inl x1)) (J, L, W)) ∧ (x2 < J 18 0 → ((0 ≤ x2 ∧ x2 < 10) ∧ ((-2147483648 ≤ x1 + (J 23 x2) ∧ x1 + (J 23 x2) < 2147483648) ∧ ((-2147483648 ≤ x2 + 1 ∧ x2 + 1 < 2147483648) ∧ NW sc d_X7_sumOfPhases D (4, [some (.inr (.inl (some 18))), some (.inl (x1 + (J 23 x2))), some (.inl (x2 + 1))], [], (J, L, W), c, sl) Qr Qx)))))) :
    NW sc d_X7_sumOfPhases D (4, [some (.inr (.inl (some 18))), some (.inl x1), some (.inl x2)], [], (J, L, W), c, sl) Qr Qx := by
  refine nw_iload_n l_X7_sumOfPhases_4 5 rfl rfl ?_
  refine nw_aload_n l_X7_sumOfPhases_5 6 rfl rfl ?_
  refine nw_getI l_X7_sumOfPhases_6 9 rfl k_18 (v := J 18 0) rfl ?_
  refine nw_ic_ge l_X7_sumOfPhases_9 12 rfl (fun q1 => ?_) (fun q1 => ?_)
  · replace h := h.1 q1
    refine nw_iload_n l_X7_sumOfPhases_27 28 rfl rfl ?_
    refine nw_ireturn l_X7_sumOfPhases_28 rfl ?_
    exact h
  · replace h := h.2 q1
    refine nw_iload_n l_X7_sumOfPhases_12 13 rfl rfl ?_
    refine nw_aload_n l_X7_sumOfPhases_13 14 rfl rfl ?_
    refine nw_getA l_X7_sumOfPhases_14 17 rfl k_18 r_18_6 ?_
    refine nw_iload_n l_X7_sumOfPhases_17 18 rfl rfl ?_
    have o2 := h.1
    replace h := h.2
    refine nw_iald l_X7_sumOfPhases_18 19 rfl k_23 o2 (v := J 23 x2) rfl ?_
    have o3 := h.1
    replace h := h.2
    refine nw_iadd l_X7_sumOfPhases_19 20 rfl o3 ?_
    refine nw_istore_n l_X7_sumOfPhases_20 21 rfl rfl (ls' := [some (.inr (.inl (some 18))), some (.inl (x1 + (J 23 x2))), some (.inl x2)]) rfl ?_
    have o4 := h.1
    replace h := h.2
    refine nw_iinc l_X7_sumOfPhases_21 24 rfl 1 (by decide) rfl rfl o4 (ls' := [some (.inr (.inl (some 18))), some (.inl (x1 + (J 23 x2))), some (.inl (x2 + 1))]) rfl ?_
    refine nw_goto l_X7_sumOfPhases_24 ?_
    exact h
theorem b_X7_weightAboard_0 {x1 : Int} (h : NW sc d_X7_weightAboard D (4, [some (.inr (.inl (some 18))), some (.inl x1), some (.inl 0), some (.inl 0)], [], (J, L, W), c, sl) Qr Qx) :
    NW sc d_X7_weightAboard D (0, [some (.inr (.inl (some 18))), some (.inl x1), none, none], [], (J, L, W), c, sl) Qr Qx := by
  refine nw_iconst (len := 0) l_X7_weightAboard_0 1 rfl c_0 ?_
  refine nw_istore_n l_X7_weightAboard_1 2 rfl rfl (ls' := [some (.inr (.inl (some 18))), some (.inl x1), some (.inl 0), none]) rfl ?_
  refine nw_iconst (len := 0) l_X7_weightAboard_2 3 rfl c_0 ?_
  refine nw_istore_n l_X7_weightAboard_3 4 rfl rfl (ls' := [some (.inr (.inl (some 18))), some (.inl x1), some (.inl 0), some (.inl 0)]) rfl ?_
  exact h
theorem b_X7_weightAboard_4 {x1 : Int} {x2 : Int} {x3 : Int} (h : ((J 18 0 ≤ x3 → Qr (some (.inl x2)) (J, L, W)) ∧ (x3 < J 18 0 → ((0 ≤ x3 ∧ x3 < 10) ∧ ((¬ J 24 x3 = x1 → ((-2147483648 ≤ x3 + 1 ∧ x3 + 1 < 2147483648) ∧ NW sc d_X7_weightAboard D (4, [some (.inr (.inl (some 18))), some (.inl x1), some (.inl x2), some (.inl (x3 + 1))], [], (J, L, W), c, sl) Qr Qx)) ∧ (J 24 x3 = x1 → ((-2147483648 ≤ x2 + (J 22 x3) ∧ x2 + (J 22 x3) < 2147483648) ∧ ((-2147483648 ≤ x3 + 1 ∧ x3 + 1 < 2147483648) ∧ NW sc d_X7_weightAboard D (4, [some (.inr (.inl (some 18))), some (.inl x1), some (.inl (x2 + (J 22 x3))), some (.inl (x3 + 1))], [], (J, L, W), c, sl) Qr Qx)))))))) :
    NW sc d_X7_weightAboard D (4, [some (.inr (.inl (some 18))), some (.inl x1), some (.inl x2), some (.inl x3)], [], (J, L, W), c, sl) Qr Qx := by
  refine nw_iload_n l_X7_weightAboard_4 5 rfl rfl ?_
  refine nw_aload_n l_X7_weightAboard_5 6 rfl rfl ?_
  refine nw_getI l_X7_weightAboard_6 9 rfl k_18 (v := J 18 0) rfl ?_
  refine nw_ic_ge l_X7_weightAboard_9 12 rfl (fun q1 => ?_) (fun q1 => ?_)
  · replace h := h.1 q1
    refine nw_iload_n l_X7_weightAboard_37 38 rfl rfl ?_
    refine nw_ireturn l_X7_weightAboard_38 rfl ?_
    exact h
  · replace h := h.2 q1
    refine nw_aload_n l_X7_weightAboard_12 13 rfl rfl ?_
    refine nw_getA l_X7_weightAboard_13 16 rfl k_18 r_18_7 ?_
    refine nw_iload_n l_X7_weightAboard_16 17 rfl rfl ?_
    have o2 := h.1
    replace h := h.2
    refine nw_iald l_X7_weightAboard_17 18 rfl k_24 o2 (v := J 24 x3) rfl ?_
    refine nw_iload_n l_X7_weightAboard_18 19 rfl rfl ?_
    refine nw_ic_ne l_X7_weightAboard_19 22 rfl (fun q3 => ?_) (fun q3 => ?_)
    · replace h := h.1 q3
      have o4 := h.1
      replace h := h.2
      refine nw_iinc l_X7_weightAboard_31 34 rfl 1 (by decide) rfl rfl o4 (ls' := [some (.inr (.inl (some 18))), some (.inl x1), some (.inl x2), some (.inl (x3 + 1))]) rfl ?_
      refine nw_goto l_X7_weightAboard_34 ?_
      exact h
    · replace h := h.2 q3
      refine nw_iload_n l_X7_weightAboard_22 23 rfl rfl ?_
      refine nw_aload_n l_X7_weightAboard_23 24 rfl rfl ?_
      refine nw_getA l_X7_weightAboard_24 27 rfl k_18 r_18_5 ?_
      refine nw_iload_n l_X7_weightAboard_27 28 rfl rfl ?_
      refine nw_iald l_X7_weightAboard_28 29 rfl k_22 o2 (v := J 22 x3) rfl ?_
      have o5 := h.1
      replace h := h.2
      refine nw_iadd l_X7_weightAboard_29 30 rfl o5 ?_
      refine nw_istore_n l_X7_weightAboard_30 31 rfl rfl (ls' := [some (.inr (.inl (some 18))), some (.inl x1), some (.inl (x2 + (J 22 x3))), some (.inl x3)]) rfl ?_
      have o6 := h.1
      replace h := h.2
      refine nw_iinc l_X7_weightAboard_31 34 rfl 1 (by decide) rfl rfl o6 (ls' := [some (.inr (.inl (some 18))), some (.inl x1), some (.inl (x2 + (J 22 x3))), some (.inl (x3 + 1))]) rfl ?_
      refine nw_goto l_X7_weightAboard_34 ?_
      exact h
theorem b_X8_aground_0 {x1 : Int} (hD : 2 ≤ D) (h : ((0 ≤ x1 ∧ x1 < 3) ∧ ((J 11 x1 = (-1) → ((0 ≤ J 10 x1 ∧ J 10 x1 < 6) ∧ NW sc d_X11_tideIn 1 (0, [some (.inl (J 2 3)), none], [], (J, L, W), 0, 0) (fun v M9 => NW sc d_X8_aground D (39, [some (.inr (.inl (some 2))), some (.inl x1), none], nw_push v [.inl (J 4 (J 10 x1))], M9, c, sl) Qr Qx) Qx)) ∧ (¬ J 11 x1 = (-1) → Qr (some (.inl 0)) (J, L, W))))) :
    NW sc d_X8_aground D (0, [some (.inr (.inl (some 2))), some (.inl x1), none], [], (J, L, W), c, sl) Qr Qx := by
  refine nw_aload_n l_X8_aground_0 1 rfl rfl ?_
  refine nw_getA l_X8_aground_1 4 rfl k_2 r_2_1 ?_
  refine nw_iload_n l_X8_aground_4 5 rfl rfl ?_
  refine nw_call0 0 9 l_X8_aground_5 rfl rfl g_X4_underWay (Nat.lt_of_lt_of_le (by decide) hD) rfl (Or.inl ⟨_, rfl, k_9⟩) (ls' := [some (.inr (.inl (some 9))), some (.inl x1)]) rfl (st' := []) rfl 8 rfl ?_
  refine nw_aload_n l_X4_underWay_0 1 rfl rfl ?_
  refine nw_getA l_X4_underWay_1 4 rfl k_9 r_9_2 ?_
  refine nw_iload_n l_X4_underWay_4 5 rfl rfl ?_
  have o1 := h.1
  replace h := h.2
  refine nw_iald l_X4_underWay_5 6 rfl k_11 o1 (v := J 11 x1) rfl ?_
  refine nw_iconst (len := 0) l_X4_underWay_6 7 rfl c_n1 ?_
  refine nw_ic_eq l_X4_underWay_7 10 rfl (fun q2 => ?_) (fun q2 => ?_)
  · replace h := h.1 q2
    refine nw_iconst (len := 0) l_X4_underWay_14 15 rfl c_0 ?_
    refine nw_ireturnZ l_X4_underWay_15 rfl (Or.inl rfl) ?_
    refine nw_if_eq l_X8_aground_8 11 rfl (fun _ => ?_) (fun q => absurd q (by decide))
    refine nw_aload_n l_X8_aground_13 14 rfl rfl ?_
    refine nw_getA l_X8_aground_14 17 rfl k_2 r_2_0 ?_
    refine nw_getA l_X8_aground_17 20 rfl k_3 r_3_2 ?_
    refine nw_aload_n l_X8_aground_20 21 rfl rfl ?_
    refine nw_getA l_X8_aground_21 24 rfl k_2 r_2_1 ?_
    refine nw_getA l_X8_aground_24 27 rfl k_9 r_9_1 ?_
    refine nw_iload_n l_X8_aground_27 28 rfl rfl ?_
    refine nw_iald l_X8_aground_28 29 rfl k_10 o1 (v := J 10 x1) rfl ?_
    have o3 := h.1
    replace h := h.2
    refine nw_iald l_X8_aground_29 30 rfl k_4 o3 (v := J 4 (J 10 x1)) rfl ?_
    refine nw_istore_n l_X8_aground_30 31 rfl rfl (ls' := [some (.inr (.inl (some 2))), some (.inl x1), some (.inl (J 4 (J 10 x1)))]) rfl ?_
    refine nw_iload_n l_X8_aground_31 32 rfl rfl ?_
    refine nw_aload_n l_X8_aground_32 33 rfl rfl ?_
    refine nw_getI l_X8_aground_33 36 rfl k_2 (v := J 2 3) rfl ?_
    refine nw_drop (ls' := [some (.inr (.inl (some 2))), some (.inl x1), none]) ⟨rfl, ⟨rfl, ⟨True.intro, True.intro⟩⟩⟩ ?_
    refine nw_call0 1 0 l_X8_aground_36 rfl rfl g_X11_tideIn (Nat.lt_of_lt_of_le (by decide) hD) rfl True.intro (ls' := [some (.inl (J 2 3)), none]) rfl (st' := [.inl (J 4 (J 10 x1))]) rfl 39 rfl ?_
    exact h
  · replace h := h.2 q2
    refine nw_iconst (len := 0) l_X4_underWay_10 11 rfl c_1 ?_
    refine nw_goto l_X4_underWay_11 ?_
    refine nw_ireturnZ l_X4_underWay_15 rfl (Or.inr rfl) ?_
    refine nw_if_eq l_X8_aground_8 11 rfl (fun q => absurd q (by decide)) (fun _ => ?_)
    refine nw_iconst (len := 0) l_X8_aground_11 12 rfl c_0 ?_
    refine nw_ireturnZ l_X8_aground_12 rfl (Or.inl rfl) ?_
    exact h
theorem b_X8_aground_39 {x1 : Int} {y0 : Int} {y1 : Int} (h : ((-2147483648 ≤ y1 + y0 ∧ y1 + y0 < 2147483648) ∧ ((0 ≤ x1 ∧ x1 < 3) ∧ ((J 13 x1 ≤ y1 + y0 → Qr (some (.inl 0)) (J, L, W)) ∧ (y1 + y0 < J 13 x1 → Qr (some (.inl 1)) (J, L, W)))))) :
    NW sc d_X8_aground D (39, [some (.inr (.inl (some 2))), some (.inl x1), none], [.inl y0, .inl y1], (J, L, W), c, sl) Qr Qx := by
  have o1 := h.1
  replace h := h.2
  refine nw_iadd l_X8_aground_39 40 rfl o1 ?_
  refine nw_aload_n l_X8_aground_40 41 rfl rfl ?_
  refine nw_getA l_X8_aground_41 44 rfl k_2 r_2_1 ?_
  refine nw_getA l_X8_aground_44 47 rfl k_9 r_9_4 ?_
  refine nw_iload_n l_X8_aground_47 48 rfl rfl ?_
  have o2 := h.1
  replace h := h.2
  refine nw_iald l_X8_aground_48 49 rfl k_13 o2 (v := J 13 x1) rfl ?_
  refine nw_ic_ge l_X8_aground_49 52 rfl (fun q3 => ?_) (fun q3 => ?_)
  · replace h := h.1 q3
    refine nw_iconst (len := 0) l_X8_aground_56 57 rfl c_0 ?_
    refine nw_ireturnZ l_X8_aground_57 rfl (Or.inl rfl) ?_
    exact h
  · replace h := h.2 q3
    refine nw_iconst (len := 0) l_X8_aground_52 53 rfl c_1 ?_
    refine nw_goto l_X8_aground_53 ?_
    refine nw_ireturnZ l_X8_aground_57 rfl (Or.inr rfl) ?_
    exact h
theorem b_X8_copyFrom_0  (hD : 1 ≤ D) (h : NW sc d_X9_copyFrom 0 (0, [some (.inr (.inl (some 3))), some (.inr (.inl (some 3)))], [], (J, L, W), 0, 0) (fun v M9 => NW sc d_X8_copyFrom D (11, [some (.inr (.inl (some 2))), some (.inr (.inl (some 2)))], nw_push v [], M9, c, sl) Qr Qx) Qx) :
    NW sc d_X8_copyFrom D (0, [some (.inr (.inl (some 2))), some (.inr (.inl (some 2)))], [], (J, L, W), c, sl) Qr Qx := by
  refine nw_aload_n l_X8_copyFrom_0 1 rfl rfl ?_
  refine nw_getA l_X8_copyFrom_1 4 rfl k_2 r_2_0 ?_
  refine nw_aload_n l_X8_copyFrom_4 5 rfl rfl ?_
  refine nw_getA l_X8_copyFrom_5 8 rfl k_2 r_2_0 ?_
  refine nw_call0 0 3 l_X8_copyFrom_8 rfl rfl g_X9_copyFrom (Nat.lt_of_lt_of_le (by decide) hD) rfl (Or.inl ⟨_, rfl, k_3⟩) (ls' := [some (.inr (.inl (some 3))), some (.inr (.inl (some 3)))]) rfl (st' := []) rfl 11 rfl ?_
  exact h
theorem b_X8_copyFrom_11  (hD : 1 ≤ D) (h : NW sc d_X4_copyFrom 0 (0, [some (.inr (.inl (some 9))), some (.inr (.inl (some 9)))], [], (J, L, W), 0, 0) (fun v M9 => NW sc d_X8_copyFrom D (22, [some (.inr (.inl (some 2))), some (.inr (.inl (some 2)))], nw_push v [], M9, c, sl) Qr Qx) Qx) :
    NW sc d_X8_copyFrom D (11, [some (.inr (.inl (some 2))), some (.inr (.inl (some 2)))], [], (J, L, W), c, sl) Qr Qx := by
  refine nw_aload_n l_X8_copyFrom_11 12 rfl rfl ?_
  refine nw_getA l_X8_copyFrom_12 15 rfl k_2 r_2_1 ?_
  refine nw_aload_n l_X8_copyFrom_15 16 rfl rfl ?_
  refine nw_getA l_X8_copyFrom_16 19 rfl k_2 r_2_1 ?_
  refine nw_call0 0 9 l_X8_copyFrom_19 rfl rfl g_X4_copyFrom (Nat.lt_of_lt_of_le (by decide) hD) rfl (Or.inl ⟨_, rfl, k_9⟩) (ls' := [some (.inr (.inl (some 9))), some (.inr (.inl (some 9)))]) rfl (st' := []) rfl 22 rfl ?_
  exact h
theorem b_X8_copyFrom_22  (hD : 1 ≤ D) (h : NW sc d_X7_copyFrom 0 (0, [some (.inr (.inl (some 18))), some (.inr (.inl (some 18)))], [], (J, L, W), 0, 0) (fun v M9 => NW sc d_X8_copyFrom D (33, [some (.inr (.inl (some 2))), some (.inr (.inl (some 2)))], nw_push v [], M9, c, sl) Qr Qx) Qx) :
    NW sc d_X8_copyFrom D (22, [some (.inr (.inl (some 2))), some (.inr (.inl (some 2)))], [], (J, L, W), c, sl) Qr Qx := by
  refine nw_aload_n l_X8_copyFrom_22 23 rfl rfl ?_
  refine nw_getA l_X8_copyFrom_23 26 rfl k_2 r_2_2 ?_
  refine nw_aload_n l_X8_copyFrom_26 27 rfl rfl ?_
  refine nw_getA l_X8_copyFrom_27 30 rfl k_2 r_2_2 ?_
  refine nw_call0 0 18 l_X8_copyFrom_30 rfl rfl g_X7_copyFrom (Nat.lt_of_lt_of_le (by decide) hD) rfl (Or.inl ⟨_, rfl, k_18⟩) (ls' := [some (.inr (.inl (some 18))), some (.inr (.inl (some 18)))]) rfl (st' := []) rfl 33 rfl ?_
  exact h
theorem b_X8_copyFrom_33  (h : Qr none (nw_u (nw_u J 2 3 (J 2 3)) 2 4 (J 2 4), nw_u L 2 5 (L 2 5), W)) :
    NW sc d_X8_copyFrom D (33, [some (.inr (.inl (some 2))), some (.inr (.inl (some 2)))], [], (J, L, W), c, sl) Qr Qx := by
  refine nw_aload_n l_X8_copyFrom_33 34 rfl rfl ?_
  refine nw_aload_n l_X8_copyFrom_34 35 rfl rfl ?_
  refine nw_getI l_X8_copyFrom_35 38 rfl k_2 (v := J 2 3) rfl ?_
  refine nw_putI l_X8_copyFrom_38 41 rfl k_2 ?_
  refine nw_aload_n l_X8_copyFrom_41 42 rfl rfl ?_
  refine nw_aload_n l_X8_copyFrom_42 43 rfl rfl ?_
  refine nw_getI l_X8_copyFrom_43 46 rfl k_2 (v := J 2 4) (show nw_u J 2 3 (J 2 3) 2 4 = J 2 4 from (nw_uI (i := 3) (j := 4) (by decide))) ?_
  refine nw_putI l_X8_copyFrom_46 49 rfl k_2 ?_
  refine nw_aload_n l_X8_copyFrom_49 50 rfl rfl ?_
  refine nw_aload_n l_X8_copyFrom_50 51 rfl rfl ?_
  refine nw_getL l_X8_copyFrom_51 54 rfl k_2 (v := L 2 5) rfl ?_
  refine nw_putL l_X8_copyFrom_54 57 rfl k_2 ?_
  refine nw_return l_X8_copyFrom_57 rfl ?_
  exact h
theorem b_X9_copyFrom_0  (h : Qr none (nw_cp (nw_cp (nw_cp (nw_cp (nw_cp (nw_u (nw_u J 3 0 (J 3 0)) 3 1 (J 3 1)) 4 4 0 0 6) 5 5 0 0 10) 6 6 0 0 10) 7 7 0 0 10) 8 8 0 0 10, L, W)) :
    NW sc d_X9_copyFrom D (0, [some (.inr (.inl (some 3))), some (.inr (.inl (some 3)))], [], (J, L, W), c, sl) Qr Qx := by
  refine nw_aload_n l_X9_copyFrom_0 1 rfl rfl ?_
  refine nw_aload_n l_X9_copyFrom_1 2 rfl rfl ?_
  refine nw_getI l_X9_copyFrom_2 5 rfl k_3 (v := J 3 0) rfl ?_
  refine nw_putI l_X9_copyFrom_5 8 rfl k_3 ?_
  refine nw_aload_n l_X9_copyFrom_8 9 rfl rfl ?_
  refine nw_aload_n l_X9_copyFrom_9 10 rfl rfl ?_
  refine nw_getI l_X9_copyFrom_10 13 rfl k_3 (v := J 3 1) (show nw_u J 3 0 (J 3 0) 3 1 = J 3 1 from (nw_uI (i := 0) (j := 1) (by decide))) ?_
  refine nw_putI l_X9_copyFrom_13 16 rfl k_3 ?_
  refine nw_aload_n l_X9_copyFrom_16 17 rfl rfl ?_
  refine nw_getA l_X9_copyFrom_17 20 rfl k_3 r_3_2 ?_
  refine nw_iconst (len := 0) l_X9_copyFrom_20 21 rfl c_0 ?_
  refine nw_aload_n l_X9_copyFrom_21 22 rfl rfl ?_
  refine nw_getA l_X9_copyFrom_22 25 rfl k_3 r_3_2 ?_
  refine nw_iconst (len := 0) l_X9_copyFrom_25 26 rfl c_0 ?_
  refine nw_bipush (len := 0) l_X9_copyFrom_26 28 rfl c_6 ?_
  refine nw_acopy l_X9_copyFrom_28 31 rfl (by decide) k_4 k_4 ⟨by decide, by decide, by decide, by decide, by decide⟩ ?_
  refine nw_aload_n l_X9_copyFrom_31 32 rfl rfl ?_
  refine nw_getA l_X9_copyFrom_32 35 rfl k_3 r_3_3 ?_
  refine nw_iconst (len := 0) l_X9_copyFrom_35 36 rfl c_0 ?_
  refine nw_aload_n l_X9_copyFrom_36 37 rfl rfl ?_
  refine nw_getA l_X9_copyFrom_37 40 rfl k_3 r_3_3 ?_
  refine nw_iconst (len := 0) l_X9_copyFrom_40 41 rfl c_0 ?_
  refine nw_bipush (len := 0) l_X9_copyFrom_41 43 rfl c_10 ?_
  refine nw_acopy l_X9_copyFrom_43 46 rfl (by decide) k_5 k_5 ⟨by decide, by decide, by decide, by decide, by decide⟩ ?_
  refine nw_aload_n l_X9_copyFrom_46 47 rfl rfl ?_
  refine nw_getA l_X9_copyFrom_47 50 rfl k_3 r_3_4 ?_
  refine nw_iconst (len := 0) l_X9_copyFrom_50 51 rfl c_0 ?_
  refine nw_aload_n l_X9_copyFrom_51 52 rfl rfl ?_
  refine nw_getA l_X9_copyFrom_52 55 rfl k_3 r_3_4 ?_
  refine nw_iconst (len := 0) l_X9_copyFrom_55 56 rfl c_0 ?_
  refine nw_bipush (len := 0) l_X9_copyFrom_56 58 rfl c_10 ?_
  refine nw_acopy l_X9_copyFrom_58 61 rfl (by decide) k_6 k_6 ⟨by decide, by decide, by decide, by decide, by decide⟩ ?_
  refine nw_aload_n l_X9_copyFrom_61 62 rfl rfl ?_
  refine nw_getA l_X9_copyFrom_62 65 rfl k_3 r_3_5 ?_
  refine nw_iconst (len := 0) l_X9_copyFrom_65 66 rfl c_0 ?_
  refine nw_aload_n l_X9_copyFrom_66 67 rfl rfl ?_
  refine nw_getA l_X9_copyFrom_67 70 rfl k_3 r_3_5 ?_
  refine nw_iconst (len := 0) l_X9_copyFrom_70 71 rfl c_0 ?_
  refine nw_bipush (len := 0) l_X9_copyFrom_71 73 rfl c_10 ?_
  refine nw_acopy l_X9_copyFrom_73 76 rfl (by decide) k_7 k_7 ⟨by decide, by decide, by decide, by decide, by decide⟩ ?_
  refine nw_aload_n l_X9_copyFrom_76 77 rfl rfl ?_
  refine nw_getA l_X9_copyFrom_77 80 rfl k_3 r_3_6 ?_
  refine nw_iconst (len := 0) l_X9_copyFrom_80 81 rfl c_0 ?_
  refine nw_aload_n l_X9_copyFrom_81 82 rfl rfl ?_
  refine nw_getA l_X9_copyFrom_82 85 rfl k_3 r_3_6 ?_
  refine nw_iconst (len := 0) l_X9_copyFrom_85 86 rfl c_0 ?_
  refine nw_bipush (len := 0) l_X9_copyFrom_86 88 rfl c_10 ?_
  refine nw_acopy l_X9_copyFrom_88 91 rfl (by decide) k_8 k_8 ⟨by decide, by decide, by decide, by decide, by decide⟩ ?_
  refine nw_return l_X9_copyFrom_91 rfl ?_
  exact h
theorem b_X9_dropChannel_0 {x1 : Int} (h : ((-2147483648 ≤ (J 3 1) - 1 ∧ (J 3 1) - 1 < 2147483648) ∧ NW sc d_X9_dropChannel D (12, [some (.inr (.inl (some 3))), none, some (.inl x1)], [], (nw_u J 3 1 ((J 3 1) - 1), L, W), c, sl) Qr Qx)) :
    NW sc d_X9_dropChannel D (0, [some (.inr (.inl (some 3))), some (.inl x1), none], [], (J, L, W), c, sl) Qr Qx := by
  refine nw_aload_n l_X9_dropChannel_0 1 rfl rfl ?_
  refine nw_dupA l_X9_dropChannel_1 2 rfl ?_
  refine nw_getI l_X9_dropChannel_2 5 rfl k_3 (v := J 3 1) rfl ?_
  refine nw_iconst (len := 0) l_X9_dropChannel_5 6 rfl c_1 ?_
  have o1 := h.1
  replace h := h.2
  refine nw_isub l_X9_dropChannel_6 7 rfl o1 ?_
  refine nw_putI l_X9_dropChannel_7 10 rfl k_3 ?_
  refine nw_iload_n l_X9_dropChannel_10 11 rfl rfl ?_
  refine nw_istore_n l_X9_dropChannel_11 12 rfl rfl (ls' := [some (.inr (.inl (some 3))), some (.inl x1), some (.inl x1)]) rfl ?_
  refine nw_drop (ls' := [some (.inr (.inl (some 3))), none, some (.inl x1)]) ⟨rfl, ⟨True.intro, ⟨rfl, True.intro⟩⟩⟩ ?_
  exact h
theorem b_X9_dropChannel_12 {x2 : Int} (h : ((J 3 1 ≤ x2 → Qr none (J, L, W)) ∧ (x2 < J 3 1 → ((-2147483648 ≤ x2 + 1 ∧ x2 + 1 < 2147483648) ∧ ((0 ≤ x2 + 1 ∧ x2 + 1 < 10) ∧ ((0 ≤ x2 ∧ x2 < 10) ∧ NW sc d_X9_dropChannel D (12, [some (.inr (.inl (some 3))), none, some (.inl (x2 + 1))], [], (nw_u (nw_u (nw_u (nw_u J 5 x2 (J 5 (x2 + 1))) 6 x2 (J 6 (x2 + 1))) 7 x2 (J 7 (x2 + 1))) 8 x2 (J 8 (x2 + 1)), L, W), c, sl) Qr Qx)))))) :
    NW sc d_X9_dropChannel D (12, [some (.inr (.inl (some 3))), none, some (.inl x2)], [], (J, L, W), c, sl) Qr Qx := by
  refine nw_iload_n l_X9_dropChannel_12 13 rfl rfl ?_
  refine nw_aload_n l_X9_dropChannel_13 14 rfl rfl ?_
  refine nw_getI l_X9_dropChannel_14 17 rfl k_3 (v := J 3 1) rfl ?_
  refine nw_ic_ge l_X9_dropChannel_17 20 rfl (fun q1 => ?_) (fun q1 => ?_)
  · replace h := h.1 q1
    refine nw_return l_X9_dropChannel_82 rfl ?_
    exact h
  · replace h := h.2 q1
    refine nw_aload_n l_X9_dropChannel_20 21 rfl rfl ?_
    refine nw_getA l_X9_dropChannel_21 24 rfl k_3 r_3_3 ?_
    refine nw_iload_n l_X9_dropChannel_24 25 rfl rfl ?_
    refine nw_aload_n l_X9_dropChannel_25 26 rfl rfl ?_
    refine nw_getA l_X9_dropChannel_26 29 rfl k_3 r_3_3 ?_
    refine nw_iload_n l_X9_dropChannel_29 30 rfl rfl ?_
    refine nw_iconst (len := 0) l_X9_dropChannel_30 31 rfl c_1 ?_
    have o2 := h.1
    replace h := h.2
    refine nw_iadd l_X9_dropChannel_31 32 rfl o2 ?_
    have o3 := h.1
    replace h := h.2
    refine nw_iald l_X9_dropChannel_32 33 rfl k_5 o3 (v := J 5 (x2 + 1)) rfl ?_
    have o4 := h.1
    replace h := h.2
    refine nw_iast l_X9_dropChannel_33 34 rfl k_5 o4 ?_
    refine nw_aload_n l_X9_dropChannel_34 35 rfl rfl ?_
    refine nw_getA l_X9_dropChannel_35 38 rfl k_3 r_3_4 ?_
    refine nw_iload_n l_X9_dropChannel_38 39 rfl rfl ?_
    refine nw_aload_n l_X9_dropChannel_39 40 rfl rfl ?_
    refine nw_getA l_X9_dropChannel_40 43 rfl k_3 r_3_4 ?_
    refine nw_iload_n l_X9_dropChannel_43 44 rfl rfl ?_
    refine nw_iconst (len := 0) l_X9_dropChannel_44 45 rfl c_1 ?_
    refine nw_iadd l_X9_dropChannel_45 46 rfl o2 ?_
    refine nw_iald l_X9_dropChannel_46 47 rfl k_6 o3 (v := J 6 (x2 + 1)) (show nw_u J 5 x2 (J 5 (x2 + 1)) 6 (x2 + 1) = J 6 (x2 + 1) from (nw_uN (a := 5) (b := 6) (by decide))) ?_
    refine nw_iast l_X9_dropChannel_47 48 rfl k_6 o4 ?_
    refine nw_aload_n l_X9_dropChannel_48 49 rfl rfl ?_
    refine nw_getA l_X9_dropChannel_49 52 rfl k_3 r_3_5 ?_
    refine nw_iload_n l_X9_dropChannel_52 53 rfl rfl ?_
    refine nw_aload_n l_X9_dropChannel_53 54 rfl rfl ?_
    refine nw_getA l_X9_dropChannel_54 57 rfl k_3 r_3_5 ?_
    refine nw_iload_n l_X9_dropChannel_57 58 rfl rfl ?_
    refine nw_iconst (len := 0) l_X9_dropChannel_58 59 rfl c_1 ?_
    refine nw_iadd l_X9_dropChannel_59 60 rfl o2 ?_
    refine nw_iald l_X9_dropChannel_60 61 rfl k_7 o3 (v := J 7 (x2 + 1)) (show nw_u (nw_u J 5 x2 (J 5 (x2 + 1))) 6 x2 (J 6 (x2 + 1)) 7 (x2 + 1) = J 7 (x2 + 1) from (nw_uN (a := 6) (b := 7) (by decide)).trans (nw_uN (a := 5) (b := 7) (by decide))) ?_
    refine nw_iast l_X9_dropChannel_61 62 rfl k_7 o4 ?_
    refine nw_aload_n l_X9_dropChannel_62 63 rfl rfl ?_
    refine nw_getA l_X9_dropChannel_63 66 rfl k_3 r_3_6 ?_
    refine nw_iload_n l_X9_dropChannel_66 67 rfl rfl ?_
    refine nw_aload_n l_X9_dropChannel_67 68 rfl rfl ?_
    refine nw_getA l_X9_dropChannel_68 71 rfl k_3 r_3_6 ?_
    refine nw_iload_n l_X9_dropChannel_71 72 rfl rfl ?_
    refine nw_iconst (len := 0) l_X9_dropChannel_72 73 rfl c_1 ?_
    refine nw_iadd l_X9_dropChannel_73 74 rfl o2 ?_
    refine nw_iald l_X9_dropChannel_74 75 rfl k_8 o3 (v := J 8 (x2 + 1)) (show nw_u (nw_u (nw_u J 5 x2 (J 5 (x2 + 1))) 6 x2 (J 6 (x2 + 1))) 7 x2 (J 7 (x2 + 1)) 8 (x2 + 1) = J 8 (x2 + 1) from (nw_uN (a := 7) (b := 8) (by decide)).trans ((nw_uN (a := 6) (b := 8) (by decide)).trans (nw_uN (a := 5) (b := 8) (by decide)))) ?_
    refine nw_iast l_X9_dropChannel_75 76 rfl k_8 o4 ?_
    refine nw_iinc l_X9_dropChannel_76 79 rfl 1 (by decide) rfl rfl o2 (ls' := [some (.inr (.inl (some 3))), none, some (.inl (x2 + 1))]) rfl ?_
    refine nw_goto l_X9_dropChannel_79 ?_
    exact h
theorem b_X9_findChannel_0 {x1 : Int} {x2 : Int} (h : NW sc d_X9_findChannel D (2, [some (.inr (.inl (some 3))), some (.inl x1), some (.inl x2), some (.inl 0)], [], (J, L, W), c, sl) Qr Qx) :
    NW sc d_X9_findChannel D (0, [some (.inr (.inl (some 3))), some (.inl x1), some (.inl x2), none], [], (J, L, W), c, sl) Qr Qx := by
  refine nw_iconst (len := 0) l_X9_findChannel_0 1 rfl c_0 ?_
  refine nw_istore_n l_X9_findChannel_1 2 rfl rfl (ls' := [some (.inr (.inl (some 3))), some (.inl x1), some (.inl x2), some (.inl 0)]) rfl ?_
  exact h
theorem b_X9_findChannel_2 {x1 : Int} {x2 : Int} {x3 : Int} (hD : 1 ≤ D) (h : ((J 3 1 ≤ x3 → Qr (some (.inl (-1))) (J, L, W)) ∧ (x3 < J 3 1 → ((x1 = x2 → ((-2147483648 ≤ x3 + 1 ∧ x3 + 1 < 2147483648) ∧ NW sc d_X9_findChannel D (2, [some (.inr (.inl (some 3))), some (.inl x1), some (.inl x2), some (.inl (x3 + 1))], [], (J, L, W), c, sl) Qr Qx)) ∧ (¬ x1 = x2 → ((0 ≤ x3 ∧ x3 < 10) ∧ ((¬ J 5 x3 = x1 → ((¬ J 6 x3 = x1 → ((¬ (-1) = x2 → ((-2147483648 ≤ x3 + 1 ∧ x3 + 1 < 2147483648) ∧ NW sc d_X9_findChannel D (2, [some (.inr (.inl (some 3))), some (.inl x1), some (.inl x2), some (.inl (x3 + 1))], [], (J, L, W), c, sl) Qr Qx)) ∧ ((-1) = x2 → Qr (some (.inl x3)) (J, L, W)))) ∧ (J 6 x3 = x1 → ((¬ J 5 x3 = x2 → ((-2147483648 ≤ x3 + 1 ∧ x3 + 1 < 2147483648) ∧ NW sc d_X9_findChannel D (2, [some (.inr (.inl (some 3))), some (.inl x1), some (.inl x2), some (.inl (x3 + 1))], [], (J, L, W), c, sl) Qr Qx)) ∧ (J 5 x3 = x2 → Qr (some (.inl x3)) (J, L, W)))))) ∧ (J 5 x3 = x1 → ((¬ J 6 x3 = x2 → ((-2147483648 ≤ x3 + 1 ∧ x3 + 1 < 2147483648) ∧ NW sc d_X9_findChannel D (2, [some (.inr (.inl (some 3))), some (.inl x1), some (.inl x2), some (.inl (x3 + 1))], [], (J, L, W), c, sl) Qr Qx)) ∧ (J 6 x3 = x2 → Qr (some (.inl x3)) (J, L, W))))))))))) :
    NW sc d_X9_findChannel D (2, [some (.inr (.inl (some 3))), some (.inl x1), some (.inl x2), some (.inl x3)], [], (J, L, W), c, sl) Qr Qx := by
  refine nw_iload_n l_X9_findChannel_2 3 rfl rfl ?_
  refine nw_aload_n l_X9_findChannel_3 4 rfl rfl ?_
  refine nw_getI l_X9_findChannel_4 7 rfl k_3 (v := J 3 1) rfl ?_
  refine nw_ic_ge l_X9_findChannel_7 10 rfl (fun q1 => ?_) (fun q1 => ?_)
  · replace h := h.1 q1
    refine nw_iconst (len := 0) l_X9_findChannel_33 34 rfl c_n1 ?_
    refine nw_ireturn l_X9_findChannel_34 rfl ?_
    exact h
  · replace h := h.2 q1
    refine nw_iload_n l_X9_findChannel_10 11 rfl rfl ?_
    refine nw_iload_n l_X9_findChannel_11 12 rfl rfl ?_
    refine nw_ic_eq l_X9_findChannel_12 15 rfl (fun q2 => ?_) (fun q2 => ?_)
    · replace h := h.1 q2
      have o3 := h.1
      replace h := h.2
      refine nw_iinc l_X9_findChannel_27 30 rfl 1 (by decide) rfl rfl o3 (ls' := [some (.inr (.inl (some 3))), some (.inl x1), some (.inl x2), some (.inl (x3 + 1))]) rfl ?_
      refine nw_goto l_X9_findChannel_30 ?_
      exact h
    · replace h := h.2 q2
      refine nw_aload_n l_X9_findChannel_15 16 rfl rfl ?_
      refine nw_iload_n l_X9_findChannel_16 17 rfl rfl ?_
      refine nw_iload_n l_X9_findChannel_17 18 rfl rfl ?_
      refine nw_call0 0 3 l_X9_findChannel_18 rfl rfl g_X9_farEnd (Nat.lt_of_lt_of_le (by decide) hD) rfl (Or.inl ⟨_, rfl, k_3⟩) (ls' := [some (.inr (.inl (some 3))), some (.inl x3), some (.inl x1)]) rfl (st' := []) rfl 21 rfl ?_
      refine nw_aload_n l_X9_farEnd_0 1 rfl rfl ?_
      refine nw_getA l_X9_farEnd_1 4 rfl k_3 r_3_3 ?_
      refine nw_iload_n l_X9_farEnd_4 5 rfl rfl ?_
      have o4 := h.1
      replace h := h.2
      refine nw_iald l_X9_farEnd_5 6 rfl k_5 o4 (v := J 5 x3) rfl ?_
      refine nw_iload_n l_X9_farEnd_6 7 rfl rfl ?_
      refine nw_ic_ne l_X9_farEnd_7 10 rfl (fun q5 => ?_) (fun q5 => ?_)
      · replace h := h.1 q5
        refine nw_aload_n l_X9_farEnd_17 18 rfl rfl ?_
        refine nw_getA l_X9_farEnd_18 21 rfl k_3 r_3_4 ?_
        refine nw_iload_n l_X9_farEnd_21 22 rfl rfl ?_
        refine nw_iald l_X9_farEnd_22 23 rfl k_6 o4 (v := J 6 x3) rfl ?_
        refine nw_iload_n l_X9_farEnd_23 24 rfl rfl ?_
        refine nw_ic_ne l_X9_farEnd_24 27 rfl (fun q6 => ?_) (fun q6 => ?_)
        · replace h := h.1 q6
          refine nw_iconst (len := 0) l_X9_farEnd_36 37 rfl c_n1 ?_
          refine nw_ireturn l_X9_farEnd_37 rfl ?_
          refine nw_iload_n l_X9_findChannel_21 22 rfl rfl ?_
          refine nw_ic_ne l_X9_findChannel_22 25 rfl (fun q7 => ?_) (fun q7 => ?_)
          · replace h := h.1 q7
            have o8 := h.1
            replace h := h.2
            refine nw_iinc l_X9_findChannel_27 30 rfl 1 (by decide) rfl rfl o8 (ls' := [some (.inr (.inl (some 3))), some (.inl x1), some (.inl x2), some (.inl (x3 + 1))]) rfl ?_
            refine nw_goto l_X9_findChannel_30 ?_
            exact h
          · replace h := h.2 q7
            refine nw_iload_n l_X9_findChannel_25 26 rfl rfl ?_
            refine nw_ireturn l_X9_findChannel_26 rfl ?_
            exact h
        · replace h := h.2 q6
          refine nw_aload_n l_X9_farEnd_27 28 rfl rfl ?_
          refine nw_getA l_X9_farEnd_28 31 rfl k_3 r_3_3 ?_
          refine nw_iload_n l_X9_farEnd_31 32 rfl rfl ?_
          refine nw_iald l_X9_farEnd_32 33 rfl k_5 o4 (v := J 5 x3) rfl ?_
          refine nw_goto l_X9_farEnd_33 ?_
          refine nw_ireturn l_X9_farEnd_37 rfl ?_
          refine nw_iload_n l_X9_findChannel_21 22 rfl rfl ?_
          refine nw_ic_ne l_X9_findChannel_22 25 rfl (fun q9 => ?_) (fun q9 => ?_)
          · replace h := h.1 q9
            have o10 := h.1
            replace h := h.2
            refine nw_iinc l_X9_findChannel_27 30 rfl 1 (by decide) rfl rfl o10 (ls' := [some (.inr (.inl (some 3))), some (.inl x1), some (.inl x2), some (.inl (x3 + 1))]) rfl ?_
            refine nw_goto l_X9_findChannel_30 ?_
            exact h
          · replace h := h.2 q9
            refine nw_iload_n l_X9_findChannel_25 26 rfl rfl ?_
            refine nw_ireturn l_X9_findChannel_26 rfl ?_
            exact h
      · replace h := h.2 q5
        refine nw_aload_n l_X9_farEnd_10 11 rfl rfl ?_
        refine nw_getA l_X9_farEnd_11 14 rfl k_3 r_3_4 ?_
        refine nw_iload_n l_X9_farEnd_14 15 rfl rfl ?_
        refine nw_iald l_X9_farEnd_15 16 rfl k_6 o4 (v := J 6 x3) rfl ?_
        refine nw_ireturn l_X9_farEnd_16 rfl ?_
        refine nw_iload_n l_X9_findChannel_21 22 rfl rfl ?_
        refine nw_ic_ne l_X9_findChannel_22 25 rfl (fun q11 => ?_) (fun q11 => ?_)
        · replace h := h.1 q11
          have o12 := h.1
          replace h := h.2
          refine nw_iinc l_X9_findChannel_27 30 rfl 1 (by decide) rfl rfl o12 (ls' := [some (.inr (.inl (some 3))), some (.inl x1), some (.inl x2), some (.inl (x3 + 1))]) rfl ?_
          refine nw_goto l_X9_findChannel_30 ?_
          exact h
        · replace h := h.2 q11
          refine nw_iload_n l_X9_findChannel_25 26 rfl rfl ?_
          refine nw_ireturn l_X9_findChannel_26 rfl ?_
          exact h
end

