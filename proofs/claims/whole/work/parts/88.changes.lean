/-! the law: changes -/
section
variable {sc : Nat × (Nat → Int32)} {D : Nat} {J L : Nat → Int → Int} {W : nw_W} {c sl : Nat} {Qr : nw_QR} {Qx : nw_QX} {g : Int → Int} {B : Int}
section
variable {n v : Int} {G : Nat → Int → Int} {S : Int → Int}
theorem t_L_addCrater {x : Int} (h : sp_cA J L W g n G v S B) (hB : B + 200 ≤ 4000000) (hD : 5 ≤ D) (hc : 1 ≤ c) (hs : 6 ≤ sl)
    (hF : ∀ e r, sp_of 0 g x 0 0 0 e r → ∀ J' L', sp_jf J J' → sp_jf L L' → J' 1 0 = (if r = 0 then J 1 0 else r) → sp_cA J' L' W g n G v S B → ∀ n2, W.2.2.2.2 ≤ n2 → Qr (some (.inl (sp_oz 0 e))) (J', L', nw_top W n2))
    (hS : sp_oo 0 g x 0 0 0 → ∀ J' L' (W' : nw_W), sp_jf J J' → sp_jf L L' → W'.1 = W.1 → W'.2.2 = W.2.2 → J' 1 0 = J 1 0 → sp_cA J' L' W' (sp_og 0 g x 0 0 0) (if n = 8 then 8 else n + 1) (sp_psh n G g) v S (B + 200) → Qr (some (.inl 0)) (J', nw_u L' 314 0 (sp_ov 0 g x 0), W')) : NW sc d_L_addCrater D (0, [some (.inr (.inl (some 0))), some (.inl x), some (.inr (.inl (some 314))), none], [], (J, L, W), c, sl) Qr Qx := by
  refine b_L_addCrater_0 hD hc hs (t_X11_addCrater h hB (by decide) (by decide) (by decide) (fun e r hf J1 L1 j1 l1 r1 c1 n2 h2 => ?_) (fun ho J1 L1 W1 j1 l1 w1 w2 r1 c1 => b_L_addCrater_7 ⟨by decide, hS ho J1 L1 W1 j1 l1 w1 w2 r1 c1⟩))
  have he : e = -2 ∨ e = -3 := by
    have hf : r = 0 ∧ sp_fCrater g x e := hf
    unfold sp_fCrater at hf
    omega
  rcases he with rfl | rfl
  · exact hF (-2) r hf J1 L1 j1 l1 r1 c1 n2 h2
  · exact hF (-3) r hf J1 L1 j1 l1 r1 c1 n2 h2
theorem t_L_addChannel {x y z w : Int} (h : sp_cA J L W g n G v S B) (hB : B + 200 ≤ 4000000) (hD : 5 ≤ D) (hc : 1 ≤ c) (hs : 6 ≤ sl)
    (hF : ∀ e r, sp_of 1 g x y z w e r → ∀ J' L', sp_jf J J' → sp_jf L L' → J' 1 0 = (if r = 0 then J 1 0 else r) → sp_cA J' L' W g n G v S B → ∀ n2, W.2.2.2.2 ≤ n2 → Qr (some (.inl (sp_oz 1 e))) (J', L', nw_top W n2))
    (hS : sp_oo 1 g x y z w → ∀ J' L' (W' : nw_W), sp_jf J J' → sp_jf L L' → W'.1 = W.1 → W'.2.2 = W.2.2 → J' 1 0 = J 1 0 → sp_cA J' L' W' (sp_og 1 g x y z w) (if n = 8 then 8 else n + 1) (sp_psh n G g) v S (B + 200) → Qr (some (.inl 0)) (J', nw_u L' 314 0 (sp_ov 1 g x y), W')) : NW sc d_L_addChannel D (0, [some (.inr (.inl (some 0))), some (.inl x), some (.inl y), some (.inl z), some (.inl w), some (.inr (.inl (some 314))), none], [], (J, L, W), c, sl) Qr Qx := by
  refine b_L_addChannel_0 hD hc hs (t_X11_addChannel h hB (by decide) (by decide) (by decide) (fun e r hf J1 L1 j1 l1 r1 c1 n2 h2 => ?_) (fun ho J1 L1 W1 j1 l1 w1 w2 r1 c1 => b_L_addChannel_12 ⟨by decide, hS ho J1 L1 W1 j1 l1 w1 w2 r1 c1⟩))
  have he : e = -1 ∨ e = -2 ∨ e = -3 := by
    have hf : r = 0 ∧ sp_fChannel g x y z w e := hf
    unfold sp_fChannel at hf
    omega
  rcases he with rfl | rfl | rfl
  · exact hF (-1) r hf J1 L1 j1 l1 r1 c1 n2 h2
  · exact hF (-2) r hf J1 L1 j1 l1 r1 c1 n2 h2
  · exact hF (-3) r hf J1 L1 j1 l1 r1 c1 n2 h2
theorem t_L_addFerry {x y z : Int} (h : sp_cA J L W g n G v S B) (hB : B + 200 ≤ 4000000) (hD : 5 ≤ D) (hc : 1 ≤ c) (hs : 6 ≤ sl)
    (hF : ∀ e r, sp_of 2 g x y z 0 e r → ∀ J' L', sp_jf J J' → sp_jf L L' → J' 1 0 = (if r = 0 then J 1 0 else r) → sp_cA J' L' W g n G v S B → ∀ n2, W.2.2.2.2 ≤ n2 → Qr (some (.inl (sp_oz 2 e))) (J', L', nw_top W n2))
    (hS : sp_oo 2 g x y z 0 → ∀ J' L' (W' : nw_W), sp_jf J J' → sp_jf L L' → W'.1 = W.1 → W'.2.2 = W.2.2 → J' 1 0 = J 1 0 → sp_cA J' L' W' (sp_og 2 g x y z 0) (if n = 8 then 8 else n + 1) (sp_psh n G g) v S (B + 200) → Qr (some (.inl 0)) (J', nw_u L' 314 0 (sp_ov 2 g x y), W')) : NW sc d_L_addFerry D (0, [some (.inr (.inl (some 0))), some (.inl x), some (.inl y), some (.inl z), some (.inr (.inl (some 314))), none], [], (J, L, W), c, sl) Qr Qx := by
  refine b_L_addFerry_0 hD hc hs (t_X11_addFerry h hB (by decide) (by decide) (by decide) (fun e r hf J1 L1 j1 l1 r1 c1 n2 h2 => ?_) (fun ho J1 L1 W1 j1 l1 w1 w2 r1 c1 => b_L_addFerry_10 ⟨by decide, hS ho J1 L1 W1 j1 l1 w1 w2 r1 c1⟩))
  have he : e = -1 ∨ e = -2 ∨ e = -3 := by
    have hf : r = 0 ∧ sp_fFerry g x y z e := hf
    unfold sp_fFerry at hf
    omega
  rcases he with rfl | rfl | rfl
  · exact hF (-1) r hf J1 L1 j1 l1 r1 c1 n2 h2
  · exact hF (-2) r hf J1 L1 j1 l1 r1 c1 n2 h2
  · exact hF (-3) r hf J1 L1 j1 l1 r1 c1 n2 h2
theorem t_L_addMoon {x y z w : Int} (h : sp_cA J L W g n G v S B) (hB : B + 200 ≤ 4000000) (hD : 5 ≤ D) (hc : 1 ≤ c) (hs : 6 ≤ sl)
    (hF : ∀ e r, sp_of 3 g x y z w e r → ∀ J' L', sp_jf J J' → sp_jf L L' → J' 1 0 = (if r = 0 then J 1 0 else r) → sp_cA J' L' W g n G v S B → ∀ n2, W.2.2.2.2 ≤ n2 → Qr (some (.inl (sp_oz 3 e))) (J', L', nw_top W n2))
    (hS : sp_oo 3 g x y z w → ∀ J' L' (W' : nw_W), sp_jf J J' → sp_jf L L' → W'.1 = W.1 → W'.2.2 = W.2.2 → J' 1 0 = J 1 0 → sp_cA J' L' W' (sp_og 3 g x y z w) (if n = 8 then 8 else n + 1) (sp_psh n G g) v S (B + 200) → Qr (some (.inl 0)) (J', nw_u L' 314 0 (sp_ov 3 g x y), W')) : NW sc d_L_addMoon D (0, [some (.inr (.inl (some 0))), some (.inl x), some (.inl y), some (.inl z), some (.inl w), some (.inr (.inl (some 314))), none], [], (J, L, W), c, sl) Qr Qx := by
  refine b_L_addMoon_0 hD hc hs (t_X11_addMoon h hB (by decide) (by decide) (by decide) (fun e r hf J1 L1 j1 l1 r1 c1 n2 h2 => ?_) (fun ho J1 L1 W1 j1 l1 w1 w2 r1 c1 => b_L_addMoon_12 ⟨by decide, hS ho J1 L1 W1 j1 l1 w1 w2 r1 c1⟩))
  have he : e = -1 ∨ e = -2 ∨ e = -3 := by
    have hf : r = 0 ∧ sp_fMoon g x y z w e := hf
    unfold sp_fMoon at hf
    omega
  rcases he with rfl | rfl | rfl
  · exact hF (-1) r hf J1 L1 j1 l1 r1 c1 n2 h2
  · exact hF (-2) r hf J1 L1 j1 l1 r1 c1 n2 h2
  · exact hF (-3) r hf J1 L1 j1 l1 r1 c1 n2 h2
theorem t_L_sail {x y : Int} (h : sp_cA J L W g n G v S B) (hB : B + 200 ≤ 4000000) (hD : 5 ≤ D) (hc : 1 ≤ c) (hs : 6 ≤ sl)
    (hF : ∀ e r, sp_of 4 g x y 0 0 e r → ∀ J' L', sp_jf J J' → sp_jf L L' → J' 1 0 = (if r = 0 then J 1 0 else r) → sp_cA J' L' W g n G v S B → ∀ n2, W.2.2.2.2 ≤ n2 → Qr (some (.inl (sp_oz 4 e))) (J', L', nw_top W n2))
    (hS : sp_oo 4 g x y 0 0 → ∀ J' L' (W' : nw_W), sp_jf J J' → sp_jf L L' → W'.1 = W.1 → W'.2.2 = W.2.2 → J' 1 0 = J 1 0 → sp_cA J' L' W' (sp_og 4 g x y 0 0) (if n = 8 then 8 else n + 1) (sp_psh n G g) v S (B + 200) → Qr (some (.inl 0)) (J', nw_u L' 314 0 (sp_ov 4 g x y), W')) : NW sc d_L_sail D (0, [some (.inr (.inl (some 0))), some (.inl x), some (.inl y), some (.inr (.inl (some 314))), none], [], (J, L, W), c, sl) Qr Qx := by
  refine b_L_sail_0 hD hc hs (t_X11_sail h hB (by decide) (by decide) (by decide) (fun e r hf J1 L1 j1 l1 r1 c1 n2 h2 => ?_) (fun ho J1 L1 W1 j1 l1 w1 w2 r1 c1 => b_L_sail_8 ⟨by decide, hS ho J1 L1 W1 j1 l1 w1 w2 r1 c1⟩))
  have he : e = -1 ∨ e = -3 ∨ e = -4 := by
    have hf : sp_fSail g x y e r := hf
    unfold sp_fSail at hf
    omega
  rcases he with rfl | rfl | rfl
  · exact hF (-1) r hf J1 L1 j1 l1 r1 c1 n2 h2
  · exact hF (-3) r hf J1 L1 j1 l1 r1 c1 n2 h2
  · exact hF (-4) r hf J1 L1 j1 l1 r1 c1 n2 h2
theorem t_L_board {x y : Int} (h : sp_cA J L W g n G v S B) (hB : B + 200 ≤ 4000000) (hD : 5 ≤ D) (hc : 1 ≤ c) (hs : 6 ≤ sl)
    (hF : ∀ e r, sp_of 5 g x y 0 0 e r → ∀ J' L', sp_jf J J' → sp_jf L L' → J' 1 0 = (if r = 0 then J 1 0 else r) → sp_cA J' L' W g n G v S B → ∀ n2, W.2.2.2.2 ≤ n2 → Qr (some (.inl (sp_oz 5 e))) (J', L', nw_top W n2))
    (hS : sp_oo 5 g x y 0 0 → ∀ J' L' (W' : nw_W), sp_jf J J' → sp_jf L L' → W'.1 = W.1 → W'.2.2 = W.2.2 → J' 1 0 = J 1 0 → sp_cA J' L' W' (sp_og 5 g x y 0 0) (if n = 8 then 8 else n + 1) (sp_psh n G g) v S (B + 200) → Qr (some (.inl 0)) (J', nw_u L' 314 0 (sp_ov 5 g x y), W')) : NW sc d_L_board D (0, [some (.inr (.inl (some 0))), some (.inl x), some (.inl y), some (.inr (.inl (some 314))), none], [], (J, L, W), c, sl) Qr Qx := by
  refine b_L_board_0 hD hc hs (t_X11_board h hB (by decide) (by decide) (by decide) (fun e r hf J1 L1 j1 l1 r1 c1 n2 h2 => ?_) (fun ho J1 L1 W1 j1 l1 w1 w2 r1 c1 => b_L_board_8 ⟨by decide, hS ho J1 L1 W1 j1 l1 w1 w2 r1 c1⟩))
  have he : e = -1 ∨ e = -5 ∨ e = -3 ∨ e = -4 := by
    have hf : sp_fBoard g x y e r := hf
    unfold sp_fBoard at hf
    omega
  rcases he with rfl | rfl | rfl | rfl
  · exact hF (-1) r hf J1 L1 j1 l1 r1 c1 n2 h2
  · exact hF (-5) r hf J1 L1 j1 l1 r1 c1 n2 h2
  · exact hF (-3) r hf J1 L1 j1 l1 r1 c1 n2 h2
  · exact hF (-4) r hf J1 L1 j1 l1 r1 c1 n2 h2
theorem t_L_land {x : Int} (h : sp_cA J L W g n G v S B) (hB : B + 200 ≤ 4000000) (hD : 5 ≤ D) (hc : 1 ≤ c) (hs : 6 ≤ sl)
    (hF : ∀ e r, sp_of 6 g x 0 0 0 e r → ∀ J' L', sp_jf J J' → sp_jf L L' → J' 1 0 = (if r = 0 then J 1 0 else r) → sp_cA J' L' W g n G v S B → ∀ n2, W.2.2.2.2 ≤ n2 → Qr (some (.inl (sp_oz 6 e))) (J', L', nw_top W n2))
    (hS : sp_oo 6 g x 0 0 0 → ∀ J' L' (W' : nw_W), sp_jf J J' → sp_jf L L' → W'.1 = W.1 → W'.2.2 = W.2.2 → J' 1 0 = J 1 0 → sp_cA J' L' W' (sp_og 6 g x 0 0 0) (if n = 8 then 8 else n + 1) (sp_psh n G g) v S (B + 200) → Qr (some (.inl 0)) (J', nw_u L' 314 0 (sp_ov 6 g x 0), W')) : NW sc d_L_land D (0, [some (.inr (.inl (some 0))), some (.inl x), some (.inr (.inl (some 314))), none], [], (J, L, W), c, sl) Qr Qx := by
  refine b_L_land_0 hD hc hs (t_X11_land h hB (by decide) (by decide) (by decide) (fun e r hf J1 L1 j1 l1 r1 c1 n2 h2 => ?_) (fun ho J1 L1 W1 j1 l1 w1 w2 r1 c1 => b_L_land_7 ⟨by decide, hS ho J1 L1 W1 j1 l1 w1 w2 r1 c1⟩))
  have he : e = -5 ∨ e = -3 ∨ e = -4 := by
    have hf : r = 0 ∧ sp_fLand g x e := hf
    unfold sp_fLand at hf
    omega
  rcases he with rfl | rfl | rfl
  · exact hF (-5) r hf J1 L1 j1 l1 r1 c1 n2 h2
  · exact hF (-3) r hf J1 L1 j1 l1 r1 c1 n2 h2
  · exact hF (-4) r hf J1 L1 j1 l1 r1 c1 n2 h2
theorem t_L_loadBest {x : Int} (h : sp_cA J L W g n G v S B) (hB : B + 200 ≤ 4000000) (hD : 16 ≤ D) (hc : 1 ≤ c) (hs : 6 ≤ sl)
    (hF : ∀ e r, sp_of 7 g x 0 0 0 e r → ∀ J' L', sp_jf J J' → sp_jf L L' → J' 1 0 = (if r = 0 then J 1 0 else r) → sp_cA J' L' W g n G v S B → ∀ n2, W.2.2.2.2 ≤ n2 → Qr (some (.inl (sp_oz 7 e))) (J', L', nw_top W n2))
    (hS : sp_oo 7 g x 0 0 0 → ∀ J' L' (W' : nw_W), sp_jf J J' → sp_jf L L' → W'.1 = W.1 → W'.2.2 = W.2.2 → J' 1 0 = J 1 0 → sp_cA J' L' W' (sp_og 7 g x 0 0 0) (if n = 8 then 8 else n + 1) (sp_psh n G g) v S (B + 200) → Qr (some (.inl 0)) (J', nw_u L' 314 0 (sp_ov 7 g x 0), W')) : NW sc d_L_loadBest D (0, [some (.inr (.inl (some 0))), some (.inl x), some (.inr (.inl (some 314))), none], [], (J, L, W), c, sl) Qr Qx := by
  refine b_L_loadBest_0 hD hc hs (t_X11_loadBest h hB (by decide) (by decide) (by decide) (fun e r hf J1 L1 j1 l1 r1 c1 n2 h2 => ?_) (fun ho J1 L1 W1 j1 l1 w1 w2 r1 c1 => b_L_loadBest_7 ⟨by decide, hS ho J1 L1 W1 j1 l1 w1 w2 r1 c1⟩))
  have he : e = -1 ∨ e = -4 := by
    have hf : r = 0 ∧ sp_fLoad g x e := hf
    unfold sp_fLoad at hf
    omega
  rcases he with rfl | rfl
  · exact hF (-1) r hf J1 L1 j1 l1 r1 c1 n2 h2
  · exact hF (-4) r hf J1 L1 j1 l1 r1 c1 n2 h2
theorem t_L_rescue {x : Int} (h : sp_cA J L W g n G v S B) (hB : B + 200 ≤ 4000000) (hD : 5 ≤ D) (hc : 1 ≤ c) (hs : 6 ≤ sl)
    (hF : ∀ e r, sp_of 8 g x 0 0 0 e r → ∀ J' L', sp_jf J J' → sp_jf L L' → J' 1 0 = (if r = 0 then J 1 0 else r) → sp_cA J' L' W g n G v S B → ∀ n2, W.2.2.2.2 ≤ n2 → Qr (some (.inl (sp_oz 8 e))) (J', L', nw_top W n2))
    (hS : sp_oo 8 g x 0 0 0 → ∀ J' L' (W' : nw_W), sp_jf J J' → sp_jf L L' → W'.1 = W.1 → W'.2.2 = W.2.2 → J' 1 0 = J 1 0 → sp_cA J' L' W' (sp_og 8 g x 0 0 0) (if n = 8 then 8 else n + 1) (sp_psh n G g) v S (B + 200) → Qr (some (.inl 0)) (J', nw_u L' 314 0 (sp_ov 8 g x 0), W')) : NW sc d_L_rescue D (0, [some (.inr (.inl (some 0))), some (.inl x), some (.inr (.inl (some 314))), none], [], (J, L, W), c, sl) Qr Qx := by
  refine b_L_rescue_0 hD hc hs (t_X11_rescue h hB (by decide) (by decide) (by decide) (fun e r hf J1 L1 j1 l1 r1 c1 n2 h2 => ?_) (fun ho J1 L1 W1 j1 l1 w1 w2 r1 c1 => b_L_rescue_7 ⟨by decide, hS ho J1 L1 W1 j1 l1 w1 w2 r1 c1⟩))
  have he : e = -1 ∨ e = -3 := by
    have hf : r = 0 ∧ sp_fRescue g x e := hf
    unfold sp_fRescue at hf
    omega
  rcases he with rfl | rfl
  · exact hF (-1) r hf J1 L1 j1 l1 r1 c1 n2 h2
  · exact hF (-3) r hf J1 L1 j1 l1 r1 c1 n2 h2
theorem t_L_pass {x : Int} (h : sp_cA J L W g n G v S B) (hB : B + 200 ≤ 4000000) (hD : 6 ≤ D) (hc : 1 ≤ c) (hs : 6 ≤ sl)
    (hF : ∀ e r, sp_of 9 g x 0 0 0 e r → ∀ J' L', sp_jf J J' → sp_jf L L' → J' 1 0 = (if r = 0 then J 1 0 else r) → sp_cA J' L' W g n G v S B → ∀ n2, W.2.2.2.2 ≤ n2 → Qr (some (.inl (sp_oz 9 e))) (J', L', nw_top W n2))
    (hS : sp_oo 9 g x 0 0 0 → ∀ J' L' (W' : nw_W), sp_jf J J' → sp_jf L L' → W'.1 = W.1 → W'.2.2 = W.2.2 → J' 1 0 = J 1 0 → sp_cA J' L' W' (sp_og 9 g x 0 0 0) (if n = 8 then 8 else n + 1) (sp_psh n G g) v S (B + 200) → Qr (some (.inl 0)) (J', nw_u L' 314 0 (sp_ov 9 g x 0), W')) : NW sc d_L_pass D (0, [some (.inr (.inl (some 0))), some (.inl x), some (.inr (.inl (some 314))), none], [], (J, L, W), c, sl) Qr Qx := by
  refine b_L_pass_0 hD hc hs (t_X11_pass h hB (by decide) (by decide) (by decide) (fun e r hf J1 L1 j1 l1 r1 c1 n2 h2 => ?_) (fun ho J1 L1 W1 j1 l1 w1 w2 r1 c1 => b_L_pass_7 ⟨by decide, hS ho J1 L1 W1 j1 l1 w1 w2 r1 c1⟩))
  have he : e = -2 := by
    have hf : r = 0 ∧ e = -2 ∧ (x < 1 ∨ 48 < x) := hf
    omega
  subst he
  exact hF (-2) r hf J1 L1 j1 l1 r1 c1 n2 h2
theorem t_L_removeChannel {x : Int} (h : sp_cA J L W g n G v S B) (hB : B + 200 ≤ 4000000) (hD : 5 ≤ D) (hc : 1 ≤ c) (hs : 6 ≤ sl)
    (hF : ∀ e r, sp_of 10 g x 0 0 0 e r → ∀ J' L', sp_jf J J' → sp_jf L L' → J' 1 0 = (if r = 0 then J 1 0 else r) → sp_cA J' L' W g n G v S B → ∀ n2, W.2.2.2.2 ≤ n2 → Qr (some (.inl (sp_oz 10 e))) (J', L', nw_top W n2))
    (hS : sp_oo 10 g x 0 0 0 → ∀ J' L' (W' : nw_W), sp_jf J J' → sp_jf L L' → W'.1 = W.1 → W'.2.2 = W.2.2 → J' 1 0 = J 1 0 → sp_cA J' L' W' (sp_og 10 g x 0 0 0) (if n = 8 then 8 else n + 1) (sp_psh n G g) v S (B + 200) → Qr (some (.inl 0)) (J', nw_u L' 314 0 (sp_ov 10 g x 0), W')) : NW sc d_L_removeChannel D (0, [some (.inr (.inl (some 0))), some (.inl x), some (.inr (.inl (some 314))), none], [], (J, L, W), c, sl) Qr Qx := by
  refine b_L_removeChannel_0 hD hc hs (t_X11_removeChannel h hB (by decide) (by decide) (by decide) (fun e r hf J1 L1 j1 l1 r1 c1 n2 h2 => ?_) (fun ho J1 L1 W1 j1 l1 w1 w2 r1 c1 => b_L_removeChannel_7 ⟨by decide, hS ho J1 L1 W1 j1 l1 w1 w2 r1 c1⟩))
  have he : e = -1 ∨ e = -3 := by
    have hf : r = 0 ∧ sp_fDrop g x e := hf
    unfold sp_fDrop at hf
    omega
  rcases he with rfl | rfl
  · exact hF (-1) r hf J1 L1 j1 l1 r1 c1 n2 h2
  · exact hF (-3) r hf J1 L1 j1 l1 r1 c1 n2 h2
end
theorem case_addCrater {i : Int} (hi : 0 ≤ i ∧ i + 5 ≤ (sc.1 : Int) ∧ (sc.1 : Int) ≤ 2560) (h : sp_Wd J L W B) (hB : B + 2200 ≤ 4000000) (hD : 18 ≤ D) (hc : 28 ≤ c) (hs : 4006 ≤ sl) (hQ : ∀ J' L' W' c1 s1, c ≤ c1 + 28 → sl ≤ s1 + 4006 → sp_Wd J' L' W' (B + 2200) → NW sc d_L_law D (3300, [some (.inr (.inl (some 1000000))), some (.inr (.inl (some 0))), some (.inr (.inl (some 303))), some (.inr (.inl (some 314))), some (.inr (.inl (some 315))), some (.inl i), none, none, none], [], (J', L', W'), c1, s1) Qr Qx) : NW sc d_L_law D (300, [some (.inr (.inl (some 1000000))), some (.inr (.inl (some 0))), some (.inr (.inl (some 303))), some (.inr (.inl (some 314))), some (.inr (.inl (some 315))), some (.inl i), none, none, none], [], (J, L, W), c, sl) Qr Qx := by
  have hA := h.1
  have hn := hA.2.1.2
  have hT := h.2.2.2.1
  refine b_L_law_300 hD (by omega) (by omega) ⟨by omega, by omega, t_L_addCrater hA (by omega) (by decide) (by decide) (by decide) (fun e r hf J1 L1 j1 l1 r1 c1 n2 h2 => b_L_law_311 hD ⟨by omega, by omega, ?_⟩) (fun ho J1 L1 W1 j1 l1 w1 w2 r1 c1 => b_L_law_311 hD ⟨by omega, by omega, ?_⟩)⟩
  · have g1 : J1 304 = J 304 := j1 304 (by decide)
    have j303 : J1 303 = J 303 := j1 303 (by decide)
    have rg := op_rng hf
    have zz := op_z hf
    refine t_X12_addCrater (B := B) (n := J 303 3) (by rw [g1]; exact hA.1.2.1) (by rw [g1]; exact hA.1.2.2) (by omega) (by rw [j303]) (by omega) (by decide) (fun e2 r2 hf2 J2 x2 k2 t10 t13 ew => ?_) (fun ho => ?_)
    · rw [g1] at hf2 ew
      obtain ⟨rfl, rfl⟩ := op_det hf hf2
      refine b_L_law_323 hD ⟨fun _ => ⟨fun _ => hQ J2 L1 _ _ _ (by omega) (by omega) (h.fail hB rg.2.2.1 j1 r1 c1 x2 k2 t10 ew h2), fun z => by omega⟩, fun z => absurd t13 z⟩
    · rw [g1] at ho
      exact (op_excl hf ho).elim
  · have g1 : J1 304 = J 304 := j1 304 (by decide)
    have j303 : J1 303 = J 303 := j1 303 (by decide)
    have h6 : J1 306 = J 306 := j1 306 (by decide)
    refine t_X12_addCrater (B := B) (n := J 303 3) (by rw [g1]; exact hA.1.2.1) (by rw [g1]; exact hA.1.2.2) (by omega) (by rw [j303]) (by omega) (by decide) (fun e2 r2 hf2 => ?_) (fun _ J2 x2 k2 t13 t3 t4 hh => ?_)
    · rw [g1] at hf2
      exact (op_excl hf2 ho).elim
    · rw [g1] at t4
      rw [g1, h6] at hh
      rw [g1]
      have k7 : J2 303 7 = J 303 7 := by rw [k2 7 (by decide), j303]
      have hW : sp_Wd J2 (nw_u L1 314 0 (sp_ov 0 (J 304) (nw_sc sc (i + 1)) 0)) W1 (B + 2200) := h.done hB (fun x a => j1 x (by omega)) ⟨by rw [j1 297 (by decide), k7]; exact hT.1, by rw [k7]; exact hT.2.1, by rw [k7]; exact hT.2.2.1, j1 299 (by decide)⟩ w2 r1 (c1.to ⟨by omega, hB⟩ sp_ew.refl rfl (fun _ _ => sp_ew.refl) rfl sp_ew.refl) (fun x a => nw_uP a) (fun x a => x2 x (by omega)) (fun k a => k2 k (by omega)) t3 (sp_ew.of t4) hh
      exact b_L_law_323 hD ⟨fun _ => ⟨fun z => absurd rfl z, fun _ => ⟨fun _ => hQ J2 _ W1 _ _ (by omega) (by omega) hW, fun z => absurd (nw_cmp3_eq nw_uS) z⟩⟩, fun z => absurd t13 z⟩
theorem case_addChannel {i : Int} (hi : 0 ≤ i ∧ i + 5 ≤ (sc.1 : Int) ∧ (sc.1 : Int) ≤ 2560) (h : sp_Wd J L W B) (hB : B + 2200 ≤ 4000000) (hD : 18 ≤ D) (hc : 28 ≤ c) (hs : 4006 ≤ sl) (hQ : ∀ J' L' W' c1 s1, c ≤ c1 + 28 → sl ≤ s1 + 4006 → sp_Wd J' L' W' (B + 2200) → NW sc d_L_law D (3300, [some (.inr (.inl (some 1000000))), some (.inr (.inl (some 0))), some (.inr (.inl (some 303))), some (.inr (.inl (some 314))), some (.inr (.inl (some 315))), some (.inl i), none, none, none], [], (J', L', W'), c1, s1) Qr Qx) : NW sc d_L_law D (356, [some (.inr (.inl (some 1000000))), some (.inr (.inl (some 0))), some (.inr (.inl (some 303))), some (.inr (.inl (some 314))), some (.inr (.inl (some 315))), some (.inl i), none, none, none], [], (J, L, W), c, sl) Qr Qx := by
  have hA := h.1
  have hn := hA.2.1.2
  have hT := h.2.2.2.1
  refine b_L_law_356 hD (by omega) (by omega) ⟨by omega, by omega, by omega, by omega, by omega, by omega, by omega, by omega, t_L_addChannel hA (by omega) (by decide) (by decide) (by decide) (fun e r hf J1 L1 j1 l1 r1 c1 n2 h2 => b_L_law_385 hD ⟨by omega, by omega, by omega, by omega, by omega, by omega, by omega, by omega, ?_⟩) (fun ho J1 L1 W1 j1 l1 w1 w2 r1 c1 => b_L_law_385 hD ⟨by omega, by omega, by omega, by omega, by omega, by omega, by omega, by omega, ?_⟩)⟩
  · have g1 : J1 304 = J 304 := j1 304 (by decide)
    have j303 : J1 303 = J 303 := j1 303 (by decide)
    have rg := op_rng hf
    have zz := op_z hf
    refine t_X12_addChannel (B := B) (n := J 303 3) (by rw [g1]; exact hA.1.2.1) (by rw [g1]; exact hA.1.2.2) (by omega) (by rw [j303]) (by omega) (by decide) (fun e2 r2 hf2 J2 x2 k2 t10 t13 ew => ?_) (fun ho => ?_)
    · rw [g1] at hf2 ew
      obtain ⟨rfl, rfl⟩ := op_det hf hf2
      refine b_L_law_415 hD ⟨fun _ => ⟨fun _ => hQ J2 L1 _ _ _ (by omega) (by omega) (h.fail hB rg.2.2.1 j1 r1 c1 x2 k2 t10 ew h2), fun z => by omega⟩, fun z => absurd t13 z⟩
    · rw [g1] at ho
      exact (op_excl hf ho).elim
  · have g1 : J1 304 = J 304 := j1 304 (by decide)
    have j303 : J1 303 = J 303 := j1 303 (by decide)
    have h6 : J1 306 = J 306 := j1 306 (by decide)
    refine t_X12_addChannel (B := B) (n := J 303 3) (by rw [g1]; exact hA.1.2.1) (by rw [g1]; exact hA.1.2.2) (by omega) (by rw [j303]) (by omega) (by decide) (fun e2 r2 hf2 => ?_) (fun _ J2 x2 k2 t13 t3 t4 hh => ?_)
    · rw [g1] at hf2
      exact (op_excl hf2 ho).elim
    · rw [g1] at t4
      rw [g1, h6] at hh
      rw [g1]
      have k7 : J2 303 7 = J 303 7 := by rw [k2 7 (by decide), j303]
      have hW : sp_Wd J2 (nw_u L1 314 0 (sp_ov 1 (J 304) (nw_sc sc (i + 1)) (nw_sc sc (i + 2)))) W1 (B + 2200) := h.done hB (fun x a => j1 x (by omega)) ⟨by rw [j1 297 (by decide), k7]; exact hT.1, by rw [k7]; exact hT.2.1, by rw [k7]; exact hT.2.2.1, j1 299 (by decide)⟩ w2 r1 (c1.to ⟨by omega, hB⟩ sp_ew.refl rfl (fun _ _ => sp_ew.refl) rfl sp_ew.refl) (fun x a => nw_uP a) (fun x a => x2 x (by omega)) (fun k a => k2 k (by omega)) t3 (sp_ew.of t4) hh
      exact b_L_law_415 hD ⟨fun _ => ⟨fun z => absurd rfl z, fun _ => ⟨fun _ => hQ J2 _ W1 _ _ (by omega) (by omega) hW, fun z => absurd (nw_cmp3_eq nw_uS) z⟩⟩, fun z => absurd t13 z⟩
theorem case_addFerry {i : Int} (hi : 0 ≤ i ∧ i + 5 ≤ (sc.1 : Int) ∧ (sc.1 : Int) ≤ 2560) (h : sp_Wd J L W B) (hB : B + 2200 ≤ 4000000) (hD : 18 ≤ D) (hc : 28 ≤ c) (hs : 4006 ≤ sl) (hQ : ∀ J' L' W' c1 s1, c ≤ c1 + 28 → sl ≤ s1 + 4006 → sp_Wd J' L' W' (B + 2200) → NW sc d_L_law D (3300, [some (.inr (.inl (some 1000000))), some (.inr (.inl (some 0))), some (.inr (.inl (some 303))), some (.inr (.inl (some 314))), some (.inr (.inl (some 315))), some (.inl i), none, none, none], [], (J', L', W'), c1, s1) Qr Qx) : NW sc d_L_law D (934, [some (.inr (.inl (some 1000000))), some (.inr (.inl (some 0))), some (.inr (.inl (some 303))), some (.inr (.inl (some 314))), some (.inr (.inl (some 315))), some (.inl i), none, none, none], [], (J, L, W), c, sl) Qr Qx := by
  have hA := h.1
  have hn := hA.2.1.2
  have hT := h.2.2.2.1
  refine b_L_law_934 hD (by omega) (by omega) ⟨by omega, by omega, by omega, by omega, by omega, by omega, t_L_addFerry hA (by omega) (by decide) (by decide) (by decide) (fun e r hf J1 L1 j1 l1 r1 c1 n2 h2 => b_L_law_957 hD ⟨by omega, by omega, by omega, by omega, by omega, by omega, ?_⟩) (fun ho J1 L1 W1 j1 l1 w1 w2 r1 c1 => b_L_law_957 hD ⟨by omega, by omega, by omega, by omega, by omega, by omega, ?_⟩)⟩
  · have g1 : J1 304 = J 304 := j1 304 (by decide)
    have j303 : J1 303 = J 303 := j1 303 (by decide)
    have rg := op_rng hf
    have zz := op_z hf
    refine t_X12_addFerry (B := B) (n := J 303 3) (by rw [g1]; exact hA.1.2.1) (by rw [g1]; exact hA.1.2.2) (by omega) (by rw [j303]) (by omega) (by decide) (fun e2 r2 hf2 J2 x2 k2 t10 t13 ew => ?_) (fun ho => ?_)
    · rw [g1] at hf2 ew
      obtain ⟨rfl, rfl⟩ := op_det hf hf2
      refine b_L_law_981 hD ⟨fun _ => ⟨fun _ => hQ J2 L1 _ _ _ (by omega) (by omega) (h.fail hB rg.2.2.1 j1 r1 c1 x2 k2 t10 ew h2), fun z => by omega⟩, fun z => absurd t13 z⟩
    · rw [g1] at ho
      exact (op_excl hf ho).elim
  · have g1 : J1 304 = J 304 := j1 304 (by decide)
    have j303 : J1 303 = J 303 := j1 303 (by decide)
    have h6 : J1 306 = J 306 := j1 306 (by decide)
    refine t_X12_addFerry (B := B) (n := J 303 3) (by rw [g1]; exact hA.1.2.1) (by rw [g1]; exact hA.1.2.2) (by omega) (by rw [j303]) (by omega) (by decide) (fun e2 r2 hf2 => ?_) (fun _ J2 x2 k2 t13 t3 t4 hh => ?_)
    · rw [g1] at hf2
      exact (op_excl hf2 ho).elim
    · rw [g1] at t4
      rw [g1, h6] at hh
      rw [g1]
      have k7 : J2 303 7 = J 303 7 := by rw [k2 7 (by decide), j303]
      have hW : sp_Wd J2 (nw_u L1 314 0 (sp_ov 2 (J 304) (nw_sc sc (i + 1)) (nw_sc sc (i + 2)))) W1 (B + 2200) := h.done hB (fun x a => j1 x (by omega)) ⟨by rw [j1 297 (by decide), k7]; exact hT.1, by rw [k7]; exact hT.2.1, by rw [k7]; exact hT.2.2.1, j1 299 (by decide)⟩ w2 r1 (c1.to ⟨by omega, hB⟩ sp_ew.refl rfl (fun _ _ => sp_ew.refl) rfl sp_ew.refl) (fun x a => nw_uP a) (fun x a => x2 x (by omega)) (fun k a => k2 k (by omega)) t3 (sp_ew.of t4) hh
      exact b_L_law_981 hD ⟨fun _ => ⟨fun z => absurd rfl z, fun _ => ⟨fun _ => hQ J2 _ W1 _ _ (by omega) (by omega) hW, fun z => absurd (nw_cmp3_eq nw_uS) z⟩⟩, fun z => absurd t13 z⟩
theorem case_addMoon {i : Int} (hi : 0 ≤ i ∧ i + 5 ≤ (sc.1 : Int) ∧ (sc.1 : Int) ≤ 2560) (h : sp_Wd J L W B) (hB : B + 2200 ≤ 4000000) (hD : 18 ≤ D) (hc : 28 ≤ c) (hs : 4006 ≤ sl) (hQ : ∀ J' L' W' c1 s1, c ≤ c1 + 28 → sl ≤ s1 + 4006 → sp_Wd J' L' W' (B + 2200) → NW sc d_L_law D (3300, [some (.inr (.inl (some 1000000))), some (.inr (.inl (some 0))), some (.inr (.inl (some 303))), some (.inr (.inl (some 314))), some (.inr (.inl (some 315))), some (.inl i), none, none, none], [], (J', L', W'), c1, s1) Qr Qx) : NW sc d_L_law D (1568, [some (.inr (.inl (some 1000000))), some (.inr (.inl (some 0))), some (.inr (.inl (some 303))), some (.inr (.inl (some 314))), some (.inr (.inl (some 315))), some (.inl i), none, none, none], [], (J, L, W), c, sl) Qr Qx := by
  have hA := h.1
  have hn := hA.2.1.2
  have hT := h.2.2.2.1
  refine b_L_law_1568 hD (by omega) (by omega) ⟨by omega, by omega, by omega, by omega, by omega, by omega, by omega, by omega, t_L_addMoon hA (by omega) (by decide) (by decide) (by decide) (fun e r hf J1 L1 j1 l1 r1 c1 n2 h2 => b_L_law_1597 hD ⟨by omega, by omega, by omega, by omega, by omega, by omega, by omega, by omega, ?_⟩) (fun ho J1 L1 W1 j1 l1 w1 w2 r1 c1 => b_L_law_1597 hD ⟨by omega, by omega, by omega, by omega, by omega, by omega, by omega, by omega, ?_⟩)⟩
  · have g1 : J1 304 = J 304 := j1 304 (by decide)
    have j303 : J1 303 = J 303 := j1 303 (by decide)
    have rg := op_rng hf
    have zz := op_z hf
    refine t_X12_addMoon (B := B) (n := J 303 3) (by rw [g1]; exact hA.1.2.1) (by rw [g1]; exact hA.1.2.2) (by omega) (by rw [j303]) (by omega) (by decide) (fun e2 r2 hf2 J2 x2 k2 t10 t13 ew => ?_) (fun ho => ?_)
    · rw [g1] at hf2 ew
      obtain ⟨rfl, rfl⟩ := op_det hf hf2
      refine b_L_law_1627 hD ⟨fun _ => ⟨fun _ => hQ J2 L1 _ _ _ (by omega) (by omega) (h.fail hB rg.2.2.1 j1 r1 c1 x2 k2 t10 ew h2), fun z => by omega⟩, fun z => absurd t13 z⟩
    · rw [g1] at ho
      exact (op_excl hf ho).elim
  · have g1 : J1 304 = J 304 := j1 304 (by decide)
    have j303 : J1 303 = J 303 := j1 303 (by decide)
    have h6 : J1 306 = J 306 := j1 306 (by decide)
    refine t_X12_addMoon (B := B) (n := J 303 3) (by rw [g1]; exact hA.1.2.1) (by rw [g1]; exact hA.1.2.2) (by omega) (by rw [j303]) (by omega) (by decide) (fun e2 r2 hf2 => ?_) (fun _ J2 x2 k2 t13 t3 t4 hh => ?_)
    · rw [g1] at hf2
      exact (op_excl hf2 ho).elim
    · rw [g1] at t4
      rw [g1, h6] at hh
      rw [g1]
      have k7 : J2 303 7 = J 303 7 := by rw [k2 7 (by decide), j303]
      have hW : sp_Wd J2 (nw_u L1 314 0 (sp_ov 3 (J 304) (nw_sc sc (i + 1)) (nw_sc sc (i + 2)))) W1 (B + 2200) := h.done hB (fun x a => j1 x (by omega)) ⟨by rw [j1 297 (by decide), k7]; exact hT.1, by rw [k7]; exact hT.2.1, by rw [k7]; exact hT.2.2.1, j1 299 (by decide)⟩ w2 r1 (c1.to ⟨by omega, hB⟩ sp_ew.refl rfl (fun _ _ => sp_ew.refl) rfl sp_ew.refl) (fun x a => nw_uP a) (fun x a => x2 x (by omega)) (fun k a => k2 k (by omega)) t3 (sp_ew.of t4) hh
      exact b_L_law_1627 hD ⟨fun _ => ⟨fun z => absurd rfl z, fun _ => ⟨fun _ => hQ J2 _ W1 _ _ (by omega) (by omega) hW, fun z => absurd (nw_cmp3_eq nw_uS) z⟩⟩, fun z => absurd t13 z⟩
theorem case_sail {i : Int} (hi : 0 ≤ i ∧ i + 5 ≤ (sc.1 : Int) ∧ (sc.1 : Int) ≤ 2560) (h : sp_Wd J L W B) (hB : B + 2200 ≤ 4000000) (hD : 18 ≤ D) (hc : 28 ≤ c) (hs : 4006 ≤ sl) (hQ : ∀ J' L' W' c1 s1, c ≤ c1 + 28 → sl ≤ s1 + 4006 → sp_Wd J' L' W' (B + 2200) → NW sc d_L_law D (3300, [some (.inr (.inl (some 1000000))), some (.inr (.inl (some 0))), some (.inr (.inl (some 303))), some (.inr (.inl (some 314))), some (.inr (.inl (some 315))), some (.inl i), none, none, none], [], (J', L', W'), c1, s1) Qr Qx) : NW sc d_L_law D (1014, [some (.inr (.inl (some 1000000))), some (.inr (.inl (some 0))), some (.inr (.inl (some 303))), some (.inr (.inl (some 314))), some (.inr (.inl (some 315))), some (.inl i), none, none, none], [], (J, L, W), c, sl) Qr Qx := by
  have hA := h.1
  have hn := hA.2.1.2
  have hT := h.2.2.2.1
  refine b_L_law_1014 hD (by omega) (by omega) ⟨by omega, by omega, by omega, by omega, t_L_sail hA (by omega) (by decide) (by decide) (by decide) (fun e r hf J1 L1 j1 l1 r1 c1 n2 h2 => b_L_law_1031 hD ⟨by omega, by omega, by omega, by omega, ?_⟩) (fun ho J1 L1 W1 j1 l1 w1 w2 r1 c1 => b_L_law_1031 hD ⟨by omega, by omega, by omega, by omega, ?_⟩)⟩
  · have g1 : J1 304 = J 304 := j1 304 (by decide)
    have j303 : J1 303 = J 303 := j1 303 (by decide)
    have rg := op_rng hf
    have zz := op_z hf
    refine t_X12_sail (B := B) (n := J 303 3) (by rw [g1]; exact hA.1.2.1) (by rw [g1]; exact hA.1.2.2) (by omega) (by rw [j303]) (by omega) (by decide) (fun e2 r2 hf2 J2 x2 k2 t10 t13 ew => ?_) (fun ho => ?_)
    · rw [g1] at hf2 ew
      obtain ⟨rfl, rfl⟩ := op_det hf hf2
      refine b_L_law_1049 hD ⟨fun _ => ⟨fun _ => hQ J2 L1 _ _ _ (by omega) (by omega) (h.fail hB rg.2.2.1 j1 r1 c1 x2 k2 t10 ew h2), fun z => by omega⟩, fun z => absurd t13 z⟩
    · rw [g1] at ho
      exact (op_excl hf ho).elim
  · have g1 : J1 304 = J 304 := j1 304 (by decide)
    have j303 : J1 303 = J 303 := j1 303 (by decide)
    have h6 : J1 306 = J 306 := j1 306 (by decide)
    refine t_X12_sail (B := B) (n := J 303 3) (by rw [g1]; exact hA.1.2.1) (by rw [g1]; exact hA.1.2.2) (by omega) (by rw [j303]) (by omega) (by decide) (fun e2 r2 hf2 => ?_) (fun _ J2 x2 k2 t13 t3 t4 hh => ?_)
    · rw [g1] at hf2
      exact (op_excl hf2 ho).elim
    · rw [g1] at t4
      rw [g1, h6] at hh
      rw [g1]
      have k7 : J2 303 7 = J 303 7 := by rw [k2 7 (by decide), j303]
      have hW : sp_Wd J2 (nw_u L1 314 0 (sp_ov 4 (J 304) (nw_sc sc (i + 1)) (nw_sc sc (i + 2)))) W1 (B + 2200) := h.done hB (fun x a => j1 x (by omega)) ⟨by rw [j1 297 (by decide), k7]; exact hT.1, by rw [k7]; exact hT.2.1, by rw [k7]; exact hT.2.2.1, j1 299 (by decide)⟩ w2 r1 (c1.to ⟨by omega, hB⟩ sp_ew.refl rfl (fun _ _ => sp_ew.refl) rfl sp_ew.refl) (fun x a => nw_uP a) (fun x a => x2 x (by omega)) (fun k a => k2 k (by omega)) t3 (sp_ew.of t4) hh
      exact b_L_law_1049 hD ⟨fun _ => ⟨fun z => absurd rfl z, fun _ => ⟨fun _ => hQ J2 _ W1 _ _ (by omega) (by omega) hW, fun z => absurd (nw_cmp3_eq nw_uS) z⟩⟩, fun z => absurd t13 z⟩
theorem case_board {i : Int} (hi : 0 ≤ i ∧ i + 5 ≤ (sc.1 : Int) ∧ (sc.1 : Int) ≤ 2560) (h : sp_Wd J L W B) (hB : B + 2200 ≤ 4000000) (hD : 18 ≤ D) (hc : 28 ≤ c) (hs : 4006 ≤ sl) (hQ : ∀ J' L' W' c1 s1, c ≤ c1 + 28 → sl ≤ s1 + 4006 → sp_Wd J' L' W' (B + 2200) → NW sc d_L_law D (3300, [some (.inr (.inl (some 1000000))), some (.inr (.inl (some 0))), some (.inr (.inl (some 303))), some (.inr (.inl (some 314))), some (.inr (.inl (some 315))), some (.inl i), none, none, none], [], (J', L', W'), c1, s1) Qr Qx) : NW sc d_L_law D (1660, [some (.inr (.inl (some 1000000))), some (.inr (.inl (some 0))), some (.inr (.inl (some 303))), some (.inr (.inl (some 314))), some (.inr (.inl (some 315))), some (.inl i), none, none, none], [], (J, L, W), c, sl) Qr Qx := by
  have hA := h.1
  have hn := hA.2.1.2
  have hT := h.2.2.2.1
  refine b_L_law_1660 hD (by omega) (by omega) ⟨by omega, by omega, by omega, by omega, t_L_board hA (by omega) (by decide) (by decide) (by decide) (fun e r hf J1 L1 j1 l1 r1 c1 n2 h2 => b_L_law_1677 hD ⟨by omega, by omega, by omega, by omega, ?_⟩) (fun ho J1 L1 W1 j1 l1 w1 w2 r1 c1 => b_L_law_1677 hD ⟨by omega, by omega, by omega, by omega, ?_⟩)⟩
  · have g1 : J1 304 = J 304 := j1 304 (by decide)
    have j303 : J1 303 = J 303 := j1 303 (by decide)
    have rg := op_rng hf
    have zz := op_z hf
    refine t_X12_board (B := B) (n := J 303 3) (by rw [g1]; exact hA.1.2.1) (by rw [g1]; exact hA.1.2.2) (by omega) (by rw [j303]) (by omega) (by decide) (fun e2 r2 hf2 J2 x2 k2 t10 t13 ew => ?_) (fun ho => ?_)
    · rw [g1] at hf2 ew
      obtain ⟨rfl, rfl⟩ := op_det hf hf2
      refine b_L_law_1695 hD ⟨fun _ => ⟨fun _ => hQ J2 L1 _ _ _ (by omega) (by omega) (h.fail hB rg.2.2.1 j1 r1 c1 x2 k2 t10 ew h2), fun z => by omega⟩, fun z => absurd t13 z⟩
    · rw [g1] at ho
      exact (op_excl hf ho).elim
  · have g1 : J1 304 = J 304 := j1 304 (by decide)
    have j303 : J1 303 = J 303 := j1 303 (by decide)
    have h6 : J1 306 = J 306 := j1 306 (by decide)
    refine t_X12_board (B := B) (n := J 303 3) (by rw [g1]; exact hA.1.2.1) (by rw [g1]; exact hA.1.2.2) (by omega) (by rw [j303]) (by omega) (by decide) (fun e2 r2 hf2 => ?_) (fun _ J2 x2 k2 t13 t3 t4 hh => ?_)
    · rw [g1] at hf2
      exact (op_excl hf2 ho).elim
    · rw [g1] at t4
      rw [g1, h6] at hh
      rw [g1]
      have k7 : J2 303 7 = J 303 7 := by rw [k2 7 (by decide), j303]
      have hW : sp_Wd J2 (nw_u L1 314 0 (sp_ov 5 (J 304) (nw_sc sc (i + 1)) (nw_sc sc (i + 2)))) W1 (B + 2200) := h.done hB (fun x a => j1 x (by omega)) ⟨by rw [j1 297 (by decide), k7]; exact hT.1, by rw [k7]; exact hT.2.1, by rw [k7]; exact hT.2.2.1, j1 299 (by decide)⟩ w2 r1 (c1.to ⟨by omega, hB⟩ sp_ew.refl rfl (fun _ _ => sp_ew.refl) rfl sp_ew.refl) (fun x a => nw_uP a) (fun x a => x2 x (by omega)) (fun k a => k2 k (by omega)) t3 (sp_ew.of t4) hh
      exact b_L_law_1695 hD ⟨fun _ => ⟨fun z => absurd rfl z, fun _ => ⟨fun _ => hQ J2 _ W1 _ _ (by omega) (by omega) hW, fun z => absurd (nw_cmp3_eq nw_uS) z⟩⟩, fun z => absurd t13 z⟩
theorem case_land {i : Int} (hi : 0 ≤ i ∧ i + 5 ≤ (sc.1 : Int) ∧ (sc.1 : Int) ≤ 2560) (h : sp_Wd J L W B) (hB : B + 2200 ≤ 4000000) (hD : 18 ≤ D) (hc : 28 ≤ c) (hs : 4006 ≤ sl) (hQ : ∀ J' L' W' c1 s1, c ≤ c1 + 28 → sl ≤ s1 + 4006 → sp_Wd J' L' W' (B + 2200) → NW sc d_L_law D (3300, [some (.inr (.inl (some 1000000))), some (.inr (.inl (some 0))), some (.inr (.inl (some 303))), some (.inr (.inl (some 314))), some (.inr (.inl (some 315))), some (.inl i), none, none, none], [], (J', L', W'), c1, s1) Qr Qx) : NW sc d_L_law D (1728, [some (.inr (.inl (some 1000000))), some (.inr (.inl (some 0))), some (.inr (.inl (some 303))), some (.inr (.inl (some 314))), some (.inr (.inl (some 315))), some (.inl i), none, none, none], [], (J, L, W), c, sl) Qr Qx := by
  have hA := h.1
  have hn := hA.2.1.2
  have hT := h.2.2.2.1
  refine b_L_law_1728 hD (by omega) (by omega) ⟨by omega, by omega, t_L_land hA (by omega) (by decide) (by decide) (by decide) (fun e r hf J1 L1 j1 l1 r1 c1 n2 h2 => b_L_law_1739 hD ⟨by omega, by omega, ?_⟩) (fun ho J1 L1 W1 j1 l1 w1 w2 r1 c1 => b_L_law_1739 hD ⟨by omega, by omega, ?_⟩)⟩
  · have g1 : J1 304 = J 304 := j1 304 (by decide)
    have j303 : J1 303 = J 303 := j1 303 (by decide)
    have rg := op_rng hf
    have zz := op_z hf
    refine t_X12_land (B := B) (n := J 303 3) (by rw [g1]; exact hA.1.2.1) (by rw [g1]; exact hA.1.2.2) (by omega) (by rw [j303]) (by omega) (by decide) (fun e2 r2 hf2 J2 x2 k2 t10 t13 ew => ?_) (fun ho => ?_)
    · rw [g1] at hf2 ew
      obtain ⟨rfl, rfl⟩ := op_det hf hf2
      refine b_L_law_1751 hD ⟨fun _ => ⟨fun _ => hQ J2 L1 _ _ _ (by omega) (by omega) (h.fail hB rg.2.2.1 j1 r1 c1 x2 k2 t10 ew h2), fun z => by omega⟩, fun z => absurd t13 z⟩
    · rw [g1] at ho
      exact (op_excl hf ho).elim
  · have g1 : J1 304 = J 304 := j1 304 (by decide)
    have j303 : J1 303 = J 303 := j1 303 (by decide)
    have h6 : J1 306 = J 306 := j1 306 (by decide)
    refine t_X12_land (B := B) (n := J 303 3) (by rw [g1]; exact hA.1.2.1) (by rw [g1]; exact hA.1.2.2) (by omega) (by rw [j303]) (by omega) (by decide) (fun e2 r2 hf2 => ?_) (fun _ J2 x2 k2 t13 t3 t4 hh => ?_)
    · rw [g1] at hf2
      exact (op_excl hf2 ho).elim
    · rw [g1] at t4
      rw [g1, h6] at hh
      rw [g1]
      have k7 : J2 303 7 = J 303 7 := by rw [k2 7 (by decide), j303]
      have hW : sp_Wd J2 (nw_u L1 314 0 (sp_ov 6 (J 304) (nw_sc sc (i + 1)) 0)) W1 (B + 2200) := h.done hB (fun x a => j1 x (by omega)) ⟨by rw [j1 297 (by decide), k7]; exact hT.1, by rw [k7]; exact hT.2.1, by rw [k7]; exact hT.2.2.1, j1 299 (by decide)⟩ w2 r1 (c1.to ⟨by omega, hB⟩ sp_ew.refl rfl (fun _ _ => sp_ew.refl) rfl sp_ew.refl) (fun x a => nw_uP a) (fun x a => x2 x (by omega)) (fun k a => k2 k (by omega)) t3 (sp_ew.of t4) hh
      exact b_L_law_1751 hD ⟨fun _ => ⟨fun z => absurd rfl z, fun _ => ⟨fun _ => hQ J2 _ W1 _ _ (by omega) (by omega) hW, fun z => absurd (nw_cmp3_eq nw_uS) z⟩⟩, fun z => absurd t13 z⟩
theorem case_loadBest {i : Int} (hi : 0 ≤ i ∧ i + 5 ≤ (sc.1 : Int) ∧ (sc.1 : Int) ≤ 2560) (h : sp_Wd J L W B) (hB : B + 2200 ≤ 4000000) (hD : 18 ≤ D) (hc : 28 ≤ c) (hs : 4006 ≤ sl) (hQ : ∀ J' L' W' c1 s1, c ≤ c1 + 28 → sl ≤ s1 + 4006 → sp_Wd J' L' W' (B + 2200) → NW sc d_L_law D (3300, [some (.inr (.inl (some 1000000))), some (.inr (.inl (some 0))), some (.inr (.inl (some 303))), some (.inr (.inl (some 314))), some (.inr (.inl (some 315))), some (.inl i), none, none, none], [], (J', L', W'), c1, s1) Qr Qx) : NW sc d_L_law D (1784, [some (.inr (.inl (some 1000000))), some (.inr (.inl (some 0))), some (.inr (.inl (some 303))), some (.inr (.inl (some 314))), some (.inr (.inl (some 315))), some (.inl i), none, none, none], [], (J, L, W), c, sl) Qr Qx := by
  have hA := h.1
  have hn := hA.2.1.2
  have hT := h.2.2.2.1
  refine b_L_law_1784 hD (by omega) (by omega) ⟨by omega, by omega, t_L_loadBest hA (by omega) (by decide) (by decide) (by decide) (fun e r hf J1 L1 j1 l1 r1 c1 n2 h2 => b_L_law_1795 hD ⟨by omega, by omega, ?_⟩) (fun ho J1 L1 W1 j1 l1 w1 w2 r1 c1 => b_L_law_1795 hD ⟨by omega, by omega, ?_⟩)⟩
  · have g1 : J1 304 = J 304 := j1 304 (by decide)
    have j303 : J1 303 = J 303 := j1 303 (by decide)
    have rg := op_rng hf
    have zz := op_z hf
    refine t_X12_loadBest (B := B) (n := J 303 3) (by rw [g1]; exact hA.1.2.1) (by rw [g1]; exact hA.1.2.2) (by omega) (by rw [j303]) (by omega) (by decide) (fun e2 r2 hf2 J2 x2 k2 t10 t13 ew => ?_) (fun ho => ?_)
    · rw [g1] at hf2 ew
      obtain ⟨rfl, rfl⟩ := op_det hf hf2
      refine b_L_law_1807 hD ⟨fun _ => ⟨fun _ => hQ J2 L1 _ _ _ (by omega) (by omega) (h.fail hB rg.2.2.1 j1 r1 c1 x2 k2 t10 ew h2), fun z => by omega⟩, fun z => absurd t13 z⟩
    · rw [g1] at ho
      exact (op_excl hf ho).elim
  · have g1 : J1 304 = J 304 := j1 304 (by decide)
    have j303 : J1 303 = J 303 := j1 303 (by decide)
    have h6 : J1 306 = J 306 := j1 306 (by decide)
    refine t_X12_loadBest (B := B) (n := J 303 3) (by rw [g1]; exact hA.1.2.1) (by rw [g1]; exact hA.1.2.2) (by omega) (by rw [j303]) (by omega) (by decide) (fun e2 r2 hf2 => ?_) (fun _ J2 x2 k2 t13 t3 t4 hh => ?_)
    · rw [g1] at hf2
      exact (op_excl hf2 ho).elim
    · rw [g1] at t4
      rw [g1, h6] at hh
      rw [g1]
      have k7 : J2 303 7 = J 303 7 := by rw [k2 7 (by decide), j303]
      have hW : sp_Wd J2 (nw_u L1 314 0 (sp_ov 7 (J 304) (nw_sc sc (i + 1)) 0)) W1 (B + 2200) := h.done hB (fun x a => j1 x (by omega)) ⟨by rw [j1 297 (by decide), k7]; exact hT.1, by rw [k7]; exact hT.2.1, by rw [k7]; exact hT.2.2.1, j1 299 (by decide)⟩ w2 r1 (c1.to ⟨by omega, hB⟩ sp_ew.refl rfl (fun _ _ => sp_ew.refl) rfl sp_ew.refl) (fun x a => nw_uP a) (fun x a => x2 x (by omega)) (fun k a => k2 k (by omega)) t3 (sp_ew.of t4) hh
      exact b_L_law_1807 hD ⟨fun _ => ⟨fun z => absurd rfl z, fun _ => ⟨fun _ => hQ J2 _ W1 _ _ (by omega) (by omega) hW, fun z => absurd (nw_cmp3_eq nw_uS) z⟩⟩, fun z => absurd t13 z⟩
theorem case_rescue {i : Int} (hi : 0 ≤ i ∧ i + 5 ≤ (sc.1 : Int) ∧ (sc.1 : Int) ≤ 2560) (h : sp_Wd J L W B) (hB : B + 2200 ≤ 4000000) (hD : 18 ≤ D) (hc : 28 ≤ c) (hs : 4006 ≤ sl) (hQ : ∀ J' L' W' c1 s1, c ≤ c1 + 28 → sl ≤ s1 + 4006 → sp_Wd J' L' W' (B + 2200) → NW sc d_L_law D (3300, [some (.inr (.inl (some 1000000))), some (.inr (.inl (some 0))), some (.inr (.inl (some 303))), some (.inr (.inl (some 314))), some (.inr (.inl (some 315))), some (.inl i), none, none, none], [], (J', L', W'), c1, s1) Qr Qx) : NW sc d_L_law D (1952, [some (.inr (.inl (some 1000000))), some (.inr (.inl (some 0))), some (.inr (.inl (some 303))), some (.inr (.inl (some 314))), some (.inr (.inl (some 315))), some (.inl i), none, none, none], [], (J, L, W), c, sl) Qr Qx := by
  have hA := h.1
  have hn := hA.2.1.2
  have hT := h.2.2.2.1
  refine b_L_law_1952 hD (by omega) (by omega) ⟨by omega, by omega, t_L_rescue hA (by omega) (by decide) (by decide) (by decide) (fun e r hf J1 L1 j1 l1 r1 c1 n2 h2 => b_L_law_1963 hD ⟨by omega, by omega, ?_⟩) (fun ho J1 L1 W1 j1 l1 w1 w2 r1 c1 => b_L_law_1963 hD ⟨by omega, by omega, ?_⟩)⟩
  · have g1 : J1 304 = J 304 := j1 304 (by decide)
    have j303 : J1 303 = J 303 := j1 303 (by decide)
    have rg := op_rng hf
    have zz := op_z hf
    refine t_X12_rescue (B := B) (n := J 303 3) (by rw [g1]; exact hA.1.2.1) (by rw [g1]; exact hA.1.2.2) (by omega) (by rw [j303]) (by omega) (by decide) (fun e2 r2 hf2 J2 x2 k2 t10 t13 ew => ?_) (fun ho => ?_)
    · rw [g1] at hf2 ew
      obtain ⟨rfl, rfl⟩ := op_det hf hf2
      refine b_L_law_1975 hD ⟨fun _ => ⟨fun _ => hQ J2 L1 _ _ _ (by omega) (by omega) (h.fail hB rg.2.2.1 j1 r1 c1 x2 k2 t10 ew h2), fun z => by omega⟩, fun z => absurd t13 z⟩
    · rw [g1] at ho
      exact (op_excl hf ho).elim
  · have g1 : J1 304 = J 304 := j1 304 (by decide)
    have j303 : J1 303 = J 303 := j1 303 (by decide)
    have h6 : J1 306 = J 306 := j1 306 (by decide)
    refine t_X12_rescue (B := B) (n := J 303 3) (by rw [g1]; exact hA.1.2.1) (by rw [g1]; exact hA.1.2.2) (by omega) (by rw [j303]) (by omega) (by decide) (fun e2 r2 hf2 => ?_) (fun _ J2 x2 k2 t13 t3 t4 hh => ?_)
    · rw [g1] at hf2
      exact (op_excl hf2 ho).elim
    · rw [g1] at t4
      rw [g1, h6] at hh
      rw [g1]
      have k7 : J2 303 7 = J 303 7 := by rw [k2 7 (by decide), j303]
      have hW : sp_Wd J2 (nw_u L1 314 0 (sp_ov 8 (J 304) (nw_sc sc (i + 1)) 0)) W1 (B + 2200) := h.done hB (fun x a => j1 x (by omega)) ⟨by rw [j1 297 (by decide), k7]; exact hT.1, by rw [k7]; exact hT.2.1, by rw [k7]; exact hT.2.2.1, j1 299 (by decide)⟩ w2 r1 (c1.to ⟨by omega, hB⟩ sp_ew.refl rfl (fun _ _ => sp_ew.refl) rfl sp_ew.refl) (fun x a => nw_uP a) (fun x a => x2 x (by omega)) (fun k a => k2 k (by omega)) t3 (sp_ew.of t4) hh
      exact b_L_law_1975 hD ⟨fun _ => ⟨fun z => absurd rfl z, fun _ => ⟨fun _ => hQ J2 _ W1 _ _ (by omega) (by omega) hW, fun z => absurd (nw_cmp3_eq nw_uS) z⟩⟩, fun z => absurd t13 z⟩
theorem case_pass {i : Int} (hi : 0 ≤ i ∧ i + 5 ≤ (sc.1 : Int) ∧ (sc.1 : Int) ≤ 2560) (h : sp_Wd J L W B) (hB : B + 2200 ≤ 4000000) (hD : 18 ≤ D) (hc : 28 ≤ c) (hs : 4006 ≤ sl) (hQ : ∀ J' L' W' c1 s1, c ≤ c1 + 28 → sl ≤ s1 + 4006 → sp_Wd J' L' W' (B + 2200) → NW sc d_L_law D (3300, [some (.inr (.inl (some 1000000))), some (.inr (.inl (some 0))), some (.inr (.inl (some 303))), some (.inr (.inl (some 314))), some (.inr (.inl (some 315))), some (.inl i), none, none, none], [], (J', L', W'), c1, s1) Qr Qx) : NW sc d_L_law D (2407, [some (.inr (.inl (some 1000000))), some (.inr (.inl (some 0))), some (.inr (.inl (some 303))), some (.inr (.inl (some 314))), some (.inr (.inl (some 315))), some (.inl i), none, none, none], [], (J, L, W), c, sl) Qr Qx := by
  have hA := h.1
  have hn := hA.2.1.2
  have hT := h.2.2.2.1
  refine b_L_law_2407 hD (by omega) (by omega) ⟨by omega, by omega, t_L_pass hA (by omega) (by decide) (by decide) (by decide) (fun e r hf J1 L1 j1 l1 r1 c1 n2 h2 => b_L_law_2418 hD ⟨by omega, by omega, ?_⟩) (fun ho J1 L1 W1 j1 l1 w1 w2 r1 c1 => b_L_law_2418 hD ⟨by omega, by omega, ?_⟩)⟩
  · have g1 : J1 304 = J 304 := j1 304 (by decide)
    have j303 : J1 303 = J 303 := j1 303 (by decide)
    have rg := op_rng hf
    have zz := op_z hf
    refine t_X12_pass (B := B) (n := J 303 3) (by rw [g1]; exact hA.1.2.1) (by rw [g1]; exact hA.1.2.2) (by omega) (by rw [j303]) (by omega) (by decide) (fun e2 r2 hf2 J2 x2 k2 t10 t13 ew => ?_) (fun ho => ?_)
    · rw [g1] at hf2 ew
      obtain ⟨rfl, rfl⟩ := op_det hf hf2
      refine b_L_law_2430 hD ⟨fun _ => ⟨fun _ => hQ J2 L1 _ _ _ (by omega) (by omega) (h.fail hB rg.2.2.1 j1 r1 c1 x2 k2 t10 ew h2), fun z => by omega⟩, fun z => absurd t13 z⟩
    · rw [g1] at ho
      exact (op_excl hf ho).elim
  · have g1 : J1 304 = J 304 := j1 304 (by decide)
    have j303 : J1 303 = J 303 := j1 303 (by decide)
    have h6 : J1 306 = J 306 := j1 306 (by decide)
    refine t_X12_pass (B := B) (n := J 303 3) (by rw [g1]; exact hA.1.2.1) (by rw [g1]; exact hA.1.2.2) (by omega) (by rw [j303]) (by omega) (by decide) (fun e2 r2 hf2 => ?_) (fun _ J2 x2 k2 t13 t3 t4 hh => ?_)
    · rw [g1] at hf2
      exact (op_excl hf2 ho).elim
    · rw [g1] at t4
      rw [g1, h6] at hh
      rw [g1]
      have k7 : J2 303 7 = J 303 7 := by rw [k2 7 (by decide), j303]
      have hW : sp_Wd J2 (nw_u L1 314 0 (sp_ov 9 (J 304) (nw_sc sc (i + 1)) 0)) W1 (B + 2200) := h.done hB (fun x a => j1 x (by omega)) ⟨by rw [j1 297 (by decide), k7]; exact hT.1, by rw [k7]; exact hT.2.1, by rw [k7]; exact hT.2.2.1, j1 299 (by decide)⟩ w2 r1 (c1.to ⟨by omega, hB⟩ sp_ew.refl rfl (fun _ _ => sp_ew.refl) rfl sp_ew.refl) (fun x a => nw_uP a) (fun x a => x2 x (by omega)) (fun k a => k2 k (by omega)) t3 (sp_ew.of t4) hh
      exact b_L_law_2430 hD ⟨fun _ => ⟨fun z => absurd rfl z, fun _ => ⟨fun _ => hQ J2 _ W1 _ _ (by omega) (by omega) hW, fun z => absurd (nw_cmp3_eq nw_uS) z⟩⟩, fun z => absurd t13 z⟩
theorem case_removeChannel {i : Int} (hi : 0 ≤ i ∧ i + 5 ≤ (sc.1 : Int) ∧ (sc.1 : Int) ≤ 2560) (h : sp_Wd J L W B) (hB : B + 2200 ≤ 4000000) (hD : 18 ≤ D) (hc : 28 ≤ c) (hs : 4006 ≤ sl) (hQ : ∀ J' L' W' c1 s1, c ≤ c1 + 28 → sl ≤ s1 + 4006 → sp_Wd J' L' W' (B + 2200) → NW sc d_L_law D (3300, [some (.inr (.inl (some 1000000))), some (.inr (.inl (some 0))), some (.inr (.inl (some 303))), some (.inr (.inl (some 314))), some (.inr (.inl (some 315))), some (.inl i), none, none, none], [], (J', L', W'), c1, s1) Qr Qx) : NW sc d_L_law D (448, [some (.inr (.inl (some 1000000))), some (.inr (.inl (some 0))), some (.inr (.inl (some 303))), some (.inr (.inl (some 314))), some (.inr (.inl (some 315))), some (.inl i), none, none, none], [], (J, L, W), c, sl) Qr Qx := by
  have hA := h.1
  have hn := hA.2.1.2
  have hT := h.2.2.2.1
  refine b_L_law_448 hD (by omega) (by omega) ⟨by omega, by omega, t_L_removeChannel hA (by omega) (by decide) (by decide) (by decide) (fun e r hf J1 L1 j1 l1 r1 c1 n2 h2 => b_L_law_459 hD ⟨by omega, by omega, ?_⟩) (fun ho J1 L1 W1 j1 l1 w1 w2 r1 c1 => b_L_law_459 hD ⟨by omega, by omega, ?_⟩)⟩
  · have g1 : J1 304 = J 304 := j1 304 (by decide)
    have j303 : J1 303 = J 303 := j1 303 (by decide)
    have rg := op_rng hf
    have zz := op_z hf
    refine t_X12_removeChannel (B := B) (n := J 303 3) (by rw [g1]; exact hA.1.2.1) (by rw [g1]; exact hA.1.2.2) (by omega) (by rw [j303]) (by omega) (by decide) (fun e2 r2 hf2 J2 x2 k2 t10 t13 ew => ?_) (fun ho => ?_)
    · rw [g1] at hf2 ew
      obtain ⟨rfl, rfl⟩ := op_det hf hf2
      refine b_L_law_471 hD ⟨fun _ => ⟨fun _ => hQ J2 L1 _ _ _ (by omega) (by omega) (h.fail hB rg.2.2.1 j1 r1 c1 x2 k2 t10 ew h2), fun z => by omega⟩, fun z => absurd t13 z⟩
    · rw [g1] at ho
      exact (op_excl hf ho).elim
  · have g1 : J1 304 = J 304 := j1 304 (by decide)
    have j303 : J1 303 = J 303 := j1 303 (by decide)
    have h6 : J1 306 = J 306 := j1 306 (by decide)
    refine t_X12_removeChannel (B := B) (n := J 303 3) (by rw [g1]; exact hA.1.2.1) (by rw [g1]; exact hA.1.2.2) (by omega) (by rw [j303]) (by omega) (by decide) (fun e2 r2 hf2 => ?_) (fun _ J2 x2 k2 t13 t3 t4 hh => ?_)
    · rw [g1] at hf2
      exact (op_excl hf2 ho).elim
    · rw [g1] at t4
      rw [g1, h6] at hh
      rw [g1]
      have k7 : J2 303 7 = J 303 7 := by rw [k2 7 (by decide), j303]
      have hW : sp_Wd J2 (nw_u L1 314 0 (sp_ov 10 (J 304) (nw_sc sc (i + 1)) 0)) W1 (B + 2200) := h.done hB (fun x a => j1 x (by omega)) ⟨by rw [j1 297 (by decide), k7]; exact hT.1, by rw [k7]; exact hT.2.1, by rw [k7]; exact hT.2.2.1, j1 299 (by decide)⟩ w2 r1 (c1.to ⟨by omega, hB⟩ sp_ew.refl rfl (fun _ _ => sp_ew.refl) rfl sp_ew.refl) (fun x a => nw_uP a) (fun x a => x2 x (by omega)) (fun k a => k2 k (by omega)) t3 (sp_ew.of t4) hh
      exact b_L_law_471 hD ⟨fun _ => ⟨fun z => absurd rfl z, fun _ => ⟨fun _ => hQ J2 _ W1 _ _ (by omega) (by omega) hW, fun z => absurd (nw_cmp3_eq nw_uS) z⟩⟩, fun z => absurd t13 z⟩
end
