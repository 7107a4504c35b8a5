/-! the changes, each in the one form -/
section
variable {sc : Nat × (Nat → Int32)} {D : Nat} {J L : Nat → Int → Int} {W : nw_W} {c sl : Nat} {Qr : nw_QR} {Qx : nw_QX} {g : Int → Int} {B : Int}
theorem t_c0 {x : Int} (hR : RC J L g) (hI : Inv g B) (hFu : sp_fut g) (hB : B + 200 ≤ 4000000) (hD : 0 ≤ D)
    (hF : ∀ e r, sp_of 0 g x 0 0 0 e r → Qr (some (.inl e)) (if r = 0 then J else nw_u J 1 0 r, L, W))
    (hS : sp_oo 0 g x 0 0 0 → ∀ J' L', sp_fr 2 54 J J' → sp_fr 2 2 L L' → RC J' L' (sp_og 0 g x 0 0 0) → Qr (some (.inl (sp_ov 0 g x 0))) (J', L', W)) : NW sc d_X0_openCrater D (0, [some (.inr (.inl (some 1))), some (.inl x), none], [], (J, L, W), c, sl) Qr Qx := by
  have F0 : ∀ e, sp_of 0 g x 0 0 0 e 0 → Qr (some (.inl e)) (J, L, W) := fun e h => by
    have := hF e 0 h
    rw [if_pos rfl] at this
    exact this
  exact t_X0_openCrater hR hI (fun e h => F0 e ⟨rfl, h⟩) (fun h J1 fr R => hS h J1 L (fr.mono (by decide) (by decide)) sp_fr.refl R)
theorem t_c1 {x y z w : Int} (hR : RC J L g) (hI : Inv g B) (hFu : sp_fut g) (hB : B + 200 ≤ 4000000) (hD : 2 ≤ D)
    (hF : ∀ e r, sp_of 1 g x y z w e r → Qr (some (.inl e)) (if r = 0 then J else nw_u J 1 0 r, L, W))
    (hS : sp_oo 1 g x y z w → ∀ J' L', sp_fr 2 54 J J' → sp_fr 2 2 L L' → RC J' L' (sp_og 1 g x y z w) → Qr (some (.inl (sp_ov 1 g x y))) (J', L', W)) : NW sc d_X0_openChannel D (0, [some (.inr (.inl (some 1))), some (.inl x), some (.inl y), some (.inl z), some (.inl w), none, none, none], [], (J, L, W), c, sl) Qr Qx := by
  have F0 : ∀ e, sp_of 1 g x y z w e 0 → Qr (some (.inl e)) (J, L, W) := fun e h => by
    have := hF e 0 h
    rw [if_pos rfl] at this
    exact this
  exact t_X0_openChannel hR hI hD (fun e h => F0 e ⟨rfl, h⟩) (fun h J1 fr R => hS h J1 L (fr.mono (by decide) (by decide)) sp_fr.refl R)
theorem t_c2 {x y z : Int} (hR : RC J L g) (hI : Inv g B) (hFu : sp_fut g) (hB : B + 200 ≤ 4000000) (hD : 1 ≤ D)
    (hF : ∀ e r, sp_of 2 g x y z 0 e r → Qr (some (.inl e)) (if r = 0 then J else nw_u J 1 0 r, L, W))
    (hS : sp_oo 2 g x y z 0 → ∀ J' L', sp_fr 2 54 J J' → sp_fr 2 2 L L' → RC J' L' (sp_og 2 g x y z 0) → Qr (some (.inl (sp_ov 2 g x y))) (J', L', W)) : NW sc d_X0_enlistFerry D (0, [some (.inr (.inl (some 1))), some (.inl x), some (.inl y), some (.inl z), none, none, none], [], (J, L, W), c, sl) Qr Qx := by
  have F0 : ∀ e, sp_of 2 g x y z 0 e 0 → Qr (some (.inl e)) (J, L, W) := fun e h => by
    have := hF e 0 h
    rw [if_pos rfl] at this
    exact this
  exact t_X0_enlistFerry hR hI hD (fun e h => F0 e ⟨rfl, h⟩) (fun h J1 fr R => hS h J1 L (fr.mono (by decide) (by decide)) sp_fr.refl R)
theorem t_c3 {x y z w : Int} (hR : RC J L g) (hI : Inv g B) (hFu : sp_fut g) (hB : B + 200 ≤ 4000000) (hD : 1 ≤ D)
    (hF : ∀ e r, sp_of 3 g x y z w e r → Qr (some (.inl e)) (if r = 0 then J else nw_u J 1 0 r, L, W))
    (hS : sp_oo 3 g x y z w → ∀ J' L', sp_fr 2 54 J J' → sp_fr 2 2 L L' → RC J' L' (sp_og 3 g x y z w) → Qr (some (.inl (sp_ov 3 g x y))) (J', L', W)) : NW sc d_X0_enlistMoon D (0, [some (.inr (.inl (some 1))), some (.inl x), some (.inl y), some (.inl z), some (.inl w), none, none, none], [], (J, L, W), c, sl) Qr Qx := by
  have F0 : ∀ e, sp_of 3 g x y z w e 0 → Qr (some (.inl e)) (J, L, W) := fun e h => by
    have := hF e 0 h
    rw [if_pos rfl] at this
    exact this
  exact t_X0_enlistMoon hR hI hD (fun e h => F0 e ⟨rfl, h⟩) (fun h J1 fr R => hS h J1 L (fr.mono (by decide) (by decide)) sp_fr.refl R)
theorem t_c4 {x y : Int} (hR : RC J L g) (hI : Inv g B) (hFu : sp_fut g) (hB : B + 200 ≤ 4000000) (hD : 3 ≤ D)
    (hF : ∀ e r, sp_of 4 g x y 0 0 e r → Qr (some (.inl e)) (if r = 0 then J else nw_u J 1 0 r, L, W))
    (hS : sp_oo 4 g x y 0 0 → ∀ J' L', sp_fr 2 54 J J' → sp_fr 2 2 L L' → RC J' L' (sp_og 4 g x y 0 0) → Qr (some (.inl (sp_ov 4 g x y))) (J', L', W)) : NW sc d_X0_beginPassage D (0, [some (.inr (.inl (some 1))), some (.inl x), some (.inl y), none], [], (J, L, W), c, sl) Qr Qx := by
  exact t_X0_beginPassage hR hI hD (fun e r h => hF e r h) (fun h J1 fr R => hS h J1 L (fr.mono (by decide) (by decide)) sp_fr.refl R)
theorem t_c5 {x y : Int} (hR : RC J L g) (hI : Inv g B) (hFu : sp_fut g) (hB : B + 200 ≤ 4000000) (hD : 3 ≤ D)
    (hF : ∀ e r, sp_of 5 g x y 0 0 e r → Qr (some (.inl e)) (if r = 0 then J else nw_u J 1 0 r, L, W))
    (hS : sp_oo 5 g x y 0 0 → ∀ J' L', sp_fr 2 54 J J' → sp_fr 2 2 L L' → RC J' L' (sp_og 5 g x y 0 0) → Qr (some (.inl (sp_ov 5 g x y))) (J', L', W)) : NW sc d_X0_takeAboard D (0, [some (.inr (.inl (some 1))), some (.inl x), some (.inl y), none, none], [], (J, L, W), c, sl) Qr Qx := by
  exact t_X0_takeAboard hR hI hD (fun e r h => hF e r h) (fun h J1 fr R => hS h J1 L (fr.mono (by decide) (by decide)) sp_fr.refl R)
theorem t_c6 {x : Int} (hR : RC J L g) (hI : Inv g B) (hFu : sp_fut g) (hB : B + 200 ≤ 4000000) (hD : 3 ≤ D)
    (hF : ∀ e r, sp_of 6 g x 0 0 0 e r → Qr (some (.inl e)) (if r = 0 then J else nw_u J 1 0 r, L, W))
    (hS : sp_oo 6 g x 0 0 0 → ∀ J' L', sp_fr 2 54 J J' → sp_fr 2 2 L L' → RC J' L' (sp_og 6 g x 0 0 0) → Qr (some (.inl (sp_ov 6 g x 0))) (J', L', W)) : NW sc d_X0_putAshore D (0, [some (.inr (.inl (some 1))), some (.inl x), none, none, none, none], [], (J, L, W), c, sl) Qr Qx := by
  have hB2 : B + 144 ≤ 4000000 := by omega
  have F0 : ∀ e, sp_of 6 g x 0 0 0 e 0 → Qr (some (.inl e)) (J, L, W) := fun e h => by
    have := hF e 0 h
    rw [if_pos rfl] at this
    exact this
  exact t_X0_putAshore hR hI hB2 hD (fun e h => F0 e ⟨rfl, h⟩) (fun h J1 L1 fr frl R => hS h J1 L1 (fr.mono (by decide) (by decide)) frl R)
theorem t_c7 {x : Int} (hR : RC J L g) (hI : Inv g B) (hFu : sp_fut g) (hB : B + 200 ≤ 4000000) (hD : 14 ≤ D)
    (hF : ∀ e r, sp_of 7 g x 0 0 0 e r → Qr (some (.inl e)) (if r = 0 then J else nw_u J 1 0 r, L, W))
    (hS : sp_oo 7 g x 0 0 0 → ∀ J' L', sp_fr 2 54 J J' → sp_fr 2 2 L L' → RC J' L' (sp_og 7 g x 0 0 0) → Qr (some (.inl (sp_ov 7 g x 0))) (J', L', W)) : NW sc d_X0_takeBestLoad D (0, [some (.inr (.inl (some 1))), some (.inl x), none, none], [], (J, L, W), c, sl) Qr Qx := by
  have F0 : ∀ e, sp_of 7 g x 0 0 0 e 0 → Qr (some (.inl e)) (J, L, W) := fun e h => by
    have := hF e 0 h
    rw [if_pos rfl] at this
    exact this
  exact t_X0_takeBestLoad hR hI hD (fun e h => F0 e ⟨rfl, h⟩) (fun h J1 fr R => hS h J1 L (fr) sp_fr.refl R)
theorem t_c8 {x : Int} (hR : RC J L g) (hI : Inv g B) (hFu : sp_fut g) (hB : B + 200 ≤ 4000000) (hD : 3 ≤ D)
    (hF : ∀ e r, sp_of 8 g x 0 0 0 e r → Qr (some (.inl e)) (if r = 0 then J else nw_u J 1 0 r, L, W))
    (hS : sp_oo 8 g x 0 0 0 → ∀ J' L', sp_fr 2 54 J J' → sp_fr 2 2 L L' → RC J' L' (sp_og 8 g x 0 0 0) → Qr (some (.inl (sp_ov 8 g x 0))) (J', L', W)) : NW sc d_X0_pullFree D (0, [some (.inr (.inl (some 1))), some (.inl x), none, none], [], (J, L, W), c, sl) Qr Qx := by
  have F0 : ∀ e, sp_of 8 g x 0 0 0 e 0 → Qr (some (.inl e)) (J, L, W) := fun e h => by
    have := hF e 0 h
    rw [if_pos rfl] at this
    exact this
  exact t_X0_pullFree hR hI hD (fun e h => F0 e ⟨rfl, h⟩) (fun h J1 L1 fr frl R => hS h J1 L1 (fr.mono (by decide) (by decide)) frl R)
theorem t_c9 {x : Int} (hR : RC J L g) (hI : Inv g B) (hFu : sp_fut g) (hB : B + 200 ≤ 4000000) (hD : 4 ≤ D)
    (hF : ∀ e r, sp_of 9 g x 0 0 0 e r → Qr (some (.inl e)) (if r = 0 then J else nw_u J 1 0 r, L, W))
    (hS : sp_oo 9 g x 0 0 0 → ∀ J' L', sp_fr 2 54 J J' → sp_fr 2 2 L L' → RC J' L' (sp_og 9 g x 0 0 0) → Qr (some (.inl (sp_ov 9 g x 0))) (J', L', W)) : NW sc d_X0_letPass D (0, [some (.inr (.inl (some 1))), some (.inl x), none, none], [], (J, L, W), c, sl) Qr Qx := by
  have F0 : ∀ e, sp_of 9 g x 0 0 0 e 0 → Qr (some (.inl e)) (J, L, W) := fun e h => by
    have := hF e 0 h
    rw [if_pos rfl] at this
    exact this
  exact t_X0_letPass hR hI hFu hB hD (fun h => F0 (-2) ⟨rfl, rfl, h⟩) (fun h1 h2 J1 fr R => hS ⟨h1, h2⟩ J1 L (fr.mono (by decide) (by decide)) sp_fr.refl R)
theorem t_c10 {x : Int} (hR : RC J L g) (hI : Inv g B) (hFu : sp_fut g) (hB : B + 200 ≤ 4000000) (hD : 1 ≤ D)
    (hF : ∀ e r, sp_of 10 g x 0 0 0 e r → Qr (some (.inl e)) (if r = 0 then J else nw_u J 1 0 r, L, W))
    (hS : sp_oo 10 g x 0 0 0 → ∀ J' L', sp_fr 2 54 J J' → sp_fr 2 2 L L' → RC J' L' (sp_og 10 g x 0 0 0) → Qr (some (.inl (sp_ov 10 g x 0))) (J', L', W)) : NW sc d_X0_closeChannel D (0, [some (.inr (.inl (some 1))), some (.inl x)], [], (J, L, W), c, sl) Qr Qx := by
  have F0 : ∀ e, sp_of 10 g x 0 0 0 e 0 → Qr (some (.inl e)) (J, L, W) := fun e h => by
    have := hF e 0 h
    rw [if_pos rfl] at this
    exact this
  exact t_X0_closeChannel hR hI hD (fun e h => F0 e ⟨rfl, h⟩) (fun h J1 fr R => hS h J1 L (fr.mono (by decide) (by decide)) sp_fr.refl R)
end

