/-! the changes, each in the one form -/
section
variable {sc : Nat × (Nat → Int32)} {D : Nat} {J L : Nat → Int → Int} {W : nw_W} {c sl : Nat} {Qr : nw_QR} {Qx : nw_QX} {g : Int → Int} {B : Int}
theorem t_c0 {x : Int} (hR : RC J L g) (hI : Inv g B) (hFu : sp_fut g) (hB : B + 200 ≤ 4000000) (hD : 0 ≤ D)
    (hF : ∀ e r, sp_of 0 g x 0 0 0 e r → Qr (some (.inl e)) (if r = 0 then J else nw_u J 1 0 r, L, W))
    (hS : sp_oo 0 g x 0 0 0 → ∀ J' L', sp_fr 2 54 J J' → sp_fr 2 2 L L' → RC J' L' (sp_og 0 g x 0 0 0) → Qr (some (.inl (sp_ov 0 g x 0))) (J', L', W)) : NW sc d_X0_openCrater D (0, [some (.inr (.inl (some 1))), some (.inl x), none], [], (J, L, W), c, sl) Qr Qx := by
  have F0 : ∀ e, sp_of 0 g x 0 0 0 e 0 → Qr (some (.inl e)) (J, L, W) := fun e h => by
    have := hF e 0 h
    rw [if_pos rfl] at this
    exact this
  exact t_X0_openCrater hR hI (fun e h => F0 e ⟨rfl, h⟩) (fun h J1 fr R => hS h J1 L (fr.mono (by decide) (by decide)) sp_fr.refl R)
theorem t_m0 {x : Int} (hI : Inv (J 304) B) (hFu : sp_fut (J 304)) (hB : B + 200 ≤ 4000000) (hD : 1 ≤ D)
    (hF : ∀ e r, sp_of 0 (J 304) x 0 0 0 e r → Qr (some (.inl 0)) (nw_u (if r = 0 then J else nw_u J 303 10 r) 303 13 (sp_oz 0 e), L, W))
    (hS : sp_oo 0 (J 304) x 0 0 0 → ∀ J', (∀ x, ¬ (x = 304 ∨ x = 310) → J' x = J x) → J' 304 = sp_og 0 (J 304) x 0 0 0 → Qr (some (.inl (sp_ov 0 (J 304) x 0))) (nw_u J' 303 13 0, L, W)) : NW sc d_X12_addsCrater D (0, [some (.inr (.inl (some 303))), some (.inl x)], [], (J, L, W), c, sl) Qr Qx := by
  have F0 : ∀ e k, sp_of 0 (J 304) x 0 0 0 e 0 → k = sp_oz 0 e → Qr (some (.inl 0)) (nw_u J 303 13 k, L, W) := fun e k h hk => by
    have := hF e 0 h
    rw [if_pos rfl] at this
    rw [hk]
    exact this
  exact t_X12_addsCrater hI hD (fun e k h hk => F0 e k ⟨rfl, h⟩ hk) (fun h J1 x1 hg => hS h J1 (fun x a => x1 x (fun e => a (Or.inl e))) hg)
theorem t_c1 {x y z w : Int} (hR : RC J L g) (hI : Inv g B) (hFu : sp_fut g) (hB : B + 200 ≤ 4000000) (hD : 2 ≤ D)
    (hF : ∀ e r, sp_of 1 g x y z w e r → Qr (some (.inl e)) (if r = 0 then J else nw_u J 1 0 r, L, W))
    (hS : sp_oo 1 g x y z w → ∀ J' L', sp_fr 2 54 J J' → sp_fr 2 2 L L' → RC J' L' (sp_og 1 g x y z w) → Qr (some (.inl (sp_ov 1 g x y))) (J', L', W)) : NW sc d_X0_openChannel D (0, [some (.inr (.inl (some 1))), some (.inl x), some (.inl y), some (.inl z), some (.inl w), none, none, none], [], (J, L, W), c, sl) Qr Qx := by
  have F0 : ∀ e, sp_of 1 g x y z w e 0 → Qr (some (.inl e)) (J, L, W) := fun e h => by
    have := hF e 0 h
    rw [if_pos rfl] at this
    exact this
  exact t_X0_openChannel hR hI hD (fun e h => F0 e ⟨rfl, h⟩) (fun h J1 fr R => hS h J1 L (fr.mono (by decide) (by decide)) sp_fr.refl R)
theorem t_m1 {x y z w : Int} (hI : Inv (J 304) B) (hFu : sp_fut (J 304)) (hB : B + 200 ≤ 4000000) (hD : 3 ≤ D)
    (hF : ∀ e r, sp_of 1 (J 304) x y z w e r → Qr (some (.inl 0)) (nw_u (if r = 0 then J else nw_u J 303 10 r) 303 13 (sp_oz 1 e), L, W))
    (hS : sp_oo 1 (J 304) x y z w → ∀ J', (∀ x, ¬ (x = 304 ∨ x = 310) → J' x = J x) → J' 304 = sp_og 1 (J 304) x y z w → Qr (some (.inl (sp_ov 1 (J 304) x y))) (nw_u J' 303 13 0, L, W)) : NW sc d_X12_addsChannel D (0, [some (.inr (.inl (some 303))), some (.inl x), some (.inl y), some (.inl z), some (.inl w), none], [], (J, L, W), c, sl) Qr Qx := by
  have F0 : ∀ e k, sp_of 1 (J 304) x y z w e 0 → k = sp_oz 1 e → Qr (some (.inl 0)) (nw_u J 303 13 k, L, W) := fun e k h hk => by
    have := hF e 0 h
    rw [if_pos rfl] at this
    rw [hk]
    exact this
  exact t_X12_addsChannel hI hD (fun e k h hk => F0 e k ⟨rfl, h⟩ hk) (fun h J1 x1 hg => hS h J1 (fun x a => x1 x (fun e => a (Or.inl e))) hg)
theorem t_c2 {x y z : Int} (hR : RC J L g) (hI : Inv g B) (hFu : sp_fut g) (hB : B + 200 ≤ 4000000) (hD : 1 ≤ D)
    (hF : ∀ e r, sp_of 2 g x y z 0 e r → Qr (some (.inl e)) (if r = 0 then J else nw_u J 1 0 r, L, W))
    (hS : sp_oo 2 g x y z 0 → ∀ J' L', sp_fr 2 54 J J' → sp_fr 2 2 L L' → RC J' L' (sp_og 2 g x y z 0) → Qr (some (.inl (sp_ov 2 g x y))) (J', L', W)) : NW sc d_X0_enlistFerry D (0, [some (.inr (.inl (some 1))), some (.inl x), some (.inl y), some (.inl z), none, none, none], [], (J, L, W), c, sl) Qr Qx := by
  have F0 : ∀ e, sp_of 2 g x y z 0 e 0 → Qr (some (.inl e)) (J, L, W) := fun e h => by
    have := hF e 0 h
    rw [if_pos rfl] at this
    exact this
  exact t_X0_enlistFerry hR hI hD (fun e h => F0 e ⟨rfl, h⟩) (fun h J1 fr R => hS h J1 L (fr.mono (by decide) (by decide)) sp_fr.refl R)
theorem t_m2 {x y z : Int} (hI : Inv (J 304) B) (hFu : sp_fut (J 304)) (hB : B + 200 ≤ 4000000) (hD : 2 ≤ D)
    (hF : ∀ e r, sp_of 2 (J 304) x y z 0 e r → Qr (some (.inl 0)) (nw_u (if r = 0 then J else nw_u J 303 10 r) 303 13 (sp_oz 2 e), L, W))
    (hS : sp_oo 2 (J 304) x y z 0 → ∀ J', (∀ x, ¬ (x = 304 ∨ x = 310) → J' x = J x) → J' 304 = sp_og 2 (J 304) x y z 0 → Qr (some (.inl (sp_ov 2 (J 304) x y))) (nw_u J' 303 13 0, L, W)) : NW sc d_X12_addsFerry D (0, [some (.inr (.inl (some 303))), some (.inl x), some (.inl y), some (.inl z), none], [], (J, L, W), c, sl) Qr Qx := by
  have F0 : ∀ e k, sp_of 2 (J 304) x y z 0 e 0 → k = sp_oz 2 e → Qr (some (.inl 0)) (nw_u J 303 13 k, L, W) := fun e k h hk => by
    have := hF e 0 h
    rw [if_pos rfl] at this
    rw [hk]
    exact this
  exact t_X12_addsFerry hI hD (fun e k h hk => F0 e k ⟨rfl, h⟩ hk) (fun h J1 x1 hg => hS h J1 (fun x a => x1 x (fun e => a (Or.inl e))) hg)
theorem t_c3 {x y z w : Int} (hR : RC J L g) (hI : Inv g B) (hFu : sp_fut g) (hB : B + 200 ≤ 4000000) (hD : 1 ≤ D)
    (hF : ∀ e r, sp_of 3 g x y z w e r → Qr (some (.inl e)) (if r = 0 then J else nw_u J 1 0 r, L, W))
    (hS : sp_oo 3 g x y z w → ∀ J' L', sp_fr 2 54 J J' → sp_fr 2 2 L L' → RC J' L' (sp_og 3 g x y z w) → Qr (some (.inl (sp_ov 3 g x y))) (J', L', W)) : NW sc d_X0_enlistMoon D (0, [some (.inr (.inl (some 1))), some (.inl x), some (.inl y), some (.inl z), some (.inl w), none, none, none], [], (J, L, W), c, sl) Qr Qx := by
  have F0 : ∀ e, sp_of 3 g x y z w e 0 → Qr (some (.inl e)) (J, L, W) := fun e h => by
    have := hF e 0 h
    rw [if_pos rfl] at this
    exact this
  exact t_X0_enlistMoon hR hI hD (fun e h => F0 e ⟨rfl, h⟩) (fun h J1 fr R => hS h J1 L (fr.mono (by decide) (by decide)) sp_fr.refl R)
theorem t_m3 {x y z w : Int} (hI : Inv (J 304) B) (hFu : sp_fut (J 304)) (hB : B + 200 ≤ 4000000) (hD : 3 ≤ D)
    (hF : ∀ e r, sp_of 3 (J 304) x y z w e r → Qr (some (.inl 0)) (nw_u (if r = 0 then J else nw_u J 303 10 r) 303 13 (sp_oz 3 e), L, W))
    (hS : sp_oo 3 (J 304) x y z w → ∀ J', (∀ x, ¬ (x = 304 ∨ x = 310) → J' x = J x) → J' 304 = sp_og 3 (J 304) x y z w → Qr (some (.inl (sp_ov 3 (J 304) x y))) (nw_u J' 303 13 0, L, W)) : NW sc d_X12_addsMoon D (0, [some (.inr (.inl (some 303))), some (.inl x), some (.inl y), some (.inl z), some (.inl w), none], [], (J, L, W), c, sl) Qr Qx := by
  have F0 : ∀ e k, sp_of 3 (J 304) x y z w e 0 → k = sp_oz 3 e → Qr (some (.inl 0)) (nw_u J 303 13 k, L, W) := fun e k h hk => by
    have := hF e 0 h
    rw [if_pos rfl] at this
    rw [hk]
    exact this
  exact t_X12_addsMoon hI hD (fun e k h hk => F0 e k ⟨rfl, h⟩ hk) (fun h J1 x1 hg => hS h J1 (fun x a => x1 x (fun e => a (Or.inl e))) hg)
theorem t_c4 {x y : Int} (hR : RC J L g) (hI : Inv g B) (hFu : sp_fut g) (hB : B + 200 ≤ 4000000) (hD : 3 ≤ D)
    (hF : ∀ e r, sp_of 4 g x y 0 0 e r → Qr (some (.inl e)) (if r = 0 then J else nw_u J 1 0 r, L, W))
    (hS : sp_oo 4 g x y 0 0 → ∀ J' L', sp_fr 2 54 J J' → sp_fr 2 2 L L' → RC J' L' (sp_og 4 g x y 0 0) → Qr (some (.inl (sp_ov 4 g x y))) (J', L', W)) : NW sc d_X0_beginPassage D (0, [some (.inr (.inl (some 1))), some (.inl x), some (.inl y), none], [], (J, L, W), c, sl) Qr Qx := by
  exact t_X0_beginPassage hR hI hD (fun e r h => hF e r h) (fun h J1 fr R => hS h J1 L (fr.mono (by decide) (by decide)) sp_fr.refl R)
theorem t_m4 {x y : Int} (hI : Inv (J 304) B) (hFu : sp_fut (J 304)) (hB : B + 200 ≤ 4000000) (hD : 3 ≤ D)
    (hF : ∀ e r, sp_of 4 (J 304) x y 0 0 e r → Qr (some (.inl 0)) (nw_u (if r = 0 then J else nw_u J 303 10 r) 303 13 (sp_oz 4 e), L, W))
    (hS : sp_oo 4 (J 304) x y 0 0 → ∀ J', (∀ x, ¬ (x = 304 ∨ x = 310) → J' x = J x) → J' 304 = sp_og 4 (J 304) x y 0 0 → Qr (some (.inl (sp_ov 4 (J 304) x y))) (nw_u J' 303 13 0, L, W)) : NW sc d_X12_sailsTo D (0, [some (.inr (.inl (some 303))), some (.inl x), some (.inl y), none], [], (J, L, W), c, sl) Qr Qx := by
  exact t_X12_sailsTo hI hD (fun e r k h hk => by
    have := hF e r h
    rw [hk]
    exact this) (fun h J1 x1 hg => hS h J1 (fun x a => x1 x (fun e => a (Or.inl e))) hg)
theorem t_c5 {x y : Int} (hR : RC J L g) (hI : Inv g B) (hFu : sp_fut g) (hB : B + 200 ≤ 4000000) (hD : 3 ≤ D)
    (hF : ∀ e r, sp_of 5 g x y 0 0 e r → Qr (some (.inl e)) (if r = 0 then J else nw_u J 1 0 r, L, W))
    (hS : sp_oo 5 g x y 0 0 → ∀ J' L', sp_fr 2 54 J J' → sp_fr 2 2 L L' → RC J' L' (sp_og 5 g x y 0 0) → Qr (some (.inl (sp_ov 5 g x y))) (J', L', W)) : NW sc d_X0_takeAboard D (0, [some (.inr (.inl (some 1))), some (.inl x), some (.inl y), none, none], [], (J, L, W), c, sl) Qr Qx := by
  exact t_X0_takeAboard hR hI hD (fun e r h => hF e r h) (fun h J1 fr R => hS h J1 L (fr.mono (by decide) (by decide)) sp_fr.refl R)
theorem t_m5 {x y : Int} (hI : Inv (J 304) B) (hFu : sp_fut (J 304)) (hB : B + 200 ≤ 4000000) (hD : 3 ≤ D)
    (hF : ∀ e r, sp_of 5 (J 304) x y 0 0 e r → Qr (some (.inl 0)) (nw_u (if r = 0 then J else nw_u J 303 10 r) 303 13 (sp_oz 5 e), L, W))
    (hS : sp_oo 5 (J 304) x y 0 0 → ∀ J', (∀ x, ¬ (x = 304 ∨ x = 310) → J' x = J x) → J' 304 = sp_og 5 (J 304) x y 0 0 → Qr (some (.inl (sp_ov 5 (J 304) x y))) (nw_u J' 303 13 0, L, W)) : NW sc d_X12_boards D (0, [some (.inr (.inl (some 303))), some (.inl x), some (.inl y), none], [], (J, L, W), c, sl) Qr Qx := by
  exact t_X12_boards hI hD (fun e r k h hk => by
    have := hF e r h
    rw [hk]
    exact this) (fun h J1 x1 hg => hS h J1 (fun x a => x1 x (fun e => a (Or.inl e))) hg)
theorem t_c6 {x : Int} (hR : RC J L g) (hI : Inv g B) (hFu : sp_fut g) (hB : B + 200 ≤ 4000000) (hD : 3 ≤ D)
    (hF : ∀ e r, sp_of 6 g x 0 0 0 e r → Qr (some (.inl e)) (if r = 0 then J else nw_u J 1 0 r, L, W))
    (hS : sp_oo 6 g x 0 0 0 → ∀ J' L', sp_fr 2 54 J J' → sp_fr 2 2 L L' → RC J' L' (sp_og 6 g x 0 0 0) → Qr (some (.inl (sp_ov 6 g x 0))) (J', L', W)) : NW sc d_X0_putAshore D (0, [some (.inr (.inl (some 1))), some (.inl x), none, none, none, none], [], (J, L, W), c, sl) Qr Qx := by
  have hB2 : B + 144 ≤ 4000000 := by omega
  have F0 : ∀ e, sp_of 6 g x 0 0 0 e 0 → Qr (some (.inl e)) (J, L, W) := fun e h => by
    have := hF e 0 h
    rw [if_pos rfl] at this
    exact this
  exact t_X0_putAshore hR hI hB2 hD (fun e h => F0 e ⟨rfl, h⟩) (fun h J1 L1 fr frl R => hS h J1 L1 (fr.mono (by decide) (by decide)) frl R)
theorem t_m6 {x : Int} (hI : Inv (J 304) B) (hFu : sp_fut (J 304)) (hB : B + 200 ≤ 4000000) (hD : 3 ≤ D)
    (hF : ∀ e r, sp_of 6 (J 304) x 0 0 0 e r → Qr (some (.inl 0)) (nw_u (if r = 0 then J else nw_u J 303 10 r) 303 13 (sp_oz 6 e), L, W))
    (hS : sp_oo 6 (J 304) x 0 0 0 → ∀ J', (∀ x, ¬ (x = 304 ∨ x = 310) → J' x = J x) → J' 304 = sp_og 6 (J 304) x 0 0 0 → Qr (some (.inl (sp_ov 6 (J 304) x 0))) (nw_u J' 303 13 0, L, W)) : NW sc d_X12_lands D (0, [some (.inr (.inl (some 303))), some (.inl x), none, none, none], [], (J, L, W), c, sl) Qr Qx := by
  have hB2 : B + 144 ≤ 4000000 := by omega
  have F0 : ∀ e k, sp_of 6 (J 304) x 0 0 0 e 0 → k = sp_oz 6 e → Qr (some (.inl 0)) (nw_u J 303 13 k, L, W) := fun e k h hk => by
    have := hF e 0 h
    rw [if_pos rfl] at this
    rw [hk]
    exact this
  exact t_X12_lands hI hB2 hD (fun e k h hk => F0 e k ⟨rfl, h⟩ hk) (fun h J1 x1 hg => hS h J1 x1 hg)
theorem t_c7 {x : Int} (hR : RC J L g) (hI : Inv g B) (hFu : sp_fut g) (hB : B + 200 ≤ 4000000) (hD : 14 ≤ D)
    (hF : ∀ e r, sp_of 7 g x 0 0 0 e r → Qr (some (.inl e)) (if r = 0 then J else nw_u J 1 0 r, L, W))
    (hS : sp_oo 7 g x 0 0 0 → ∀ J' L', sp_fr 2 54 J J' → sp_fr 2 2 L L' → RC J' L' (sp_og 7 g x 0 0 0) → Qr (some (.inl (sp_ov 7 g x 0))) (J', L', W)) : NW sc d_X0_takeBestLoad D (0, [some (.inr (.inl (some 1))), some (.inl x), none, none], [], (J, L, W), c, sl) Qr Qx := by
  have F0 : ∀ e, sp_of 7 g x 0 0 0 e 0 → Qr (some (.inl e)) (J, L, W) := fun e h => by
    have := hF e 0 h
    rw [if_pos rfl] at this
    exact this
  exact t_X0_takeBestLoad hR hI hD (fun e h => F0 e ⟨rfl, h⟩) (fun h J1 fr R => hS h J1 L (fr) sp_fr.refl R)
theorem t_m7 {x : Int} (hI : Inv (J 304) B) (hFu : sp_fut (J 304)) (hB : B + 200 ≤ 4000000) (hD : 3 ≤ D)
    (hF : ∀ e r, sp_of 7 (J 304) x 0 0 0 e r → Qr (some (.inl 0)) (nw_u (if r = 0 then J else nw_u J 303 10 r) 303 13 (sp_oz 7 e), L, W))
    (hS : sp_oo 7 (J 304) x 0 0 0 → ∀ J', (∀ x, ¬ (x = 304 ∨ x = 310) → J' x = J x) → J' 304 = sp_og 7 (J 304) x 0 0 0 → Qr (some (.inl (sp_ov 7 (J 304) x 0))) (nw_u J' 303 13 0, L, W)) : NW sc d_X12_loads D (0, [some (.inr (.inl (some 303))), some (.inl x), none, none, none], [], (J, L, W), c, sl) Qr Qx := by
  have F0 : ∀ e k, sp_of 7 (J 304) x 0 0 0 e 0 → k = sp_oz 7 e → Qr (some (.inl 0)) (nw_u J 303 13 k, L, W) := fun e k h hk => by
    have := hF e 0 h
    rw [if_pos rfl] at this
    rw [hk]
    exact this
  exact t_X12_loads hI hD (fun e k h hk => F0 e k ⟨rfl, h⟩ hk) (fun h J1 x1 hg => hS h J1 x1 hg)
theorem t_c8 {x : Int} (hR : RC J L g) (hI : Inv g B) (hFu : sp_fut g) (hB : B + 200 ≤ 4000000) (hD : 3 ≤ D)
    (hF : ∀ e r, sp_of 8 g x 0 0 0 e r → Qr (some (.inl e)) (if r = 0 then J else nw_u J 1 0 r, L, W))
    (hS : sp_oo 8 g x 0 0 0 → ∀ J' L', sp_fr 2 54 J J' → sp_fr 2 2 L L' → RC J' L' (sp_og 8 g x 0 0 0) → Qr (some (.inl (sp_ov 8 g x 0))) (J', L', W)) : NW sc d_X0_pullFree D (0, [some (.inr (.inl (some 1))), some (.inl x), none, none], [], (J, L, W), c, sl) Qr Qx := by
  have F0 : ∀ e, sp_of 8 g x 0 0 0 e 0 → Qr (some (.inl e)) (J, L, W) := fun e h => by
    have := hF e 0 h
    rw [if_pos rfl] at this
    exact this
  exact t_X0_pullFree hR hI hD (fun e h => F0 e ⟨rfl, h⟩) (fun h J1 L1 fr frl R => hS h J1 L1 (fr.mono (by decide) (by decide)) frl R)
theorem t_m8 {x : Int} (hI : Inv (J 304) B) (hFu : sp_fut (J 304)) (hB : B + 200 ≤ 4000000) (hD : 3 ≤ D)
    (hF : ∀ e r, sp_of 8 (J 304) x 0 0 0 e r → Qr (some (.inl 0)) (nw_u (if r = 0 then J else nw_u J 303 10 r) 303 13 (sp_oz 8 e), L, W))
    (hS : sp_oo 8 (J 304) x 0 0 0 → ∀ J', (∀ x, ¬ (x = 304 ∨ x = 310) → J' x = J x) → J' 304 = sp_og 8 (J 304) x 0 0 0 → Qr (some (.inl (sp_ov 8 (J 304) x 0))) (nw_u J' 303 13 0, L, W)) : NW sc d_X12_rescues D (0, [some (.inr (.inl (some 303))), some (.inl x), none, none], [], (J, L, W), c, sl) Qr Qx := by
  have F0 : ∀ e k, sp_of 8 (J 304) x 0 0 0 e 0 → k = sp_oz 8 e → Qr (some (.inl 0)) (nw_u J 303 13 k, L, W) := fun e k h hk => by
    have := hF e 0 h
    rw [if_pos rfl] at this
    rw [hk]
    exact this
  exact t_X12_rescues hI hD (fun e k h hk => F0 e k ⟨rfl, h⟩ hk) (fun h J1 x1 hg => hS h J1 (fun x a => x1 x (fun e => a (Or.inl e))) hg)
theorem t_c9 {x : Int} (hR : RC J L g) (hI : Inv g B) (hFu : sp_fut g) (hB : B + 200 ≤ 4000000) (hD : 4 ≤ D)
    (hF : ∀ e r, sp_of 9 g x 0 0 0 e r → Qr (some (.inl e)) (if r = 0 then J else nw_u J 1 0 r, L, W))
    (hS : sp_oo 9 g x 0 0 0 → ∀ J' L', sp_fr 2 54 J J' → sp_fr 2 2 L L' → RC J' L' (sp_og 9 g x 0 0 0) → Qr (some (.inl (sp_ov 9 g x 0))) (J', L', W)) : NW sc d_X0_letPass D (0, [some (.inr (.inl (some 1))), some (.inl x), none, none], [], (J, L, W), c, sl) Qr Qx := by
  have F0 : ∀ e, sp_of 9 g x 0 0 0 e 0 → Qr (some (.inl e)) (J, L, W) := fun e h => by
    have := hF e 0 h
    rw [if_pos rfl] at this
    exact this
  exact t_X0_letPass hR hI hFu hB hD (fun h => F0 (-2) ⟨rfl, rfl, h⟩) (fun h1 h2 J1 fr R => hS ⟨h1, h2⟩ J1 L (fr.mono (by decide) (by decide)) sp_fr.refl R)
theorem t_m9 {x : Int} (hI : Inv (J 304) B) (hFu : sp_fut (J 304)) (hB : B + 200 ≤ 4000000) (hD : 4 ≤ D)
    (hF : ∀ e r, sp_of 9 (J 304) x 0 0 0 e r → Qr (some (.inl 0)) (nw_u (if r = 0 then J else nw_u J 303 10 r) 303 13 (sp_oz 9 e), L, W))
    (hS : sp_oo 9 (J 304) x 0 0 0 → ∀ J', (∀ x, ¬ (x = 304 ∨ x = 310) → J' x = J x) → J' 304 = sp_og 9 (J 304) x 0 0 0 → Qr (some (.inl (sp_ov 9 (J 304) x 0))) (nw_u J' 303 13 0, L, W)) : NW sc d_X12_passes D (0, [some (.inr (.inl (some 303))), some (.inl x), none, none], [], (J, L, W), c, sl) Qr Qx := by
  have F0 : ∀ e k, sp_of 9 (J 304) x 0 0 0 e 0 → k = sp_oz 9 e → Qr (some (.inl 0)) (nw_u J 303 13 k, L, W) := fun e k h hk => by
    have := hF e 0 h
    rw [if_pos rfl] at this
    rw [hk]
    exact this
  exact t_X12_passes hI hFu hB hD (fun h => F0 (-2) 1 ⟨rfl, rfl, h⟩ rfl) (fun h1 h2 J1 x1 h => hS ⟨h1, h2⟩ J1 (fun x a => x1 x (fun e => a (Or.inl e))) h)
theorem t_c10 {x : Int} (hR : RC J L g) (hI : Inv g B) (hFu : sp_fut g) (hB : B + 200 ≤ 4000000) (hD : 1 ≤ D)
    (hF : ∀ e r, sp_of 10 g x 0 0 0 e r → Qr (some (.inl e)) (if r = 0 then J else nw_u J 1 0 r, L, W))
    (hS : sp_oo 10 g x 0 0 0 → ∀ J' L', sp_fr 2 54 J J' → sp_fr 2 2 L L' → RC J' L' (sp_og 10 g x 0 0 0) → Qr (some (.inl (sp_ov 10 g x 0))) (J', L', W)) : NW sc d_X0_closeChannel D (0, [some (.inr (.inl (some 1))), some (.inl x)], [], (J, L, W), c, sl) Qr Qx := by
  have F0 : ∀ e, sp_of 10 g x 0 0 0 e 0 → Qr (some (.inl e)) (J, L, W) := fun e h => by
    have := hF e 0 h
    rw [if_pos rfl] at this
    exact this
  exact t_X0_closeChannel hR hI hD (fun e h => F0 e ⟨rfl, h⟩) (fun h J1 fr R => hS h J1 L (fr.mono (by decide) (by decide)) sp_fr.refl R)
theorem t_m10 {x : Int} (hI : Inv (J 304) B) (hFu : sp_fut (J 304)) (hB : B + 200 ≤ 4000000) (hD : 1 ≤ D)
    (hF : ∀ e r, sp_of 10 (J 304) x 0 0 0 e r → Qr (some (.inl 0)) (nw_u (if r = 0 then J else nw_u J 303 10 r) 303 13 (sp_oz 10 e), L, W))
    (hS : sp_oo 10 (J 304) x 0 0 0 → ∀ J', (∀ x, ¬ (x = 304 ∨ x = 310) → J' x = J x) → J' 304 = sp_og 10 (J 304) x 0 0 0 → Qr (some (.inl (sp_ov 10 (J 304) x 0))) (nw_u J' 303 13 0, L, W)) : NW sc d_X12_removesChannel D (0, [some (.inr (.inl (some 303))), some (.inl x), none, none], [], (J, L, W), c, sl) Qr Qx := by
  have F0 : ∀ e k, sp_of 10 (J 304) x 0 0 0 e 0 → k = sp_oz 10 e → Qr (some (.inl 0)) (nw_u J 303 13 k, L, W) := fun e k h hk => by
    have := hF e 0 h
    rw [if_pos rfl] at this
    rw [hk]
    exact this
  exact t_X12_removesChannel hI hD (fun e k h hk => F0 e k ⟨rfl, h⟩ hk) (fun h J1 x1 hg => hS h J1 (fun x a => x1 x (fun e => a (Or.inl e))) hg)
end
