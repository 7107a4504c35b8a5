/-! tables of least hours: contracts -/
section
variable {sc : Nat × (Nat → Int32)} {D : Nat} {J L : Nat → Int → Int} {W : nw_W} {c sl : Nat} {Qr : nw_QR} {Qx : nw_QX} {g : Int → Int} {B : Int}
def sp_enc (v : Int) : Int := if v = 10000 then -1 else v
theorem sp_T_col {g : Int → Int} {B : Int} (hI : Inv g B) (m : Nat) (i : Int) : sp_T g (m + 1) i m = sp_T g m i m := by
  have h1 := (sp_T_ii hI m m).1
  rw [sp_T_s, if_neg (by omega)]
theorem sp_T_row {g : Int → Int} {B : Int} (hI : Inv g B) (m : Nat) (j : Int) : sp_T g (m + 1) m j = sp_T g m m j := by
  have h1 := (sp_T_ii hI m m).1
  rw [sp_T_s, if_neg (by omega)]
theorem t_fill_30 {v : Int} (hQ : ∀ J', (∀ x, ¬ x = 30 → J' x = J x) → (∀ i, 0 ≤ i → i < 6 → J' 30 i = v) → Qr none (J', L, W)) : NW sc d_J7_fill_53178 D (0, [some (.inr (.inl (some 30))), some (.inl v), none, none], [], (J, L, W), c, sl) Qr Qx := by
  have lp : ∀ (m : Nat) (i : Int) (J1 : Nat → Int → Int), 0 ≤ i → (6 - i).toNat = m → (∀ x, ¬ x = 30 → J1 x = J x) → (∀ k, 0 ≤ k → k < i → J1 30 k = v) → NW sc d_J7_fill_53178 D (5, [some (.inr (.inl (some 30))), some (.inl v), some (.inl i), some (.inl 6)], [], (J1, L, W), c, sl) Qr Qx := by
    intro r9
    induction r9 using Nat.strongRecOn with
    | ind r9 ih =>
      intro i J1 h0 hm hx hj
      refine b_J7_fill_53178_30_5 ⟨fun q => hQ J1 hx (fun k a b => hj k a (by omega)), fun q => ⟨by omega, by omega, ih _ (by omega) (i + 1) _ (by omega) rfl (fun x z => by rw [nw_uP z]; exact hx x z) (fun k a b => ?_)⟩⟩
      rw [nw_u304]
      by_cases z : k = i
      · rw [z, sp_set_eq]
      · rw [sp_set_ne z]
        exact hj k a (by omega)
  exact b_J7_fill_53178_30_0 (lp _ 0 J (by omega) rfl (fun _ _ => rfl) (fun k a b => by omega))
theorem t_fill_38 {v : Int} (hQ : ∀ J', (∀ x, ¬ x = 38 → J' x = J x) → (∀ i, 0 ≤ i → i < 6 → J' 38 i = v) → Qr none (J', L, W)) : NW sc d_J7_fill_53178 D (0, [some (.inr (.inl (some 38))), some (.inl v), none, none], [], (J, L, W), c, sl) Qr Qx := by
  have lp : ∀ (m : Nat) (i : Int) (J1 : Nat → Int → Int), 0 ≤ i → (6 - i).toNat = m → (∀ x, ¬ x = 38 → J1 x = J x) → (∀ k, 0 ≤ k → k < i → J1 38 k = v) → NW sc d_J7_fill_53178 D (5, [some (.inr (.inl (some 38))), some (.inl v), some (.inl i), some (.inl 6)], [], (J1, L, W), c, sl) Qr Qx := by
    intro r9
    induction r9 using Nat.strongRecOn with
    | ind r9 ih =>
      intro i J1 h0 hm hx hj
      refine b_J7_fill_53178_38_5 ⟨fun q => hQ J1 hx (fun k a b => hj k a (by omega)), fun q => ⟨by omega, by omega, ih _ (by omega) (i + 1) _ (by omega) rfl (fun x z => by rw [nw_uP z]; exact hx x z) (fun k a b => ?_)⟩⟩
      rw [nw_u304]
      by_cases z : k = i
      · rw [z, sp_set_eq]
      · rw [sp_set_ne z]
        exact hj k a (by omega)
  exact b_J7_fill_53178_38_0 (lp _ 0 J (by omega) rfl (fun _ _ => rfl) (fun k a b => by omega))
theorem t_fill_39 {v : Int} (hQ : ∀ J', (∀ x, ¬ x = 39 → J' x = J x) → (∀ i, 0 ≤ i → i < 6 → J' 39 i = v) → Qr none (J', L, W)) : NW sc d_J7_fill_53178 D (0, [some (.inr (.inl (some 39))), some (.inl v), none, none], [], (J, L, W), c, sl) Qr Qx := by
  have lp : ∀ (m : Nat) (i : Int) (J1 : Nat → Int → Int), 0 ≤ i → (6 - i).toNat = m → (∀ x, ¬ x = 39 → J1 x = J x) → (∀ k, 0 ≤ k → k < i → J1 39 k = v) → NW sc d_J7_fill_53178 D (5, [some (.inr (.inl (some 39))), some (.inl v), some (.inl i), some (.inl 6)], [], (J1, L, W), c, sl) Qr Qx := by
    intro r9
    induction r9 using Nat.strongRecOn with
    | ind r9 ih =>
      intro i J1 h0 hm hx hj
      refine b_J7_fill_53178_39_5 ⟨fun q => hQ J1 hx (fun k a b => hj k a (by omega)), fun q => ⟨by omega, by omega, ih _ (by omega) (i + 1) _ (by omega) rfl (fun x z => by rw [nw_uP z]; exact hx x z) (fun k a b => ?_)⟩⟩
      rw [nw_u304]
      by_cases z : k = i
      · rw [z, sp_set_eq]
      · rw [sp_set_ne z]
        exact hj k a (by omega)
  exact b_J7_fill_53178_39_0 (lp _ 0 J (by omega) rfl (fun _ _ => rfl) (fun k a b => by omega))
theorem t_fill_45 {v : Int} (hQ : ∀ J', (∀ x, ¬ x = 45 → J' x = J x) → (∀ i, 0 ≤ i → i < 100 → J' 45 i = v) → Qr none (J', L, W)) : NW sc d_J7_fill_53178 D (0, [some (.inr (.inl (some 45))), some (.inl v), none, none], [], (J, L, W), c, sl) Qr Qx := by
  have lp : ∀ (m : Nat) (i : Int) (J1 : Nat → Int → Int), 0 ≤ i → (100 - i).toNat = m → (∀ x, ¬ x = 45 → J1 x = J x) → (∀ k, 0 ≤ k → k < i → J1 45 k = v) → NW sc d_J7_fill_53178 D (5, [some (.inr (.inl (some 45))), some (.inl v), some (.inl i), some (.inl 100)], [], (J1, L, W), c, sl) Qr Qx := by
    intro r9
    induction r9 using Nat.strongRecOn with
    | ind r9 ih =>
      intro i J1 h0 hm hx hj
      refine b_J7_fill_53178_45_5 ⟨fun q => hQ J1 hx (fun k a b => hj k a (by omega)), fun q => ⟨by omega, by omega, ih _ (by omega) (i + 1) _ (by omega) rfl (fun x z => by rw [nw_uP z]; exact hx x z) (fun k a b => ?_)⟩⟩
      rw [nw_u304]
      by_cases z : k = i
      · rw [z, sp_set_eq]
      · rw [sp_set_ne z]
        exact hj k a (by omega)
  exact b_J7_fill_53178_45_0 (lp _ 0 J (by omega) rfl (fun _ _ => rfl) (fun k a b => by omega))
theorem t_fill_54 {v : Int} (hQ : ∀ J', (∀ x, ¬ x = 54 → J' x = J x) → (∀ i, 0 ≤ i → i < 100 → J' 54 i = v) → Qr none (J', L, W)) : NW sc d_J7_fill_53178 D (0, [some (.inr (.inl (some 54))), some (.inl v), none, none], [], (J, L, W), c, sl) Qr Qx := by
  have lp : ∀ (m : Nat) (i : Int) (J1 : Nat → Int → Int), 0 ≤ i → (100 - i).toNat = m → (∀ x, ¬ x = 54 → J1 x = J x) → (∀ k, 0 ≤ k → k < i → J1 54 k = v) → NW sc d_J7_fill_53178 D (5, [some (.inr (.inl (some 54))), some (.inl v), some (.inl i), some (.inl 100)], [], (J1, L, W), c, sl) Qr Qx := by
    intro r9
    induction r9 using Nat.strongRecOn with
    | ind r9 ih =>
      intro i J1 h0 hm hx hj
      refine b_J7_fill_53178_54_5 ⟨fun q => hQ J1 hx (fun k a b => hj k a (by omega)), fun q => ⟨by omega, by omega, ih _ (by omega) (i + 1) _ (by omega) rfl (fun x z => by rw [nw_uP z]; exact hx x z) (fun k a b => ?_)⟩⟩
      rw [nw_u304]
      by_cases z : k = i
      · rw [z, sp_set_eq]
      · rw [sp_set_ne z]
        exact hj k a (by omega)
  exact b_J7_fill_53178_54_0 (lp _ 0 J (by omega) rfl (fun _ _ => rfl) (fun k a b => by omega))
theorem t_fill_32 {v : Int} (hQ : ∀ J', (∀ x, ¬ x = 32 → J' x = J x) → (∀ i, 0 ≤ i → i < 6 → J' 32 i = v) → Qr none (J', L, W)) : NW sc d_J7_fill_53178 D (0, [some (.inr (.inl (some 32))), some (.inl v), none, none], [], (J, L, W), c, sl) Qr Qx := by
  have lp : ∀ (m : Nat) (i : Int) (J1 : Nat → Int → Int), 0 ≤ i → (6 - i).toNat = m → (∀ x, ¬ x = 32 → J1 x = J x) → (∀ k, 0 ≤ k → k < i → J1 32 k = v) → NW sc d_J7_fill_53178 D (5, [some (.inr (.inl (some 32))), some (.inl v), some (.inl i), some (.inl 6)], [], (J1, L, W), c, sl) Qr Qx := by
    intro r9
    induction r9 using Nat.strongRecOn with
    | ind r9 ih =>
      intro i J1 h0 hm hx hj
      refine b_J7_fill_53178_32_5 ⟨fun q => hQ J1 hx (fun k a b => hj k a (by omega)), fun q => ⟨by omega, by omega, ih _ (by omega) (i + 1) _ (by omega) rfl (fun x z => by rw [nw_uP z]; exact hx x z) (fun k a b => ?_)⟩⟩
      rw [nw_u304]
      by_cases z : k = i
      · rw [z, sp_set_eq]
      · rw [sp_set_ne z]
        exact hj k a (by omega)
  exact b_J7_fill_53178_32_0 (lp _ 0 J (by omega) rfl (fun _ _ => rfl) (fun k a b => by omega))
theorem t_fill_33 {v : Int} (hQ : ∀ J', (∀ x, ¬ x = 33 → J' x = J x) → (∀ i, 0 ≤ i → i < 6 → J' 33 i = v) → Qr none (J', L, W)) : NW sc d_J7_fill_53178 D (0, [some (.inr (.inl (some 33))), some (.inl v), none, none], [], (J, L, W), c, sl) Qr Qx := by
  have lp : ∀ (m : Nat) (i : Int) (J1 : Nat → Int → Int), 0 ≤ i → (6 - i).toNat = m → (∀ x, ¬ x = 33 → J1 x = J x) → (∀ k, 0 ≤ k → k < i → J1 33 k = v) → NW sc d_J7_fill_53178 D (5, [some (.inr (.inl (some 33))), some (.inl v), some (.inl i), some (.inl 6)], [], (J1, L, W), c, sl) Qr Qx := by
    intro r9
    induction r9 using Nat.strongRecOn with
    | ind r9 ih =>
      intro i J1 h0 hm hx hj
      refine b_J7_fill_53178_33_5 ⟨fun q => hQ J1 hx (fun k a b => hj k a (by omega)), fun q => ⟨by omega, by omega, ih _ (by omega) (i + 1) _ (by omega) rfl (fun x z => by rw [nw_uP z]; exact hx x z) (fun k a b => ?_)⟩⟩
      rw [nw_u304]
      by_cases z : k = i
      · rw [z, sp_set_eq]
      · rw [sp_set_ne z]
        exact hj k a (by omega)
  exact b_J7_fill_53178_33_0 (lp _ 0 J (by omega) rfl (fun _ _ => rfl) (fun k a b => by omega))
theorem t_fill_34 {v : Int} (hQ : ∀ J', (∀ x, ¬ x = 34 → J' x = J x) → (∀ i, 0 ≤ i → i < 6 → J' 34 i = v) → Qr none (J', L, W)) : NW sc d_J7_fill_53178 D (0, [some (.inr (.inl (some 34))), some (.inl v), none, none], [], (J, L, W), c, sl) Qr Qx := by
  have lp : ∀ (m : Nat) (i : Int) (J1 : Nat → Int → Int), 0 ≤ i → (6 - i).toNat = m → (∀ x, ¬ x = 34 → J1 x = J x) → (∀ k, 0 ≤ k → k < i → J1 34 k = v) → NW sc d_J7_fill_53178 D (5, [some (.inr (.inl (some 34))), some (.inl v), some (.inl i), some (.inl 6)], [], (J1, L, W), c, sl) Qr Qx := by
    intro r9
    induction r9 using Nat.strongRecOn with
    | ind r9 ih =>
      intro i J1 h0 hm hx hj
      refine b_J7_fill_53178_34_5 ⟨fun q => hQ J1 hx (fun k a b => hj k a (by omega)), fun q => ⟨by omega, by omega, ih _ (by omega) (i + 1) _ (by omega) rfl (fun x z => by rw [nw_uP z]; exact hx x z) (fun k a b => ?_)⟩⟩
      rw [nw_u304]
      by_cases z : k = i
      · rw [z, sp_set_eq]
      · rw [sp_set_ne z]
        exact hj k a (by omega)
  exact b_J7_fill_53178_34_0 (lp _ 0 J (by omega) rfl (fun _ _ => rfl) (fun k a b => by omega))
theorem t_fill_35 {v : Int} (hQ : ∀ J', (∀ x, ¬ x = 35 → J' x = J x) → (∀ i, 0 ≤ i → i < 6 → J' 35 i = v) → Qr none (J', L, W)) : NW sc d_J7_fill_53178 D (0, [some (.inr (.inl (some 35))), some (.inl v), none, none], [], (J, L, W), c, sl) Qr Qx := by
  have lp : ∀ (m : Nat) (i : Int) (J1 : Nat → Int → Int), 0 ≤ i → (6 - i).toNat = m → (∀ x, ¬ x = 35 → J1 x = J x) → (∀ k, 0 ≤ k → k < i → J1 35 k = v) → NW sc d_J7_fill_53178 D (5, [some (.inr (.inl (some 35))), some (.inl v), some (.inl i), some (.inl 6)], [], (J1, L, W), c, sl) Qr Qx := by
    intro r9
    induction r9 using Nat.strongRecOn with
    | ind r9 ih =>
      intro i J1 h0 hm hx hj
      refine b_J7_fill_53178_35_5 ⟨fun q => hQ J1 hx (fun k a b => hj k a (by omega)), fun q => ⟨by omega, by omega, ih _ (by omega) (i + 1) _ (by omega) rfl (fun x z => by rw [nw_uP z]; exact hx x z) (fun k a b => ?_)⟩⟩
      rw [nw_u304]
      by_cases z : k = i
      · rw [z, sp_set_eq]
      · rw [sp_set_ne z]
        exact hj k a (by omega)
  exact b_J7_fill_53178_35_0 (lp _ 0 J (by omega) rfl (fun _ _ => rfl) (fun k a b => by omega))
theorem t_fill_36 {v : Int} (hQ : ∀ J', (∀ x, ¬ x = 36 → J' x = J x) → (∀ i, 0 ≤ i → i < 6 → J' 36 i = v) → Qr none (J', L, W)) : NW sc d_J7_fill_53178 D (0, [some (.inr (.inl (some 36))), some (.inl v), none, none], [], (J, L, W), c, sl) Qr Qx := by
  have lp : ∀ (m : Nat) (i : Int) (J1 : Nat → Int → Int), 0 ≤ i → (6 - i).toNat = m → (∀ x, ¬ x = 36 → J1 x = J x) → (∀ k, 0 ≤ k → k < i → J1 36 k = v) → NW sc d_J7_fill_53178 D (5, [some (.inr (.inl (some 36))), some (.inl v), some (.inl i), some (.inl 6)], [], (J1, L, W), c, sl) Qr Qx := by
    intro r9
    induction r9 using Nat.strongRecOn with
    | ind r9 ih =>
      intro i J1 h0 hm hx hj
      refine b_J7_fill_53178_36_5 ⟨fun q => hQ J1 hx (fun k a b => hj k a (by omega)), fun q => ⟨by omega, by omega, ih _ (by omega) (i + 1) _ (by omega) rfl (fun x z => by rw [nw_uP z]; exact hx x z) (fun k a b => ?_)⟩⟩
      rw [nw_u304]
      by_cases z : k = i
      · rw [z, sp_set_eq]
      · rw [sp_set_ne z]
        exact hj k a (by omega)
  exact b_J7_fill_53178_36_0 (lp _ 0 J (by omega) rfl (fun _ _ => rfl) (fun k a b => by omega))
theorem t_fill_37 {v : Int} (hQ : ∀ J', (∀ x, ¬ x = 37 → J' x = J x) → (∀ i, 0 ≤ i → i < 6 → J' 37 i = v) → Qr none (J', L, W)) : NW sc d_J7_fill_53178 D (0, [some (.inr (.inl (some 37))), some (.inl v), none, none], [], (J, L, W), c, sl) Qr Qx := by
  have lp : ∀ (m : Nat) (i : Int) (J1 : Nat → Int → Int), 0 ≤ i → (6 - i).toNat = m → (∀ x, ¬ x = 37 → J1 x = J x) → (∀ k, 0 ≤ k → k < i → J1 37 k = v) → NW sc d_J7_fill_53178 D (5, [some (.inr (.inl (some 37))), some (.inl v), some (.inl i), some (.inl 6)], [], (J1, L, W), c, sl) Qr Qx := by
    intro r9
    induction r9 using Nat.strongRecOn with
    | ind r9 ih =>
      intro i J1 h0 hm hx hj
      refine b_J7_fill_53178_37_5 ⟨fun q => hQ J1 hx (fun k a b => hj k a (by omega)), fun q => ⟨by omega, by omega, ih _ (by omega) (i + 1) _ (by omega) rfl (fun x z => by rw [nw_uP z]; exact hx x z) (fun k a b => ?_)⟩⟩
      rw [nw_u304]
      by_cases z : k = i
      · rw [z, sp_set_eq]
      · rw [sp_set_ne z]
        exact hj k a (by omega)
  exact b_J7_fill_53178_37_0 (lp _ 0 J (by omega) rfl (fun _ _ => rfl) (fun k a b => by omega))
theorem t_fill_row {v i : Int} (hi : 0 ≤ i ∧ i < 6) (hQ : ∀ J', (∀ x, ¬ x = 32 + i.toNat → J' x = J x) → (∀ k, 0 ≤ k → k < 6 → J' (32 + i.toNat) k = v) → Qr none (J', L, W)) : NW sc d_J7_fill_53178 D (0, [some (.inr (.inl (some (32 + i.toNat)))), some (.inl v), none, none], [], (J, L, W), c, sl) Qr Qx := by
  obtain ⟨k, hk⟩ : ∃ k : Nat, i.toNat = k := ⟨_, rfl⟩
  rw [hk] at hQ ⊢
  have : k < 6 := by omega
  match k, this with
  | 0, _ => exact t_fill_32 hQ
  | 1, _ => exact t_fill_33 hQ
  | 2, _ => exact t_fill_34 hQ
  | 3, _ => exact t_fill_35 hQ
  | 4, _ => exact t_fill_36 hQ
  | 5, _ => exact t_fill_37 hQ
  | k + 6, h => omega
theorem t_X10_shortenOver {m : Nat} (hR : RC J L g) (hI : Inv g B) (hm : (m : Int) < g 1) (ht : ∀ i j, 0 ≤ i → i < g 1 → 0 ≤ j → j < g 1 → J (32 + i.toNat) j = sp_enc (sp_T g m i j)) (hQ : ∀ J', sp_fr 32 37 J J' → (∀ i j, 0 ≤ i → i < g 1 → 0 ≤ j → j < g 1 → J' (32 + i.toNat) j = sp_enc (sp_T g (m + 1) i j)) → Qr none (J', L, W)) : NW sc d_X10_shortenOver D (0, [some (.inr (.inl (some 29))), some (.inr (.inl (some 3))), some (.inl ((m : Int))), none, none, none], [], (J, L, W), c, sl) Qr Qx := by
  have e1 := hR.cr
  have k1 := hI.cr
  refine b_X10_shortenOver_0 ?_
  have rows : ∀ (r : Nat) (a : Int) (J1 : Nat → Int → Int), 0 ≤ a → a ≤ g 1 → (g 1 - a).toNat = r → sp_fr 32 37 J J1 → (∀ i j, 0 ≤ i → i < g 1 → 0 ≤ j → j < g 1 → J1 (32 + i.toNat) j = sp_enc (if i < a then sp_T g (m + 1) i j else sp_T g m i j)) → NW sc d_X10_shortenOver D (2, [some (.inr (.inl (some 29))), some (.inr (.inl (some 3))), some (.inl ((m : Int))), some (.inl a), none, none], [], (J1, L, W), c, sl) Qr Qx := by
    intro r9
    induction r9 using Nat.strongRecOn with
    | ind r9 ih =>
      intro a J1 a0 a1 hr hx hj
      have n1 : J1 3 0 = g 1 := by rw [hx 3 (by omega)]; exact e1
      refine b_X10_shortenOver_2 ?_
      rw [n1]
      refine ⟨fun q => hQ J1 hx (fun i j x y z w => by rw [hj i j x y z w, if_pos (by omega)]), fun q => ?_⟩
      have cols : ∀ (s : Nat) (b : Int) (J2 : Nat → Int → Int), 0 ≤ b → b ≤ g 1 → (g 1 - b).toNat = s → sp_fr 32 37 J J2 → (∀ i j, 0 ≤ i → i < g 1 → 0 ≤ j → j < g 1 → J2 (32 + i.toNat) j = sp_enc (if i < a ∨ (i = a ∧ j < b) then sp_T g (m + 1) i j else sp_T g m i j)) → NW sc d_X10_shortenOver D (13, [some (.inr (.inl (some 29))), some (.inr (.inl (some 3))), some (.inl ((m : Int))), some (.inl a), some (.inl b), none], [], (J2, L, W), c, sl) Qr Qx := by
        intro s
        induction s using Nat.strongRecOn with
        | ind s ihs =>
          intro b J2 b0 b1 hs hx2 hj2
          have n2 : J2 3 0 = g 1 := by rw [hx2 3 (by omega)]; exact e1
          refine b_X10_shortenOver_13 ?_
          rw [n2]
          refine ⟨fun q2 => ⟨by omega, ih _ (by omega) (a + 1) J2 (by omega) (by omega) rfl hx2 (fun i j x y z w => ?_)⟩, fun q2 => ?_⟩
          · rw [hj2 i j x y z w]
            by_cases v : i < a + 1
            · rw [if_pos (by omega), if_pos v]
            · rw [if_neg (by omega), if_neg v]
          · have c1 : J2 (32 + a.toNat) m = sp_enc (sp_T g m a m) := by
              rw [hj2 a m a0 q (by omega) hm, sp_T_col hI]
              split <;> rfl
            have c2 : J2 (32 + (m : Int).toNat) b = sp_enc (sp_T g m m b) := by
              rw [hj2 m b (by omega) hm b0 q2, sp_T_row hI]
              split <;> rfl
            have c3 : J2 (32 + a.toNat) b = sp_enc (sp_T g m a b) := by rw [hj2 a b a0 q b0 q2, if_neg (by omega)]
            rw [c1, c2, c3]
            have p1 := (sp_T_ii hI m a).2 m
            have p2 := (sp_T_ii hI m m).2 b
            have p3 := (sp_T_ii hI m a).2 b
            have u1 := sp_T_bd hI m a m
            have u2 := sp_T_bd hI m m b
            have u3 := sp_T_bd hI m a b
            have st := sp_T_s g m a b
            have hp : (9 : Int) * 2 ^ m ≤ 288 := by
              have : m ≤ 5 := by omega
              have h2 : (2 : Int) ^ m ≤ 2 ^ 5 := by
                rcases (show m = 0 ∨ m = 1 ∨ m = 2 ∨ m = 3 ∨ m = 4 ∨ m = 5 by omega) with rfl | rfl | rfl | rfl | rfl | rfl <;> decide
              rw [show (2 : Int) ^ 5 = 32 from rfl] at h2
              omega
            have same : sp_T g (m + 1) a b = sp_T g m a b → NW sc d_X10_shortenOver D (13, [some (.inr (.inl (some 29))), some (.inr (.inl (some 3))), some (.inl ((m : Int))), some (.inl a), some (.inl (b + 1)), none], [], (J2, L, W), c, sl) Qr Qx := fun e => by
              refine ihs _ (by omega) (b + 1) J2 (by omega) (by omega) rfl hx2 (fun i j x y z w => ?_)
              rw [hj2 i j x y z w]
              by_cases v : i = a ∧ j = b
              · rw [v.1, v.2, if_neg (by omega), if_pos (by omega), e]
              · by_cases t : i < a ∨ (i = a ∧ j < b)
                · rw [if_pos t, if_pos (by omega)]
                · rw [if_neg t, if_neg (by omega)]
            have upd : ∀ v0, v0 = sp_enc (sp_T g (m + 1) a b) → NW sc d_X10_shortenOver D (13, [some (.inr (.inl (some 29))), some (.inr (.inl (some 3))), some (.inl ((m : Int))), some (.inl a), some (.inl (b + 1)), none], [], (nw_u J2 (32 + a.toNat) b v0, L, W), c, sl) Qr Qx := fun v0 e => by
              refine ihs _ (by omega) (b + 1) _ (by omega) (by omega) rfl (hx2.u (by omega)) (fun i j x y z w => ?_)
              by_cases v : i = a ∧ j = b
              · rw [v.1, v.2, nw_uS, if_pos (by omega)]
                exact e
              · have : nw_u J2 (32 + a.toNat) b v0 (32 + i.toNat) j = J2 (32 + i.toNat) j := by
                  by_cases u : i = a
                  · exact nw_uI (by omega)
                  · exact nw_uN (by omega)
                rw [this, hj2 i j x y z w]
                by_cases t : i < a ∨ (i = a ∧ j < b)
                · rw [if_pos t, if_pos (by omega)]
                · rw [if_neg t, if_neg (by omega)]
            have E : ∀ v, sp_enc v = if v = 10000 then -1 else v := fun v => rfl
            have f1 := E (sp_T g m a m)
            have f2 := E (sp_T g m m b)
            have f3 := E (sp_T g m a b)
            have f4 := E (sp_T g (m + 1) a b)
            refine ⟨by omega, by omega, fun z1 => ⟨by omega, same ?_⟩, fun z1 => ⟨by omega, fun z2 => ⟨?_, fun z3 => ⟨by omega, upd _ ?_⟩, fun z3 => ⟨fun z4 => ⟨by omega, same ?_⟩, fun z4 => ⟨by omega, upd _ ?_⟩⟩⟩, fun z2 => ⟨by omega, same ?_⟩⟩⟩
            all_goals
              revert st f1 f2 f3 f4
              split <;> split <;> split <;> split <;> split <;> omega
      exact cols _ 0 J1 (by omega) k1.1 rfl hx (fun i j x y z w => by
        rw [hj i j x y z w]
        by_cases v : i < a
        · rw [if_pos v, if_pos (Or.inl v)]
        · rw [if_neg v, if_neg (by omega)])
  exact rows _ 0 J (by omega) k1.1 rfl sp_fr.refl (fun i j x y z w => by rw [if_neg (by omega)]; exact ht i j x y z w)
theorem t_X10_fillTable (hR : RC J L g) (hI : Inv g B) (hD : 1 ≤ D) (hQ : ∀ J', sp_fr 32 37 J J' → (∀ i j, 0 ≤ i → i < g 1 → 0 ≤ j → j < g 1 → J' (32 + i.toNat) j = sp_enc (sp_D g i j)) → Qr none (J', L, W)) : NW sc d_X10_fillTable D (0, [some (.inr (.inl (some 29))), some (.inr (.inl (some 3))), none, none, none], [], (J, L, W), c, sl) Qr Qx := by
  have kc := hI.cr
  have kh := hI.ch
  refine b_X10_fillTable_0 ?_
  have vias : ∀ (r : Nat) (m : Nat) (J1 : Nat → Int → Int), (m : Int) ≤ g 1 → (g 1 - m).toNat = r → sp_fr 32 37 J J1 → (∀ i j, 0 ≤ i → i < g 1 → 0 ≤ j → j < g 1 → J1 (32 + i.toNat) j = sp_enc (sp_T g m i j)) → NW sc d_X10_fillTable D (96, [some (.inr (.inl (some 29))), some (.inr (.inl (some 3))), some (.inl ((m : Int))), none, none], [], (J1, L, W), c, sl) Qr Qx := by
    intro r9
    induction r9 using Nat.strongRecOn with
    | ind r9 ih =>
      intro m J1 h0 hr hx hj
      have hR1 : RC J1 L g := ⟨hR.s.to (hx 2 (by omega)) rfl ⟨rfl, rfl, rfl⟩, hR.w.to (fun x a b => hx x (by omega)) ⟨rfl, rfl⟩ (fun _ _ _ => rfl) kc.2 kh.2, hR.f.to ⟨by rw [hx 9 (by omega)], fun x a b => hx x (by omega)⟩ rfl (fun _ _ _ => rfl) hI.fe.2, hR.p.to ⟨by rw [hx 9 (by omega)]; exact ⟨rfl, rfl⟩, fun x a b => hx x (by omega)⟩ ⟨rfl, rfl⟩ (fun _ _ _ => rfl), hR.m.to (fun x a b => hx x (by omega)) ⟨rfl, rfl⟩ (fun _ _ _ => rfl) hI.mo.2⟩
      have n1 : J1 3 0 = g 1 := hR1.cr
      refine b_X10_fillTable_96 hD ?_
      rw [n1]
      refine ⟨fun q => hQ J1 hx (fun i j x y z w => ?_), fun q => ?_⟩
      · rw [hj i j x y z w, ← sp_T_D hI i j y w, show (g 1).toNat = m by omega]
      · refine t_X10_shortenOver hR1 hI q hj (fun J2 hx2 hj2 => ?_)
        refine b_X10_fillTable_110 ⟨by omega, ?_⟩
        have := ih _ (by omega) (m + 1) J2 (by omega) rfl (hx.trans hx2) hj2
        rw [show ((m + 1 : Nat) : Int) = (m : Int) + 1 by omega] at this
        exact this
  have chan : ∀ (r : Nat) (d : Int) (J1 : Nat → Int → Int), 0 ≤ d → d ≤ g 2 → (g 2 - d).toNat = r → sp_fr 32 37 J J1 → (∀ i j, 0 ≤ i → i < 6 → 0 ≤ j → j < 6 → (∃ e, 0 ≤ e ∧ e < d ∧ sp_con g i j e ∧ J1 (32 + i.toNat) j = g (36 + e)) ∨ ((∀ e, 0 ≤ e → e < d → ¬ sp_con g i j e) ∧ J1 (32 + i.toNat) j = if i = j then 0 else -1)) → NW sc d_X10_fillTable D (35, [some (.inr (.inl (some 29))), some (.inr (.inl (some 3))), some (.inl d), none, none], [], (J1, L, W), c, sl) Qr Qx := by
    intro r9
    induction r9 using Nat.strongRecOn with
    | ind r9 ih =>
      intro d J1 d0 d1 hr hx hj
      have n2 : J1 3 1 = g 2 := by rw [hx 3 (by omega)]; exact hR.ch
      refine b_X10_fillTable_35 ?_
      rw [n2]
      refine ⟨fun q => ?_, fun q => ?_⟩
      · refine vias _ 0 J1 (by omega) rfl hx (fun i j a b c e => ?_)
        show _ = sp_enc (sp_T0 g i j)
        rcases hj i j a (by omega) c (by omega) with ⟨e, e0, e1, e2, e3⟩ | ⟨e1, e2⟩
        · rw [e3, sp_con_T0 hI e0 (by omega) e2]
          unfold sp_enc
          have := hI.cha e e0 (by omega)
          rw [if_neg (by omega)]
        · rw [e2]
          unfold sp_T0 sp_enc
          by_cases z : i = j
          · rw [if_pos z, if_pos z]
            rfl
          · rw [if_neg z, if_neg z]
            rcases sp_btwF_rng g i j with w | w
            · rw [if_pos w, if_pos rfl]
            · exact absurd w.2.2 (e1 _ w.1 (by omega))
      · have ci := hI.cha d d0 q
        have cr := hR.cha d d0 q
        have m5 : J1 5 d = g (16 + d) := by rw [hx 5 (by omega)]; exact cr.1
        have m6 : J1 6 d = g (26 + d) := by rw [hx 6 (by omega)]; exact cr.2.1
        have m7 : J1 7 d = g (36 + d) := by rw [hx 7 (by omega)]; exact cr.2.2.1
        have m7' : nw_u J1 (32 + (g (16 + d)).toNat) (g (26 + d)) (g (36 + d)) 7 d = g (36 + d) := by rw [nw_uN (by omega)]; exact m7
        rw [m5, m6, m7, m7']
        refine ⟨by omega, by omega, by omega, by omega, ?_⟩
        refine ih _ (by omega) (d + 1) _ (by omega) (by omega) rfl ((hx.u (by omega)).u (by omega)) (fun i j a b c e => ?_)
        by_cases z : sp_con g i j d
        · refine Or.inl ⟨d, d0, by omega, z, ?_⟩
          unfold sp_con at z
          by_cases w : i = g (26 + d) ∧ j = g (16 + d)
          · rw [w.1, w.2, nw_uS]
          · have w2 : i = g (16 + d) ∧ j = g (26 + d) := by omega
            rw [w2.1, w2.2, nw_uN (by omega), nw_uS]
        · have w1 : ¬ (i = g (26 + d) ∧ j = g (16 + d)) := fun w => z (by unfold sp_con; omega)
          have w2 : ¬ (i = g (16 + d) ∧ j = g (26 + d)) := fun w => z (by unfold sp_con; omega)
          have keep : nw_u (nw_u J1 (32 + (g (16 + d)).toNat) (g (26 + d)) (g (36 + d))) (32 + (g (26 + d)).toNat) (g (16 + d)) (g (36 + d)) (32 + i.toNat) j = J1 (32 + i.toNat) j := by
            have k1 : ∀ K : Nat → Int → Int, nw_u K (32 + (g (26 + d)).toNat) (g (16 + d)) (g (36 + d)) (32 + i.toNat) j = K (32 + i.toNat) j := fun K => by
              by_cases u : i = g (26 + d)
              · exact nw_uI (by omega)
              · exact nw_uN (by omega)
            have k2 : nw_u J1 (32 + (g (16 + d)).toNat) (g (26 + d)) (g (36 + d)) (32 + i.toNat) j = J1 (32 + i.toNat) j := by
              by_cases u : i = g (16 + d)
              · exact nw_uI (by omega)
              · exact nw_uN (by omega)
            rw [k1, k2]
          rw [keep]
          rcases hj i j a b c e with ⟨e, e0, e1, e2, e3⟩ | ⟨e1, e2⟩
          · exact Or.inl ⟨e, e0, by omega, e2, e3⟩
          · refine Or.inr ⟨fun e x y => ?_, e2⟩
            by_cases v : e = d
            · rw [v]; exact z
            · exact e1 e x (by omega)
  have ini : ∀ (r : Nat) (a : Int) (J1 : Nat → Int → Int), 0 ≤ a → a ≤ 6 → (6 - a).toNat = r → sp_fr 32 37 J J1 → (∀ i j, 0 ≤ i → i < a → 0 ≤ j → j < 6 → J1 (32 + i.toNat) j = if i = j then 0 else -1) → NW sc d_X10_fillTable D (2, [some (.inr (.inl (some 29))), some (.inr (.inl (some 3))), some (.inl a), none, none], [], (J1, L, W), c, sl) Qr Qx := by
    intro r9
    induction r9 using Nat.strongRecOn with
    | ind r9 ih =>
      intro a J1 a0 a1 hr hx hj
      refine b_X10_fillTable_2 hD ⟨fun q => ?_, fun q => ⟨⟨a0, q⟩, ?_⟩⟩
      · exact chan _ 0 J1 (by omega) kh.1 rfl hx (fun i j x y z w => Or.inr ⟨fun e _ _ => by omega, hj i j x (by omega) z w⟩)
      · refine t_fill_row ⟨a0, q⟩ (fun J2 hx2 hj2 => ?_)
        refine b_X10_fillTable_18 ⟨⟨a0, q⟩, by omega, ?_⟩
        have hx3 : sp_fr 32 37 J J2 := fun x z => by rw [hx2 x (by omega)]; exact hx x z
        refine ih _ (by omega) (a + 1) _ (by omega) (by omega) rfl (hx3.u (by omega)) (fun i j x y z w => ?_)
        by_cases u : i = a
        · subst u
          by_cases v : j = i
          · rw [v, nw_uS, if_pos rfl]
          · rw [nw_uI v, hj2 j z w, if_neg (fun t => v t.symm)]
        · rw [nw_uN (by omega), hx2 _ (by omega)]
          exact hj i j x (by omega) z w
  exact ini _ 0 J (by omega) (by omega) rfl sp_fr.refl (fun i j x y z w => by omega)
end

