/-! arrivals by hours: the whole method -/
section
variable {sc : Nat × (Nat → Int32)} {D : Nat} {J L : Nat → Int → Int} {W : nw_W} {c sl : Nat} {Qr : nw_QR} {Qx : nw_QX} {g : Int → Int} {B : Int}
theorem sp_S_0 {v : Int} : ¬ sp_S 0 v := fun h => by
  have h2 := h.2
  rw [show (0 : Int).toNat = 0 by decide, Nat.zero_testBit] at h2
  exact absurd h2 (by decide)
theorem t_X10_arriveByHours {f : Int} (hR : RC J L g) (hI : Inv g B) (hf : 0 ≤ f ∧ f < g 3) (hD : 3 ≤ D) (hQ : ∀ J', (∀ x, ¬ (x = 39 ∨ x = 45) → J' x = J x) → sp_ep g f (J' 39) → Qr none (J', L, W)) : NW sc d_X10_arriveByHours D (0, [some (.inr (.inl (some 29))), some (.inr (.inl (some 2))), some (.inl f), none, none, none], [], (J, L, W), c, sl) Qr Qx := by
  have kc := hI.cr
  have kh := hI.ch
  have ko := hI.ho
  have kb := hI.bd
  have kf := hI.fe
  have fr := hR.fer f hf.1 hf.2
  have fi := hI.fer f hf.1 hf.2
  have tr := sp_t0_rng hI hf
  have keep : ∀ J1 : Nat → Int → Int, (∀ x, ¬ (x = 39 ∨ x = 45) → J1 x = J x) → RC J1 L g := fun J1 hx => RC.keep hR hI (fun x a b => hx x (by omega))
  have lp : ∀ (r : Nat) (m : Int) (J1 : Nat → Int → Int), 0 ≤ m → m ≤ 100 → (100 - m).toNat = r → (∀ x, ¬ (x = 39 ∨ x = 45) → J1 x = J x) → sp_bh g f (J1 39) (J1 45) m (fun v => v < 0) (fun _ _ => False) → (∀ v, 0 ≤ v → v < g 1 → J1 39 v < g 0 + m) → NW sc d_X10_arriveByHours D (49, [some (.inr (.inl (some 29))), some (.inr (.inl (some 2))), some (.inl f), none, some (.inl m), none], [], (J1, L, W), c, sl) Qr Qx := by
    intro r9
    induction r9 using Nat.strongRecOn with
    | ind r9 ih =>
      intro m J1 m0 m1 hr hx hb hl
      refine b_X10_arriveByHours_49 hD ⟨fun q => ?_, fun q => ?_⟩
      · have e : m = 100 := by omega
        rw [e] at hb hl
        exact hQ J1 hx (sp_bh_ep hI hf hb (fun v a b => by have := hl v a b; omega))
      · refine t_X10_noteArrivals (keep J1 hx) hI ⟨m0, by omega⟩ hb (fun J2 hx2 hb2 => b_X10_arriveByHours_63 ?_)
        have hx3 : ∀ x, ¬ (x = 39 ∨ x = 45) → J2 x = J x := fun x z => (hx2 x (by omega)).trans (hx x z)
        have inner : ∀ (r2 : Nat) (d : Int) (J3 : Nat → Int → Int), 0 ≤ d → d ≤ g 2 → (g 2 - d).toNat = r2 → (∀ x, ¬ (x = 39 ∨ x = 45) → J3 x = J x) → sp_bh g f (J3 39) (J3 45) m (fun v => v < g 1) (fun x _ => x < d) → NW sc d_X10_arriveByHours D (66, [some (.inr (.inl (some 29))), some (.inr (.inl (some 2))), some (.inl f), none, some (.inl m), some (.inl d)], [], (J3, L, W), c, sl) Qr Qx := by
          intro r2
          induction r2 using Nat.strongRecOn with
          | ind r2 ih2 =>
            intro d J3 d0 d1 hr2 hx4 hb3
            have R3 := keep J3 hx4
            refine b_X10_arriveByHours_66 hD ?_
            rw [R3.ch]
            refine ⟨fun z => ⟨by omega, ?_⟩, fun z => ?_⟩
            · refine ih _ (by omega) (m + 1) J3 (by omega) (by omega) rfl hx4 ⟨hb3.1, hb3.2.1, fun v v0 v1 h => ?_, fun k v k0 k1 kk b => ?_, fun e u v s e0 e1 hc hs => ?_, hb3.2.2.2.2.2⟩ (fun v v0 v1 => ?_)
              · have := hb3.2.2.1 v v0 v1 h
                exact ⟨this.1, by omega, by omega⟩
              · refine hb3.2.2.2.1 k v k0 k1 ?_ b
                have bv := (hb3.2.1 k v k0 k1 b).1
                have b0 := b.1
                omega
              · refine hb3.2.2.2.2.1 e u v s e0 e1 hc ?_
                rcases hs with hs | ⟨_, hs⟩
                · omega
                · exact hs.elim
              · by_cases w : J3 39 v = -1
                · omega
                · have := hb3.2.2.1 v v0 v1 w
                  omega
            · refine t_X10_sendThrough R3 hI hf ⟨m0, by omega⟩ ⟨d0, z⟩ (by omega) hb3 (fun J4 hx5 hb4 => b_X10_arriveByHours_88 ⟨by omega, ?_⟩)
              exact ih2 _ (by omega) (d + 1) J4 (by omega) (by omega) rfl (fun x y => (hx5 x (by omega)).trans (hx4 x y)) hb4
        refine inner _ 0 J2 (by omega) kh.1 rfl hx3 ⟨hb2.1, hb2.2.1, hb2.2.2.1, hb2.2.2.2.1, fun e u v s e0 e1 hc hs => hb2.2.2.2.2.1 e u v s e0 e1 hc (by omega), hb2.2.2.2.2.2⟩
  have ini : ∀ (J1 : Nat → Int → Int) (n a : Int), (∀ x, ¬ (x = 39 ∨ x = 45) → J1 x = J x) → (∀ i, 0 ≤ i → i < 6 → J1 39 i = -1) → (∀ i, 0 ≤ i → i < 100 → J1 45 i = 0) → n = sp_t0 g f - g 0 → a = g (56 + f) → NW sc d_X10_arriveByHours D (49, [some (.inr (.inl (some 29))), some (.inr (.inl (some 2))), some (.inl f), none, some (.inl n), none], [], (nw_u J1 45 n (nw_xishl 1 a), L, W), c, sl) Qr Qx := fun J1 n a hx h39 h45 hn hq => by
    have ar : 0 ≤ a ∧ a < g 1 := by omega
    have sl := nw_shl1 a.toNat (by omega)
    have bits : (0 ≤ nw_xishl 1 a ∧ nw_xishl 1 a < 64) ∧ ∀ v, sp_S (nw_xishl 1 a) v ↔ v = a := by
      obtain ⟨i, rfl⟩ : ∃ i : Nat, a = i := ⟨a.toNat, by omega⟩
      rw [Int.toNat_natCast] at sl
      have pi : 2 ^ i < 64 := Nat.pow_lt_pow_right (a := 2) (n := 6) (by decide) (by omega)
      have ei : ((2 ^ i : Nat) : Int) = (2 : Int) ^ i := by simp
      rw [sl, ← ei]
      refine ⟨⟨Int.natCast_nonneg _, by omega⟩, fun v => ?_⟩
      unfold sp_S
      rw [Int.toNat_natCast, Nat.testBit_two_pow, decide_eq_true_eq]
      omega
    have T : ∀ k, 0 ≤ k → k < 100 → sp_set (J1 45) n (nw_xishl 1 a) k = if k = n then nw_xishl 1 a else 0 := fun k k0 k1 => by
      by_cases e : k = n
      · rw [e, sp_set_eq, if_pos rfl]
      · rw [sp_set_ne e, if_neg e, h45 k k0 k1]
    refine lp _ n _ (by omega) (by omega) rfl (fun x y => by rw [nw_uP (by omega)]; exact hx x y) ?_ (fun v v0 v1 => ?_)
    · rw [nw_uP (by decide), nw_u304]
      refine ⟨fun k k0 k1 => ?_, fun k v k0 k1 b => ?_, fun v v0 v1 q => absurd (h39 v v0 (by omega)) q, fun k v k0 k1 kk b => ?_, fun e u v s e0 e1 hc _ hu => ?_, ?_⟩
      · rw [T k k0 k1]
        split
        · exact bits.1
        · exact ⟨by decide, by decide⟩
      · rw [T k k0 k1] at b
        by_cases e : k = n
        · rw [if_pos e] at b
          have := (bits.2 v).mp b
          exact ⟨by omega, 0, by rw [this]; exact hq, by omega⟩
        · rw [if_neg e] at b
          exact absurd b sp_S_0
      · rw [T k k0 k1] at b
        by_cases e : k = n
        · rw [if_pos e] at b
          have h1 := (bits.2 v).mp b
          have h2 : v < 0 := kk.elim (fun x => by omega) (fun x => x.2)
          omega
        · rw [if_neg e] at b
          exact absurd b sp_S_0
      · have cr := sp_con_in hI ⟨e0, e1⟩ hc
        exact absurd (h39 u (by omega) (by omega)) hu
      · rw [← hn, T n (by omega) (by omega), if_pos rfl, ← hq]
        exact (bits.2 a).mpr rfl
    · rw [nw_uP (by decide), h39 v v0 (by omega)]
      omega
  refine b_X10_arriveByHours_0 hD (t_fill_39 (fun J1 hx1 h1 => ?_))
  refine b_X10_arriveByHours_8 hD (t_fill_45 (fun J2 hx2 h2 => ?_))
  have hx : ∀ x, ¬ (x = 39 ∨ x = 45) → J2 x = J x := fun x z => (hx2 x (by omega)).trans (hx1 x (by omega))
  have h39 : ∀ i, 0 ≤ i → i < 6 → J2 39 i = -1 := fun i a b => by rw [hx2 39 (by decide)]; exact h1 i a b
  have n3 : J2 2 3 = g 0 := (keep J2 hx).ho
  have fr2 := (keep J2 hx).fer f hf.1 hf.2
  refine b_X10_arriveByHours_16 hD ?_
  rw [n3]
  refine ⟨by omega, fun q => ?_, fun q => ?_⟩
  · exact ini J2 0 _ hx h39 h2 (by unfold sp_t0; rw [if_neg (by omega)]; omega) (by omega)
  · have e : J2 12 f - g 0 = sp_t0 g f - g 0 := by unfold sp_t0; rw [if_pos (by omega)]; omega
    refine ⟨by omega, fun z => by omega, fun _ => ⟨fun _ => ⟨by omega, ?_⟩, fun z => by omega⟩⟩
    exact ini J2 _ _ hx h39 h2 e (by omega)
end

