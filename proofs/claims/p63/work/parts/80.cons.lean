/-! the class agrees with itself -/
section
variable {sc : Nat × (Nat → Int32)} {D : Nat} {J L : Nat → Int → Int} {W : nw_W} {c sl : Nat} {Qr : nw_QR} {Qx : nw_QX} {g : Int → Int} {B : Int}
theorem sp_ep_uniq {g : Int → Int} {f v : Int} {H H' : Int → Int} (h : sp_ep g f H) (k : sp_ep g f H') (v0 : 0 ≤ v) (v1 : v < g 1) : H v = H' v := by
  have a := h v v0 v1
  have b := k v v0 v1
  by_cases e : H v = -1
  · by_cases e' : H' v = -1
    · rw [e, e']
    · have b1 := b.1 e'
      have := a.2 e (H' v) b1.1.1
      omega
  · by_cases e' : H' v = -1
    · have a1 := a.1 e
      have := b.2 e' (H v) a1.1.1
      omega
    · have a1 := a.1 e
      have b1 := b.1 e'
      have := a1.1.2 (H' v) b1.1.1
      have := b1.1.2 (H v) a1.1.1
      omega
def sp_wrk (J J' : Nat → Int → Int) : Prop := ∀ x, ¬ (26 ≤ x ∧ x ≤ 54) → J' x = J x
theorem sp_wrk.rc {J J' L : Nat → Int → Int} {g : Int → Int} {B : Int} (h : RC J L g) (hI : Inv g B) (k : sp_wrk J J') : RC J' L g := h.keep hI (fun x a b => k x (by omega))
theorem t_X11_waysAgree (hR : RC J L g) (hI : Inv g B) (hD : 2 ≤ D) (hQ : ∀ J', sp_wrk J J' → Qr (some (.inl 1)) (J', L, W)) : NW sc d_X11_waysAgree D (0, [some (.inr (.inl (some 0))), none, none, none], [], (J, L, W), c, sl) Qr Qx := by
  have kc := hI.cr
  refine b_X11_waysAgree_0 hD (t_X10_fillTable hR hI (by decide) (fun J1 x1 t1 => ?_))
  have R1 : RC J1 L g := hR.keep hI (fun x a b => x1 x (by omega))
  refine b_X11_waysAgree_25 ?_
  rw [hR.cr]
  have lp : ∀ (r : Nat) (i : Int) (J2 : Nat → Int → Int), 0 ≤ i → i ≤ g 1 → (g 1 - i).toNat = r → (∀ x, ¬ (x = 30 ∨ (40 ≤ x ∧ x ≤ 42)) → J2 x = J1 x) → NW sc d_X11_waysAgree D (27, [some (.inr (.inl (some 0))), some (.inl (g 1)), some (.inl i), none], [], (J2, L, W), c, sl) Qr Qx := by
    intro r9
    induction r9 using Nat.strongRecOn with
    | ind r9 ih =>
      intro i J2 i0 i1 hr x2
      refine b_X11_waysAgree_27 hD ⟨fun q => hQ J2 (fun x a => by rw [x2 x (by omega), x1 x (by omega)]), fun q => ?_⟩
      have R2 : RC J2 L g := R1.keep hI (fun x a b => x2 x (by omega))
      refine t_X10_spreadFrom R2 hI ⟨i0, q⟩ (by decide) (fun J3 x3 h3 => b_X11_waysAgree_47 ?_)
      have x31 : ∀ x, ¬ (x = 30 ∨ (40 ≤ x ∧ x ≤ 42)) → J3 x = J1 x := fun x a => (x3 x a).trans (x2 x a)
      have lq : ∀ (r : Nat) (j : Int), 0 ≤ j → j ≤ g 1 → (g 1 - j).toNat = r → NW sc d_X11_waysAgree D (49, [some (.inr (.inl (some 0))), some (.inl (g 1)), some (.inl i), some (.inl j)], [], (J3, L, W), c, sl) Qr Qx := by
        intro r
        induction r with
        | zero =>
          intro j j0 j1 hr2
          exact b_X11_waysAgree_49 ⟨fun _ => ⟨by omega, ih _ (by omega) (i + 1) J3 (by omega) (by omega) rfl x31⟩, fun q2 => by omega⟩
        | succ r ihr =>
          intro j j0 j1 hr2
          refine b_X11_waysAgree_49 ⟨fun q2 => by omega, fun q2 => ⟨by omega, by omega, fun _ => ⟨by omega, ihr (j + 1) (by omega) (by omega) (by omega)⟩, fun z => absurd ?_ z⟩⟩
          rw [h3 j j0 q2, x31 (32 + i.toNat) (by omega), t1 i j i0 q j0 q2]
      exact lq _ 0 (Int.le_refl _) kc.1 rfl
  exact lp _ 0 J1 (Int.le_refl _) kc.1 rfl (fun _ _ => rfl)
theorem t_X11_netsAgree (hR : RC J L g) (hI : Inv g B) (hD : 2 ≤ D) (hQ : ∀ J', sp_wrk J J' → Qr (some (.inl 1)) (J', L, W)) : NW sc d_X11_netsAgree D (0, [some (.inr (.inl (some 0)))], [], (J, L, W), c, sl) Qr Qx := by
  have fin : ∀ J1 y, (∀ x, ¬ (x = 43 ∨ x = 44) → J1 x = J x) → (sp_nt g 9 ≤ 1 → y = sp_nsum g) → (1 < sp_nt g 9 → y = -1) → NW sc d_X11_netsAgree D (14, [some (.inr (.inl (some 0)))], [.inl y], (J1, L, W), c, sl) Qr Qx := fun J1 y x1 h1 h2 => by
    have R1 : RC J1 L g := hR.keep hI (fun x a b => x1 x (by omega))
    refine b_X11_netsAgree_14 hD (t_X10_netByGrowing R1 hI (by decide) (fun z => b_X11_netsAgree_28 ⟨fun w => absurd (h1 z) w, fun _ => hQ J1 (fun x a => x1 x (by omega))⟩) (fun z => b_X11_netsAgree_28 ⟨fun w => absurd (h2 z) w, fun _ => hQ J1 (fun x a => x1 x (by omega))⟩))
  exact b_X11_netsAgree_0 hD (t_X10_netByOrder hR hI (by decide) (fun J1 x1 z => fin J1 _ x1 (fun _ => rfl) (fun w => by omega)) (fun J1 x1 z => fin J1 _ x1 (fun w => by omega) (fun _ => rfl)))
theorem t_X11_arrivalsAgree (hR : RC J L g) (hI : Inv g B) (hD : 5 ≤ D) (hQ : ∀ J', sp_wrk J J' → Qr (some (.inl 1)) (J', L, W)) : NW sc d_X11_arrivalsAgree D (0, [some (.inr (.inl (some 0))), none, none], [], (J, L, W), c, sl) Qr Qx := by
  have kc := hI.cr
  have k3 := hI.fe
  refine b_X11_arrivalsAgree_0 ?_
  have lp : ∀ (r : Nat) (i : Int) (J2 : Nat → Int → Int), 0 ≤ i → i ≤ g 3 → (g 3 - i).toNat = r → sp_wrk J J2 → NW sc d_X11_arrivalsAgree D (2, [some (.inr (.inl (some 0))), some (.inl i), none], [], (J2, L, W), c, sl) Qr Qx := by
    intro r9
    induction r9 using Nat.strongRecOn with
    | ind r9 ih =>
      intro i J2 i0 i1 hr x2
      have R2 := x2.rc hR hI
      refine b_X11_arrivalsAgree_2 hD ?_
      rw [R2.fe]
      refine ⟨fun q => hQ J2 x2, fun q => ?_⟩
      refine t_X10_arriveByQueue R2 hI ⟨i0, q⟩ (by decide) (fun J3 x3 e3 => b_X11_arrivalsAgree_28 hD ?_)
      have w3 : sp_wrk J J3 := fun x a => by rw [x3 x (by omega)]; exact x2 x a
      refine t_X10_arriveByHours (w3.rc hR hI) hI ⟨i0, q⟩ (by decide) (fun J4 x4 e4 => b_X11_arrivalsAgree_40 ?_)
      have w4 : sp_wrk J J4 := fun x a => by rw [x4 x (by omega)]; exact w3 x a
      have R4 := w4.rc hR hI
      have e38 : sp_ep g i (J4 38) := by rw [x4 38 (by decide)]; exact e3
      have lq : ∀ (r : Nat) (j : Int), 0 ≤ j → j ≤ g 1 → (g 1 - j).toNat = r → NW sc d_X11_arrivalsAgree D (42, [some (.inr (.inl (some 0))), some (.inl i), some (.inl j)], [], (J4, L, W), c, sl) Qr Qx := by
        intro r
        induction r with
        | zero =>
          intro j j0 j1 hr2
          refine b_X11_arrivalsAgree_42 ?_
          rw [R4.cr]
          exact ⟨fun _ => ⟨by omega, ih _ (by omega) (i + 1) J4 (by omega) (by omega) rfl w4⟩, fun q2 => by omega⟩
        | succ r ihr =>
          intro j j0 j1 hr2
          refine b_X11_arrivalsAgree_42 ?_
          rw [R4.cr]
          exact ⟨fun q2 => by omega, fun q2 => ⟨by omega, fun _ => ⟨by omega, ihr (j + 1) (by omega) (by omega) (by omega)⟩, fun z => absurd (sp_ep_uniq e38 e4 j0 q2) z⟩⟩
      exact lq _ 0 (Int.le_refl _) kc.1 rfl
  exact lp _ 0 J (Int.le_refl _) k3.1 rfl (fun _ _ => rfl)
theorem t_X11_loadsAgree (hR : RC J L g) (hI : Inv g B) (hD : 14 ≤ D) (hQ : ∀ J', sp_wrk J J' → Qr (some (.inl 1)) (J', L, W)) : NW sc d_X11_loadsAgree D (0, [some (.inr (.inl (some 0))), none], [], (J, L, W), c, sl) Qr Qx := by
  have k3 := hI.fe
  refine b_X11_loadsAgree_0 ?_
  have lp : ∀ (r : Nat) (i : Int) (J2 : Nat → Int → Int), 0 ≤ i → i ≤ g 3 → (g 3 - i).toNat = r → sp_wrk J J2 → NW sc d_X11_loadsAgree D (2, [some (.inr (.inl (some 0))), some (.inl i)], [], (J2, L, W), c, sl) Qr Qx := by
    intro r9
    induction r9 using Nat.strongRecOn with
    | ind r9 ih =>
      intro i J2 i0 i1 hr x2
      have R2 := x2.rc hR hI
      refine b_X11_loadsAgree_2 hD ?_
      rw [R2.fe]
      refine ⟨fun q => hQ J2 x2, fun q => ⟨by omega, fun z => ?_, fun z => ⟨by omega, ih _ (by omega) (i + 1) J2 (by omega) (by omega) rfl x2⟩⟩⟩
      have fr := R2.fer i i0 q
      have fi := hI.fer i i0 q
      refine t_X6_gather R2 hI ⟨i0, q⟩ (by unfold sp_sea; omega) (by decide) (fun J3 n x3 hn hroom hl => b_X11_loadsAgree_42 hD ?_)
      refine t_X6_sumByDeciding hI ⟨i0, q⟩ hn hroom hl (by decide) (fun J4 x4 y4 hb hS => b_X11_loadsAgree_49 hD ?_)
      have hl4 : sp_gl g i J4 n (g 4) := by
        unfold sp_gl at hl ⊢
        rw [x4 27 (by decide), x4 52 (by decide), x4 53 (by decide)]
        exact hl
      refine t_X6_sumByTable hI ⟨i0, q⟩ (by rw [y4 0 (by decide) (by decide)]; exact hn) (by rw [y4 4 (by decide) (by decide)]; exact hroom) hl4 (by decide) (fun J5 x5 => b_X11_loadsAgree_56 ⟨fun _ => ⟨by omega, ih _ (by omega) (i + 1) J5 (by omega) (by omega) rfl (fun x a => ?_)⟩, fun w => absurd rfl w⟩)
      rw [x5 x (by omega), x4 x (by omega), x3 x (by unfold sp_glF; omega)]
      exact x2 x a
  exact lp _ 0 J (Int.le_refl _) k3.1 rfl (fun _ _ => rfl)
theorem t_X11_countsAgree (hR : RC J L g) (hI : Inv g B) (hD : 4 ≤ D) (hQ : ∀ J', sp_wrk J J' → Qr (some (.inl 1)) (J', L, W)) : NW sc d_X11_countsAgree D (0, [some (.inr (.inl (some 0))), none, none], [], (J, L, W), c, sl) Qr Qx := by
  have k4 := hI.mo
  refine b_X11_countsAgree_0 hD (t_X3_askAll hR hI (by decide) (fun J1 x1 n1 y1 f1 => b_X11_countsAgree_11 hD ?_))
  have eg : ((g 4).toNat : Int) = g 4 := by omega
  have fb : ∀ i : Int, 0 ≤ i → i < ((g 4).toNat : Nat) → -1000000 < sp_fare g i ∧ sp_fare g i < 1000000 := fun i a b => by
    have := sp_fare_bd hI (p := i) ⟨a, by omega⟩
    omega
  refine t_X3_growTree (n := (g 4).toNat) (f := sp_fare g) (by rw [n1]; exact eg.symm) (by omega) (fun i a b => f1 i a (by omega)) fb (by decide) (fun J2 k lo hi x2 y2 T2 => b_X11_countsAgree_18 ?_)
  have w2 : sp_wrk J J2 := fun x a => by rw [x2 x (by omega), x1 x (by unfold sp_scr; omega)]
  have R2 := w2.rc hR hI
  have n2 : J2 28 2 = g 4 := by rw [y2 2 (by decide)]; exact n1
  have f2 : ∀ p, 0 ≤ p → p < g 4 → J2 46 p = sp_fare g p := fun p a b => by rw [x2 46 (by decide)]; exact f1 p a b
  have lp : ∀ (r : Nat) (i : Int), 0 ≤ i → i ≤ g 4 → (g 4 - i).toNat = r → NW sc d_X11_countsAgree D (20, [some (.inr (.inl (some 0))), some (.inl i), none], [], (J2, L, W), c, sl) Qr Qx := by
    intro r9
    induction r9 using Nat.strongRecOn with
    | ind r9 ih =>
      intro i i0 i1 hr
      refine b_X11_countsAgree_20 hD ?_
      rw [R2.mo]
      refine ⟨fun q => hQ J2 w2, fun q => ⟨by omega, ?_⟩⟩
      refine t_X3_lessInTree T2 fb (b_X11_countsAgree_52 hD (t_X3_lessByAsking hI n2 f2 (b_X11_countsAgree_60 ⟨fun _ => ⟨by omega, ih _ (by omega) (i + 1) (by omega) (by omega) rfl⟩, fun w => absurd rfl w⟩)))
  exact lp _ 0 (Int.le_refl _) k4.1 rfl
theorem t_X11_isConsistent (hR : RC J L g) (hI : Inv g B) (hD : 15 ≤ D) (hQ : ∀ J', sp_wrk J J' → Qr (some (.inl 1)) (J', L, W)) : NW sc d_X11_isConsistent D (0, [some (.inr (.inl (some 0)))], [], (J, L, W), c, sl) Qr Qx := by
  refine b_X11_isConsistent_0 hD (t_X11_waysAgree hR hI (by decide) (fun J1 x1 => b_X11_isConsistent_4 hD ⟨fun z => absurd z (by decide), fun _ => ?_⟩))
  refine t_X11_netsAgree (x1.rc hR hI) hI (by decide) (fun J2 x2 => b_X11_isConsistent_11 hD ⟨fun z => absurd z (by decide), fun _ => ?_⟩)
  have w2 : sp_wrk J J2 := fun x a => (x2 x a).trans (x1 x a)
  refine t_X11_arrivalsAgree (w2.rc hR hI) hI (by decide) (fun J3 x3 => b_X11_isConsistent_18 hD ⟨fun z => absurd z (by decide), fun _ => ?_⟩)
  have w3 : sp_wrk J J3 := fun x a => (x3 x a).trans (w2 x a)
  refine t_X11_loadsAgree (w3.rc hR hI) hI (by decide) (fun J4 x4 => b_X11_isConsistent_25 hD ⟨fun z => absurd z (by decide), fun _ => ?_⟩)
  have w4 : sp_wrk J J4 := fun x a => (x4 x a).trans (w3 x a)
  exact t_X11_countsAgree (w4.rc hR hI) hI (by decide) (fun J5 x5 => b_X11_isConsistent_32 ⟨fun z => absurd z (by decide), fun _ => hQ J5 (fun x a => (x5 x a).trans (w4 x a))⟩)
end

