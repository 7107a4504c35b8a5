/-! the law: questions that count -/
section
variable {sc : Nat × (Nat → Int32)} {D : Nat} {J L : Nat → Int → Int} {W : nw_W} {c sl : Nat} {Qr : nw_QR} {Qx : nw_QX} {g : Int → Int} {B : Int}
theorem case_channelBetween {i : Int} (hi : 0 ≤ i ∧ i + 5 ≤ (sc.1 : Int) ∧ (sc.1 : Int) ≤ 2560) (h : sp_Wd J L W B) (hB : B + 2200 ≤ 4000000) (hD : 18 ≤ D) (hc : 28 ≤ c) (hs : 4006 ≤ sl) (hQ : ∀ J' L' W' c1 s1, c ≤ c1 + 28 → sl ≤ s1 + 4006 → sp_Wd J' L' W' (B + 2200) → NW sc d_L_law D (3300, [some (.inr (.inl (some 1000000))), some (.inr (.inl (some 0))), some (.inr (.inl (some 303))), some (.inr (.inl (some 314))), some (.inr (.inl (some 315))), some (.inl i), none, none, none], [], (J', L', W'), c1, s1) Qr Qx) : NW sc d_L_law D (586, [some (.inr (.inl (some 1000000))), some (.inr (.inl (some 0))), some (.inr (.inl (some 303))), some (.inr (.inl (some 314))), some (.inr (.inl (some 315))), some (.inl i), none, none, none], [], (J, L, W), c, sl) Qr Qx := by
  have hA := h.1
  have R := sp_sh2.mp hA.1.1
  have I := hA.1.2.1
  have hbd := I.bd
  have hho := I.ho
  have hcr := I.cr
  have hch := I.ch
  have hfe := I.fe
  have hmo := I.mo
  have hnx := I.nx
  have c1 := R.cr
  have c2 := R.ch
  have c3 := R.fe
  have c4 := R.mo
  have c5 := R.ho
  obtain ⟨x, hx⟩ : ∃ x, nw_sc sc (i + 1) = x := ⟨_, rfl⟩
  obtain ⟨y, hy⟩ : ∃ y, nw_sc sc (i + 2) = y := ⟨_, rfl⟩
  have br := sp_btwF_rng (J 304) x y
  have fn : ∀ (k v y : Int) (J1 J2 L1 : Nat → Int → Int) (W1 : nw_W) (c1 s1 : Nat), c ≤ c1 + 28 → sl ≤ s1 + 4006 → sp_wrk J J1 → (∀ x, ¬ (310 ≤ x ∧ x ≤ 312) → J2 x = J1 x) → (∀ y, ¬ y = 314 → L1 y = L y) → (k = 0 → L1 314 0 = v) → (k = 0 → y = v) → W1.2.1 = W.2.1 → sp_wW W W1 → NW sc d_L_law D (621, [some (.inr (.inl (some 1000000))), some (.inr (.inl (some 0))), some (.inr (.inl (some 303))), some (.inr (.inl (some 314))), some (.inr (.inl (some 315))), some (.inl i), some (.inl k), none, none], [.inl y], (nw_u J2 303 13 k, L1, W1), c1, s1) Qr Qx := fun k v y J1 J2 L1 W1 c1 s1 e1 e2 f1 f2 fl hl hy w1 w2 => by
    have go : NW sc d_L_law D (3300, [some (.inr (.inl (some 1000000))), some (.inr (.inl (some 0))), some (.inr (.inl (some 303))), some (.inr (.inl (some 314))), some (.inr (.inl (some 315))), some (.inl i), none, none, none], [], (nw_u J2 303 13 k, L1, W1), c1, s1) Qr Qx := hQ _ _ _ _ _ e1 e2 (h.q ⟨by omega, hB⟩ (fun x a => by
      have a3 : ¬ x = 303 := by omega
      rw [nw_uP a3, f2 x (by omega), f1 x (by omega)]) (fun j a => by rw [nw_uI a, f2 303 (by omega), f1 303 (by omega)]) fl w1 w2)
    exact b_L_law_621 hD ⟨fun _ => ⟨fun _ => go, fun z => ⟨fun _ => go, fun w => absurd (nw_cmp3_eq ((hl z).trans (hy z).symm)) w⟩⟩, fun w => absurd nw_uS w⟩
  have md : ∀ (k v : Int) (J1 L1 : Nat → Int → Int) (W1 : nw_W) (c1 s1 : Nat), c ≤ c1 + 28 → sl ≤ s1 + 4006 → sp_wrk J J1 → (∀ y, ¬ y = 314 → L1 y = L y) → (k = 0 → L1 314 0 = v) → W1.2.1 = W.2.1 → sp_wW W W1 → ((k = 1 ∧ ¬ ((0 ≤ x ∧ x < J 304 1) ∧ (0 ≤ y ∧ y < J 304 1))) ∨ (k = 2 ∧ ((0 ≤ x ∧ x < J 304 1) ∧ (0 ≤ y ∧ y < J 304 1)) ∧ sp_btwF (J 304) x y = -1) ∨ (k = 0 ∧ ((0 ≤ x ∧ x < J 304 1) ∧ (0 ≤ y ∧ y < J 304 1)) ∧ ¬ sp_btwF (J 304) x y = -1 ∧ v = sp_btwF (J 304) x y)) → NW sc d_L_law D (603, [some (.inr (.inl (some 1000000))), some (.inr (.inl (some 0))), some (.inr (.inl (some 303))), some (.inr (.inl (some 314))), some (.inr (.inl (some 315))), some (.inl i), none, none, none], [.inl k], (J1, L1, W1), c1, s1) Qr Qx := fun k v J1 L1 W1 c1 s1 e1 e2 f1 fl hl w1 w2 sp => by
    have g1 : J1 304 = J 304 := f1 304 (by omega)
    have I1 : Inv (J1 304) B := by rw [g1]; exact I
    have fin : ∀ (y : Int) (J2 : Nat → Int → Int) k9, k9 = k → (∀ x, ¬ (310 ≤ x ∧ x ≤ 312) → J2 x = J1 x) → (k = 0 → y = v) → NW sc d_L_law D (621, [some (.inr (.inl (some 1000000))), some (.inr (.inl (some 0))), some (.inr (.inl (some 303))), some (.inr (.inl (some 314))), some (.inr (.inl (some 315))), some (.inl i), some (.inl k), none, none], [.inl y], (nw_u J2 303 13 k9, L1, W1), c1, s1) Qr Qx := fun y J2 k9 e9 f2 hy => by
      subst e9
      exact fn _ v y J1 J2 L1 W1 c1 s1 e1 e2 f1 f2 fl hl hy w1 w2
    refine b_L_law_603 hD ⟨by omega, by omega, by omega, by omega, ?_⟩
    rw [hx, hy]
    refine b_X12_channelBetween_0 (by decide) ?_
    rw [g1]
    (repeat' (first | refine And.intro ?_ ?_ | refine fun _ => ?_))
    all_goals first | omega | (exfalso; omega) | exact fin _ J1 _ (by omega) (fun _ _ => rfl) (by omega) | (refine t_X12_between I1 (fun r hr => ?_); rw [g1] at hr; have er := sp_btwF_eq hr; refine b_X12_channelBetween_21 (by decide) ?_; ((repeat' (first | refine And.intro ?_ ?_ | refine fun _ => ?_)); all_goals first | omega | (exfalso; omega) | exact fin _ J1 _ (by omega) (fun _ _ => rfl) (by omega)))
  refine b_L_law_586 hD (by omega) (by omega) ⟨by omega, by omega, by omega, by omega, ?_⟩
  rw [hx, hy]
  have kE : ∀ (k : Int) (J1 : Nat → Int → Int) n2, W.2.2.2.2 ≤ n2 → sp_wrk J J1 → (∀ v : Int, ¬ k = 0 ∧ ((k = 1 ∧ ¬ ((0 ≤ x ∧ x < J 304 1) ∧ (0 ≤ y ∧ y < J 304 1))) ∨ (k = 2 ∧ ((0 ≤ x ∧ x < J 304 1) ∧ (0 ≤ y ∧ y < J 304 1)) ∧ sp_btwF (J 304) x y = -1) ∨ (k = 0 ∧ ((0 ≤ x ∧ x < J 304 1) ∧ (0 ≤ y ∧ y < J 304 1)) ∧ ¬ sp_btwF (J 304) x y = -1 ∧ v = sp_btwF (J 304) x y))) → NW sc d_L_law D (603, [some (.inr (.inl (some 1000000))), some (.inr (.inl (some 0))), some (.inr (.inl (some 303))), some (.inr (.inl (some 314))), some (.inr (.inl (some 315))), some (.inl i), none, none, none], [.inl k], (J1, L, nw_top W n2), c - 4, sl - 24) Qr Qx := fun k J1 n2 h2 f1 hk => md k 0 J1 L _ _ _ (by omega) (by omega) f1 (fun _ _ => rfl) (fun z => absurd z (hk 0).1) rfl (sp_wW.top h2) (hk 0).2
  have kV : ∀ (v : Int) (J1 : Nat → Int → Int), sp_wrk J J1 → (∀ k : Int, k = 0 → ((k = 1 ∧ ¬ ((0 ≤ x ∧ x < J 304 1) ∧ (0 ≤ y ∧ y < J 304 1))) ∨ (k = 2 ∧ ((0 ≤ x ∧ x < J 304 1) ∧ (0 ≤ y ∧ y < J 304 1)) ∧ sp_btwF (J 304) x y = -1) ∨ (k = 0 ∧ ((0 ≤ x ∧ x < J 304 1) ∧ (0 ≤ y ∧ y < J 304 1)) ∧ ¬ sp_btwF (J 304) x y = -1 ∧ v = sp_btwF (J 304) x y))) → NW sc d_L_law D (603, [some (.inr (.inl (some 1000000))), some (.inr (.inl (some 0))), some (.inr (.inl (some 303))), some (.inr (.inl (some 314))), some (.inr (.inl (some 315))), some (.inl i), none, none, none], [.inl 0], (J1, nw_u L 314 0 v, W), c - 4, sl - 24) Qr Qx := fun v J1 f1 hk => md 0 v J1 _ W _ _ (by omega) (by omega) f1 (fun y a => nw_uP a) (fun _ => nw_uS) rfl sp_wW.refl (hk 0 rfl)
  refine b_L_channelBetween2_0 (by decide) (by decide) (by decide) ?_
  refine b_X11_channelBetween_0 (by decide) (by decide) (by decide) ?_
  (repeat' (first | refine And.intro ?_ ?_ | refine fun _ => ?_))
  all_goals first | omega | (exfalso; omega) | exact kE 1 J _ (by assumption) sp_wrk.refl (fun v => by omega) | (refine t_X9_findChannel R I (by omega) (by decide) (fun r hr => ?_); have er := sp_btwF_eq hr; refine b_X11_channelBetween_22 (by decide) (by decide) (by decide) ?_; ((repeat' (first | refine And.intro ?_ ?_ | refine fun _ => ?_)); all_goals first | omega | (exfalso; omega) | exact kE 2 J _ (by assumption) sp_wrk.refl (fun v => by omega) | exact b_L_channelBetween2_8 ⟨by decide, kV _ J sp_wrk.refl (fun k z => by omega)⟩))
theorem case_tide {i : Int} (hi : 0 ≤ i ∧ i + 5 ≤ (sc.1 : Int) ∧ (sc.1 : Int) ≤ 2560) (h : sp_Wd J L W B) (hB : B + 2200 ≤ 4000000) (hD : 18 ≤ D) (hc : 28 ≤ c) (hs : 4006 ≤ sl) (hQ : ∀ J' L' W' c1 s1, c ≤ c1 + 28 → sl ≤ s1 + 4006 → sp_Wd J' L' W' (B + 2200) → NW sc d_L_law D (3300, [some (.inr (.inl (some 1000000))), some (.inr (.inl (some 0))), some (.inr (.inl (some 303))), some (.inr (.inl (some 314))), some (.inr (.inl (some 315))), some (.inl i), none, none, none], [], (J', L', W'), c1, s1) Qr Qx) : NW sc d_L_law D (654, [some (.inr (.inl (some 1000000))), some (.inr (.inl (some 0))), some (.inr (.inl (some 303))), some (.inr (.inl (some 314))), some (.inr (.inl (some 315))), some (.inl i), none, none, none], [], (J, L, W), c, sl) Qr Qx := by
  have hA := h.1
  have R := sp_sh2.mp hA.1.1
  have I := hA.1.2.1
  have hbd := I.bd
  have hho := I.ho
  have hcr := I.cr
  have hch := I.ch
  have hfe := I.fe
  have hmo := I.mo
  have hnx := I.nx
  have c1 := R.cr
  have c2 := R.ch
  have c3 := R.fe
  have c4 := R.mo
  have c5 := R.ho
  obtain ⟨x, hx⟩ : ∃ x, nw_sc sc (i + 1) = x := ⟨_, rfl⟩
  have fn : ∀ (k v y : Int) (J1 J2 L1 : Nat → Int → Int) (W1 : nw_W) (c1 s1 : Nat), c ≤ c1 + 28 → sl ≤ s1 + 4006 → sp_wrk J J1 → (∀ x, ¬ (310 ≤ x ∧ x ≤ 312) → J2 x = J1 x) → (∀ y, ¬ y = 314 → L1 y = L y) → (k = 0 → L1 314 0 = v) → (k = 0 → y = v) → W1.2.1 = W.2.1 → sp_wW W W1 → NW sc d_L_law D (677, [some (.inr (.inl (some 1000000))), some (.inr (.inl (some 0))), some (.inr (.inl (some 303))), some (.inr (.inl (some 314))), some (.inr (.inl (some 315))), some (.inl i), some (.inl k), none, none], [.inl y], (nw_u J2 303 13 k, L1, W1), c1, s1) Qr Qx := fun k v y J1 J2 L1 W1 c1 s1 e1 e2 f1 f2 fl hl hy w1 w2 => by
    have go : NW sc d_L_law D (3300, [some (.inr (.inl (some 1000000))), some (.inr (.inl (some 0))), some (.inr (.inl (some 303))), some (.inr (.inl (some 314))), some (.inr (.inl (some 315))), some (.inl i), none, none, none], [], (nw_u J2 303 13 k, L1, W1), c1, s1) Qr Qx := hQ _ _ _ _ _ e1 e2 (h.q ⟨by omega, hB⟩ (fun x a => by
      have a3 : ¬ x = 303 := by omega
      rw [nw_uP a3, f2 x (by omega), f1 x (by omega)]) (fun j a => by rw [nw_uI a, f2 303 (by omega), f1 303 (by omega)]) fl w1 w2)
    exact b_L_law_677 hD ⟨fun _ => ⟨fun _ => go, fun z => ⟨fun _ => go, fun w => absurd (nw_cmp3_eq ((hl z).trans (hy z).symm)) w⟩⟩, fun w => absurd nw_uS w⟩
  have md : ∀ (k v : Int) (J1 L1 : Nat → Int → Int) (W1 : nw_W) (c1 s1 : Nat), c ≤ c1 + 28 → sl ≤ s1 + 4006 → sp_wrk J J1 → (∀ y, ¬ y = 314 → L1 y = L y) → (k = 0 → L1 314 0 = v) → W1.2.1 = W.2.1 → sp_wW W W1 → ((k = 1 ∧ ¬ (0 ≤ x ∧ x ≤ 9999)) ∨ (k = 0 ∧ (0 ≤ x ∧ x ≤ 9999) ∧ v = sp_tide x)) → NW sc d_L_law D (665, [some (.inr (.inl (some 1000000))), some (.inr (.inl (some 0))), some (.inr (.inl (some 303))), some (.inr (.inl (some 314))), some (.inr (.inl (some 315))), some (.inl i), none, none, none], [.inl k], (J1, L1, W1), c1, s1) Qr Qx := fun k v J1 L1 W1 c1 s1 e1 e2 f1 fl hl w1 w2 sp => by
    have g1 : J1 304 = J 304 := f1 304 (by omega)
    have I1 : Inv (J1 304) B := by rw [g1]; exact I
    have fin : ∀ (y : Int) (J2 : Nat → Int → Int) k9, k9 = k → (∀ x, ¬ (310 ≤ x ∧ x ≤ 312) → J2 x = J1 x) → (k = 0 → y = v) → NW sc d_L_law D (677, [some (.inr (.inl (some 1000000))), some (.inr (.inl (some 0))), some (.inr (.inl (some 303))), some (.inr (.inl (some 314))), some (.inr (.inl (some 315))), some (.inl i), some (.inl k), none, none], [.inl y], (nw_u J2 303 13 k9, L1, W1), c1, s1) Qr Qx := fun y J2 k9 e9 f2 hy => by
      subst e9
      exact fn _ v y J1 J2 L1 W1 c1 s1 e1 e2 f1 f2 fl hl hy w1 w2
    refine b_L_law_665 hD ⟨by omega, by omega, ?_⟩
    rw [hx]
    refine b_X12_tide_0 (by decide) ?_
    (repeat' (first | refine And.intro ?_ ?_ | refine fun _ => ?_))
    all_goals first | omega | (exfalso; omega) | exact fin _ J1 _ (by omega) (fun _ _ => rfl) (by omega) | (refine t_tideAt (by omega) (b_X12_tide_16 (by decide) ?_); exact fin _ J1 _ (by omega) (fun _ _ => rfl) (by omega))
  refine b_L_law_654 hD (by omega) (by omega) ⟨by omega, by omega, ?_⟩
  rw [hx]
  have kE : ∀ (k : Int) (J1 : Nat → Int → Int) n2, W.2.2.2.2 ≤ n2 → sp_wrk J J1 → (∀ v : Int, ¬ k = 0 ∧ ((k = 1 ∧ ¬ (0 ≤ x ∧ x ≤ 9999)) ∨ (k = 0 ∧ (0 ≤ x ∧ x ≤ 9999) ∧ v = sp_tide x))) → NW sc d_L_law D (665, [some (.inr (.inl (some 1000000))), some (.inr (.inl (some 0))), some (.inr (.inl (some 303))), some (.inr (.inl (some 314))), some (.inr (.inl (some 315))), some (.inl i), none, none, none], [.inl k], (J1, L, nw_top W n2), c - 4, sl - 24) Qr Qx := fun k J1 n2 h2 f1 hk => md k 0 J1 L _ _ _ (by omega) (by omega) f1 (fun _ _ => rfl) (fun z => absurd z (hk 0).1) rfl (sp_wW.top h2) (hk 0).2
  have kV : ∀ (v : Int) (J1 : Nat → Int → Int), sp_wrk J J1 → (∀ k : Int, k = 0 → ((k = 1 ∧ ¬ (0 ≤ x ∧ x ≤ 9999)) ∨ (k = 0 ∧ (0 ≤ x ∧ x ≤ 9999) ∧ v = sp_tide x))) → NW sc d_L_law D (665, [some (.inr (.inl (some 1000000))), some (.inr (.inl (some 0))), some (.inr (.inl (some 303))), some (.inr (.inl (some 314))), some (.inr (.inl (some 315))), some (.inl i), none, none, none], [.inl 0], (J1, nw_u L 314 0 v, W), c - 4, sl - 24) Qr Qx := fun v J1 f1 hk => md 0 v J1 _ W _ _ (by omega) (by omega) f1 (fun y a => nw_uP a) (fun _ => nw_uS) rfl sp_wW.refl (hk 0 rfl)
  refine b_L_tide2_0 (by decide) (by decide) (by decide) ?_
  refine b_X11_tide_0 (by decide) (by decide) (by decide) ?_
  (repeat' (first | refine And.intro ?_ ?_ | refine fun _ => ?_))
  all_goals first | omega | (exfalso; omega) | exact kE 1 J _ (by assumption) sp_wrk.refl (fun v => by omega) | (refine t_tideIn (by omega) (by decide) (b_X11_tide_23 ?_); exact b_L_tide2_7 ⟨by decide, kV _ J sp_wrk.refl (fun k z => by omega)⟩)
theorem case_wayHours {i : Int} (hi : 0 ≤ i ∧ i + 5 ≤ (sc.1 : Int) ∧ (sc.1 : Int) ≤ 2560) (h : sp_Wd J L W B) (hB : B + 2200 ≤ 4000000) (hD : 18 ≤ D) (hc : 28 ≤ c) (hs : 4006 ≤ sl) (hQ : ∀ J' L' W' c1 s1, c ≤ c1 + 28 → sl ≤ s1 + 4006 → sp_Wd J' L' W' (B + 2200) → NW sc d_L_law D (3300, [some (.inr (.inl (some 1000000))), some (.inr (.inl (some 0))), some (.inr (.inl (some 303))), some (.inr (.inl (some 314))), some (.inr (.inl (some 315))), some (.inl i), none, none, none], [], (J', L', W'), c1, s1) Qr Qx) : NW sc d_L_law D (710, [some (.inr (.inl (some 1000000))), some (.inr (.inl (some 0))), some (.inr (.inl (some 303))), some (.inr (.inl (some 314))), some (.inr (.inl (some 315))), some (.inl i), none, none, none], [], (J, L, W), c, sl) Qr Qx := by
  have hA := h.1
  have R := sp_sh2.mp hA.1.1
  have I := hA.1.2.1
  have hbd := I.bd
  have hho := I.ho
  have hcr := I.cr
  have hch := I.ch
  have hfe := I.fe
  have hmo := I.mo
  have hnx := I.nx
  have c1 := R.cr
  have c2 := R.ch
  have c3 := R.fe
  have c4 := R.mo
  have c5 := R.ho
  obtain ⟨x, hx⟩ : ∃ x, nw_sc sc (i + 1) = x := ⟨_, rfl⟩
  obtain ⟨y, hy⟩ : ∃ y, nw_sc sc (i + 2) = y := ⟨_, rfl⟩
  have db := sp_D_bd I x y
  have dn := sp_D_nn I x y
  have en : (sp_D (J 304) x y = 10000 ∧ sp_enc (sp_D (J 304) x y) = -1) ∨ (¬ sp_D (J 304) x y = 10000 ∧ sp_enc (sp_D (J 304) x y) = sp_D (J 304) x y) := by
    by_cases z : sp_D (J 304) x y = 10000
    · exact Or.inl ⟨z, if_pos z⟩
    · exact Or.inr ⟨z, if_neg z⟩
  have fn : ∀ (k v y : Int) (J1 J2 L1 : Nat → Int → Int) (W1 : nw_W) (c1 s1 : Nat), c ≤ c1 + 28 → sl ≤ s1 + 4006 → sp_wrk J J1 → (∀ x, ¬ (310 ≤ x ∧ x ≤ 312) → J2 x = J1 x) → (∀ y, ¬ y = 314 → L1 y = L y) → (k = 0 → L1 314 0 = v) → (k = 0 → y = v) → W1.2.1 = W.2.1 → sp_wW W W1 → NW sc d_L_law D (745, [some (.inr (.inl (some 1000000))), some (.inr (.inl (some 0))), some (.inr (.inl (some 303))), some (.inr (.inl (some 314))), some (.inr (.inl (some 315))), some (.inl i), some (.inl k), none, none], [.inl y], (nw_u J2 303 13 k, L1, W1), c1, s1) Qr Qx := fun k v y J1 J2 L1 W1 c1 s1 e1 e2 f1 f2 fl hl hy w1 w2 => by
    have go : NW sc d_L_law D (3300, [some (.inr (.inl (some 1000000))), some (.inr (.inl (some 0))), some (.inr (.inl (some 303))), some (.inr (.inl (some 314))), some (.inr (.inl (some 315))), some (.inl i), none, none, none], [], (nw_u J2 303 13 k, L1, W1), c1, s1) Qr Qx := hQ _ _ _ _ _ e1 e2 (h.q ⟨by omega, hB⟩ (fun x a => by
      have a3 : ¬ x = 303 := by omega
      rw [nw_uP a3, f2 x (by omega), f1 x (by omega)]) (fun j a => by rw [nw_uI a, f2 303 (by omega), f1 303 (by omega)]) fl w1 w2)
    exact b_L_law_745 hD ⟨fun _ => ⟨fun _ => go, fun z => ⟨fun _ => go, fun w => absurd (nw_cmp3_eq ((hl z).trans (hy z).symm)) w⟩⟩, fun w => absurd nw_uS w⟩
  have md : ∀ (k v : Int) (J1 L1 : Nat → Int → Int) (W1 : nw_W) (c1 s1 : Nat), c ≤ c1 + 28 → sl ≤ s1 + 4006 → sp_wrk J J1 → (∀ y, ¬ y = 314 → L1 y = L y) → (k = 0 → L1 314 0 = v) → W1.2.1 = W.2.1 → sp_wW W W1 → ((k = 1 ∧ ¬ ((0 ≤ x ∧ x < J 304 1) ∧ (0 ≤ y ∧ y < J 304 1))) ∨ (k = 2 ∧ ((0 ≤ x ∧ x < J 304 1) ∧ (0 ≤ y ∧ y < J 304 1)) ∧ sp_D (J 304) x y = 10000) ∨ (k = 0 ∧ ((0 ≤ x ∧ x < J 304 1) ∧ (0 ≤ y ∧ y < J 304 1)) ∧ ¬ sp_D (J 304) x y = 10000 ∧ v = sp_D (J 304) x y)) → NW sc d_L_law D (727, [some (.inr (.inl (some 1000000))), some (.inr (.inl (some 0))), some (.inr (.inl (some 303))), some (.inr (.inl (some 314))), some (.inr (.inl (some 315))), some (.inl i), none, none, none], [.inl k], (J1, L1, W1), c1, s1) Qr Qx := fun k v J1 L1 W1 c1 s1 e1 e2 f1 fl hl w1 w2 sp => by
    have g1 : J1 304 = J 304 := f1 304 (by omega)
    have I1 : Inv (J1 304) B := by rw [g1]; exact I
    have fin : ∀ (y : Int) (J2 : Nat → Int → Int) k9, k9 = k → (∀ x, ¬ (310 ≤ x ∧ x ≤ 312) → J2 x = J1 x) → (k = 0 → y = v) → NW sc d_L_law D (745, [some (.inr (.inl (some 1000000))), some (.inr (.inl (some 0))), some (.inr (.inl (some 303))), some (.inr (.inl (some 314))), some (.inr (.inl (some 315))), some (.inl i), some (.inl k), none, none], [.inl y], (nw_u J2 303 13 k9, L1, W1), c1, s1) Qr Qx := fun y J2 k9 e9 f2 hy => by
      subst e9
      exact fn _ v y J1 J2 L1 W1 c1 s1 e1 e2 f1 f2 fl hl hy w1 w2
    refine b_L_law_727 hD ⟨by omega, by omega, by omega, by omega, ?_⟩
    rw [hx, hy]
    refine b_X12_wayHours_0 (by decide) ?_
    rw [g1]
    (repeat' (first | refine And.intro ?_ ?_ | refine fun _ => ?_))
    all_goals first | omega | (exfalso; omega) | exact fin _ J1 _ (by omega) (fun _ _ => rfl) (by omega) | (refine t_X12_finds I1 (fun J2 x2 w2' => ?_); have g2 : J2 304 = J 304 := (x2 304 (by decide)).trans g1; have ew := w2' (6 * x + y) (by omega) (by omega); rw [show (6 * x + y) / 6 = x by omega, show (6 * x + y) % 6 = y by omega, g1] at ew; refine b_X12_wayHours_19 (by decide) ?_; ((repeat' (first | refine And.intro ?_ ?_ | refine fun _ => ?_)); all_goals first | omega | (exfalso; omega) | exact fin _ J2 _ (by omega) (fun z a => x2 z (by omega)) (by omega)))
  refine b_L_law_710 hD (by omega) (by omega) ⟨by omega, by omega, by omega, by omega, ?_⟩
  rw [hx, hy]
  have kE : ∀ (k : Int) (J1 : Nat → Int → Int) n2, W.2.2.2.2 ≤ n2 → sp_wrk J J1 → (∀ v : Int, ¬ k = 0 ∧ ((k = 1 ∧ ¬ ((0 ≤ x ∧ x < J 304 1) ∧ (0 ≤ y ∧ y < J 304 1))) ∨ (k = 2 ∧ ((0 ≤ x ∧ x < J 304 1) ∧ (0 ≤ y ∧ y < J 304 1)) ∧ sp_D (J 304) x y = 10000) ∨ (k = 0 ∧ ((0 ≤ x ∧ x < J 304 1) ∧ (0 ≤ y ∧ y < J 304 1)) ∧ ¬ sp_D (J 304) x y = 10000 ∧ v = sp_D (J 304) x y))) → NW sc d_L_law D (727, [some (.inr (.inl (some 1000000))), some (.inr (.inl (some 0))), some (.inr (.inl (some 303))), some (.inr (.inl (some 314))), some (.inr (.inl (some 315))), some (.inl i), none, none, none], [.inl k], (J1, L, nw_top W n2), c - 4, sl - 24) Qr Qx := fun k J1 n2 h2 f1 hk => md k 0 J1 L _ _ _ (by omega) (by omega) f1 (fun _ _ => rfl) (fun z => absurd z (hk 0).1) rfl (sp_wW.top h2) (hk 0).2
  have kV : ∀ (v : Int) (J1 : Nat → Int → Int), sp_wrk J J1 → (∀ k : Int, k = 0 → ((k = 1 ∧ ¬ ((0 ≤ x ∧ x < J 304 1) ∧ (0 ≤ y ∧ y < J 304 1))) ∨ (k = 2 ∧ ((0 ≤ x ∧ x < J 304 1) ∧ (0 ≤ y ∧ y < J 304 1)) ∧ sp_D (J 304) x y = 10000) ∨ (k = 0 ∧ ((0 ≤ x ∧ x < J 304 1) ∧ (0 ≤ y ∧ y < J 304 1)) ∧ ¬ sp_D (J 304) x y = 10000 ∧ v = sp_D (J 304) x y))) → NW sc d_L_law D (727, [some (.inr (.inl (some 1000000))), some (.inr (.inl (some 0))), some (.inr (.inl (some 303))), some (.inr (.inl (some 314))), some (.inr (.inl (some 315))), some (.inl i), none, none, none], [.inl 0], (J1, nw_u L 314 0 v, W), c - 4, sl - 24) Qr Qx := fun v J1 f1 hk => md 0 v J1 _ W _ _ (by omega) (by omega) f1 (fun y a => nw_uP a) (fun _ => nw_uS) rfl sp_wW.refl (hk 0 rfl)
  refine b_L_wayHours2_0 (by decide) (by decide) (by decide) ?_
  refine b_X11_wayHours_0 (by decide) (by decide) (by decide) ?_
  (repeat' (first | refine And.intro ?_ ?_ | refine fun _ => ?_))
  all_goals first | omega | (exfalso; omega) | exact kE 1 J _ (by assumption) sp_wrk.refl (fun v => by omega) | (refine t_X10_spreadFrom R I ⟨by omega, by omega⟩ (by decide) (fun J1 x1 h1 => ?_); have e1 := h1 y (by omega) (by omega); refine b_X11_wayHours_25 (by decide) (by decide) (by decide) ?_; ((repeat' (first | refine And.intro ?_ ?_ | refine fun _ => ?_)); all_goals first | omega | (exfalso; omega) | exact kE 2 J1 _ (by assumption) (fun z a => x1 z (by omega)) (fun v => by omega) | exact b_L_wayHours2_8 ⟨by decide, kV _ J1 (fun z a => x1 z (by omega)) (fun k z => by omega)⟩))
theorem case_wayHoursByTable {i : Int} (hi : 0 ≤ i ∧ i + 5 ≤ (sc.1 : Int) ∧ (sc.1 : Int) ≤ 2560) (h : sp_Wd J L W B) (hB : B + 2200 ≤ 4000000) (hD : 18 ≤ D) (hc : 28 ≤ c) (hs : 4006 ≤ sl) (hQ : ∀ J' L' W' c1 s1, c ≤ c1 + 28 → sl ≤ s1 + 4006 → sp_Wd J' L' W' (B + 2200) → NW sc d_L_law D (3300, [some (.inr (.inl (some 1000000))), some (.inr (.inl (some 0))), some (.inr (.inl (some 303))), some (.inr (.inl (some 314))), some (.inr (.inl (some 315))), some (.inl i), none, none, none], [], (J', L', W'), c1, s1) Qr Qx) : NW sc d_L_law D (778, [some (.inr (.inl (some 1000000))), some (.inr (.inl (some 0))), some (.inr (.inl (some 303))), some (.inr (.inl (some 314))), some (.inr (.inl (some 315))), some (.inl i), none, none, none], [], (J, L, W), c, sl) Qr Qx := by
  have hA := h.1
  have R := sp_sh2.mp hA.1.1
  have I := hA.1.2.1
  have hbd := I.bd
  have hho := I.ho
  have hcr := I.cr
  have hch := I.ch
  have hfe := I.fe
  have hmo := I.mo
  have hnx := I.nx
  have c1 := R.cr
  have c2 := R.ch
  have c3 := R.fe
  have c4 := R.mo
  have c5 := R.ho
  obtain ⟨x, hx⟩ : ∃ x, nw_sc sc (i + 1) = x := ⟨_, rfl⟩
  obtain ⟨y, hy⟩ : ∃ y, nw_sc sc (i + 2) = y := ⟨_, rfl⟩
  have db := sp_D_bd I x y
  have dn := sp_D_nn I x y
  have en : (sp_D (J 304) x y = 10000 ∧ sp_enc (sp_D (J 304) x y) = -1) ∨ (¬ sp_D (J 304) x y = 10000 ∧ sp_enc (sp_D (J 304) x y) = sp_D (J 304) x y) := by
    by_cases z : sp_D (J 304) x y = 10000
    · exact Or.inl ⟨z, if_pos z⟩
    · exact Or.inr ⟨z, if_neg z⟩
  have fn : ∀ (k v y : Int) (J1 J2 L1 : Nat → Int → Int) (W1 : nw_W) (c1 s1 : Nat), c ≤ c1 + 28 → sl ≤ s1 + 4006 → sp_wrk J J1 → (∀ x, ¬ (310 ≤ x ∧ x ≤ 312) → J2 x = J1 x) → (∀ y, ¬ y = 314 → L1 y = L y) → (k = 0 → L1 314 0 = v) → (k = 0 → y = v) → W1.2.1 = W.2.1 → sp_wW W W1 → NW sc d_L_law D (813, [some (.inr (.inl (some 1000000))), some (.inr (.inl (some 0))), some (.inr (.inl (some 303))), some (.inr (.inl (some 314))), some (.inr (.inl (some 315))), some (.inl i), some (.inl k), none, none], [.inl y], (nw_u J2 303 13 k, L1, W1), c1, s1) Qr Qx := fun k v y J1 J2 L1 W1 c1 s1 e1 e2 f1 f2 fl hl hy w1 w2 => by
    have go : NW sc d_L_law D (3300, [some (.inr (.inl (some 1000000))), some (.inr (.inl (some 0))), some (.inr (.inl (some 303))), some (.inr (.inl (some 314))), some (.inr (.inl (some 315))), some (.inl i), none, none, none], [], (nw_u J2 303 13 k, L1, W1), c1, s1) Qr Qx := hQ _ _ _ _ _ e1 e2 (h.q ⟨by omega, hB⟩ (fun x a => by
      have a3 : ¬ x = 303 := by omega
      rw [nw_uP a3, f2 x (by omega), f1 x (by omega)]) (fun j a => by rw [nw_uI a, f2 303 (by omega), f1 303 (by omega)]) fl w1 w2)
    exact b_L_law_813 hD ⟨fun _ => ⟨fun _ => go, fun z => ⟨fun _ => go, fun w => absurd (nw_cmp3_eq ((hl z).trans (hy z).symm)) w⟩⟩, fun w => absurd nw_uS w⟩
  have md : ∀ (k v : Int) (J1 L1 : Nat → Int → Int) (W1 : nw_W) (c1 s1 : Nat), c ≤ c1 + 28 → sl ≤ s1 + 4006 → sp_wrk J J1 → (∀ y, ¬ y = 314 → L1 y = L y) → (k = 0 → L1 314 0 = v) → W1.2.1 = W.2.1 → sp_wW W W1 → ((k = 1 ∧ ¬ ((0 ≤ x ∧ x < J 304 1) ∧ (0 ≤ y ∧ y < J 304 1))) ∨ (k = 2 ∧ ((0 ≤ x ∧ x < J 304 1) ∧ (0 ≤ y ∧ y < J 304 1)) ∧ sp_D (J 304) x y = 10000) ∨ (k = 0 ∧ ((0 ≤ x ∧ x < J 304 1) ∧ (0 ≤ y ∧ y < J 304 1)) ∧ ¬ sp_D (J 304) x y = 10000 ∧ v = sp_D (J 304) x y)) → NW sc d_L_law D (795, [some (.inr (.inl (some 1000000))), some (.inr (.inl (some 0))), some (.inr (.inl (some 303))), some (.inr (.inl (some 314))), some (.inr (.inl (some 315))), some (.inl i), none, none, none], [.inl k], (J1, L1, W1), c1, s1) Qr Qx := fun k v J1 L1 W1 c1 s1 e1 e2 f1 fl hl w1 w2 sp => by
    have g1 : J1 304 = J 304 := f1 304 (by omega)
    have I1 : Inv (J1 304) B := by rw [g1]; exact I
    have fin : ∀ (y : Int) (J2 : Nat → Int → Int) k9, k9 = k → (∀ x, ¬ (310 ≤ x ∧ x ≤ 312) → J2 x = J1 x) → (k = 0 → y = v) → NW sc d_L_law D (813, [some (.inr (.inl (some 1000000))), some (.inr (.inl (some 0))), some (.inr (.inl (some 303))), some (.inr (.inl (some 314))), some (.inr (.inl (some 315))), some (.inl i), some (.inl k), none, none], [.inl y], (nw_u J2 303 13 k9, L1, W1), c1, s1) Qr Qx := fun y J2 k9 e9 f2 hy => by
      subst e9
      exact fn _ v y J1 J2 L1 W1 c1 s1 e1 e2 f1 f2 fl hl hy w1 w2
    refine b_L_law_795 hD ⟨by omega, by omega, by omega, by omega, ?_⟩
    rw [hx, hy]
    refine b_X12_wayHoursByTable_0 (by decide) ?_
    refine b_X12_wayHours_0 (by decide) ?_
    rw [g1]
    (repeat' (first | refine And.intro ?_ ?_ | refine fun _ => ?_))
    all_goals first | omega | (exfalso; omega) | (refine b_X12_wayHoursByTable_6 ?_; exact fin _ J1 _ (by omega) (fun _ _ => rfl) (by omega)) | (refine t_X12_finds I1 (fun J2 x2 w2' => ?_); have g2 : J2 304 = J 304 := (x2 304 (by decide)).trans g1; have ew := w2' (6 * x + y) (by omega) (by omega); rw [show (6 * x + y) / 6 = x by omega, show (6 * x + y) % 6 = y by omega, g1] at ew; refine b_X12_wayHours_19 (by decide) ?_; ((repeat' (first | refine And.intro ?_ ?_ | refine fun _ => ?_)); all_goals first | omega | (exfalso; omega) | (refine b_X12_wayHoursByTable_6 ?_; exact fin _ J2 _ (by omega) (fun z a => x2 z (by omega)) (by omega))))
  refine b_L_law_778 hD (by omega) (by omega) ⟨by omega, by omega, by omega, by omega, ?_⟩
  rw [hx, hy]
  have kE : ∀ (k : Int) (J1 : Nat → Int → Int) n2, W.2.2.2.2 ≤ n2 → sp_wrk J J1 → (∀ v : Int, ¬ k = 0 ∧ ((k = 1 ∧ ¬ ((0 ≤ x ∧ x < J 304 1) ∧ (0 ≤ y ∧ y < J 304 1))) ∨ (k = 2 ∧ ((0 ≤ x ∧ x < J 304 1) ∧ (0 ≤ y ∧ y < J 304 1)) ∧ sp_D (J 304) x y = 10000) ∨ (k = 0 ∧ ((0 ≤ x ∧ x < J 304 1) ∧ (0 ≤ y ∧ y < J 304 1)) ∧ ¬ sp_D (J 304) x y = 10000 ∧ v = sp_D (J 304) x y))) → NW sc d_L_law D (795, [some (.inr (.inl (some 1000000))), some (.inr (.inl (some 0))), some (.inr (.inl (some 303))), some (.inr (.inl (some 314))), some (.inr (.inl (some 315))), some (.inl i), none, none, none], [.inl k], (J1, L, nw_top W n2), c - 4, sl - 24) Qr Qx := fun k J1 n2 h2 f1 hk => md k 0 J1 L _ _ _ (by omega) (by omega) f1 (fun _ _ => rfl) (fun z => absurd z (hk 0).1) rfl (sp_wW.top h2) (hk 0).2
  have kV : ∀ (v : Int) (J1 : Nat → Int → Int), sp_wrk J J1 → (∀ k : Int, k = 0 → ((k = 1 ∧ ¬ ((0 ≤ x ∧ x < J 304 1) ∧ (0 ≤ y ∧ y < J 304 1))) ∨ (k = 2 ∧ ((0 ≤ x ∧ x < J 304 1) ∧ (0 ≤ y ∧ y < J 304 1)) ∧ sp_D (J 304) x y = 10000) ∨ (k = 0 ∧ ((0 ≤ x ∧ x < J 304 1) ∧ (0 ≤ y ∧ y < J 304 1)) ∧ ¬ sp_D (J 304) x y = 10000 ∧ v = sp_D (J 304) x y))) → NW sc d_L_law D (795, [some (.inr (.inl (some 1000000))), some (.inr (.inl (some 0))), some (.inr (.inl (some 303))), some (.inr (.inl (some 314))), some (.inr (.inl (some 315))), some (.inl i), none, none, none], [.inl 0], (J1, nw_u L 314 0 v, W), c - 4, sl - 24) Qr Qx := fun v J1 f1 hk => md 0 v J1 _ W _ _ (by omega) (by omega) f1 (fun y a => nw_uP a) (fun _ => nw_uS) rfl sp_wW.refl (hk 0 rfl)
  refine b_L_wayHoursByTable2_0 (by decide) (by decide) (by decide) ?_
  refine b_X11_wayHoursByTable_0 (by decide) (by decide) (by decide) ?_
  (repeat' (first | refine And.intro ?_ ?_ | refine fun _ => ?_))
  all_goals first | omega | (exfalso; omega) | exact kE 1 J _ (by assumption) sp_wrk.refl (fun v => by omega) | (refine t_X10_fillTable R I (by decide) (fun J1 x1 h1 => ?_); have e1 := h1 x y (by omega) (by omega) (by omega) (by omega); refine b_X11_wayHoursByTable_24 (by decide) (by decide) (by decide) ?_; ((repeat' (first | refine And.intro ?_ ?_ | refine fun _ => ?_)); all_goals first | omega | (exfalso; omega) | exact kE 2 J1 _ (by assumption) (fun z a => x1 z (by omega)) (fun v => by omega) | exact b_L_wayHoursByTable2_8 ⟨by decide, kV _ J1 (fun z a => x1 z (by omega)) (fun k z => by omega)⟩))
theorem case_loadOf {i : Int} (hi : 0 ≤ i ∧ i + 5 ≤ (sc.1 : Int) ∧ (sc.1 : Int) ≤ 2560) (h : sp_Wd J L W B) (hB : B + 2200 ≤ 4000000) (hD : 18 ≤ D) (hc : 28 ≤ c) (hs : 4006 ≤ sl) (hQ : ∀ J' L' W' c1 s1, c ≤ c1 + 28 → sl ≤ s1 + 4006 → sp_Wd J' L' W' (B + 2200) → NW sc d_L_law D (3300, [some (.inr (.inl (some 1000000))), some (.inr (.inl (some 0))), some (.inr (.inl (some 303))), some (.inr (.inl (some 314))), some (.inr (.inl (some 315))), some (.inl i), none, none, none], [], (J', L', W'), c1, s1) Qr Qx) : NW sc d_L_law D (1376, [some (.inr (.inl (some 1000000))), some (.inr (.inl (some 0))), some (.inr (.inl (some 303))), some (.inr (.inl (some 314))), some (.inr (.inl (some 315))), some (.inl i), none, none, none], [], (J, L, W), c, sl) Qr Qx := by
  have hA := h.1
  have R := sp_sh2.mp hA.1.1
  have I := hA.1.2.1
  have hbd := I.bd
  have hho := I.ho
  have hcr := I.cr
  have hch := I.ch
  have hfe := I.fe
  have hmo := I.mo
  have hnx := I.nx
  have c1 := R.cr
  have c2 := R.ch
  have c3 := R.fe
  have c4 := R.mo
  have c5 := R.ho
  obtain ⟨x, hx⟩ : ∃ x, nw_sc sc (i + 1) = x := ⟨_, rfl⟩
  have fn : ∀ (k v y : Int) (J1 J2 L1 : Nat → Int → Int) (W1 : nw_W) (c1 s1 : Nat), c ≤ c1 + 28 → sl ≤ s1 + 4006 → sp_wrk J J1 → (∀ x, ¬ (310 ≤ x ∧ x ≤ 312) → J2 x = J1 x) → (∀ y, ¬ y = 314 → L1 y = L y) → (k = 0 → L1 314 0 = v) → (k = 0 → y = v) → W1.2.1 = W.2.1 → sp_wW W W1 → NW sc d_L_law D (1399, [some (.inr (.inl (some 1000000))), some (.inr (.inl (some 0))), some (.inr (.inl (some 303))), some (.inr (.inl (some 314))), some (.inr (.inl (some 315))), some (.inl i), some (.inl k), none, none], [.inl y], (nw_u J2 303 13 k, L1, W1), c1, s1) Qr Qx := fun k v y J1 J2 L1 W1 c1 s1 e1 e2 f1 f2 fl hl hy w1 w2 => by
    have go : NW sc d_L_law D (3300, [some (.inr (.inl (some 1000000))), some (.inr (.inl (some 0))), some (.inr (.inl (some 303))), some (.inr (.inl (some 314))), some (.inr (.inl (some 315))), some (.inl i), none, none, none], [], (nw_u J2 303 13 k, L1, W1), c1, s1) Qr Qx := hQ _ _ _ _ _ e1 e2 (h.q ⟨by omega, hB⟩ (fun x a => by
      have a3 : ¬ x = 303 := by omega
      rw [nw_uP a3, f2 x (by omega), f1 x (by omega)]) (fun j a => by rw [nw_uI a, f2 303 (by omega), f1 303 (by omega)]) fl w1 w2)
    exact b_L_law_1399 hD ⟨fun _ => ⟨fun _ => go, fun z => ⟨fun _ => go, fun w => absurd (nw_cmp3_eq ((hl z).trans (hy z).symm)) w⟩⟩, fun w => absurd nw_uS w⟩
  have md : ∀ (k v : Int) (J1 L1 : Nat → Int → Int) (W1 : nw_W) (c1 s1 : Nat), c ≤ c1 + 28 → sl ≤ s1 + 4006 → sp_wrk J J1 → (∀ y, ¬ y = 314 → L1 y = L y) → (k = 0 → L1 314 0 = v) → W1.2.1 = W.2.1 → sp_wW W W1 → ((k = 1 ∧ ¬ (0 ≤ x ∧ x < J 304 3)) ∨ (k = 0 ∧ (0 ≤ x ∧ x < J 304 3) ∧ v = sp_car (J 304) x)) → NW sc d_L_law D (1387, [some (.inr (.inl (some 1000000))), some (.inr (.inl (some 0))), some (.inr (.inl (some 303))), some (.inr (.inl (some 314))), some (.inr (.inl (some 315))), some (.inl i), none, none, none], [.inl k], (J1, L1, W1), c1, s1) Qr Qx := fun k v J1 L1 W1 c1 s1 e1 e2 f1 fl hl w1 w2 sp => by
    have g1 : J1 304 = J 304 := f1 304 (by omega)
    have I1 : Inv (J1 304) B := by rw [g1]; exact I
    have fin : ∀ (y : Int) (J2 : Nat → Int → Int) k9, k9 = k → (∀ x, ¬ (310 ≤ x ∧ x ≤ 312) → J2 x = J1 x) → (k = 0 → y = v) → NW sc d_L_law D (1399, [some (.inr (.inl (some 1000000))), some (.inr (.inl (some 0))), some (.inr (.inl (some 303))), some (.inr (.inl (some 314))), some (.inr (.inl (some 315))), some (.inl i), some (.inl k), none, none], [.inl y], (nw_u J2 303 13 k9, L1, W1), c1, s1) Qr Qx := fun y J2 k9 e9 f2 hy => by
      subst e9
      exact fn _ v y J1 J2 L1 W1 c1 s1 e1 e2 f1 f2 fl hl hy w1 w2
    refine b_L_law_1387 hD ⟨by omega, by omega, ?_⟩
    rw [hx]
    refine b_X12_loadOf_0 (by decide) ?_
    rw [g1]
    (repeat' (first | refine And.intro ?_ ?_ | refine fun _ => ?_))
    all_goals first | omega | (exfalso; omega) | exact fin _ J1 _ (by omega) (fun _ _ => rfl) (by omega) | (refine t_X12_carried I1 ⟨by omega, by omega⟩ (b_X12_loadOf_14 (by decide) ?_); rw [g1]; exact fin _ J1 _ (by omega) (fun _ _ => rfl) (by omega))
  refine b_L_law_1376 hD (by omega) (by omega) ⟨by omega, by omega, ?_⟩
  rw [hx]
  have kE : ∀ (k : Int) (J1 : Nat → Int → Int) n2, W.2.2.2.2 ≤ n2 → sp_wrk J J1 → (∀ v : Int, ¬ k = 0 ∧ ((k = 1 ∧ ¬ (0 ≤ x ∧ x < J 304 3)) ∨ (k = 0 ∧ (0 ≤ x ∧ x < J 304 3) ∧ v = sp_car (J 304) x))) → NW sc d_L_law D (1387, [some (.inr (.inl (some 1000000))), some (.inr (.inl (some 0))), some (.inr (.inl (some 303))), some (.inr (.inl (some 314))), some (.inr (.inl (some 315))), some (.inl i), none, none, none], [.inl k], (J1, L, nw_top W n2), c - 4, sl - 24) Qr Qx := fun k J1 n2 h2 f1 hk => md k 0 J1 L _ _ _ (by omega) (by omega) f1 (fun _ _ => rfl) (fun z => absurd z (hk 0).1) rfl (sp_wW.top h2) (hk 0).2
  have kV : ∀ (v : Int) (J1 : Nat → Int → Int), sp_wrk J J1 → (∀ k : Int, k = 0 → ((k = 1 ∧ ¬ (0 ≤ x ∧ x < J 304 3)) ∨ (k = 0 ∧ (0 ≤ x ∧ x < J 304 3) ∧ v = sp_car (J 304) x))) → NW sc d_L_law D (1387, [some (.inr (.inl (some 1000000))), some (.inr (.inl (some 0))), some (.inr (.inl (some 303))), some (.inr (.inl (some 314))), some (.inr (.inl (some 315))), some (.inl i), none, none, none], [.inl 0], (J1, nw_u L 314 0 v, W), c - 4, sl - 24) Qr Qx := fun v J1 f1 hk => md 0 v J1 _ W _ _ (by omega) (by omega) f1 (fun y a => nw_uP a) (fun _ => nw_uS) rfl sp_wW.refl (hk 0 rfl)
  refine b_L_loadOf2_0 (by decide) (by decide) (by decide) ?_
  refine b_X11_loadOf_0 (by decide) (by decide) (by decide) ?_
  (repeat' (first | refine And.intro ?_ ?_ | refine fun _ => ?_))
  all_goals first | omega | (exfalso; omega) | exact kE 1 J _ (by assumption) sp_wrk.refl (fun v => by omega) | (refine t_X7_weightAboard R I (by omega) (b_X11_loadOf_16 ?_); exact b_L_loadOf2_7 ⟨by decide, kV _ J sp_wrk.refl (fun k z => by omega)⟩)
theorem case_bestLoad {i : Int} (hi : 0 ≤ i ∧ i + 5 ≤ (sc.1 : Int) ∧ (sc.1 : Int) ≤ 2560) (h : sp_Wd J L W B) (hB : B + 2200 ≤ 4000000) (hD : 18 ≤ D) (hc : 28 ≤ c) (hs : 4006 ≤ sl) (hQ : ∀ J' L' W' c1 s1, c ≤ c1 + 28 → sl ≤ s1 + 4006 → sp_Wd J' L' W' (B + 2200) → NW sc d_L_law D (3300, [some (.inr (.inl (some 1000000))), some (.inr (.inl (some 0))), some (.inr (.inl (some 303))), some (.inr (.inl (some 314))), some (.inr (.inl (some 315))), some (.inl i), none, none, none], [], (J', L', W'), c1, s1) Qr Qx) : NW sc d_L_law D (1840, [some (.inr (.inl (some 1000000))), some (.inr (.inl (some 0))), some (.inr (.inl (some 303))), some (.inr (.inl (some 314))), some (.inr (.inl (some 315))), some (.inl i), none, none, none], [], (J, L, W), c, sl) Qr Qx := by
  have hA := h.1
  have R := sp_sh2.mp hA.1.1
  have I := hA.1.2.1
  have hbd := I.bd
  have hho := I.ho
  have hcr := I.cr
  have hch := I.ch
  have hfe := I.fe
  have hmo := I.mo
  have hnx := I.nx
  have c1 := R.cr
  have c2 := R.ch
  have c3 := R.fe
  have c4 := R.mo
  have c5 := R.ho
  obtain ⟨x, hx⟩ : ∃ x, nw_sc sc (i + 1) = x := ⟨_, rfl⟩
  have f1 := R.fer x
  have f2 := I.fer x
  have fn : ∀ (k v y : Int) (J1 J2 L1 : Nat → Int → Int) (W1 : nw_W) (c1 s1 : Nat), c ≤ c1 + 28 → sl ≤ s1 + 4006 → sp_wrk J J1 → (∀ x, ¬ (310 ≤ x ∧ x ≤ 312) → J2 x = J1 x) → (∀ y, ¬ y = 314 → L1 y = L y) → (k = 0 → L1 314 0 = v) → (k = 0 → y = v) → W1.2.1 = W.2.1 → sp_wW W W1 → NW sc d_L_law D (1863, [some (.inr (.inl (some 1000000))), some (.inr (.inl (some 0))), some (.inr (.inl (some 303))), some (.inr (.inl (some 314))), some (.inr (.inl (some 315))), some (.inl i), some (.inl k), none, none], [.inl y], (nw_u J2 303 13 k, L1, W1), c1, s1) Qr Qx := fun k v y J1 J2 L1 W1 c1 s1 e1 e2 f1 f2 fl hl hy w1 w2 => by
    have go : NW sc d_L_law D (3300, [some (.inr (.inl (some 1000000))), some (.inr (.inl (some 0))), some (.inr (.inl (some 303))), some (.inr (.inl (some 314))), some (.inr (.inl (some 315))), some (.inl i), none, none, none], [], (nw_u J2 303 13 k, L1, W1), c1, s1) Qr Qx := hQ _ _ _ _ _ e1 e2 (h.q ⟨by omega, hB⟩ (fun x a => by
      have a3 : ¬ x = 303 := by omega
      rw [nw_uP a3, f2 x (by omega), f1 x (by omega)]) (fun j a => by rw [nw_uI a, f2 303 (by omega), f1 303 (by omega)]) fl w1 w2)
    exact b_L_law_1863 hD ⟨fun _ => ⟨fun _ => go, fun z => ⟨fun _ => go, fun w => absurd (nw_cmp3_eq ((hl z).trans (hy z).symm)) w⟩⟩, fun w => absurd nw_uS w⟩
  have md : ∀ (k v : Int) (J1 L1 : Nat → Int → Int) (W1 : nw_W) (c1 s1 : Nat), c ≤ c1 + 28 → sl ≤ s1 + 4006 → sp_wrk J J1 → (∀ y, ¬ y = 314 → L1 y = L y) → (k = 0 → L1 314 0 = v) → W1.2.1 = W.2.1 → sp_wW W W1 → ((k = 1 ∧ ¬ (0 ≤ x ∧ x < J 304 3)) ∨ (k = 2 ∧ (0 ≤ x ∧ x < J 304 3) ∧ 0 < J 304 (62 + x)) ∨ (k = 0 ∧ (0 ≤ x ∧ x < J 304 3) ∧ J 304 (62 + x) ≤ 0 ∧ v = (sp_best (J 304) x).1)) → NW sc d_L_law D (1851, [some (.inr (.inl (some 1000000))), some (.inr (.inl (some 0))), some (.inr (.inl (some 303))), some (.inr (.inl (some 314))), some (.inr (.inl (some 315))), some (.inl i), none, none, none], [.inl k], (J1, L1, W1), c1, s1) Qr Qx := fun k v J1 L1 W1 c1 s1 e1 e2 f1 fl hl w1 w2 sp => by
    have g1 : J1 304 = J 304 := f1 304 (by omega)
    have I1 : Inv (J1 304) B := by rw [g1]; exact I
    have fin : ∀ (y : Int) (J2 : Nat → Int → Int) k9, k9 = k → (∀ x, ¬ (310 ≤ x ∧ x ≤ 312) → J2 x = J1 x) → (k = 0 → y = v) → NW sc d_L_law D (1863, [some (.inr (.inl (some 1000000))), some (.inr (.inl (some 0))), some (.inr (.inl (some 303))), some (.inr (.inl (some 314))), some (.inr (.inl (some 315))), some (.inl i), some (.inl k), none, none], [.inl y], (nw_u J2 303 13 k9, L1, W1), c1, s1) Qr Qx := fun y J2 k9 e9 f2 hy => by
      subst e9
      exact fn _ v y J1 J2 L1 W1 c1 s1 e1 e2 f1 f2 fl hl hy w1 w2
    refine b_L_law_1851 hD ⟨by omega, by omega, ?_⟩
    rw [hx]
    refine t_X12_bestLoad I1 (by decide) (fun z => ?_) (fun z z1 => ?_) (fun z z1 J2 x2 => ?_)
    · unfold sp_isF at z
      rw [g1] at z
      exact fin _ J1 1 (by omega) (fun _ _ => rfl) (by omega)
    · unfold sp_isF at z
      rw [g1] at z z1
      exact fin _ J1 2 (by omega) (fun _ _ => rfl) (by omega)
    · unfold sp_isF at z
      rw [g1] at z z1
      rw [g1]
      exact fin _ J2 0 (by omega) (fun w a => x2 w (by omega)) (by omega)
  refine b_L_law_1840 hD (by omega) (by omega) ⟨by omega, by omega, ?_⟩
  rw [hx]
  have kE : ∀ (k : Int) (J1 : Nat → Int → Int) n2, W.2.2.2.2 ≤ n2 → sp_wrk J J1 → (∀ v : Int, ¬ k = 0 ∧ ((k = 1 ∧ ¬ (0 ≤ x ∧ x < J 304 3)) ∨ (k = 2 ∧ (0 ≤ x ∧ x < J 304 3) ∧ 0 < J 304 (62 + x)) ∨ (k = 0 ∧ (0 ≤ x ∧ x < J 304 3) ∧ J 304 (62 + x) ≤ 0 ∧ v = (sp_best (J 304) x).1))) → NW sc d_L_law D (1851, [some (.inr (.inl (some 1000000))), some (.inr (.inl (some 0))), some (.inr (.inl (some 303))), some (.inr (.inl (some 314))), some (.inr (.inl (some 315))), some (.inl i), none, none, none], [.inl k], (J1, L, nw_top W n2), c - 4, sl - 24) Qr Qx := fun k J1 n2 h2 f1 hk => md k 0 J1 L _ _ _ (by omega) (by omega) f1 (fun _ _ => rfl) (fun z => absurd z (hk 0).1) rfl (sp_wW.top h2) (hk 0).2
  have kV : ∀ (v : Int) (J1 : Nat → Int → Int), sp_wrk J J1 → (∀ k : Int, k = 0 → ((k = 1 ∧ ¬ (0 ≤ x ∧ x < J 304 3)) ∨ (k = 2 ∧ (0 ≤ x ∧ x < J 304 3) ∧ 0 < J 304 (62 + x)) ∨ (k = 0 ∧ (0 ≤ x ∧ x < J 304 3) ∧ J 304 (62 + x) ≤ 0 ∧ v = (sp_best (J 304) x).1))) → NW sc d_L_law D (1851, [some (.inr (.inl (some 1000000))), some (.inr (.inl (some 0))), some (.inr (.inl (some 303))), some (.inr (.inl (some 314))), some (.inr (.inl (some 315))), some (.inl i), none, none, none], [.inl 0], (J1, nw_u L 314 0 v, W), c - 4, sl - 24) Qr Qx := fun v J1 f1 hk => md 0 v J1 _ W _ _ (by omega) (by omega) f1 (fun y a => nw_uP a) (fun _ => nw_uS) rfl sp_wW.refl (hk 0 rfl)
  refine b_L_bestLoad2_0 (by decide) (by decide) (by decide) ?_
  refine b_X11_bestLoad_0 (by decide) (by decide) (by decide) ?_
  (repeat' (first | refine And.intro ?_ ?_ | refine fun _ => ?_))
  all_goals first | omega | (exfalso; omega) | exact kE 1 J _ (by assumption) sp_wrk.refl (fun v => by omega) | exact kE 2 J _ (by assumption) sp_wrk.refl (fun v => by omega) | (refine t_X6_gather R I ⟨by omega, by omega⟩ (by unfold sp_sea; omega) (by decide) (fun J1 n x1 hn hroom hl => ?_); refine b_X11_bestLoad_22 (by decide) ?_; refine t_X6_sumByDeciding I ⟨by omega, by omega⟩ hn hroom hl (by decide) (fun J2 x2 y2 hb hS => ?_); refine b_X11_bestLoad_29 ?_; exact b_L_bestLoad2_7 ⟨by decide, kV _ J2 (fun z a => by rw [x2 z (by omega), x1 z (by unfold sp_glF; omega)]) (fun k z => by omega)⟩)
theorem case_bestLoadByTable {i : Int} (hi : 0 ≤ i ∧ i + 5 ≤ (sc.1 : Int) ∧ (sc.1 : Int) ≤ 2560) (h : sp_Wd J L W B) (hB : B + 2200 ≤ 4000000) (hD : 18 ≤ D) (hc : 28 ≤ c) (hs : 4006 ≤ sl) (hQ : ∀ J' L' W' c1 s1, c ≤ c1 + 28 → sl ≤ s1 + 4006 → sp_Wd J' L' W' (B + 2200) → NW sc d_L_law D (3300, [some (.inr (.inl (some 1000000))), some (.inr (.inl (some 0))), some (.inr (.inl (some 303))), some (.inr (.inl (some 314))), some (.inr (.inl (some 315))), some (.inl i), none, none, none], [], (J', L', W'), c1, s1) Qr Qx) : NW sc d_L_law D (1896, [some (.inr (.inl (some 1000000))), some (.inr (.inl (some 0))), some (.inr (.inl (some 303))), some (.inr (.inl (some 314))), some (.inr (.inl (some 315))), some (.inl i), none, none, none], [], (J, L, W), c, sl) Qr Qx := by
  have hA := h.1
  have R := sp_sh2.mp hA.1.1
  have I := hA.1.2.1
  have hbd := I.bd
  have hho := I.ho
  have hcr := I.cr
  have hch := I.ch
  have hfe := I.fe
  have hmo := I.mo
  have hnx := I.nx
  have c1 := R.cr
  have c2 := R.ch
  have c3 := R.fe
  have c4 := R.mo
  have c5 := R.ho
  obtain ⟨x, hx⟩ : ∃ x, nw_sc sc (i + 1) = x := ⟨_, rfl⟩
  have f1 := R.fer x
  have f2 := I.fer x
  have fn : ∀ (k v y : Int) (J1 J2 L1 : Nat → Int → Int) (W1 : nw_W) (c1 s1 : Nat), c ≤ c1 + 28 → sl ≤ s1 + 4006 → sp_wrk J J1 → (∀ x, ¬ (310 ≤ x ∧ x ≤ 312) → J2 x = J1 x) → (∀ y, ¬ y = 314 → L1 y = L y) → (k = 0 → L1 314 0 = v) → (k = 0 → y = v) → W1.2.1 = W.2.1 → sp_wW W W1 → NW sc d_L_law D (1919, [some (.inr (.inl (some 1000000))), some (.inr (.inl (some 0))), some (.inr (.inl (some 303))), some (.inr (.inl (some 314))), some (.inr (.inl (some 315))), some (.inl i), some (.inl k), none, none], [.inl y], (nw_u J2 303 13 k, L1, W1), c1, s1) Qr Qx := fun k v y J1 J2 L1 W1 c1 s1 e1 e2 f1 f2 fl hl hy w1 w2 => by
    have go : NW sc d_L_law D (3300, [some (.inr (.inl (some 1000000))), some (.inr (.inl (some 0))), some (.inr (.inl (some 303))), some (.inr (.inl (some 314))), some (.inr (.inl (some 315))), some (.inl i), none, none, none], [], (nw_u J2 303 13 k, L1, W1), c1, s1) Qr Qx := hQ _ _ _ _ _ e1 e2 (h.q ⟨by omega, hB⟩ (fun x a => by
      have a3 : ¬ x = 303 := by omega
      rw [nw_uP a3, f2 x (by omega), f1 x (by omega)]) (fun j a => by rw [nw_uI a, f2 303 (by omega), f1 303 (by omega)]) fl w1 w2)
    exact b_L_law_1919 hD ⟨fun _ => ⟨fun _ => go, fun z => ⟨fun _ => go, fun w => absurd (nw_cmp3_eq ((hl z).trans (hy z).symm)) w⟩⟩, fun w => absurd nw_uS w⟩
  have md : ∀ (k v : Int) (J1 L1 : Nat → Int → Int) (W1 : nw_W) (c1 s1 : Nat), c ≤ c1 + 28 → sl ≤ s1 + 4006 → sp_wrk J J1 → (∀ y, ¬ y = 314 → L1 y = L y) → (k = 0 → L1 314 0 = v) → W1.2.1 = W.2.1 → sp_wW W W1 → ((k = 1 ∧ ¬ (0 ≤ x ∧ x < J 304 3)) ∨ (k = 2 ∧ (0 ≤ x ∧ x < J 304 3) ∧ 0 < J 304 (62 + x)) ∨ (k = 0 ∧ (0 ≤ x ∧ x < J 304 3) ∧ J 304 (62 + x) ≤ 0 ∧ v = (sp_best (J 304) x).1)) → NW sc d_L_law D (1907, [some (.inr (.inl (some 1000000))), some (.inr (.inl (some 0))), some (.inr (.inl (some 303))), some (.inr (.inl (some 314))), some (.inr (.inl (some 315))), some (.inl i), none, none, none], [.inl k], (J1, L1, W1), c1, s1) Qr Qx := fun k v J1 L1 W1 c1 s1 e1 e2 f1 fl hl w1 w2 sp => by
    have g1 : J1 304 = J 304 := f1 304 (by omega)
    have I1 : Inv (J1 304) B := by rw [g1]; exact I
    have fin : ∀ (y : Int) (J2 : Nat → Int → Int) k9, k9 = k → (∀ x, ¬ (310 ≤ x ∧ x ≤ 312) → J2 x = J1 x) → (k = 0 → y = v) → NW sc d_L_law D (1919, [some (.inr (.inl (some 1000000))), some (.inr (.inl (some 0))), some (.inr (.inl (some 303))), some (.inr (.inl (some 314))), some (.inr (.inl (some 315))), some (.inl i), some (.inl k), none, none], [.inl y], (nw_u J2 303 13 k9, L1, W1), c1, s1) Qr Qx := fun y J2 k9 e9 f2 hy => by
      subst e9
      exact fn _ v y J1 J2 L1 W1 c1 s1 e1 e2 f1 f2 fl hl hy w1 w2
    refine b_L_law_1907 hD ⟨by omega, by omega, ?_⟩
    rw [hx]
    refine b_X12_bestLoadByTable_0 (by decide) ?_
    refine t_X12_bestLoad I1 (by decide) (fun z => ?_) (fun z z1 => ?_) (fun z z1 J2 x2 => ?_)
    · unfold sp_isF at z
      rw [g1] at z
      refine b_X12_bestLoadByTable_5 ?_
      exact fin _ J1 1 (by omega) (fun _ _ => rfl) (by omega)
    · unfold sp_isF at z
      rw [g1] at z z1
      refine b_X12_bestLoadByTable_5 ?_
      exact fin _ J1 2 (by omega) (fun _ _ => rfl) (by omega)
    · unfold sp_isF at z
      rw [g1] at z z1
      rw [g1]
      refine b_X12_bestLoadByTable_5 ?_
      exact fin _ J2 0 (by omega) (fun w a => x2 w (by omega)) (by omega)
  refine b_L_law_1896 hD (by omega) (by omega) ⟨by omega, by omega, ?_⟩
  rw [hx]
  have kE : ∀ (k : Int) (J1 : Nat → Int → Int) n2, W.2.2.2.2 ≤ n2 → sp_wrk J J1 → (∀ v : Int, ¬ k = 0 ∧ ((k = 1 ∧ ¬ (0 ≤ x ∧ x < J 304 3)) ∨ (k = 2 ∧ (0 ≤ x ∧ x < J 304 3) ∧ 0 < J 304 (62 + x)) ∨ (k = 0 ∧ (0 ≤ x ∧ x < J 304 3) ∧ J 304 (62 + x) ≤ 0 ∧ v = (sp_best (J 304) x).1))) → NW sc d_L_law D (1907, [some (.inr (.inl (some 1000000))), some (.inr (.inl (some 0))), some (.inr (.inl (some 303))), some (.inr (.inl (some 314))), some (.inr (.inl (some 315))), some (.inl i), none, none, none], [.inl k], (J1, L, nw_top W n2), c - 4, sl - 24) Qr Qx := fun k J1 n2 h2 f1 hk => md k 0 J1 L _ _ _ (by omega) (by omega) f1 (fun _ _ => rfl) (fun z => absurd z (hk 0).1) rfl (sp_wW.top h2) (hk 0).2
  have kV : ∀ (v : Int) (J1 : Nat → Int → Int), sp_wrk J J1 → (∀ k : Int, k = 0 → ((k = 1 ∧ ¬ (0 ≤ x ∧ x < J 304 3)) ∨ (k = 2 ∧ (0 ≤ x ∧ x < J 304 3) ∧ 0 < J 304 (62 + x)) ∨ (k = 0 ∧ (0 ≤ x ∧ x < J 304 3) ∧ J 304 (62 + x) ≤ 0 ∧ v = (sp_best (J 304) x).1))) → NW sc d_L_law D (1907, [some (.inr (.inl (some 1000000))), some (.inr (.inl (some 0))), some (.inr (.inl (some 303))), some (.inr (.inl (some 314))), some (.inr (.inl (some 315))), some (.inl i), none, none, none], [.inl 0], (J1, nw_u L 314 0 v, W), c - 4, sl - 24) Qr Qx := fun v J1 f1 hk => md 0 v J1 _ W _ _ (by omega) (by omega) f1 (fun y a => nw_uP a) (fun _ => nw_uS) rfl sp_wW.refl (hk 0 rfl)
  refine b_L_bestLoadByTable2_0 (by decide) (by decide) (by decide) ?_
  refine b_X11_bestLoadByTable_0 (by decide) (by decide) (by decide) ?_
  (repeat' (first | refine And.intro ?_ ?_ | refine fun _ => ?_))
  all_goals first | omega | (exfalso; omega) | exact kE 1 J _ (by assumption) sp_wrk.refl (fun v => by omega) | exact kE 2 J _ (by assumption) sp_wrk.refl (fun v => by omega) | (refine t_X6_gather R I ⟨by omega, by omega⟩ (by unfold sp_sea; omega) (by decide) (fun J1 n x1 hn hroom hl => ?_); refine b_X11_bestLoadByTable_22 (by decide) ?_; refine t_X6_sumByTable I ⟨by omega, by omega⟩ hn hroom hl (by decide) (fun J2 x2 => ?_); refine b_X11_bestLoadByTable_29 ?_; exact b_L_bestLoadByTable2_7 ⟨by decide, kV _ J2 (fun z a => by rw [x2 z (by omega), x1 z (by unfold sp_glF; omega)]) (fun k z => by omega)⟩)
theorem case_ferryOf {i : Int} (hi : 0 ≤ i ∧ i + 5 ≤ (sc.1 : Int) ∧ (sc.1 : Int) ≤ 2560) (h : sp_Wd J L W B) (hB : B + 2200 ≤ 4000000) (hD : 18 ≤ D) (hc : 28 ≤ c) (hs : 4006 ≤ sl) (hQ : ∀ J' L' W' c1 s1, c ≤ c1 + 28 → sl ≤ s1 + 4006 → sp_Wd J' L' W' (B + 2200) → NW sc d_L_law D (3300, [some (.inr (.inl (some 1000000))), some (.inr (.inl (some 0))), some (.inr (.inl (some 303))), some (.inr (.inl (some 314))), some (.inr (.inl (some 315))), some (.inl i), none, none, none], [], (J', L', W'), c1, s1) Qr Qx) : NW sc d_L_law D (2077, [some (.inr (.inl (some 1000000))), some (.inr (.inl (some 0))), some (.inr (.inl (some 303))), some (.inr (.inl (some 314))), some (.inr (.inl (some 315))), some (.inl i), none, none, none], [], (J, L, W), c, sl) Qr Qx := by
  have hA := h.1
  have R := sp_sh2.mp hA.1.1
  have I := hA.1.2.1
  have hbd := I.bd
  have hho := I.ho
  have hcr := I.cr
  have hch := I.ch
  have hfe := I.fe
  have hmo := I.mo
  have hnx := I.nx
  have c1 := R.cr
  have c2 := R.ch
  have c3 := R.fe
  have c4 := R.mo
  have c5 := R.ho
  obtain ⟨x, hx⟩ : ∃ x, nw_sc sc (i + 1) = x := ⟨_, rfl⟩
  have pr := sp_plcF_rng (J 304) x
  have f1 := R.moo (sp_plcF (J 304) x)
  have f2 := I.moo (sp_plcF (J 304) x)
  have fn : ∀ (k v y : Int) (J1 J2 L1 : Nat → Int → Int) (W1 : nw_W) (c1 s1 : Nat), c ≤ c1 + 28 → sl ≤ s1 + 4006 → sp_wrk J J1 → (∀ x, ¬ (310 ≤ x ∧ x ≤ 312) → J2 x = J1 x) → (∀ y, ¬ y = 314 → L1 y = L y) → (k = 0 → L1 314 0 = v) → (k = 0 → y = v) → W1.2.1 = W.2.1 → sp_wW W W1 → NW sc d_L_law D (2100, [some (.inr (.inl (some 1000000))), some (.inr (.inl (some 0))), some (.inr (.inl (some 303))), some (.inr (.inl (some 314))), some (.inr (.inl (some 315))), some (.inl i), some (.inl k), none, none], [.inl y], (nw_u J2 303 13 k, L1, W1), c1, s1) Qr Qx := fun k v y J1 J2 L1 W1 c1 s1 e1 e2 f1 f2 fl hl hy w1 w2 => by
    have go : NW sc d_L_law D (3300, [some (.inr (.inl (some 1000000))), some (.inr (.inl (some 0))), some (.inr (.inl (some 303))), some (.inr (.inl (some 314))), some (.inr (.inl (some 315))), some (.inl i), none, none, none], [], (nw_u J2 303 13 k, L1, W1), c1, s1) Qr Qx := hQ _ _ _ _ _ e1 e2 (h.q ⟨by omega, hB⟩ (fun x a => by
      have a3 : ¬ x = 303 := by omega
      rw [nw_uP a3, f2 x (by omega), f1 x (by omega)]) (fun j a => by rw [nw_uI a, f2 303 (by omega), f1 303 (by omega)]) fl w1 w2)
    exact b_L_law_2100 hD ⟨fun _ => ⟨fun _ => go, fun z => ⟨fun _ => go, fun w => absurd (nw_cmp3_eq ((hl z).trans (hy z).symm)) w⟩⟩, fun w => absurd nw_uS w⟩
  have md : ∀ (k v : Int) (J1 L1 : Nat → Int → Int) (W1 : nw_W) (c1 s1 : Nat), c ≤ c1 + 28 → sl ≤ s1 + 4006 → sp_wrk J J1 → (∀ y, ¬ y = 314 → L1 y = L y) → (k = 0 → L1 314 0 = v) → W1.2.1 = W.2.1 → sp_wW W W1 → ((k = 1 ∧ sp_plcF (J 304) x = -1) ∨ (k = 2 ∧ ¬ sp_plcF (J 304) x = -1 ∧ J 304 (121 + sp_plcF (J 304) x) < 10) ∨ (k = 0 ∧ ¬ sp_plcF (J 304) x = -1 ∧ 10 ≤ J 304 (121 + sp_plcF (J 304) x) ∧ v = J 304 (121 + sp_plcF (J 304) x) - 10)) → NW sc d_L_law D (2088, [some (.inr (.inl (some 1000000))), some (.inr (.inl (some 0))), some (.inr (.inl (some 303))), some (.inr (.inl (some 314))), some (.inr (.inl (some 315))), some (.inl i), none, none, none], [.inl k], (J1, L1, W1), c1, s1) Qr Qx := fun k v J1 L1 W1 c1 s1 e1 e2 f1 fl hl w1 w2 sp => by
    have g1 : J1 304 = J 304 := f1 304 (by omega)
    have I1 : Inv (J1 304) B := by rw [g1]; exact I
    have fin : ∀ (y : Int) (J2 : Nat → Int → Int) k9, k9 = k → (∀ x, ¬ (310 ≤ x ∧ x ≤ 312) → J2 x = J1 x) → (k = 0 → y = v) → NW sc d_L_law D (2100, [some (.inr (.inl (some 1000000))), some (.inr (.inl (some 0))), some (.inr (.inl (some 303))), some (.inr (.inl (some 314))), some (.inr (.inl (some 315))), some (.inl i), some (.inl k), none, none], [.inl y], (nw_u J2 303 13 k9, L1, W1), c1, s1) Qr Qx := fun y J2 k9 e9 f2 hy => by
      subst e9
      exact fn _ v y J1 J2 L1 W1 c1 s1 e1 e2 f1 f2 fl hl hy w1 w2
    refine b_L_law_2088 hD ⟨by omega, by omega, ?_⟩
    rw [hx]
    refine b_X12_ferryOf_0 (by decide) (t_X12_placeOf I1 (fun r hr => ?_))
    rw [g1] at hr
    have er := sp_plcF_eq hr
    subst er
    refine b_X12_ferryOf_5 (by decide) ?_
    rw [g1]
    (repeat' (first | refine And.intro ?_ ?_ | refine fun _ => ?_))
    all_goals first | omega | (exfalso; omega) | exact fin _ J1 _ (by omega) (fun _ _ => rfl) (by omega)
  refine b_L_law_2077 hD (by omega) (by omega) ⟨by omega, by omega, ?_⟩
  rw [hx]
  have kE : ∀ (k : Int) (J1 : Nat → Int → Int) n2, W.2.2.2.2 ≤ n2 → sp_wrk J J1 → (∀ v : Int, ¬ k = 0 ∧ ((k = 1 ∧ sp_plcF (J 304) x = -1) ∨ (k = 2 ∧ ¬ sp_plcF (J 304) x = -1 ∧ J 304 (121 + sp_plcF (J 304) x) < 10) ∨ (k = 0 ∧ ¬ sp_plcF (J 304) x = -1 ∧ 10 ≤ J 304 (121 + sp_plcF (J 304) x) ∧ v = J 304 (121 + sp_plcF (J 304) x) - 10))) → NW sc d_L_law D (2088, [some (.inr (.inl (some 1000000))), some (.inr (.inl (some 0))), some (.inr (.inl (some 303))), some (.inr (.inl (some 314))), some (.inr (.inl (some 315))), some (.inl i), none, none, none], [.inl k], (J1, L, nw_top W n2), c - 4, sl - 24) Qr Qx := fun k J1 n2 h2 f1 hk => md k 0 J1 L _ _ _ (by omega) (by omega) f1 (fun _ _ => rfl) (fun z => absurd z (hk 0).1) rfl (sp_wW.top h2) (hk 0).2
  have kV : ∀ (v : Int) (J1 : Nat → Int → Int), sp_wrk J J1 → (∀ k : Int, k = 0 → ((k = 1 ∧ sp_plcF (J 304) x = -1) ∨ (k = 2 ∧ ¬ sp_plcF (J 304) x = -1 ∧ J 304 (121 + sp_plcF (J 304) x) < 10) ∨ (k = 0 ∧ ¬ sp_plcF (J 304) x = -1 ∧ 10 ≤ J 304 (121 + sp_plcF (J 304) x) ∧ v = J 304 (121 + sp_plcF (J 304) x) - 10))) → NW sc d_L_law D (2088, [some (.inr (.inl (some 1000000))), some (.inr (.inl (some 0))), some (.inr (.inl (some 303))), some (.inr (.inl (some 314))), some (.inr (.inl (some 315))), some (.inl i), none, none, none], [.inl 0], (J1, nw_u L 314 0 v, W), c - 4, sl - 24) Qr Qx := fun v J1 f1 hk => md 0 v J1 _ W _ _ (by omega) (by omega) f1 (fun y a => nw_uP a) (fun _ => nw_uS) rfl sp_wW.refl (hk 0 rfl)
  refine b_L_ferryOf2_0 (by decide) (by decide) (by decide) ?_
  refine b_X11_ferryOf_0 (by decide) (by decide) (by decide) (b_X11_placeOfMoon_0 (by decide) (t_X7_placeOf R I (fun r hr => ?_)))
  have er := sp_plcF_eq hr
  subst er
  refine b_X11_placeOfMoon_11 (by decide) (by decide) (by decide) ?_
  (repeat' (first | refine And.intro ?_ ?_ | refine fun _ => ?_))
  all_goals first | omega | (exfalso; omega) | exact kE 1 J _ (by assumption) sp_wrk.refl (fun v => by omega) | (refine b_X11_ferryOf_15 (by decide) (by decide) ?_; ((repeat' (first | refine And.intro ?_ ?_ | refine fun _ => ?_)); all_goals first | omega | (exfalso; omega) | exact kE 2 J _ (by assumption) sp_wrk.refl (fun v => by omega) | exact b_L_ferryOf2_7 ⟨by decide, kV _ J sp_wrk.refl (fun k z => by omega)⟩))
theorem case_shoreOf {i : Int} (hi : 0 ≤ i ∧ i + 5 ≤ (sc.1 : Int) ∧ (sc.1 : Int) ≤ 2560) (h : sp_Wd J L W B) (hB : B + 2200 ≤ 4000000) (hD : 18 ≤ D) (hc : 28 ≤ c) (hs : 4006 ≤ sl) (hQ : ∀ J' L' W' c1 s1, c ≤ c1 + 28 → sl ≤ s1 + 4006 → sp_Wd J' L' W' (B + 2200) → NW sc d_L_law D (3300, [some (.inr (.inl (some 1000000))), some (.inr (.inl (some 0))), some (.inr (.inl (some 303))), some (.inr (.inl (some 314))), some (.inr (.inl (some 315))), some (.inl i), none, none, none], [], (J', L', W'), c1, s1) Qr Qx) : NW sc d_L_law D (2133, [some (.inr (.inl (some 1000000))), some (.inr (.inl (some 0))), some (.inr (.inl (some 303))), some (.inr (.inl (some 314))), some (.inr (.inl (some 315))), some (.inl i), none, none, none], [], (J, L, W), c, sl) Qr Qx := by
  have hA := h.1
  have R := sp_sh2.mp hA.1.1
  have I := hA.1.2.1
  have hbd := I.bd
  have hho := I.ho
  have hcr := I.cr
  have hch := I.ch
  have hfe := I.fe
  have hmo := I.mo
  have hnx := I.nx
  have c1 := R.cr
  have c2 := R.ch
  have c3 := R.fe
  have c4 := R.mo
  have c5 := R.ho
  obtain ⟨x, hx⟩ : ∃ x, nw_sc sc (i + 1) = x := ⟨_, rfl⟩
  have pr := sp_plcF_rng (J 304) x
  have f1 := R.moo (sp_plcF (J 304) x)
  have f2 := I.moo (sp_plcF (J 304) x)
  have fn : ∀ (k v y : Int) (J1 J2 L1 : Nat → Int → Int) (W1 : nw_W) (c1 s1 : Nat), c ≤ c1 + 28 → sl ≤ s1 + 4006 → sp_wrk J J1 → (∀ x, ¬ (310 ≤ x ∧ x ≤ 312) → J2 x = J1 x) → (∀ y, ¬ y = 314 → L1 y = L y) → (k = 0 → L1 314 0 = v) → (k = 0 → y = v) → W1.2.1 = W.2.1 → sp_wW W W1 → NW sc d_L_law D (2156, [some (.inr (.inl (some 1000000))), some (.inr (.inl (some 0))), some (.inr (.inl (some 303))), some (.inr (.inl (some 314))), some (.inr (.inl (some 315))), some (.inl i), some (.inl k), none, none], [.inl y], (nw_u J2 303 13 k, L1, W1), c1, s1) Qr Qx := fun k v y J1 J2 L1 W1 c1 s1 e1 e2 f1 f2 fl hl hy w1 w2 => by
    have go : NW sc d_L_law D (3300, [some (.inr (.inl (some 1000000))), some (.inr (.inl (some 0))), some (.inr (.inl (some 303))), some (.inr (.inl (some 314))), some (.inr (.inl (some 315))), some (.inl i), none, none, none], [], (nw_u J2 303 13 k, L1, W1), c1, s1) Qr Qx := hQ _ _ _ _ _ e1 e2 (h.q ⟨by omega, hB⟩ (fun x a => by
      have a3 : ¬ x = 303 := by omega
      rw [nw_uP a3, f2 x (by omega), f1 x (by omega)]) (fun j a => by rw [nw_uI a, f2 303 (by omega), f1 303 (by omega)]) fl w1 w2)
    exact b_L_law_2156 hD ⟨fun _ => ⟨fun _ => go, fun z => ⟨fun _ => go, fun w => absurd (nw_cmp3_eq ((hl z).trans (hy z).symm)) w⟩⟩, fun w => absurd nw_uS w⟩
  have md : ∀ (k v : Int) (J1 L1 : Nat → Int → Int) (W1 : nw_W) (c1 s1 : Nat), c ≤ c1 + 28 → sl ≤ s1 + 4006 → sp_wrk J J1 → (∀ y, ¬ y = 314 → L1 y = L y) → (k = 0 → L1 314 0 = v) → W1.2.1 = W.2.1 → sp_wW W W1 → ((k = 1 ∧ sp_plcF (J 304) x = -1) ∨ (k = 2 ∧ ¬ sp_plcF (J 304) x = -1 ∧ 10 ≤ J 304 (121 + sp_plcF (J 304) x)) ∨ (k = 0 ∧ ¬ sp_plcF (J 304) x = -1 ∧ J 304 (121 + sp_plcF (J 304) x) < 10 ∧ v = J 304 (121 + sp_plcF (J 304) x))) → NW sc d_L_law D (2144, [some (.inr (.inl (some 1000000))), some (.inr (.inl (some 0))), some (.inr (.inl (some 303))), some (.inr (.inl (some 314))), some (.inr (.inl (some 315))), some (.inl i), none, none, none], [.inl k], (J1, L1, W1), c1, s1) Qr Qx := fun k v J1 L1 W1 c1 s1 e1 e2 f1 fl hl w1 w2 sp => by
    have g1 : J1 304 = J 304 := f1 304 (by omega)
    have I1 : Inv (J1 304) B := by rw [g1]; exact I
    have fin : ∀ (y : Int) (J2 : Nat → Int → Int) k9, k9 = k → (∀ x, ¬ (310 ≤ x ∧ x ≤ 312) → J2 x = J1 x) → (k = 0 → y = v) → NW sc d_L_law D (2156, [some (.inr (.inl (some 1000000))), some (.inr (.inl (some 0))), some (.inr (.inl (some 303))), some (.inr (.inl (some 314))), some (.inr (.inl (some 315))), some (.inl i), some (.inl k), none, none], [.inl y], (nw_u J2 303 13 k9, L1, W1), c1, s1) Qr Qx := fun y J2 k9 e9 f2 hy => by
      subst e9
      exact fn _ v y J1 J2 L1 W1 c1 s1 e1 e2 f1 f2 fl hl hy w1 w2
    refine b_L_law_2144 hD ⟨by omega, by omega, ?_⟩
    rw [hx]
    refine b_X12_shoreOf_0 (by decide) (t_X12_placeOf I1 (fun r hr => ?_))
    rw [g1] at hr
    have er := sp_plcF_eq hr
    subst er
    refine b_X12_shoreOf_5 (by decide) ?_
    rw [g1]
    (repeat' (first | refine And.intro ?_ ?_ | refine fun _ => ?_))
    all_goals first | omega | (exfalso; omega) | exact fin _ J1 _ (by omega) (fun _ _ => rfl) (by omega)
  refine b_L_law_2133 hD (by omega) (by omega) ⟨by omega, by omega, ?_⟩
  rw [hx]
  have kE : ∀ (k : Int) (J1 : Nat → Int → Int) n2, W.2.2.2.2 ≤ n2 → sp_wrk J J1 → (∀ v : Int, ¬ k = 0 ∧ ((k = 1 ∧ sp_plcF (J 304) x = -1) ∨ (k = 2 ∧ ¬ sp_plcF (J 304) x = -1 ∧ 10 ≤ J 304 (121 + sp_plcF (J 304) x)) ∨ (k = 0 ∧ ¬ sp_plcF (J 304) x = -1 ∧ J 304 (121 + sp_plcF (J 304) x) < 10 ∧ v = J 304 (121 + sp_plcF (J 304) x)))) → NW sc d_L_law D (2144, [some (.inr (.inl (some 1000000))), some (.inr (.inl (some 0))), some (.inr (.inl (some 303))), some (.inr (.inl (some 314))), some (.inr (.inl (some 315))), some (.inl i), none, none, none], [.inl k], (J1, L, nw_top W n2), c - 4, sl - 24) Qr Qx := fun k J1 n2 h2 f1 hk => md k 0 J1 L _ _ _ (by omega) (by omega) f1 (fun _ _ => rfl) (fun z => absurd z (hk 0).1) rfl (sp_wW.top h2) (hk 0).2
  have kV : ∀ (v : Int) (J1 : Nat → Int → Int), sp_wrk J J1 → (∀ k : Int, k = 0 → ((k = 1 ∧ sp_plcF (J 304) x = -1) ∨ (k = 2 ∧ ¬ sp_plcF (J 304) x = -1 ∧ 10 ≤ J 304 (121 + sp_plcF (J 304) x)) ∨ (k = 0 ∧ ¬ sp_plcF (J 304) x = -1 ∧ J 304 (121 + sp_plcF (J 304) x) < 10 ∧ v = J 304 (121 + sp_plcF (J 304) x)))) → NW sc d_L_law D (2144, [some (.inr (.inl (some 1000000))), some (.inr (.inl (some 0))), some (.inr (.inl (some 303))), some (.inr (.inl (some 314))), some (.inr (.inl (some 315))), some (.inl i), none, none, none], [.inl 0], (J1, nw_u L 314 0 v, W), c - 4, sl - 24) Qr Qx := fun v J1 f1 hk => md 0 v J1 _ W _ _ (by omega) (by omega) f1 (fun y a => nw_uP a) (fun _ => nw_uS) rfl sp_wW.refl (hk 0 rfl)
  refine b_L_shoreOf2_0 (by decide) (by decide) (by decide) ?_
  refine b_X11_shoreOf_0 (by decide) (by decide) (by decide) (b_X11_placeOfMoon_0 (by decide) (t_X7_placeOf R I (fun r hr => ?_)))
  have er := sp_plcF_eq hr
  subst er
  refine b_X11_placeOfMoon_11 (by decide) (by decide) (by decide) ?_
  (repeat' (first | refine And.intro ?_ ?_ | refine fun _ => ?_))
  all_goals first | omega | (exfalso; omega) | exact kE 1 J _ (by assumption) sp_wrk.refl (fun v => by omega) | (refine b_X11_shoreOf_15 (by decide) (by decide) ?_; ((repeat' (first | refine And.intro ?_ ?_ | refine fun _ => ?_)); all_goals first | omega | (exfalso; omega) | exact kE 2 J _ (by assumption) sp_wrk.refl (fun v => by omega) | exact b_L_shoreOf2_7 ⟨by decide, kV _ J sp_wrk.refl (fun k z => by omega)⟩))
theorem case_phaseOf {i : Int} (hi : 0 ≤ i ∧ i + 5 ≤ (sc.1 : Int) ∧ (sc.1 : Int) ≤ 2560) (h : sp_Wd J L W B) (hB : B + 2200 ≤ 4000000) (hD : 18 ≤ D) (hc : 28 ≤ c) (hs : 4006 ≤ sl) (hQ : ∀ J' L' W' c1 s1, c ≤ c1 + 28 → sl ≤ s1 + 4006 → sp_Wd J' L' W' (B + 2200) → NW sc d_L_law D (3300, [some (.inr (.inl (some 1000000))), some (.inr (.inl (some 0))), some (.inr (.inl (some 303))), some (.inr (.inl (some 314))), some (.inr (.inl (some 315))), some (.inl i), none, none, none], [], (J', L', W'), c1, s1) Qr Qx) : NW sc d_L_law D (2189, [some (.inr (.inl (some 1000000))), some (.inr (.inl (some 0))), some (.inr (.inl (some 303))), some (.inr (.inl (some 314))), some (.inr (.inl (some 315))), some (.inl i), none, none, none], [], (J, L, W), c, sl) Qr Qx := by
  have hA := h.1
  have R := sp_sh2.mp hA.1.1
  have I := hA.1.2.1
  have hbd := I.bd
  have hho := I.ho
  have hcr := I.cr
  have hch := I.ch
  have hfe := I.fe
  have hmo := I.mo
  have hnx := I.nx
  have c1 := R.cr
  have c2 := R.ch
  have c3 := R.fe
  have c4 := R.mo
  have c5 := R.ho
  obtain ⟨x, hx⟩ : ∃ x, nw_sc sc (i + 1) = x := ⟨_, rfl⟩
  have pr := sp_plcF_rng (J 304) x
  have f1 := R.moo (sp_plcF (J 304) x)
  have f2 := I.moo (sp_plcF (J 304) x)
  have fn : ∀ (k v y : Int) (J1 J2 L1 : Nat → Int → Int) (W1 : nw_W) (c1 s1 : Nat), c ≤ c1 + 28 → sl ≤ s1 + 4006 → sp_wrk J J1 → (∀ x, ¬ (310 ≤ x ∧ x ≤ 312) → J2 x = J1 x) → (∀ y, ¬ y = 314 → L1 y = L y) → (k = 0 → L1 314 0 = v) → (k = 0 → y = v) → W1.2.1 = W.2.1 → sp_wW W W1 → NW sc d_L_law D (2212, [some (.inr (.inl (some 1000000))), some (.inr (.inl (some 0))), some (.inr (.inl (some 303))), some (.inr (.inl (some 314))), some (.inr (.inl (some 315))), some (.inl i), some (.inl k), none, none], [.inl y], (nw_u J2 303 13 k, L1, W1), c1, s1) Qr Qx := fun k v y J1 J2 L1 W1 c1 s1 e1 e2 f1 f2 fl hl hy w1 w2 => by
    have go : NW sc d_L_law D (3300, [some (.inr (.inl (some 1000000))), some (.inr (.inl (some 0))), some (.inr (.inl (some 303))), some (.inr (.inl (some 314))), some (.inr (.inl (some 315))), some (.inl i), none, none, none], [], (nw_u J2 303 13 k, L1, W1), c1, s1) Qr Qx := hQ _ _ _ _ _ e1 e2 (h.q ⟨by omega, hB⟩ (fun x a => by
      have a3 : ¬ x = 303 := by omega
      rw [nw_uP a3, f2 x (by omega), f1 x (by omega)]) (fun j a => by rw [nw_uI a, f2 303 (by omega), f1 303 (by omega)]) fl w1 w2)
    exact b_L_law_2212 hD ⟨fun _ => ⟨fun _ => go, fun z => ⟨fun _ => go, fun w => absurd (nw_cmp3_eq ((hl z).trans (hy z).symm)) w⟩⟩, fun w => absurd nw_uS w⟩
  have md : ∀ (k v : Int) (J1 L1 : Nat → Int → Int) (W1 : nw_W) (c1 s1 : Nat), c ≤ c1 + 28 → sl ≤ s1 + 4006 → sp_wrk J J1 → (∀ y, ¬ y = 314 → L1 y = L y) → (k = 0 → L1 314 0 = v) → W1.2.1 = W.2.1 → sp_wW W W1 → ((k = 1 ∧ sp_plcF (J 304) x = -1) ∨ (k = 0 ∧ ¬ sp_plcF (J 304) x = -1 ∧ v = J 304 (111 + sp_plcF (J 304) x))) → NW sc d_L_law D (2200, [some (.inr (.inl (some 1000000))), some (.inr (.inl (some 0))), some (.inr (.inl (some 303))), some (.inr (.inl (some 314))), some (.inr (.inl (some 315))), some (.inl i), none, none, none], [.inl k], (J1, L1, W1), c1, s1) Qr Qx := fun k v J1 L1 W1 c1 s1 e1 e2 f1 fl hl w1 w2 sp => by
    have g1 : J1 304 = J 304 := f1 304 (by omega)
    have I1 : Inv (J1 304) B := by rw [g1]; exact I
    have fin : ∀ (y : Int) (J2 : Nat → Int → Int) k9, k9 = k → (∀ x, ¬ (310 ≤ x ∧ x ≤ 312) → J2 x = J1 x) → (k = 0 → y = v) → NW sc d_L_law D (2212, [some (.inr (.inl (some 1000000))), some (.inr (.inl (some 0))), some (.inr (.inl (some 303))), some (.inr (.inl (some 314))), some (.inr (.inl (some 315))), some (.inl i), some (.inl k), none, none], [.inl y], (nw_u J2 303 13 k9, L1, W1), c1, s1) Qr Qx := fun y J2 k9 e9 f2 hy => by
      subst e9
      exact fn _ v y J1 J2 L1 W1 c1 s1 e1 e2 f1 f2 fl hl hy w1 w2
    refine b_L_law_2200 hD ⟨by omega, by omega, ?_⟩
    rw [hx]
    refine b_X12_phaseOf_0 (by decide) (t_X12_placeOf I1 (fun r hr => ?_))
    rw [g1] at hr
    have er := sp_plcF_eq hr
    subst er
    refine b_X12_phaseOf_5 (by decide) ?_
    rw [g1]
    (repeat' (first | refine And.intro ?_ ?_ | refine fun _ => ?_))
    all_goals first | omega | (exfalso; omega) | exact fin _ J1 _ (by omega) (fun _ _ => rfl) (by omega)
  refine b_L_law_2189 hD (by omega) (by omega) ⟨by omega, by omega, ?_⟩
  rw [hx]
  have kE : ∀ (k : Int) (J1 : Nat → Int → Int) n2, W.2.2.2.2 ≤ n2 → sp_wrk J J1 → (∀ v : Int, ¬ k = 0 ∧ ((k = 1 ∧ sp_plcF (J 304) x = -1) ∨ (k = 0 ∧ ¬ sp_plcF (J 304) x = -1 ∧ v = J 304 (111 + sp_plcF (J 304) x)))) → NW sc d_L_law D (2200, [some (.inr (.inl (some 1000000))), some (.inr (.inl (some 0))), some (.inr (.inl (some 303))), some (.inr (.inl (some 314))), some (.inr (.inl (some 315))), some (.inl i), none, none, none], [.inl k], (J1, L, nw_top W n2), c - 4, sl - 24) Qr Qx := fun k J1 n2 h2 f1 hk => md k 0 J1 L _ _ _ (by omega) (by omega) f1 (fun _ _ => rfl) (fun z => absurd z (hk 0).1) rfl (sp_wW.top h2) (hk 0).2
  have kV : ∀ (v : Int) (J1 : Nat → Int → Int), sp_wrk J J1 → (∀ k : Int, k = 0 → ((k = 1 ∧ sp_plcF (J 304) x = -1) ∨ (k = 0 ∧ ¬ sp_plcF (J 304) x = -1 ∧ v = J 304 (111 + sp_plcF (J 304) x)))) → NW sc d_L_law D (2200, [some (.inr (.inl (some 1000000))), some (.inr (.inl (some 0))), some (.inr (.inl (some 303))), some (.inr (.inl (some 314))), some (.inr (.inl (some 315))), some (.inl i), none, none, none], [.inl 0], (J1, nw_u L 314 0 v, W), c - 4, sl - 24) Qr Qx := fun v J1 f1 hk => md 0 v J1 _ W _ _ (by omega) (by omega) f1 (fun y a => nw_uP a) (fun _ => nw_uS) rfl sp_wW.refl (hk 0 rfl)
  refine b_L_phaseOf2_0 (by decide) (by decide) (by decide) ?_
  refine b_X11_phaseOf_0 (by decide) (by decide) (by decide) (b_X11_placeOfMoon_0 (by decide) (t_X7_placeOf R I (fun r hr => ?_)))
  have er := sp_plcF_eq hr
  subst er
  refine b_X11_placeOfMoon_11 (by decide) (by decide) (by decide) ?_
  (repeat' (first | refine And.intro ?_ ?_ | refine fun _ => ?_))
  all_goals first | omega | (exfalso; omega) | exact kE 1 J _ (by assumption) sp_wrk.refl (fun v => by omega) | (refine b_X11_phaseOf_15 ?_; ((repeat' (first | refine And.intro ?_ ?_ | refine fun _ => ?_)); all_goals first | omega | (exfalso; omega) | exact b_L_phaseOf2_7 ⟨by decide, kV _ J sp_wrk.refl (fun k z => by omega)⟩))
theorem case_fareOf {i : Int} (hi : 0 ≤ i ∧ i + 5 ≤ (sc.1 : Int) ∧ (sc.1 : Int) ≤ 2560) (h : sp_Wd J L W B) (hB : B + 2200 ≤ 4000000) (hD : 18 ≤ D) (hc : 28 ≤ c) (hs : 4006 ≤ sl) (hQ : ∀ J' L' W' c1 s1, c ≤ c1 + 28 → sl ≤ s1 + 4006 → sp_Wd J' L' W' (B + 2200) → NW sc d_L_law D (3300, [some (.inr (.inl (some 1000000))), some (.inr (.inl (some 0))), some (.inr (.inl (some 303))), some (.inr (.inl (some 314))), some (.inr (.inl (some 315))), some (.inl i), none, none, none], [], (J', L', W'), c1, s1) Qr Qx) : NW sc d_L_law D (2245, [some (.inr (.inl (some 1000000))), some (.inr (.inl (some 0))), some (.inr (.inl (some 303))), some (.inr (.inl (some 314))), some (.inr (.inl (some 315))), some (.inl i), none, none, none], [], (J, L, W), c, sl) Qr Qx := by
  have hA := h.1
  have R := sp_sh2.mp hA.1.1
  have I := hA.1.2.1
  have hbd := I.bd
  have hho := I.ho
  have hcr := I.cr
  have hch := I.ch
  have hfe := I.fe
  have hmo := I.mo
  have hnx := I.nx
  have c1 := R.cr
  have c2 := R.ch
  have c3 := R.fe
  have c4 := R.mo
  have c5 := R.ho
  obtain ⟨x, hx⟩ : ∃ x, nw_sc sc (i + 1) = x := ⟨_, rfl⟩
  have pr := sp_plcF_rng (J 304) x
  have f1 := R.moo (sp_plcF (J 304) x)
  have f2 := I.moo (sp_plcF (J 304) x)
  have fn : ∀ (k v y : Int) (J1 J2 L1 : Nat → Int → Int) (W1 : nw_W) (c1 s1 : Nat), c ≤ c1 + 28 → sl ≤ s1 + 4006 → sp_wrk J J1 → (∀ x, ¬ (310 ≤ x ∧ x ≤ 312) → J2 x = J1 x) → (∀ y, ¬ y = 314 → L1 y = L y) → (k = 0 → L1 314 0 = v) → (k = 0 → y = v) → W1.2.1 = W.2.1 → sp_wW W W1 → NW sc d_L_law D (2268, [some (.inr (.inl (some 1000000))), some (.inr (.inl (some 0))), some (.inr (.inl (some 303))), some (.inr (.inl (some 314))), some (.inr (.inl (some 315))), some (.inl i), some (.inl k), none, none], [.inl y], (nw_u J2 303 13 k, L1, W1), c1, s1) Qr Qx := fun k v y J1 J2 L1 W1 c1 s1 e1 e2 f1 f2 fl hl hy w1 w2 => by
    have go : NW sc d_L_law D (3300, [some (.inr (.inl (some 1000000))), some (.inr (.inl (some 0))), some (.inr (.inl (some 303))), some (.inr (.inl (some 314))), some (.inr (.inl (some 315))), some (.inl i), none, none, none], [], (nw_u J2 303 13 k, L1, W1), c1, s1) Qr Qx := hQ _ _ _ _ _ e1 e2 (h.q ⟨by omega, hB⟩ (fun x a => by
      have a3 : ¬ x = 303 := by omega
      rw [nw_uP a3, f2 x (by omega), f1 x (by omega)]) (fun j a => by rw [nw_uI a, f2 303 (by omega), f1 303 (by omega)]) fl w1 w2)
    exact b_L_law_2268 hD ⟨fun _ => ⟨fun _ => go, fun z => ⟨fun _ => go, fun w => absurd (nw_cmp3_eq ((hl z).trans (hy z).symm)) w⟩⟩, fun w => absurd nw_uS w⟩
  have md : ∀ (k v : Int) (J1 L1 : Nat → Int → Int) (W1 : nw_W) (c1 s1 : Nat), c ≤ c1 + 28 → sl ≤ s1 + 4006 → sp_wrk J J1 → (∀ y, ¬ y = 314 → L1 y = L y) → (k = 0 → L1 314 0 = v) → W1.2.1 = W.2.1 → sp_wW W W1 → ((k = 1 ∧ sp_plcF (J 304) x = -1) ∨ (k = 0 ∧ ¬ sp_plcF (J 304) x = -1 ∧ v = sp_fare (J 304) (sp_plcF (J 304) x))) → NW sc d_L_law D (2256, [some (.inr (.inl (some 1000000))), some (.inr (.inl (some 0))), some (.inr (.inl (some 303))), some (.inr (.inl (some 314))), some (.inr (.inl (some 315))), some (.inl i), none, none, none], [.inl k], (J1, L1, W1), c1, s1) Qr Qx := fun k v J1 L1 W1 c1 s1 e1 e2 f1 fl hl w1 w2 sp => by
    have g1 : J1 304 = J 304 := f1 304 (by omega)
    have I1 : Inv (J1 304) B := by rw [g1]; exact I
    have fin : ∀ (y : Int) (J2 : Nat → Int → Int) k9, k9 = k → (∀ x, ¬ (310 ≤ x ∧ x ≤ 312) → J2 x = J1 x) → (k = 0 → y = v) → NW sc d_L_law D (2268, [some (.inr (.inl (some 1000000))), some (.inr (.inl (some 0))), some (.inr (.inl (some 303))), some (.inr (.inl (some 314))), some (.inr (.inl (some 315))), some (.inl i), some (.inl k), none, none], [.inl y], (nw_u J2 303 13 k9, L1, W1), c1, s1) Qr Qx := fun y J2 k9 e9 f2 hy => by
      subst e9
      exact fn _ v y J1 J2 L1 W1 c1 s1 e1 e2 f1 f2 fl hl hy w1 w2
    refine b_L_law_2256 hD ⟨by omega, by omega, ?_⟩
    rw [hx]
    refine b_X12_fareOf_0 (by decide) (t_X12_placeOf I1 (fun r hr => ?_))
    rw [g1] at hr
    have er := sp_plcF_eq hr
    refine b_X12_fareOf_5 (by decide) (t_X12_finds I1 (fun J2 x2 w2' => ?_))
    have g2 : J2 304 = J1 304 := x2 304 (by decide)
    have g21 : J2 304 = J 304 := g2.trans g1
    refine b_X12_fareOf_10 (by decide) ⟨fun z => ?_, fun z => ?_⟩
    · refine t_X12_fare (B := B) (by rw [g21]; exact I) (by rw [g2]; exact w2') (by rw [g21]; omega) (b_X12_fareOf_29 (by decide) ?_)
      rw [g21, er]
      exact fin _ J2 0 (by omega) (fun w a => x2 w (by omega)) (by omega)
    · exact fin _ J2 1 (by omega) (fun w a => x2 w (by omega)) (by omega)
  refine b_L_law_2245 hD (by omega) (by omega) ⟨by omega, by omega, ?_⟩
  rw [hx]
  have kE : ∀ (k : Int) (J1 : Nat → Int → Int) n2, W.2.2.2.2 ≤ n2 → sp_wrk J J1 → (∀ v : Int, ¬ k = 0 ∧ ((k = 1 ∧ sp_plcF (J 304) x = -1) ∨ (k = 0 ∧ ¬ sp_plcF (J 304) x = -1 ∧ v = sp_fare (J 304) (sp_plcF (J 304) x)))) → NW sc d_L_law D (2256, [some (.inr (.inl (some 1000000))), some (.inr (.inl (some 0))), some (.inr (.inl (some 303))), some (.inr (.inl (some 314))), some (.inr (.inl (some 315))), some (.inl i), none, none, none], [.inl k], (J1, L, nw_top W n2), c - 4, sl - 24) Qr Qx := fun k J1 n2 h2 f1 hk => md k 0 J1 L _ _ _ (by omega) (by omega) f1 (fun _ _ => rfl) (fun z => absurd z (hk 0).1) rfl (sp_wW.top h2) (hk 0).2
  have kV : ∀ (v : Int) (J1 : Nat → Int → Int), sp_wrk J J1 → (∀ k : Int, k = 0 → ((k = 1 ∧ sp_plcF (J 304) x = -1) ∨ (k = 0 ∧ ¬ sp_plcF (J 304) x = -1 ∧ v = sp_fare (J 304) (sp_plcF (J 304) x)))) → NW sc d_L_law D (2256, [some (.inr (.inl (some 1000000))), some (.inr (.inl (some 0))), some (.inr (.inl (some 303))), some (.inr (.inl (some 314))), some (.inr (.inl (some 315))), some (.inl i), none, none, none], [.inl 0], (J1, nw_u L 314 0 v, W), c - 4, sl - 24) Qr Qx := fun v J1 f1 hk => md 0 v J1 _ W _ _ (by omega) (by omega) f1 (fun y a => nw_uP a) (fun _ => nw_uS) rfl sp_wW.refl (hk 0 rfl)
  refine b_L_fareOf2_0 (by decide) (by decide) (by decide) ?_
  refine b_X11_fareOf_0 (by decide) (by decide) (by decide) (b_X11_placeOfMoon_0 (by decide) (t_X7_placeOf R I (fun r hr => ?_)))
  have er := sp_plcF_eq hr
  refine b_X11_placeOfMoon_11 (by decide) (by decide) (by decide) ?_
  (repeat' (first | refine And.intro ?_ ?_ | refine fun _ => ?_))
  all_goals first | omega | (exfalso; omega) | exact kE 1 J _ (by assumption) sp_wrk.refl (fun v => by omega) | (refine b_X11_fareOf_13 (by decide) ?_; refine t_X3_fareAt R I (by omega) (by decide) (fun J1 x1 => ?_); refine b_X11_fareOf_16 ?_; rw [er]; exact b_L_fareOf2_7 ⟨by decide, kV _ J1 (fun z a => x1 z (by omega)) (fun k z => by omega)⟩)
theorem case_passageFerry {i : Int} (hi : 0 ≤ i ∧ i + 5 ≤ (sc.1 : Int) ∧ (sc.1 : Int) ≤ 2560) (h : sp_Wd J L W B) (hB : B + 2200 ≤ 4000000) (hD : 18 ≤ D) (hc : 28 ≤ c) (hs : 4006 ≤ sl) (hQ : ∀ J' L' W' c1 s1, c ≤ c1 + 28 → sl ≤ s1 + 4006 → sp_Wd J' L' W' (B + 2200) → NW sc d_L_law D (3300, [some (.inr (.inl (some 1000000))), some (.inr (.inl (some 0))), some (.inr (.inl (some 303))), some (.inr (.inl (some 314))), some (.inr (.inl (some 315))), some (.inl i), none, none, none], [], (J', L', W'), c1, s1) Qr Qx) : NW sc d_L_law D (2533, [some (.inr (.inl (some 1000000))), some (.inr (.inl (some 0))), some (.inr (.inl (some 303))), some (.inr (.inl (some 314))), some (.inr (.inl (some 315))), some (.inl i), none, none, none], [], (J, L, W), c, sl) Qr Qx := by
  have hA := h.1
  have R := sp_sh2.mp hA.1.1
  have I := hA.1.2.1
  have hbd := I.bd
  have hho := I.ho
  have hcr := I.cr
  have hch := I.ch
  have hfe := I.fe
  have hmo := I.mo
  have hnx := I.nx
  have c1 := R.cr
  have c2 := R.ch
  have c3 := R.fe
  have c4 := R.mo
  have c5 := R.ho
  obtain ⟨x, hx⟩ : ∃ x, nw_sc sc (i + 1) = x := ⟨_, rfl⟩
  have c6 := R.pa
  have hpa := I.pa
  have f1 := R.kep x
  have fn : ∀ (k v y : Int) (J1 J2 L1 : Nat → Int → Int) (W1 : nw_W) (c1 s1 : Nat), c ≤ c1 + 28 → sl ≤ s1 + 4006 → sp_wrk J J1 → (∀ x, ¬ (310 ≤ x ∧ x ≤ 312) → J2 x = J1 x) → (∀ y, ¬ y = 314 → L1 y = L y) → (k = 0 → L1 314 0 = v) → (k = 0 → y = v) → W1.2.1 = W.2.1 → sp_wW W W1 → NW sc d_L_law D (2556, [some (.inr (.inl (some 1000000))), some (.inr (.inl (some 0))), some (.inr (.inl (some 303))), some (.inr (.inl (some 314))), some (.inr (.inl (some 315))), some (.inl i), some (.inl k), none, none], [.inl y], (nw_u J2 303 13 k, L1, W1), c1, s1) Qr Qx := fun k v y J1 J2 L1 W1 c1 s1 e1 e2 f1 f2 fl hl hy w1 w2 => by
    have go : NW sc d_L_law D (3300, [some (.inr (.inl (some 1000000))), some (.inr (.inl (some 0))), some (.inr (.inl (some 303))), some (.inr (.inl (some 314))), some (.inr (.inl (some 315))), some (.inl i), none, none, none], [], (nw_u J2 303 13 k, L1, W1), c1, s1) Qr Qx := hQ _ _ _ _ _ e1 e2 (h.q ⟨by omega, hB⟩ (fun x a => by
      have a3 : ¬ x = 303 := by omega
      rw [nw_uP a3, f2 x (by omega), f1 x (by omega)]) (fun j a => by rw [nw_uI a, f2 303 (by omega), f1 303 (by omega)]) fl w1 w2)
    exact b_L_law_2556 hD ⟨fun _ => ⟨fun _ => go, fun z => ⟨fun _ => go, fun w => absurd (nw_cmp3_eq ((hl z).trans (hy z).symm)) w⟩⟩, fun w => absurd nw_uS w⟩
  have md : ∀ (k v : Int) (J1 L1 : Nat → Int → Int) (W1 : nw_W) (c1 s1 : Nat), c ≤ c1 + 28 → sl ≤ s1 + 4006 → sp_wrk J J1 → (∀ y, ¬ y = 314 → L1 y = L y) → (k = 0 → L1 314 0 = v) → W1.2.1 = W.2.1 → sp_wW W W1 → ((k = 1 ∧ ¬ (0 ≤ x ∧ x < 10 ∧ x < J 304 8)) ∨ (k = 0 ∧ (0 ≤ x ∧ x < 10 ∧ x < J 304 8) ∧ v = J 304 (131 + x))) → NW sc d_L_law D (2544, [some (.inr (.inl (some 1000000))), some (.inr (.inl (some 0))), some (.inr (.inl (some 303))), some (.inr (.inl (some 314))), some (.inr (.inl (some 315))), some (.inl i), none, none, none], [.inl k], (J1, L1, W1), c1, s1) Qr Qx := fun k v J1 L1 W1 c1 s1 e1 e2 f1 fl hl w1 w2 sp => by
    have g1 : J1 304 = J 304 := f1 304 (by omega)
    have I1 : Inv (J1 304) B := by rw [g1]; exact I
    have fin : ∀ (y : Int) (J2 : Nat → Int → Int) k9, k9 = k → (∀ x, ¬ (310 ≤ x ∧ x ≤ 312) → J2 x = J1 x) → (k = 0 → y = v) → NW sc d_L_law D (2556, [some (.inr (.inl (some 1000000))), some (.inr (.inl (some 0))), some (.inr (.inl (some 303))), some (.inr (.inl (some 314))), some (.inr (.inl (some 315))), some (.inl i), some (.inl k), none, none], [.inl y], (nw_u J2 303 13 k9, L1, W1), c1, s1) Qr Qx := fun y J2 k9 e9 f2 hy => by
      subst e9
      exact fn _ v y J1 J2 L1 W1 c1 s1 e1 e2 f1 f2 fl hl hy w1 w2
    refine b_L_law_2544 hD ⟨by omega, by omega, ?_⟩
    rw [hx]
    refine b_X12_passageFerry_0 (by decide) ?_
    refine b_X12_passageNumber_0 (by decide) ?_
    rw [g1]
    (repeat' (first | refine And.intro ?_ ?_ | refine fun _ => ?_))
    all_goals first | omega | (exfalso; omega) | (refine b_X12_passageFerry_8 ?_; exact fin _ J1 _ (by omega) (fun _ _ => rfl) (by omega))
  refine b_L_law_2533 hD (by omega) (by omega) ⟨by omega, by omega, ?_⟩
  rw [hx]
  have kE : ∀ (k : Int) (J1 : Nat → Int → Int) n2, W.2.2.2.2 ≤ n2 → sp_wrk J J1 → (∀ v : Int, ¬ k = 0 ∧ ((k = 1 ∧ ¬ (0 ≤ x ∧ x < 10 ∧ x < J 304 8)) ∨ (k = 0 ∧ (0 ≤ x ∧ x < 10 ∧ x < J 304 8) ∧ v = J 304 (131 + x)))) → NW sc d_L_law D (2544, [some (.inr (.inl (some 1000000))), some (.inr (.inl (some 0))), some (.inr (.inl (some 303))), some (.inr (.inl (some 314))), some (.inr (.inl (some 315))), some (.inl i), none, none, none], [.inl k], (J1, L, nw_top W n2), c - 4, sl - 24) Qr Qx := fun k J1 n2 h2 f1 hk => md k 0 J1 L _ _ _ (by omega) (by omega) f1 (fun _ _ => rfl) (fun z => absurd z (hk 0).1) rfl (sp_wW.top h2) (hk 0).2
  have kV : ∀ (v : Int) (J1 : Nat → Int → Int), sp_wrk J J1 → (∀ k : Int, k = 0 → ((k = 1 ∧ ¬ (0 ≤ x ∧ x < 10 ∧ x < J 304 8)) ∨ (k = 0 ∧ (0 ≤ x ∧ x < 10 ∧ x < J 304 8) ∧ v = J 304 (131 + x)))) → NW sc d_L_law D (2544, [some (.inr (.inl (some 1000000))), some (.inr (.inl (some 0))), some (.inr (.inl (some 303))), some (.inr (.inl (some 314))), some (.inr (.inl (some 315))), some (.inl i), none, none, none], [.inl 0], (J1, nw_u L 314 0 v, W), c - 4, sl - 24) Qr Qx := fun v J1 f1 hk => md 0 v J1 _ W _ _ (by omega) (by omega) f1 (fun y a => nw_uP a) (fun _ => nw_uS) rfl sp_wW.refl (hk 0 rfl)
  refine b_L_passageFerry2_0 (by decide) (by decide) (by decide) ?_
  refine b_X11_passageFerry_0 (by decide) (by decide) (by decide) ?_
  (repeat' (first | refine And.intro ?_ ?_ | refine fun _ => ?_))
  all_goals first | omega | (exfalso; omega) | exact kE 1 J _ (by assumption) sp_wrk.refl (fun v => by omega) | (refine t_X4_slotOf c6 ⟨by omega, by omega, by omega⟩ (by decide) ?_; refine b_X11_passageFerry_26 ?_; ((repeat' (first | refine And.intro ?_ ?_ | refine fun _ => ?_)); all_goals first | omega | (exfalso; omega) | exact b_L_passageFerry2_7 ⟨by decide, kV _ J sp_wrk.refl (fun k z => by omega)⟩))
theorem case_passageCrater {i : Int} (hi : 0 ≤ i ∧ i + 5 ≤ (sc.1 : Int) ∧ (sc.1 : Int) ≤ 2560) (h : sp_Wd J L W B) (hB : B + 2200 ≤ 4000000) (hD : 18 ≤ D) (hc : 28 ≤ c) (hs : 4006 ≤ sl) (hQ : ∀ J' L' W' c1 s1, c ≤ c1 + 28 → sl ≤ s1 + 4006 → sp_Wd J' L' W' (B + 2200) → NW sc d_L_law D (3300, [some (.inr (.inl (some 1000000))), some (.inr (.inl (some 0))), some (.inr (.inl (some 303))), some (.inr (.inl (some 314))), some (.inr (.inl (some 315))), some (.inl i), none, none, none], [], (J', L', W'), c1, s1) Qr Qx) : NW sc d_L_law D (2589, [some (.inr (.inl (some 1000000))), some (.inr (.inl (some 0))), some (.inr (.inl (some 303))), some (.inr (.inl (some 314))), some (.inr (.inl (some 315))), some (.inl i), none, none, none], [], (J, L, W), c, sl) Qr Qx := by
  have hA := h.1
  have R := sp_sh2.mp hA.1.1
  have I := hA.1.2.1
  have hbd := I.bd
  have hho := I.ho
  have hcr := I.cr
  have hch := I.ch
  have hfe := I.fe
  have hmo := I.mo
  have hnx := I.nx
  have c1 := R.cr
  have c2 := R.ch
  have c3 := R.fe
  have c4 := R.mo
  have c5 := R.ho
  obtain ⟨x, hx⟩ : ∃ x, nw_sc sc (i + 1) = x := ⟨_, rfl⟩
  have c6 := R.pa
  have hpa := I.pa
  have f1 := R.kep x
  have fn : ∀ (k v y : Int) (J1 J2 L1 : Nat → Int → Int) (W1 : nw_W) (c1 s1 : Nat), c ≤ c1 + 28 → sl ≤ s1 + 4006 → sp_wrk J J1 → (∀ x, ¬ (310 ≤ x ∧ x ≤ 312) → J2 x = J1 x) → (∀ y, ¬ y = 314 → L1 y = L y) → (k = 0 → L1 314 0 = v) → (k = 0 → y = v) → W1.2.1 = W.2.1 → sp_wW W W1 → NW sc d_L_law D (2612, [some (.inr (.inl (some 1000000))), some (.inr (.inl (some 0))), some (.inr (.inl (some 303))), some (.inr (.inl (some 314))), some (.inr (.inl (some 315))), some (.inl i), some (.inl k), none, none], [.inl y], (nw_u J2 303 13 k, L1, W1), c1, s1) Qr Qx := fun k v y J1 J2 L1 W1 c1 s1 e1 e2 f1 f2 fl hl hy w1 w2 => by
    have go : NW sc d_L_law D (3300, [some (.inr (.inl (some 1000000))), some (.inr (.inl (some 0))), some (.inr (.inl (some 303))), some (.inr (.inl (some 314))), some (.inr (.inl (some 315))), some (.inl i), none, none, none], [], (nw_u J2 303 13 k, L1, W1), c1, s1) Qr Qx := hQ _ _ _ _ _ e1 e2 (h.q ⟨by omega, hB⟩ (fun x a => by
      have a3 : ¬ x = 303 := by omega
      rw [nw_uP a3, f2 x (by omega), f1 x (by omega)]) (fun j a => by rw [nw_uI a, f2 303 (by omega), f1 303 (by omega)]) fl w1 w2)
    exact b_L_law_2612 hD ⟨fun _ => ⟨fun _ => go, fun z => ⟨fun _ => go, fun w => absurd (nw_cmp3_eq ((hl z).trans (hy z).symm)) w⟩⟩, fun w => absurd nw_uS w⟩
  have md : ∀ (k v : Int) (J1 L1 : Nat → Int → Int) (W1 : nw_W) (c1 s1 : Nat), c ≤ c1 + 28 → sl ≤ s1 + 4006 → sp_wrk J J1 → (∀ y, ¬ y = 314 → L1 y = L y) → (k = 0 → L1 314 0 = v) → W1.2.1 = W.2.1 → sp_wW W W1 → ((k = 1 ∧ ¬ (0 ≤ x ∧ x < 10 ∧ x < J 304 8)) ∨ (k = 0 ∧ (0 ≤ x ∧ x < 10 ∧ x < J 304 8) ∧ v = J 304 (141 + x))) → NW sc d_L_law D (2600, [some (.inr (.inl (some 1000000))), some (.inr (.inl (some 0))), some (.inr (.inl (some 303))), some (.inr (.inl (some 314))), some (.inr (.inl (some 315))), some (.inl i), none, none, none], [.inl k], (J1, L1, W1), c1, s1) Qr Qx := fun k v J1 L1 W1 c1 s1 e1 e2 f1 fl hl w1 w2 sp => by
    have g1 : J1 304 = J 304 := f1 304 (by omega)
    have I1 : Inv (J1 304) B := by rw [g1]; exact I
    have fin : ∀ (y : Int) (J2 : Nat → Int → Int) k9, k9 = k → (∀ x, ¬ (310 ≤ x ∧ x ≤ 312) → J2 x = J1 x) → (k = 0 → y = v) → NW sc d_L_law D (2612, [some (.inr (.inl (some 1000000))), some (.inr (.inl (some 0))), some (.inr (.inl (some 303))), some (.inr (.inl (some 314))), some (.inr (.inl (some 315))), some (.inl i), some (.inl k), none, none], [.inl y], (nw_u J2 303 13 k9, L1, W1), c1, s1) Qr Qx := fun y J2 k9 e9 f2 hy => by
      subst e9
      exact fn _ v y J1 J2 L1 W1 c1 s1 e1 e2 f1 f2 fl hl hy w1 w2
    refine b_L_law_2600 hD ⟨by omega, by omega, ?_⟩
    rw [hx]
    refine b_X12_passageCrater_0 (by decide) ?_
    refine b_X12_passageNumber_0 (by decide) ?_
    rw [g1]
    (repeat' (first | refine And.intro ?_ ?_ | refine fun _ => ?_))
    all_goals first | omega | (exfalso; omega) | (refine b_X12_passageCrater_8 ?_; exact fin _ J1 _ (by omega) (fun _ _ => rfl) (by omega))
  refine b_L_law_2589 hD (by omega) (by omega) ⟨by omega, by omega, ?_⟩
  rw [hx]
  have kE : ∀ (k : Int) (J1 : Nat → Int → Int) n2, W.2.2.2.2 ≤ n2 → sp_wrk J J1 → (∀ v : Int, ¬ k = 0 ∧ ((k = 1 ∧ ¬ (0 ≤ x ∧ x < 10 ∧ x < J 304 8)) ∨ (k = 0 ∧ (0 ≤ x ∧ x < 10 ∧ x < J 304 8) ∧ v = J 304 (141 + x)))) → NW sc d_L_law D (2600, [some (.inr (.inl (some 1000000))), some (.inr (.inl (some 0))), some (.inr (.inl (some 303))), some (.inr (.inl (some 314))), some (.inr (.inl (some 315))), some (.inl i), none, none, none], [.inl k], (J1, L, nw_top W n2), c - 4, sl - 24) Qr Qx := fun k J1 n2 h2 f1 hk => md k 0 J1 L _ _ _ (by omega) (by omega) f1 (fun _ _ => rfl) (fun z => absurd z (hk 0).1) rfl (sp_wW.top h2) (hk 0).2
  have kV : ∀ (v : Int) (J1 : Nat → Int → Int), sp_wrk J J1 → (∀ k : Int, k = 0 → ((k = 1 ∧ ¬ (0 ≤ x ∧ x < 10 ∧ x < J 304 8)) ∨ (k = 0 ∧ (0 ≤ x ∧ x < 10 ∧ x < J 304 8) ∧ v = J 304 (141 + x)))) → NW sc d_L_law D (2600, [some (.inr (.inl (some 1000000))), some (.inr (.inl (some 0))), some (.inr (.inl (some 303))), some (.inr (.inl (some 314))), some (.inr (.inl (some 315))), some (.inl i), none, none, none], [.inl 0], (J1, nw_u L 314 0 v, W), c - 4, sl - 24) Qr Qx := fun v J1 f1 hk => md 0 v J1 _ W _ _ (by omega) (by omega) f1 (fun y a => nw_uP a) (fun _ => nw_uS) rfl sp_wW.refl (hk 0 rfl)
  refine b_L_passageCrater2_0 (by decide) (by decide) (by decide) ?_
  refine b_X11_passageCrater_0 (by decide) (by decide) (by decide) ?_
  (repeat' (first | refine And.intro ?_ ?_ | refine fun _ => ?_))
  all_goals first | omega | (exfalso; omega) | exact kE 1 J _ (by assumption) sp_wrk.refl (fun v => by omega) | (refine t_X4_slotOf c6 ⟨by omega, by omega, by omega⟩ (by decide) ?_; refine b_X11_passageCrater_26 ?_; ((repeat' (first | refine And.intro ?_ ?_ | refine fun _ => ?_)); all_goals first | omega | (exfalso; omega) | exact b_L_passageCrater2_7 ⟨by decide, kV _ J sp_wrk.refl (fun k z => by omega)⟩))
theorem case_passageHour {i : Int} (hi : 0 ≤ i ∧ i + 5 ≤ (sc.1 : Int) ∧ (sc.1 : Int) ≤ 2560) (h : sp_Wd J L W B) (hB : B + 2200 ≤ 4000000) (hD : 18 ≤ D) (hc : 28 ≤ c) (hs : 4006 ≤ sl) (hQ : ∀ J' L' W' c1 s1, c ≤ c1 + 28 → sl ≤ s1 + 4006 → sp_Wd J' L' W' (B + 2200) → NW sc d_L_law D (3300, [some (.inr (.inl (some 1000000))), some (.inr (.inl (some 0))), some (.inr (.inl (some 303))), some (.inr (.inl (some 314))), some (.inr (.inl (some 315))), some (.inl i), none, none, none], [], (J', L', W'), c1, s1) Qr Qx) : NW sc d_L_law D (2645, [some (.inr (.inl (some 1000000))), some (.inr (.inl (some 0))), some (.inr (.inl (some 303))), some (.inr (.inl (some 314))), some (.inr (.inl (some 315))), some (.inl i), none, none, none], [], (J, L, W), c, sl) Qr Qx := by
  have hA := h.1
  have R := sp_sh2.mp hA.1.1
  have I := hA.1.2.1
  have hbd := I.bd
  have hho := I.ho
  have hcr := I.cr
  have hch := I.ch
  have hfe := I.fe
  have hmo := I.mo
  have hnx := I.nx
  have c1 := R.cr
  have c2 := R.ch
  have c3 := R.fe
  have c4 := R.mo
  have c5 := R.ho
  obtain ⟨x, hx⟩ : ∃ x, nw_sc sc (i + 1) = x := ⟨_, rfl⟩
  have c6 := R.pa
  have hpa := I.pa
  have f1 := R.kep x
  have fn : ∀ (k v y : Int) (J1 J2 L1 : Nat → Int → Int) (W1 : nw_W) (c1 s1 : Nat), c ≤ c1 + 28 → sl ≤ s1 + 4006 → sp_wrk J J1 → (∀ x, ¬ (310 ≤ x ∧ x ≤ 312) → J2 x = J1 x) → (∀ y, ¬ y = 314 → L1 y = L y) → (k = 0 → L1 314 0 = v) → (k = 0 → y = v) → W1.2.1 = W.2.1 → sp_wW W W1 → NW sc d_L_law D (2668, [some (.inr (.inl (some 1000000))), some (.inr (.inl (some 0))), some (.inr (.inl (some 303))), some (.inr (.inl (some 314))), some (.inr (.inl (some 315))), some (.inl i), some (.inl k), none, none], [.inl y], (nw_u J2 303 13 k, L1, W1), c1, s1) Qr Qx := fun k v y J1 J2 L1 W1 c1 s1 e1 e2 f1 f2 fl hl hy w1 w2 => by
    have go : NW sc d_L_law D (3300, [some (.inr (.inl (some 1000000))), some (.inr (.inl (some 0))), some (.inr (.inl (some 303))), some (.inr (.inl (some 314))), some (.inr (.inl (some 315))), some (.inl i), none, none, none], [], (nw_u J2 303 13 k, L1, W1), c1, s1) Qr Qx := hQ _ _ _ _ _ e1 e2 (h.q ⟨by omega, hB⟩ (fun x a => by
      have a3 : ¬ x = 303 := by omega
      rw [nw_uP a3, f2 x (by omega), f1 x (by omega)]) (fun j a => by rw [nw_uI a, f2 303 (by omega), f1 303 (by omega)]) fl w1 w2)
    exact b_L_law_2668 hD ⟨fun _ => ⟨fun _ => go, fun z => ⟨fun _ => go, fun w => absurd (nw_cmp3_eq ((hl z).trans (hy z).symm)) w⟩⟩, fun w => absurd nw_uS w⟩
  have md : ∀ (k v : Int) (J1 L1 : Nat → Int → Int) (W1 : nw_W) (c1 s1 : Nat), c ≤ c1 + 28 → sl ≤ s1 + 4006 → sp_wrk J J1 → (∀ y, ¬ y = 314 → L1 y = L y) → (k = 0 → L1 314 0 = v) → W1.2.1 = W.2.1 → sp_wW W W1 → ((k = 1 ∧ ¬ (0 ≤ x ∧ x < 10 ∧ x < J 304 8)) ∨ (k = 0 ∧ (0 ≤ x ∧ x < 10 ∧ x < J 304 8) ∧ v = J 304 (151 + x))) → NW sc d_L_law D (2656, [some (.inr (.inl (some 1000000))), some (.inr (.inl (some 0))), some (.inr (.inl (some 303))), some (.inr (.inl (some 314))), some (.inr (.inl (some 315))), some (.inl i), none, none, none], [.inl k], (J1, L1, W1), c1, s1) Qr Qx := fun k v J1 L1 W1 c1 s1 e1 e2 f1 fl hl w1 w2 sp => by
    have g1 : J1 304 = J 304 := f1 304 (by omega)
    have I1 : Inv (J1 304) B := by rw [g1]; exact I
    have fin : ∀ (y : Int) (J2 : Nat → Int → Int) k9, k9 = k → (∀ x, ¬ (310 ≤ x ∧ x ≤ 312) → J2 x = J1 x) → (k = 0 → y = v) → NW sc d_L_law D (2668, [some (.inr (.inl (some 1000000))), some (.inr (.inl (some 0))), some (.inr (.inl (some 303))), some (.inr (.inl (some 314))), some (.inr (.inl (some 315))), some (.inl i), some (.inl k), none, none], [.inl y], (nw_u J2 303 13 k9, L1, W1), c1, s1) Qr Qx := fun y J2 k9 e9 f2 hy => by
      subst e9
      exact fn _ v y J1 J2 L1 W1 c1 s1 e1 e2 f1 f2 fl hl hy w1 w2
    refine b_L_law_2656 hD ⟨by omega, by omega, ?_⟩
    rw [hx]
    refine b_X12_passageHour_0 (by decide) ?_
    refine b_X12_passageNumber_0 (by decide) ?_
    rw [g1]
    (repeat' (first | refine And.intro ?_ ?_ | refine fun _ => ?_))
    all_goals first | omega | (exfalso; omega) | (refine b_X12_passageHour_8 ?_; exact fin _ J1 _ (by omega) (fun _ _ => rfl) (by omega))
  refine b_L_law_2645 hD (by omega) (by omega) ⟨by omega, by omega, ?_⟩
  rw [hx]
  have kE : ∀ (k : Int) (J1 : Nat → Int → Int) n2, W.2.2.2.2 ≤ n2 → sp_wrk J J1 → (∀ v : Int, ¬ k = 0 ∧ ((k = 1 ∧ ¬ (0 ≤ x ∧ x < 10 ∧ x < J 304 8)) ∨ (k = 0 ∧ (0 ≤ x ∧ x < 10 ∧ x < J 304 8) ∧ v = J 304 (151 + x)))) → NW sc d_L_law D (2656, [some (.inr (.inl (some 1000000))), some (.inr (.inl (some 0))), some (.inr (.inl (some 303))), some (.inr (.inl (some 314))), some (.inr (.inl (some 315))), some (.inl i), none, none, none], [.inl k], (J1, L, nw_top W n2), c - 4, sl - 24) Qr Qx := fun k J1 n2 h2 f1 hk => md k 0 J1 L _ _ _ (by omega) (by omega) f1 (fun _ _ => rfl) (fun z => absurd z (hk 0).1) rfl (sp_wW.top h2) (hk 0).2
  have kV : ∀ (v : Int) (J1 : Nat → Int → Int), sp_wrk J J1 → (∀ k : Int, k = 0 → ((k = 1 ∧ ¬ (0 ≤ x ∧ x < 10 ∧ x < J 304 8)) ∨ (k = 0 ∧ (0 ≤ x ∧ x < 10 ∧ x < J 304 8) ∧ v = J 304 (151 + x)))) → NW sc d_L_law D (2656, [some (.inr (.inl (some 1000000))), some (.inr (.inl (some 0))), some (.inr (.inl (some 303))), some (.inr (.inl (some 314))), some (.inr (.inl (some 315))), some (.inl i), none, none, none], [.inl 0], (J1, nw_u L 314 0 v, W), c - 4, sl - 24) Qr Qx := fun v J1 f1 hk => md 0 v J1 _ W _ _ (by omega) (by omega) f1 (fun y a => nw_uP a) (fun _ => nw_uS) rfl sp_wW.refl (hk 0 rfl)
  refine b_L_passageHour2_0 (by decide) (by decide) (by decide) ?_
  refine b_X11_passageHour_0 (by decide) (by decide) (by decide) ?_
  (repeat' (first | refine And.intro ?_ ?_ | refine fun _ => ?_))
  all_goals first | omega | (exfalso; omega) | exact kE 1 J _ (by assumption) sp_wrk.refl (fun v => by omega) | (refine t_X4_slotOf c6 ⟨by omega, by omega, by omega⟩ (by decide) ?_; refine b_X11_passageHour_26 ?_; ((repeat' (first | refine And.intro ?_ ?_ | refine fun _ => ?_)); all_goals first | omega | (exfalso; omega) | exact b_L_passageHour2_7 ⟨by decide, kV _ J sp_wrk.refl (fun k z => by omega)⟩))
end
