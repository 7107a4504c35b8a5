/-! the law: plain questions -/
section
variable {sc : Nat × (Nat → Int32)} {D : Nat} {J L : Nat → Int → Int} {W : nw_W} {c sl : Nat} {Qr : nw_QR} {Qx : nw_QX} {g : Int → Int} {B : Int}
theorem sp_wrk.refl {J : Nat → Int → Int} : sp_wrk J J := fun _ _ => rfl
theorem case_depthOf {i : Int} (hi : 0 ≤ i ∧ i + 5 ≤ (sc.1 : Int) ∧ (sc.1 : Int) ≤ 2560) (h : sp_Wd J L W B) (hB : B + 2200 ≤ 4000000) (hD : 18 ≤ D) (hc : 28 ≤ c) (hs : 4006 ≤ sl) (hQ : ∀ J' L' W' c1 s1, c ≤ c1 + 28 → sl ≤ s1 + 4006 → sp_Wd J' L' W' (B + 2200) → NW sc d_L_law D (3300, [some (.inr (.inl (some 1000000))), some (.inr (.inl (some 0))), some (.inr (.inl (some 303))), some (.inr (.inl (some 314))), some (.inr (.inl (some 315))), some (.inl i), none, none, none], [], (J', L', W'), c1, s1) Qr Qx) : NW sc d_L_law D (530, [some (.inr (.inl (some 1000000))), some (.inr (.inl (some 0))), some (.inr (.inl (some 303))), some (.inr (.inl (some 314))), some (.inr (.inl (some 315))), some (.inl i), none, none, none], [], (J, L, W), c, sl) Qr Qx := by
  have hA := h.1
  have R := sp_sh2.mp hA.1.1
  have I := hA.1.2.1
  have hbd := I.bd
  have hho := I.ho
  have hcr := I.cr
  have hch := I.ch
  have hfe := I.fe
  have hmo := I.mo
  have hnx := I.nx
  have c1 := R.cr
  have c2 := R.ch
  have c3 := R.fe
  have c4 := R.mo
  have c5 := R.ho
  obtain ⟨x, hx⟩ : ∃ x, nw_sc sc (i + 1) = x := ⟨_, rfl⟩
  have f1 := R.dep x
  have fn : ∀ (k v y : Int) (J1 J2 L1 : Nat → Int → Int) (W1 : nw_W) (c1 s1 : Nat), c ≤ c1 + 28 → sl ≤ s1 + 4006 → sp_wrk J J1 → (∀ x, ¬ (310 ≤ x ∧ x ≤ 312) → J2 x = J1 x) → (∀ y, ¬ y = 314 → L1 y = L y) → (k = 0 → L1 314 0 = v) → (k = 0 → y = v) → W1.2.1 = W.2.1 → sp_wW W W1 → NW sc d_L_law D (553, [some (.inr (.inl (some 1000000))), some (.inr (.inl (some 0))), some (.inr (.inl (some 303))), some (.inr (.inl (some 314))), some (.inr (.inl (some 315))), some (.inl i), some (.inl k), none, none], [.inl y], (nw_u J2 303 13 k, L1, W1), c1, s1) Qr Qx := fun k v y J1 J2 L1 W1 c1 s1 e1 e2 f1 f2 fl hl hy w1 w2 => by
    have go : NW sc d_L_law D (3300, [some (.inr (.inl (some 1000000))), some (.inr (.inl (some 0))), some (.inr (.inl (some 303))), some (.inr (.inl (some 314))), some (.inr (.inl (some 315))), some (.inl i), none, none, none], [], (nw_u J2 303 13 k, L1, W1), c1, s1) Qr Qx := hQ _ _ _ _ _ e1 e2 (h.q ⟨by omega, hB⟩ (fun x a => by
      have a3 : ¬ x = 303 := by omega
      rw [nw_uP a3, f2 x (by omega), f1 x (by omega)]) (fun j a => by rw [nw_uI a, f2 303 (by omega), f1 303 (by omega)]) fl w1 w2)
    exact b_L_law_553 hD ⟨fun _ => ⟨fun _ => go, fun z => ⟨fun _ => go, fun w => absurd (nw_cmp3_eq ((hl z).trans (hy z).symm)) w⟩⟩, fun w => absurd nw_uS w⟩
  have md : ∀ (k v : Int) (J1 L1 : Nat → Int → Int) (W1 : nw_W) (c1 s1 : Nat), c ≤ c1 + 28 → sl ≤ s1 + 4006 → sp_wrk J J1 → (∀ y, ¬ y = 314 → L1 y = L y) → (k = 0 → L1 314 0 = v) → W1.2.1 = W.2.1 → sp_wW W W1 → ((k = 1 ∧ ¬ (0 ≤ x ∧ x < J 304 1)) ∨ (k = 0 ∧ (0 ≤ x ∧ x < J 304 1) ∧ v = J 304 (10 + x))) → NW sc d_L_law D (541, [some (.inr (.inl (some 1000000))), some (.inr (.inl (some 0))), some (.inr (.inl (some 303))), some (.inr (.inl (some 314))), some (.inr (.inl (some 315))), some (.inl i), none, none, none], [.inl k], (J1, L1, W1), c1, s1) Qr Qx := fun k v J1 L1 W1 c1 s1 e1 e2 f1 fl hl w1 w2 sp => by
    have g1 : J1 304 = J 304 := f1 304 (by omega)
    have I1 : Inv (J1 304) B := by rw [g1]; exact I
    have fin : ∀ (y : Int) (J2 : Nat → Int → Int) k9, k9 = k → (∀ x, ¬ (310 ≤ x ∧ x ≤ 312) → J2 x = J1 x) → (k = 0 → y = v) → NW sc d_L_law D (553, [some (.inr (.inl (some 1000000))), some (.inr (.inl (some 0))), some (.inr (.inl (some 303))), some (.inr (.inl (some 314))), some (.inr (.inl (some 315))), some (.inl i), some (.inl k), none, none], [.inl y], (nw_u J2 303 13 k9, L1, W1), c1, s1) Qr Qx := fun y J2 k9 e9 f2 hy => by
      subst e9
      exact fn _ v y J1 J2 L1 W1 c1 s1 e1 e2 f1 f2 fl hl hy w1 w2
    refine b_L_law_541 hD ⟨by omega, by omega, ?_⟩
    rw [hx]
    refine b_X12_depthOf_0 (by decide) ?_
    rw [g1]
    (repeat' (first | refine And.intro ?_ ?_ | refine fun _ => ?_))
    all_goals first | omega | (exfalso; omega) | exact fin _ J1 _ (by omega) (fun _ _ => rfl) (by omega)
  refine b_L_law_530 hD (by omega) (by omega) ⟨by omega, by omega, ?_⟩
  rw [hx]
  have kE : ∀ (k : Int) (J1 : Nat → Int → Int) n2, W.2.2.2.2 ≤ n2 → sp_wrk J J1 → (∀ v : Int, ¬ k = 0 ∧ ((k = 1 ∧ ¬ (0 ≤ x ∧ x < J 304 1)) ∨ (k = 0 ∧ (0 ≤ x ∧ x < J 304 1) ∧ v = J 304 (10 + x)))) → NW sc d_L_law D (541, [some (.inr (.inl (some 1000000))), some (.inr (.inl (some 0))), some (.inr (.inl (some 303))), some (.inr (.inl (some 314))), some (.inr (.inl (some 315))), some (.inl i), none, none, none], [.inl k], (J1, L, nw_top W n2), c - 4, sl - 24) Qr Qx := fun k J1 n2 h2 f1 hk => md k 0 J1 L _ _ _ (by omega) (by omega) f1 (fun _ _ => rfl) (fun z => absurd z (hk 0).1) rfl (sp_wW.top h2) (hk 0).2
  have kV : ∀ (v : Int) (J1 : Nat → Int → Int), sp_wrk J J1 → (∀ k : Int, k = 0 → ((k = 1 ∧ ¬ (0 ≤ x ∧ x < J 304 1)) ∨ (k = 0 ∧ (0 ≤ x ∧ x < J 304 1) ∧ v = J 304 (10 + x)))) → NW sc d_L_law D (541, [some (.inr (.inl (some 1000000))), some (.inr (.inl (some 0))), some (.inr (.inl (some 303))), some (.inr (.inl (some 314))), some (.inr (.inl (some 315))), some (.inl i), none, none, none], [.inl 0], (J1, nw_u L 314 0 v, W), c - 4, sl - 24) Qr Qx := fun v J1 f1 hk => md 0 v J1 _ W _ _ (by omega) (by omega) f1 (fun y a => nw_uP a) (fun _ => nw_uS) rfl sp_wW.refl (hk 0 rfl)
  refine b_L_depthOf2_0 (by decide) (by decide) (by decide) ?_
  refine b_X11_depthOf_0 (by decide) (by decide) (by decide) ?_
  (repeat' (first | refine And.intro ?_ ?_ | refine fun _ => ?_))
  all_goals first | omega | (exfalso; omega) | exact kE 1 J _ (by assumption) sp_wrk.refl (fun v => by omega) | exact b_L_depthOf2_7 ⟨by decide, kV _ J sp_wrk.refl (fun k z => by omega)⟩
theorem case_isAtSea {i : Int} (hi : 0 ≤ i ∧ i + 5 ≤ (sc.1 : Int) ∧ (sc.1 : Int) ≤ 2560) (h : sp_Wd J L W B) (hB : B + 2200 ≤ 4000000) (hD : 18 ≤ D) (hc : 28 ≤ c) (hs : 4006 ≤ sl) (hQ : ∀ J' L' W' c1 s1, c ≤ c1 + 28 → sl ≤ s1 + 4006 → sp_Wd J' L' W' (B + 2200) → NW sc d_L_law D (3300, [some (.inr (.inl (some 1000000))), some (.inr (.inl (some 0))), some (.inr (.inl (some 303))), some (.inr (.inl (some 314))), some (.inr (.inl (some 315))), some (.inl i), none, none, none], [], (J', L', W'), c1, s1) Qr Qx) : NW sc d_L_law D (1082, [some (.inr (.inl (some 1000000))), some (.inr (.inl (some 0))), some (.inr (.inl (some 303))), some (.inr (.inl (some 314))), some (.inr (.inl (some 315))), some (.inl i), none, none, none], [], (J, L, W), c, sl) Qr Qx := by
  have hA := h.1
  have R := sp_sh2.mp hA.1.1
  have I := hA.1.2.1
  have hbd := I.bd
  have hho := I.ho
  have hcr := I.cr
  have hch := I.ch
  have hfe := I.fe
  have hmo := I.mo
  have hnx := I.nx
  have c1 := R.cr
  have c2 := R.ch
  have c3 := R.fe
  have c4 := R.mo
  have c5 := R.ho
  obtain ⟨x, hx⟩ : ∃ x, nw_sc sc (i + 1) = x := ⟨_, rfl⟩
  have f1 := R.fer x
  have f2 := I.fer x
  have fn : ∀ (k v y : Int) (J1 J2 L1 : Nat → Int → Int) (W1 : nw_W) (c1 s1 : Nat), c ≤ c1 + 28 → sl ≤ s1 + 4006 → sp_wrk J J1 → (∀ x, ¬ (310 ≤ x ∧ x ≤ 312) → J2 x = J1 x) → (∀ y, ¬ y = 314 → L1 y = L y) → (k = 0 → L1 314 0 = v) → (k = 0 → y = v) → (y = 0 ∨ y = 1) → W1.2.1 = W.2.1 → sp_wW W W1 → NW sc d_L_law D (1105, [some (.inr (.inl (some 1000000))), some (.inr (.inl (some 0))), some (.inr (.inl (some 303))), some (.inr (.inl (some 314))), some (.inr (.inl (some 315))), some (.inl i), some (.inl k), none, none], [.inl y], (nw_u J2 303 13 k, L1, W1), c1, s1) Qr Qx := fun k v y J1 J2 L1 W1 c1 s1 e1 e2 f1 f2 fl hl hy hy0 w1 w2 => by
    have go : NW sc d_L_law D (3300, [some (.inr (.inl (some 1000000))), some (.inr (.inl (some 0))), some (.inr (.inl (some 303))), some (.inr (.inl (some 314))), some (.inr (.inl (some 315))), some (.inl i), none, none, none], [], (nw_u J2 303 13 k, L1, W1), c1, s1) Qr Qx := hQ _ _ _ _ _ e1 e2 (h.q ⟨by omega, hB⟩ (fun x a => by
      have a3 : ¬ x = 303 := by omega
      rw [nw_uP a3, f2 x (by omega), f1 x (by omega)]) (fun j a => by rw [nw_uI a, f2 303 (by omega), f1 303 (by omega)]) fl w1 w2)
    exact b_L_law_1105 hD ⟨fun _ => ⟨fun _ => go, fun z => ⟨fun q => ⟨fun _ => go, fun w => absurd (nw_cmp3_eq ((hl z).trans ((hy z).symm.trans q))) w⟩, fun q => ⟨fun _ => go, fun w => absurd (nw_cmp3_eq ((hl z).trans ((hy z).symm.trans (by omega)))) w⟩⟩⟩, fun w => absurd nw_uS w⟩
  have md : ∀ (k v : Int) (J1 L1 : Nat → Int → Int) (W1 : nw_W) (c1 s1 : Nat), c ≤ c1 + 28 → sl ≤ s1 + 4006 → sp_wrk J J1 → (∀ y, ¬ y = 314 → L1 y = L y) → (k = 0 → L1 314 0 = v) → W1.2.1 = W.2.1 → sp_wW W W1 → ((k = 1 ∧ ¬ (0 ≤ x ∧ x < J 304 3)) ∨ (k = 0 ∧ (0 ≤ x ∧ x < J 304 3) ∧ ((0 < J 304 (62 + x) ∧ v = 1) ∨ (J 304 (62 + x) ≤ 0 ∧ v = 0)))) → NW sc d_L_law D (1093, [some (.inr (.inl (some 1000000))), some (.inr (.inl (some 0))), some (.inr (.inl (some 303))), some (.inr (.inl (some 314))), some (.inr (.inl (some 315))), some (.inl i), none, none, none], [.inl k], (J1, L1, W1), c1, s1) Qr Qx := fun k v J1 L1 W1 c1 s1 e1 e2 f1 fl hl w1 w2 sp => by
    have g1 : J1 304 = J 304 := f1 304 (by omega)
    have I1 : Inv (J1 304) B := by rw [g1]; exact I
    have fin : ∀ (y : Int) (J2 : Nat → Int → Int) k9, k9 = k → (∀ x, ¬ (310 ≤ x ∧ x ≤ 312) → J2 x = J1 x) → (k = 0 → y = v) → (y = 0 ∨ y = 1) → NW sc d_L_law D (1105, [some (.inr (.inl (some 1000000))), some (.inr (.inl (some 0))), some (.inr (.inl (some 303))), some (.inr (.inl (some 314))), some (.inr (.inl (some 315))), some (.inl i), some (.inl k), none, none], [.inl y], (nw_u J2 303 13 k9, L1, W1), c1, s1) Qr Qx := fun y J2 k9 e9 f2 hy hy0 => by
      subst e9
      exact fn _ v y J1 J2 L1 W1 c1 s1 e1 e2 f1 f2 fl hl hy hy0 w1 w2
    refine b_L_law_1093 hD ⟨by omega, by omega, ?_⟩
    rw [hx]
    refine b_X12_isAtSea_0 (by decide) ?_
    rw [g1]
    (repeat' (first | refine And.intro ?_ ?_ | refine fun _ => ?_))
    all_goals first | omega | (exfalso; omega) | exact fin _ J1 _ (by omega) (fun _ _ => rfl) (by omega) (by omega)
  refine b_L_law_1082 hD (by omega) (by omega) ⟨by omega, by omega, ?_⟩
  rw [hx]
  have kE : ∀ (k : Int) (J1 : Nat → Int → Int) n2, W.2.2.2.2 ≤ n2 → sp_wrk J J1 → (∀ v : Int, ¬ k = 0 ∧ ((k = 1 ∧ ¬ (0 ≤ x ∧ x < J 304 3)) ∨ (k = 0 ∧ (0 ≤ x ∧ x < J 304 3) ∧ ((0 < J 304 (62 + x) ∧ v = 1) ∨ (J 304 (62 + x) ≤ 0 ∧ v = 0))))) → NW sc d_L_law D (1093, [some (.inr (.inl (some 1000000))), some (.inr (.inl (some 0))), some (.inr (.inl (some 303))), some (.inr (.inl (some 314))), some (.inr (.inl (some 315))), some (.inl i), none, none, none], [.inl k], (J1, L, nw_top W n2), c - 4, sl - 24) Qr Qx := fun k J1 n2 h2 f1 hk => md k 0 J1 L _ _ _ (by omega) (by omega) f1 (fun _ _ => rfl) (fun z => absurd z (hk 0).1) rfl (sp_wW.top h2) (hk 0).2
  have kV : ∀ (v : Int) (J1 : Nat → Int → Int), sp_wrk J J1 → (∀ k : Int, k = 0 → ((k = 1 ∧ ¬ (0 ≤ x ∧ x < J 304 3)) ∨ (k = 0 ∧ (0 ≤ x ∧ x < J 304 3) ∧ ((0 < J 304 (62 + x) ∧ v = 1) ∨ (J 304 (62 + x) ≤ 0 ∧ v = 0))))) → NW sc d_L_law D (1093, [some (.inr (.inl (some 1000000))), some (.inr (.inl (some 0))), some (.inr (.inl (some 303))), some (.inr (.inl (some 314))), some (.inr (.inl (some 315))), some (.inl i), none, none, none], [.inl 0], (J1, nw_u L 314 0 v, W), c - 4, sl - 24) Qr Qx := fun v J1 f1 hk => md 0 v J1 _ W _ _ (by omega) (by omega) f1 (fun y a => nw_uP a) (fun _ => nw_uS) rfl sp_wW.refl (hk 0 rfl)
  refine b_L_isAtSea2_0 (by decide) (by decide) (by decide) ?_
  refine b_X11_isAtSea_0 (by decide) (by decide) (by decide) ?_
  (repeat' (first | refine And.intro ?_ ?_ | refine fun _ => ?_))
  all_goals first | omega | (exfalso; omega) | exact kE 1 J _ (by assumption) sp_wrk.refl (fun v => by omega) | exact b_L_isAtSea2_7 ⟨fun _ => ⟨by decide, kV _ J sp_wrk.refl (fun k z => by omega)⟩, fun _ => ⟨by decide, kV _ J sp_wrk.refl (fun k z => by omega)⟩⟩ | exact b_L_isAtSea2_7 ⟨fun z => absurd z (by decide), fun _ => ⟨by decide, kV _ J sp_wrk.refl (fun k z => by omega)⟩⟩ | exact b_L_isAtSea2_7 ⟨fun _ => ⟨by decide, kV _ J sp_wrk.refl (fun k z => by omega)⟩, fun z => absurd rfl z⟩
theorem case_craterOf {i : Int} (hi : 0 ≤ i ∧ i + 5 ≤ (sc.1 : Int) ∧ (sc.1 : Int) ≤ 2560) (h : sp_Wd J L W B) (hB : B + 2200 ≤ 4000000) (hD : 18 ≤ D) (hc : 28 ≤ c) (hs : 4006 ≤ sl) (hQ : ∀ J' L' W' c1 s1, c ≤ c1 + 28 → sl ≤ s1 + 4006 → sp_Wd J' L' W' (B + 2200) → NW sc d_L_law D (3300, [some (.inr (.inl (some 1000000))), some (.inr (.inl (some 0))), some (.inr (.inl (some 303))), some (.inr (.inl (some 314))), some (.inr (.inl (some 315))), some (.inl i), none, none, none], [], (J', L', W'), c1, s1) Qr Qx) : NW sc d_L_law D (1145, [some (.inr (.inl (some 1000000))), some (.inr (.inl (some 0))), some (.inr (.inl (some 303))), some (.inr (.inl (some 314))), some (.inr (.inl (some 315))), some (.inl i), none, none, none], [], (J, L, W), c, sl) Qr Qx := by
  have hA := h.1
  have R := sp_sh2.mp hA.1.1
  have I := hA.1.2.1
  have hbd := I.bd
  have hho := I.ho
  have hcr := I.cr
  have hch := I.ch
  have hfe := I.fe
  have hmo := I.mo
  have hnx := I.nx
  have c1 := R.cr
  have c2 := R.ch
  have c3 := R.fe
  have c4 := R.mo
  have c5 := R.ho
  obtain ⟨x, hx⟩ : ∃ x, nw_sc sc (i + 1) = x := ⟨_, rfl⟩
  have f1 := R.fer x
  have f2 := I.fer x
  have fn : ∀ (k v y : Int) (J1 J2 L1 : Nat → Int → Int) (W1 : nw_W) (c1 s1 : Nat), c ≤ c1 + 28 → sl ≤ s1 + 4006 → sp_wrk J J1 → (∀ x, ¬ (310 ≤ x ∧ x ≤ 312) → J2 x = J1 x) → (∀ y, ¬ y = 314 → L1 y = L y) → (k = 0 → L1 314 0 = v) → (k = 0 → y = v) → W1.2.1 = W.2.1 → sp_wW W W1 → NW sc d_L_law D (1168, [some (.inr (.inl (some 1000000))), some (.inr (.inl (some 0))), some (.inr (.inl (some 303))), some (.inr (.inl (some 314))), some (.inr (.inl (some 315))), some (.inl i), some (.inl k), none, none], [.inl y], (nw_u J2 303 13 k, L1, W1), c1, s1) Qr Qx := fun k v y J1 J2 L1 W1 c1 s1 e1 e2 f1 f2 fl hl hy w1 w2 => by
    have go : NW sc d_L_law D (3300, [some (.inr (.inl (some 1000000))), some (.inr (.inl (some 0))), some (.inr (.inl (some 303))), some (.inr (.inl (some 314))), some (.inr (.inl (some 315))), some (.inl i), none, none, none], [], (nw_u J2 303 13 k, L1, W1), c1, s1) Qr Qx := hQ _ _ _ _ _ e1 e2 (h.q ⟨by omega, hB⟩ (fun x a => by
      have a3 : ¬ x = 303 := by omega
      rw [nw_uP a3, f2 x (by omega), f1 x (by omega)]) (fun j a => by rw [nw_uI a, f2 303 (by omega), f1 303 (by omega)]) fl w1 w2)
    exact b_L_law_1168 hD ⟨fun _ => ⟨fun _ => go, fun z => ⟨fun _ => go, fun w => absurd (nw_cmp3_eq ((hl z).trans (hy z).symm)) w⟩⟩, fun w => absurd nw_uS w⟩
  have md : ∀ (k v : Int) (J1 L1 : Nat → Int → Int) (W1 : nw_W) (c1 s1 : Nat), c ≤ c1 + 28 → sl ≤ s1 + 4006 → sp_wrk J J1 → (∀ y, ¬ y = 314 → L1 y = L y) → (k = 0 → L1 314 0 = v) → W1.2.1 = W.2.1 → sp_wW W W1 → ((k = 1 ∧ ¬ (0 ≤ x ∧ x < J 304 3)) ∨ (k = 2 ∧ (0 ≤ x ∧ x < J 304 3) ∧ 0 < J 304 (62 + x)) ∨ (k = 0 ∧ (0 ≤ x ∧ x < J 304 3) ∧ J 304 (62 + x) ≤ 0 ∧ v = J 304 (56 + x))) → NW sc d_L_law D (1156, [some (.inr (.inl (some 1000000))), some (.inr (.inl (some 0))), some (.inr (.inl (some 303))), some (.inr (.inl (some 314))), some (.inr (.inl (some 315))), some (.inl i), none, none, none], [.inl k], (J1, L1, W1), c1, s1) Qr Qx := fun k v J1 L1 W1 c1 s1 e1 e2 f1 fl hl w1 w2 sp => by
    have g1 : J1 304 = J 304 := f1 304 (by omega)
    have I1 : Inv (J1 304) B := by rw [g1]; exact I
    have fin : ∀ (y : Int) (J2 : Nat → Int → Int) k9, k9 = k → (∀ x, ¬ (310 ≤ x ∧ x ≤ 312) → J2 x = J1 x) → (k = 0 → y = v) → NW sc d_L_law D (1168, [some (.inr (.inl (some 1000000))), some (.inr (.inl (some 0))), some (.inr (.inl (some 303))), some (.inr (.inl (some 314))), some (.inr (.inl (some 315))), some (.inl i), some (.inl k), none, none], [.inl y], (nw_u J2 303 13 k9, L1, W1), c1, s1) Qr Qx := fun y J2 k9 e9 f2 hy => by
      subst e9
      exact fn _ v y J1 J2 L1 W1 c1 s1 e1 e2 f1 f2 fl hl hy w1 w2
    refine b_L_law_1156 hD ⟨by omega, by omega, ?_⟩
    rw [hx]
    refine b_X12_craterOf_0 (by decide) ?_
    rw [g1]
    (repeat' (first | refine And.intro ?_ ?_ | refine fun _ => ?_))
    all_goals first | omega | (exfalso; omega) | exact fin _ J1 _ (by omega) (fun _ _ => rfl) (by omega)
  refine b_L_law_1145 hD (by omega) (by omega) ⟨by omega, by omega, ?_⟩
  rw [hx]
  have kE : ∀ (k : Int) (J1 : Nat → Int → Int) n2, W.2.2.2.2 ≤ n2 → sp_wrk J J1 → (∀ v : Int, ¬ k = 0 ∧ ((k = 1 ∧ ¬ (0 ≤ x ∧ x < J 304 3)) ∨ (k = 2 ∧ (0 ≤ x ∧ x < J 304 3) ∧ 0 < J 304 (62 + x)) ∨ (k = 0 ∧ (0 ≤ x ∧ x < J 304 3) ∧ J 304 (62 + x) ≤ 0 ∧ v = J 304 (56 + x)))) → NW sc d_L_law D (1156, [some (.inr (.inl (some 1000000))), some (.inr (.inl (some 0))), some (.inr (.inl (some 303))), some (.inr (.inl (some 314))), some (.inr (.inl (some 315))), some (.inl i), none, none, none], [.inl k], (J1, L, nw_top W n2), c - 4, sl - 24) Qr Qx := fun k J1 n2 h2 f1 hk => md k 0 J1 L _ _ _ (by omega) (by omega) f1 (fun _ _ => rfl) (fun z => absurd z (hk 0).1) rfl (sp_wW.top h2) (hk 0).2
  have kV : ∀ (v : Int) (J1 : Nat → Int → Int), sp_wrk J J1 → (∀ k : Int, k = 0 → ((k = 1 ∧ ¬ (0 ≤ x ∧ x < J 304 3)) ∨ (k = 2 ∧ (0 ≤ x ∧ x < J 304 3) ∧ 0 < J 304 (62 + x)) ∨ (k = 0 ∧ (0 ≤ x ∧ x < J 304 3) ∧ J 304 (62 + x) ≤ 0 ∧ v = J 304 (56 + x)))) → NW sc d_L_law D (1156, [some (.inr (.inl (some 1000000))), some (.inr (.inl (some 0))), some (.inr (.inl (some 303))), some (.inr (.inl (some 314))), some (.inr (.inl (some 315))), some (.inl i), none, none, none], [.inl 0], (J1, nw_u L 314 0 v, W), c - 4, sl - 24) Qr Qx := fun v J1 f1 hk => md 0 v J1 _ W _ _ (by omega) (by omega) f1 (fun y a => nw_uP a) (fun _ => nw_uS) rfl sp_wW.refl (hk 0 rfl)
  refine b_L_craterOf2_0 (by decide) (by decide) (by decide) ?_
  refine b_X11_craterOf_0 (by decide) (by decide) (by decide) ?_
  (repeat' (first | refine And.intro ?_ ?_ | refine fun _ => ?_))
  all_goals first | omega | (exfalso; omega) | exact kE 1 J _ (by assumption) sp_wrk.refl (fun v => by omega) | exact kE 2 J _ (by assumption) sp_wrk.refl (fun v => by omega) | exact b_L_craterOf2_7 ⟨by decide, kV _ J sp_wrk.refl (fun k z => by omega)⟩
theorem case_targetOf {i : Int} (hi : 0 ≤ i ∧ i + 5 ≤ (sc.1 : Int) ∧ (sc.1 : Int) ≤ 2560) (h : sp_Wd J L W B) (hB : B + 2200 ≤ 4000000) (hD : 18 ≤ D) (hc : 28 ≤ c) (hs : 4006 ≤ sl) (hQ : ∀ J' L' W' c1 s1, c ≤ c1 + 28 → sl ≤ s1 + 4006 → sp_Wd J' L' W' (B + 2200) → NW sc d_L_law D (3300, [some (.inr (.inl (some 1000000))), some (.inr (.inl (some 0))), some (.inr (.inl (some 303))), some (.inr (.inl (some 314))), some (.inr (.inl (some 315))), some (.inl i), none, none, none], [], (J', L', W'), c1, s1) Qr Qx) : NW sc d_L_law D (1201, [some (.inr (.inl (some 1000000))), some (.inr (.inl (some 0))), some (.inr (.inl (some 303))), some (.inr (.inl (some 314))), some (.inr (.inl (some 315))), some (.inl i), none, none, none], [], (J, L, W), c, sl) Qr Qx := by
  have hA := h.1
  have R := sp_sh2.mp hA.1.1
  have I := hA.1.2.1
  have hbd := I.bd
  have hho := I.ho
  have hcr := I.cr
  have hch := I.ch
  have hfe := I.fe
  have hmo := I.mo
  have hnx := I.nx
  have c1 := R.cr
  have c2 := R.ch
  have c3 := R.fe
  have c4 := R.mo
  have c5 := R.ho
  obtain ⟨x, hx⟩ : ∃ x, nw_sc sc (i + 1) = x := ⟨_, rfl⟩
  have f1 := R.fer x
  have f2 := I.fer x
  have fn : ∀ (k v y : Int) (J1 J2 L1 : Nat → Int → Int) (W1 : nw_W) (c1 s1 : Nat), c ≤ c1 + 28 → sl ≤ s1 + 4006 → sp_wrk J J1 → (∀ x, ¬ (310 ≤ x ∧ x ≤ 312) → J2 x = J1 x) → (∀ y, ¬ y = 314 → L1 y = L y) → (k = 0 → L1 314 0 = v) → (k = 0 → y = v) → W1.2.1 = W.2.1 → sp_wW W W1 → NW sc d_L_law D (1224, [some (.inr (.inl (some 1000000))), some (.inr (.inl (some 0))), some (.inr (.inl (some 303))), some (.inr (.inl (some 314))), some (.inr (.inl (some 315))), some (.inl i), some (.inl k), none, none], [.inl y], (nw_u J2 303 13 k, L1, W1), c1, s1) Qr Qx := fun k v y J1 J2 L1 W1 c1 s1 e1 e2 f1 f2 fl hl hy w1 w2 => by
    have go : NW sc d_L_law D (3300, [some (.inr (.inl (some 1000000))), some (.inr (.inl (some 0))), some (.inr (.inl (some 303))), some (.inr (.inl (some 314))), some (.inr (.inl (some 315))), some (.inl i), none, none, none], [], (nw_u J2 303 13 k, L1, W1), c1, s1) Qr Qx := hQ _ _ _ _ _ e1 e2 (h.q ⟨by omega, hB⟩ (fun x a => by
      have a3 : ¬ x = 303 := by omega
      rw [nw_uP a3, f2 x (by omega), f1 x (by omega)]) (fun j a => by rw [nw_uI a, f2 303 (by omega), f1 303 (by omega)]) fl w1 w2)
    exact b_L_law_1224 hD ⟨fun _ => ⟨fun _ => go, fun z => ⟨fun _ => go, fun w => absurd (nw_cmp3_eq ((hl z).trans (hy z).symm)) w⟩⟩, fun w => absurd nw_uS w⟩
  have md : ∀ (k v : Int) (J1 L1 : Nat → Int → Int) (W1 : nw_W) (c1 s1 : Nat), c ≤ c1 + 28 → sl ≤ s1 + 4006 → sp_wrk J J1 → (∀ y, ¬ y = 314 → L1 y = L y) → (k = 0 → L1 314 0 = v) → W1.2.1 = W.2.1 → sp_wW W W1 → ((k = 1 ∧ ¬ (0 ≤ x ∧ x < J 304 3)) ∨ (k = 2 ∧ (0 ≤ x ∧ x < J 304 3) ∧ J 304 (62 + x) ≤ 0) ∨ (k = 0 ∧ (0 ≤ x ∧ x < J 304 3) ∧ 0 < J 304 (62 + x) ∧ v = J 304 (56 + x))) → NW sc d_L_law D (1212, [some (.inr (.inl (some 1000000))), some (.inr (.inl (some 0))), some (.inr (.inl (some 303))), some (.inr (.inl (some 314))), some (.inr (.inl (some 315))), some (.inl i), none, none, none], [.inl k], (J1, L1, W1), c1, s1) Qr Qx := fun k v J1 L1 W1 c1 s1 e1 e2 f1 fl hl w1 w2 sp => by
    have g1 : J1 304 = J 304 := f1 304 (by omega)
    have I1 : Inv (J1 304) B := by rw [g1]; exact I
    have fin : ∀ (y : Int) (J2 : Nat → Int → Int) k9, k9 = k → (∀ x, ¬ (310 ≤ x ∧ x ≤ 312) → J2 x = J1 x) → (k = 0 → y = v) → NW sc d_L_law D (1224, [some (.inr (.inl (some 1000000))), some (.inr (.inl (some 0))), some (.inr (.inl (some 303))), some (.inr (.inl (some 314))), some (.inr (.inl (some 315))), some (.inl i), some (.inl k), none, none], [.inl y], (nw_u J2 303 13 k9, L1, W1), c1, s1) Qr Qx := fun y J2 k9 e9 f2 hy => by
      subst e9
      exact fn _ v y J1 J2 L1 W1 c1 s1 e1 e2 f1 f2 fl hl hy w1 w2
    refine b_L_law_1212 hD ⟨by omega, by omega, ?_⟩
    rw [hx]
    refine b_X12_targetOf_0 (by decide) ?_
    rw [g1]
    (repeat' (first | refine And.intro ?_ ?_ | refine fun _ => ?_))
    all_goals first | omega | (exfalso; omega) | exact fin _ J1 _ (by omega) (fun _ _ => rfl) (by omega)
  refine b_L_law_1201 hD (by omega) (by omega) ⟨by omega, by omega, ?_⟩
  rw [hx]
  have kE : ∀ (k : Int) (J1 : Nat → Int → Int) n2, W.2.2.2.2 ≤ n2 → sp_wrk J J1 → (∀ v : Int, ¬ k = 0 ∧ ((k = 1 ∧ ¬ (0 ≤ x ∧ x < J 304 3)) ∨ (k = 2 ∧ (0 ≤ x ∧ x < J 304 3) ∧ J 304 (62 + x) ≤ 0) ∨ (k = 0 ∧ (0 ≤ x ∧ x < J 304 3) ∧ 0 < J 304 (62 + x) ∧ v = J 304 (56 + x)))) → NW sc d_L_law D (1212, [some (.inr (.inl (some 1000000))), some (.inr (.inl (some 0))), some (.inr (.inl (some 303))), some (.inr (.inl (some 314))), some (.inr (.inl (some 315))), some (.inl i), none, none, none], [.inl k], (J1, L, nw_top W n2), c - 4, sl - 24) Qr Qx := fun k J1 n2 h2 f1 hk => md k 0 J1 L _ _ _ (by omega) (by omega) f1 (fun _ _ => rfl) (fun z => absurd z (hk 0).1) rfl (sp_wW.top h2) (hk 0).2
  have kV : ∀ (v : Int) (J1 : Nat → Int → Int), sp_wrk J J1 → (∀ k : Int, k = 0 → ((k = 1 ∧ ¬ (0 ≤ x ∧ x < J 304 3)) ∨ (k = 2 ∧ (0 ≤ x ∧ x < J 304 3) ∧ J 304 (62 + x) ≤ 0) ∨ (k = 0 ∧ (0 ≤ x ∧ x < J 304 3) ∧ 0 < J 304 (62 + x) ∧ v = J 304 (56 + x)))) → NW sc d_L_law D (1212, [some (.inr (.inl (some 1000000))), some (.inr (.inl (some 0))), some (.inr (.inl (some 303))), some (.inr (.inl (some 314))), some (.inr (.inl (some 315))), some (.inl i), none, none, none], [.inl 0], (J1, nw_u L 314 0 v, W), c - 4, sl - 24) Qr Qx := fun v J1 f1 hk => md 0 v J1 _ W _ _ (by omega) (by omega) f1 (fun y a => nw_uP a) (fun _ => nw_uS) rfl sp_wW.refl (hk 0 rfl)
  refine b_L_targetOf2_0 (by decide) (by decide) (by decide) ?_
  refine b_X11_targetOf_0 (by decide) (by decide) (by decide) ?_
  (repeat' (first | refine And.intro ?_ ?_ | refine fun _ => ?_))
  all_goals first | omega | (exfalso; omega) | exact kE 1 J _ (by assumption) sp_wrk.refl (fun v => by omega) | exact kE 2 J _ (by assumption) sp_wrk.refl (fun v => by omega) | exact b_L_targetOf2_7 ⟨by decide, kV _ J sp_wrk.refl (fun k z => by omega)⟩
theorem case_hoursLeft {i : Int} (hi : 0 ≤ i ∧ i + 5 ≤ (sc.1 : Int) ∧ (sc.1 : Int) ≤ 2560) (h : sp_Wd J L W B) (hB : B + 2200 ≤ 4000000) (hD : 18 ≤ D) (hc : 28 ≤ c) (hs : 4006 ≤ sl) (hQ : ∀ J' L' W' c1 s1, c ≤ c1 + 28 → sl ≤ s1 + 4006 → sp_Wd J' L' W' (B + 2200) → NW sc d_L_law D (3300, [some (.inr (.inl (some 1000000))), some (.inr (.inl (some 0))), some (.inr (.inl (some 303))), some (.inr (.inl (some 314))), some (.inr (.inl (some 315))), some (.inl i), none, none, none], [], (J', L', W'), c1, s1) Qr Qx) : NW sc d_L_law D (1257, [some (.inr (.inl (some 1000000))), some (.inr (.inl (some 0))), some (.inr (.inl (some 303))), some (.inr (.inl (some 314))), some (.inr (.inl (some 315))), some (.inl i), none, none, none], [], (J, L, W), c, sl) Qr Qx := by
  have hA := h.1
  have R := sp_sh2.mp hA.1.1
  have I := hA.1.2.1
  have hbd := I.bd
  have hho := I.ho
  have hcr := I.cr
  have hch := I.ch
  have hfe := I.fe
  have hmo := I.mo
  have hnx := I.nx
  have c1 := R.cr
  have c2 := R.ch
  have c3 := R.fe
  have c4 := R.mo
  have c5 := R.ho
  obtain ⟨x, hx⟩ : ∃ x, nw_sc sc (i + 1) = x := ⟨_, rfl⟩
  have f1 := R.fer x
  have f2 := I.fer x
  have fn : ∀ (k v y : Int) (J1 J2 L1 : Nat → Int → Int) (W1 : nw_W) (c1 s1 : Nat), c ≤ c1 + 28 → sl ≤ s1 + 4006 → sp_wrk J J1 → (∀ x, ¬ (310 ≤ x ∧ x ≤ 312) → J2 x = J1 x) → (∀ y, ¬ y = 314 → L1 y = L y) → (k = 0 → L1 314 0 = v) → (k = 0 → y = v) → W1.2.1 = W.2.1 → sp_wW W W1 → NW sc d_L_law D (1280, [some (.inr (.inl (some 1000000))), some (.inr (.inl (some 0))), some (.inr (.inl (some 303))), some (.inr (.inl (some 314))), some (.inr (.inl (some 315))), some (.inl i), some (.inl k), none, none], [.inl y], (nw_u J2 303 13 k, L1, W1), c1, s1) Qr Qx := fun k v y J1 J2 L1 W1 c1 s1 e1 e2 f1 f2 fl hl hy w1 w2 => by
    have go : NW sc d_L_law D (3300, [some (.inr (.inl (some 1000000))), some (.inr (.inl (some 0))), some (.inr (.inl (some 303))), some (.inr (.inl (some 314))), some (.inr (.inl (some 315))), some (.inl i), none, none, none], [], (nw_u J2 303 13 k, L1, W1), c1, s1) Qr Qx := hQ _ _ _ _ _ e1 e2 (h.q ⟨by omega, hB⟩ (fun x a => by
      have a3 : ¬ x = 303 := by omega
      rw [nw_uP a3, f2 x (by omega), f1 x (by omega)]) (fun j a => by rw [nw_uI a, f2 303 (by omega), f1 303 (by omega)]) fl w1 w2)
    exact b_L_law_1280 hD ⟨fun _ => ⟨fun _ => go, fun z => ⟨fun _ => go, fun w => absurd (nw_cmp3_eq ((hl z).trans (hy z).symm)) w⟩⟩, fun w => absurd nw_uS w⟩
  have md : ∀ (k v : Int) (J1 L1 : Nat → Int → Int) (W1 : nw_W) (c1 s1 : Nat), c ≤ c1 + 28 → sl ≤ s1 + 4006 → sp_wrk J J1 → (∀ y, ¬ y = 314 → L1 y = L y) → (k = 0 → L1 314 0 = v) → W1.2.1 = W.2.1 → sp_wW W W1 → ((k = 1 ∧ ¬ (0 ≤ x ∧ x < J 304 3)) ∨ (k = 0 ∧ (0 ≤ x ∧ x < J 304 3) ∧ ((0 < J 304 (62 + x) ∧ v = J 304 (62 + x) - J 304 0) ∨ (J 304 (62 + x) ≤ 0 ∧ v = 0)))) → NW sc d_L_law D (1268, [some (.inr (.inl (some 1000000))), some (.inr (.inl (some 0))), some (.inr (.inl (some 303))), some (.inr (.inl (some 314))), some (.inr (.inl (some 315))), some (.inl i), none, none, none], [.inl k], (J1, L1, W1), c1, s1) Qr Qx := fun k v J1 L1 W1 c1 s1 e1 e2 f1 fl hl w1 w2 sp => by
    have g1 : J1 304 = J 304 := f1 304 (by omega)
    have I1 : Inv (J1 304) B := by rw [g1]; exact I
    have fin : ∀ (y : Int) (J2 : Nat → Int → Int) k9, k9 = k → (∀ x, ¬ (310 ≤ x ∧ x ≤ 312) → J2 x = J1 x) → (k = 0 → y = v) → NW sc d_L_law D (1280, [some (.inr (.inl (some 1000000))), some (.inr (.inl (some 0))), some (.inr (.inl (some 303))), some (.inr (.inl (some 314))), some (.inr (.inl (some 315))), some (.inl i), some (.inl k), none, none], [.inl y], (nw_u J2 303 13 k9, L1, W1), c1, s1) Qr Qx := fun y J2 k9 e9 f2 hy => by
      subst e9
      exact fn _ v y J1 J2 L1 W1 c1 s1 e1 e2 f1 f2 fl hl hy w1 w2
    refine b_L_law_1268 hD ⟨by omega, by omega, ?_⟩
    rw [hx]
    refine b_X12_hoursLeft_0 (by decide) ?_
    rw [g1]
    (repeat' (first | refine And.intro ?_ ?_ | refine fun _ => ?_))
    all_goals first | omega | (exfalso; omega) | exact fin _ J1 _ (by omega) (fun _ _ => rfl) (by omega)
  refine b_L_law_1257 hD (by omega) (by omega) ⟨by omega, by omega, ?_⟩
  rw [hx]
  have kE : ∀ (k : Int) (J1 : Nat → Int → Int) n2, W.2.2.2.2 ≤ n2 → sp_wrk J J1 → (∀ v : Int, ¬ k = 0 ∧ ((k = 1 ∧ ¬ (0 ≤ x ∧ x < J 304 3)) ∨ (k = 0 ∧ (0 ≤ x ∧ x < J 304 3) ∧ ((0 < J 304 (62 + x) ∧ v = J 304 (62 + x) - J 304 0) ∨ (J 304 (62 + x) ≤ 0 ∧ v = 0))))) → NW sc d_L_law D (1268, [some (.inr (.inl (some 1000000))), some (.inr (.inl (some 0))), some (.inr (.inl (some 303))), some (.inr (.inl (some 314))), some (.inr (.inl (some 315))), some (.inl i), none, none, none], [.inl k], (J1, L, nw_top W n2), c - 4, sl - 24) Qr Qx := fun k J1 n2 h2 f1 hk => md k 0 J1 L _ _ _ (by omega) (by omega) f1 (fun _ _ => rfl) (fun z => absurd z (hk 0).1) rfl (sp_wW.top h2) (hk 0).2
  have kV : ∀ (v : Int) (J1 : Nat → Int → Int), sp_wrk J J1 → (∀ k : Int, k = 0 → ((k = 1 ∧ ¬ (0 ≤ x ∧ x < J 304 3)) ∨ (k = 0 ∧ (0 ≤ x ∧ x < J 304 3) ∧ ((0 < J 304 (62 + x) ∧ v = J 304 (62 + x) - J 304 0) ∨ (J 304 (62 + x) ≤ 0 ∧ v = 0))))) → NW sc d_L_law D (1268, [some (.inr (.inl (some 1000000))), some (.inr (.inl (some 0))), some (.inr (.inl (some 303))), some (.inr (.inl (some 314))), some (.inr (.inl (some 315))), some (.inl i), none, none, none], [.inl 0], (J1, nw_u L 314 0 v, W), c - 4, sl - 24) Qr Qx := fun v J1 f1 hk => md 0 v J1 _ W _ _ (by omega) (by omega) f1 (fun y a => nw_uP a) (fun _ => nw_uS) rfl sp_wW.refl (hk 0 rfl)
  refine b_L_hoursLeft2_0 (by decide) (by decide) (by decide) ?_
  refine b_X11_hoursLeft_0 (by decide) (by decide) (by decide) ?_
  (repeat' (first | refine And.intro ?_ ?_ | refine fun _ => ?_))
  all_goals first | omega | (exfalso; omega) | exact kE 1 J _ (by assumption) sp_wrk.refl (fun v => by omega) | exact b_L_hoursLeft2_7 ⟨by decide, kV _ J sp_wrk.refl (fun k z => by omega)⟩
theorem case_moonAt {i : Int} (hi : 0 ≤ i ∧ i + 5 ≤ (sc.1 : Int) ∧ (sc.1 : Int) ≤ 2560) (h : sp_Wd J L W B) (hB : B + 2200 ≤ 4000000) (hD : 18 ≤ D) (hc : 28 ≤ c) (hs : 4006 ≤ sl) (hQ : ∀ J' L' W' c1 s1, c ≤ c1 + 28 → sl ≤ s1 + 4006 → sp_Wd J' L' W' (B + 2200) → NW sc d_L_law D (3300, [some (.inr (.inl (some 1000000))), some (.inr (.inl (some 0))), some (.inr (.inl (some 303))), some (.inr (.inl (some 314))), some (.inr (.inl (some 315))), some (.inl i), none, none, none], [], (J', L', W'), c1, s1) Qr Qx) : NW sc d_L_law D (2021, [some (.inr (.inl (some 1000000))), some (.inr (.inl (some 0))), some (.inr (.inl (some 303))), some (.inr (.inl (some 314))), some (.inr (.inl (some 315))), some (.inl i), none, none, none], [], (J, L, W), c, sl) Qr Qx := by
  have hA := h.1
  have R := sp_sh2.mp hA.1.1
  have I := hA.1.2.1
  have hbd := I.bd
  have hho := I.ho
  have hcr := I.cr
  have hch := I.ch
  have hfe := I.fe
  have hmo := I.mo
  have hnx := I.nx
  have c1 := R.cr
  have c2 := R.ch
  have c3 := R.fe
  have c4 := R.mo
  have c5 := R.ho
  obtain ⟨x, hx⟩ : ∃ x, nw_sc sc (i + 1) = x := ⟨_, rfl⟩
  have f1 := R.moo x
  have fn : ∀ (k v y : Int) (J1 J2 L1 : Nat → Int → Int) (W1 : nw_W) (c1 s1 : Nat), c ≤ c1 + 28 → sl ≤ s1 + 4006 → sp_wrk J J1 → (∀ x, ¬ (310 ≤ x ∧ x ≤ 312) → J2 x = J1 x) → (∀ y, ¬ y = 314 → L1 y = L y) → (k = 0 → L1 314 0 = v) → (k = 0 → y = v) → W1.2.1 = W.2.1 → sp_wW W W1 → NW sc d_L_law D (2044, [some (.inr (.inl (some 1000000))), some (.inr (.inl (some 0))), some (.inr (.inl (some 303))), some (.inr (.inl (some 314))), some (.inr (.inl (some 315))), some (.inl i), some (.inl k), none, none], [.inl y], (nw_u J2 303 13 k, L1, W1), c1, s1) Qr Qx := fun k v y J1 J2 L1 W1 c1 s1 e1 e2 f1 f2 fl hl hy w1 w2 => by
    have go : NW sc d_L_law D (3300, [some (.inr (.inl (some 1000000))), some (.inr (.inl (some 0))), some (.inr (.inl (some 303))), some (.inr (.inl (some 314))), some (.inr (.inl (some 315))), some (.inl i), none, none, none], [], (nw_u J2 303 13 k, L1, W1), c1, s1) Qr Qx := hQ _ _ _ _ _ e1 e2 (h.q ⟨by omega, hB⟩ (fun x a => by
      have a3 : ¬ x = 303 := by omega
      rw [nw_uP a3, f2 x (by omega), f1 x (by omega)]) (fun j a => by rw [nw_uI a, f2 303 (by omega), f1 303 (by omega)]) fl w1 w2)
    exact b_L_law_2044 hD ⟨fun _ => ⟨fun _ => go, fun z => ⟨fun _ => go, fun w => absurd (nw_cmp3_eq ((hl z).trans (hy z).symm)) w⟩⟩, fun w => absurd nw_uS w⟩
  have md : ∀ (k v : Int) (J1 L1 : Nat → Int → Int) (W1 : nw_W) (c1 s1 : Nat), c ≤ c1 + 28 → sl ≤ s1 + 4006 → sp_wrk J J1 → (∀ y, ¬ y = 314 → L1 y = L y) → (k = 0 → L1 314 0 = v) → W1.2.1 = W.2.1 → sp_wW W W1 → ((k = 1 ∧ ¬ (0 ≤ x ∧ x < J 304 4)) ∨ (k = 0 ∧ (0 ≤ x ∧ x < J 304 4) ∧ v = J 304 (71 + x))) → NW sc d_L_law D (2032, [some (.inr (.inl (some 1000000))), some (.inr (.inl (some 0))), some (.inr (.inl (some 303))), some (.inr (.inl (some 314))), some (.inr (.inl (some 315))), some (.inl i), none, none, none], [.inl k], (J1, L1, W1), c1, s1) Qr Qx := fun k v J1 L1 W1 c1 s1 e1 e2 f1 fl hl w1 w2 sp => by
    have g1 : J1 304 = J 304 := f1 304 (by omega)
    have I1 : Inv (J1 304) B := by rw [g1]; exact I
    have fin : ∀ (y : Int) (J2 : Nat → Int → Int) k9, k9 = k → (∀ x, ¬ (310 ≤ x ∧ x ≤ 312) → J2 x = J1 x) → (k = 0 → y = v) → NW sc d_L_law D (2044, [some (.inr (.inl (some 1000000))), some (.inr (.inl (some 0))), some (.inr (.inl (some 303))), some (.inr (.inl (some 314))), some (.inr (.inl (some 315))), some (.inl i), some (.inl k), none, none], [.inl y], (nw_u J2 303 13 k9, L1, W1), c1, s1) Qr Qx := fun y J2 k9 e9 f2 hy => by
      subst e9
      exact fn _ v y J1 J2 L1 W1 c1 s1 e1 e2 f1 f2 fl hl hy w1 w2
    refine b_L_law_2032 hD ⟨by omega, by omega, ?_⟩
    rw [hx]
    refine b_X12_moonAt_0 (by decide) ?_
    rw [g1]
    (repeat' (first | refine And.intro ?_ ?_ | refine fun _ => ?_))
    all_goals first | omega | (exfalso; omega) | exact fin _ J1 _ (by omega) (fun _ _ => rfl) (by omega)
  refine b_L_law_2021 hD (by omega) (by omega) ⟨by omega, by omega, ?_⟩
  rw [hx]
  have kE : ∀ (k : Int) (J1 : Nat → Int → Int) n2, W.2.2.2.2 ≤ n2 → sp_wrk J J1 → (∀ v : Int, ¬ k = 0 ∧ ((k = 1 ∧ ¬ (0 ≤ x ∧ x < J 304 4)) ∨ (k = 0 ∧ (0 ≤ x ∧ x < J 304 4) ∧ v = J 304 (71 + x)))) → NW sc d_L_law D (2032, [some (.inr (.inl (some 1000000))), some (.inr (.inl (some 0))), some (.inr (.inl (some 303))), some (.inr (.inl (some 314))), some (.inr (.inl (some 315))), some (.inl i), none, none, none], [.inl k], (J1, L, nw_top W n2), c - 4, sl - 24) Qr Qx := fun k J1 n2 h2 f1 hk => md k 0 J1 L _ _ _ (by omega) (by omega) f1 (fun _ _ => rfl) (fun z => absurd z (hk 0).1) rfl (sp_wW.top h2) (hk 0).2
  have kV : ∀ (v : Int) (J1 : Nat → Int → Int), sp_wrk J J1 → (∀ k : Int, k = 0 → ((k = 1 ∧ ¬ (0 ≤ x ∧ x < J 304 4)) ∨ (k = 0 ∧ (0 ≤ x ∧ x < J 304 4) ∧ v = J 304 (71 + x)))) → NW sc d_L_law D (2032, [some (.inr (.inl (some 1000000))), some (.inr (.inl (some 0))), some (.inr (.inl (some 303))), some (.inr (.inl (some 314))), some (.inr (.inl (some 315))), some (.inl i), none, none, none], [.inl 0], (J1, nw_u L 314 0 v, W), c - 4, sl - 24) Qr Qx := fun v J1 f1 hk => md 0 v J1 _ W _ _ (by omega) (by omega) f1 (fun y a => nw_uP a) (fun _ => nw_uS) rfl sp_wW.refl (hk 0 rfl)
  refine b_L_moonAt2_0 (by decide) (by decide) (by decide) ?_
  refine b_X11_moonAt_0 (by decide) (by decide) ?_
  (repeat' (first | refine And.intro ?_ ?_ | refine fun _ => ?_))
  all_goals first | omega | (exfalso; omega) | exact kE 1 J _ (by assumption) sp_wrk.refl (fun v => by omega) | exact b_L_moonAt2_7 ⟨by decide, kV _ J sp_wrk.refl (fun k z => by omega)⟩
theorem case_craterCount {i : Int} (hi : 0 ≤ i ∧ i + 5 ≤ (sc.1 : Int) ∧ (sc.1 : Int) ≤ 2560) (h : sp_Wd J L W B) (hB : B + 2200 ≤ 4000000) (hD : 18 ≤ D) (hc : 28 ≤ c) (hs : 4006 ≤ sl) (hQ : ∀ J' L' W' c1 s1, c ≤ c1 + 28 → sl ≤ s1 + 4006 → sp_Wd J' L' W' (B + 2200) → NW sc d_L_law D (3300, [some (.inr (.inl (some 1000000))), some (.inr (.inl (some 0))), some (.inr (.inl (some 303))), some (.inr (.inl (some 314))), some (.inr (.inl (some 315))), some (.inl i), none, none, none], [], (J', L', W'), c1, s1) Qr Qx) : NW sc d_L_law D (504, [some (.inr (.inl (some 1000000))), some (.inr (.inl (some 0))), some (.inr (.inl (some 303))), some (.inr (.inl (some 314))), some (.inr (.inl (some 315))), some (.inl i), none, none, none], [], (J, L, W), c, sl) Qr Qx := by
  have hA := h.1
  have R := sp_sh2.mp hA.1.1
  have I := hA.1.2.1
  have hbd := I.bd
  have hho := I.ho
  have hcr := I.cr
  have hch := I.ch
  have hfe := I.fe
  have hmo := I.mo
  have hnx := I.nx
  have c1 := R.cr
  have c2 := R.ch
  have c3 := R.fe
  have c4 := R.mo
  have c5 := R.ho
  refine b_L_law_504 hD (b_X11_craterCount_0 (b_L_law_508 hD (b_X12_craterCount_0 (by decide) (b_L_law_512 ⟨fun _ => ?_, fun w => absurd (by omega) w⟩))))
  exact hQ _ _ _ _ _ (by omega) (by omega) (h.q ⟨by omega, hB⟩ (fun x a => by
    have a3 : ¬ x = 303 := by omega
    exact nw_uP a3) (fun j a => nw_uI a) (fun _ _ => rfl) rfl sp_wW.refl)
theorem case_channelCount {i : Int} (hi : 0 ≤ i ∧ i + 5 ≤ (sc.1 : Int) ∧ (sc.1 : Int) ≤ 2560) (h : sp_Wd J L W B) (hB : B + 2200 ≤ 4000000) (hD : 18 ≤ D) (hc : 28 ≤ c) (hs : 4006 ≤ sl) (hQ : ∀ J' L' W' c1 s1, c ≤ c1 + 28 → sl ≤ s1 + 4006 → sp_Wd J' L' W' (B + 2200) → NW sc d_L_law D (3300, [some (.inr (.inl (some 1000000))), some (.inr (.inl (some 0))), some (.inr (.inl (some 303))), some (.inr (.inl (some 314))), some (.inr (.inl (some 315))), some (.inl i), none, none, none], [], (J', L', W'), c1, s1) Qr Qx) : NW sc d_L_law D (517, [some (.inr (.inl (some 1000000))), some (.inr (.inl (some 0))), some (.inr (.inl (some 303))), some (.inr (.inl (some 314))), some (.inr (.inl (some 315))), some (.inl i), none, none, none], [], (J, L, W), c, sl) Qr Qx := by
  have hA := h.1
  have R := sp_sh2.mp hA.1.1
  have I := hA.1.2.1
  have hbd := I.bd
  have hho := I.ho
  have hcr := I.cr
  have hch := I.ch
  have hfe := I.fe
  have hmo := I.mo
  have hnx := I.nx
  have c1 := R.cr
  have c2 := R.ch
  have c3 := R.fe
  have c4 := R.mo
  have c5 := R.ho
  refine b_L_law_517 hD (b_X11_channelCount_0 (b_L_law_521 hD (b_X12_channelCount_0 (by decide) (b_L_law_525 ⟨fun _ => ?_, fun w => absurd (by omega) w⟩))))
  exact hQ _ _ _ _ _ (by omega) (by omega) (h.q ⟨by omega, hB⟩ (fun x a => by
    have a3 : ¬ x = 303 := by omega
    exact nw_uP a3) (fun j a => nw_uI a) (fun _ _ => rfl) rfl sp_wW.refl)
theorem case_moonCount {i : Int} (hi : 0 ≤ i ∧ i + 5 ≤ (sc.1 : Int) ∧ (sc.1 : Int) ≤ 2560) (h : sp_Wd J L W B) (hB : B + 2200 ≤ 4000000) (hD : 18 ≤ D) (hc : 28 ≤ c) (hs : 4006 ≤ sl) (hQ : ∀ J' L' W' c1 s1, c ≤ c1 + 28 → sl ≤ s1 + 4006 → sp_Wd J' L' W' (B + 2200) → NW sc d_L_law D (3300, [some (.inr (.inl (some 1000000))), some (.inr (.inl (some 0))), some (.inr (.inl (some 303))), some (.inr (.inl (some 314))), some (.inr (.inl (some 315))), some (.inl i), none, none, none], [], (J', L', W'), c1, s1) Qr Qx) : NW sc d_L_law D (2008, [some (.inr (.inl (some 1000000))), some (.inr (.inl (some 0))), some (.inr (.inl (some 303))), some (.inr (.inl (some 314))), some (.inr (.inl (some 315))), some (.inl i), none, none, none], [], (J, L, W), c, sl) Qr Qx := by
  have hA := h.1
  have R := sp_sh2.mp hA.1.1
  have I := hA.1.2.1
  have hbd := I.bd
  have hho := I.ho
  have hcr := I.cr
  have hch := I.ch
  have hfe := I.fe
  have hmo := I.mo
  have hnx := I.nx
  have c1 := R.cr
  have c2 := R.ch
  have c3 := R.fe
  have c4 := R.mo
  have c5 := R.ho
  refine b_L_law_2008 hD (b_X11_moonCount_0 (b_L_law_2012 hD (b_X12_moonCount_0 (by decide) (b_L_law_2016 ⟨fun _ => ?_, fun w => absurd (by omega) w⟩))))
  exact hQ _ _ _ _ _ (by omega) (by omega) (h.q ⟨by omega, hB⟩ (fun x a => by
    have a3 : ¬ x = 303 := by omega
    exact nw_uP a3) (fun j a => nw_uI a) (fun _ _ => rfl) rfl sp_wW.refl)
theorem case_hour {i : Int} (hi : 0 ≤ i ∧ i + 5 ≤ (sc.1 : Int) ∧ (sc.1 : Int) ≤ 2560) (h : sp_Wd J L W B) (hB : B + 2200 ≤ 4000000) (hD : 18 ≤ D) (hc : 28 ≤ c) (hs : 4006 ≤ sl) (hQ : ∀ J' L' W' c1 s1, c ≤ c1 + 28 → sl ≤ s1 + 4006 → sp_Wd J' L' W' (B + 2200) → NW sc d_L_law D (3300, [some (.inr (.inl (some 1000000))), some (.inr (.inl (some 0))), some (.inr (.inl (some 303))), some (.inr (.inl (some 314))), some (.inr (.inl (some 315))), some (.inl i), none, none, none], [], (J', L', W'), c1, s1) Qr Qx) : NW sc d_L_law D (2463, [some (.inr (.inl (some 1000000))), some (.inr (.inl (some 0))), some (.inr (.inl (some 303))), some (.inr (.inl (some 314))), some (.inr (.inl (some 315))), some (.inl i), none, none, none], [], (J, L, W), c, sl) Qr Qx := by
  have hA := h.1
  have R := sp_sh2.mp hA.1.1
  have I := hA.1.2.1
  have hbd := I.bd
  have hho := I.ho
  have hcr := I.cr
  have hch := I.ch
  have hfe := I.fe
  have hmo := I.mo
  have hnx := I.nx
  have c1 := R.cr
  have c2 := R.ch
  have c3 := R.fe
  have c4 := R.mo
  have c5 := R.ho
  refine b_L_law_2463 hD (b_X11_hour_0 (b_L_law_2467 hD (b_X12_hour_0 (by decide) (b_L_law_2471 ⟨fun _ => ?_, fun w => absurd (by omega) w⟩))))
  exact hQ _ _ _ _ _ (by omega) (by omega) (h.q ⟨by omega, hB⟩ (fun x a => by
    have a3 : ¬ x = 303 := by omega
    exact nw_uP a3) (fun j a => nw_uI a) (fun _ _ => rfl) rfl sp_wW.refl)
theorem case_passageCount {i : Int} (hi : 0 ≤ i ∧ i + 5 ≤ (sc.1 : Int) ∧ (sc.1 : Int) ≤ 2560) (h : sp_Wd J L W B) (hB : B + 2200 ≤ 4000000) (hD : 18 ≤ D) (hc : 28 ≤ c) (hs : 4006 ≤ sl) (hQ : ∀ J' L' W' c1 s1, c ≤ c1 + 28 → sl ≤ s1 + 4006 → sp_Wd J' L' W' (B + 2200) → NW sc d_L_law D (3300, [some (.inr (.inl (some 1000000))), some (.inr (.inl (some 0))), some (.inr (.inl (some 303))), some (.inr (.inl (some 314))), some (.inr (.inl (some 315))), some (.inl i), none, none, none], [], (J', L', W'), c1, s1) Qr Qx) : NW sc d_L_law D (2520, [some (.inr (.inl (some 1000000))), some (.inr (.inl (some 0))), some (.inr (.inl (some 303))), some (.inr (.inl (some 314))), some (.inr (.inl (some 315))), some (.inl i), none, none, none], [], (J, L, W), c, sl) Qr Qx := by
  have hA := h.1
  have R := sp_sh2.mp hA.1.1
  have I := hA.1.2.1
  have hbd := I.bd
  have hho := I.ho
  have hcr := I.cr
  have hch := I.ch
  have hfe := I.fe
  have hmo := I.mo
  have hnx := I.nx
  have c1 := R.cr
  have c2 := R.ch
  have c3 := R.fe
  have c4 := R.mo
  have c5 := R.ho
  have c6 := R.pa
  refine b_L_law_2520 hD (b_X11_passageCount_0 (b_L_law_2524 hD (b_X12_passageCount_0 (by decide) (b_L_law_2528 ⟨fun _ => ?_, fun w => absurd (by omega) w⟩))))
  exact hQ _ _ _ _ _ (by omega) (by omega) (h.q ⟨by omega, hB⟩ (fun x a => by
    have a3 : ¬ x = 303 := by omega
    exact nw_uP a3) (fun j a => nw_uI a) (fun _ _ => rfl) rfl sp_wW.refl)
theorem case_strandingCount {i : Int} (hi : 0 ≤ i ∧ i + 5 ≤ (sc.1 : Int) ∧ (sc.1 : Int) ≤ 2560) (h : sp_Wd J L W B) (hB : B + 2200 ≤ 4000000) (hD : 18 ≤ D) (hc : 28 ≤ c) (hs : 4006 ≤ sl) (hQ : ∀ J' L' W' c1 s1, c ≤ c1 + 28 → sl ≤ s1 + 4006 → sp_Wd J' L' W' (B + 2200) → NW sc d_L_law D (3300, [some (.inr (.inl (some 1000000))), some (.inr (.inl (some 0))), some (.inr (.inl (some 303))), some (.inr (.inl (some 314))), some (.inr (.inl (some 315))), some (.inl i), none, none, none], [], (J', L', W'), c1, s1) Qr Qx) : NW sc d_L_law D (2701, [some (.inr (.inl (some 1000000))), some (.inr (.inl (some 0))), some (.inr (.inl (some 303))), some (.inr (.inl (some 314))), some (.inr (.inl (some 315))), some (.inl i), none, none, none], [], (J, L, W), c, sl) Qr Qx := by
  have hA := h.1
  have R := sp_sh2.mp hA.1.1
  have I := hA.1.2.1
  have hbd := I.bd
  have hho := I.ho
  have hcr := I.cr
  have hch := I.ch
  have hfe := I.fe
  have hmo := I.mo
  have hnx := I.nx
  have c1 := R.cr
  have c2 := R.ch
  have c3 := R.fe
  have c4 := R.mo
  have c5 := R.ho
  have c6 := R.sn
  refine b_L_law_2701 hD (b_X11_strandingCount_0 (b_L_law_2705 hD (b_X12_strandingCount_0 (by decide) (b_L_law_2709 ⟨fun _ => ?_, fun w => absurd (by omega) w⟩))))
  exact hQ _ _ _ _ _ (by omega) (by omega) (h.q ⟨by omega, hB⟩ (fun x a => by
    have a3 : ¬ x = 303 := by omega
    exact nw_uP a3) (fun j a => nw_uI a) (fun _ _ => rfl) rfl sp_wW.refl)
theorem case_fareTotal {i : Int} (hi : 0 ≤ i ∧ i + 5 ≤ (sc.1 : Int) ∧ (sc.1 : Int) ≤ 2560) (h : sp_Wd J L W B) (hB : B + 2200 ≤ 4000000) (hD : 18 ≤ D) (hc : 28 ≤ c) (hs : 4006 ≤ sl) (hQ : ∀ J' L' W' c1 s1, c ≤ c1 + 28 → sl ≤ s1 + 4006 → sp_Wd J' L' W' (B + 2200) → NW sc d_L_law D (3300, [some (.inr (.inl (some 1000000))), some (.inr (.inl (some 0))), some (.inr (.inl (some 303))), some (.inr (.inl (some 314))), some (.inr (.inl (some 315))), some (.inl i), none, none, none], [], (J', L', W'), c1, s1) Qr Qx) : NW sc d_L_law D (2728, [some (.inr (.inl (some 1000000))), some (.inr (.inl (some 0))), some (.inr (.inl (some 303))), some (.inr (.inl (some 314))), some (.inr (.inl (some 315))), some (.inl i), none, none, none], [], (J, L, W), c, sl) Qr Qx := by
  have hA := h.1
  have R := sp_sh2.mp hA.1.1
  have I := hA.1.2.1
  have hbd := I.bd
  have hho := I.ho
  have hcr := I.cr
  have hch := I.ch
  have hfe := I.fe
  have hmo := I.mo
  have hnx := I.nx
  have c1 := R.cr
  have c2 := R.ch
  have c3 := R.fe
  have c4 := R.mo
  have c5 := R.ho
  have c6 := R.fa
  refine b_L_law_2728 hD (b_X11_fareTotal_0 (b_L_law_2732 hD (b_X12_fareTotal_0 (by decide) (b_L_law_2736 ⟨fun _ => ?_, fun w => absurd (by omega) w⟩))))
  exact hQ _ _ _ _ _ (by omega) (by omega) (h.q ⟨by omega, hB⟩ (fun x a => by
    have a3 : ¬ x = 303 := by omega
    exact nw_uP a3) (fun j a => nw_uI a) (fun _ _ => rfl) rfl sp_wW.refl)
end
