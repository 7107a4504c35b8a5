/-! the law: other questions -/
section
variable {sc : Nat × (Nat → Int32)} {D : Nat} {J L : Nat → Int → Int} {W : nw_W} {c sl : Nat} {Qr : nw_QR} {Qx : nw_QX} {g : Int → Int} {B : Int}
theorem sp_nt_mono {g : Int → Int} {t t' : Int} (h : t ≤ t') : sp_nt g t' ≤ sp_nt g t :=
  sp_sum_le' (fun v _ _ => sp_b_mono (fun q u u0 u1 w => q u u0 u1 (sp_cn_mono (fun e _ _ (z : g (36 + e) ≤ t) => (show g (36 + e) ≤ t' by omega)) w)))
theorem sp_nsum_nn {g : Int → Int} : 0 ≤ sp_nsum g := by
  have h := sp_sum_le' (f := fun _ => (0 : Int)) (h := fun t => sp_nt g t - sp_nt g 9) (n := 10) (fun i i0 i1 => by
    have := sp_nt_mono (g := g) (t := i) (t' := 9) (by omega)
    show (0 : Int) ≤ sp_nt g i - sp_nt g 9
    omega)
  exact h
theorem case_cheapestNet {i : Int} (hi : 0 ≤ i ∧ i + 5 ≤ (sc.1 : Int) ∧ (sc.1 : Int) ≤ 2560) (h : sp_Wd J L W B) (hB : B + 2200 ≤ 4000000) (hD : 18 ≤ D) (hc : 28 ≤ c) (hs : 4006 ≤ sl) (hQ : ∀ J' L' W' c1 s1, c ≤ c1 + 28 → sl ≤ s1 + 4006 → sp_Wd J' L' W' (B + 2200) → NW sc d_L_law D (3300, [some (.inr (.inl (some 1000000))), some (.inr (.inl (some 0))), some (.inr (.inl (some 303))), some (.inr (.inl (some 314))), some (.inr (.inl (some 315))), some (.inl i), none, none, none], [], (J', L', W'), c1, s1) Qr Qx) : NW sc d_L_law D (846, [some (.inr (.inl (some 1000000))), some (.inr (.inl (some 0))), some (.inr (.inl (some 303))), some (.inr (.inl (some 314))), some (.inr (.inl (some 315))), some (.inl i), none, none, none], [], (J, L, W), c, sl) Qr Qx := by
  have hA := h.1
  have R := sp_sh2.mp hA.1.1
  have I := hA.1.2.1
  have hbd := I.bd
  have hho := I.ho
  have hcr := I.cr
  have hch := I.ch
  have hfe := I.fe
  have hmo := I.mo
  have hnx := I.nx
  have c1 := R.cr
  have c2 := R.ch
  have c3 := R.fe
  have c4 := R.mo
  have c5 := R.ho
  have nn := sp_nsum_nn (g := J 304)
  have fn : ∀ (k v y : Int) (J1 J2 L1 : Nat → Int → Int) (W1 : nw_W) (c1 s1 : Nat), c ≤ c1 + 28 → sl ≤ s1 + 4006 → sp_wrk J J1 → (∀ x, ¬ (310 ≤ x ∧ x ≤ 312) → J2 x = J1 x) → (∀ y, ¬ y = 314 → L1 y = L y) → (k = 0 → L1 314 0 = v) → (k = 0 → y = v) → W1.2.1 = W.2.1 → sp_wW W W1 → NW sc d_L_law D (857, [some (.inr (.inl (some 1000000))), some (.inr (.inl (some 0))), some (.inr (.inl (some 303))), some (.inr (.inl (some 314))), some (.inr (.inl (some 315))), some (.inl i), some (.inl k), none, none], [.inl y], (nw_u J2 303 13 k, L1, W1), c1, s1) Qr Qx := fun k v y J1 J2 L1 W1 c1 s1 e1 e2 f1 f2 fl hl hy w1 w2 => by
    have go : NW sc d_L_law D (3300, [some (.inr (.inl (some 1000000))), some (.inr (.inl (some 0))), some (.inr (.inl (some 303))), some (.inr (.inl (some 314))), some (.inr (.inl (some 315))), some (.inl i), none, none, none], [], (nw_u J2 303 13 k, L1, W1), c1, s1) Qr Qx := hQ _ _ _ _ _ e1 e2 (h.q ⟨by omega, hB⟩ (fun x a => by
      have a3 : ¬ x = 303 := by omega
      rw [nw_uP a3, f2 x (by omega), f1 x (by omega)]) (fun j a => by rw [nw_uI a, f2 303 (by omega), f1 303 (by omega)]) fl w1 w2)
    exact b_L_law_857 hD ⟨fun _ => ⟨fun _ => go, fun z => ⟨fun _ => go, fun w => absurd (nw_cmp3_eq ((hl z).trans (hy z).symm)) w⟩⟩, fun w => absurd nw_uS w⟩
  have md : ∀ (k v : Int) (J1 L1 : Nat → Int → Int) (W1 : nw_W) (c1 s1 : Nat), c ≤ c1 + 28 → sl ≤ s1 + 4006 → sp_wrk J J1 → (∀ y, ¬ y = 314 → L1 y = L y) → (k = 0 → L1 314 0 = v) → W1.2.1 = W.2.1 → sp_wW W W1 → ((k = 1 ∧ 1 < sp_nt (J 304) 9) ∨ (k = 0 ∧ sp_nt (J 304) 9 ≤ 1 ∧ v = sp_nsum (J 304))) → NW sc d_L_law D (851, [some (.inr (.inl (some 1000000))), some (.inr (.inl (some 0))), some (.inr (.inl (some 303))), some (.inr (.inl (some 314))), some (.inr (.inl (some 315))), some (.inl i), none, none, none], [.inl k], (J1, L1, W1), c1, s1) Qr Qx := fun k v J1 L1 W1 c1 s1 e1 e2 f1 fl hl w1 w2 sp => by
    have g1 : J1 304 = J 304 := f1 304 (by omega)
    have I1 : Inv (J1 304) B := by rw [g1]; exact I
    have fin : ∀ (y : Int) (J2 : Nat → Int → Int) k9, k9 = k → (∀ x, ¬ (310 ≤ x ∧ x ≤ 312) → J2 x = J1 x) → (k = 0 → y = v) → NW sc d_L_law D (857, [some (.inr (.inl (some 1000000))), some (.inr (.inl (some 0))), some (.inr (.inl (some 303))), some (.inr (.inl (some 314))), some (.inr (.inl (some 315))), some (.inl i), some (.inl k), none, none], [.inl y], (nw_u J2 303 13 k9, L1, W1), c1, s1) Qr Qx := fun y J2 k9 e9 f2 hy => by
      subst e9
      exact fn _ v y J1 J2 L1 W1 c1 s1 e1 e2 f1 f2 fl hl hy w1 w2
    refine b_L_law_851 hD ?_
    refine t_X12_cheapestNet I1 (by decide) (fun J2 x2 z => ?_) (fun J2 x2 z => ?_)
    · rw [g1] at z
      rw [g1]
      exact fin _ J2 0 (by omega) (fun w a => x2 w (by omega)) (by omega)
    · rw [g1] at z
      exact fin _ J2 1 (by omega) (fun w a => x2 w (by omega)) (by omega)
  refine b_L_law_846 hD (by omega) (by omega) ?_
  have kE : ∀ (k : Int) (J1 : Nat → Int → Int) n2, W.2.2.2.2 ≤ n2 → sp_wrk J J1 → (∀ v : Int, ¬ k = 0 ∧ ((k = 1 ∧ 1 < sp_nt (J 304) 9) ∨ (k = 0 ∧ sp_nt (J 304) 9 ≤ 1 ∧ v = sp_nsum (J 304)))) → NW sc d_L_law D (851, [some (.inr (.inl (some 1000000))), some (.inr (.inl (some 0))), some (.inr (.inl (some 303))), some (.inr (.inl (some 314))), some (.inr (.inl (some 315))), some (.inl i), none, none, none], [.inl k], (J1, L, nw_top W n2), c - 4, sl - 24) Qr Qx := fun k J1 n2 h2 f1 hk => md k 0 J1 L _ _ _ (by omega) (by omega) f1 (fun _ _ => rfl) (fun z => absurd z (hk 0).1) rfl (sp_wW.top h2) (hk 0).2
  have kV : ∀ (v : Int) (J1 : Nat → Int → Int), sp_wrk J J1 → (∀ k : Int, k = 0 → ((k = 1 ∧ 1 < sp_nt (J 304) 9) ∨ (k = 0 ∧ sp_nt (J 304) 9 ≤ 1 ∧ v = sp_nsum (J 304)))) → NW sc d_L_law D (851, [some (.inr (.inl (some 1000000))), some (.inr (.inl (some 0))), some (.inr (.inl (some 303))), some (.inr (.inl (some 314))), some (.inr (.inl (some 315))), some (.inl i), none, none, none], [.inl 0], (J1, nw_u L 314 0 v, W), c - 4, sl - 24) Qr Qx := fun v J1 f1 hk => md 0 v J1 _ W _ _ (by omega) (by omega) f1 (fun y a => nw_uP a) (fun _ => nw_uS) rfl sp_wW.refl (hk 0 rfl)
  refine b_L_cheapestNet2_0 (by decide) (by decide) (by decide) ?_
  refine b_X11_cheapestNet_0 (by decide) (t_X10_netByOrder R I (by decide) (fun J1 x1 z => ?_) (fun J1 x1 z => ?_))
  · refine b_X11_cheapestNet_14 (by decide) (by decide) (by decide) ?_
    ((repeat' (first | refine And.intro ?_ ?_ | refine fun _ => ?_)); all_goals first | omega | (exfalso; omega) | exact kE 1 J1 _ (by assumption) (fun z a => x1 z (by omega)) (fun v => by omega) | exact b_L_cheapestNet2_6 ⟨by decide, kV _ J1 (fun z a => x1 z (by omega)) (fun k z => by omega)⟩)
  · refine b_X11_cheapestNet_14 (by decide) (by decide) (by decide) ?_
    ((repeat' (first | refine And.intro ?_ ?_ | refine fun _ => ?_)); all_goals first | omega | (exfalso; omega) | exact kE 1 J1 _ (by assumption) (fun z a => x1 z (by omega)) (fun v => by omega) | exact b_L_cheapestNet2_6 ⟨by decide, kV _ J1 (fun z a => x1 z (by omega)) (fun k z => by omega)⟩)
theorem case_cheapestNetByGrowing {i : Int} (hi : 0 ≤ i ∧ i + 5 ≤ (sc.1 : Int) ∧ (sc.1 : Int) ≤ 2560) (h : sp_Wd J L W B) (hB : B + 2200 ≤ 4000000) (hD : 18 ≤ D) (hc : 28 ≤ c) (hs : 4006 ≤ sl) (hQ : ∀ J' L' W' c1 s1, c ≤ c1 + 28 → sl ≤ s1 + 4006 → sp_Wd J' L' W' (B + 2200) → NW sc d_L_law D (3300, [some (.inr (.inl (some 1000000))), some (.inr (.inl (some 0))), some (.inr (.inl (some 303))), some (.inr (.inl (some 314))), some (.inr (.inl (some 315))), some (.inl i), none, none, none], [], (J', L', W'), c1, s1) Qr Qx) : NW sc d_L_law D (890, [some (.inr (.inl (some 1000000))), some (.inr (.inl (some 0))), some (.inr (.inl (some 303))), some (.inr (.inl (some 314))), some (.inr (.inl (some 315))), some (.inl i), none, none, none], [], (J, L, W), c, sl) Qr Qx := by
  have hA := h.1
  have R := sp_sh2.mp hA.1.1
  have I := hA.1.2.1
  have hbd := I.bd
  have hho := I.ho
  have hcr := I.cr
  have hch := I.ch
  have hfe := I.fe
  have hmo := I.mo
  have hnx := I.nx
  have c1 := R.cr
  have c2 := R.ch
  have c3 := R.fe
  have c4 := R.mo
  have c5 := R.ho
  have nn := sp_nsum_nn (g := J 304)
  have fn : ∀ (k v y : Int) (J1 J2 L1 : Nat → Int → Int) (W1 : nw_W) (c1 s1 : Nat), c ≤ c1 + 28 → sl ≤ s1 + 4006 → sp_wrk J J1 → (∀ x, ¬ (310 ≤ x ∧ x ≤ 312) → J2 x = J1 x) → (∀ y, ¬ y = 314 → L1 y = L y) → (k = 0 → L1 314 0 = v) → (k = 0 → y = v) → W1.2.1 = W.2.1 → sp_wW W W1 → NW sc d_L_law D (901, [some (.inr (.inl (some 1000000))), some (.inr (.inl (some 0))), some (.inr (.inl (some 303))), some (.inr (.inl (some 314))), some (.inr (.inl (some 315))), some (.inl i), some (.inl k), none, none], [.inl y], (nw_u J2 303 13 k, L1, W1), c1, s1) Qr Qx := fun k v y J1 J2 L1 W1 c1 s1 e1 e2 f1 f2 fl hl hy w1 w2 => by
    have go : NW sc d_L_law D (3300, [some (.inr (.inl (some 1000000))), some (.inr (.inl (some 0))), some (.inr (.inl (some 303))), some (.inr (.inl (some 314))), some (.inr (.inl (some 315))), some (.inl i), none, none, none], [], (nw_u J2 303 13 k, L1, W1), c1, s1) Qr Qx := hQ _ _ _ _ _ e1 e2 (h.q ⟨by omega, hB⟩ (fun x a => by
      have a3 : ¬ x = 303 := by omega
      rw [nw_uP a3, f2 x (by omega), f1 x (by omega)]) (fun j a => by rw [nw_uI a, f2 303 (by omega), f1 303 (by omega)]) fl w1 w2)
    exact b_L_law_901 hD ⟨fun _ => ⟨fun _ => go, fun z => ⟨fun _ => go, fun w => absurd (nw_cmp3_eq ((hl z).trans (hy z).symm)) w⟩⟩, fun w => absurd nw_uS w⟩
  have md : ∀ (k v : Int) (J1 L1 : Nat → Int → Int) (W1 : nw_W) (c1 s1 : Nat), c ≤ c1 + 28 → sl ≤ s1 + 4006 → sp_wrk J J1 → (∀ y, ¬ y = 314 → L1 y = L y) → (k = 0 → L1 314 0 = v) → W1.2.1 = W.2.1 → sp_wW W W1 → ((k = 1 ∧ 1 < sp_nt (J 304) 9) ∨ (k = 0 ∧ sp_nt (J 304) 9 ≤ 1 ∧ v = sp_nsum (J 304))) → NW sc d_L_law D (895, [some (.inr (.inl (some 1000000))), some (.inr (.inl (some 0))), some (.inr (.inl (some 303))), some (.inr (.inl (some 314))), some (.inr (.inl (some 315))), some (.inl i), none, none, none], [.inl k], (J1, L1, W1), c1, s1) Qr Qx := fun k v J1 L1 W1 c1 s1 e1 e2 f1 fl hl w1 w2 sp => by
    have g1 : J1 304 = J 304 := f1 304 (by omega)
    have I1 : Inv (J1 304) B := by rw [g1]; exact I
    have fin : ∀ (y : Int) (J2 : Nat → Int → Int) k9, k9 = k → (∀ x, ¬ (310 ≤ x ∧ x ≤ 312) → J2 x = J1 x) → (k = 0 → y = v) → NW sc d_L_law D (901, [some (.inr (.inl (some 1000000))), some (.inr (.inl (some 0))), some (.inr (.inl (some 303))), some (.inr (.inl (some 314))), some (.inr (.inl (some 315))), some (.inl i), some (.inl k), none, none], [.inl y], (nw_u J2 303 13 k9, L1, W1), c1, s1) Qr Qx := fun y J2 k9 e9 f2 hy => by
      subst e9
      exact fn _ v y J1 J2 L1 W1 c1 s1 e1 e2 f1 f2 fl hl hy w1 w2
    refine b_L_law_895 hD ?_
    refine b_X12_cheapestNetByGrowing_0 (by decide) ?_
    refine t_X12_cheapestNet I1 (by decide) (fun J2 x2 z => ?_) (fun J2 x2 z => ?_)
    · rw [g1] at z
      rw [g1]
      refine b_X12_cheapestNetByGrowing_4 ?_
      exact fin _ J2 0 (by omega) (fun w a => x2 w (by omega)) (by omega)
    · rw [g1] at z
      refine b_X12_cheapestNetByGrowing_4 ?_
      exact fin _ J2 1 (by omega) (fun w a => x2 w (by omega)) (by omega)
  refine b_L_law_890 hD (by omega) (by omega) ?_
  have kE : ∀ (k : Int) (J1 : Nat → Int → Int) n2, W.2.2.2.2 ≤ n2 → sp_wrk J J1 → (∀ v : Int, ¬ k = 0 ∧ ((k = 1 ∧ 1 < sp_nt (J 304) 9) ∨ (k = 0 ∧ sp_nt (J 304) 9 ≤ 1 ∧ v = sp_nsum (J 304)))) → NW sc d_L_law D (895, [some (.inr (.inl (some 1000000))), some (.inr (.inl (some 0))), some (.inr (.inl (some 303))), some (.inr (.inl (some 314))), some (.inr (.inl (some 315))), some (.inl i), none, none, none], [.inl k], (J1, L, nw_top W n2), c - 4, sl - 24) Qr Qx := fun k J1 n2 h2 f1 hk => md k 0 J1 L _ _ _ (by omega) (by omega) f1 (fun _ _ => rfl) (fun z => absurd z (hk 0).1) rfl (sp_wW.top h2) (hk 0).2
  have kV : ∀ (v : Int) (J1 : Nat → Int → Int), sp_wrk J J1 → (∀ k : Int, k = 0 → ((k = 1 ∧ 1 < sp_nt (J 304) 9) ∨ (k = 0 ∧ sp_nt (J 304) 9 ≤ 1 ∧ v = sp_nsum (J 304)))) → NW sc d_L_law D (895, [some (.inr (.inl (some 1000000))), some (.inr (.inl (some 0))), some (.inr (.inl (some 303))), some (.inr (.inl (some 314))), some (.inr (.inl (some 315))), some (.inl i), none, none, none], [.inl 0], (J1, nw_u L 314 0 v, W), c - 4, sl - 24) Qr Qx := fun v J1 f1 hk => md 0 v J1 _ W _ _ (by omega) (by omega) f1 (fun y a => nw_uP a) (fun _ => nw_uS) rfl sp_wW.refl (hk 0 rfl)
  refine b_L_cheapestNetByGrowing2_0 (by decide) (by decide) (by decide) ?_
  refine b_X11_cheapestNetByGrowing_0 (by decide) (t_X10_netByGrowing R I (by decide) (fun z => ?_) (fun z => ?_))
  · refine b_X11_cheapestNetByGrowing_14 (by decide) (by decide) (by decide) ?_
    ((repeat' (first | refine And.intro ?_ ?_ | refine fun _ => ?_)); all_goals first | omega | (exfalso; omega) | exact kE 1 J _ (by assumption) sp_wrk.refl (fun v => by omega) | exact b_L_cheapestNetByGrowing2_6 ⟨by decide, kV _ J sp_wrk.refl (fun k z => by omega)⟩)
  · refine b_X11_cheapestNetByGrowing_14 (by decide) (by decide) (by decide) ?_
    ((repeat' (first | refine And.intro ?_ ?_ | refine fun _ => ?_)); all_goals first | omega | (exfalso; omega) | exact kE 1 J _ (by assumption) sp_wrk.refl (fun v => by omega) | exact b_L_cheapestNetByGrowing2_6 ⟨by decide, kV _ J sp_wrk.refl (fun k z => by omega)⟩)
theorem case_isStranded {i : Int} (hi : 0 ≤ i ∧ i + 5 ≤ (sc.1 : Int) ∧ (sc.1 : Int) ≤ 2560) (h : sp_Wd J L W B) (hB : B + 2200 ≤ 4000000) (hD : 18 ≤ D) (hc : 28 ≤ c) (hs : 4006 ≤ sl) (hQ : ∀ J' L' W' c1 s1, c ≤ c1 + 28 → sl ≤ s1 + 4006 → sp_Wd J' L' W' (B + 2200) → NW sc d_L_law D (3300, [some (.inr (.inl (some 1000000))), some (.inr (.inl (some 0))), some (.inr (.inl (some 303))), some (.inr (.inl (some 314))), some (.inr (.inl (some 315))), some (.inl i), none, none, none], [], (J', L', W'), c1, s1) Qr Qx) : NW sc d_L_law D (1313, [some (.inr (.inl (some 1000000))), some (.inr (.inl (some 0))), some (.inr (.inl (some 303))), some (.inr (.inl (some 314))), some (.inr (.inl (some 315))), some (.inl i), none, none, none], [], (J, L, W), c, sl) Qr Qx := by
  have hA := h.1
  have R := sp_sh2.mp hA.1.1
  have I := hA.1.2.1
  have hbd := I.bd
  have hho := I.ho
  have hcr := I.cr
  have hch := I.ch
  have hfe := I.fe
  have hmo := I.mo
  have hnx := I.nx
  have c1 := R.cr
  have c2 := R.ch
  have c3 := R.fe
  have c4 := R.mo
  have c5 := R.ho
  obtain ⟨x, hx⟩ : ∃ x, nw_sc sc (i + 1) = x := ⟨_, rfl⟩
  have fn : ∀ (k v y : Int) (J1 J2 L1 : Nat → Int → Int) (W1 : nw_W) (c1 s1 : Nat), c ≤ c1 + 28 → sl ≤ s1 + 4006 → sp_wrk J J1 → (∀ x, ¬ (310 ≤ x ∧ x ≤ 312) → J2 x = J1 x) → (∀ y, ¬ y = 314 → L1 y = L y) → (k = 0 → L1 314 0 = v) → (k = 0 → y = v) → (y = 0 ∨ y = 1) → W1.2.1 = W.2.1 → sp_wW W W1 → NW sc d_L_law D (1336, [some (.inr (.inl (some 1000000))), some (.inr (.inl (some 0))), some (.inr (.inl (some 303))), some (.inr (.inl (some 314))), some (.inr (.inl (some 315))), some (.inl i), some (.inl k), none, none], [.inl y], (nw_u J2 303 13 k, L1, W1), c1, s1) Qr Qx := fun k v y J1 J2 L1 W1 c1 s1 e1 e2 f1 f2 fl hl hy hy0 w1 w2 => by
    have go : NW sc d_L_law D (3300, [some (.inr (.inl (some 1000000))), some (.inr (.inl (some 0))), some (.inr (.inl (some 303))), some (.inr (.inl (some 314))), some (.inr (.inl (some 315))), some (.inl i), none, none, none], [], (nw_u J2 303 13 k, L1, W1), c1, s1) Qr Qx := hQ _ _ _ _ _ e1 e2 (h.q ⟨by omega, hB⟩ (fun x a => by
      have a3 : ¬ x = 303 := by omega
      rw [nw_uP a3, f2 x (by omega), f1 x (by omega)]) (fun j a => by rw [nw_uI a, f2 303 (by omega), f1 303 (by omega)]) fl w1 w2)
    exact b_L_law_1336 hD ⟨fun _ => ⟨fun _ => go, fun z => ⟨fun q => ⟨fun _ => go, fun w => absurd (nw_cmp3_eq ((hl z).trans ((hy z).symm.trans q))) w⟩, fun q => ⟨fun _ => go, fun w => absurd (nw_cmp3_eq ((hl z).trans ((hy z).symm.trans (by omega)))) w⟩⟩⟩, fun w => absurd nw_uS w⟩
  have md : ∀ (k v : Int) (J1 L1 : Nat → Int → Int) (W1 : nw_W) (c1 s1 : Nat), c ≤ c1 + 28 → sl ≤ s1 + 4006 → sp_wrk J J1 → (∀ y, ¬ y = 314 → L1 y = L y) → (k = 0 → L1 314 0 = v) → W1.2.1 = W.2.1 → sp_wW W W1 → ((k = 1 ∧ ¬ (0 ≤ x ∧ x < J 304 3)) ∨ (k = 0 ∧ (0 ≤ x ∧ x < J 304 3) ∧ v = sp_sS (J 304) x)) → NW sc d_L_law D (1324, [some (.inr (.inl (some 1000000))), some (.inr (.inl (some 0))), some (.inr (.inl (some 303))), some (.inr (.inl (some 314))), some (.inr (.inl (some 315))), some (.inl i), none, none, none], [.inl k], (J1, L1, W1), c1, s1) Qr Qx := fun k v J1 L1 W1 c1 s1 e1 e2 f1 fl hl w1 w2 sp => by
    have g1 : J1 304 = J 304 := f1 304 (by omega)
    have I1 : Inv (J1 304) B := by rw [g1]; exact I
    have fin : ∀ (y : Int) (J2 : Nat → Int → Int) k9, k9 = k → (∀ x, ¬ (310 ≤ x ∧ x ≤ 312) → J2 x = J1 x) → (k = 0 → y = v) → (y = 0 ∨ y = 1) → NW sc d_L_law D (1336, [some (.inr (.inl (some 1000000))), some (.inr (.inl (some 0))), some (.inr (.inl (some 303))), some (.inr (.inl (some 314))), some (.inr (.inl (some 315))), some (.inl i), some (.inl k), none, none], [.inl y], (nw_u J2 303 13 k9, L1, W1), c1, s1) Qr Qx := fun y J2 k9 e9 f2 hy hy0 => by
      subst e9
      exact fn _ v y J1 J2 L1 W1 c1 s1 e1 e2 f1 f2 fl hl hy hy0 w1 w2
    refine b_L_law_1324 hD ⟨by omega, by omega, ?_⟩
    rw [hx]
    refine b_X12_isStranded_0 (by decide) ?_
    rw [g1]
    have g3 : nw_u J1 303 13 0 304 = J 304 := (nw_uP (by decide)).trans g1
    (repeat' (first | refine And.intro ?_ ?_ | refine fun _ => ?_))
    all_goals first | omega | (exfalso; omega) | exact fin _ J1 1 (by omega) (fun _ _ => rfl) (by omega) (by omega) | (refine t_X12_isStuck (B := B) (by rw [g3]; exact I) (by rw [g3]; omega) (by decide) (fun y => ?_) (fun y => ?_))
    · rw [g3] at y
      have y1 : sp_sS (J 304) x = 1 := sp_bT y
      exact b_X12_isStranded_29 ⟨fun z => absurd z (by decide), fun _ => fin _ J1 0 (by omega) (fun _ _ => rfl) (by omega) (by omega)⟩
    · rw [g3] at y
      have y0 : sp_sS (J 304) x = 0 := sp_bF y
      exact b_X12_isStranded_29 ⟨fun _ => fin _ J1 0 (by omega) (fun _ _ => rfl) (by omega) (by omega), fun z => absurd rfl z⟩
  refine b_L_law_1313 hD (by omega) (by omega) ⟨by omega, by omega, ?_⟩
  rw [hx]
  have kE : ∀ (k : Int) (J1 : Nat → Int → Int) n2, W.2.2.2.2 ≤ n2 → sp_wrk J J1 → (∀ v : Int, ¬ k = 0 ∧ ((k = 1 ∧ ¬ (0 ≤ x ∧ x < J 304 3)) ∨ (k = 0 ∧ (0 ≤ x ∧ x < J 304 3) ∧ v = sp_sS (J 304) x))) → NW sc d_L_law D (1324, [some (.inr (.inl (some 1000000))), some (.inr (.inl (some 0))), some (.inr (.inl (some 303))), some (.inr (.inl (some 314))), some (.inr (.inl (some 315))), some (.inl i), none, none, none], [.inl k], (J1, L, nw_top W n2), c - 4, sl - 24) Qr Qx := fun k J1 n2 h2 f1 hk => md k 0 J1 L _ _ _ (by omega) (by omega) f1 (fun _ _ => rfl) (fun z => absurd z (hk 0).1) rfl (sp_wW.top h2) (hk 0).2
  have kV : ∀ (v : Int) (J1 : Nat → Int → Int), sp_wrk J J1 → (∀ k : Int, k = 0 → ((k = 1 ∧ ¬ (0 ≤ x ∧ x < J 304 3)) ∨ (k = 0 ∧ (0 ≤ x ∧ x < J 304 3) ∧ v = sp_sS (J 304) x))) → NW sc d_L_law D (1324, [some (.inr (.inl (some 1000000))), some (.inr (.inl (some 0))), some (.inr (.inl (some 303))), some (.inr (.inl (some 314))), some (.inr (.inl (some 315))), some (.inl i), none, none, none], [.inl 0], (J1, nw_u L 314 0 v, W), c - 4, sl - 24) Qr Qx := fun v J1 f1 hk => md 0 v J1 _ W _ _ (by omega) (by omega) f1 (fun y a => nw_uP a) (fun _ => nw_uS) rfl sp_wW.refl (hk 0 rfl)
  refine b_L_isStranded2_0 (by decide) (by decide) (by decide) ?_
  refine b_X11_isStranded_0 (by decide) (by decide) (by decide) ?_
  (repeat' (first | refine And.intro ?_ ?_ | refine fun _ => ?_))
  all_goals first | omega | (exfalso; omega) | exact kE 1 J _ (by assumption) sp_wrk.refl (fun v => by omega) | (refine t_X8_aground R I ⟨by omega, by omega⟩ (by decide) (fun y => ?_) (fun y => ?_))
  · have y1 : sp_sS (J 304) x = 1 := sp_bT y
    exact b_X11_isStranded_13 ⟨Or.inr rfl, b_L_isStranded2_7 ⟨fun z => absurd z (by decide), fun _ => ⟨by decide, kV _ J sp_wrk.refl (fun k z => by omega)⟩⟩⟩
  · have y0 : sp_sS (J 304) x = 0 := sp_bF y
    exact b_X11_isStranded_13 ⟨Or.inl rfl, b_L_isStranded2_7 ⟨fun _ => ⟨by decide, kV _ J sp_wrk.refl (fun k z => by omega)⟩, fun z => absurd rfl z⟩⟩
theorem case_earliestArrival {i : Int} (hi : 0 ≤ i ∧ i + 5 ≤ (sc.1 : Int) ∧ (sc.1 : Int) ≤ 2560) (h : sp_Wd J L W B) (hB : B + 2200 ≤ 4000000) (hD : 18 ≤ D) (hc : 28 ≤ c) (hs : 4006 ≤ sl) (hQ : ∀ J' L' W' c1 s1, c ≤ c1 + 28 → sl ≤ s1 + 4006 → sp_Wd J' L' W' (B + 2200) → NW sc d_L_law D (3300, [some (.inr (.inl (some 1000000))), some (.inr (.inl (some 0))), some (.inr (.inl (some 303))), some (.inr (.inl (some 314))), some (.inr (.inl (some 315))), some (.inl i), none, none, none], [], (J', L', W'), c1, s1) Qr Qx) : NW sc d_L_law D (1432, [some (.inr (.inl (some 1000000))), some (.inr (.inl (some 0))), some (.inr (.inl (some 303))), some (.inr (.inl (some 314))), some (.inr (.inl (some 315))), some (.inl i), none, none, none], [], (J, L, W), c, sl) Qr Qx := by
  have hA := h.1
  have R := sp_sh2.mp hA.1.1
  have I := hA.1.2.1
  have hbd := I.bd
  have hho := I.ho
  have hcr := I.cr
  have hch := I.ch
  have hfe := I.fe
  have hmo := I.mo
  have hnx := I.nx
  have c1 := R.cr
  have c2 := R.ch
  have c3 := R.fe
  have c4 := R.mo
  have c5 := R.ho
  obtain ⟨x, hx⟩ : ∃ x, nw_sc sc (i + 1) = x := ⟨_, rfl⟩
  obtain ⟨y, hy⟩ : ∃ y, nw_sc sc (i + 2) = y := ⟨_, rfl⟩
  have fn : ∀ (k v y : Int) (J1 J2 L1 : Nat → Int → Int) (W1 : nw_W) (c1 s1 : Nat), c ≤ c1 + 28 → sl ≤ s1 + 4006 → sp_wrk J J1 → (∀ x, ¬ (310 ≤ x ∧ x ≤ 312) → J2 x = J1 x) → (∀ y, ¬ y = 314 → L1 y = L y) → (k = 0 → L1 314 0 = v) → (k = 0 → y = v) → W1.2.1 = W.2.1 → sp_wW W W1 → NW sc d_L_law D (1467, [some (.inr (.inl (some 1000000))), some (.inr (.inl (some 0))), some (.inr (.inl (some 303))), some (.inr (.inl (some 314))), some (.inr (.inl (some 315))), some (.inl i), some (.inl k), none, none], [.inl y], (nw_u J2 303 13 k, L1, W1), c1, s1) Qr Qx := fun k v y J1 J2 L1 W1 c1 s1 e1 e2 f1 f2 fl hl hy w1 w2 => by
    have go : NW sc d_L_law D (3300, [some (.inr (.inl (some 1000000))), some (.inr (.inl (some 0))), some (.inr (.inl (some 303))), some (.inr (.inl (some 314))), some (.inr (.inl (some 315))), some (.inl i), none, none, none], [], (nw_u J2 303 13 k, L1, W1), c1, s1) Qr Qx := hQ _ _ _ _ _ e1 e2 (h.q ⟨by omega, hB⟩ (fun x a => by
      have a3 : ¬ x = 303 := by omega
      rw [nw_uP a3, f2 x (by omega), f1 x (by omega)]) (fun j a => by rw [nw_uI a, f2 303 (by omega), f1 303 (by omega)]) fl w1 w2)
    exact b_L_law_1467 hD ⟨fun _ => ⟨fun _ => go, fun z => ⟨fun _ => go, fun w => absurd (nw_cmp3_eq ((hl z).trans (hy z).symm)) w⟩⟩, fun w => absurd nw_uS w⟩
  have md : ∀ (k v : Int) (J1 L1 : Nat → Int → Int) (W1 : nw_W) (c1 s1 : Nat), c ≤ c1 + 28 → sl ≤ s1 + 4006 → sp_wrk J J1 → (∀ y, ¬ y = 314 → L1 y = L y) → (k = 0 → L1 314 0 = v) → W1.2.1 = W.2.1 → sp_wW W W1 → ((k = 1 ∧ ¬ ((0 ≤ x ∧ x < J 304 3) ∧ (0 ≤ y ∧ y < J 304 1))) ∨ (k = 2 ∧ ((0 ≤ x ∧ x < J 304 3) ∧ (0 ≤ y ∧ y < J 304 1)) ∧ ∀ t, sp_ra (J 304) x y t → J 304 0 + 99 < t) ∨ (k = 0 ∧ ((0 ≤ x ∧ x < J 304 3) ∧ (0 ≤ y ∧ y < J 304 1)) ∧ sp_ea (J 304) x y v ∧ v ≤ J 304 0 + 99)) → NW sc d_L_law D (1449, [some (.inr (.inl (some 1000000))), some (.inr (.inl (some 0))), some (.inr (.inl (some 303))), some (.inr (.inl (some 314))), some (.inr (.inl (some 315))), some (.inl i), none, none, none], [.inl k], (J1, L1, W1), c1, s1) Qr Qx := fun k v J1 L1 W1 c1 s1 e1 e2 f1 fl hl w1 w2 sp => by
    have g1 : J1 304 = J 304 := f1 304 (by omega)
    have I1 : Inv (J1 304) B := by rw [g1]; exact I
    have fin : ∀ (y : Int) (J2 : Nat → Int → Int) k9, k9 = k → (∀ x, ¬ (310 ≤ x ∧ x ≤ 312) → J2 x = J1 x) → (k = 0 → y = v) → NW sc d_L_law D (1467, [some (.inr (.inl (some 1000000))), some (.inr (.inl (some 0))), some (.inr (.inl (some 303))), some (.inr (.inl (some 314))), some (.inr (.inl (some 315))), some (.inl i), some (.inl k), none, none], [.inl y], (nw_u J2 303 13 k9, L1, W1), c1, s1) Qr Qx := fun y J2 k9 e9 f2 hy => by
      subst e9
      exact fn _ v y J1 J2 L1 W1 c1 s1 e1 e2 f1 f2 fl hl hy w1 w2
    refine b_L_law_1449 hD ⟨by omega, by omega, by omega, by omega, ?_⟩
    rw [hx, hy]
    rcases sp with ⟨k1, nv⟩ | sp
    · refine b_X12_earliestArrival_0 (by decide) ?_
      rw [g1]
      (repeat' (first | refine And.intro ?_ ?_ | refine fun _ => ?_))
      all_goals first | omega | (exfalso; omega) | (exact fin _ J1 1 (by omega) (fun _ _ => rfl) (by omega))
    have hv : 0 ≤ x ∧ x < J 304 3 ∧ 0 ≤ y ∧ y < J 304 1 := by
      rcases sp with ⟨_, hv, _⟩ | ⟨_, hv, _⟩ <;> omega
    refine t_X12_earliestArrival I1 (by rw [g1]; omega) (by rw [g1]; omega) (by decide) (fun J2 y9 x2 ea le => ?_) (fun J2 x2 no => ?_)
    · rw [g1] at ea le
      rcases sp with ⟨_, _, no⟩ | ⟨k0, _, ea2, le2⟩
      · have := no y9 ea.1
        omega
      · have a1 := ea.2 v ea2.1
        have a2 := ea2.2 y9 ea.1
        exact fin _ J2 0 (by omega) (fun w a => x2 w (by omega)) (by omega)
    · rw [g1] at no
      rcases sp with ⟨k2, _, _⟩ | ⟨k0, _, ea2, le2⟩
      · exact fin _ J2 2 (by omega) (fun w a => x2 w (by omega)) (by omega)
      · have := no v ea2.1
        omega
  refine b_L_law_1432 hD (by omega) (by omega) ⟨by omega, by omega, by omega, by omega, ?_⟩
  rw [hx, hy]
  have kE : ∀ (k : Int) (J1 : Nat → Int → Int) n2, W.2.2.2.2 ≤ n2 → sp_wrk J J1 → (∀ v : Int, ¬ k = 0 ∧ ((k = 1 ∧ ¬ ((0 ≤ x ∧ x < J 304 3) ∧ (0 ≤ y ∧ y < J 304 1))) ∨ (k = 2 ∧ ((0 ≤ x ∧ x < J 304 3) ∧ (0 ≤ y ∧ y < J 304 1)) ∧ ∀ t, sp_ra (J 304) x y t → J 304 0 + 99 < t) ∨ (k = 0 ∧ ((0 ≤ x ∧ x < J 304 3) ∧ (0 ≤ y ∧ y < J 304 1)) ∧ sp_ea (J 304) x y v ∧ v ≤ J 304 0 + 99))) → NW sc d_L_law D (1449, [some (.inr (.inl (some 1000000))), some (.inr (.inl (some 0))), some (.inr (.inl (some 303))), some (.inr (.inl (some 314))), some (.inr (.inl (some 315))), some (.inl i), none, none, none], [.inl k], (J1, L, nw_top W n2), c - 4, sl - 24) Qr Qx := fun k J1 n2 h2 f1 hk => md k 0 J1 L _ _ _ (by omega) (by omega) f1 (fun _ _ => rfl) (fun z => absurd z (hk 0).1) rfl (sp_wW.top h2) (hk 0).2
  have kV : ∀ (v : Int) (J1 : Nat → Int → Int), sp_wrk J J1 → (∀ k : Int, k = 0 → ((k = 1 ∧ ¬ ((0 ≤ x ∧ x < J 304 3) ∧ (0 ≤ y ∧ y < J 304 1))) ∨ (k = 2 ∧ ((0 ≤ x ∧ x < J 304 3) ∧ (0 ≤ y ∧ y < J 304 1)) ∧ ∀ t, sp_ra (J 304) x y t → J 304 0 + 99 < t) ∨ (k = 0 ∧ ((0 ≤ x ∧ x < J 304 3) ∧ (0 ≤ y ∧ y < J 304 1)) ∧ sp_ea (J 304) x y v ∧ v ≤ J 304 0 + 99))) → NW sc d_L_law D (1449, [some (.inr (.inl (some 1000000))), some (.inr (.inl (some 0))), some (.inr (.inl (some 303))), some (.inr (.inl (some 314))), some (.inr (.inl (some 315))), some (.inl i), none, none, none], [.inl 0], (J1, nw_u L 314 0 v, W), c - 4, sl - 24) Qr Qx := fun v J1 f1 hk => md 0 v J1 _ W _ _ (by omega) (by omega) f1 (fun y a => nw_uP a) (fun _ => nw_uS) rfl sp_wW.refl (hk 0 rfl)
  refine b_L_earliestArrival2_0 (by decide) (by decide) (by decide) ?_
  refine b_X11_earliestArrival_0 (by decide) (by decide) (by decide) ?_
  (repeat' (first | refine And.intro ?_ ?_ | refine fun _ => ?_))
  all_goals first | omega | (exfalso; omega) | exact kE 1 J _ (by assumption) sp_wrk.refl (fun v => ⟨by decide, Or.inl ⟨rfl, by omega⟩⟩) | (refine t_X10_arriveByQueue R I ⟨by omega, by omega⟩ (by decide) (fun J1 x1 ep => ?_))
  have e1 := ep y (by omega) (by omega)
  refine b_X11_earliestArrival_22 (by decide) (by decide) (by decide) ⟨by omega, fun z => ?_, fun z n2 h2 => ?_⟩
  · have e2 := e1.1 z
    exact b_L_earliestArrival2_8 ⟨by decide, kV _ J1 (fun z a => x1 z (by omega)) (fun k z => Or.inr (Or.inr ⟨z, by omega, e2.1, e2.2⟩))⟩
  · exact kE 2 J1 n2 h2 (fun z a => x1 z (by omega)) (fun v => ⟨by decide, Or.inr (Or.inl ⟨rfl, by omega, e1.2 z⟩)⟩)
theorem case_earliestArrivalByHours {i : Int} (hi : 0 ≤ i ∧ i + 5 ≤ (sc.1 : Int) ∧ (sc.1 : Int) ≤ 2560) (h : sp_Wd J L W B) (hB : B + 2200 ≤ 4000000) (hD : 18 ≤ D) (hc : 28 ≤ c) (hs : 4006 ≤ sl) (hQ : ∀ J' L' W' c1 s1, c ≤ c1 + 28 → sl ≤ s1 + 4006 → sp_Wd J' L' W' (B + 2200) → NW sc d_L_law D (3300, [some (.inr (.inl (some 1000000))), some (.inr (.inl (some 0))), some (.inr (.inl (some 303))), some (.inr (.inl (some 314))), some (.inr (.inl (some 315))), some (.inl i), none, none, none], [], (J', L', W'), c1, s1) Qr Qx) : NW sc d_L_law D (1500, [some (.inr (.inl (some 1000000))), some (.inr (.inl (some 0))), some (.inr (.inl (some 303))), some (.inr (.inl (some 314))), some (.inr (.inl (some 315))), some (.inl i), none, none, none], [], (J, L, W), c, sl) Qr Qx := by
  have hA := h.1
  have R := sp_sh2.mp hA.1.1
  have I := hA.1.2.1
  have hbd := I.bd
  have hho := I.ho
  have hcr := I.cr
  have hch := I.ch
  have hfe := I.fe
  have hmo := I.mo
  have hnx := I.nx
  have c1 := R.cr
  have c2 := R.ch
  have c3 := R.fe
  have c4 := R.mo
  have c5 := R.ho
  obtain ⟨x, hx⟩ : ∃ x, nw_sc sc (i + 1) = x := ⟨_, rfl⟩
  obtain ⟨y, hy⟩ : ∃ y, nw_sc sc (i + 2) = y := ⟨_, rfl⟩
  have fn : ∀ (k v y : Int) (J1 J2 L1 : Nat → Int → Int) (W1 : nw_W) (c1 s1 : Nat), c ≤ c1 + 28 → sl ≤ s1 + 4006 → sp_wrk J J1 → (∀ x, ¬ (310 ≤ x ∧ x ≤ 312) → J2 x = J1 x) → (∀ y, ¬ y = 314 → L1 y = L y) → (k = 0 → L1 314 0 = v) → (k = 0 → y = v) → W1.2.1 = W.2.1 → sp_wW W W1 → NW sc d_L_law D (1535, [some (.inr (.inl (some 1000000))), some (.inr (.inl (some 0))), some (.inr (.inl (some 303))), some (.inr (.inl (some 314))), some (.inr (.inl (some 315))), some (.inl i), some (.inl k), none, none], [.inl y], (nw_u J2 303 13 k, L1, W1), c1, s1) Qr Qx := fun k v y J1 J2 L1 W1 c1 s1 e1 e2 f1 f2 fl hl hy w1 w2 => by
    have go : NW sc d_L_law D (3300, [some (.inr (.inl (some 1000000))), some (.inr (.inl (some 0))), some (.inr (.inl (some 303))), some (.inr (.inl (some 314))), some (.inr (.inl (some 315))), some (.inl i), none, none, none], [], (nw_u J2 303 13 k, L1, W1), c1, s1) Qr Qx := hQ _ _ _ _ _ e1 e2 (h.q ⟨by omega, hB⟩ (fun x a => by
      have a3 : ¬ x = 303 := by omega
      rw [nw_uP a3, f2 x (by omega), f1 x (by omega)]) (fun j a => by rw [nw_uI a, f2 303 (by omega), f1 303 (by omega)]) fl w1 w2)
    exact b_L_law_1535 hD ⟨fun _ => ⟨fun _ => go, fun z => ⟨fun _ => go, fun w => absurd (nw_cmp3_eq ((hl z).trans (hy z).symm)) w⟩⟩, fun w => absurd nw_uS w⟩
  have md : ∀ (k v : Int) (J1 L1 : Nat → Int → Int) (W1 : nw_W) (c1 s1 : Nat), c ≤ c1 + 28 → sl ≤ s1 + 4006 → sp_wrk J J1 → (∀ y, ¬ y = 314 → L1 y = L y) → (k = 0 → L1 314 0 = v) → W1.2.1 = W.2.1 → sp_wW W W1 → ((k = 1 ∧ ¬ ((0 ≤ x ∧ x < J 304 3) ∧ (0 ≤ y ∧ y < J 304 1))) ∨ (k = 2 ∧ ((0 ≤ x ∧ x < J 304 3) ∧ (0 ≤ y ∧ y < J 304 1)) ∧ ∀ t, sp_ra (J 304) x y t → J 304 0 + 99 < t) ∨ (k = 0 ∧ ((0 ≤ x ∧ x < J 304 3) ∧ (0 ≤ y ∧ y < J 304 1)) ∧ sp_ea (J 304) x y v ∧ v ≤ J 304 0 + 99)) → NW sc d_L_law D (1517, [some (.inr (.inl (some 1000000))), some (.inr (.inl (some 0))), some (.inr (.inl (some 303))), some (.inr (.inl (some 314))), some (.inr (.inl (some 315))), some (.inl i), none, none, none], [.inl k], (J1, L1, W1), c1, s1) Qr Qx := fun k v J1 L1 W1 c1 s1 e1 e2 f1 fl hl w1 w2 sp => by
    have g1 : J1 304 = J 304 := f1 304 (by omega)
    have I1 : Inv (J1 304) B := by rw [g1]; exact I
    have fin : ∀ (y : Int) (J2 : Nat → Int → Int) k9, k9 = k → (∀ x, ¬ (310 ≤ x ∧ x ≤ 312) → J2 x = J1 x) → (k = 0 → y = v) → NW sc d_L_law D (1535, [some (.inr (.inl (some 1000000))), some (.inr (.inl (some 0))), some (.inr (.inl (some 303))), some (.inr (.inl (some 314))), some (.inr (.inl (some 315))), some (.inl i), some (.inl k), none, none], [.inl y], (nw_u J2 303 13 k9, L1, W1), c1, s1) Qr Qx := fun y J2 k9 e9 f2 hy => by
      subst e9
      exact fn _ v y J1 J2 L1 W1 c1 s1 e1 e2 f1 f2 fl hl hy w1 w2
    refine b_L_law_1517 hD ⟨by omega, by omega, by omega, by omega, ?_⟩
    rw [hx, hy]
    refine b_X12_earliestArrivalByHours_0 (by decide) ?_
    rcases sp with ⟨k1, nv⟩ | sp
    · refine b_X12_earliestArrival_0 (by decide) ?_
      rw [g1]
      (repeat' (first | refine And.intro ?_ ?_ | refine fun _ => ?_))
      all_goals first | omega | (exfalso; omega) | (refine b_X12_earliestArrivalByHours_6 ?_; exact fin _ J1 1 (by omega) (fun _ _ => rfl) (by omega))
    have hv : 0 ≤ x ∧ x < J 304 3 ∧ 0 ≤ y ∧ y < J 304 1 := by
      rcases sp with ⟨_, hv, _⟩ | ⟨_, hv, _⟩ <;> omega
    refine t_X12_earliestArrival I1 (by rw [g1]; omega) (by rw [g1]; omega) (by decide) (fun J2 y9 x2 ea le => ?_) (fun J2 x2 no => ?_)
    · rw [g1] at ea le
      refine b_X12_earliestArrivalByHours_6 ?_
      rcases sp with ⟨_, _, no⟩ | ⟨k0, _, ea2, le2⟩
      · have := no y9 ea.1
        omega
      · have a1 := ea.2 v ea2.1
        have a2 := ea2.2 y9 ea.1
        exact fin _ J2 0 (by omega) (fun w a => x2 w (by omega)) (by omega)
    · rw [g1] at no
      refine b_X12_earliestArrivalByHours_6 ?_
      rcases sp with ⟨k2, _, _⟩ | ⟨k0, _, ea2, le2⟩
      · exact fin _ J2 2 (by omega) (fun w a => x2 w (by omega)) (by omega)
      · have := no v ea2.1
        omega
  refine b_L_law_1500 hD (by omega) (by omega) ⟨by omega, by omega, by omega, by omega, ?_⟩
  rw [hx, hy]
  have kE : ∀ (k : Int) (J1 : Nat → Int → Int) n2, W.2.2.2.2 ≤ n2 → sp_wrk J J1 → (∀ v : Int, ¬ k = 0 ∧ ((k = 1 ∧ ¬ ((0 ≤ x ∧ x < J 304 3) ∧ (0 ≤ y ∧ y < J 304 1))) ∨ (k = 2 ∧ ((0 ≤ x ∧ x < J 304 3) ∧ (0 ≤ y ∧ y < J 304 1)) ∧ ∀ t, sp_ra (J 304) x y t → J 304 0 + 99 < t) ∨ (k = 0 ∧ ((0 ≤ x ∧ x < J 304 3) ∧ (0 ≤ y ∧ y < J 304 1)) ∧ sp_ea (J 304) x y v ∧ v ≤ J 304 0 + 99))) → NW sc d_L_law D (1517, [some (.inr (.inl (some 1000000))), some (.inr (.inl (some 0))), some (.inr (.inl (some 303))), some (.inr (.inl (some 314))), some (.inr (.inl (some 315))), some (.inl i), none, none, none], [.inl k], (J1, L, nw_top W n2), c - 4, sl - 24) Qr Qx := fun k J1 n2 h2 f1 hk => md k 0 J1 L _ _ _ (by omega) (by omega) f1 (fun _ _ => rfl) (fun z => absurd z (hk 0).1) rfl (sp_wW.top h2) (hk 0).2
  have kV : ∀ (v : Int) (J1 : Nat → Int → Int), sp_wrk J J1 → (∀ k : Int, k = 0 → ((k = 1 ∧ ¬ ((0 ≤ x ∧ x < J 304 3) ∧ (0 ≤ y ∧ y < J 304 1))) ∨ (k = 2 ∧ ((0 ≤ x ∧ x < J 304 3) ∧ (0 ≤ y ∧ y < J 304 1)) ∧ ∀ t, sp_ra (J 304) x y t → J 304 0 + 99 < t) ∨ (k = 0 ∧ ((0 ≤ x ∧ x < J 304 3) ∧ (0 ≤ y ∧ y < J 304 1)) ∧ sp_ea (J 304) x y v ∧ v ≤ J 304 0 + 99))) → NW sc d_L_law D (1517, [some (.inr (.inl (some 1000000))), some (.inr (.inl (some 0))), some (.inr (.inl (some 303))), some (.inr (.inl (some 314))), some (.inr (.inl (some 315))), some (.inl i), none, none, none], [.inl 0], (J1, nw_u L 314 0 v, W), c - 4, sl - 24) Qr Qx := fun v J1 f1 hk => md 0 v J1 _ W _ _ (by omega) (by omega) f1 (fun y a => nw_uP a) (fun _ => nw_uS) rfl sp_wW.refl (hk 0 rfl)
  refine b_L_earliestArrivalByHours2_0 (by decide) (by decide) (by decide) ?_
  refine b_X11_earliestArrivalByHours_0 (by decide) (by decide) (by decide) ?_
  (repeat' (first | refine And.intro ?_ ?_ | refine fun _ => ?_))
  all_goals first | omega | (exfalso; omega) | exact kE 1 J _ (by assumption) sp_wrk.refl (fun v => ⟨by decide, Or.inl ⟨rfl, by omega⟩⟩) | (refine t_X10_arriveByHours R I ⟨by omega, by omega⟩ (by decide) (fun J1 x1 ep => ?_))
  have e1 := ep y (by omega) (by omega)
  refine b_X11_earliestArrivalByHours_22 (by decide) (by decide) (by decide) ⟨by omega, fun z => ?_, fun z n2 h2 => ?_⟩
  · have e2 := e1.1 z
    exact b_L_earliestArrivalByHours2_8 ⟨by decide, kV _ J1 (fun z a => x1 z (by omega)) (fun k z => Or.inr (Or.inr ⟨z, by omega, e2.1, e2.2⟩))⟩
  · exact kE 2 J1 n2 h2 (fun z a => x1 z (by omega)) (fun v => ⟨by decide, Or.inr (Or.inl ⟨rfl, by omega, e1.2 z⟩)⟩)
theorem case_moonAtRank {i : Int} (hi : 0 ≤ i ∧ i + 5 ≤ (sc.1 : Int) ∧ (sc.1 : Int) ≤ 2560) (h : sp_Wd J L W B) (hB : B + 2200 ≤ 4000000) (hD : 18 ≤ D) (hc : 28 ≤ c) (hs : 4006 ≤ sl) (hQ : ∀ J' L' W' c1 s1, c ≤ c1 + 28 → sl ≤ s1 + 4006 → sp_Wd J' L' W' (B + 2200) → NW sc d_L_law D (3300, [some (.inr (.inl (some 1000000))), some (.inr (.inl (some 0))), some (.inr (.inl (some 303))), some (.inr (.inl (some 314))), some (.inr (.inl (some 315))), some (.inl i), none, none, none], [], (J', L', W'), c1, s1) Qr Qx) : NW sc d_L_law D (2301, [some (.inr (.inl (some 1000000))), some (.inr (.inl (some 0))), some (.inr (.inl (some 303))), some (.inr (.inl (some 314))), some (.inr (.inl (some 315))), some (.inl i), none, none, none], [], (J, L, W), c, sl) Qr Qx := by
  have hA := h.1
  have R := sp_sh2.mp hA.1.1
  have I := hA.1.2.1
  have hbd := I.bd
  have hho := I.ho
  have hcr := I.cr
  have hch := I.ch
  have hfe := I.fe
  have hmo := I.mo
  have hnx := I.nx
  have c1 := R.cr
  have c2 := R.ch
  have c3 := R.fe
  have c4 := R.mo
  have c5 := R.ho
  obtain ⟨x, hx⟩ : ∃ x, nw_sc sc (i + 1) = x := ⟨_, rfl⟩
  have fn : ∀ (k v y : Int) (J1 J2 L1 : Nat → Int → Int) (W1 : nw_W) (c1 s1 : Nat), c ≤ c1 + 28 → sl ≤ s1 + 4006 → sp_wrk J J1 → (∀ x, ¬ (310 ≤ x ∧ x ≤ 312) → J2 x = J1 x) → (∀ y, ¬ y = 314 → L1 y = L y) → (k = 0 → L1 314 0 = v) → (k = 0 → y = v) → W1.2.1 = W.2.1 → sp_wW W W1 → NW sc d_L_law D (2324, [some (.inr (.inl (some 1000000))), some (.inr (.inl (some 0))), some (.inr (.inl (some 303))), some (.inr (.inl (some 314))), some (.inr (.inl (some 315))), some (.inl i), some (.inl k), none, none], [.inl y], (nw_u J2 303 13 k, L1, W1), c1, s1) Qr Qx := fun k v y J1 J2 L1 W1 c1 s1 e1 e2 f1 f2 fl hl hy w1 w2 => by
    have go : NW sc d_L_law D (3300, [some (.inr (.inl (some 1000000))), some (.inr (.inl (some 0))), some (.inr (.inl (some 303))), some (.inr (.inl (some 314))), some (.inr (.inl (some 315))), some (.inl i), none, none, none], [], (nw_u J2 303 13 k, L1, W1), c1, s1) Qr Qx := hQ _ _ _ _ _ e1 e2 (h.q ⟨by omega, hB⟩ (fun x a => by
      have a3 : ¬ x = 303 := by omega
      rw [nw_uP a3, f2 x (by omega), f1 x (by omega)]) (fun j a => by rw [nw_uI a, f2 303 (by omega), f1 303 (by omega)]) fl w1 w2)
    exact b_L_law_2324 hD ⟨fun _ => ⟨fun _ => go, fun z => ⟨fun _ => go, fun w => absurd (nw_cmp3_eq ((hl z).trans (hy z).symm)) w⟩⟩, fun w => absurd nw_uS w⟩
  have md : ∀ (k v : Int) (J1 L1 : Nat → Int → Int) (W1 : nw_W) (c1 s1 : Nat), c ≤ c1 + 28 → sl ≤ s1 + 4006 → sp_wrk J J1 → (∀ y, ¬ y = 314 → L1 y = L y) → (k = 0 → L1 314 0 = v) → W1.2.1 = W.2.1 → sp_wW W W1 → ((k = 1 ∧ ¬ (0 ≤ x ∧ x < J 304 4)) ∨ (k = 0 ∧ (0 ≤ x ∧ x < J 304 4) ∧ ∃ p, 0 ≤ p ∧ p < J 304 4 ∧ sp_first (fun p => sp_rank (J 304) p = x) (J 304 4) p ∧ v = J 304 (71 + p))) → NW sc d_L_law D (2312, [some (.inr (.inl (some 1000000))), some (.inr (.inl (some 0))), some (.inr (.inl (some 303))), some (.inr (.inl (some 314))), some (.inr (.inl (some 315))), some (.inl i), none, none, none], [.inl k], (J1, L1, W1), c1, s1) Qr Qx := fun k v J1 L1 W1 c1 s1 e1 e2 f1 fl hl w1 w2 sp => by
    have g1 : J1 304 = J 304 := f1 304 (by omega)
    have I1 : Inv (J1 304) B := by rw [g1]; exact I
    have fin : ∀ (y : Int) (J2 : Nat → Int → Int) k9, k9 = k → (∀ x, ¬ (310 ≤ x ∧ x ≤ 312) → J2 x = J1 x) → (k = 0 → y = v) → NW sc d_L_law D (2324, [some (.inr (.inl (some 1000000))), some (.inr (.inl (some 0))), some (.inr (.inl (some 303))), some (.inr (.inl (some 314))), some (.inr (.inl (some 315))), some (.inl i), some (.inl k), none, none], [.inl y], (nw_u J2 303 13 k9, L1, W1), c1, s1) Qr Qx := fun y J2 k9 e9 f2 hy => by
      subst e9
      exact fn _ v y J1 J2 L1 W1 c1 s1 e1 e2 f1 f2 fl hl hy w1 w2
    refine b_L_law_2312 hD ⟨by omega, by omega, ?_⟩
    rw [hx]
    refine t_X12_moonAtRank I1 (by decide) (fun q hq J2 x2 => ?_)
    rw [g1] at hq
    rw [g1]
    rcases sp with ⟨k1, nv⟩ | ⟨k0, hv, p, p0, p1, p2, p3⟩
    · by_cases z : q = -1
      · rw [if_pos z, if_pos z]
        exact fin _ J2 1 (by omega) (fun w a => x2 w (by omega)) (by omega)
      · exfalso
        rcases hq with ⟨a, _⟩ | ⟨a, b, c9, _⟩
        · exact z a
        · have := sp_rank_rng I (p := q) ⟨a, b⟩
          have c9 : sp_rank (J 304) q = x := c9
          omega
    · have e := sp_first_uniq hq p2
      rw [if_neg (by omega), if_neg (by omega)]
      exact fin _ J2 0 (by omega) (fun w a => x2 w (by omega)) (by intro _; rw [p3, e])
  refine b_L_law_2301 hD (by omega) (by omega) ⟨by omega, by omega, ?_⟩
  rw [hx]
  have kE : ∀ (k : Int) (J1 : Nat → Int → Int) n2, W.2.2.2.2 ≤ n2 → sp_wrk J J1 → (∀ v : Int, ¬ k = 0 ∧ ((k = 1 ∧ ¬ (0 ≤ x ∧ x < J 304 4)) ∨ (k = 0 ∧ (0 ≤ x ∧ x < J 304 4) ∧ ∃ p, 0 ≤ p ∧ p < J 304 4 ∧ sp_first (fun p => sp_rank (J 304) p = x) (J 304 4) p ∧ v = J 304 (71 + p)))) → NW sc d_L_law D (2312, [some (.inr (.inl (some 1000000))), some (.inr (.inl (some 0))), some (.inr (.inl (some 303))), some (.inr (.inl (some 314))), some (.inr (.inl (some 315))), some (.inl i), none, none, none], [.inl k], (J1, L, nw_top W n2), c - 4, sl - 24) Qr Qx := fun k J1 n2 h2 f1 hk => md k 0 J1 L _ _ _ (by omega) (by omega) f1 (fun _ _ => rfl) (fun z => absurd z (hk 0).1) rfl (sp_wW.top h2) (hk 0).2
  have kV : ∀ (v : Int) (J1 : Nat → Int → Int), sp_wrk J J1 → (∀ k : Int, k = 0 → ((k = 1 ∧ ¬ (0 ≤ x ∧ x < J 304 4)) ∨ (k = 0 ∧ (0 ≤ x ∧ x < J 304 4) ∧ ∃ p, 0 ≤ p ∧ p < J 304 4 ∧ sp_first (fun p => sp_rank (J 304) p = x) (J 304 4) p ∧ v = J 304 (71 + p)))) → NW sc d_L_law D (2312, [some (.inr (.inl (some 1000000))), some (.inr (.inl (some 0))), some (.inr (.inl (some 303))), some (.inr (.inl (some 314))), some (.inr (.inl (some 315))), some (.inl i), none, none, none], [.inl 0], (J1, nw_u L 314 0 v, W), c - 4, sl - 24) Qr Qx := fun v J1 f1 hk => md 0 v J1 _ W _ _ (by omega) (by omega) f1 (fun y a => nw_uP a) (fun _ => nw_uS) rfl sp_wW.refl (hk 0 rfl)
  refine b_L_moonAtRank2_0 (by decide) (by decide) (by decide) ?_
  refine b_X11_moonAtRank_0 (by decide) (by decide) (by decide) ?_
  (repeat' (first | refine And.intro ?_ ?_ | refine fun _ => ?_))
  all_goals first | omega | (exfalso; omega) | exact kE 1 J _ (by assumption) sp_wrk.refl (fun v => ⟨by decide, Or.inl ⟨rfl, by omega⟩⟩) | (refine t_X3_askAll R I (by decide) (fun J1 x1 n1 y1 f1 => ?_))
  have R1 : RC J1 L (J 304) := R.keep I (fun z a b => x1 z (by unfold sp_scr; omega))
  refine b_X11_moonAtRank_37 (by decide) (t_X3_placeAtRank I n1 f1 (by decide) (fun q hq => ?_))
  obtain ⟨p, p0, p1, p2⟩ := sp_rank_ex I (r := x) ⟨by omega, by omega⟩
  have hr := sp_first_rng hq
  have hq0 : 0 ≤ q ∧ q < J 304 4 := by
    rcases hq with ⟨_, no⟩ | ⟨a, b, _, _⟩
    · exact absurd p2 (no p p0 p1)
    · exact ⟨a, b⟩
  rw [if_neg (show ¬ q = -1 by omega)]
  have mq := R1.moo q hq0.1 hq0.2
  refine b_X11_moonAtRank_55 ⟨by omega, ?_⟩
  rw [mq.1]
  exact b_L_moonAtRank2_7 ⟨by decide, kV _ J1 (fun z a => x1 z (by unfold sp_scr; omega)) (fun k z => Or.inr ⟨z, by omega, q, hq0.1, hq0.2, hq, rfl⟩)⟩
theorem case_countBelow {i : Int} (hi : 0 ≤ i ∧ i + 5 ≤ (sc.1 : Int) ∧ (sc.1 : Int) ≤ 2560) (h : sp_Wd J L W B) (hB : B + 2200 ≤ 4000000) (hD : 18 ≤ D) (hc : 28 ≤ c) (hs : 4006 ≤ sl) (hQ : ∀ J' L' W' c1 s1, c ≤ c1 + 28 → sl ≤ s1 + 4006 → sp_Wd J' L' W' (B + 2200) → NW sc d_L_law D (3300, [some (.inr (.inl (some 1000000))), some (.inr (.inl (some 0))), some (.inr (.inl (some 303))), some (.inr (.inl (some 314))), some (.inr (.inl (some 315))), some (.inl i), none, none, none], [], (J', L', W'), c1, s1) Qr Qx) : NW sc d_L_law D (2357, [some (.inr (.inl (some 1000000))), some (.inr (.inl (some 0))), some (.inr (.inl (some 303))), some (.inr (.inl (some 314))), some (.inr (.inl (some 315))), some (.inl i), none, none, none], [], (J, L, W), c, sl) Qr Qx := by
  have hA := h.1
  have R := sp_sh2.mp hA.1.1
  have I := hA.1.2.1
  have hbd := I.bd
  have hho := I.ho
  have hcr := I.cr
  have hch := I.ch
  have hfe := I.fe
  have hmo := I.mo
  have hnx := I.nx
  have c1 := R.cr
  have c2 := R.ch
  have c3 := R.fe
  have c4 := R.mo
  have c5 := R.ho
  have eg : ((J 304 4).toNat : Int) = J 304 4 := by omega
  have fb : ∀ i : Int, 0 ≤ i → i < ((J 304 4).toNat : Nat) → -1000000 < sp_fare (J 304) i ∧ sp_fare (J 304) i < 1000000 := fun i a b => by
    have := sp_fare_bd I (p := i) ⟨a, by omega⟩
    omega
  refine b_L_law_2357 hD ⟨by omega, by omega, b_X11_countBelow_0 (by decide) (t_X3_askAll R I (by decide) (fun J1 x1 n1 y1 f1 => ?_))⟩
  refine b_X11_countBelow_11 (by decide) (t_X3_growTree (n := (J 304 4).toNat) (f := sp_fare (J 304)) (by rw [n1]; exact eg.symm) (by omega) (fun i a b => f1 i a (by omega)) fb (by decide) (fun J2 k lo hi x2 y2 T2 => ?_))
  refine b_X11_countBelow_18 (by decide) (t_X3_lessInTree T2 fb (b_X11_countBelow_26 ?_))
  have w2 : sp_wrk J J2 := fun x a => by rw [x2 x (by omega), x1 x (by unfold sp_scr; omega)]
  have g2 : J2 304 = J 304 := w2 304 (by omega)
  refine b_L_law_2367 hD ⟨by omega, by omega, t_X12_countBelow (B := B) (by rw [g2]; exact I) (by decide) (fun J3 x3 => ?_)⟩
  rw [g2]
  refine b_L_law_2377 ⟨fun _ => ?_, fun w => absurd rfl w⟩
  exact hQ _ _ _ _ _ (by omega) (by omega) (h.q ⟨by omega, hB⟩ (fun x a => by
    have a3 : ¬ x = 303 := by omega
    rw [nw_uP a3, x3 x (by omega), w2 x (by omega)]) (fun j a => by rw [nw_uI a, x3 303 (by decide), w2 303 (by omega)]) (fun _ _ => rfl) rfl sp_wW.refl)
theorem case_countBelowByAsking {i : Int} (hi : 0 ≤ i ∧ i + 5 ≤ (sc.1 : Int) ∧ (sc.1 : Int) ≤ 2560) (h : sp_Wd J L W B) (hB : B + 2200 ≤ 4000000) (hD : 18 ≤ D) (hc : 28 ≤ c) (hs : 4006 ≤ sl) (hQ : ∀ J' L' W' c1 s1, c ≤ c1 + 28 → sl ≤ s1 + 4006 → sp_Wd J' L' W' (B + 2200) → NW sc d_L_law D (3300, [some (.inr (.inl (some 1000000))), some (.inr (.inl (some 0))), some (.inr (.inl (some 303))), some (.inr (.inl (some 314))), some (.inr (.inl (some 315))), some (.inl i), none, none, none], [], (J', L', W'), c1, s1) Qr Qx) : NW sc d_L_law D (2382, [some (.inr (.inl (some 1000000))), some (.inr (.inl (some 0))), some (.inr (.inl (some 303))), some (.inr (.inl (some 314))), some (.inr (.inl (some 315))), some (.inl i), none, none, none], [], (J, L, W), c, sl) Qr Qx := by
  have hA := h.1
  have R := sp_sh2.mp hA.1.1
  have I := hA.1.2.1
  have hbd := I.bd
  have hho := I.ho
  have hcr := I.cr
  have hch := I.ch
  have hfe := I.fe
  have hmo := I.mo
  have hnx := I.nx
  have c1 := R.cr
  have c2 := R.ch
  have c3 := R.fe
  have c4 := R.mo
  have c5 := R.ho
  refine b_L_law_2382 hD ⟨by omega, by omega, b_X11_countBelowByAsking_0 (by decide) (t_X3_askAll R I (by decide) (fun J1 x1 n1 y1 f1 => ?_))⟩
  refine b_X11_countBelowByAsking_11 (by decide) (t_X3_lessByAsking I n1 f1 (b_X11_countBelowByAsking_19 ?_))
  have w2 : sp_wrk J J1 := fun x a => x1 x (by unfold sp_scr; omega)
  have g2 : J1 304 = J 304 := w2 304 (by omega)
  refine b_L_law_2392 hD ⟨by omega, by omega, b_X12_countBelowByAsking_0 (by decide) (t_X12_countBelow (B := B) (by rw [g2]; exact I) (by decide) (fun J3 x3 => b_X12_countBelowByAsking_5 ?_))⟩
  rw [g2]
  refine b_L_law_2402 ⟨fun _ => ?_, fun w => absurd rfl w⟩
  exact hQ _ _ _ _ _ (by omega) (by omega) (h.q ⟨by omega, hB⟩ (fun x a => by
    have a3 : ¬ x = 303 := by omega
    rw [nw_uP a3, x3 x (by omega), w2 x (by omega)]) (fun j a => by rw [nw_uI a, x3 303 (by decide), w2 303 (by omega)]) (fun _ _ => rfl) rfl sp_wW.refl)
theorem case_coins {i : Int} (hi : 0 ≤ i ∧ i + 5 ≤ (sc.1 : Int) ∧ (sc.1 : Int) ≤ 2560) (h : sp_Wd J L W B) (hB : B + 2200 ≤ 4000000) (hD : 18 ≤ D) (hc : 28 ≤ c) (hs : 4006 ≤ sl) (hQ : ∀ J' L' W' c1 s1, c ≤ c1 + 28 → sl ≤ s1 + 4006 → sp_Wd J' L' W' (B + 2200) → NW sc d_L_law D (3300, [some (.inr (.inl (some 1000000))), some (.inr (.inl (some 0))), some (.inr (.inl (some 303))), some (.inr (.inl (some 314))), some (.inr (.inl (some 315))), some (.inl i), none, none, none], [], (J', L', W'), c1, s1) Qr Qx) : NW sc d_L_law D (2714, [some (.inr (.inl (some 1000000))), some (.inr (.inl (some 0))), some (.inr (.inl (some 303))), some (.inr (.inl (some 314))), some (.inr (.inl (some 315))), some (.inl i), none, none, none], [], (J, L, W), c, sl) Qr Qx := by
  have hA := h.1
  have R := sp_sh2.mp hA.1.1
  have I := hA.1.2.1
  have hbd := I.bd
  have hho := I.ho
  have hcr := I.cr
  have hch := I.ch
  have hfe := I.fe
  have hmo := I.mo
  have hnx := I.nx
  have c1 := R.cr
  have c2 := R.ch
  have c3 := R.fe
  have c4 := R.mo
  have c5 := R.ho
  have c6 := R.pu
  have hfa := I.fa
  have hre := I.re
  refine b_L_law_2714 hD (b_X11_coins_0 (b_L_law_2718 hD (b_X12_coins_0 ⟨by omega, by omega, b_L_law_2722 ⟨fun _ => ?_, fun w => absurd (nw_cmp3_eq c6) w⟩⟩)))
  exact hQ _ _ _ _ _ (by omega) (by omega) (h.q ⟨by omega, hB⟩ (fun x a => by
    have a3 : ¬ x = 303 := by omega
    exact nw_uP a3) (fun j a => nw_uI a) (fun _ _ => rfl) rfl sp_wW.refl)
theorem case_isConsistent {i : Int} (hi : 0 ≤ i ∧ i + 5 ≤ (sc.1 : Int) ∧ (sc.1 : Int) ≤ 2560) (h : sp_Wd J L W B) (hB : B + 2200 ≤ 4000000) (hD : 18 ≤ D) (hc : 28 ≤ c) (hs : 4006 ≤ sl) (hQ : ∀ J' L' W' c1 s1, c ≤ c1 + 28 → sl ≤ s1 + 4006 → sp_Wd J' L' W' (B + 2200) → NW sc d_L_law D (3300, [some (.inr (.inl (some 1000000))), some (.inr (.inl (some 0))), some (.inr (.inl (some 303))), some (.inr (.inl (some 314))), some (.inr (.inl (some 315))), some (.inl i), none, none, none], [], (J', L', W'), c1, s1) Qr Qx) : NW sc d_L_law D (3186, [some (.inr (.inl (some 1000000))), some (.inr (.inl (some 0))), some (.inr (.inl (some 303))), some (.inr (.inl (some 314))), some (.inr (.inl (some 315))), some (.inl i), none, none, none], [], (J, L, W), c, sl) Qr Qx := by
  have hA := h.1
  have R := sp_sh2.mp hA.1.1
  have I := hA.1.2.1
  have hbd := I.bd
  have hho := I.ho
  have hcr := I.cr
  have hch := I.ch
  have hfe := I.fe
  have hmo := I.mo
  have hnx := I.nx
  have c1 := R.cr
  have c2 := R.ch
  have c3 := R.fe
  have c4 := R.mo
  have c5 := R.ho
  refine b_L_law_3186 hD (t_X11_isConsistent R I (by decide) (fun J1 w1 => b_L_law_3190 hD (b_X12_isConsistent_0 (b_L_law_3194 ⟨fun _ => ?_, fun w => absurd rfl w⟩))))
  exact hQ _ _ _ _ _ (by omega) (by omega) (h.q ⟨by omega, hB⟩ (fun x a => by
    have a3 : ¬ x = 303 := by omega
    rw [nw_uP a3]
    exact w1 x (by omega)) (fun j a => by rw [nw_uI a, w1 303 (by omega)]) (fun _ _ => rfl) rfl sp_wW.refl)
end
