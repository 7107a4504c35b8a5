/-! the law: text, line, history -/
section
variable {sc : Nat × (Nat → Int32)} {D : Nat} {J L : Nat → Int → Int} {W : nw_W} {c sl : Nat} {Qr : nw_QR} {Qx : nw_QX} {g : Int → Int} {B : Int}
theorem case_refusalReason {i : Int} (hi : 0 ≤ i ∧ i + 5 ≤ (sc.1 : Int) ∧ (sc.1 : Int) ≤ 2560) (h : sp_Wd J L W B) (hB : B + 2200 ≤ 4000000) (hD : 18 ≤ D) (hc : 28 ≤ c) (hs : 4006 ≤ sl) (hQ : ∀ J' L' W' c1 s1, c ≤ c1 + 28 → sl ≤ s1 + 4006 → sp_Wd J' L' W' (B + 2200) → NW sc d_L_law D (3300, [some (.inr (.inl (some 1000000))), some (.inr (.inl (some 0))), some (.inr (.inl (some 303))), some (.inr (.inl (some 314))), some (.inr (.inl (some 315))), some (.inl i), none, none, none], [], (J', L', W'), c1, s1) Qr Qx) : NW sc d_L_law D (2476, [some (.inr (.inl (some 1000000))), some (.inr (.inl (some 0))), some (.inr (.inl (some 303))), some (.inr (.inl (some 314))), some (.inr (.inl (some 315))), some (.inl i), none, none, none], [], (J, L, W), c, sl) Qr Qx := by
  have hA := h.1
  have R := sp_sh2.mp hA.1.1
  have I := hA.1.2.1
  have hbd := I.bd
  have hho := I.ho
  have hcr := I.cr
  have hch := I.ch
  have hfe := I.fe
  have hmo := I.mo
  have hnx := I.nx
  have c1 := R.cr
  have c2 := R.ch
  have c3 := R.fe
  have c4 := R.mo
  have c5 := R.ho
  have wr : (J 303 10 = 0 ∧ J 1 0 = -1) ∨ (1 ≤ J 303 10 ∧ J 1 0 = J 303 10) := h.2.1
  have fn : ∀ (k v y : Int) (J1 J2 L1 : Nat → Int → Int) (W1 : nw_W) (c1 s1 : Nat), c ≤ c1 + 28 → sl ≤ s1 + 4006 → sp_wrk J J1 → (∀ x, ¬ (310 ≤ x ∧ x ≤ 312) → J2 x = J1 x) → (∀ y, ¬ y = 314 → L1 y = L y) → (k = 0 → L1 314 0 = v) → (k = 0 → y = v) → W1.2.1 = W.2.1 → sp_wW W W1 → NW sc d_L_law D (2487, [some (.inr (.inl (some 1000000))), some (.inr (.inl (some 0))), some (.inr (.inl (some 303))), some (.inr (.inl (some 314))), some (.inr (.inl (some 315))), some (.inl i), some (.inl k), none, none], [.inl y], (nw_u J2 303 13 k, L1, W1), c1, s1) Qr Qx := fun k v y J1 J2 L1 W1 c1 s1 e1 e2 f1 f2 fl hl hy w1 w2 => by
    have go : NW sc d_L_law D (3300, [some (.inr (.inl (some 1000000))), some (.inr (.inl (some 0))), some (.inr (.inl (some 303))), some (.inr (.inl (some 314))), some (.inr (.inl (some 315))), some (.inl i), none, none, none], [], (nw_u J2 303 13 k, L1, W1), c1, s1) Qr Qx := hQ _ _ _ _ _ e1 e2 (h.q ⟨by omega, hB⟩ (fun x a => by
      have a3 : ¬ x = 303 := by omega
      rw [nw_uP a3, f2 x (by omega), f1 x (by omega)]) (fun j a => by rw [nw_uI a, f2 303 (by omega), f1 303 (by omega)]) fl w1 w2)
    exact b_L_law_2487 hD ⟨fun _ => ⟨fun _ => go, fun z => ⟨fun _ => go, fun w => absurd (nw_cmp3_eq ((hl z).trans (hy z).symm)) w⟩⟩, fun w => absurd nw_uS w⟩
  have md : ∀ (k v : Int) (J1 L1 : Nat → Int → Int) (W1 : nw_W) (c1 s1 : Nat), c ≤ c1 + 28 → sl ≤ s1 + 4006 → sp_wrk J J1 → (∀ y, ¬ y = 314 → L1 y = L y) → (k = 0 → L1 314 0 = v) → W1.2.1 = W.2.1 → sp_wW W W1 → ((k = 1 ∧ J 303 10 = 0) ∨ (k = 0 ∧ 1 ≤ J 303 10 ∧ v = J 303 10)) → NW sc d_L_law D (2481, [some (.inr (.inl (some 1000000))), some (.inr (.inl (some 0))), some (.inr (.inl (some 303))), some (.inr (.inl (some 314))), some (.inr (.inl (some 315))), some (.inl i), none, none, none], [.inl k], (J1, L1, W1), c1, s1) Qr Qx := fun k v J1 L1 W1 c1 s1 e1 e2 f1 fl hl w1 w2 sp => by
    have g1 : J1 304 = J 304 := f1 304 (by omega)
    have I1 : Inv (J1 304) B := by rw [g1]; exact I
    have fin : ∀ (y : Int) (J2 : Nat → Int → Int) k9, k9 = k → (∀ x, ¬ (310 ≤ x ∧ x ≤ 312) → J2 x = J1 x) → (k = 0 → y = v) → NW sc d_L_law D (2487, [some (.inr (.inl (some 1000000))), some (.inr (.inl (some 0))), some (.inr (.inl (some 303))), some (.inr (.inl (some 314))), some (.inr (.inl (some 315))), some (.inl i), some (.inl k), none, none], [.inl y], (nw_u J2 303 13 k9, L1, W1), c1, s1) Qr Qx := fun y J2 k9 e9 f2 hy => by
      subst e9
      exact fn _ v y J1 J2 L1 W1 c1 s1 e1 e2 f1 f2 fl hl hy w1 w2
    refine b_L_law_2481 hD ?_
    have g3 : J1 303 = J 303 := f1 303 (by omega)
    refine b_X12_refusalReason_0 (by decide) ?_
    rw [g3]
    ((repeat' (first | refine And.intro ?_ ?_ | refine fun _ => ?_)); all_goals first | omega | (exfalso; omega) | exact fin _ J1 _ (by omega) (fun _ _ => rfl) (by omega))
  refine b_L_law_2476 hD (by omega) (by omega) ?_
  have kE : ∀ (k : Int) (J1 : Nat → Int → Int) n2, W.2.2.2.2 ≤ n2 → sp_wrk J J1 → (∀ v : Int, ¬ k = 0 ∧ ((k = 1 ∧ J 303 10 = 0) ∨ (k = 0 ∧ 1 ≤ J 303 10 ∧ v = J 303 10))) → NW sc d_L_law D (2481, [some (.inr (.inl (some 1000000))), some (.inr (.inl (some 0))), some (.inr (.inl (some 303))), some (.inr (.inl (some 314))), some (.inr (.inl (some 315))), some (.inl i), none, none, none], [.inl k], (J1, L, nw_top W n2), c - 4, sl - 24) Qr Qx := fun k J1 n2 h2 f1 hk => md k 0 J1 L _ _ _ (by omega) (by omega) f1 (fun _ _ => rfl) (fun z => absurd z (hk 0).1) rfl (sp_wW.top h2) (hk 0).2
  have kV : ∀ (v : Int) (J1 : Nat → Int → Int), sp_wrk J J1 → (∀ k : Int, k = 0 → ((k = 1 ∧ J 303 10 = 0) ∨ (k = 0 ∧ 1 ≤ J 303 10 ∧ v = J 303 10))) → NW sc d_L_law D (2481, [some (.inr (.inl (some 1000000))), some (.inr (.inl (some 0))), some (.inr (.inl (some 303))), some (.inr (.inl (some 314))), some (.inr (.inl (some 315))), some (.inl i), none, none, none], [.inl 0], (J1, nw_u L 314 0 v, W), c - 4, sl - 24) Qr Qx := fun v J1 f1 hk => md 0 v J1 _ W _ _ (by omega) (by omega) f1 (fun y a => nw_uP a) (fun _ => nw_uS) rfl sp_wW.refl (hk 0 rfl)
  refine b_L_refusalReason2_0 (by decide) (by decide) (by decide) ?_
  refine b_X11_refusalReason_0 (by decide) (by decide) (by decide) ?_
  ((repeat' (first | refine And.intro ?_ ?_ | refine fun _ => ?_)); all_goals first | omega | (exfalso; omega) | exact kE 1 J _ (by assumption) sp_wrk.refl (fun v => by omega) | exact b_L_refusalReason2_6 ⟨by decide, kV _ J sp_wrk.refl (fun k z => by omega)⟩)
theorem case_errorPosition {i : Int} (hi : 0 ≤ i ∧ i + 5 ≤ (sc.1 : Int) ∧ (sc.1 : Int) ≤ 2560) (h : sp_Wd J L W B) (hB : B + 2200 ≤ 4000000) (hD : 18 ≤ D) (hc : 28 ≤ c) (hs : 4006 ≤ sl) (hQ : ∀ J' L' W' c1 s1, c ≤ c1 + 28 → sl ≤ s1 + 4006 → sp_Wd J' L' W' (B + 2200) → NW sc d_L_law D (3300, [some (.inr (.inl (some 1000000))), some (.inr (.inl (some 0))), some (.inr (.inl (some 303))), some (.inr (.inl (some 314))), some (.inr (.inl (some 315))), some (.inl i), none, none, none], [], (J', L', W'), c1, s1) Qr Qx) : NW sc d_L_law D (2843, [some (.inr (.inl (some 1000000))), some (.inr (.inl (some 0))), some (.inr (.inl (some 303))), some (.inr (.inl (some 314))), some (.inr (.inl (some 315))), some (.inl i), none, none, none], [], (J, L, W), c, sl) Qr Qx := by
  have hA := h.1
  have R := sp_sh2.mp hA.1.1
  have I := hA.1.2.1
  have hbd := I.bd
  have hho := I.ho
  have hcr := I.cr
  have hch := I.ch
  have hfe := I.fe
  have hmo := I.mo
  have hnx := I.nx
  have c1 := R.cr
  have c2 := R.ch
  have c3 := R.fe
  have c4 := R.mo
  have c5 := R.ho
  have wr : J 0 11 = J 303 8 ∧ J 0 12 = J 303 9 := h.2.2.1
  have fn : ∀ (k v y : Int) (J1 J2 L1 : Nat → Int → Int) (W1 : nw_W) (c1 s1 : Nat), c ≤ c1 + 28 → sl ≤ s1 + 4006 → sp_wrk J J1 → (∀ x, ¬ (310 ≤ x ∧ x ≤ 312) → J2 x = J1 x) → (∀ y, ¬ y = 314 → L1 y = L y) → (k = 0 → L1 314 0 = v) → (k = 0 → y = v) → W1.2.1 = W.2.1 → sp_wW W W1 → NW sc d_L_law D (2854, [some (.inr (.inl (some 1000000))), some (.inr (.inl (some 0))), some (.inr (.inl (some 303))), some (.inr (.inl (some 314))), some (.inr (.inl (some 315))), some (.inl i), some (.inl k), none, none], [.inl y], (nw_u J2 303 13 k, L1, W1), c1, s1) Qr Qx := fun k v y J1 J2 L1 W1 c1 s1 e1 e2 f1 f2 fl hl hy w1 w2 => by
    have go : NW sc d_L_law D (3300, [some (.inr (.inl (some 1000000))), some (.inr (.inl (some 0))), some (.inr (.inl (some 303))), some (.inr (.inl (some 314))), some (.inr (.inl (some 315))), some (.inl i), none, none, none], [], (nw_u J2 303 13 k, L1, W1), c1, s1) Qr Qx := hQ _ _ _ _ _ e1 e2 (h.q ⟨by omega, hB⟩ (fun x a => by
      have a3 : ¬ x = 303 := by omega
      rw [nw_uP a3, f2 x (by omega), f1 x (by omega)]) (fun j a => by rw [nw_uI a, f2 303 (by omega), f1 303 (by omega)]) fl w1 w2)
    exact b_L_law_2854 hD ⟨fun _ => ⟨fun _ => go, fun z => ⟨fun _ => go, fun w => absurd (nw_cmp3_eq ((hl z).trans (hy z).symm)) w⟩⟩, fun w => absurd nw_uS w⟩
  have md : ∀ (k v : Int) (J1 L1 : Nat → Int → Int) (W1 : nw_W) (c1 s1 : Nat), c ≤ c1 + 28 → sl ≤ s1 + 4006 → sp_wrk J J1 → (∀ y, ¬ y = 314 → L1 y = L y) → (k = 0 → L1 314 0 = v) → W1.2.1 = W.2.1 → sp_wW W W1 → ((k = 1 ∧ J 303 8 = -1) ∨ (k = 0 ∧ ¬ J 303 8 = -1 ∧ v = J 303 8)) → NW sc d_L_law D (2848, [some (.inr (.inl (some 1000000))), some (.inr (.inl (some 0))), some (.inr (.inl (some 303))), some (.inr (.inl (some 314))), some (.inr (.inl (some 315))), some (.inl i), none, none, none], [.inl k], (J1, L1, W1), c1, s1) Qr Qx := fun k v J1 L1 W1 c1 s1 e1 e2 f1 fl hl w1 w2 sp => by
    have g1 : J1 304 = J 304 := f1 304 (by omega)
    have I1 : Inv (J1 304) B := by rw [g1]; exact I
    have fin : ∀ (y : Int) (J2 : Nat → Int → Int) k9, k9 = k → (∀ x, ¬ (310 ≤ x ∧ x ≤ 312) → J2 x = J1 x) → (k = 0 → y = v) → NW sc d_L_law D (2854, [some (.inr (.inl (some 1000000))), some (.inr (.inl (some 0))), some (.inr (.inl (some 303))), some (.inr (.inl (some 314))), some (.inr (.inl (some 315))), some (.inl i), some (.inl k), none, none], [.inl y], (nw_u J2 303 13 k9, L1, W1), c1, s1) Qr Qx := fun y J2 k9 e9 f2 hy => by
      subst e9
      exact fn _ v y J1 J2 L1 W1 c1 s1 e1 e2 f1 f2 fl hl hy w1 w2
    refine b_L_law_2848 hD ?_
    have g3 : J1 303 = J 303 := f1 303 (by omega)
    refine b_X12_errorPosition_0 (by decide) ?_
    rw [g3]
    ((repeat' (first | refine And.intro ?_ ?_ | refine fun _ => ?_)); all_goals first | omega | (exfalso; omega) | exact fin _ J1 _ (by omega) (fun _ _ => rfl) (by omega))
  refine b_L_law_2843 hD (by omega) (by omega) ?_
  have kE : ∀ (k : Int) (J1 : Nat → Int → Int) n2, W.2.2.2.2 ≤ n2 → sp_wrk J J1 → (∀ v : Int, ¬ k = 0 ∧ ((k = 1 ∧ J 303 8 = -1) ∨ (k = 0 ∧ ¬ J 303 8 = -1 ∧ v = J 303 8))) → NW sc d_L_law D (2848, [some (.inr (.inl (some 1000000))), some (.inr (.inl (some 0))), some (.inr (.inl (some 303))), some (.inr (.inl (some 314))), some (.inr (.inl (some 315))), some (.inl i), none, none, none], [.inl k], (J1, L, nw_top W n2), c - 4, sl - 24) Qr Qx := fun k J1 n2 h2 f1 hk => md k 0 J1 L _ _ _ (by omega) (by omega) f1 (fun _ _ => rfl) (fun z => absurd z (hk 0).1) rfl (sp_wW.top h2) (hk 0).2
  have kV : ∀ (v : Int) (J1 : Nat → Int → Int), sp_wrk J J1 → (∀ k : Int, k = 0 → ((k = 1 ∧ J 303 8 = -1) ∨ (k = 0 ∧ ¬ J 303 8 = -1 ∧ v = J 303 8))) → NW sc d_L_law D (2848, [some (.inr (.inl (some 1000000))), some (.inr (.inl (some 0))), some (.inr (.inl (some 303))), some (.inr (.inl (some 314))), some (.inr (.inl (some 315))), some (.inl i), none, none, none], [.inl 0], (J1, nw_u L 314 0 v, W), c - 4, sl - 24) Qr Qx := fun v J1 f1 hk => md 0 v J1 _ W _ _ (by omega) (by omega) f1 (fun y a => nw_uP a) (fun _ => nw_uS) rfl sp_wW.refl (hk 0 rfl)
  refine b_L_errorPosition2_0 (by decide) (by decide) (by decide) ?_
  refine b_X11_errorPosition_0 (by decide) (by decide) (by decide) ?_
  ((repeat' (first | refine And.intro ?_ ?_ | refine fun _ => ?_)); all_goals first | omega | (exfalso; omega) | exact kE 1 J _ (by assumption) sp_wrk.refl (fun v => by omega) | exact b_L_errorPosition2_6 ⟨by decide, kV _ J sp_wrk.refl (fun k z => by omega)⟩)
theorem case_failedCommand {i : Int} (hi : 0 ≤ i ∧ i + 5 ≤ (sc.1 : Int) ∧ (sc.1 : Int) ≤ 2560) (h : sp_Wd J L W B) (hB : B + 2200 ≤ 4000000) (hD : 18 ≤ D) (hc : 28 ≤ c) (hs : 4006 ≤ sl) (hQ : ∀ J' L' W' c1 s1, c ≤ c1 + 28 → sl ≤ s1 + 4006 → sp_Wd J' L' W' (B + 2200) → NW sc d_L_law D (3300, [some (.inr (.inl (some 1000000))), some (.inr (.inl (some 0))), some (.inr (.inl (some 303))), some (.inr (.inl (some 314))), some (.inr (.inl (some 315))), some (.inl i), none, none, none], [], (J', L', W'), c1, s1) Qr Qx) : NW sc d_L_law D (2887, [some (.inr (.inl (some 1000000))), some (.inr (.inl (some 0))), some (.inr (.inl (some 303))), some (.inr (.inl (some 314))), some (.inr (.inl (some 315))), some (.inl i), none, none, none], [], (J, L, W), c, sl) Qr Qx := by
  have hA := h.1
  have R := sp_sh2.mp hA.1.1
  have I := hA.1.2.1
  have hbd := I.bd
  have hho := I.ho
  have hcr := I.cr
  have hch := I.ch
  have hfe := I.fe
  have hmo := I.mo
  have hnx := I.nx
  have c1 := R.cr
  have c2 := R.ch
  have c3 := R.fe
  have c4 := R.mo
  have c5 := R.ho
  have wr : J 0 11 = J 303 8 ∧ J 0 12 = J 303 9 := h.2.2.1
  have fn : ∀ (k v y : Int) (J1 J2 L1 : Nat → Int → Int) (W1 : nw_W) (c1 s1 : Nat), c ≤ c1 + 28 → sl ≤ s1 + 4006 → sp_wrk J J1 → (∀ x, ¬ (310 ≤ x ∧ x ≤ 312) → J2 x = J1 x) → (∀ y, ¬ y = 314 → L1 y = L y) → (k = 0 → L1 314 0 = v) → (k = 0 → y = v) → W1.2.1 = W.2.1 → sp_wW W W1 → NW sc d_L_law D (2898, [some (.inr (.inl (some 1000000))), some (.inr (.inl (some 0))), some (.inr (.inl (some 303))), some (.inr (.inl (some 314))), some (.inr (.inl (some 315))), some (.inl i), some (.inl k), none, none], [.inl y], (nw_u J2 303 13 k, L1, W1), c1, s1) Qr Qx := fun k v y J1 J2 L1 W1 c1 s1 e1 e2 f1 f2 fl hl hy w1 w2 => by
    have go : NW sc d_L_law D (3300, [some (.inr (.inl (some 1000000))), some (.inr (.inl (some 0))), some (.inr (.inl (some 303))), some (.inr (.inl (some 314))), some (.inr (.inl (some 315))), some (.inl i), none, none, none], [], (nw_u J2 303 13 k, L1, W1), c1, s1) Qr Qx := hQ _ _ _ _ _ e1 e2 (h.q ⟨by omega, hB⟩ (fun x a => by
      have a3 : ¬ x = 303 := by omega
      rw [nw_uP a3, f2 x (by omega), f1 x (by omega)]) (fun j a => by rw [nw_uI a, f2 303 (by omega), f1 303 (by omega)]) fl w1 w2)
    exact b_L_law_2898 hD ⟨fun _ => ⟨fun _ => go, fun z => ⟨fun _ => go, fun w => absurd (nw_cmp3_eq ((hl z).trans (hy z).symm)) w⟩⟩, fun w => absurd nw_uS w⟩
  have md : ∀ (k v : Int) (J1 L1 : Nat → Int → Int) (W1 : nw_W) (c1 s1 : Nat), c ≤ c1 + 28 → sl ≤ s1 + 4006 → sp_wrk J J1 → (∀ y, ¬ y = 314 → L1 y = L y) → (k = 0 → L1 314 0 = v) → W1.2.1 = W.2.1 → sp_wW W W1 → ((k = 1 ∧ J 303 9 = -1) ∨ (k = 0 ∧ ¬ J 303 9 = -1 ∧ v = J 303 9)) → NW sc d_L_law D (2892, [some (.inr (.inl (some 1000000))), some (.inr (.inl (some 0))), some (.inr (.inl (some 303))), some (.inr (.inl (some 314))), some (.inr (.inl (some 315))), some (.inl i), none, none, none], [.inl k], (J1, L1, W1), c1, s1) Qr Qx := fun k v J1 L1 W1 c1 s1 e1 e2 f1 fl hl w1 w2 sp => by
    have g1 : J1 304 = J 304 := f1 304 (by omega)
    have I1 : Inv (J1 304) B := by rw [g1]; exact I
    have fin : ∀ (y : Int) (J2 : Nat → Int → Int) k9, k9 = k → (∀ x, ¬ (310 ≤ x ∧ x ≤ 312) → J2 x = J1 x) → (k = 0 → y = v) → NW sc d_L_law D (2898, [some (.inr (.inl (some 1000000))), some (.inr (.inl (some 0))), some (.inr (.inl (some 303))), some (.inr (.inl (some 314))), some (.inr (.inl (some 315))), some (.inl i), some (.inl k), none, none], [.inl y], (nw_u J2 303 13 k9, L1, W1), c1, s1) Qr Qx := fun y J2 k9 e9 f2 hy => by
      subst e9
      exact fn _ v y J1 J2 L1 W1 c1 s1 e1 e2 f1 f2 fl hl hy w1 w2
    refine b_L_law_2892 hD ?_
    have g3 : J1 303 = J 303 := f1 303 (by omega)
    refine b_X12_failedCommand_0 (by decide) ?_
    rw [g3]
    ((repeat' (first | refine And.intro ?_ ?_ | refine fun _ => ?_)); all_goals first | omega | (exfalso; omega) | exact fin _ J1 _ (by omega) (fun _ _ => rfl) (by omega))
  refine b_L_law_2887 hD (by omega) (by omega) ?_
  have kE : ∀ (k : Int) (J1 : Nat → Int → Int) n2, W.2.2.2.2 ≤ n2 → sp_wrk J J1 → (∀ v : Int, ¬ k = 0 ∧ ((k = 1 ∧ J 303 9 = -1) ∨ (k = 0 ∧ ¬ J 303 9 = -1 ∧ v = J 303 9))) → NW sc d_L_law D (2892, [some (.inr (.inl (some 1000000))), some (.inr (.inl (some 0))), some (.inr (.inl (some 303))), some (.inr (.inl (some 314))), some (.inr (.inl (some 315))), some (.inl i), none, none, none], [.inl k], (J1, L, nw_top W n2), c - 4, sl - 24) Qr Qx := fun k J1 n2 h2 f1 hk => md k 0 J1 L _ _ _ (by omega) (by omega) f1 (fun _ _ => rfl) (fun z => absurd z (hk 0).1) rfl (sp_wW.top h2) (hk 0).2
  have kV : ∀ (v : Int) (J1 : Nat → Int → Int), sp_wrk J J1 → (∀ k : Int, k = 0 → ((k = 1 ∧ J 303 9 = -1) ∨ (k = 0 ∧ ¬ J 303 9 = -1 ∧ v = J 303 9))) → NW sc d_L_law D (2892, [some (.inr (.inl (some 1000000))), some (.inr (.inl (some 0))), some (.inr (.inl (some 303))), some (.inr (.inl (some 314))), some (.inr (.inl (some 315))), some (.inl i), none, none, none], [.inl 0], (J1, nw_u L 314 0 v, W), c - 4, sl - 24) Qr Qx := fun v J1 f1 hk => md 0 v J1 _ W _ _ (by omega) (by omega) f1 (fun y a => nw_uP a) (fun _ => nw_uS) rfl sp_wW.refl (hk 0 rfl)
  refine b_L_failedCommand2_0 (by decide) (by decide) (by decide) ?_
  refine b_X11_failedCommand_0 (by decide) (by decide) (by decide) ?_
  ((repeat' (first | refine And.intro ?_ ?_ | refine fun _ => ?_)); all_goals first | omega | (exfalso; omega) | exact kE 1 J _ (by assumption) sp_wrk.refl (fun v => by omega) | exact b_L_failedCommand2_6 ⟨by decide, kV _ J sp_wrk.refl (fun k z => by omega)⟩)
theorem case_append {i : Int} (hi : 0 ≤ i ∧ i + 5 ≤ (sc.1 : Int) ∧ (sc.1 : Int) ≤ 2560) (h : sp_Wd J L W B) (hB : B + 2200 ≤ 4000000) (hD : 18 ≤ D) (hc : 28 ≤ c) (hs : 4006 ≤ sl) (hQ : ∀ J' L' W' c1 s1, c ≤ c1 + 28 → sl ≤ s1 + 4006 → sp_Wd J' L' W' (B + 2200) → NW sc d_L_law D (3300, [some (.inr (.inl (some 1000000))), some (.inr (.inl (some 0))), some (.inr (.inl (some 303))), some (.inr (.inl (some 314))), some (.inr (.inl (some 315))), some (.inl i), none, none, none], [], (J', L', W'), c1, s1) Qr Qx) : NW sc d_L_law D (2741, [some (.inr (.inl (some 1000000))), some (.inr (.inl (some 0))), some (.inr (.inl (some 303))), some (.inr (.inl (some 314))), some (.inr (.inl (some 315))), some (.inl i), none, none, none], [], (J, L, W), c, sl) Qr Qx := by
  have hA := h.1
  have R := sp_sh2.mp hA.1.1
  have I := hA.1.2.1
  have hbd := I.bd
  have hho := I.ho
  have hcr := I.cr
  have hch := I.ch
  have hfe := I.fe
  have hmo := I.mo
  have hnx := I.nx
  have c1 := R.cr
  have c2 := R.ch
  have c3 := R.fe
  have c4 := R.mo
  have c5 := R.ho
  obtain ⟨hA0, hR0, hE0, ⟨t1, t2, t3, t4⟩, hS0⟩ := h
  have h : sp_Wd J L W B := ⟨hA0, hR0, hE0, ⟨t1, t2, t3, t4⟩, hS0⟩
  obtain ⟨x, hx⟩ : ∃ x, nw_sc sc (i + 1) % 65536 = x := ⟨_, rfl⟩
  have xr : 0 ≤ x ∧ x < 65536 := by omega
  have bad : ∀ (k : Int) n2 c1 s1, c ≤ c1 + 28 → sl ≤ s1 + 4006 → W.2.2.2.2 ≤ n2 → ((k = 1 ∧ (x < 32 ∨ 126 < x)) ∨ (k = 2 ∧ 32 ≤ x ∧ x ≤ 126 ∧ J 303 7 = 60)) → NW sc d_L_law D (2753, [some (.inr (.inl (some 1000000))), some (.inr (.inl (some 0))), some (.inr (.inl (some 303))), some (.inr (.inl (some 314))), some (.inr (.inl (some 315))), some (.inl i), none, none, none], [.inl k], (J, L, nw_top W n2), c1, s1) Qr Qx := fun k n2 c1 s1 e1 e2 h2 hk => by
    refine b_L_law_2753 hD ⟨by omega, by omega, ?_⟩
    rw [hx]
    have go : ∀ v, NW sc d_L_law D (3300, [some (.inr (.inl (some 1000000))), some (.inr (.inl (some 0))), some (.inr (.inl (some 303))), some (.inr (.inl (some 314))), some (.inr (.inl (some 315))), some (.inl i), none, none, none], [], (nw_u J 303 13 v, L, nw_top W n2), c1, s1) Qr Qx := fun v => hQ _ _ _ _ _ e1 e2 (h.q ⟨by omega, hB⟩ (fun x a => by
      have a3 : ¬ x = 303 := by omega
      exact nw_uP a3) (fun j a => nw_uI a) (fun _ _ => rfl) rfl (sp_wW.top h2))
    refine b_X12_append_0 (by decide) ?_
    (repeat' (first | refine And.intro ?_ ?_ | refine fun _ => ?_))
    all_goals first | omega | (exfalso; omega) | (refine b_L_law_2766 hD ⟨fun _ => ⟨fun _ => go _, fun z => by omega⟩, fun w => absurd (nw_uS.trans (by omega)) w⟩)
  have good : ∀ c1 s1, c ≤ c1 + 28 → sl ≤ s1 + 4006 → 32 ≤ x → x ≤ 126 → J 303 7 < 60 → NW sc d_L_law D (2753, [some (.inr (.inl (some 1000000))), some (.inr (.inl (some 0))), some (.inr (.inl (some 303))), some (.inr (.inl (some 314))), some (.inr (.inl (some 315))), some (.inl i), none, none, none], [.inl 0], (nw_u (nw_u J 299 (J 303 7) x) 297 0 (J 303 7 + 1), nw_u L 314 0 (J 303 7 + 1), W), c1, s1) Qr Qx := fun c1 s1 e1 e2 x1 x2 x3 => by
    refine b_L_law_2753 hD ⟨by omega, by omega, ?_⟩
    rw [hx]
    have f1 : ∀ y, ¬ (y = 297 ∨ y = 299) → nw_u (nw_u J 299 (J 303 7) x) 297 0 (J 303 7 + 1) y = J y := fun y a => by
      have a1 : ¬ y = 297 := fun e => a (Or.inl e)
      have a2 : ¬ y = 299 := fun e => a (Or.inr e)
      rw [nw_uP a1, nw_uP a2]
    refine b_X12_append_0 (by decide) ?_
    rw [f1 303 (by decide)]
    refine ⟨fun z => by omega, fun _ => ⟨fun z => by omega, fun _ => ⟨fun _ => ⟨by omega, xr, by omega, ?_⟩, fun z => by omega⟩⟩⟩
    obtain ⟨J1, hJ1⟩ : ∃ J1, J1 = nw_u (nw_u J 299 (J 303 7) x) 297 0 (J 303 7 + 1) := ⟨_, rfl⟩
    rw [← hJ1] at f1 ⊢
    have a299 : J1 299 = fun k => if k = J 303 7 then x else J 299 k := by
      rw [hJ1, nw_uP (by decide)]
      funext k
      by_cases z : k = J 303 7
      · rw [z, nw_uS, if_pos rfl]
      · rw [nw_uI z, if_neg z]
    have a297 : J1 297 0 = J 303 7 + 1 := by rw [hJ1]; exact nw_uS
    obtain ⟨J2, hJ2⟩ : ∃ J2, J2 = nw_u (nw_u (nw_u J1 308 (J 303 7) x) 303 7 (J 303 7 + 1)) 303 13 0 := ⟨_, rfl⟩
    rw [← hJ2]
    have f2 : ∀ y, ¬ (y = 303 ∨ y = 308) → J2 y = J1 y := fun y a => by
      have a1 : ¬ y = 303 := fun e => a (Or.inl e)
      have a2 : ¬ y = 308 := fun e => a (Or.inr e)
      rw [hJ2, nw_uP a1, nw_uP a1, nw_uP a2]
    have k2 : ∀ k, ¬ (k = 7 ∨ k = 13) → J2 303 k = J 303 k := fun k a => by
      rw [hJ2, nw_uI (fun e => a (Or.inr e)), nw_uI (fun e => a (Or.inl e)), nw_uP (by decide), f1 303 (by decide)]
    have k7 : J2 303 7 = J 303 7 + 1 := by rw [hJ2, nw_uI (by decide), nw_uS]
    have k13 : J2 303 13 = 0 := by rw [hJ2]; exact nw_uS
    have a308 : J2 308 = fun k => if k = J 303 7 then x else J 308 k := by
      rw [hJ2, nw_uP (by decide), nw_uP (by decide)]
      funext k
      by_cases z : k = J 303 7
      · rw [z, nw_uS, if_pos rfl]
      · rw [nw_uI z, if_neg z, f1 308 (by decide)]
    have f3 : ∀ y, ¬ (y = 297 ∨ y = 299 ∨ y = 303 ∨ y = 308) → J2 y = J y := fun y a => by rw [f2 y (by omega), f1 y (by omega)]
    have hW : sp_Wd J2 (nw_u L 314 0 (J 303 7 + 1)) W (B + 2200) := by
      refine ⟨?_, ?_, ?_, ⟨?_, ?_, ?_, ?_⟩, ?_⟩
      · refine (hA0.keep (J' := J2) (L' := nw_u L 314 0 (J 303 7 + 1)) (fun y a => f3 y (by omega)) (fun y a => nw_uP (by omega)) (by rw [f3 0 (by decide)])).to ⟨by omega, hB⟩ (sp_ew.of (f3 304 (by decide))) (k2 3 (by decide)) (fun k hk => by rw [f3 306 (by decide)]; exact sp_ew.refl) (k2 5 (by decide)) (sp_ew.of (f3 307 (by decide)))
      · unfold sp_wR at hR0 ⊢
        rw [k2 10 (by decide), f3 1 (by decide)]
        exact hR0
      · unfold sp_wE at hE0 ⊢
        rw [k2 8 (by decide), k2 9 (by decide), f3 0 (by decide)]
        exact hE0
      · rw [f2 297 (by decide), a297, k7]
      · omega
      · omega
      · rw [f2 299 (by decide), a299, a308, t4]
      · exact hS0.keep (fun y a => f3 y (by omega)) (k2 12 (by decide)) sp_wW.refl
    exact b_L_law_2766 hD ⟨fun _ => ⟨fun z => absurd rfl z, fun _ => ⟨fun _ => hQ _ _ _ _ _ e1 e2 hW, fun w => absurd (nw_cmp3_eq nw_uS) w⟩⟩, fun w => absurd k13 w⟩
  refine b_L_law_2741 hD (by omega) (by omega) ⟨by omega, by omega, ?_⟩
  rw [hx]
  refine b_L_append2_0 (by decide) (by decide) (by decide) (b_X11_append_0 (by decide) (by decide) (by decide) ?_)
  rw [t1]
  refine ⟨fun z n2 h2 => bad 1 n2 _ _ (by omega) (by omega) h2 (by omega), fun z => ⟨fun z1 => ⟨fun z2 => ?_, fun z2 n2 h2 => bad 2 n2 _ _ (by omega) (by omega) h2 (by omega)⟩, fun z1 n2 h2 => bad 1 n2 _ _ (by omega) (by omega) h2 (by omega)⟩⟩
  refine b_X1_addSign_0 ?_
  rw [t1]
  refine ⟨fun q => by omega, fun _ => ⟨by omega, xr, by omega, b_X11_append_48 ?_⟩⟩
  rw [show nw_u (nw_u J 299 (J 303 7) x) 297 0 (J 303 7 + 1) 297 0 = J 303 7 + 1 from nw_uS]
  exact b_L_append2_7 ⟨by decide, good _ _ (by omega) (by omega) z z1 z2⟩
theorem case_run {i : Int} (hi : 0 ≤ i ∧ i + 5 ≤ (sc.1 : Int) ∧ (sc.1 : Int) ≤ 2560) (h : sp_Wd J L W B) (hB : B + 2200 ≤ 4000000) (hD : 18 ≤ D) (hc : 28 ≤ c) (hs : 4006 ≤ sl) (hQ : ∀ J' L' W' c1 s1, c ≤ c1 + 28 → sl ≤ s1 + 4006 → sp_Wd J' L' W' (B + 2200) → NW sc d_L_law D (3300, [some (.inr (.inl (some 1000000))), some (.inr (.inl (some 0))), some (.inr (.inl (some 303))), some (.inr (.inl (some 314))), some (.inr (.inl (some 315))), some (.inl i), none, none, none], [], (J', L', W'), c1, s1) Qr Qx) : NW sc d_L_law D (2799, [some (.inr (.inl (some 1000000))), some (.inr (.inl (some 0))), some (.inr (.inl (some 303))), some (.inr (.inl (some 314))), some (.inr (.inl (some 315))), some (.inl i), none, none, none], [], (J, L, W), c, sl) Qr Qx := by
  have hA := h.1
  have R := sp_sh2.mp hA.1.1
  have I := hA.1.2.1
  have hbd := I.bd
  have hho := I.ho
  have hcr := I.cr
  have hch := I.ch
  have hfe := I.fe
  have hmo := I.mo
  have hnx := I.nx
  have c1 := R.cr
  have c2 := R.ch
  have c3 := R.fe
  have c4 := R.mo
  have c5 := R.ho
  obtain ⟨hA0, hR0, hE0, ⟨t1, t2, t3, t4⟩, hS0⟩ := h
  have h : sp_Wd J L W B := ⟨hA0, hR0, hE0, ⟨t1, t2, t3, t4⟩, hS0⟩
  have hn := hA0.2.1.2
  refine b_L_law_2799 hD (by omega) (by omega) (b_L_run2_0 (by decide) (by decide) (by decide) ?_)
  refine t_X11_run (T := J 308) (tn := J 303 7) hA0 hB t1 ⟨t2, t3⟩ t4 (by decide) (by decide) (by decide) (fun err J1 x1 y1 z1 w1 y9 n2 h2 => ?_) (fun err i9 e r hi9 ho hf J1 L1 x1 l1 y1 z1 w1 y9 r1 c1 n2 h2 => ?_) (fun err ho J1 L1 W1 x1 l1 w1 w2 z1 y9 r1 c1 => ?_)
  · refine b_L_law_2804 (y0 := 1) hD ?_
    have g3 : J1 303 = J 303 := x1 303 (by decide)
    have g4 : J1 304 = J 304 := x1 304 (by decide)
    have g8 : J1 308 = J 308 := x1 308 (by decide)
    refine t_X12_run (B := B) (n := J 303 3) (T := J 308) (tn := J 303 7) (by rw [g4]; exact I) (by rw [g4]; exact hA.1.2.2) hB (by rw [g3]) (by omega) (by rw [g3]) ⟨t2, t3⟩ g8 (by decide) (fun _ J2 x2 y2 z2 w2 u2 => ?_) (fun err2 => absurd err2 err) (fun err2 => absurd err2 err)
    rw [g3] at y2
    have f2 : ∀ y, ¬ (y = 0 ∨ (297 ≤ y ∧ y ≤ 300) ∨ y = 303 ∨ y = 313) → J2 y = J y := fun y a => by rw [x2 y (by omega), x1 y (by omega)]
    have hW : sp_Wd J2 L (nw_top W n2) (B + 2200) := by
      refine ⟨?_, ?_, ?_, ⟨?_, ?_, ?_, ?_⟩, ?_⟩
      · refine ((hA0.w (W' := nw_top W n2) rfl).keep (J' := J2) (L' := L) (fun y a => f2 y (by omega)) (fun _ _ => rfl) (by rw [x2 0 (by decide), y1 10 (by decide)])).to ⟨by omega, hB⟩ (sp_ew.of (f2 304 (by decide))) (y2 3 (by decide)) (fun k hk => by rw [f2 306 (by decide)]; exact sp_ew.refl) (y2 5 (by decide)) (sp_ew.of (f2 307 (by decide)))
      · unfold sp_wR at hR0 ⊢
        rw [y2 10 (by decide), f2 1 (by decide)]
        exact hR0
      · unfold sp_wE at hE0 ⊢
        rw [w2, y2 9 (by decide), x2 0 (by decide), z1, y1 12 (by decide)]
        exact ⟨rfl, hE0.2⟩
      · rw [x2 297 (by decide), w1, z2]
      · omega
      · omega
      · rw [x2 299 (by decide), x2 308 (by decide), x1 308 (by decide), y9, t4]
      · exact hS0.keep (fun y a => f2 y (by omega)) (y2 12 (by decide)) (sp_wW.top h2)
    exact b_L_law_2810 hD ⟨fun _ => ⟨fun _ => hQ _ _ _ _ _ (by omega) (by omega) hW, fun z => absurd z (by decide)⟩, fun w => absurd u2 w⟩
  · refine b_L_law_2804 (y0 := 2) hD ?_
    have g3 : J1 303 = J 303 := x1 303 (by decide)
    have g4 : J1 304 = J 304 := x1 304 (by decide)
    have g8 : J1 308 = J 308 := x1 308 (by decide)
    refine t_X12_run (B := B) (n := J 303 3) (T := J 308) (tn := J 303 7) (by rw [g4]; exact I) (by rw [g4]; exact hA.1.2.2) hB (by rw [g3]) (by omega) (by rw [g3]) ⟨t2, t3⟩ g8 (by decide) (fun err2 => absurd err err2) (fun _ i8 e8 r8 hi8 ho8 hf8 J2 x2 y2 z2 w2 v2 u2 ew => ?_) (fun _ ho2 => ?_)
    · rw [g4] at ho8 hf8 ew
      obtain ⟨rfl, rfl, rfl⟩ := sp_cf_uniq hf ho hf8 ho8
      rw [g3] at y2 v2
      have rg := op_rng hf
      have f2 : ∀ y, ¬ (y ≤ 78 ∨ (297 ≤ y ∧ y ≤ 300) ∨ y = 303 ∨ y = 304 ∨ y = 305 ∨ y = 310 ∨ y = 313) → J2 y = J y := fun y a => by rw [x2 y (by omega), x1 y (by omega)]
      have hW : sp_Wd J2 L1 (nw_top W n2) (B + 2200) := by
        refine ⟨?_, ?_, ?_, ⟨?_, ?_, ?_, ?_⟩, ?_⟩
        · refine ((c1.w (W' := nw_top W n2) rfl).keep (J' := J2) (L' := L1) (fun y a => x2 y (by omega)) (fun _ _ => rfl) (by rw [x2 0 (by decide)])).to ⟨Int.le_refl _, hB⟩ ew (y2 3 (by decide)) (fun k hk => by rw [f2 306 (by decide)]; exact sp_ew.refl) (y2 5 (by decide)) (sp_ew.of (f2 307 (by decide)))
        · unfold sp_wR at hR0 ⊢
          rw [v2, x2 1 (by decide), r1]
          by_cases z : r = 0
          · rw [if_pos z, if_pos z]
            exact hR0
          · rw [if_neg z, if_neg z]
            exact Or.inr ⟨by omega, rfl⟩
        · unfold sp_wE at hE0 ⊢
          rw [w2, y2 8 (by decide), x2 0 (by decide), z1, y1 11 (by decide)]
          exact ⟨hE0.1, rfl⟩
        · rw [x2 297 (by decide), w1, z2]
        · omega
        · omega
        · rw [x2 299 (by decide), x2 308 (by decide), x1 308 (by decide), y9, t4]
        · exact hS0.keep (fun y a => f2 y (by omega)) (y2 12 (by decide)) (sp_wW.top h2)
      exact b_L_law_2810 hD ⟨fun _ => ⟨fun _ => hQ _ _ _ _ _ (by omega) (by omega) hW, fun z => absurd z (by decide)⟩, fun w => absurd u2 w⟩
    · rw [g4] at ho2
      exact (op_excl hf (ho2 i9 hi9)).elim
  · refine b_L_run2_6 ⟨by decide, b_L_law_2804 (y0 := 0) hD ?_⟩
    have g3 : J1 303 = J 303 := x1 303 (by decide)
    have g4 : J1 304 = J 304 := x1 304 (by decide)
    have g6 : J1 306 = J 306 := x1 306 (by decide)
    have g8 : J1 308 = J 308 := x1 308 (by decide)
    refine t_X12_run (B := B) (n := J 303 3) (T := J 308) (tn := J 303 7) (by rw [g4]; exact I) (by rw [g4]; exact hA.1.2.2) hB (by rw [g3]) (by omega) (by rw [g3]) ⟨t2, t3⟩ g8 (by decide) (fun err2 => absurd err err2) (fun _ i8 e8 r8 hi8 ho8 hf8 => ?_) (fun _ _ J2 x2 y2 z2 u2 v2 w4 hh => ?_)
    · rw [g4] at hf8
      exact (op_excl hf8 (ho i8 hi8)).elim
    · rw [g4] at w4
      rw [g4, g6] at hh
      have hW : ∀ q9 : Int, sp_Wd J2 (nw_u L1 314 0 q9) W1 (B + 2200) := fun q9 => h.done hB x1 ⟨by rw [z1, z2], by omega, by omega, y9⟩ w2 r1 c1 (fun x a => nw_uP a) x2 (fun k a => y2 k (by omega)) v2 (sp_ew.of w4) hh
      exact b_L_law_2810 hD ⟨fun _ => ⟨fun z => absurd rfl z, fun _ => ⟨fun _ => hQ _ _ _ _ _ (by omega) (by omega) (hW _), fun w => absurd (nw_cmp3_eq nw_uS) w⟩⟩, fun w => absurd u2 w⟩
theorem case_describeFerry {i : Int} (hi : 0 ≤ i ∧ i + 5 ≤ (sc.1 : Int) ∧ (sc.1 : Int) ≤ 2560) (h : sp_Wd J L W B) (hB : B + 2200 ≤ 4000000) (hD : 18 ≤ D) (hc : 28 ≤ c) (hs : 4006 ≤ sl) (hn9 : W.2.2.2.2 ≤ 900000) (hQ : ∀ J' L' W' c1 s1, c ≤ c1 + 28 → sl ≤ s1 + 4006 → sp_Wd J' L' W' (B + 2200) → NW sc d_L_law D (3300, [some (.inr (.inl (some 1000000))), some (.inr (.inl (some 0))), some (.inr (.inl (some 303))), some (.inr (.inl (some 314))), some (.inr (.inl (some 315))), some (.inl i), none, none, none], [], (J', L', W'), c1, s1) Qr Qx) : NW sc d_L_law D (2931, [some (.inr (.inl (some 1000000))), some (.inr (.inl (some 0))), some (.inr (.inl (some 303))), some (.inr (.inl (some 314))), some (.inr (.inl (some 315))), some (.inl i), none, none, none], [], (J, L, W), c, sl) Qr Qx := by
  have hA := h.1
  have R := sp_sh2.mp hA.1.1
  have I := hA.1.2.1
  have hbd := I.bd
  have hho := I.ho
  have hcr := I.cr
  have hch := I.ch
  have hfe := I.fe
  have hmo := I.mo
  have hnx := I.nx
  have c1 := R.cr
  have c2 := R.ch
  have c3 := R.fe
  have c4 := R.mo
  have c5 := R.ho
  obtain ⟨hA0, hR0, hE0, hT0, hS0⟩ := h
  have h : sp_Wd J L W B := ⟨hA0, hR0, hE0, hT0, hS0⟩
  obtain ⟨n, l, m, sb, e12, n80, hl⟩ := hS0
  obtain ⟨x, hx⟩ : ∃ x, nw_sc sc (i + 1) = x := ⟨_, rfl⟩
  refine b_L_law_2931 hD (by omega) (by omega) ⟨by omega, by omega, ?_⟩
  rw [hx]
  refine b_L_describeFerry2_0 (by decide) (by decide) (by decide) ?_
  refine t_X11_describeFerry R I sb hn9 (by decide) (by decide) (by decide) (fun nf n2 h2 => ?_) (fun hf J1 L1 W1 m1 s1 f1 l1 w1 => ?_)
  · refine b_L_law_2942 (y0 := 1) hD ⟨by omega, by omega, ?_⟩
    rw [hx]
    refine t_X12_describeFerry I (by decide) (fun _ => ?_) (fun hf => absurd hf nf)
    have go := hQ (nw_u J 303 13 1) L (nw_top W n2) _ _ (show c ≤ c - 27 + 28 by omega) (show sl ≤ sl - 4000 + 4006 by omega) (h.q ⟨by omega, hB⟩ (fun x a => by
      have a3 : ¬ x = 303 := by omega
      exact nw_uP a3) (fun j a => nw_uI a) (fun _ _ => rfl) rfl (sp_wW.top h2))
    exact b_L_law_2954 hD ⟨fun _ => ⟨fun _ => go, fun z => absurd z (by decide)⟩, fun w => absurd nw_uS w⟩
  · refine b_L_describeFerry2_7 ⟨by decide, b_L_law_2942 (y0 := 0) hD ⟨by omega, by omega, ?_⟩⟩
    rw [hx]
    have g4 : J1 304 = J 304 := f1 304 (by omega)
    have g9 : J1 309 = J 309 := f1 309 (by omega)
    have g3 : J1 303 = J 303 := f1 303 (by omega)
    refine t_X12_describeFerry (B := B) (by rw [g4]; exact I) (by decide) (fun nf => absurd (by rw [g4]; exact hf) nf) (fun _ J2 x2 k2 t12 t9 t13 => ?_)
    rw [g4, g9] at t12 t9
    rw [g4, g9]
    rw [g3] at k2
    have le := sp_le2_line (g := J 304) (f := x) (l := l) (l' := J 309)
    have bp := sp_lpos_bd (P := sp_aN x (0, l)) I hf
    have bm := sp_lmo_bd (g := J 304) (f := x) (P := sp_lpos (J 304) x (sp_aN x (0, l))) (J 304 4).toNat
    have nd := sp_nd10_1 (x := x) (by have := hf.2; omega)
    have p1 : (sp_aN x (0, l)).1 = 0 + sp_nd10 x := rfl
    have pl : (sp_line (J 304) x l).1 = (sp_lmo (J 304) x (sp_lpos (J 304) x (sp_aN x (0, l))) (J 304 4).toNat).1 := rfl
    have f2 : ∀ y, (y < 301 ∨ (303 < y ∧ y < 316 ∧ ¬ y = 309)) → J2 y = J y := fun y a => by rw [x2 y (by omega), f1 y (by omega)]
    have hW : sp_Wd J2 (nw_u L1 314 0 (sp_line (J 304) x l).1) W1 (B + 2200) := by
      refine ⟨?_, ?_, ?_, ?_, ?_⟩
      · refine ((hA0.w (W' := W1) w1.2.1).keep (J' := J2) (L' := nw_u L1 314 0 (sp_line (J 304) x l).1) (fun y a => f2 y (by omega)) (fun y a => by rw [nw_uP (by omega), l1 y (by omega)]) (by rw [f2 0 (by omega)])).to ⟨by omega, hB⟩ (sp_ew.of (f2 304 (by omega))) (k2 3 (by omega)) (fun k hk => by rw [f2 306 (by omega)]; exact sp_ew.refl) (k2 5 (by omega)) (sp_ew.of (f2 307 (by omega)))
      · unfold sp_wR at hR0 ⊢
        rw [k2 10 (by omega), f2 1 (by omega)]
        exact hR0
      · unfold sp_wE at hE0 ⊢
        rw [k2 8 (by omega), k2 9 (by omega), f2 0 (by omega)]
        exact hE0
      · unfold sp_wT at hT0 ⊢
        rw [k2 7 (by omega), f2 297 (by omega), f2 299 (by omega), f2 308 (by omega)]
        exact hT0
      · have sV : W1.2.2.1 = 302 ∨ 316 ≤ W1.2.2.1 := s1.2.2.1.1
        have eV : J2 W1.2.2.1 = J1 W1.2.2.1 := x2 _ (by omega)
        have e301 : J2 301 = J1 301 := x2 301 (by decide)
        obtain ⟨⟨a1, a3, a0, am⟩, amm, av, an3, ak, al, ab⟩ := s1
        refine ⟨(sp_line (J 304) x l).1, (sp_line (J 304) x l).2, m1, ⟨⟨by rw [e301]; exact a1, by rw [e301]; exact a3, a0, am⟩, amm, av, an3, ak, fun k k0 k1 => by rw [eV]; exact al k k0 k1, fun k k0 k1 => by rw [eV]; exact ab k k0 k1⟩, t12.trans le.1.symm, by omega, fun k k0 k1 => ?_⟩
        have := le.2 k k0 k1
        rw [t9]
        exact ⟨this.1.symm, this.2⟩
    exact b_L_law_2954 hD ⟨fun _ => ⟨fun z => absurd rfl z, fun _ => ⟨fun _ => hQ _ _ _ _ _ (by omega) (by omega) hW, fun w => absurd (nw_cmp3_eq (nw_uS.trans le.1)) w⟩⟩, fun w => absurd t13 w⟩
theorem case_lineAt {i : Int} (hi : 0 ≤ i ∧ i + 5 ≤ (sc.1 : Int) ∧ (sc.1 : Int) ≤ 2560) (h : sp_Wd J L W B) (hB : B + 2200 ≤ 4000000) (hD : 18 ≤ D) (hc : 28 ≤ c) (hs : 4006 ≤ sl) (hQ : ∀ J' L' W' c1 s1, c ≤ c1 + 28 → sl ≤ s1 + 4006 → sp_Wd J' L' W' (B + 2200) → NW sc d_L_law D (3300, [some (.inr (.inl (some 1000000))), some (.inr (.inl (some 0))), some (.inr (.inl (some 303))), some (.inr (.inl (some 314))), some (.inr (.inl (some 315))), some (.inl i), none, none, none], [], (J', L', W'), c1, s1) Qr Qx) : NW sc d_L_law D (2987, [some (.inr (.inl (some 1000000))), some (.inr (.inl (some 0))), some (.inr (.inl (some 303))), some (.inr (.inl (some 314))), some (.inr (.inl (some 315))), some (.inl i), none, none, none], [], (J, L, W), c, sl) Qr Qx := by
  have hA := h.1
  have R := sp_sh2.mp hA.1.1
  have I := hA.1.2.1
  have hbd := I.bd
  have hho := I.ho
  have hcr := I.cr
  have hch := I.ch
  have hfe := I.fe
  have hmo := I.mo
  have hnx := I.nx
  have c1 := R.cr
  have c2 := R.ch
  have c3 := R.fe
  have c4 := R.mo
  have c5 := R.ho
  obtain ⟨n, l, m, sb, e12, n80, hl⟩ := h.2.2.2.2
  obtain ⟨x, hx⟩ : ∃ x, nw_sc sc (i + 1) = x := ⟨_, rfl⟩
  have n0 := sb.1.2.2.1
  refine b_L_law_2987 hD (by omega) (by omega) ⟨by omega, by omega, ?_⟩
  rw [hx]
  have go : ∀ (k : Int) L1 W1 c1 s1, c ≤ c1 + 28 → sl ≤ s1 + 4006 → (∀ y, ¬ y = 314 → L1 y = L y) → W1.2.1 = W.2.1 → sp_wW W W1 → NW sc d_L_law D (3300, [some (.inr (.inl (some 1000000))), some (.inr (.inl (some 0))), some (.inr (.inl (some 303))), some (.inr (.inl (some 314))), some (.inr (.inl (some 315))), some (.inl i), none, none, none], [], (nw_u J 303 13 k, L1, W1), c1, s1) Qr Qx := fun k L1 W1 c1 s1 e1 e2 fl w1 w2 => hQ _ _ _ _ _ e1 e2 (h.q ⟨by omega, hB⟩ (fun x a => by
      have a3 : ¬ x = 303 := by omega
      exact nw_uP a3) (fun j a => nw_uI a) fl w1 w2)
  have hl9 : ∀ k, 0 ≤ k → k < n → 0 ≤ J 309 k ∧ J 309 k < 128 := fun k a b => by
    have := hl k a b
    rw [this.1]
    exact this.2
  refine b_L_lineAt2_0 (by decide) (by decide) (by decide) (t_X11_lineAt sb (fun k a b => (hl k a b).2) (by decide) (by decide) (by decide) (fun bad n2 h2 => ?_) (fun i0 i1 => ?_))
  · refine b_L_law_2998 (y0 := 1) hD ⟨by omega, by omega, ?_⟩
    rw [hx]
    refine t_X12_lineAt e12 ⟨n0, n80⟩ hl9 (by decide) (fun _ => ?_) (fun a b => absurd ⟨a, b⟩ bad)
    exact b_L_law_3010 hD ⟨fun _ => ⟨fun _ => go _ _ _ _ _ (by omega) (by omega) (fun _ _ => rfl) rfl (sp_wW.top h2), fun z => absurd z (by decide)⟩, fun w => absurd nw_uS w⟩
  · refine b_L_lineAt2_7 ⟨by decide, b_L_law_2998 (y0 := 0) hD ⟨by omega, by omega, ?_⟩⟩
    rw [hx]
    refine t_X12_lineAt e12 ⟨n0, n80⟩ hl9 (by decide) (fun bad => absurd ⟨i0, i1⟩ bad) (fun _ _ => ?_)
    exact b_L_law_3010 hD ⟨fun _ => ⟨fun z => absurd rfl z, fun _ => ⟨fun _ => go _ _ _ _ _ (by omega) (by omega) (fun y a => nw_uP a) rfl sp_wW.refl, fun w => absurd (nw_cmp3_eq (nw_uS.trans (hl x i0 i1).1.symm)) w⟩⟩, fun w => absurd nw_uS w⟩
end
