/-! the law: history -/
section
variable {sc : Nat × (Nat → Int32)} {D : Nat} {J L : Nat → Int → Int} {W : nw_W} {c sl : Nat} {Qr : nw_QR} {Qx : nw_QX} {g : Int → Int} {B : Int}
theorem sp_Wd.re {J J' L L' : Nat → Int → Int} {W W' : nw_W} {B B' : Int} (h : sp_Wd J L W B) (hA : sp_cA J' L' W' (J' 304) (J' 303 3) (sp_hw (J' 306)) (J' 303 5) (J' 307) B') (e : ∀ x, (x = 1 ∨ x = 297 ∨ x = 299 ∨ x = 301 ∨ x = 302 ∨ x = 308 ∨ x = 309 ∨ 316 ≤ x) → J' x = J x) (e0 : ∀ k, ¬ k = 10 → J' 0 k = J 0 k) (e3 : ∀ k, ((7 ≤ k ∧ k ≤ 10) ∨ k = 12) → J' 303 k = J 303 k) (ew : sp_wW W W') : sp_Wd J' L' W' B' := by
  obtain ⟨_, hR, hE, hT, hS⟩ := h
  refine ⟨hA, ?_, ?_, ?_, ?_⟩
  · unfold sp_wR at hR ⊢
    rw [e3 10 (by decide), e 1 (by omega)]
    exact hR
  · unfold sp_wE at hE ⊢
    rw [e3 8 (by decide), e3 9 (by decide), e0 11 (by decide), e0 12 (by decide)]
    exact hE
  · unfold sp_wT at hT ⊢
    rw [e3 7 (by decide), e 297 (by omega), e 299 (by omega), e 308 (by omega)]
    exact hT
  · exact hS.keep (fun x a => e x (by omega)) (e3 12 (by decide)) ew
theorem case_undo {i : Int} (hi : 0 ≤ i ∧ i + 5 ≤ (sc.1 : Int) ∧ (sc.1 : Int) ≤ 2560) (h : sp_Wd J L W B) (hB : B + 2200 ≤ 4000000) (hD : 18 ≤ D) (hc : 28 ≤ c) (hs : 4006 ≤ sl) (hQ : ∀ J' L' W' c1 s1, c ≤ c1 + 28 → sl ≤ s1 + 4006 → sp_Wd J' L' W' (B + 2200) → NW sc d_L_law D (3300, [some (.inr (.inl (some 1000000))), some (.inr (.inl (some 0))), some (.inr (.inl (some 303))), some (.inr (.inl (some 314))), some (.inr (.inl (some 315))), some (.inl i), none, none, none], [], (J', L', W'), c1, s1) Qr Qx) : NW sc d_L_law D (3199, [some (.inr (.inl (some 1000000))), some (.inr (.inl (some 0))), some (.inr (.inl (some 303))), some (.inr (.inl (some 314))), some (.inr (.inl (some 315))), some (.inl i), none, none, none], [], (J, L, W), c, sl) Qr Qx := by
  have hA := h.1
  have R := sp_sh2.mp hA.1.1
  have I := hA.1.2.1
  have hbd := I.bd
  have hho := I.ho
  have hcr := I.cr
  have hch := I.ch
  have hfe := I.fe
  have hmo := I.mo
  have hnx := I.nx
  have c1 := R.cr
  have c2 := R.ch
  have c3 := R.fe
  have c4 := R.mo
  have c5 := R.ho
  obtain ⟨hp, hn, n0⟩ := hA.2.1
  have go : ∀ c1 s1 n2, c ≤ c1 + 28 → sl ≤ s1 + 4006 → W.2.2.2.2 ≤ n2 → NW sc d_L_law D (3300, [some (.inr (.inl (some 1000000))), some (.inr (.inl (some 0))), some (.inr (.inl (some 303))), some (.inr (.inl (some 314))), some (.inr (.inl (some 315))), some (.inl i), none, none, none], [], (nw_u J 303 13 1, L, nw_top W n2), c1, s1) Qr Qx := fun c1 s1 n2 e1 e2 h2 => hQ _ _ _ _ _ e1 e2 (h.q ⟨by omega, hB⟩ (fun x a => by
      have a3 : ¬ x = 303 := by omega
      exact nw_uP a3) (fun j a => nw_uI a) (fun _ _ => rfl) rfl (sp_wW.top h2))
  refine b_L_law_3199 hD (by omega) (by omega) (b_L_undo2_0 (by decide) (by decide) (by decide) (b_X11_undo_0 (by decide) (by decide) (by decide) ⟨fun nz => ?_, fun z n2 h2 => ?_⟩))
  · refine t_X5_takeBack hp hn (by omega) (by decide) (fun J1 L1 x1 l1 e1 ok => b_X11_undo_29 ?_)
    refine b_L_undo2_6 ⟨by decide, b_L_law_3204 hD ?_⟩
    have g3 : J1 303 = J 303 := x1 303 (by omega)
    have g6 : J1 306 = J 306 := x1 306 (by omega)
    refine t_X12_undo (n := J 303 3) (by rw [g3]) n0 (by decide) (fun z => absurd z (by omega)) (fun _ J2 x2 k2 e3 e13 ew => ?_)
    rw [g6] at ew
    rw [g3] at k2
    have h6 : J2 306 = J 306 := (x2 306 (by omega)).trans g6
    have f2 : ∀ x, ¬ ((2 ≤ x ∧ x ≤ 25) ∨ x = 103 ∨ x = 303 ∨ x = 304) → J2 x = J x := fun x a => by rw [x2 x (by omega), x1 x (by omega)]
    have hW : sp_Wd J2 (nw_u L1 314 0 (J1 103 0)) W (B + 2200) := by
      refine h.re ⟨?_, ⟨hp, by rw [x2 103 (by omega), e1, e3], by omega, by omega⟩, fun k hk => ?_, by rw [f2 0 (by omega), k2 5 (by decide) (by decide)]; exact hA.2.2.2.1, fun y => ?_⟩ (fun x a => f2 x (by omega)) (fun k a => by rw [f2 0 (by omega)]) (fun k a => k2 k (by omega) (by omega)) sp_wW.refl
      · have o1 := ((ok _ _ (hA.2.2.1 (J 303 3 - 1).toNat (by omega))).ew ew).up (B' := B + 2200) (by omega) hB
        exact o1.keep (fun x a b => x2 x (by omega)) (nw_uP (by decide))
      · have hk8 : k < 8 := by omega
        have h1 := hp.1 k hk8
        have h2 := nw_st_le h1.1
        rw [h6]
        exact ((hA.2.2.1 k (by omega)).up (B' := B + 2200) (by omega) hB).keep (fun x a b => f2 x (by omega)) (by rw [nw_uP (by omega), l1 _ (by omega)])
      · rw [k2 5 (by decide) (by decide)] at y
        rw [f2 307 (by omega)]
        exact ((hA.2.2.2.2 y).up (B' := B + 2200) (by omega) hB).keep (fun x a b => f2 x (by omega)) (by rw [nw_uP (by decide), l1 _ (by decide)])
    exact b_L_law_3210 hD ⟨fun _ => ⟨fun z => absurd rfl z, fun _ => ⟨fun _ => hQ _ _ _ _ _ (by omega) (by omega) hW, fun w => absurd (nw_cmp3_eq (nw_uS.trans e1)) w⟩⟩, fun w => absurd e13 w⟩
  · refine b_L_law_3204 (y0 := 1) hD (t_X12_undo (n := J 303 3) rfl n0 (by decide) (fun z => ?_) (fun a => by omega))
    exact b_L_law_3210 hD ⟨fun _ => ⟨fun _ => go _ _ _ (by omega) (by omega) h2, fun z => absurd z (by decide)⟩, fun w => absurd nw_uS w⟩
theorem case_save {i : Int} (hi : 0 ≤ i ∧ i + 5 ≤ (sc.1 : Int) ∧ (sc.1 : Int) ≤ 2560) (h : sp_Wd J L W B) (hB : B + 2200 ≤ 4000000) (hD : 18 ≤ D) (hc : 28 ≤ c) (hs : 4006 ≤ sl) (hQ : ∀ J' L' W' c1 s1, c ≤ c1 + 28 → sl ≤ s1 + 4006 → sp_Wd J' L' W' (B + 2200) → NW sc d_L_law D (3300, [some (.inr (.inl (some 1000000))), some (.inr (.inl (some 0))), some (.inr (.inl (some 303))), some (.inr (.inl (some 314))), some (.inr (.inl (some 315))), some (.inl i), none, none, none], [], (J', L', W'), c1, s1) Qr Qx) : NW sc d_L_law D (3243, [some (.inr (.inl (some 1000000))), some (.inr (.inl (some 0))), some (.inr (.inl (some 303))), some (.inr (.inl (some 314))), some (.inr (.inl (some 315))), some (.inl i), none, none, none], [], (J, L, W), c, sl) Qr Qx := by
  have hA := h.1
  have R := sp_sh2.mp hA.1.1
  have I := hA.1.2.1
  have hbd := I.bd
  have hho := I.ho
  have hcr := I.cr
  have hch := I.ch
  have hfe := I.fe
  have hmo := I.mo
  have hnx := I.nx
  have c1 := R.cr
  have c2 := R.ch
  have c3 := R.fe
  have c4 := R.mo
  have c5 := R.ho
  refine b_L_law_3243 hD (b_X11_save_0 (by decide) (t_X8_copies (p := 79) (q := 2) (by decide) (by decide) (by decide) (by decide) (fun J1 L1 x1 l1 ok => b_X11_save_11 (b_L_law_3247 hD (b_X12_save_0 (by decide) (t_X12_copy_304_307 (fun J2 x2 ew => b_X12_save_13 (by decide) ?_)))))))
  have u1 : ∀ x, ¬ x = 0 → nw_u J1 0 10 1 x = J1 x := fun x a => nw_uP a
  have f2 : ∀ x, ¬ (x = 0 ∨ (79 ≤ x ∧ x ≤ 102) ∨ x = 307) → J2 x = J x := fun x a => by rw [x2 x (by omega), u1 x (by omega), x1 x (by omega)]
  have f0 : J2 0 = nw_u J1 0 10 1 0 := x2 0 (by decide)
  obtain ⟨J3, h3⟩ : ∃ J3, J3 = nw_u (nw_u J2 303 5 1) 303 13 0 := ⟨_, rfl⟩
  rw [← h3]
  have f3 : ∀ x, ¬ x = 303 → J3 x = J2 x := fun x a => by rw [h3, nw_uP a, nw_uP a]
  have k3 : ∀ k, ¬ (k = 5 ∨ k = 13) → J3 303 k = J 303 k := fun k a => by rw [h3, nw_uI (fun e => a (Or.inr e)), nw_uI (fun e => a (Or.inl e)), f2 303 (by omega)]
  have k5 : J3 303 5 = 1 := by rw [h3, nw_uI (by decide), nw_uS]
  rw [u1 304 (by decide), x1 304 (by decide)] at ew
  have hW : sp_Wd J3 L1 W (B + 2200) := by
    refine h.re ⟨?_, ⟨hA.2.1.1, by rw [f3 103 (by decide), f2 103 (by omega), k3 3 (by decide)]; exact hA.2.1.2.1, by rw [k3 3 (by decide)]; exact hA.2.1.2.2⟩, fun k hk => ?_, by rw [f3 0 (by decide), f0, nw_uS, k5], fun _ => ?_⟩ (fun x a => by rw [f3 x (by omega), f2 x (by omega)]) (fun k a => by rw [f3 0 (by decide), f0, nw_uI a, x1 0 (by omega)]) (fun k a => k3 k (by omega)) sp_wW.refl
    · rw [f3 304 (by decide), f2 304 (by omega)]
      exact (hA.1.up (B' := B + 2200) (by omega) hB).keep (fun x a b => by rw [f3 x (by omega), f2 x (by omega)]) (l1 2 (by decide))
    · rw [k3 3 (by decide)] at hk
      have hn := hA.2.1.2.2
      have hk8 : k < 8 := by omega
      have h1 := hA.2.1.1.1 k hk8
      have h2 := nw_st_le h1.1
      rw [f3 306 (by decide), f2 306 (by omega)]
      exact ((hA.2.2.1 k hk).up (B' := B + 2200) (by omega) hB).keep (fun x a b => by rw [f3 x (by omega), f2 x (by omega)]) (l1 _ (by omega))
    · rw [f3 307 (by decide)]
      exact (((ok _ _ hA.1).ew ew).up (B' := B + 2200) (by omega) hB).keep (fun x a b => by rw [f3 x (by omega), x2 x (by omega), u1 x (by omega)]) rfl
  have q : J1 18 0 = J2 304 4 := by
    rw [x1 18 (by omega), f2 304 (by omega)]
    exact c4
  exact b_L_law_3251 ⟨fun _ => hQ _ _ _ _ _ (by omega) (by omega) hW, fun w => by first | exact absurd q w | exact absurd q.symm w⟩
theorem case_restore {i : Int} (hi : 0 ≤ i ∧ i + 5 ≤ (sc.1 : Int) ∧ (sc.1 : Int) ≤ 2560) (h : sp_Wd J L W B) (hB : B + 2200 ≤ 4000000) (hD : 18 ≤ D) (hc : 28 ≤ c) (hs : 4006 ≤ sl) (hQ : ∀ J' L' W' c1 s1, c ≤ c1 + 28 → sl ≤ s1 + 4006 → sp_Wd J' L' W' (B + 2200) → NW sc d_L_law D (3300, [some (.inr (.inl (some 1000000))), some (.inr (.inl (some 0))), some (.inr (.inl (some 303))), some (.inr (.inl (some 314))), some (.inr (.inl (some 315))), some (.inl i), none, none, none], [], (J', L', W'), c1, s1) Qr Qx) : NW sc d_L_law D (3256, [some (.inr (.inl (some 1000000))), some (.inr (.inl (some 0))), some (.inr (.inl (some 303))), some (.inr (.inl (some 314))), some (.inr (.inl (some 315))), some (.inl i), none, none, none], [], (J, L, W), c, sl) Qr Qx := by
  have hA := h.1
  have R := sp_sh2.mp hA.1.1
  have I := hA.1.2.1
  have hbd := I.bd
  have hho := I.ho
  have hcr := I.cr
  have hch := I.ch
  have hfe := I.fe
  have hmo := I.mo
  have hnx := I.nx
  have c1 := R.cr
  have c2 := R.ch
  have c3 := R.fe
  have c4 := R.mo
  have c5 := R.ho
  have go : ∀ c1 s1 n2, c ≤ c1 + 28 → sl ≤ s1 + 4006 → W.2.2.2.2 ≤ n2 → NW sc d_L_law D (3300, [some (.inr (.inl (some 1000000))), some (.inr (.inl (some 0))), some (.inr (.inl (some 303))), some (.inr (.inl (some 314))), some (.inr (.inl (some 315))), some (.inl i), none, none, none], [], (nw_u J 303 13 1, L, nw_top W n2), c1, s1) Qr Qx := fun c1 s1 n2 e1 e2 h2 => hQ _ _ _ _ _ e1 e2 (h.q ⟨by omega, hB⟩ (fun x a => by
      have a3 : ¬ x = 303 := by omega
      exact nw_uP a3) (fun j a => nw_uI a) (fun _ _ => rfl) rfl (sp_wW.top h2))
  refine b_L_law_3256 hD (by omega) (by omega) (b_L_restore2_0 (by decide) (by decide) (by decide) (b_X11_restore_0 (by decide) (by decide) (by decide) ⟨fun nz => ?_, fun z n2 h2 => ?_⟩))
  · have nz5 : ¬ J 303 5 = 0 := by rw [← hA.2.2.2.1]; exact nz
    refine t_X8_copies (p := 2) (q := 79) (by decide) (by decide) (by decide) (by decide) (fun J1 L1 x1 l1 ok => b_X11_restore_26 ?_)
    have u1 : ∀ x, ¬ x = 103 → nw_u J1 103 0 0 x = J1 x := fun x a => nw_uP a
    have f1 : ∀ x, ¬ ((2 ≤ x ∧ x ≤ 25) ∨ x = 103) → nw_u J1 103 0 0 x = J x := fun x a => by rw [u1 x (by omega), x1 x (by omega)]
    refine b_L_restore2_6 ⟨by decide, b_L_law_3261 hD (b_X12_restore_0 (by decide) ⟨fun _ => t_X12_copy_307_304 (fun J2 x2 ew => b_X12_restore_26 (by decide) ?_), fun z => absurd ((congrFun (f1 303 (by omega)) 5).symm.trans z) nz5⟩)⟩
    rw [f1 307 (by omega)] at ew
    obtain ⟨J3, h3⟩ : ∃ J3, J3 = nw_u (nw_u J2 303 3 0) 303 13 0 := ⟨_, rfl⟩
    rw [← h3]
    have f3 : ∀ x, ¬ x = 303 → J3 x = J2 x := fun x a => by rw [h3, nw_uP a, nw_uP a]
    have f4 : ∀ x, ¬ ((2 ≤ x ∧ x ≤ 25) ∨ x = 103 ∨ x = 303 ∨ x = 304) → J3 x = J x := fun x a => by rw [f3 x (by omega), x2 x (by omega), f1 x (by omega)]
    have k3 : ∀ k, ¬ (k = 3 ∨ k = 13) → J3 303 k = J 303 k := fun k a => by rw [h3, nw_uI (fun e => a (Or.inr e)), nw_uI (fun e => a (Or.inl e)), x2 303 (by decide), f1 303 (by omega)]
    have kk : J3 303 3 = 0 := by rw [h3, nw_uI (by decide), nw_uS]
    have kz : J3 303 13 = 0 := by rw [h3, nw_uS]
    have o1 : sp_ok 2 J1 L1 (J2 304) (B + 2200) := ((ok _ _ (hA.2.2.2.2 nz5)).ew ew).up (by omega) hB
    have hW : sp_Wd J3 (nw_u L1 314 0 (J1 18 0)) W (B + 2200) := by
      refine h.re ⟨?_, ⟨hA.2.1.1, by rw [f3 103 (by decide), x2 103 (by decide), nw_uS, kk], by omega, by omega⟩, fun k hk => by omega, by rw [f4 0 (by omega), k3 5 (by decide)]; exact hA.2.2.2.1, fun y => ?_⟩ (fun x a => f4 x (by omega)) (fun k a => by rw [f4 0 (by omega)]) (fun k a => k3 k (by omega)) sp_wW.refl
      · rw [f3 304 (by decide)]
        exact o1.keep (fun x a b => by rw [f3 x (by omega), x2 x (by omega), u1 x (by omega)]) (nw_uP (by decide))
      · rw [f4 307 (by omega)]
        exact ((hA.2.2.2.2 nz5).up (B' := B + 2200) (by omega) hB).keep (fun x a b => f4 x (by omega)) (by rw [nw_uP (by decide), l1 _ (by decide)])
    have q : J1 18 0 = J2 304 4 := (sp_sh2.mp o1.1).mo
    exact b_L_law_3267 hD ⟨fun _ => ⟨fun z => absurd rfl z, fun _ => ⟨fun _ => hQ _ _ _ _ _ (by omega) (by omega) hW, fun w => absurd (nw_cmp3_eq (nw_uS.trans q)) w⟩⟩, fun w => absurd kz w⟩
  · have z5 : J 303 5 = 0 := by rw [← hA.2.2.2.1]; exact z
    refine b_L_law_3261 (y0 := 1) hD (b_X12_restore_0 (by decide) ⟨fun a => absurd z5 a, fun _ => ?_⟩)
    exact b_L_law_3267 hD ⟨fun _ => ⟨fun _ => go _ _ _ (by omega) (by omega) h2, fun z => absurd z (by decide)⟩, fun w => absurd nw_uS w⟩
end
