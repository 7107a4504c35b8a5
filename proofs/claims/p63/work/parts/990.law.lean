/-! the law walked: all of it -/
theorem og9 {g : Int → Int} {a : Int} {n : Nat} (h : a.toNat = n) : sp_og 9 g a 0 0 0 = (sp_pass g n).1 := by
  show (sp_pass g a.toNat).1 = _
  rw [h]
theorem w_law {sc : Nat × (Nat → Int32)} {M : mw_Mem} {Qr : Option Value → mw_Mem → Prop} {Qx : Nat → mw_Mem → Prop} (hs : sc.1 ≤ 1000) (hkn : ∀ x, 1000000 ≤ x → M.2.2.2.2.1 x = none) (K : ∀ M' : mw_Mem, (∀ x, 1000000 ≤ x → M'.2.2.2.2.1 x = none) → Qr (some (.int 1)) M') : mw_Wp sc mw_Good d_L_law 400 (0, [some (.ref 1000000), none, none, none, none, none, none, none, none], [], M, 40000, 250000) Qr Qx := by
  obtain ⟨w, ⟨ht, h5⟩, hb⟩ := t_build hs
  have hw : w.2.2.1.1 = 0 := by rw [ht]; rfl
  refine w_1 hkn hb (fun b1 b2 M1 O1 O2 hd hkn => ?_)
  obtain ⟨hI, hF, hn⟩ := O1.inv
  obtain ⟨v, hv⟩ := t_state (sc := sc) w.1.1 (by omega)
  have hv : SV sc w.1.1 v := hv
  obtain ⟨⟨g1, a1⟩, e1⟩ : ∃ p, sp_pass w.1.1 5 = p := ⟨_, rfl⟩
  have p1 : Inv g1 (40000 + 4 * ((5 : Nat) : Int)) ∧ sp_fut g1 ∧ 0 ≤ a1 ∧ a1 ≤ 3 * ((5 : Nat) : Int) := by
    have h := inv_pass hI hF (n := 5) (by omega)
    rw [e1] at h
    exact h
  have f1 : g1 5 = w.1.1 5 := by
    have h : (sp_pass w.1.1 5).1 5 = w.1.1 5 := og_pass5 5
    rw [e1] at h
    exact h
  obtain ⟨⟨g2, a2⟩, e2⟩ : ∃ p, sp_pass g1 24 = p := ⟨_, rfl⟩
  have p2 : Inv g2 (40000 + 4 * ((5 : Nat) : Int) + 4 * ((24 : Nat) : Int)) ∧ sp_fut g2 ∧ 0 ≤ a2 ∧ a2 ≤ 3 * ((24 : Nat) : Int) := by
    have h := inv_pass p1.1 p1.2.1 (n := 24) (by omega)
    rw [e2] at h
    exact h
  have f2 : g2 5 = g1 5 := by
    have h : (sp_pass g1 24).1 5 = g1 5 := og_pass5 24
    rw [e2] at h
    exact h
  obtain ⟨⟨g3, a3⟩, e3⟩ : ∃ p, sp_pass g2 1 = p := ⟨_, rfl⟩
  have p3 : Inv g3 (40000 + 4 * ((5 : Nat) : Int) + 4 * ((24 : Nat) : Int) + 4 * ((1 : Nat) : Int)) ∧ sp_fut g3 ∧ 0 ≤ a3 ∧ a3 ≤ 3 * ((1 : Nat) : Int) := by
    have h := inv_pass p2.1 p2.2.1 (n := 1) (by omega)
    rw [e3] at h
    exact h
  have f3 : g3 5 = g2 5 := by
    have h : (sp_pass g2 1).1 5 = g2 5 := og_pass5 1
    rw [e3] at h
    exact h
  have r1 := p1.2.2
  have r2 := p2.2.2
  have r3 := p3.2.2
  obtain ⟨v3, hv3⟩ := t_state (sc := sc) g3 (by omega)
  have hv3 : SV sc g3 v3 := hv3
  have c1 : sp_og 9 w.1.1 5 0 0 0 = g1 := by rw [og9 (n := 5) (by decide), e1]
  have c2 : sp_og 9 g1 24 0 0 0 = g2 := by rw [og9 (n := 24) (by decide), e2]
  have c3 : sp_og 9 g2 1 0 0 0 = g3 := by rw [og9 (n := 1) (by decide), e3]
  refine w_2 O1 O2 hd hkn hw hv hv3 (f_pass (n := 5) (by decide) (by decide) e1) (f_pass (n := 24) (by decide) (by decide) e2) (f_pass (n := 1) (by decide) (by decide) e3) (w_nn (by omega)) (w_nn (by omega)) (w_nn (by omega)) (fun q h1 h2 => ?_) (fun t M2 O1 O2 hkn => ?_)
  · have h := o_runS (w := of_T (w_sv w) q) (l := ts_10) h1 h2 y_10 ⟨⟨by decide, by decide⟩, ⟨by decide, by decide⟩, ⟨by decide, by decide⟩, True.intro⟩
    have e : cm_g (of_T (w_sv w) q).1.1 [(9, 5, 0, 0, 0), (9, 24, 0, 0, 0), (9, 1, 0, 0, 0)] = g3 := by
      show sp_og 9 (sp_og 9 (sp_og 9 w.1.1 5 0 0 0) 24 0 0 0) 1 0 0 0 = g3
      rw [c1, c2, c3]
    rw [e] at h
    exact h
  refine w_3 hn O1 O2 hd hkn hv (fun M3 O1 hkn => ?_)
  have h3 : (w_x4 w t).1.1 3 ≤ 3 := by
    have := hI.fe
    show w.1.1 3 ≤ 3
    omega
  refine w_4 rfl h3 O1 hkn hv (fun w4 M4 e4 t4 m4 O1 hkn => ?_)
  refine w_5 t4 m4 O1 hkn (by rw [e4]; exact hv) (fun w5 M5 O1 e5 hkn => ?_)
  refine w_6 hs O1 hkn (fun k j b M6 hk hj O3 O1 hd hkn => ?_)
  have e6 : w5.1 = (w_x4 w t).1 := e5.trans e4
  exact w_z hk hj O1 (by decide) O3 hd hkn (by rw [e6]; exact hv) (by rw [e6]; exact Int.one_ne_zero) (by rw [e6]; rfl) K
