/-! ferries added and sailing; moons added: contracts -/
section
variable {sc : Nat × (Nat → Int32)} {D : Nat} {J L : Nat → Int → Int} {W : nw_W} {c sl : Nat} {Qr : nw_QR} {Qx : nw_QX} {g : Int → Int} {B : Int}
theorem t_X0_enlistFerry {a d w : Int} (hR : RC J L g) (hI : Inv g B) (hD : 1 ≤ D) (hF : ∀ e, sp_fFerry g a d w e → Qr (some (.inl e)) (J, L, W)) (hS : sp_oFerry g a d w → ∀ J', sp_fr 2 25 J J' → RC J' L (sp_gFerry g a d w) → Qr (some (.inl (g 3))) (J', L, W)) : NW sc d_X0_enlistFerry D (0, [some (.inr (.inl (some 1))), some (.inl a), some (.inl d), some (.inl w), none, none, none], [], (J, L, W), c, sl) Qr Qx := by
  have e1 := hR.cr
  have e3 := hR.fe
  have k3 := hI.fe
  obtain ⟨n, hn⟩ : ∃ n, g 3 = n := ⟨_, rfl⟩
  have suc : sp_oFerry g a d w → Qr (some (.inl n)) (nw_u (nw_u (nw_u (nw_u (nw_u (nw_u J 10 n a) 11 n (-1)) 12 n 0) 13 n d) 14 n w) 9 0 (n + 1), L, W) := fun o => by
    subst hn
    have o' := o.2.2
    have e : ∀ t, ¬ t = 3 → ¬ t = 56 + g 3 → ¬ t = 65 + g 3 → ¬ t = 68 + g 3 → sp_gFerry g a d w t = g t := fun t a b c d => by
      unfold sp_gFerry
      rw [sp_set_ne a, sp_set_ne d, sp_set_ne c, sp_set_ne b]
    have ee : ∀ t, t < 56 ∨ 71 ≤ t → ¬ t = 3 → sp_gFerry g a d w t = g t := fun t x y => e t y (by omega) (by omega) (by omega)
    have en : sp_gFerry g a d w (56 + g 3) = a ∧ sp_gFerry g a d w (65 + g 3) = d ∧ sp_gFerry g a d w (68 + g 3) = w := by
      unfold sp_gFerry
      refine ⟨?_, ?_, ?_⟩
      · rw [sp_set_ne (by omega), sp_set_ne (by omega), sp_set_ne (by omega), sp_set_eq]
      · rw [sp_set_ne (by omega), sp_set_ne (by omega), sp_set_eq]
      · rw [sp_set_ne (by omega), sp_set_eq]
    have fr : ∀ x, x < 9 ∨ 14 < x → (nw_u (nw_u (nw_u (nw_u (nw_u (nw_u J 10 (g 3) a) 11 (g 3) (-1)) 12 (g 3) 0) 13 (g 3) d) 14 (g 3) w) 9 0 (g 3 + 1)) x = J x := fun x z => by
      rw [nw_uP (by omega), nw_uP (by omega), nw_uP (by omega), nw_uP (by omega), nw_uP (by omega), nw_uP (by omega)]
    refine hS o _ ((((((sp_fr.refl.u (by decide)).u (by decide)).u (by decide)).u (by decide)).u (by decide)).u (by decide)) ⟨hR.s.to (fr 2 (by omega)) rfl ⟨ee 0 (by omega) (by omega), ee 6 (by omega) (by omega), ee 7 (by omega) (by omega)⟩, hR.w.to (fun x a b => fr x (by omega)) ⟨ee 1 (by omega) (by omega), ee 2 (by omega) (by omega)⟩ (fun s a b => ee s (by omega) (by omega)) hI.cr.2 hI.ch.2, ⟨?_, fun i x y => ?_⟩, hR.p.to ⟨by simp [nw_u], fun x a b => fr x (by omega)⟩ ⟨ee 8 (by omega) (by omega), ee 9 (by omega) (by omega)⟩ (fun s a b => ee s (by omega) (by omega)), hR.m.to (fun x a b => fr x (by omega)) ⟨ee 4 (by omega) (by omega), ee 5 (by omega) (by omega)⟩ (fun s a b => ee s (by omega) (by omega)) hI.mo.2⟩
    · rw [nw_uS]
      exact sp_set_eq.symm
    · rw [show sp_gFerry g a d w 3 = g 3 + 1 from sp_set_eq] at y
      by_cases q : i = g 3
      · subst q
        have z := hI.zer (g 3) (by omega) (by omega)
        have e62 : sp_gFerry g a d w (62 + g 3) = g (62 + g 3) := e _ (by omega) (by omega) (by omega) (by omega)
        rw [en.1, en.2.1, en.2.2, e62]
        simp [nw_u]
        omega
      · rw [e (56 + i) (by omega) (by omega) (by omega) (by omega), e (59 + i) (by omega) (by omega) (by omega) (by omega), e (62 + i) (by omega) (by omega) (by omega) (by omega), e (65 + i) (by omega) (by omega) (by omega) (by omega), e (68 + i) (by omega) (by omega) (by omega) (by omega)]
        simp [nw_u, q]
        exact hR.fer i x (by omega)
  unfold sp_fFerry sp_isC sp_arF at hF
  unfold sp_oFerry sp_isC sp_arF at suc
  rw [hn] at hF suc k3
  refine b_X0_enlistFerry_0 hD ?_
  rw [e1, e3, hn]
  (repeat' (first | refine And.intro ?_ ?_ | refine fun _ => ?_))
  all_goals first
    | exact suc (by omega)
    | exact hF _ (by omega)
    | omega
theorem t_X0_beginPassage {f k : Int} (hR : RC J L g) (hI : Inv g B) (hD : 3 ≤ D) (hF : ∀ e r, sp_fSail g f k e r → Qr (some (.inl e)) (if r = 0 then J else nw_u J 1 0 r, L, W)) (hS : sp_oSail g f k → ∀ J', sp_fr 2 25 J J' → RC J' L (sp_gSail g f k (sp_btwF g (g (56 + f)) k)) → Qr (some (.inl (g 0 + g (36 + sp_btwF g (g (56 + f)) k)))) (J', L, W)) : NW sc d_X0_beginPassage D (0, [some (.inr (.inl (some 1))), some (.inl f), some (.inl k), none], [], (J, L, W), c, sl) Qr Qx := by
  have e1 := hR.cr
  have e3 := hR.fe
  have e0 := hR.ho
  have k3 := hI.fe
  have kc := hI.cr
  have kch := hI.ch
  have kh := hI.ho
  have kb := hI.bd
  have hF0 : ∀ e, sp_fSail g f k e 0 → Qr (some (.inl e)) (J, L, W) := fun e z => by
    have := hF e 0 z
    rw [if_pos rfl] at this
    exact this
  have hF1 : ∀ r, 1 ≤ r → sp_fSail g f k (-4) r → Qr (some (.inl (-4))) (nw_u J 1 0 r, L, W) := fun r h z => by
    have := hF (-4) r z
    rw [if_neg (by omega)] at this
    exact this
  unfold sp_fSail sp_isF sp_isC at hF0 hF1
  refine b_X0_beginPassage_0 hD ?_
  rw [e1, e3]
  refine ⟨fun q => hF0 _ (by omega), fun q1 => ⟨fun q => hF0 _ (by omega), fun q2 => ⟨fun q => hF0 _ (by omega), fun q3 => ⟨fun q => hF0 _ (by omega), fun q4 => ⟨by omega, ?_⟩⟩⟩⟩⟩
  have fr := hR.fer f q1 q2
  have fi := hI.fer f q1 q2
  refine ⟨fun q5 => ?_, fun q5 => hF0 _ (by omega)⟩
  have q6 : g (62 + f) = 0 := by omega
  rw [show J 10 f = g (56 + f) by omega]
  refine t_X9_findChannel hR hI q3 (by decide) (fun r hr => ?_)
  have hr2 := sp_btwF_eq hr
  have rr := sp_first_rng hr
  have sS := sp_sS_rng g f
  rw [← hr2] at hF0 hF1 hS
  refine b_X0_beginPassage_55 hD ⟨fun z => ?_, fun z => hF1 1 (by omega) (by omega)⟩
  have rc := hR.cha r (by omega) (by omega)
  have ri := hI.cha r (by omega) (by omega)
  have tail : ∀ y0, y0 = sp_sS g f → NW sc d_X0_beginPassage D (75, [some (.inr (.inl (some 1))), some (.inl f), some (.inl k), some (.inl r)], [.inl y0], (J, L, W), c, sl) Qr Qx := fun y0 hy => by
    refine b_X0_beginPassage_75 hD ⟨fun y => ⟨by omega, ?_⟩, fun y => hF1 2 (by omega) (by omega)⟩
    rw [e0, rc.2.2.2]
    have tr := sp_tide_rng (g 0)
    have so : sp_sO g f r = 1 ↔ g (65 + f) ≤ g (46 + r) + sp_tide (g 0) := sp_sO_iff
    have sr := sp_sO_rng g f r
    refine t_tideIn kh.1 (by decide) ?_
    refine b_X0_beginPassage_103 hD ?_
    rw [e0, fr.1, rc.2.2.1]
    refine ⟨by omega, by omega, fun y2 => ⟨by omega, by omega, ?_⟩, fun y2 => hF1 3 (by omega) (by omega)⟩
    have o : sp_oSail g f k := by
      unfold sp_oSail sp_isF sp_isC
      rw [← hr2]
      omega
    have e : ∀ t, ¬ t = 59 + f → ¬ t = 56 + f → ¬ t = 62 + f → sp_gSail g f k r t = g t := fun t a b c => by
      unfold sp_gSail
      rw [sp_set_ne c, sp_set_ne b, sp_set_ne a]
    have en : sp_gSail g f k r (56 + f) = k ∧ sp_gSail g f k r (59 + f) = g (56 + f) ∧ sp_gSail g f k r (62 + f) = g 0 + g (36 + r) := by
      unfold sp_gSail
      refine ⟨?_, ?_, sp_set_eq⟩
      · rw [sp_set_ne (by omega), sp_set_eq]
      · rw [sp_set_ne (by omega), sp_set_ne (by omega), sp_set_eq]
    have ee : ∀ t, t < 56 ∨ 65 ≤ t → sp_gSail g f k r t = g t := fun t x => e t (by omega) (by omega) (by omega)
    have fx : ∀ x, x < 11 ∨ 12 < x → (nw_u (nw_u J 11 f k) 12 f (g 0 + g (36 + r))) x = J x := fun x z => by
      rw [nw_uP (by omega), nw_uP (by omega)]
    refine hS o _ ((sp_fr.refl.u (by decide)).u (by decide)) ⟨hR.s.to (fx 2 (by omega)) rfl ⟨ee 0 (by omega), ee 6 (by omega), ee 7 (by omega)⟩, hR.w.to (fun x a b => fx x (by omega)) ⟨ee 1 (by omega), ee 2 (by omega)⟩ (fun s a b => ee s (by omega)) hI.cr.2 hI.ch.2, ⟨?_, fun i x y => ?_⟩, hR.p.to ⟨by rw [fx 9 (by omega)]; exact ⟨rfl, rfl⟩, fun x a b => fx x (by omega)⟩ ⟨ee 8 (by omega), ee 9 (by omega)⟩ (fun s a b => ee s (by omega)), hR.m.to (fun x a b => fx x (by omega)) ⟨ee 4 (by omega), ee 5 (by omega)⟩ (fun s a b => ee s (by omega)) hI.mo.2⟩
    · rw [fx 9 (by omega), ee 3 (by omega)]
      exact hR.fe
    · rw [ee 3 (by omega)] at y
      rw [ee (65 + i) (by omega), ee (68 + i) (by omega)]
      by_cases w : i = f
      · subst w
        rw [en.1, en.2.1, en.2.2]
        simp [nw_u]
        omega
      · rw [e (56 + i) (by omega) (by omega) (by omega), e (59 + i) (by omega) (by omega) (by omega), e (62 + i) (by omega) (by omega) (by omega)]
        simp [nw_u, w]
        exact hR.fer i x y
  exact t_X8_aground hR hI ⟨q1, q2⟩ (by decide) (fun y => tail 1 (sp_bT y).symm) (fun y => tail 0 (sp_bF y).symm)
theorem t_X0_enlistMoon {a d w p : Int} (hR : RC J L g) (hI : Inv g B) (hD : 1 ≤ D) (hF : ∀ e, sp_fMoon g a d w p e → Qr (some (.inl e)) (J, L, W)) (hS : sp_oMoon g a d w p → ∀ J', sp_fr 2 25 J J' → RC J' L (sp_gMoon g a d w p) → Qr (some (.inl (g 5))) (J', L, W)) : NW sc d_X0_enlistMoon D (0, [some (.inr (.inl (some 1))), some (.inl a), some (.inl d), some (.inl w), some (.inl p), none, none, none], [], (J, L, W), c, sl) Qr Qx := by
  have e1 := hR.cr
  have e4 := hR.mo
  have e5 := hR.nx
  have k4 := hI.mo
  have k5 := hI.nx
  have kb := hI.bd
  obtain ⟨n, hn⟩ : ∃ n, g 4 = n := ⟨_, rfl⟩
  obtain ⟨q, hq⟩ : ∃ q, g 5 = q := ⟨_, rfl⟩
  have suc : sp_oMoon g a d w p → Qr (some (.inl q)) (nw_u (nw_u (nw_u (nw_u (nw_u (nw_u (nw_u (nw_u (nw_u J 19 n q) 20 n a) 21 n d) 22 n w) 23 n p) 24 n (-1)) 25 n a) 18 0 (n + 1)) 18 1 (q + 1), L, W) := fun o => by
    subst hn
    subst hq
    have o' := o.2.2
    have oc := o.1
    unfold sp_isC at oc
    have kcr := hI.cr
    have e : ∀ t, ¬ t = 4 → ¬ t = 5 → ¬ t = 71 + g 4 → ¬ t = 81 + g 4 → ¬ t = 91 + g 4 → ¬ t = 101 + g 4 → ¬ t = 111 + g 4 → ¬ t = 121 + g 4 → sp_gMoon g a d w p t = g t := fun t a b c d e f i j => by
      unfold sp_gMoon
      rw [sp_set_ne b, sp_set_ne a, sp_set_ne j, sp_set_ne i, sp_set_ne f, sp_set_ne e, sp_set_ne d, sp_set_ne c]
    have g4 : sp_gMoon g a d w p 4 = g 4 + 1 := by
      unfold sp_gMoon
      rw [sp_set_ne (by omega), sp_set_eq]
    have g5 : sp_gMoon g a d w p 5 = g 5 + 1 := sp_set_eq
    have en : sp_gMoon g a d w p (71 + g 4) = g 5 ∧ sp_gMoon g a d w p (81 + g 4) = a ∧ sp_gMoon g a d w p (91 + g 4) = d ∧ sp_gMoon g a d w p (101 + g 4) = w ∧ sp_gMoon g a d w p (111 + g 4) = p ∧ sp_gMoon g a d w p (121 + g 4) = a := by
      unfold sp_gMoon
      refine ⟨?_, ?_, ?_, ?_, ?_, ?_⟩
      · rw [sp_set_ne (by omega), sp_set_ne (by omega), sp_set_ne (by omega), sp_set_ne (by omega), sp_set_ne (by omega), sp_set_ne (by omega), sp_set_ne (by omega), sp_set_eq]
      · rw [sp_set_ne (by omega), sp_set_ne (by omega), sp_set_ne (by omega), sp_set_ne (by omega), sp_set_ne (by omega), sp_set_ne (by omega), sp_set_eq]
      · rw [sp_set_ne (by omega), sp_set_ne (by omega), sp_set_ne (by omega), sp_set_ne (by omega), sp_set_ne (by omega), sp_set_eq]
      · rw [sp_set_ne (by omega), sp_set_ne (by omega), sp_set_ne (by omega), sp_set_ne (by omega), sp_set_eq]
      · rw [sp_set_ne (by omega), sp_set_ne (by omega), sp_set_ne (by omega), sp_set_eq]
      · rw [sp_set_ne (by omega), sp_set_ne (by omega), sp_set_eq]
    have ee : ∀ t, t < 71 ∨ 131 ≤ t → ¬ t = 4 → ¬ t = 5 → sp_gMoon g a d w p t = g t := fun t x y z => e t y z (by omega) (by omega) (by omega) (by omega) (by omega) (by omega)
    have fr : ∀ x, x < 18 ∨ 25 < x → (nw_u (nw_u (nw_u (nw_u (nw_u (nw_u (nw_u (nw_u (nw_u J 19 (g 4) (g 5)) 20 (g 4) a) 21 (g 4) d) 22 (g 4) w) 23 (g 4) p) 24 (g 4) (-1)) 25 (g 4) a) 18 0 (g 4 + 1)) 18 1 (g 5 + 1)) x = J x := fun x z => by
      rw [nw_uP (by omega), nw_uP (by omega), nw_uP (by omega), nw_uP (by omega), nw_uP (by omega), nw_uP (by omega), nw_uP (by omega), nw_uP (by omega), nw_uP (by omega)]
    refine hS o _ (fun x z => fr x (by omega)) ⟨hR.s.to (fr 2 (by omega)) rfl ⟨ee 0 (by omega) (by omega) (by omega), ee 6 (by omega) (by omega) (by omega), ee 7 (by omega) (by omega) (by omega)⟩, hR.w.to (fun x a b => fr x (by omega)) ⟨ee 1 (by omega) (by omega) (by omega), ee 2 (by omega) (by omega) (by omega)⟩ (fun s a b => ee s (by omega) (by omega) (by omega)) hI.cr.2 hI.ch.2, hR.f.to ⟨by rw [fr 9 (by omega)], fun x a b => fr x (by omega)⟩ (ee 3 (by omega) (by omega) (by omega)) (fun s a b => ee s (by omega) (by omega) (by omega)) hI.fe.2, hR.p.to ⟨by rw [fr 9 (by omega)]; exact ⟨rfl, rfl⟩, fun x a b => fr x (by omega)⟩ ⟨ee 8 (by omega) (by omega) (by omega), ee 9 (by omega) (by omega) (by omega)⟩ (fun s a b => ee s (by omega) (by omega) (by omega)), ⟨?_, ?_, fun i x y => ?_⟩⟩
    · rw [g4]
      simp [nw_u]
    · rw [g5, nw_uS]
    · rw [g4] at y
      by_cases z : i = g 4
      · subst z
        rw [en.1, en.2.1, en.2.2.1, en.2.2.2.1, en.2.2.2.2.1, en.2.2.2.2.2]
        simp [nw_u]
        omega
      · rw [e (71 + i) (by omega) (by omega) (by omega) (by omega) (by omega) (by omega) (by omega) (by omega), e (81 + i) (by omega) (by omega) (by omega) (by omega) (by omega) (by omega) (by omega) (by omega), e (91 + i) (by omega) (by omega) (by omega) (by omega) (by omega) (by omega) (by omega) (by omega), e (101 + i) (by omega) (by omega) (by omega) (by omega) (by omega) (by omega) (by omega) (by omega), e (111 + i) (by omega) (by omega) (by omega) (by omega) (by omega) (by omega) (by omega) (by omega), e (121 + i) (by omega) (by omega) (by omega) (by omega) (by omega) (by omega) (by omega) (by omega)]
        simp [nw_u, z]
        exact hR.moo i x (by omega)
  unfold sp_fMoon sp_isC sp_arM at hF
  unfold sp_oMoon sp_isC sp_arM at suc
  rw [hn] at hF suc k4
  rw [hq] at hS k5
  refine b_X0_enlistMoon_0 hD ?_
  rw [e1, e4, e5, hn, hq]
  (repeat' (first | refine And.intro ?_ ?_ | refine fun _ => ?_))
  all_goals first
    | exact hF _ (by omega)
    | exact suc (by omega)
    | omega
end

