/-! boarding and rescues: contracts -/
section
variable {sc : Nat × (Nat → Int32)} {D : Nat} {J L : Nat → Int → Int} {W : nw_W} {c sl : Nat} {Qr : nw_QR} {Qx : nw_QX} {g : Int → Int} {B : Int}
theorem RCm.where_ {J J' : Nat → Int → Int} {g g' : Int → Int} (h : RCm J g) (e : ∀ x, 18 ≤ x → x ≤ 23 → J' x = J x) (e1 : g' 4 = g 4 ∧ g' 5 = g 5) (e2 : ∀ s, 71 ≤ s → s < 121 → g' s = g s) (h1 : g 4 ≤ 10) (hw : ∀ p, 0 ≤ p → p < g 4 → (g' (121 + p) < 10 ∧ J' 24 p = -1 ∧ J' 25 p = g' (121 + p)) ∨ (10 ≤ g' (121 + p) ∧ J' 24 p = g' (121 + p) - 10 ∧ J' 25 p = -1)) : RCm J' g' := by
  refine ⟨?_, ?_, fun i a b => ?_⟩
  · rw [e 18 (by decide) (by decide), e1.1]; exact h.mo
  · rw [e 18 (by decide) (by decide), e1.2]; exact h.nx
  · rw [e1.1] at b
    rw [e 19 (by decide) (by decide), e 20 (by decide) (by decide), e 21 (by decide) (by decide), e 22 (by decide) (by decide), e 23 (by decide) (by decide), e2 (71 + i) (by omega) (by omega), e2 (81 + i) (by omega) (by omega), e2 (91 + i) (by omega) (by omega), e2 (101 + i) (by omega) (by omega), e2 (111 + i) (by omega) (by omega)]
    have := h.moo i a b
    exact ⟨this.1, this.2.1, this.2.2.1, this.2.2.2.1, this.2.2.2.2.1, hw i a b⟩
theorem t_X0_takeAboard {f m : Int} (hR : RC J L g) (hI : Inv g B) (hD : 3 ≤ D) (hF : ∀ e r, sp_fBoard g f m e r → Qr (some (.inl e)) (if r = 0 then J else nw_u J 1 0 r, L, W)) (hS : sp_oBoard g f m → ∀ J', sp_fr 2 25 J J' → RC J' L (sp_gBoard g f (sp_plcF g m)) → Qr (some (.inl (sp_car g f + g (101 + sp_plcF g m)))) (J', L, W)) : NW sc d_X0_takeAboard D (0, [some (.inr (.inl (some 1))), some (.inl f), some (.inl m), none, none], [], (J, L, W), c, sl) Qr Qx := by
  have e3 := hR.fe
  have k3 := hI.fe
  have k4 := hI.mo
  have kc := hI.cr
  have hF0 : ∀ e, sp_fBoard g f m e 0 → Qr (some (.inl e)) (J, L, W) := fun e z => by
    have := hF e 0 z
    rw [if_pos rfl] at this
    exact this
  have hF1 : ∀ r, 1 ≤ r → sp_fBoard g f m (-4) r → Qr (some (.inl (-4))) (nw_u J 1 0 r, L, W) := fun r h z => by
    have := hF (-4) r z
    rw [if_neg (by omega)] at this
    exact this
  unfold sp_fBoard sp_isF at hF0 hF1
  refine b_X0_takeAboard_0 hD ?_
  rw [e3]
  refine ⟨fun q => hF0 _ (by omega), fun q1 => ⟨fun q => hF0 _ (by omega), fun q2 => ?_⟩⟩
  have fr := hR.fer f q1 q2
  have fi := hI.fer f q1 q2
  refine t_X7_placeOf hR hI (fun r hr => ?_)
  have hr2 := sp_plcF_eq hr
  have rr := sp_first_rng hr
  have cb := sp_car_bd (f := f) hI
  have sS := sp_sS_rng g f
  rw [← hr2] at hF0 hF1 hS
  refine b_X0_takeAboard_21 hD ⟨fun z => ?_, fun z => hF0 _ (by omega)⟩
  have mr := hR.moo r (by omega) (by omega)
  have mi := hI.moo r (by omega) (by omega)
  refine ⟨by omega, fun z1 => ?_, fun z1 => hF0 _ (by omega)⟩
  refine t_X7_weightAboard hR hI q1 ?_
  refine b_X0_takeAboard_54 hD ?_
  rw [mr.2.2.2.1]
  refine ⟨by omega, by omega, by omega, fun z2 => ⟨fun z3 => ?_, fun z3 => hF1 4 (by omega) (by omega)⟩, fun z2 => hF1 4 (by omega) (by omega)⟩
  have tail : ∀ y0, y0 = sp_sS g f → NW sc d_X0_takeAboard D (112, [some (.inr (.inl (some 1))), some (.inl f), none, some (.inl r), some (.inl (sp_car g f + g (101 + r)))], [.inl y0], (J, L, W), c, sl) Qr Qx := fun y0 hy => by
    refine b_X0_takeAboard_112 hD ?_
    rw [fr.2.1, mr.2.2.2.2.1]
    refine ⟨fun y => ⟨by omega, fun y1 => ⟨by omega, fun y2 => ?_, fun y2 => hF1 7 (by omega) (by omega)⟩, fun y1 => hF1 6 (by omega) (by omega)⟩, fun y => hF1 5 (by omega) (by omega)⟩
    have o : sp_oBoard g f m := by
      unfold sp_oBoard sp_isF
      rw [← hr2]
      omega
    have e : ∀ s, ¬ s = 121 + r → sp_gBoard g f r s = g s := fun s a => sp_set_ne a
    have ee : ∀ s, s < 121 ∨ 131 ≤ s → sp_gBoard g f r s = g s := fun s a => e s (by omega)
    have fx : ∀ x, x < 24 ∨ 25 < x → (nw_u (nw_u J 24 r f) 25 r (-1)) x = J x := fun x z => by
      rw [nw_uP (by omega), nw_uP (by omega)]
    refine hS o _ ((sp_fr.refl.u (by decide)).u (by decide)) ⟨hR.s.to (fx 2 (by omega)) rfl ⟨ee 0 (by omega), ee 6 (by omega), ee 7 (by omega)⟩, hR.w.to (fun x a b => fx x (by omega)) ⟨ee 1 (by omega), ee 2 (by omega)⟩ (fun s a b => ee s (by omega)) hI.cr.2 hI.ch.2, hR.f.to ⟨by rw [fx 9 (by omega)], fun x a b => fx x (by omega)⟩ (ee 3 (by omega)) (fun s a b => ee s (by omega)) hI.fe.2, hR.p.to ⟨by rw [fx 9 (by omega)]; exact ⟨rfl, rfl⟩, fun x a b => fx x (by omega)⟩ ⟨ee 8 (by omega), ee 9 (by omega)⟩ (fun s a b => ee s (by omega)), hR.m.where_ (fun x a b => fx x (by omega)) ⟨ee 4 (by omega), ee 5 (by omega)⟩ (fun s a b => ee s (by omega)) hI.mo.2 (fun i x y => ?_)⟩
    by_cases w : i = r
    · subst w
      rw [show sp_gBoard g f i (121 + i) = 10 + f from sp_set_eq]
      simp [nw_u]
      omega
    · rw [e (121 + i) (by omega)]
      simp [nw_u, w]
      have := hR.moo i x y
      omega
  exact t_X8_aground hR hI ⟨q1, q2⟩ (by decide) (fun y => tail 1 (sp_bT y).symm) (fun y => tail 0 (sp_bF y).symm)
theorem t_X0_pullFree {f : Int} (hR : RC J L g) (hI : Inv g B) (hD : 3 ≤ D) (hF : ∀ e, sp_fRescue g f e → Qr (some (.inl e)) (J, L, W)) (hS : sp_oRescue g f → ∀ J' L', sp_fr 2 25 J J' → sp_fr 2 2 L L' → RC J' L' (sp_gRescue g f) → Qr (some (.inl (sp_cnt g f (g 4).toNat))) (J', L', W)) : NW sc d_X0_pullFree D (0, [some (.inr (.inl (some 1))), some (.inl f), none, none], [], (J, L, W), c, sl) Qr Qx := by
  have e3 := hR.fe
  have k3 := hI.fe
  have k4 := hI.mo
  have kb := hI.bd
  have kfa := hI.fa
  have kre := hI.re
  have sS := sp_sS_rng g f
  unfold sp_fRescue sp_isF at hF
  refine b_X0_pullFree_0 hD ?_
  rw [e3]
  refine ⟨fun q => hF _ (by omega), fun q1 => ⟨fun q => hF _ (by omega), fun q2 => ?_⟩⟩
  have fr := hR.fer f q1 q2
  have fi := hI.fer f q1 q2
  refine t_X8_aground hR hI ⟨q1, q2⟩ (by decide) (fun y => ?_) (fun y => b_X0_pullFree_21 ⟨fun z => absurd rfl z, fun _ => hF _ (by have : sp_sS g f = 0 := sp_bF y; omega)⟩)
  have y1 : sp_sS g f = 1 := sp_bT y
  have y2 : g (62 + f) = 0 := by
    have := y.1
    unfold sp_sea at this
    omega
  have lp : ∀ (m : Nat) (i a : Int) (J1 : Nat → Int → Int), 0 ≤ i → i ≤ g 4 → (g 4 - i).toNat = m → a = sp_cnt g f i.toNat → (∀ x, ¬ (x = 24 ∨ x = 25) → J1 x = J x) → (∀ p, 0 ≤ p → p < g 4 → J1 24 p = (if p < i ∧ g (121 + p) = 10 + f then -1 else J 24 p) ∧ J1 25 p = (if p < i ∧ g (121 + p) = 10 + f then g (56 + f) else J 25 p)) → NW sc d_X0_pullFree D (31, [some (.inr (.inl (some 1))), some (.inl f), some (.inl a), some (.inl i)], [], (J1, L, W), c, sl) Qr Qx := by
    intro m
    induction m using Nat.strongRecOn with
    | ind m ih =>
      intro i a J1 h0 h1 hm ha hx hj
      have e4 : J1 18 0 = g 4 := by rw [hx 18 (by decide)]; exact hR.mo
      have e10 : J1 10 f = g (56 + f) := by rw [hx 10 (by decide)]; omega
      have pu := hR.pu
      have ab := sp_cnt_rng (g := g) (f := f) i.toNat
      have st := sp_sum_step (f := fun p => if g (121 + p) = 10 + f then (1 : Int) else 0) h0
      refine b_X0_pullFree_31 hD ?_
      rw [e4, pu]
      refine ⟨fun q => ⟨by omega, by omega, ?_⟩, fun q => ?_⟩
      · have hi : i = g 4 := by omega
        subst hi
        rw [ha]
        have ee : ∀ s, s < 121 ∨ 131 ≤ s → ¬ s = 7 → sp_gRescue g f s = g s := fun s a b => by
          unfold sp_gRescue
          rw [if_neg b, if_neg (by omega)]
        have e7 : sp_gRescue g f 7 = g 7 + sp_cnt g f (g 4).toNat := if_pos rfl
        have ew : ∀ i, 0 ≤ i → i < g 4 → sp_gRescue g f (121 + i) = if g (121 + i) = 10 + f then g (56 + f) else g (121 + i) := fun i a b => by
          unfold sp_gRescue
          rw [if_neg (by omega)]
          by_cases z : g (121 + i) = 10 + f
          · rw [if_pos ⟨by omega, by omega, z⟩, if_pos z]
          · rw [if_neg (fun y => z y.2.2), if_neg z]
        have kc := hI.cr
        refine hS (by unfold sp_oRescue sp_isF; omega) J1 _ (fun x z => hx x (by omega)) (sp_fr.refl.u (by decide)) ⟨⟨?_, ?_, ?_⟩, hR.w.to (fun x a b => hx x (by omega)) ⟨ee 1 (by omega) (by omega), ee 2 (by omega) (by omega)⟩ (fun s a b => ee s (by omega) (by omega)) hI.cr.2 hI.ch.2, hR.f.to ⟨by rw [hx 9 (by omega)], fun x a b => hx x (by omega)⟩ (ee 3 (by omega) (by omega)) (fun s a b => ee s (by omega) (by omega)) hI.fe.2, hR.p.to ⟨by rw [hx 9 (by omega)]; exact ⟨rfl, rfl⟩, fun x a b => hx x (by omega)⟩ ⟨ee 8 (by omega) (by omega), ee 9 (by omega) (by omega)⟩ (fun s a b => ee s (by omega) (by omega)), hR.m.where_ (fun x a b => hx x (by omega)) ⟨ee 4 (by omega) (by omega), ee 5 (by omega) (by omega)⟩ (fun s a b => ee s (by omega) (by omega)) hI.mo.2 (fun p x y => ?_)⟩
        · rw [hx 2 (by omega), ee 0 (by omega) (by omega)]; exact hR.ho
        · rw [hx 2 (by omega), ee 6 (by omega) (by omega)]; exact hR.fa
        · rw [nw_uS, ee 6 (by omega) (by omega), e7]; omega
        · have r1 := hR.moo p x y
          have r2 := hj p x y
          have r3 := hI.moo p x y
          rw [ew p x y, r2.1, r2.2]
          by_cases z : g (121 + p) = 10 + f
          · rw [if_pos z, if_pos ⟨y, z⟩, if_pos ⟨y, z⟩]
            omega
          · rw [if_neg z, if_neg (fun w => z w.2), if_neg (fun w => z w.2)]
            omega
      · have r1 := hR.moo i h0 q
        have r2 := hj i h0 q
        have r3 := hI.moo i h0 q
        rw [if_neg (by omega), if_neg (by omega)] at r2
        refine ⟨by omega, fun z => ⟨by omega, ?_⟩, fun z => ⟨by omega, by omega, by omega, ?_⟩⟩
        · have zz : ¬ g (121 + i) = 10 + f := by omega
          refine ih _ (by omega) (i + 1) a J1 (by omega) (by omega) rfl ?_ hx (fun p x y => ?_)
          · rw [if_neg zz] at st
            unfold sp_cnt at ha ⊢
            omega
          · have r4 := hj p x y
            by_cases w : p = i
            · subst w
              rw [if_neg (fun v => zz v.2), if_neg (fun v => zz v.2)]
              omega
            · by_cases v : p < i ∧ g (121 + p) = 10 + f
              · rw [if_pos v, if_pos v] at r4
                rw [if_pos ⟨by omega, v.2⟩, if_pos ⟨by omega, v.2⟩]
                exact r4
              · rw [if_neg v, if_neg v] at r4
                rw [if_neg (fun u => v ⟨by omega, u.2⟩), if_neg (fun u => v ⟨by omega, u.2⟩)]
                exact r4
        · have zz : g (121 + i) = 10 + f := by omega
          rw [e10]
          refine ih _ (by omega) (i + 1) (a + 1) _ (by omega) (by omega) rfl ?_ (fun x y => by rw [nw_uP (by omega), nw_uP (by omega)]; exact hx x y) (fun p x y => ?_)
          · rw [if_pos zz] at st
            unfold sp_cnt at ha ⊢
            omega
          · have r4 := hj p x y
            by_cases w : p = i
            · subst w
              rw [if_pos ⟨by omega, zz⟩, if_pos ⟨by omega, zz⟩]
              simp [nw_u]
            · simp [nw_u, w]
              by_cases v : p < i ∧ g (121 + p) = 10 + f
              · rw [if_pos v, if_pos v] at r4
                rw [if_pos ⟨by omega, v.2⟩, if_pos ⟨by omega, v.2⟩]
                exact r4
              · rw [if_neg v, if_neg v] at r4
                rw [if_neg (fun u => v ⟨by omega, u.2⟩), if_neg (fun u => v ⟨by omega, u.2⟩)]
                exact r4
  exact b_X0_pullFree_21 ⟨fun _ => lp _ 0 0 J (by omega) k4.1 rfl rfl (fun _ _ => rfl) (fun p x y => by rw [if_neg (by omega), if_neg (by omega)]; exact ⟨rfl, rfl⟩), fun z => absurd z (by decide)⟩
end

