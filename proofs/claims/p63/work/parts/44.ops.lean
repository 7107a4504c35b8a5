/-! craters, channels, ferries added and removed: contracts -/
section
variable {sc : Nat × (Nat → Int32)} {D : Nat} {J L : Nat → Int → Int} {W : nw_W} {c sl : Nat} {Qr : nw_QR} {Qx : nw_QX} {g : Int → Int} {B : Int}
theorem t_X0_openCrater {d : Int} (hR : RC J L g) (hI : Inv g B) (hF : ∀ e, sp_fCrater g d e → Qr (some (.inl e)) (J, L, W)) (hS : sp_oCrater g d → ∀ J', sp_fr 2 25 J J' → RC J' L (sp_gCrater g d) → Qr (some (.inl (g 1))) (J', L, W)) : NW sc d_X0_openCrater D (0, [some (.inr (.inl (some 1))), some (.inl d), none], [], (J, L, W), c, sl) Qr Qx := by
  have e1 := hR.cr
  have k1 := hI.cr
  have suc : sp_oCrater g d → Qr (some (.inl (g 1))) (nw_u (nw_u J 4 (g 1) d) 3 0 (g 1 + 1), L, W) := fun o => by
    have hc := hI.ch
    have o' := o
    unfold sp_oCrater at o'
    have e : ∀ s, ¬ s = 1 → ¬ s = 10 + g 1 → sp_gCrater g d s = g s := fun s a b => by
      unfold sp_gCrater
      rw [sp_set_ne a, sp_set_ne b]
    refine hS o _ ((sp_fr.refl.u (by decide)).u (by decide)) ⟨hR.s.to (by simp [nw_uP]) rfl ⟨e 0 (by omega) (by omega), e 6 (by omega) (by omega), e 7 (by omega) (by omega)⟩, ⟨?_, ?_, fun i a b => ?_, fun i a b => ?_⟩, hR.f.to ⟨by simp [nw_uP], fun x a b => by rw [nw_uP (by omega), nw_uP (by omega)]⟩ (e 3 (by omega) (by omega)) (fun s a b => e s (by omega) (by omega)) hI.fe.2, hR.p.to ⟨by simp [nw_uP], fun x a b => by rw [nw_uP (by omega), nw_uP (by omega)]⟩ ⟨e 8 (by omega) (by omega), e 9 (by omega) (by omega)⟩ (fun s a b => e s (by omega) (by omega)), hR.m.to (fun x a b => by rw [nw_uP (by omega), nw_uP (by omega)]) ⟨e 4 (by omega) (by omega), e 5 (by omega) (by omega)⟩ (fun s a b => e s (by omega) (by omega)) hI.mo.2⟩
    · rw [nw_uS]
      exact sp_set_eq.symm
    · rw [nw_uI (by decide), nw_uN (by decide), e 2 (by omega) (by omega)]
      exact hR.ch
    · rw [show sp_gCrater g d 1 = g 1 + 1 from sp_set_eq] at b
      rw [nw_uN (by decide)]
      by_cases q : i = g 1
      · subst q
        rw [nw_uS]
        unfold sp_gCrater
        rw [sp_set_ne (by omega), sp_set_eq]
      · rw [nw_uI q, e (10 + i) (by omega) (by omega)]
        exact hR.dep i a (by omega)
    · rw [e 2 (by omega) (by omega)] at b
      rw [nw_uN (by decide), nw_uN (by decide), nw_uN (by decide), nw_uN (by decide), nw_uN (by decide), nw_uN (by decide), nw_uN (by decide), nw_uN (by decide), e (16 + i) (by omega) (by omega), e (26 + i) (by omega) (by omega), e (36 + i) (by omega) (by omega), e (46 + i) (by omega) (by omega)]
      exact hR.cha i a b
  unfold sp_fCrater at hF
  unfold sp_oCrater at suc
  refine b_X0_openCrater_0 ?_
  rw [e1]
  (repeat' (first | refine And.intro ?_ ?_ | refine fun _ => ?_))
  all_goals first
    | exact suc (by omega)
    | exact hF _ (by omega)
    | omega
theorem t_X0_openChannel {a b h s : Int} (hR : RC J L g) (hI : Inv g B) (hD : 2 ≤ D) (hF : ∀ e, sp_fChannel g a b h s e → Qr (some (.inl e)) (J, L, W)) (hS : sp_oChannel g a b h s → ∀ J', sp_fr 2 25 J J' → RC J' L (sp_gChannel g a b h s) → Qr (some (.inl (g 2))) (J', L, W)) : NW sc d_X0_openChannel D (0, [some (.inr (.inl (some 1))), some (.inl a), some (.inl b), some (.inl h), some (.inl s), none, none, none], [], (J, L, W), c, sl) Qr Qx := by
  have e1 := hR.cr
  have e2 := hR.ch
  have k1 := hI.cr
  have k2 := hI.ch
  have suc : sp_oChannel g a b h s → Qr (some (.inl (g 2))) (nw_u (nw_u (nw_u (nw_u (nw_u J 5 (g 2) a) 6 (g 2) b) 7 (g 2) h) 8 (g 2) s) 3 1 (g 2 + 1), L, W) := fun o => by
    have o' := o.2.2.1
    have e : ∀ t, ¬ t = 2 → ¬ t = 16 + g 2 → ¬ t = 26 + g 2 → ¬ t = 36 + g 2 → ¬ t = 46 + g 2 → sp_gChannel g a b h s t = g t := fun t a b c d e => by
      unfold sp_gChannel
      rw [sp_set_ne a, sp_set_ne e, sp_set_ne d, sp_set_ne c, sp_set_ne b]
    have ee : ∀ t, t < 16 ∨ 56 ≤ t → ¬ t = 2 → sp_gChannel g a b h s t = g t := fun t x y => e t y (by omega) (by omega) (by omega) (by omega)
    have en : sp_gChannel g a b h s (16 + g 2) = a ∧ sp_gChannel g a b h s (26 + g 2) = b ∧ sp_gChannel g a b h s (36 + g 2) = h ∧ sp_gChannel g a b h s (46 + g 2) = s := by
      unfold sp_gChannel
      refine ⟨?_, ?_, ?_, ?_⟩
      · rw [sp_set_ne (by omega), sp_set_ne (by omega), sp_set_ne (by omega), sp_set_ne (by omega), sp_set_eq]
      · rw [sp_set_ne (by omega), sp_set_ne (by omega), sp_set_ne (by omega), sp_set_eq]
      · rw [sp_set_ne (by omega), sp_set_ne (by omega), sp_set_eq]
      · rw [sp_set_ne (by omega), sp_set_eq]
    have fr : ∀ x, 9 ≤ x → (nw_u (nw_u (nw_u (nw_u (nw_u J 5 (g 2) a) 6 (g 2) b) 7 (g 2) h) 8 (g 2) s) 3 1 (g 2 + 1)) x = J x := fun x z => by
      rw [nw_uP (by omega), nw_uP (by omega), nw_uP (by omega), nw_uP (by omega), nw_uP (by omega)]
    refine hS o _ (((((sp_fr.refl.u (by decide)).u (by decide)).u (by decide)).u (by decide)).u (by decide)) ⟨hR.s.to (by simp [nw_uP]) rfl ⟨ee 0 (by omega) (by omega), ee 6 (by omega) (by omega), ee 7 (by omega) (by omega)⟩, ⟨?_, ?_, fun i x y => ?_, fun i x y => ?_⟩, hR.f.to ⟨by rw [fr 9 (by omega)], fun x a b => fr x (by omega)⟩ (ee 3 (by omega) (by omega)) (fun s a b => ee s (by omega) (by omega)) hI.fe.2, hR.p.to ⟨by rw [fr 9 (by omega)]; exact ⟨rfl, rfl⟩, fun x a b => fr x (by omega)⟩ ⟨ee 8 (by omega) (by omega), ee 9 (by omega) (by omega)⟩ (fun s a b => ee s (by omega) (by omega)), hR.m.to (fun x a b => fr x (by omega)) ⟨ee 4 (by omega) (by omega), ee 5 (by omega) (by omega)⟩ (fun s a b => ee s (by omega) (by omega)) hI.mo.2⟩
    · rw [ee 1 (by omega) (by omega)]
      simp [nw_u]
      exact hR.cr
    · rw [nw_uS]
      exact sp_set_eq.symm
    · rw [ee 1 (by omega) (by omega)] at y
      rw [ee (10 + i) (by omega) (by omega)]
      simp [nw_u]
      exact hR.dep i x y
    · rw [show sp_gChannel g a b h s 2 = g 2 + 1 from sp_set_eq] at y
      by_cases q : i = g 2
      · subst q
        rw [en.1, en.2.1, en.2.2.1, en.2.2.2]
        simp [nw_u]
      · rw [e (16 + i) (by omega) (by omega) (by omega) (by omega) (by omega), e (26 + i) (by omega) (by omega) (by omega) (by omega) (by omega), e (36 + i) (by omega) (by omega) (by omega) (by omega) (by omega), e (46 + i) (by omega) (by omega) (by omega) (by omega) (by omega)]
        simp [nw_u, q]
        exact hR.cha i x (by omega)
  unfold sp_fChannel sp_isC sp_arC at hF
  unfold sp_oChannel sp_isC sp_arC at suc
  refine b_X0_openChannel_0 hD ?_
  rw [e1, e2]
  have call : (0 ≤ a ∧ a < g 1) → (0 ≤ b ∧ b < g 1) → ¬ a = b → 1 ≤ h → h ≤ 9 → 0 ≤ s → s ≤ 9 → g 2 < 10 → NW sc d_X9_findChannel 1 (0, [some (.inr (.inl (some 3))), some (.inl a), some (.inl b), none], [], (J, L, W), 0, 0) (fun v M9 => NW sc d_X0_openChannel D (100, [some (.inr (.inl (some 1))), some (.inl a), some (.inl b), some (.inl h), some (.inl s), none, none, none], nw_push v [], M9, c, sl) Qr Qx) Qx := fun q1 q2 q3 q4 q5 q6 q7 q8 => by
    refine t_X9_findChannel hR hI q2.1 (by decide) (fun r hr => ?_)
    rw [sp_btwF_eq hr]
    refine b_X0_openChannel_100 ?_
    rw [e2]
    (repeat' (first | refine And.intro ?_ ?_ | refine fun _ => ?_))
    all_goals first
      | exact suc (by omega)
      | exact hF _ (by omega)
      | omega
  (repeat' (first | refine And.intro ?_ ?_ | refine fun _ => ?_))
  all_goals first
    | exact hF _ (by omega)
    | exact call (by omega) (by omega) (by omega) (by omega) (by omega) (by omega) (by omega) (by omega)
    | omega
theorem t_X9_dropChannel {p : Int} (hR : RC J L g) (hI : Inv g B) (hp : 0 ≤ p ∧ p < g 2) (hQ : ∀ J', sp_fr 2 25 J J' → RC J' L (sp_gDrop g p) → Qr none (J', L, W)) : NW sc d_X9_dropChannel D (0, [some (.inr (.inl (some 3))), some (.inl p), none], [], (J, L, W), c, sl) Qr Qx := by
  have e2 := hR.ch
  have k2 := hI.ch
  have lp : ∀ (m : Nat) (i : Int) (J1 : Nat → Int → Int), p ≤ i → i ≤ g 2 - 1 → (g 2 - 1 - i).toNat = m → (∀ x, ¬ (5 ≤ x ∧ x ≤ 8) → J1 x = nw_u J 3 1 (g 2 - 1) x) → (∀ x, 5 ≤ x → x ≤ 8 → ∀ k, J1 x k = if p ≤ k ∧ k < i then J x (k + 1) else J x k) → NW sc d_X9_dropChannel D (12, [some (.inr (.inl (some 3))), none, some (.inl i)], [], (J1, L, W), c, sl) Qr Qx := by
    intro m
    induction m using Nat.strongRecOn with
    | ind m ih =>
      intro i J1 h0 h1 hm hx hj
      have n1 : J1 3 1 = g 2 - 1 := by rw [hx 3 (by decide), nw_uS]
      refine b_X9_dropChannel_12 ?_
      rw [n1]
      refine ⟨fun q => ?_, fun q => ?_⟩
      · have hi : i = g 2 - 1 := by omega
        subst hi
        have ee : ∀ t, t < 16 ∨ 56 ≤ t → ¬ t = 2 → sp_gDrop g p t = g t := fun t x y => by
          unfold sp_gDrop
          rw [sp_set_ne y, sp_drp_out (by omega)]
        have fr : ∀ x, ¬ (5 ≤ x ∧ x ≤ 8) → ¬ x = 3 → J1 x = J x := fun x a b => by rw [hx x a, nw_uP b]
        refine hQ J1 (fun x z => fr x (by omega) (by omega)) ⟨hR.s.to (fr 2 (by omega) (by omega)) rfl ⟨ee 0 (by omega) (by omega), ee 6 (by omega) (by omega), ee 7 (by omega) (by omega)⟩, ⟨?_, ?_, fun k a b => ?_, fun k a b => ?_⟩, hR.f.to ⟨by rw [fr 9 (by omega) (by omega)], fun x a b => fr x (by omega) (by omega)⟩ (ee 3 (by omega) (by omega)) (fun s a b => ee s (by omega) (by omega)) hI.fe.2, hR.p.to ⟨by rw [fr 9 (by omega) (by omega)]; exact ⟨rfl, rfl⟩, fun x a b => fr x (by omega) (by omega)⟩ ⟨ee 8 (by omega) (by omega), ee 9 (by omega) (by omega)⟩ (fun s a b => ee s (by omega) (by omega)), hR.m.to (fun x a b => fr x (by omega) (by omega)) ⟨ee 4 (by omega) (by omega), ee 5 (by omega) (by omega)⟩ (fun s a b => ee s (by omega) (by omega)) hI.mo.2⟩
        · rw [hx 3 (by decide), nw_uI (by decide), ee 1 (by omega) (by omega)]
          exact hR.cr
        · rw [n1]
          exact sp_set_eq.symm
        · rw [ee 1 (by omega) (by omega)] at b
          have := hI.cr
          rw [fr 4 (by decide) (by decide), ee (10 + k) (by omega) (by omega)]
          exact hR.dep k a b
        · rw [show sp_gDrop g p 2 = g 2 - 1 from sp_set_eq] at b
          have x : ∀ q, 0 ≤ q → q < 4 → sp_gDrop g p (16 + 10 * q + k) = if p ≤ k then g (16 + 10 * q + k + 1) else g (16 + 10 * q + k) := fun q q0 q1 => by
            unfold sp_gDrop
            rw [sp_set_ne (by omega), sp_drp_at ⟨q0, q1⟩ (by omega) hp.1]
          have x0 := x 0 (by omega) (by omega)
          have x1 := x 1 (by omega) (by omega)
          have x2 := x 2 (by omega) (by omega)
          have x3 := x 3 (by omega) (by omega)
          rw [show (16 : Int) + 10 * 0 = 16 from rfl] at x0
          rw [show (16 : Int) + 10 * 1 = 26 from rfl] at x1
          rw [show (16 : Int) + 10 * 2 = 36 from rfl] at x2
          rw [show (16 : Int) + 10 * 3 = 46 from rfl] at x3
          rw [x0, x1, x2, x3, hj 5 (by decide) (by decide), hj 6 (by decide) (by decide), hj 7 (by decide) (by decide), hj 8 (by decide) (by decide)]
          have c0 := hR.cha k a (by omega)
          have c1 := hR.cha (k + 1) (by omega) (by omega)
          rw [show 16 + (k + 1) = 16 + k + 1 by omega, show 26 + (k + 1) = 26 + k + 1 by omega, show 36 + (k + 1) = 36 + k + 1 by omega, show 46 + (k + 1) = 46 + k + 1 by omega] at c1
          by_cases z : p ≤ k
          · rw [if_pos ⟨z, b⟩, if_pos z, if_pos ⟨z, b⟩, if_pos z, if_pos ⟨z, b⟩, if_pos z, if_pos ⟨z, b⟩, if_pos z]
            exact c1
          · have zn : ¬ (p ≤ k ∧ k < g 2 - 1) := fun y => z y.1
            rw [if_neg zn, if_neg z, if_neg zn, if_neg z, if_neg zn, if_neg z, if_neg zn, if_neg z]
            exact c0
      · have step : ∀ x, 5 ≤ x → x ≤ 8 → J1 x (i + 1) = J x (i + 1) := fun x a b => by rw [hj x a b, if_neg (by omega)]
        rw [step 5 (by decide) (by decide), step 6 (by decide) (by decide), step 7 (by decide) (by decide), step 8 (by decide) (by decide)]
        refine ⟨by omega, by omega, by omega, ih _ (by omega) (i + 1) _ (by omega) (by omega) rfl (fun x a => ?_) (fun x a b k => ?_)⟩
        · rw [nw_uP (by omega), nw_uP (by omega), nw_uP (by omega), nw_uP (by omega)]
          exact hx x a
        · have key : nw_u (nw_u (nw_u (nw_u J1 5 i (J 5 (i + 1))) 6 i (J 6 (i + 1))) 7 i (J 7 (i + 1))) 8 i (J 8 (i + 1)) x k = if k = i then J x (i + 1) else J1 x k := by
            rcases (show x = 5 ∨ x = 6 ∨ x = 7 ∨ x = 8 by omega) with rfl | rfl | rfl | rfl <;> simp [nw_u]
          rw [key]
          by_cases z : k = i
          · subst z
            rw [if_pos rfl, if_pos (by omega)]
          · rw [if_neg z, hj x a b]
            by_cases y : p ≤ k ∧ k < i
            · rw [if_pos y, if_pos (by omega)]
            · rw [if_neg y, if_neg (by omega)]
  refine b_X9_dropChannel_0 ?_
  rw [e2]
  exact ⟨by omega, lp _ p _ (by omega) (by omega) rfl (fun x a => rfl) (fun x a b k => by rw [if_neg (by omega), nw_uN (by omega)])⟩
theorem t_X0_closeChannel {p : Int} (hR : RC J L g) (hI : Inv g B) (hD : 1 ≤ D) (hF : ∀ e, sp_fDrop g p e → Qr (some (.inl e)) (J, L, W)) (hS : sp_oDrop g p → ∀ J', sp_fr 2 25 J J' → RC J' L (sp_gDrop g p) → Qr (some (.inl (g 2 - 1))) (J', L, W)) : NW sc d_X0_closeChannel D (0, [some (.inr (.inl (some 1))), some (.inl p)], [], (J, L, W), c, sl) Qr Qx := by
  have e2 := hR.ch
  have k2 := hI.ch
  refine b_X0_closeChannel_0 hD ?_
  rw [e2]
  refine ⟨fun q => hF _ (Or.inl ⟨rfl, by omega⟩), fun q1 => ⟨fun q => hF _ (Or.inl ⟨rfl, by omega⟩), fun q2 => ⟨by omega, ?_⟩⟩⟩
  have c := hR.cha p q1 q2
  have ci := hI.cha p q1 q2
  rw [c.1, c.2.1]
  refine t_X4_anyBetween hR hI ci.1 ci.2.2.1 (fun z => ?_) (fun z => ?_)
  · exact b_X0_closeChannel_38 hD ⟨fun q => absurd q (by decide), fun _ => hF _ (Or.inr ⟨rfl, ⟨q1, q2⟩, z⟩)⟩
  · refine b_X0_closeChannel_38 hD ⟨fun _ => ?_, fun q => absurd rfl q⟩
    refine t_X9_dropChannel hR hI ⟨q1, q2⟩ (fun J' hx hj => ?_)
    refine b_X0_closeChannel_52 ?_
    rw [hj.ch, show sp_gDrop g p 2 = g 2 - 1 from sp_set_eq]
    exact hS ⟨⟨q1, q2⟩, fun ⟨f, a, b, d⟩ => z f a b d⟩ J' hx hj
theorem sp_btw_is {g : Int → Int} {B a b p : Int} (hI : Inv g B) (hp : 0 ≤ p ∧ p < g 2) : sp_btwF g a b = p ↔ sp_con g a b p := by
  constructor
  · intro e
    rcases sp_btwF_rng g a b with q | q
    · omega
    · rw [← e]
      exact q.2.2
  · intro e
    rcases sp_btwF_rng g a b with q | q
    · exact absurd e (sp_btwF_no q p hp.1 hp.2)
    · obtain ⟨r, hr⟩ : ∃ r, sp_btwF g a b = r := ⟨_, rfl⟩
      rw [hr] at q ⊢
      rcases Int.lt_trichotomy r p with z | z | z
      · have := hI.uni r p q.1 z hp.2
        have q2 := q.2.2
        unfold sp_con at this q2 e
        omega
      · exact z
      · have := hI.uni p r hp.1 z q.2.1
        have q2 := q.2.2
        unfold sp_con at this q2 e
        omega
end

