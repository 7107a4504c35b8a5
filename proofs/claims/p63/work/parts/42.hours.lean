/-! hours pass: contracts -/
section
variable {sc : Nat × (Nat → Int32)} {D : Nat} {J L : Nat → Int → Int} {W : nw_W} {c sl : Nat} {Qr : nw_QR} {Qx : nw_QX} {g : Int → Int} {B : Int}
theorem t_X7_increasePhases {n : Int} (hm : J 18 0 = n) (hn : n ≤ 10) (hp : ∀ p, 0 ≤ p → p < n → 0 ≤ J 23 p ∧ J 23 p ≤ 7) (hQ : ∀ J', (∀ x, ¬ x = 23 → J' x = J x) → (∀ p, 0 ≤ p → p < n → J' 23 p = (J 23 p + 1) % 8) → Qr none (J', L, W)) : NW sc d_X7_increasePhases D (0, [some (.inr (.inl (some 18))), none], [], (J, L, W), c, sl) Qr Qx := by
  refine b_X7_increasePhases_0 ?_
  have lp : ∀ (m : Nat) (i : Int) (J1 : Nat → Int → Int), 0 ≤ i → (n - i).toNat = m → (∀ x, ¬ x = 23 → J1 x = J x) → (∀ p, 0 ≤ p → p < n → J1 23 p = if p < i then (J 23 p + 1) % 8 else J 23 p) → NW sc d_X7_increasePhases D (2, [some (.inr (.inl (some 18))), some (.inl i)], [], (J1, L, W), c, sl) Qr Qx := by
    intro m
    induction m using Nat.strongRecOn with
    | ind m ih =>
      intro i J1 h0 hm2 hx hj
      have e1 := hx 18 (by decide)
      refine b_X7_increasePhases_2 ?_
      rw [e1, hm]
      refine ⟨fun q => hQ J1 hx (fun p a b => by rw [hj p a b, if_pos (by omega)]), fun q => ?_⟩
      have k1 := hp i h0 q
      have k2 := hj i h0 q
      rw [if_neg (by omega)] at k2
      rw [k2]
      refine ⟨by omega, by omega, by omega, by omega, ih _ (by omega) (i + 1) _ (by omega) rfl (fun x z => by rw [nw_uP z]; exact hx x z) (fun p a b => ?_)⟩
      rw [nw_u304]
      by_cases z : p = i
      · rw [z, sp_set_eq, if_pos (by omega)]
      · rw [sp_set_ne z, hj p a b]
        by_cases y : p < i
        · rw [if_pos y, if_pos (by omega)]
        · rw [if_neg y, if_neg (by omega)]
  exact lp _ 0 J (by omega) rfl (fun _ _ => rfl) (fun p a b => by rw [if_neg (by omega)])
theorem t_X4_slotOf {r k : Int} (hk : J 9 6 = k) (h : 0 ≤ r ∧ r < k ∧ k < 2147483648) (hD : 1 ≤ D) (hQ : Qr (some (.inl ((k - 1 - r) % 10))) (J, L, W)) : NW sc d_X4_slotOf D (0, [some (.inr (.inl (some 9))), some (.inl r)], [], (J, L, W), c, sl) Qr Qx := by
  refine b_X4_slotOf_0 hD ?_
  rw [hk]
  refine ⟨by omega, by omega, t_floorMod ⟨by omega, by omega⟩ ?_⟩
  exact b_X4_slotOf_13 hQ
theorem t_X4_endPassage {f : Int} (hR : RC J L g) (hI : Inv g B) (hf : 0 ≤ f ∧ f < g 3) (ha : 0 < g (62 + f) ∧ g (62 + f) = g 0) (hD : 2 ≤ D) (hQ : ∀ J', sp_fr 2 25 J J' → RC J' L (sp_arr g f) → Qr none (J', L, W)) : NW sc d_X4_endPassage D (0, [some (.inr (.inl (some 9))), some (.inl f), none], [], (J, L, W), c, sl) Qr Qx := by
  have k3 := hI.fe
  have k8 := hI.pa
  have kb := hI.bd
  have kf := hI.fer f hf.1 hf.2
  have rf := hR.fer f hf.1 hf.2
  have rp := hR.pa
  have km := hI.mo
  have kc := hI.cr
  have kh := hI.ch
  refine b_X4_endPassage_0 hD ?_
  rw [rp]
  refine ⟨by omega, by omega, t_X4_slotOf (k := g 8 + 1) (by simp [nw_u]) (by omega) (by decide) ?_⟩
  refine b_X4_endPassage_34 ⟨by omega, by omega, ?_⟩
  rw [show g 8 + 1 - 1 - 0 = g 8 by omega]
  refine hQ _ (((((((sp_fr.refl.u (by decide)).u (by decide)).u (by decide)).u (by decide)).u (by decide)).u (by decide))) ?_
  have e : ∀ s, ¬ s = 62 + f → ¬ s = 8 → s < 131 → sp_arr g f s = g s := fun s a b d => sp_arr_s a b d
  refine ⟨hR.s.to (by simp [nw_uP]) rfl ⟨e 0 (by omega) (by omega) (by omega), e 6 (by omega) (by omega) (by omega), e 7 (by omega) (by omega) (by omega)⟩, hR.w.to (fun x a b => ?_) ⟨e 1 (by omega) (by omega) (by omega), e 2 (by omega) (by omega) (by omega)⟩ (fun s a b => e s (by omega) (by omega) (by omega)) kc.2 kh.2, ?_, ?_, hR.m.to (fun x a b => ?_) ⟨e 4 (by omega) (by omega) (by omega), e 5 (by omega) (by omega) (by omega)⟩ (fun s a b => e s (by omega) (by omega) (by omega)) km.2⟩
  · rw [nw_uP (by omega), nw_uP (by omega), nw_uP (by omega), nw_uP (by omega), nw_uP (by omega), nw_uP (by omega)]
  · refine ⟨?_, fun i a b => ?_⟩
    · rw [e 3 (by omega) (by omega) (by omega)]
      simp [nw_u]
      exact hR.fe
    · rw [e 3 (by omega) (by omega) (by omega)] at b
      have ri := hR.fer i a b
      rw [e (65 + i) (by omega) (by omega) (by omega), e (68 + i) (by omega) (by omega) (by omega), e (56 + i) (by omega) (by omega) (by omega), e (59 + i) (by omega) (by omega) (by omega)]
      by_cases z : i = f
      · subst z
        have z2 : sp_arr g i (62 + i) = 0 := by
          unfold sp_arr sp_not
          rw [if_neg (by omega), if_neg (by omega), sp_set_eq]
        rw [z2]
        simp [nw_u]
        omega
      · rw [e (62 + i) (by omega) (by omega) (by omega)]
        simp [nw_u, z]
        omega
  · refine ⟨?_, ?_, fun r a b q => ?_⟩
    · simp [nw_u, sp_arr, sp_not, sp_set]
      omega
    · rw [e 9 (by omega) (by omega) (by omega)]
      simp [nw_u]
      exact hR.sn
    · have q8 : sp_arr g f 8 = g 8 + 1 := by
        unfold sp_arr sp_not
        rw [if_pos rfl, sp_set_ne (by omega)]
      rw [q8] at q ⊢
      by_cases z : r = 0
      · subst z
        rw [show g 8 + 1 - 1 - 0 = g 8 by omega]
        simp [nw_u, sp_arr, sp_not, sp_set]
        omega
      · have rk := hR.kep (r - 1) (by omega) (by omega) (by omega)
        have zz : ¬ (g 8 - r) % 10 = g 8 % 10 := by omega
        rw [show g 8 - 1 - (r - 1) = g 8 - r by omega] at rk
        rw [show g 8 + 1 - 1 - r = g 8 - r by omega]
        have p1 : sp_arr g f (131 + r) = g (131 + (r - 1)) := by
          unfold sp_arr sp_not
          rw [if_neg (by omega), if_pos (by omega), if_neg (by omega), if_neg (by omega), if_neg (by omega), sp_set_ne (by omega)]
          congr 1
          omega
        have p2 : sp_arr g f (141 + r) = g (141 + (r - 1)) := by
          unfold sp_arr sp_not
          rw [if_neg (by omega), if_pos (by omega), if_neg (by omega), if_neg (by omega), if_neg (by omega), sp_set_ne (by omega)]
          congr 1
          omega
        have p3 : sp_arr g f (151 + r) = g (151 + (r - 1)) := by
          unfold sp_arr sp_not
          rw [if_neg (by omega), if_pos (by omega), if_neg (by omega), if_neg (by omega), if_neg (by omega), sp_set_ne (by omega)]
          congr 1
          omega
        rw [p1, p2, p3]
        simp [nw_u, zz]
        exact rk
  · rw [nw_uP (by omega), nw_uP (by omega), nw_uP (by omega), nw_uP (by omega), nw_uP (by omega), nw_uP (by omega)]
theorem t_X0_letOneHourPass (hR : RC J L g) (hI : Inv g B) (hF : sp_fut g) (hB : B + 5 ≤ 4000000) (hD : 3 ≤ D) (hQ : ∀ J', sp_fr 2 25 J J' → RC J' L (sp_hour g).1 → Qr (some (.inl (sp_hour g).2)) (J', L, W)) : NW sc d_X0_letOneHourPass D (0, [some (.inr (.inl (some 1))), none, none], [], (J, L, W), c, sl) Qr Qx := by
  have kf := hI.fe
  have kh := hI.ho
  have kb := hI.bd
  have km := hI.mo
  have kc := hI.cr
  have kch := hI.ch
  have e3 : sp_h0 g 3 = g 3 := sp_h0_s (by omega) (by omega)
  have hI0 := inv_h0 hI hF (by omega)
  have lp : ∀ (m : Nat) (n : Nat) (J1 : Nat → Int → Int), n ≤ g 3 → (g 3 - n).toNat = m → sp_fr 2 25 J J1 → RC J1 L (sp_hr (sp_h0 g) n).1 → NW sc d_X0_letOneHourPass D (37, [some (.inr (.inl (some 1))), some (.inl ((sp_hr (sp_h0 g) n).2)), some (.inl ((n : Int)))], [], (J1, L, W), c, sl) Qr Qx := by
    intro m
    induction m using Nat.strongRecOn with
    | ind m ih =>
      intro n J1 hn hm hx hj
      have keep := sp_hr_keep (g := sp_h0 g) (n := n) (by omega)
      have hIn := inv_hr hI0 (n := n) (by omega) (by omega)
      have hfe := hj.fe
      rw [keep.2.1, e3] at hfe
      refine b_X0_letOneHourPass_37 hD ?_
      rw [hfe]
      refine ⟨fun q => ?_, fun q => ?_⟩
      · have en : (g 3).toNat = n := by omega
        have := hQ J1 hx
        unfold sp_hour at this
        rw [en] at this
        exact this hj
      · have rf := hj.fer n (by omega) (by rw [keep.2.1, e3]; exact q)
        have rI := hIn.fer n (by omega) (by rw [keep.2.1, e3]; exact q)
        have rh := hj.ho
        have e9 : sp_hr (sp_h0 g) (n + 1) = if 0 < (sp_hr (sp_h0 g) n).1 (62 + n) ∧ (sp_hr (sp_h0 g) n).1 (62 + n) = (sp_hr (sp_h0 g) n).1 0 then (sp_stp (sp_hr (sp_h0 g) n).1 n, (sp_hr (sp_h0 g) n).2 + 1) else sp_hr (sp_h0 g) n := rfl
        have ec : ((n : Int) + 1) = ((n + 1 : Nat) : Int) := by omega
        have nxt : ¬ (0 < (sp_hr (sp_h0 g) n).1 (62 + n) ∧ (sp_hr (sp_h0 g) n).1 (62 + n) = (sp_hr (sp_h0 g) n).1 0) → NW sc d_X0_letOneHourPass D (37, [some (.inr (.inl (some 1))), some (.inl ((sp_hr (sp_h0 g) n).2)), some (.inl ((n : Int) + 1))], [], (J1, L, W), c, sl) Qr Qx := fun z => by
          have := ih _ (by omega) (n + 1) J1 (by omega) rfl hx
          rw [e9, if_neg z, ← ec] at this
          exact this hj
        refine ⟨by omega, fun q1 => ⟨by omega, nxt (by omega)⟩, fun q1 => ⟨fun q2 => ⟨by omega, nxt (by omega)⟩, fun q2 => ?_⟩⟩
        have z : 0 < (sp_hr (sp_h0 g) n).1 (62 + n) ∧ (sp_hr (sp_h0 g) n).1 (62 + n) = (sp_hr (sp_h0 g) n).1 0 := by omega
        have hIa := inv_arr hIn (f := n) (by rw [keep.2.1, e3]; omega) (by omega)
        have a3 : sp_arr (sp_hr (sp_h0 g) n).1 n 3 = g 3 := by rw [sp_arr_s (by omega) (by omega) (by omega), keep.2.1, e3]
        refine t_X4_endPassage hj hIn (by rw [keep.2.1, e3]; omega) z (by decide) (fun J2 hx2 hj2 => ?_)
        refine b_X0_letOneHourPass_86 hD ?_
        have fin : ∀ y0, y0 = sp_b (sp_stk (sp_arr (sp_hr (sp_h0 g) n).1 n) n) → NW sc d_X0_letOneHourPass D (102, [some (.inr (.inl (some 1))), some (.inl ((sp_hr (sp_h0 g) n).2)), some (.inl ((n : Int)))], [.inl y0, .inl (J2 9 7), .inr (.inl (some 9))], (J2, L, W), c, sl) Qr Qx := fun y0 hy => by
          have hs := hj2.sn
          have hs2 := hIa.sn
          have yb := sp_b_rng (sp_stk (sp_arr (sp_hr (sp_h0 g) n).1 n) n)
          have go : ∀ v, v = J2 9 7 + y0 → NW sc d_X0_letOneHourPass D (37, [some (.inr (.inl (some 1))), some (.inl ((sp_hr (sp_h0 g) n).2 + 1)), some (.inl ((n : Int) + 1))], [], (nw_u J2 9 7 v, L, W), c, sl) Qr Qx := fun v hv => by
            have := ih _ (by omega) (n + 1) (nw_u J2 9 7 v) (by omega) rfl ((hx.trans hx2).u (by decide))
            rw [e9, if_pos z, ← ec] at this
            dsimp only at this
            refine this ?_
            have ea : sp_arr (sp_hr (sp_h0 g) n).1 n 9 = (sp_hr (sp_h0 g) n).1 9 := sp_arr_s (by omega) (by omega) (by omega)
            have es : ∀ s, ¬ s = 9 → sp_stp (sp_hr (sp_h0 g) n).1 n s = sp_arr (sp_hr (sp_h0 g) n).1 n s := fun s a => sp_set_ne a
            refine ⟨hj2.s.to (by simp [nw_uP]) rfl ⟨es 0 (by omega), es 6 (by omega), es 7 (by omega)⟩, hj2.w.to (fun x a b => nw_uP (by omega)) ⟨es 1 (by omega), es 2 (by omega)⟩ (fun s a b => es s (by omega)) hIa.cr.2 hIa.ch.2, hj2.f.to ⟨by simp [nw_u], fun x a b => nw_uP (by omega)⟩ (es 3 (by omega)) (fun s a b => es s (by omega)) hIa.fe.2, ?_, hj2.m.to (fun x a b => nw_uP (by omega)) ⟨es 4 (by omega), es 5 (by omega)⟩ (fun s a b => es s (by omega)) hIa.mo.2⟩
            refine ⟨?_, ?_, fun r a b q => ?_⟩
            · rw [es 8 (by omega)]
              simp [nw_u]
              exact hj2.pa
            · unfold sp_stp
              rw [sp_set_eq]
              simp [nw_u]
              omega
            · rw [es 8 (by omega)] at q ⊢
              rw [es (131 + r) (by omega), es (141 + r) (by omega), es (151 + r) (by omega), nw_uP (by omega), nw_uP (by omega), nw_uP (by omega)]
              exact hj2.kep r a b q
          refine b_X0_letOneHourPass_102 ?_
          (repeat' (first | refine And.intro ?_ ?_ | refine fun _ => ?_))
          all_goals first
            | exact go _ (by omega)
            | omega
        refine t_X8_aground hj2 hIa (by rw [a3]; omega) (by decide) (fun y => fin 1 (sp_bT y).symm) (fun y => fin 0 (sp_bF y).symm)
  have rh := hR.ho
  have start : ∀ J1, sp_fr 2 25 J J1 → RC J1 L (sp_h0 g) → NW sc d_X0_letOneHourPass D (37, [some (.inr (.inl (some 1))), some (.inl 0), some (.inl 0)], [], (J1, L, W), c, sl) Qr Qx := fun J1 hx hj => lp _ 0 J1 (by omega) rfl hx hj
  have es : ∀ s, ¬ s = 0 → ¬ (111 ≤ s ∧ s < 121) → sp_h0 g s = g s := fun s a b => sp_h0_s a (by omega)
  refine b_X0_letOneHourPass_0 hD ?_
  rw [rh]
  refine ⟨by omega, by omega, fun q => start _ (sp_fr.refl.u (by decide)) ?_, fun q => ?_⟩
  · have ee : sp_h0 g = sp_set g 0 (g 0 + 1) := if_neg q
    refine ⟨⟨?_, ?_, ?_⟩, hR.w.to (fun x a b => nw_uP (by omega)) ⟨es 1 (by omega) (by omega), es 2 (by omega) (by omega)⟩ (fun s a b => es s (by omega) (by omega)) kc.2 kch.2, hR.f.to ⟨by simp [nw_u], fun x a b => nw_uP (by omega)⟩ (es 3 (by omega) (by omega)) (fun s a b => es s (by omega) (by omega)) kf.2, hR.p.to ⟨by simp [nw_u], fun x a b => nw_uP (by omega)⟩ ⟨es 8 (by omega) (by omega), es 9 (by omega) (by omega)⟩ (fun s a b => es s (by omega) (by omega)), hR.m.to (fun x a b => nw_uP (by omega)) ⟨es 4 (by omega) (by omega), es 5 (by omega) (by omega)⟩ (fun s a b => by rw [ee]; exact sp_set_ne (by omega)) km.2⟩
    · rw [sp_h0_0]; exact nw_uS
    · rw [es 6 (by omega) (by omega)]; simp [nw_u]; exact hR.fa
    · rw [es 6 (by omega) (by omega), es 7 (by omega) (by omega)]; exact hR.pu
  · refine t_X7_increasePhases (n := g 4) (by rw [nw_uP (by omega)]; exact hR.mo) km.2 (fun p a b => ?_) (fun J1 hx hj => ?_)
    · rw [nw_uP (by omega)]
      have := hR.moo p a b
      have := hI.moo p a b
      omega
    · refine b_X0_letOneHourPass_33 (start J1 (fun x z => ?_) ?_)
      · rw [hx x (by omega), nw_uP (by omega)]
      · have ex : ∀ x, ¬ x = 23 → ¬ x = 2 → J1 x = J x := fun x a b => by rw [hx x a, nw_uP b]
        refine ⟨⟨?_, ?_, ?_⟩, hR.w.to (fun x a b => ex x (by omega) (by omega)) ⟨es 1 (by omega) (by omega), es 2 (by omega) (by omega)⟩ (fun s a b => es s (by omega) (by omega)) kc.2 kch.2, hR.f.to ⟨by rw [ex 9 (by omega) (by omega)], fun x a b => ex x (by omega) (by omega)⟩ (es 3 (by omega) (by omega)) (fun s a b => es s (by omega) (by omega)) kf.2, hR.p.to ⟨by rw [ex 9 (by omega) (by omega)]; exact ⟨rfl, rfl⟩, fun x a b => ex x (by omega) (by omega)⟩ ⟨es 8 (by omega) (by omega), es 9 (by omega) (by omega)⟩ (fun s a b => es s (by omega) (by omega)), ⟨?_, ?_, fun p a b => ?_⟩⟩
        · rw [sp_h0_0, hx 2 (by omega)]; exact nw_uS
        · rw [es 6 (by omega) (by omega), hx 2 (by omega)]; simp [nw_u]; exact hR.fa
        · rw [es 6 (by omega) (by omega), es 7 (by omega) (by omega)]; exact hR.pu
        · rw [ex 18 (by omega) (by omega), es 4 (by omega) (by omega)]; exact hR.mo
        · rw [ex 18 (by omega) (by omega), es 5 (by omega) (by omega)]; exact hR.nx
        · rw [es 4 (by omega) (by omega)] at b
          have r1 := hR.moo p a b
          have r2 := hj p a b
          rw [nw_uP (by omega)] at r2
          have ph : sp_h0 g (111 + p) = (g (111 + p) + 1) % 8 := by
            unfold sp_h0
            rw [if_pos q]
            unfold sp_pha
            rw [sp_set_ne (g := g) (s := 4) (by omega), if_pos (by omega), sp_set_ne (by omega)]
          rw [es (71 + p) (by omega) (by omega), es (81 + p) (by omega) (by omega), es (91 + p) (by omega) (by omega), es (101 + p) (by omega) (by omega), es (121 + p) (by omega) (by omega), ph, ex 19 (by omega) (by omega), ex 20 (by omega) (by omega), ex 21 (by omega) (by omega), ex 22 (by omega) (by omega), ex 24 (by omega) (by omega), ex 25 (by omega) (by omega), r2]
          omega
end

