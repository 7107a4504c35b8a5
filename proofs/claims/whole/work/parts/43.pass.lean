/-! hours pass in the reference; many hours on both sides -/
section
variable {sc : Nat × (Nat → Int32)} {D : Nat} {J L : Nat → Int → Int} {W : nw_W} {c sl : Nat} {Qr : nw_QR} {Qx : nw_QX} {g : Int → Int} {B : Int}
theorem t_X12_passesHour (hI : Inv (J 304) B) (hF : sp_fut (J 304)) (hB : B + 5 ≤ 4000000) (hD : 3 ≤ D) (hQ : ∀ J', (∀ x, ¬ x = 304 → J' x = J x) → J' 304 = (sp_hour (J 304)).1 → Qr (some (.inl (sp_hour (J 304)).2)) (J', L, W)) : NW sc d_X12_passesHour D (0, [some (.inr (.inl (some 303))), none, none], [], (J, L, W), c, sl) Qr Qx := by
  obtain ⟨g, hg⟩ : ∃ g, J 304 = g := ⟨_, rfl⟩
  rw [hg] at hI hF hQ
  have kf := hI.fe
  have kh := hI.ho
  have kb := hI.bd
  have km := hI.mo
  have e3 : sp_h0 g 3 = g 3 := sp_h0_s (by omega) (by omega)
  have hI0 := inv_h0 hI hF (by omega)
  have lp : ∀ (m : Nat) (n : Nat) (J1 : Nat → Int → Int), n ≤ g 3 → (g 3 - n).toNat = m → (∀ x, ¬ x = 304 → J1 x = J x) → J1 304 = (sp_hr (sp_h0 g) n).1 → NW sc d_X12_passesHour D (67, [some (.inr (.inl (some 303))), some (.inl ((sp_hr (sp_h0 g) n).2)), some (.inl ((n : Int)))], [], (J1, L, W), c, sl) Qr Qx := by
    intro m
    induction m using Nat.strongRecOn with
    | ind m ih =>
      intro n J1 hn hm hx hj
      have keep := sp_hr_keep (g := sp_h0 g) (n := n) (by omega)
      have hIn := inv_hr hI0 (n := n) (by omega) (by omega)
      have j3 : J1 304 3 = g 3 := by rw [hj, keep.2.1, e3]
      refine b_X12_passesHour_67 hD ?_
      rw [j3]
      refine ⟨fun q => ?_, fun q => ?_⟩
      · have en : (g 3).toNat = n := by omega
        have := hQ J1 hx
        unfold sp_hour at this
        rw [en] at this
        exact this hj
      · have rI := hIn.fer n (by omega) (by rw [keep.2.1, e3]; exact q)
        have e9 : sp_hr (sp_h0 g) (n + 1) = if 0 < (sp_hr (sp_h0 g) n).1 (62 + n) ∧ (sp_hr (sp_h0 g) n).1 (62 + n) = (sp_hr (sp_h0 g) n).1 0 then (sp_stp (sp_hr (sp_h0 g) n).1 n, (sp_hr (sp_h0 g) n).2 + 1) else sp_hr (sp_h0 g) n := rfl
        have ec : ((n : Int) + 1) = ((n + 1 : Nat) : Int) := by omega
        have nxt : ¬ (0 < (sp_hr (sp_h0 g) n).1 (62 + n) ∧ (sp_hr (sp_h0 g) n).1 (62 + n) = (sp_hr (sp_h0 g) n).1 0) → NW sc d_X12_passesHour D (67, [some (.inr (.inl (some 303))), some (.inl ((sp_hr (sp_h0 g) n).2)), some (.inl ((n : Int) + 1))], [], (J1, L, W), c, sl) Qr Qx := fun z => by
          have := ih _ (by omega) (n + 1) J1 (by omega) rfl hx
          rw [e9, if_neg z, ← ec] at this
          exact this hj
        rw [hj]
        refine ⟨by omega, by omega, fun q1 => ⟨by omega, nxt (by omega)⟩, fun q1 => ⟨fun q2 => ⟨by omega, nxt (by omega)⟩, fun q2 => ?_⟩⟩
        have z : 0 < (sp_hr (sp_h0 g) n).1 (62 + n) ∧ (sp_hr (sp_h0 g) n).1 (62 + n) = (sp_hr (sp_h0 g) n).1 0 := ⟨q1, q2⟩
        have hIa := inv_arr hIn (f := n) (by rw [keep.2.1, e3]; omega) (by omega)
        have a3 : sp_arr (sp_hr (sp_h0 g) n).1 n 3 = g 3 := by rw [sp_arr_s (by omega) (by omega) (by omega), keep.2.1, e3]
        have hset : nw_u J1 304 (62 + n) 0 304 = sp_set (sp_hr (sp_h0 g) n).1 (62 + n) 0 := by rw [nw_u304, hj]
        have hIs : Inv (nw_u J1 304 (62 + n) 0 304) (B + 1 + n) := by
          rw [hset]
          have kc := hIn.cr
          have kcc := hIn.ch
          have kmm := hIn.mo
          have kfe := hIn.fe
          have k33 := keep.2.1
          have es : ∀ s, ¬ s = 62 + (n : Int) → sp_set (sp_hr (sp_h0 g) n).1 (62 + n) 0 s = (sp_hr (sp_h0 g) n).1 s := fun s a => sp_set_ne a
          have s0 := es 0 (by omega)
          have s1 := es 1 (by omega)
          have s2 := es 2 (by omega)
          have s3 := es 3 (by omega)
          have s4 := es 4 (by omega)
          have s5 := es 5 (by omega)
          refine ⟨hIn.bd, by rw [s0]; exact hIn.ho, by rw [s1]; exact hIn.cr, by rw [s2]; exact hIn.ch, by rw [s3]; exact hIn.fe, by rw [s4]; exact hIn.mo, by rw [s5]; exact hIn.nx, by rw [es 6 (by omega)]; exact hIn.fa, by rw [es 7 (by omega)]; exact hIn.re, by rw [es 8 (by omega)]; exact hIn.pa, by rw [es 9 (by omega)]; exact hIn.sn, hIn.dep_to s1 (fun s a b => es s (by omega)), hIn.cha_to s1 s2 (fun s a b => es s (by omega)), hIn.uni_to s2 (fun s a b => es s (by omega)), fun f a b => ?_, hIn.moo_to (by omega) (by omega) s4 (by omega) (fun s a b => es s (by omega)), hIn.car_to s3 s4 (fun s a b => es s (by omega)), fun f a b => by rw [s3] at a; rw [es (62 + f) (by omega)]; exact hIn.zer f a b⟩
          rw [s3] at b
          have k1 := hIn.fer f a b
          rw [es (56 + f) (by omega), es (65 + f) (by omega), es (68 + f) (by omega), es (59 + f) (by omega), s0, s1]
          by_cases y : f = n
          · subst y
            rw [sp_set_eq]
            omega
          · rw [es (62 + f) (by omega)]
            exact k1
        refine t_X12_notes hIs (by omega) (fun J2 hx2 hj2 => ?_)
        have hj3 : J2 304 = sp_arr (sp_hr (sp_h0 g) n).1 n := by rw [hj2, hset]; rfl
        have hx3 : ∀ x, ¬ x = 304 → J2 x = J x := fun x y => by rw [hx2 x y, nw_uP y]; exact hx x y
        refine b_X12_passesHour_118 hD ?_
        have fin : ∀ y0, y0 = sp_b (sp_stk (sp_arr (sp_hr (sp_h0 g) n).1 n) n) → NW sc d_X12_passesHour D (131, [some (.inr (.inl (some 303))), some (.inl ((sp_hr (sp_h0 g) n).2)), some (.inl ((n : Int)))], [.inl y0, .inl (J2 304 9), .inl 9, .inr (.inl (some 304))], (J2, L, W), c, sl) Qr Qx := fun y0 hy => by
          have hs2 := hIa.sn
          have hj9 : J2 304 9 = sp_arr (sp_hr (sp_h0 g) n).1 n 9 := by rw [hj3]
          have yb := sp_b_rng (sp_stk (sp_arr (sp_hr (sp_h0 g) n).1 n) n)
          have go : ∀ v, v = J2 304 9 + y0 → NW sc d_X12_passesHour D (67, [some (.inr (.inl (some 303))), some (.inl ((sp_hr (sp_h0 g) n).2 + 1)), some (.inl ((n : Int) + 1))], [], (nw_u J2 304 9 v, L, W), c, sl) Qr Qx := fun v hv => by
            have := ih _ (by omega) (n + 1) (nw_u J2 304 9 v) (by omega) rfl (fun x y => by rw [nw_uP y]; exact hx3 x y)
            rw [e9, if_pos z, ← ec] at this
            dsimp only at this
            refine this ?_
            rw [nw_u304, hj3]
            unfold sp_stp
            have ea : sp_arr (sp_hr (sp_h0 g) n).1 n 9 = (sp_hr (sp_h0 g) n).1 9 := sp_arr_s (by omega) (by omega) (by omega)
            rw [hv, hj9, hy, ea]
          refine b_X12_passesHour_131 ?_
          (repeat' (first | refine And.intro ?_ ?_ | refine fun _ => ?_))
          all_goals first
            | exact go _ (by omega)
            | omega
        refine t_X12_isStuck (by rw [hj3]; exact hIa) (by rw [hj3, a3]; omega) (by decide) (fun y => fin 1 (sp_bT ?_).symm) (fun y => fin 0 (sp_bF ?_).symm)
        · rw [hj3] at y; exact y
        · rw [hj3] at y; exact y
  have es : ∀ s, ¬ s = 0 → ¬ (111 ≤ s ∧ s < 121) → sp_h0 g s = g s := fun s a b => sp_h0_s a (by omega)
  have ph : ∀ (m : Nat) (i : Int) (J1 : Nat → Int → Int), 0 ≤ i → (g 4 - i).toNat = m → (∀ x, ¬ x = 304 → J1 x = J x) → (g 0 + 1) % 24 = 0 → (∀ s, J1 304 s = if 111 ≤ s ∧ s < 111 + i ∧ s < 111 + g 4 then (g s + 1) % 8 else if s = 0 then g 0 + 1 else g s) → NW sc d_X12_passesHour D (12, [some (.inr (.inl (some 303))), some (.inl i), none], [], (J1, L, W), c, sl) Qr Qx := by
    intro m
    induction m using Nat.strongRecOn with
    | ind m ih =>
      intro i J1 h0 hm hx q hj
      have j4 : J1 304 4 = g 4 := by rw [hj, if_neg (by omega), if_neg (by omega)]
      have j0 : J1 304 0 = g 0 + 1 := by rw [hj, if_neg (by omega), if_pos rfl]
      refine b_X12_passesHour_12 ?_
      rw [j4, j0]
      refine ⟨fun q1 => ?_, fun q1 => ⟨by omega, fun q2 => absurd q q2, fun _ => ?_⟩⟩
      · refine lp _ 0 J1 (by omega) rfl hx ?_
        funext s
        show _ = sp_h0 g s
        unfold sp_h0
        rw [if_pos q, hj s]
        unfold sp_pha
        rw [sp_set_ne (g := g) (s := 4) (by omega)]
        by_cases z : 111 ≤ s ∧ s < 111 + g 4
        · rw [if_pos (by omega), if_pos z, sp_set_ne (by omega)]
        · rw [if_neg (by omega), if_neg z]
          rfl
      · have ki := hI.moo i h0 q1
        have ji : J1 304 (111 + i) = g (111 + i) := by rw [hj, if_neg (by omega), if_neg (by omega)]
        rw [ji]
        refine ⟨by omega, by omega, by omega, by omega, by omega, ih _ (by omega) (i + 1) _ (by omega) rfl (fun x z => by rw [nw_uP z]; exact hx x z) q (fun s => ?_)⟩
        rw [nw_u304]
        by_cases z : s = 111 + i
        · subst z
          rw [sp_set_eq, if_pos (by omega)]
        · rw [sp_set_ne z, hj s]
          by_cases y : 111 ≤ s ∧ s < 111 + i ∧ s < 111 + g 4
          · rw [if_pos y, if_pos (by omega)]
          · rw [if_neg y]
            by_cases w : s = 0
            · rw [if_pos w, if_neg (by omega)]
            · rw [if_neg w, if_neg (by omega)]
  refine b_X12_passesHour_0 ?_
  have jg : ∀ s, J 304 s = g s := fun s => by rw [hg]
  refine ⟨by rw [jg]; omega, ?_⟩
  rw [jg]
  have hx0 : ∀ x, ¬ x = 304 → nw_u J 304 0 (g 0 + 1) x = J x := fun x z => nw_uP z
  have hj0 : ∀ s, nw_u J 304 0 (g 0 + 1) 304 s = if s = 0 then g 0 + 1 else g s := fun s => by rw [nw_u304, hg]; rfl
  by_cases q : (g 0 + 1) % 24 = 0
  · exact ph _ 0 _ (by omega) rfl hx0 q (fun s => by rw [if_neg (by omega)]; exact hj0 s)
  · refine b_X12_passesHour_12 ?_
    have st : NW sc d_X12_passesHour D (67, [some (.inr (.inl (some 303))), some (.inl 0), some (.inl 0)], [], (nw_u J 304 0 (g 0 + 1), L, W), c, sl) Qr Qx := lp _ 0 _ (by omega) rfl hx0 (by
      rw [nw_u304, hg]
      show _ = sp_h0 g
      unfold sp_h0
      rw [if_neg q])
    rw [hj0 4, if_neg (by omega), hj0 0, if_pos rfl]
    exact ⟨fun _ => st, fun _ => ⟨by omega, fun _ => st, fun z => absurd z q⟩⟩
theorem inv_pass {g : Int → Int} {B : Int} (h : Inv g B) (hF : sp_fut g) : ∀ {n : Nat}, B + 4 * n ≤ 4000000 → Inv (sp_pass g n).1 (B + 4 * n) ∧ sp_fut (sp_pass g n).1 ∧ 0 ≤ (sp_pass g n).2 ∧ (sp_pass g n).2 ≤ 3 * n
  | 0, _ => ⟨by simpa [sp_pass] using h, hF, by simp [sp_pass], by simp [sp_pass]⟩
  | n + 1, hB => by
    obtain ⟨h1, h2, h3, h4⟩ := inv_pass h hF (n := n) (by omega)
    obtain ⟨k1, k2, k3, k4, _⟩ := inv_hour h1 h2 (by omega)
    refine ⟨?_, k2, ?_, ?_⟩
    · rw [show B + 4 * ((n + 1 : Nat) : Int) = B + 4 * n + 4 by omega]
      exact k1
    · show 0 ≤ (sp_pass g n).2 + (sp_hour (sp_pass g n).1).2
      omega
    · show (sp_pass g n).2 + (sp_hour (sp_pass g n).1).2 ≤ _
      omega
theorem t_X0_letPass {k : Int} (hR : RC J L g) (hI : Inv g B) (hF : sp_fut g) (hB : B + 200 ≤ 4000000) (hD : 4 ≤ D) (hQ0 : k < 1 ∨ 48 < k → Qr (some (.inl (-2))) (J, L, W)) (hQ : 1 ≤ k → k ≤ 48 → ∀ J', sp_fr 2 25 J J' → RC J' L (sp_pass g k.toNat).1 → Qr (some (.inl (sp_pass g k.toNat).2)) (J', L, W)) : NW sc d_X0_letPass D (0, [some (.inr (.inl (some 1))), some (.inl k), none, none], [], (J, L, W), c, sl) Qr Qx := by
  refine b_X0_letPass_0 ⟨fun q => hQ0 (Or.inl q), fun q1 => ⟨fun q2 => ?_, fun q => hQ0 (Or.inr q)⟩⟩
  have lp : ∀ (m : Nat) (n : Nat) (J1 : Nat → Int → Int), n ≤ k → (k - n).toNat = m → sp_fr 2 25 J J1 → RC J1 L (sp_pass g n).1 → NW sc d_X0_letPass D (18, [some (.inr (.inl (some 1))), some (.inl k), some (.inl ((sp_pass g n).2)), some (.inl ((n : Int)))], [], (J1, L, W), c, sl) Qr Qx := by
    intro m
    induction m using Nat.strongRecOn with
    | ind m ih =>
      intro n J1 hn hm hx hj
      obtain ⟨h1, h2, h3, h4⟩ := inv_pass hI hF (n := n) (by omega)
      refine b_X0_letPass_18 hD ⟨fun q => ?_, fun q => ?_⟩
      · have e : k.toNat = n := by omega
        have := hQ q1 q2 J1 hx
        rw [e] at this
        exact this hj
      · obtain ⟨k1, k2, k3, k4, _⟩ := inv_hour h1 h2 (by omega)
        refine t_X0_letOneHourPass hj h1 h2 (by omega) (by decide) (fun J2 hx2 hj2 => ?_)
        refine b_X0_letPass_28 ⟨by omega, by omega, ?_⟩
        have := ih _ (by omega) (n + 1) J2 (by omega) rfl (hx.trans hx2) hj2
        rw [show ((n + 1 : Nat) : Int) = (n : Int) + 1 by omega] at this
        exact this
  exact lp _ 0 J (by omega) rfl sp_fr.refl hR
theorem t_X12_passes {k : Int} (hI : Inv (J 304) B) (hF : sp_fut (J 304)) (hB : B + 200 ≤ 4000000) (hD : 4 ≤ D) (hQ0 : k < 1 ∨ 48 < k → Qr (some (.inl 0)) (nw_u J 303 13 1, L, W)) (hQ : 1 ≤ k → k ≤ 48 → ∀ J', (∀ x, ¬ x = 304 → J' x = J x) → J' 304 = (sp_pass (J 304) k.toNat).1 → Qr (some (.inl (sp_pass (J 304) k.toNat).2)) (nw_u J' 303 13 0, L, W)) : NW sc d_X12_passes D (0, [some (.inr (.inl (some 303))), some (.inl k), none, none], [], (J, L, W), c, sl) Qr Qx := by
  refine b_X12_passes_0 hD ⟨fun q => hQ0 (Or.inl q), fun q1 => ⟨fun q => hQ0 (Or.inr q), fun q2 => ?_⟩⟩
  have lp : ∀ (m : Nat) (n : Nat) (J1 : Nat → Int → Int), n ≤ k → (k - n).toNat = m → (∀ x, ¬ x = 304 → J1 x = J x) → J1 304 = (sp_pass (J 304) n).1 → NW sc d_X12_passes D (20, [some (.inr (.inl (some 303))), some (.inl k), some (.inl ((sp_pass (J 304) n).2)), some (.inl ((n : Int)))], [], (J1, L, W), c, sl) Qr Qx := by
    intro m
    induction m using Nat.strongRecOn with
    | ind m ih =>
      intro n J1 hn hm hx hj
      obtain ⟨h1, h2, h3, h4⟩ := inv_pass hI hF (n := n) (by omega)
      refine b_X12_passes_20 hD ⟨fun q => ?_, fun q => ?_⟩
      · have e : k.toNat = n := by omega
        have := hQ q1 q2 J1 hx
        rw [e] at this
        exact this hj
      · obtain ⟨k1, k2, k3, k4, _⟩ := inv_hour h1 h2 (by omega)
        rw [← hj] at h1 h2
        refine t_X12_passesHour h1 h2 (by omega) (by decide) (fun J2 hx2 hj2 => ?_)
        rw [hj] at hj2 ⊢
        refine b_X12_passes_30 ⟨by omega, by omega, ?_⟩
        have := ih _ (by omega) (n + 1) J2 (by omega) rfl (fun x z => (hx2 x z).trans (hx x z)) hj2
        rw [show ((n + 1 : Nat) : Int) = (n : Int) + 1 by omega] at this
        exact this
  exact lp _ 0 J (by omega) rfl (fun _ _ => rfl) rfl
end
