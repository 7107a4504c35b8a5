/-! arrivals by queue: the passages from a crater that is settled, and the whole method -/
section
variable {sc : Nat × (Nat → Int32)} {D : Nat} {J L : Nat → Int → Int} {W : nw_W} {c sl : Nat} {Qr : nw_QR} {Qx : nw_QX} {g : Int → Int} {B : Int}
theorem t_min {x y : Int} (hQ : ∀ m, (m = x ∨ m = y) → m ≤ x → m ≤ y → Qr (some (.inl m)) (J, L, W)) : NW sc d_J9_min_7cf53 D (0, [some (.inl x), some (.inl y)], [], (J, L, W), c, sl) Qr Qx := by
  refine b_J9_min_7cf53_0 ?_
  exact ⟨fun q => hQ y (Or.inr rfl) (by omega) (Int.le_refl _), fun q => hQ x (Or.inl rfl) (Int.le_refl _) q⟩
theorem t_max {x y : Int} (hQ : ∀ m, (m = x ∨ m = y) → x ≤ m → y ≤ m → Qr (some (.inl m)) (J, L, W)) : NW sc d_J9_max_7cf53 D (0, [some (.inl x), some (.inl y)], [], (J, L, W), c, sl) Qr Qx := by
  refine b_J9_max_7cf53_0 ?_
  exact ⟨fun q => hQ y (Or.inr rfl) (by omega) (Int.le_refl _), fun q => hQ x (Or.inl rfl) (Int.le_refl _) q⟩
theorem sp_ra_go {g : Int → Int} {f u v d s t : Int} (h : sp_ra g f u t) (ht : t ≤ s) (d0 : 0 ≤ d) (d1 : d < g 2) (hc : sp_con g u v d) (hg : sp_go g f d u s) : sp_ra g f v (s + g (36 + d)) := by
  obtain ⟨k, hk⟩ := h
  exact ⟨k + 1, d, u, s, d0, d1, hc, sp_rc_mono ht hk, hg, Int.le_refl _⟩
theorem sp_go_t {g : Int → Int} {f d u s n : Int} (hn : (n = g (10 + u) ∨ n = g (46 + d)) ∧ n ≤ g (10 + u) ∧ n ≤ g (46 + d)) : sp_go g f d u s ↔ g (65 + f) - n ≤ sp_tide s := by
  unfold sp_go sp_low sp_opn
  omega
theorem sp_nu_le {g : Int → Int} (F : Int → Prop) (x d : Int) : sp_nu g F x d ≤ sp_nu g F x (d + 1) := by
  refine sp_sum_le (fun e _ _ => sp_b_mono ?_)
  unfold sp_used
  rintro (w | w | w)
  · exact Or.inl w
  · exact Or.inr (Or.inl w)
  · exact Or.inr (Or.inr ⟨w.1, by omega⟩)
theorem sp_nu_lt {g : Int → Int} {B : Int} (hI : Inv g B) {F : Int → Prop} {x d v : Int} (d0 : 0 ≤ d) (d1 : d < g 2) (hc : sp_con g x v d) (hv : ¬ F v) : sp_nu g F x d + 1 ≤ sp_nu g F x (d + 1) := by
  have cr := sp_con_in hI ⟨d0, d1⟩ hc
  refine sp_sum_lt d0 ?_ (by omega) (fun e _ _ => sp_b_mono ?_)
  · have u1 : ¬ sp_used g F x d d := by
      unfold sp_used
      unfold sp_con at hc
      rintro (u | u | u)
      · refine hv ?_
        rw [show v = g (16 + d) by omega]
        exact u.1
      · refine hv ?_
        rw [show v = g (26 + d) by omega]
        exact u.1
      · omega
    have u2 : sp_used g F x (d + 1) d := by
      unfold sp_used
      unfold sp_con at hc
      exact Or.inr (Or.inr ⟨by omega, by omega⟩)
    show sp_b _ + 1 ≤ sp_b _
    rw [sp_bF u1, sp_bT u2]
    decide
  · unfold sp_used
    rintro (u | u | u)
    · exact Or.inl u
    · exact Or.inr (Or.inl u)
    · exact Or.inr (Or.inr ⟨u.1, by omega⟩)
/-- entries: reached, within the horizon -/
def sp_qr (g : Int → Int) (f : Int) (J : Nat → Int → Int) : Prop := ∀ b k, sp_q J b k → 0 ≤ b ∧ b < g 1 ∧ sp_ra g f b k ∧ k ≤ g 0 + 99
/-- a crater that is settled has told its neighbours; of cc: by the channels below d -/
def sp_qn (g : Int → Int) (f : Int) (H : Int → Int) (Q : Int → Int → Prop) (cc d : Int) : Prop := ∀ x b e s, 0 ≤ x → x < g 1 → ¬ H x = -1 → 0 ≤ e → e < g 2 → sp_con g x b e → H b = -1 → (¬ x = cc ∨ e < d) → H x ≤ s → sp_go g f e x s → s + g (36 + e) ≤ g 0 + 99 → ∃ k, Q b k ∧ k ≤ s + g (36 + e)
def sp_set38 (g H : Int → Int) (b : Int) : Prop := 0 ≤ b ∧ b < g 1 ∧ ¬ H b = -1
theorem t_X10_queuePassages {f cc t n : Int} (hR : RC J L g) (hI : Inv g B) (hf : 0 ≤ f ∧ f < g 3) (hcc : 0 ≤ cc ∧ cc < g 1) (hn : J 40 1 = n) (n0 : 0 ≤ n) (t0 : 0 ≤ t) (hs : sp_qs J) (hh : sp_ra g f cc (J 38 cc) ∧ g 0 ≤ J 38 cc ∧ J 38 cc ≤ g 0 + 99) (i2 : sp_qr g f J) (i3 : sp_qn g f (J 38) (sp_q J) cc 0) (i5 : t + n ≤ 1 + sp_nu g (sp_set38 g (J 38)) cc 0) (hD : 3 ≤ D) (hQ : ∀ J' n', (∀ x, ¬ (40 ≤ x ∧ x ≤ 42) → J' x = J x) → J' 40 1 = n' → 0 ≤ n' → sp_qs J' → sp_qr g f J' → (∀ b k, sp_q J b k → sp_q J' b k) → sp_qn g f (J 38) (sp_q J') cc (g 2) → t + n' ≤ 1 + sp_nu g (sp_set38 g (J 38)) cc (g 2) → Qr none (J', L, W)) : NW sc d_X10_queuePassages D (0, [some (.inr (.inl (some 29))), some (.inr (.inl (some 2))), some (.inl f), some (.inl cc), none, none, none, none, none, none, none, none], [], (J, L, W), c, sl) Qr Qx := by
  have kc := hI.cr
  have kh := hI.ch
  have ko := hI.ho
  have kb := hI.bd
  have kf := hI.fe
  have fr := hR.fer f hf.1 hf.2
  have fi := hI.fer f hf.1 hf.2
  have keep : ∀ J1 : Nat → Int → Int, (∀ x, ¬ (40 ≤ x ∧ x ≤ 42) → J1 x = J x) → RC J1 L g := fun J1 hx => RC.keep hR hI (fun x a b => hx x (by omega))
  have lp : ∀ (r : Nat) (d n' : Int) (J3 : Nat → Int → Int), 0 ≤ d → d ≤ g 2 → (g 2 - d).toNat = r → (∀ x, ¬ (40 ≤ x ∧ x ≤ 42) → J3 x = J x) → J3 40 1 = n' → 0 ≤ n' → sp_qs J3 → sp_qr g f J3 → (∀ b k, sp_q J b k → sp_q J3 b k) → sp_qn g f (J 38) (sp_q J3) cc d → t + n' ≤ 1 + sp_nu g (sp_set38 g (J 38)) cc d → NW sc d_X10_queuePassages D (29, [some (.inr (.inl (some 29))), none, none, some (.inl cc), some (.inr (.inl (some 3))), some (.inl (g 0 + 99)), some (.inl (g (65 + f))), some (.inl d), none, none, none, none], [], (J3, L, W), c, sl) Qr Qx := by
    intro r
    induction r using Nat.strongRecOn with
    | ind r ih =>
      intro d n' J3 d0 d1 hr hx hn3 n0' hs3 i2' mo i3' i5'
      have R3 := keep J3 hx
      have nr := sp_nu_rng hI (sp_set38 g (J 38)) cc d
      have nl := sp_nu_le (g := g) (sp_set38 g (J 38)) cc d
      have h38 : J3 38 = J 38 := hx 38 (by omega)
      refine b_X10_queuePassages_29 hD ?_
      rw [R3.ch]
      refine ⟨fun q => ?_, fun q => ⟨by omega, ?_⟩⟩
      · have e : d = g 2 := by omega
        rw [e] at i3' i5'
        exact hQ J3 n' hx hn3 n0' hs3 i2' mo i3' i5'
      have cr := R3.cha d d0 q
      have ci := hI.cha d d0 q
      rw [cr.1, cr.2.1, h38]
      have skip : (∀ b s, sp_con g cc b d → J 38 b = -1 → J 38 cc ≤ s → sp_go g f d cc s → s + g (36 + d) ≤ g 0 + 99 → False) → NW sc d_X10_queuePassages D (29, [some (.inr (.inl (some 29))), none, none, some (.inl cc), some (.inr (.inl (some 3))), some (.inl (g 0 + 99)), some (.inl (g (65 + f))), some (.inl (d + 1)), none, none, none, none], [], (J3, L, W), c, sl) Qr Qx := fun w => by
        refine ih _ (by omega) (d + 1) n' J3 (by omega) (by omega) rfl hx hn3 n0' hs3 i2' mo (fun x b e s x0 x1 hx2 e0 e1 hc hb hxe hss hg hl => ?_) (by omega)
        by_cases y : x = cc ∧ e = d
        · rw [y.1, y.2] at hc
          rw [y.1] at hss
          rw [y.1, y.2] at hg
          rw [y.2] at hl
          exact (w b s hc hb hss hg hl).elim
        · exact i3' x b e s x0 x1 hx2 e0 e1 hc hb (by omega) hss hg hl
      have go : ∀ v, sp_con g cc v d → 0 ≤ v ∧ v < g 1 → J 38 v = -1 → NW sc d_J9_min_7cf53 0 (0, [some (.inl (J3 4 cc)), some (.inl (J3 8 d))], [], (J3, L, W), 0, 0) (fun v9 M9 => NW sc d_X10_queuePassages D (87, [some (.inr (.inl (some 29))), none, none, some (.inl cc), some (.inr (.inl (some 3))), some (.inl (g 0 + 99)), some (.inl (g (65 + f))), some (.inl d), some (.inl v), none, none, none], nw_push v9 [], M9, c, sl) Qr Qx) Qx := fun v hc hv hv1 => by
        rw [R3.dep cc hcc.1 hcc.2, cr.2.2.2]
        refine t_min (fun m hm1 hm2 hm3 => ?_)
        have gt := fun s => sp_go_t (g := g) (f := f) (d := d) (u := cc) (s := s) ⟨hm1, hm2, hm3⟩
        have dc := hI.dep cc hcc.1 hcc.2
        refine b_X10_queuePassages_87 hD ⟨by omega, by omega, ?_⟩
        rw [h38]
        refine t_X10_hoursToWait ⟨by omega, by omega⟩ (by decide) (fun w w0 w1 hw hm => ?_) (fun hm => ?_)
        · refine b_X10_queuePassages_103 hD ?_
          rw [h38, cr.2.2.1]
          refine ⟨by omega, by omega, by omega, by omega, fun z => by omega, fun _ => ⟨fun z => ⟨by omega, skip (fun b s hb hb1 h1 h2 h3 => ?_)⟩, fun z => ?_⟩⟩
          · have : w ≤ s - J 38 cc := by
              by_cases y : w ≤ s - J 38 cc
              · exact y
              · have h4 := hm (s - J 38 cc) (by omega) (by omega)
                rw [show J 38 cc + (s - J 38 cc) = s by omega] at h4
                have := (gt s).mp h2
                omega
            omega
          · refine t_X2_put hn3 n0' (by omega) hs3 (fun J4 hx5 _ hn4 hs4 p1 p2 p3 => b_X10_queuePassages_149 ⟨by omega, ?_⟩)
            have nl2 := sp_nu_lt hI (F := sp_set38 g (J 38)) d0 q hc (fun y => y.2.2 hv1)
            refine ih _ (by omega) (d + 1) (n' + 1) J4 (by omega) (by omega) rfl (fun x y => (hx5 x y).trans (hx x y)) hn4 (by omega) hs4 (fun b k y => ?_) (fun b k y => p1 b k (mo b k y)) (fun x b e s x0 x1 hx2 e0 e1 hc2 hb hxe hss hg hl => ?_) (by omega)
            · rcases p3 b k y with y | y
              · exact i2' b k y
              · rw [y.1, y.2]
                exact ⟨hv.1, hv.2, sp_ra_go hh.1 (by omega) d0 q hc ((gt _).mpr hw), z⟩
            · by_cases y : x = cc ∧ e = d
              · rw [y.1, y.2] at hc2 hg
                rw [y.1] at hss
                have eb : b = v := by
                  unfold sp_con at hc hc2
                  omega
                rw [eb, y.2]
                refine ⟨_, p2, ?_⟩
                have : w ≤ s - J 38 cc := by
                  by_cases y : w ≤ s - J 38 cc
                  · exact y
                  · have h4 := hm (s - J 38 cc) (by omega) (by omega)
                    rw [show J 38 cc + (s - J 38 cc) = s by omega] at h4
                    have := (gt s).mp hg
                    omega
                omega
              · obtain ⟨k, k1, k2⟩ := i3' x b e s x0 x1 hx2 e0 e1 hc2 hb (by omega) hss hg hl
                exact ⟨k, p1 _ _ k1, k2⟩
        · refine b_X10_queuePassages_103 hD ?_
          rw [h38, cr.2.2.1]
          refine ⟨by omega, by omega, by omega, by omega, fun _ => ⟨by omega, skip (fun b s hb hb1 h1 h2 h3 => ?_)⟩, fun z => absurd rfl z⟩
          have h4 := hm (s - J 38 cc) (by omega)
          rw [show J 38 cc + (s - J 38 cc) = s by omega] at h4
          have := (gt s).mp h2
          omega
      refine ⟨fun z1 => ⟨fun z2 => ⟨by omega, skip (fun b s u => by unfold sp_con at u; omega)⟩, fun z2 => ⟨fun z3 => by omega, fun z3 => ⟨by omega, fun z4 => ⟨by omega, go _ (Or.inr ⟨rfl, z2⟩) (by omega) z4⟩, fun z4 => ⟨by omega, skip (fun b s u y => ?_)⟩⟩⟩⟩, fun z1 => ⟨fun z3 => by omega, fun z3 => ⟨by omega, fun z4 => ⟨by omega, go _ (Or.inl ⟨z1, rfl⟩) (by omega) z4⟩, fun z4 => ⟨by omega, skip (fun b s u y => ?_)⟩⟩⟩⟩
      · have eb : b = g (16 + d) := by unfold sp_con at u; omega
        rw [eb] at y
        exact absurd y z4
      · have eb : b = g (26 + d) := by unfold sp_con at u; omega
        rw [eb] at y
        exact absurd y z4
  refine b_X10_queuePassages_0 ?_
  rw [hR.ho, fr.1]
  exact ⟨by omega, by omega, lp _ 0 n J (by omega) kh.1 rfl (fun _ _ => rfl) hn n0 hs i2 (fun _ _ h => h) i3 i5⟩
theorem sp_qfront {g : Int → Int} {B f : Int} (hI : Inv g B) (hf : 0 ≤ f ∧ f < g 3) {H : Int → Int} {Q : Int → Int → Prop} {cc : Int} (i1 : ∀ b, 0 ≤ b → b < g 1 → H b = -1 ∨ (sp_ea g f b (H b) ∧ H b ≤ g 0 + 99)) (i4 : ¬ H (g (56 + f)) = -1 ∨ Q (g (56 + f)) (sp_t0 g f)) (i3 : sp_qn g f H Q cc (g 2)) : ∀ {k : Nat} {b t : Int}, sp_rc g f k b t → t ≤ g 0 + 99 → H b = -1 → ∃ c h, Q c h ∧ h ≤ t
  | 0, b, t, q, ht, hb => by
    obtain ⟨q1, q2⟩ := q
    rw [q1] at hb
    rcases i4 with w | w
    · exact absurd hb w
    · exact ⟨_, _, w, q2⟩
  | k + 1, b, t, ⟨d, u, s, d0, d1, hc, hr, hg, hs⟩, ht, hb => by
    have cr := sp_con_in hI ⟨d0, d1⟩ hc
    by_cases hu : H u = -1
    · obtain ⟨y, h, q1, q2⟩ := sp_qfront hI hf i1 i4 i3 hr (by omega) hu
      exact ⟨y, h, q1, by omega⟩
    · have h1 := (i1 u cr.1.1 cr.1.2).resolve_left hu
      obtain ⟨h, q1, q2⟩ := i3 u b d s cr.1.1 cr.1.2 hu d0 d1 hc hb (Or.inr d1) (h1.1.2 s ⟨k, hr⟩) hg (by omega)
      exact ⟨b, h, q1, by omega⟩
theorem t_X10_arriveByQueue {f : Int} (hR : RC J L g) (hI : Inv g B) (hf : 0 ≤ f ∧ f < g 3) (hD : 4 ≤ D) (hQ : ∀ J', (∀ x, ¬ (x = 38 ∨ (40 ≤ x ∧ x ≤ 42)) → J' x = J x) → sp_ep g f (J' 38) → Qr none (J', L, W)) : NW sc d_X10_arriveByQueue D (0, [some (.inr (.inl (some 29))), some (.inr (.inl (some 2))), some (.inl f), none, none, none], [], (J, L, W), c, sl) Qr Qx := by
  have kc := hI.cr
  have kh := hI.ch
  have ko := hI.ho
  have kb := hI.bd
  have kf := hI.fe
  have fi := hI.fer f hf.1 hf.2
  have tr := sp_t0_rng hI hf
  have keep : ∀ J1 : Nat → Int → Int, (∀ x, ¬ (x = 38 ∨ (40 ≤ x ∧ x ≤ 42)) → J1 x = J x) → RC J1 L g := fun J1 hx => RC.keep hR hI (fun x a b => hx x (by omega))
  have outer : ∀ (r : Nat) (t n : Int) (J1 : Nat → Int → Int), 0 ≤ t → (21 - t).toNat = r → (∀ x, ¬ (x = 38 ∨ (40 ≤ x ∧ x ≤ 42)) → J1 x = J x) → J1 40 1 = n → 0 ≤ n → sp_qs J1 → (∀ b, 0 ≤ b → b < g 1 → J1 38 b = -1 ∨ (sp_ea g f b (J1 38 b) ∧ J1 38 b ≤ g 0 + 99)) → sp_qr g f J1 → (¬ J1 38 (g (56 + f)) = -1 ∨ sp_q J1 (g (56 + f)) (sp_t0 g f)) → sp_qn g f (J1 38) (sp_q J1) (-1) (g 2) → t + n ≤ 1 + sp_nu g (sp_set38 g (J1 38)) (-1) 0 → NW sc d_X10_arriveByQueue D (42, [some (.inr (.inl (some 29))), some (.inr (.inl (some 2))), some (.inl f), none, some (.inl t), none], [], (J1, L, W), c, sl) Qr Qx := by
    intro r9
    induction r9 using Nat.strongRecOn with
    | ind r9 ih =>
      intro t n J1 t0 hr hx hn n0 hs i1 i2 i4 i3 i5
      have nr := sp_nu_rng hI (sp_set38 g (J1 38)) (-1) 0
      have done : n = 0 → Qr none (J1, L, W) := fun z => by
        have emp : ∀ b h, ¬ sp_q J1 b h := fun b h ⟨k, k0, k1, _⟩ => by omega
        refine hQ J1 hx (fun b b0 b1 => ⟨fun w => (i1 b b0 b1).resolve_left w, fun w s ⟨k, hk⟩ => ?_⟩)
        by_cases y : s ≤ g 0 + 99
        · obtain ⟨c9, h9, q1, _⟩ := sp_qfront hI hf i1 i4 i3 hk y w
          exact absurd q1 (emp c9 h9)
        · omega
      refine b_X10_arriveByQueue_42 hD ⟨fun q => done (by omega), fun q => ?_⟩
      refine t_X2_take hn n0 (by omega) hs (fun z => ?_) (fun z J2 cc h hx2 h40 hn2 hs2 hq hmin hk hk2 => ?_)
      · exact b_X10_arriveByQueue_56 hD ⟨fun y => absurd rfl y, fun _ => done z⟩
      · have i2c := i2 cc h hq
        have j38 : J2 38 = J1 38 := hx2 38 (by omega)
        have hx3 : ∀ x, ¬ (x = 38 ∨ (40 ≤ x ∧ x ≤ 42)) → J2 x = J x := fun x y => (hx2 x (by omega)).trans (hx x y)
        have i2n : sp_qr g f J2 := fun b k y => i2 b k (hk2 b k y)
        refine b_X10_arriveByQueue_56 hD ⟨fun y => ⟨by omega, ?_⟩, fun y => by omega⟩
        rw [j38]
        refine ⟨fun y1 => ⟨by omega, ?_⟩, fun y1 => ?_⟩
        · have qq : ∀ b k, sp_q J1 b k → J1 38 b = -1 → sp_q J2 b k := fun b k u v => by
            rcases hk b k u with w | w
            · rw [w.1] at v
              exact absurd v y1
            · exact w
          refine ih _ (by omega) (t + 1) (n - 1) J2 (by omega) rfl hx3 hn2 (by omega) hs2 (by rw [j38]; exact i1) i2n ?_ (fun x b e s x0 x1 hx2' e0 e1 hc hb hxe hss hg hl => ?_) (by rw [j38]; omega)
          · rw [j38]
            rcases i4 with w | w
            · exact Or.inl w
            · by_cases u : J1 38 (g (56 + f)) = -1
              · exact Or.inr (qq _ _ w u)
              · exact Or.inl u
          · rw [j38] at hx2' hb hss
            obtain ⟨k, k1, k2⟩ := i3 x b e s x0 x1 hx2' e0 e1 hc hb hxe hss hg hl
            exact ⟨k, qq _ _ k1 hb, k2⟩
        · rw [h40]
          have hea : sp_ea g f cc h := ⟨i2c.2.2.1, fun s ⟨k, hk9⟩ => by
            by_cases w : s ≤ g 0 + 99
            · obtain ⟨c9, h9, q1, q2⟩ := sp_qfront hI hf i1 i4 i3 hk9 w y1
              have := hmin c9 h9 q1
              omega
            · have := i2c.2.2.2
              omega⟩
          have hg0 : g 0 ≤ h := by
            obtain ⟨k, hk9⟩ := i2c.2.2.1
            exact (sp_rc_rng hI hf hk9).2
          have r1 : nw_u J2 38 cc h 40 = J2 40 := nw_uP (by decide)
          have r2 : nw_u J2 38 cc h 41 = J2 41 := nw_uP (by decide)
          have r3 : nw_u J2 38 cc h 42 = J2 42 := nw_uP (by decide)
          have qe : ∀ b k, sp_q (nw_u J2 38 cc h) b k ↔ sp_q J2 b k := fun b k => by
            unfold sp_q
            rw [r1, r2, r3]
          have H1 : ∀ b, nw_u J2 38 cc h 38 b = if b = cc then h else J1 38 b := fun b => by
            rw [nw_u304, j38]
            rfl
          have hx4 : ∀ x, ¬ (x = 38 ∨ (40 ≤ x ∧ x ≤ 42)) → nw_u J2 38 cc h x = J x := fun x y => by rw [nw_uP (by omega)]; exact hx3 x y
          refine t_X10_queuePassages (J := nw_u J2 38 cc h) (t := t + 1) (n := n - 1) (keep _ hx4) hI hf ⟨i2c.1, i2c.2.1⟩ (by rw [r1]; exact hn2) (by omega) (by omega) ?_ ?_ (fun b k u => i2n b k ((qe b k).mp u)) ?_ ?_ (by decide) (fun J4 n4 hx5 hn4 n40 hs4 i24 mo i34 i54 => ?_)
          · unfold sp_qs
            rw [r1, r3]
            exact hs2
          · rw [H1, if_pos rfl]
            exact ⟨i2c.2.2.1, hg0, i2c.2.2.2⟩
          · intro x b e s x0 x1 hx2' e0 e1 hc hb hxe hss hg hl
            have xc : ¬ x = cc := fun z => hxe.elim (fun w => w z) (fun w => by omega)
            rw [H1, if_neg xc] at hx2' hss
            rw [H1] at hb
            by_cases z : b = cc
            · rw [if_pos z] at hb
              omega
            · rw [if_neg z] at hb
              obtain ⟨k, k1, k2⟩ := i3 x b e s x0 x1 hx2' e0 e1 hc hb (Or.inr e1) hss hg hl
              rcases hk _ _ k1 with w | w
              · exact absurd w.1 z
              · exact ⟨k, (qe _ _).mpr w, k2⟩
          · have : sp_nu g (sp_set38 g (J1 38)) (-1) 0 ≤ sp_nu g (sp_set38 g (nw_u J2 38 cc h 38)) cc 0 := by
              refine sp_sum_le (fun e e0 e1 => sp_b_mono ?_)
              have ce := hI.cha e e0 (by omega)
              have tr : ∀ b, sp_set38 g (J1 38) b → sp_set38 g (nw_u J2 38 cc h 38) b ∧ ¬ b = cc := fun b hb => by
                have nb : ¬ b = cc := fun z => by rw [z] at hb; exact hb.2.2 y1
                exact ⟨⟨hb.1, hb.2.1, by rw [H1, if_neg nb]; exact hb.2.2⟩, nb⟩
              unfold sp_used
              rintro (w | w | w)
              · exact Or.inl (tr _ w.1)
              · exact Or.inr (Or.inl (tr _ w.1))
              · omega
            omega
          · have h38 : J4 38 = nw_u J2 38 cc h 38 := hx5 38 (by omega)
            have H4 : ∀ b, J4 38 b = if b = cc then h else J1 38 b := fun b => by rw [h38]; exact H1 b
            refine b_X10_arriveByQueue_98 ⟨by omega, ?_⟩
            refine ih _ (by omega) (t + 1) n4 J4 (by omega) rfl (fun x y => (hx5 x (by omega)).trans (hx4 x y)) hn4 n40 hs4 (fun b b0 b1 => ?_) i24 ?_ (fun x b e s x0 x1 hx2' e0 e1 hc hb _ hss hg hl => ?_) ?_
            · rw [H4]
              by_cases z : b = cc
              · rw [if_pos z, z]
                exact Or.inr ⟨hea, i2c.2.2.2⟩
              · rw [if_neg z]
                exact i1 b b0 b1
            · rw [H4]
              by_cases z : g (56 + f) = cc
              · rw [if_pos z]
                exact Or.inl (by omega)
              · rw [if_neg z]
                rcases i4 with w | w
                · exact Or.inl w
                · rcases hk _ _ w with w | w
                  · exact absurd w.1 z
                  · exact Or.inr (mo _ _ ((qe _ _).mpr w))
            · rw [h38] at hx2' hb hss
              exact i34 x b e s x0 x1 hx2' e0 e1 hc hb (Or.inr e1) hss hg hl
            · rw [h38]
              have : sp_nu g (sp_set38 g (nw_u J2 38 cc h 38)) cc (g 2) ≤ sp_nu g (sp_set38 g (nw_u J2 38 cc h 38)) (-1) 0 := by
                refine sp_sum_le (fun e e0 e1 => sp_b_mono ?_)
                have ce := hI.cha e e0 (by omega)
                have cs : sp_set38 g (nw_u J2 38 cc h 38) cc := ⟨i2c.1, i2c.2.1, by rw [H1, if_pos rfl]; omega⟩
                unfold sp_used
                rintro (w | w | w)
                · exact Or.inl ⟨w.1, by omega⟩
                · exact Or.inr (Or.inl ⟨w.1, by omega⟩)
                · rcases w.1 with u | u
                  · exact Or.inl ⟨by rw [u]; exact cs, by omega⟩
                  · exact Or.inr (Or.inl ⟨by rw [u]; exact cs, by omega⟩)
              omega
  refine b_X10_arriveByQueue_0 hD (t_fill_38 (fun J1 hx1 hj1 => ?_))
  have fr := (keep J1 (fun x y => hx1 x (by omega))).fer f hf.1 hf.2
  have rh := (keep J1 (fun x y => hx1 x (by omega))).ho
  have e1 : nw_u J1 40 1 0 40 1 = 0 := nw_uS
  have emp : ∀ b k, ¬ sp_q (nw_u J1 40 1 0) b k := fun b k ⟨z, z0, z1, _⟩ => by rw [e1] at z1; omega
  have start : ∀ a h, a = g (56 + f) → h = sp_t0 g f → NW sc d_X2_put 0 (0, [some (.inr (.inl (some 40))), some (.inl a), some (.inl h), none], [], (nw_u J1 40 1 0, L, W), 0, 0) (fun v M9 => NW sc d_X10_arriveByQueue D (39, [some (.inr (.inl (some 29))), some (.inr (.inl (some 2))), some (.inl f), none, none, none], nw_push v [], M9, c, sl) Qr Qx) Qx := fun a h ha hh => by
    refine t_X2_put e1 (by omega) (by omega) (fun x y _ _ z => by rw [e1] at z; omega) (fun J2 hx2 _ hn2 hs2 p1 p2 p3 => ?_)
    have j38 : ∀ b, 0 ≤ b → b < 6 → J2 38 b = -1 := fun b b0 b1 => by
      rw [hx2 38 (by omega), nw_uN (by decide)]
      exact hj1 b b0 b1
    refine b_X10_arriveByQueue_39 (outer _ 0 1 J2 (by omega) rfl (fun x y => by rw [hx2 x (by omega), nw_uP (by omega)]; exact hx1 x (by omega)) hn2 (by omega) hs2 (fun b b0 b1 => Or.inl (j38 b b0 (by omega))) (fun b k u => ?_) (Or.inr (by rw [← ha, ← hh]; exact p2)) (fun x b e s x0 x1 hx2' _ _ _ _ _ _ _ _ => absurd (j38 x x0 (by omega)) hx2') ?_)
    · rcases p3 b k u with w | w
      · exact absurd w (emp b k)
      · rw [w.1, w.2, ha, hh]
        exact ⟨fi.1, fi.2.1, ⟨0, rfl, Int.le_refl _⟩, by omega⟩
    · have := sp_nu_rng hI (sp_set38 g (J2 38)) (-1) 0
      omega
  refine b_X10_arriveByQueue_8 hD ?_
  rw [rh]
  refine ⟨by omega, fun q => ⟨by omega, start _ _ (by omega) (by unfold sp_t0; rw [if_neg (by omega)]; omega)⟩, fun q => ⟨by omega, by omega, start _ _ (by omega) (by unfold sp_t0; rw [if_pos (by omega)]; omega)⟩⟩
end

