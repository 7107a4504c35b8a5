/-! nets by order: contracts -/
section
variable {sc : Nat × (Nat → Int32)} {D : Nat} {J L : Nat → Int → Int} {W : nw_W} {c sl : Nat} {Qr : nw_QR} {Qx : nw_QX} {g : Int → Int} {B : Int}
theorem sp_sum_abs {f : Int → Int} {b : Int} : ∀ {n : Nat}, (∀ i : Int, 0 ≤ i → i < n → -b ≤ f i ∧ f i ≤ b) → -(n * b) ≤ sp_sum f n ∧ sp_sum f n ≤ n * b
  | 0, _ => by simp [sp_sum]
  | n + 1, e => by
    have h1 := sp_sum_abs (n := n) (fun i a b => e i a (by omega))
    have h2 := e n (by omega) (by omega)
    rw [sp_sum]
    have h3 : ((n + 1 : Nat) : Int) * b = n * b + b := by rw [Int.natCast_add, Int.add_mul]; simp
    rw [h3]
    omega
theorem sp_kr_bd {g : Int → Int} {B : Int} {lab : Int → Int} {P : Int → Prop} {m sum l : Int} (hI : Inv g B) (h : sp_kr g lab P m sum l) (hl : 0 ≤ l ∧ l ≤ 10) : 0 ≤ m ∧ m ≤ 6 ∧ -60 ≤ sum ∧ sum ≤ 60 := by
  have h1 := sp_np_rng (fun u v => lab u = lab v) (g 1).toNat
  have kc := hI.cr
  have hm := h.2.2.1
  have h2 := sp_sum_abs (f := fun t => sp_nt g t - m) (b := 6) (n := l.toNat) (fun t _ _ => by have := sp_nt_rng hI t; show -6 ≤ sp_nt g t - m ∧ sp_nt g t - m ≤ 6; omega)
  have h3 := h.2.2.2
  omega
theorem sp_kr_0 {g : Int → Int} {B : Int} {lab : Int → Int} {P : Int → Prop} (hI : Inv g B) (hl : ∀ v, 0 ≤ v → v < g 1 → lab v = v) (hP : ∀ e, ¬ P e) : sp_kr g lab P (g 1) 0 0 := by
  have kc := hI.cr
  refine ⟨fun x y x0 x1 y0 y1 q => ?_, fun e _ _ q => absurd q (hP e), ?_, rfl⟩
  · rw [hl x x0 x1, hl y y0 y1] at q
    rw [q]
    exact sp_cn_refl
  · have h1 : sp_np (fun u v => lab u = lab v) (g 1).toNat = sp_sum (fun _ => 1) (g 1).toNat := sp_sum_congr (fun v v0 v1 => sp_bT (fun u u0 u1 q => by
      have q' : lab u = lab v := q
      rw [hl u u0 (by omega), hl v v0 (by omega)] at q'
      omega))
    have h2 : ∀ n : Nat, sp_sum (fun _ => (1 : Int)) n = n := fun n => by
      induction n with
      | zero => rfl
      | succ n ih => rw [sp_sum, ih]; omega
    rw [h1, h2]
    omega
theorem t_X10_orderChannels (hR : RC J L g) (hI : Inv g B) (hQ : ∀ J', (∀ x, ¬ x = 43 → J' x = J x) → (∀ i, 0 ≤ i → i < g 2 → 0 ≤ J' 43 i ∧ J' 43 i < g 2) → (∀ i j, 0 ≤ i → i ≤ j → j < g 2 → g (36 + J' 43 i) ≤ g (36 + J' 43 j)) → (∀ e, 0 ≤ e → e < g 2 → ∃ i, 0 ≤ i ∧ i < g 2 ∧ J' 43 i = e) → Qr none (J', L, W)) : NW sc d_X10_orderChannels D (0, [some (.inr (.inl (some 29))), some (.inr (.inl (some 3))), none, none], [], (J, L, W), c, sl) Qr Qx := by
  have kh := hI.ch
  have outer : ∀ (r : Nat) (d : Int) (J1 : Nat → Int → Int), 0 ≤ d → d ≤ g 2 → (g 2 - d).toNat = r → (∀ x, ¬ x = 43 → J1 x = J x) → (∀ i, 0 ≤ i → i < d → 0 ≤ J1 43 i ∧ J1 43 i < d) → (∀ i j, 0 ≤ i → i ≤ j → j < d → g (36 + J1 43 i) ≤ g (36 + J1 43 j)) → (∀ e, 0 ≤ e → e < d → ∃ i, 0 ≤ i ∧ i < d ∧ J1 43 i = e) → NW sc d_X10_orderChannels D (2, [some (.inr (.inl (some 29))), some (.inr (.inl (some 3))), some (.inl d), none], [], (J1, L, W), c, sl) Qr Qx := by
    intro r9
    induction r9 using Nat.strongRecOn with
    | ind r9 ih =>
      intro d J1 d0 d1 hr hx hb hs he
      have n2 : J1 3 1 = g 2 := by rw [hx 3 (by decide)]; exact hR.ch
      refine b_X10_orderChannels_2 ?_
      rw [n2]
      refine ⟨fun q => ?_, fun q => ?_⟩
      · have e : d = g 2 := by omega
        subst e
        exact hQ J1 hx hb hs he
      · have inner : ∀ (r2 : Nat) (p : Int) (J2 : Nat → Int → Int), 0 ≤ p → p ≤ d → p.toNat = r2 → (∀ x, ¬ x = 43 → J2 x = J x) → (∀ k, 0 ≤ k → k < p → J2 43 k = J1 43 k) → (∀ k, p < k → k ≤ d → J2 43 k = J1 43 (k - 1) ∧ g (36 + d) < g (36 + J1 43 (k - 1))) → NW sc d_X10_orderChannels D (12, [some (.inr (.inl (some 29))), some (.inr (.inl (some 3))), some (.inl d), some (.inl p)], [], (J2, L, W), c, sl) Qr Qx := by
          intro r2
          induction r2 using Nat.strongRecOn with
          | ind r2 ih2 =>
            intro p J2 p0 p1 hr2 hx2 hl hu
            have fin : (p = 0 ∨ g (36 + J1 43 (p - 1)) ≤ g (36 + d)) → NW sc d_X10_orderChannels D (2, [some (.inr (.inl (some 29))), some (.inr (.inl (some 3))), some (.inl (d + 1)), none], [], (nw_u J2 43 p d, L, W), c, sl) Qr Qx := fun hp => by
              have v43 : ∀ k, nw_u J2 43 p d 43 k = if k = p then d else J2 43 k := fun k => by rw [nw_u304]; rfl
              refine ih _ (by omega) (d + 1) _ (by omega) (by omega) rfl (fun x z => by rw [nw_uP z]; exact hx2 x z) (fun i i0 i1 => ?_) (fun i j i0 ij j1 => ?_) (fun e e0 e1 => ?_)
              · rw [v43]
                by_cases z : i = p
                · rw [if_pos z]; omega
                · rw [if_neg z]
                  by_cases y : i < p
                  · rw [hl i i0 y]
                    have := hb i i0 (by omega)
                    omega
                  · rw [(hu i (by omega) (by omega)).1]
                    have := hb (i - 1) (by omega) (by omega)
                    omega
              · rw [v43, v43]
                by_cases z : i = p
                · rw [if_pos z]
                  by_cases y : j = p
                  · rw [if_pos y]; exact Int.le_refl _
                  · rw [if_neg y, (hu j (by omega) (by omega)).1]
                    have := (hu j (by omega) (by omega)).2
                    omega
                · rw [if_neg z]
                  by_cases y : j = p
                  · rw [if_pos y, hl i i0 (by omega)]
                    have := hs i (p - 1) i0 (by omega) (by omega)
                    omega
                  · rw [if_neg y]
                    by_cases w : i < p
                    · rw [hl i i0 w]
                      by_cases u : j < p
                      · rw [hl j (by omega) u]
                        exact hs i j i0 ij (by omega)
                      · rw [(hu j (by omega) (by omega)).1]
                        exact hs i (j - 1) i0 (by omega) (by omega)
                    · rw [(hu i (by omega) (by omega)).1, (hu j (by omega) (by omega)).1]
                      exact hs (i - 1) (j - 1) (by omega) (by omega) (by omega)
              · by_cases z : e = d
                · exact ⟨p, p0, by omega, by rw [v43, if_pos rfl]; exact z.symm⟩
                · obtain ⟨i, i0, i1, i2⟩ := he e e0 (by omega)
                  by_cases y : i < p
                  · exact ⟨i, i0, by omega, by rw [v43, if_neg (by omega), hl i i0 y]; exact i2⟩
                  · refine ⟨i + 1, by omega, by omega, ?_⟩
                    rw [v43, if_neg (by omega), (hu (i + 1) (by omega) (by omega)).1, show i + 1 - 1 = i by omega]
                    exact i2
            refine b_X10_orderChannels_12 ⟨fun z => ⟨by omega, by omega, fin (Or.inl (by omega))⟩, fun z => ?_⟩
            have bb := hb (p - 1) (by omega) (by omega)
            have m7 : ∀ e, 0 ≤ e → e < g 2 → J2 7 e = g (36 + e) := fun e e0 e1 => by rw [hx2 7 (by decide)]; exact (hR.cha e e0 e1).2.2.1
            rw [hl (p - 1) (by omega) (by omega), m7 _ bb.1 (by omega), m7 d d0 q]
            refine ⟨by omega, by omega, by omega, by omega, fun y => ⟨by omega, by omega, fin (Or.inr y)⟩, fun y => ⟨by omega, by omega, ?_⟩⟩
            refine ih2 _ (by omega) (p + (-1)) _ (by omega) (by omega) rfl (fun x w => by rw [nw_uP w]; exact hx2 x w) (fun k k0 k1 => ?_) (fun k k0 k1 => ?_)
            · rw [nw_uI (by omega)]
              exact hl k k0 (by omega)
            · by_cases w : k = p
              · rw [w, nw_uS]
                exact ⟨rfl, y⟩
              · rw [nw_uI w]
                exact hu k (by omega) k1
        exact inner _ d J1 d0 (by omega) rfl hx (fun k a b => rfl) (fun k a b => by omega)
  exact b_X10_orderChannels_0 (outer _ 0 J (by omega) kh.1 rfl (fun _ _ => rfl) (fun i a b => by omega) (fun i j a b c => by omega) (fun e a b => by omega))
theorem t_X10_joinGroups {p q : Int} (hQ : ∀ J', (∀ x, ¬ x = 44 → J' x = J x) → (∀ v, 0 ≤ v → v < 6 → J' 44 v = if J 44 v = q then p else J 44 v) → Qr none (J', L, W)) : NW sc d_X10_joinGroups D (0, [some (.inr (.inl (some 29))), some (.inl p), some (.inl q), none], [], (J, L, W), c, sl) Qr Qx := by
  refine b_X10_joinGroups_0 ?_
  have lp : ∀ (m : Nat) (i : Int) (J1 : Nat → Int → Int), 0 ≤ i → i ≤ 6 → (6 - i).toNat = m → (∀ x, ¬ x = 44 → J1 x = J x) → (∀ v, 0 ≤ v → v < 6 → J1 44 v = if v < i ∧ J 44 v = q then p else J 44 v) → NW sc d_X10_joinGroups D (2, [some (.inr (.inl (some 29))), some (.inl p), some (.inl q), some (.inl i)], [], (J1, L, W), c, sl) Qr Qx := by
    intro r9
    induction r9 using Nat.strongRecOn with
    | ind r9 ih =>
      intro i J1 i0 i1 hm hx hj
      refine b_X10_joinGroups_2 ⟨fun z => hQ J1 hx (fun v v0 v1 => ?_), fun z => ⟨⟨i0, z⟩, ?_⟩⟩
      · rw [hj v v0 v1]
        by_cases e : J 44 v = q
        · rw [if_pos ⟨by omega, e⟩, if_pos e]
        · rw [if_neg (fun w => e w.2), if_neg e]
      · have ji := hj i i0 z
        rw [if_neg (by omega)] at ji
        rw [ji]
        refine ⟨fun e => ⟨by omega, ih _ (by omega) (i + 1) J1 (by omega) (by omega) rfl hx (fun v v0 v1 => ?_)⟩, fun e => ⟨by omega, ih _ (by omega) (i + 1) _ (by omega) (by omega) rfl (fun x y => by rw [nw_uP y]; exact hx x y) (fun v v0 v1 => ?_)⟩⟩
        · rw [hj v v0 v1]
          by_cases y : v < i ∧ J 44 v = q
          · rw [if_pos y, if_pos ⟨by omega, y.2⟩]
          · rw [if_neg y]
            by_cases w : v = i
            · rw [w, if_neg (fun x => e x.2)]
            · rw [if_neg (fun x => y ⟨by omega, x.2⟩)]
        · rw [nw_u304]
          by_cases w : v = i
          · rw [w, sp_set_eq, if_pos ⟨by omega, e⟩]
          · rw [sp_set_ne w, hj v v0 v1]
            by_cases y : v < i ∧ J 44 v = q
            · rw [if_pos y, if_pos ⟨by omega, y.2⟩]
            · rw [if_neg y, if_neg (fun x => y ⟨by omega, x.2⟩)]
  exact lp _ 0 J (by omega) (by omega) rfl (fun _ _ => rfl) (fun v v0 v1 => by rw [if_neg (by omega)])
theorem t_X10_netByOrder (hR : RC J L g) (hI : Inv g B) (hD : 1 ≤ D) (hQ1 : ∀ J', (∀ x, ¬ (x = 43 ∨ x = 44) → J' x = J x) → sp_nt g 9 ≤ 1 → Qr (some (.inl (sp_nsum g))) (J', L, W)) (hQ0 : ∀ J', (∀ x, ¬ (x = 43 ∨ x = 44) → J' x = J x) → 1 < sp_nt g 9 → Qr (some (.inl (-1))) (J', L, W)) : NW sc d_X10_netByOrder D (0, [some (.inr (.inl (some 29))), some (.inr (.inl (some 3))), none, none, none, none, none, none], [], (J, L, W), c, sl) Qr Qx := by
  have kc := hI.cr
  have kh := hI.ch
  refine b_X10_netByOrder_0 hD (t_X10_orderChannels hR hI (fun J1 hx1 hb hs he => ?_))
  obtain ⟨o, ho⟩ : ∃ o, J1 43 = o := ⟨_, rfl⟩
  rw [ho] at hb hs he
  have lp : ∀ (r : Nat) (i sum m l : Int) (J2 : Nat → Int → Int), 0 ≤ i → i ≤ g 2 → (g 2 - i).toNat = r → (∀ x, ¬ x = 44 → J2 x = J1 x) → 0 ≤ l → l ≤ 9 → (∀ j, 0 ≤ j → j < i → g (36 + o j) ≤ l) → (∀ j, i ≤ j → j < g 2 → l ≤ g (36 + o j)) → sp_kr g (J2 44) (fun e => ∃ j, 0 ≤ j ∧ j < i ∧ o j = e) m sum l → NW sc d_X10_netByOrder D (40, [some (.inr (.inl (some 29))), some (.inr (.inl (some 3))), some (.inl sum), some (.inl (m - 1)), some (.inl i), none, none, none], [], (J2, L, W), c, sl) Qr Qx := by
    intro r9
    induction r9 using Nat.strongRecOn with
    | ind r9 ih =>
      intro i sum m l J2 i0 i1 hr hx l0 l1 hlo hhi K
      have hx2 : ∀ x, ¬ (x = 43 ∨ x = 44) → J2 x = J x := fun x z => (hx x (by omega)).trans (hx1 x (by omega))
      have n2 : J2 3 1 = g 2 := by rw [hx2 3 (by omega)]; exact hR.ch
      have j43 : ∀ k, J2 43 k = o k := fun k => by rw [hx 43 (by decide), ho]
      have bd := sp_kr_bd hI K ⟨l0, by omega⟩
      have seen : ∀ t, (∀ j, i ≤ j → j < g 2 → t < g (36 + o j)) → l ≤ t → m = sp_nt g t := fun t ht lt => sp_kr_nt hI K (fun e e0 e1 => by
        constructor
        · rintro ⟨j, j0, j1, j2⟩
          have := hlo j j0 j1
          rw [j2] at this
          omega
        · intro z
          obtain ⟨j, j0, j1, j2⟩ := he e e0 e1
          refine ⟨j, j0, ?_, j2⟩
          by_cases y : j < i
          · exact y
          · have := ht j (by omega) j1
            rw [j2] at this
            omega)
      refine b_X10_netByOrder_40 hD ?_
      rw [n2]
      refine ⟨fun q => ?_, fun q => ?_⟩
      · have e := sp_kr_end hI K ⟨l0, by omega⟩ (fun e e0 e1 => by
          obtain ⟨j, j0, j1, j2⟩ := he e e0 e1
          exact ⟨j, j0, by omega, j2⟩) (fun t t0 t1 => seen t (fun j a b => by omega) t0)
        rw [e.1, e.2]
        exact ⟨fun z => hQ1 J2 hx2 (by omega), fun z => hQ0 J2 hx2 (by omega)⟩
      · have ob := hb i i0 q
        have ci := hI.cha (o i) ob.1 ob.2
        have cr := hR.cha (o i) ob.1 ob.2
        rw [j43, hx2 5 (by omega), hx2 6 (by omega), cr.1, cr.2.1]
        have hiL := hhi i (Int.le_refl _) q
        have K1 := sp_kr_up (l' := g (36 + o i)) K ⟨l0, hiL⟩ (fun t t0 t1 => seen t (fun j a b => by have := hs i j i0 a b; omega) t0)
        have hP : ∀ e, (∃ j, 0 ≤ j ∧ j < i + 1 ∧ o j = e) ↔ ((∃ j, 0 ≤ j ∧ j < i ∧ o j = e) ∨ e = o i) := fun e => by
          constructor
          · rintro ⟨j, j0, j1, j2⟩
            by_cases z : j = i
            · right; rw [← j2, z]
            · exact Or.inl ⟨j, j0, by omega, j2⟩
          · rintro (⟨j, j0, j1, j2⟩ | z)
            · exact ⟨j, j0, by omega, j2⟩
            · exact ⟨i, i0, by omega, z.symm⟩
        have lo' : ∀ j, 0 ≤ j → j < i + 1 → g (36 + o j) ≤ g (36 + o i) := fun j a b => hs j i a (by omega) q
        have hi' : ∀ j, i + 1 ≤ j → j < g 2 → g (36 + o i) ≤ g (36 + o j) := fun j a b => hs i j i0 (by omega) b
        refine ⟨by omega, by omega, by omega, by omega, fun z => ⟨by omega, ?_⟩, fun z => ?_⟩
        · exact ih _ (by omega) (i + 1) sum m (g (36 + o i)) J2 (by omega) (by omega) rfl hx (by omega) (by omega) lo' hi' (sp_kr_skip K1 hP z)
        · refine t_X10_joinGroups (fun J3 hx3 hj3 => ?_)
          have K2 := sp_kr_take hI K1 (by omega) hP ob.1 ob.2 z hj3
          refine b_X10_netByOrder_101 ?_
          rw [hx3 7 (by decide), hx2 7 (by omega), cr.2.2.1]
          refine ⟨by omega, by omega, by omega, by omega, ?_⟩
          have := ih _ (by omega) (i + 1) (sum + g (36 + o i)) (m - 1) (g (36 + o i)) J3 (by omega) (by omega) rfl (fun x y => (hx3 x y).trans (hx x y)) (by omega) (by omega) lo' hi' K2
          rw [show m - 1 + (-1) = m - 1 - 1 by omega]
          exact this
  have ini : ∀ (r : Nat) (v : Int) (J2 : Nat → Int → Int), 0 ≤ v → v ≤ g 1 → (g 1 - v).toNat = r → (∀ x, ¬ x = 44 → J2 x = J1 x) → (∀ u, 0 ≤ u → u < v → J2 44 u = u) → NW sc d_X10_netByOrder D (7, [some (.inr (.inl (some 29))), some (.inr (.inl (some 3))), some (.inl v), none, none, none, none, none], [], (J2, L, W), c, sl) Qr Qx := by
    intro r9
    induction r9 using Nat.strongRecOn with
    | ind r9 ih =>
      intro v J2 v0 v1 hr hx hj
      have n1 : J2 3 0 = g 1 := by rw [hx 3 (by omega), hx1 3 (by omega)]; exact hR.cr
      refine b_X10_netByOrder_7 ?_
      rw [n1]
      refine ⟨fun q => ⟨by omega, ?_⟩, fun q => ⟨by omega, by omega, ih _ (by omega) (v + 1) _ (by omega) (by omega) rfl (fun x z => by rw [nw_uP z]; exact hx x z) (fun u u0 u1 => ?_)⟩⟩
      · exact lp _ 0 0 (g 1) 0 J2 (by omega) kh.1 rfl hx (by omega) (by omega) (fun j a b => by omega) (fun j a b => by have := hI.cha (o j) (hb j a b).1 (hb j a b).2; omega) (sp_kr_0 hI (fun u u0 u1 => hj u u0 (by omega)) (fun e ⟨j, j0, j1, _⟩ => by omega))
      · rw [nw_u304]
        by_cases z : u = v
        · rw [z, sp_set_eq]
        · rw [sp_set_ne z]
          exact hj u u0 (by omega)
  exact b_X10_netByOrder_5 (ini _ 0 J1 (by omega) kc.1 rfl (fun _ _ => rfl) (fun u u0 u1 => by omega))
end

