/-! earliest arrivals: the word, and the reference's contracts -/
section
variable {sc : Nat × (Nat → Int32)} {D : Nat} {J L : Nat → Int → Int} {W : nw_W} {c sl : Nat} {Qr : nw_QR} {Qx : nw_QX} {g : Int → Int} {B : Int}
/-- the hour at which ferry f is ashore first -/
def sp_t0 (g : Int → Int) (f : Int) : Int := if 0 < g (62 + f) then g (62 + f) else g 0
/-- from u through channel d at hour s -/
def sp_go (g : Int → Int) (f d u s : Int) : Prop := ¬ sp_low g f u s ∧ sp_opn g f d s
/-- over k channels, in crater v by hour t -/
def sp_rc (g : Int → Int) (f : Int) : Nat → Int → Int → Prop
  | 0, v, t => v = g (56 + f) ∧ sp_t0 g f ≤ t
  | k + 1, v, t => ∃ d u s, 0 ≤ d ∧ d < g 2 ∧ sp_con g u v d ∧ sp_rc g f k u s ∧ sp_go g f d u s ∧ s + g (36 + d) ≤ t
def sp_ra (g : Int → Int) (f v t : Int) : Prop := ∃ k, sp_rc g f k v t
theorem sp_t0_rng {g : Int → Int} {B f : Int} (hI : Inv g B) (hf : 0 ≤ f ∧ f < g 3) : g 0 ≤ sp_t0 g f ∧ sp_t0 g f ≤ g 0 + 9 := by
  have := hI.fer f hf.1 hf.2
  unfold sp_t0
  split <;> omega
theorem sp_con_in {g : Int → Int} {B u v d : Int} (hI : Inv g B) (hd : 0 ≤ d ∧ d < g 2) (h : sp_con g u v d) : (0 ≤ u ∧ u < g 1) ∧ (0 ≤ v ∧ v < g 1) ∧ 1 ≤ g (36 + d) ∧ g (36 + d) ≤ 9 ∧ ¬ u = v := by
  have ci := hI.cha d hd.1 hd.2
  rcases h with ⟨a, b⟩ | ⟨a, b⟩ <;> omega
theorem sp_rc_rng {g : Int → Int} {B f : Int} (hI : Inv g B) (hf : 0 ≤ f ∧ f < g 3) : ∀ {k : Nat} {v t : Int}, sp_rc g f k v t → (0 ≤ v ∧ v < g 1) ∧ g 0 ≤ t
  | 0, v, t, h => by
    have := hI.fer f hf.1 hf.2
    have := sp_t0_rng hI hf
    have h1 := h.1
    have h2 := h.2
    omega
  | k + 1, v, t, ⟨d, u, s, d0, d1, hc, hr, _, hs⟩ => by
    have a := sp_con_in hI ⟨d0, d1⟩ hc
    have b := sp_rc_rng hI hf hr
    omega
/-- what an array of hours keeps: at hour h the channels of R are done -/
def sp_ai (g : Int → Int) (f : Int) (A : Int → Int) (h : Int) (R : Int → Int → Prop) : Prop :=
  (∀ v, 0 ≤ v → v < g 1 → A v ≤ 100000000 ∧ g 0 ≤ A v ∧ (A v < 100000000 → sp_ra g f v (A v))) ∧ A (g (56 + f)) ≤ sp_t0 g f ∧ (∀ d u v s, 0 ≤ d → d < g 2 → sp_con g u v d → (s < h ∨ (s = h ∧ R d u)) → A u ≤ s → sp_go g f d u s → A v ≤ s + g (36 + d))
theorem sp_ai_try {g : Int → Int} {B f : Int} {A : Int → Int} {h d u v w : Int} {R : Int → Int → Prop} (hI : Inv g B) (hd : 0 ≤ d ∧ d < g 2) (hc : sp_con g u v d) (hh : 0 ≤ h ∧ h < 90000000) (hA : sp_ai g f A h R) (hw : (w = A v ∧ (A u ≤ h → sp_go g f d u h → A v ≤ h + g (36 + d))) ∨ (w = h + g (36 + d) ∧ w ≤ A v ∧ A u ≤ h ∧ sp_go g f d u h)) : sp_ai g f (sp_set A v w) h (fun x y => R x y ∨ (x = d ∧ y = u)) := by
  have cr := sp_con_in hI hd hc
  have le : ∀ x, sp_set A v w x ≤ A x := fun x => by
    by_cases e : x = v
    · rw [e, sp_set_eq]
      omega
    · rw [sp_set_ne e]
      exact Int.le_refl _
  have new : ∀ x s, s ≤ h → sp_set A v w x ≤ s → A x ≤ s := fun x s hs q => by
    by_cases e : x = v
    · rw [e, sp_set_eq] at q
      rw [e]
      omega
    · rw [sp_set_ne e] at q
      exact q
  refine ⟨fun x x0 x1 => ?_, Int.le_trans (le _) hA.2.1, fun d' x y s d0 d1 hxy hs ha hg => ?_⟩
  · by_cases e : x = v
    · rw [e, sp_set_eq]
      have a := hA.1 v (by omega) (by omega)
      have b := hA.1 u (by omega) (by omega)
      rcases hw with ⟨e1, _⟩ | ⟨e1, e2, e3, e4⟩
      · rw [e1]; exact a
      · refine ⟨by omega, by omega, fun _ => ?_⟩
        obtain ⟨k, hk⟩ := b.2.2 (by omega)
        have mono : ∀ {k : Nat} {x s t : Int}, s ≤ t → sp_rc g f k x s → sp_rc g f k x t := fun {k x s t} st q => by
          cases k with
          | zero => exact ⟨q.1, Int.le_trans q.2 st⟩
          | succ k =>
            obtain ⟨a1, a2, a3, a4, a5, a6, a7, a8, a9⟩ := q
            exact ⟨a1, a2, a3, a4, a5, a6, a7, a8, Int.le_trans a9 st⟩
        exact ⟨k + 1, d, u, h, hd.1, hd.2, hc, mono e3 hk, e4, by omega⟩
    · rw [sp_set_ne e]
      exact hA.1 x x0 x1
  · have ha' := new x s (by omega) ha
    by_cases z : s < h ∨ (s = h ∧ R d' x)
    · exact Int.le_trans (le y) (hA.2.2 d' x y s d0 d1 hxy z ha' hg)
    · have z1 : s = h ∧ d' = d ∧ x = u := by
        rcases hs with q | ⟨q, q1 | q1⟩
        · exact absurd (Or.inl q) z
        · exact absurd (Or.inr ⟨q, q1⟩) z
        · exact ⟨q, q1⟩
      obtain ⟨z1, z2, z3⟩ := z1
      have yv : y = v := by
        rw [z2, z3] at hxy
        rcases hxy with ⟨p1, p2⟩ | ⟨p1, p2⟩ <;> rcases hc with ⟨p3, p4⟩ | ⟨p3, p4⟩ <;> omega
      rw [z2, z3, z1] at hg
      rw [z3, z1] at ha'
      rw [yv, sp_set_eq, z1, z2]
      rcases hw with ⟨e1, e2⟩ | ⟨e1, _⟩
      · rw [e1]; exact e2 ha' hg
      · rw [e1]; exact Int.le_refl _
theorem sp_ai_end {g : Int → Int} {B f : Int} {A : Int → Int} {h : Int} {R : Int → Int → Prop} (hI : Inv g B) (hf : 0 ≤ f ∧ f < g 3) (hA : sp_ai g f A h R) : ∀ {k : Nat} {v t : Int}, sp_rc g f k v t → t ≤ h → A v ≤ t
  | 0, v, t, q, _ => by
    have q1 := q.1
    have q2 := q.2
    rw [q1]
    exact Int.le_trans hA.2.1 q2
  | k + 1, v, t, ⟨d, u, s, d0, d1, hc, hr, hg, hs⟩, ht => by
    have cr := sp_con_in hI ⟨d0, d1⟩ hc
    have := sp_ai_end hI hf hA hr (by omega)
    exact Int.le_trans (hA.2.2 d u v s d0 d1 hc (Or.inl (by omega)) this hg) hs
theorem t_X12_tries {f d u v h : Int} (hI : Inv (J 304) B) (hf : 0 ≤ f ∧ f < J 304 3) (hd : 0 ≤ d ∧ d < J 304 2) (hc : sp_con (J 304) u v d) (hh : 0 ≤ h ∧ h < 90000000) (hD : 2 ≤ D) (hQ : ∀ w, ((w = J 311 v ∧ (J 311 u ≤ h → sp_go (J 304) f d u h → J 311 v ≤ h + J 304 (36 + d))) ∨ (w = h + J 304 (36 + d) ∧ w ≤ J 311 v ∧ J 311 u ≤ h ∧ sp_go (J 304) f d u h)) → Qr none (nw_u J 311 v w, L, W)) : NW sc d_X12_tries D (0, [some (.inr (.inl (some 303))), some (.inl f), some (.inl d), some (.inl u), some (.inl v), some (.inl h), none, none], [], (J, L, W), c, sl) Qr Qx := by
  have cr := sp_con_in hI hd hc
  have k1 := hI.cr
  have k2 := hI.ch
  refine b_X12_tries_0 hD ⟨by omega, fun q => ⟨by omega, by omega, by omega, by omega, hQ _ (Or.inl ⟨rfl, fun x => by omega⟩)⟩, fun q => ?_⟩
  refine t_X12_isTooLow hI hf ⟨by omega, by omega⟩ hh.1 (by omega) (fun y => ?_) (fun y => ?_)
  · exact b_X12_tries_19 hD ⟨fun _ => ⟨by omega, by omega, by omega, by omega, hQ _ (Or.inl ⟨rfl, fun _ x => absurd y x.1⟩)⟩, fun x => absurd x (by decide)⟩
  · refine b_X12_tries_19 hD ⟨fun x => absurd rfl x, fun _ => ?_⟩
    refine t_X12_isOpen hI hf hd hh.1 (by omega) (fun z => ?_) (fun z => ?_)
    · refine b_X12_tries_30 ⟨fun x => absurd x (by decide), fun _ => ⟨by omega, by omega, by omega, by omega, fun x => hQ _ (Or.inl ⟨rfl, fun _ _ => x⟩), fun x => hQ _ (Or.inr ⟨rfl, by omega, q, y, z⟩)⟩⟩
    · exact b_X12_tries_30 ⟨fun _ => ⟨by omega, by omega, by omega, by omega, hQ _ (Or.inl ⟨rfl, fun _ x => absurd x.2 z⟩)⟩, fun x => absurd rfl x⟩
/-- the earliest hour -/
def sp_ea (g : Int → Int) (f v x : Int) : Prop := sp_ra g f v x ∧ ∀ t, sp_ra g f v t → x ≤ t
theorem t_X12_earliestArrival {f v : Int} (hI : Inv (J 304) B) (hf : 0 ≤ f ∧ f < J 304 3) (hv : 0 ≤ v ∧ v < J 304 1) (hD : 3 ≤ D) (hQ1 : ∀ J' x, (∀ y, ¬ y = 311 → J' y = J y) → sp_ea (J 304) f v x → x ≤ J 304 0 + 99 → Qr (some (.inl x)) (nw_u J' 303 13 0, L, W)) (hQ0 : ∀ J', (∀ y, ¬ y = 311 → J' y = J y) → (∀ t, sp_ra (J 304) f v t → J 304 0 + 99 < t) → Qr (some (.inl 0)) (nw_u J' 303 13 2, L, W)) : NW sc d_X12_earliestArrival D (0, [some (.inr (.inl (some 303))), some (.inl f), some (.inl v), none, none], [], (J, L, W), c, sl) Qr Qx := by
  obtain ⟨g, hg⟩ : ∃ g, J 304 = g := ⟨_, rfl⟩
  rw [hg] at hI hQ1 hQ0 hf hv
  have k0 := hI.ho
  have kb := hI.bd
  have k1 := hI.cr
  have k2 := hI.ch
  have k3 := hI.fe
  have fe := hI.fer f hf.1 hf.2
  have tr := sp_t0_rng hI hf
  have hours : ∀ (r : Nat) (h : Int) (J1 : Nat → Int → Int), g 0 ≤ h → h ≤ g 0 + 99 → (g 0 + 99 - h).toNat = r → (∀ x, ¬ x = 311 → J1 x = J x) → sp_ai g f (J1 311) h (fun _ _ => False) → NW sc d_X12_earliestArrival D (77, [some (.inr (.inl (some 303))), some (.inl f), some (.inl v), some (.inl h), none], [], (J1, L, W), c, sl) Qr Qx := by
    intro r9
    induction r9 using Nat.strongRecOn with
    | ind r9 ih =>
      intro h J1 h0 h1 hr hx A
      have j : J1 304 = g := by rw [hx 304 (by decide), hg]
      refine b_X12_earliestArrival_77 hD ?_
      rw [j]
      refine ⟨by omega, fun q => ?_, fun q => ?_⟩
      · have av := A.1 v hv.1 hv.2
        have e : h = g 0 + 99 := by omega
        refine ⟨by omega, fun z => ?_, fun z => ?_⟩
        · refine hQ1 J1 _ hx ⟨av.2.2 (by omega), fun t ⟨k, ht⟩ => ?_⟩ z
          by_cases w : t ≤ h
          · exact sp_ai_end hI hf A ht w
          · omega
        · refine hQ0 J1 hx (fun t ⟨k, ht⟩ => ?_)
          by_cases w : t ≤ h
          · have := sp_ai_end hI hf A ht w
            omega
          · omega
      · have inner : ∀ (r2 : Nat) (d : Int) (J2 : Nat → Int → Int), 0 ≤ d → d ≤ g 2 → (g 2 - d).toNat = r2 → (∀ x, ¬ x = 311 → J2 x = J x) → sp_ai g f (J2 311) h (fun x _ => x < d) → NW sc d_X12_earliestArrival D (93, [some (.inr (.inl (some 303))), some (.inl f), some (.inl v), some (.inl h), some (.inl d)], [], (J2, L, W), c, sl) Qr Qx := by
          intro r2
          induction r2 using Nat.strongRecOn with
          | ind r2 ih2 =>
            intro d J2 d0 d1 hr2 hx2 A2
            have j2 : J2 304 = g := by rw [hx2 304 (by decide), hg]
            refine b_X12_earliestArrival_93 hD ?_
            rw [j2]
            refine ⟨fun z => ⟨by omega, ?_⟩, fun z => ⟨by omega, by omega, by omega, by omega, ?_⟩⟩
            · refine ih _ (by omega) (h + 1) J2 (by omega) (by omega) rfl hx2 ⟨A2.1, A2.2.1, fun e x y s e0 e1 hc hs => ?_⟩
              refine A2.2.2 e x y s e0 e1 hc ?_
              rcases hs with hs | ⟨_, hs⟩
              · by_cases w : s < h
                · exact Or.inl w
                · exact Or.inr ⟨by omega, by omega⟩
              · exact hs.elim
            · refine t_X12_tries (B := B) (by rw [j2]; exact hI) (by rw [j2]; exact hf) (by rw [j2]; exact ⟨d0, z⟩) (by rw [j2]; exact Or.inl ⟨rfl, rfl⟩) ⟨by omega, by omega⟩ (by omega) (fun w hw => ?_)
              rw [j2] at hw
              have A3 := sp_ai_try hI ⟨d0, z⟩ (Or.inl ⟨rfl, rfl⟩) ⟨by omega, by omega⟩ A2 hw
              refine b_X12_earliestArrival_132 hD ?_
              have j3 : nw_u J2 311 (g (26 + d)) w 304 = g := by rw [nw_uP (by decide), j2]
              rw [j3]
              refine ⟨by omega, by omega, by omega, by omega, ?_⟩
              refine t_X12_tries (B := B) (by rw [j3]; exact hI) (by rw [j3]; exact hf) (by rw [j3]; exact ⟨d0, z⟩) (by rw [j3]; exact Or.inr ⟨rfl, rfl⟩) ⟨by omega, by omega⟩ (by omega) (fun w' hw' => ?_)
              rw [j3, nw_u304] at hw'
              have A4 := sp_ai_try hI ⟨d0, z⟩ (Or.inr ⟨rfl, rfl⟩) ⟨by omega, by omega⟩ A3 hw'
              refine b_X12_earliestArrival_160 ⟨by omega, ?_⟩
              refine ih2 _ (by omega) (d + 1) _ (by omega) (by omega) rfl (fun x y => by rw [nw_uP y, nw_uP y]; exact hx2 x y) ?_
              rw [nw_u304, nw_u304]
              refine ⟨A4.1, A4.2.1, fun e x y s e0 e1 hc hs => A4.2.2 e x y s e0 e1 hc ?_⟩
              rcases hs with hs | ⟨hs, hs2⟩
              · exact Or.inl hs
              · refine Or.inr ⟨hs, ?_⟩
                by_cases w1 : e < d
                · exact Or.inl (Or.inl w1)
                · have ed : e = d := by omega
                  rcases hc with ⟨a, _⟩ | ⟨_, b⟩
                  · exact Or.inl (Or.inr ⟨ed, by rw [← a, ed]⟩)
                  · exact Or.inr ⟨ed, by rw [← b, ed]⟩
        exact inner _ 0 J1 (by omega) k2.1 rfl hx ⟨A.1, A.2.1, fun e x y s e0 e1 hc hs => A.2.2 e x y s e0 e1 hc (by
          rcases hs with hs | ⟨_, hs⟩
          · exact Or.inl hs
          · omega)⟩
  have ini : ∀ (r : Nat) (i : Int) (J1 : Nat → Int → Int), 0 ≤ i → i ≤ 6 → (6 - i).toNat = r → (∀ x, ¬ x = 311 → J1 x = J x) → (∀ u, 0 ≤ u → u < i → J1 311 u = 100000000) → NW sc d_X12_earliestArrival D (24, [some (.inr (.inl (some 303))), some (.inl f), some (.inl v), some (.inl i), none], [], (J1, L, W), c, sl) Qr Qx := by
    intro r9
    induction r9 using Nat.strongRecOn with
    | ind r9 ih =>
      intro i J1 i0 i1 hr hx hj
      have j : J1 304 = g := by rw [hx 304 (by decide), hg]
      refine b_X12_earliestArrival_24 hD ?_
      rw [j]
      have go : ∀ w, w = sp_t0 g f → 6 ≤ i → NW sc d_X12_earliestArrival D (77, [some (.inr (.inl (some 303))), some (.inl f), some (.inl v), some (.inl (g 0)), none], [], (nw_u J1 311 (g (56 + f)) w, L, W), c, sl) Qr Qx := fun w hw q => by
        refine hours _ (g 0) _ (by omega) (by omega) rfl (fun x y => by rw [nw_uP y]; exact hx x y) ?_
        rw [nw_u304]
        refine ⟨fun u u0 u1 => ?_, ?_, fun e x y s e0 e1 hc hs ha => ?_⟩
        · by_cases e : u = g (56 + f)
          · rw [e, sp_set_eq, hw]
            exact ⟨by omega, by omega, fun _ => ⟨0, rfl, Int.le_refl _⟩⟩
          · rw [sp_set_ne e, hj u u0 (by omega)]
            exact ⟨by omega, by omega, fun x => absurd x (by decide)⟩
        · rw [sp_set_eq, hw]; exact Int.le_refl _
        · have cr := sp_con_in hI ⟨e0, e1⟩ hc
          rcases hs with hs | ⟨_, hs⟩
          · by_cases e : x = g (56 + f)
            · rw [e, sp_set_eq] at ha
              omega
            · rw [sp_set_ne e, hj x (by omega) (by omega)] at ha
              omega
          · exact hs.elim
      refine ⟨fun q => ⟨by omega, by omega, by omega, by omega, fun z => ⟨by omega, by omega, ?_⟩, fun z => ⟨by omega, by omega, by omega, ?_⟩⟩, fun q => ⟨by omega, by omega, ?_⟩⟩
      · exact go _ (by unfold sp_t0; rw [if_neg (by omega)]; omega) q
      · exact go _ (by unfold sp_t0; rw [if_pos z]; omega) q
      · refine ih _ (by omega) (i + 1) _ (by omega) (by omega) rfl (fun x y => by rw [nw_uP y]; exact hx x y) (fun u u0 u1 => ?_)
        rw [nw_u304]
        by_cases z : u = i
        · rw [z, sp_set_eq]
        · rw [sp_set_ne z]
          exact hj u u0 (by omega)
  refine b_X12_earliestArrival_0 hD ?_
  rw [hg]
  exact ⟨by omega, fun q => by omega, fun _ => ⟨fun q => by omega, fun _ => ⟨by omega, fun q => by omega, fun _ => ⟨fun q => by omega, fun _ => ini _ 0 J (by omega) (by omega) rfl (fun _ _ => rfl) (fun u u0 u1 => by omega)⟩⟩⟩⟩
end
