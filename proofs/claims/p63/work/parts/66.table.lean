/-! loads by table -/
section
variable {sc : Nat × (Nat → Int32)} {D : Nat} {J L : Nat → Int → Int} {W : nw_W} {c sl : Nat} {Qr : nw_QR} {Qx : nw_QX} {g : Int → Int} {B : Int}
theorem sp_tl_ins {u : Int → Int} {T : Int → Prop} {p : Int} (hT : ¬ T p) : ∀ {k : Nat} {q : Int}, q ≤ p → p < q + k → sp_tl (fun x => sp_if (T x ∨ x = p) (u x)) k q = sp_tl (fun x => sp_if (T x) (u x)) k q + u p
  | 0, q, a, b => by omega
  | k + 1, q, a, b => by
    rw [sp_tl, sp_tl]
    by_cases e : q = p
    · rw [e, sp_ifT (Or.inr rfl), sp_ifF hT]
      have : sp_tl (fun x => sp_if (T x ∨ x = p) (u x)) k (p + 1) = sp_tl (fun x => sp_if (T x) (u x)) k (p + 1) := sp_tl_congr (fun x c d => sp_if_congr ⟨fun z => z.resolve_right (by omega), Or.inl⟩)
      rw [this]
      omega
    · rw [sp_tl_ins hT (k := k) (q := q + 1) (by omega) (by omega), sp_if_congr (P := T q ∨ q = p) (Q := T q) ⟨fun z => z.resolve_right e, Or.inl⟩]
      omega
noncomputable def sp_ws (g : Int → Int) (u : Int → Int) (T : Int → Prop) : Int := sp_tl (fun x => sp_if (T x) (u x)) (g 4).toNat 0
theorem sp_ws_ins {g u : Int → Int} {T : Int → Prop} {p : Int} (hT : ¬ T p) (hp : 0 ≤ p ∧ p < g 4) : sp_ws g u (fun x => T x ∨ x = p) = sp_ws g u T + u p := sp_tl_ins hT hp.1 (by omega)
theorem sp_ws_congr {g u : Int → Int} {S T : Int → Prop} (h : ∀ x, S x ↔ T x) : sp_ws g u S = sp_ws g u T := sp_tl_congr (fun x _ _ => sp_if_congr (h x))
/-- x is the most that sets of the first i gathered moons give within u -/
def sp_fm (g : Int → Int) (J : Nat → Int → Int) (i u x : Int) : Prop :=
  (∃ T : Int → Prop, (∀ p, T p → ∃ j, 0 ≤ j ∧ j < i ∧ J 27 j = p) ∧ sp_ws g (sp_wt g) T ≤ u ∧ sp_ws g (sp_fare g) T = x) ∧ ∀ T : Int → Prop, (∀ p, T p → ∃ j, 0 ≤ j ∧ j < i ∧ J 27 j = p) → sp_ws g (sp_wt g) T ≤ u → sp_ws g (sp_fare g) T ≤ x
theorem sp_ws_nil {g u : Int → Int} {T : Int → Prop} (h : ∀ x, ¬ T x) : sp_ws g u T = 0 := sp_tl_zero (fun x _ _ => sp_ifF (h x))
theorem sp_fm_0 {g : Int → Int} {J : Nat → Int → Int} {u : Int} (hu : 0 ≤ u) : sp_fm g J 0 u 0 := by
  refine ⟨⟨fun _ => False, fun p h => h.elim, by rw [sp_ws_nil (fun _ h => h)]; exact hu, sp_ws_nil (fun _ h => h)⟩, fun T hT _ => ?_⟩
  rw [sp_ws_nil (fun x hx => by obtain ⟨j, j0, j1, _⟩ := hT x hx; omega)]
  exact Int.le_refl _
theorem sp_fm_step {g : Int → Int} {B f n : Int} {J : Nat → Int → Int} {i u x y z : Int} (hI : Inv g B) (hl : sp_gl g f J n (g 4)) (i0 : 0 ≤ i) (i1 : i < n) (hx : sp_fm g J i u x) (hy : J 52 i ≤ u → sp_fm g J i (u - J 52 i) y) (h1 : J 52 i ≤ u → (z = x ∨ z = y + J 53 i) ∧ x ≤ z ∧ y + J 53 i ≤ z) (h2 : ¬ J 52 i ≤ u → z = x) : sp_fm g J (i + 1) u z := by
  have hi := hl.2.1 i i0 i1
  have mi := hI.moo (J 27 i) hi.1 hi.2.1
  have out : ∀ T : Int → Prop, (∀ p, T p → ∃ j, 0 ≤ j ∧ j < i ∧ J 27 j = p) → ¬ T (J 27 i) := fun T hT h => by
    obtain ⟨j, j0, j1, j2⟩ := hT _ h
    have := hl.2.2.1 j i j0 j1 i1
    omega
  have wnn : ∀ T : Int → Prop, 0 ≤ sp_ws g (sp_wt g) T := fun T => sp_tl_nn (fun p a b => sp_if_nn (fun _ => by have := hI.moo p a (by omega); unfold sp_wt; omega))
  rw [hi.2.2.2.1] at hy h1 h2
  rw [hi.2.2.2.2] at h1
  refine ⟨?_, fun T hT hu => ?_⟩
  · by_cases c : sp_wt g (J 27 i) ≤ u
    · rcases (h1 c).1 with e | e
      · obtain ⟨T, t1, t2, t3⟩ := hx.1
        exact ⟨T, fun p hp => by obtain ⟨j, j0, j1, j2⟩ := t1 p hp; exact ⟨j, j0, by omega, j2⟩, t2, by rw [t3, e]⟩
      · obtain ⟨T, t1, t2, t3⟩ := (hy c).1
        refine ⟨fun p => T p ∨ p = J 27 i, fun p hp => ?_, by rw [sp_ws_ins (out T t1) ⟨hi.1, hi.2.1⟩]; omega, by rw [sp_ws_ins (out T t1) ⟨hi.1, hi.2.1⟩, t3, e]⟩
        rcases hp with hp | hp
        · obtain ⟨j, j0, j1, j2⟩ := t1 p hp
          exact ⟨j, j0, by omega, j2⟩
        · exact ⟨i, i0, by omega, hp.symm⟩
    · obtain ⟨T, t1, t2, t3⟩ := hx.1
      exact ⟨T, fun p hp => by obtain ⟨j, j0, j1, j2⟩ := t1 p hp; exact ⟨j, j0, by omega, j2⟩, t2, by rw [t3, h2 c]⟩
  · rcases Classical.em (T (J 27 i)) with c | c
    · have e : ∀ p, T p ↔ ((T p ∧ ¬ p = J 27 i) ∨ p = J 27 i) := fun p => ⟨fun h => (Classical.em (p = J 27 i)).elim Or.inr (fun z => Or.inl ⟨h, z⟩), fun h => h.elim (fun z => z.1) (fun z => z ▸ c)⟩
      have t1 : ∀ p, (T p ∧ ¬ p = J 27 i) → ∃ j, 0 ≤ j ∧ j < i ∧ J 27 j = p := fun p hp => by
        obtain ⟨j, j0, j1, j2⟩ := hT p hp.1
        refine ⟨j, j0, Classical.byContradiction (fun z => hp.2 ?_), j2⟩
        rw [← j2, show j = i by omega]
      have nm : ¬ (T (J 27 i) ∧ ¬ J 27 i = J 27 i) := fun h => h.2 rfl
      rw [sp_ws_congr e, sp_ws_ins (T := fun p => T p ∧ ¬ p = J 27 i) nm ⟨hi.1, hi.2.1⟩] at hu ⊢
      have n0 := wnn (fun p => T p ∧ ¬ p = J 27 i)
      have := (hy (by omega)).2 _ t1 (by omega)
      have := (h1 (by omega)).2.2
      omega
    · have t1 : ∀ p, T p → ∃ j, 0 ≤ j ∧ j < i ∧ J 27 j = p := fun p hp => by
        obtain ⟨j, j0, j1, j2⟩ := hT p hp
        refine ⟨j, j0, Classical.byContradiction (fun z => c ?_), j2⟩
        rw [show i = j by omega, j2]
        exact hp
      have := hx.2 T t1 hu
      by_cases c2 : sp_wt g (J 27 i) ≤ u
      · have := (h1 c2).2.1
        omega
      · have := h2 c2
        omega
theorem sp_fm_end {g : Int → Int} {B f n x : Int} {J : Nat → Int → Int} (hI : Inv g B) (hf : 0 ≤ f ∧ f < g 3) (hl : sp_gl g f J n (g 4)) (h : sp_fm g J n (g (68 + f) - sp_car g f) x) : x = (sp_best g f).1 := by
  have km := hI.mo
  have ca := hI.car f hf.1 hf.2
  have es := sp_E_sum (C := sp_can g f) (w := sp_wt g) (v := sp_fare g) (k := (g 4).toNat) (p := 0) (r := g (68 + f) - sp_car g f) (by omega)
  have h1 := h.2 (sp_best g f).2 (fun p hp => by
    have := sp_E_in hp
    exact hl.2.2.2 p (by omega) this.2.2.2.1 this.2.2) es.1
  obtain ⟨T, t1, t2, t3⟩ := h.1
  have h2 := (sp_E_opt (C := sp_can g f) (w := sp_wt g) (v := sp_fare g) (fun p hp => by have := hI.moo p hp.1 hp.2.1; unfold sp_wt; omega) (k := (g 4).toNat) (p := 0) (r := g (68 + f) - sp_car g f) (T := T) (fun p hp => by
    obtain ⟨j, j0, j1, j2⟩ := t1 p hp
    have := hl.2.1 j j0 j1
    rw [j2] at this
    exact ⟨this.1, by omega, this.2.2.1⟩) t2).1
  have e1 : sp_ws g (sp_fare g) (sp_best g f).2 = (sp_best g f).1 := es.2
  have e2 : sp_ws g (sp_fare g) T ≤ (sp_best g f).1 := h2
  omega
theorem t_X6_sumByTable {f n : Int} (hI : Inv g B) (hf : 0 ≤ f ∧ f < g 3) (hn : J 26 0 = n) (hroom : J 26 4 = g (68 + f) - sp_car g f) (hl : sp_gl g f J n (g 4)) (hD : 1 ≤ D) (hQ : ∀ J', (∀ x, ¬ x = 54 → J' x = J x) → Qr (some (.inl (sp_best g f).1)) (J', L, W)) : NW sc d_X6_sumByTable D (0, [some (.inr (.inl (some 26))), none, none, none], [], (J, L, W), c, sl) Qr Qx := by
  have km := hI.mo
  have kf := hI.fe
  have fi := hI.fer f hf.1 hf.2
  have ca := hI.car f hf.1 hf.2
  have cb := sp_car_bd (f := f) hI
  have nn := hl.1
  obtain ⟨rm, hrm⟩ : ∃ rm, g (68 + f) - sp_car g f = rm := ⟨_, rfl⟩
  rw [hrm] at hroom
  have r0 : 0 ≤ rm ∧ rm ≤ 99 := by omega
  have lp : ∀ (r : Nat) (i : Int) (J1 : Nat → Int → Int), 0 ≤ i → i ≤ n → (n - i).toNat = r → (∀ x, ¬ x = 54 → J1 x = J x) → (∀ u, 0 ≤ u → u ≤ rm → sp_fm g J i u (J1 54 u) ∧ 0 ≤ J1 54 u ∧ J1 54 u ≤ 2880 * i) → NW sc d_X6_sumByTable D (28, [some (.inr (.inl (some 26))), some (.inl i), none, none], [], (J1, L, W), c, sl) Qr Qx := by
    intro r9
    induction r9 using Nat.strongRecOn with
    | ind r9 ih =>
      intro i J1 i0 i1 hr hx hT
      have e26 : J1 26 = J 26 := hx 26 (by decide)
      refine b_X6_sumByTable_28 ?_
      rw [e26, hn, hroom]
      refine ⟨fun q => ⟨by omega, ?_⟩, fun q => ?_⟩
      · have e : i = n := by omega
        rw [e] at hT
        have h1 := (hT rm r0.1 (Int.le_refl _)).1
        rw [← hrm] at h1
        rw [← hrm, sp_fm_end hI hf hl h1]
        exact hQ J1 hx
      · have hi := hl.2.1 i i0 q
        have mi := hI.moo (J 27 i) hi.1 hi.2.1
        have fb := sp_fare_bd hI (p := J 27 i) ⟨hi.1, hi.2.1⟩
        have wt : J 52 i = g (101 + J 27 i) := hi.2.2.2.1
        have wv : J 53 i = sp_fare g (J 27 i) := hi.2.2.2.2
        have inner : ∀ (r2 : Nat) (k : Int) (J3 : Nat → Int → Int), -1 ≤ k → k ≤ rm → (k + 1).toNat = r2 → (∀ x, ¬ x = 54 → J3 x = J x) → (∀ u, 0 ≤ u → u ≤ k → J3 54 u = J1 54 u) → (∀ u, k < u → u ≤ rm → 0 ≤ u → sp_fm g J (i + 1) u (J3 54 u) ∧ 0 ≤ J3 54 u ∧ J3 54 u ≤ 2880 * (i + 1)) → NW sc d_X6_sumByTable D (41, [some (.inr (.inl (some 26))), some (.inl i), some (.inl k), none], [], (J3, L, W), c, sl) Qr Qx := by
          intro r2
          induction r2 using Nat.strongRecOn with
          | ind r2 ih2 =>
            intro k J3 k0 k1 hr2 hx3 ho hN
            have e52 : J3 52 = J 52 := hx3 52 (by decide)
            have e53 : J3 53 = J 53 := hx3 53 (by decide)
            refine b_X6_sumByTable_41 hD ?_
            rw [e52, e53]
            refine ⟨by omega, fun z => ⟨by omega, ?_⟩, fun z => ?_⟩
            · refine ih _ (by omega) (i + 1) J3 (by omega) (by omega) rfl hx3 (fun u u0 u1 => ?_)
              by_cases c : k < u
              · exact hN u c u1 u0
              · have h1 := hT u u0 u1
                rw [ho u u0 (by omega)]
                exact ⟨sp_fm_step (y := 0) hI hl i0 q h1.1 (fun w => by omega) (fun w => by omega) (fun _ => rfl), h1.2.1, by omega⟩
            · have a1 := hT k (by omega) k1
              have a2 := hT (k - J 52 i) (by omega) (by omega)
              rw [ho k (by omega) (Int.le_refl _), ho (k - J 52 i) (by omega) (by omega)]
              refine ⟨by omega, by omega, by omega, by omega, ?_⟩
              refine t_max (fun m m1 m2 m3 => b_X6_sumByTable_87 ⟨by omega, by omega, ?_⟩)
              refine ih2 _ (by omega) (k + (-1)) _ (by omega) (by omega) rfl (fun x y => by rw [nw_uP y]; exact hx3 x y) (fun u u0 u1 => ?_) (fun u u0 u1 u2 => ?_)
              · rw [nw_uI (by omega)]
                exact ho u u0 (by omega)
              · by_cases e : u = k
                · rw [e, nw_uS]
                  exact ⟨sp_fm_step hI hl i0 q a1.1 (fun _ => a2.1) (fun _ => ⟨m1, m2, m3⟩) (fun w => absurd z w), by omega, by omega⟩
                · rw [nw_uI e]
                  exact hN u (by omega) u1 u2
        exact inner _ rm J1 (by omega) (Int.le_refl _) rfl hx (fun _ _ _ => rfl) (fun u a b => by omega)
  refine b_X6_sumByTable_0 hD ?_
  rw [hroom]
  refine ⟨fun q => by omega, fun _ => ⟨fun _ => t_fill_54 (fun J1 hx h1 => b_X6_sumByTable_26 (lp _ 0 J1 (by omega) nn.1 rfl hx (fun u u0 u1 => ?_))), fun q => by omega⟩⟩
  rw [h1 u u0 (by omega)]
  exact ⟨sp_fm_0 u0, by omega, by omega⟩
end

