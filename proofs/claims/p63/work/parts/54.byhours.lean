/-! arrivals by hours: contracts -/
section
variable {sc : Nat × (Nat → Int32)} {D : Nat} {J L : Nat → Int → Int} {W : nw_W} {c sl : Nat} {Qr : nw_QR} {Qx : nw_QX} {g : Int → Int} {B : Int}
/-- what the bits of hours keep -/
def sp_bh (g : Int → Int) (f : Int) (H T : Int → Int) (m : Int) (N : Int → Prop) (R : Int → Int → Prop) : Prop :=
  (∀ k, 0 ≤ k → k < 100 → 0 ≤ T k ∧ T k < 64) ∧
  (∀ k v, 0 ≤ k → k < 100 → sp_S (T k) v → v < g 1 ∧ sp_ra g f v (g 0 + k)) ∧
  (∀ v, 0 ≤ v → v < g 1 → ¬ H v = -1 → sp_ra g f v (H v) ∧ g 0 ≤ H v ∧ H v ≤ g 0 + m) ∧
  (∀ k v, 0 ≤ k → k < 100 → (k < m ∨ (k = m ∧ N v)) → sp_S (T k) v → ¬ H v = -1 ∧ H v ≤ g 0 + k) ∧
  (∀ d u v s, 0 ≤ d → d < g 2 → sp_con g u v d → (s < g 0 + m ∨ (s = g 0 + m ∧ R d u)) → ¬ H u = -1 → H u ≤ s → sp_go g f d u s → s + g (36 + d) ≤ g 0 + 99 → sp_S (T (s + g (36 + d) - g 0)) v) ∧
  sp_S (T (sp_t0 g f - g 0)) (g (56 + f))
/-- earliest hours within the horizon, -1 for none -/
def sp_ep (g : Int → Int) (f : Int) (H : Int → Int) : Prop :=
  ∀ v, 0 ≤ v → v < g 1 → (¬ H v = -1 → sp_ea g f v (H v) ∧ H v ≤ g 0 + 99) ∧ (H v = -1 → ∀ t, sp_ra g f v t → g 0 + 99 < t)
theorem sp_bh_keep {g : Int → Int} {f m i : Int} {H T : Int → Int} {R : Int → Int → Prop} (h : sp_bh g f H T m (fun v => v < i) R) (hi : ¬ H i = -1 ∨ ¬ sp_S (T m) i) (i0 : 0 ≤ i) (i1 : i < g 1) : sp_bh g f H T m (fun v => v < i + 1) R := by
  refine ⟨h.1, h.2.1, h.2.2.1, fun k v k0 k1 kk b => ?_, h.2.2.2.2.1, h.2.2.2.2.2⟩
  by_cases w : k < m ∨ (k = m ∧ v < i)
  · exact h.2.2.2.1 k v k0 k1 w b
  · have e : k = m ∧ v = i := by omega
    obtain ⟨e1, e2⟩ := e
    rw [e1, e2] at b
    rw [e1, e2]
    rcases hi with q | q
    · exact ⟨q, (h.2.2.1 i i0 i1 q).2.2⟩
    · exact absurd b q
theorem sp_bh_note {g : Int → Int} {f m i : Int} {H T : Int → Int} (hm : 0 ≤ g 0 ∧ 0 ≤ m ∧ m < 100) (h : sp_bh g f H T m (fun v => v < i) (fun _ _ => False)) (hi : H i = -1) (hb : sp_S (T m) i) (i0 : 0 ≤ i) (i1 : i < g 1) : sp_bh g f (sp_set H i (g 0 + m)) T m (fun v => v < i + 1) (fun _ _ => False) := by
  refine ⟨h.1, h.2.1, fun v v0 v1 q => ?_, fun k v k0 k1 kk b => ?_, fun d u v s d0 d1 hc hs hu hus hg hl => ?_, h.2.2.2.2.2⟩
  · by_cases e : v = i
    · rw [e, sp_set_eq]
      exact ⟨(h.2.1 m i hm.2.1 hm.2.2 hb).2, by omega, by omega⟩
    · rw [sp_set_ne e] at q ⊢
      exact h.2.2.1 v v0 v1 q
  · by_cases e : v = i
    · rw [e] at b ⊢
      rw [sp_set_eq]
      by_cases w : k < m
      · exact absurd hi (h.2.2.2.1 k i k0 k1 (Or.inl w) b).1
      · omega
    · rw [sp_set_ne e]
      exact h.2.2.2.1 k v k0 k1 (by omega) b
  · rcases hs with hs | ⟨_, hs⟩
    · by_cases e : u = i
      · rw [e, sp_set_eq] at hus
        omega
      · rw [sp_set_ne e] at hu hus
        exact h.2.2.2.2.1 d u v s d0 d1 hc (Or.inl hs) hu hus hg hl
    · exact hs.elim
theorem sp_bh_end {g : Int → Int} {B f : Int} {H T : Int → Int} {N : Int → Prop} {R : Int → Int → Prop} (hI : Inv g B) (hf : 0 ≤ f ∧ f < g 3) (h : sp_bh g f H T 100 N R) : ∀ {k : Nat} {v t : Int}, sp_rc g f k v t → t ≤ g 0 + 99 → ¬ H v = -1 ∧ H v ≤ t
  | 0, v, t, q, ht => by
    have q1 := q.1
    have q2 := q.2
    have tr := sp_t0_rng hI hf
    have := h.2.2.2.1 (sp_t0 g f - g 0) (g (56 + f)) (by omega) (by omega) (Or.inl (by omega)) h.2.2.2.2.2
    rw [q1]
    exact ⟨this.1, by omega⟩
  | k + 1, v, t, ⟨d, u, s, d0, d1, hc, hr, hg, hs⟩, ht => by
    have cr := sp_con_in hI ⟨d0, d1⟩ hc
    have sr := sp_rc_rng hI hf hr
    have hu := sp_bh_end hI hf h hr (by omega)
    have b := h.2.2.2.2.1 d u v s d0 d1 hc (Or.inl (by omega)) hu.1 hu.2 hg (by omega)
    have := h.2.2.2.1 (s + g (36 + d) - g 0) v (by omega) (by omega) (Or.inl (by omega)) b
    exact ⟨this.1, by omega⟩
theorem sp_bh_ep {g : Int → Int} {B f : Int} {H T : Int → Int} {R : Int → Int → Prop} (hI : Inv g B) (hf : 0 ≤ f ∧ f < g 3) (h : sp_bh g f H T 100 (fun v => v < 0) R) (hH : ∀ v, 0 ≤ v → v < g 1 → H v ≤ g 0 + 99) : sp_ep g f H := fun v v0 v1 => by
  refine ⟨fun q => ⟨⟨(h.2.2.1 v v0 v1 q).1, fun t ⟨k, ht⟩ => ?_⟩, hH v v0 v1⟩, fun q t ⟨k, ht⟩ => ?_⟩
  · by_cases w : t ≤ g 0 + 99
    · exact (sp_bh_end hI hf h ht w).2
    · have := hH v v0 v1
      omega
  · by_cases w : t ≤ g 0 + 99
    · exact absurd q (sp_bh_end hI hf h ht w).1
    · omega
theorem t_X10_noteArrivals {m f : Int} (hR : RC J L g) (hI : Inv g B) (hm : 0 ≤ m ∧ m < 100) (hB : sp_bh g f (J 39) (J 45) m (fun v => v < 0) (fun _ _ => False)) (hQ : ∀ J', (∀ x, ¬ x = 39 → J' x = J x) → sp_bh g f (J' 39) (J' 45) m (fun v => v < g 1) (fun _ _ => False) → Qr none (J', L, W)) : NW sc d_X10_noteArrivals D (0, [some (.inr (.inl (some 29))), some (.inr (.inl (some 2))), some (.inl m), none], [], (J, L, W), c, sl) Qr Qx := by
  have kc := hI.cr
  have kh := hI.ho
  have kb := hI.bd
  have lp : ∀ (r : Nat) (i : Int) (J1 : Nat → Int → Int), 0 ≤ i → i ≤ g 1 → (g 1 - i).toNat = r → (∀ x, ¬ x = 39 → J1 x = J x) → sp_bh g f (J1 39) (J1 45) m (fun v => v < i) (fun _ _ => False) → NW sc d_X10_noteArrivals D (2, [some (.inr (.inl (some 29))), some (.inr (.inl (some 2))), some (.inl m), some (.inl i)], [], (J1, L, W), c, sl) Qr Qx := by
    intro r9
    induction r9 using Nat.strongRecOn with
    | ind r9 ih =>
      intro i J1 i0 i1 hr hx hb
      have n1 : J1 3 0 = g 1 := by rw [hx 3 (by decide)]; exact hR.cr
      have n3 : J1 2 3 = g 0 := by rw [hx 2 (by decide)]; exact hR.ho
      refine b_X10_noteArrivals_2 ?_
      rw [n1, n3]
      refine ⟨fun q => ?_, fun q => ⟨by omega, fun z => ⟨by omega, ?_⟩, fun z => ⟨hm, ?_⟩⟩⟩
      · have e : i = g 1 := by omega
        rw [e] at hb
        exact hQ J1 hx hb
      · exact ih _ (by omega) (i + 1) J1 (by omega) (by omega) rfl hx (sp_bh_keep hb (Or.inl z) i0 q)
      · have t := hb.1 m hm.1 hm.2
        rw [sp_S_b ⟨t.1, by omega⟩ ⟨i0, by omega⟩]
        refine ⟨fun w => ⟨by omega, ?_⟩, fun w => ⟨by omega, by omega, ?_⟩⟩
        · exact ih _ (by omega) (i + 1) J1 (by omega) (by omega) rfl hx (sp_bh_keep hb (Or.inr (fun x => w (sp_bT x))) i0 q)
        · refine ih _ (by omega) (i + 1) _ (by omega) (by omega) rfl (fun x y => by rw [nw_uP y]; exact hx x y) ?_
          rw [nw_u304, nw_uP (by decide)]
          exact sp_bh_note ⟨kh.1, hm⟩ hb z (Classical.byContradiction (fun x => by rw [sp_bF x] at w; exact absurd w (by decide))) i0 q
  exact b_X10_noteArrivals_0 (lp _ 0 J (by omega) kc.1 rfl (fun _ _ => rfl) hB)
end

