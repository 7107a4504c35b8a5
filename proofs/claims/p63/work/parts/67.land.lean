/-! moons put ashore: the word, the invariant, both sides -/
section
theorem sp_D_congr {g g' : Int → Int} (e2 : g' 2 = g 2) (e : ∀ s, 16 ≤ s → s < 46 → g' s = g s) (h2 : g 2 ≤ 10) (i j : Int) : sp_D g' i j = sp_D g i j := by
  have bt : ∀ i j, sp_btwF g' i j = sp_btwF g i j := fun i j => by
    refine sp_btwF_eq ?_
    have := sp_btwF_spec g' i j
    unfold sp_btw at this ⊢
    rw [e2] at this
    refine sp_first_congr (fun c c0 c1 => ?_) this
    unfold sp_con
    rw [e (16 + c) (by omega) (by omega), e (26 + c) (by omega) (by omega)]
  have key : ∀ m : Nat, ∀ i j, sp_T g' m i j = sp_T g m i j := by
    intro m
    induction m with
    | zero =>
      intro i j
      show sp_T0 g' i j = sp_T0 g i j
      unfold sp_T0
      rw [bt]
      by_cases h : i = j
      · rw [if_pos h, if_pos h]
      · rw [if_neg h, if_neg h]
        by_cases q : sp_btwF g i j = -1
        · rw [if_pos q, if_pos q]
        · rw [if_neg q, if_neg q]
          have := (sp_btwF_rng g i j).resolve_left q
          exact e _ (by omega) (by omega)
    | succ m ih =>
      intro i j
      rw [sp_T_s, sp_T_s, ih, ih, ih]
  exact key 6 i j
theorem sp_fare_congr {g g' : Int → Int} {p : Int} (e2 : g' 2 = g 2) (e : ∀ s, 16 ≤ s → s < 46 → g' s = g s) (h2 : g 2 ≤ 10) (e3 : g' (81 + p) = g (81 + p) ∧ g' (91 + p) = g (91 + p) ∧ g' (111 + p) = g (111 + p)) : sp_fare g' p = sp_fare g p := by
  unfold sp_fare
  rw [e3.1, e3.2.1, e3.2.2, sp_D_congr e2 e h2]
/-- the ferry that moon place p is on -/
def sp_fy (g : Int → Int) (p : Int) : Int := g (121 + p) - 10
def sp_fLand (g : Int → Int) (m e : Int) : Prop := (e = -5 ∧ sp_plcF g m = -1) ∨ (e = -3 ∧ ¬ sp_plcF g m = -1 ∧ sp_fy g (sp_plcF g m) < 0) ∨ (e = -4 ∧ ¬ sp_plcF g m = -1 ∧ 0 ≤ sp_fy g (sp_plcF g m) ∧ (0 < g (62 + sp_fy g (sp_plcF g m)) ∨ (g (62 + sp_fy g (sp_plcF g m)) ≤ 0 ∧ sp_sS g (sp_fy g (sp_plcF g m)) = 1)))
def sp_oLand (g : Int → Int) (m : Int) : Prop := ¬ sp_plcF g m = -1 ∧ 0 ≤ sp_fy g (sp_plcF g m) ∧ g (62 + sp_fy g (sp_plcF g m)) ≤ 0 ∧ sp_sS g (sp_fy g (sp_plcF g m)) = 0
def sp_gAsh (g : Int → Int) (p : Int) : Int → Int := sp_set g (121 + p) (g (56 + sp_fy g p))
noncomputable def sp_gPaid (g : Int → Int) (p : Int) : Int → Int := sp_set (sp_gAsh g p) 6 (g 6 + sp_fare g p)
noncomputable def sp_gGone (g : Int → Int) (p : Int) : Int → Int := sp_set (sp_drp (sp_gPaid g p) 71 6 p) 4 (g 4 - 1)
noncomputable def sp_gLand (g : Int → Int) (p : Int) : Int → Int := if g (56 + sp_fy g p) = g (91 + p) then sp_gGone g p else sp_gAsh g p
noncomputable def sp_vLand (g : Int → Int) (p : Int) : Int := if g (56 + sp_fy g p) = g (91 + p) then sp_fare g p else 0
theorem sp_car_to {g g' : Int → Int} {B k : Int} (hI : Inv g B) (e4 : g' 4 = g 4) (e : ∀ q, 0 ≤ q → q < g 4 → sp_w g' k q ≤ sp_w g k q) : sp_car g' k ≤ sp_car g k := by
  have := hI.mo
  unfold sp_car
  rw [e4]
  exact sp_sum_le (fun i a b => e i a (by omega))
theorem inv_ash {g : Int → Int} {B p : Int} (h : Inv g B) (hp : 0 ≤ p ∧ p < g 4) (hf : 0 ≤ sp_fy g p) : Inv (sp_gAsh g p) B := by
  have km := h.mo
  have mi := h.moo p hp.1 hp.2
  have k3 := h.fe
  have kc := h.cr
  unfold sp_fy at hf
  have fi := h.fer (g (121 + p) - 10) hf (by omega)
  have e : ∀ s, ¬ s = 121 + p → sp_gAsh g p s = g s := fun s a => sp_set_ne a
  have ep : sp_gAsh g p (121 + p) = g (56 + (g (121 + p) - 10)) := sp_set_eq
  have e0 := e 0 (by omega)
  have e1 := e 1 (by omega)
  have e2 := e 2 (by omega)
  have e3 := e 3 (by omega)
  have e4 := e 4 (by omega)
  have e5 := e 5 (by omega)
  refine ⟨h.bd, by rw [e0]; exact h.ho, by rw [e1]; exact h.cr, by rw [e2]; exact h.ch, by rw [e3]; exact h.fe, by rw [e4]; exact h.mo, by rw [e5]; exact h.nx, by rw [e 6 (by omega)]; exact h.fa, by rw [e 7 (by omega)]; exact h.re, by rw [e 8 (by omega)]; exact h.pa, by rw [e 9 (by omega)]; exact h.sn, h.dep_to e1 (fun s a b => e s (by omega)), h.cha_to e1 e2 (fun s a b => e s (by omega)), h.uni_to e2 (fun s a b => e s (by omega)), h.fer_to (by omega) e3 e0 (fun s a b => e s (by omega)), fun q a b => ?_, fun f a b => ?_, h.zer_to e3 (fun s a b => e s (by omega))⟩
  · rw [e4] at b
    have mq := h.moo q a b
    rw [e (71 + q) (by omega), e (81 + q) (by omega), e (91 + q) (by omega), e (101 + q) (by omega), e (111 + q) (by omega), e1, e3, e5]
    by_cases z : q = p
    · rw [z, ep]
      rw [z] at mq
      omega
    · rw [e (121 + q) (by omega)]
      exact mq
  · rw [e3] at b
    rw [e (68 + f) (by omega)]
    refine Int.le_trans (sp_car_to h e4 (fun q a c => ?_)) (h.car f a b)
    have mq := h.moo q a c
    unfold sp_w
    rw [e (101 + q) (by omega)]
    by_cases z : q = p
    · rw [z, ep, if_neg (by omega)]
      rw [z] at mq
      split <;> omega
    · rw [e (121 + q) (by omega)]
      exact Int.le_refl _
theorem sp_sum_drop {f h : Int → Int} {p : Int} (hp : 0 ≤ p) : ∀ {n : Nat}, p < n → (∀ i : Int, 0 ≤ i → i < n - 1 → h i = if p ≤ i then f (i + 1) else f i) → sp_sum h (n - 1) + f p = sp_sum f n
  | 0, hn, _ => by omega
  | 1, hn, _ => by
    have : p = 0 := by omega
    rw [this]
    show sp_sum h 0 + f 0 = sp_sum f 0 + f ((0 : Nat) : Int)
    simp [sp_sum]
  | n + 2, hn, e => by
    show sp_sum h (n + 1) + f p = sp_sum f (n + 1) + f ((n + 1 : Nat) : Int)
    rw [sp_sum]
    have el := e n (by omega) (by omega)
    by_cases q : p = ((n + 1 : Nat) : Int)
    · have : sp_sum h n + h n = sp_sum f (n + 1) := by
        rw [sp_sum, el, if_neg (by omega)]
        have : sp_sum h n = sp_sum f n := sp_sum_congr (fun i a b => by rw [e i a (by omega), if_neg (by omega)])
        rw [this]
      rw [this, q]
    · have ih := sp_sum_drop (f := f) (h := h) hp (n := n + 1) (by omega) (fun i a b => e i a (by omega))
      rw [show n + 1 - 1 = n by omega] at ih
      rw [el, if_pos (by omega), show ((n : Int) + 1) = ((n + 1 : Nat) : Int) by omega]
      omega
theorem inv_paid {g : Int → Int} {B p : Int} (h : Inv g B) (hB : B + 144 ≤ 4000000) (hp : 0 ≤ p ∧ p < g 4) (hf : 0 ≤ sp_fy g p) : Inv (sp_gPaid g p) (B + 144) := by
  have h1 := inv_ash h hp hf
  have fb := sp_fare_bd h hp
  have kfa := h.fa
  have kb := h.bd
  have e6 : sp_gAsh g p 6 = g 6 := sp_set_ne (by omega)
  have e : ∀ s, ¬ s = 6 → sp_gPaid g p s = sp_gAsh g p s := fun s a => sp_set_ne a
  have e0 := e 0 (by omega)
  have e1 := e 1 (by omega)
  have e2 := e 2 (by omega)
  have e3 := e 3 (by omega)
  have e4 := e 4 (by omega)
  have e5 := e 5 (by omega)
  have q6 : sp_gPaid g p 6 = g 6 + sp_fare g p := sp_set_eq
  have n5 := h1.nx
  exact ⟨by omega, by rw [e0]; have := h1.ho; omega, by rw [e1]; exact h1.cr, by rw [e2]; exact h1.ch, by rw [e3]; exact h1.fe, by rw [e4]; exact h1.mo, by rw [e5]; omega, by rw [q6]; omega, by rw [e 7 (by omega)]; have := h1.re; omega, by rw [e 8 (by omega)]; have := h1.pa; omega, by rw [e 9 (by omega)]; have := h1.sn; omega, h1.dep_to e1 (fun s a b => e s (by omega)), h1.cha_to e1 e2 (fun s a b => e s (by omega)), h1.uni_to e2 (fun s a b => e s (by omega)), h1.fer_to (by omega) e3 e0 (fun s a b => e s (by omega)), h1.moo_to (by omega) (by omega) e4 (by omega) (fun s a b => e s (by omega)), h1.car_to e3 e4 (fun s a b => e s (by omega)), h1.zer_to e3 (fun s a b => e s (by omega))⟩
theorem inv_gone {g : Int → Int} {B p : Int} (h : Inv g B) (hB : B + 144 ≤ 4000000) (hp : 0 ≤ p ∧ p < g 4) (hf : 0 ≤ sp_fy g p) : Inv (sp_gGone g p) (B + 144) := by
  have h1 := inv_paid h hB hp hf
  have km := h.mo
  have p4 : sp_gPaid g p 4 = g 4 := (sp_set_ne (by omega)).trans (sp_set_ne (by omega))
  obtain ⟨u, hu⟩ : ∃ u, sp_gPaid g p = u := ⟨_, rfl⟩
  unfold sp_gGone
  rw [hu] at h1 p4 ⊢
  have e : ∀ s, ¬ s = 4 → (s < 71 ∨ 131 ≤ s) → sp_set (sp_drp u 71 6 p) 4 (g 4 - 1) s = u s := fun s a b => by rw [sp_set_ne a, sp_drp_out (by omega)]
  have d : ∀ q i, 0 ≤ q → q < 6 → 0 ≤ i → i < 9 → sp_set (sp_drp u 71 6 p) 4 (g 4 - 1) (71 + 10 * q + i) = if p ≤ i then u (71 + 10 * q + i + 1) else u (71 + 10 * q + i) := fun q i a b c d => by rw [sp_set_ne (by omega), sp_drp_at ⟨a, b⟩ ⟨c, d⟩ hp.1]
  have e4 : sp_set (sp_drp u 71 6 p) 4 (g 4 - 1) 4 = g 4 - 1 := sp_set_eq
  have e0 := e 0 (by omega) (by omega)
  have e1 := e 1 (by omega) (by omega)
  have e2 := e 2 (by omega) (by omega)
  have e3 := e 3 (by omega) (by omega)
  have e5 := e 5 (by omega) (by omega)
  refine ⟨h1.bd, by rw [e0]; exact h1.ho, by rw [e1]; exact h1.cr, by rw [e2]; exact h1.ch, by rw [e3]; exact h1.fe, by rw [e4]; omega, by rw [e5]; exact h1.nx, by rw [e 6 (by omega) (by omega)]; exact h1.fa, by rw [e 7 (by omega) (by omega)]; exact h1.re, by rw [e 8 (by omega) (by omega)]; exact h1.pa, by rw [e 9 (by omega) (by omega)]; exact h1.sn, h1.dep_to e1 (fun s a b => e s (by omega) (by omega)), h1.cha_to e1 e2 (fun s a b => e s (by omega) (by omega)), h1.uni_to e2 (fun s a b => e s (by omega) (by omega)), h1.fer_to (by omega) e3 e0 (fun s a b => e s (by omega) (by omega)), fun q a b => ?_, fun f a b => ?_, h1.zer_to e3 (fun s a b => e s (by omega) (by omega))⟩
  · rw [e4] at b
    have r0 := d 0 q (by omega) (by omega) a (by omega)
    have r1 := d 1 q (by omega) (by omega) a (by omega)
    have r2 := d 2 q (by omega) (by omega) a (by omega)
    have r3 := d 3 q (by omega) (by omega) a (by omega)
    have r4 := d 4 q (by omega) (by omega) a (by omega)
    have r5 := d 5 q (by omega) (by omega) a (by omega)
    rw [show 71 + 10 * 0 + q = 71 + q by omega] at r0
    rw [show 71 + 10 * 1 + q = 81 + q by omega] at r1
    rw [show 71 + 10 * 2 + q = 91 + q by omega] at r2
    rw [show 71 + 10 * 3 + q = 101 + q by omega] at r3
    rw [show 71 + 10 * 4 + q = 111 + q by omega] at r4
    rw [show 71 + 10 * 5 + q = 121 + q by omega] at r5
    rw [r0, r1, r2, r3, r4, r5, e1, e3, e5]
    by_cases z : p ≤ q
    · have mq := h1.moo (q + 1) (by omega) (by omega)
      rw [if_pos z, if_pos z, if_pos z, if_pos z, if_pos z, if_pos z, show 71 + q + 1 = 71 + (q + 1) by omega, show 81 + q + 1 = 81 + (q + 1) by omega, show 91 + q + 1 = 91 + (q + 1) by omega, show 101 + q + 1 = 101 + (q + 1) by omega, show 111 + q + 1 = 111 + (q + 1) by omega, show 121 + q + 1 = 121 + (q + 1) by omega]
      exact mq
    · have mq := h1.moo q a (by omega)
      rw [if_neg z, if_neg z, if_neg z, if_neg z, if_neg z, if_neg z]
      exact mq
  · rw [e3] at b
    have k3 := h1.fe
    rw [e (68 + f) (by omega) (by omega)]
    refine Int.le_trans ?_ (h1.car f a b)
    have sd := sp_sum_drop (f := sp_w u f) (h := sp_w (sp_set (sp_drp u 71 6 p) 4 (g 4 - 1)) f) hp.1 (n := (g 4).toNat) (by omega) (fun i a b => by
      have r3 := d 3 i (by omega) (by omega) a (by omega)
      have r5 := d 5 i (by omega) (by omega) a (by omega)
      rw [show 71 + 10 * 3 + i = 101 + i by omega] at r3
      rw [show 71 + 10 * 5 + i = 121 + i by omega] at r5
      unfold sp_w
      rw [r3, r5]
      by_cases z : p ≤ i
      · rw [if_pos z, if_pos z, if_pos z, show 101 + i + 1 = 101 + (i + 1) by omega, show 121 + i + 1 = 121 + (i + 1) by omega]
      · rw [if_neg z, if_neg z, if_neg z])
    have nn := sp_w_bd (f := f) h1 p hp.1 (by omega)
    unfold sp_car
    rw [e4, p4, show (g 4 - 1).toNat = (g 4).toNat - 1 by omega]
    omega
theorem inv_land {g : Int → Int} {B m : Int} (h : Inv g B) (hF : sp_fut g) (hB : B + 144 ≤ 4000000) (ho : sp_oLand g m) : Inv (sp_gLand g (sp_plcF g m)) (B + 144) ∧ sp_fut (sp_gLand g (sp_plcF g m)) := by
  have pr := (sp_plcF_rng g m).resolve_left ho.1
  have km := h.mo
  have kf := h.fe
  have kb := h.bd
  unfold sp_gLand
  split
  · exact ⟨inv_gone h hB pr ho.2.1, sp_fut_to hF kf.2 (by unfold sp_gGone; rw [sp_set_ne (by omega), sp_drp_out (by omega)]; exact (sp_set_ne (by omega)).trans (sp_set_ne (by omega))) (by unfold sp_gGone; rw [sp_set_ne (by omega), sp_drp_out (by omega)]; exact (sp_set_ne (by omega)).trans (sp_set_ne (by omega))) (fun s a b => by unfold sp_gGone; rw [sp_set_ne (by omega), sp_drp_out (by omega)]; exact (sp_set_ne (by omega)).trans (sp_set_ne (by omega)))⟩
  · exact ⟨(inv_ash h pr ho.2.1).mono (by omega) hB, sp_fut_to hF kf.2 (sp_set_ne (by omega)) (sp_set_ne (by omega)) (fun s a b => sp_set_ne (by omega))⟩
end
section
variable {sc : Nat × (Nat → Int32)} {D : Nat} {J L : Nat → Int → Int} {W : nw_W} {c sl : Nat} {Qr : nw_QR} {Qx : nw_QX} {g : Int → Int} {B : Int}
theorem t_X7_dropMoon {p : Int} (hn : J 18 0 = g 4) (h4 : g 4 ≤ 10) (hp : 0 ≤ p ∧ p < g 4) (hQ : ∀ J', sp_fr 18 25 J J' → J' 18 0 = g 4 - 1 → (∀ s, ¬ s = 0 → J' 18 s = J 18 s) → (∀ x, 19 ≤ x → x ≤ 25 → ∀ i, 0 ≤ i → i < g 4 - 1 → J' x i = if p ≤ i then J x (i + 1) else J x i) → Qr none (J', L, W)) : NW sc d_X7_dropMoon D (0, [some (.inr (.inl (some 18))), some (.inl p), none], [], (J, L, W), c, sl) Qr Qx := by
  refine b_X7_dropMoon_0 ⟨by omega, ?_⟩
  rw [hn]
  have lp : ∀ (m : Nat) (k : Int) (J1 : Nat → Int → Int), p ≤ k → k ≤ g 4 - 1 → (g 4 - 1 - k).toNat = m → sp_fr 18 25 J J1 → J1 18 0 = g 4 - 1 → (∀ s, ¬ s = 0 → J1 18 s = J 18 s) → (∀ x, 19 ≤ x → x ≤ 25 → ∀ i, J1 x i = if p ≤ i ∧ i < k then J x (i + 1) else J x i) → NW sc d_X7_dropMoon D (12, [some (.inr (.inl (some 18))), none, some (.inl k)], [], (J1, L, W), c, sl) Qr Qx := by
    intro m
    induction m using Nat.strongRecOn with
    | ind m ih =>
      intro k J1 k0 k1 hm hx h0 hs hj
      refine b_X7_dropMoon_12 ?_
      rw [h0]
      refine ⟨fun q => hQ J1 hx h0 hs (fun x a b i i0 i1 => ?_), fun q => ⟨by omega, by omega, by omega, ?_⟩⟩
      · rw [hj x a b i]
        by_cases z : p ≤ i
        · rw [if_pos ⟨z, by omega⟩, if_pos z]
        · rw [if_neg (fun y => z y.1), if_neg z]
      · have v : ∀ x, 19 ≤ x → x ≤ 25 → J1 x (k + 1) = J x (k + 1) := fun x a b => by rw [hj x a b, if_neg (by omega)]
        refine ih _ (by omega) (k + 1) _ (by omega) (by omega) rfl (fun x y => by rw [nw_uP (by omega), nw_uP (by omega), nw_uP (by omega), nw_uP (by omega), nw_uP (by omega), nw_uP (by omega), nw_uP (by omega)]; exact hx x y) (by simp [nw_u]; exact h0) (fun s y => by simp [nw_u]; exact hs s y) (fun x a b i => ?_)
        have st : ∀ y, J1 y i = (if p ≤ i ∧ i < k then J y (i + 1) else J y i) → J1 y (k + 1) = J y (k + 1) → (if i = k then J1 y (k + 1) else J1 y i) = if p ≤ i ∧ i < k + 1 then J y (i + 1) else J y i := fun y e1 e2 => by
          by_cases z : i = k
          · rw [if_pos z, e2, z, if_pos ⟨k0, by omega⟩]
          · rw [if_neg z, e1]
            by_cases w : p ≤ i ∧ i < k
            · rw [if_pos w, if_pos ⟨w.1, by omega⟩]
            · rw [if_neg w, if_neg (fun u => w ⟨u.1, by omega⟩)]
        have hx' : x = 19 ∨ x = 20 ∨ x = 21 ∨ x = 22 ∨ x = 23 ∨ x = 24 ∨ x = 25 := by omega
        rcases hx' with rfl | rfl | rfl | rfl | rfl | rfl | rfl <;> (simp only [nw_u]; simp; exact st _ (hj _ (by omega) (by omega) i) (v _ (by omega) (by omega)))
  exact lp _ p _ (Int.le_refl _) (by omega) rfl (sp_fr.refl.u (by decide)) nw_uS (fun s y => nw_uI y) (fun x a b i => by rw [nw_uP (by omega), if_neg (by omega)])
theorem t_X0_putAshore {m : Int} (hR : RC J L g) (hI : Inv g B) (hB : B + 144 ≤ 4000000) (hD : 3 ≤ D) (hF : ∀ e, sp_fLand g m e → Qr (some (.inl e)) (J, L, W)) (hS : sp_oLand g m → ∀ J' L', sp_fr 2 42 J J' → sp_fr 2 2 L L' → RC J' L' (sp_gLand g (sp_plcF g m)) → Qr (some (.inl (sp_vLand g (sp_plcF g m)))) (J', L', W)) : NW sc d_X0_putAshore D (0, [some (.inr (.inl (some 1))), some (.inl m), none, none, none, none], [], (J, L, W), c, sl) Qr Qx := by
  have k3 := hI.fe
  have k4 := hI.mo
  have kc := hI.cr
  have kb := hI.bd
  have kfa := hI.fa
  have kre := hI.re
  have kch := hI.ch
  refine b_X0_putAshore_0 hD (t_X7_placeOf hR hI (fun r hr => ?_))
  rw [sp_plcF_eq hr]
  obtain ⟨p, hp⟩ : ∃ p, sp_plcF g m = p := ⟨_, rfl⟩
  have pr := sp_plcF_rng g m
  unfold sp_fLand at hF
  unfold sp_oLand at hS
  rw [hp] at hF hS pr ⊢
  refine b_X0_putAshore_8 hD ⟨fun q => ?_, fun q => hF _ (Or.inl ⟨rfl, q⟩)⟩
  have pr := pr.resolve_left q
  have mr := hR.moo p pr.1 pr.2
  have mi := hI.moo p pr.1 pr.2
  refine ⟨by omega, fun q1 => ?_, fun q1 => hF _ (Or.inr (Or.inl ⟨rfl, q, by unfold sp_fy; omega⟩))⟩
  have fy0 : 0 ≤ sp_fy g p := by unfold sp_fy; omega
  have fyE : J 24 p = sp_fy g p := by unfold sp_fy; omega
  have fy3 : sp_fy g p < g 3 := by unfold sp_fy; omega
  have fr := hR.fer _ fy0 fy3
  have fi := hI.fer _ fy0 fy3
  rw [fyE]
  refine ⟨by omega, fun q2 => ?_, fun q2 => hF _ (Or.inr (Or.inr ⟨rfl, q, fy0, Or.inl (by omega)⟩))⟩
  have fe10 : J 10 (sp_fy g p) = g (56 + sp_fy g p) := by omega
  have g62 : g (62 + sp_fy g p) = 0 := by omega
  refine t_X8_aground hR hI ⟨fy0, fy3⟩ (by decide) (fun y => b_X0_putAshore_54 hD ⟨fun z => absurd z (by decide), fun _ => hF _ (Or.inr (Or.inr ⟨rfl, q, fy0, Or.inr ⟨by omega, sp_bT y⟩⟩))⟩) (fun y => b_X0_putAshore_54 hD ⟨fun _ => ⟨by omega, by omega, ?_⟩, fun z => absurd rfl z⟩)
  have ho : ¬ p = -1 ∧ 0 ≤ sp_fy g p ∧ g (62 + sp_fy g p) ≤ 0 ∧ sp_sS g (sp_fy g p) = 0 := ⟨q, fy0, by omega, sp_bF y⟩
  rw [fe10, mr.2.2.1]
  have eash : ∀ s, ¬ s = 121 + p → sp_gAsh g p s = g s := fun s a => sp_set_ne a
  have pash : sp_gAsh g p (121 + p) = g (56 + sp_fy g p) := sp_set_eq
  refine ⟨fun z => ?_, fun z => ?_⟩
  · refine t_X3_fareAt hR hI pr (by decide) (fun J1 hx1 => ?_)
    have R1 : RC J1 L g := RC.keep hR hI (fun x a b => hx1 x (by omega))
    have fb := sp_fare_bd hI pr
    have r4 := R1.fa
    have r5 := R1.pu
    refine b_X0_putAshore_112 hD ?_
    rw [r4, r5]
    refine ⟨by omega, by omega, ?_⟩
    have v : sp_vLand g p = sp_fare g p := if_pos z.symm
    have gl : sp_gLand g p = sp_gGone g p := if_pos z.symm
    refine t_X7_dropMoon (g := g) (by rw [nw_uP (by decide)]; exact R1.mo) k4.2 pr (fun J2 hx2 j0 js jr => b_X0_putAshore_151 ?_)
    rw [← v]
    have hx3 : ∀ x, ¬ (18 ≤ x ∧ x ≤ 25) → ¬ x = 2 → J2 x = J1 x := fun x a b => (hx2 x a).trans (nw_uP b)
    have jr1 : ∀ x, 19 ≤ x → x ≤ 25 → ∀ i, 0 ≤ i → i < g 4 - 1 → J2 x i = if p ≤ i then J1 x (i + 1) else J1 x i := fun x a b i c d => by
      rw [jr x a b i c d, nw_uP (by omega)]
    have u0 : ∀ s, ¬ s = 4 → ¬ s = 6 → (s < 71 ∨ 131 ≤ s) → sp_gGone g p s = g s := fun s a b c => by
      unfold sp_gGone
      rw [sp_set_ne a, sp_drp_out (by omega)]
      exact (sp_set_ne b).trans (sp_set_ne (by omega))
    have u6 : sp_gGone g p 6 = g 6 + sp_fare g p := by
      unfold sp_gGone
      rw [sp_set_ne (by omega), sp_drp_out (by omega)]
      exact sp_set_eq
    have u4 : sp_gGone g p 4 = g 4 - 1 := sp_set_eq
    have ud : ∀ k i, 0 ≤ k → k < 6 → 0 ≤ i → i < g 4 - 1 → sp_gGone g p (71 + 10 * k + i) = if p ≤ i then g (71 + 10 * k + (i + 1)) else g (71 + 10 * k + i) := fun k i a b c d => by
      unfold sp_gGone
      rw [sp_set_ne (by omega), sp_drp_at ⟨a, b⟩ ⟨c, by omega⟩ pr.1]
      by_cases w : p ≤ i
      · rw [if_pos w, if_pos w, show 71 + 10 * k + i + 1 = 71 + 10 * k + (i + 1) by omega]
        exact (sp_set_ne (by omega)).trans (sp_set_ne (by omega))
      · rw [if_neg w, if_neg w]
        exact (sp_set_ne (by omega)).trans (sp_set_ne (by omega))
    refine hS ho J2 _ (fun x w => by rw [hx3 x (by omega) (by omega)]; exact hx1 x (by omega)) (sp_fr.refl.u (by decide)) ?_
    rw [gl]
    refine ⟨⟨?_, ?_, ?_⟩, R1.w.to (fun x a b => hx3 x (by omega) (by omega)) ⟨u0 1 (by omega) (by omega) (by omega), u0 2 (by omega) (by omega) (by omega)⟩ (fun s a b => u0 s (by omega) (by omega) (by omega)) kc.2 kch.2, R1.f.to ⟨by rw [hx3 9 (by omega) (by omega)], fun x a b => hx3 x (by omega) (by omega)⟩ (u0 3 (by omega) (by omega) (by omega)) (fun s a b => u0 s (by omega) (by omega) (by omega)) k3.2, R1.p.to ⟨by rw [hx3 9 (by omega) (by omega)]; exact ⟨rfl, rfl⟩, fun x a b => hx3 x (by omega) (by omega)⟩ ⟨u0 8 (by omega) (by omega) (by omega), u0 9 (by omega) (by omega) (by omega)⟩ (fun s a b => u0 s (by omega) (by omega) (by omega)), ⟨?_, ?_, fun i a b => ?_⟩⟩
    · rw [hx2 2 (by omega), nw_uI (by decide), u0 0 (by omega) (by omega) (by omega)]
      exact R1.ho
    · rw [hx2 2 (by omega), nw_uS, u6]
    · rw [nw_uS, u6, u0 7 (by omega) (by omega) (by omega)]
      omega
    · rw [j0, u4]
    · rw [js 1 (by decide), nw_uN (by decide), u0 5 (by omega) (by omega) (by omega)]
      exact R1.nx
    · rw [u4] at b
      have a0 := ud 0 i (by omega) (by omega) a b
      have a1 := ud 1 i (by omega) (by omega) a b
      have a2 := ud 2 i (by omega) (by omega) a b
      have a3 := ud 3 i (by omega) (by omega) a b
      have a4 := ud 4 i (by omega) (by omega) a b
      have a5 := ud 5 i (by omega) (by omega) a b
      rw [show 71 + 10 * 0 + i = 71 + i by omega, show 71 + 10 * 0 + (i + 1) = 71 + (i + 1) by omega] at a0
      rw [show 71 + 10 * 1 + i = 81 + i by omega, show 71 + 10 * 1 + (i + 1) = 81 + (i + 1) by omega] at a1
      rw [show 71 + 10 * 2 + i = 91 + i by omega, show 71 + 10 * 2 + (i + 1) = 91 + (i + 1) by omega] at a2
      rw [show 71 + 10 * 3 + i = 101 + i by omega, show 71 + 10 * 3 + (i + 1) = 101 + (i + 1) by omega] at a3
      rw [show 71 + 10 * 4 + i = 111 + i by omega, show 71 + 10 * 4 + (i + 1) = 111 + (i + 1) by omega] at a4
      rw [show 71 + 10 * 5 + i = 121 + i by omega, show 71 + 10 * 5 + (i + 1) = 121 + (i + 1) by omega] at a5
      rw [a0, a1, a2, a3, a4, a5, jr1 19 (by omega) (by omega) i a b, jr1 20 (by omega) (by omega) i a b, jr1 21 (by omega) (by omega) i a b, jr1 22 (by omega) (by omega) i a b, jr1 23 (by omega) (by omega) i a b, jr1 24 (by omega) (by omega) i a b, jr1 25 (by omega) (by omega) i a b]
      by_cases w : p ≤ i
      · simp only [if_pos w]
        exact R1.moo (i + 1) (by omega) (by omega)
      · simp only [if_neg w]
        exact R1.moo i a (by omega)
  · have v : sp_vLand g p = 0 := if_neg (fun w => z w.symm)
    have gl : sp_gLand g p = sp_gAsh g p := if_neg (fun w => z w.symm)
    rw [← v]
    refine hS ho _ L (fun x w => by rw [nw_uP (by omega), nw_uP (by omega)]) sp_fr.refl ?_
    rw [gl]
    refine ⟨hR.s.to (by rw [nw_uP (by decide), nw_uP (by decide)]) rfl ⟨eash 0 (by omega), eash 6 (by omega), eash 7 (by omega)⟩, hR.w.to (fun x a b => by rw [nw_uP (by omega), nw_uP (by omega)]) ⟨eash 1 (by omega), eash 2 (by omega)⟩ (fun s a b => eash s (by omega)) kc.2 kch.2, hR.f.to ⟨by rw [nw_uP (by omega), nw_uP (by omega)], fun x a b => by rw [nw_uP (by omega), nw_uP (by omega)]⟩ (eash 3 (by omega)) (fun s a b => eash s (by omega)) k3.2, hR.p.to ⟨by rw [nw_uP (by omega), nw_uP (by omega)]; exact ⟨rfl, rfl⟩, fun x a b => by rw [nw_uP (by omega), nw_uP (by omega)]⟩ ⟨eash 8 (by omega), eash 9 (by omega)⟩ (fun s a b => eash s (by omega)), hR.m.where_ (fun x a b => by rw [nw_uP (by omega), nw_uP (by omega)]) ⟨eash 4 (by omega), eash 5 (by omega)⟩ (fun s a b => eash s (by omega)) k4.2 (fun i a b => ?_)⟩
    have ri := hR.moo i a b
    by_cases w : i = p
    · rw [w, pash]
      simp [nw_u]
      omega
    · rw [eash (121 + i) (by omega)]
      simp [nw_u, w]
      omega
end

