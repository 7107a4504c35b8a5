/-! fares, ranks, counts: contracts -/
section
variable {sc : Nat × (Nat → Int32)} {D : Nat} {J L : Nat → Int → Int} {W : nw_W} {c sl : Nat} {Qr : nw_QR} {Qx : nw_QX} {g : Int → Int} {B : Int}
def sp_light (p : Int) : Int := if p ≤ 4 then p else 8 - p
noncomputable def sp_fare (g : Int → Int) (p : Int) : Int := if sp_D g (g (81 + p)) (g (91 + p)) = 10000 then 0 else sp_D g (g (81 + p)) (g (91 + p)) * (sp_light (g (111 + p)) + 1)
theorem sp_mul_bd {x y : Int} (hx : 0 ≤ x ∧ x ≤ 576) (hy : 1 ≤ y ∧ y ≤ 5) : 0 ≤ x * y ∧ x * y ≤ 2880 := by
  have h1 := Int.mul_nonneg hx.1 (show 0 ≤ y by omega)
  have h2 : x * y ≤ 576 * 5 := Int.mul_le_mul hx.2 hy.2 (by omega) (by omega)
  omega
theorem sp_fare_bd {g : Int → Int} {B p : Int} (hI : Inv g B) (hp : 0 ≤ p ∧ p < g 4) : 0 ≤ sp_fare g p ∧ sp_fare g p ≤ 2880 := by
  have mi := hI.moo p hp.1 hp.2
  have b := sp_D_bd hI (g (81 + p)) (g (91 + p))
  have n := sp_D_nn hI (g (81 + p)) (g (91 + p))
  unfold sp_fare
  by_cases z : sp_D g (g (81 + p)) (g (91 + p)) = 10000
  · rw [if_pos z]; omega
  · rw [if_neg z]
    refine sp_mul_bd ⟨n, by omega⟩ ?_
    unfold sp_light
    split <;> omega
theorem RC.keep {J J' L : Nat → Int → Int} {g : Int → Int} {B : Int} (h : RC J L g) (hI : Inv g B) (e : ∀ x, 2 ≤ x → x ≤ 25 → J' x = J x) : RC J' L g :=
  ⟨h.s.to (e 2 (by omega) (by omega)) rfl ⟨rfl, rfl, rfl⟩, h.w.to (fun x a b => e x (by omega) (by omega)) ⟨rfl, rfl⟩ (fun _ _ _ => rfl) hI.cr.2 hI.ch.2, h.f.to ⟨by rw [e 9 (by omega) (by omega)], fun x a b => e x (by omega) (by omega)⟩ rfl (fun _ _ _ => rfl) hI.fe.2, h.p.to ⟨by rw [e 9 (by omega) (by omega)]; exact ⟨rfl, rfl⟩, fun x a b => e x (by omega) (by omega)⟩ ⟨rfl, rfl⟩ (fun _ _ _ => rfl), h.m.to (fun x a b => e x (by omega) (by omega)) ⟨rfl, rfl⟩ (fun _ _ _ => rfl) hI.mo.2⟩
theorem t_X3_fareAt {p : Int} (hR : RC J L g) (hI : Inv g B) (hp : 0 ≤ p ∧ p < g 4) (hD : 2 ≤ D) (hQ : ∀ J', (∀ x, ¬ (x = 30 ∨ (40 ≤ x ∧ x ≤ 42)) → J' x = J x) → Qr (some (.inl (sp_fare g p))) (J', L, W)) : NW sc d_X3_fareAt D (0, [some (.inr (.inl (some 28))), some (.inr (.inl (some 2))), some (.inl p), none, none, none], [], (J, L, W), c, sl) Qr Qx := by
  have mr := hR.moo p hp.1 hp.2
  have mi := hI.moo p hp.1 hp.2
  have km := hI.mo
  have kc := hI.cr
  refine b_X3_fareAt_0 hD ?_
  rw [mr.2.1]
  refine ⟨by omega, t_X10_spreadFrom hR hI ⟨by omega, by omega⟩ (by decide) (fun J1 hx hj => ?_)⟩
  refine b_X3_fareAt_20 ?_
  rw [hx 21 (by omega), hx 23 (by omega), mr.2.2.1, mr.2.2.2.2.1, hj _ (by omega) (by omega)]
  have b := sp_D_bd hI (g (81 + p)) (g (91 + p))
  have n := sp_D_nn hI (g (81 + p)) (g (91 + p))
  have fin : ∀ v, v = sp_fare g p → Qr (some (.inl v)) (J1, L, W) := fun v hv => hv ▸ hQ J1 hx
  obtain ⟨d, hd⟩ : ∃ d, sp_D g (g (81 + p)) (g (91 + p)) = d := ⟨_, rfl⟩
  obtain ⟨q, hq⟩ : ∃ q, g (111 + p) = q := ⟨_, rfl⟩
  unfold sp_fare at fin
  rw [hd] at b n fin ⊢
  rw [hq] at mi fin ⊢
  unfold sp_enc
  by_cases z : d = 10000
  · rw [if_pos z]
    rw [if_pos z] at fin
    exact ⟨by omega, by omega, fun _ => ⟨by omega, fun w => absurd rfl w, fun _ => fin 0 rfl⟩, fun _ => ⟨fun w => absurd rfl w, fun _ => fin 0 rfl⟩⟩
  · rw [if_neg z]
    rw [if_neg z] at fin
    refine ⟨by omega, by omega, fun w => ⟨by omega, fun _ => ⟨by omega, ?_, ?_⟩, fun y => by omega⟩, fun w => ⟨fun _ => ⟨by omega, ?_, ?_⟩, fun y => by omega⟩⟩
    · have := sp_mul_bd (x := d) (y := 8 - q + 1) ⟨n, by omega⟩ (by omega)
      omega
    · exact fin _ (by unfold sp_light; rw [if_neg (by omega)])
    · have := sp_mul_bd (x := d) (y := q + 1) ⟨n, by omega⟩ (by omega)
      omega
    · exact fin _ (by unfold sp_light; rw [if_pos w])
/-- places of fares' and ways' own rows -/
def sp_scr (x : Nat) : Prop := x = 28 ∨ x = 30 ∨ (40 ≤ x ∧ x ≤ 42) ∨ x = 46
theorem t_X3_askAll (hR : RC J L g) (hI : Inv g B) (hD : 3 ≤ D) (hQ : ∀ J', (∀ x, ¬ sp_scr x → J' x = J x) → J' 28 2 = g 4 → (∀ s, ¬ s = 2 → J' 28 s = J 28 s) → (∀ p, 0 ≤ p → p < g 4 → J' 46 p = sp_fare g p) → Qr none (J', L, W)) : NW sc d_X3_askAll D (0, [some (.inr (.inl (some 28))), some (.inr (.inl (some 2))), none], [], (J, L, W), c, sl) Qr Qx := by
  have km := hI.mo
  refine b_X3_askAll_0 ?_
  rw [hR.mo]
  have lp : ∀ (m : Nat) (i : Int) (J1 : Nat → Int → Int), 0 ≤ i → i ≤ g 4 → (g 4 - i).toNat = m → (∀ x, ¬ sp_scr x → J1 x = J x) → J1 28 = nw_u J 28 2 (g 4) 28 → (∀ p, 0 ≤ p → p < i → J1 46 p = sp_fare g p) → NW sc d_X3_askAll D (13, [some (.inr (.inl (some 28))), some (.inr (.inl (some 2))), some (.inl i)], [], (J1, L, W), c, sl) Qr Qx := by
    intro r9
    induction r9 using Nat.strongRecOn with
    | ind r9 ih =>
      intro i J1 i0 i1 hm hx h28 hj
      have n2 : J1 28 2 = g 4 := by rw [h28, nw_uS]
      have hR1 := hR.keep hI (J' := J1) (fun x a b => hx x (by unfold sp_scr; omega))
      refine b_X3_askAll_13 hD ?_
      rw [n2]
      refine ⟨fun q => hQ J1 hx n2 (fun s z => by rw [h28, nw_uI z]) (fun p a b => hj p a (by omega)), fun q => ?_⟩
      refine t_X3_fareAt hR1 hI ⟨i0, q⟩ (by decide) (fun J2 hx2 => ?_)
      refine b_X3_askAll_32 ⟨by omega, by omega, ?_⟩
      refine ih _ (by omega) (i + 1) _ (by omega) (by omega) rfl (fun x z => ?_) ?_ (fun p a b => ?_)
      · unfold sp_scr at z
        rw [nw_uP (by omega), hx2 x (by omega)]
        exact hx x (by unfold sp_scr; omega)
      · rw [nw_uP (by decide), hx2 28 (by omega), h28]
      · rw [nw_u304]
        by_cases z : p = i
        · rw [z, sp_set_eq]
        · rw [sp_set_ne z, hx2 46 (by omega)]
          exact hj p a (by omega)
  exact lp _ 0 _ (by omega) km.1 rfl (fun x z => nw_uP (by unfold sp_scr at z; omega)) rfl (fun p a b => by omega)
/-- how many moons stand ahead of p -/
noncomputable def sp_ah (g : Int → Int) (p i : Int) : Int := if sp_fare g p < sp_fare g i ∨ (sp_fare g i = sp_fare g p ∧ i < p) then 1 else 0
noncomputable def sp_rank (g : Int → Int) (p : Int) : Int := sp_sum (sp_ah g p) (g 4).toNat
theorem sp_ah_rng (g : Int → Int) (p i : Int) : 0 ≤ sp_ah g p i ∧ sp_ah g p i ≤ 1 := by
  unfold sp_ah
  split <;> omega
theorem t_X3_rankOf {p : Int} (hI : Inv g B) (hn : J 28 2 = g 4) (hf : ∀ p, 0 ≤ p → p < g 4 → J 46 p = sp_fare g p) (hp : 0 ≤ p ∧ p < g 4) (hQ : Qr (some (.inl (sp_rank g p))) (J, L, W)) : NW sc d_X3_rankOf D (0, [some (.inr (.inl (some 28))), some (.inl p), none, none], [], (J, L, W), c, sl) Qr Qx := by
  have km := hI.mo
  refine b_X3_rankOf_0 ?_
  have lp : ∀ (m : Nat) (i a : Int), 0 ≤ i → i ≤ g 4 → (g 4 - i).toNat = m → a = sp_sum (sp_ah g p) i.toNat → NW sc d_X3_rankOf D (4, [some (.inr (.inl (some 28))), some (.inl p), some (.inl a), some (.inl i)], [], (J, L, W), c, sl) Qr Qx := by
    intro r9
    induction r9 using Nat.strongRecOn with
    | ind r9 ih =>
      intro i a i0 i1 hm ha
      have st := sp_sum_step (f := sp_ah g p) i0
      have bd := sp_sum_bd (f := sp_ah g p) (b := 1) (n := i.toNat) (fun j _ _ => sp_ah_rng g p j)
      have hw : sp_ah g p i = if sp_fare g p < sp_fare g i ∨ (sp_fare g i = sp_fare g p ∧ i < p) then 1 else 0 := rfl
      refine b_X3_rankOf_4 ?_
      rw [hn]
      refine ⟨fun q => ?_, fun q => ?_⟩
      · have : a = sp_rank g p := by rw [ha, sp_rank, show i = g 4 by omega]
        rw [this]
        exact hQ
      · rw [hf i i0 q, hf p hp.1 hp.2]
        have nxt : ∀ a', a' = sp_sum (sp_ah g p) (i + 1).toNat → NW sc d_X3_rankOf D (4, [some (.inr (.inl (some 28))), some (.inl p), some (.inl (a')), some (.inl (i + 1))], [], (J, L, W), c, sl) Qr Qx := fun a' z => ih _ (by omega) (i + 1) a' (by omega) (by omega) rfl z
        split at hw
        · (repeat' (first | refine And.intro ?_ ?_ | refine fun _ => ?_))
          all_goals first
            | exact nxt _ (by omega)
            | omega
        · (repeat' (first | refine And.intro ?_ ?_ | refine fun _ => ?_))
          all_goals first
            | exact nxt _ (by omega)
            | omega
  exact lp _ 0 0 (by omega) km.1 rfl rfl
theorem t_X3_placeAtRank {r : Int} (hI : Inv g B) (hn : J 28 2 = g 4) (hf : ∀ p, 0 ≤ p → p < g 4 → J 46 p = sp_fare g p) (hD : 1 ≤ D) (hQ : ∀ q, sp_first (fun p => sp_rank g p = r) (g 4) q → Qr (some (.inl (if q = -1 then 0 else q))) (J, L, W)) : NW sc d_X3_placeAtRank D (0, [some (.inr (.inl (some 28))), some (.inl r), none], [], (J, L, W), c, sl) Qr Qx := by
  have km := hI.mo
  refine b_X3_placeAtRank_0 ?_
  have lp : ∀ (m : Nat) (i : Int), 0 ≤ i → (g 4 - i).toNat = m → (∀ j, 0 ≤ j → j < i → ¬ sp_rank g j = r) → NW sc d_X3_placeAtRank D (2, [some (.inr (.inl (some 28))), some (.inl r), some (.inl i)], [], (J, L, W), c, sl) Qr Qx := by
    intro r9
    induction r9 using Nat.strongRecOn with
    | ind r9 ih =>
      intro i i0 hm hp
      refine b_X3_placeAtRank_2 hD ?_
      rw [hn]
      refine ⟨fun q => hQ (-1) (Or.inl ⟨rfl, fun j a b => hp j a (by omega)⟩), fun q => ?_⟩
      refine t_X3_rankOf hI hn hf ⟨i0, q⟩ ?_
      refine b_X3_placeAtRank_15 ⟨fun z => ⟨by omega, ih _ (by omega) (i + 1) (by omega) rfl (fun j a b => if e : j = i then e ▸ z else hp j a (by omega))⟩, fun z => ?_⟩
      have := hQ i (Or.inr ⟨i0, q, z, hp⟩)
      rw [if_neg (by omega)] at this
      exact this
  exact lp _ 0 (by omega) rfl (fun j a b => by omega)
noncomputable def sp_less (g : Int → Int) (x : Int) (n : Nat) : Int := sp_sum (fun p => if sp_fare g p < x then 1 else 0) n
theorem sp_less_rng (g : Int → Int) (x : Int) (n : Nat) : 0 ≤ sp_less g x n ∧ sp_less g x n ≤ n := by
  have := sp_sum_bd (f := fun p => if sp_fare g p < x then (1 : Int) else 0) (b := 1) (n := n) (fun i a b => by split <;> omega)
  unfold sp_less
  omega
theorem t_X3_lessByAsking {x : Int} (hI : Inv g B) (hn : J 28 2 = g 4) (hf : ∀ p, 0 ≤ p → p < g 4 → J 46 p = sp_fare g p) (hQ : Qr (some (.inl (sp_less g x (g 4).toNat))) (J, L, W)) : NW sc d_X3_lessByAsking D (0, [some (.inr (.inl (some 28))), some (.inl x), none, none], [], (J, L, W), c, sl) Qr Qx := by
  have km := hI.mo
  refine b_X3_lessByAsking_0 ?_
  have lp : ∀ (m : Nat) (i a : Int), 0 ≤ i → i ≤ g 4 → (g 4 - i).toNat = m → a = sp_less g x i.toNat → NW sc d_X3_lessByAsking D (4, [some (.inr (.inl (some 28))), some (.inl x), some (.inl a), some (.inl i)], [], (J, L, W), c, sl) Qr Qx := by
    intro r9
    induction r9 using Nat.strongRecOn with
    | ind r9 ih =>
      intro i a i0 i1 hm ha
      have st : sp_less g x (i + 1).toNat = sp_less g x i.toNat + if sp_fare g i < x then 1 else 0 := sp_sum_step (f := fun p => if sp_fare g p < x then (1 : Int) else 0) i0
      have bd := sp_less_rng g x i.toNat
      refine b_X3_lessByAsking_4 ?_
      rw [hn]
      refine ⟨fun q => ?_, fun q => ?_⟩
      · have : a = sp_less g x (g 4).toNat := by rw [ha, show i = g 4 by omega]
        rw [this]
        exact hQ
      · rw [hf i i0 q]
        refine ⟨by omega, fun z => ⟨by omega, ih _ (by omega) (i + 1) a (by omega) (by omega) rfl ?_⟩, fun z => ⟨by omega, by omega, ih _ (by omega) (i + 1) (a + 1) (by omega) (by omega) rfl ?_⟩⟩
        · rw [if_neg (by omega)] at st
          omega
        · rw [if_pos z] at st
          omega
  exact lp _ 0 0 (by omega) km.1 rfl rfl
/-- what the reference's row of ways holds behind finds -/
def sp_wok (J : Nat → Int → Int) : Prop := ∀ k, 0 ≤ k → k < 36 → J 310 k = sp_D (J 304) (k / 6) (k % 6)
/-! every rank has its moon -/
theorem sp_pig : ∀ (n : Nat) (f : Int → Int), (∀ i : Int, 0 ≤ i → i < n → 0 ≤ f i ∧ f i < n) → (∀ i j : Int, 0 ≤ i → i < j → j < n → ¬ f i = f j) → ∀ r : Int, 0 ≤ r → r < n → ∃ i : Int, 0 ≤ i ∧ i < n ∧ f i = r
  | 0, f, _, _, r, a, b => by omega
  | n + 1, f, h, inj, r, a, b => by
    have fn := h n (by omega) (by omega)
    have key : ∀ f' : Int → Int, (∀ i : Int, 0 ≤ i → i < n → (f i = n ∧ f' i = f n) ∨ (¬ f i = n ∧ f' i = f i)) → ¬ f n = n → ∀ r : Int, 0 ≤ r → r < n → ∃ i : Int, 0 ≤ i ∧ i < n ∧ f' i = r := fun f' hf' hn r r0 r1 => by
      refine sp_pig n f' (fun i i0 i1 => ?_) (fun i j i0 ij j1 => ?_) r r0 r1
      · have := hf' i i0 i1
        have := h i i0 (by omega)
        omega
      · have a1 := hf' i i0 (by omega)
        have a2 := hf' j (by omega) j1
        have b1 := inj i j i0 ij (by omega)
        have b2 := inj i n i0 (by omega) (by omega)
        have b3 := inj j n (by omega) (by omega) (by omega)
        omega
    by_cases q : f n = n
    · by_cases e : r = n
      · exact ⟨n, by omega, by omega, by omega⟩
      · obtain ⟨i, i0, i1, i2⟩ := sp_pig n f (fun i i0 i1 => by
          have := h i i0 (by omega)
          have := inj i n i0 (by omega) (by omega)
          omega) (fun i j i0 ij j1 => inj i j i0 ij (by omega)) r a (by omega)
        exact ⟨i, i0, by omega, i2⟩
    · have kk := key (fun i => if f i = n then f n else f i) (fun i _ _ => by
        by_cases z : f i = n
        · exact Or.inl ⟨z, if_pos z⟩
        · exact Or.inr ⟨z, if_neg z⟩) q
      by_cases e : r = n
      · obtain ⟨i, i0, i1, i2⟩ := kk (f n) fn.1 (by omega)
        by_cases z : f i = n
        · exact ⟨i, i0, by omega, by omega⟩
        · rw [if_neg z] at i2
          exact absurd i2 (inj i n i0 i1 (by omega))
      · obtain ⟨i, i0, i1, i2⟩ := kk r a (by omega)
        by_cases z : f i = n
        · rw [if_pos z] at i2
          exact ⟨n, by omega, by omega, i2⟩
        · rw [if_neg z] at i2
          exact ⟨i, i0, by omega, i2⟩
theorem sp_rank_lt {g : Int → Int} {i j : Int} (hi : 0 ≤ i) (hin : i < g 4) (h : sp_fare g j < sp_fare g i ∨ (sp_fare g i = sp_fare g j ∧ i < j)) : sp_rank g i + 1 ≤ sp_rank g j := by
  refine sp_sum_lt hi ?_ (by omega) (fun k _ _ => ?_)
  · unfold sp_ah
    rw [if_neg (by omega), if_pos h]
    decide
  · unfold sp_ah
    by_cases z : sp_fare g i < sp_fare g k ∨ (sp_fare g k = sp_fare g i ∧ k < i)
    · rw [if_pos z, if_pos (by omega)]
      exact Int.le_refl _
    · rw [if_neg z]
      split <;> omega
theorem sp_rank_ex {g : Int → Int} {B r : Int} (hI : Inv g B) (hr : 0 ≤ r ∧ r < g 4) : ∃ p, 0 ≤ p ∧ p < g 4 ∧ sp_rank g p = r := by
  have km := hI.mo
  have hn : (((g 4).toNat : Nat) : Int) = g 4 := Int.toNat_of_nonneg km.1
  obtain ⟨p, p0, p1, p2⟩ := sp_pig (g 4).toNat (sp_rank g) (fun i i0 i1 => by
    rw [hn] at i1 ⊢
    have bd := sp_sum_bd (f := sp_ah g i) (b := 1) (n := (g 4).toNat) (fun j _ _ => sp_ah_rng g i j)
    have lt := sp_sum_lt (f := sp_ah g i) (h := fun _ => (1 : Int)) (p := i) i0 (by unfold sp_ah; rw [if_neg (by omega)]; decide) (n := (g 4).toNat) (by omega) (fun j _ _ => (sp_ah_rng g i j).2)
    have one := sp_sum_bd (f := fun _ => (1 : Int)) (b := 1) (n := (g 4).toNat) (fun j _ _ => by omega)
    unfold sp_rank
    omega) (fun i j i0 ij j1 => by
    rw [hn] at j1
    rcases Int.lt_trichotomy (sp_fare g i) (sp_fare g j) with q | q | q
    · have := sp_rank_lt (g := g) (i := j) (j := i) (by omega) j1 (Or.inl q)
      omega
    · have := sp_rank_lt (g := g) (i := i) (j := j) i0 (by omega) (Or.inr ⟨q, ij⟩)
      omega
    · have := sp_rank_lt (g := g) (i := i) (j := j) i0 (by omega) (Or.inl q)
      omega) r hr.1 (by rw [hn]; exact hr.2)
  rw [hn] at p1
  exact ⟨p, p0, p1, p2⟩
theorem sp_rank_rng {g : Int → Int} {B p : Int} (hI : Inv g B) (hp : 0 ≤ p ∧ p < g 4) : 0 ≤ sp_rank g p ∧ sp_rank g p < g 4 := by
  have km := hI.mo
  have bd := sp_sum_bd (f := sp_ah g p) (b := 1) (n := (g 4).toNat) (fun j _ _ => sp_ah_rng g p j)
  have lt := sp_sum_lt (f := sp_ah g p) (h := fun _ => (1 : Int)) (p := p) hp.1 (by unfold sp_ah; rw [if_neg (by omega)]; decide) (n := (g 4).toNat) (by omega) (fun j _ _ => (sp_ah_rng g p j).2)
  have one := sp_sum_bd (f := fun _ => (1 : Int)) (b := 1) (n := (g 4).toNat) (fun j _ _ => by omega)
  unfold sp_rank
  omega
end

