/-! tides, ferries, moons: contracts -/
section
variable {sc : Nat × (Nat → Int32)} {D : Nat} {J L : Nat → Int → Int} {W : nw_W} {c sl : Nat} {Qr : nw_QR} {Qx : nw_QX} {g : Int → Int} {B : Int}
theorem t_floorMod {x y : Int} (h : 0 ≤ x ∧ 0 < y) (hQ : Qr (some (.inl (x % y))) (J, L, W)) : NW sc d_J9_floorMod_7cf53 D (0, [some (.inl x), some (.inl y), none], [], (J, L, W), c, sl) Qr Qx := by
  refine nw_rng fun ok => ?_
  have hx : nw_in x := ok.2.1 (.inl x) (by simp)
  have hy : nw_in y := ok.2.1 (.inl y) (by simp)
  have e : 0 ≤ nw_xixor x y := by
    rw [nw_xor ⟨h.1, hx.2⟩ ⟨by omega, hy.2⟩]
    omega
  exact b_J9_floorMod_7cf53_0 ⟨h, fun _ => hQ, fun q => absurd q (by omega)⟩
theorem t_tideIn {x : Int} (h : 0 ≤ x) (hD : 1 ≤ D) (hQ : Qr (some (.inl (sp_tide x))) (J, L, W)) : NW sc d_X11_tideIn D (0, [some (.inl x), none], [], (J, L, W), c, sl) Qr Qx := by
  refine b_X11_tideIn_0 hD (t_floorMod ⟨h, by decide⟩ ?_)
  refine b_X11_tideIn_6 ?_
  unfold sp_tide at hQ
  refine ⟨fun q => ⟨⟨by omega, by omega⟩, ?_⟩, fun q => ?_⟩
  · rw [if_neg (by omega)] at hQ
    exact hQ
  · rw [if_pos q] at hQ
    exact hQ
theorem t_X8_aground {f : Int} (hR : RC J L g) (hI : Inv g B) (hf : 0 ≤ f ∧ f < g 3) (hD : 2 ≤ D) (h1 : sp_stk g f → Qr (some (.inl 1)) (J, L, W)) (h0 : ¬ sp_stk g f → Qr (some (.inl 0)) (J, L, W)) : NW sc d_X8_aground D (0, [some (.inr (.inl (some 2))), some (.inl f), none], [], (J, L, W), c, sl) Qr Qx := by
  have e1 := hR.fer f hf.1 hf.2
  have e2 := hI.fer f hf.1 hf.2
  have e3 := hR.ho
  have e4 := hI.ho
  have e5 := hI.fe
  have e6 := hI.cr
  have e7 := hR.dep (g (56 + f)) e2.1 e2.2.1
  have e8 := hI.dep (g (56 + f)) e2.1 e2.2.1
  have e9 := sp_tide_rng (g 0)
  unfold sp_stk sp_sea sp_low at h1 h0
  refine b_X8_aground_0 hD ⟨⟨hf.1, by omega⟩, fun q => ?_, fun q => h0 (by omega)⟩
  rw [show J 10 f = g (56 + f) by omega, e3, e7]
  refine ⟨by omega, t_tideIn (by omega) (by decide) ?_⟩
  refine b_X8_aground_39 ?_
  (repeat' (first | refine And.intro ?_ ?_ | refine fun _ => ?_))
  all_goals first
    | exact h0 (by omega)
    | exact h1 (by omega)
    | omega
theorem t_X4_anyBetween {a b : Int} (hR : RC J L g) (hI : Inv g B) (ha : 0 ≤ a) (hb : 0 ≤ b) (h1 : (∃ f, 0 ≤ f ∧ f < g 3 ∧ sp_psg g a b f) → Qr (some (.inl 1)) (J, L, W)) (h0 : (∀ f, 0 ≤ f → f < g 3 → ¬ sp_psg g a b f) → Qr (some (.inl 0)) (J, L, W)) : NW sc d_X4_anyBetween D (0, [some (.inr (.inl (some 9))), some (.inl a), some (.inl b), none, none, none], [], (J, L, W), c, sl) Qr Qx := by
  refine b_X4_anyBetween_0 ?_
  have lp : ∀ (m : Nat) (i : Int), 0 ≤ i → (g 3 - i).toNat = m → (∀ j, 0 ≤ j → j < i → ¬ sp_psg g a b j) → NW sc d_X4_anyBetween D (2, [some (.inr (.inl (some 9))), some (.inl a), some (.inl b), some (.inl i), none, none], [], (J, L, W), c, sl) Qr Qx := by
    intro m
    induction m using Nat.strongRecOn with
    | ind m ih =>
      intro i hz hm hp
      have e1 := hR.fe
      have e2 := hI.fe
      have e3 := hR.fer i hz
      have e4 := hI.fer i hz
      have fin : g 3 ≤ i → Qr (some (.inl 0)) (J, L, W) := fun q => h0 (fun j a b => hp j a (by omega))
      have ret : i < g 3 → sp_psg g a b i → Qr (some (.inl 1)) (J, L, W) := fun q z => h1 ⟨i, hz, q, z⟩
      have nxt : i < g 3 → ¬ sp_psg g a b i → NW sc d_X4_anyBetween D (2, [some (.inr (.inl (some 9))), some (.inl a), some (.inl b), some (.inl (i + 1)), none, none], [], (J, L, W), c, sl) Qr Qx := fun q z => ih _ (by omega) (i + 1) (by omega) rfl (fun j a b => if e : j = i then e ▸ z else hp j a (by omega))
      unfold sp_psg at ret nxt
      refine b_X4_anyBetween_2 ?_
      rw [e1]
      by_cases q : i < g 3
      · have e3 := e3 q
        have e4 := e4 q
        (repeat' (first | refine And.intro ?_ ?_ | refine fun _ => ?_))
        all_goals first
          | exact ret q (by omega)
          | exact nxt q (by omega)
          | omega
      · exact ⟨fun _ => fin (by omega), fun z => absurd z q⟩
  exact lp _ 0 (by omega) rfl (fun j a b => by omega)
theorem t_X7_placeOf {a : Int} (hR : RC J L g) (hI : Inv g B) (hQ : ∀ r, sp_plc g a r → Qr (some (.inl r)) (J, L, W)) : NW sc d_X7_placeOf D (0, [some (.inr (.inl (some 18))), some (.inl a), none], [], (J, L, W), c, sl) Qr Qx := by
  refine b_X7_placeOf_0 ?_
  have lp : ∀ (m : Nat) (i : Int), 0 ≤ i → (g 4 - i).toNat = m → (∀ j, 0 ≤ j → j < i → ¬ g (71 + j) = a) → NW sc d_X7_placeOf D (2, [some (.inr (.inl (some 18))), some (.inl a), some (.inl i)], [], (J, L, W), c, sl) Qr Qx := by
    intro m
    induction m using Nat.strongRecOn with
    | ind m ih =>
      intro i h0 hm hp
      have e1 := hR.mo
      have e2 := hI.mo
      have e3 := hR.moo i h0
      have fin : g 4 ≤ i → Qr (some (.inl (-1))) (J, L, W) := fun q => hQ _ (Or.inl ⟨rfl, fun j a b => hp j a (by omega)⟩)
      have ret : i < g 4 → g (71 + i) = a → Qr (some (.inl i)) (J, L, W) := fun q z => hQ _ (Or.inr ⟨h0, q, z, hp⟩)
      have nxt : i < g 4 → ¬ g (71 + i) = a → NW sc d_X7_placeOf D (2, [some (.inr (.inl (some 18))), some (.inl a), some (.inl (i + 1))], [], (J, L, W), c, sl) Qr Qx := fun q z => ih _ (by omega) (i + 1) (by omega) rfl (fun j a b => if e : j = i then e ▸ z else hp j a (by omega))
      refine b_X7_placeOf_2 ?_
      (repeat' (first | refine And.intro ?_ ?_ | refine fun _ => ?_))
      all_goals first
        | exact fin (by omega)
        | exact ret (by omega) (by omega)
        | exact nxt (by omega) (by omega)
        | omega
  exact lp _ 0 (by omega) rfl (fun j a b => by omega)
theorem t_X7_weightAboard {f : Int} (hR : RC J L g) (hI : Inv g B) (hf : 0 ≤ f) (hQ : Qr (some (.inl (sp_car g f))) (J, L, W)) : NW sc d_X7_weightAboard D (0, [some (.inr (.inl (some 18))), some (.inl f), none, none], [], (J, L, W), c, sl) Qr Qx := by
  refine b_X7_weightAboard_0 ?_
  have lp : ∀ (m : Nat) (i a : Int), 0 ≤ i → i ≤ g 4 → (g 4 - i).toNat = m → a = sp_sum (sp_w g f) i.toNat → NW sc d_X7_weightAboard D (4, [some (.inr (.inl (some 18))), some (.inl f), some (.inl a), some (.inl i)], [], (J, L, W), c, sl) Qr Qx := by
    intro m
    induction m using Nat.strongRecOn with
    | ind m ih =>
      intro i a h0 h1 hm ha
      have e1 := hR.mo
      have e2 := hI.mo
      have e3 := hR.moo i h0
      have e4 := hI.moo i h0
      have st := sp_sum_step (f := sp_w g f) h0
      have bd := sp_sum_bd (f := sp_w g f) (b := 40) (n := i.toNat) (fun j a b => sp_w_bd hI j a (by omega))
      have hw : sp_w g f i = if g (121 + i) = 10 + f then g (101 + i) else 0 := rfl
      have fin : g 4 ≤ i → Qr (some (.inl a)) (J, L, W) := fun q => by
        have : a = sp_car g f := by rw [ha, sp_car, show i = g 4 by omega]
        rw [this]
        exact hQ
      have nxt : i < g 4 → ∀ a', a' = sp_sum (sp_w g f) (i + 1).toNat → NW sc d_X7_weightAboard D (4, [some (.inr (.inl (some 18))), some (.inl f), some (.inl (a')), some (.inl (i + 1))], [], (J, L, W), c, sl) Qr Qx := fun q a' z => ih _ (by omega) (i + 1) a' (by omega) (by omega) rfl z
      refine b_X7_weightAboard_4 ?_
      rw [e1]
      by_cases q : i < g 4
      · have e3 := e3 q
        have e4 := e4 q
        split at hw
        · (repeat' (first | refine And.intro ?_ ?_ | refine fun _ => ?_))
          all_goals first
            | exact nxt q _ (by omega)
            | omega
        · (repeat' (first | refine And.intro ?_ ?_ | refine fun _ => ?_))
          all_goals first
            | exact nxt q _ (by omega)
            | omega
      · exact ⟨fun _ => fin (by omega), fun z => absurd z q⟩
  exact lp _ 0 0 (by omega) (hI.mo).1 rfl rfl
end

