/-! the law: means and shares -/
section
variable {sc : Nat × (Nat → Int32)} {D : Nat} {J L : Nat → Int → Int} {W : nw_W} {c sl : Nat} {Qr : nw_QR} {Qx : nw_QX} {g : Int → Int} {B : Int}
def sp_mq (s n : Int) : UInt64 := FP.ddiv (FP.i2d (Int32.ofInt s)) (FP.i2d (Int32.ofInt n))
def sp_lq (s n : Int) : UInt32 := FP.fdiv (FP.i2f (Int32.ofInt s)) (FP.i2f (Int32.ofInt n))
def sp_mqb (q : UInt64) : Bool := decide (q &&& 0x7fffffffffffffff ≤ 0x7ff0000000000000) && decide ((Op.cmpValue (FP.dcmp q q) .l).toInt = 0)
def sp_lqb (q : UInt32) : Bool := decide (q &&& 0x7fffffff ≤ 0x7f800000) && sp_mqb (FP.f2d q)
theorem sp_mq_all : ((List.range 71).all fun s => (List.range 11).all fun n => n == 0 || sp_mqb (sp_mq (s : Nat) (n : Nat))) = true := by decide +kernel
theorem sp_lq_all : ((List.range 100).all fun n => (List.range 100).all fun s => n == 0 || Nat.blt n s || sp_lqb (sp_lq (s : Nat) (n : Nat))) = true := by decide +kernel
theorem sp_mq_ok {s n : Int} (hs : 0 ≤ s ∧ s ≤ 70) (hn : 1 ≤ n ∧ n ≤ 10) : vf_n64 (sp_mq s n) ∧ (Op.cmpValue (FP.dcmp (sp_mq s n) (sp_mq s n)) .l).toInt = 0 := by
  obtain ⟨a, rfl⟩ := Int.eq_ofNat_of_zero_le hs.1
  obtain ⟨b, rfl⟩ := Int.eq_ofNat_of_zero_le (show 0 ≤ n by omega)
  have h1 := List.all_eq_true.mp sp_mq_all a (List.mem_range.mpr (by omega))
  have h2 := List.all_eq_true.mp h1 b (List.mem_range.mpr (by omega))
  have hb : (b == 0) = false := by
    cases b with
    | zero => omega
    | succ b => rfl
  rw [hb, Bool.false_or, sp_mqb, Bool.and_eq_true] at h2
  exact ⟨by unfold vf_n64; exact of_decide_eq_true h2.1, of_decide_eq_true h2.2⟩
theorem sp_lq_ok {s n : Int} (hs : 0 ≤ s ∧ s ≤ n) (hn : 1 ≤ n ∧ n ≤ 99) : vf_n32 (sp_lq s n) ∧ vf_n64 (FP.f2d (sp_lq s n)) ∧ (Op.cmpValue (FP.dcmp (FP.f2d (sp_lq s n)) (FP.f2d (sp_lq s n))) .l).toInt = 0 := by
  obtain ⟨a, rfl⟩ := Int.eq_ofNat_of_zero_le hs.1
  obtain ⟨b, rfl⟩ := Int.eq_ofNat_of_zero_le (show 0 ≤ n by omega)
  have h1 := List.all_eq_true.mp sp_lq_all b (List.mem_range.mpr (by omega))
  have h2 := List.all_eq_true.mp h1 a (List.mem_range.mpr (by omega))
  have hb : (b == 0) = false := by
    cases b with
    | zero => omega
    | succ b => rfl
  have hl : Nat.blt b a = false := by
    cases z : Nat.blt b a with
    | false => rfl
    | true =>
      have z2 : b < a := Nat.le_of_ble_eq_true z
      omega
  rw [hb, hl, Bool.false_or, Bool.false_or, sp_lqb, sp_mqb, Bool.and_eq_true, Bool.and_eq_true] at h2
  exact ⟨by unfold vf_n32; exact of_decide_eq_true h2.1, by unfold vf_n64; exact of_decide_eq_true h2.2.1, of_decide_eq_true h2.2.2⟩
/-- the phases together -/
def sp_ph (g : Int → Int) : Int := sp_sum (fun p => g (111 + p)) (g 4).toNat
theorem sp_ph_bd {g : Int → Int} (hI : Inv g B) : 0 ≤ sp_ph g ∧ sp_ph g ≤ 70 := by
  have hm := hI.mo
  have h := sp_sum_bd (f := fun p => g (111 + p)) (b := 7) (n := (g 4).toNat) (fun j a b => by
    have := hI.moo j a (by omega)
    exact ⟨this.2.2.2.2.2.2.2.2.1, this.2.2.2.2.2.2.2.2.2.1⟩)
  unfold sp_ph
  omega
theorem t_X7_sumOfPhases (hR : RC J L g) (hI : Inv g B) (hQ : Qr (some (.inl (sp_ph g))) (J, L, W)) : NW sc d_X7_sumOfPhases D (0, [some (.inr (.inl (some 18))), none, none], [], (J, L, W), c, sl) Qr Qx := by
  refine b_X7_sumOfPhases_0 ?_
  have lp : ∀ (m : Nat) (i a : Int), 0 ≤ i → i ≤ g 4 → (g 4 - i).toNat = m → a = sp_sum (fun p => g (111 + p)) i.toNat → NW sc d_X7_sumOfPhases D (4, [some (.inr (.inl (some 18))), some (.inl a), some (.inl i)], [], (J, L, W), c, sl) Qr Qx := by
    intro m
    induction m using Nat.strongRecOn with
    | ind m ih =>
      intro i a h0 h1 hm ha
      have e1 := hR.mo
      have e2 := hI.mo
      have e3 := hR.moo i h0
      have e4 := hI.moo i h0
      have st := sp_sum_step (f := fun p => g (111 + p)) h0
      have bd := sp_sum_bd (f := fun p => g (111 + p)) (b := 7) (n := i.toNat) (fun j a b => by
        have := hI.moo j a (by omega)
        exact ⟨this.2.2.2.2.2.2.2.2.1, this.2.2.2.2.2.2.2.2.2.1⟩)
      refine b_X7_sumOfPhases_4 ?_
      rw [e1]
      by_cases q : i < g 4
      · have e3 := e3 q
        have e4 := e4 q
        rw [e3.2.2.2.2.1]
        refine ⟨fun z => absurd q (by omega), fun _ => ⟨by omega, by omega, by omega, ih _ (by omega) (i + 1) _ (by omega) (by omega) rfl (by rw [st, ← ha])⟩⟩
      · refine ⟨fun _ => ?_, fun z => absurd z q⟩
        have : a = sp_ph g := by rw [ha, sp_ph, show i = g 4 by omega]
        rw [this]
        exact hQ
  exact lp _ 0 0 (by omega) (hI.mo).1 rfl rfl
theorem t_X12_meanPhase (hI : Inv (J 304) B) (h0 : J 304 4 = 0 → Qr (some (.inr (.inr (.inr (.inl 0))))) (nw_u J 303 13 1, L, W)) (hQ : ¬ J 304 4 = 0 → Qr (some (.inr (.inr (.inr (.inl (sp_mq (sp_ph (J 304)) (J 304 4))))))) (nw_u J 303 13 0, L, W)) : NW sc d_X12_meanPhase D (0, [some (.inr (.inl (some 303))), none, none], [], (J, L, W), c, sl) Qr Qx := by
  refine b_X12_meanPhase_0 ?_
  have lp : ∀ (m : Nat) (i a : Int), 0 ≤ i → i ≤ J 304 4 → (J 304 4 - i).toNat = m → a = sp_sum (fun p => J 304 (111 + p)) i.toNat → NW sc d_X12_meanPhase D (4, [some (.inr (.inl (some 303))), some (.inl a), some (.inl i)], [], (J, L, W), c, sl) Qr Qx := by
    intro m
    induction m using Nat.strongRecOn with
    | ind m ih =>
      intro i a k0 k1 hm ha
      have e2 := hI.mo
      have e4 := hI.moo i k0
      have st := sp_sum_step (f := fun p => J 304 (111 + p)) k0
      have bd := sp_sum_bd (f := fun p => J 304 (111 + p)) (b := 7) (n := i.toNat) (fun j a b => by
        have := hI.moo j a (by omega)
        exact ⟨this.2.2.2.2.2.2.2.2.1, this.2.2.2.2.2.2.2.2.2.1⟩)
      refine b_X12_meanPhase_4 ?_
      by_cases q : i < J 304 4
      · have e4 := e4 q
        refine ⟨fun z => absurd q (by omega), fun _ => ⟨by omega, by omega, by omega, by omega, ih _ (by omega) (i + 1) _ (by omega) (by omega) rfl (by rw [st, ← ha])⟩⟩
      · have : a = sp_ph (J 304) := by rw [ha, sp_ph, show i = J 304 4 by omega]
        rw [this]
        exact ⟨fun _ => ⟨fun nz => ⟨(sp_mq_ok (sp_ph_bd hI) (by omega)).1, hQ nz⟩, fun z => h0 z⟩, fun z => absurd z q⟩
  exact lp _ 0 0 (by omega) (hI.mo).1 rfl rfl
theorem case_meanPhase {i : Int} (hi : 0 ≤ i ∧ i + 5 ≤ (sc.1 : Int) ∧ (sc.1 : Int) ≤ 2560) (h : sp_Wd J L W B) (hB : B + 2200 ≤ 4000000) (hD : 18 ≤ D) (hc : 28 ≤ c) (hs : 4006 ≤ sl) (hQ : ∀ J' L' W' c1 s1, c ≤ c1 + 28 → sl ≤ s1 + 4006 → sp_Wd J' L' W' (B + 2200) → NW sc d_L_law D (3300, [some (.inr (.inl (some 1000000))), some (.inr (.inl (some 0))), some (.inr (.inl (some 303))), some (.inr (.inl (some 314))), some (.inr (.inl (some 315))), some (.inl i), none, none, none], [], (J', L', W'), c1, s1) Qr Qx) : NW sc d_L_law D (3043, [some (.inr (.inl (some 1000000))), some (.inr (.inl (some 0))), some (.inr (.inl (some 303))), some (.inr (.inl (some 314))), some (.inr (.inl (some 315))), some (.inl i), none, none, none], [], (J, L, W), c, sl) Qr Qx := by
  have hA := h.1
  have R := sp_sh2.mp hA.1.1
  have I := hA.1.2.1
  have hbd := I.bd
  have hho := I.ho
  have hcr := I.cr
  have hch := I.ch
  have hfe := I.fe
  have hmo := I.mo
  have hnx := I.nx
  have c1 := R.cr
  have c2 := R.ch
  have c3 := R.fe
  have c4 := R.mo
  have c5 := R.ho
  have go : ∀ k L1 W1 c1 s1, c ≤ c1 + 28 → sl ≤ s1 + 4006 → (∀ y, ¬ y = 314 → L1 y = L y) → W1.2.1 = W.2.1 → sp_wW W W1 → NW sc d_L_law D (3300, [some (.inr (.inl (some 1000000))), some (.inr (.inl (some 0))), some (.inr (.inl (some 303))), some (.inr (.inl (some 314))), some (.inr (.inl (some 315))), some (.inl i), none, none, none], [], (nw_u J 303 13 k, L1, W1), c1, s1) Qr Qx := fun k L1 W1 c1 s1 e1 e2 fl w1 w2 => hQ _ _ _ _ _ e1 e2 (h.q ⟨by omega, hB⟩ (fun x a => by
      have a3 : ¬ x = 303 := by omega
      exact nw_uP a3) (fun j a => nw_uI a) fl w1 w2)
  refine b_L_law_3043 hD (by omega) (by omega) (b_L_meanPhase2_0 (by decide) (by decide) (by decide) (b_X11_meanPhase_0 (by decide) (by decide) (by decide) ⟨fun nz => ?_, fun z n2 h2 => ?_⟩))
  · refine t_X7_sumOfPhases R I (b_X11_meanPhase_31 ?_)
    rw [c4]
    rw [c4] at nz
    have q := sp_mq_ok (sp_ph_bd I) (n := J 304 4) (by omega)
    refine ⟨q.1, b_L_meanPhase2_6 ⟨by decide, b_L_law_3049 hD (t_X12_meanPhase I (fun z => absurd z nz) (fun _ => ?_))⟩⟩
    exact b_L_law_3055 hD ⟨fun _ => ⟨fun z => absurd rfl z, fun _ => ⟨fun _ => go _ _ _ _ _ (by omega) (by omega) (fun _ _ => rfl) rfl ⟨rfl, rfl, Nat.le_refl _⟩, fun w => absurd (by dsimp only; rw [nw_uS]; exact q.2) w⟩⟩, fun w => absurd nw_uS w⟩
  · rw [c4] at z
    refine b_L_law_3049 (y0 := 1) hD (t_X12_meanPhase I (fun _ => ?_) (fun a => absurd z a))
    exact b_L_law_3055 hD ⟨fun _ => ⟨fun _ => go _ _ _ _ _ (by omega) (by omega) (fun _ _ => rfl) rfl (sp_wW.top h2), fun z => absurd z (by decide)⟩, fun w => absurd nw_uS w⟩
theorem case_loadShare {i : Int} (hi : 0 ≤ i ∧ i + 5 ≤ (sc.1 : Int) ∧ (sc.1 : Int) ≤ 2560) (h : sp_Wd J L W B) (hB : B + 2200 ≤ 4000000) (hD : 18 ≤ D) (hc : 28 ≤ c) (hs : 4006 ≤ sl) (hQ : ∀ J' L' W' c1 s1, c ≤ c1 + 28 → sl ≤ s1 + 4006 → sp_Wd J' L' W' (B + 2200) → NW sc d_L_law D (3300, [some (.inr (.inl (some 1000000))), some (.inr (.inl (some 0))), some (.inr (.inl (some 303))), some (.inr (.inl (some 314))), some (.inr (.inl (some 315))), some (.inl i), none, none, none], [], (J', L', W'), c1, s1) Qr Qx) : NW sc d_L_law D (3108, [some (.inr (.inl (some 1000000))), some (.inr (.inl (some 0))), some (.inr (.inl (some 303))), some (.inr (.inl (some 314))), some (.inr (.inl (some 315))), some (.inl i), none, none, none], [], (J, L, W), c, sl) Qr Qx := by
  have hA := h.1
  have R := sp_sh2.mp hA.1.1
  have I := hA.1.2.1
  have hbd := I.bd
  have hho := I.ho
  have hcr := I.cr
  have hch := I.ch
  have hfe := I.fe
  have hmo := I.mo
  have hnx := I.nx
  have c1 := R.cr
  have c2 := R.ch
  have c3 := R.fe
  have c4 := R.mo
  have c5 := R.ho
  have go : ∀ k L1 W1 c1 s1, c ≤ c1 + 28 → sl ≤ s1 + 4006 → (∀ y, ¬ y = 314 → L1 y = L y) → W1.2.1 = W.2.1 → sp_wW W W1 → NW sc d_L_law D (3300, [some (.inr (.inl (some 1000000))), some (.inr (.inl (some 0))), some (.inr (.inl (some 303))), some (.inr (.inl (some 314))), some (.inr (.inl (some 315))), some (.inl i), none, none, none], [], (nw_u J 303 13 k, L1, W1), c1, s1) Qr Qx := fun k L1 W1 c1 s1 e1 e2 fl w1 w2 => hQ _ _ _ _ _ e1 e2 (h.q ⟨by omega, hB⟩ (fun x a => by
      have a3 : ¬ x = 303 := by omega
      exact nw_uP a3) (fun j a => nw_uI a) fl w1 w2)
  obtain ⟨x, hx⟩ : ∃ x, nw_sc sc (i + 1) = x := ⟨_, rfl⟩
  have bad : ∀ n2 c1 s1, c ≤ c1 + 28 → sl ≤ s1 + 4006 → W.2.2.2.2 ≤ n2 → ¬ (0 ≤ x ∧ x < J 304 3) → NW sc d_L_law D (3120, [some (.inr (.inl (some 1000000))), some (.inr (.inl (some 0))), some (.inr (.inl (some 303))), some (.inr (.inl (some 314))), some (.inr (.inl (some 315))), some (.inl i), none, none, none], [.inl 1], (J, L, nw_top W n2), c1, s1) Qr Qx := fun n2 c1 s1 e1 e2 h2 nf => by
    refine b_L_law_3120 hD ⟨by omega, by omega, ?_⟩
    rw [hx]
    refine b_X12_loadShare_0 (by decide) ?_
    (repeat' (first | refine And.intro ?_ ?_ | refine fun _ => ?_))
    all_goals first | omega | (exfalso; omega) | exact b_L_law_3132 hD ⟨fun _ => ⟨fun _ => go _ _ _ _ _ e1 e2 (fun _ _ => rfl) rfl (sp_wW.top h2), fun z => absurd z (by decide)⟩, fun w => absurd nw_uS w⟩
  refine b_L_law_3108 hD (by omega) (by omega) ⟨by omega, by omega, ?_⟩
  rw [hx]
  refine b_L_loadShare2_0 (by decide) (by decide) (by decide) (b_X11_loadShare_0 (by decide) (by decide) (by decide) ?_)
  refine ⟨fun z n2 h2 => bad n2 _ _ (by omega) (by omega) h2 (by omega), fun z => ⟨fun z1 n2 h2 => bad n2 _ _ (by omega) (by omega) h2 (by omega), fun z1 => ?_⟩⟩
  have z2 : x < J 304 3 := by omega
  have fe := I.fer x z z2
  have rf := R.fer x z z2
  have q := sp_lq_ok (s := sp_car (J 304) x) (n := J 304 (68 + x)) ⟨(sp_car_bd I).1, I.car x z z2⟩ (by omega)
  refine t_X7_weightAboard R I z (b_X11_loadShare_16 ?_)
  rw [rf.2.1]
  refine ⟨by omega, q.1, b_L_loadShare2_7 ⟨q.2.1, by decide, b_L_law_3120 hD ⟨by omega, by omega, ?_⟩⟩⟩
  rw [hx]
  have u4 : nw_u J 303 13 0 304 = J 304 := nw_uP (by decide)
  refine b_X12_loadShare_0 (by decide) ⟨by omega, fun a => by omega, fun _ => ⟨fun a => by omega, fun _ => ?_⟩⟩
  refine t_X12_carried (B := B) (by rw [u4]; exact I) (by omega) ?_
  rw [u4]
  refine b_X12_loadShare_29 ?_
  rw [u4]
  refine ⟨by omega, by omega, q.1, ?_⟩
  exact b_L_law_3132 hD ⟨fun _ => ⟨fun z => absurd rfl z, fun _ => ⟨q.2.1, fun _ => go _ _ _ _ _ (by omega) (by omega) (fun _ _ => rfl) rfl ⟨rfl, rfl, Nat.le_refl _⟩, fun w => absurd (by dsimp only; rw [nw_uS]; exact q.2.2) w⟩⟩, fun w => absurd nw_uS w⟩
end
